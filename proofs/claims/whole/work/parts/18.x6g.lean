set_option maxHeartbeats 4000000 in
set_option maxRecDepth 20000 in
theorem c_X6_merge_nn (D : va_G) (cI cS : ClassId) (w : mwT) (ox as md : Nat) (g0 : Nat → Option Nat) (s1 s2 : Int32) (hox : w ox = some (.inr (5, [.ref as, .int (nI md)]))) (has : w as = some (eR cS 8 g0)) (hmd : md ≤ 8) (hn1 : ¬ ixN md s1) (hn2 : ¬ ixN md s2) : mMi yX6_merge cX6_merge 5 (some .int) (rmL 98) [.ref ox, .int s1, .int s2] D cI cS w (fun r w1 => r = -1 ∧ w1 = w) := by
  refine mMi.of (by decide) (Nat.le_of_ble_eq_true rfl) ?_
  intro X C hN hR
  refine mg_sub (lv' := [(0, .ref ox), (1, .int s1), (2, .int s2)]) [0, 1, 2] rfl ?_
  refine mg_aload_n C dX6_merge_0 rfl ?_
  refine mg_iload_n C dX6_merge_1 rfl ?_
  refine mg_callV_q C hox rfl (rest := []) (c_X6_find_no D cI cS w ox as md g0 s1 hox has hmd hn1) yq_X6_find kw_123 kw_124 kw_125 ⟨by decide, by decide⟩ ⟨Nat.le_of_ble_eq_true rfl, Nat.le_of_ble_eq_true rfl⟩ (Nat.le_of_ble_eq_true rfl) rfl rfl dX6_merge_2 (fun r1 w1 ⟨xe1, xk1⟩ => ?_)
  rw [xk1, xe1]
  refine mg_astore_nN C (lv' := [(3, .null), (0, .ref ox), (1, .int s1), (2, .int s2)]) dX6_merge_5 rfl (by decide) rfl ?_
  refine mg_aload_n C dX6_merge_6 rfl ?_
  refine mg_iload_n C dX6_merge_7 rfl ?_
  refine mg_callV_q C hox rfl (rest := []) (c_X6_find_no D cI cS w ox as md g0 s2 hox has hmd hn2) yq_X6_find kw_123 kw_124 kw_125 ⟨by decide, by decide⟩ ⟨Nat.le_of_ble_eq_true rfl, Nat.le_of_ble_eq_true rfl⟩ (Nat.le_of_ble_eq_true rfl) rfl rfl dX6_merge_8 (fun r2 w2 ⟨xe2, xk2⟩ => ?_)
  rw [xk2, xe2]
  refine mg_astoreN C (lv' := [(4, .null), (3, .null), (0, .ref ox), (1, .int s1), (2, .int s2)]) dX6_merge_11 (by decide) rfl ?_
  refine mg_aload_nN C dX6_merge_13 rfl ?_
  refine mg_ifnullN C (tgt := 36) dX6_merge_14 (by decide) ?_
  refine mg_iconst C (v := (-1 : Int32)) dX6_merge_36 (by decide) ?_
  exact hR _ _ _ _ dX6_merge_37 ⟨rfl, rfl⟩

set_option maxHeartbeats 4000000 in
set_option maxRecDepth 20000 in
theorem c_X6_merge_ni (D : va_G) (cI cS : ClassId) (w : mwT) (ox as md : Nat) (g0 : Nat → Option Nat) (s1 : Int32) (b h1 : Nat) (hox : w ox = some (.inr (5, [.ref as, .int (nI md)]))) (has : w as = some (eR cS 8 g0)) (hmd : md ≤ 8) (hn1 : ¬ ixN md s1) (hb : b < md) (hg1 : g0 b = some h1) : mMi yX6_merge cX6_merge 5 (some .int) (rmL 98) [.ref ox, .int s1, .int (nI b)] D cI cS w (fun r w1 => r = -1 ∧ w1 = w) := by
  refine mMi.of (by decide) (Nat.le_of_ble_eq_true rfl) ?_
  intro X C hN hR
  refine mg_sub (lv' := [(0, .ref ox), (1, .int s1), (2, .int (nI b))]) [0, 1, 2] rfl ?_
  refine mg_aload_n C dX6_merge_0 rfl ?_
  refine mg_iload_n C dX6_merge_1 rfl ?_
  refine mg_callV_q C hox rfl (rest := []) (c_X6_find_no D cI cS w ox as md g0 s1 hox has hmd hn1) yq_X6_find kw_123 kw_124 kw_125 ⟨by decide, by decide⟩ ⟨Nat.le_of_ble_eq_true rfl, Nat.le_of_ble_eq_true rfl⟩ (Nat.le_of_ble_eq_true rfl) rfl rfl dX6_merge_2 (fun r1 w1 ⟨xe1, xk1⟩ => ?_)
  rw [xk1, xe1]
  refine mg_astore_nN C (lv' := [(3, .null), (0, .ref ox), (1, .int s1), (2, .int (nI b))]) dX6_merge_5 rfl (by decide) rfl ?_
  refine mg_aload_n C dX6_merge_6 rfl ?_
  refine mg_iload_n C dX6_merge_7 rfl ?_
  refine mg_callV_q C hox rfl (rest := []) (c_X6_find_in D cI cS w ox as md g0 b hox has hmd hb) yq_X6_find kw_123 kw_124 kw_125 ⟨by decide, by decide⟩ ⟨Nat.le_of_ble_eq_true rfl, Nat.le_of_ble_eq_true rfl⟩ (Nat.le_of_ble_eq_true rfl) rfl rfl dX6_merge_8 (fun r2 w2 ⟨xe2, xk2⟩ => ?_)
  rw [xk2, xe2, hg1]
  refine mg_astore C (lv' := [(4, .ref h1), (3, .null), (0, .ref ox), (1, .int s1), (2, .int (nI b))]) dX6_merge_11 (by decide) rfl ?_
  refine mg_aload_nN C dX6_merge_13 rfl ?_
  refine mg_ifnullN C (tgt := 36) dX6_merge_14 (by decide) ?_
  refine mg_iconst C (v := (-1 : Int32)) dX6_merge_36 (by decide) ?_
  exact hR _ _ _ _ dX6_merge_37 ⟨rfl, rfl⟩

set_option maxHeartbeats 4000000 in
set_option maxRecDepth 20000 in
theorem c_X6_merge_in (D : va_G) (cI cS : ClassId) (w : mwT) (ox as md : Nat) (g0 : Nat → Option Nat) (s2 : Int32) (a h0 : Nat) (hox : w ox = some (.inr (5, [.ref as, .int (nI md)]))) (has : w as = some (eR cS 8 g0)) (hmd : md ≤ 8) (ha : a < md) (hg : g0 a = some h0) (hn2 : ¬ ixN md s2) : mMi yX6_merge cX6_merge 5 (some .int) (rmL 98) [.ref ox, .int (nI a), .int s2] D cI cS w (fun r w1 => r = -1 ∧ w1 = w) := by
  refine mMi.of (by decide) (Nat.le_of_ble_eq_true rfl) ?_
  intro X C hN hR
  refine mg_sub (lv' := [(0, .ref ox), (1, .int (nI a)), (2, .int s2)]) [0, 1, 2] rfl ?_
  refine mg_aload_n C dX6_merge_0 rfl ?_
  refine mg_iload_n C dX6_merge_1 rfl ?_
  refine mg_callV_q C hox rfl (rest := []) (c_X6_find_in D cI cS w ox as md g0 a hox has hmd ha) yq_X6_find kw_123 kw_124 kw_125 ⟨by decide, by decide⟩ ⟨Nat.le_of_ble_eq_true rfl, Nat.le_of_ble_eq_true rfl⟩ (Nat.le_of_ble_eq_true rfl) rfl rfl dX6_merge_2 (fun r1 w1 ⟨xe1, xk1⟩ => ?_)
  rw [xk1, xe1, hg]
  refine mg_astore_n C (lv' := [(3, .ref h0), (0, .ref ox), (1, .int (nI a)), (2, .int s2)]) dX6_merge_5 rfl (by decide) rfl ?_
  refine mg_aload_n C dX6_merge_6 rfl ?_
  refine mg_iload_n C dX6_merge_7 rfl ?_
  refine mg_callV_q C hox rfl (rest := []) (c_X6_find_no D cI cS w ox as md g0 s2 hox has hmd hn2) yq_X6_find kw_123 kw_124 kw_125 ⟨by decide, by decide⟩ ⟨Nat.le_of_ble_eq_true rfl, Nat.le_of_ble_eq_true rfl⟩ (Nat.le_of_ble_eq_true rfl) rfl rfl dX6_merge_8 (fun r2 w2 ⟨xe2, xk2⟩ => ?_)
  rw [xk2, xe2]
  refine mg_astoreN C (lv' := [(4, .null), (3, .ref h0), (0, .ref ox), (1, .int (nI a)), (2, .int s2)]) dX6_merge_11 (by decide) rfl ?_
  refine mg_aload_n C dX6_merge_13 rfl ?_
  refine mg_ifnull C dX6_merge_14 ?_
  refine mg_aloadN C dX6_merge_17 rfl ?_
  refine mg_ifnullN C (tgt := 36) dX6_merge_19 (by decide) ?_
  refine mg_iconst C (v := (-1 : Int32)) dX6_merge_36 (by decide) ?_
  exact hR _ _ _ _ dX6_merge_37 ⟨rfl, rfl⟩

set_option maxHeartbeats 4000000 in
set_option maxRecDepth 20000 in
theorem c_X6_merge_same (D : va_G) (cI cS : ClassId) (w : mwT) (ox as md : Nat) (g0 : Nat → Option Nat) (a h0 : Nat) (hox : w ox = some (.inr (5, [.ref as, .int (nI md)]))) (has : w as = some (eR cS 8 g0)) (hmd : md ≤ 8) (ha : a < md) (hg : g0 a = some h0) : mMi yX6_merge cX6_merge 5 (some .int) (rmL 98) [.ref ox, .int (nI a), .int (nI a)] D cI cS w (fun r w1 => r = -1 ∧ w1 = w) := by
  refine mMi.of (by decide) (Nat.le_of_ble_eq_true rfl) ?_
  intro X C hN hR
  refine mg_sub (lv' := [(0, .ref ox), (1, .int (nI a)), (2, .int (nI a))]) [0, 1, 2] rfl ?_
  refine mg_aload_n C dX6_merge_0 rfl ?_
  refine mg_iload_n C dX6_merge_1 rfl ?_
  refine mg_callV_q C hox rfl (rest := []) (c_X6_find_in D cI cS w ox as md g0 a hox has hmd ha) yq_X6_find kw_123 kw_124 kw_125 ⟨by decide, by decide⟩ ⟨Nat.le_of_ble_eq_true rfl, Nat.le_of_ble_eq_true rfl⟩ (Nat.le_of_ble_eq_true rfl) rfl rfl dX6_merge_2 (fun r1 w1 ⟨xe1, xk1⟩ => ?_)
  rw [xk1, xe1, hg]
  refine mg_astore_n C (lv' := [(3, .ref h0), (0, .ref ox), (1, .int (nI a)), (2, .int (nI a))]) dX6_merge_5 rfl (by decide) rfl ?_
  refine mg_aload_n C dX6_merge_6 rfl ?_
  refine mg_iload_n C dX6_merge_7 rfl ?_
  refine mg_callV_q C hox rfl (rest := []) (c_X6_find_in D cI cS w ox as md g0 a hox has hmd ha) yq_X6_find kw_123 kw_124 kw_125 ⟨by decide, by decide⟩ ⟨Nat.le_of_ble_eq_true rfl, Nat.le_of_ble_eq_true rfl⟩ (Nat.le_of_ble_eq_true rfl) rfl rfl dX6_merge_8 (fun r2 w2 ⟨xe2, xk2⟩ => ?_)
  rw [xk2, xe2, hg]
  refine mg_astore C (lv' := [(4, .ref h0), (3, .ref h0), (0, .ref ox), (1, .int (nI a)), (2, .int (nI a))]) dX6_merge_11 (by decide) rfl ?_
  refine mg_aload_n C dX6_merge_13 rfl ?_
  refine mg_ifnull C dX6_merge_14 ?_
  refine mg_aload C dX6_merge_17 rfl ?_
  refine mg_ifnull C dX6_merge_19 ?_
  refine mg_iload_n C dX6_merge_22 rfl ?_
  refine mg_iload_n C dX6_merge_23 rfl ?_
  refine mg_icmpN_eq C (tgt := 36) dX6_merge_24 (by decide) (by omega) (by omega) (fun c_24 => ?_) (fun c_24 => absurd rfl c_24)
  refine mg_iconst C (v := (-1 : Int32)) dX6_merge_36 (by decide) ?_
  exact hR _ _ _ _ dX6_merge_37 ⟨rfl, rfl⟩

set_option maxHeartbeats 4000000 in
set_option maxRecDepth 20000 in
theorem c_X6_merge_un_F (D : va_G) (cI cS : ClassId) (w : mwT) (ox as md a : Nat) (g0 : Nat → Option Nat) (h0 ab b sd mv b2 h1 cb : Nat) (tot : Int32) (f : Nat → Int32) (soB siB seB : Int32) (fb : List Value) (hox : w ox = some (.inr (5, [.ref as, .int (nI md)]))) (has : w as = some (eR cS 8 g0)) (hh : w h0 = some (.inr (0, [.int (nI 2), .int (nI b), .int (nI sd), .int tot, .int (nI mv), .ref ab]))) (hh1 : w h1 = some (.inr (cb, .int soB :: .int siB :: .int seB :: fb))) (hmd : md ≤ 8) (ha : a < md) (hg : g0 a = some h0) (hb : b2 < md) (hg1 : g0 b2 = some h1) (hcb : cb < 5) (hab : a ≠ b2) (hnl : ¬ (nI 2 = soB ∧ nI b = siB ∧ nI sd = seB)) : mMi yX6_merge cX6_merge 5 (some .int) (rmL 98) [.ref ox, .int (nI a), .int (nI b2)] D cI cS w (fun r w1 => r = -1 ∧ w1 = w) := by
  refine mMi.of (by decide) (Nat.le_of_ble_eq_true rfl) ?_
  intro X C hN hR
  refine mg_sub (lv' := [(0, .ref ox), (1, .int (nI a)), (2, .int (nI b2))]) [0, 1, 2] rfl ?_
  refine mg_aload_n C dX6_merge_0 rfl ?_
  refine mg_iload_n C dX6_merge_1 rfl ?_
  refine mg_callV_q C hox rfl (rest := []) (c_X6_find_in D cI cS w ox as md g0 a hox has hmd ha) yq_X6_find kw_123 kw_124 kw_125 ⟨by decide, by decide⟩ ⟨Nat.le_of_ble_eq_true rfl, Nat.le_of_ble_eq_true rfl⟩ (Nat.le_of_ble_eq_true rfl) rfl rfl dX6_merge_2 (fun r1 w1 ⟨xe1, xk1⟩ => ?_)
  rw [xk1, xe1, hg]
  refine mg_astore_n C (lv' := [(3, .ref h0), (0, .ref ox), (1, .int (nI a)), (2, .int (nI b2))]) dX6_merge_5 rfl (by decide) rfl ?_
  refine mg_aload_n C dX6_merge_6 rfl ?_
  refine mg_iload_n C dX6_merge_7 rfl ?_
  refine mg_callV_q C hox rfl (rest := []) (c_X6_find_in D cI cS w ox as md g0 b2 hox has hmd hb) yq_X6_find kw_123 kw_124 kw_125 ⟨by decide, by decide⟩ ⟨Nat.le_of_ble_eq_true rfl, Nat.le_of_ble_eq_true rfl⟩ (Nat.le_of_ble_eq_true rfl) rfl rfl dX6_merge_8 (fun r2 w2 ⟨xe2, xk2⟩ => ?_)
  rw [xk2, xe2, hg1]
  refine mg_astore C (lv' := [(4, .ref h1), (3, .ref h0), (0, .ref ox), (1, .int (nI a)), (2, .int (nI b2))]) dX6_merge_11 (by decide) rfl ?_
  refine mg_aload_n C dX6_merge_13 rfl ?_
  refine mg_ifnull C dX6_merge_14 ?_
  refine mg_aload C dX6_merge_17 rfl ?_
  refine mg_ifnull C dX6_merge_19 ?_
  refine mg_iload_n C dX6_merge_22 rfl ?_
  refine mg_iload_n C dX6_merge_23 rfl ?_
  refine mg_icmpN_eq C (tgt := 36) dX6_merge_24 (by decide) (by omega) (by omega) (fun c_24 => absurd c_24 hab) (fun c_24 => ?_)
  refine mg_aload_n C dX6_merge_27 rfl ?_
  refine mg_aload C dX6_merge_28 rfl ?_
  refine mg_callU_i C hh rfl (rest := []) (c_X4_isLike D cI cS w 0 cb h0 h1 (nI 2) (nI b) (nI sd) soB siB seB [.int tot, .int (nI mv), .ref ab] fb hh hh1 (by decide) hcb) yq_X4_isLike kw_379 kw_380 dq_isLike (by decide +kernel) kw_382 kw_381 ⟨by decide, by decide⟩ ⟨Nat.le_of_ble_eq_true rfl, Nat.le_of_ble_eq_true rfl⟩ (Nat.le_of_ble_eq_true rfl) rfl rfl dX6_merge_30 (fun r3 w3 ⟨xa3, xk3⟩ => ?_)
  rw [xk3]
  rcases xa3 with ⟨ra3, hy_like⟩ | ⟨ra3, hy_like⟩
  · rw [ra3]
    refine mg_ifN_ne C (tgt := 38) dX6_merge_33 (by decide) (by decide) (fun c_33 => ?_) (fun c_33 => absurd c_33 (by decide))
    exact absurd hy_like hnl
  · rw [ra3]
    refine mg_ifN_ne C (tgt := 38) dX6_merge_33 (by decide) (by decide) (fun c_33 => absurd c_33 (by decide)) (fun c_33 => ?_)
    refine mg_iconst C (v := (-1 : Int32)) dX6_merge_36 (by decide) ?_
    exact hR _ _ _ _ dX6_merge_37 ⟨rfl, rfl⟩

set_option maxHeartbeats 4000000 in
set_option maxRecDepth 20000 in
theorem c_X6_merge_F (D : va_G) (cI cS : ClassId) (w : mwT) (ox as md a : Nat) (g0 : Nat → Option Nat) (b2 : Nat) (h0 ab b sd mv : Nat) (tot : Int32) (f : Nat → Int32) (h1 ab2 mv2 : Nat) (tot2 : Int32) (f2 : Nat → Int32) (hox : w ox = some (.inr (5, [.ref as, .int (nI md)]))) (has : w as = some (eR cS 8 g0)) (hh : w h0 = some (.inr (0, [.int (nI 2), .int (nI b), .int (nI sd), .int tot, .int (nI mv), .ref ab]))) (h_ab : w ab = some (eI cI b f)) (hh1 : w h1 = some (.inr (0, [.int (nI 2), .int (nI b), .int (nI sd), .int tot2, .int (nI mv2), .ref ab2]))) (h_ab2 : w ab2 = some (eI cI b f2)) (hmd : md ≤ 8) (ha : a < md) (hg : g0 a = some h0) (hs : sd ≤ 999) (hb1 : 16 ≤ b) (hb2 : b ≤ 512) (hmv : mv ≤ 10000000) (hmv2 : mv2 ≤ 10000000) (hb : b2 < md) (hg1 : g0 b2 = some h1) (hab : a ≠ b2) (hx_ab_ab2 : ab ≠ ab2) (hn0 : h0 ≠ h1) : mMi yX6_merge cX6_merge 5 (some .int) (rmL 98) [.ref ox, .int (nI a), .int (nI b2)] D cI cS w (fun r w1 => (10000000 < mv + mv2 ∧ r = -3 ∧ w1 = w) ∨ (mv + mv2 ≤ 10000000 ∧ r = tot + tot2 + nI 10000000 ∧ w1 h0 = some (.inr (0, [.int (nI 2), .int (nI b), .int (nI sd), .int (tot + tot2), .int (nI (mv + mv2)), .ref ab])) ∧ w1 ab = some (eI cI b (jnO f f2 b)) ∧ ∀ z : Nat, z ≠ h0 → z ≠ ab → w1 z = w z)) := by
  refine mMi.of (by decide) (Nat.le_of_ble_eq_true rfl) ?_
  intro X C hN hR
  have fr_w : ∀ zz : Nat, w zz = w zz := fun _ => rfl
  refine mg_sub (lv' := [(0, .ref ox), (1, .int (nI a)), (2, .int (nI b2))]) [0, 1, 2] rfl ?_
  refine mg_aload_n C dX6_merge_0 rfl ?_
  refine mg_iload_n C dX6_merge_1 rfl ?_
  refine mg_callV_q C hox rfl (rest := []) (c_X6_find_in D cI cS w ox as md g0 a hox has hmd ha) yq_X6_find kw_123 kw_124 kw_125 ⟨by decide, by decide⟩ ⟨Nat.le_of_ble_eq_true rfl, Nat.le_of_ble_eq_true rfl⟩ (Nat.le_of_ble_eq_true rfl) rfl rfl dX6_merge_2 (fun r1 w1 ⟨xe1, xk1⟩ => ?_)
  rw [xk1, xe1, hg]
  refine mg_astore_n C (lv' := [(3, .ref h0), (0, .ref ox), (1, .int (nI a)), (2, .int (nI b2))]) dX6_merge_5 rfl (by decide) rfl ?_
  refine mg_aload_n C dX6_merge_6 rfl ?_
  refine mg_iload_n C dX6_merge_7 rfl ?_
  refine mg_callV_q C hox rfl (rest := []) (c_X6_find_in D cI cS w ox as md g0 b2 hox has hmd hb) yq_X6_find kw_123 kw_124 kw_125 ⟨by decide, by decide⟩ ⟨Nat.le_of_ble_eq_true rfl, Nat.le_of_ble_eq_true rfl⟩ (Nat.le_of_ble_eq_true rfl) rfl rfl dX6_merge_8 (fun r2 w2 ⟨xe2, xk2⟩ => ?_)
  rw [xk2, xe2, hg1]
  refine mg_astore C (lv' := [(4, .ref h1), (3, .ref h0), (0, .ref ox), (1, .int (nI a)), (2, .int (nI b2))]) dX6_merge_11 (by decide) rfl ?_
  refine mg_aload_n C dX6_merge_13 rfl ?_
  refine mg_ifnull C dX6_merge_14 ?_
  refine mg_aload C dX6_merge_17 rfl ?_
  refine mg_ifnull C dX6_merge_19 ?_
  refine mg_iload_n C dX6_merge_22 rfl ?_
  refine mg_iload_n C dX6_merge_23 rfl ?_
  refine mg_icmpN_eq C (tgt := 36) dX6_merge_24 (by decide) (by omega) (by omega) (fun c_24 => absurd c_24 hab) (fun c_24 => ?_)
  refine mg_aload_n C dX6_merge_27 rfl ?_
  refine mg_aload C dX6_merge_28 rfl ?_
  refine mg_callU_i C hh rfl (rest := []) (c_X4_isLike D cI cS w 0 0 h0 h1 (nI 2) (nI b) (nI sd) (nI 2) (nI b) (nI sd) [.int tot, .int (nI mv), .ref ab] [.int tot2, .int (nI mv2), .ref ab2] hh hh1 (by decide) (by decide)) yq_X4_isLike kw_379 kw_380 dq_isLike (by decide +kernel) kw_382 kw_381 ⟨by decide, by decide⟩ ⟨Nat.le_of_ble_eq_true rfl, Nat.le_of_ble_eq_true rfl⟩ (Nat.le_of_ble_eq_true rfl) rfl rfl dX6_merge_30 (fun r3 w3 ⟨xa3, xk3⟩ => ?_)
  rw [xk3]
  obtain ⟨ra3, -⟩ := xa3.resolve_right (fun q => q.2 ⟨rfl, rfl, rfl⟩)
  rw [ra3]
  refine mg_ifN_ne C (tgt := 38) dX6_merge_33 (by decide) (by decide) (fun c_33 => ?_) (fun c_33 => absurd c_33 (by decide))
  refine mg_aload_n C dX6_merge_38 rfl ?_
  refine mg_get C inT0 hh rfl 4 (by decide) kw_206 (Or.inl rfl) rfl dX6_merge_39 ?_
  refine mg_aload C dX6_merge_42 rfl ?_
  refine mg_get C inT0 hh1 rfl 4 (by decide) kw_206 (Or.inl rfl) rfl dX6_merge_44 ?_
  refine mg_iadd C (z := nI (mv + mv2)) dX6_merge_47 (nI_add _ _) ?_
  refine mg_ldc C (v := nI 10000000) dX6_merge_48 kw_207 (by decide) ?_
  refine mg_icmpN_le C (tgt := 56) dX6_merge_50 (by decide) (by omega) (by omega) (fun c_50 => ?_) (fun c_50 => ?_)
  · refine mg_aload_n C dX6_merge_56 rfl ?_
    refine mg_dup C dX6_merge_57 rfl ?_
    refine mg_get C inT0 hh rfl 3 (by decide) kw_205 (Or.inl rfl) rfl dX6_merge_58 ?_
    refine mg_aload C dX6_merge_61 rfl ?_
    refine mg_get C inT0 hh1 rfl 3 (by decide) kw_205 (Or.inl rfl) rfl dX6_merge_63 ?_
    refine mg_iadd C (z := tot + tot2) dX6_merge_66 rfl ?_
    refine mg_put C (fs' := [.int (nI 2), .int (nI b), .int (nI sd), .int (tot + tot2), .int (nI mv), .ref ab]) inT0 hh rfl 3 (by decide) kw_205 (Or.inl rfl) tyX0_ok nmX0 rfl rfl rfl rfl (Nat.le_of_ble_eq_true rfl) dX6_merge_67 (fun w4 e_w4 => ?_)
    have h_w4_ox : w4 ox = some (.inr (5, [.ref as, .int (nI md)])) := (congrFun e_w4 _).trans ((mwu_ne (mw_ci hox hh (by decide))).trans hox)
    have h_w4_as : w4 as = some (eR cS 8 g0) := (congrFun e_w4 _).trans ((mwu_ne (mw_ao has hh)).trans has)
    have h_w4_h0 : w4 h0 = some (.inr (0, [.int (nI 2), .int (nI b), .int (nI sd), .int (tot + tot2), .int (nI mv), .ref ab])) := (congrFun e_w4 _).trans mwu_eq
    have h_w4_ab : w4 ab = some (eI cI b f) := (congrFun e_w4 _).trans ((mwu_ne (mw_ao h_ab hh)).trans h_ab)
    have h_w4_h1 : w4 h1 = some (.inr (0, [.int (nI 2), .int (nI b), .int (nI sd), .int tot2, .int (nI mv2), .ref ab2])) := (congrFun e_w4 _).trans ((mwu_ne (Ne.symm hn0)).trans hh1)
    have h_w4_ab2 : w4 ab2 = some (eI cI b f2) := (congrFun e_w4 _).trans ((mwu_ne (mw_ao h_ab2 hh)).trans h_ab2)
    have fr_w4 : ∀ zz : Nat, zz ≠ h0 → w4 zz = w zz := fun zz g0 => (congrFun e_w4 zz).trans ((mwu_ne g0).trans (fr_w zz ))
    refine mg_aload_n C dX6_merge_70 rfl ?_
    refine mg_dup C dX6_merge_71 rfl ?_
    refine mg_get C inT0 h_w4_h0 rfl 4 (by decide) kw_206 (Or.inl rfl) rfl dX6_merge_72 ?_
    refine mg_aload C dX6_merge_75 rfl ?_
    refine mg_get C inT0 h_w4_h1 rfl 4 (by decide) kw_206 (Or.inl rfl) rfl dX6_merge_77 ?_
    refine mg_iadd C (z := nI (mv + mv2)) dX6_merge_80 (nI_add _ _) ?_
    refine mg_put C (fs' := [.int (nI 2), .int (nI b), .int (nI sd), .int (tot + tot2), .int (nI (mv + mv2)), .ref ab]) inT0 h_w4_h0 rfl 4 (by decide) kw_206 (Or.inl rfl) tyX0_ok nmX0 rfl rfl rfl rfl (Nat.le_of_ble_eq_true rfl) dX6_merge_81 (fun w5 e_w5 => ?_)
    have h_w5_ox : w5 ox = some (.inr (5, [.ref as, .int (nI md)])) := (congrFun e_w5 _).trans ((mwu_ne (mw_ci h_w4_ox h_w4_h0 (by decide))).trans h_w4_ox)
    have h_w5_as : w5 as = some (eR cS 8 g0) := (congrFun e_w5 _).trans ((mwu_ne (mw_ao h_w4_as h_w4_h0)).trans h_w4_as)
    have h_w5_h0 : w5 h0 = some (.inr (0, [.int (nI 2), .int (nI b), .int (nI sd), .int (tot + tot2), .int (nI (mv + mv2)), .ref ab])) := (congrFun e_w5 _).trans mwu_eq
    have h_w5_ab : w5 ab = some (eI cI b f) := (congrFun e_w5 _).trans ((mwu_ne (mw_ao h_w4_ab h_w4_h0)).trans h_w4_ab)
    have h_w5_h1 : w5 h1 = some (.inr (0, [.int (nI 2), .int (nI b), .int (nI sd), .int tot2, .int (nI mv2), .ref ab2])) := (congrFun e_w5 _).trans ((mwu_ne (Ne.symm hn0)).trans h_w4_h1)
    have h_w5_ab2 : w5 ab2 = some (eI cI b f2) := (congrFun e_w5 _).trans ((mwu_ne (mw_ao h_w4_ab2 h_w4_h0)).trans h_w4_ab2)
    have fr_w5 : ∀ zz : Nat, zz ≠ h0 → w5 zz = w zz := fun zz g0 => (congrFun e_w5 zz).trans ((mwu_ne g0).trans (fr_w4 zz g0))
    refine mg_aload_n C dX6_merge_84 rfl ?_
    refine mg_aload C dX6_merge_85 rfl ?_
    refine mg_callU_v C h_w5_h0 rfl (rest := []) (c_X0_join D cI cS w5 h0 h1 ab ab2 b sd (tot + tot2) (nI (mv + mv2)) tot2 (nI mv2) f f2 h_w5_h0 h_w5_h1 h_w5_ab h_w5_ab2 hs hb1 hb2 hx_ab_ab2) yq_X0_join kw_388 kw_389 dq_join (by decide +kernel) kw_391 kw_390 ⟨by decide, by decide⟩ ⟨Nat.le_of_ble_eq_true rfl, Nat.le_of_ble_eq_true rfl⟩ (Nat.le_of_ble_eq_true rfl) rfl rfl dX6_merge_87 (fun w6 ⟨xc6ab, xf6⟩ => ?_)
    have h_w6_ox : w6 ox = some (.inr (5, [.ref as, .int (nI md)])) := (xf6 ox (mw_oa h_w5_ox h_w5_ab)).trans h_w5_ox
    have h_w6_as : w6 as = some (eR cS 8 g0) := (xf6 as (mw_ri h_w5_as h_w5_ab)).trans h_w5_as
    have h_w6_h0 : w6 h0 = some (.inr (0, [.int (nI 2), .int (nI b), .int (nI sd), .int (tot + tot2), .int (nI (mv + mv2)), .ref ab])) := (xf6 h0 (mw_oa h_w5_h0 h_w5_ab)).trans h_w5_h0
    have h_w6_h1 : w6 h1 = some (.inr (0, [.int (nI 2), .int (nI b), .int (nI sd), .int tot2, .int (nI mv2), .ref ab2])) := (xf6 h1 (mw_oa h_w5_h1 h_w5_ab)).trans h_w5_h1
    have h_w6_ab2 : w6 ab2 = some (eI cI b f2) := (xf6 ab2 (Ne.symm hx_ab_ab2)).trans h_w5_ab2
    have fr_w6 : ∀ zz : Nat, zz ≠ h0 → zz ≠ ab → w6 zz = w zz := fun zz g0 g1 => (xf6 zz g1).trans (fr_w5 zz g0)
    refine mg_aload_n C dX6_merge_90 rfl ?_
    refine mg_get C inT0 h_w6_h0 rfl 3 (by decide) kw_205 (Or.inl rfl) rfl dX6_merge_91 ?_
    refine mg_ldc C (v := nI 10000000) dX6_merge_94 kw_207 (by decide) ?_
    refine mg_iadd C (z := (tot + tot2) + (nI 10000000)) dX6_merge_96 rfl ?_
    exact hR _ _ _ _ dX6_merge_97 (Or.inr ⟨c_50, rfl, h_w6_h0, xc6ab, fun z q0 q1 => fr_w6 z q0 q1⟩)
  · refine mg_bipush C (v := (-3 : Int32)) dX6_merge_53 (by decide) ?_
    exact hR _ _ _ _ dX6_merge_55 (Or.inl ⟨c_50, rfl, rfl⟩)

set_option maxHeartbeats 4000000 in
set_option maxRecDepth 20000 in
theorem c_X6_merge_un_T (D : va_G) (cI cS : ClassId) (w : mwT) (ox as md a : Nat) (g0 : Nat → Option Nat) (h0 ab c sd mv b2 h1 cb : Nat) (tot : Int32) (f : Nat → Int32) (soB siB seB : Int32) (fb : List Value) (hox : w ox = some (.inr (5, [.ref as, .int (nI md)]))) (has : w as = some (eR cS 8 g0)) (hh : w h0 = some (.inr (4, [.int (nI 1), .int (nI c), .int (nI sd), .int tot, .int (nI mv), .ref ab]))) (hh1 : w h1 = some (.inr (cb, .int soB :: .int siB :: .int seB :: fb))) (hmd : md ≤ 8) (ha : a < md) (hg : g0 a = some h0) (hb : b2 < md) (hg1 : g0 b2 = some h1) (hcb : cb < 5) (hab : a ≠ b2) (hnl : ¬ (nI 1 = soB ∧ nI c = siB ∧ nI sd = seB)) : mMi yX6_merge cX6_merge 5 (some .int) (rmL 98) [.ref ox, .int (nI a), .int (nI b2)] D cI cS w (fun r w1 => r = -1 ∧ w1 = w) := by
  refine mMi.of (by decide) (Nat.le_of_ble_eq_true rfl) ?_
  intro X C hN hR
  refine mg_sub (lv' := [(0, .ref ox), (1, .int (nI a)), (2, .int (nI b2))]) [0, 1, 2] rfl ?_
  refine mg_aload_n C dX6_merge_0 rfl ?_
  refine mg_iload_n C dX6_merge_1 rfl ?_
  refine mg_callV_q C hox rfl (rest := []) (c_X6_find_in D cI cS w ox as md g0 a hox has hmd ha) yq_X6_find kw_123 kw_124 kw_125 ⟨by decide, by decide⟩ ⟨Nat.le_of_ble_eq_true rfl, Nat.le_of_ble_eq_true rfl⟩ (Nat.le_of_ble_eq_true rfl) rfl rfl dX6_merge_2 (fun r1 w1 ⟨xe1, xk1⟩ => ?_)
  rw [xk1, xe1, hg]
  refine mg_astore_n C (lv' := [(3, .ref h0), (0, .ref ox), (1, .int (nI a)), (2, .int (nI b2))]) dX6_merge_5 rfl (by decide) rfl ?_
  refine mg_aload_n C dX6_merge_6 rfl ?_
  refine mg_iload_n C dX6_merge_7 rfl ?_
  refine mg_callV_q C hox rfl (rest := []) (c_X6_find_in D cI cS w ox as md g0 b2 hox has hmd hb) yq_X6_find kw_123 kw_124 kw_125 ⟨by decide, by decide⟩ ⟨Nat.le_of_ble_eq_true rfl, Nat.le_of_ble_eq_true rfl⟩ (Nat.le_of_ble_eq_true rfl) rfl rfl dX6_merge_8 (fun r2 w2 ⟨xe2, xk2⟩ => ?_)
  rw [xk2, xe2, hg1]
  refine mg_astore C (lv' := [(4, .ref h1), (3, .ref h0), (0, .ref ox), (1, .int (nI a)), (2, .int (nI b2))]) dX6_merge_11 (by decide) rfl ?_
  refine mg_aload_n C dX6_merge_13 rfl ?_
  refine mg_ifnull C dX6_merge_14 ?_
  refine mg_aload C dX6_merge_17 rfl ?_
  refine mg_ifnull C dX6_merge_19 ?_
  refine mg_iload_n C dX6_merge_22 rfl ?_
  refine mg_iload_n C dX6_merge_23 rfl ?_
  refine mg_icmpN_eq C (tgt := 36) dX6_merge_24 (by decide) (by omega) (by omega) (fun c_24 => absurd c_24 hab) (fun c_24 => ?_)
  refine mg_aload_n C dX6_merge_27 rfl ?_
  refine mg_aload C dX6_merge_28 rfl ?_
  refine mg_callU_i C hh rfl (rest := []) (c_X4_isLike D cI cS w 4 cb h0 h1 (nI 1) (nI c) (nI sd) soB siB seB [.int tot, .int (nI mv), .ref ab] fb hh hh1 (by decide) hcb) yq_X4_isLike kw_379 kw_380 dq_isLike (by decide +kernel) kw_382 kw_387 ⟨by decide, by decide⟩ ⟨Nat.le_of_ble_eq_true rfl, Nat.le_of_ble_eq_true rfl⟩ (Nat.le_of_ble_eq_true rfl) rfl rfl dX6_merge_30 (fun r3 w3 ⟨xa3, xk3⟩ => ?_)
  rw [xk3]
  rcases xa3 with ⟨ra3, hy_like⟩ | ⟨ra3, hy_like⟩
  · rw [ra3]
    refine mg_ifN_ne C (tgt := 38) dX6_merge_33 (by decide) (by decide) (fun c_33 => ?_) (fun c_33 => absurd c_33 (by decide))
    exact absurd hy_like hnl
  · rw [ra3]
    refine mg_ifN_ne C (tgt := 38) dX6_merge_33 (by decide) (by decide) (fun c_33 => absurd c_33 (by decide)) (fun c_33 => ?_)
    refine mg_iconst C (v := (-1 : Int32)) dX6_merge_36 (by decide) ?_
    exact hR _ _ _ _ dX6_merge_37 ⟨rfl, rfl⟩

set_option maxHeartbeats 4000000 in
set_option maxRecDepth 20000 in
theorem c_X6_merge_T (D : va_G) (cI cS : ClassId) (w : mwT) (ox as md a : Nat) (g0 : Nat → Option Nat) (b2 : Nat) (h0 ab c sd mv : Nat) (tot : Int32) (f : Nat → Int32) (h1 ab2 mv2 : Nat) (tot2 : Int32) (f2 : Nat → Int32) (hox : w ox = some (.inr (5, [.ref as, .int (nI md)]))) (has : w as = some (eR cS 8 g0)) (hh : w h0 = some (.inr (4, [.int (nI 1), .int (nI c), .int (nI sd), .int tot, .int (nI mv), .ref ab]))) (h_ab : w ab = some (eI cI (4 * c) f)) (hh1 : w h1 = some (.inr (4, [.int (nI 1), .int (nI c), .int (nI sd), .int tot2, .int (nI mv2), .ref ab2]))) (h_ab2 : w ab2 = some (eI cI (4 * c) f2)) (hmd : md ≤ 8) (ha : a < md) (hg : g0 a = some h0) (hs : sd ≤ 999) (hc1 : 4 ≤ c) (hc2 : c ≤ 64) (hmv : mv ≤ 10000000) (hmv2 : mv2 ≤ 10000000) (hb : b2 < md) (hg1 : g0 b2 = some h1) (hab : a ≠ b2) (hx_ab_ab2 : ab ≠ ab2) (hn0 : h0 ≠ h1) : mMi yX6_merge cX6_merge 5 (some .int) (rmL 98) [.ref ox, .int (nI a), .int (nI b2)] D cI cS w (fun r w1 => (10000000 < mv + mv2 ∧ r = -3 ∧ w1 = w) ∨ (mv + mv2 ≤ 10000000 ∧ r = tot + tot2 + nI 10000000 ∧ w1 h0 = some (.inr (4, [.int (nI 1), .int (nI c), .int (nI sd), .int (tot + tot2), .int (nI (mv + mv2)), .ref ab])) ∧ w1 ab = some (eI cI (4 * c) (jnA f f2 (4 * c))) ∧ ∀ z : Nat, z ≠ h0 → z ≠ ab → w1 z = w z)) := by
  refine mMi.of (by decide) (Nat.le_of_ble_eq_true rfl) ?_
  intro X C hN hR
  have fr_w : ∀ zz : Nat, w zz = w zz := fun _ => rfl
  refine mg_sub (lv' := [(0, .ref ox), (1, .int (nI a)), (2, .int (nI b2))]) [0, 1, 2] rfl ?_
  refine mg_aload_n C dX6_merge_0 rfl ?_
  refine mg_iload_n C dX6_merge_1 rfl ?_
  refine mg_callV_q C hox rfl (rest := []) (c_X6_find_in D cI cS w ox as md g0 a hox has hmd ha) yq_X6_find kw_123 kw_124 kw_125 ⟨by decide, by decide⟩ ⟨Nat.le_of_ble_eq_true rfl, Nat.le_of_ble_eq_true rfl⟩ (Nat.le_of_ble_eq_true rfl) rfl rfl dX6_merge_2 (fun r1 w1 ⟨xe1, xk1⟩ => ?_)
  rw [xk1, xe1, hg]
  refine mg_astore_n C (lv' := [(3, .ref h0), (0, .ref ox), (1, .int (nI a)), (2, .int (nI b2))]) dX6_merge_5 rfl (by decide) rfl ?_
  refine mg_aload_n C dX6_merge_6 rfl ?_
  refine mg_iload_n C dX6_merge_7 rfl ?_
  refine mg_callV_q C hox rfl (rest := []) (c_X6_find_in D cI cS w ox as md g0 b2 hox has hmd hb) yq_X6_find kw_123 kw_124 kw_125 ⟨by decide, by decide⟩ ⟨Nat.le_of_ble_eq_true rfl, Nat.le_of_ble_eq_true rfl⟩ (Nat.le_of_ble_eq_true rfl) rfl rfl dX6_merge_8 (fun r2 w2 ⟨xe2, xk2⟩ => ?_)
  rw [xk2, xe2, hg1]
  refine mg_astore C (lv' := [(4, .ref h1), (3, .ref h0), (0, .ref ox), (1, .int (nI a)), (2, .int (nI b2))]) dX6_merge_11 (by decide) rfl ?_
  refine mg_aload_n C dX6_merge_13 rfl ?_
  refine mg_ifnull C dX6_merge_14 ?_
  refine mg_aload C dX6_merge_17 rfl ?_
  refine mg_ifnull C dX6_merge_19 ?_
  refine mg_iload_n C dX6_merge_22 rfl ?_
  refine mg_iload_n C dX6_merge_23 rfl ?_
  refine mg_icmpN_eq C (tgt := 36) dX6_merge_24 (by decide) (by omega) (by omega) (fun c_24 => absurd c_24 hab) (fun c_24 => ?_)
  refine mg_aload_n C dX6_merge_27 rfl ?_
  refine mg_aload C dX6_merge_28 rfl ?_
  refine mg_callU_i C hh rfl (rest := []) (c_X4_isLike D cI cS w 4 4 h0 h1 (nI 1) (nI c) (nI sd) (nI 1) (nI c) (nI sd) [.int tot, .int (nI mv), .ref ab] [.int tot2, .int (nI mv2), .ref ab2] hh hh1 (by decide) (by decide)) yq_X4_isLike kw_379 kw_380 dq_isLike (by decide +kernel) kw_382 kw_387 ⟨by decide, by decide⟩ ⟨Nat.le_of_ble_eq_true rfl, Nat.le_of_ble_eq_true rfl⟩ (Nat.le_of_ble_eq_true rfl) rfl rfl dX6_merge_30 (fun r3 w3 ⟨xa3, xk3⟩ => ?_)
  rw [xk3]
  obtain ⟨ra3, -⟩ := xa3.resolve_right (fun q => q.2 ⟨rfl, rfl, rfl⟩)
  rw [ra3]
  refine mg_ifN_ne C (tgt := 38) dX6_merge_33 (by decide) (by decide) (fun c_33 => ?_) (fun c_33 => absurd c_33 (by decide))
  refine mg_aload_n C dX6_merge_38 rfl ?_
  refine mg_get C inT5 hh rfl 4 (by decide) kw_206 (Or.inl rfl) rfl dX6_merge_39 ?_
  refine mg_aload C dX6_merge_42 rfl ?_
  refine mg_get C inT5 hh1 rfl 4 (by decide) kw_206 (Or.inl rfl) rfl dX6_merge_44 ?_
  refine mg_iadd C (z := nI (mv + mv2)) dX6_merge_47 (nI_add _ _) ?_
  refine mg_ldc C (v := nI 10000000) dX6_merge_48 kw_207 (by decide) ?_
  refine mg_icmpN_le C (tgt := 56) dX6_merge_50 (by decide) (by omega) (by omega) (fun c_50 => ?_) (fun c_50 => ?_)
  · refine mg_aload_n C dX6_merge_56 rfl ?_
    refine mg_dup C dX6_merge_57 rfl ?_
    refine mg_get C inT5 hh rfl 3 (by decide) kw_205 (Or.inl rfl) rfl dX6_merge_58 ?_
    refine mg_aload C dX6_merge_61 rfl ?_
    refine mg_get C inT5 hh1 rfl 3 (by decide) kw_205 (Or.inl rfl) rfl dX6_merge_63 ?_
    refine mg_iadd C (z := tot + tot2) dX6_merge_66 rfl ?_
    refine mg_put C (fs' := [.int (nI 1), .int (nI c), .int (nI sd), .int (tot + tot2), .int (nI mv), .ref ab]) inT5 hh rfl 3 (by decide) kw_205 (Or.inl rfl) tyX5_ok nmX5 rfl rfl rfl rfl (Nat.le_of_ble_eq_true rfl) dX6_merge_67 (fun w4 e_w4 => ?_)
    have h_w4_ox : w4 ox = some (.inr (5, [.ref as, .int (nI md)])) := (congrFun e_w4 _).trans ((mwu_ne (mw_ci hox hh (by decide))).trans hox)
    have h_w4_as : w4 as = some (eR cS 8 g0) := (congrFun e_w4 _).trans ((mwu_ne (mw_ao has hh)).trans has)
    have h_w4_h0 : w4 h0 = some (.inr (4, [.int (nI 1), .int (nI c), .int (nI sd), .int (tot + tot2), .int (nI mv), .ref ab])) := (congrFun e_w4 _).trans mwu_eq
    have h_w4_ab : w4 ab = some (eI cI (4 * c) f) := (congrFun e_w4 _).trans ((mwu_ne (mw_ao h_ab hh)).trans h_ab)
    have h_w4_h1 : w4 h1 = some (.inr (4, [.int (nI 1), .int (nI c), .int (nI sd), .int tot2, .int (nI mv2), .ref ab2])) := (congrFun e_w4 _).trans ((mwu_ne (Ne.symm hn0)).trans hh1)
    have h_w4_ab2 : w4 ab2 = some (eI cI (4 * c) f2) := (congrFun e_w4 _).trans ((mwu_ne (mw_ao h_ab2 hh)).trans h_ab2)
    have fr_w4 : ∀ zz : Nat, zz ≠ h0 → w4 zz = w zz := fun zz g0 => (congrFun e_w4 zz).trans ((mwu_ne g0).trans (fr_w zz ))
    refine mg_aload_n C dX6_merge_70 rfl ?_
    refine mg_dup C dX6_merge_71 rfl ?_
    refine mg_get C inT5 h_w4_h0 rfl 4 (by decide) kw_206 (Or.inl rfl) rfl dX6_merge_72 ?_
    refine mg_aload C dX6_merge_75 rfl ?_
    refine mg_get C inT5 h_w4_h1 rfl 4 (by decide) kw_206 (Or.inl rfl) rfl dX6_merge_77 ?_
    refine mg_iadd C (z := nI (mv + mv2)) dX6_merge_80 (nI_add _ _) ?_
    refine mg_put C (fs' := [.int (nI 1), .int (nI c), .int (nI sd), .int (tot + tot2), .int (nI (mv + mv2)), .ref ab]) inT5 h_w4_h0 rfl 4 (by decide) kw_206 (Or.inl rfl) tyX5_ok nmX5 rfl rfl rfl rfl (Nat.le_of_ble_eq_true rfl) dX6_merge_81 (fun w5 e_w5 => ?_)
    have h_w5_ox : w5 ox = some (.inr (5, [.ref as, .int (nI md)])) := (congrFun e_w5 _).trans ((mwu_ne (mw_ci h_w4_ox h_w4_h0 (by decide))).trans h_w4_ox)
    have h_w5_as : w5 as = some (eR cS 8 g0) := (congrFun e_w5 _).trans ((mwu_ne (mw_ao h_w4_as h_w4_h0)).trans h_w4_as)
    have h_w5_h0 : w5 h0 = some (.inr (4, [.int (nI 1), .int (nI c), .int (nI sd), .int (tot + tot2), .int (nI (mv + mv2)), .ref ab])) := (congrFun e_w5 _).trans mwu_eq
    have h_w5_ab : w5 ab = some (eI cI (4 * c) f) := (congrFun e_w5 _).trans ((mwu_ne (mw_ao h_w4_ab h_w4_h0)).trans h_w4_ab)
    have h_w5_h1 : w5 h1 = some (.inr (4, [.int (nI 1), .int (nI c), .int (nI sd), .int tot2, .int (nI mv2), .ref ab2])) := (congrFun e_w5 _).trans ((mwu_ne (Ne.symm hn0)).trans h_w4_h1)
    have h_w5_ab2 : w5 ab2 = some (eI cI (4 * c) f2) := (congrFun e_w5 _).trans ((mwu_ne (mw_ao h_w4_ab2 h_w4_h0)).trans h_w4_ab2)
    have fr_w5 : ∀ zz : Nat, zz ≠ h0 → w5 zz = w zz := fun zz g0 => (congrFun e_w5 zz).trans ((mwu_ne g0).trans (fr_w4 zz g0))
    refine mg_aload_n C dX6_merge_84 rfl ?_
    refine mg_aload C dX6_merge_85 rfl ?_
    refine mg_callU_v C h_w5_h0 rfl (rest := []) (c_X5_join D cI cS w5 h0 h1 ab ab2 c sd (tot + tot2) (nI (mv + mv2)) tot2 (nI mv2) f f2 h_w5_h0 h_w5_h1 h_w5_ab h_w5_ab2 hs hc1 hc2 hx_ab_ab2) yq_X5_join kw_388 kw_389 dq_join (by decide +kernel) kw_415 kw_414 ⟨by decide, by decide⟩ ⟨Nat.le_of_ble_eq_true rfl, Nat.le_of_ble_eq_true rfl⟩ (Nat.le_of_ble_eq_true rfl) rfl rfl dX6_merge_87 (fun w6 ⟨xc6ab, xf6⟩ => ?_)
    have h_w6_ox : w6 ox = some (.inr (5, [.ref as, .int (nI md)])) := (xf6 ox (mw_oa h_w5_ox h_w5_ab)).trans h_w5_ox
    have h_w6_as : w6 as = some (eR cS 8 g0) := (xf6 as (mw_ri h_w5_as h_w5_ab)).trans h_w5_as
    have h_w6_h0 : w6 h0 = some (.inr (4, [.int (nI 1), .int (nI c), .int (nI sd), .int (tot + tot2), .int (nI (mv + mv2)), .ref ab])) := (xf6 h0 (mw_oa h_w5_h0 h_w5_ab)).trans h_w5_h0
    have h_w6_h1 : w6 h1 = some (.inr (4, [.int (nI 1), .int (nI c), .int (nI sd), .int tot2, .int (nI mv2), .ref ab2])) := (xf6 h1 (mw_oa h_w5_h1 h_w5_ab)).trans h_w5_h1
    have h_w6_ab2 : w6 ab2 = some (eI cI (4 * c) f2) := (xf6 ab2 (Ne.symm hx_ab_ab2)).trans h_w5_ab2
    have fr_w6 : ∀ zz : Nat, zz ≠ h0 → zz ≠ ab → w6 zz = w zz := fun zz g0 g1 => (xf6 zz g1).trans (fr_w5 zz g0)
    refine mg_aload_n C dX6_merge_90 rfl ?_
    refine mg_get C inT5 h_w6_h0 rfl 3 (by decide) kw_205 (Or.inl rfl) rfl dX6_merge_91 ?_
    refine mg_ldc C (v := nI 10000000) dX6_merge_94 kw_207 (by decide) ?_
    refine mg_iadd C (z := (tot + tot2) + (nI 10000000)) dX6_merge_96 rfl ?_
    exact hR _ _ _ _ dX6_merge_97 (Or.inr ⟨c_50, rfl, h_w6_h0, xc6ab, fun z q0 q1 => fr_w6 z q0 q1⟩)
  · refine mg_bipush C (v := (-3 : Int32)) dX6_merge_53 (by decide) ?_
    exact hR _ _ _ _ dX6_merge_55 (Or.inl ⟨c_50, rfl, rfl⟩)

set_option maxHeartbeats 4000000 in
set_option maxRecDepth 20000 in
theorem c_X6_merge_un_L (D : va_G) (cI cS : ClassId) (w : mwT) (ox as md a : Nat) (g0 : Nat → Option Nat) (h0 ab k sd h mv b2 h1 cb : Nat) (tot : Int32) (f : Nat → Int32) (soB siB seB : Int32) (fb : List Value) (hox : w ox = some (.inr (5, [.ref as, .int (nI md)]))) (has : w as = some (eR cS 8 g0)) (hh : w h0 = some (.inr (2, [.int (nI 3), .int (nI k), .int (nI sd), .int tot, .int (nI mv), .ref ab, .int (nI h)]))) (hh1 : w h1 = some (.inr (cb, .int soB :: .int siB :: .int seB :: fb))) (hmd : md ≤ 8) (ha : a < md) (hg : g0 a = some h0) (hb : b2 < md) (hg1 : g0 b2 = some h1) (hcb : cb < 5) (hab : a ≠ b2) (hnl : ¬ (nI 3 = soB ∧ nI k = siB ∧ nI sd = seB)) : mMi yX6_merge cX6_merge 5 (some .int) (rmL 98) [.ref ox, .int (nI a), .int (nI b2)] D cI cS w (fun r w1 => r = -1 ∧ w1 = w) := by
  refine mMi.of (by decide) (Nat.le_of_ble_eq_true rfl) ?_
  intro X C hN hR
  refine mg_sub (lv' := [(0, .ref ox), (1, .int (nI a)), (2, .int (nI b2))]) [0, 1, 2] rfl ?_
  refine mg_aload_n C dX6_merge_0 rfl ?_
  refine mg_iload_n C dX6_merge_1 rfl ?_
  refine mg_callV_q C hox rfl (rest := []) (c_X6_find_in D cI cS w ox as md g0 a hox has hmd ha) yq_X6_find kw_123 kw_124 kw_125 ⟨by decide, by decide⟩ ⟨Nat.le_of_ble_eq_true rfl, Nat.le_of_ble_eq_true rfl⟩ (Nat.le_of_ble_eq_true rfl) rfl rfl dX6_merge_2 (fun r1 w1 ⟨xe1, xk1⟩ => ?_)
  rw [xk1, xe1, hg]
  refine mg_astore_n C (lv' := [(3, .ref h0), (0, .ref ox), (1, .int (nI a)), (2, .int (nI b2))]) dX6_merge_5 rfl (by decide) rfl ?_
  refine mg_aload_n C dX6_merge_6 rfl ?_
  refine mg_iload_n C dX6_merge_7 rfl ?_
  refine mg_callV_q C hox rfl (rest := []) (c_X6_find_in D cI cS w ox as md g0 b2 hox has hmd hb) yq_X6_find kw_123 kw_124 kw_125 ⟨by decide, by decide⟩ ⟨Nat.le_of_ble_eq_true rfl, Nat.le_of_ble_eq_true rfl⟩ (Nat.le_of_ble_eq_true rfl) rfl rfl dX6_merge_8 (fun r2 w2 ⟨xe2, xk2⟩ => ?_)
  rw [xk2, xe2, hg1]
  refine mg_astore C (lv' := [(4, .ref h1), (3, .ref h0), (0, .ref ox), (1, .int (nI a)), (2, .int (nI b2))]) dX6_merge_11 (by decide) rfl ?_
  refine mg_aload_n C dX6_merge_13 rfl ?_
  refine mg_ifnull C dX6_merge_14 ?_
  refine mg_aload C dX6_merge_17 rfl ?_
  refine mg_ifnull C dX6_merge_19 ?_
  refine mg_iload_n C dX6_merge_22 rfl ?_
  refine mg_iload_n C dX6_merge_23 rfl ?_
  refine mg_icmpN_eq C (tgt := 36) dX6_merge_24 (by decide) (by omega) (by omega) (fun c_24 => absurd c_24 hab) (fun c_24 => ?_)
  refine mg_aload_n C dX6_merge_27 rfl ?_
  refine mg_aload C dX6_merge_28 rfl ?_
  refine mg_callU_i C hh rfl (rest := []) (c_X4_isLike D cI cS w 2 cb h0 h1 (nI 3) (nI k) (nI sd) soB siB seB [.int tot, .int (nI mv), .ref ab, .int (nI h)] fb hh hh1 (by decide) hcb) yq_X4_isLike kw_379 kw_380 dq_isLike (by decide +kernel) kw_382 kw_385 ⟨by decide, by decide⟩ ⟨Nat.le_of_ble_eq_true rfl, Nat.le_of_ble_eq_true rfl⟩ (Nat.le_of_ble_eq_true rfl) rfl rfl dX6_merge_30 (fun r3 w3 ⟨xa3, xk3⟩ => ?_)
  rw [xk3]
  rcases xa3 with ⟨ra3, hy_like⟩ | ⟨ra3, hy_like⟩
  · rw [ra3]
    refine mg_ifN_ne C (tgt := 38) dX6_merge_33 (by decide) (by decide) (fun c_33 => ?_) (fun c_33 => absurd c_33 (by decide))
    exact absurd hy_like hnl
  · rw [ra3]
    refine mg_ifN_ne C (tgt := 38) dX6_merge_33 (by decide) (by decide) (fun c_33 => absurd c_33 (by decide)) (fun c_33 => ?_)
    refine mg_iconst C (v := (-1 : Int32)) dX6_merge_36 (by decide) ?_
    exact hR _ _ _ _ dX6_merge_37 ⟨rfl, rfl⟩

set_option maxHeartbeats 4000000 in
set_option maxRecDepth 20000 in
theorem c_X6_merge_L (D : va_G) (cI cS : ClassId) (w : mwT) (ox as md a : Nat) (g0 : Nat → Option Nat) (b2 : Nat) (h0 ab k sd h mv : Nat) (tot : Int32) (f : Nat → Int32) (h1 ab2 h2 mv2 : Nat) (tot2 : Int32) (f2 : Nat → Int32) (hox : w ox = some (.inr (5, [.ref as, .int (nI md)]))) (has : w as = some (eR cS 8 g0)) (hh : w h0 = some (.inr (2, [.int (nI 3), .int (nI k), .int (nI sd), .int tot, .int (nI mv), .ref ab, .int (nI h)]))) (h_ab : w ab = some (eI cI k f)) (hh1 : w h1 = some (.inr (2, [.int (nI 3), .int (nI k), .int (nI sd), .int tot2, .int (nI mv2), .ref ab2, .int (nI h2)]))) (h_ab2 : w ab2 = some (eI cI k f2)) (hmd : md ≤ 8) (ha : a < md) (hg : g0 a = some h0) (hs : sd ≤ 999) (hk1 : 2 ≤ k) (hk2 : k ≤ 32) (hh2 : h ≤ k) (hmv : mv ≤ 10000000) (hmv2 : mv2 ≤ 10000000) (hb : b2 < md) (hg1 : g0 b2 = some h1) (hab : a ≠ b2) (hh3 : h2 ≤ k) (hx_ab_ab2 : ab ≠ ab2) (hn0 : h0 ≠ h1) : mMi yX6_merge cX6_merge 5 (some .int) (rmL 98) [.ref ox, .int (nI a), .int (nI b2)] D cI cS w (fun r w1 => (10000000 < mv + mv2 ∧ r = -3 ∧ w1 = w) ∨ (mv + mv2 ≤ 10000000 ∧ r = tot + tot2 + nI 10000000 ∧ w1 h0 = some (.inr (2, [.int (nI 3), .int (nI k), .int (nI sd), .int (tot + tot2), .int (nI (mv + mv2)), .ref ab, .int (nI ((jnL k f2 (f, h) h2).2))])) ∧ w1 ab = some (eI cI k ((jnL k f2 (f, h) h2).1)) ∧ ∀ z : Nat, z ≠ h0 → z ≠ ab → w1 z = w z)) := by
  refine mMi.of (by decide) (Nat.le_of_ble_eq_true rfl) ?_
  intro X C hN hR
  have fr_w : ∀ zz : Nat, w zz = w zz := fun _ => rfl
  refine mg_sub (lv' := [(0, .ref ox), (1, .int (nI a)), (2, .int (nI b2))]) [0, 1, 2] rfl ?_
  refine mg_aload_n C dX6_merge_0 rfl ?_
  refine mg_iload_n C dX6_merge_1 rfl ?_
  refine mg_callV_q C hox rfl (rest := []) (c_X6_find_in D cI cS w ox as md g0 a hox has hmd ha) yq_X6_find kw_123 kw_124 kw_125 ⟨by decide, by decide⟩ ⟨Nat.le_of_ble_eq_true rfl, Nat.le_of_ble_eq_true rfl⟩ (Nat.le_of_ble_eq_true rfl) rfl rfl dX6_merge_2 (fun r1 w1 ⟨xe1, xk1⟩ => ?_)
  rw [xk1, xe1, hg]
  refine mg_astore_n C (lv' := [(3, .ref h0), (0, .ref ox), (1, .int (nI a)), (2, .int (nI b2))]) dX6_merge_5 rfl (by decide) rfl ?_
  refine mg_aload_n C dX6_merge_6 rfl ?_
  refine mg_iload_n C dX6_merge_7 rfl ?_
  refine mg_callV_q C hox rfl (rest := []) (c_X6_find_in D cI cS w ox as md g0 b2 hox has hmd hb) yq_X6_find kw_123 kw_124 kw_125 ⟨by decide, by decide⟩ ⟨Nat.le_of_ble_eq_true rfl, Nat.le_of_ble_eq_true rfl⟩ (Nat.le_of_ble_eq_true rfl) rfl rfl dX6_merge_8 (fun r2 w2 ⟨xe2, xk2⟩ => ?_)
  rw [xk2, xe2, hg1]
  refine mg_astore C (lv' := [(4, .ref h1), (3, .ref h0), (0, .ref ox), (1, .int (nI a)), (2, .int (nI b2))]) dX6_merge_11 (by decide) rfl ?_
  refine mg_aload_n C dX6_merge_13 rfl ?_
  refine mg_ifnull C dX6_merge_14 ?_
  refine mg_aload C dX6_merge_17 rfl ?_
  refine mg_ifnull C dX6_merge_19 ?_
  refine mg_iload_n C dX6_merge_22 rfl ?_
  refine mg_iload_n C dX6_merge_23 rfl ?_
  refine mg_icmpN_eq C (tgt := 36) dX6_merge_24 (by decide) (by omega) (by omega) (fun c_24 => absurd c_24 hab) (fun c_24 => ?_)
  refine mg_aload_n C dX6_merge_27 rfl ?_
  refine mg_aload C dX6_merge_28 rfl ?_
  refine mg_callU_i C hh rfl (rest := []) (c_X4_isLike D cI cS w 2 2 h0 h1 (nI 3) (nI k) (nI sd) (nI 3) (nI k) (nI sd) [.int tot, .int (nI mv), .ref ab, .int (nI h)] [.int tot2, .int (nI mv2), .ref ab2, .int (nI h2)] hh hh1 (by decide) (by decide)) yq_X4_isLike kw_379 kw_380 dq_isLike (by decide +kernel) kw_382 kw_385 ⟨by decide, by decide⟩ ⟨Nat.le_of_ble_eq_true rfl, Nat.le_of_ble_eq_true rfl⟩ (Nat.le_of_ble_eq_true rfl) rfl rfl dX6_merge_30 (fun r3 w3 ⟨xa3, xk3⟩ => ?_)
  rw [xk3]
  obtain ⟨ra3, -⟩ := xa3.resolve_right (fun q => q.2 ⟨rfl, rfl, rfl⟩)
  rw [ra3]
  refine mg_ifN_ne C (tgt := 38) dX6_merge_33 (by decide) (by decide) (fun c_33 => ?_) (fun c_33 => absurd c_33 (by decide))
  refine mg_aload_n C dX6_merge_38 rfl ?_
  refine mg_get C inT2 hh rfl 4 (by decide) kw_206 (Or.inl rfl) rfl dX6_merge_39 ?_
  refine mg_aload C dX6_merge_42 rfl ?_
  refine mg_get C inT2 hh1 rfl 4 (by decide) kw_206 (Or.inl rfl) rfl dX6_merge_44 ?_
  refine mg_iadd C (z := nI (mv + mv2)) dX6_merge_47 (nI_add _ _) ?_
  refine mg_ldc C (v := nI 10000000) dX6_merge_48 kw_207 (by decide) ?_
  refine mg_icmpN_le C (tgt := 56) dX6_merge_50 (by decide) (by omega) (by omega) (fun c_50 => ?_) (fun c_50 => ?_)
  · refine mg_aload_n C dX6_merge_56 rfl ?_
    refine mg_dup C dX6_merge_57 rfl ?_
    refine mg_get C inT2 hh rfl 3 (by decide) kw_205 (Or.inl rfl) rfl dX6_merge_58 ?_
    refine mg_aload C dX6_merge_61 rfl ?_
    refine mg_get C inT2 hh1 rfl 3 (by decide) kw_205 (Or.inl rfl) rfl dX6_merge_63 ?_
    refine mg_iadd C (z := tot + tot2) dX6_merge_66 rfl ?_
    refine mg_put C (fs' := [.int (nI 3), .int (nI k), .int (nI sd), .int (tot + tot2), .int (nI mv), .ref ab, .int (nI h)]) inT2 hh rfl 3 (by decide) kw_205 (Or.inl rfl) tyX2_ok nmX2 rfl rfl rfl rfl (Nat.le_of_ble_eq_true rfl) dX6_merge_67 (fun w4 e_w4 => ?_)
    have h_w4_ox : w4 ox = some (.inr (5, [.ref as, .int (nI md)])) := (congrFun e_w4 _).trans ((mwu_ne (mw_ci hox hh (by decide))).trans hox)
    have h_w4_as : w4 as = some (eR cS 8 g0) := (congrFun e_w4 _).trans ((mwu_ne (mw_ao has hh)).trans has)
    have h_w4_h0 : w4 h0 = some (.inr (2, [.int (nI 3), .int (nI k), .int (nI sd), .int (tot + tot2), .int (nI mv), .ref ab, .int (nI h)])) := (congrFun e_w4 _).trans mwu_eq
    have h_w4_ab : w4 ab = some (eI cI k f) := (congrFun e_w4 _).trans ((mwu_ne (mw_ao h_ab hh)).trans h_ab)
    have h_w4_h1 : w4 h1 = some (.inr (2, [.int (nI 3), .int (nI k), .int (nI sd), .int tot2, .int (nI mv2), .ref ab2, .int (nI h2)])) := (congrFun e_w4 _).trans ((mwu_ne (Ne.symm hn0)).trans hh1)
    have h_w4_ab2 : w4 ab2 = some (eI cI k f2) := (congrFun e_w4 _).trans ((mwu_ne (mw_ao h_ab2 hh)).trans h_ab2)
    have fr_w4 : ∀ zz : Nat, zz ≠ h0 → w4 zz = w zz := fun zz g0 => (congrFun e_w4 zz).trans ((mwu_ne g0).trans (fr_w zz ))
    refine mg_aload_n C dX6_merge_70 rfl ?_
    refine mg_dup C dX6_merge_71 rfl ?_
    refine mg_get C inT2 h_w4_h0 rfl 4 (by decide) kw_206 (Or.inl rfl) rfl dX6_merge_72 ?_
    refine mg_aload C dX6_merge_75 rfl ?_
    refine mg_get C inT2 h_w4_h1 rfl 4 (by decide) kw_206 (Or.inl rfl) rfl dX6_merge_77 ?_
    refine mg_iadd C (z := nI (mv + mv2)) dX6_merge_80 (nI_add _ _) ?_
    refine mg_put C (fs' := [.int (nI 3), .int (nI k), .int (nI sd), .int (tot + tot2), .int (nI (mv + mv2)), .ref ab, .int (nI h)]) inT2 h_w4_h0 rfl 4 (by decide) kw_206 (Or.inl rfl) tyX2_ok nmX2 rfl rfl rfl rfl (Nat.le_of_ble_eq_true rfl) dX6_merge_81 (fun w5 e_w5 => ?_)
    have h_w5_ox : w5 ox = some (.inr (5, [.ref as, .int (nI md)])) := (congrFun e_w5 _).trans ((mwu_ne (mw_ci h_w4_ox h_w4_h0 (by decide))).trans h_w4_ox)
    have h_w5_as : w5 as = some (eR cS 8 g0) := (congrFun e_w5 _).trans ((mwu_ne (mw_ao h_w4_as h_w4_h0)).trans h_w4_as)
    have h_w5_h0 : w5 h0 = some (.inr (2, [.int (nI 3), .int (nI k), .int (nI sd), .int (tot + tot2), .int (nI (mv + mv2)), .ref ab, .int (nI h)])) := (congrFun e_w5 _).trans mwu_eq
    have h_w5_ab : w5 ab = some (eI cI k f) := (congrFun e_w5 _).trans ((mwu_ne (mw_ao h_w4_ab h_w4_h0)).trans h_w4_ab)
    have h_w5_h1 : w5 h1 = some (.inr (2, [.int (nI 3), .int (nI k), .int (nI sd), .int tot2, .int (nI mv2), .ref ab2, .int (nI h2)])) := (congrFun e_w5 _).trans ((mwu_ne (Ne.symm hn0)).trans h_w4_h1)
    have h_w5_ab2 : w5 ab2 = some (eI cI k f2) := (congrFun e_w5 _).trans ((mwu_ne (mw_ao h_w4_ab2 h_w4_h0)).trans h_w4_ab2)
    have fr_w5 : ∀ zz : Nat, zz ≠ h0 → w5 zz = w zz := fun zz g0 => (congrFun e_w5 zz).trans ((mwu_ne g0).trans (fr_w4 zz g0))
    refine mg_aload_n C dX6_merge_84 rfl ?_
    refine mg_aload C dX6_merge_85 rfl ?_
    refine mg_callU_v C h_w5_h0 rfl (rest := []) (c_X2_join D cI cS w5 h0 h1 ab ab2 k sd h h2 (tot + tot2) (nI (mv + mv2)) tot2 (nI mv2) f f2 h_w5_h0 h_w5_h1 h_w5_ab h_w5_ab2 hk1 hk2 hh2 hh3 hx_ab_ab2 hn0) yq_X2_join kw_388 kw_389 dq_join (by decide +kernel) kw_407 kw_406 ⟨by decide, by decide⟩ ⟨Nat.le_of_ble_eq_true rfl, Nat.le_of_ble_eq_true rfl⟩ (Nat.le_of_ble_eq_true rfl) rfl rfl dX6_merge_87 (fun w6 ⟨xc6h0, xc6ab, xf6⟩ => ?_)
    have h_w6_ox : w6 ox = some (.inr (5, [.ref as, .int (nI md)])) := (xf6 ox (mw_ci h_w5_ox h_w5_h0 (by decide)) (mw_oa h_w5_ox h_w5_ab)).trans h_w5_ox
    have h_w6_as : w6 as = some (eR cS 8 g0) := (xf6 as (mw_ao h_w5_as h_w5_h0) (mw_ri h_w5_as h_w5_ab)).trans h_w5_as
    have h_w6_h1 : w6 h1 = some (.inr (2, [.int (nI 3), .int (nI k), .int (nI sd), .int tot2, .int (nI mv2), .ref ab2, .int (nI h2)])) := (xf6 h1 (Ne.symm hn0) (mw_oa h_w5_h1 h_w5_ab)).trans h_w5_h1
    have h_w6_ab2 : w6 ab2 = some (eI cI k f2) := (xf6 ab2 (mw_ao h_w5_ab2 h_w5_h0) (Ne.symm hx_ab_ab2)).trans h_w5_ab2
    have fr_w6 : ∀ zz : Nat, zz ≠ h0 → zz ≠ ab → w6 zz = w zz := fun zz g0 g1 => (xf6 zz g0 g1).trans (fr_w5 zz g0)
    refine mg_aload_n C dX6_merge_90 rfl ?_
    refine mg_get C inT2 xc6h0 rfl 3 (by decide) kw_205 (Or.inl rfl) rfl dX6_merge_91 ?_
    refine mg_ldc C (v := nI 10000000) dX6_merge_94 kw_207 (by decide) ?_
    refine mg_iadd C (z := (tot + tot2) + (nI 10000000)) dX6_merge_96 rfl ?_
    exact hR _ _ _ _ dX6_merge_97 (Or.inr ⟨c_50, rfl, xc6h0, xc6ab, fun z q0 q1 => fr_w6 z q0 q1⟩)
  · refine mg_bipush C (v := (-3 : Int32)) dX6_merge_53 (by decide) ?_
    exact hR _ _ _ _ dX6_merge_55 (Or.inl ⟨c_50, rfl, rfl⟩)

set_option maxHeartbeats 4000000 in
set_option maxRecDepth 20000 in
theorem c_X6_merge_un_H (D : va_G) (cI cS : ClassId) (w : mwT) (ox as md a : Nat) (g0 : Nat → Option Nat) (h0 ak an k sd h mv b2 h1 cb : Nat) (tot lo : Int32) (f g : Nat → Int32) (soB siB seB : Int32) (fb : List Value) (hox : w ox = some (.inr (5, [.ref as, .int (nI md)]))) (has : w as = some (eR cS 8 g0)) (hh : w h0 = some (.inr (1, [.int (nI 0), .int (nI k), .int (nI sd), .int tot, .int (nI mv), .ref ak, .ref an, .int (nI h), .int lo]))) (hh1 : w h1 = some (.inr (cb, .int soB :: .int siB :: .int seB :: fb))) (hmd : md ≤ 8) (ha : a < md) (hg : g0 a = some h0) (hb : b2 < md) (hg1 : g0 b2 = some h1) (hcb : cb < 5) (hab : a ≠ b2) (hnl : ¬ (nI 0 = soB ∧ nI k = siB ∧ nI sd = seB)) : mMi yX6_merge cX6_merge 5 (some .int) (rmL 98) [.ref ox, .int (nI a), .int (nI b2)] D cI cS w (fun r w1 => r = -1 ∧ w1 = w) := by
  refine mMi.of (by decide) (Nat.le_of_ble_eq_true rfl) ?_
  intro X C hN hR
  refine mg_sub (lv' := [(0, .ref ox), (1, .int (nI a)), (2, .int (nI b2))]) [0, 1, 2] rfl ?_
  refine mg_aload_n C dX6_merge_0 rfl ?_
  refine mg_iload_n C dX6_merge_1 rfl ?_
  refine mg_callV_q C hox rfl (rest := []) (c_X6_find_in D cI cS w ox as md g0 a hox has hmd ha) yq_X6_find kw_123 kw_124 kw_125 ⟨by decide, by decide⟩ ⟨Nat.le_of_ble_eq_true rfl, Nat.le_of_ble_eq_true rfl⟩ (Nat.le_of_ble_eq_true rfl) rfl rfl dX6_merge_2 (fun r1 w1 ⟨xe1, xk1⟩ => ?_)
  rw [xk1, xe1, hg]
  refine mg_astore_n C (lv' := [(3, .ref h0), (0, .ref ox), (1, .int (nI a)), (2, .int (nI b2))]) dX6_merge_5 rfl (by decide) rfl ?_
  refine mg_aload_n C dX6_merge_6 rfl ?_
  refine mg_iload_n C dX6_merge_7 rfl ?_
  refine mg_callV_q C hox rfl (rest := []) (c_X6_find_in D cI cS w ox as md g0 b2 hox has hmd hb) yq_X6_find kw_123 kw_124 kw_125 ⟨by decide, by decide⟩ ⟨Nat.le_of_ble_eq_true rfl, Nat.le_of_ble_eq_true rfl⟩ (Nat.le_of_ble_eq_true rfl) rfl rfl dX6_merge_8 (fun r2 w2 ⟨xe2, xk2⟩ => ?_)
  rw [xk2, xe2, hg1]
  refine mg_astore C (lv' := [(4, .ref h1), (3, .ref h0), (0, .ref ox), (1, .int (nI a)), (2, .int (nI b2))]) dX6_merge_11 (by decide) rfl ?_
  refine mg_aload_n C dX6_merge_13 rfl ?_
  refine mg_ifnull C dX6_merge_14 ?_
  refine mg_aload C dX6_merge_17 rfl ?_
  refine mg_ifnull C dX6_merge_19 ?_
  refine mg_iload_n C dX6_merge_22 rfl ?_
  refine mg_iload_n C dX6_merge_23 rfl ?_
  refine mg_icmpN_eq C (tgt := 36) dX6_merge_24 (by decide) (by omega) (by omega) (fun c_24 => absurd c_24 hab) (fun c_24 => ?_)
  refine mg_aload_n C dX6_merge_27 rfl ?_
  refine mg_aload C dX6_merge_28 rfl ?_
  refine mg_callU_i C hh rfl (rest := []) (c_X4_isLike D cI cS w 1 cb h0 h1 (nI 0) (nI k) (nI sd) soB siB seB [.int tot, .int (nI mv), .ref ak, .ref an, .int (nI h), .int lo] fb hh hh1 (by decide) hcb) yq_X4_isLike kw_379 kw_380 dq_isLike (by decide +kernel) kw_382 kw_384 ⟨by decide, by decide⟩ ⟨Nat.le_of_ble_eq_true rfl, Nat.le_of_ble_eq_true rfl⟩ (Nat.le_of_ble_eq_true rfl) rfl rfl dX6_merge_30 (fun r3 w3 ⟨xa3, xk3⟩ => ?_)
  rw [xk3]
  rcases xa3 with ⟨ra3, hy_like⟩ | ⟨ra3, hy_like⟩
  · rw [ra3]
    refine mg_ifN_ne C (tgt := 38) dX6_merge_33 (by decide) (by decide) (fun c_33 => ?_) (fun c_33 => absurd c_33 (by decide))
    exact absurd hy_like hnl
  · rw [ra3]
    refine mg_ifN_ne C (tgt := 38) dX6_merge_33 (by decide) (by decide) (fun c_33 => absurd c_33 (by decide)) (fun c_33 => ?_)
    refine mg_iconst C (v := (-1 : Int32)) dX6_merge_36 (by decide) ?_
    exact hR _ _ _ _ dX6_merge_37 ⟨rfl, rfl⟩

set_option maxHeartbeats 4000000 in
set_option maxRecDepth 20000 in
theorem c_X6_merge_H (D : va_G) (cI cS : ClassId) (w : mwT) (ox as md a : Nat) (g0 : Nat → Option Nat) (b2 : Nat) (h0 ak an k sd h mv : Nat) (tot lo : Int32) (f g : Nat → Int32) (h1 ak2 an2 h2 mv2 : Nat) (tot2 lo2 : Int32) (f2 g2 : Nat → Int32) (hox : w ox = some (.inr (5, [.ref as, .int (nI md)]))) (has : w as = some (eR cS 8 g0)) (hh : w h0 = some (.inr (1, [.int (nI 0), .int (nI k), .int (nI sd), .int tot, .int (nI mv), .ref ak, .ref an, .int (nI h), .int lo]))) (h_ak : w ak = some (eI cI (2 * k) f)) (h_an : w an = some (eI cI (2 * k) g)) (hh1 : w h1 = some (.inr (1, [.int (nI 0), .int (nI k), .int (nI sd), .int tot2, .int (nI mv2), .ref ak2, .ref an2, .int (nI h2), .int lo2]))) (h_ak2 : w ak2 = some (eI cI (2 * k) f2)) (h_an2 : w an2 = some (eI cI (2 * k) g2)) (hmd : md ≤ 8) (ha : a < md) (hg : g0 a = some h0) (hs : sd ≤ 999) (hk1 : 1 ≤ k) (hk2 : k ≤ 20) (hh2 : h ≤ k) (hka : ak ≠ an) (hmv : mv ≤ 10000000) (hmv2 : mv2 ≤ 10000000) (hb : b2 < md) (hg1 : g0 b2 = some h1) (hab : a ≠ b2) (hh3 : h2 ≤ k) (hx_ak_ak2 : ak ≠ ak2) (hx_ak_an2 : ak ≠ an2) (hx_an_ak2 : an ≠ ak2) (hx_an_an2 : an ≠ an2) (hn0 : h0 ≠ h1) (hy_ak2_an2 : ak2 ≠ an2) : mMi yX6_merge cX6_merge 5 (some .int) (rmL 98) [.ref ox, .int (nI a), .int (nI b2)] D cI cS w (fun r w1 => (10000000 < mv + mv2 ∧ r = -3 ∧ w1 = w) ∨ (mv + mv2 ≤ 10000000 ∧ r = tot + tot2 + nI 10000000 ∧ w1 h0 = some (.inr (1, [.int (nI 0), .int (nI k), .int (nI sd), .int (tot + tot2), .int (nI (mv + mv2)), .ref ak, .ref an, .int (nI ((mgH k f2 g2 h2 lo2 (f, g, h) lo).1.2.2)), .int ((mgH k f2 g2 h2 lo2 (f, g, h) lo).2)])) ∧ w1 ak = some (eI cI (2 * k) ((mgH k f2 g2 h2 lo2 (f, g, h) lo).1.1)) ∧ w1 an = some (eI cI (2 * k) ((mgH k f2 g2 h2 lo2 (f, g, h) lo).1.2.1)) ∧ ∀ z : Nat, z ≠ h0 → z ≠ ak → z ≠ an → w1 z = w z)) := by
  refine mMi.of (by decide) (Nat.le_of_ble_eq_true rfl) ?_
  intro X C hN hR
  have fr_w : ∀ zz : Nat, w zz = w zz := fun _ => rfl
  refine mg_sub (lv' := [(0, .ref ox), (1, .int (nI a)), (2, .int (nI b2))]) [0, 1, 2] rfl ?_
  refine mg_aload_n C dX6_merge_0 rfl ?_
  refine mg_iload_n C dX6_merge_1 rfl ?_
  refine mg_callV_q C hox rfl (rest := []) (c_X6_find_in D cI cS w ox as md g0 a hox has hmd ha) yq_X6_find kw_123 kw_124 kw_125 ⟨by decide, by decide⟩ ⟨Nat.le_of_ble_eq_true rfl, Nat.le_of_ble_eq_true rfl⟩ (Nat.le_of_ble_eq_true rfl) rfl rfl dX6_merge_2 (fun r1 w1 ⟨xe1, xk1⟩ => ?_)
  rw [xk1, xe1, hg]
  refine mg_astore_n C (lv' := [(3, .ref h0), (0, .ref ox), (1, .int (nI a)), (2, .int (nI b2))]) dX6_merge_5 rfl (by decide) rfl ?_
  refine mg_aload_n C dX6_merge_6 rfl ?_
  refine mg_iload_n C dX6_merge_7 rfl ?_
  refine mg_callV_q C hox rfl (rest := []) (c_X6_find_in D cI cS w ox as md g0 b2 hox has hmd hb) yq_X6_find kw_123 kw_124 kw_125 ⟨by decide, by decide⟩ ⟨Nat.le_of_ble_eq_true rfl, Nat.le_of_ble_eq_true rfl⟩ (Nat.le_of_ble_eq_true rfl) rfl rfl dX6_merge_8 (fun r2 w2 ⟨xe2, xk2⟩ => ?_)
  rw [xk2, xe2, hg1]
  refine mg_astore C (lv' := [(4, .ref h1), (3, .ref h0), (0, .ref ox), (1, .int (nI a)), (2, .int (nI b2))]) dX6_merge_11 (by decide) rfl ?_
  refine mg_aload_n C dX6_merge_13 rfl ?_
  refine mg_ifnull C dX6_merge_14 ?_
  refine mg_aload C dX6_merge_17 rfl ?_
  refine mg_ifnull C dX6_merge_19 ?_
  refine mg_iload_n C dX6_merge_22 rfl ?_
  refine mg_iload_n C dX6_merge_23 rfl ?_
  refine mg_icmpN_eq C (tgt := 36) dX6_merge_24 (by decide) (by omega) (by omega) (fun c_24 => absurd c_24 hab) (fun c_24 => ?_)
  refine mg_aload_n C dX6_merge_27 rfl ?_
  refine mg_aload C dX6_merge_28 rfl ?_
  refine mg_callU_i C hh rfl (rest := []) (c_X4_isLike D cI cS w 1 1 h0 h1 (nI 0) (nI k) (nI sd) (nI 0) (nI k) (nI sd) [.int tot, .int (nI mv), .ref ak, .ref an, .int (nI h), .int lo] [.int tot2, .int (nI mv2), .ref ak2, .ref an2, .int (nI h2), .int lo2] hh hh1 (by decide) (by decide)) yq_X4_isLike kw_379 kw_380 dq_isLike (by decide +kernel) kw_382 kw_384 ⟨by decide, by decide⟩ ⟨Nat.le_of_ble_eq_true rfl, Nat.le_of_ble_eq_true rfl⟩ (Nat.le_of_ble_eq_true rfl) rfl rfl dX6_merge_30 (fun r3 w3 ⟨xa3, xk3⟩ => ?_)
  rw [xk3]
  obtain ⟨ra3, -⟩ := xa3.resolve_right (fun q => q.2 ⟨rfl, rfl, rfl⟩)
  rw [ra3]
  refine mg_ifN_ne C (tgt := 38) dX6_merge_33 (by decide) (by decide) (fun c_33 => ?_) (fun c_33 => absurd c_33 (by decide))
  refine mg_aload_n C dX6_merge_38 rfl ?_
  refine mg_get C inT1 hh rfl 4 (by decide) kw_206 (Or.inl rfl) rfl dX6_merge_39 ?_
  refine mg_aload C dX6_merge_42 rfl ?_
  refine mg_get C inT1 hh1 rfl 4 (by decide) kw_206 (Or.inl rfl) rfl dX6_merge_44 ?_
  refine mg_iadd C (z := nI (mv + mv2)) dX6_merge_47 (nI_add _ _) ?_
  refine mg_ldc C (v := nI 10000000) dX6_merge_48 kw_207 (by decide) ?_
  refine mg_icmpN_le C (tgt := 56) dX6_merge_50 (by decide) (by omega) (by omega) (fun c_50 => ?_) (fun c_50 => ?_)
  · refine mg_aload_n C dX6_merge_56 rfl ?_
    refine mg_dup C dX6_merge_57 rfl ?_
    refine mg_get C inT1 hh rfl 3 (by decide) kw_205 (Or.inl rfl) rfl dX6_merge_58 ?_
    refine mg_aload C dX6_merge_61 rfl ?_
    refine mg_get C inT1 hh1 rfl 3 (by decide) kw_205 (Or.inl rfl) rfl dX6_merge_63 ?_
    refine mg_iadd C (z := tot + tot2) dX6_merge_66 rfl ?_
    refine mg_put C (fs' := [.int (nI 0), .int (nI k), .int (nI sd), .int (tot + tot2), .int (nI mv), .ref ak, .ref an, .int (nI h), .int lo]) inT1 hh rfl 3 (by decide) kw_205 (Or.inl rfl) tyX1_ok nmX1 rfl rfl rfl rfl (Nat.le_of_ble_eq_true rfl) dX6_merge_67 (fun w4 e_w4 => ?_)
    have h_w4_ox : w4 ox = some (.inr (5, [.ref as, .int (nI md)])) := (congrFun e_w4 _).trans ((mwu_ne (mw_ci hox hh (by decide))).trans hox)
    have h_w4_as : w4 as = some (eR cS 8 g0) := (congrFun e_w4 _).trans ((mwu_ne (mw_ao has hh)).trans has)
    have h_w4_h0 : w4 h0 = some (.inr (1, [.int (nI 0), .int (nI k), .int (nI sd), .int (tot + tot2), .int (nI mv), .ref ak, .ref an, .int (nI h), .int lo])) := (congrFun e_w4 _).trans mwu_eq
    have h_w4_ak : w4 ak = some (eI cI (2 * k) f) := (congrFun e_w4 _).trans ((mwu_ne (mw_ao h_ak hh)).trans h_ak)
    have h_w4_an : w4 an = some (eI cI (2 * k) g) := (congrFun e_w4 _).trans ((mwu_ne (mw_ao h_an hh)).trans h_an)
    have h_w4_h1 : w4 h1 = some (.inr (1, [.int (nI 0), .int (nI k), .int (nI sd), .int tot2, .int (nI mv2), .ref ak2, .ref an2, .int (nI h2), .int lo2])) := (congrFun e_w4 _).trans ((mwu_ne (Ne.symm hn0)).trans hh1)
    have h_w4_ak2 : w4 ak2 = some (eI cI (2 * k) f2) := (congrFun e_w4 _).trans ((mwu_ne (mw_ao h_ak2 hh)).trans h_ak2)
    have h_w4_an2 : w4 an2 = some (eI cI (2 * k) g2) := (congrFun e_w4 _).trans ((mwu_ne (mw_ao h_an2 hh)).trans h_an2)
    have fr_w4 : ∀ zz : Nat, zz ≠ h0 → w4 zz = w zz := fun zz g0 => (congrFun e_w4 zz).trans ((mwu_ne g0).trans (fr_w zz ))
    refine mg_aload_n C dX6_merge_70 rfl ?_
    refine mg_dup C dX6_merge_71 rfl ?_
    refine mg_get C inT1 h_w4_h0 rfl 4 (by decide) kw_206 (Or.inl rfl) rfl dX6_merge_72 ?_
    refine mg_aload C dX6_merge_75 rfl ?_
    refine mg_get C inT1 h_w4_h1 rfl 4 (by decide) kw_206 (Or.inl rfl) rfl dX6_merge_77 ?_
    refine mg_iadd C (z := nI (mv + mv2)) dX6_merge_80 (nI_add _ _) ?_
    refine mg_put C (fs' := [.int (nI 0), .int (nI k), .int (nI sd), .int (tot + tot2), .int (nI (mv + mv2)), .ref ak, .ref an, .int (nI h), .int lo]) inT1 h_w4_h0 rfl 4 (by decide) kw_206 (Or.inl rfl) tyX1_ok nmX1 rfl rfl rfl rfl (Nat.le_of_ble_eq_true rfl) dX6_merge_81 (fun w5 e_w5 => ?_)
    have h_w5_ox : w5 ox = some (.inr (5, [.ref as, .int (nI md)])) := (congrFun e_w5 _).trans ((mwu_ne (mw_ci h_w4_ox h_w4_h0 (by decide))).trans h_w4_ox)
    have h_w5_as : w5 as = some (eR cS 8 g0) := (congrFun e_w5 _).trans ((mwu_ne (mw_ao h_w4_as h_w4_h0)).trans h_w4_as)
    have h_w5_h0 : w5 h0 = some (.inr (1, [.int (nI 0), .int (nI k), .int (nI sd), .int (tot + tot2), .int (nI (mv + mv2)), .ref ak, .ref an, .int (nI h), .int lo])) := (congrFun e_w5 _).trans mwu_eq
    have h_w5_ak : w5 ak = some (eI cI (2 * k) f) := (congrFun e_w5 _).trans ((mwu_ne (mw_ao h_w4_ak h_w4_h0)).trans h_w4_ak)
    have h_w5_an : w5 an = some (eI cI (2 * k) g) := (congrFun e_w5 _).trans ((mwu_ne (mw_ao h_w4_an h_w4_h0)).trans h_w4_an)
    have h_w5_h1 : w5 h1 = some (.inr (1, [.int (nI 0), .int (nI k), .int (nI sd), .int tot2, .int (nI mv2), .ref ak2, .ref an2, .int (nI h2), .int lo2])) := (congrFun e_w5 _).trans ((mwu_ne (Ne.symm hn0)).trans h_w4_h1)
    have h_w5_ak2 : w5 ak2 = some (eI cI (2 * k) f2) := (congrFun e_w5 _).trans ((mwu_ne (mw_ao h_w4_ak2 h_w4_h0)).trans h_w4_ak2)
    have h_w5_an2 : w5 an2 = some (eI cI (2 * k) g2) := (congrFun e_w5 _).trans ((mwu_ne (mw_ao h_w4_an2 h_w4_h0)).trans h_w4_an2)
    have fr_w5 : ∀ zz : Nat, zz ≠ h0 → w5 zz = w zz := fun zz g0 => (congrFun e_w5 zz).trans ((mwu_ne g0).trans (fr_w4 zz g0))
    refine mg_aload_n C dX6_merge_84 rfl ?_
    refine mg_aload C dX6_merge_85 rfl ?_
    refine mg_callU_v C h_w5_h0 rfl (rest := []) (c_X1_join D cI cS w5 h0 h1 ak an ak2 an2 k sd h h2 (tot + tot2) (nI (mv + mv2)) lo tot2 (nI mv2) lo2 f g f2 g2 h_w5_h0 h_w5_h1 h_w5_ak h_w5_an h_w5_ak2 h_w5_an2 hk1 hk2 hh2 hh3 hka hn0 hx_ak_ak2 hx_ak_an2 hx_an_ak2 hx_an_an2) yq_X1_join kw_388 kw_389 dq_join (by decide +kernel) kw_395 kw_394 ⟨by decide, by decide⟩ ⟨Nat.le_of_ble_eq_true rfl, Nat.le_of_ble_eq_true rfl⟩ (Nat.le_of_ble_eq_true rfl) rfl rfl dX6_merge_87 (fun w6 ⟨xc6h0, xc6ak, xc6an, xf6⟩ => ?_)
    have h_w6_ox : w6 ox = some (.inr (5, [.ref as, .int (nI md)])) := (xf6 ox (mw_ci h_w5_ox h_w5_h0 (by decide)) (mw_oa h_w5_ox h_w5_ak) (mw_oa h_w5_ox h_w5_an)).trans h_w5_ox
    have h_w6_as : w6 as = some (eR cS 8 g0) := (xf6 as (mw_ao h_w5_as h_w5_h0) (mw_ri h_w5_as h_w5_ak) (mw_ri h_w5_as h_w5_an)).trans h_w5_as
    have h_w6_h1 : w6 h1 = some (.inr (1, [.int (nI 0), .int (nI k), .int (nI sd), .int tot2, .int (nI mv2), .ref ak2, .ref an2, .int (nI h2), .int lo2])) := (xf6 h1 (Ne.symm hn0) (mw_oa h_w5_h1 h_w5_ak) (mw_oa h_w5_h1 h_w5_an)).trans h_w5_h1
    have h_w6_ak2 : w6 ak2 = some (eI cI (2 * k) f2) := (xf6 ak2 (mw_ao h_w5_ak2 h_w5_h0) (Ne.symm hx_ak_ak2) (Ne.symm hx_an_ak2)).trans h_w5_ak2
    have h_w6_an2 : w6 an2 = some (eI cI (2 * k) g2) := (xf6 an2 (mw_ao h_w5_an2 h_w5_h0) (Ne.symm hx_ak_an2) (Ne.symm hx_an_an2)).trans h_w5_an2
    have fr_w6 : ∀ zz : Nat, zz ≠ h0 → zz ≠ ak → zz ≠ an → w6 zz = w zz := fun zz g0 g1 g2 => (xf6 zz g0 g1 g2).trans (fr_w5 zz g0)
    refine mg_aload_n C dX6_merge_90 rfl ?_
    refine mg_get C inT1 xc6h0 rfl 3 (by decide) kw_205 (Or.inl rfl) rfl dX6_merge_91 ?_
    refine mg_ldc C (v := nI 10000000) dX6_merge_94 kw_207 (by decide) ?_
    refine mg_iadd C (z := (tot + tot2) + (nI 10000000)) dX6_merge_96 rfl ?_
    exact hR _ _ _ _ dX6_merge_97 (Or.inr ⟨c_50, rfl, xc6h0, xc6ak, xc6an, fun z q0 q1 q2 => fr_w6 z q0 q1 q2⟩)
  · refine mg_bipush C (v := (-3 : Int32)) dX6_merge_53 (by decide) ?_
    exact hR _ _ _ _ dX6_merge_55 (Or.inl ⟨c_50, rfl, rfl⟩)

set_option maxHeartbeats 4000000 in
set_option maxRecDepth 20000 in
theorem c_X6_merge_un_R (D : va_G) (cI cS : ClassId) (w : mwT) (ox as md a : Nat) (g0 : Nat → Option Nat) (h0 ak al aw k sd mv b2 h1 cb : Nat) (tot er : Int32) (f : Nat → Int32) (ln tr : Nat → Nat) (soB siB seB : Int32) (fb : List Value) (hox : w ox = some (.inr (5, [.ref as, .int (nI md)]))) (has : w as = some (eR cS 8 g0)) (hh : w h0 = some (.inr (3, [.int (nI 4), .int (nI k), .int (nI sd), .int tot, .int (nI mv), .ref ak, .ref al, .ref aw, .int er]))) (hh1 : w h1 = some (.inr (cb, .int soB :: .int siB :: .int seB :: fb))) (hmd : md ≤ 8) (ha : a < md) (hg : g0 a = some h0) (hb : b2 < md) (hg1 : g0 b2 = some h1) (hcb : cb < 5) (hab : a ≠ b2) (hnl : ¬ (nI 4 = soB ∧ nI k = siB ∧ nI sd = seB)) : mMi yX6_merge cX6_merge 5 (some .int) (rmL 98) [.ref ox, .int (nI a), .int (nI b2)] D cI cS w (fun r w1 => r = -1 ∧ w1 = w) := by
  refine mMi.of (by decide) (Nat.le_of_ble_eq_true rfl) ?_
  intro X C hN hR
  refine mg_sub (lv' := [(0, .ref ox), (1, .int (nI a)), (2, .int (nI b2))]) [0, 1, 2] rfl ?_
  refine mg_aload_n C dX6_merge_0 rfl ?_
  refine mg_iload_n C dX6_merge_1 rfl ?_
  refine mg_callV_q C hox rfl (rest := []) (c_X6_find_in D cI cS w ox as md g0 a hox has hmd ha) yq_X6_find kw_123 kw_124 kw_125 ⟨by decide, by decide⟩ ⟨Nat.le_of_ble_eq_true rfl, Nat.le_of_ble_eq_true rfl⟩ (Nat.le_of_ble_eq_true rfl) rfl rfl dX6_merge_2 (fun r1 w1 ⟨xe1, xk1⟩ => ?_)
  rw [xk1, xe1, hg]
  refine mg_astore_n C (lv' := [(3, .ref h0), (0, .ref ox), (1, .int (nI a)), (2, .int (nI b2))]) dX6_merge_5 rfl (by decide) rfl ?_
  refine mg_aload_n C dX6_merge_6 rfl ?_
  refine mg_iload_n C dX6_merge_7 rfl ?_
  refine mg_callV_q C hox rfl (rest := []) (c_X6_find_in D cI cS w ox as md g0 b2 hox has hmd hb) yq_X6_find kw_123 kw_124 kw_125 ⟨by decide, by decide⟩ ⟨Nat.le_of_ble_eq_true rfl, Nat.le_of_ble_eq_true rfl⟩ (Nat.le_of_ble_eq_true rfl) rfl rfl dX6_merge_8 (fun r2 w2 ⟨xe2, xk2⟩ => ?_)
  rw [xk2, xe2, hg1]
  refine mg_astore C (lv' := [(4, .ref h1), (3, .ref h0), (0, .ref ox), (1, .int (nI a)), (2, .int (nI b2))]) dX6_merge_11 (by decide) rfl ?_
  refine mg_aload_n C dX6_merge_13 rfl ?_
  refine mg_ifnull C dX6_merge_14 ?_
  refine mg_aload C dX6_merge_17 rfl ?_
  refine mg_ifnull C dX6_merge_19 ?_
  refine mg_iload_n C dX6_merge_22 rfl ?_
  refine mg_iload_n C dX6_merge_23 rfl ?_
  refine mg_icmpN_eq C (tgt := 36) dX6_merge_24 (by decide) (by omega) (by omega) (fun c_24 => absurd c_24 hab) (fun c_24 => ?_)
  refine mg_aload_n C dX6_merge_27 rfl ?_
  refine mg_aload C dX6_merge_28 rfl ?_
  refine mg_callU_i C hh rfl (rest := []) (c_X4_isLike D cI cS w 3 cb h0 h1 (nI 4) (nI k) (nI sd) soB siB seB [.int tot, .int (nI mv), .ref ak, .ref al, .ref aw, .int er] fb hh hh1 (by decide) hcb) yq_X4_isLike kw_379 kw_380 dq_isLike (by decide +kernel) kw_382 kw_386 ⟨by decide, by decide⟩ ⟨Nat.le_of_ble_eq_true rfl, Nat.le_of_ble_eq_true rfl⟩ (Nat.le_of_ble_eq_true rfl) rfl rfl dX6_merge_30 (fun r3 w3 ⟨xa3, xk3⟩ => ?_)
  rw [xk3]
  rcases xa3 with ⟨ra3, hy_like⟩ | ⟨ra3, hy_like⟩
  · rw [ra3]
    refine mg_ifN_ne C (tgt := 38) dX6_merge_33 (by decide) (by decide) (fun c_33 => ?_) (fun c_33 => absurd c_33 (by decide))
    exact absurd hy_like hnl
  · rw [ra3]
    refine mg_ifN_ne C (tgt := 38) dX6_merge_33 (by decide) (by decide) (fun c_33 => absurd c_33 (by decide)) (fun c_33 => ?_)
    refine mg_iconst C (v := (-1 : Int32)) dX6_merge_36 (by decide) ?_
    exact hR _ _ _ _ dX6_merge_37 ⟨rfl, rfl⟩

set_option maxHeartbeats 4000000 in
set_option maxRecDepth 20000 in
theorem c_X6_merge_R (D : va_G) (cI cS : ClassId) (w : mwT) (ox as md a : Nat) (g0 : Nat → Option Nat) (b2 : Nat) (h0 ak al aw k sd mv : Nat) (tot er : Int32) (f : Nat → Int32) (ln tr : Nat → Nat) (h1 ak2 al2 aw2 mv2 : Nat) (tot2 er2 : Int32) (f2 : Nat → Int32) (ln2 tr2 : Nat → Nat) (hox : w ox = some (.inr (5, [.ref as, .int (nI md)]))) (has : w as = some (eR cS 8 g0)) (hh : w h0 = some (.inr (3, [.int (nI 4), .int (nI k), .int (nI sd), .int tot, .int (nI mv), .ref ak, .ref al, .ref aw, .int er]))) (h_ak : w ak = some (eI cI (31 * k) f)) (h_al : w al = some (eI cI 31 (lnF ln))) (h_aw : w aw = some (eI cI 31 (lnF tr))) (hh1 : w h1 = some (.inr (3, [.int (nI 4), .int (nI k), .int (nI sd), .int tot2, .int (nI mv2), .ref ak2, .ref al2, .ref aw2, .int er2]))) (h_ak2 : w ak2 = some (eI cI (31 * k) f2)) (h_al2 : w al2 = some (eI cI 31 (lnF ln2))) (h_aw2 : w aw2 = some (eI cI 31 (lnF tr2))) (hmd : md ≤ 8) (ha : a < md) (hg : g0 a = some h0) (hs : sd ≤ 999) (hk1 : 4 ≤ k) (hk2 : k ≤ 32) (hd1 : ak ≠ al) (hd2 : ak ≠ aw) (hd3 : al ≠ aw) (hok : rkOk k (f, ln, tr, er)) (hmv : mv ≤ 10000000) (hmv2 : mv2 ≤ 10000000) (hb : b2 < md) (hg1 : g0 b2 = some h1) (hab : a ≠ b2) (hok2 : rkOk k (f2, ln2, tr2, er2)) (hx_ak_ak2 : ak ≠ ak2) (hx_ak_al2 : ak ≠ al2) (hx_ak_aw2 : ak ≠ aw2) (hx_al_ak2 : al ≠ ak2) (hx_al_al2 : al ≠ al2) (hx_al_aw2 : al ≠ aw2) (hx_aw_ak2 : aw ≠ ak2) (hx_aw_al2 : aw ≠ al2) (hx_aw_aw2 : aw ≠ aw2) (hn0 : h0 ≠ h1) (hy_ak2_al2 : ak2 ≠ al2) (hy_ak2_aw2 : ak2 ≠ aw2) (hy_al2_aw2 : al2 ≠ aw2) : mMi yX6_merge cX6_merge 5 (some .int) (rmL 98) [.ref ox, .int (nI a), .int (nI b2)] D cI cS w (fun r w1 => (10000000 < mv + mv2 ∧ r = -3 ∧ w1 = w) ∨ (mv + mv2 ≤ 10000000 ∧ r = tot + tot2 + nI 10000000 ∧ w1 h0 = some (.inr (3, [.int (nI 4), .int (nI k), .int (nI sd), .int (tot + tot2), .int (nI (mv + mv2)), .ref ak, .ref al, .ref aw, .int ((joR k f2 ln2 (f, ln, tr, er) 31).2.2.2 + er2)])) ∧ w1 ak = some (eI cI (31 * k) ((joR k f2 ln2 (f, ln, tr, er) 31).1)) ∧ w1 al = some (eI cI 31 (lnF (joR k f2 ln2 (f, ln, tr, er) 31).2.1)) ∧ w1 aw = some (eI cI 31 (lnF (joR k f2 ln2 (f, ln, tr, er) 31).2.2.1)) ∧ ∀ z : Nat, z ≠ h0 → z ≠ ak → z ≠ al → z ≠ aw → w1 z = w z)) := by
  refine mMi.of (by decide) (Nat.le_of_ble_eq_true rfl) ?_
  intro X C hN hR
  have fr_w : ∀ zz : Nat, w zz = w zz := fun _ => rfl
  refine mg_sub (lv' := [(0, .ref ox), (1, .int (nI a)), (2, .int (nI b2))]) [0, 1, 2] rfl ?_
  refine mg_aload_n C dX6_merge_0 rfl ?_
  refine mg_iload_n C dX6_merge_1 rfl ?_
  refine mg_callV_q C hox rfl (rest := []) (c_X6_find_in D cI cS w ox as md g0 a hox has hmd ha) yq_X6_find kw_123 kw_124 kw_125 ⟨by decide, by decide⟩ ⟨Nat.le_of_ble_eq_true rfl, Nat.le_of_ble_eq_true rfl⟩ (Nat.le_of_ble_eq_true rfl) rfl rfl dX6_merge_2 (fun r1 w1 ⟨xe1, xk1⟩ => ?_)
  rw [xk1, xe1, hg]
  refine mg_astore_n C (lv' := [(3, .ref h0), (0, .ref ox), (1, .int (nI a)), (2, .int (nI b2))]) dX6_merge_5 rfl (by decide) rfl ?_
  refine mg_aload_n C dX6_merge_6 rfl ?_
  refine mg_iload_n C dX6_merge_7 rfl ?_
  refine mg_callV_q C hox rfl (rest := []) (c_X6_find_in D cI cS w ox as md g0 b2 hox has hmd hb) yq_X6_find kw_123 kw_124 kw_125 ⟨by decide, by decide⟩ ⟨Nat.le_of_ble_eq_true rfl, Nat.le_of_ble_eq_true rfl⟩ (Nat.le_of_ble_eq_true rfl) rfl rfl dX6_merge_8 (fun r2 w2 ⟨xe2, xk2⟩ => ?_)
  rw [xk2, xe2, hg1]
  refine mg_astore C (lv' := [(4, .ref h1), (3, .ref h0), (0, .ref ox), (1, .int (nI a)), (2, .int (nI b2))]) dX6_merge_11 (by decide) rfl ?_
  refine mg_aload_n C dX6_merge_13 rfl ?_
  refine mg_ifnull C dX6_merge_14 ?_
  refine mg_aload C dX6_merge_17 rfl ?_
  refine mg_ifnull C dX6_merge_19 ?_
  refine mg_iload_n C dX6_merge_22 rfl ?_
  refine mg_iload_n C dX6_merge_23 rfl ?_
  refine mg_icmpN_eq C (tgt := 36) dX6_merge_24 (by decide) (by omega) (by omega) (fun c_24 => absurd c_24 hab) (fun c_24 => ?_)
  refine mg_aload_n C dX6_merge_27 rfl ?_
  refine mg_aload C dX6_merge_28 rfl ?_
  refine mg_callU_i C hh rfl (rest := []) (c_X4_isLike D cI cS w 3 3 h0 h1 (nI 4) (nI k) (nI sd) (nI 4) (nI k) (nI sd) [.int tot, .int (nI mv), .ref ak, .ref al, .ref aw, .int er] [.int tot2, .int (nI mv2), .ref ak2, .ref al2, .ref aw2, .int er2] hh hh1 (by decide) (by decide)) yq_X4_isLike kw_379 kw_380 dq_isLike (by decide +kernel) kw_382 kw_386 ⟨by decide, by decide⟩ ⟨Nat.le_of_ble_eq_true rfl, Nat.le_of_ble_eq_true rfl⟩ (Nat.le_of_ble_eq_true rfl) rfl rfl dX6_merge_30 (fun r3 w3 ⟨xa3, xk3⟩ => ?_)
  rw [xk3]
  obtain ⟨ra3, -⟩ := xa3.resolve_right (fun q => q.2 ⟨rfl, rfl, rfl⟩)
  rw [ra3]
  refine mg_ifN_ne C (tgt := 38) dX6_merge_33 (by decide) (by decide) (fun c_33 => ?_) (fun c_33 => absurd c_33 (by decide))
  refine mg_aload_n C dX6_merge_38 rfl ?_
  refine mg_get C inT3 hh rfl 4 (by decide) kw_206 (Or.inl rfl) rfl dX6_merge_39 ?_
  refine mg_aload C dX6_merge_42 rfl ?_
  refine mg_get C inT3 hh1 rfl 4 (by decide) kw_206 (Or.inl rfl) rfl dX6_merge_44 ?_
  refine mg_iadd C (z := nI (mv + mv2)) dX6_merge_47 (nI_add _ _) ?_
  refine mg_ldc C (v := nI 10000000) dX6_merge_48 kw_207 (by decide) ?_
  refine mg_icmpN_le C (tgt := 56) dX6_merge_50 (by decide) (by omega) (by omega) (fun c_50 => ?_) (fun c_50 => ?_)
  · refine mg_aload_n C dX6_merge_56 rfl ?_
    refine mg_dup C dX6_merge_57 rfl ?_
    refine mg_get C inT3 hh rfl 3 (by decide) kw_205 (Or.inl rfl) rfl dX6_merge_58 ?_
    refine mg_aload C dX6_merge_61 rfl ?_
    refine mg_get C inT3 hh1 rfl 3 (by decide) kw_205 (Or.inl rfl) rfl dX6_merge_63 ?_
    refine mg_iadd C (z := tot + tot2) dX6_merge_66 rfl ?_
    refine mg_put C (fs' := [.int (nI 4), .int (nI k), .int (nI sd), .int (tot + tot2), .int (nI mv), .ref ak, .ref al, .ref aw, .int er]) inT3 hh rfl 3 (by decide) kw_205 (Or.inl rfl) tyX3_ok nmX3 rfl rfl rfl rfl (Nat.le_of_ble_eq_true rfl) dX6_merge_67 (fun w4 e_w4 => ?_)
    have h_w4_ox : w4 ox = some (.inr (5, [.ref as, .int (nI md)])) := (congrFun e_w4 _).trans ((mwu_ne (mw_ci hox hh (by decide))).trans hox)
    have h_w4_as : w4 as = some (eR cS 8 g0) := (congrFun e_w4 _).trans ((mwu_ne (mw_ao has hh)).trans has)
    have h_w4_h0 : w4 h0 = some (.inr (3, [.int (nI 4), .int (nI k), .int (nI sd), .int (tot + tot2), .int (nI mv), .ref ak, .ref al, .ref aw, .int er])) := (congrFun e_w4 _).trans mwu_eq
    have h_w4_ak : w4 ak = some (eI cI (31 * k) f) := (congrFun e_w4 _).trans ((mwu_ne (mw_ao h_ak hh)).trans h_ak)
    have h_w4_al : w4 al = some (eI cI 31 (lnF ln)) := (congrFun e_w4 _).trans ((mwu_ne (mw_ao h_al hh)).trans h_al)
    have h_w4_aw : w4 aw = some (eI cI 31 (lnF tr)) := (congrFun e_w4 _).trans ((mwu_ne (mw_ao h_aw hh)).trans h_aw)
    have h_w4_h1 : w4 h1 = some (.inr (3, [.int (nI 4), .int (nI k), .int (nI sd), .int tot2, .int (nI mv2), .ref ak2, .ref al2, .ref aw2, .int er2])) := (congrFun e_w4 _).trans ((mwu_ne (Ne.symm hn0)).trans hh1)
    have h_w4_ak2 : w4 ak2 = some (eI cI (31 * k) f2) := (congrFun e_w4 _).trans ((mwu_ne (mw_ao h_ak2 hh)).trans h_ak2)
    have h_w4_al2 : w4 al2 = some (eI cI 31 (lnF ln2)) := (congrFun e_w4 _).trans ((mwu_ne (mw_ao h_al2 hh)).trans h_al2)
    have h_w4_aw2 : w4 aw2 = some (eI cI 31 (lnF tr2)) := (congrFun e_w4 _).trans ((mwu_ne (mw_ao h_aw2 hh)).trans h_aw2)
    have fr_w4 : ∀ zz : Nat, zz ≠ h0 → w4 zz = w zz := fun zz g0 => (congrFun e_w4 zz).trans ((mwu_ne g0).trans (fr_w zz ))
    refine mg_aload_n C dX6_merge_70 rfl ?_
    refine mg_dup C dX6_merge_71 rfl ?_
    refine mg_get C inT3 h_w4_h0 rfl 4 (by decide) kw_206 (Or.inl rfl) rfl dX6_merge_72 ?_
    refine mg_aload C dX6_merge_75 rfl ?_
    refine mg_get C inT3 h_w4_h1 rfl 4 (by decide) kw_206 (Or.inl rfl) rfl dX6_merge_77 ?_
    refine mg_iadd C (z := nI (mv + mv2)) dX6_merge_80 (nI_add _ _) ?_
    refine mg_put C (fs' := [.int (nI 4), .int (nI k), .int (nI sd), .int (tot + tot2), .int (nI (mv + mv2)), .ref ak, .ref al, .ref aw, .int er]) inT3 h_w4_h0 rfl 4 (by decide) kw_206 (Or.inl rfl) tyX3_ok nmX3 rfl rfl rfl rfl (Nat.le_of_ble_eq_true rfl) dX6_merge_81 (fun w5 e_w5 => ?_)
    have h_w5_ox : w5 ox = some (.inr (5, [.ref as, .int (nI md)])) := (congrFun e_w5 _).trans ((mwu_ne (mw_ci h_w4_ox h_w4_h0 (by decide))).trans h_w4_ox)
    have h_w5_as : w5 as = some (eR cS 8 g0) := (congrFun e_w5 _).trans ((mwu_ne (mw_ao h_w4_as h_w4_h0)).trans h_w4_as)
    have h_w5_h0 : w5 h0 = some (.inr (3, [.int (nI 4), .int (nI k), .int (nI sd), .int (tot + tot2), .int (nI (mv + mv2)), .ref ak, .ref al, .ref aw, .int er])) := (congrFun e_w5 _).trans mwu_eq
    have h_w5_ak : w5 ak = some (eI cI (31 * k) f) := (congrFun e_w5 _).trans ((mwu_ne (mw_ao h_w4_ak h_w4_h0)).trans h_w4_ak)
    have h_w5_al : w5 al = some (eI cI 31 (lnF ln)) := (congrFun e_w5 _).trans ((mwu_ne (mw_ao h_w4_al h_w4_h0)).trans h_w4_al)
    have h_w5_aw : w5 aw = some (eI cI 31 (lnF tr)) := (congrFun e_w5 _).trans ((mwu_ne (mw_ao h_w4_aw h_w4_h0)).trans h_w4_aw)
    have h_w5_h1 : w5 h1 = some (.inr (3, [.int (nI 4), .int (nI k), .int (nI sd), .int tot2, .int (nI mv2), .ref ak2, .ref al2, .ref aw2, .int er2])) := (congrFun e_w5 _).trans ((mwu_ne (Ne.symm hn0)).trans h_w4_h1)
    have h_w5_ak2 : w5 ak2 = some (eI cI (31 * k) f2) := (congrFun e_w5 _).trans ((mwu_ne (mw_ao h_w4_ak2 h_w4_h0)).trans h_w4_ak2)
    have h_w5_al2 : w5 al2 = some (eI cI 31 (lnF ln2)) := (congrFun e_w5 _).trans ((mwu_ne (mw_ao h_w4_al2 h_w4_h0)).trans h_w4_al2)
    have h_w5_aw2 : w5 aw2 = some (eI cI 31 (lnF tr2)) := (congrFun e_w5 _).trans ((mwu_ne (mw_ao h_w4_aw2 h_w4_h0)).trans h_w4_aw2)
    have fr_w5 : ∀ zz : Nat, zz ≠ h0 → w5 zz = w zz := fun zz g0 => (congrFun e_w5 zz).trans ((mwu_ne g0).trans (fr_w4 zz g0))
    refine mg_aload_n C dX6_merge_84 rfl ?_
    refine mg_aload C dX6_merge_85 rfl ?_
    refine mg_callU_v C h_w5_h0 rfl (rest := []) (c_X3_join D cI cS w5 h0 h1 ak al aw ak2 al2 aw2 k sd (tot + tot2) (nI (mv + mv2)) er tot2 (nI mv2) er2 f f2 ln tr ln2 tr2 h_w5_h0 h_w5_ak h_w5_al h_w5_aw h_w5_h1 h_w5_ak2 h_w5_al2 h_w5_aw2 hk1 hk2 hd1 hd2 hd3 hok hok2 hx_ak_ak2 hx_ak_al2 hx_ak_aw2 hx_al_ak2 hx_al_al2 hx_al_aw2 hx_aw_ak2 hx_aw_al2 hx_aw_aw2 hn0) yq_X3_join kw_388 kw_389 dq_join (by decide +kernel) kw_411 kw_410 ⟨by decide, by decide⟩ ⟨Nat.le_of_ble_eq_true rfl, Nat.le_of_ble_eq_true rfl⟩ (Nat.le_of_ble_eq_true rfl) rfl rfl dX6_merge_87 (fun w6 ⟨xc6h0, xc6ak, xc6al, xc6aw, xf6⟩ => ?_)
    have h_w6_ox : w6 ox = some (.inr (5, [.ref as, .int (nI md)])) := (xf6 ox (mw_ci h_w5_ox h_w5_h0 (by decide)) (mw_oa h_w5_ox h_w5_ak) (mw_oa h_w5_ox h_w5_al) (mw_oa h_w5_ox h_w5_aw)).trans h_w5_ox
    have h_w6_as : w6 as = some (eR cS 8 g0) := (xf6 as (mw_ao h_w5_as h_w5_h0) (mw_ri h_w5_as h_w5_ak) (mw_ri h_w5_as h_w5_al) (mw_ri h_w5_as h_w5_aw)).trans h_w5_as
    have h_w6_h1 : w6 h1 = some (.inr (3, [.int (nI 4), .int (nI k), .int (nI sd), .int tot2, .int (nI mv2), .ref ak2, .ref al2, .ref aw2, .int er2])) := (xf6 h1 (Ne.symm hn0) (mw_oa h_w5_h1 h_w5_ak) (mw_oa h_w5_h1 h_w5_al) (mw_oa h_w5_h1 h_w5_aw)).trans h_w5_h1
    have h_w6_ak2 : w6 ak2 = some (eI cI (31 * k) f2) := (xf6 ak2 (mw_ao h_w5_ak2 h_w5_h0) (Ne.symm hx_ak_ak2) (Ne.symm hx_al_ak2) (Ne.symm hx_aw_ak2)).trans h_w5_ak2
    have h_w6_al2 : w6 al2 = some (eI cI 31 (lnF ln2)) := (xf6 al2 (mw_ao h_w5_al2 h_w5_h0) (Ne.symm hx_ak_al2) (Ne.symm hx_al_al2) (Ne.symm hx_aw_al2)).trans h_w5_al2
    have h_w6_aw2 : w6 aw2 = some (eI cI 31 (lnF tr2)) := (xf6 aw2 (mw_ao h_w5_aw2 h_w5_h0) (Ne.symm hx_ak_aw2) (Ne.symm hx_al_aw2) (Ne.symm hx_aw_aw2)).trans h_w5_aw2
    have fr_w6 : ∀ zz : Nat, zz ≠ h0 → zz ≠ ak → zz ≠ al → zz ≠ aw → w6 zz = w zz := fun zz g0 g1 g2 g3 => (xf6 zz g0 g1 g2 g3).trans (fr_w5 zz g0)
    refine mg_aload_n C dX6_merge_90 rfl ?_
    refine mg_get C inT3 xc6h0 rfl 3 (by decide) kw_205 (Or.inl rfl) rfl dX6_merge_91 ?_
    refine mg_ldc C (v := nI 10000000) dX6_merge_94 kw_207 (by decide) ?_
    refine mg_iadd C (z := (tot + tot2) + (nI 10000000)) dX6_merge_96 rfl ?_
    exact hR _ _ _ _ dX6_merge_97 (Or.inr ⟨c_50, rfl, xc6h0, xc6ak, xc6al, xc6aw, fun z q0 q1 q2 q3 => fr_w6 z q0 q1 q2 q3⟩)
  · refine mg_bipush C (v := (-3 : Int32)) dX6_merge_53 (by decide) ?_
    exact hR _ _ _ _ dX6_merge_55 (Or.inl ⟨c_50, rfl, rfl⟩)

set_option maxHeartbeats 4000000 in
set_option maxRecDepth 20000 in
theorem c_X6_init (D : va_G) (cI cS : ClassId) (w : mwT) (ox : Nat) (hox : w ox = some (.inr (5, [.null, .int 0]))) : mMv yX6_init cX6_init 1 none (rmA 1 1 8) [.ref ox] D cI cS w (fun w1 => ∃ q : Nat, w q = none ∧ w1 ox = some (.inr (5, [.ref q, .int (nI 0)])) ∧ w1 q = some (eR cS 8 (fun _ => none)) ∧ ∀ z : Nat, z ≠ ox → z ≠ q → w1 z = w z) := by
  refine mMv.of (by decide) (Nat.le_of_ble_eq_true rfl) ?_
  intro X C hN hR
  have fr_w : ∀ zz : Nat, w zz = w zz := fun _ => rfl
  refine mg_sub (lv' := [(0, .ref ox)]) [0] rfl ?_
  refine mg_aload_n C dX6_init_0 rfl ?_
  refine mg_objInit C kw_9 ⟨Nat.le_of_ble_eq_true rfl, Nat.le_of_ble_eq_true rfl⟩ dX6_init_1 ?_
  refine mg_aload_n C dX6_init_4 rfl ?_
  refine mg_bipush C (v := nI 8) dX6_init_5 (by decide) ?_
  refine mg_newq C kw_12 (by omega) ⟨by decide, by decide⟩ dX6_init_7 (fun q1 w2 n_q1 e_w2 => ?_)
  refine mg_widen (k := 1) (n := 8) (by decide) (by decide) ?_
  have nd_q1_ox : ox ≠ q1 := mw_nn hox n_q1
  have nz_q1 : w q1 = none := (fr_w q1 ).symm.trans n_q1
  have h_w2_ox : w2 ox = some (.inr (5, [.null, .int 0])) := (congrFun e_w2 _).trans ((mwu_ne nd_q1_ox).trans hox)
  have h_w2_q1 : w2 q1 = some (eR cS 8 (fun _ => none)) := (congrFun e_w2 _).trans mwu_eq
  have fr_w2 : ∀ zz : Nat, zz ≠ q1 → w2 zz = w zz := fun zz g0 => (congrFun e_w2 zz).trans ((mwu_ne g0).trans (fr_w zz ))
  refine mg_putF C (fs' := [.ref q1, .int 0]) inT6 h_w2_ox rfl 0 (by decide) kw_13 (Or.inl rfl) tyX6_ok nmX6 rfl hN rfl rfl rfl rfl (Nat.le_of_ble_eq_true rfl) dX6_init_10 (fun w3 e_w3 => ?_)
  have h_w3_ox : w3 ox = some (.inr (5, [.ref q1, .int 0])) := (congrFun e_w3 _).trans mwu_eq
  have h_w3_q1 : w3 q1 = some (eR cS 8 (fun _ => none)) := (congrFun e_w3 _).trans ((mwu_ne (Ne.symm nd_q1_ox)).trans h_w2_q1)
  have fr_w3 : ∀ zz : Nat, zz ≠ q1 → zz ≠ ox → w3 zz = w zz := fun zz g0 g1 => (congrFun e_w3 zz).trans ((mwu_ne g1).trans (fr_w2 zz g0))
  refine mg_aload_n C dX6_init_13 rfl ?_
  refine mg_iconst C (v := nI 0) dX6_init_14 (by decide) ?_
  refine mg_put C (fs' := [.ref q1, .int (nI 0)]) inT6 h_w3_ox rfl 1 (by decide) kw_14 (Or.inl rfl) tyX6_ok nmX6 rfl rfl rfl rfl (Nat.le_of_ble_eq_true rfl) dX6_init_15 (fun w4 e_w4 => ?_)
  have h_w4_ox : w4 ox = some (.inr (5, [.ref q1, .int (nI 0)])) := (congrFun e_w4 _).trans mwu_eq
  have h_w4_q1 : w4 q1 = some (eR cS 8 (fun _ => none)) := (congrFun e_w4 _).trans ((mwu_ne (Ne.symm nd_q1_ox)).trans h_w3_q1)
  have fr_w4 : ∀ zz : Nat, zz ≠ q1 → zz ≠ ox → w4 zz = w zz := fun zz g0 g1 => (congrFun e_w4 zz).trans ((mwu_ne g1).trans (fr_w3 zz g0 g1))
  exact hR _ _ _ dX6_init_18 ⟨q1, nz_q1, h_w4_ox, h_w4_q1, fun z q0 q1 => fr_w4 z q1 q0⟩

set_option maxHeartbeats 4000000 in
set_option maxRecDepth 20000 in
theorem c_X6_newSketch_F (D : va_G) (cI cS : ClassId) (w : mwT) (b sd : Nat) (hb1 : 16 ≤ b) (hb2 : b ≤ 512) : mMq yX6_newSketch cX6_newSketch 3 (some (.object "SketchSpans$Sketch")) (rmA 4 2 518) [.int (nI 2), .int (nI b), .int (nI sd)] D cI cS w (fun r w1 => ∃ q qa : Nat, r = some q ∧ w q = none ∧ w qa = none ∧ q ≠ qa ∧ w1 q = some (.inr (0, [.int (nI 2), .int (nI b), .int (nI sd), .int (nI 0), .int (nI 0), .ref qa])) ∧ w1 qa = some (eI cI b (fun _ => 0)) ∧ ∀ z : Nat, z ≠ q → z ≠ qa → w1 z = w z) := by
  refine mMq.of (by decide) (Nat.le_of_ble_eq_true rfl) ?_
  intro X C hN hR
  have fr_w : ∀ zz : Nat, w zz = w zz := fun _ => rfl
  refine mg_sub (lv' := [(0, .int (nI 2)), (1, .int (nI b)), (2, .int (nI sd))]) [0, 1, 2] rfl ?_
  refine mg_iload_n C dX6_newSketch_0 rfl ?_
  refine mg_tabIn C (tgt := 52) (off := 51) dX6_newSketch_1 (by decide) (by decide) rfl (by decide) ?_
  refine mg_new C (ci := 0) (fs := [.int 0, .int 0, .int 0, .int 0, .int 0, .null]) inT0 tyX0_ok kw_53 kw_54 kw_55 rfl df_X0 ⟨by decide, by decide⟩ dX6_newSketch_52 (fun q1 w2 n_q1 e_w2 => ?_)
  refine mg_widen (k := 1) (n := 6) (by decide) (by decide) ?_
  have nz_q1 : w q1 = none := (fr_w q1 ).symm.trans n_q1
  have h_w2_q1 : w2 q1 = some (.inr (0, [.int 0, .int 0, .int 0, .int 0, .int 0, .null])) := (congrFun e_w2 _).trans mwu_eq
  have fr_w2 : ∀ zz : Nat, zz ≠ q1 → w2 zz = w zz := fun zz g0 => (congrFun e_w2 zz).trans ((mwu_ne g0).trans (fr_w zz ))
  refine mg_dup C dX6_newSketch_55 rfl ?_
  refine mg_iload_n C dX6_newSketch_56 rfl ?_
  refine mg_iload_n C dX6_newSketch_57 rfl ?_
  refine mg_callI_v C (rest := [.ref q1]) (c_X0_init D cI cS w2 q1 b sd h_w2_q1 hb1 hb2) yq_X0_init kw_84 kw_85 rfl ⟨by decide, by decide⟩ ⟨Nat.le_of_ble_eq_true rfl, Nat.le_of_ble_eq_true rfl⟩ (Nat.le_of_ble_eq_true rfl) rfl rfl dX6_newSketch_58 (fun w3 ⟨q3a, n_q3a, xh3, xkq3a, xf3⟩ => ?_)
  refine mg_widen (k := 2) (n := 518) (by decide) (by decide) ?_
  have nd_q3a_q1 : q1 ≠ q3a := mw_nn h_w2_q1 n_q3a
  have nz_q3a : w q3a = none := (fr_w2 q3a (Ne.symm nd_q3a_q1)).symm.trans n_q3a
  have fr_w3 : ∀ zz : Nat, zz ≠ q1 → zz ≠ q3a → w3 zz = w zz := fun zz g0 g1 => (xf3 zz g0 g1).trans (fr_w2 zz g0)
  exact hR (some q1) _ _ _ dX6_newSketch_61 ⟨q1, q3a, rfl, nz_q1, nz_q3a, nd_q3a_q1, xh3, xkq3a, fun z q0 q1 => fr_w3 z q0 q1⟩

set_option maxHeartbeats 4000000 in
set_option maxRecDepth 20000 in
theorem c_X6_newSketch_T (D : va_G) (cI cS : ClassId) (w : mwT) (c sd : Nat) (hc1 : 4 ≤ c) (hc2 : c ≤ 64) : mMq yX6_newSketch cX6_newSketch 3 (some (.object "SketchSpans$Sketch")) (rmA 4 2 262) [.int (nI 1), .int (nI c), .int (nI sd)] D cI cS w (fun r w1 => ∃ q qa : Nat, r = some q ∧ w q = none ∧ w qa = none ∧ q ≠ qa ∧ w1 q = some (.inr (4, [.int (nI 1), .int (nI c), .int (nI sd), .int (nI 0), .int (nI 0), .ref qa])) ∧ w1 qa = some (eI cI (4 * c) (fun _ => 0)) ∧ ∀ z : Nat, z ≠ q → z ≠ qa → w1 z = w z) := by
  refine mMq.of (by decide) (Nat.le_of_ble_eq_true rfl) ?_
  intro X C hN hR
  have fr_w : ∀ zz : Nat, w zz = w zz := fun _ => rfl
  refine mg_sub (lv' := [(0, .int (nI 1)), (1, .int (nI c)), (2, .int (nI sd))]) [0, 1, 2] rfl ?_
  refine mg_iload_n C dX6_newSketch_0 rfl ?_
  refine mg_tabIn C (tgt := 42) (off := 41) dX6_newSketch_1 (by decide) (by decide) rfl (by decide) ?_
  refine mg_new C (ci := 4) (fs := [.int 0, .int 0, .int 0, .int 0, .int 0, .null]) inT5 tyX5_ok kw_50 kw_51 kw_52 rfl df_X5 ⟨by decide, by decide⟩ dX6_newSketch_42 (fun q1 w2 n_q1 e_w2 => ?_)
  refine mg_widen (k := 1) (n := 6) (by decide) (by decide) ?_
  have nz_q1 : w q1 = none := (fr_w q1 ).symm.trans n_q1
  have h_w2_q1 : w2 q1 = some (.inr (4, [.int 0, .int 0, .int 0, .int 0, .int 0, .null])) := (congrFun e_w2 _).trans mwu_eq
  have fr_w2 : ∀ zz : Nat, zz ≠ q1 → w2 zz = w zz := fun zz g0 => (congrFun e_w2 zz).trans ((mwu_ne g0).trans (fr_w zz ))
  refine mg_dup C dX6_newSketch_45 rfl ?_
  refine mg_iload_n C dX6_newSketch_46 rfl ?_
  refine mg_iload_n C dX6_newSketch_47 rfl ?_
  refine mg_callI_v C (rest := [.ref q1]) (c_X5_init D cI cS w2 q1 c sd h_w2_q1 hc1 hc2) yq_X5_init kw_79 kw_80 rfl ⟨by decide, by decide⟩ ⟨Nat.le_of_ble_eq_true rfl, Nat.le_of_ble_eq_true rfl⟩ (Nat.le_of_ble_eq_true rfl) rfl rfl dX6_newSketch_48 (fun w3 ⟨q3a, n_q3a, xh3, xkq3a, xf3⟩ => ?_)
  refine mg_widen (k := 2) (n := 262) (by decide) (by decide) ?_
  have nd_q3a_q1 : q1 ≠ q3a := mw_nn h_w2_q1 n_q3a
  have nz_q3a : w q3a = none := (fr_w2 q3a (Ne.symm nd_q3a_q1)).symm.trans n_q3a
  have fr_w3 : ∀ zz : Nat, zz ≠ q1 → zz ≠ q3a → w3 zz = w zz := fun zz g0 g1 => (xf3 zz g0 g1).trans (fr_w2 zz g0)
  exact hR (some q1) _ _ _ dX6_newSketch_51 ⟨q1, q3a, rfl, nz_q1, nz_q3a, nd_q3a_q1, xh3, xkq3a, fun z q0 q1 => fr_w3 z q0 q1⟩

set_option maxHeartbeats 4000000 in
set_option maxRecDepth 20000 in
theorem c_X6_newSketch_L (D : va_G) (cI cS : ClassId) (w : mwT) (k sd : Nat) (hk1 : 2 ≤ k) (hk2 : k ≤ 32) : mMq yX6_newSketch cX6_newSketch 3 (some (.object "SketchSpans$Sketch")) (rmA 4 2 39) [.int (nI 3), .int (nI k), .int (nI sd)] D cI cS w (fun r w1 => ∃ q qa : Nat, r = some q ∧ w q = none ∧ w qa = none ∧ q ≠ qa ∧ w1 q = some (.inr (2, [.int (nI 3), .int (nI k), .int (nI sd), .int (nI 0), .int (nI 0), .ref qa, .int (nI 0)])) ∧ w1 qa = some (eI cI k (fun _ => 0)) ∧ ∀ z : Nat, z ≠ q → z ≠ qa → w1 z = w z) := by
  refine mMq.of (by decide) (Nat.le_of_ble_eq_true rfl) ?_
  intro X C hN hR
  have fr_w : ∀ zz : Nat, w zz = w zz := fun _ => rfl
  refine mg_sub (lv' := [(0, .int (nI 3)), (1, .int (nI k)), (2, .int (nI sd))]) [0, 1, 2] rfl ?_
  refine mg_iload_n C dX6_newSketch_0 rfl ?_
  refine mg_tabIn C (tgt := 62) (off := 61) dX6_newSketch_1 (by decide) (by decide) rfl (by decide) ?_
  refine mg_new C (ci := 2) (fs := [.int 0, .int 0, .int 0, .int 0, .int 0, .null, .int 0]) inT2 tyX2_ok kw_56 kw_57 kw_58 rfl df_X2 ⟨by decide, by decide⟩ dX6_newSketch_62 (fun q1 w2 n_q1 e_w2 => ?_)
  refine mg_widen (k := 1) (n := 7) (by decide) (by decide) ?_
  have nz_q1 : w q1 = none := (fr_w q1 ).symm.trans n_q1
  have h_w2_q1 : w2 q1 = some (.inr (2, [.int 0, .int 0, .int 0, .int 0, .int 0, .null, .int 0])) := (congrFun e_w2 _).trans mwu_eq
  have fr_w2 : ∀ zz : Nat, zz ≠ q1 → w2 zz = w zz := fun zz g0 => (congrFun e_w2 zz).trans ((mwu_ne g0).trans (fr_w zz ))
  refine mg_dup C dX6_newSketch_65 rfl ?_
  refine mg_iload_n C dX6_newSketch_66 rfl ?_
  refine mg_iload_n C dX6_newSketch_67 rfl ?_
  refine mg_callI_v C (rest := [.ref q1]) (c_X2_init D cI cS w2 q1 k sd h_w2_q1 hk1 hk2) yq_X2_init kw_89 kw_90 rfl ⟨by decide, by decide⟩ ⟨Nat.le_of_ble_eq_true rfl, Nat.le_of_ble_eq_true rfl⟩ (Nat.le_of_ble_eq_true rfl) rfl rfl dX6_newSketch_68 (fun w3 ⟨q3a, n_q3a, xh3, xkq3a, xf3⟩ => ?_)
  refine mg_widen (k := 2) (n := 39) (by decide) (by decide) ?_
  have nd_q3a_q1 : q1 ≠ q3a := mw_nn h_w2_q1 n_q3a
  have nz_q3a : w q3a = none := (fr_w2 q3a (Ne.symm nd_q3a_q1)).symm.trans n_q3a
  have fr_w3 : ∀ zz : Nat, zz ≠ q1 → zz ≠ q3a → w3 zz = w zz := fun zz g0 g1 => (xf3 zz g0 g1).trans (fr_w2 zz g0)
  exact hR (some q1) _ _ _ dX6_newSketch_71 ⟨q1, q3a, rfl, nz_q1, nz_q3a, nd_q3a_q1, xh3, xkq3a, fun z q0 q1 => fr_w3 z q0 q1⟩

set_option maxHeartbeats 4000000 in
set_option maxRecDepth 20000 in
theorem c_X6_newSketch_H (D : va_G) (cI cS : ClassId) (w : mwT) (k sd : Nat) (hk1 : 1 ≤ k) (hk2 : k ≤ 20) : mMq yX6_newSketch cX6_newSketch 3 (some (.object "SketchSpans$Sketch")) (rmA 4 3 89) [.int (nI 0), .int (nI k), .int (nI sd)] D cI cS w (fun r w1 => ∃ q qa qb : Nat, r = some q ∧ w q = none ∧ w qa = none ∧ w qb = none ∧ q ≠ qa ∧ q ≠ qb ∧ qa ≠ qb ∧ w1 q = some (.inr (1, [.int (nI 0), .int (nI k), .int (nI sd), .int (nI 0), .int (nI 0), .ref qa, .ref qb, .int (nI 0), .int (nI 0)])) ∧ w1 qa = some (eI cI (2 * k) (fun _ => 0)) ∧ w1 qb = some (eI cI (2 * k) (fun _ => 0)) ∧ ∀ z : Nat, z ≠ q → z ≠ qa → z ≠ qb → w1 z = w z) := by
  refine mMq.of (by decide) (Nat.le_of_ble_eq_true rfl) ?_
  intro X C hN hR
  have fr_w : ∀ zz : Nat, w zz = w zz := fun _ => rfl
  refine mg_sub (lv' := [(0, .int (nI 0)), (1, .int (nI k)), (2, .int (nI sd))]) [0, 1, 2] rfl ?_
  refine mg_iload_n C dX6_newSketch_0 rfl ?_
  refine mg_tabIn C (tgt := 32) (off := 31) dX6_newSketch_1 (by decide) (by decide) rfl (by decide) ?_
  refine mg_new C (ci := 1) (fs := [.int 0, .int 0, .int 0, .int 0, .int 0, .null, .null, .int 0, .int 0]) inT1 tyX1_ok kw_47 kw_48 kw_49 rfl df_X1 ⟨by decide, by decide⟩ dX6_newSketch_32 (fun q1 w2 n_q1 e_w2 => ?_)
  refine mg_widen (k := 1) (n := 9) (by decide) (by decide) ?_
  have nz_q1 : w q1 = none := (fr_w q1 ).symm.trans n_q1
  have h_w2_q1 : w2 q1 = some (.inr (1, [.int 0, .int 0, .int 0, .int 0, .int 0, .null, .null, .int 0, .int 0])) := (congrFun e_w2 _).trans mwu_eq
  have fr_w2 : ∀ zz : Nat, zz ≠ q1 → w2 zz = w zz := fun zz g0 => (congrFun e_w2 zz).trans ((mwu_ne g0).trans (fr_w zz ))
  refine mg_dup C dX6_newSketch_35 rfl ?_
  refine mg_iload_n C dX6_newSketch_36 rfl ?_
  refine mg_iload_n C dX6_newSketch_37 rfl ?_
  refine mg_callI_v C (rest := [.ref q1]) (c_X1_init D cI cS w2 q1 k sd h_w2_q1 hk1 hk2) yq_X1_init kw_62 kw_63 rfl ⟨by decide, by decide⟩ ⟨Nat.le_of_ble_eq_true rfl, Nat.le_of_ble_eq_true rfl⟩ (Nat.le_of_ble_eq_true rfl) rfl rfl dX6_newSketch_38 (fun w3 ⟨q3a, q3b, n_q3a, n_q3b, dd_q3b_q3a, xh3, xkq3a, xkq3b, xf3⟩ => ?_)
  refine mg_widen (k := 3) (n := 89) (by decide) (by decide) ?_
  have nd_q3a_q1 : q1 ≠ q3a := mw_nn h_w2_q1 n_q3a
  have nz_q3a : w q3a = none := (fr_w2 q3a (Ne.symm nd_q3a_q1)).symm.trans n_q3a
  have nd_q3b_q1 : q1 ≠ q3b := mw_nn h_w2_q1 n_q3b
  have nz_q3b : w q3b = none := (fr_w2 q3b (Ne.symm nd_q3b_q1)).symm.trans n_q3b
  have fr_w3 : ∀ zz : Nat, zz ≠ q1 → zz ≠ q3a → zz ≠ q3b → w3 zz = w zz := fun zz g0 g1 g2 => (xf3 zz g0 g1 g2).trans (fr_w2 zz g0)
  exact hR (some q1) _ _ _ dX6_newSketch_41 ⟨q1, q3a, q3b, rfl, nz_q1, nz_q3a, nz_q3b, nd_q3a_q1, nd_q3b_q1, dd_q3b_q3a, xh3, xkq3a, xkq3b, fun z q0 q1 q2 => fr_w3 z q0 q1 q2⟩

set_option maxHeartbeats 4000000 in
set_option maxRecDepth 20000 in
theorem c_X6_newSketch_R (D : va_G) (cI cS : ClassId) (w : mwT) (k sd : Nat) (hk1 : 4 ≤ k) (hk2 : k ≤ 32) : mMq yX6_newSketch cX6_newSketch 3 (some (.object "SketchSpans$Sketch")) (rmA 4 4 1063) [.int (nI 4), .int (nI k), .int (nI sd)] D cI cS w (fun r w1 => ∃ q qa qb qc : Nat, r = some q ∧ w q = none ∧ w qa = none ∧ w qb = none ∧ w qc = none ∧ q ≠ qa ∧ q ≠ qb ∧ q ≠ qc ∧ qa ≠ qb ∧ qa ≠ qc ∧ qb ≠ qc ∧ w1 q = some (.inr (3, [.int (nI 4), .int (nI k), .int (nI sd), .int (nI 0), .int (nI 0), .ref qa, .ref qb, .ref qc, .int (nI 0)])) ∧ w1 qa = some (eI cI (31 * k) (fun _ => 0)) ∧ w1 qb = some (eI cI 31 (fun _ => 0)) ∧ w1 qc = some (eI cI 31 (fun _ => 0)) ∧ ∀ z : Nat, z ≠ q → z ≠ qa → z ≠ qb → z ≠ qc → w1 z = w z) := by
  refine mMq.of (by decide) (Nat.le_of_ble_eq_true rfl) ?_
  intro X C hN hR
  have fr_w : ∀ zz : Nat, w zz = w zz := fun _ => rfl
  refine mg_sub (lv' := [(0, .int (nI 4)), (1, .int (nI k)), (2, .int (nI sd))]) [0, 1, 2] rfl ?_
  refine mg_iload_n C dX6_newSketch_0 rfl ?_
  refine mg_tabOut C (tgt := 72) dX6_newSketch_1 (by decide) (by decide) ?_
  refine mg_new C (ci := 3) (fs := [.int 0, .int 0, .int 0, .int 0, .int 0, .null, .null, .null, .int 0]) inT3 tyX3_ok kw_59 kw_60 kw_61 rfl df_X3 ⟨by decide, by decide⟩ dX6_newSketch_72 (fun q1 w2 n_q1 e_w2 => ?_)
  refine mg_widen (k := 1) (n := 9) (by decide) (by decide) ?_
  have nz_q1 : w q1 = none := (fr_w q1 ).symm.trans n_q1
  have h_w2_q1 : w2 q1 = some (.inr (3, [.int 0, .int 0, .int 0, .int 0, .int 0, .null, .null, .null, .int 0])) := (congrFun e_w2 _).trans mwu_eq
  have fr_w2 : ∀ zz : Nat, zz ≠ q1 → w2 zz = w zz := fun zz g0 => (congrFun e_w2 zz).trans ((mwu_ne g0).trans (fr_w zz ))
  refine mg_dup C dX6_newSketch_75 rfl ?_
  refine mg_iload_n C dX6_newSketch_76 rfl ?_
  refine mg_iload_n C dX6_newSketch_77 rfl ?_
  refine mg_callI_v C (rest := [.ref q1]) (c_X3_init D cI cS w2 q1 k sd h_w2_q1 hk1 hk2) yq_X3_init kw_95 kw_96 rfl ⟨by decide, by decide⟩ ⟨Nat.le_of_ble_eq_true rfl, Nat.le_of_ble_eq_true rfl⟩ (Nat.le_of_ble_eq_true rfl) rfl rfl dX6_newSketch_78 (fun w3 ⟨q3a, q3b, q3c, n_q3a, n_q3b, n_q3c, dd_q3b_q3a, dd_q3c_q3a, dd_q3c_q3b, xh3, xkq3a, xkq3b, xkq3c, xf3⟩ => ?_)
  refine mg_widen (k := 4) (n := 1063) (by decide) (by decide) ?_
  have nd_q3a_q1 : q1 ≠ q3a := mw_nn h_w2_q1 n_q3a
  have nz_q3a : w q3a = none := (fr_w2 q3a (Ne.symm nd_q3a_q1)).symm.trans n_q3a
  have nd_q3b_q1 : q1 ≠ q3b := mw_nn h_w2_q1 n_q3b
  have nz_q3b : w q3b = none := (fr_w2 q3b (Ne.symm nd_q3b_q1)).symm.trans n_q3b
  have nd_q3c_q1 : q1 ≠ q3c := mw_nn h_w2_q1 n_q3c
  have nz_q3c : w q3c = none := (fr_w2 q3c (Ne.symm nd_q3c_q1)).symm.trans n_q3c
  have fr_w3 : ∀ zz : Nat, zz ≠ q1 → zz ≠ q3a → zz ≠ q3b → zz ≠ q3c → w3 zz = w zz := fun zz g0 g1 g2 g3 => (xf3 zz g0 g1 g2 g3).trans (fr_w2 zz g0)
  exact hR (some q1) _ _ _ dX6_newSketch_81 ⟨q1, q3a, q3b, q3c, rfl, nz_q1, nz_q3a, nz_q3b, nz_q3c, nd_q3a_q1, nd_q3b_q1, nd_q3c_q1, dd_q3b_q3a, dd_q3c_q3a, dd_q3c_q3b, xh3, xkq3a, xkq3b, xkq3c, fun z q0 q1 q2 q3 => fr_w3 z q0 q1 q2 q3⟩
