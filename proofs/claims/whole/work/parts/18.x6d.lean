set_option maxHeartbeats 4000000 in
set_option maxRecDepth 20000 in
theorem c_X6_low_F (D : va_G) (cI cS : ClassId) (w : mwT) (ox as md a : Nat) (g0 : Nat → Option Nat) (h0 ab b sd mv : Nat) (tot : Int32) (f : Nat → Int32) (x : Int32) (hox : w ox = some (.inr (5, [.ref as, .int (nI md)]))) (has : w as = some (eR cS 8 g0)) (hh : w h0 = some (.inr (0, [.int (nI 2), .int (nI b), .int (nI sd), .int tot, .int (nI mv), .ref ab]))) (h_ab : w ab = some (eI cI b f)) (hmd : md ≤ 8) (ha : a < md) (hg : g0 a = some h0) (hs : sd ≤ 999) (hb1 : 16 ≤ b) (hb2 : b ≤ 512) : mMi yX6_low cX6_low 4 (some .int) (rmL 8) [.ref ox, .int (nI a), .int x] D cI cS w (fun r w1 => ((¬ rg 9999 x ∧ r = -1) ∨ (∃ xa : Nat, xa ≤ 9999 ∧ x = nI xa ∧ r = -1)) ∧ w1 = w) := by
  refine mMi.of (by decide) (Nat.le_of_ble_eq_true rfl) ?_
  intro X C hN hR
  refine mg_sub (lv' := [(0, .ref ox), (1, .int (nI a)), (2, .int x)]) [0, 1, 2] rfl ?_
  refine mg_aload_n C dX6_low_0 rfl ?_
  refine mg_iload_n C dX6_low_1 rfl ?_
  refine mg_callV_q C hox rfl (rest := []) (c_X6_find_in D cI cS w ox as md g0 a hox has hmd ha) yq_X6_find kw_123 kw_124 kw_125 ⟨by decide, by decide⟩ ⟨Nat.le_of_ble_eq_true rfl, Nat.le_of_ble_eq_true rfl⟩ (Nat.le_of_ble_eq_true rfl) rfl rfl dX6_low_2 (fun r1 w1 ⟨xe1, xk1⟩ => ?_)
  rw [xk1, xe1, hg]
  refine mg_astore_n C (lv' := [(3, .ref h0), (0, .ref ox), (1, .int (nI a)), (2, .int x)]) dX6_low_5 rfl (by decide) rfl ?_
  refine mg_aload_n C dX6_low_6 rfl ?_
  refine mg_ifnull C dX6_low_7 ?_
  refine mg_iload_n C dX6_low_10 rfl ?_
  refine mg_callS_i C (rest := []) (c_X6_isKey D cI cS w x) yq_X6_isKey kw_240 kw_241 ⟨by decide, by decide⟩ ⟨Nat.le_of_ble_eq_true rfl, Nat.le_of_ble_eq_true rfl⟩ (Nat.le_of_ble_eq_true rfl) rfl rfl dX6_low_11 (fun r2 w2 ⟨xa2, xk2⟩ => ?_)
  rw [xk2]
  rcases xa2 with ⟨ra2, hy_key⟩ | ⟨ra2, hy_key⟩
  · rw [ra2]
    refine mg_ifN_ne C (tgt := 21) dX6_low_14 (by decide) (by decide) (fun c_14 => ?_) (fun c_14 => absurd c_14 (by decide))
    obtain ⟨xa, hxa, rfl⟩ := hy_key
    refine mg_aload_n C dX6_low_21 rfl ?_
    refine mg_iload_n C dX6_low_22 rfl ?_
    refine mg_callU_i C hh rfl (rest := []) (c_X4_atLeast D cI cS w h0 (nI xa)) yq_X4_atLeast kw_438 kw_439 dq_atLeast (by decide +kernel) kw_441 kw_440 ⟨by decide, by decide⟩ ⟨Nat.le_of_ble_eq_true rfl, Nat.le_of_ble_eq_true rfl⟩ (Nat.le_of_ble_eq_true rfl) rfl rfl dX6_low_23 (fun r3 w3 ⟨xe3, xk3⟩ => ?_)
    rw [xk3, xe3]
    exact hR _ _ _ _ dX6_low_26 ⟨Or.inr ⟨xa, hxa, rfl, rfl⟩, rfl⟩
  · rw [ra2]
    refine mg_ifN_ne C (tgt := 21) dX6_low_14 (by decide) (by decide) (fun c_14 => absurd c_14 (by decide)) (fun c_14 => ?_)
    refine mg_iconst C (v := (-1 : Int32)) dX6_low_17 (by decide) ?_
    refine mg_goto C (tgt := 26) dX6_low_18 (by decide) ?_
    exact hR _ _ _ _ dX6_low_26 ⟨Or.inl ⟨hy_key, rfl⟩, rfl⟩

set_option maxHeartbeats 4000000 in
set_option maxRecDepth 20000 in
theorem c_X6_high_F (D : va_G) (cI cS : ClassId) (w : mwT) (ox as md a : Nat) (g0 : Nat → Option Nat) (h0 ab b sd mv : Nat) (tot : Int32) (f : Nat → Int32) (x : Int32) (hox : w ox = some (.inr (5, [.ref as, .int (nI md)]))) (has : w as = some (eR cS 8 g0)) (hh : w h0 = some (.inr (0, [.int (nI 2), .int (nI b), .int (nI sd), .int tot, .int (nI mv), .ref ab]))) (h_ab : w ab = some (eI cI b f)) (hmd : md ≤ 8) (ha : a < md) (hg : g0 a = some h0) (hs : sd ≤ 999) (hb1 : 16 ≤ b) (hb2 : b ≤ 512) : mMi yX6_high cX6_high 4 (some .int) (rmL 8) [.ref ox, .int (nI a), .int x] D cI cS w (fun r w1 => ((¬ rg 9999 x ∧ r = -1) ∨ (∃ xa : Nat, xa ≤ 9999 ∧ x = nI xa ∧ r = -1)) ∧ w1 = w) := by
  refine mMi.of (by decide) (Nat.le_of_ble_eq_true rfl) ?_
  intro X C hN hR
  refine mg_sub (lv' := [(0, .ref ox), (1, .int (nI a)), (2, .int x)]) [0, 1, 2] rfl ?_
  refine mg_aload_n C dX6_high_0 rfl ?_
  refine mg_iload_n C dX6_high_1 rfl ?_
  refine mg_callV_q C hox rfl (rest := []) (c_X6_find_in D cI cS w ox as md g0 a hox has hmd ha) yq_X6_find kw_123 kw_124 kw_125 ⟨by decide, by decide⟩ ⟨Nat.le_of_ble_eq_true rfl, Nat.le_of_ble_eq_true rfl⟩ (Nat.le_of_ble_eq_true rfl) rfl rfl dX6_high_2 (fun r1 w1 ⟨xe1, xk1⟩ => ?_)
  rw [xk1, xe1, hg]
  refine mg_astore_n C (lv' := [(3, .ref h0), (0, .ref ox), (1, .int (nI a)), (2, .int x)]) dX6_high_5 rfl (by decide) rfl ?_
  refine mg_aload_n C dX6_high_6 rfl ?_
  refine mg_ifnull C dX6_high_7 ?_
  refine mg_iload_n C dX6_high_10 rfl ?_
  refine mg_callS_i C (rest := []) (c_X6_isKey D cI cS w x) yq_X6_isKey kw_240 kw_241 ⟨by decide, by decide⟩ ⟨Nat.le_of_ble_eq_true rfl, Nat.le_of_ble_eq_true rfl⟩ (Nat.le_of_ble_eq_true rfl) rfl rfl dX6_high_11 (fun r2 w2 ⟨xa2, xk2⟩ => ?_)
  rw [xk2]
  rcases xa2 with ⟨ra2, hy_key⟩ | ⟨ra2, hy_key⟩
  · rw [ra2]
    refine mg_ifN_ne C (tgt := 21) dX6_high_14 (by decide) (by decide) (fun c_14 => ?_) (fun c_14 => absurd c_14 (by decide))
    obtain ⟨xa, hxa, rfl⟩ := hy_key
    refine mg_aload_n C dX6_high_21 rfl ?_
    refine mg_iload_n C dX6_high_22 rfl ?_
    refine mg_callU_i C hh rfl (rest := []) (c_X4_atMost D cI cS w h0 (nI xa)) yq_X4_atMost kw_483 kw_484 dq_atMost (by decide +kernel) kw_486 kw_485 ⟨by decide, by decide⟩ ⟨Nat.le_of_ble_eq_true rfl, Nat.le_of_ble_eq_true rfl⟩ (Nat.le_of_ble_eq_true rfl) rfl rfl dX6_high_23 (fun r3 w3 ⟨xe3, xk3⟩ => ?_)
    rw [xk3, xe3]
    exact hR _ _ _ _ dX6_high_26 ⟨Or.inr ⟨xa, hxa, rfl, rfl⟩, rfl⟩
  · rw [ra2]
    refine mg_ifN_ne C (tgt := 21) dX6_high_14 (by decide) (by decide) (fun c_14 => absurd c_14 (by decide)) (fun c_14 => ?_)
    refine mg_iconst C (v := (-1 : Int32)) dX6_high_17 (by decide) ?_
    refine mg_goto C (tgt := 26) dX6_high_18 (by decide) ?_
    exact hR _ _ _ _ dX6_high_26 ⟨Or.inl ⟨hy_key, rfl⟩, rfl⟩

set_option maxHeartbeats 4000000 in
set_option maxRecDepth 20000 in
theorem c_X6_has_F (D : va_G) (cI cS : ClassId) (w : mwT) (ox as md a : Nat) (g0 : Nat → Option Nat) (h0 ab b sd mv : Nat) (tot : Int32) (f : Nat → Int32) (x : Int32) (hox : w ox = some (.inr (5, [.ref as, .int (nI md)]))) (has : w as = some (eR cS 8 g0)) (hh : w h0 = some (.inr (0, [.int (nI 2), .int (nI b), .int (nI sd), .int tot, .int (nI mv), .ref ab]))) (h_ab : w ab = some (eI cI b f)) (hmd : md ≤ 8) (ha : a < md) (hg : g0 a = some h0) (hs : sd ≤ 999) (hb1 : 16 ≤ b) (hb2 : b ≤ 512) : mMi yX6_has cX6_has 4 (some .int) (rmL 8) [.ref ox, .int (nI a), .int x] D cI cS w (fun r w1 => ((¬ rg 9999 x ∧ r = -1) ∨ (∃ xa : Nat, xa ≤ 9999 ∧ x = nI xa ∧ r = hlF f sd xa b 4)) ∧ w1 = w) := by
  refine mMi.of (by decide) (Nat.le_of_ble_eq_true rfl) ?_
  intro X C hN hR
  refine mg_sub (lv' := [(0, .ref ox), (1, .int (nI a)), (2, .int x)]) [0, 1, 2] rfl ?_
  refine mg_aload_n C dX6_has_0 rfl ?_
  refine mg_iload_n C dX6_has_1 rfl ?_
  refine mg_callV_q C hox rfl (rest := []) (c_X6_find_in D cI cS w ox as md g0 a hox has hmd ha) yq_X6_find kw_123 kw_124 kw_125 ⟨by decide, by decide⟩ ⟨Nat.le_of_ble_eq_true rfl, Nat.le_of_ble_eq_true rfl⟩ (Nat.le_of_ble_eq_true rfl) rfl rfl dX6_has_2 (fun r1 w1 ⟨xe1, xk1⟩ => ?_)
  rw [xk1, xe1, hg]
  refine mg_astore_n C (lv' := [(3, .ref h0), (0, .ref ox), (1, .int (nI a)), (2, .int x)]) dX6_has_5 rfl (by decide) rfl ?_
  refine mg_aload_n C dX6_has_6 rfl ?_
  refine mg_ifnull C dX6_has_7 ?_
  refine mg_iload_n C dX6_has_10 rfl ?_
  refine mg_callS_i C (rest := []) (c_X6_isKey D cI cS w x) yq_X6_isKey kw_240 kw_241 ⟨by decide, by decide⟩ ⟨Nat.le_of_ble_eq_true rfl, Nat.le_of_ble_eq_true rfl⟩ (Nat.le_of_ble_eq_true rfl) rfl rfl dX6_has_11 (fun r2 w2 ⟨xa2, xk2⟩ => ?_)
  rw [xk2]
  rcases xa2 with ⟨ra2, hy_key⟩ | ⟨ra2, hy_key⟩
  · rw [ra2]
    refine mg_ifN_ne C (tgt := 21) dX6_has_14 (by decide) (by decide) (fun c_14 => ?_) (fun c_14 => absurd c_14 (by decide))
    obtain ⟨xa, hxa, rfl⟩ := hy_key
    refine mg_aload_n C dX6_has_21 rfl ?_
    refine mg_iload_n C dX6_has_22 rfl ?_
    refine mg_callU_i C hh rfl (rest := []) (c_X0_holds D cI cS w h0 ab b sd tot (nI mv) f xa hh h_ab hs hb1 hb2 hxa) yq_X0_holds kw_514 kw_515 dq_holds (by decide +kernel) kw_518 kw_517 ⟨by decide, by decide⟩ ⟨Nat.le_of_ble_eq_true rfl, Nat.le_of_ble_eq_true rfl⟩ (Nat.le_of_ble_eq_true rfl) rfl rfl dX6_has_23 (fun r3 w3 ⟨xe3, xk3⟩ => ?_)
    rw [xk3, xe3]
    exact hR _ _ _ _ dX6_has_26 ⟨Or.inr ⟨xa, hxa, rfl, rfl⟩, rfl⟩
  · rw [ra2]
    refine mg_ifN_ne C (tgt := 21) dX6_has_14 (by decide) (by decide) (fun c_14 => absurd c_14 (by decide)) (fun c_14 => ?_)
    refine mg_iconst C (v := (-1 : Int32)) dX6_has_17 (by decide) ?_
    refine mg_goto C (tgt := 26) dX6_has_18 (by decide) ?_
    exact hR _ _ _ _ dX6_has_26 ⟨Or.inl ⟨hy_key, rfl⟩, rfl⟩

set_option maxHeartbeats 4000000 in
set_option maxRecDepth 20000 in
theorem c_X6_distinct_F (D : va_G) (cI cS : ClassId) (w : mwT) (ox as md a : Nat) (g0 : Nat → Option Nat) (h0 ab b sd mv : Nat) (tot : Int32) (f : Nat → Int32) (hox : w ox = some (.inr (5, [.ref as, .int (nI md)]))) (has : w as = some (eR cS 8 g0)) (hh : w h0 = some (.inr (0, [.int (nI 2), .int (nI b), .int (nI sd), .int tot, .int (nI mv), .ref ab]))) (h_ab : w ab = some (eI cI b f)) (hmd : md ≤ 8) (ha : a < md) (hg : g0 a = some h0) (hs : sd ≤ 999) (hb1 : 16 ≤ b) (hb2 : b ≤ 512) : mMi yX6_distinct cX6_distinct 3 (some .int) (rmL 8) [.ref ox, .int (nI a)] D cI cS w (fun r w1 => r = -1 ∧ w1 = w) := by
  refine mMi.of (by decide) (Nat.le_of_ble_eq_true rfl) ?_
  intro X C hN hR
  refine mg_sub (lv' := [(0, .ref ox), (1, .int (nI a))]) [0, 1] rfl ?_
  refine mg_aload_n C dX6_distinct_0 rfl ?_
  refine mg_iload_n C dX6_distinct_1 rfl ?_
  refine mg_callV_q C hox rfl (rest := []) (c_X6_find_in D cI cS w ox as md g0 a hox has hmd ha) yq_X6_find kw_123 kw_124 kw_125 ⟨by decide, by decide⟩ ⟨Nat.le_of_ble_eq_true rfl, Nat.le_of_ble_eq_true rfl⟩ (Nat.le_of_ble_eq_true rfl) rfl rfl dX6_distinct_2 (fun r1 w1 ⟨xe1, xk1⟩ => ?_)
  rw [xk1, xe1, hg]
  refine mg_astore_n C (lv' := [(2, .ref h0), (0, .ref ox), (1, .int (nI a))]) dX6_distinct_5 rfl (by decide) rfl ?_
  refine mg_aload_n C dX6_distinct_6 rfl ?_
  refine mg_ifnonnull C (tgt := 14) dX6_distinct_7 (by decide) ?_
  refine mg_aload_n C dX6_distinct_14 rfl ?_
  refine mg_callU_i C hh rfl (rest := []) (c_X4_differentKeys D cI cS w h0) yq_X4_differentKeys kw_536 kw_537 dq_differentKeys (by decide +kernel) kw_539 kw_538 ⟨by decide, by decide⟩ ⟨Nat.le_of_ble_eq_true rfl, Nat.le_of_ble_eq_true rfl⟩ (Nat.le_of_ble_eq_true rfl) rfl rfl dX6_distinct_15 (fun r2 w2 ⟨xe2, xk2⟩ => ?_)
  rw [xk2, xe2]
  exact hR _ _ _ _ dX6_distinct_18 ⟨rfl, rfl⟩

set_option maxHeartbeats 4000000 in
set_option maxRecDepth 20000 in
theorem c_X6_quantile_F (D : va_G) (cI cS : ClassId) (w : mwT) (ox as md a : Nat) (g0 : Nat → Option Nat) (h0 ab b sd mv : Nat) (tot : Int32) (f : Nat → Int32) (q : Int32) (hox : w ox = some (.inr (5, [.ref as, .int (nI md)]))) (has : w as = some (eR cS 8 g0)) (hh : w h0 = some (.inr (0, [.int (nI 2), .int (nI b), .int (nI sd), .int tot, .int (nI mv), .ref ab]))) (h_ab : w ab = some (eI cI b f)) (hmd : md ≤ 8) (ha : a < md) (hg : g0 a = some h0) (hs : sd ≤ 999) (hb1 : 16 ≤ b) (hb2 : b ≤ 512) : mMi yX6_quantile cX6_quantile 4 (some .int) (rmL 8) [.ref ox, .int (nI a), .int q] D cI cS w (fun r w1 => r = -1 ∧ w1 = w) := by
  refine mMi.of (by decide) (Nat.le_of_ble_eq_true rfl) ?_
  intro X C hN hR
  refine mg_sub (lv' := [(0, .ref ox), (1, .int (nI a)), (2, .int q)]) [0, 1, 2] rfl ?_
  refine mg_aload_n C dX6_quantile_0 rfl ?_
  refine mg_iload_n C dX6_quantile_1 rfl ?_
  refine mg_callV_q C hox rfl (rest := []) (c_X6_find_in D cI cS w ox as md g0 a hox has hmd ha) yq_X6_find kw_123 kw_124 kw_125 ⟨by decide, by decide⟩ ⟨Nat.le_of_ble_eq_true rfl, Nat.le_of_ble_eq_true rfl⟩ (Nat.le_of_ble_eq_true rfl) rfl rfl dX6_quantile_2 (fun r1 w1 ⟨xe1, xk1⟩ => ?_)
  rw [xk1, xe1, hg]
  refine mg_astore_n C (lv' := [(3, .ref h0), (0, .ref ox), (1, .int (nI a)), (2, .int q)]) dX6_quantile_5 rfl (by decide) rfl ?_
  refine mg_aload_n C dX6_quantile_6 rfl ?_
  refine mg_ifnonnull C (tgt := 14) dX6_quantile_7 (by decide) ?_
  refine mg_aload_n C dX6_quantile_14 rfl ?_
  refine mg_iload_n C dX6_quantile_15 rfl ?_
  refine mg_callU_i C hh rfl (rest := []) (c_X4_keyAtRank D cI cS w h0 q) yq_X4_keyAtRank kw_557 kw_558 dq_keyAtRank (by decide +kernel) kw_560 kw_559 ⟨by decide, by decide⟩ ⟨Nat.le_of_ble_eq_true rfl, Nat.le_of_ble_eq_true rfl⟩ (Nat.le_of_ble_eq_true rfl) rfl rfl dX6_quantile_16 (fun r2 w2 ⟨xe2, xk2⟩ => ?_)
  rw [xk2, xe2]
  exact hR _ _ _ _ dX6_quantile_19 ⟨rfl, rfl⟩

set_option maxHeartbeats 4000000 in
set_option maxRecDepth 20000 in
theorem c_X6_kept_F (D : va_G) (cI cS : ClassId) (w : mwT) (ox as md a : Nat) (g0 : Nat → Option Nat) (h0 ab b sd mv : Nat) (tot : Int32) (f : Nat → Int32) (i pt : Int32) (hox : w ox = some (.inr (5, [.ref as, .int (nI md)]))) (has : w as = some (eR cS 8 g0)) (hh : w h0 = some (.inr (0, [.int (nI 2), .int (nI b), .int (nI sd), .int tot, .int (nI mv), .ref ab]))) (h_ab : w ab = some (eI cI b f)) (hmd : md ≤ 8) (ha : a < md) (hg : g0 a = some h0) (hs : sd ≤ 999) (hb1 : 16 ≤ b) (hb2 : b ≤ 512) : mMi yX6_kept cX6_kept 5 (some .int) (rmL 8) [.ref ox, .int (nI a), .int i, .int pt] D cI cS w (fun r w1 => ((∃ c : Nat, c < b ∧ i = nI c ∧ pt = 0 ∧ r = f c) ∨ (r = -1 ∧ ¬ (ixN b i ∧ pt = 0))) ∧ w1 = w) := by
  refine mMi.of (by decide) (Nat.le_of_ble_eq_true rfl) ?_
  intro X C hN hR
  refine mg_sub (lv' := [(0, .ref ox), (1, .int (nI a)), (2, .int i), (3, .int pt)]) [0, 1, 2, 3] rfl ?_
  refine mg_aload_n C dX6_kept_0 rfl ?_
  refine mg_iload_n C dX6_kept_1 rfl ?_
  refine mg_callV_q C hox rfl (rest := []) (c_X6_find_in D cI cS w ox as md g0 a hox has hmd ha) yq_X6_find kw_123 kw_124 kw_125 ⟨by decide, by decide⟩ ⟨Nat.le_of_ble_eq_true rfl, Nat.le_of_ble_eq_true rfl⟩ (Nat.le_of_ble_eq_true rfl) rfl rfl dX6_kept_2 (fun r1 w1 ⟨xe1, xk1⟩ => ?_)
  rw [xk1, xe1, hg]
  refine mg_astore C (lv' := [(4, .ref h0), (0, .ref ox), (1, .int (nI a)), (2, .int i), (3, .int pt)]) dX6_kept_5 (by decide) rfl ?_
  refine mg_aload C dX6_kept_7 rfl ?_
  refine mg_ifnonnull C (tgt := 16) dX6_kept_9 (by decide) ?_
  refine mg_aload C dX6_kept_16 rfl ?_
  refine mg_iload_n C dX6_kept_18 rfl ?_
  refine mg_iload_n C dX6_kept_19 rfl ?_
  refine mg_callU_i C hh rfl (rest := []) (c_X0_keptAt D cI cS w h0 ab b sd tot (nI mv) f i pt hh h_ab hs hb1 hb2) yq_X0_keptAt kw_625 kw_626 dq_keptAt (by decide +kernel) kw_628 kw_627 ⟨by decide, by decide⟩ ⟨Nat.le_of_ble_eq_true rfl, Nat.le_of_ble_eq_true rfl⟩ (Nat.le_of_ble_eq_true rfl) rfl rfl dX6_kept_20 (fun r2 w2 ⟨xr, xk2⟩ => ?_)
  rw [xk2]
  exact hR _ _ _ _ dX6_kept_23 ⟨xr, rfl⟩

set_option maxHeartbeats 4000000 in
set_option maxRecDepth 20000 in
theorem c_X6_told_F (D : va_G) (cI cS : ClassId) (w : mwT) (ox as md a : Nat) (g0 : Nat → Option Nat) (h0 ab b sd mv : Nat) (tot : Int32) (f : Nat → Int32) (q : Int32) (hox : w ox = some (.inr (5, [.ref as, .int (nI md)]))) (has : w as = some (eR cS 8 g0)) (hh : w h0 = some (.inr (0, [.int (nI 2), .int (nI b), .int (nI sd), .int tot, .int (nI mv), .ref ab]))) (h_ab : w ab = some (eI cI b f)) (hmd : md ≤ 8) (ha : a < md) (hg : g0 a = some h0) (hs : sd ≤ 999) (hb1 : 16 ≤ b) (hb2 : b ≤ 512) : mMi yX6_told cX6_told 4 (some .int) (rmL 8) [.ref ox, .int (nI a), .int q] D cI cS w (fun r w1 => ((¬ rg 6 q ∧ r = -1) ∨ (q = nI 0 ∧ r = nI 2) ∨ (q = nI 1 ∧ r = nI b) ∨ (q = nI 2 ∧ r = nI sd) ∨ (q = nI 3 ∧ r = tot + nI 10000000) ∨ (q = nI 4 ∧ r = nI mv) ∨ (q = nI 5 ∧ r = nI 0) ∨ (q = nI 6 ∧ r = nI (cnz f b))) ∧ w1 = w) := by
  refine mMi.of (by decide) (Nat.le_of_ble_eq_true rfl) ?_
  intro X C hN hR
  refine mg_sub (lv' := [(0, .ref ox), (1, .int (nI a)), (2, .int q)]) [0, 1, 2] rfl ?_
  refine mg_aload_n C dX6_told_0 rfl ?_
  refine mg_iload_n C dX6_told_1 rfl ?_
  refine mg_callV_q C hox rfl (rest := []) (c_X6_find_in D cI cS w ox as md g0 a hox has hmd ha) yq_X6_find kw_123 kw_124 kw_125 ⟨by decide, by decide⟩ ⟨Nat.le_of_ble_eq_true rfl, Nat.le_of_ble_eq_true rfl⟩ (Nat.le_of_ble_eq_true rfl) rfl rfl dX6_told_2 (fun r1 w1 ⟨xe1, xk1⟩ => ?_)
  rw [xk1, xe1, hg]
  refine mg_astore_n C (lv' := [(3, .ref h0), (0, .ref ox), (1, .int (nI a)), (2, .int q)]) dX6_told_5 rfl (by decide) rfl ?_
  refine mg_aload_n C dX6_told_6 rfl ?_
  refine mg_ifnonnull C (tgt := 12) dX6_told_7 (by decide) ?_
  refine mg_iload_n C dX6_told_12 rfl ?_
  rcases Classical.em (rg 6 q) with ⟨jt13, hjjt13, ejt13⟩ | hq13
  · rcases (show jt13 = 0 ∨ jt13 = 1 ∨ jt13 = 2 ∨ jt13 = 3 ∨ jt13 = 4 ∨ jt13 = 5 ∨ jt13 = 6 by omega) with zjt13 | zjt13 | zjt13 | zjt13 | zjt13 | zjt13 | zjt13
    · rw [zjt13] at ejt13
      rw [ejt13]
      refine mg_tabIn C (tgt := 56) (off := 43) dX6_told_13 (by decide) (by decide) rfl (by decide) ?_
      refine mg_aload_n C dX6_told_56 rfl ?_
      refine mg_get C inT0 hh rfl 0 (by decide) kw_577 (Or.inl rfl) rfl dX6_told_57 ?_
      exact hR _ _ _ _ dX6_told_60 ⟨Or.inr (Or.inl ⟨ejt13, rfl⟩), rfl⟩
    · rw [zjt13] at ejt13
      rw [ejt13]
      refine mg_tabIn C (tgt := 61) (off := 48) dX6_told_13 (by decide) (by decide) rfl (by decide) ?_
      refine mg_aload_n C dX6_told_61 rfl ?_
      refine mg_get C inT0 hh rfl 1 (by decide) kw_578 (Or.inl rfl) rfl dX6_told_62 ?_
      exact hR _ _ _ _ dX6_told_65 ⟨Or.inr (Or.inr (Or.inl ⟨ejt13, rfl⟩)), rfl⟩
    · rw [zjt13] at ejt13
      rw [ejt13]
      refine mg_tabIn C (tgt := 66) (off := 53) dX6_told_13 (by decide) (by decide) rfl (by decide) ?_
      refine mg_aload_n C dX6_told_66 rfl ?_
      refine mg_get C inT0 hh rfl 2 (by decide) kw_579 (Or.inl rfl) rfl dX6_told_67 ?_
      exact hR _ _ _ _ dX6_told_70 ⟨Or.inr (Or.inr (Or.inr (Or.inl ⟨ejt13, rfl⟩))), rfl⟩
    · rw [zjt13] at ejt13
      rw [ejt13]
      refine mg_tabIn C (tgt := 71) (off := 58) dX6_told_13 (by decide) (by decide) rfl (by decide) ?_
      refine mg_aload_n C dX6_told_71 rfl ?_
      refine mg_get C inT0 hh rfl 3 (by decide) kw_205 (Or.inl rfl) rfl dX6_told_72 ?_
      refine mg_ldc C (v := nI 10000000) dX6_told_75 kw_207 (by decide) ?_
      refine mg_iadd C (z := tot + (nI 10000000)) dX6_told_77 rfl ?_
      exact hR _ _ _ _ dX6_told_78 ⟨Or.inr (Or.inr (Or.inr (Or.inr (Or.inl ⟨ejt13, rfl⟩)))), rfl⟩
    · rw [zjt13] at ejt13
      rw [ejt13]
      refine mg_tabIn C (tgt := 79) (off := 66) dX6_told_13 (by decide) (by decide) rfl (by decide) ?_
      refine mg_aload_n C dX6_told_79 rfl ?_
      refine mg_get C inT0 hh rfl 4 (by decide) kw_206 (Or.inl rfl) rfl dX6_told_80 ?_
      exact hR _ _ _ _ dX6_told_83 ⟨Or.inr (Or.inr (Or.inr (Or.inr (Or.inr (Or.inl ⟨ejt13, rfl⟩))))), rfl⟩
    · rw [zjt13] at ejt13
      rw [ejt13]
      refine mg_tabIn C (tgt := 84) (off := 71) dX6_told_13 (by decide) (by decide) rfl (by decide) ?_
      refine mg_aload_n C dX6_told_84 rfl ?_
      refine mg_callU_i C hh rfl (rest := []) (c_X4_mayLack D cI cS w h0) yq_X4_mayLack kw_580 kw_581 dq_mayLack (by decide +kernel) kw_583 kw_582 ⟨by decide, by decide⟩ ⟨Nat.le_of_ble_eq_true rfl, Nat.le_of_ble_eq_true rfl⟩ (Nat.le_of_ble_eq_true rfl) rfl rfl dX6_told_85 (fun r2 w2 ⟨xe2, xk2⟩ => ?_)
      rw [xk2, xe2]
      exact hR _ _ _ _ dX6_told_88 ⟨Or.inr (Or.inr (Or.inr (Or.inr (Or.inr (Or.inr (Or.inl ⟨ejt13, rfl⟩)))))), rfl⟩
    · rw [zjt13] at ejt13
      rw [ejt13]
      refine mg_tabIn C (tgt := 89) (off := 76) dX6_told_13 (by decide) (by decide) rfl (by decide) ?_
      refine mg_aload_n C dX6_told_89 rfl ?_
      refine mg_callU_i C hh rfl (rest := []) (c_X0_howManyKept D cI cS w h0 ab b sd tot (nI mv) f hh h_ab hs hb1 hb2) yq_X0_howManyKept kw_594 kw_595 dq_howManyKept (by decide +kernel) kw_597 kw_596 ⟨by decide, by decide⟩ ⟨Nat.le_of_ble_eq_true rfl, Nat.le_of_ble_eq_true rfl⟩ (Nat.le_of_ble_eq_true rfl) rfl rfl dX6_told_90 (fun r3 w3 ⟨xe3, xk3⟩ => ?_)
      rw [xk3, xe3]
      exact hR _ _ _ _ dX6_told_93 ⟨Or.inr (Or.inr (Or.inr (Or.inr (Or.inr (Or.inr (Or.inr (⟨ejt13, rfl⟩))))))), rfl⟩
  · refine mg_tabOut C (tgt := 94) dX6_told_13 (rg_out (by decide) hq13) (by decide) ?_
    refine mg_iconst C (v := (-1 : Int32)) dX6_told_94 (by decide) ?_
    exact hR _ _ _ _ dX6_told_95 ⟨Or.inl ⟨hq13, rfl⟩, rfl⟩

set_option maxHeartbeats 4000000 in
set_option maxRecDepth 20000 in
theorem c_X6_low_T (D : va_G) (cI cS : ClassId) (w : mwT) (ox as md a : Nat) (g0 : Nat → Option Nat) (h0 ab c sd mv : Nat) (tot : Int32) (f : Nat → Int32) (x : Int32) (hox : w ox = some (.inr (5, [.ref as, .int (nI md)]))) (has : w as = some (eR cS 8 g0)) (hh : w h0 = some (.inr (4, [.int (nI 1), .int (nI c), .int (nI sd), .int tot, .int (nI mv), .ref ab]))) (h_ab : w ab = some (eI cI (4 * c) f)) (hmd : md ≤ 8) (ha : a < md) (hg : g0 a = some h0) (hs : sd ≤ 999) (hc1 : 4 ≤ c) (hc2 : c ≤ 64) : mMi yX6_low cX6_low 4 (some .int) (rmL 8) [.ref ox, .int (nI a), .int x] D cI cS w (fun r w1 => ((¬ rg 9999 x ∧ r = -1) ∨ (∃ xa : Nat, xa ≤ 9999 ∧ x = nI xa ∧ r = -1)) ∧ w1 = w) := by
  refine mMi.of (by decide) (Nat.le_of_ble_eq_true rfl) ?_
  intro X C hN hR
  refine mg_sub (lv' := [(0, .ref ox), (1, .int (nI a)), (2, .int x)]) [0, 1, 2] rfl ?_
  refine mg_aload_n C dX6_low_0 rfl ?_
  refine mg_iload_n C dX6_low_1 rfl ?_
  refine mg_callV_q C hox rfl (rest := []) (c_X6_find_in D cI cS w ox as md g0 a hox has hmd ha) yq_X6_find kw_123 kw_124 kw_125 ⟨by decide, by decide⟩ ⟨Nat.le_of_ble_eq_true rfl, Nat.le_of_ble_eq_true rfl⟩ (Nat.le_of_ble_eq_true rfl) rfl rfl dX6_low_2 (fun r1 w1 ⟨xe1, xk1⟩ => ?_)
  rw [xk1, xe1, hg]
  refine mg_astore_n C (lv' := [(3, .ref h0), (0, .ref ox), (1, .int (nI a)), (2, .int x)]) dX6_low_5 rfl (by decide) rfl ?_
  refine mg_aload_n C dX6_low_6 rfl ?_
  refine mg_ifnull C dX6_low_7 ?_
  refine mg_iload_n C dX6_low_10 rfl ?_
  refine mg_callS_i C (rest := []) (c_X6_isKey D cI cS w x) yq_X6_isKey kw_240 kw_241 ⟨by decide, by decide⟩ ⟨Nat.le_of_ble_eq_true rfl, Nat.le_of_ble_eq_true rfl⟩ (Nat.le_of_ble_eq_true rfl) rfl rfl dX6_low_11 (fun r2 w2 ⟨xa2, xk2⟩ => ?_)
  rw [xk2]
  rcases xa2 with ⟨ra2, hy_key⟩ | ⟨ra2, hy_key⟩
  · rw [ra2]
    refine mg_ifN_ne C (tgt := 21) dX6_low_14 (by decide) (by decide) (fun c_14 => ?_) (fun c_14 => absurd c_14 (by decide))
    obtain ⟨xa, hxa, rfl⟩ := hy_key
    refine mg_aload_n C dX6_low_21 rfl ?_
    refine mg_iload_n C dX6_low_22 rfl ?_
    refine mg_callU_i C hh rfl (rest := []) (c_X4_atLeast D cI cS w h0 (nI xa)) yq_X4_atLeast kw_438 kw_439 dq_atLeast (by decide +kernel) kw_441 kw_458 ⟨by decide, by decide⟩ ⟨Nat.le_of_ble_eq_true rfl, Nat.le_of_ble_eq_true rfl⟩ (Nat.le_of_ble_eq_true rfl) rfl rfl dX6_low_23 (fun r3 w3 ⟨xe3, xk3⟩ => ?_)
    rw [xk3, xe3]
    exact hR _ _ _ _ dX6_low_26 ⟨Or.inr ⟨xa, hxa, rfl, rfl⟩, rfl⟩
  · rw [ra2]
    refine mg_ifN_ne C (tgt := 21) dX6_low_14 (by decide) (by decide) (fun c_14 => absurd c_14 (by decide)) (fun c_14 => ?_)
    refine mg_iconst C (v := (-1 : Int32)) dX6_low_17 (by decide) ?_
    refine mg_goto C (tgt := 26) dX6_low_18 (by decide) ?_
    exact hR _ _ _ _ dX6_low_26 ⟨Or.inl ⟨hy_key, rfl⟩, rfl⟩

set_option maxHeartbeats 4000000 in
set_option maxRecDepth 20000 in
theorem c_X6_high_T (D : va_G) (cI cS : ClassId) (w : mwT) (ox as md a : Nat) (g0 : Nat → Option Nat) (h0 ab c sd mv : Nat) (tot : Int32) (f : Nat → Int32) (x : Int32) (hox : w ox = some (.inr (5, [.ref as, .int (nI md)]))) (has : w as = some (eR cS 8 g0)) (hh : w h0 = some (.inr (4, [.int (nI 1), .int (nI c), .int (nI sd), .int tot, .int (nI mv), .ref ab]))) (h_ab : w ab = some (eI cI (4 * c) f)) (hmd : md ≤ 8) (ha : a < md) (hg : g0 a = some h0) (hs : sd ≤ 999) (hc1 : 4 ≤ c) (hc2 : c ≤ 64) : mMi yX6_high cX6_high 4 (some .int) (rmL 8) [.ref ox, .int (nI a), .int x] D cI cS w (fun r w1 => ((¬ rg 9999 x ∧ r = -1) ∨ (∃ xa : Nat, xa ≤ 9999 ∧ x = nI xa ∧ r = mnT f sd xa c 4)) ∧ w1 = w) := by
  refine mMi.of (by decide) (Nat.le_of_ble_eq_true rfl) ?_
  intro X C hN hR
  refine mg_sub (lv' := [(0, .ref ox), (1, .int (nI a)), (2, .int x)]) [0, 1, 2] rfl ?_
  refine mg_aload_n C dX6_high_0 rfl ?_
  refine mg_iload_n C dX6_high_1 rfl ?_
  refine mg_callV_q C hox rfl (rest := []) (c_X6_find_in D cI cS w ox as md g0 a hox has hmd ha) yq_X6_find kw_123 kw_124 kw_125 ⟨by decide, by decide⟩ ⟨Nat.le_of_ble_eq_true rfl, Nat.le_of_ble_eq_true rfl⟩ (Nat.le_of_ble_eq_true rfl) rfl rfl dX6_high_2 (fun r1 w1 ⟨xe1, xk1⟩ => ?_)
  rw [xk1, xe1, hg]
  refine mg_astore_n C (lv' := [(3, .ref h0), (0, .ref ox), (1, .int (nI a)), (2, .int x)]) dX6_high_5 rfl (by decide) rfl ?_
  refine mg_aload_n C dX6_high_6 rfl ?_
  refine mg_ifnull C dX6_high_7 ?_
  refine mg_iload_n C dX6_high_10 rfl ?_
  refine mg_callS_i C (rest := []) (c_X6_isKey D cI cS w x) yq_X6_isKey kw_240 kw_241 ⟨by decide, by decide⟩ ⟨Nat.le_of_ble_eq_true rfl, Nat.le_of_ble_eq_true rfl⟩ (Nat.le_of_ble_eq_true rfl) rfl rfl dX6_high_11 (fun r2 w2 ⟨xa2, xk2⟩ => ?_)
  rw [xk2]
  rcases xa2 with ⟨ra2, hy_key⟩ | ⟨ra2, hy_key⟩
  · rw [ra2]
    refine mg_ifN_ne C (tgt := 21) dX6_high_14 (by decide) (by decide) (fun c_14 => ?_) (fun c_14 => absurd c_14 (by decide))
    obtain ⟨xa, hxa, rfl⟩ := hy_key
    refine mg_aload_n C dX6_high_21 rfl ?_
    refine mg_iload_n C dX6_high_22 rfl ?_
    refine mg_callU_i C hh rfl (rest := []) (c_X5_atMost D cI cS w h0 ab c sd tot (nI mv) f xa hh h_ab hs hc1 hc2 hxa) yq_X5_atMost kw_483 kw_484 dq_atMost (by decide +kernel) kw_502 kw_501 ⟨by decide, by decide⟩ ⟨Nat.le_of_ble_eq_true rfl, Nat.le_of_ble_eq_true rfl⟩ (Nat.le_of_ble_eq_true rfl) rfl rfl dX6_high_23 (fun r3 w3 ⟨xe3, xk3⟩ => ?_)
    rw [xk3, xe3]
    exact hR _ _ _ _ dX6_high_26 ⟨Or.inr ⟨xa, hxa, rfl, rfl⟩, rfl⟩
  · rw [ra2]
    refine mg_ifN_ne C (tgt := 21) dX6_high_14 (by decide) (by decide) (fun c_14 => absurd c_14 (by decide)) (fun c_14 => ?_)
    refine mg_iconst C (v := (-1 : Int32)) dX6_high_17 (by decide) ?_
    refine mg_goto C (tgt := 26) dX6_high_18 (by decide) ?_
    exact hR _ _ _ _ dX6_high_26 ⟨Or.inl ⟨hy_key, rfl⟩, rfl⟩

set_option maxHeartbeats 4000000 in
set_option maxRecDepth 20000 in
theorem c_X6_has_T (D : va_G) (cI cS : ClassId) (w : mwT) (ox as md a : Nat) (g0 : Nat → Option Nat) (h0 ab c sd mv : Nat) (tot : Int32) (f : Nat → Int32) (x : Int32) (hox : w ox = some (.inr (5, [.ref as, .int (nI md)]))) (has : w as = some (eR cS 8 g0)) (hh : w h0 = some (.inr (4, [.int (nI 1), .int (nI c), .int (nI sd), .int tot, .int (nI mv), .ref ab]))) (h_ab : w ab = some (eI cI (4 * c) f)) (hmd : md ≤ 8) (ha : a < md) (hg : g0 a = some h0) (hs : sd ≤ 999) (hc1 : 4 ≤ c) (hc2 : c ≤ 64) : mMi yX6_has cX6_has 4 (some .int) (rmL 8) [.ref ox, .int (nI a), .int x] D cI cS w (fun r w1 => ((¬ rg 9999 x ∧ r = -1) ∨ (∃ xa : Nat, xa ≤ 9999 ∧ x = nI xa ∧ r = -1)) ∧ w1 = w) := by
  refine mMi.of (by decide) (Nat.le_of_ble_eq_true rfl) ?_
  intro X C hN hR
  refine mg_sub (lv' := [(0, .ref ox), (1, .int (nI a)), (2, .int x)]) [0, 1, 2] rfl ?_
  refine mg_aload_n C dX6_has_0 rfl ?_
  refine mg_iload_n C dX6_has_1 rfl ?_
  refine mg_callV_q C hox rfl (rest := []) (c_X6_find_in D cI cS w ox as md g0 a hox has hmd ha) yq_X6_find kw_123 kw_124 kw_125 ⟨by decide, by decide⟩ ⟨Nat.le_of_ble_eq_true rfl, Nat.le_of_ble_eq_true rfl⟩ (Nat.le_of_ble_eq_true rfl) rfl rfl dX6_has_2 (fun r1 w1 ⟨xe1, xk1⟩ => ?_)
  rw [xk1, xe1, hg]
  refine mg_astore_n C (lv' := [(3, .ref h0), (0, .ref ox), (1, .int (nI a)), (2, .int x)]) dX6_has_5 rfl (by decide) rfl ?_
  refine mg_aload_n C dX6_has_6 rfl ?_
  refine mg_ifnull C dX6_has_7 ?_
  refine mg_iload_n C dX6_has_10 rfl ?_
  refine mg_callS_i C (rest := []) (c_X6_isKey D cI cS w x) yq_X6_isKey kw_240 kw_241 ⟨by decide, by decide⟩ ⟨Nat.le_of_ble_eq_true rfl, Nat.le_of_ble_eq_true rfl⟩ (Nat.le_of_ble_eq_true rfl) rfl rfl dX6_has_11 (fun r2 w2 ⟨xa2, xk2⟩ => ?_)
  rw [xk2]
  rcases xa2 with ⟨ra2, hy_key⟩ | ⟨ra2, hy_key⟩
  · rw [ra2]
    refine mg_ifN_ne C (tgt := 21) dX6_has_14 (by decide) (by decide) (fun c_14 => ?_) (fun c_14 => absurd c_14 (by decide))
    obtain ⟨xa, hxa, rfl⟩ := hy_key
    refine mg_aload_n C dX6_has_21 rfl ?_
    refine mg_iload_n C dX6_has_22 rfl ?_
    refine mg_callU_i C hh rfl (rest := []) (c_X4_holds D cI cS w h0 (nI xa)) yq_X4_holds kw_514 kw_515 dq_holds (by decide +kernel) kw_522 kw_527 ⟨by decide, by decide⟩ ⟨Nat.le_of_ble_eq_true rfl, Nat.le_of_ble_eq_true rfl⟩ (Nat.le_of_ble_eq_true rfl) rfl rfl dX6_has_23 (fun r3 w3 ⟨xe3, xk3⟩ => ?_)
    rw [xk3, xe3]
    exact hR _ _ _ _ dX6_has_26 ⟨Or.inr ⟨xa, hxa, rfl, rfl⟩, rfl⟩
  · rw [ra2]
    refine mg_ifN_ne C (tgt := 21) dX6_has_14 (by decide) (by decide) (fun c_14 => absurd c_14 (by decide)) (fun c_14 => ?_)
    refine mg_iconst C (v := (-1 : Int32)) dX6_has_17 (by decide) ?_
    refine mg_goto C (tgt := 26) dX6_has_18 (by decide) ?_
    exact hR _ _ _ _ dX6_has_26 ⟨Or.inl ⟨hy_key, rfl⟩, rfl⟩

set_option maxHeartbeats 4000000 in
set_option maxRecDepth 20000 in
theorem c_X6_distinct_T (D : va_G) (cI cS : ClassId) (w : mwT) (ox as md a : Nat) (g0 : Nat → Option Nat) (h0 ab c sd mv : Nat) (tot : Int32) (f : Nat → Int32) (hox : w ox = some (.inr (5, [.ref as, .int (nI md)]))) (has : w as = some (eR cS 8 g0)) (hh : w h0 = some (.inr (4, [.int (nI 1), .int (nI c), .int (nI sd), .int tot, .int (nI mv), .ref ab]))) (h_ab : w ab = some (eI cI (4 * c) f)) (hmd : md ≤ 8) (ha : a < md) (hg : g0 a = some h0) (hs : sd ≤ 999) (hc1 : 4 ≤ c) (hc2 : c ≤ 64) : mMi yX6_distinct cX6_distinct 3 (some .int) (rmL 8) [.ref ox, .int (nI a)] D cI cS w (fun r w1 => r = -1 ∧ w1 = w) := by
  refine mMi.of (by decide) (Nat.le_of_ble_eq_true rfl) ?_
  intro X C hN hR
  refine mg_sub (lv' := [(0, .ref ox), (1, .int (nI a))]) [0, 1] rfl ?_
  refine mg_aload_n C dX6_distinct_0 rfl ?_
  refine mg_iload_n C dX6_distinct_1 rfl ?_
  refine mg_callV_q C hox rfl (rest := []) (c_X6_find_in D cI cS w ox as md g0 a hox has hmd ha) yq_X6_find kw_123 kw_124 kw_125 ⟨by decide, by decide⟩ ⟨Nat.le_of_ble_eq_true rfl, Nat.le_of_ble_eq_true rfl⟩ (Nat.le_of_ble_eq_true rfl) rfl rfl dX6_distinct_2 (fun r1 w1 ⟨xe1, xk1⟩ => ?_)
  rw [xk1, xe1, hg]
  refine mg_astore_n C (lv' := [(2, .ref h0), (0, .ref ox), (1, .int (nI a))]) dX6_distinct_5 rfl (by decide) rfl ?_
  refine mg_aload_n C dX6_distinct_6 rfl ?_
  refine mg_ifnonnull C (tgt := 14) dX6_distinct_7 (by decide) ?_
  refine mg_aload_n C dX6_distinct_14 rfl ?_
  refine mg_callU_i C hh rfl (rest := []) (c_X4_differentKeys D cI cS w h0) yq_X4_differentKeys kw_536 kw_537 dq_differentKeys (by decide +kernel) kw_539 kw_548 ⟨by decide, by decide⟩ ⟨Nat.le_of_ble_eq_true rfl, Nat.le_of_ble_eq_true rfl⟩ (Nat.le_of_ble_eq_true rfl) rfl rfl dX6_distinct_15 (fun r2 w2 ⟨xe2, xk2⟩ => ?_)
  rw [xk2, xe2]
  exact hR _ _ _ _ dX6_distinct_18 ⟨rfl, rfl⟩

set_option maxHeartbeats 4000000 in
set_option maxRecDepth 20000 in
theorem c_X6_quantile_T (D : va_G) (cI cS : ClassId) (w : mwT) (ox as md a : Nat) (g0 : Nat → Option Nat) (h0 ab c sd mv : Nat) (tot : Int32) (f : Nat → Int32) (q : Int32) (hox : w ox = some (.inr (5, [.ref as, .int (nI md)]))) (has : w as = some (eR cS 8 g0)) (hh : w h0 = some (.inr (4, [.int (nI 1), .int (nI c), .int (nI sd), .int tot, .int (nI mv), .ref ab]))) (h_ab : w ab = some (eI cI (4 * c) f)) (hmd : md ≤ 8) (ha : a < md) (hg : g0 a = some h0) (hs : sd ≤ 999) (hc1 : 4 ≤ c) (hc2 : c ≤ 64) : mMi yX6_quantile cX6_quantile 4 (some .int) (rmL 8) [.ref ox, .int (nI a), .int q] D cI cS w (fun r w1 => r = -1 ∧ w1 = w) := by
  refine mMi.of (by decide) (Nat.le_of_ble_eq_true rfl) ?_
  intro X C hN hR
  refine mg_sub (lv' := [(0, .ref ox), (1, .int (nI a)), (2, .int q)]) [0, 1, 2] rfl ?_
  refine mg_aload_n C dX6_quantile_0 rfl ?_
  refine mg_iload_n C dX6_quantile_1 rfl ?_
  refine mg_callV_q C hox rfl (rest := []) (c_X6_find_in D cI cS w ox as md g0 a hox has hmd ha) yq_X6_find kw_123 kw_124 kw_125 ⟨by decide, by decide⟩ ⟨Nat.le_of_ble_eq_true rfl, Nat.le_of_ble_eq_true rfl⟩ (Nat.le_of_ble_eq_true rfl) rfl rfl dX6_quantile_2 (fun r1 w1 ⟨xe1, xk1⟩ => ?_)
  rw [xk1, xe1, hg]
  refine mg_astore_n C (lv' := [(3, .ref h0), (0, .ref ox), (1, .int (nI a)), (2, .int q)]) dX6_quantile_5 rfl (by decide) rfl ?_
  refine mg_aload_n C dX6_quantile_6 rfl ?_
  refine mg_ifnonnull C (tgt := 14) dX6_quantile_7 (by decide) ?_
  refine mg_aload_n C dX6_quantile_14 rfl ?_
  refine mg_iload_n C dX6_quantile_15 rfl ?_
  refine mg_callU_i C hh rfl (rest := []) (c_X4_keyAtRank D cI cS w h0 q) yq_X4_keyAtRank kw_557 kw_558 dq_keyAtRank (by decide +kernel) kw_560 kw_568 ⟨by decide, by decide⟩ ⟨Nat.le_of_ble_eq_true rfl, Nat.le_of_ble_eq_true rfl⟩ (Nat.le_of_ble_eq_true rfl) rfl rfl dX6_quantile_16 (fun r2 w2 ⟨xe2, xk2⟩ => ?_)
  rw [xk2, xe2]
  exact hR _ _ _ _ dX6_quantile_19 ⟨rfl, rfl⟩

set_option maxHeartbeats 4000000 in
set_option maxRecDepth 20000 in
theorem c_X6_kept_T (D : va_G) (cI cS : ClassId) (w : mwT) (ox as md a : Nat) (g0 : Nat → Option Nat) (h0 ab c sd mv : Nat) (tot : Int32) (f : Nat → Int32) (i pt : Int32) (hox : w ox = some (.inr (5, [.ref as, .int (nI md)]))) (has : w as = some (eR cS 8 g0)) (hh : w h0 = some (.inr (4, [.int (nI 1), .int (nI c), .int (nI sd), .int tot, .int (nI mv), .ref ab]))) (h_ab : w ab = some (eI cI (4 * c) f)) (hmd : md ≤ 8) (ha : a < md) (hg : g0 a = some h0) (hs : sd ≤ 999) (hc1 : 4 ≤ c) (hc2 : c ≤ 64) : mMi yX6_kept cX6_kept 5 (some .int) (rmL 8) [.ref ox, .int (nI a), .int i, .int pt] D cI cS w (fun r w1 => ((∃ e : Nat, e < 4 * c ∧ i = nI e ∧ pt = 0 ∧ r = f e + nI 10000000) ∨ (r = -1 ∧ ¬ (ixN (4 * c) i ∧ pt = 0))) ∧ w1 = w) := by
  refine mMi.of (by decide) (Nat.le_of_ble_eq_true rfl) ?_
  intro X C hN hR
  refine mg_sub (lv' := [(0, .ref ox), (1, .int (nI a)), (2, .int i), (3, .int pt)]) [0, 1, 2, 3] rfl ?_
  refine mg_aload_n C dX6_kept_0 rfl ?_
  refine mg_iload_n C dX6_kept_1 rfl ?_
  refine mg_callV_q C hox rfl (rest := []) (c_X6_find_in D cI cS w ox as md g0 a hox has hmd ha) yq_X6_find kw_123 kw_124 kw_125 ⟨by decide, by decide⟩ ⟨Nat.le_of_ble_eq_true rfl, Nat.le_of_ble_eq_true rfl⟩ (Nat.le_of_ble_eq_true rfl) rfl rfl dX6_kept_2 (fun r1 w1 ⟨xe1, xk1⟩ => ?_)
  rw [xk1, xe1, hg]
  refine mg_astore C (lv' := [(4, .ref h0), (0, .ref ox), (1, .int (nI a)), (2, .int i), (3, .int pt)]) dX6_kept_5 (by decide) rfl ?_
  refine mg_aload C dX6_kept_7 rfl ?_
  refine mg_ifnonnull C (tgt := 16) dX6_kept_9 (by decide) ?_
  refine mg_aload C dX6_kept_16 rfl ?_
  refine mg_iload_n C dX6_kept_18 rfl ?_
  refine mg_iload_n C dX6_kept_19 rfl ?_
  refine mg_callU_i C hh rfl (rest := []) (c_X5_keptAt D cI cS w h0 ab c sd tot (nI mv) f i pt hh h_ab hs hc1 hc2) yq_X5_keptAt kw_625 kw_626 dq_keptAt (by decide +kernel) kw_640 kw_639 ⟨by decide, by decide⟩ ⟨Nat.le_of_ble_eq_true rfl, Nat.le_of_ble_eq_true rfl⟩ (Nat.le_of_ble_eq_true rfl) rfl rfl dX6_kept_20 (fun r2 w2 ⟨xr, xk2⟩ => ?_)
  rw [xk2]
  exact hR _ _ _ _ dX6_kept_23 ⟨xr, rfl⟩

set_option maxHeartbeats 4000000 in
set_option maxRecDepth 20000 in
theorem c_X6_told_T (D : va_G) (cI cS : ClassId) (w : mwT) (ox as md a : Nat) (g0 : Nat → Option Nat) (h0 ab c sd mv : Nat) (tot : Int32) (f : Nat → Int32) (q : Int32) (hox : w ox = some (.inr (5, [.ref as, .int (nI md)]))) (has : w as = some (eR cS 8 g0)) (hh : w h0 = some (.inr (4, [.int (nI 1), .int (nI c), .int (nI sd), .int tot, .int (nI mv), .ref ab]))) (h_ab : w ab = some (eI cI (4 * c) f)) (hmd : md ≤ 8) (ha : a < md) (hg : g0 a = some h0) (hs : sd ≤ 999) (hc1 : 4 ≤ c) (hc2 : c ≤ 64) : mMi yX6_told cX6_told 4 (some .int) (rmL 8) [.ref ox, .int (nI a), .int q] D cI cS w (fun r w1 => ((¬ rg 6 q ∧ r = -1) ∨ (q = nI 0 ∧ r = nI 1) ∨ (q = nI 1 ∧ r = nI c) ∨ (q = nI 2 ∧ r = nI sd) ∨ (q = nI 3 ∧ r = tot + nI 10000000) ∨ (q = nI 4 ∧ r = nI mv) ∨ (q = nI 5 ∧ r = nI 0) ∨ (q = nI 6 ∧ r = nI (cnz f (4 * c)))) ∧ w1 = w) := by
  refine mMi.of (by decide) (Nat.le_of_ble_eq_true rfl) ?_
  intro X C hN hR
  refine mg_sub (lv' := [(0, .ref ox), (1, .int (nI a)), (2, .int q)]) [0, 1, 2] rfl ?_
  refine mg_aload_n C dX6_told_0 rfl ?_
  refine mg_iload_n C dX6_told_1 rfl ?_
  refine mg_callV_q C hox rfl (rest := []) (c_X6_find_in D cI cS w ox as md g0 a hox has hmd ha) yq_X6_find kw_123 kw_124 kw_125 ⟨by decide, by decide⟩ ⟨Nat.le_of_ble_eq_true rfl, Nat.le_of_ble_eq_true rfl⟩ (Nat.le_of_ble_eq_true rfl) rfl rfl dX6_told_2 (fun r1 w1 ⟨xe1, xk1⟩ => ?_)
  rw [xk1, xe1, hg]
  refine mg_astore_n C (lv' := [(3, .ref h0), (0, .ref ox), (1, .int (nI a)), (2, .int q)]) dX6_told_5 rfl (by decide) rfl ?_
  refine mg_aload_n C dX6_told_6 rfl ?_
  refine mg_ifnonnull C (tgt := 12) dX6_told_7 (by decide) ?_
  refine mg_iload_n C dX6_told_12 rfl ?_
  rcases Classical.em (rg 6 q) with ⟨jt13, hjjt13, ejt13⟩ | hq13
  · rcases (show jt13 = 0 ∨ jt13 = 1 ∨ jt13 = 2 ∨ jt13 = 3 ∨ jt13 = 4 ∨ jt13 = 5 ∨ jt13 = 6 by omega) with zjt13 | zjt13 | zjt13 | zjt13 | zjt13 | zjt13 | zjt13
    · rw [zjt13] at ejt13
      rw [ejt13]
      refine mg_tabIn C (tgt := 56) (off := 43) dX6_told_13 (by decide) (by decide) rfl (by decide) ?_
      refine mg_aload_n C dX6_told_56 rfl ?_
      refine mg_get C inT5 hh rfl 0 (by decide) kw_577 (Or.inl rfl) rfl dX6_told_57 ?_
      exact hR _ _ _ _ dX6_told_60 ⟨Or.inr (Or.inl ⟨ejt13, rfl⟩), rfl⟩
    · rw [zjt13] at ejt13
      rw [ejt13]
      refine mg_tabIn C (tgt := 61) (off := 48) dX6_told_13 (by decide) (by decide) rfl (by decide) ?_
      refine mg_aload_n C dX6_told_61 rfl ?_
      refine mg_get C inT5 hh rfl 1 (by decide) kw_578 (Or.inl rfl) rfl dX6_told_62 ?_
      exact hR _ _ _ _ dX6_told_65 ⟨Or.inr (Or.inr (Or.inl ⟨ejt13, rfl⟩)), rfl⟩
    · rw [zjt13] at ejt13
      rw [ejt13]
      refine mg_tabIn C (tgt := 66) (off := 53) dX6_told_13 (by decide) (by decide) rfl (by decide) ?_
      refine mg_aload_n C dX6_told_66 rfl ?_
      refine mg_get C inT5 hh rfl 2 (by decide) kw_579 (Or.inl rfl) rfl dX6_told_67 ?_
      exact hR _ _ _ _ dX6_told_70 ⟨Or.inr (Or.inr (Or.inr (Or.inl ⟨ejt13, rfl⟩))), rfl⟩
    · rw [zjt13] at ejt13
      rw [ejt13]
      refine mg_tabIn C (tgt := 71) (off := 58) dX6_told_13 (by decide) (by decide) rfl (by decide) ?_
      refine mg_aload_n C dX6_told_71 rfl ?_
      refine mg_get C inT5 hh rfl 3 (by decide) kw_205 (Or.inl rfl) rfl dX6_told_72 ?_
      refine mg_ldc C (v := nI 10000000) dX6_told_75 kw_207 (by decide) ?_
      refine mg_iadd C (z := tot + (nI 10000000)) dX6_told_77 rfl ?_
      exact hR _ _ _ _ dX6_told_78 ⟨Or.inr (Or.inr (Or.inr (Or.inr (Or.inl ⟨ejt13, rfl⟩)))), rfl⟩
    · rw [zjt13] at ejt13
      rw [ejt13]
      refine mg_tabIn C (tgt := 79) (off := 66) dX6_told_13 (by decide) (by decide) rfl (by decide) ?_
      refine mg_aload_n C dX6_told_79 rfl ?_
      refine mg_get C inT5 hh rfl 4 (by decide) kw_206 (Or.inl rfl) rfl dX6_told_80 ?_
      exact hR _ _ _ _ dX6_told_83 ⟨Or.inr (Or.inr (Or.inr (Or.inr (Or.inr (Or.inl ⟨ejt13, rfl⟩))))), rfl⟩
    · rw [zjt13] at ejt13
      rw [ejt13]
      refine mg_tabIn C (tgt := 84) (off := 71) dX6_told_13 (by decide) (by decide) rfl (by decide) ?_
      refine mg_aload_n C dX6_told_84 rfl ?_
      refine mg_callU_i C hh rfl (rest := []) (c_X4_mayLack D cI cS w h0) yq_X4_mayLack kw_580 kw_581 dq_mayLack (by decide +kernel) kw_583 kw_593 ⟨by decide, by decide⟩ ⟨Nat.le_of_ble_eq_true rfl, Nat.le_of_ble_eq_true rfl⟩ (Nat.le_of_ble_eq_true rfl) rfl rfl dX6_told_85 (fun r2 w2 ⟨xe2, xk2⟩ => ?_)
      rw [xk2, xe2]
      exact hR _ _ _ _ dX6_told_88 ⟨Or.inr (Or.inr (Or.inr (Or.inr (Or.inr (Or.inr (Or.inl ⟨ejt13, rfl⟩)))))), rfl⟩
    · rw [zjt13] at ejt13
      rw [ejt13]
      refine mg_tabIn C (tgt := 89) (off := 76) dX6_told_13 (by decide) (by decide) rfl (by decide) ?_
      refine mg_aload_n C dX6_told_89 rfl ?_
      refine mg_callU_i C hh rfl (rest := []) (c_X5_howManyKept D cI cS w h0 ab c sd tot (nI mv) f hh h_ab hs hc1 hc2) yq_X5_howManyKept kw_594 kw_595 dq_howManyKept (by decide +kernel) kw_611 kw_610 ⟨by decide, by decide⟩ ⟨Nat.le_of_ble_eq_true rfl, Nat.le_of_ble_eq_true rfl⟩ (Nat.le_of_ble_eq_true rfl) rfl rfl dX6_told_90 (fun r3 w3 ⟨xe3, xk3⟩ => ?_)
      rw [xk3, xe3]
      exact hR _ _ _ _ dX6_told_93 ⟨Or.inr (Or.inr (Or.inr (Or.inr (Or.inr (Or.inr (Or.inr (⟨ejt13, rfl⟩))))))), rfl⟩
  · refine mg_tabOut C (tgt := 94) dX6_told_13 (rg_out (by decide) hq13) (by decide) ?_
    refine mg_iconst C (v := (-1 : Int32)) dX6_told_94 (by decide) ?_
    exact hR _ _ _ _ dX6_told_95 ⟨Or.inl ⟨hq13, rfl⟩, rfl⟩

set_option maxHeartbeats 4000000 in
set_option maxRecDepth 20000 in
theorem c_X6_low_L (D : va_G) (cI cS : ClassId) (w : mwT) (ox as md a : Nat) (g0 : Nat → Option Nat) (h0 ab k sd h mv : Nat) (tot : Int32) (f : Nat → Int32) (x : Int32) (hox : w ox = some (.inr (5, [.ref as, .int (nI md)]))) (has : w as = some (eR cS 8 g0)) (hh : w h0 = some (.inr (2, [.int (nI 3), .int (nI k), .int (nI sd), .int tot, .int (nI mv), .ref ab, .int (nI h)]))) (h_ab : w ab = some (eI cI k f)) (hmd : md ≤ 8) (ha : a < md) (hg : g0 a = some h0) (hs : sd ≤ 999) (hk1 : 2 ≤ k) (hk2 : k ≤ 32) (hh2 : h ≤ k) : mMi yX6_low cX6_low 4 (some .int) (rmL 8) [.ref ox, .int (nI a), .int x] D cI cS w (fun r w1 => ((¬ rg 9999 x ∧ r = -1) ∨ (∃ xa : Nat, xa ≤ 9999 ∧ x = nI xa ∧ r = -1)) ∧ w1 = w) := by
  refine mMi.of (by decide) (Nat.le_of_ble_eq_true rfl) ?_
  intro X C hN hR
  refine mg_sub (lv' := [(0, .ref ox), (1, .int (nI a)), (2, .int x)]) [0, 1, 2] rfl ?_
  refine mg_aload_n C dX6_low_0 rfl ?_
  refine mg_iload_n C dX6_low_1 rfl ?_
  refine mg_callV_q C hox rfl (rest := []) (c_X6_find_in D cI cS w ox as md g0 a hox has hmd ha) yq_X6_find kw_123 kw_124 kw_125 ⟨by decide, by decide⟩ ⟨Nat.le_of_ble_eq_true rfl, Nat.le_of_ble_eq_true rfl⟩ (Nat.le_of_ble_eq_true rfl) rfl rfl dX6_low_2 (fun r1 w1 ⟨xe1, xk1⟩ => ?_)
  rw [xk1, xe1, hg]
  refine mg_astore_n C (lv' := [(3, .ref h0), (0, .ref ox), (1, .int (nI a)), (2, .int x)]) dX6_low_5 rfl (by decide) rfl ?_
  refine mg_aload_n C dX6_low_6 rfl ?_
  refine mg_ifnull C dX6_low_7 ?_
  refine mg_iload_n C dX6_low_10 rfl ?_
  refine mg_callS_i C (rest := []) (c_X6_isKey D cI cS w x) yq_X6_isKey kw_240 kw_241 ⟨by decide, by decide⟩ ⟨Nat.le_of_ble_eq_true rfl, Nat.le_of_ble_eq_true rfl⟩ (Nat.le_of_ble_eq_true rfl) rfl rfl dX6_low_11 (fun r2 w2 ⟨xa2, xk2⟩ => ?_)
  rw [xk2]
  rcases xa2 with ⟨ra2, hy_key⟩ | ⟨ra2, hy_key⟩
  · rw [ra2]
    refine mg_ifN_ne C (tgt := 21) dX6_low_14 (by decide) (by decide) (fun c_14 => ?_) (fun c_14 => absurd c_14 (by decide))
    obtain ⟨xa, hxa, rfl⟩ := hy_key
    refine mg_aload_n C dX6_low_21 rfl ?_
    refine mg_iload_n C dX6_low_22 rfl ?_
    refine mg_callU_i C hh rfl (rest := []) (c_X4_atLeast D cI cS w h0 (nI xa)) yq_X4_atLeast kw_438 kw_439 dq_atLeast (by decide +kernel) kw_441 kw_447 ⟨by decide, by decide⟩ ⟨Nat.le_of_ble_eq_true rfl, Nat.le_of_ble_eq_true rfl⟩ (Nat.le_of_ble_eq_true rfl) rfl rfl dX6_low_23 (fun r3 w3 ⟨xe3, xk3⟩ => ?_)
    rw [xk3, xe3]
    exact hR _ _ _ _ dX6_low_26 ⟨Or.inr ⟨xa, hxa, rfl, rfl⟩, rfl⟩
  · rw [ra2]
    refine mg_ifN_ne C (tgt := 21) dX6_low_14 (by decide) (by decide) (fun c_14 => absurd c_14 (by decide)) (fun c_14 => ?_)
    refine mg_iconst C (v := (-1 : Int32)) dX6_low_17 (by decide) ?_
    refine mg_goto C (tgt := 26) dX6_low_18 (by decide) ?_
    exact hR _ _ _ _ dX6_low_26 ⟨Or.inl ⟨hy_key, rfl⟩, rfl⟩

set_option maxHeartbeats 4000000 in
set_option maxRecDepth 20000 in
theorem c_X6_high_L (D : va_G) (cI cS : ClassId) (w : mwT) (ox as md a : Nat) (g0 : Nat → Option Nat) (h0 ab k sd h mv : Nat) (tot : Int32) (f : Nat → Int32) (x : Int32) (hox : w ox = some (.inr (5, [.ref as, .int (nI md)]))) (has : w as = some (eR cS 8 g0)) (hh : w h0 = some (.inr (2, [.int (nI 3), .int (nI k), .int (nI sd), .int tot, .int (nI mv), .ref ab, .int (nI h)]))) (h_ab : w ab = some (eI cI k f)) (hmd : md ≤ 8) (ha : a < md) (hg : g0 a = some h0) (hs : sd ≤ 999) (hk1 : 2 ≤ k) (hk2 : k ≤ 32) (hh2 : h ≤ k) : mMi yX6_high cX6_high 4 (some .int) (rmL 8) [.ref ox, .int (nI a), .int x] D cI cS w (fun r w1 => ((¬ rg 9999 x ∧ r = -1) ∨ (∃ xa : Nat, xa ≤ 9999 ∧ x = nI xa ∧ r = -1)) ∧ w1 = w) := by
  refine mMi.of (by decide) (Nat.le_of_ble_eq_true rfl) ?_
  intro X C hN hR
  refine mg_sub (lv' := [(0, .ref ox), (1, .int (nI a)), (2, .int x)]) [0, 1, 2] rfl ?_
  refine mg_aload_n C dX6_high_0 rfl ?_
  refine mg_iload_n C dX6_high_1 rfl ?_
  refine mg_callV_q C hox rfl (rest := []) (c_X6_find_in D cI cS w ox as md g0 a hox has hmd ha) yq_X6_find kw_123 kw_124 kw_125 ⟨by decide, by decide⟩ ⟨Nat.le_of_ble_eq_true rfl, Nat.le_of_ble_eq_true rfl⟩ (Nat.le_of_ble_eq_true rfl) rfl rfl dX6_high_2 (fun r1 w1 ⟨xe1, xk1⟩ => ?_)
  rw [xk1, xe1, hg]
  refine mg_astore_n C (lv' := [(3, .ref h0), (0, .ref ox), (1, .int (nI a)), (2, .int x)]) dX6_high_5 rfl (by decide) rfl ?_
  refine mg_aload_n C dX6_high_6 rfl ?_
  refine mg_ifnull C dX6_high_7 ?_
  refine mg_iload_n C dX6_high_10 rfl ?_
  refine mg_callS_i C (rest := []) (c_X6_isKey D cI cS w x) yq_X6_isKey kw_240 kw_241 ⟨by decide, by decide⟩ ⟨Nat.le_of_ble_eq_true rfl, Nat.le_of_ble_eq_true rfl⟩ (Nat.le_of_ble_eq_true rfl) rfl rfl dX6_high_11 (fun r2 w2 ⟨xa2, xk2⟩ => ?_)
  rw [xk2]
  rcases xa2 with ⟨ra2, hy_key⟩ | ⟨ra2, hy_key⟩
  · rw [ra2]
    refine mg_ifN_ne C (tgt := 21) dX6_high_14 (by decide) (by decide) (fun c_14 => ?_) (fun c_14 => absurd c_14 (by decide))
    obtain ⟨xa, hxa, rfl⟩ := hy_key
    refine mg_aload_n C dX6_high_21 rfl ?_
    refine mg_iload_n C dX6_high_22 rfl ?_
    refine mg_callU_i C hh rfl (rest := []) (c_X4_atMost D cI cS w h0 (nI xa)) yq_X4_atMost kw_483 kw_484 dq_atMost (by decide +kernel) kw_486 kw_494 ⟨by decide, by decide⟩ ⟨Nat.le_of_ble_eq_true rfl, Nat.le_of_ble_eq_true rfl⟩ (Nat.le_of_ble_eq_true rfl) rfl rfl dX6_high_23 (fun r3 w3 ⟨xe3, xk3⟩ => ?_)
    rw [xk3, xe3]
    exact hR _ _ _ _ dX6_high_26 ⟨Or.inr ⟨xa, hxa, rfl, rfl⟩, rfl⟩
  · rw [ra2]
    refine mg_ifN_ne C (tgt := 21) dX6_high_14 (by decide) (by decide) (fun c_14 => absurd c_14 (by decide)) (fun c_14 => ?_)
    refine mg_iconst C (v := (-1 : Int32)) dX6_high_17 (by decide) ?_
    refine mg_goto C (tgt := 26) dX6_high_18 (by decide) ?_
    exact hR _ _ _ _ dX6_high_26 ⟨Or.inl ⟨hy_key, rfl⟩, rfl⟩

set_option maxHeartbeats 4000000 in
set_option maxRecDepth 20000 in
theorem c_X6_has_L (D : va_G) (cI cS : ClassId) (w : mwT) (ox as md a : Nat) (g0 : Nat → Option Nat) (h0 ab k sd h mv : Nat) (tot : Int32) (f : Nat → Int32) (x : Int32) (hox : w ox = some (.inr (5, [.ref as, .int (nI md)]))) (has : w as = some (eR cS 8 g0)) (hh : w h0 = some (.inr (2, [.int (nI 3), .int (nI k), .int (nI sd), .int tot, .int (nI mv), .ref ab, .int (nI h)]))) (h_ab : w ab = some (eI cI k f)) (hmd : md ≤ 8) (ha : a < md) (hg : g0 a = some h0) (hs : sd ≤ 999) (hk1 : 2 ≤ k) (hk2 : k ≤ 32) (hh2 : h ≤ k) : mMi yX6_has cX6_has 4 (some .int) (rmL 8) [.ref ox, .int (nI a), .int x] D cI cS w (fun r w1 => ((¬ rg 9999 x ∧ r = -1) ∨ (∃ xa : Nat, xa ≤ 9999 ∧ x = nI xa ∧ ((r = nI 1 ∧ stL f h (nI (hsN sd 0 xa))) ∨ (r = nI 0 ∧ ¬ stL f h (nI (hsN sd 0 xa)))))) ∧ w1 = w) := by
  refine mMi.of (by decide) (Nat.le_of_ble_eq_true rfl) ?_
  intro X C hN hR
  refine mg_sub (lv' := [(0, .ref ox), (1, .int (nI a)), (2, .int x)]) [0, 1, 2] rfl ?_
  refine mg_aload_n C dX6_has_0 rfl ?_
  refine mg_iload_n C dX6_has_1 rfl ?_
  refine mg_callV_q C hox rfl (rest := []) (c_X6_find_in D cI cS w ox as md g0 a hox has hmd ha) yq_X6_find kw_123 kw_124 kw_125 ⟨by decide, by decide⟩ ⟨Nat.le_of_ble_eq_true rfl, Nat.le_of_ble_eq_true rfl⟩ (Nat.le_of_ble_eq_true rfl) rfl rfl dX6_has_2 (fun r1 w1 ⟨xe1, xk1⟩ => ?_)
  rw [xk1, xe1, hg]
  refine mg_astore_n C (lv' := [(3, .ref h0), (0, .ref ox), (1, .int (nI a)), (2, .int x)]) dX6_has_5 rfl (by decide) rfl ?_
  refine mg_aload_n C dX6_has_6 rfl ?_
  refine mg_ifnull C dX6_has_7 ?_
  refine mg_iload_n C dX6_has_10 rfl ?_
  refine mg_callS_i C (rest := []) (c_X6_isKey D cI cS w x) yq_X6_isKey kw_240 kw_241 ⟨by decide, by decide⟩ ⟨Nat.le_of_ble_eq_true rfl, Nat.le_of_ble_eq_true rfl⟩ (Nat.le_of_ble_eq_true rfl) rfl rfl dX6_has_11 (fun r2 w2 ⟨xa2, xk2⟩ => ?_)
  rw [xk2]
  rcases xa2 with ⟨ra2, hy_key⟩ | ⟨ra2, hy_key⟩
  · rw [ra2]
    refine mg_ifN_ne C (tgt := 21) dX6_has_14 (by decide) (by decide) (fun c_14 => ?_) (fun c_14 => absurd c_14 (by decide))
    obtain ⟨xa, hxa, rfl⟩ := hy_key
    refine mg_aload_n C dX6_has_21 rfl ?_
    refine mg_iload_n C dX6_has_22 rfl ?_
    refine mg_callU_i C hh rfl (rest := []) (c_X2_holds D cI cS w h0 ab k sd h tot (nI mv) f xa hh h_ab hk1 hk2 hh2 hs hxa) yq_X2_holds kw_514 kw_515 dq_holds (by decide +kernel) kw_524 kw_523 ⟨by decide, by decide⟩ ⟨Nat.le_of_ble_eq_true rfl, Nat.le_of_ble_eq_true rfl⟩ (Nat.le_of_ble_eq_true rfl) rfl rfl dX6_has_23 (fun r3 w3 ⟨xr, xk3⟩ => ?_)
    rw [xk3]
    exact hR _ _ _ _ dX6_has_26 ⟨Or.inr ⟨xa, hxa, rfl, xr⟩, rfl⟩
  · rw [ra2]
    refine mg_ifN_ne C (tgt := 21) dX6_has_14 (by decide) (by decide) (fun c_14 => absurd c_14 (by decide)) (fun c_14 => ?_)
    refine mg_iconst C (v := (-1 : Int32)) dX6_has_17 (by decide) ?_
    refine mg_goto C (tgt := 26) dX6_has_18 (by decide) ?_
    exact hR _ _ _ _ dX6_has_26 ⟨Or.inl ⟨hy_key, rfl⟩, rfl⟩

set_option maxHeartbeats 4000000 in
set_option maxRecDepth 20000 in
theorem c_X6_distinct_L (D : va_G) (cI cS : ClassId) (w : mwT) (ox as md a : Nat) (g0 : Nat → Option Nat) (h0 ab k sd h mv : Nat) (tot : Int32) (f : Nat → Int32) (hox : w ox = some (.inr (5, [.ref as, .int (nI md)]))) (has : w as = some (eR cS 8 g0)) (hh : w h0 = some (.inr (2, [.int (nI 3), .int (nI k), .int (nI sd), .int tot, .int (nI mv), .ref ab, .int (nI h)]))) (h_ab : w ab = some (eI cI k f)) (hmd : md ≤ 8) (ha : a < md) (hg : g0 a = some h0) (hs : sd ≤ 999) (hk1 : 2 ≤ k) (hk2 : k ≤ 32) (hh2 : h ≤ k) : mMi yX6_distinct cX6_distinct 3 (some .int) (rmL 8) [.ref ox, .int (nI a)] D cI cS w (fun r w1 => r = dkL f h k ∧ w1 = w) := by
  refine mMi.of (by decide) (Nat.le_of_ble_eq_true rfl) ?_
  intro X C hN hR
  refine mg_sub (lv' := [(0, .ref ox), (1, .int (nI a))]) [0, 1] rfl ?_
  refine mg_aload_n C dX6_distinct_0 rfl ?_
  refine mg_iload_n C dX6_distinct_1 rfl ?_
  refine mg_callV_q C hox rfl (rest := []) (c_X6_find_in D cI cS w ox as md g0 a hox has hmd ha) yq_X6_find kw_123 kw_124 kw_125 ⟨by decide, by decide⟩ ⟨Nat.le_of_ble_eq_true rfl, Nat.le_of_ble_eq_true rfl⟩ (Nat.le_of_ble_eq_true rfl) rfl rfl dX6_distinct_2 (fun r1 w1 ⟨xe1, xk1⟩ => ?_)
  rw [xk1, xe1, hg]
  refine mg_astore_n C (lv' := [(2, .ref h0), (0, .ref ox), (1, .int (nI a))]) dX6_distinct_5 rfl (by decide) rfl ?_
  refine mg_aload_n C dX6_distinct_6 rfl ?_
  refine mg_ifnonnull C (tgt := 14) dX6_distinct_7 (by decide) ?_
  refine mg_aload_n C dX6_distinct_14 rfl ?_
  refine mg_callU_i C hh rfl (rest := []) (c_X2_differentKeys D cI cS w h0 ab k sd h tot (nI mv) f hh h_ab hk1 hk2 hh2) yq_X2_differentKeys kw_536 kw_537 dq_differentKeys (by decide +kernel) kw_544 kw_543 ⟨by decide, by decide⟩ ⟨Nat.le_of_ble_eq_true rfl, Nat.le_of_ble_eq_true rfl⟩ (Nat.le_of_ble_eq_true rfl) rfl rfl dX6_distinct_15 (fun r2 w2 ⟨xe2, xk2⟩ => ?_)
  rw [xk2, xe2]
  exact hR _ _ _ _ dX6_distinct_18 ⟨rfl, rfl⟩

set_option maxHeartbeats 4000000 in
set_option maxRecDepth 20000 in
theorem c_X6_quantile_L (D : va_G) (cI cS : ClassId) (w : mwT) (ox as md a : Nat) (g0 : Nat → Option Nat) (h0 ab k sd h mv : Nat) (tot : Int32) (f : Nat → Int32) (q : Int32) (hox : w ox = some (.inr (5, [.ref as, .int (nI md)]))) (has : w as = some (eR cS 8 g0)) (hh : w h0 = some (.inr (2, [.int (nI 3), .int (nI k), .int (nI sd), .int tot, .int (nI mv), .ref ab, .int (nI h)]))) (h_ab : w ab = some (eI cI k f)) (hmd : md ≤ 8) (ha : a < md) (hg : g0 a = some h0) (hs : sd ≤ 999) (hk1 : 2 ≤ k) (hk2 : k ≤ 32) (hh2 : h ≤ k) : mMi yX6_quantile cX6_quantile 4 (some .int) (rmL 8) [.ref ox, .int (nI a), .int q] D cI cS w (fun r w1 => r = -1 ∧ w1 = w) := by
  refine mMi.of (by decide) (Nat.le_of_ble_eq_true rfl) ?_
  intro X C hN hR
  refine mg_sub (lv' := [(0, .ref ox), (1, .int (nI a)), (2, .int q)]) [0, 1, 2] rfl ?_
  refine mg_aload_n C dX6_quantile_0 rfl ?_
  refine mg_iload_n C dX6_quantile_1 rfl ?_
  refine mg_callV_q C hox rfl (rest := []) (c_X6_find_in D cI cS w ox as md g0 a hox has hmd ha) yq_X6_find kw_123 kw_124 kw_125 ⟨by decide, by decide⟩ ⟨Nat.le_of_ble_eq_true rfl, Nat.le_of_ble_eq_true rfl⟩ (Nat.le_of_ble_eq_true rfl) rfl rfl dX6_quantile_2 (fun r1 w1 ⟨xe1, xk1⟩ => ?_)
  rw [xk1, xe1, hg]
  refine mg_astore_n C (lv' := [(3, .ref h0), (0, .ref ox), (1, .int (nI a)), (2, .int q)]) dX6_quantile_5 rfl (by decide) rfl ?_
  refine mg_aload_n C dX6_quantile_6 rfl ?_
  refine mg_ifnonnull C (tgt := 14) dX6_quantile_7 (by decide) ?_
  refine mg_aload_n C dX6_quantile_14 rfl ?_
  refine mg_iload_n C dX6_quantile_15 rfl ?_
  refine mg_callU_i C hh rfl (rest := []) (c_X4_keyAtRank D cI cS w h0 q) yq_X4_keyAtRank kw_557 kw_558 dq_keyAtRank (by decide +kernel) kw_560 kw_563 ⟨by decide, by decide⟩ ⟨Nat.le_of_ble_eq_true rfl, Nat.le_of_ble_eq_true rfl⟩ (Nat.le_of_ble_eq_true rfl) rfl rfl dX6_quantile_16 (fun r2 w2 ⟨xe2, xk2⟩ => ?_)
  rw [xk2, xe2]
  exact hR _ _ _ _ dX6_quantile_19 ⟨rfl, rfl⟩

set_option maxHeartbeats 4000000 in
set_option maxRecDepth 20000 in
theorem c_X6_kept_L (D : va_G) (cI cS : ClassId) (w : mwT) (ox as md a : Nat) (g0 : Nat → Option Nat) (h0 ab k sd h mv : Nat) (tot : Int32) (f : Nat → Int32) (i pt : Int32) (hox : w ox = some (.inr (5, [.ref as, .int (nI md)]))) (has : w as = some (eR cS 8 g0)) (hh : w h0 = some (.inr (2, [.int (nI 3), .int (nI k), .int (nI sd), .int tot, .int (nI mv), .ref ab, .int (nI h)]))) (h_ab : w ab = some (eI cI k f)) (hmd : md ≤ 8) (ha : a < md) (hg : g0 a = some h0) (hs : sd ≤ 999) (hk1 : 2 ≤ k) (hk2 : k ≤ 32) (hh2 : h ≤ k) : mMi yX6_kept cX6_kept 5 (some .int) (rmL 8) [.ref ox, .int (nI a), .int i, .int pt] D cI cS w (fun r w1 => ((∃ c : Nat, c < h ∧ i = nI c ∧ pt = 0 ∧ r = f c) ∨ (r = -1 ∧ ¬ (ixN h i ∧ pt = 0))) ∧ w1 = w) := by
  refine mMi.of (by decide) (Nat.le_of_ble_eq_true rfl) ?_
  intro X C hN hR
  refine mg_sub (lv' := [(0, .ref ox), (1, .int (nI a)), (2, .int i), (3, .int pt)]) [0, 1, 2, 3] rfl ?_
  refine mg_aload_n C dX6_kept_0 rfl ?_
  refine mg_iload_n C dX6_kept_1 rfl ?_
  refine mg_callV_q C hox rfl (rest := []) (c_X6_find_in D cI cS w ox as md g0 a hox has hmd ha) yq_X6_find kw_123 kw_124 kw_125 ⟨by decide, by decide⟩ ⟨Nat.le_of_ble_eq_true rfl, Nat.le_of_ble_eq_true rfl⟩ (Nat.le_of_ble_eq_true rfl) rfl rfl dX6_kept_2 (fun r1 w1 ⟨xe1, xk1⟩ => ?_)
  rw [xk1, xe1, hg]
  refine mg_astore C (lv' := [(4, .ref h0), (0, .ref ox), (1, .int (nI a)), (2, .int i), (3, .int pt)]) dX6_kept_5 (by decide) rfl ?_
  refine mg_aload C dX6_kept_7 rfl ?_
  refine mg_ifnonnull C (tgt := 16) dX6_kept_9 (by decide) ?_
  refine mg_aload C dX6_kept_16 rfl ?_
  refine mg_iload_n C dX6_kept_18 rfl ?_
  refine mg_iload_n C dX6_kept_19 rfl ?_
  refine mg_callU_i C hh rfl (rest := []) (c_X2_keptAt D cI cS w h0 ab k sd h tot (nI mv) f i pt hh h_ab hk1 hk2 hh2) yq_X2_keptAt kw_625 kw_626 dq_keptAt (by decide +kernel) kw_634 kw_633 ⟨by decide, by decide⟩ ⟨Nat.le_of_ble_eq_true rfl, Nat.le_of_ble_eq_true rfl⟩ (Nat.le_of_ble_eq_true rfl) rfl rfl dX6_kept_20 (fun r2 w2 ⟨xr, xk2⟩ => ?_)
  rw [xk2]
  exact hR _ _ _ _ dX6_kept_23 ⟨xr, rfl⟩

set_option maxHeartbeats 4000000 in
set_option maxRecDepth 20000 in
theorem c_X6_told_L (D : va_G) (cI cS : ClassId) (w : mwT) (ox as md a : Nat) (g0 : Nat → Option Nat) (h0 ab k sd h mv : Nat) (tot : Int32) (f : Nat → Int32) (q : Int32) (hox : w ox = some (.inr (5, [.ref as, .int (nI md)]))) (has : w as = some (eR cS 8 g0)) (hh : w h0 = some (.inr (2, [.int (nI 3), .int (nI k), .int (nI sd), .int tot, .int (nI mv), .ref ab, .int (nI h)]))) (h_ab : w ab = some (eI cI k f)) (hmd : md ≤ 8) (ha : a < md) (hg : g0 a = some h0) (hs : sd ≤ 999) (hk1 : 2 ≤ k) (hk2 : k ≤ 32) (hh2 : h ≤ k) : mMi yX6_told cX6_told 4 (some .int) (rmL 8) [.ref ox, .int (nI a), .int q] D cI cS w (fun r w1 => ((¬ rg 6 q ∧ r = -1) ∨ (q = nI 0 ∧ r = nI 3) ∨ (q = nI 1 ∧ r = nI k) ∨ (q = nI 2 ∧ r = nI sd) ∨ (q = nI 3 ∧ r = tot + nI 10000000) ∨ (q = nI 4 ∧ r = nI mv) ∨ (q = nI 5 ∧ r = nI 0) ∨ (q = nI 6 ∧ r = nI h)) ∧ w1 = w) := by
  refine mMi.of (by decide) (Nat.le_of_ble_eq_true rfl) ?_
  intro X C hN hR
  refine mg_sub (lv' := [(0, .ref ox), (1, .int (nI a)), (2, .int q)]) [0, 1, 2] rfl ?_
  refine mg_aload_n C dX6_told_0 rfl ?_
  refine mg_iload_n C dX6_told_1 rfl ?_
  refine mg_callV_q C hox rfl (rest := []) (c_X6_find_in D cI cS w ox as md g0 a hox has hmd ha) yq_X6_find kw_123 kw_124 kw_125 ⟨by decide, by decide⟩ ⟨Nat.le_of_ble_eq_true rfl, Nat.le_of_ble_eq_true rfl⟩ (Nat.le_of_ble_eq_true rfl) rfl rfl dX6_told_2 (fun r1 w1 ⟨xe1, xk1⟩ => ?_)
  rw [xk1, xe1, hg]
  refine mg_astore_n C (lv' := [(3, .ref h0), (0, .ref ox), (1, .int (nI a)), (2, .int q)]) dX6_told_5 rfl (by decide) rfl ?_
  refine mg_aload_n C dX6_told_6 rfl ?_
  refine mg_ifnonnull C (tgt := 12) dX6_told_7 (by decide) ?_
  refine mg_iload_n C dX6_told_12 rfl ?_
  rcases Classical.em (rg 6 q) with ⟨jt13, hjjt13, ejt13⟩ | hq13
  · rcases (show jt13 = 0 ∨ jt13 = 1 ∨ jt13 = 2 ∨ jt13 = 3 ∨ jt13 = 4 ∨ jt13 = 5 ∨ jt13 = 6 by omega) with zjt13 | zjt13 | zjt13 | zjt13 | zjt13 | zjt13 | zjt13
    · rw [zjt13] at ejt13
      rw [ejt13]
      refine mg_tabIn C (tgt := 56) (off := 43) dX6_told_13 (by decide) (by decide) rfl (by decide) ?_
      refine mg_aload_n C dX6_told_56 rfl ?_
      refine mg_get C inT2 hh rfl 0 (by decide) kw_577 (Or.inl rfl) rfl dX6_told_57 ?_
      exact hR _ _ _ _ dX6_told_60 ⟨Or.inr (Or.inl ⟨ejt13, rfl⟩), rfl⟩
    · rw [zjt13] at ejt13
      rw [ejt13]
      refine mg_tabIn C (tgt := 61) (off := 48) dX6_told_13 (by decide) (by decide) rfl (by decide) ?_
      refine mg_aload_n C dX6_told_61 rfl ?_
      refine mg_get C inT2 hh rfl 1 (by decide) kw_578 (Or.inl rfl) rfl dX6_told_62 ?_
      exact hR _ _ _ _ dX6_told_65 ⟨Or.inr (Or.inr (Or.inl ⟨ejt13, rfl⟩)), rfl⟩
    · rw [zjt13] at ejt13
      rw [ejt13]
      refine mg_tabIn C (tgt := 66) (off := 53) dX6_told_13 (by decide) (by decide) rfl (by decide) ?_
      refine mg_aload_n C dX6_told_66 rfl ?_
      refine mg_get C inT2 hh rfl 2 (by decide) kw_579 (Or.inl rfl) rfl dX6_told_67 ?_
      exact hR _ _ _ _ dX6_told_70 ⟨Or.inr (Or.inr (Or.inr (Or.inl ⟨ejt13, rfl⟩))), rfl⟩
    · rw [zjt13] at ejt13
      rw [ejt13]
      refine mg_tabIn C (tgt := 71) (off := 58) dX6_told_13 (by decide) (by decide) rfl (by decide) ?_
      refine mg_aload_n C dX6_told_71 rfl ?_
      refine mg_get C inT2 hh rfl 3 (by decide) kw_205 (Or.inl rfl) rfl dX6_told_72 ?_
      refine mg_ldc C (v := nI 10000000) dX6_told_75 kw_207 (by decide) ?_
      refine mg_iadd C (z := tot + (nI 10000000)) dX6_told_77 rfl ?_
      exact hR _ _ _ _ dX6_told_78 ⟨Or.inr (Or.inr (Or.inr (Or.inr (Or.inl ⟨ejt13, rfl⟩)))), rfl⟩
    · rw [zjt13] at ejt13
      rw [ejt13]
      refine mg_tabIn C (tgt := 79) (off := 66) dX6_told_13 (by decide) (by decide) rfl (by decide) ?_
      refine mg_aload_n C dX6_told_79 rfl ?_
      refine mg_get C inT2 hh rfl 4 (by decide) kw_206 (Or.inl rfl) rfl dX6_told_80 ?_
      exact hR _ _ _ _ dX6_told_83 ⟨Or.inr (Or.inr (Or.inr (Or.inr (Or.inr (Or.inl ⟨ejt13, rfl⟩))))), rfl⟩
    · rw [zjt13] at ejt13
      rw [ejt13]
      refine mg_tabIn C (tgt := 84) (off := 71) dX6_told_13 (by decide) (by decide) rfl (by decide) ?_
      refine mg_aload_n C dX6_told_84 rfl ?_
      refine mg_callU_i C hh rfl (rest := []) (c_X4_mayLack D cI cS w h0) yq_X4_mayLack kw_580 kw_581 dq_mayLack (by decide +kernel) kw_583 kw_589 ⟨by decide, by decide⟩ ⟨Nat.le_of_ble_eq_true rfl, Nat.le_of_ble_eq_true rfl⟩ (Nat.le_of_ble_eq_true rfl) rfl rfl dX6_told_85 (fun r2 w2 ⟨xe2, xk2⟩ => ?_)
      rw [xk2, xe2]
      exact hR _ _ _ _ dX6_told_88 ⟨Or.inr (Or.inr (Or.inr (Or.inr (Or.inr (Or.inr (Or.inl ⟨ejt13, rfl⟩)))))), rfl⟩
    · rw [zjt13] at ejt13
      rw [ejt13]
      refine mg_tabIn C (tgt := 89) (off := 76) dX6_told_13 (by decide) (by decide) rfl (by decide) ?_
      refine mg_aload_n C dX6_told_89 rfl ?_
      refine mg_callU_i C hh rfl (rest := []) (c_X2_howManyKept D cI cS w h0 ab k sd h tot (nI mv) f hh h_ab hk1 hk2 hh2) yq_X2_howManyKept kw_594 kw_595 dq_howManyKept (by decide +kernel) kw_605 kw_604 ⟨by decide, by decide⟩ ⟨Nat.le_of_ble_eq_true rfl, Nat.le_of_ble_eq_true rfl⟩ (Nat.le_of_ble_eq_true rfl) rfl rfl dX6_told_90 (fun r3 w3 ⟨xe3, xk3⟩ => ?_)
      rw [xk3, xe3]
      exact hR _ _ _ _ dX6_told_93 ⟨Or.inr (Or.inr (Or.inr (Or.inr (Or.inr (Or.inr (Or.inr (⟨ejt13, rfl⟩))))))), rfl⟩
  · refine mg_tabOut C (tgt := 94) dX6_told_13 (rg_out (by decide) hq13) (by decide) ?_
    refine mg_iconst C (v := (-1 : Int32)) dX6_told_94 (by decide) ?_
    exact hR _ _ _ _ dX6_told_95 ⟨Or.inl ⟨hq13, rfl⟩, rfl⟩

set_option maxHeartbeats 4000000 in
set_option maxRecDepth 20000 in
theorem c_X6_low_H (D : va_G) (cI cS : ClassId) (w : mwT) (ox as md a : Nat) (g0 : Nat → Option Nat) (h0 ak an k sd h mv : Nat) (tot lo : Int32) (f g : Nat → Int32) (x : Int32) (hox : w ox = some (.inr (5, [.ref as, .int (nI md)]))) (has : w as = some (eR cS 8 g0)) (hh : w h0 = some (.inr (1, [.int (nI 0), .int (nI k), .int (nI sd), .int tot, .int (nI mv), .ref ak, .ref an, .int (nI h), .int lo]))) (h_ak : w ak = some (eI cI (2 * k) f)) (h_an : w an = some (eI cI (2 * k) g)) (hmd : md ≤ 8) (ha : a < md) (hg : g0 a = some h0) (hs : sd ≤ 999) (hk1 : 1 ≤ k) (hk2 : k ≤ 20) (hh2 : h ≤ k) (hka : ak ≠ an) : mMi yX6_low cX6_low 4 (some .int) (rmL 8) [.ref ox, .int (nI a), .int x] D cI cS w (fun r w1 => ((¬ rg 9999 x ∧ r = -1) ∨ (∃ xa : Nat, xa ≤ 9999 ∧ x = nI xa ∧ r = alH f g h (nI xa))) ∧ w1 = w) := by
  refine mMi.of (by decide) (Nat.le_of_ble_eq_true rfl) ?_
  intro X C hN hR
  refine mg_sub (lv' := [(0, .ref ox), (1, .int (nI a)), (2, .int x)]) [0, 1, 2] rfl ?_
  refine mg_aload_n C dX6_low_0 rfl ?_
  refine mg_iload_n C dX6_low_1 rfl ?_
  refine mg_callV_q C hox rfl (rest := []) (c_X6_find_in D cI cS w ox as md g0 a hox has hmd ha) yq_X6_find kw_123 kw_124 kw_125 ⟨by decide, by decide⟩ ⟨Nat.le_of_ble_eq_true rfl, Nat.le_of_ble_eq_true rfl⟩ (Nat.le_of_ble_eq_true rfl) rfl rfl dX6_low_2 (fun r1 w1 ⟨xe1, xk1⟩ => ?_)
  rw [xk1, xe1, hg]
  refine mg_astore_n C (lv' := [(3, .ref h0), (0, .ref ox), (1, .int (nI a)), (2, .int x)]) dX6_low_5 rfl (by decide) rfl ?_
  refine mg_aload_n C dX6_low_6 rfl ?_
  refine mg_ifnull C dX6_low_7 ?_
  refine mg_iload_n C dX6_low_10 rfl ?_
  refine mg_callS_i C (rest := []) (c_X6_isKey D cI cS w x) yq_X6_isKey kw_240 kw_241 ⟨by decide, by decide⟩ ⟨Nat.le_of_ble_eq_true rfl, Nat.le_of_ble_eq_true rfl⟩ (Nat.le_of_ble_eq_true rfl) rfl rfl dX6_low_11 (fun r2 w2 ⟨xa2, xk2⟩ => ?_)
  rw [xk2]
  rcases xa2 with ⟨ra2, hy_key⟩ | ⟨ra2, hy_key⟩
  · rw [ra2]
    refine mg_ifN_ne C (tgt := 21) dX6_low_14 (by decide) (by decide) (fun c_14 => ?_) (fun c_14 => absurd c_14 (by decide))
    obtain ⟨xa, hxa, rfl⟩ := hy_key
    refine mg_aload_n C dX6_low_21 rfl ?_
    refine mg_iload_n C dX6_low_22 rfl ?_
    refine mg_callU_i C hh rfl (rest := []) (c_X1_atLeast D cI cS w h0 ak an k sd h tot (nI mv) lo f g (nI xa) hh h_ak h_an hk1 hk2 (by omega)) yq_X1_atLeast kw_438 kw_439 dq_atLeast (by decide +kernel) kw_445 kw_444 ⟨by decide, by decide⟩ ⟨Nat.le_of_ble_eq_true rfl, Nat.le_of_ble_eq_true rfl⟩ (Nat.le_of_ble_eq_true rfl) rfl rfl dX6_low_23 (fun r3 w3 ⟨xe3, xk3⟩ => ?_)
    rw [xk3, xe3]
    exact hR _ _ _ _ dX6_low_26 ⟨Or.inr ⟨xa, hxa, rfl, rfl⟩, rfl⟩
  · rw [ra2]
    refine mg_ifN_ne C (tgt := 21) dX6_low_14 (by decide) (by decide) (fun c_14 => absurd c_14 (by decide)) (fun c_14 => ?_)
    refine mg_iconst C (v := (-1 : Int32)) dX6_low_17 (by decide) ?_
    refine mg_goto C (tgt := 26) dX6_low_18 (by decide) ?_
    exact hR _ _ _ _ dX6_low_26 ⟨Or.inl ⟨hy_key, rfl⟩, rfl⟩

set_option maxHeartbeats 4000000 in
set_option maxRecDepth 20000 in
theorem c_X6_high_H (D : va_G) (cI cS : ClassId) (w : mwT) (ox as md a : Nat) (g0 : Nat → Option Nat) (h0 ak an k sd h mv : Nat) (tot lo : Int32) (f g : Nat → Int32) (x : Int32) (hox : w ox = some (.inr (5, [.ref as, .int (nI md)]))) (has : w as = some (eR cS 8 g0)) (hh : w h0 = some (.inr (1, [.int (nI 0), .int (nI k), .int (nI sd), .int tot, .int (nI mv), .ref ak, .ref an, .int (nI h), .int lo]))) (h_ak : w ak = some (eI cI (2 * k) f)) (h_an : w an = some (eI cI (2 * k) g)) (hmd : md ≤ 8) (ha : a < md) (hg : g0 a = some h0) (hs : sd ≤ 999) (hk1 : 1 ≤ k) (hk2 : k ≤ 20) (hh2 : h ≤ k) (hka : ak ≠ an) : mMi yX6_high cX6_high 4 (some .int) (rmL 8) [.ref ox, .int (nI a), .int x] D cI cS w (fun r w1 => ((¬ rg 9999 x ∧ r = -1) ∨ (∃ xa : Nat, xa ≤ 9999 ∧ x = nI xa ∧ r = alH f g h (nI xa) + lo)) ∧ w1 = w) := by
  refine mMi.of (by decide) (Nat.le_of_ble_eq_true rfl) ?_
  intro X C hN hR
  refine mg_sub (lv' := [(0, .ref ox), (1, .int (nI a)), (2, .int x)]) [0, 1, 2] rfl ?_
  refine mg_aload_n C dX6_high_0 rfl ?_
  refine mg_iload_n C dX6_high_1 rfl ?_
  refine mg_callV_q C hox rfl (rest := []) (c_X6_find_in D cI cS w ox as md g0 a hox has hmd ha) yq_X6_find kw_123 kw_124 kw_125 ⟨by decide, by decide⟩ ⟨Nat.le_of_ble_eq_true rfl, Nat.le_of_ble_eq_true rfl⟩ (Nat.le_of_ble_eq_true rfl) rfl rfl dX6_high_2 (fun r1 w1 ⟨xe1, xk1⟩ => ?_)
  rw [xk1, xe1, hg]
  refine mg_astore_n C (lv' := [(3, .ref h0), (0, .ref ox), (1, .int (nI a)), (2, .int x)]) dX6_high_5 rfl (by decide) rfl ?_
  refine mg_aload_n C dX6_high_6 rfl ?_
  refine mg_ifnull C dX6_high_7 ?_
  refine mg_iload_n C dX6_high_10 rfl ?_
  refine mg_callS_i C (rest := []) (c_X6_isKey D cI cS w x) yq_X6_isKey kw_240 kw_241 ⟨by decide, by decide⟩ ⟨Nat.le_of_ble_eq_true rfl, Nat.le_of_ble_eq_true rfl⟩ (Nat.le_of_ble_eq_true rfl) rfl rfl dX6_high_11 (fun r2 w2 ⟨xa2, xk2⟩ => ?_)
  rw [xk2]
  rcases xa2 with ⟨ra2, hy_key⟩ | ⟨ra2, hy_key⟩
  · rw [ra2]
    refine mg_ifN_ne C (tgt := 21) dX6_high_14 (by decide) (by decide) (fun c_14 => ?_) (fun c_14 => absurd c_14 (by decide))
    obtain ⟨xa, hxa, rfl⟩ := hy_key
    refine mg_aload_n C dX6_high_21 rfl ?_
    refine mg_iload_n C dX6_high_22 rfl ?_
    refine mg_callU_i C hh rfl (rest := []) (c_X1_atMost D cI cS w h0 ak an k sd h tot (nI mv) lo f g (nI xa) hh h_ak h_an hk1 hk2 (by omega)) yq_X1_atMost kw_483 kw_484 dq_atMost (by decide +kernel) kw_490 kw_489 ⟨by decide, by decide⟩ ⟨Nat.le_of_ble_eq_true rfl, Nat.le_of_ble_eq_true rfl⟩ (Nat.le_of_ble_eq_true rfl) rfl rfl dX6_high_23 (fun r3 w3 ⟨xe3, xk3⟩ => ?_)
    rw [xk3, xe3]
    exact hR _ _ _ _ dX6_high_26 ⟨Or.inr ⟨xa, hxa, rfl, rfl⟩, rfl⟩
  · rw [ra2]
    refine mg_ifN_ne C (tgt := 21) dX6_high_14 (by decide) (by decide) (fun c_14 => absurd c_14 (by decide)) (fun c_14 => ?_)
    refine mg_iconst C (v := (-1 : Int32)) dX6_high_17 (by decide) ?_
    refine mg_goto C (tgt := 26) dX6_high_18 (by decide) ?_
    exact hR _ _ _ _ dX6_high_26 ⟨Or.inl ⟨hy_key, rfl⟩, rfl⟩

set_option maxHeartbeats 4000000 in
set_option maxRecDepth 20000 in
theorem c_X6_has_H (D : va_G) (cI cS : ClassId) (w : mwT) (ox as md a : Nat) (g0 : Nat → Option Nat) (h0 ak an k sd h mv : Nat) (tot lo : Int32) (f g : Nat → Int32) (x : Int32) (hox : w ox = some (.inr (5, [.ref as, .int (nI md)]))) (has : w as = some (eR cS 8 g0)) (hh : w h0 = some (.inr (1, [.int (nI 0), .int (nI k), .int (nI sd), .int tot, .int (nI mv), .ref ak, .ref an, .int (nI h), .int lo]))) (h_ak : w ak = some (eI cI (2 * k) f)) (h_an : w an = some (eI cI (2 * k) g)) (hmd : md ≤ 8) (ha : a < md) (hg : g0 a = some h0) (hs : sd ≤ 999) (hk1 : 1 ≤ k) (hk2 : k ≤ 20) (hh2 : h ≤ k) (hka : ak ≠ an) : mMi yX6_has cX6_has 4 (some .int) (rmL 8) [.ref ox, .int (nI a), .int x] D cI cS w (fun r w1 => ((¬ rg 9999 x ∧ r = -1) ∨ (∃ xa : Nat, xa ≤ 9999 ∧ x = nI xa ∧ r = -1)) ∧ w1 = w) := by
  refine mMi.of (by decide) (Nat.le_of_ble_eq_true rfl) ?_
  intro X C hN hR
  refine mg_sub (lv' := [(0, .ref ox), (1, .int (nI a)), (2, .int x)]) [0, 1, 2] rfl ?_
  refine mg_aload_n C dX6_has_0 rfl ?_
  refine mg_iload_n C dX6_has_1 rfl ?_
  refine mg_callV_q C hox rfl (rest := []) (c_X6_find_in D cI cS w ox as md g0 a hox has hmd ha) yq_X6_find kw_123 kw_124 kw_125 ⟨by decide, by decide⟩ ⟨Nat.le_of_ble_eq_true rfl, Nat.le_of_ble_eq_true rfl⟩ (Nat.le_of_ble_eq_true rfl) rfl rfl dX6_has_2 (fun r1 w1 ⟨xe1, xk1⟩ => ?_)
  rw [xk1, xe1, hg]
  refine mg_astore_n C (lv' := [(3, .ref h0), (0, .ref ox), (1, .int (nI a)), (2, .int x)]) dX6_has_5 rfl (by decide) rfl ?_
  refine mg_aload_n C dX6_has_6 rfl ?_
  refine mg_ifnull C dX6_has_7 ?_
  refine mg_iload_n C dX6_has_10 rfl ?_
  refine mg_callS_i C (rest := []) (c_X6_isKey D cI cS w x) yq_X6_isKey kw_240 kw_241 ⟨by decide, by decide⟩ ⟨Nat.le_of_ble_eq_true rfl, Nat.le_of_ble_eq_true rfl⟩ (Nat.le_of_ble_eq_true rfl) rfl rfl dX6_has_11 (fun r2 w2 ⟨xa2, xk2⟩ => ?_)
  rw [xk2]
  rcases xa2 with ⟨ra2, hy_key⟩ | ⟨ra2, hy_key⟩
  · rw [ra2]
    refine mg_ifN_ne C (tgt := 21) dX6_has_14 (by decide) (by decide) (fun c_14 => ?_) (fun c_14 => absurd c_14 (by decide))
    obtain ⟨xa, hxa, rfl⟩ := hy_key
    refine mg_aload_n C dX6_has_21 rfl ?_
    refine mg_iload_n C dX6_has_22 rfl ?_
    refine mg_callU_i C hh rfl (rest := []) (c_X4_holds D cI cS w h0 (nI xa)) yq_X4_holds kw_514 kw_515 dq_holds (by decide +kernel) kw_522 kw_521 ⟨by decide, by decide⟩ ⟨Nat.le_of_ble_eq_true rfl, Nat.le_of_ble_eq_true rfl⟩ (Nat.le_of_ble_eq_true rfl) rfl rfl dX6_has_23 (fun r3 w3 ⟨xe3, xk3⟩ => ?_)
    rw [xk3, xe3]
    exact hR _ _ _ _ dX6_has_26 ⟨Or.inr ⟨xa, hxa, rfl, rfl⟩, rfl⟩
  · rw [ra2]
    refine mg_ifN_ne C (tgt := 21) dX6_has_14 (by decide) (by decide) (fun c_14 => absurd c_14 (by decide)) (fun c_14 => ?_)
    refine mg_iconst C (v := (-1 : Int32)) dX6_has_17 (by decide) ?_
    refine mg_goto C (tgt := 26) dX6_has_18 (by decide) ?_
    exact hR _ _ _ _ dX6_has_26 ⟨Or.inl ⟨hy_key, rfl⟩, rfl⟩

set_option maxHeartbeats 4000000 in
set_option maxRecDepth 20000 in
theorem c_X6_distinct_H (D : va_G) (cI cS : ClassId) (w : mwT) (ox as md a : Nat) (g0 : Nat → Option Nat) (h0 ak an k sd h mv : Nat) (tot lo : Int32) (f g : Nat → Int32) (hox : w ox = some (.inr (5, [.ref as, .int (nI md)]))) (has : w as = some (eR cS 8 g0)) (hh : w h0 = some (.inr (1, [.int (nI 0), .int (nI k), .int (nI sd), .int tot, .int (nI mv), .ref ak, .ref an, .int (nI h), .int lo]))) (h_ak : w ak = some (eI cI (2 * k) f)) (h_an : w an = some (eI cI (2 * k) g)) (hmd : md ≤ 8) (ha : a < md) (hg : g0 a = some h0) (hs : sd ≤ 999) (hk1 : 1 ≤ k) (hk2 : k ≤ 20) (hh2 : h ≤ k) (hka : ak ≠ an) : mMi yX6_distinct cX6_distinct 3 (some .int) (rmL 8) [.ref ox, .int (nI a)] D cI cS w (fun r w1 => r = -1 ∧ w1 = w) := by
  refine mMi.of (by decide) (Nat.le_of_ble_eq_true rfl) ?_
  intro X C hN hR
  refine mg_sub (lv' := [(0, .ref ox), (1, .int (nI a))]) [0, 1] rfl ?_
  refine mg_aload_n C dX6_distinct_0 rfl ?_
  refine mg_iload_n C dX6_distinct_1 rfl ?_
  refine mg_callV_q C hox rfl (rest := []) (c_X6_find_in D cI cS w ox as md g0 a hox has hmd ha) yq_X6_find kw_123 kw_124 kw_125 ⟨by decide, by decide⟩ ⟨Nat.le_of_ble_eq_true rfl, Nat.le_of_ble_eq_true rfl⟩ (Nat.le_of_ble_eq_true rfl) rfl rfl dX6_distinct_2 (fun r1 w1 ⟨xe1, xk1⟩ => ?_)
  rw [xk1, xe1, hg]
  refine mg_astore_n C (lv' := [(2, .ref h0), (0, .ref ox), (1, .int (nI a))]) dX6_distinct_5 rfl (by decide) rfl ?_
  refine mg_aload_n C dX6_distinct_6 rfl ?_
  refine mg_ifnonnull C (tgt := 14) dX6_distinct_7 (by decide) ?_
  refine mg_aload_n C dX6_distinct_14 rfl ?_
  refine mg_callU_i C hh rfl (rest := []) (c_X4_differentKeys D cI cS w h0) yq_X4_differentKeys kw_536 kw_537 dq_differentKeys (by decide +kernel) kw_539 kw_541 ⟨by decide, by decide⟩ ⟨Nat.le_of_ble_eq_true rfl, Nat.le_of_ble_eq_true rfl⟩ (Nat.le_of_ble_eq_true rfl) rfl rfl dX6_distinct_15 (fun r2 w2 ⟨xe2, xk2⟩ => ?_)
  rw [xk2, xe2]
  exact hR _ _ _ _ dX6_distinct_18 ⟨rfl, rfl⟩

set_option maxHeartbeats 4000000 in
set_option maxRecDepth 20000 in
theorem c_X6_quantile_H (D : va_G) (cI cS : ClassId) (w : mwT) (ox as md a : Nat) (g0 : Nat → Option Nat) (h0 ak an k sd h mv : Nat) (tot lo : Int32) (f g : Nat → Int32) (q : Int32) (hox : w ox = some (.inr (5, [.ref as, .int (nI md)]))) (has : w as = some (eR cS 8 g0)) (hh : w h0 = some (.inr (1, [.int (nI 0), .int (nI k), .int (nI sd), .int tot, .int (nI mv), .ref ak, .ref an, .int (nI h), .int lo]))) (h_ak : w ak = some (eI cI (2 * k) f)) (h_an : w an = some (eI cI (2 * k) g)) (hmd : md ≤ 8) (ha : a < md) (hg : g0 a = some h0) (hs : sd ≤ 999) (hk1 : 1 ≤ k) (hk2 : k ≤ 20) (hh2 : h ≤ k) (hka : ak ≠ an) : mMi yX6_quantile cX6_quantile 4 (some .int) (rmL 8) [.ref ox, .int (nI a), .int q] D cI cS w (fun r w1 => r = -1 ∧ w1 = w) := by
  refine mMi.of (by decide) (Nat.le_of_ble_eq_true rfl) ?_
  intro X C hN hR
  refine mg_sub (lv' := [(0, .ref ox), (1, .int (nI a)), (2, .int q)]) [0, 1, 2] rfl ?_
  refine mg_aload_n C dX6_quantile_0 rfl ?_
  refine mg_iload_n C dX6_quantile_1 rfl ?_
  refine mg_callV_q C hox rfl (rest := []) (c_X6_find_in D cI cS w ox as md g0 a hox has hmd ha) yq_X6_find kw_123 kw_124 kw_125 ⟨by decide, by decide⟩ ⟨Nat.le_of_ble_eq_true rfl, Nat.le_of_ble_eq_true rfl⟩ (Nat.le_of_ble_eq_true rfl) rfl rfl dX6_quantile_2 (fun r1 w1 ⟨xe1, xk1⟩ => ?_)
  rw [xk1, xe1, hg]
  refine mg_astore_n C (lv' := [(3, .ref h0), (0, .ref ox), (1, .int (nI a)), (2, .int q)]) dX6_quantile_5 rfl (by decide) rfl ?_
  refine mg_aload_n C dX6_quantile_6 rfl ?_
  refine mg_ifnonnull C (tgt := 14) dX6_quantile_7 (by decide) ?_
  refine mg_aload_n C dX6_quantile_14 rfl ?_
  refine mg_iload_n C dX6_quantile_15 rfl ?_
  refine mg_callU_i C hh rfl (rest := []) (c_X4_keyAtRank D cI cS w h0 q) yq_X4_keyAtRank kw_557 kw_558 dq_keyAtRank (by decide +kernel) kw_560 kw_562 ⟨by decide, by decide⟩ ⟨Nat.le_of_ble_eq_true rfl, Nat.le_of_ble_eq_true rfl⟩ (Nat.le_of_ble_eq_true rfl) rfl rfl dX6_quantile_16 (fun r2 w2 ⟨xe2, xk2⟩ => ?_)
  rw [xk2, xe2]
  exact hR _ _ _ _ dX6_quantile_19 ⟨rfl, rfl⟩

set_option maxHeartbeats 4000000 in
set_option maxRecDepth 20000 in
theorem c_X6_kept_H (D : va_G) (cI cS : ClassId) (w : mwT) (ox as md a : Nat) (g0 : Nat → Option Nat) (h0 ak an k sd h mv : Nat) (tot lo : Int32) (f g : Nat → Int32) (i pt : Int32) (hox : w ox = some (.inr (5, [.ref as, .int (nI md)]))) (has : w as = some (eR cS 8 g0)) (hh : w h0 = some (.inr (1, [.int (nI 0), .int (nI k), .int (nI sd), .int tot, .int (nI mv), .ref ak, .ref an, .int (nI h), .int lo]))) (h_ak : w ak = some (eI cI (2 * k) f)) (h_an : w an = some (eI cI (2 * k) g)) (hmd : md ≤ 8) (ha : a < md) (hg : g0 a = some h0) (hs : sd ≤ 999) (hk1 : 1 ≤ k) (hk2 : k ≤ 20) (hh2 : h ≤ k) (hka : ak ≠ an) : mMi yX6_kept cX6_kept 5 (some .int) (rmL 8) [.ref ox, .int (nI a), .int i, .int pt] D cI cS w (fun r w1 => ((∃ c : Nat, c < h ∧ i = nI c ∧ ((pt = 0 ∧ r = f c) ∨ (pt = 1 ∧ r = g c))) ∨ (r = -1 ∧ ¬ (ixN h i ∧ (pt = 0 ∨ pt = 1)))) ∧ w1 = w) := by
  refine mMi.of (by decide) (Nat.le_of_ble_eq_true rfl) ?_
  intro X C hN hR
  refine mg_sub (lv' := [(0, .ref ox), (1, .int (nI a)), (2, .int i), (3, .int pt)]) [0, 1, 2, 3] rfl ?_
  refine mg_aload_n C dX6_kept_0 rfl ?_
  refine mg_iload_n C dX6_kept_1 rfl ?_
  refine mg_callV_q C hox rfl (rest := []) (c_X6_find_in D cI cS w ox as md g0 a hox has hmd ha) yq_X6_find kw_123 kw_124 kw_125 ⟨by decide, by decide⟩ ⟨Nat.le_of_ble_eq_true rfl, Nat.le_of_ble_eq_true rfl⟩ (Nat.le_of_ble_eq_true rfl) rfl rfl dX6_kept_2 (fun r1 w1 ⟨xe1, xk1⟩ => ?_)
  rw [xk1, xe1, hg]
  refine mg_astore C (lv' := [(4, .ref h0), (0, .ref ox), (1, .int (nI a)), (2, .int i), (3, .int pt)]) dX6_kept_5 (by decide) rfl ?_
  refine mg_aload C dX6_kept_7 rfl ?_
  refine mg_ifnonnull C (tgt := 16) dX6_kept_9 (by decide) ?_
  refine mg_aload C dX6_kept_16 rfl ?_
  refine mg_iload_n C dX6_kept_18 rfl ?_
  refine mg_iload_n C dX6_kept_19 rfl ?_
  refine mg_callU_i C hh rfl (rest := []) (c_X1_keptAt D cI cS w h0 ak an k sd h tot (nI mv) lo f g i pt hh h_ak h_an hk1 hk2 (by omega)) yq_X1_keptAt kw_625 kw_626 dq_keptAt (by decide +kernel) kw_631 kw_630 ⟨by decide, by decide⟩ ⟨Nat.le_of_ble_eq_true rfl, Nat.le_of_ble_eq_true rfl⟩ (Nat.le_of_ble_eq_true rfl) rfl rfl dX6_kept_20 (fun r2 w2 ⟨xr, xk2⟩ => ?_)
  rw [xk2]
  exact hR _ _ _ _ dX6_kept_23 ⟨xr, rfl⟩

set_option maxHeartbeats 4000000 in
set_option maxRecDepth 20000 in
theorem c_X6_told_H (D : va_G) (cI cS : ClassId) (w : mwT) (ox as md a : Nat) (g0 : Nat → Option Nat) (h0 ak an k sd h mv : Nat) (tot lo : Int32) (f g : Nat → Int32) (q : Int32) (hox : w ox = some (.inr (5, [.ref as, .int (nI md)]))) (has : w as = some (eR cS 8 g0)) (hh : w h0 = some (.inr (1, [.int (nI 0), .int (nI k), .int (nI sd), .int tot, .int (nI mv), .ref ak, .ref an, .int (nI h), .int lo]))) (h_ak : w ak = some (eI cI (2 * k) f)) (h_an : w an = some (eI cI (2 * k) g)) (hmd : md ≤ 8) (ha : a < md) (hg : g0 a = some h0) (hs : sd ≤ 999) (hk1 : 1 ≤ k) (hk2 : k ≤ 20) (hh2 : h ≤ k) (hka : ak ≠ an) : mMi yX6_told cX6_told 4 (some .int) (rmL 8) [.ref ox, .int (nI a), .int q] D cI cS w (fun r w1 => ((¬ rg 6 q ∧ r = -1) ∨ (q = nI 0 ∧ r = nI 0) ∨ (q = nI 1 ∧ r = nI k) ∨ (q = nI 2 ∧ r = nI sd) ∨ (q = nI 3 ∧ r = tot + nI 10000000) ∨ (q = nI 4 ∧ r = nI mv) ∨ (q = nI 5 ∧ r = lo) ∨ (q = nI 6 ∧ r = nI h)) ∧ w1 = w) := by
  refine mMi.of (by decide) (Nat.le_of_ble_eq_true rfl) ?_
  intro X C hN hR
  refine mg_sub (lv' := [(0, .ref ox), (1, .int (nI a)), (2, .int q)]) [0, 1, 2] rfl ?_
  refine mg_aload_n C dX6_told_0 rfl ?_
  refine mg_iload_n C dX6_told_1 rfl ?_
  refine mg_callV_q C hox rfl (rest := []) (c_X6_find_in D cI cS w ox as md g0 a hox has hmd ha) yq_X6_find kw_123 kw_124 kw_125 ⟨by decide, by decide⟩ ⟨Nat.le_of_ble_eq_true rfl, Nat.le_of_ble_eq_true rfl⟩ (Nat.le_of_ble_eq_true rfl) rfl rfl dX6_told_2 (fun r1 w1 ⟨xe1, xk1⟩ => ?_)
  rw [xk1, xe1, hg]
  refine mg_astore_n C (lv' := [(3, .ref h0), (0, .ref ox), (1, .int (nI a)), (2, .int q)]) dX6_told_5 rfl (by decide) rfl ?_
  refine mg_aload_n C dX6_told_6 rfl ?_
  refine mg_ifnonnull C (tgt := 12) dX6_told_7 (by decide) ?_
  refine mg_iload_n C dX6_told_12 rfl ?_
  rcases Classical.em (rg 6 q) with ⟨jt13, hjjt13, ejt13⟩ | hq13
  · rcases (show jt13 = 0 ∨ jt13 = 1 ∨ jt13 = 2 ∨ jt13 = 3 ∨ jt13 = 4 ∨ jt13 = 5 ∨ jt13 = 6 by omega) with zjt13 | zjt13 | zjt13 | zjt13 | zjt13 | zjt13 | zjt13
    · rw [zjt13] at ejt13
      rw [ejt13]
      refine mg_tabIn C (tgt := 56) (off := 43) dX6_told_13 (by decide) (by decide) rfl (by decide) ?_
      refine mg_aload_n C dX6_told_56 rfl ?_
      refine mg_get C inT1 hh rfl 0 (by decide) kw_577 (Or.inl rfl) rfl dX6_told_57 ?_
      exact hR _ _ _ _ dX6_told_60 ⟨Or.inr (Or.inl ⟨ejt13, rfl⟩), rfl⟩
    · rw [zjt13] at ejt13
      rw [ejt13]
      refine mg_tabIn C (tgt := 61) (off := 48) dX6_told_13 (by decide) (by decide) rfl (by decide) ?_
      refine mg_aload_n C dX6_told_61 rfl ?_
      refine mg_get C inT1 hh rfl 1 (by decide) kw_578 (Or.inl rfl) rfl dX6_told_62 ?_
      exact hR _ _ _ _ dX6_told_65 ⟨Or.inr (Or.inr (Or.inl ⟨ejt13, rfl⟩)), rfl⟩
    · rw [zjt13] at ejt13
      rw [ejt13]
      refine mg_tabIn C (tgt := 66) (off := 53) dX6_told_13 (by decide) (by decide) rfl (by decide) ?_
      refine mg_aload_n C dX6_told_66 rfl ?_
      refine mg_get C inT1 hh rfl 2 (by decide) kw_579 (Or.inl rfl) rfl dX6_told_67 ?_
      exact hR _ _ _ _ dX6_told_70 ⟨Or.inr (Or.inr (Or.inr (Or.inl ⟨ejt13, rfl⟩))), rfl⟩
    · rw [zjt13] at ejt13
      rw [ejt13]
      refine mg_tabIn C (tgt := 71) (off := 58) dX6_told_13 (by decide) (by decide) rfl (by decide) ?_
      refine mg_aload_n C dX6_told_71 rfl ?_
      refine mg_get C inT1 hh rfl 3 (by decide) kw_205 (Or.inl rfl) rfl dX6_told_72 ?_
      refine mg_ldc C (v := nI 10000000) dX6_told_75 kw_207 (by decide) ?_
      refine mg_iadd C (z := tot + (nI 10000000)) dX6_told_77 rfl ?_
      exact hR _ _ _ _ dX6_told_78 ⟨Or.inr (Or.inr (Or.inr (Or.inr (Or.inl ⟨ejt13, rfl⟩)))), rfl⟩
    · rw [zjt13] at ejt13
      rw [ejt13]
      refine mg_tabIn C (tgt := 79) (off := 66) dX6_told_13 (by decide) (by decide) rfl (by decide) ?_
      refine mg_aload_n C dX6_told_79 rfl ?_
      refine mg_get C inT1 hh rfl 4 (by decide) kw_206 (Or.inl rfl) rfl dX6_told_80 ?_
      exact hR _ _ _ _ dX6_told_83 ⟨Or.inr (Or.inr (Or.inr (Or.inr (Or.inr (Or.inl ⟨ejt13, rfl⟩))))), rfl⟩
    · rw [zjt13] at ejt13
      rw [ejt13]
      refine mg_tabIn C (tgt := 84) (off := 71) dX6_told_13 (by decide) (by decide) rfl (by decide) ?_
      refine mg_aload_n C dX6_told_84 rfl ?_
      refine mg_callU_i C hh rfl (rest := []) (c_X1_mayLack D cI cS w h0 ak an k sd h tot (nI mv) lo f g hh h_ak h_an) yq_X1_mayLack kw_580 kw_581 dq_mayLack (by decide +kernel) kw_587 kw_586 ⟨by decide, by decide⟩ ⟨Nat.le_of_ble_eq_true rfl, Nat.le_of_ble_eq_true rfl⟩ (Nat.le_of_ble_eq_true rfl) rfl rfl dX6_told_85 (fun r2 w2 ⟨xe2, xk2⟩ => ?_)
      rw [xk2, xe2]
      exact hR _ _ _ _ dX6_told_88 ⟨Or.inr (Or.inr (Or.inr (Or.inr (Or.inr (Or.inr (Or.inl ⟨ejt13, rfl⟩)))))), rfl⟩
    · rw [zjt13] at ejt13
      rw [ejt13]
      refine mg_tabIn C (tgt := 89) (off := 76) dX6_told_13 (by decide) (by decide) rfl (by decide) ?_
      refine mg_aload_n C dX6_told_89 rfl ?_
      refine mg_callU_i C hh rfl (rest := []) (c_X1_howManyKept D cI cS w h0 ak an k sd h tot (nI mv) lo f g hh h_ak h_an ) yq_X1_howManyKept kw_594 kw_595 dq_howManyKept (by decide +kernel) kw_602 kw_601 ⟨by decide, by decide⟩ ⟨Nat.le_of_ble_eq_true rfl, Nat.le_of_ble_eq_true rfl⟩ (Nat.le_of_ble_eq_true rfl) rfl rfl dX6_told_90 (fun r3 w3 ⟨xe3, xk3⟩ => ?_)
      rw [xk3, xe3]
      exact hR _ _ _ _ dX6_told_93 ⟨Or.inr (Or.inr (Or.inr (Or.inr (Or.inr (Or.inr (Or.inr (⟨ejt13, rfl⟩))))))), rfl⟩
  · refine mg_tabOut C (tgt := 94) dX6_told_13 (rg_out (by decide) hq13) (by decide) ?_
    refine mg_iconst C (v := (-1 : Int32)) dX6_told_94 (by decide) ?_
    exact hR _ _ _ _ dX6_told_95 ⟨Or.inl ⟨hq13, rfl⟩, rfl⟩

set_option maxHeartbeats 4000000 in
set_option maxRecDepth 20000 in
theorem c_X6_low_R (D : va_G) (cI cS : ClassId) (w : mwT) (ox as md a : Nat) (g0 : Nat → Option Nat) (h0 ak al aw k sd mv : Nat) (tot er : Int32) (f : Nat → Int32) (ln tr : Nat → Nat) (x : Int32) (hox : w ox = some (.inr (5, [.ref as, .int (nI md)]))) (has : w as = some (eR cS 8 g0)) (hh : w h0 = some (.inr (3, [.int (nI 4), .int (nI k), .int (nI sd), .int tot, .int (nI mv), .ref ak, .ref al, .ref aw, .int er]))) (h_ak : w ak = some (eI cI (31 * k) f)) (h_al : w al = some (eI cI 31 (lnF ln))) (h_aw : w aw = some (eI cI 31 (lnF tr))) (hmd : md ≤ 8) (ha : a < md) (hg : g0 a = some h0) (hs : sd ≤ 999) (hk1 : 4 ≤ k) (hk2 : k ≤ 32) (hd1 : ak ≠ al) (hd2 : ak ≠ aw) (hd3 : al ≠ aw) (hok : rkOk k (f, ln, tr, er)) : mMi yX6_low cX6_low 4 (some .int) (rmL 8) [.ref ox, .int (nI a), .int x] D cI cS w (fun r w1 => ((¬ rg 9999 x ∧ r = -1) ∨ (∃ xa : Nat, xa ≤ 9999 ∧ x = nI xa ∧ r = (if nI 0 < wO f ln k (nI xa) 31 - er then wO f ln k (nI xa) 31 - er else nI 0))) ∧ w1 = w) := by
  refine mMi.of (by decide) (Nat.le_of_ble_eq_true rfl) ?_
  intro X C hN hR
  refine mg_sub (lv' := [(0, .ref ox), (1, .int (nI a)), (2, .int x)]) [0, 1, 2] rfl ?_
  refine mg_aload_n C dX6_low_0 rfl ?_
  refine mg_iload_n C dX6_low_1 rfl ?_
  refine mg_callV_q C hox rfl (rest := []) (c_X6_find_in D cI cS w ox as md g0 a hox has hmd ha) yq_X6_find kw_123 kw_124 kw_125 ⟨by decide, by decide⟩ ⟨Nat.le_of_ble_eq_true rfl, Nat.le_of_ble_eq_true rfl⟩ (Nat.le_of_ble_eq_true rfl) rfl rfl dX6_low_2 (fun r1 w1 ⟨xe1, xk1⟩ => ?_)
  rw [xk1, xe1, hg]
  refine mg_astore_n C (lv' := [(3, .ref h0), (0, .ref ox), (1, .int (nI a)), (2, .int x)]) dX6_low_5 rfl (by decide) rfl ?_
  refine mg_aload_n C dX6_low_6 rfl ?_
  refine mg_ifnull C dX6_low_7 ?_
  refine mg_iload_n C dX6_low_10 rfl ?_
  refine mg_callS_i C (rest := []) (c_X6_isKey D cI cS w x) yq_X6_isKey kw_240 kw_241 ⟨by decide, by decide⟩ ⟨Nat.le_of_ble_eq_true rfl, Nat.le_of_ble_eq_true rfl⟩ (Nat.le_of_ble_eq_true rfl) rfl rfl dX6_low_11 (fun r2 w2 ⟨xa2, xk2⟩ => ?_)
  rw [xk2]
  rcases xa2 with ⟨ra2, hy_key⟩ | ⟨ra2, hy_key⟩
  · rw [ra2]
    refine mg_ifN_ne C (tgt := 21) dX6_low_14 (by decide) (by decide) (fun c_14 => ?_) (fun c_14 => absurd c_14 (by decide))
    obtain ⟨xa, hxa, rfl⟩ := hy_key
    refine mg_aload_n C dX6_low_21 rfl ?_
    refine mg_iload_n C dX6_low_22 rfl ?_
    refine mg_callU_i C hh rfl (rest := []) (c_X3_atLeast D cI cS w h0 ak al aw k sd tot (nI mv) er f ln tr (nI xa) hh h_ak h_al h_aw hk1 hk2 hok) yq_X3_atLeast kw_438 kw_439 dq_atLeast (by decide +kernel) kw_449 kw_448 ⟨by decide, by decide⟩ ⟨Nat.le_of_ble_eq_true rfl, Nat.le_of_ble_eq_true rfl⟩ (Nat.le_of_ble_eq_true rfl) rfl rfl dX6_low_23 (fun r3 w3 ⟨xe3, xk3⟩ => ?_)
    rw [xk3, xe3]
    exact hR _ _ _ _ dX6_low_26 ⟨Or.inr ⟨xa, hxa, rfl, rfl⟩, rfl⟩
  · rw [ra2]
    refine mg_ifN_ne C (tgt := 21) dX6_low_14 (by decide) (by decide) (fun c_14 => absurd c_14 (by decide)) (fun c_14 => ?_)
    refine mg_iconst C (v := (-1 : Int32)) dX6_low_17 (by decide) ?_
    refine mg_goto C (tgt := 26) dX6_low_18 (by decide) ?_
    exact hR _ _ _ _ dX6_low_26 ⟨Or.inl ⟨hy_key, rfl⟩, rfl⟩

set_option maxHeartbeats 4000000 in
set_option maxRecDepth 20000 in
theorem c_X6_high_R (D : va_G) (cI cS : ClassId) (w : mwT) (ox as md a : Nat) (g0 : Nat → Option Nat) (h0 ak al aw k sd mv : Nat) (tot er : Int32) (f : Nat → Int32) (ln tr : Nat → Nat) (x : Int32) (hox : w ox = some (.inr (5, [.ref as, .int (nI md)]))) (has : w as = some (eR cS 8 g0)) (hh : w h0 = some (.inr (3, [.int (nI 4), .int (nI k), .int (nI sd), .int tot, .int (nI mv), .ref ak, .ref al, .ref aw, .int er]))) (h_ak : w ak = some (eI cI (31 * k) f)) (h_al : w al = some (eI cI 31 (lnF ln))) (h_aw : w aw = some (eI cI 31 (lnF tr))) (hmd : md ≤ 8) (ha : a < md) (hg : g0 a = some h0) (hs : sd ≤ 999) (hk1 : 4 ≤ k) (hk2 : k ≤ 32) (hd1 : ak ≠ al) (hd2 : ak ≠ aw) (hd3 : al ≠ aw) (hok : rkOk k (f, ln, tr, er)) : mMi yX6_high cX6_high 4 (some .int) (rmL 8) [.ref ox, .int (nI a), .int x] D cI cS w (fun r w1 => ((¬ rg 9999 x ∧ r = -1) ∨ (∃ xa : Nat, xa ≤ 9999 ∧ x = nI xa ∧ r = (if wO f ln k (nI xa) 31 + er < tot then wO f ln k (nI xa) 31 + er else tot))) ∧ w1 = w) := by
  refine mMi.of (by decide) (Nat.le_of_ble_eq_true rfl) ?_
  intro X C hN hR
  refine mg_sub (lv' := [(0, .ref ox), (1, .int (nI a)), (2, .int x)]) [0, 1, 2] rfl ?_
  refine mg_aload_n C dX6_high_0 rfl ?_
  refine mg_iload_n C dX6_high_1 rfl ?_
  refine mg_callV_q C hox rfl (rest := []) (c_X6_find_in D cI cS w ox as md g0 a hox has hmd ha) yq_X6_find kw_123 kw_124 kw_125 ⟨by decide, by decide⟩ ⟨Nat.le_of_ble_eq_true rfl, Nat.le_of_ble_eq_true rfl⟩ (Nat.le_of_ble_eq_true rfl) rfl rfl dX6_high_2 (fun r1 w1 ⟨xe1, xk1⟩ => ?_)
  rw [xk1, xe1, hg]
  refine mg_astore_n C (lv' := [(3, .ref h0), (0, .ref ox), (1, .int (nI a)), (2, .int x)]) dX6_high_5 rfl (by decide) rfl ?_
  refine mg_aload_n C dX6_high_6 rfl ?_
  refine mg_ifnull C dX6_high_7 ?_
  refine mg_iload_n C dX6_high_10 rfl ?_
  refine mg_callS_i C (rest := []) (c_X6_isKey D cI cS w x) yq_X6_isKey kw_240 kw_241 ⟨by decide, by decide⟩ ⟨Nat.le_of_ble_eq_true rfl, Nat.le_of_ble_eq_true rfl⟩ (Nat.le_of_ble_eq_true rfl) rfl rfl dX6_high_11 (fun r2 w2 ⟨xa2, xk2⟩ => ?_)
  rw [xk2]
  rcases xa2 with ⟨ra2, hy_key⟩ | ⟨ra2, hy_key⟩
  · rw [ra2]
    refine mg_ifN_ne C (tgt := 21) dX6_high_14 (by decide) (by decide) (fun c_14 => ?_) (fun c_14 => absurd c_14 (by decide))
    obtain ⟨xa, hxa, rfl⟩ := hy_key
    refine mg_aload_n C dX6_high_21 rfl ?_
    refine mg_iload_n C dX6_high_22 rfl ?_
    refine mg_callU_i C hh rfl (rest := []) (c_X3_atMost D cI cS w h0 ak al aw k sd tot (nI mv) er f ln tr (nI xa) hh h_ak h_al h_aw hk1 hk2 hok) yq_X3_atMost kw_483 kw_484 dq_atMost (by decide +kernel) kw_496 kw_495 ⟨by decide, by decide⟩ ⟨Nat.le_of_ble_eq_true rfl, Nat.le_of_ble_eq_true rfl⟩ (Nat.le_of_ble_eq_true rfl) rfl rfl dX6_high_23 (fun r3 w3 ⟨xe3, xk3⟩ => ?_)
    rw [xk3, xe3]
    exact hR _ _ _ _ dX6_high_26 ⟨Or.inr ⟨xa, hxa, rfl, rfl⟩, rfl⟩
  · rw [ra2]
    refine mg_ifN_ne C (tgt := 21) dX6_high_14 (by decide) (by decide) (fun c_14 => absurd c_14 (by decide)) (fun c_14 => ?_)
    refine mg_iconst C (v := (-1 : Int32)) dX6_high_17 (by decide) ?_
    refine mg_goto C (tgt := 26) dX6_high_18 (by decide) ?_
    exact hR _ _ _ _ dX6_high_26 ⟨Or.inl ⟨hy_key, rfl⟩, rfl⟩

set_option maxHeartbeats 4000000 in
set_option maxRecDepth 20000 in
theorem c_X6_has_R (D : va_G) (cI cS : ClassId) (w : mwT) (ox as md a : Nat) (g0 : Nat → Option Nat) (h0 ak al aw k sd mv : Nat) (tot er : Int32) (f : Nat → Int32) (ln tr : Nat → Nat) (x : Int32) (hox : w ox = some (.inr (5, [.ref as, .int (nI md)]))) (has : w as = some (eR cS 8 g0)) (hh : w h0 = some (.inr (3, [.int (nI 4), .int (nI k), .int (nI sd), .int tot, .int (nI mv), .ref ak, .ref al, .ref aw, .int er]))) (h_ak : w ak = some (eI cI (31 * k) f)) (h_al : w al = some (eI cI 31 (lnF ln))) (h_aw : w aw = some (eI cI 31 (lnF tr))) (hmd : md ≤ 8) (ha : a < md) (hg : g0 a = some h0) (hs : sd ≤ 999) (hk1 : 4 ≤ k) (hk2 : k ≤ 32) (hd1 : ak ≠ al) (hd2 : ak ≠ aw) (hd3 : al ≠ aw) (hok : rkOk k (f, ln, tr, er)) : mMi yX6_has cX6_has 4 (some .int) (rmL 8) [.ref ox, .int (nI a), .int x] D cI cS w (fun r w1 => ((¬ rg 9999 x ∧ r = -1) ∨ (∃ xa : Nat, xa ≤ 9999 ∧ x = nI xa ∧ r = -1)) ∧ w1 = w) := by
  refine mMi.of (by decide) (Nat.le_of_ble_eq_true rfl) ?_
  intro X C hN hR
  refine mg_sub (lv' := [(0, .ref ox), (1, .int (nI a)), (2, .int x)]) [0, 1, 2] rfl ?_
  refine mg_aload_n C dX6_has_0 rfl ?_
  refine mg_iload_n C dX6_has_1 rfl ?_
  refine mg_callV_q C hox rfl (rest := []) (c_X6_find_in D cI cS w ox as md g0 a hox has hmd ha) yq_X6_find kw_123 kw_124 kw_125 ⟨by decide, by decide⟩ ⟨Nat.le_of_ble_eq_true rfl, Nat.le_of_ble_eq_true rfl⟩ (Nat.le_of_ble_eq_true rfl) rfl rfl dX6_has_2 (fun r1 w1 ⟨xe1, xk1⟩ => ?_)
  rw [xk1, xe1, hg]
  refine mg_astore_n C (lv' := [(3, .ref h0), (0, .ref ox), (1, .int (nI a)), (2, .int x)]) dX6_has_5 rfl (by decide) rfl ?_
  refine mg_aload_n C dX6_has_6 rfl ?_
  refine mg_ifnull C dX6_has_7 ?_
  refine mg_iload_n C dX6_has_10 rfl ?_
  refine mg_callS_i C (rest := []) (c_X6_isKey D cI cS w x) yq_X6_isKey kw_240 kw_241 ⟨by decide, by decide⟩ ⟨Nat.le_of_ble_eq_true rfl, Nat.le_of_ble_eq_true rfl⟩ (Nat.le_of_ble_eq_true rfl) rfl rfl dX6_has_11 (fun r2 w2 ⟨xa2, xk2⟩ => ?_)
  rw [xk2]
  rcases xa2 with ⟨ra2, hy_key⟩ | ⟨ra2, hy_key⟩
  · rw [ra2]
    refine mg_ifN_ne C (tgt := 21) dX6_has_14 (by decide) (by decide) (fun c_14 => ?_) (fun c_14 => absurd c_14 (by decide))
    obtain ⟨xa, hxa, rfl⟩ := hy_key
    refine mg_aload_n C dX6_has_21 rfl ?_
    refine mg_iload_n C dX6_has_22 rfl ?_
    refine mg_callU_i C hh rfl (rest := []) (c_X4_holds D cI cS w h0 (nI xa)) yq_X4_holds kw_514 kw_515 dq_holds (by decide +kernel) kw_522 kw_526 ⟨by decide, by decide⟩ ⟨Nat.le_of_ble_eq_true rfl, Nat.le_of_ble_eq_true rfl⟩ (Nat.le_of_ble_eq_true rfl) rfl rfl dX6_has_23 (fun r3 w3 ⟨xe3, xk3⟩ => ?_)
    rw [xk3, xe3]
    exact hR _ _ _ _ dX6_has_26 ⟨Or.inr ⟨xa, hxa, rfl, rfl⟩, rfl⟩
  · rw [ra2]
    refine mg_ifN_ne C (tgt := 21) dX6_has_14 (by decide) (by decide) (fun c_14 => absurd c_14 (by decide)) (fun c_14 => ?_)
    refine mg_iconst C (v := (-1 : Int32)) dX6_has_17 (by decide) ?_
    refine mg_goto C (tgt := 26) dX6_has_18 (by decide) ?_
    exact hR _ _ _ _ dX6_has_26 ⟨Or.inl ⟨hy_key, rfl⟩, rfl⟩

set_option maxHeartbeats 4000000 in
set_option maxRecDepth 20000 in
theorem c_X6_distinct_R (D : va_G) (cI cS : ClassId) (w : mwT) (ox as md a : Nat) (g0 : Nat → Option Nat) (h0 ak al aw k sd mv : Nat) (tot er : Int32) (f : Nat → Int32) (ln tr : Nat → Nat) (hox : w ox = some (.inr (5, [.ref as, .int (nI md)]))) (has : w as = some (eR cS 8 g0)) (hh : w h0 = some (.inr (3, [.int (nI 4), .int (nI k), .int (nI sd), .int tot, .int (nI mv), .ref ak, .ref al, .ref aw, .int er]))) (h_ak : w ak = some (eI cI (31 * k) f)) (h_al : w al = some (eI cI 31 (lnF ln))) (h_aw : w aw = some (eI cI 31 (lnF tr))) (hmd : md ≤ 8) (ha : a < md) (hg : g0 a = some h0) (hs : sd ≤ 999) (hk1 : 4 ≤ k) (hk2 : k ≤ 32) (hd1 : ak ≠ al) (hd2 : ak ≠ aw) (hd3 : al ≠ aw) (hok : rkOk k (f, ln, tr, er)) : mMi yX6_distinct cX6_distinct 3 (some .int) (rmL 8) [.ref ox, .int (nI a)] D cI cS w (fun r w1 => r = -1 ∧ w1 = w) := by
  refine mMi.of (by decide) (Nat.le_of_ble_eq_true rfl) ?_
  intro X C hN hR
  refine mg_sub (lv' := [(0, .ref ox), (1, .int (nI a))]) [0, 1] rfl ?_
  refine mg_aload_n C dX6_distinct_0 rfl ?_
  refine mg_iload_n C dX6_distinct_1 rfl ?_
  refine mg_callV_q C hox rfl (rest := []) (c_X6_find_in D cI cS w ox as md g0 a hox has hmd ha) yq_X6_find kw_123 kw_124 kw_125 ⟨by decide, by decide⟩ ⟨Nat.le_of_ble_eq_true rfl, Nat.le_of_ble_eq_true rfl⟩ (Nat.le_of_ble_eq_true rfl) rfl rfl dX6_distinct_2 (fun r1 w1 ⟨xe1, xk1⟩ => ?_)
  rw [xk1, xe1, hg]
  refine mg_astore_n C (lv' := [(2, .ref h0), (0, .ref ox), (1, .int (nI a))]) dX6_distinct_5 rfl (by decide) rfl ?_
  refine mg_aload_n C dX6_distinct_6 rfl ?_
  refine mg_ifnonnull C (tgt := 14) dX6_distinct_7 (by decide) ?_
  refine mg_aload_n C dX6_distinct_14 rfl ?_
  refine mg_callU_i C hh rfl (rest := []) (c_X4_differentKeys D cI cS w h0) yq_X4_differentKeys kw_536 kw_537 dq_differentKeys (by decide +kernel) kw_539 kw_547 ⟨by decide, by decide⟩ ⟨Nat.le_of_ble_eq_true rfl, Nat.le_of_ble_eq_true rfl⟩ (Nat.le_of_ble_eq_true rfl) rfl rfl dX6_distinct_15 (fun r2 w2 ⟨xe2, xk2⟩ => ?_)
  rw [xk2, xe2]
  exact hR _ _ _ _ dX6_distinct_18 ⟨rfl, rfl⟩

set_option maxHeartbeats 4000000 in
set_option maxRecDepth 20000 in
theorem c_X6_quantile_R (D : va_G) (cI cS : ClassId) (w : mwT) (ox as md a : Nat) (g0 : Nat → Option Nat) (h0 ak al aw k sd mv : Nat) (tot er : Int32) (f : Nat → Int32) (ln tr : Nat → Nat) (q : Int32) (hox : w ox = some (.inr (5, [.ref as, .int (nI md)]))) (has : w as = some (eR cS 8 g0)) (hh : w h0 = some (.inr (3, [.int (nI 4), .int (nI k), .int (nI sd), .int tot, .int (nI mv), .ref ak, .ref al, .ref aw, .int er]))) (h_ak : w ak = some (eI cI (31 * k) f)) (h_al : w al = some (eI cI 31 (lnF ln))) (h_aw : w aw = some (eI cI 31 (lnF tr))) (hmd : md ≤ 8) (ha : a < md) (hg : g0 a = some h0) (hs : sd ≤ 999) (hk1 : 4 ≤ k) (hk2 : k ≤ 32) (hd1 : ak ≠ al) (hd2 : ak ≠ aw) (hd3 : al ≠ aw) (hok : rkOk k (f, ln, tr, er)) : mMi yX6_quantile cX6_quantile 4 (some .int) (rmL 8) [.ref ox, .int (nI a), .int q] D cI cS w (fun r w1 => ((r = -1 ∧ (q < nI 1 ∨ ¬ q ≤ tot)) ∨ (¬ q < nI 1 ∧ q ≤ tot ∧ r = nI (bsR (fun m => wO f ln k (nI m) 31) q 14 0 9999))) ∧ w1 = w) := by
  refine mMi.of (by decide) (Nat.le_of_ble_eq_true rfl) ?_
  intro X C hN hR
  refine mg_sub (lv' := [(0, .ref ox), (1, .int (nI a)), (2, .int q)]) [0, 1, 2] rfl ?_
  refine mg_aload_n C dX6_quantile_0 rfl ?_
  refine mg_iload_n C dX6_quantile_1 rfl ?_
  refine mg_callV_q C hox rfl (rest := []) (c_X6_find_in D cI cS w ox as md g0 a hox has hmd ha) yq_X6_find kw_123 kw_124 kw_125 ⟨by decide, by decide⟩ ⟨Nat.le_of_ble_eq_true rfl, Nat.le_of_ble_eq_true rfl⟩ (Nat.le_of_ble_eq_true rfl) rfl rfl dX6_quantile_2 (fun r1 w1 ⟨xe1, xk1⟩ => ?_)
  rw [xk1, xe1, hg]
  refine mg_astore_n C (lv' := [(3, .ref h0), (0, .ref ox), (1, .int (nI a)), (2, .int q)]) dX6_quantile_5 rfl (by decide) rfl ?_
  refine mg_aload_n C dX6_quantile_6 rfl ?_
  refine mg_ifnonnull C (tgt := 14) dX6_quantile_7 (by decide) ?_
  refine mg_aload_n C dX6_quantile_14 rfl ?_
  refine mg_iload_n C dX6_quantile_15 rfl ?_
  refine mg_callU_i C hh rfl (rest := []) (c_X3_keyAtRank D cI cS w h0 ak al aw k sd tot (nI mv) er f ln tr q hh h_ak h_al h_aw hk1 hk2 hok) yq_X3_keyAtRank kw_557 kw_558 dq_keyAtRank (by decide +kernel) kw_566 kw_565 ⟨by decide, by decide⟩ ⟨Nat.le_of_ble_eq_true rfl, Nat.le_of_ble_eq_true rfl⟩ (Nat.le_of_ble_eq_true rfl) rfl rfl dX6_quantile_16 (fun r2 w2 ⟨xr, xk2⟩ => ?_)
  rw [xk2]
  exact hR _ _ _ _ dX6_quantile_19 ⟨xr, rfl⟩

set_option maxHeartbeats 4000000 in
set_option maxRecDepth 20000 in
theorem c_X6_kept_R (D : va_G) (cI cS : ClassId) (w : mwT) (ox as md a : Nat) (g0 : Nat → Option Nat) (h0 ak al aw k sd mv : Nat) (tot er : Int32) (f : Nat → Int32) (ln tr : Nat → Nat) (i pt : Int32) (hox : w ox = some (.inr (5, [.ref as, .int (nI md)]))) (has : w as = some (eR cS 8 g0)) (hh : w h0 = some (.inr (3, [.int (nI 4), .int (nI k), .int (nI sd), .int tot, .int (nI mv), .ref ak, .ref al, .ref aw, .int er]))) (h_ak : w ak = some (eI cI (31 * k) f)) (h_al : w al = some (eI cI 31 (lnF ln))) (h_aw : w aw = some (eI cI 31 (lnF tr))) (hmd : md ≤ 8) (ha : a < md) (hg : g0 a = some h0) (hs : sd ≤ 999) (hk1 : 4 ≤ k) (hk2 : k ≤ 32) (hd1 : ak ≠ al) (hd2 : ak ≠ aw) (hd3 : al ≠ aw) (hok : rkOk k (f, ln, tr, er)) : mMi yX6_kept cX6_kept 5 (some .int) (rmL 8) [.ref ox, .int (nI a), .int i, .int pt] D cI cS w (fun r w1 => ((r = -1 ∧ ¬ ixN 31 pt) ∨ (∃ b : Nat, b < 31 ∧ pt = nI b ∧ ((r = -1 ∧ ¬ (i = -1 ∨ ixN (ln b) i)) ∨ (i = -1 ∧ r = nI (ln b)) ∨ ∃ c : Nat, c < ln b ∧ i = nI c ∧ r = f (b * k + c)))) ∧ w1 = w) := by
  refine mMi.of (by decide) (Nat.le_of_ble_eq_true rfl) ?_
  intro X C hN hR
  refine mg_sub (lv' := [(0, .ref ox), (1, .int (nI a)), (2, .int i), (3, .int pt)]) [0, 1, 2, 3] rfl ?_
  refine mg_aload_n C dX6_kept_0 rfl ?_
  refine mg_iload_n C dX6_kept_1 rfl ?_
  refine mg_callV_q C hox rfl (rest := []) (c_X6_find_in D cI cS w ox as md g0 a hox has hmd ha) yq_X6_find kw_123 kw_124 kw_125 ⟨by decide, by decide⟩ ⟨Nat.le_of_ble_eq_true rfl, Nat.le_of_ble_eq_true rfl⟩ (Nat.le_of_ble_eq_true rfl) rfl rfl dX6_kept_2 (fun r1 w1 ⟨xe1, xk1⟩ => ?_)
  rw [xk1, xe1, hg]
  refine mg_astore C (lv' := [(4, .ref h0), (0, .ref ox), (1, .int (nI a)), (2, .int i), (3, .int pt)]) dX6_kept_5 (by decide) rfl ?_
  refine mg_aload C dX6_kept_7 rfl ?_
  refine mg_ifnonnull C (tgt := 16) dX6_kept_9 (by decide) ?_
  refine mg_aload C dX6_kept_16 rfl ?_
  refine mg_iload_n C dX6_kept_18 rfl ?_
  refine mg_iload_n C dX6_kept_19 rfl ?_
  refine mg_callU_i C hh rfl (rest := []) (c_X3_keptAt D cI cS w h0 ak al aw k sd tot (nI mv) er f ln tr i pt hh h_ak h_al h_aw hk1 hk2 hok) yq_X3_keptAt kw_625 kw_626 dq_keptAt (by decide +kernel) kw_637 kw_636 ⟨by decide, by decide⟩ ⟨Nat.le_of_ble_eq_true rfl, Nat.le_of_ble_eq_true rfl⟩ (Nat.le_of_ble_eq_true rfl) rfl rfl dX6_kept_20 (fun r2 w2 ⟨xr, xk2⟩ => ?_)
  rw [xk2]
  exact hR _ _ _ _ dX6_kept_23 ⟨xr, rfl⟩

set_option maxHeartbeats 4000000 in
set_option maxRecDepth 20000 in
theorem c_X6_told_R (D : va_G) (cI cS : ClassId) (w : mwT) (ox as md a : Nat) (g0 : Nat → Option Nat) (h0 ak al aw k sd mv : Nat) (tot er : Int32) (f : Nat → Int32) (ln tr : Nat → Nat) (q : Int32) (hox : w ox = some (.inr (5, [.ref as, .int (nI md)]))) (has : w as = some (eR cS 8 g0)) (hh : w h0 = some (.inr (3, [.int (nI 4), .int (nI k), .int (nI sd), .int tot, .int (nI mv), .ref ak, .ref al, .ref aw, .int er]))) (h_ak : w ak = some (eI cI (31 * k) f)) (h_al : w al = some (eI cI 31 (lnF ln))) (h_aw : w aw = some (eI cI 31 (lnF tr))) (hmd : md ≤ 8) (ha : a < md) (hg : g0 a = some h0) (hs : sd ≤ 999) (hk1 : 4 ≤ k) (hk2 : k ≤ 32) (hd1 : ak ≠ al) (hd2 : ak ≠ aw) (hd3 : al ≠ aw) (hok : rkOk k (f, ln, tr, er)) : mMi yX6_told cX6_told 4 (some .int) (rmL 8) [.ref ox, .int (nI a), .int q] D cI cS w (fun r w1 => ((¬ rg 6 q ∧ r = -1) ∨ (q = nI 0 ∧ r = nI 4) ∨ (q = nI 1 ∧ r = nI k) ∨ (q = nI 2 ∧ r = nI sd) ∨ (q = nI 3 ∧ r = tot + nI 10000000) ∨ (q = nI 4 ∧ r = nI mv) ∨ (q = nI 5 ∧ r = er) ∨ (q = nI 6 ∧ r = nI (smN ln 31))) ∧ w1 = w) := by
  refine mMi.of (by decide) (Nat.le_of_ble_eq_true rfl) ?_
  intro X C hN hR
  refine mg_sub (lv' := [(0, .ref ox), (1, .int (nI a)), (2, .int q)]) [0, 1, 2] rfl ?_
  refine mg_aload_n C dX6_told_0 rfl ?_
  refine mg_iload_n C dX6_told_1 rfl ?_
  refine mg_callV_q C hox rfl (rest := []) (c_X6_find_in D cI cS w ox as md g0 a hox has hmd ha) yq_X6_find kw_123 kw_124 kw_125 ⟨by decide, by decide⟩ ⟨Nat.le_of_ble_eq_true rfl, Nat.le_of_ble_eq_true rfl⟩ (Nat.le_of_ble_eq_true rfl) rfl rfl dX6_told_2 (fun r1 w1 ⟨xe1, xk1⟩ => ?_)
  rw [xk1, xe1, hg]
  refine mg_astore_n C (lv' := [(3, .ref h0), (0, .ref ox), (1, .int (nI a)), (2, .int q)]) dX6_told_5 rfl (by decide) rfl ?_
  refine mg_aload_n C dX6_told_6 rfl ?_
  refine mg_ifnonnull C (tgt := 12) dX6_told_7 (by decide) ?_
  refine mg_iload_n C dX6_told_12 rfl ?_
  rcases Classical.em (rg 6 q) with ⟨jt13, hjjt13, ejt13⟩ | hq13
  · rcases (show jt13 = 0 ∨ jt13 = 1 ∨ jt13 = 2 ∨ jt13 = 3 ∨ jt13 = 4 ∨ jt13 = 5 ∨ jt13 = 6 by omega) with zjt13 | zjt13 | zjt13 | zjt13 | zjt13 | zjt13 | zjt13
    · rw [zjt13] at ejt13
      rw [ejt13]
      refine mg_tabIn C (tgt := 56) (off := 43) dX6_told_13 (by decide) (by decide) rfl (by decide) ?_
      refine mg_aload_n C dX6_told_56 rfl ?_
      refine mg_get C inT3 hh rfl 0 (by decide) kw_577 (Or.inl rfl) rfl dX6_told_57 ?_
      exact hR _ _ _ _ dX6_told_60 ⟨Or.inr (Or.inl ⟨ejt13, rfl⟩), rfl⟩
    · rw [zjt13] at ejt13
      rw [ejt13]
      refine mg_tabIn C (tgt := 61) (off := 48) dX6_told_13 (by decide) (by decide) rfl (by decide) ?_
      refine mg_aload_n C dX6_told_61 rfl ?_
      refine mg_get C inT3 hh rfl 1 (by decide) kw_578 (Or.inl rfl) rfl dX6_told_62 ?_
      exact hR _ _ _ _ dX6_told_65 ⟨Or.inr (Or.inr (Or.inl ⟨ejt13, rfl⟩)), rfl⟩
    · rw [zjt13] at ejt13
      rw [ejt13]
      refine mg_tabIn C (tgt := 66) (off := 53) dX6_told_13 (by decide) (by decide) rfl (by decide) ?_
      refine mg_aload_n C dX6_told_66 rfl ?_
      refine mg_get C inT3 hh rfl 2 (by decide) kw_579 (Or.inl rfl) rfl dX6_told_67 ?_
      exact hR _ _ _ _ dX6_told_70 ⟨Or.inr (Or.inr (Or.inr (Or.inl ⟨ejt13, rfl⟩))), rfl⟩
    · rw [zjt13] at ejt13
      rw [ejt13]
      refine mg_tabIn C (tgt := 71) (off := 58) dX6_told_13 (by decide) (by decide) rfl (by decide) ?_
      refine mg_aload_n C dX6_told_71 rfl ?_
      refine mg_get C inT3 hh rfl 3 (by decide) kw_205 (Or.inl rfl) rfl dX6_told_72 ?_
      refine mg_ldc C (v := nI 10000000) dX6_told_75 kw_207 (by decide) ?_
      refine mg_iadd C (z := tot + (nI 10000000)) dX6_told_77 rfl ?_
      exact hR _ _ _ _ dX6_told_78 ⟨Or.inr (Or.inr (Or.inr (Or.inr (Or.inl ⟨ejt13, rfl⟩)))), rfl⟩
    · rw [zjt13] at ejt13
      rw [ejt13]
      refine mg_tabIn C (tgt := 79) (off := 66) dX6_told_13 (by decide) (by decide) rfl (by decide) ?_
      refine mg_aload_n C dX6_told_79 rfl ?_
      refine mg_get C inT3 hh rfl 4 (by decide) kw_206 (Or.inl rfl) rfl dX6_told_80 ?_
      exact hR _ _ _ _ dX6_told_83 ⟨Or.inr (Or.inr (Or.inr (Or.inr (Or.inr (Or.inl ⟨ejt13, rfl⟩))))), rfl⟩
    · rw [zjt13] at ejt13
      rw [ejt13]
      refine mg_tabIn C (tgt := 84) (off := 71) dX6_told_13 (by decide) (by decide) rfl (by decide) ?_
      refine mg_aload_n C dX6_told_84 rfl ?_
      refine mg_callU_i C hh rfl (rest := []) (c_X3_mayLack D cI cS w h0 ak al aw k sd tot (nI mv) er f ln tr hh h_ak h_al h_aw) yq_X3_mayLack kw_580 kw_581 dq_mayLack (by decide +kernel) kw_591 kw_590 ⟨by decide, by decide⟩ ⟨Nat.le_of_ble_eq_true rfl, Nat.le_of_ble_eq_true rfl⟩ (Nat.le_of_ble_eq_true rfl) rfl rfl dX6_told_85 (fun r2 w2 ⟨xe2, xk2⟩ => ?_)
      rw [xk2, xe2]
      exact hR _ _ _ _ dX6_told_88 ⟨Or.inr (Or.inr (Or.inr (Or.inr (Or.inr (Or.inr (Or.inl ⟨ejt13, rfl⟩)))))), rfl⟩
    · rw [zjt13] at ejt13
      rw [ejt13]
      refine mg_tabIn C (tgt := 89) (off := 76) dX6_told_13 (by decide) (by decide) rfl (by decide) ?_
      refine mg_aload_n C dX6_told_89 rfl ?_
      refine mg_callU_i C hh rfl (rest := []) (c_X3_howManyKept D cI cS w h0 ak al aw k sd tot (nI mv) er f ln tr hh h_ak h_al h_aw hk1 hk2) yq_X3_howManyKept kw_594 kw_595 dq_howManyKept (by decide +kernel) kw_608 kw_607 ⟨by decide, by decide⟩ ⟨Nat.le_of_ble_eq_true rfl, Nat.le_of_ble_eq_true rfl⟩ (Nat.le_of_ble_eq_true rfl) rfl rfl dX6_told_90 (fun r3 w3 ⟨xe3, xk3⟩ => ?_)
      rw [xk3, xe3]
      exact hR _ _ _ _ dX6_told_93 ⟨Or.inr (Or.inr (Or.inr (Or.inr (Or.inr (Or.inr (Or.inr (⟨ejt13, rfl⟩))))))), rfl⟩
  · refine mg_tabOut C (tgt := 94) dX6_told_13 (rg_out (by decide) hq13) (by decide) ?_
    refine mg_iconst C (v := (-1 : Int32)) dX6_told_94 (by decide) ?_
    exact hR _ _ _ _ dX6_told_95 ⟨Or.inl ⟨hq13, rfl⟩, rfl⟩
