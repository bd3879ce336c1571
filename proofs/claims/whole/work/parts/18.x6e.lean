theorem b2i {a b : Nat} (h : a ≠ b) : ¬ a = b := h

set_option maxHeartbeats 4000000 in
set_option maxRecDepth 20000 in
theorem c_X6_clear_F (D : va_G) (cI cS : ClassId) (w : mwT) (ox as md a : Nat) (g0 : Nat → Option Nat) (h0 ab b sd mv : Nat) (tot : Int32) (f : Nat → Int32) (hox : w ox = some (.inr (5, [.ref as, .int (nI md)]))) (has : w as = some (eR cS 8 g0)) (hh : w h0 = some (.inr (0, [.int (nI 2), .int (nI b), .int (nI sd), .int tot, .int (nI mv), .ref ab]))) (h_ab : w ab = some (eI cI b f)) (hmd : md ≤ 8) (ha : a < md) (hg : g0 a = some h0) (hs : sd ≤ 999) (hb1 : 16 ≤ b) (hb2 : b ≤ 512) : mMi yX6_clear cX6_clear 4 (some .int) (rmL 8) [.ref ox, .int (nI a)] D cI cS w (fun r w1 => r = tot + nI 10000000 ∧ w1 h0 = some (.inr (0, [.int (nI 2), .int (nI b), .int (nI sd), .int (nI 0), .int (nI 0), .ref ab])) ∧ w1 ab = some (eI cI b (cpy0 (fun _ => 0) f b)) ∧ ∀ z : Nat, z ≠ h0 → z ≠ ab → w1 z = w z) := by
  refine mMi.of (by decide) (Nat.le_of_ble_eq_true rfl) ?_
  intro X C hN hR
  have fr_w : ∀ zz : Nat, w zz = w zz := fun _ => rfl
  refine mg_sub (lv' := [(0, .ref ox), (1, .int (nI a))]) [0, 1] rfl ?_
  refine mg_aload_n C dX6_clear_0 rfl ?_
  refine mg_iload_n C dX6_clear_1 rfl ?_
  refine mg_callV_q C hox rfl (rest := []) (c_X6_find_in D cI cS w ox as md g0 a hox has hmd ha) yq_X6_find kw_123 kw_124 kw_125 ⟨by decide, by decide⟩ ⟨Nat.le_of_ble_eq_true rfl, Nat.le_of_ble_eq_true rfl⟩ (Nat.le_of_ble_eq_true rfl) rfl rfl dX6_clear_2 (fun r1 w1 ⟨xe1, xk1⟩ => ?_)
  rw [xk1, xe1, hg]
  refine mg_astore_n C (lv' := [(2, .ref h0), (0, .ref ox), (1, .int (nI a))]) dX6_clear_5 rfl (by decide) rfl ?_
  refine mg_aload_n C dX6_clear_6 rfl ?_
  refine mg_ifnonnull C (tgt := 12) dX6_clear_7 (by decide) ?_
  refine mg_aload_n C dX6_clear_12 rfl ?_
  refine mg_get C inT0 hh rfl 3 (by decide) kw_205 (Or.inl rfl) rfl dX6_clear_13 ?_
  refine mg_istore_n C (lv' := [(3, .int tot), (2, .ref h0), (0, .ref ox), (1, .int (nI a))]) dX6_clear_16 rfl (by decide) rfl ?_
  refine mg_aload_n C dX6_clear_17 rfl ?_
  refine mg_iconst C (v := nI 0) dX6_clear_18 (by decide) ?_
  refine mg_put C (fs' := [.int (nI 2), .int (nI b), .int (nI sd), .int (nI 0), .int (nI mv), .ref ab]) inT0 hh rfl 3 (by decide) kw_205 (Or.inl rfl) tyX0_ok nmX0 rfl rfl rfl rfl (Nat.le_of_ble_eq_true rfl) dX6_clear_19 (fun w2 e_w2 => ?_)
  have h_w2_ox : w2 ox = some (.inr (5, [.ref as, .int (nI md)])) := (congrFun e_w2 _).trans ((mwu_ne (mw_ci hox hh (by decide))).trans hox)
  have h_w2_as : w2 as = some (eR cS 8 g0) := (congrFun e_w2 _).trans ((mwu_ne (mw_ao has hh)).trans has)
  have h_w2_h0 : w2 h0 = some (.inr (0, [.int (nI 2), .int (nI b), .int (nI sd), .int (nI 0), .int (nI mv), .ref ab])) := (congrFun e_w2 _).trans mwu_eq
  have h_w2_ab : w2 ab = some (eI cI b f) := (congrFun e_w2 _).trans ((mwu_ne (mw_ao h_ab hh)).trans h_ab)
  have fr_w2 : ∀ zz : Nat, zz ≠ h0 → w2 zz = w zz := fun zz g0 => (congrFun e_w2 zz).trans ((mwu_ne g0).trans (fr_w zz ))
  refine mg_aload_n C dX6_clear_22 rfl ?_
  refine mg_iconst C (v := nI 0) dX6_clear_23 (by decide) ?_
  refine mg_put C (fs' := [.int (nI 2), .int (nI b), .int (nI sd), .int (nI 0), .int (nI 0), .ref ab]) inT0 h_w2_h0 rfl 4 (by decide) kw_206 (Or.inl rfl) tyX0_ok nmX0 rfl rfl rfl rfl (Nat.le_of_ble_eq_true rfl) dX6_clear_24 (fun w3 e_w3 => ?_)
  have h_w3_ox : w3 ox = some (.inr (5, [.ref as, .int (nI md)])) := (congrFun e_w3 _).trans ((mwu_ne (mw_ci h_w2_ox h_w2_h0 (by decide))).trans h_w2_ox)
  have h_w3_as : w3 as = some (eR cS 8 g0) := (congrFun e_w3 _).trans ((mwu_ne (mw_ao h_w2_as h_w2_h0)).trans h_w2_as)
  have h_w3_h0 : w3 h0 = some (.inr (0, [.int (nI 2), .int (nI b), .int (nI sd), .int (nI 0), .int (nI 0), .ref ab])) := (congrFun e_w3 _).trans mwu_eq
  have h_w3_ab : w3 ab = some (eI cI b f) := (congrFun e_w3 _).trans ((mwu_ne (mw_ao h_w2_ab h_w2_h0)).trans h_w2_ab)
  have fr_w3 : ∀ zz : Nat, zz ≠ h0 → w3 zz = w zz := fun zz g0 => (congrFun e_w3 zz).trans ((mwu_ne g0).trans (fr_w2 zz g0))
  refine mg_aload_n C dX6_clear_27 rfl ?_
  refine mg_callU_v C h_w3_h0 rfl (rest := []) (c_X0_forget D cI cS w3 h0 ab b sd (nI 0) (nI 0) f h_w3_h0 h_w3_ab hs hb1 hb2) yq_X0_forget kw_208 kw_209 dq_forget (by decide +kernel) kw_211 kw_210 ⟨by decide, by decide⟩ ⟨Nat.le_of_ble_eq_true rfl, Nat.le_of_ble_eq_true rfl⟩ (Nat.le_of_ble_eq_true rfl) rfl rfl dX6_clear_28 (fun w4 ⟨xc4ab, xf4⟩ => ?_)
  have h_w4_ox : w4 ox = some (.inr (5, [.ref as, .int (nI md)])) := (xf4 ox (mw_oa h_w3_ox h_w3_ab)).trans h_w3_ox
  have h_w4_as : w4 as = some (eR cS 8 g0) := (xf4 as (mw_ri h_w3_as h_w3_ab)).trans h_w3_as
  have h_w4_h0 : w4 h0 = some (.inr (0, [.int (nI 2), .int (nI b), .int (nI sd), .int (nI 0), .int (nI 0), .ref ab])) := (xf4 h0 (mw_oa h_w3_h0 h_w3_ab)).trans h_w3_h0
  have fr_w4 : ∀ zz : Nat, zz ≠ h0 → zz ≠ ab → w4 zz = w zz := fun zz g0 g1 => (xf4 zz g1).trans (fr_w3 zz g0)
  refine mg_iload_n C dX6_clear_31 rfl ?_
  refine mg_ldc C (v := nI 10000000) dX6_clear_32 kw_207 (by decide) ?_
  refine mg_iadd C (z := tot + (nI 10000000)) dX6_clear_34 rfl ?_
  exact hR _ _ _ _ dX6_clear_35 ⟨rfl, h_w4_h0, xc4ab, fun z q0 q1 => fr_w4 z q0 q1⟩

set_option maxHeartbeats 4000000 in
set_option maxRecDepth 20000 in
theorem c_X6_come_F (D : va_G) (cI cS : ClassId) (w : mwT) (ox as md a : Nat) (g0 : Nat → Option Nat) (h0 ab b sd mv : Nat) (tot : Int32) (f : Nat → Int32) (x n : Int32) (hox : w ox = some (.inr (5, [.ref as, .int (nI md)]))) (has : w as = some (eR cS 8 g0)) (hh : w h0 = some (.inr (0, [.int (nI 2), .int (nI b), .int (nI sd), .int tot, .int (nI mv), .ref ab]))) (h_ab : w ab = some (eI cI b f)) (hmd : md ≤ 8) (ha : a < md) (hg : g0 a = some h0) (hs : sd ≤ 999) (hb1 : 16 ≤ b) (hb2 : b ≤ 512) (hmv : mv ≤ 10000000) : mMi yX6_come cX6_come 5 (some .int) (rmL 98) [.ref ox, .int (nI a), .int x, .int n] D cI cS w (fun r w1 => (¬ (rg 9999 x ∧ rp 1 1000 n) ∧ r = -1 ∧ w1 = w) ∨ (∃ xa cn : Nat, xa ≤ 9999 ∧ x = nI xa ∧ rp 1 1000 n ∧ absI n = nI cn ∧ 1 ≤ cn ∧ cn ≤ 1000 ∧ ((10000000 < mv + cn ∧ r = -3 ∧ w1 = w) ∨ (mv + cn ≤ 10000000 ∧ r = tot + n + nI 10000000 ∧ w1 h0 = some (.inr (0, [.int (nI 2), .int (nI b), .int (nI sd), .int (tot + n), .int (nI (mv + cn)), .ref ab])) ∧ w1 ab = some (eI cI b (tkF f sd xa b 4)) ∧ ∀ z : Nat, z ≠ h0 → z ≠ ab → w1 z = w z)))) := by
  refine mMi.of (by decide) (Nat.le_of_ble_eq_true rfl) ?_
  intro X C hN hR
  have fr_w : ∀ zz : Nat, w zz = w zz := fun _ => rfl
  refine mg_sub (lv' := [(0, .ref ox), (1, .int (nI a)), (2, .int x), (3, .int n)]) [0, 1, 2, 3] rfl ?_
  refine mg_aload_n C dX6_come_0 rfl ?_
  refine mg_iload_n C dX6_come_1 rfl ?_
  refine mg_callV_q C hox rfl (rest := []) (c_X6_find_in D cI cS w ox as md g0 a hox has hmd ha) yq_X6_find kw_123 kw_124 kw_125 ⟨by decide, by decide⟩ ⟨Nat.le_of_ble_eq_true rfl, Nat.le_of_ble_eq_true rfl⟩ (Nat.le_of_ble_eq_true rfl) rfl rfl dX6_come_2 (fun r1 w1 ⟨xe1, xk1⟩ => ?_)
  rw [xk1, xe1, hg]
  refine mg_astore C (lv' := [(4, .ref h0), (0, .ref ox), (1, .int (nI a)), (2, .int x), (3, .int n)]) dX6_come_5 (by decide) rfl ?_
  refine mg_aload C dX6_come_7 rfl ?_
  refine mg_ifnull C dX6_come_9 ?_
  refine mg_iload_n C dX6_come_12 rfl ?_
  refine mg_callS_i C (rest := []) (c_X6_isKey D cI cS w x) yq_X6_isKey kw_240 kw_241 ⟨by decide, by decide⟩ ⟨Nat.le_of_ble_eq_true rfl, Nat.le_of_ble_eq_true rfl⟩ (Nat.le_of_ble_eq_true rfl) rfl rfl dX6_come_13 (fun r2 w2 ⟨xa2, xk2⟩ => ?_)
  rw [xk2]
  rcases xa2 with ⟨ra2, hy_key⟩ | ⟨ra2, hy_key⟩
  · rw [ra2]
    obtain ⟨xa, hxa, rfl⟩ := hy_key
    refine mg_ifN_eq C (tgt := 28) dX6_come_16 (by decide) (by decide) (fun c_16 => absurd c_16 (by decide)) (fun c_16 => ?_)
    refine mg_aload C dX6_come_19 rfl ?_
    refine mg_iload_n C dX6_come_21 rfl ?_
    refine mg_callU_i C hh rfl (rest := []) (c_X4_mayTake D cI cS w h0 n) yq_X4_mayTake kw_243 kw_244 dq_mayTake (by decide +kernel) kw_246 kw_245 ⟨by decide, by decide⟩ ⟨Nat.le_of_ble_eq_true rfl, Nat.le_of_ble_eq_true rfl⟩ (Nat.le_of_ble_eq_true rfl) rfl rfl dX6_come_22 (fun r3 w3 ⟨xa3, xk3⟩ => ?_)
    rw [xk3]
    rcases xa3 with ⟨ra3, hy_may⟩ | ⟨ra3, hy_may⟩
    · rw [ra3]
      obtain ⟨cn, hc3, hc4, rfl⟩ := hy_may
      have hca : absI (nI cn) = nI cn := abs_nI (by omega)
      refine mg_ifN_ne C (tgt := 30) dX6_come_25 (by decide) (by decide) (fun c_25 => ?_) (fun c_25 => absurd c_25 (by decide))
      refine mg_aload C dX6_come_30 rfl ?_
      refine mg_get C inT0 hh rfl 4 (by decide) kw_206 (Or.inl rfl) rfl dX6_come_32 ?_
      refine mg_iload_n C dX6_come_35 rfl ?_
      refine mg_mabs C (z := nI cn) dX6_come_36 kw_236 ⟨Nat.le_of_ble_eq_true rfl, Nat.le_of_ble_eq_true rfl⟩ ⟨by decide, by decide⟩ hca ?_
      refine mg_iadd C (z := nI (mv + cn)) dX6_come_39 (nI_add _ _) ?_
      refine mg_ldc C (v := nI 10000000) dX6_come_40 kw_207 (by decide) ?_
      refine mg_icmpN_le C (tgt := 48) dX6_come_42 (by decide) (by omega) (by omega) (fun c_42 => ?_) (fun c_42 => ?_)
      · refine mg_aload C dX6_come_48 rfl ?_
        refine mg_dup C dX6_come_50 rfl ?_
        refine mg_get C inT0 hh rfl 3 (by decide) kw_205 (Or.inl rfl) rfl dX6_come_51 ?_
        refine mg_iload_n C dX6_come_54 rfl ?_
        refine mg_iadd C (z := tot + (nI cn)) dX6_come_55 rfl ?_
        refine mg_put C (fs' := [.int (nI 2), .int (nI b), .int (nI sd), .int (tot + (nI cn)), .int (nI mv), .ref ab]) inT0 hh rfl 3 (by decide) kw_205 (Or.inl rfl) tyX0_ok nmX0 rfl rfl rfl rfl (Nat.le_of_ble_eq_true rfl) dX6_come_56 (fun w4 e_w4 => ?_)
        have h_w4_ox : w4 ox = some (.inr (5, [.ref as, .int (nI md)])) := (congrFun e_w4 _).trans ((mwu_ne (mw_ci hox hh (by decide))).trans hox)
        have h_w4_as : w4 as = some (eR cS 8 g0) := (congrFun e_w4 _).trans ((mwu_ne (mw_ao has hh)).trans has)
        have h_w4_h0 : w4 h0 = some (.inr (0, [.int (nI 2), .int (nI b), .int (nI sd), .int (tot + (nI cn)), .int (nI mv), .ref ab])) := (congrFun e_w4 _).trans mwu_eq
        have h_w4_ab : w4 ab = some (eI cI b f) := (congrFun e_w4 _).trans ((mwu_ne (mw_ao h_ab hh)).trans h_ab)
        have fr_w4 : ∀ zz : Nat, zz ≠ h0 → w4 zz = w zz := fun zz g0 => (congrFun e_w4 zz).trans ((mwu_ne g0).trans (fr_w zz ))
        refine mg_aload C dX6_come_59 rfl ?_
        refine mg_dup C dX6_come_61 rfl ?_
        refine mg_get C inT0 h_w4_h0 rfl 4 (by decide) kw_206 (Or.inl rfl) rfl dX6_come_62 ?_
        refine mg_iload_n C dX6_come_65 rfl ?_
        refine mg_mabs C (z := nI cn) dX6_come_66 kw_236 ⟨Nat.le_of_ble_eq_true rfl, Nat.le_of_ble_eq_true rfl⟩ ⟨by decide, by decide⟩ hca ?_
        refine mg_iadd C (z := nI (mv + cn)) dX6_come_69 (nI_add _ _) ?_
        refine mg_put C (fs' := [.int (nI 2), .int (nI b), .int (nI sd), .int (tot + (nI cn)), .int (nI (mv + cn)), .ref ab]) inT0 h_w4_h0 rfl 4 (by decide) kw_206 (Or.inl rfl) tyX0_ok nmX0 rfl rfl rfl rfl (Nat.le_of_ble_eq_true rfl) dX6_come_70 (fun w5 e_w5 => ?_)
        have h_w5_ox : w5 ox = some (.inr (5, [.ref as, .int (nI md)])) := (congrFun e_w5 _).trans ((mwu_ne (mw_ci h_w4_ox h_w4_h0 (by decide))).trans h_w4_ox)
        have h_w5_as : w5 as = some (eR cS 8 g0) := (congrFun e_w5 _).trans ((mwu_ne (mw_ao h_w4_as h_w4_h0)).trans h_w4_as)
        have h_w5_h0 : w5 h0 = some (.inr (0, [.int (nI 2), .int (nI b), .int (nI sd), .int (tot + (nI cn)), .int (nI (mv + cn)), .ref ab])) := (congrFun e_w5 _).trans mwu_eq
        have h_w5_ab : w5 ab = some (eI cI b f) := (congrFun e_w5 _).trans ((mwu_ne (mw_ao h_w4_ab h_w4_h0)).trans h_w4_ab)
        have fr_w5 : ∀ zz : Nat, zz ≠ h0 → w5 zz = w zz := fun zz g0 => (congrFun e_w5 zz).trans ((mwu_ne g0).trans (fr_w4 zz g0))
        refine mg_aload C dX6_come_73 rfl ?_
        refine mg_iload_n C dX6_come_75 rfl ?_
        refine mg_iload_n C dX6_come_76 rfl ?_
        refine mg_callU_v C h_w5_h0 rfl (rest := []) (c_X0_take D cI cS w5 h0 ab b sd (tot + nI cn) (nI (mv + cn)) f xa (nI cn) h_w5_h0 h_w5_ab hs hb1 hb2 hxa) yq_X0_take kw_257 kw_258 dq_take (by decide +kernel) kw_260 kw_259 ⟨by decide, by decide⟩ ⟨Nat.le_of_ble_eq_true rfl, Nat.le_of_ble_eq_true rfl⟩ (Nat.le_of_ble_eq_true rfl) rfl rfl dX6_come_77 (fun w6 ⟨xc6ab, xf6⟩ => ?_)
        have h_w6_ox : w6 ox = some (.inr (5, [.ref as, .int (nI md)])) := (xf6 ox (mw_oa h_w5_ox h_w5_ab)).trans h_w5_ox
        have h_w6_as : w6 as = some (eR cS 8 g0) := (xf6 as (mw_ri h_w5_as h_w5_ab)).trans h_w5_as
        have h_w6_h0 : w6 h0 = some (.inr (0, [.int (nI 2), .int (nI b), .int (nI sd), .int (tot + (nI cn)), .int (nI (mv + cn)), .ref ab])) := (xf6 h0 (mw_oa h_w5_h0 h_w5_ab)).trans h_w5_h0
        have fr_w6 : ∀ zz : Nat, zz ≠ h0 → zz ≠ ab → w6 zz = w zz := fun zz g0 g1 => (xf6 zz g1).trans (fr_w5 zz g0)
        refine mg_aload C dX6_come_80 rfl ?_
        refine mg_get C inT0 h_w6_h0 rfl 3 (by decide) kw_205 (Or.inl rfl) rfl dX6_come_82 ?_
        refine mg_ldc C (v := nI 10000000) dX6_come_85 kw_207 (by decide) ?_
        refine mg_iadd C (z := (tot + (nI cn)) + (nI 10000000)) dX6_come_87 rfl ?_
        exact hR _ _ _ _ dX6_come_88 (Or.inr ⟨xa, cn, hxa, rfl, ⟨cn, hc3, hc4, rfl⟩, hca, hc3, (by omega), Or.inr ⟨c_42, rfl, h_w6_h0, xc6ab, fun z q0 q1 => fr_w6 z q0 q1⟩⟩)
      · refine mg_bipush C (v := (-3 : Int32)) dX6_come_45 (by decide) ?_
        exact hR _ _ _ _ dX6_come_47 (Or.inr ⟨xa, cn, hxa, rfl, ⟨cn, hc3, hc4, rfl⟩, hca, hc3, (by omega), Or.inl ⟨c_42, rfl, rfl⟩⟩)
    · rw [ra3]
      refine mg_ifN_ne C (tgt := 30) dX6_come_25 (by decide) (by decide) (fun c_25 => absurd c_25 (by decide)) (fun c_25 => ?_)
      refine mg_iconst C (v := (-1 : Int32)) dX6_come_28 (by decide) ?_
      exact hR _ _ _ _ dX6_come_29 (Or.inl ⟨fun q => hy_may q.2, rfl, rfl⟩)
  · rw [ra2]
    refine mg_ifN_eq C (tgt := 28) dX6_come_16 (by decide) (by decide) (fun c_16 => ?_) (fun c_16 => absurd c_16 (by decide))
    refine mg_iconst C (v := (-1 : Int32)) dX6_come_28 (by decide) ?_
    exact hR _ _ _ _ dX6_come_29 (Or.inl ⟨fun q => hy_key q.1, rfl, rfl⟩)

set_option maxHeartbeats 4000000 in
set_option maxRecDepth 20000 in
theorem c_X6_clear_T (D : va_G) (cI cS : ClassId) (w : mwT) (ox as md a : Nat) (g0 : Nat → Option Nat) (h0 ab c sd mv : Nat) (tot : Int32) (f : Nat → Int32) (hox : w ox = some (.inr (5, [.ref as, .int (nI md)]))) (has : w as = some (eR cS 8 g0)) (hh : w h0 = some (.inr (4, [.int (nI 1), .int (nI c), .int (nI sd), .int tot, .int (nI mv), .ref ab]))) (h_ab : w ab = some (eI cI (4 * c) f)) (hmd : md ≤ 8) (ha : a < md) (hg : g0 a = some h0) (hs : sd ≤ 999) (hc1 : 4 ≤ c) (hc2 : c ≤ 64) : mMi yX6_clear cX6_clear 4 (some .int) (rmL 8) [.ref ox, .int (nI a)] D cI cS w (fun r w1 => r = tot + nI 10000000 ∧ w1 h0 = some (.inr (4, [.int (nI 1), .int (nI c), .int (nI sd), .int (nI 0), .int (nI 0), .ref ab])) ∧ w1 ab = some (eI cI (4 * c) (cpy0 (fun _ => 0) f (4 * c))) ∧ ∀ z : Nat, z ≠ h0 → z ≠ ab → w1 z = w z) := by
  refine mMi.of (by decide) (Nat.le_of_ble_eq_true rfl) ?_
  intro X C hN hR
  have fr_w : ∀ zz : Nat, w zz = w zz := fun _ => rfl
  refine mg_sub (lv' := [(0, .ref ox), (1, .int (nI a))]) [0, 1] rfl ?_
  refine mg_aload_n C dX6_clear_0 rfl ?_
  refine mg_iload_n C dX6_clear_1 rfl ?_
  refine mg_callV_q C hox rfl (rest := []) (c_X6_find_in D cI cS w ox as md g0 a hox has hmd ha) yq_X6_find kw_123 kw_124 kw_125 ⟨by decide, by decide⟩ ⟨Nat.le_of_ble_eq_true rfl, Nat.le_of_ble_eq_true rfl⟩ (Nat.le_of_ble_eq_true rfl) rfl rfl dX6_clear_2 (fun r1 w1 ⟨xe1, xk1⟩ => ?_)
  rw [xk1, xe1, hg]
  refine mg_astore_n C (lv' := [(2, .ref h0), (0, .ref ox), (1, .int (nI a))]) dX6_clear_5 rfl (by decide) rfl ?_
  refine mg_aload_n C dX6_clear_6 rfl ?_
  refine mg_ifnonnull C (tgt := 12) dX6_clear_7 (by decide) ?_
  refine mg_aload_n C dX6_clear_12 rfl ?_
  refine mg_get C inT5 hh rfl 3 (by decide) kw_205 (Or.inl rfl) rfl dX6_clear_13 ?_
  refine mg_istore_n C (lv' := [(3, .int tot), (2, .ref h0), (0, .ref ox), (1, .int (nI a))]) dX6_clear_16 rfl (by decide) rfl ?_
  refine mg_aload_n C dX6_clear_17 rfl ?_
  refine mg_iconst C (v := nI 0) dX6_clear_18 (by decide) ?_
  refine mg_put C (fs' := [.int (nI 1), .int (nI c), .int (nI sd), .int (nI 0), .int (nI mv), .ref ab]) inT5 hh rfl 3 (by decide) kw_205 (Or.inl rfl) tyX5_ok nmX5 rfl rfl rfl rfl (Nat.le_of_ble_eq_true rfl) dX6_clear_19 (fun w2 e_w2 => ?_)
  have h_w2_ox : w2 ox = some (.inr (5, [.ref as, .int (nI md)])) := (congrFun e_w2 _).trans ((mwu_ne (mw_ci hox hh (by decide))).trans hox)
  have h_w2_as : w2 as = some (eR cS 8 g0) := (congrFun e_w2 _).trans ((mwu_ne (mw_ao has hh)).trans has)
  have h_w2_h0 : w2 h0 = some (.inr (4, [.int (nI 1), .int (nI c), .int (nI sd), .int (nI 0), .int (nI mv), .ref ab])) := (congrFun e_w2 _).trans mwu_eq
  have h_w2_ab : w2 ab = some (eI cI (4 * c) f) := (congrFun e_w2 _).trans ((mwu_ne (mw_ao h_ab hh)).trans h_ab)
  have fr_w2 : ∀ zz : Nat, zz ≠ h0 → w2 zz = w zz := fun zz g0 => (congrFun e_w2 zz).trans ((mwu_ne g0).trans (fr_w zz ))
  refine mg_aload_n C dX6_clear_22 rfl ?_
  refine mg_iconst C (v := nI 0) dX6_clear_23 (by decide) ?_
  refine mg_put C (fs' := [.int (nI 1), .int (nI c), .int (nI sd), .int (nI 0), .int (nI 0), .ref ab]) inT5 h_w2_h0 rfl 4 (by decide) kw_206 (Or.inl rfl) tyX5_ok nmX5 rfl rfl rfl rfl (Nat.le_of_ble_eq_true rfl) dX6_clear_24 (fun w3 e_w3 => ?_)
  have h_w3_ox : w3 ox = some (.inr (5, [.ref as, .int (nI md)])) := (congrFun e_w3 _).trans ((mwu_ne (mw_ci h_w2_ox h_w2_h0 (by decide))).trans h_w2_ox)
  have h_w3_as : w3 as = some (eR cS 8 g0) := (congrFun e_w3 _).trans ((mwu_ne (mw_ao h_w2_as h_w2_h0)).trans h_w2_as)
  have h_w3_h0 : w3 h0 = some (.inr (4, [.int (nI 1), .int (nI c), .int (nI sd), .int (nI 0), .int (nI 0), .ref ab])) := (congrFun e_w3 _).trans mwu_eq
  have h_w3_ab : w3 ab = some (eI cI (4 * c) f) := (congrFun e_w3 _).trans ((mwu_ne (mw_ao h_w2_ab h_w2_h0)).trans h_w2_ab)
  have fr_w3 : ∀ zz : Nat, zz ≠ h0 → w3 zz = w zz := fun zz g0 => (congrFun e_w3 zz).trans ((mwu_ne g0).trans (fr_w2 zz g0))
  refine mg_aload_n C dX6_clear_27 rfl ?_
  refine mg_callU_v C h_w3_h0 rfl (rest := []) (c_X5_forget D cI cS w3 h0 ab c sd (nI 0) (nI 0) f h_w3_h0 h_w3_ab hs hc1 hc2) yq_X5_forget kw_208 kw_209 dq_forget (by decide +kernel) kw_225 kw_224 ⟨by decide, by decide⟩ ⟨Nat.le_of_ble_eq_true rfl, Nat.le_of_ble_eq_true rfl⟩ (Nat.le_of_ble_eq_true rfl) rfl rfl dX6_clear_28 (fun w4 ⟨xc4ab, xf4⟩ => ?_)
  have h_w4_ox : w4 ox = some (.inr (5, [.ref as, .int (nI md)])) := (xf4 ox (mw_oa h_w3_ox h_w3_ab)).trans h_w3_ox
  have h_w4_as : w4 as = some (eR cS 8 g0) := (xf4 as (mw_ri h_w3_as h_w3_ab)).trans h_w3_as
  have h_w4_h0 : w4 h0 = some (.inr (4, [.int (nI 1), .int (nI c), .int (nI sd), .int (nI 0), .int (nI 0), .ref ab])) := (xf4 h0 (mw_oa h_w3_h0 h_w3_ab)).trans h_w3_h0
  have fr_w4 : ∀ zz : Nat, zz ≠ h0 → zz ≠ ab → w4 zz = w zz := fun zz g0 g1 => (xf4 zz g1).trans (fr_w3 zz g0)
  refine mg_iload_n C dX6_clear_31 rfl ?_
  refine mg_ldc C (v := nI 10000000) dX6_clear_32 kw_207 (by decide) ?_
  refine mg_iadd C (z := tot + (nI 10000000)) dX6_clear_34 rfl ?_
  exact hR _ _ _ _ dX6_clear_35 ⟨rfl, h_w4_h0, xc4ab, fun z q0 q1 => fr_w4 z q0 q1⟩

set_option maxHeartbeats 4000000 in
set_option maxRecDepth 20000 in
theorem c_X6_come_T (D : va_G) (cI cS : ClassId) (w : mwT) (ox as md a : Nat) (g0 : Nat → Option Nat) (h0 ab c sd mv : Nat) (tot : Int32) (f : Nat → Int32) (x n : Int32) (hox : w ox = some (.inr (5, [.ref as, .int (nI md)]))) (has : w as = some (eR cS 8 g0)) (hh : w h0 = some (.inr (4, [.int (nI 1), .int (nI c), .int (nI sd), .int tot, .int (nI mv), .ref ab]))) (h_ab : w ab = some (eI cI (4 * c) f)) (hmd : md ≤ 8) (ha : a < md) (hg : g0 a = some h0) (hs : sd ≤ 999) (hc1 : 4 ≤ c) (hc2 : c ≤ 64) (hmv : mv ≤ 10000000) : mMi yX6_come cX6_come 5 (some .int) (rmL 98) [.ref ox, .int (nI a), .int x, .int n] D cI cS w (fun r w1 => (¬ (rg 9999 x ∧ tkOk n) ∧ r = -1 ∧ w1 = w) ∨ (∃ xa cn : Nat, xa ≤ 9999 ∧ x = nI xa ∧ tkOk n ∧ absI n = nI cn ∧ 1 ≤ cn ∧ cn ≤ 1000 ∧ ((10000000 < mv + cn ∧ r = -3 ∧ w1 = w) ∨ (mv + cn ≤ 10000000 ∧ r = tot + n + nI 10000000 ∧ w1 h0 = some (.inr (4, [.int (nI 1), .int (nI c), .int (nI sd), .int (tot + n), .int (nI (mv + cn)), .ref ab])) ∧ w1 ab = some (eI cI (4 * c) (tkT f sd xa c n 4)) ∧ ∀ z : Nat, z ≠ h0 → z ≠ ab → w1 z = w z)))) := by
  refine mMi.of (by decide) (Nat.le_of_ble_eq_true rfl) ?_
  intro X C hN hR
  have fr_w : ∀ zz : Nat, w zz = w zz := fun _ => rfl
  refine mg_sub (lv' := [(0, .ref ox), (1, .int (nI a)), (2, .int x), (3, .int n)]) [0, 1, 2, 3] rfl ?_
  refine mg_aload_n C dX6_come_0 rfl ?_
  refine mg_iload_n C dX6_come_1 rfl ?_
  refine mg_callV_q C hox rfl (rest := []) (c_X6_find_in D cI cS w ox as md g0 a hox has hmd ha) yq_X6_find kw_123 kw_124 kw_125 ⟨by decide, by decide⟩ ⟨Nat.le_of_ble_eq_true rfl, Nat.le_of_ble_eq_true rfl⟩ (Nat.le_of_ble_eq_true rfl) rfl rfl dX6_come_2 (fun r1 w1 ⟨xe1, xk1⟩ => ?_)
  rw [xk1, xe1, hg]
  refine mg_astore C (lv' := [(4, .ref h0), (0, .ref ox), (1, .int (nI a)), (2, .int x), (3, .int n)]) dX6_come_5 (by decide) rfl ?_
  refine mg_aload C dX6_come_7 rfl ?_
  refine mg_ifnull C dX6_come_9 ?_
  refine mg_iload_n C dX6_come_12 rfl ?_
  refine mg_callS_i C (rest := []) (c_X6_isKey D cI cS w x) yq_X6_isKey kw_240 kw_241 ⟨by decide, by decide⟩ ⟨Nat.le_of_ble_eq_true rfl, Nat.le_of_ble_eq_true rfl⟩ (Nat.le_of_ble_eq_true rfl) rfl rfl dX6_come_13 (fun r2 w2 ⟨xa2, xk2⟩ => ?_)
  rw [xk2]
  rcases xa2 with ⟨ra2, hy_key⟩ | ⟨ra2, hy_key⟩
  · rw [ra2]
    obtain ⟨xa, hxa, rfl⟩ := hy_key
    refine mg_ifN_eq C (tgt := 28) dX6_come_16 (by decide) (by decide) (fun c_16 => absurd c_16 (by decide)) (fun c_16 => ?_)
    refine mg_aload C dX6_come_19 rfl ?_
    refine mg_iload_n C dX6_come_21 rfl ?_
    refine mg_callU_i C hh rfl (rest := []) (c_X5_mayTake D cI cS w h0 n) yq_X5_mayTake kw_243 kw_244 dq_mayTake (by decide +kernel) kw_255 kw_254 ⟨by decide, by decide⟩ ⟨Nat.le_of_ble_eq_true rfl, Nat.le_of_ble_eq_true rfl⟩ (Nat.le_of_ble_eq_true rfl) rfl rfl dX6_come_22 (fun r3 w3 ⟨xa3, xk3⟩ => ?_)
    rw [xk3]
    rcases xa3 with ⟨ra3, hy_may⟩ | ⟨ra3, hy_may⟩
    · rw [ra3]
      obtain ⟨cn, hc3, hc4, hca⟩ := tkOk_abs hy_may
      refine mg_ifN_ne C (tgt := 30) dX6_come_25 (by decide) (by decide) (fun c_25 => ?_) (fun c_25 => absurd c_25 (by decide))
      refine mg_aload C dX6_come_30 rfl ?_
      refine mg_get C inT5 hh rfl 4 (by decide) kw_206 (Or.inl rfl) rfl dX6_come_32 ?_
      refine mg_iload_n C dX6_come_35 rfl ?_
      refine mg_mabs C (z := nI cn) dX6_come_36 kw_236 ⟨Nat.le_of_ble_eq_true rfl, Nat.le_of_ble_eq_true rfl⟩ ⟨by decide, by decide⟩ hca ?_
      refine mg_iadd C (z := nI (mv + cn)) dX6_come_39 (nI_add _ _) ?_
      refine mg_ldc C (v := nI 10000000) dX6_come_40 kw_207 (by decide) ?_
      refine mg_icmpN_le C (tgt := 48) dX6_come_42 (by decide) (by omega) (by omega) (fun c_42 => ?_) (fun c_42 => ?_)
      · refine mg_aload C dX6_come_48 rfl ?_
        refine mg_dup C dX6_come_50 rfl ?_
        refine mg_get C inT5 hh rfl 3 (by decide) kw_205 (Or.inl rfl) rfl dX6_come_51 ?_
        refine mg_iload_n C dX6_come_54 rfl ?_
        refine mg_iadd C (z := tot + n) dX6_come_55 rfl ?_
        refine mg_put C (fs' := [.int (nI 1), .int (nI c), .int (nI sd), .int (tot + n), .int (nI mv), .ref ab]) inT5 hh rfl 3 (by decide) kw_205 (Or.inl rfl) tyX5_ok nmX5 rfl rfl rfl rfl (Nat.le_of_ble_eq_true rfl) dX6_come_56 (fun w4 e_w4 => ?_)
        have h_w4_ox : w4 ox = some (.inr (5, [.ref as, .int (nI md)])) := (congrFun e_w4 _).trans ((mwu_ne (mw_ci hox hh (by decide))).trans hox)
        have h_w4_as : w4 as = some (eR cS 8 g0) := (congrFun e_w4 _).trans ((mwu_ne (mw_ao has hh)).trans has)
        have h_w4_h0 : w4 h0 = some (.inr (4, [.int (nI 1), .int (nI c), .int (nI sd), .int (tot + n), .int (nI mv), .ref ab])) := (congrFun e_w4 _).trans mwu_eq
        have h_w4_ab : w4 ab = some (eI cI (4 * c) f) := (congrFun e_w4 _).trans ((mwu_ne (mw_ao h_ab hh)).trans h_ab)
        have fr_w4 : ∀ zz : Nat, zz ≠ h0 → w4 zz = w zz := fun zz g0 => (congrFun e_w4 zz).trans ((mwu_ne g0).trans (fr_w zz ))
        refine mg_aload C dX6_come_59 rfl ?_
        refine mg_dup C dX6_come_61 rfl ?_
        refine mg_get C inT5 h_w4_h0 rfl 4 (by decide) kw_206 (Or.inl rfl) rfl dX6_come_62 ?_
        refine mg_iload_n C dX6_come_65 rfl ?_
        refine mg_mabs C (z := nI cn) dX6_come_66 kw_236 ⟨Nat.le_of_ble_eq_true rfl, Nat.le_of_ble_eq_true rfl⟩ ⟨by decide, by decide⟩ hca ?_
        refine mg_iadd C (z := nI (mv + cn)) dX6_come_69 (nI_add _ _) ?_
        refine mg_put C (fs' := [.int (nI 1), .int (nI c), .int (nI sd), .int (tot + n), .int (nI (mv + cn)), .ref ab]) inT5 h_w4_h0 rfl 4 (by decide) kw_206 (Or.inl rfl) tyX5_ok nmX5 rfl rfl rfl rfl (Nat.le_of_ble_eq_true rfl) dX6_come_70 (fun w5 e_w5 => ?_)
        have h_w5_ox : w5 ox = some (.inr (5, [.ref as, .int (nI md)])) := (congrFun e_w5 _).trans ((mwu_ne (mw_ci h_w4_ox h_w4_h0 (by decide))).trans h_w4_ox)
        have h_w5_as : w5 as = some (eR cS 8 g0) := (congrFun e_w5 _).trans ((mwu_ne (mw_ao h_w4_as h_w4_h0)).trans h_w4_as)
        have h_w5_h0 : w5 h0 = some (.inr (4, [.int (nI 1), .int (nI c), .int (nI sd), .int (tot + n), .int (nI (mv + cn)), .ref ab])) := (congrFun e_w5 _).trans mwu_eq
        have h_w5_ab : w5 ab = some (eI cI (4 * c) f) := (congrFun e_w5 _).trans ((mwu_ne (mw_ao h_w4_ab h_w4_h0)).trans h_w4_ab)
        have fr_w5 : ∀ zz : Nat, zz ≠ h0 → w5 zz = w zz := fun zz g0 => (congrFun e_w5 zz).trans ((mwu_ne g0).trans (fr_w4 zz g0))
        refine mg_aload C dX6_come_73 rfl ?_
        refine mg_iload_n C dX6_come_75 rfl ?_
        refine mg_iload_n C dX6_come_76 rfl ?_
        refine mg_callU_v C h_w5_h0 rfl (rest := []) (c_X5_take D cI cS w5 h0 ab c sd (tot + n) (nI (mv + cn)) f xa n h_w5_h0 h_w5_ab hs hc1 hc2 hxa) yq_X5_take kw_257 kw_258 dq_take (by decide +kernel) kw_318 kw_317 ⟨by decide, by decide⟩ ⟨Nat.le_of_ble_eq_true rfl, Nat.le_of_ble_eq_true rfl⟩ (Nat.le_of_ble_eq_true rfl) rfl rfl dX6_come_77 (fun w6 ⟨xc6ab, xf6⟩ => ?_)
        have h_w6_ox : w6 ox = some (.inr (5, [.ref as, .int (nI md)])) := (xf6 ox (mw_oa h_w5_ox h_w5_ab)).trans h_w5_ox
        have h_w6_as : w6 as = some (eR cS 8 g0) := (xf6 as (mw_ri h_w5_as h_w5_ab)).trans h_w5_as
        have h_w6_h0 : w6 h0 = some (.inr (4, [.int (nI 1), .int (nI c), .int (nI sd), .int (tot + n), .int (nI (mv + cn)), .ref ab])) := (xf6 h0 (mw_oa h_w5_h0 h_w5_ab)).trans h_w5_h0
        have fr_w6 : ∀ zz : Nat, zz ≠ h0 → zz ≠ ab → w6 zz = w zz := fun zz g0 g1 => (xf6 zz g1).trans (fr_w5 zz g0)
        refine mg_aload C dX6_come_80 rfl ?_
        refine mg_get C inT5 h_w6_h0 rfl 3 (by decide) kw_205 (Or.inl rfl) rfl dX6_come_82 ?_
        refine mg_ldc C (v := nI 10000000) dX6_come_85 kw_207 (by decide) ?_
        refine mg_iadd C (z := (tot + n) + (nI 10000000)) dX6_come_87 rfl ?_
        exact hR _ _ _ _ dX6_come_88 (Or.inr ⟨xa, cn, hxa, rfl, hy_may, hca, hc3, (by omega), Or.inr ⟨c_42, rfl, h_w6_h0, xc6ab, fun z q0 q1 => fr_w6 z q0 q1⟩⟩)
      · refine mg_bipush C (v := (-3 : Int32)) dX6_come_45 (by decide) ?_
        exact hR _ _ _ _ dX6_come_47 (Or.inr ⟨xa, cn, hxa, rfl, hy_may, hca, hc3, (by omega), Or.inl ⟨c_42, rfl, rfl⟩⟩)
    · rw [ra3]
      refine mg_ifN_ne C (tgt := 30) dX6_come_25 (by decide) (by decide) (fun c_25 => absurd c_25 (by decide)) (fun c_25 => ?_)
      refine mg_iconst C (v := (-1 : Int32)) dX6_come_28 (by decide) ?_
      exact hR _ _ _ _ dX6_come_29 (Or.inl ⟨fun q => hy_may q.2, rfl, rfl⟩)
  · rw [ra2]
    refine mg_ifN_eq C (tgt := 28) dX6_come_16 (by decide) (by decide) (fun c_16 => ?_) (fun c_16 => absurd c_16 (by decide))
    refine mg_iconst C (v := (-1 : Int32)) dX6_come_28 (by decide) ?_
    exact hR _ _ _ _ dX6_come_29 (Or.inl ⟨fun q => hy_key q.1, rfl, rfl⟩)

set_option maxHeartbeats 4000000 in
set_option maxRecDepth 20000 in
theorem c_X6_clear_L (D : va_G) (cI cS : ClassId) (w : mwT) (ox as md a : Nat) (g0 : Nat → Option Nat) (h0 ab k sd h mv : Nat) (tot : Int32) (f : Nat → Int32) (hox : w ox = some (.inr (5, [.ref as, .int (nI md)]))) (has : w as = some (eR cS 8 g0)) (hh : w h0 = some (.inr (2, [.int (nI 3), .int (nI k), .int (nI sd), .int tot, .int (nI mv), .ref ab, .int (nI h)]))) (h_ab : w ab = some (eI cI k f)) (hmd : md ≤ 8) (ha : a < md) (hg : g0 a = some h0) (hs : sd ≤ 999) (hk1 : 2 ≤ k) (hk2 : k ≤ 32) (hh2 : h ≤ k) : mMi yX6_clear cX6_clear 4 (some .int) (rmL 8) [.ref ox, .int (nI a)] D cI cS w (fun r w1 => r = tot + nI 10000000 ∧ w1 h0 = some (.inr (2, [.int (nI 3), .int (nI k), .int (nI sd), .int (nI 0), .int (nI 0), .ref ab, .int (nI 0)])) ∧ ∀ z : Nat, z ≠ h0 → w1 z = w z) := by
  refine mMi.of (by decide) (Nat.le_of_ble_eq_true rfl) ?_
  intro X C hN hR
  have fr_w : ∀ zz : Nat, w zz = w zz := fun _ => rfl
  refine mg_sub (lv' := [(0, .ref ox), (1, .int (nI a))]) [0, 1] rfl ?_
  refine mg_aload_n C dX6_clear_0 rfl ?_
  refine mg_iload_n C dX6_clear_1 rfl ?_
  refine mg_callV_q C hox rfl (rest := []) (c_X6_find_in D cI cS w ox as md g0 a hox has hmd ha) yq_X6_find kw_123 kw_124 kw_125 ⟨by decide, by decide⟩ ⟨Nat.le_of_ble_eq_true rfl, Nat.le_of_ble_eq_true rfl⟩ (Nat.le_of_ble_eq_true rfl) rfl rfl dX6_clear_2 (fun r1 w1 ⟨xe1, xk1⟩ => ?_)
  rw [xk1, xe1, hg]
  refine mg_astore_n C (lv' := [(2, .ref h0), (0, .ref ox), (1, .int (nI a))]) dX6_clear_5 rfl (by decide) rfl ?_
  refine mg_aload_n C dX6_clear_6 rfl ?_
  refine mg_ifnonnull C (tgt := 12) dX6_clear_7 (by decide) ?_
  refine mg_aload_n C dX6_clear_12 rfl ?_
  refine mg_get C inT2 hh rfl 3 (by decide) kw_205 (Or.inl rfl) rfl dX6_clear_13 ?_
  refine mg_istore_n C (lv' := [(3, .int tot), (2, .ref h0), (0, .ref ox), (1, .int (nI a))]) dX6_clear_16 rfl (by decide) rfl ?_
  refine mg_aload_n C dX6_clear_17 rfl ?_
  refine mg_iconst C (v := nI 0) dX6_clear_18 (by decide) ?_
  refine mg_put C (fs' := [.int (nI 3), .int (nI k), .int (nI sd), .int (nI 0), .int (nI mv), .ref ab, .int (nI h)]) inT2 hh rfl 3 (by decide) kw_205 (Or.inl rfl) tyX2_ok nmX2 rfl rfl rfl rfl (Nat.le_of_ble_eq_true rfl) dX6_clear_19 (fun w2 e_w2 => ?_)
  have h_w2_ox : w2 ox = some (.inr (5, [.ref as, .int (nI md)])) := (congrFun e_w2 _).trans ((mwu_ne (mw_ci hox hh (by decide))).trans hox)
  have h_w2_as : w2 as = some (eR cS 8 g0) := (congrFun e_w2 _).trans ((mwu_ne (mw_ao has hh)).trans has)
  have h_w2_h0 : w2 h0 = some (.inr (2, [.int (nI 3), .int (nI k), .int (nI sd), .int (nI 0), .int (nI mv), .ref ab, .int (nI h)])) := (congrFun e_w2 _).trans mwu_eq
  have h_w2_ab : w2 ab = some (eI cI k f) := (congrFun e_w2 _).trans ((mwu_ne (mw_ao h_ab hh)).trans h_ab)
  have fr_w2 : ∀ zz : Nat, zz ≠ h0 → w2 zz = w zz := fun zz g0 => (congrFun e_w2 zz).trans ((mwu_ne g0).trans (fr_w zz ))
  refine mg_aload_n C dX6_clear_22 rfl ?_
  refine mg_iconst C (v := nI 0) dX6_clear_23 (by decide) ?_
  refine mg_put C (fs' := [.int (nI 3), .int (nI k), .int (nI sd), .int (nI 0), .int (nI 0), .ref ab, .int (nI h)]) inT2 h_w2_h0 rfl 4 (by decide) kw_206 (Or.inl rfl) tyX2_ok nmX2 rfl rfl rfl rfl (Nat.le_of_ble_eq_true rfl) dX6_clear_24 (fun w3 e_w3 => ?_)
  have h_w3_ox : w3 ox = some (.inr (5, [.ref as, .int (nI md)])) := (congrFun e_w3 _).trans ((mwu_ne (mw_ci h_w2_ox h_w2_h0 (by decide))).trans h_w2_ox)
  have h_w3_as : w3 as = some (eR cS 8 g0) := (congrFun e_w3 _).trans ((mwu_ne (mw_ao h_w2_as h_w2_h0)).trans h_w2_as)
  have h_w3_h0 : w3 h0 = some (.inr (2, [.int (nI 3), .int (nI k), .int (nI sd), .int (nI 0), .int (nI 0), .ref ab, .int (nI h)])) := (congrFun e_w3 _).trans mwu_eq
  have h_w3_ab : w3 ab = some (eI cI k f) := (congrFun e_w3 _).trans ((mwu_ne (mw_ao h_w2_ab h_w2_h0)).trans h_w2_ab)
  have fr_w3 : ∀ zz : Nat, zz ≠ h0 → w3 zz = w zz := fun zz g0 => (congrFun e_w3 zz).trans ((mwu_ne g0).trans (fr_w2 zz g0))
  refine mg_aload_n C dX6_clear_27 rfl ?_
  refine mg_callU_v C h_w3_h0 rfl (rest := []) (c_X2_forget D cI cS w3 h0 ab k sd h (nI 0) (nI 0) f h_w3_h0 h_w3_ab hk1 hk2 hh2) yq_X2_forget kw_208 kw_209 dq_forget (by decide +kernel) kw_219 kw_218 ⟨by decide, by decide⟩ ⟨Nat.le_of_ble_eq_true rfl, Nat.le_of_ble_eq_true rfl⟩ (Nat.le_of_ble_eq_true rfl) rfl rfl dX6_clear_28 (fun w4 ⟨xc4h0, xf4⟩ => ?_)
  have h_w4_ox : w4 ox = some (.inr (5, [.ref as, .int (nI md)])) := (xf4 ox (mw_ci h_w3_ox h_w3_h0 (by decide))).trans h_w3_ox
  have h_w4_as : w4 as = some (eR cS 8 g0) := (xf4 as (mw_ao h_w3_as h_w3_h0)).trans h_w3_as
  have h_w4_ab : w4 ab = some (eI cI k f) := (xf4 ab (mw_ao h_w3_ab h_w3_h0)).trans h_w3_ab
  have fr_w4 : ∀ zz : Nat, zz ≠ h0 → w4 zz = w zz := fun zz g0 => (xf4 zz g0).trans (fr_w3 zz g0)
  refine mg_iload_n C dX6_clear_31 rfl ?_
  refine mg_ldc C (v := nI 10000000) dX6_clear_32 kw_207 (by decide) ?_
  refine mg_iadd C (z := tot + (nI 10000000)) dX6_clear_34 rfl ?_
  exact hR _ _ _ _ dX6_clear_35 ⟨rfl, xc4h0, fun z q0 => fr_w4 z q0⟩

set_option maxHeartbeats 4000000 in
set_option maxRecDepth 20000 in
theorem c_X6_come_L (D : va_G) (cI cS : ClassId) (w : mwT) (ox as md a : Nat) (g0 : Nat → Option Nat) (h0 ab k sd h mv : Nat) (tot : Int32) (f : Nat → Int32) (x n : Int32) (hox : w ox = some (.inr (5, [.ref as, .int (nI md)]))) (has : w as = some (eR cS 8 g0)) (hh : w h0 = some (.inr (2, [.int (nI 3), .int (nI k), .int (nI sd), .int tot, .int (nI mv), .ref ab, .int (nI h)]))) (h_ab : w ab = some (eI cI k f)) (hmd : md ≤ 8) (ha : a < md) (hg : g0 a = some h0) (hs : sd ≤ 999) (hk1 : 2 ≤ k) (hk2 : k ≤ 32) (hh2 : h ≤ k) (hmv : mv ≤ 10000000) : mMi yX6_come cX6_come 5 (some .int) (rmL 98) [.ref ox, .int (nI a), .int x, .int n] D cI cS w (fun r w1 => (¬ (rg 9999 x ∧ rp 1 1000 n) ∧ r = -1 ∧ w1 = w) ∨ (∃ xa cn : Nat, xa ≤ 9999 ∧ x = nI xa ∧ rp 1 1000 n ∧ absI n = nI cn ∧ 1 ≤ cn ∧ cn ≤ 1000 ∧ ((10000000 < mv + cn ∧ r = -3 ∧ w1 = w) ∨ (mv + cn ≤ 10000000 ∧ r = tot + n + nI 10000000 ∧ w1 h0 = some (.inr (2, [.int (nI 3), .int (nI k), .int (nI sd), .int (tot + n), .int (nI (mv + cn)), .ref ab, .int (nI ((adL k (nI (hsN sd 0 xa)) (f, h)).2))])) ∧ w1 ab = some (eI cI k ((adL k (nI (hsN sd 0 xa)) (f, h)).1)) ∧ ∀ z : Nat, z ≠ h0 → z ≠ ab → w1 z = w z)))) := by
  refine mMi.of (by decide) (Nat.le_of_ble_eq_true rfl) ?_
  intro X C hN hR
  have fr_w : ∀ zz : Nat, w zz = w zz := fun _ => rfl
  refine mg_sub (lv' := [(0, .ref ox), (1, .int (nI a)), (2, .int x), (3, .int n)]) [0, 1, 2, 3] rfl ?_
  refine mg_aload_n C dX6_come_0 rfl ?_
  refine mg_iload_n C dX6_come_1 rfl ?_
  refine mg_callV_q C hox rfl (rest := []) (c_X6_find_in D cI cS w ox as md g0 a hox has hmd ha) yq_X6_find kw_123 kw_124 kw_125 ⟨by decide, by decide⟩ ⟨Nat.le_of_ble_eq_true rfl, Nat.le_of_ble_eq_true rfl⟩ (Nat.le_of_ble_eq_true rfl) rfl rfl dX6_come_2 (fun r1 w1 ⟨xe1, xk1⟩ => ?_)
  rw [xk1, xe1, hg]
  refine mg_astore C (lv' := [(4, .ref h0), (0, .ref ox), (1, .int (nI a)), (2, .int x), (3, .int n)]) dX6_come_5 (by decide) rfl ?_
  refine mg_aload C dX6_come_7 rfl ?_
  refine mg_ifnull C dX6_come_9 ?_
  refine mg_iload_n C dX6_come_12 rfl ?_
  refine mg_callS_i C (rest := []) (c_X6_isKey D cI cS w x) yq_X6_isKey kw_240 kw_241 ⟨by decide, by decide⟩ ⟨Nat.le_of_ble_eq_true rfl, Nat.le_of_ble_eq_true rfl⟩ (Nat.le_of_ble_eq_true rfl) rfl rfl dX6_come_13 (fun r2 w2 ⟨xa2, xk2⟩ => ?_)
  rw [xk2]
  rcases xa2 with ⟨ra2, hy_key⟩ | ⟨ra2, hy_key⟩
  · rw [ra2]
    obtain ⟨xa, hxa, rfl⟩ := hy_key
    refine mg_ifN_eq C (tgt := 28) dX6_come_16 (by decide) (by decide) (fun c_16 => absurd c_16 (by decide)) (fun c_16 => ?_)
    refine mg_aload C dX6_come_19 rfl ?_
    refine mg_iload_n C dX6_come_21 rfl ?_
    refine mg_callU_i C hh rfl (rest := []) (c_X4_mayTake D cI cS w h0 n) yq_X4_mayTake kw_243 kw_244 dq_mayTake (by decide +kernel) kw_246 kw_249 ⟨by decide, by decide⟩ ⟨Nat.le_of_ble_eq_true rfl, Nat.le_of_ble_eq_true rfl⟩ (Nat.le_of_ble_eq_true rfl) rfl rfl dX6_come_22 (fun r3 w3 ⟨xa3, xk3⟩ => ?_)
    rw [xk3]
    rcases xa3 with ⟨ra3, hy_may⟩ | ⟨ra3, hy_may⟩
    · rw [ra3]
      obtain ⟨cn, hc3, hc4, rfl⟩ := hy_may
      have hca : absI (nI cn) = nI cn := abs_nI (by omega)
      refine mg_ifN_ne C (tgt := 30) dX6_come_25 (by decide) (by decide) (fun c_25 => ?_) (fun c_25 => absurd c_25 (by decide))
      refine mg_aload C dX6_come_30 rfl ?_
      refine mg_get C inT2 hh rfl 4 (by decide) kw_206 (Or.inl rfl) rfl dX6_come_32 ?_
      refine mg_iload_n C dX6_come_35 rfl ?_
      refine mg_mabs C (z := nI cn) dX6_come_36 kw_236 ⟨Nat.le_of_ble_eq_true rfl, Nat.le_of_ble_eq_true rfl⟩ ⟨by decide, by decide⟩ hca ?_
      refine mg_iadd C (z := nI (mv + cn)) dX6_come_39 (nI_add _ _) ?_
      refine mg_ldc C (v := nI 10000000) dX6_come_40 kw_207 (by decide) ?_
      refine mg_icmpN_le C (tgt := 48) dX6_come_42 (by decide) (by omega) (by omega) (fun c_42 => ?_) (fun c_42 => ?_)
      · refine mg_aload C dX6_come_48 rfl ?_
        refine mg_dup C dX6_come_50 rfl ?_
        refine mg_get C inT2 hh rfl 3 (by decide) kw_205 (Or.inl rfl) rfl dX6_come_51 ?_
        refine mg_iload_n C dX6_come_54 rfl ?_
        refine mg_iadd C (z := tot + (nI cn)) dX6_come_55 rfl ?_
        refine mg_put C (fs' := [.int (nI 3), .int (nI k), .int (nI sd), .int (tot + (nI cn)), .int (nI mv), .ref ab, .int (nI h)]) inT2 hh rfl 3 (by decide) kw_205 (Or.inl rfl) tyX2_ok nmX2 rfl rfl rfl rfl (Nat.le_of_ble_eq_true rfl) dX6_come_56 (fun w4 e_w4 => ?_)
        have h_w4_ox : w4 ox = some (.inr (5, [.ref as, .int (nI md)])) := (congrFun e_w4 _).trans ((mwu_ne (mw_ci hox hh (by decide))).trans hox)
        have h_w4_as : w4 as = some (eR cS 8 g0) := (congrFun e_w4 _).trans ((mwu_ne (mw_ao has hh)).trans has)
        have h_w4_h0 : w4 h0 = some (.inr (2, [.int (nI 3), .int (nI k), .int (nI sd), .int (tot + (nI cn)), .int (nI mv), .ref ab, .int (nI h)])) := (congrFun e_w4 _).trans mwu_eq
        have h_w4_ab : w4 ab = some (eI cI k f) := (congrFun e_w4 _).trans ((mwu_ne (mw_ao h_ab hh)).trans h_ab)
        have fr_w4 : ∀ zz : Nat, zz ≠ h0 → w4 zz = w zz := fun zz g0 => (congrFun e_w4 zz).trans ((mwu_ne g0).trans (fr_w zz ))
        refine mg_aload C dX6_come_59 rfl ?_
        refine mg_dup C dX6_come_61 rfl ?_
        refine mg_get C inT2 h_w4_h0 rfl 4 (by decide) kw_206 (Or.inl rfl) rfl dX6_come_62 ?_
        refine mg_iload_n C dX6_come_65 rfl ?_
        refine mg_mabs C (z := nI cn) dX6_come_66 kw_236 ⟨Nat.le_of_ble_eq_true rfl, Nat.le_of_ble_eq_true rfl⟩ ⟨by decide, by decide⟩ hca ?_
        refine mg_iadd C (z := nI (mv + cn)) dX6_come_69 (nI_add _ _) ?_
        refine mg_put C (fs' := [.int (nI 3), .int (nI k), .int (nI sd), .int (tot + (nI cn)), .int (nI (mv + cn)), .ref ab, .int (nI h)]) inT2 h_w4_h0 rfl 4 (by decide) kw_206 (Or.inl rfl) tyX2_ok nmX2 rfl rfl rfl rfl (Nat.le_of_ble_eq_true rfl) dX6_come_70 (fun w5 e_w5 => ?_)
        have h_w5_ox : w5 ox = some (.inr (5, [.ref as, .int (nI md)])) := (congrFun e_w5 _).trans ((mwu_ne (mw_ci h_w4_ox h_w4_h0 (by decide))).trans h_w4_ox)
        have h_w5_as : w5 as = some (eR cS 8 g0) := (congrFun e_w5 _).trans ((mwu_ne (mw_ao h_w4_as h_w4_h0)).trans h_w4_as)
        have h_w5_h0 : w5 h0 = some (.inr (2, [.int (nI 3), .int (nI k), .int (nI sd), .int (tot + (nI cn)), .int (nI (mv + cn)), .ref ab, .int (nI h)])) := (congrFun e_w5 _).trans mwu_eq
        have h_w5_ab : w5 ab = some (eI cI k f) := (congrFun e_w5 _).trans ((mwu_ne (mw_ao h_w4_ab h_w4_h0)).trans h_w4_ab)
        have fr_w5 : ∀ zz : Nat, zz ≠ h0 → w5 zz = w zz := fun zz g0 => (congrFun e_w5 zz).trans ((mwu_ne g0).trans (fr_w4 zz g0))
        refine mg_aload C dX6_come_73 rfl ?_
        refine mg_iload_n C dX6_come_75 rfl ?_
        refine mg_iload_n C dX6_come_76 rfl ?_
        refine mg_callU_v C h_w5_h0 rfl (rest := []) (c_X2_take D cI cS w5 h0 ab k sd h (tot + nI cn) (nI (mv + cn)) f xa (nI cn) h_w5_h0 h_w5_ab hk1 hk2 hh2 hs hxa) yq_X2_take kw_257 kw_258 dq_take (by decide +kernel) kw_291 kw_290 ⟨by decide, by decide⟩ ⟨Nat.le_of_ble_eq_true rfl, Nat.le_of_ble_eq_true rfl⟩ (Nat.le_of_ble_eq_true rfl) rfl rfl dX6_come_77 (fun w6 ⟨xc6h0, xc6ab, xf6⟩ => ?_)
        have h_w6_ox : w6 ox = some (.inr (5, [.ref as, .int (nI md)])) := (xf6 ox (mw_ci h_w5_ox h_w5_h0 (by decide)) (mw_oa h_w5_ox h_w5_ab)).trans h_w5_ox
        have h_w6_as : w6 as = some (eR cS 8 g0) := (xf6 as (mw_ao h_w5_as h_w5_h0) (mw_ri h_w5_as h_w5_ab)).trans h_w5_as
        have fr_w6 : ∀ zz : Nat, zz ≠ h0 → zz ≠ ab → w6 zz = w zz := fun zz g0 g1 => (xf6 zz g0 g1).trans (fr_w5 zz g0)
        refine mg_aload C dX6_come_80 rfl ?_
        refine mg_get C inT2 xc6h0 rfl 3 (by decide) kw_205 (Or.inl rfl) rfl dX6_come_82 ?_
        refine mg_ldc C (v := nI 10000000) dX6_come_85 kw_207 (by decide) ?_
        refine mg_iadd C (z := (tot + nI cn) + (nI 10000000)) dX6_come_87 rfl ?_
        exact hR _ _ _ _ dX6_come_88 (Or.inr ⟨xa, cn, hxa, rfl, ⟨cn, hc3, hc4, rfl⟩, hca, hc3, (by omega), Or.inr ⟨c_42, rfl, xc6h0, xc6ab, fun z q0 q1 => fr_w6 z q0 q1⟩⟩)
      · refine mg_bipush C (v := (-3 : Int32)) dX6_come_45 (by decide) ?_
        exact hR _ _ _ _ dX6_come_47 (Or.inr ⟨xa, cn, hxa, rfl, ⟨cn, hc3, hc4, rfl⟩, hca, hc3, (by omega), Or.inl ⟨c_42, rfl, rfl⟩⟩)
    · rw [ra3]
      refine mg_ifN_ne C (tgt := 30) dX6_come_25 (by decide) (by decide) (fun c_25 => absurd c_25 (by decide)) (fun c_25 => ?_)
      refine mg_iconst C (v := (-1 : Int32)) dX6_come_28 (by decide) ?_
      exact hR _ _ _ _ dX6_come_29 (Or.inl ⟨fun q => hy_may q.2, rfl, rfl⟩)
  · rw [ra2]
    refine mg_ifN_eq C (tgt := 28) dX6_come_16 (by decide) (by decide) (fun c_16 => ?_) (fun c_16 => absurd c_16 (by decide))
    refine mg_iconst C (v := (-1 : Int32)) dX6_come_28 (by decide) ?_
    exact hR _ _ _ _ dX6_come_29 (Or.inl ⟨fun q => hy_key q.1, rfl, rfl⟩)

set_option maxHeartbeats 4000000 in
set_option maxRecDepth 20000 in
theorem c_X6_clear_H (D : va_G) (cI cS : ClassId) (w : mwT) (ox as md a : Nat) (g0 : Nat → Option Nat) (h0 ak an k sd h mv : Nat) (tot lo : Int32) (f g : Nat → Int32) (hox : w ox = some (.inr (5, [.ref as, .int (nI md)]))) (has : w as = some (eR cS 8 g0)) (hh : w h0 = some (.inr (1, [.int (nI 0), .int (nI k), .int (nI sd), .int tot, .int (nI mv), .ref ak, .ref an, .int (nI h), .int lo]))) (h_ak : w ak = some (eI cI (2 * k) f)) (h_an : w an = some (eI cI (2 * k) g)) (hmd : md ≤ 8) (ha : a < md) (hg : g0 a = some h0) (hs : sd ≤ 999) (hk1 : 1 ≤ k) (hk2 : k ≤ 20) (hh2 : h ≤ k) (hka : ak ≠ an) : mMi yX6_clear cX6_clear 4 (some .int) (rmL 8) [.ref ox, .int (nI a)] D cI cS w (fun r w1 => r = tot + nI 10000000 ∧ w1 h0 = some (.inr (1, [.int (nI 0), .int (nI k), .int (nI sd), .int (nI 0), .int (nI 0), .ref ak, .ref an, .int (nI 0), .int (nI 0)])) ∧ ∀ z : Nat, z ≠ h0 → w1 z = w z) := by
  refine mMi.of (by decide) (Nat.le_of_ble_eq_true rfl) ?_
  intro X C hN hR
  have fr_w : ∀ zz : Nat, w zz = w zz := fun _ => rfl
  refine mg_sub (lv' := [(0, .ref ox), (1, .int (nI a))]) [0, 1] rfl ?_
  refine mg_aload_n C dX6_clear_0 rfl ?_
  refine mg_iload_n C dX6_clear_1 rfl ?_
  refine mg_callV_q C hox rfl (rest := []) (c_X6_find_in D cI cS w ox as md g0 a hox has hmd ha) yq_X6_find kw_123 kw_124 kw_125 ⟨by decide, by decide⟩ ⟨Nat.le_of_ble_eq_true rfl, Nat.le_of_ble_eq_true rfl⟩ (Nat.le_of_ble_eq_true rfl) rfl rfl dX6_clear_2 (fun r1 w1 ⟨xe1, xk1⟩ => ?_)
  rw [xk1, xe1, hg]
  refine mg_astore_n C (lv' := [(2, .ref h0), (0, .ref ox), (1, .int (nI a))]) dX6_clear_5 rfl (by decide) rfl ?_
  refine mg_aload_n C dX6_clear_6 rfl ?_
  refine mg_ifnonnull C (tgt := 12) dX6_clear_7 (by decide) ?_
  refine mg_aload_n C dX6_clear_12 rfl ?_
  refine mg_get C inT1 hh rfl 3 (by decide) kw_205 (Or.inl rfl) rfl dX6_clear_13 ?_
  refine mg_istore_n C (lv' := [(3, .int tot), (2, .ref h0), (0, .ref ox), (1, .int (nI a))]) dX6_clear_16 rfl (by decide) rfl ?_
  refine mg_aload_n C dX6_clear_17 rfl ?_
  refine mg_iconst C (v := nI 0) dX6_clear_18 (by decide) ?_
  refine mg_put C (fs' := [.int (nI 0), .int (nI k), .int (nI sd), .int (nI 0), .int (nI mv), .ref ak, .ref an, .int (nI h), .int lo]) inT1 hh rfl 3 (by decide) kw_205 (Or.inl rfl) tyX1_ok nmX1 rfl rfl rfl rfl (Nat.le_of_ble_eq_true rfl) dX6_clear_19 (fun w2 e_w2 => ?_)
  have h_w2_ox : w2 ox = some (.inr (5, [.ref as, .int (nI md)])) := (congrFun e_w2 _).trans ((mwu_ne (mw_ci hox hh (by decide))).trans hox)
  have h_w2_as : w2 as = some (eR cS 8 g0) := (congrFun e_w2 _).trans ((mwu_ne (mw_ao has hh)).trans has)
  have h_w2_h0 : w2 h0 = some (.inr (1, [.int (nI 0), .int (nI k), .int (nI sd), .int (nI 0), .int (nI mv), .ref ak, .ref an, .int (nI h), .int lo])) := (congrFun e_w2 _).trans mwu_eq
  have h_w2_ak : w2 ak = some (eI cI (2 * k) f) := (congrFun e_w2 _).trans ((mwu_ne (mw_ao h_ak hh)).trans h_ak)
  have h_w2_an : w2 an = some (eI cI (2 * k) g) := (congrFun e_w2 _).trans ((mwu_ne (mw_ao h_an hh)).trans h_an)
  have fr_w2 : ∀ zz : Nat, zz ≠ h0 → w2 zz = w zz := fun zz g0 => (congrFun e_w2 zz).trans ((mwu_ne g0).trans (fr_w zz ))
  refine mg_aload_n C dX6_clear_22 rfl ?_
  refine mg_iconst C (v := nI 0) dX6_clear_23 (by decide) ?_
  refine mg_put C (fs' := [.int (nI 0), .int (nI k), .int (nI sd), .int (nI 0), .int (nI 0), .ref ak, .ref an, .int (nI h), .int lo]) inT1 h_w2_h0 rfl 4 (by decide) kw_206 (Or.inl rfl) tyX1_ok nmX1 rfl rfl rfl rfl (Nat.le_of_ble_eq_true rfl) dX6_clear_24 (fun w3 e_w3 => ?_)
  have h_w3_ox : w3 ox = some (.inr (5, [.ref as, .int (nI md)])) := (congrFun e_w3 _).trans ((mwu_ne (mw_ci h_w2_ox h_w2_h0 (by decide))).trans h_w2_ox)
  have h_w3_as : w3 as = some (eR cS 8 g0) := (congrFun e_w3 _).trans ((mwu_ne (mw_ao h_w2_as h_w2_h0)).trans h_w2_as)
  have h_w3_h0 : w3 h0 = some (.inr (1, [.int (nI 0), .int (nI k), .int (nI sd), .int (nI 0), .int (nI 0), .ref ak, .ref an, .int (nI h), .int lo])) := (congrFun e_w3 _).trans mwu_eq
  have h_w3_ak : w3 ak = some (eI cI (2 * k) f) := (congrFun e_w3 _).trans ((mwu_ne (mw_ao h_w2_ak h_w2_h0)).trans h_w2_ak)
  have h_w3_an : w3 an = some (eI cI (2 * k) g) := (congrFun e_w3 _).trans ((mwu_ne (mw_ao h_w2_an h_w2_h0)).trans h_w2_an)
  have fr_w3 : ∀ zz : Nat, zz ≠ h0 → w3 zz = w zz := fun zz g0 => (congrFun e_w3 zz).trans ((mwu_ne g0).trans (fr_w2 zz g0))
  refine mg_aload_n C dX6_clear_27 rfl ?_
  refine mg_callU_v C h_w3_h0 rfl (rest := []) (c_X1_forget D cI cS w3 h0 ak an k sd h (nI 0) (nI 0) lo f g h_w3_h0 h_w3_ak h_w3_an ) yq_X1_forget kw_208 kw_209 dq_forget (by decide +kernel) kw_216 kw_215 ⟨by decide, by decide⟩ ⟨Nat.le_of_ble_eq_true rfl, Nat.le_of_ble_eq_true rfl⟩ (Nat.le_of_ble_eq_true rfl) rfl rfl dX6_clear_28 (fun w4 ⟨xc4h0, xf4⟩ => ?_)
  have h_w4_ox : w4 ox = some (.inr (5, [.ref as, .int (nI md)])) := (xf4 ox (mw_ci h_w3_ox h_w3_h0 (by decide))).trans h_w3_ox
  have h_w4_as : w4 as = some (eR cS 8 g0) := (xf4 as (mw_ao h_w3_as h_w3_h0)).trans h_w3_as
  have h_w4_ak : w4 ak = some (eI cI (2 * k) f) := (xf4 ak (mw_ao h_w3_ak h_w3_h0)).trans h_w3_ak
  have h_w4_an : w4 an = some (eI cI (2 * k) g) := (xf4 an (mw_ao h_w3_an h_w3_h0)).trans h_w3_an
  have fr_w4 : ∀ zz : Nat, zz ≠ h0 → w4 zz = w zz := fun zz g0 => (xf4 zz g0).trans (fr_w3 zz g0)
  refine mg_iload_n C dX6_clear_31 rfl ?_
  refine mg_ldc C (v := nI 10000000) dX6_clear_32 kw_207 (by decide) ?_
  refine mg_iadd C (z := tot + (nI 10000000)) dX6_clear_34 rfl ?_
  exact hR _ _ _ _ dX6_clear_35 ⟨rfl, xc4h0, fun z q0 => fr_w4 z q0⟩

set_option maxHeartbeats 4000000 in
set_option maxRecDepth 20000 in
theorem c_X6_come_H (D : va_G) (cI cS : ClassId) (w : mwT) (ox as md a : Nat) (g0 : Nat → Option Nat) (h0 ak an k sd h mv : Nat) (tot lo : Int32) (f g : Nat → Int32) (x n : Int32) (hox : w ox = some (.inr (5, [.ref as, .int (nI md)]))) (has : w as = some (eR cS 8 g0)) (hh : w h0 = some (.inr (1, [.int (nI 0), .int (nI k), .int (nI sd), .int tot, .int (nI mv), .ref ak, .ref an, .int (nI h), .int lo]))) (h_ak : w ak = some (eI cI (2 * k) f)) (h_an : w an = some (eI cI (2 * k) g)) (hmd : md ≤ 8) (ha : a < md) (hg : g0 a = some h0) (hs : sd ≤ 999) (hk1 : 1 ≤ k) (hk2 : k ≤ 20) (hh2 : h ≤ k) (hka : ak ≠ an) (hmv : mv ≤ 10000000) : mMi yX6_come cX6_come 5 (some .int) (rmL 98) [.ref ox, .int (nI a), .int x, .int n] D cI cS w (fun r w1 => (¬ (rg 9999 x ∧ rp 1 1000 n) ∧ r = -1 ∧ w1 = w) ∨ (∃ xa cn : Nat, xa ≤ 9999 ∧ x = nI xa ∧ rp 1 1000 n ∧ absI n = nI cn ∧ 1 ≤ cn ∧ cn ≤ 1000 ∧ ((10000000 < mv + cn ∧ r = -3 ∧ w1 = w) ∨ (mv + cn ≤ 10000000 ∧ r = tot + n + nI 10000000 ∧ w1 h0 = some (.inr (1, [.int (nI 0), .int (nI k), .int (nI sd), .int (tot + n), .int (nI (mv + cn)), .ref ak, .ref an, .int (nI ((tkH k (nI xa) n (f, g, h) lo).1.2.2)), .int ((tkH k (nI xa) n (f, g, h) lo).2)])) ∧ w1 ak = some (eI cI (2 * k) ((tkH k (nI xa) n (f, g, h) lo).1.1)) ∧ w1 an = some (eI cI (2 * k) ((tkH k (nI xa) n (f, g, h) lo).1.2.1)) ∧ ∀ z : Nat, z ≠ h0 → z ≠ ak → z ≠ an → w1 z = w z)))) := by
  refine mMi.of (by decide) (Nat.le_of_ble_eq_true rfl) ?_
  intro X C hN hR
  have fr_w : ∀ zz : Nat, w zz = w zz := fun _ => rfl
  refine mg_sub (lv' := [(0, .ref ox), (1, .int (nI a)), (2, .int x), (3, .int n)]) [0, 1, 2, 3] rfl ?_
  refine mg_aload_n C dX6_come_0 rfl ?_
  refine mg_iload_n C dX6_come_1 rfl ?_
  refine mg_callV_q C hox rfl (rest := []) (c_X6_find_in D cI cS w ox as md g0 a hox has hmd ha) yq_X6_find kw_123 kw_124 kw_125 ⟨by decide, by decide⟩ ⟨Nat.le_of_ble_eq_true rfl, Nat.le_of_ble_eq_true rfl⟩ (Nat.le_of_ble_eq_true rfl) rfl rfl dX6_come_2 (fun r1 w1 ⟨xe1, xk1⟩ => ?_)
  rw [xk1, xe1, hg]
  refine mg_astore C (lv' := [(4, .ref h0), (0, .ref ox), (1, .int (nI a)), (2, .int x), (3, .int n)]) dX6_come_5 (by decide) rfl ?_
  refine mg_aload C dX6_come_7 rfl ?_
  refine mg_ifnull C dX6_come_9 ?_
  refine mg_iload_n C dX6_come_12 rfl ?_
  refine mg_callS_i C (rest := []) (c_X6_isKey D cI cS w x) yq_X6_isKey kw_240 kw_241 ⟨by decide, by decide⟩ ⟨Nat.le_of_ble_eq_true rfl, Nat.le_of_ble_eq_true rfl⟩ (Nat.le_of_ble_eq_true rfl) rfl rfl dX6_come_13 (fun r2 w2 ⟨xa2, xk2⟩ => ?_)
  rw [xk2]
  rcases xa2 with ⟨ra2, hy_key⟩ | ⟨ra2, hy_key⟩
  · rw [ra2]
    obtain ⟨xa, hxa, rfl⟩ := hy_key
    refine mg_ifN_eq C (tgt := 28) dX6_come_16 (by decide) (by decide) (fun c_16 => absurd c_16 (by decide)) (fun c_16 => ?_)
    refine mg_aload C dX6_come_19 rfl ?_
    refine mg_iload_n C dX6_come_21 rfl ?_
    refine mg_callU_i C hh rfl (rest := []) (c_X4_mayTake D cI cS w h0 n) yq_X4_mayTake kw_243 kw_244 dq_mayTake (by decide +kernel) kw_246 kw_248 ⟨by decide, by decide⟩ ⟨Nat.le_of_ble_eq_true rfl, Nat.le_of_ble_eq_true rfl⟩ (Nat.le_of_ble_eq_true rfl) rfl rfl dX6_come_22 (fun r3 w3 ⟨xa3, xk3⟩ => ?_)
    rw [xk3]
    rcases xa3 with ⟨ra3, hy_may⟩ | ⟨ra3, hy_may⟩
    · rw [ra3]
      obtain ⟨cn, hc3, hc4, rfl⟩ := hy_may
      have hca : absI (nI cn) = nI cn := abs_nI (by omega)
      refine mg_ifN_ne C (tgt := 30) dX6_come_25 (by decide) (by decide) (fun c_25 => ?_) (fun c_25 => absurd c_25 (by decide))
      refine mg_aload C dX6_come_30 rfl ?_
      refine mg_get C inT1 hh rfl 4 (by decide) kw_206 (Or.inl rfl) rfl dX6_come_32 ?_
      refine mg_iload_n C dX6_come_35 rfl ?_
      refine mg_mabs C (z := nI cn) dX6_come_36 kw_236 ⟨Nat.le_of_ble_eq_true rfl, Nat.le_of_ble_eq_true rfl⟩ ⟨by decide, by decide⟩ hca ?_
      refine mg_iadd C (z := nI (mv + cn)) dX6_come_39 (nI_add _ _) ?_
      refine mg_ldc C (v := nI 10000000) dX6_come_40 kw_207 (by decide) ?_
      refine mg_icmpN_le C (tgt := 48) dX6_come_42 (by decide) (by omega) (by omega) (fun c_42 => ?_) (fun c_42 => ?_)
      · refine mg_aload C dX6_come_48 rfl ?_
        refine mg_dup C dX6_come_50 rfl ?_
        refine mg_get C inT1 hh rfl 3 (by decide) kw_205 (Or.inl rfl) rfl dX6_come_51 ?_
        refine mg_iload_n C dX6_come_54 rfl ?_
        refine mg_iadd C (z := tot + (nI cn)) dX6_come_55 rfl ?_
        refine mg_put C (fs' := [.int (nI 0), .int (nI k), .int (nI sd), .int (tot + (nI cn)), .int (nI mv), .ref ak, .ref an, .int (nI h), .int lo]) inT1 hh rfl 3 (by decide) kw_205 (Or.inl rfl) tyX1_ok nmX1 rfl rfl rfl rfl (Nat.le_of_ble_eq_true rfl) dX6_come_56 (fun w4 e_w4 => ?_)
        have h_w4_ox : w4 ox = some (.inr (5, [.ref as, .int (nI md)])) := (congrFun e_w4 _).trans ((mwu_ne (mw_ci hox hh (by decide))).trans hox)
        have h_w4_as : w4 as = some (eR cS 8 g0) := (congrFun e_w4 _).trans ((mwu_ne (mw_ao has hh)).trans has)
        have h_w4_h0 : w4 h0 = some (.inr (1, [.int (nI 0), .int (nI k), .int (nI sd), .int (tot + (nI cn)), .int (nI mv), .ref ak, .ref an, .int (nI h), .int lo])) := (congrFun e_w4 _).trans mwu_eq
        have h_w4_ak : w4 ak = some (eI cI (2 * k) f) := (congrFun e_w4 _).trans ((mwu_ne (mw_ao h_ak hh)).trans h_ak)
        have h_w4_an : w4 an = some (eI cI (2 * k) g) := (congrFun e_w4 _).trans ((mwu_ne (mw_ao h_an hh)).trans h_an)
        have fr_w4 : ∀ zz : Nat, zz ≠ h0 → w4 zz = w zz := fun zz g0 => (congrFun e_w4 zz).trans ((mwu_ne g0).trans (fr_w zz ))
        refine mg_aload C dX6_come_59 rfl ?_
        refine mg_dup C dX6_come_61 rfl ?_
        refine mg_get C inT1 h_w4_h0 rfl 4 (by decide) kw_206 (Or.inl rfl) rfl dX6_come_62 ?_
        refine mg_iload_n C dX6_come_65 rfl ?_
        refine mg_mabs C (z := nI cn) dX6_come_66 kw_236 ⟨Nat.le_of_ble_eq_true rfl, Nat.le_of_ble_eq_true rfl⟩ ⟨by decide, by decide⟩ hca ?_
        refine mg_iadd C (z := nI (mv + cn)) dX6_come_69 (nI_add _ _) ?_
        refine mg_put C (fs' := [.int (nI 0), .int (nI k), .int (nI sd), .int (tot + (nI cn)), .int (nI (mv + cn)), .ref ak, .ref an, .int (nI h), .int lo]) inT1 h_w4_h0 rfl 4 (by decide) kw_206 (Or.inl rfl) tyX1_ok nmX1 rfl rfl rfl rfl (Nat.le_of_ble_eq_true rfl) dX6_come_70 (fun w5 e_w5 => ?_)
        have h_w5_ox : w5 ox = some (.inr (5, [.ref as, .int (nI md)])) := (congrFun e_w5 _).trans ((mwu_ne (mw_ci h_w4_ox h_w4_h0 (by decide))).trans h_w4_ox)
        have h_w5_as : w5 as = some (eR cS 8 g0) := (congrFun e_w5 _).trans ((mwu_ne (mw_ao h_w4_as h_w4_h0)).trans h_w4_as)
        have h_w5_h0 : w5 h0 = some (.inr (1, [.int (nI 0), .int (nI k), .int (nI sd), .int (tot + (nI cn)), .int (nI (mv + cn)), .ref ak, .ref an, .int (nI h), .int lo])) := (congrFun e_w5 _).trans mwu_eq
        have h_w5_ak : w5 ak = some (eI cI (2 * k) f) := (congrFun e_w5 _).trans ((mwu_ne (mw_ao h_w4_ak h_w4_h0)).trans h_w4_ak)
        have h_w5_an : w5 an = some (eI cI (2 * k) g) := (congrFun e_w5 _).trans ((mwu_ne (mw_ao h_w4_an h_w4_h0)).trans h_w4_an)
        have fr_w5 : ∀ zz : Nat, zz ≠ h0 → w5 zz = w zz := fun zz g0 => (congrFun e_w5 zz).trans ((mwu_ne g0).trans (fr_w4 zz g0))
        refine mg_aload C dX6_come_73 rfl ?_
        refine mg_iload_n C dX6_come_75 rfl ?_
        refine mg_iload_n C dX6_come_76 rfl ?_
        refine mg_callU_v C h_w5_h0 rfl (rest := []) (c_X1_take D cI cS w5 h0 ak an k sd h (tot + nI cn) (nI (mv + cn)) lo f g (nI xa) (nI cn) h_w5_h0 h_w5_ak h_w5_an hk1 hk2 hh2 hka) yq_X1_take kw_257 kw_258 dq_take (by decide +kernel) kw_269 kw_268 ⟨by decide, by decide⟩ ⟨Nat.le_of_ble_eq_true rfl, Nat.le_of_ble_eq_true rfl⟩ (Nat.le_of_ble_eq_true rfl) rfl rfl dX6_come_77 (fun w6 ⟨xc6h0, xc6ak, xc6an, xf6⟩ => ?_)
        have h_w6_ox : w6 ox = some (.inr (5, [.ref as, .int (nI md)])) := (xf6 ox (mw_ci h_w5_ox h_w5_h0 (by decide)) (mw_oa h_w5_ox h_w5_ak) (mw_oa h_w5_ox h_w5_an)).trans h_w5_ox
        have h_w6_as : w6 as = some (eR cS 8 g0) := (xf6 as (mw_ao h_w5_as h_w5_h0) (mw_ri h_w5_as h_w5_ak) (mw_ri h_w5_as h_w5_an)).trans h_w5_as
        have fr_w6 : ∀ zz : Nat, zz ≠ h0 → zz ≠ ak → zz ≠ an → w6 zz = w zz := fun zz g0 g1 g2 => (xf6 zz g0 g1 g2).trans (fr_w5 zz g0)
        refine mg_aload C dX6_come_80 rfl ?_
        refine mg_get C inT1 xc6h0 rfl 3 (by decide) kw_205 (Or.inl rfl) rfl dX6_come_82 ?_
        refine mg_ldc C (v := nI 10000000) dX6_come_85 kw_207 (by decide) ?_
        refine mg_iadd C (z := (tot + nI cn) + (nI 10000000)) dX6_come_87 rfl ?_
        exact hR _ _ _ _ dX6_come_88 (Or.inr ⟨xa, cn, hxa, rfl, ⟨cn, hc3, hc4, rfl⟩, hca, hc3, (by omega), Or.inr ⟨c_42, rfl, xc6h0, xc6ak, xc6an, fun z q0 q1 q2 => fr_w6 z q0 q1 q2⟩⟩)
      · refine mg_bipush C (v := (-3 : Int32)) dX6_come_45 (by decide) ?_
        exact hR _ _ _ _ dX6_come_47 (Or.inr ⟨xa, cn, hxa, rfl, ⟨cn, hc3, hc4, rfl⟩, hca, hc3, (by omega), Or.inl ⟨c_42, rfl, rfl⟩⟩)
    · rw [ra3]
      refine mg_ifN_ne C (tgt := 30) dX6_come_25 (by decide) (by decide) (fun c_25 => absurd c_25 (by decide)) (fun c_25 => ?_)
      refine mg_iconst C (v := (-1 : Int32)) dX6_come_28 (by decide) ?_
      exact hR _ _ _ _ dX6_come_29 (Or.inl ⟨fun q => hy_may q.2, rfl, rfl⟩)
  · rw [ra2]
    refine mg_ifN_eq C (tgt := 28) dX6_come_16 (by decide) (by decide) (fun c_16 => ?_) (fun c_16 => absurd c_16 (by decide))
    refine mg_iconst C (v := (-1 : Int32)) dX6_come_28 (by decide) ?_
    exact hR _ _ _ _ dX6_come_29 (Or.inl ⟨fun q => hy_key q.1, rfl, rfl⟩)

set_option maxHeartbeats 4000000 in
set_option maxRecDepth 20000 in
theorem c_X6_clear_R (D : va_G) (cI cS : ClassId) (w : mwT) (ox as md a : Nat) (g0 : Nat → Option Nat) (h0 ak al aw k sd mv : Nat) (tot er : Int32) (f : Nat → Int32) (ln tr : Nat → Nat) (hox : w ox = some (.inr (5, [.ref as, .int (nI md)]))) (has : w as = some (eR cS 8 g0)) (hh : w h0 = some (.inr (3, [.int (nI 4), .int (nI k), .int (nI sd), .int tot, .int (nI mv), .ref ak, .ref al, .ref aw, .int er]))) (h_ak : w ak = some (eI cI (31 * k) f)) (h_al : w al = some (eI cI 31 (lnF ln))) (h_aw : w aw = some (eI cI 31 (lnF tr))) (hmd : md ≤ 8) (ha : a < md) (hg : g0 a = some h0) (hs : sd ≤ 999) (hk1 : 4 ≤ k) (hk2 : k ≤ 32) (hd1 : ak ≠ al) (hd2 : ak ≠ aw) (hd3 : al ≠ aw) (hok : rkOk k (f, ln, tr, er)) : mMi yX6_clear cX6_clear 4 (some .int) (rmL 8) [.ref ox, .int (nI a)] D cI cS w (fun r w1 => r = tot + nI 10000000 ∧ w1 h0 = some (.inr (3, [.int (nI 4), .int (nI k), .int (nI sd), .int (nI 0), .int (nI 0), .ref ak, .ref al, .ref aw, .int (nI 0)])) ∧ w1 al = some (eI cI 31 (lnF (clN ln))) ∧ w1 aw = some (eI cI 31 (lnF (clN tr))) ∧ ∀ z : Nat, z ≠ h0 → z ≠ al → z ≠ aw → w1 z = w z) := by
  refine mMi.of (by decide) (Nat.le_of_ble_eq_true rfl) ?_
  intro X C hN hR
  have fr_w : ∀ zz : Nat, w zz = w zz := fun _ => rfl
  refine mg_sub (lv' := [(0, .ref ox), (1, .int (nI a))]) [0, 1] rfl ?_
  refine mg_aload_n C dX6_clear_0 rfl ?_
  refine mg_iload_n C dX6_clear_1 rfl ?_
  refine mg_callV_q C hox rfl (rest := []) (c_X6_find_in D cI cS w ox as md g0 a hox has hmd ha) yq_X6_find kw_123 kw_124 kw_125 ⟨by decide, by decide⟩ ⟨Nat.le_of_ble_eq_true rfl, Nat.le_of_ble_eq_true rfl⟩ (Nat.le_of_ble_eq_true rfl) rfl rfl dX6_clear_2 (fun r1 w1 ⟨xe1, xk1⟩ => ?_)
  rw [xk1, xe1, hg]
  refine mg_astore_n C (lv' := [(2, .ref h0), (0, .ref ox), (1, .int (nI a))]) dX6_clear_5 rfl (by decide) rfl ?_
  refine mg_aload_n C dX6_clear_6 rfl ?_
  refine mg_ifnonnull C (tgt := 12) dX6_clear_7 (by decide) ?_
  refine mg_aload_n C dX6_clear_12 rfl ?_
  refine mg_get C inT3 hh rfl 3 (by decide) kw_205 (Or.inl rfl) rfl dX6_clear_13 ?_
  refine mg_istore_n C (lv' := [(3, .int tot), (2, .ref h0), (0, .ref ox), (1, .int (nI a))]) dX6_clear_16 rfl (by decide) rfl ?_
  refine mg_aload_n C dX6_clear_17 rfl ?_
  refine mg_iconst C (v := nI 0) dX6_clear_18 (by decide) ?_
  refine mg_put C (fs' := [.int (nI 4), .int (nI k), .int (nI sd), .int (nI 0), .int (nI mv), .ref ak, .ref al, .ref aw, .int er]) inT3 hh rfl 3 (by decide) kw_205 (Or.inl rfl) tyX3_ok nmX3 rfl rfl rfl rfl (Nat.le_of_ble_eq_true rfl) dX6_clear_19 (fun w2 e_w2 => ?_)
  have h_w2_ox : w2 ox = some (.inr (5, [.ref as, .int (nI md)])) := (congrFun e_w2 _).trans ((mwu_ne (mw_ci hox hh (by decide))).trans hox)
  have h_w2_as : w2 as = some (eR cS 8 g0) := (congrFun e_w2 _).trans ((mwu_ne (mw_ao has hh)).trans has)
  have h_w2_h0 : w2 h0 = some (.inr (3, [.int (nI 4), .int (nI k), .int (nI sd), .int (nI 0), .int (nI mv), .ref ak, .ref al, .ref aw, .int er])) := (congrFun e_w2 _).trans mwu_eq
  have h_w2_ak : w2 ak = some (eI cI (31 * k) f) := (congrFun e_w2 _).trans ((mwu_ne (mw_ao h_ak hh)).trans h_ak)
  have h_w2_al : w2 al = some (eI cI 31 (lnF ln)) := (congrFun e_w2 _).trans ((mwu_ne (mw_ao h_al hh)).trans h_al)
  have h_w2_aw : w2 aw = some (eI cI 31 (lnF tr)) := (congrFun e_w2 _).trans ((mwu_ne (mw_ao h_aw hh)).trans h_aw)
  have fr_w2 : ∀ zz : Nat, zz ≠ h0 → w2 zz = w zz := fun zz g0 => (congrFun e_w2 zz).trans ((mwu_ne g0).trans (fr_w zz ))
  refine mg_aload_n C dX6_clear_22 rfl ?_
  refine mg_iconst C (v := nI 0) dX6_clear_23 (by decide) ?_
  refine mg_put C (fs' := [.int (nI 4), .int (nI k), .int (nI sd), .int (nI 0), .int (nI 0), .ref ak, .ref al, .ref aw, .int er]) inT3 h_w2_h0 rfl 4 (by decide) kw_206 (Or.inl rfl) tyX3_ok nmX3 rfl rfl rfl rfl (Nat.le_of_ble_eq_true rfl) dX6_clear_24 (fun w3 e_w3 => ?_)
  have h_w3_ox : w3 ox = some (.inr (5, [.ref as, .int (nI md)])) := (congrFun e_w3 _).trans ((mwu_ne (mw_ci h_w2_ox h_w2_h0 (by decide))).trans h_w2_ox)
  have h_w3_as : w3 as = some (eR cS 8 g0) := (congrFun e_w3 _).trans ((mwu_ne (mw_ao h_w2_as h_w2_h0)).trans h_w2_as)
  have h_w3_h0 : w3 h0 = some (.inr (3, [.int (nI 4), .int (nI k), .int (nI sd), .int (nI 0), .int (nI 0), .ref ak, .ref al, .ref aw, .int er])) := (congrFun e_w3 _).trans mwu_eq
  have h_w3_ak : w3 ak = some (eI cI (31 * k) f) := (congrFun e_w3 _).trans ((mwu_ne (mw_ao h_w2_ak h_w2_h0)).trans h_w2_ak)
  have h_w3_al : w3 al = some (eI cI 31 (lnF ln)) := (congrFun e_w3 _).trans ((mwu_ne (mw_ao h_w2_al h_w2_h0)).trans h_w2_al)
  have h_w3_aw : w3 aw = some (eI cI 31 (lnF tr)) := (congrFun e_w3 _).trans ((mwu_ne (mw_ao h_w2_aw h_w2_h0)).trans h_w2_aw)
  have fr_w3 : ∀ zz : Nat, zz ≠ h0 → w3 zz = w zz := fun zz g0 => (congrFun e_w3 zz).trans ((mwu_ne g0).trans (fr_w2 zz g0))
  refine mg_aload_n C dX6_clear_27 rfl ?_
  refine mg_callU_v C h_w3_h0 rfl (rest := []) (c_X3_forget D cI cS w3 h0 ak al aw k sd (nI 0) (nI 0) er f ln tr h_w3_h0 h_w3_ak h_w3_al h_w3_aw hd1 hd2 hd3) yq_X3_forget kw_208 kw_209 dq_forget (by decide +kernel) kw_222 kw_221 ⟨by decide, by decide⟩ ⟨Nat.le_of_ble_eq_true rfl, Nat.le_of_ble_eq_true rfl⟩ (Nat.le_of_ble_eq_true rfl) rfl rfl dX6_clear_28 (fun w4 ⟨xc4h0, xc4al, xc4aw, xf4⟩ => ?_)
  have h_w4_ox : w4 ox = some (.inr (5, [.ref as, .int (nI md)])) := (xf4 ox (mw_ci h_w3_ox h_w3_h0 (by decide)) (mw_oa h_w3_ox h_w3_al) (mw_oa h_w3_ox h_w3_aw)).trans h_w3_ox
  have h_w4_as : w4 as = some (eR cS 8 g0) := (xf4 as (mw_ao h_w3_as h_w3_h0) (mw_ri h_w3_as h_w3_al) (mw_ri h_w3_as h_w3_aw)).trans h_w3_as
  have h_w4_ak : w4 ak = some (eI cI (31 * k) f) := (xf4 ak (mw_ao h_w3_ak h_w3_h0) hd1 hd2).trans h_w3_ak
  have fr_w4 : ∀ zz : Nat, zz ≠ h0 → zz ≠ al → zz ≠ aw → w4 zz = w zz := fun zz g0 g1 g2 => (xf4 zz g0 g1 g2).trans (fr_w3 zz g0)
  refine mg_iload_n C dX6_clear_31 rfl ?_
  refine mg_ldc C (v := nI 10000000) dX6_clear_32 kw_207 (by decide) ?_
  refine mg_iadd C (z := tot + (nI 10000000)) dX6_clear_34 rfl ?_
  exact hR _ _ _ _ dX6_clear_35 ⟨rfl, xc4h0, xc4al, xc4aw, fun z q0 q1 q2 => fr_w4 z q0 q1 q2⟩

set_option maxHeartbeats 4000000 in
set_option maxRecDepth 20000 in
theorem c_X6_come_R (D : va_G) (cI cS : ClassId) (w : mwT) (ox as md a : Nat) (g0 : Nat → Option Nat) (h0 ak al aw k sd mv : Nat) (tot er : Int32) (f : Nat → Int32) (ln tr : Nat → Nat) (x n : Int32) (hox : w ox = some (.inr (5, [.ref as, .int (nI md)]))) (has : w as = some (eR cS 8 g0)) (hh : w h0 = some (.inr (3, [.int (nI 4), .int (nI k), .int (nI sd), .int tot, .int (nI mv), .ref ak, .ref al, .ref aw, .int er]))) (h_ak : w ak = some (eI cI (31 * k) f)) (h_al : w al = some (eI cI 31 (lnF ln))) (h_aw : w aw = some (eI cI 31 (lnF tr))) (hmd : md ≤ 8) (ha : a < md) (hg : g0 a = some h0) (hs : sd ≤ 999) (hk1 : 4 ≤ k) (hk2 : k ≤ 32) (hd1 : ak ≠ al) (hd2 : ak ≠ aw) (hd3 : al ≠ aw) (hok : rkOk k (f, ln, tr, er)) (hmv : mv ≤ 10000000) : mMi yX6_come cX6_come 5 (some .int) (rmL 98) [.ref ox, .int (nI a), .int x, .int n] D cI cS w (fun r w1 => (¬ (rg 9999 x ∧ rp 1 100 n) ∧ r = -1 ∧ w1 = w) ∨ (∃ xa cn : Nat, xa ≤ 9999 ∧ x = nI xa ∧ rp 1 100 n ∧ absI n = nI cn ∧ 1 ≤ cn ∧ cn ≤ 1000 ∧ ((10000000 < mv + cn ∧ r = -3 ∧ w1 = w) ∨ (mv + cn ≤ 10000000 ∧ r = tot + n + nI 10000000 ∧ w1 h0 = some (.inr (3, [.int (nI 4), .int (nI k), .int (nI sd), .int (tot + n), .int (nI (mv + cn)), .ref ak, .ref al, .ref aw, .int ((tkR k (nI xa) (f, ln, tr, er) cn).2.2.2)])) ∧ w1 ak = some (eI cI (31 * k) ((tkR k (nI xa) (f, ln, tr, er) cn).1)) ∧ w1 al = some (eI cI 31 (lnF (tkR k (nI xa) (f, ln, tr, er) cn).2.1)) ∧ w1 aw = some (eI cI 31 (lnF (tkR k (nI xa) (f, ln, tr, er) cn).2.2.1)) ∧ ∀ z : Nat, z ≠ h0 → z ≠ ak → z ≠ al → z ≠ aw → w1 z = w z)))) := by
  refine mMi.of (by decide) (Nat.le_of_ble_eq_true rfl) ?_
  intro X C hN hR
  have fr_w : ∀ zz : Nat, w zz = w zz := fun _ => rfl
  refine mg_sub (lv' := [(0, .ref ox), (1, .int (nI a)), (2, .int x), (3, .int n)]) [0, 1, 2, 3] rfl ?_
  refine mg_aload_n C dX6_come_0 rfl ?_
  refine mg_iload_n C dX6_come_1 rfl ?_
  refine mg_callV_q C hox rfl (rest := []) (c_X6_find_in D cI cS w ox as md g0 a hox has hmd ha) yq_X6_find kw_123 kw_124 kw_125 ⟨by decide, by decide⟩ ⟨Nat.le_of_ble_eq_true rfl, Nat.le_of_ble_eq_true rfl⟩ (Nat.le_of_ble_eq_true rfl) rfl rfl dX6_come_2 (fun r1 w1 ⟨xe1, xk1⟩ => ?_)
  rw [xk1, xe1, hg]
  refine mg_astore C (lv' := [(4, .ref h0), (0, .ref ox), (1, .int (nI a)), (2, .int x), (3, .int n)]) dX6_come_5 (by decide) rfl ?_
  refine mg_aload C dX6_come_7 rfl ?_
  refine mg_ifnull C dX6_come_9 ?_
  refine mg_iload_n C dX6_come_12 rfl ?_
  refine mg_callS_i C (rest := []) (c_X6_isKey D cI cS w x) yq_X6_isKey kw_240 kw_241 ⟨by decide, by decide⟩ ⟨Nat.le_of_ble_eq_true rfl, Nat.le_of_ble_eq_true rfl⟩ (Nat.le_of_ble_eq_true rfl) rfl rfl dX6_come_13 (fun r2 w2 ⟨xa2, xk2⟩ => ?_)
  rw [xk2]
  rcases xa2 with ⟨ra2, hy_key⟩ | ⟨ra2, hy_key⟩
  · rw [ra2]
    obtain ⟨xa, hxa, rfl⟩ := hy_key
    refine mg_ifN_eq C (tgt := 28) dX6_come_16 (by decide) (by decide) (fun c_16 => absurd c_16 (by decide)) (fun c_16 => ?_)
    refine mg_aload C dX6_come_19 rfl ?_
    refine mg_iload_n C dX6_come_21 rfl ?_
    refine mg_callU_i C hh rfl (rest := []) (c_X3_mayTake D cI cS w h0 n) yq_X3_mayTake kw_243 kw_244 dq_mayTake (by decide +kernel) kw_252 kw_251 ⟨by decide, by decide⟩ ⟨Nat.le_of_ble_eq_true rfl, Nat.le_of_ble_eq_true rfl⟩ (Nat.le_of_ble_eq_true rfl) rfl rfl dX6_come_22 (fun r3 w3 ⟨xa3, xk3⟩ => ?_)
    rw [xk3]
    rcases xa3 with ⟨ra3, hy_may⟩ | ⟨ra3, hy_may⟩
    · rw [ra3]
      obtain ⟨cn, hc3, hc4, rfl⟩ := hy_may
      have hca : absI (nI cn) = nI cn := abs_nI (by omega)
      refine mg_ifN_ne C (tgt := 30) dX6_come_25 (by decide) (by decide) (fun c_25 => ?_) (fun c_25 => absurd c_25 (by decide))
      refine mg_aload C dX6_come_30 rfl ?_
      refine mg_get C inT3 hh rfl 4 (by decide) kw_206 (Or.inl rfl) rfl dX6_come_32 ?_
      refine mg_iload_n C dX6_come_35 rfl ?_
      refine mg_mabs C (z := nI cn) dX6_come_36 kw_236 ⟨Nat.le_of_ble_eq_true rfl, Nat.le_of_ble_eq_true rfl⟩ ⟨by decide, by decide⟩ hca ?_
      refine mg_iadd C (z := nI (mv + cn)) dX6_come_39 (nI_add _ _) ?_
      refine mg_ldc C (v := nI 10000000) dX6_come_40 kw_207 (by decide) ?_
      refine mg_icmpN_le C (tgt := 48) dX6_come_42 (by decide) (by omega) (by omega) (fun c_42 => ?_) (fun c_42 => ?_)
      · refine mg_aload C dX6_come_48 rfl ?_
        refine mg_dup C dX6_come_50 rfl ?_
        refine mg_get C inT3 hh rfl 3 (by decide) kw_205 (Or.inl rfl) rfl dX6_come_51 ?_
        refine mg_iload_n C dX6_come_54 rfl ?_
        refine mg_iadd C (z := tot + (nI cn)) dX6_come_55 rfl ?_
        refine mg_put C (fs' := [.int (nI 4), .int (nI k), .int (nI sd), .int (tot + (nI cn)), .int (nI mv), .ref ak, .ref al, .ref aw, .int er]) inT3 hh rfl 3 (by decide) kw_205 (Or.inl rfl) tyX3_ok nmX3 rfl rfl rfl rfl (Nat.le_of_ble_eq_true rfl) dX6_come_56 (fun w4 e_w4 => ?_)
        have h_w4_ox : w4 ox = some (.inr (5, [.ref as, .int (nI md)])) := (congrFun e_w4 _).trans ((mwu_ne (mw_ci hox hh (by decide))).trans hox)
        have h_w4_as : w4 as = some (eR cS 8 g0) := (congrFun e_w4 _).trans ((mwu_ne (mw_ao has hh)).trans has)
        have h_w4_h0 : w4 h0 = some (.inr (3, [.int (nI 4), .int (nI k), .int (nI sd), .int (tot + (nI cn)), .int (nI mv), .ref ak, .ref al, .ref aw, .int er])) := (congrFun e_w4 _).trans mwu_eq
        have h_w4_ak : w4 ak = some (eI cI (31 * k) f) := (congrFun e_w4 _).trans ((mwu_ne (mw_ao h_ak hh)).trans h_ak)
        have h_w4_al : w4 al = some (eI cI 31 (lnF ln)) := (congrFun e_w4 _).trans ((mwu_ne (mw_ao h_al hh)).trans h_al)
        have h_w4_aw : w4 aw = some (eI cI 31 (lnF tr)) := (congrFun e_w4 _).trans ((mwu_ne (mw_ao h_aw hh)).trans h_aw)
        have fr_w4 : ∀ zz : Nat, zz ≠ h0 → w4 zz = w zz := fun zz g0 => (congrFun e_w4 zz).trans ((mwu_ne g0).trans (fr_w zz ))
        refine mg_aload C dX6_come_59 rfl ?_
        refine mg_dup C dX6_come_61 rfl ?_
        refine mg_get C inT3 h_w4_h0 rfl 4 (by decide) kw_206 (Or.inl rfl) rfl dX6_come_62 ?_
        refine mg_iload_n C dX6_come_65 rfl ?_
        refine mg_mabs C (z := nI cn) dX6_come_66 kw_236 ⟨Nat.le_of_ble_eq_true rfl, Nat.le_of_ble_eq_true rfl⟩ ⟨by decide, by decide⟩ hca ?_
        refine mg_iadd C (z := nI (mv + cn)) dX6_come_69 (nI_add _ _) ?_
        refine mg_put C (fs' := [.int (nI 4), .int (nI k), .int (nI sd), .int (tot + (nI cn)), .int (nI (mv + cn)), .ref ak, .ref al, .ref aw, .int er]) inT3 h_w4_h0 rfl 4 (by decide) kw_206 (Or.inl rfl) tyX3_ok nmX3 rfl rfl rfl rfl (Nat.le_of_ble_eq_true rfl) dX6_come_70 (fun w5 e_w5 => ?_)
        have h_w5_ox : w5 ox = some (.inr (5, [.ref as, .int (nI md)])) := (congrFun e_w5 _).trans ((mwu_ne (mw_ci h_w4_ox h_w4_h0 (by decide))).trans h_w4_ox)
        have h_w5_as : w5 as = some (eR cS 8 g0) := (congrFun e_w5 _).trans ((mwu_ne (mw_ao h_w4_as h_w4_h0)).trans h_w4_as)
        have h_w5_h0 : w5 h0 = some (.inr (3, [.int (nI 4), .int (nI k), .int (nI sd), .int (tot + (nI cn)), .int (nI (mv + cn)), .ref ak, .ref al, .ref aw, .int er])) := (congrFun e_w5 _).trans mwu_eq
        have h_w5_ak : w5 ak = some (eI cI (31 * k) f) := (congrFun e_w5 _).trans ((mwu_ne (mw_ao h_w4_ak h_w4_h0)).trans h_w4_ak)
        have h_w5_al : w5 al = some (eI cI 31 (lnF ln)) := (congrFun e_w5 _).trans ((mwu_ne (mw_ao h_w4_al h_w4_h0)).trans h_w4_al)
        have h_w5_aw : w5 aw = some (eI cI 31 (lnF tr)) := (congrFun e_w5 _).trans ((mwu_ne (mw_ao h_w4_aw h_w4_h0)).trans h_w4_aw)
        have fr_w5 : ∀ zz : Nat, zz ≠ h0 → w5 zz = w zz := fun zz g0 => (congrFun e_w5 zz).trans ((mwu_ne g0).trans (fr_w4 zz g0))
        refine mg_aload C dX6_come_73 rfl ?_
        refine mg_iload_n C dX6_come_75 rfl ?_
        refine mg_iload_n C dX6_come_76 rfl ?_
        refine mg_callU_v C h_w5_h0 rfl (rest := []) (c_X3_take D cI cS w5 h0 ak al aw k sd (tot + nI cn) (nI (mv + cn)) er f ln tr (nI xa) cn h_w5_h0 h_w5_ak h_w5_al h_w5_aw hk1 hk2 hd1 hd2 hd3 hok (by omega)) yq_X3_take kw_257 kw_258 dq_take (by decide +kernel) kw_299 kw_298 ⟨by decide, by decide⟩ ⟨Nat.le_of_ble_eq_true rfl, Nat.le_of_ble_eq_true rfl⟩ (Nat.le_of_ble_eq_true rfl) rfl rfl dX6_come_77 (fun w6 ⟨xc6h0, xc6ak, xc6al, xc6aw, xf6⟩ => ?_)
        have h_w6_ox : w6 ox = some (.inr (5, [.ref as, .int (nI md)])) := (xf6 ox (mw_ci h_w5_ox h_w5_h0 (by decide)) (mw_oa h_w5_ox h_w5_ak) (mw_oa h_w5_ox h_w5_al) (mw_oa h_w5_ox h_w5_aw)).trans h_w5_ox
        have h_w6_as : w6 as = some (eR cS 8 g0) := (xf6 as (mw_ao h_w5_as h_w5_h0) (mw_ri h_w5_as h_w5_ak) (mw_ri h_w5_as h_w5_al) (mw_ri h_w5_as h_w5_aw)).trans h_w5_as
        have fr_w6 : ∀ zz : Nat, zz ≠ h0 → zz ≠ ak → zz ≠ al → zz ≠ aw → w6 zz = w zz := fun zz g0 g1 g2 g3 => (xf6 zz g0 g1 g2 g3).trans (fr_w5 zz g0)
        refine mg_aload C dX6_come_80 rfl ?_
        refine mg_get C inT3 xc6h0 rfl 3 (by decide) kw_205 (Or.inl rfl) rfl dX6_come_82 ?_
        refine mg_ldc C (v := nI 10000000) dX6_come_85 kw_207 (by decide) ?_
        refine mg_iadd C (z := (tot + nI cn) + (nI 10000000)) dX6_come_87 rfl ?_
        exact hR _ _ _ _ dX6_come_88 (Or.inr ⟨xa, cn, hxa, rfl, ⟨cn, hc3, hc4, rfl⟩, hca, hc3, (by omega), Or.inr ⟨c_42, rfl, xc6h0, xc6ak, xc6al, xc6aw, fun z q0 q1 q2 q3 => fr_w6 z q0 q1 q2 q3⟩⟩)
      · refine mg_bipush C (v := (-3 : Int32)) dX6_come_45 (by decide) ?_
        exact hR _ _ _ _ dX6_come_47 (Or.inr ⟨xa, cn, hxa, rfl, ⟨cn, hc3, hc4, rfl⟩, hca, hc3, (by omega), Or.inl ⟨c_42, rfl, rfl⟩⟩)
    · rw [ra3]
      refine mg_ifN_ne C (tgt := 30) dX6_come_25 (by decide) (by decide) (fun c_25 => absurd c_25 (by decide)) (fun c_25 => ?_)
      refine mg_iconst C (v := (-1 : Int32)) dX6_come_28 (by decide) ?_
      exact hR _ _ _ _ dX6_come_29 (Or.inl ⟨fun q => hy_may q.2, rfl, rfl⟩)
  · rw [ra2]
    refine mg_ifN_eq C (tgt := 28) dX6_come_16 (by decide) (by decide) (fun c_16 => ?_) (fun c_16 => absurd c_16 (by decide))
    refine mg_iconst C (v := (-1 : Int32)) dX6_come_28 (by decide) ?_
    exact hR _ _ _ _ dX6_come_29 (Or.inl ⟨fun q => hy_key q.1, rfl, rfl⟩)
