set_option maxHeartbeats 4000000 in
set_option maxRecDepth 20000 in
theorem c_X6_keep_F (D : va_G) (cI cS : ClassId) (w : mwT) (ox as md q : Nat) (g0 : Nat → Option Nat) (y0 y1 y2 y3 y4 y5 : Value) (hox : w ox = some (.inr (5, [.ref as, .int (nI md)]))) (has : w as = some (eR cS 8 g0)) (hq : w q = some (.inr (0, [y0, y1, y2, y3, y4, y5]))) (hmd : md < 8) : mMi yX6_keep cX6_keep 2 (some .int) (rmL 1) [.ref ox, .ref q] D cI cS w (fun r w1 => r = nI md ∧ w1 ox = some (.inr (5, [.ref as, .int (nI (md + 1))])) ∧ w1 as = some (eR cS 8 (va_up g0 md (some q))) ∧ ∀ z : Nat, z ≠ ox → z ≠ as → w1 z = w z) := by
  refine mMi.of (by decide) (Nat.le_of_ble_eq_true rfl) ?_
  intro X C hN hR
  have fr_w : ∀ zz : Nat, w zz = w zz := fun _ => rfl
  refine mg_sub (lv' := [(0, .ref ox), (1, .ref q)]) [0, 1] rfl ?_
  refine mg_aload_n C dX6_keep_0 rfl ?_
  refine mg_get C inT6 hox rfl 1 (by decide) kw_14 (Or.inl rfl) rfl dX6_keep_1 ?_
  refine mg_aload_n C dX6_keep_4 rfl ?_
  refine mg_get C inT6 hox rfl 0 (by decide) kw_13 (Or.inl rfl) rfl dX6_keep_5 ?_
  refine mg_alenR C has dX6_keep_8 ?_
  refine mg_icmpN_lt C (tgt := 15) dX6_keep_9 (by decide) (by omega) (by omega) (fun c_9 => ?_) (fun c_9 => absurd c_9 (by omega))
  refine mg_aload_n C dX6_keep_15 rfl ?_
  refine mg_get C inT6 hox rfl 0 (by decide) kw_13 (Or.inl rfl) rfl dX6_keep_16 ?_
  refine mg_aload_n C dX6_keep_19 rfl ?_
  refine mg_get C inT6 hox rfl 1 (by decide) kw_14 (Or.inl rfl) rfl dX6_keep_20 ?_
  refine mg_aload_n C dX6_keep_23 rfl ?_
  refine mg_aast C has hq rfl kn_29 (by omega) (by omega) dX6_keep_24 (fun w1 e_w1 => ?_)
  have h_w1_ox : w1 ox = some (.inr (5, [.ref as, .int (nI md)])) := (congrFun e_w1 _).trans ((mwu_ne (mw_oa hox has)).trans hox)
  have h_w1_as : w1 as = some (eR cS 8 (va_up g0 md (some q))) := (congrFun e_w1 _).trans mwu_eq
  have h_w1_q : w1 q = some (.inr (0, [y0, y1, y2, y3, y4, y5])) := (congrFun e_w1 _).trans ((mwu_ne (mw_oa hq has)).trans hq)
  have fr_w1 : ∀ zz : Nat, zz ≠ as → w1 zz = w zz := fun zz g0 => (congrFun e_w1 zz).trans ((mwu_ne g0).trans (fr_w zz ))
  refine mg_aload_n C dX6_keep_25 rfl ?_
  refine mg_dup C dX6_keep_26 rfl ?_
  refine mg_get C inT6 h_w1_ox rfl 1 (by decide) kw_14 (Or.inl rfl) rfl dX6_keep_27 ?_
  refine mg_iconst C (v := nI 1) dX6_keep_30 (by decide) ?_
  refine mg_iadd C (z := nI (md + 1)) dX6_keep_31 (nI_add _ _) ?_
  refine mg_put C (fs' := [.ref as, .int (nI (md + 1))]) inT6 h_w1_ox rfl 1 (by decide) kw_14 (Or.inl rfl) tyX6_ok nmX6 rfl rfl rfl rfl (Nat.le_of_ble_eq_true rfl) dX6_keep_32 (fun w2 e_w2 => ?_)
  have h_w2_ox : w2 ox = some (.inr (5, [.ref as, .int (nI (md + 1))])) := (congrFun e_w2 _).trans mwu_eq
  have h_w2_as : w2 as = some (eR cS 8 (va_up g0 md (some q))) := (congrFun e_w2 _).trans ((mwu_ne (mw_ao h_w1_as h_w1_ox)).trans h_w1_as)
  have h_w2_q : w2 q = some (.inr (0, [y0, y1, y2, y3, y4, y5])) := (congrFun e_w2 _).trans ((mwu_ne (Ne.symm (mw_ci hox hq (by decide)))).trans h_w1_q)
  have fr_w2 : ∀ zz : Nat, zz ≠ as → zz ≠ ox → w2 zz = w zz := fun zz g0 g1 => (congrFun e_w2 zz).trans ((mwu_ne g1).trans (fr_w1 zz g0))
  refine mg_aload_n C dX6_keep_35 rfl ?_
  refine mg_get C inT6 h_w2_ox rfl 1 (by decide) kw_14 (Or.inl rfl) rfl dX6_keep_36 ?_
  refine mg_iconst C (v := nI 1) dX6_keep_39 (by decide) ?_
  refine mg_isub C (z := nI md) dX6_keep_40 ((ni_sub (by omega)).trans rfl) ?_
  exact hR _ _ _ _ dX6_keep_41 ⟨rfl, h_w2_ox, h_w2_as, fun z q0 q1 => fr_w2 z q1 q0⟩

set_option maxHeartbeats 4000000 in
set_option maxRecDepth 20000 in
theorem c_X6_keep_T (D : va_G) (cI cS : ClassId) (w : mwT) (ox as md q : Nat) (g0 : Nat → Option Nat) (y0 y1 y2 y3 y4 y5 : Value) (hox : w ox = some (.inr (5, [.ref as, .int (nI md)]))) (has : w as = some (eR cS 8 g0)) (hq : w q = some (.inr (4, [y0, y1, y2, y3, y4, y5]))) (hmd : md < 8) : mMi yX6_keep cX6_keep 2 (some .int) (rmL 1) [.ref ox, .ref q] D cI cS w (fun r w1 => r = nI md ∧ w1 ox = some (.inr (5, [.ref as, .int (nI (md + 1))])) ∧ w1 as = some (eR cS 8 (va_up g0 md (some q))) ∧ ∀ z : Nat, z ≠ ox → z ≠ as → w1 z = w z) := by
  refine mMi.of (by decide) (Nat.le_of_ble_eq_true rfl) ?_
  intro X C hN hR
  have fr_w : ∀ zz : Nat, w zz = w zz := fun _ => rfl
  refine mg_sub (lv' := [(0, .ref ox), (1, .ref q)]) [0, 1] rfl ?_
  refine mg_aload_n C dX6_keep_0 rfl ?_
  refine mg_get C inT6 hox rfl 1 (by decide) kw_14 (Or.inl rfl) rfl dX6_keep_1 ?_
  refine mg_aload_n C dX6_keep_4 rfl ?_
  refine mg_get C inT6 hox rfl 0 (by decide) kw_13 (Or.inl rfl) rfl dX6_keep_5 ?_
  refine mg_alenR C has dX6_keep_8 ?_
  refine mg_icmpN_lt C (tgt := 15) dX6_keep_9 (by decide) (by omega) (by omega) (fun c_9 => ?_) (fun c_9 => absurd c_9 (by omega))
  refine mg_aload_n C dX6_keep_15 rfl ?_
  refine mg_get C inT6 hox rfl 0 (by decide) kw_13 (Or.inl rfl) rfl dX6_keep_16 ?_
  refine mg_aload_n C dX6_keep_19 rfl ?_
  refine mg_get C inT6 hox rfl 1 (by decide) kw_14 (Or.inl rfl) rfl dX6_keep_20 ?_
  refine mg_aload_n C dX6_keep_23 rfl ?_
  refine mg_aast C has hq rfl kn_33 (by omega) (by omega) dX6_keep_24 (fun w1 e_w1 => ?_)
  have h_w1_ox : w1 ox = some (.inr (5, [.ref as, .int (nI md)])) := (congrFun e_w1 _).trans ((mwu_ne (mw_oa hox has)).trans hox)
  have h_w1_as : w1 as = some (eR cS 8 (va_up g0 md (some q))) := (congrFun e_w1 _).trans mwu_eq
  have h_w1_q : w1 q = some (.inr (4, [y0, y1, y2, y3, y4, y5])) := (congrFun e_w1 _).trans ((mwu_ne (mw_oa hq has)).trans hq)
  have fr_w1 : ∀ zz : Nat, zz ≠ as → w1 zz = w zz := fun zz g0 => (congrFun e_w1 zz).trans ((mwu_ne g0).trans (fr_w zz ))
  refine mg_aload_n C dX6_keep_25 rfl ?_
  refine mg_dup C dX6_keep_26 rfl ?_
  refine mg_get C inT6 h_w1_ox rfl 1 (by decide) kw_14 (Or.inl rfl) rfl dX6_keep_27 ?_
  refine mg_iconst C (v := nI 1) dX6_keep_30 (by decide) ?_
  refine mg_iadd C (z := nI (md + 1)) dX6_keep_31 (nI_add _ _) ?_
  refine mg_put C (fs' := [.ref as, .int (nI (md + 1))]) inT6 h_w1_ox rfl 1 (by decide) kw_14 (Or.inl rfl) tyX6_ok nmX6 rfl rfl rfl rfl (Nat.le_of_ble_eq_true rfl) dX6_keep_32 (fun w2 e_w2 => ?_)
  have h_w2_ox : w2 ox = some (.inr (5, [.ref as, .int (nI (md + 1))])) := (congrFun e_w2 _).trans mwu_eq
  have h_w2_as : w2 as = some (eR cS 8 (va_up g0 md (some q))) := (congrFun e_w2 _).trans ((mwu_ne (mw_ao h_w1_as h_w1_ox)).trans h_w1_as)
  have h_w2_q : w2 q = some (.inr (4, [y0, y1, y2, y3, y4, y5])) := (congrFun e_w2 _).trans ((mwu_ne (Ne.symm (mw_ci hox hq (by decide)))).trans h_w1_q)
  have fr_w2 : ∀ zz : Nat, zz ≠ as → zz ≠ ox → w2 zz = w zz := fun zz g0 g1 => (congrFun e_w2 zz).trans ((mwu_ne g1).trans (fr_w1 zz g0))
  refine mg_aload_n C dX6_keep_35 rfl ?_
  refine mg_get C inT6 h_w2_ox rfl 1 (by decide) kw_14 (Or.inl rfl) rfl dX6_keep_36 ?_
  refine mg_iconst C (v := nI 1) dX6_keep_39 (by decide) ?_
  refine mg_isub C (z := nI md) dX6_keep_40 ((ni_sub (by omega)).trans rfl) ?_
  exact hR _ _ _ _ dX6_keep_41 ⟨rfl, h_w2_ox, h_w2_as, fun z q0 q1 => fr_w2 z q1 q0⟩

set_option maxHeartbeats 4000000 in
set_option maxRecDepth 20000 in
theorem c_X6_keep_L (D : va_G) (cI cS : ClassId) (w : mwT) (ox as md q : Nat) (g0 : Nat → Option Nat) (y0 y1 y2 y3 y4 y5 y6 : Value) (hox : w ox = some (.inr (5, [.ref as, .int (nI md)]))) (has : w as = some (eR cS 8 g0)) (hq : w q = some (.inr (2, [y0, y1, y2, y3, y4, y5, y6]))) (hmd : md < 8) : mMi yX6_keep cX6_keep 2 (some .int) (rmL 1) [.ref ox, .ref q] D cI cS w (fun r w1 => r = nI md ∧ w1 ox = some (.inr (5, [.ref as, .int (nI (md + 1))])) ∧ w1 as = some (eR cS 8 (va_up g0 md (some q))) ∧ ∀ z : Nat, z ≠ ox → z ≠ as → w1 z = w z) := by
  refine mMi.of (by decide) (Nat.le_of_ble_eq_true rfl) ?_
  intro X C hN hR
  have fr_w : ∀ zz : Nat, w zz = w zz := fun _ => rfl
  refine mg_sub (lv' := [(0, .ref ox), (1, .ref q)]) [0, 1] rfl ?_
  refine mg_aload_n C dX6_keep_0 rfl ?_
  refine mg_get C inT6 hox rfl 1 (by decide) kw_14 (Or.inl rfl) rfl dX6_keep_1 ?_
  refine mg_aload_n C dX6_keep_4 rfl ?_
  refine mg_get C inT6 hox rfl 0 (by decide) kw_13 (Or.inl rfl) rfl dX6_keep_5 ?_
  refine mg_alenR C has dX6_keep_8 ?_
  refine mg_icmpN_lt C (tgt := 15) dX6_keep_9 (by decide) (by omega) (by omega) (fun c_9 => ?_) (fun c_9 => absurd c_9 (by omega))
  refine mg_aload_n C dX6_keep_15 rfl ?_
  refine mg_get C inT6 hox rfl 0 (by decide) kw_13 (Or.inl rfl) rfl dX6_keep_16 ?_
  refine mg_aload_n C dX6_keep_19 rfl ?_
  refine mg_get C inT6 hox rfl 1 (by decide) kw_14 (Or.inl rfl) rfl dX6_keep_20 ?_
  refine mg_aload_n C dX6_keep_23 rfl ?_
  refine mg_aast C has hq rfl kn_31 (by omega) (by omega) dX6_keep_24 (fun w1 e_w1 => ?_)
  have h_w1_ox : w1 ox = some (.inr (5, [.ref as, .int (nI md)])) := (congrFun e_w1 _).trans ((mwu_ne (mw_oa hox has)).trans hox)
  have h_w1_as : w1 as = some (eR cS 8 (va_up g0 md (some q))) := (congrFun e_w1 _).trans mwu_eq
  have h_w1_q : w1 q = some (.inr (2, [y0, y1, y2, y3, y4, y5, y6])) := (congrFun e_w1 _).trans ((mwu_ne (mw_oa hq has)).trans hq)
  have fr_w1 : ∀ zz : Nat, zz ≠ as → w1 zz = w zz := fun zz g0 => (congrFun e_w1 zz).trans ((mwu_ne g0).trans (fr_w zz ))
  refine mg_aload_n C dX6_keep_25 rfl ?_
  refine mg_dup C dX6_keep_26 rfl ?_
  refine mg_get C inT6 h_w1_ox rfl 1 (by decide) kw_14 (Or.inl rfl) rfl dX6_keep_27 ?_
  refine mg_iconst C (v := nI 1) dX6_keep_30 (by decide) ?_
  refine mg_iadd C (z := nI (md + 1)) dX6_keep_31 (nI_add _ _) ?_
  refine mg_put C (fs' := [.ref as, .int (nI (md + 1))]) inT6 h_w1_ox rfl 1 (by decide) kw_14 (Or.inl rfl) tyX6_ok nmX6 rfl rfl rfl rfl (Nat.le_of_ble_eq_true rfl) dX6_keep_32 (fun w2 e_w2 => ?_)
  have h_w2_ox : w2 ox = some (.inr (5, [.ref as, .int (nI (md + 1))])) := (congrFun e_w2 _).trans mwu_eq
  have h_w2_as : w2 as = some (eR cS 8 (va_up g0 md (some q))) := (congrFun e_w2 _).trans ((mwu_ne (mw_ao h_w1_as h_w1_ox)).trans h_w1_as)
  have h_w2_q : w2 q = some (.inr (2, [y0, y1, y2, y3, y4, y5, y6])) := (congrFun e_w2 _).trans ((mwu_ne (Ne.symm (mw_ci hox hq (by decide)))).trans h_w1_q)
  have fr_w2 : ∀ zz : Nat, zz ≠ as → zz ≠ ox → w2 zz = w zz := fun zz g0 g1 => (congrFun e_w2 zz).trans ((mwu_ne g1).trans (fr_w1 zz g0))
  refine mg_aload_n C dX6_keep_35 rfl ?_
  refine mg_get C inT6 h_w2_ox rfl 1 (by decide) kw_14 (Or.inl rfl) rfl dX6_keep_36 ?_
  refine mg_iconst C (v := nI 1) dX6_keep_39 (by decide) ?_
  refine mg_isub C (z := nI md) dX6_keep_40 ((ni_sub (by omega)).trans rfl) ?_
  exact hR _ _ _ _ dX6_keep_41 ⟨rfl, h_w2_ox, h_w2_as, fun z q0 q1 => fr_w2 z q1 q0⟩

set_option maxHeartbeats 4000000 in
set_option maxRecDepth 20000 in
theorem c_X6_keep_H (D : va_G) (cI cS : ClassId) (w : mwT) (ox as md q : Nat) (g0 : Nat → Option Nat) (y0 y1 y2 y3 y4 y5 y6 y7 y8 : Value) (hox : w ox = some (.inr (5, [.ref as, .int (nI md)]))) (has : w as = some (eR cS 8 g0)) (hq : w q = some (.inr (1, [y0, y1, y2, y3, y4, y5, y6, y7, y8]))) (hmd : md < 8) : mMi yX6_keep cX6_keep 2 (some .int) (rmL 1) [.ref ox, .ref q] D cI cS w (fun r w1 => r = nI md ∧ w1 ox = some (.inr (5, [.ref as, .int (nI (md + 1))])) ∧ w1 as = some (eR cS 8 (va_up g0 md (some q))) ∧ ∀ z : Nat, z ≠ ox → z ≠ as → w1 z = w z) := by
  refine mMi.of (by decide) (Nat.le_of_ble_eq_true rfl) ?_
  intro X C hN hR
  have fr_w : ∀ zz : Nat, w zz = w zz := fun _ => rfl
  refine mg_sub (lv' := [(0, .ref ox), (1, .ref q)]) [0, 1] rfl ?_
  refine mg_aload_n C dX6_keep_0 rfl ?_
  refine mg_get C inT6 hox rfl 1 (by decide) kw_14 (Or.inl rfl) rfl dX6_keep_1 ?_
  refine mg_aload_n C dX6_keep_4 rfl ?_
  refine mg_get C inT6 hox rfl 0 (by decide) kw_13 (Or.inl rfl) rfl dX6_keep_5 ?_
  refine mg_alenR C has dX6_keep_8 ?_
  refine mg_icmpN_lt C (tgt := 15) dX6_keep_9 (by decide) (by omega) (by omega) (fun c_9 => ?_) (fun c_9 => absurd c_9 (by omega))
  refine mg_aload_n C dX6_keep_15 rfl ?_
  refine mg_get C inT6 hox rfl 0 (by decide) kw_13 (Or.inl rfl) rfl dX6_keep_16 ?_
  refine mg_aload_n C dX6_keep_19 rfl ?_
  refine mg_get C inT6 hox rfl 1 (by decide) kw_14 (Or.inl rfl) rfl dX6_keep_20 ?_
  refine mg_aload_n C dX6_keep_23 rfl ?_
  refine mg_aast C has hq rfl kn_30 (by omega) (by omega) dX6_keep_24 (fun w1 e_w1 => ?_)
  have h_w1_ox : w1 ox = some (.inr (5, [.ref as, .int (nI md)])) := (congrFun e_w1 _).trans ((mwu_ne (mw_oa hox has)).trans hox)
  have h_w1_as : w1 as = some (eR cS 8 (va_up g0 md (some q))) := (congrFun e_w1 _).trans mwu_eq
  have h_w1_q : w1 q = some (.inr (1, [y0, y1, y2, y3, y4, y5, y6, y7, y8])) := (congrFun e_w1 _).trans ((mwu_ne (mw_oa hq has)).trans hq)
  have fr_w1 : ∀ zz : Nat, zz ≠ as → w1 zz = w zz := fun zz g0 => (congrFun e_w1 zz).trans ((mwu_ne g0).trans (fr_w zz ))
  refine mg_aload_n C dX6_keep_25 rfl ?_
  refine mg_dup C dX6_keep_26 rfl ?_
  refine mg_get C inT6 h_w1_ox rfl 1 (by decide) kw_14 (Or.inl rfl) rfl dX6_keep_27 ?_
  refine mg_iconst C (v := nI 1) dX6_keep_30 (by decide) ?_
  refine mg_iadd C (z := nI (md + 1)) dX6_keep_31 (nI_add _ _) ?_
  refine mg_put C (fs' := [.ref as, .int (nI (md + 1))]) inT6 h_w1_ox rfl 1 (by decide) kw_14 (Or.inl rfl) tyX6_ok nmX6 rfl rfl rfl rfl (Nat.le_of_ble_eq_true rfl) dX6_keep_32 (fun w2 e_w2 => ?_)
  have h_w2_ox : w2 ox = some (.inr (5, [.ref as, .int (nI (md + 1))])) := (congrFun e_w2 _).trans mwu_eq
  have h_w2_as : w2 as = some (eR cS 8 (va_up g0 md (some q))) := (congrFun e_w2 _).trans ((mwu_ne (mw_ao h_w1_as h_w1_ox)).trans h_w1_as)
  have h_w2_q : w2 q = some (.inr (1, [y0, y1, y2, y3, y4, y5, y6, y7, y8])) := (congrFun e_w2 _).trans ((mwu_ne (Ne.symm (mw_ci hox hq (by decide)))).trans h_w1_q)
  have fr_w2 : ∀ zz : Nat, zz ≠ as → zz ≠ ox → w2 zz = w zz := fun zz g0 g1 => (congrFun e_w2 zz).trans ((mwu_ne g1).trans (fr_w1 zz g0))
  refine mg_aload_n C dX6_keep_35 rfl ?_
  refine mg_get C inT6 h_w2_ox rfl 1 (by decide) kw_14 (Or.inl rfl) rfl dX6_keep_36 ?_
  refine mg_iconst C (v := nI 1) dX6_keep_39 (by decide) ?_
  refine mg_isub C (z := nI md) dX6_keep_40 ((ni_sub (by omega)).trans rfl) ?_
  exact hR _ _ _ _ dX6_keep_41 ⟨rfl, h_w2_ox, h_w2_as, fun z q0 q1 => fr_w2 z q1 q0⟩

set_option maxHeartbeats 4000000 in
set_option maxRecDepth 20000 in
theorem c_X6_keep_R (D : va_G) (cI cS : ClassId) (w : mwT) (ox as md q : Nat) (g0 : Nat → Option Nat) (y0 y1 y2 y3 y4 y5 y6 y7 y8 : Value) (hox : w ox = some (.inr (5, [.ref as, .int (nI md)]))) (has : w as = some (eR cS 8 g0)) (hq : w q = some (.inr (3, [y0, y1, y2, y3, y4, y5, y6, y7, y8]))) (hmd : md < 8) : mMi yX6_keep cX6_keep 2 (some .int) (rmL 1) [.ref ox, .ref q] D cI cS w (fun r w1 => r = nI md ∧ w1 ox = some (.inr (5, [.ref as, .int (nI (md + 1))])) ∧ w1 as = some (eR cS 8 (va_up g0 md (some q))) ∧ ∀ z : Nat, z ≠ ox → z ≠ as → w1 z = w z) := by
  refine mMi.of (by decide) (Nat.le_of_ble_eq_true rfl) ?_
  intro X C hN hR
  have fr_w : ∀ zz : Nat, w zz = w zz := fun _ => rfl
  refine mg_sub (lv' := [(0, .ref ox), (1, .ref q)]) [0, 1] rfl ?_
  refine mg_aload_n C dX6_keep_0 rfl ?_
  refine mg_get C inT6 hox rfl 1 (by decide) kw_14 (Or.inl rfl) rfl dX6_keep_1 ?_
  refine mg_aload_n C dX6_keep_4 rfl ?_
  refine mg_get C inT6 hox rfl 0 (by decide) kw_13 (Or.inl rfl) rfl dX6_keep_5 ?_
  refine mg_alenR C has dX6_keep_8 ?_
  refine mg_icmpN_lt C (tgt := 15) dX6_keep_9 (by decide) (by omega) (by omega) (fun c_9 => ?_) (fun c_9 => absurd c_9 (by omega))
  refine mg_aload_n C dX6_keep_15 rfl ?_
  refine mg_get C inT6 hox rfl 0 (by decide) kw_13 (Or.inl rfl) rfl dX6_keep_16 ?_
  refine mg_aload_n C dX6_keep_19 rfl ?_
  refine mg_get C inT6 hox rfl 1 (by decide) kw_14 (Or.inl rfl) rfl dX6_keep_20 ?_
  refine mg_aload_n C dX6_keep_23 rfl ?_
  refine mg_aast C has hq rfl kn_32 (by omega) (by omega) dX6_keep_24 (fun w1 e_w1 => ?_)
  have h_w1_ox : w1 ox = some (.inr (5, [.ref as, .int (nI md)])) := (congrFun e_w1 _).trans ((mwu_ne (mw_oa hox has)).trans hox)
  have h_w1_as : w1 as = some (eR cS 8 (va_up g0 md (some q))) := (congrFun e_w1 _).trans mwu_eq
  have h_w1_q : w1 q = some (.inr (3, [y0, y1, y2, y3, y4, y5, y6, y7, y8])) := (congrFun e_w1 _).trans ((mwu_ne (mw_oa hq has)).trans hq)
  have fr_w1 : ∀ zz : Nat, zz ≠ as → w1 zz = w zz := fun zz g0 => (congrFun e_w1 zz).trans ((mwu_ne g0).trans (fr_w zz ))
  refine mg_aload_n C dX6_keep_25 rfl ?_
  refine mg_dup C dX6_keep_26 rfl ?_
  refine mg_get C inT6 h_w1_ox rfl 1 (by decide) kw_14 (Or.inl rfl) rfl dX6_keep_27 ?_
  refine mg_iconst C (v := nI 1) dX6_keep_30 (by decide) ?_
  refine mg_iadd C (z := nI (md + 1)) dX6_keep_31 (nI_add _ _) ?_
  refine mg_put C (fs' := [.ref as, .int (nI (md + 1))]) inT6 h_w1_ox rfl 1 (by decide) kw_14 (Or.inl rfl) tyX6_ok nmX6 rfl rfl rfl rfl (Nat.le_of_ble_eq_true rfl) dX6_keep_32 (fun w2 e_w2 => ?_)
  have h_w2_ox : w2 ox = some (.inr (5, [.ref as, .int (nI (md + 1))])) := (congrFun e_w2 _).trans mwu_eq
  have h_w2_as : w2 as = some (eR cS 8 (va_up g0 md (some q))) := (congrFun e_w2 _).trans ((mwu_ne (mw_ao h_w1_as h_w1_ox)).trans h_w1_as)
  have h_w2_q : w2 q = some (.inr (3, [y0, y1, y2, y3, y4, y5, y6, y7, y8])) := (congrFun e_w2 _).trans ((mwu_ne (Ne.symm (mw_ci hox hq (by decide)))).trans h_w1_q)
  have fr_w2 : ∀ zz : Nat, zz ≠ as → zz ≠ ox → w2 zz = w zz := fun zz g0 g1 => (congrFun e_w2 zz).trans ((mwu_ne g1).trans (fr_w1 zz g0))
  refine mg_aload_n C dX6_keep_35 rfl ?_
  refine mg_get C inT6 h_w2_ox rfl 1 (by decide) kw_14 (Or.inl rfl) rfl dX6_keep_36 ?_
  refine mg_iconst C (v := nI 1) dX6_keep_39 (by decide) ?_
  refine mg_isub C (z := nI md) dX6_keep_40 ((ni_sub (by omega)).trans rfl) ?_
  exact hR _ _ _ _ dX6_keep_41 ⟨rfl, h_w2_ox, h_w2_as, fun z q0 q1 => fr_w2 z q1 q0⟩

set_option maxHeartbeats 4000000 in
set_option maxRecDepth 20000 in
theorem c_X6_copy_F (D : va_G) (cI cS : ClassId) (w : mwT) (ox as md a : Nat) (g0 : Nat → Option Nat) (h0 ab b sd mv : Nat) (tot : Int32) (f : Nat → Int32) (hox : w ox = some (.inr (5, [.ref as, .int (nI md)]))) (has : w as = some (eR cS 8 g0)) (hh : w h0 = some (.inr (0, [.int (nI 2), .int (nI b), .int (nI sd), .int tot, .int (nI mv), .ref ab]))) (h_ab : w ab = some (eI cI b f)) (hmd : md ≤ 8) (ha : a < md) (hg : g0 a = some h0) (hs : sd ≤ 999) (hb1 : 16 ≤ b) (hb2 : b ≤ 512) : mMi yX6_copy cX6_copy 3 (some .int) (rmA 8 2 518) [.ref ox, .int (nI a)] D cI cS w (fun r w1 => (8 ≤ md ∧ r = -3 ∧ w1 = w) ∨ (md < 8 ∧ ∃ q qa : Nat, r = nI md ∧ w q = none ∧ w qa = none ∧ q ≠ qa ∧ w1 ox = some (.inr (5, [.ref as, .int (nI (md + 1))])) ∧ w1 as = some (eR cS 8 (va_up g0 md (some q))) ∧ w1 q = some (.inr (0, [.int (nI 2), .int (nI b), .int (nI sd), .int tot, .int (nI mv), .ref qa])) ∧ w1 qa = some (eI cI b (cpy0 f (fun _ => 0) b)) ∧ ∀ z : Nat, z ≠ q → z ≠ qa → z ≠ ox → z ≠ as → w1 z = w z)) := by
  refine mMi.of (by decide) (Nat.le_of_ble_eq_true rfl) ?_
  intro X C hN hR
  have fr_w : ∀ zz : Nat, w zz = w zz := fun _ => rfl
  refine mg_sub (lv' := [(0, .ref ox), (1, .int (nI a))]) [0, 1] rfl ?_
  refine mg_aload_n C dX6_copy_0 rfl ?_
  refine mg_iload_n C dX6_copy_1 rfl ?_
  refine mg_callV_q C hox rfl (rest := []) (c_X6_find_in D cI cS w ox as md g0 a hox has hmd ha) yq_X6_find kw_123 kw_124 kw_125 ⟨by decide, by decide⟩ ⟨Nat.le_of_ble_eq_true rfl, Nat.le_of_ble_eq_true rfl⟩ (Nat.le_of_ble_eq_true rfl) rfl rfl dX6_copy_2 (fun r1 w1 ⟨xe1, xk1⟩ => ?_)
  refine mg_widen (k := 0) (n := 0) (by decide) (by decide) ?_
  rw [xk1, xe1, hg]
  refine mg_astore_n C (lv' := [(2, .ref h0), (0, .ref ox), (1, .int (nI a))]) dX6_copy_5 rfl (by decide) rfl ?_
  refine mg_aload_n C dX6_copy_6 rfl ?_
  refine mg_ifnonnull C (tgt := 12) dX6_copy_7 (by decide) ?_
  refine mg_aload_n C dX6_copy_12 rfl ?_
  refine mg_get C inT6 hox rfl 1 (by decide) kw_14 (Or.inl rfl) rfl dX6_copy_13 ?_
  refine mg_bipush C (v := nI 8) dX6_copy_16 (by decide) ?_
  refine mg_icmpN_lt C (tgt := 24) dX6_copy_18 (by decide) (by omega) (by omega) (fun c_18 => ?_) (fun c_18 => ?_)
  · refine mg_aload_n C dX6_copy_24 rfl ?_
    refine mg_aload_n C dX6_copy_25 rfl ?_
    refine mg_callU_q C hh rfl (rest := [.ref ox]) (c_X0_twin D cI cS w h0 ab b sd tot (nI mv) f hh h_ab hb1 hb2) yq_X0_twin kw_127 kw_128 dq_twin (by decide +kernel) kw_130 kw_129 ⟨by decide, by decide⟩ ⟨Nat.le_of_ble_eq_true rfl, Nat.le_of_ble_eq_true rfl⟩ (Nat.le_of_ble_eq_true rfl) rfl rfl dX6_copy_26 (fun r2 w2 ⟨q2, q2a, xe2, n_q2, n_q2a, nd_q2a_q2, xh2, xkq2a, xf2⟩ => ?_)
    refine mg_widen (k := 2) (n := 518) (by decide) (by decide) ?_
    rw [xe2]
    have nd_q2_ox : ox ≠ q2 := mw_nn hox n_q2
    have nd_q2_as : as ≠ q2 := mw_nn has n_q2
    have nd_q2_h0 : h0 ≠ q2 := mw_nn hh n_q2
    have nd_q2_ab : ab ≠ q2 := mw_nn h_ab n_q2
    have nz_q2 : w q2 = none := (fr_w q2 ).symm.trans n_q2
    have nd_q2a_ox : ox ≠ q2a := mw_nn hox n_q2a
    have nd_q2a_as : as ≠ q2a := mw_nn has n_q2a
    have nd_q2a_h0 : h0 ≠ q2a := mw_nn hh n_q2a
    have nd_q2a_ab : ab ≠ q2a := mw_nn h_ab n_q2a
    have nz_q2a : w q2a = none := (fr_w q2a ).symm.trans n_q2a
    have h_w2_ox : w2 ox = some (.inr (5, [.ref as, .int (nI md)])) := (xf2 ox (mw_nn hox n_q2) (mw_nn hox n_q2a)).trans hox
    have h_w2_as : w2 as = some (eR cS 8 g0) := (xf2 as (mw_nn has n_q2) (mw_nn has n_q2a)).trans has
    have h_w2_h0 : w2 h0 = some (.inr (0, [.int (nI 2), .int (nI b), .int (nI sd), .int tot, .int (nI mv), .ref ab])) := (xf2 h0 (mw_nn hh n_q2) (mw_nn hh n_q2a)).trans hh
    have h_w2_ab : w2 ab = some (eI cI b f) := (xf2 ab (mw_nn h_ab n_q2) (mw_nn h_ab n_q2a)).trans h_ab
    have fr_w2 : ∀ zz : Nat, zz ≠ q2 → zz ≠ q2a → w2 zz = w zz := fun zz g0 g1 => (xf2 zz g0 g1).trans (fr_w zz )
    refine mg_callV_i C h_w2_ox rfl (rest := []) (c_X6_keep_F D cI cS w2 ox as md q2 g0 (.int (nI 2)) (.int (nI b)) (.int (nI sd)) (.int tot) (.int (nI mv)) (.ref q2a) h_w2_ox h_w2_as xh2 (by omega)) yq_X6_keep kw_103 kw_104 kw_105 ⟨by decide, by decide⟩ ⟨Nat.le_of_ble_eq_true rfl, Nat.le_of_ble_eq_true rfl⟩ (Nat.le_of_ble_eq_true rfl) rfl rfl dX6_copy_29 (fun r3 w3 ⟨xe3, xo3, xs3, xf3⟩ => ?_)
    refine mg_widen (k := 2) (n := 518) (by decide) (by decide) ?_
    rw [xe3]
    have h_w3_h0 : w3 h0 = some (.inr (0, [.int (nI 2), .int (nI b), .int (nI sd), .int tot, .int (nI mv), .ref ab])) := (xf3 h0 (mw_ci h_w2_h0 h_w2_ox (by decide)) (mw_oa h_w2_h0 h_w2_as)).trans h_w2_h0
    have h_w3_ab : w3 ab = some (eI cI b f) := (xf3 ab (mw_ao h_w2_ab h_w2_ox) (mw_ir h_w2_ab h_w2_as)).trans h_w2_ab
    have h_w3_q2 : w3 q2 = some (.inr (0, [.int (nI 2), .int (nI b), .int (nI sd), .int tot, .int (nI mv), .ref q2a])) := (xf3 q2 (Ne.symm nd_q2_ox) (Ne.symm nd_q2_as)).trans xh2
    have h_w3_q2a : w3 q2a = some (eI cI b (cpy0 f (fun _ => 0) b)) := (xf3 q2a (Ne.symm nd_q2a_ox) (Ne.symm nd_q2a_as)).trans xkq2a
    have fr_w3 : ∀ zz : Nat, zz ≠ q2 → zz ≠ q2a → zz ≠ ox → zz ≠ as → w3 zz = w zz := fun zz g0 g1 g2 g3 => (xf3 zz g2 g3).trans (fr_w2 zz g0 g1)
    exact hR _ _ _ _ dX6_copy_32 (Or.inr ⟨c_18, q2, q2a, rfl, nz_q2, nz_q2a, nd_q2a_q2, xo3, xs3, h_w3_q2, h_w3_q2a, fun z q0 q1 q2 q3 => fr_w3 z q0 q1 q2 q3⟩)
  · refine mg_bipush C (v := (-3 : Int32)) dX6_copy_21 (by decide) ?_
    refine mg_widen (k := 2) (n := 518) (by decide) (by decide) ?_
    exact hR _ _ _ _ dX6_copy_23 (Or.inl ⟨c_18, rfl, rfl⟩)

set_option maxHeartbeats 4000000 in
set_option maxRecDepth 20000 in
theorem c_X6_copy_T (D : va_G) (cI cS : ClassId) (w : mwT) (ox as md a : Nat) (g0 : Nat → Option Nat) (h0 ab c sd mv : Nat) (tot : Int32) (f : Nat → Int32) (hox : w ox = some (.inr (5, [.ref as, .int (nI md)]))) (has : w as = some (eR cS 8 g0)) (hh : w h0 = some (.inr (4, [.int (nI 1), .int (nI c), .int (nI sd), .int tot, .int (nI mv), .ref ab]))) (h_ab : w ab = some (eI cI (4 * c) f)) (hmd : md ≤ 8) (ha : a < md) (hg : g0 a = some h0) (hs : sd ≤ 999) (hc1 : 4 ≤ c) (hc2 : c ≤ 64) : mMi yX6_copy cX6_copy 3 (some .int) (rmA 8 2 262) [.ref ox, .int (nI a)] D cI cS w (fun r w1 => (8 ≤ md ∧ r = -3 ∧ w1 = w) ∨ (md < 8 ∧ ∃ q qa : Nat, r = nI md ∧ w q = none ∧ w qa = none ∧ q ≠ qa ∧ w1 ox = some (.inr (5, [.ref as, .int (nI (md + 1))])) ∧ w1 as = some (eR cS 8 (va_up g0 md (some q))) ∧ w1 q = some (.inr (4, [.int (nI 1), .int (nI c), .int (nI sd), .int tot, .int (nI mv), .ref qa])) ∧ w1 qa = some (eI cI (4 * c) (cpy0 f (fun _ => 0) (4 * c))) ∧ ∀ z : Nat, z ≠ q → z ≠ qa → z ≠ ox → z ≠ as → w1 z = w z)) := by
  refine mMi.of (by decide) (Nat.le_of_ble_eq_true rfl) ?_
  intro X C hN hR
  have fr_w : ∀ zz : Nat, w zz = w zz := fun _ => rfl
  refine mg_sub (lv' := [(0, .ref ox), (1, .int (nI a))]) [0, 1] rfl ?_
  refine mg_aload_n C dX6_copy_0 rfl ?_
  refine mg_iload_n C dX6_copy_1 rfl ?_
  refine mg_callV_q C hox rfl (rest := []) (c_X6_find_in D cI cS w ox as md g0 a hox has hmd ha) yq_X6_find kw_123 kw_124 kw_125 ⟨by decide, by decide⟩ ⟨Nat.le_of_ble_eq_true rfl, Nat.le_of_ble_eq_true rfl⟩ (Nat.le_of_ble_eq_true rfl) rfl rfl dX6_copy_2 (fun r1 w1 ⟨xe1, xk1⟩ => ?_)
  refine mg_widen (k := 0) (n := 0) (by decide) (by decide) ?_
  rw [xk1, xe1, hg]
  refine mg_astore_n C (lv' := [(2, .ref h0), (0, .ref ox), (1, .int (nI a))]) dX6_copy_5 rfl (by decide) rfl ?_
  refine mg_aload_n C dX6_copy_6 rfl ?_
  refine mg_ifnonnull C (tgt := 12) dX6_copy_7 (by decide) ?_
  refine mg_aload_n C dX6_copy_12 rfl ?_
  refine mg_get C inT6 hox rfl 1 (by decide) kw_14 (Or.inl rfl) rfl dX6_copy_13 ?_
  refine mg_bipush C (v := nI 8) dX6_copy_16 (by decide) ?_
  refine mg_icmpN_lt C (tgt := 24) dX6_copy_18 (by decide) (by omega) (by omega) (fun c_18 => ?_) (fun c_18 => ?_)
  · refine mg_aload_n C dX6_copy_24 rfl ?_
    refine mg_aload_n C dX6_copy_25 rfl ?_
    refine mg_callU_q C hh rfl (rest := [.ref ox]) (c_X5_twin D cI cS w h0 ab c sd tot (nI mv) f hh h_ab hc1 hc2) yq_X5_twin kw_127 kw_128 dq_twin (by decide +kernel) kw_182 kw_181 ⟨by decide, by decide⟩ ⟨Nat.le_of_ble_eq_true rfl, Nat.le_of_ble_eq_true rfl⟩ (Nat.le_of_ble_eq_true rfl) rfl rfl dX6_copy_26 (fun r2 w2 ⟨q2, q2a, xe2, n_q2, n_q2a, nd_q2a_q2, xh2, xkq2a, xf2⟩ => ?_)
    refine mg_widen (k := 2) (n := 262) (by decide) (by decide) ?_
    rw [xe2]
    have nd_q2_ox : ox ≠ q2 := mw_nn hox n_q2
    have nd_q2_as : as ≠ q2 := mw_nn has n_q2
    have nd_q2_h0 : h0 ≠ q2 := mw_nn hh n_q2
    have nd_q2_ab : ab ≠ q2 := mw_nn h_ab n_q2
    have nz_q2 : w q2 = none := (fr_w q2 ).symm.trans n_q2
    have nd_q2a_ox : ox ≠ q2a := mw_nn hox n_q2a
    have nd_q2a_as : as ≠ q2a := mw_nn has n_q2a
    have nd_q2a_h0 : h0 ≠ q2a := mw_nn hh n_q2a
    have nd_q2a_ab : ab ≠ q2a := mw_nn h_ab n_q2a
    have nz_q2a : w q2a = none := (fr_w q2a ).symm.trans n_q2a
    have h_w2_ox : w2 ox = some (.inr (5, [.ref as, .int (nI md)])) := (xf2 ox (mw_nn hox n_q2) (mw_nn hox n_q2a)).trans hox
    have h_w2_as : w2 as = some (eR cS 8 g0) := (xf2 as (mw_nn has n_q2) (mw_nn has n_q2a)).trans has
    have h_w2_h0 : w2 h0 = some (.inr (4, [.int (nI 1), .int (nI c), .int (nI sd), .int tot, .int (nI mv), .ref ab])) := (xf2 h0 (mw_nn hh n_q2) (mw_nn hh n_q2a)).trans hh
    have h_w2_ab : w2 ab = some (eI cI (4 * c) f) := (xf2 ab (mw_nn h_ab n_q2) (mw_nn h_ab n_q2a)).trans h_ab
    have fr_w2 : ∀ zz : Nat, zz ≠ q2 → zz ≠ q2a → w2 zz = w zz := fun zz g0 g1 => (xf2 zz g0 g1).trans (fr_w zz )
    refine mg_callV_i C h_w2_ox rfl (rest := []) (c_X6_keep_T D cI cS w2 ox as md q2 g0 (.int (nI 1)) (.int (nI c)) (.int (nI sd)) (.int tot) (.int (nI mv)) (.ref q2a) h_w2_ox h_w2_as xh2 (by omega)) yq_X6_keep kw_103 kw_104 kw_105 ⟨by decide, by decide⟩ ⟨Nat.le_of_ble_eq_true rfl, Nat.le_of_ble_eq_true rfl⟩ (Nat.le_of_ble_eq_true rfl) rfl rfl dX6_copy_29 (fun r3 w3 ⟨xe3, xo3, xs3, xf3⟩ => ?_)
    refine mg_widen (k := 2) (n := 262) (by decide) (by decide) ?_
    rw [xe3]
    have h_w3_h0 : w3 h0 = some (.inr (4, [.int (nI 1), .int (nI c), .int (nI sd), .int tot, .int (nI mv), .ref ab])) := (xf3 h0 (mw_ci h_w2_h0 h_w2_ox (by decide)) (mw_oa h_w2_h0 h_w2_as)).trans h_w2_h0
    have h_w3_ab : w3 ab = some (eI cI (4 * c) f) := (xf3 ab (mw_ao h_w2_ab h_w2_ox) (mw_ir h_w2_ab h_w2_as)).trans h_w2_ab
    have h_w3_q2 : w3 q2 = some (.inr (4, [.int (nI 1), .int (nI c), .int (nI sd), .int tot, .int (nI mv), .ref q2a])) := (xf3 q2 (Ne.symm nd_q2_ox) (Ne.symm nd_q2_as)).trans xh2
    have h_w3_q2a : w3 q2a = some (eI cI (4 * c) (cpy0 f (fun _ => 0) (4 * c))) := (xf3 q2a (Ne.symm nd_q2a_ox) (Ne.symm nd_q2a_as)).trans xkq2a
    have fr_w3 : ∀ zz : Nat, zz ≠ q2 → zz ≠ q2a → zz ≠ ox → zz ≠ as → w3 zz = w zz := fun zz g0 g1 g2 g3 => (xf3 zz g2 g3).trans (fr_w2 zz g0 g1)
    exact hR _ _ _ _ dX6_copy_32 (Or.inr ⟨c_18, q2, q2a, rfl, nz_q2, nz_q2a, nd_q2a_q2, xo3, xs3, h_w3_q2, h_w3_q2a, fun z q0 q1 q2 q3 => fr_w3 z q0 q1 q2 q3⟩)
  · refine mg_bipush C (v := (-3 : Int32)) dX6_copy_21 (by decide) ?_
    refine mg_widen (k := 2) (n := 262) (by decide) (by decide) ?_
    exact hR _ _ _ _ dX6_copy_23 (Or.inl ⟨c_18, rfl, rfl⟩)

set_option maxHeartbeats 4000000 in
set_option maxRecDepth 20000 in
theorem c_X6_copy_L (D : va_G) (cI cS : ClassId) (w : mwT) (ox as md a : Nat) (g0 : Nat → Option Nat) (h0 ab k sd h mv : Nat) (tot : Int32) (f : Nat → Int32) (hox : w ox = some (.inr (5, [.ref as, .int (nI md)]))) (has : w as = some (eR cS 8 g0)) (hh : w h0 = some (.inr (2, [.int (nI 3), .int (nI k), .int (nI sd), .int tot, .int (nI mv), .ref ab, .int (nI h)]))) (h_ab : w ab = some (eI cI k f)) (hmd : md ≤ 8) (ha : a < md) (hg : g0 a = some h0) (hs : sd ≤ 999) (hk1 : 2 ≤ k) (hk2 : k ≤ 32) (hh2 : h ≤ k) : mMi yX6_copy cX6_copy 3 (some .int) (rmA 8 2 39) [.ref ox, .int (nI a)] D cI cS w (fun r w1 => (8 ≤ md ∧ r = -3 ∧ w1 = w) ∨ (md < 8 ∧ ∃ q qa : Nat, r = nI md ∧ w q = none ∧ w qa = none ∧ q ≠ qa ∧ w1 ox = some (.inr (5, [.ref as, .int (nI (md + 1))])) ∧ w1 as = some (eR cS 8 (va_up g0 md (some q))) ∧ w1 q = some (.inr (2, [.int (nI 3), .int (nI k), .int (nI sd), .int tot, .int (nI mv), .ref qa, .int (nI h)])) ∧ w1 qa = some (eI cI k (cpy0 f (fun _ => 0) k)) ∧ ∀ z : Nat, z ≠ q → z ≠ qa → z ≠ ox → z ≠ as → w1 z = w z)) := by
  refine mMi.of (by decide) (Nat.le_of_ble_eq_true rfl) ?_
  intro X C hN hR
  have fr_w : ∀ zz : Nat, w zz = w zz := fun _ => rfl
  refine mg_sub (lv' := [(0, .ref ox), (1, .int (nI a))]) [0, 1] rfl ?_
  refine mg_aload_n C dX6_copy_0 rfl ?_
  refine mg_iload_n C dX6_copy_1 rfl ?_
  refine mg_callV_q C hox rfl (rest := []) (c_X6_find_in D cI cS w ox as md g0 a hox has hmd ha) yq_X6_find kw_123 kw_124 kw_125 ⟨by decide, by decide⟩ ⟨Nat.le_of_ble_eq_true rfl, Nat.le_of_ble_eq_true rfl⟩ (Nat.le_of_ble_eq_true rfl) rfl rfl dX6_copy_2 (fun r1 w1 ⟨xe1, xk1⟩ => ?_)
  refine mg_widen (k := 0) (n := 0) (by decide) (by decide) ?_
  rw [xk1, xe1, hg]
  refine mg_astore_n C (lv' := [(2, .ref h0), (0, .ref ox), (1, .int (nI a))]) dX6_copy_5 rfl (by decide) rfl ?_
  refine mg_aload_n C dX6_copy_6 rfl ?_
  refine mg_ifnonnull C (tgt := 12) dX6_copy_7 (by decide) ?_
  refine mg_aload_n C dX6_copy_12 rfl ?_
  refine mg_get C inT6 hox rfl 1 (by decide) kw_14 (Or.inl rfl) rfl dX6_copy_13 ?_
  refine mg_bipush C (v := nI 8) dX6_copy_16 (by decide) ?_
  refine mg_icmpN_lt C (tgt := 24) dX6_copy_18 (by decide) (by omega) (by omega) (fun c_18 => ?_) (fun c_18 => ?_)
  · refine mg_aload_n C dX6_copy_24 rfl ?_
    refine mg_aload_n C dX6_copy_25 rfl ?_
    refine mg_callU_q C hh rfl (rest := [.ref ox]) (c_X2_twin D cI cS w h0 ab k sd h tot (nI mv) f hh h_ab hk1 hk2) yq_X2_twin kw_127 kw_128 dq_twin (by decide +kernel) kw_158 kw_157 ⟨by decide, by decide⟩ ⟨Nat.le_of_ble_eq_true rfl, Nat.le_of_ble_eq_true rfl⟩ (Nat.le_of_ble_eq_true rfl) rfl rfl dX6_copy_26 (fun r2 w2 ⟨q2, q2a, xe2, n_q2, n_q2a, nd_q2a_q2, xh2, xkq2a, xf2⟩ => ?_)
    refine mg_widen (k := 2) (n := 39) (by decide) (by decide) ?_
    rw [xe2]
    have nd_q2_ox : ox ≠ q2 := mw_nn hox n_q2
    have nd_q2_as : as ≠ q2 := mw_nn has n_q2
    have nd_q2_h0 : h0 ≠ q2 := mw_nn hh n_q2
    have nd_q2_ab : ab ≠ q2 := mw_nn h_ab n_q2
    have nz_q2 : w q2 = none := (fr_w q2 ).symm.trans n_q2
    have nd_q2a_ox : ox ≠ q2a := mw_nn hox n_q2a
    have nd_q2a_as : as ≠ q2a := mw_nn has n_q2a
    have nd_q2a_h0 : h0 ≠ q2a := mw_nn hh n_q2a
    have nd_q2a_ab : ab ≠ q2a := mw_nn h_ab n_q2a
    have nz_q2a : w q2a = none := (fr_w q2a ).symm.trans n_q2a
    have h_w2_ox : w2 ox = some (.inr (5, [.ref as, .int (nI md)])) := (xf2 ox (mw_nn hox n_q2) (mw_nn hox n_q2a)).trans hox
    have h_w2_as : w2 as = some (eR cS 8 g0) := (xf2 as (mw_nn has n_q2) (mw_nn has n_q2a)).trans has
    have h_w2_h0 : w2 h0 = some (.inr (2, [.int (nI 3), .int (nI k), .int (nI sd), .int tot, .int (nI mv), .ref ab, .int (nI h)])) := (xf2 h0 (mw_nn hh n_q2) (mw_nn hh n_q2a)).trans hh
    have h_w2_ab : w2 ab = some (eI cI k f) := (xf2 ab (mw_nn h_ab n_q2) (mw_nn h_ab n_q2a)).trans h_ab
    have fr_w2 : ∀ zz : Nat, zz ≠ q2 → zz ≠ q2a → w2 zz = w zz := fun zz g0 g1 => (xf2 zz g0 g1).trans (fr_w zz )
    refine mg_callV_i C h_w2_ox rfl (rest := []) (c_X6_keep_L D cI cS w2 ox as md q2 g0 (.int (nI 3)) (.int (nI k)) (.int (nI sd)) (.int tot) (.int (nI mv)) (.ref q2a) (.int (nI h)) h_w2_ox h_w2_as xh2 (by omega)) yq_X6_keep kw_103 kw_104 kw_105 ⟨by decide, by decide⟩ ⟨Nat.le_of_ble_eq_true rfl, Nat.le_of_ble_eq_true rfl⟩ (Nat.le_of_ble_eq_true rfl) rfl rfl dX6_copy_29 (fun r3 w3 ⟨xe3, xo3, xs3, xf3⟩ => ?_)
    refine mg_widen (k := 2) (n := 39) (by decide) (by decide) ?_
    rw [xe3]
    have h_w3_h0 : w3 h0 = some (.inr (2, [.int (nI 3), .int (nI k), .int (nI sd), .int tot, .int (nI mv), .ref ab, .int (nI h)])) := (xf3 h0 (mw_ci h_w2_h0 h_w2_ox (by decide)) (mw_oa h_w2_h0 h_w2_as)).trans h_w2_h0
    have h_w3_ab : w3 ab = some (eI cI k f) := (xf3 ab (mw_ao h_w2_ab h_w2_ox) (mw_ir h_w2_ab h_w2_as)).trans h_w2_ab
    have h_w3_q2 : w3 q2 = some (.inr (2, [.int (nI 3), .int (nI k), .int (nI sd), .int tot, .int (nI mv), .ref q2a, .int (nI h)])) := (xf3 q2 (Ne.symm nd_q2_ox) (Ne.symm nd_q2_as)).trans xh2
    have h_w3_q2a : w3 q2a = some (eI cI k (cpy0 f (fun _ => 0) k)) := (xf3 q2a (Ne.symm nd_q2a_ox) (Ne.symm nd_q2a_as)).trans xkq2a
    have fr_w3 : ∀ zz : Nat, zz ≠ q2 → zz ≠ q2a → zz ≠ ox → zz ≠ as → w3 zz = w zz := fun zz g0 g1 g2 g3 => (xf3 zz g2 g3).trans (fr_w2 zz g0 g1)
    exact hR _ _ _ _ dX6_copy_32 (Or.inr ⟨c_18, q2, q2a, rfl, nz_q2, nz_q2a, nd_q2a_q2, xo3, xs3, h_w3_q2, h_w3_q2a, fun z q0 q1 q2 q3 => fr_w3 z q0 q1 q2 q3⟩)
  · refine mg_bipush C (v := (-3 : Int32)) dX6_copy_21 (by decide) ?_
    refine mg_widen (k := 2) (n := 39) (by decide) (by decide) ?_
    exact hR _ _ _ _ dX6_copy_23 (Or.inl ⟨c_18, rfl, rfl⟩)

set_option maxHeartbeats 4000000 in
set_option maxRecDepth 20000 in
theorem c_X6_copy_H (D : va_G) (cI cS : ClassId) (w : mwT) (ox as md a : Nat) (g0 : Nat → Option Nat) (h0 ak an k sd h mv : Nat) (tot lo : Int32) (f g : Nat → Int32) (hox : w ox = some (.inr (5, [.ref as, .int (nI md)]))) (has : w as = some (eR cS 8 g0)) (hh : w h0 = some (.inr (1, [.int (nI 0), .int (nI k), .int (nI sd), .int tot, .int (nI mv), .ref ak, .ref an, .int (nI h), .int lo]))) (h_ak : w ak = some (eI cI (2 * k) f)) (h_an : w an = some (eI cI (2 * k) g)) (hmd : md ≤ 8) (ha : a < md) (hg : g0 a = some h0) (hs : sd ≤ 999) (hk1 : 1 ≤ k) (hk2 : k ≤ 20) (hh2 : h ≤ k) (hka : ak ≠ an) : mMi yX6_copy cX6_copy 3 (some .int) (rmA 8 3 89) [.ref ox, .int (nI a)] D cI cS w (fun r w1 => (8 ≤ md ∧ r = -3 ∧ w1 = w) ∨ (md < 8 ∧ ∃ q qa qb : Nat, r = nI md ∧ w q = none ∧ w qa = none ∧ w qb = none ∧ q ≠ qa ∧ q ≠ qb ∧ qa ≠ qb ∧ w1 ox = some (.inr (5, [.ref as, .int (nI (md + 1))])) ∧ w1 as = some (eR cS 8 (va_up g0 md (some q))) ∧ w1 q = some (.inr (1, [.int (nI 0), .int (nI k), .int (nI sd), .int tot, .int (nI mv), .ref qa, .ref qb, .int (nI h), .int lo])) ∧ w1 qa = some (eI cI (2 * k) (cpy0 f (fun _ => 0) (2 * k))) ∧ w1 qb = some (eI cI (2 * k) (cpy0 g (fun _ => 0) (2 * k))) ∧ ∀ z : Nat, z ≠ q → z ≠ qa → z ≠ qb → z ≠ ox → z ≠ as → w1 z = w z)) := by
  refine mMi.of (by decide) (Nat.le_of_ble_eq_true rfl) ?_
  intro X C hN hR
  have fr_w : ∀ zz : Nat, w zz = w zz := fun _ => rfl
  refine mg_sub (lv' := [(0, .ref ox), (1, .int (nI a))]) [0, 1] rfl ?_
  refine mg_aload_n C dX6_copy_0 rfl ?_
  refine mg_iload_n C dX6_copy_1 rfl ?_
  refine mg_callV_q C hox rfl (rest := []) (c_X6_find_in D cI cS w ox as md g0 a hox has hmd ha) yq_X6_find kw_123 kw_124 kw_125 ⟨by decide, by decide⟩ ⟨Nat.le_of_ble_eq_true rfl, Nat.le_of_ble_eq_true rfl⟩ (Nat.le_of_ble_eq_true rfl) rfl rfl dX6_copy_2 (fun r1 w1 ⟨xe1, xk1⟩ => ?_)
  refine mg_widen (k := 0) (n := 0) (by decide) (by decide) ?_
  rw [xk1, xe1, hg]
  refine mg_astore_n C (lv' := [(2, .ref h0), (0, .ref ox), (1, .int (nI a))]) dX6_copy_5 rfl (by decide) rfl ?_
  refine mg_aload_n C dX6_copy_6 rfl ?_
  refine mg_ifnonnull C (tgt := 12) dX6_copy_7 (by decide) ?_
  refine mg_aload_n C dX6_copy_12 rfl ?_
  refine mg_get C inT6 hox rfl 1 (by decide) kw_14 (Or.inl rfl) rfl dX6_copy_13 ?_
  refine mg_bipush C (v := nI 8) dX6_copy_16 (by decide) ?_
  refine mg_icmpN_lt C (tgt := 24) dX6_copy_18 (by decide) (by omega) (by omega) (fun c_18 => ?_) (fun c_18 => ?_)
  · refine mg_aload_n C dX6_copy_24 rfl ?_
    refine mg_aload_n C dX6_copy_25 rfl ?_
    refine mg_callU_q C hh rfl (rest := [.ref ox]) (c_X1_twin D cI cS w h0 ak an k sd h tot (nI mv) lo f g hh h_ak h_an hk1 hk2 hka) yq_X1_twin kw_127 kw_128 dq_twin (by decide +kernel) kw_146 kw_145 ⟨by decide, by decide⟩ ⟨Nat.le_of_ble_eq_true rfl, Nat.le_of_ble_eq_true rfl⟩ (Nat.le_of_ble_eq_true rfl) rfl rfl dX6_copy_26 (fun r2 w2 ⟨q2, q2a, q2b, xe2, n_q2, n_q2a, n_q2b, nd_q2a_q2, nd_q2b_q2, dd_q2b_q2a, xh2, xkq2a, xkq2b, xf2⟩ => ?_)
    refine mg_widen (k := 3) (n := 89) (by decide) (by decide) ?_
    rw [xe2]
    have nd_q2_ox : ox ≠ q2 := mw_nn hox n_q2
    have nd_q2_as : as ≠ q2 := mw_nn has n_q2
    have nd_q2_h0 : h0 ≠ q2 := mw_nn hh n_q2
    have nd_q2_ak : ak ≠ q2 := mw_nn h_ak n_q2
    have nd_q2_an : an ≠ q2 := mw_nn h_an n_q2
    have nz_q2 : w q2 = none := (fr_w q2 ).symm.trans n_q2
    have nd_q2a_ox : ox ≠ q2a := mw_nn hox n_q2a
    have nd_q2a_as : as ≠ q2a := mw_nn has n_q2a
    have nd_q2a_h0 : h0 ≠ q2a := mw_nn hh n_q2a
    have nd_q2a_ak : ak ≠ q2a := mw_nn h_ak n_q2a
    have nd_q2a_an : an ≠ q2a := mw_nn h_an n_q2a
    have nz_q2a : w q2a = none := (fr_w q2a ).symm.trans n_q2a
    have nd_q2b_ox : ox ≠ q2b := mw_nn hox n_q2b
    have nd_q2b_as : as ≠ q2b := mw_nn has n_q2b
    have nd_q2b_h0 : h0 ≠ q2b := mw_nn hh n_q2b
    have nd_q2b_ak : ak ≠ q2b := mw_nn h_ak n_q2b
    have nd_q2b_an : an ≠ q2b := mw_nn h_an n_q2b
    have nz_q2b : w q2b = none := (fr_w q2b ).symm.trans n_q2b
    have h_w2_ox : w2 ox = some (.inr (5, [.ref as, .int (nI md)])) := (xf2 ox (mw_nn hox n_q2) (mw_nn hox n_q2a) (mw_nn hox n_q2b)).trans hox
    have h_w2_as : w2 as = some (eR cS 8 g0) := (xf2 as (mw_nn has n_q2) (mw_nn has n_q2a) (mw_nn has n_q2b)).trans has
    have h_w2_h0 : w2 h0 = some (.inr (1, [.int (nI 0), .int (nI k), .int (nI sd), .int tot, .int (nI mv), .ref ak, .ref an, .int (nI h), .int lo])) := (xf2 h0 (mw_nn hh n_q2) (mw_nn hh n_q2a) (mw_nn hh n_q2b)).trans hh
    have h_w2_ak : w2 ak = some (eI cI (2 * k) f) := (xf2 ak (mw_nn h_ak n_q2) (mw_nn h_ak n_q2a) (mw_nn h_ak n_q2b)).trans h_ak
    have h_w2_an : w2 an = some (eI cI (2 * k) g) := (xf2 an (mw_nn h_an n_q2) (mw_nn h_an n_q2a) (mw_nn h_an n_q2b)).trans h_an
    have fr_w2 : ∀ zz : Nat, zz ≠ q2 → zz ≠ q2a → zz ≠ q2b → w2 zz = w zz := fun zz g0 g1 g2 => (xf2 zz g0 g1 g2).trans (fr_w zz )
    refine mg_callV_i C h_w2_ox rfl (rest := []) (c_X6_keep_H D cI cS w2 ox as md q2 g0 (.int (nI 0)) (.int (nI k)) (.int (nI sd)) (.int tot) (.int (nI mv)) (.ref q2a) (.ref q2b) (.int (nI h)) (.int lo) h_w2_ox h_w2_as xh2 (by omega)) yq_X6_keep kw_103 kw_104 kw_105 ⟨by decide, by decide⟩ ⟨Nat.le_of_ble_eq_true rfl, Nat.le_of_ble_eq_true rfl⟩ (Nat.le_of_ble_eq_true rfl) rfl rfl dX6_copy_29 (fun r3 w3 ⟨xe3, xo3, xs3, xf3⟩ => ?_)
    refine mg_widen (k := 3) (n := 89) (by decide) (by decide) ?_
    rw [xe3]
    have h_w3_h0 : w3 h0 = some (.inr (1, [.int (nI 0), .int (nI k), .int (nI sd), .int tot, .int (nI mv), .ref ak, .ref an, .int (nI h), .int lo])) := (xf3 h0 (mw_ci h_w2_h0 h_w2_ox (by decide)) (mw_oa h_w2_h0 h_w2_as)).trans h_w2_h0
    have h_w3_ak : w3 ak = some (eI cI (2 * k) f) := (xf3 ak (mw_ao h_w2_ak h_w2_ox) (mw_ir h_w2_ak h_w2_as)).trans h_w2_ak
    have h_w3_an : w3 an = some (eI cI (2 * k) g) := (xf3 an (mw_ao h_w2_an h_w2_ox) (mw_ir h_w2_an h_w2_as)).trans h_w2_an
    have h_w3_q2 : w3 q2 = some (.inr (1, [.int (nI 0), .int (nI k), .int (nI sd), .int tot, .int (nI mv), .ref q2a, .ref q2b, .int (nI h), .int lo])) := (xf3 q2 (Ne.symm nd_q2_ox) (Ne.symm nd_q2_as)).trans xh2
    have h_w3_q2a : w3 q2a = some (eI cI (2 * k) (cpy0 f (fun _ => 0) (2 * k))) := (xf3 q2a (Ne.symm nd_q2a_ox) (Ne.symm nd_q2a_as)).trans xkq2a
    have h_w3_q2b : w3 q2b = some (eI cI (2 * k) (cpy0 g (fun _ => 0) (2 * k))) := (xf3 q2b (Ne.symm nd_q2b_ox) (Ne.symm nd_q2b_as)).trans xkq2b
    have fr_w3 : ∀ zz : Nat, zz ≠ q2 → zz ≠ q2a → zz ≠ q2b → zz ≠ ox → zz ≠ as → w3 zz = w zz := fun zz g0 g1 g2 g3 g4 => (xf3 zz g3 g4).trans (fr_w2 zz g0 g1 g2)
    exact hR _ _ _ _ dX6_copy_32 (Or.inr ⟨c_18, q2, q2a, q2b, rfl, nz_q2, nz_q2a, nz_q2b, nd_q2a_q2, nd_q2b_q2, dd_q2b_q2a, xo3, xs3, h_w3_q2, h_w3_q2a, h_w3_q2b, fun z q0 q1 q2 q3 q4 => fr_w3 z q0 q1 q2 q3 q4⟩)
  · refine mg_bipush C (v := (-3 : Int32)) dX6_copy_21 (by decide) ?_
    refine mg_widen (k := 3) (n := 89) (by decide) (by decide) ?_
    exact hR _ _ _ _ dX6_copy_23 (Or.inl ⟨c_18, rfl, rfl⟩)

set_option maxHeartbeats 4000000 in
set_option maxRecDepth 20000 in
theorem c_X6_copy_R (D : va_G) (cI cS : ClassId) (w : mwT) (ox as md a : Nat) (g0 : Nat → Option Nat) (h0 ak al aw k sd mv : Nat) (tot er : Int32) (f : Nat → Int32) (ln tr : Nat → Nat) (hox : w ox = some (.inr (5, [.ref as, .int (nI md)]))) (has : w as = some (eR cS 8 g0)) (hh : w h0 = some (.inr (3, [.int (nI 4), .int (nI k), .int (nI sd), .int tot, .int (nI mv), .ref ak, .ref al, .ref aw, .int er]))) (h_ak : w ak = some (eI cI (31 * k) f)) (h_al : w al = some (eI cI 31 (lnF ln))) (h_aw : w aw = some (eI cI 31 (lnF tr))) (hmd : md ≤ 8) (ha : a < md) (hg : g0 a = some h0) (hs : sd ≤ 999) (hk1 : 4 ≤ k) (hk2 : k ≤ 32) (hd1 : ak ≠ al) (hd2 : ak ≠ aw) (hd3 : al ≠ aw) (hok : rkOk k (f, ln, tr, er)) : mMi yX6_copy cX6_copy 3 (some .int) (rmA 8 4 1063) [.ref ox, .int (nI a)] D cI cS w (fun r w1 => (8 ≤ md ∧ r = -3 ∧ w1 = w) ∨ (md < 8 ∧ ∃ q qa qb qc : Nat, r = nI md ∧ w q = none ∧ w qa = none ∧ w qb = none ∧ w qc = none ∧ q ≠ qa ∧ q ≠ qb ∧ q ≠ qc ∧ qa ≠ qb ∧ qa ≠ qc ∧ qb ≠ qc ∧ w1 ox = some (.inr (5, [.ref as, .int (nI (md + 1))])) ∧ w1 as = some (eR cS 8 (va_up g0 md (some q))) ∧ w1 q = some (.inr (3, [.int (nI 4), .int (nI k), .int (nI sd), .int tot, .int (nI mv), .ref qa, .ref qb, .ref qc, .int er])) ∧ w1 qa = some (eI cI (31 * k) (cpy0 f (fun _ => 0) (31 * k))) ∧ w1 qb = some (eI cI 31 (cpy0 (lnF ln) (fun _ => 0) 31)) ∧ w1 qc = some (eI cI 31 (cpy0 (lnF tr) (fun _ => 0) 31)) ∧ ∀ z : Nat, z ≠ q → z ≠ qa → z ≠ qb → z ≠ qc → z ≠ ox → z ≠ as → w1 z = w z)) := by
  refine mMi.of (by decide) (Nat.le_of_ble_eq_true rfl) ?_
  intro X C hN hR
  have fr_w : ∀ zz : Nat, w zz = w zz := fun _ => rfl
  refine mg_sub (lv' := [(0, .ref ox), (1, .int (nI a))]) [0, 1] rfl ?_
  refine mg_aload_n C dX6_copy_0 rfl ?_
  refine mg_iload_n C dX6_copy_1 rfl ?_
  refine mg_callV_q C hox rfl (rest := []) (c_X6_find_in D cI cS w ox as md g0 a hox has hmd ha) yq_X6_find kw_123 kw_124 kw_125 ⟨by decide, by decide⟩ ⟨Nat.le_of_ble_eq_true rfl, Nat.le_of_ble_eq_true rfl⟩ (Nat.le_of_ble_eq_true rfl) rfl rfl dX6_copy_2 (fun r1 w1 ⟨xe1, xk1⟩ => ?_)
  refine mg_widen (k := 0) (n := 0) (by decide) (by decide) ?_
  rw [xk1, xe1, hg]
  refine mg_astore_n C (lv' := [(2, .ref h0), (0, .ref ox), (1, .int (nI a))]) dX6_copy_5 rfl (by decide) rfl ?_
  refine mg_aload_n C dX6_copy_6 rfl ?_
  refine mg_ifnonnull C (tgt := 12) dX6_copy_7 (by decide) ?_
  refine mg_aload_n C dX6_copy_12 rfl ?_
  refine mg_get C inT6 hox rfl 1 (by decide) kw_14 (Or.inl rfl) rfl dX6_copy_13 ?_
  refine mg_bipush C (v := nI 8) dX6_copy_16 (by decide) ?_
  refine mg_icmpN_lt C (tgt := 24) dX6_copy_18 (by decide) (by omega) (by omega) (fun c_18 => ?_) (fun c_18 => ?_)
  · refine mg_aload_n C dX6_copy_24 rfl ?_
    refine mg_aload_n C dX6_copy_25 rfl ?_
    refine mg_callU_q C hh rfl (rest := [.ref ox]) (c_X3_twin D cI cS w h0 ak al aw k sd tot (nI mv) er f ln tr hh h_ak h_al h_aw hk1 hk2 hd1 hd2 hd3) yq_X3_twin kw_127 kw_128 dq_twin (by decide +kernel) kw_170 kw_169 ⟨by decide, by decide⟩ ⟨Nat.le_of_ble_eq_true rfl, Nat.le_of_ble_eq_true rfl⟩ (Nat.le_of_ble_eq_true rfl) rfl rfl dX6_copy_26 (fun r2 w2 ⟨q2, q2a, q2b, q2c, xe2, n_q2, n_q2a, n_q2b, n_q2c, nd_q2a_q2, nd_q2b_q2, nd_q2c_q2, dd_q2b_q2a, dd_q2c_q2a, dd_q2c_q2b, xh2, xkq2a, xkq2b, xkq2c, xf2⟩ => ?_)
    refine mg_widen (k := 4) (n := 1063) (by decide) (by decide) ?_
    rw [xe2]
    have nd_q2_ox : ox ≠ q2 := mw_nn hox n_q2
    have nd_q2_as : as ≠ q2 := mw_nn has n_q2
    have nd_q2_h0 : h0 ≠ q2 := mw_nn hh n_q2
    have nd_q2_ak : ak ≠ q2 := mw_nn h_ak n_q2
    have nd_q2_al : al ≠ q2 := mw_nn h_al n_q2
    have nd_q2_aw : aw ≠ q2 := mw_nn h_aw n_q2
    have nz_q2 : w q2 = none := (fr_w q2 ).symm.trans n_q2
    have nd_q2a_ox : ox ≠ q2a := mw_nn hox n_q2a
    have nd_q2a_as : as ≠ q2a := mw_nn has n_q2a
    have nd_q2a_h0 : h0 ≠ q2a := mw_nn hh n_q2a
    have nd_q2a_ak : ak ≠ q2a := mw_nn h_ak n_q2a
    have nd_q2a_al : al ≠ q2a := mw_nn h_al n_q2a
    have nd_q2a_aw : aw ≠ q2a := mw_nn h_aw n_q2a
    have nz_q2a : w q2a = none := (fr_w q2a ).symm.trans n_q2a
    have nd_q2b_ox : ox ≠ q2b := mw_nn hox n_q2b
    have nd_q2b_as : as ≠ q2b := mw_nn has n_q2b
    have nd_q2b_h0 : h0 ≠ q2b := mw_nn hh n_q2b
    have nd_q2b_ak : ak ≠ q2b := mw_nn h_ak n_q2b
    have nd_q2b_al : al ≠ q2b := mw_nn h_al n_q2b
    have nd_q2b_aw : aw ≠ q2b := mw_nn h_aw n_q2b
    have nz_q2b : w q2b = none := (fr_w q2b ).symm.trans n_q2b
    have nd_q2c_ox : ox ≠ q2c := mw_nn hox n_q2c
    have nd_q2c_as : as ≠ q2c := mw_nn has n_q2c
    have nd_q2c_h0 : h0 ≠ q2c := mw_nn hh n_q2c
    have nd_q2c_ak : ak ≠ q2c := mw_nn h_ak n_q2c
    have nd_q2c_al : al ≠ q2c := mw_nn h_al n_q2c
    have nd_q2c_aw : aw ≠ q2c := mw_nn h_aw n_q2c
    have nz_q2c : w q2c = none := (fr_w q2c ).symm.trans n_q2c
    have h_w2_ox : w2 ox = some (.inr (5, [.ref as, .int (nI md)])) := (xf2 ox (mw_nn hox n_q2) (mw_nn hox n_q2a) (mw_nn hox n_q2b) (mw_nn hox n_q2c)).trans hox
    have h_w2_as : w2 as = some (eR cS 8 g0) := (xf2 as (mw_nn has n_q2) (mw_nn has n_q2a) (mw_nn has n_q2b) (mw_nn has n_q2c)).trans has
    have h_w2_h0 : w2 h0 = some (.inr (3, [.int (nI 4), .int (nI k), .int (nI sd), .int tot, .int (nI mv), .ref ak, .ref al, .ref aw, .int er])) := (xf2 h0 (mw_nn hh n_q2) (mw_nn hh n_q2a) (mw_nn hh n_q2b) (mw_nn hh n_q2c)).trans hh
    have h_w2_ak : w2 ak = some (eI cI (31 * k) f) := (xf2 ak (mw_nn h_ak n_q2) (mw_nn h_ak n_q2a) (mw_nn h_ak n_q2b) (mw_nn h_ak n_q2c)).trans h_ak
    have h_w2_al : w2 al = some (eI cI 31 (lnF ln)) := (xf2 al (mw_nn h_al n_q2) (mw_nn h_al n_q2a) (mw_nn h_al n_q2b) (mw_nn h_al n_q2c)).trans h_al
    have h_w2_aw : w2 aw = some (eI cI 31 (lnF tr)) := (xf2 aw (mw_nn h_aw n_q2) (mw_nn h_aw n_q2a) (mw_nn h_aw n_q2b) (mw_nn h_aw n_q2c)).trans h_aw
    have fr_w2 : ∀ zz : Nat, zz ≠ q2 → zz ≠ q2a → zz ≠ q2b → zz ≠ q2c → w2 zz = w zz := fun zz g0 g1 g2 g3 => (xf2 zz g0 g1 g2 g3).trans (fr_w zz )
    refine mg_callV_i C h_w2_ox rfl (rest := []) (c_X6_keep_R D cI cS w2 ox as md q2 g0 (.int (nI 4)) (.int (nI k)) (.int (nI sd)) (.int tot) (.int (nI mv)) (.ref q2a) (.ref q2b) (.ref q2c) (.int er) h_w2_ox h_w2_as xh2 (by omega)) yq_X6_keep kw_103 kw_104 kw_105 ⟨by decide, by decide⟩ ⟨Nat.le_of_ble_eq_true rfl, Nat.le_of_ble_eq_true rfl⟩ (Nat.le_of_ble_eq_true rfl) rfl rfl dX6_copy_29 (fun r3 w3 ⟨xe3, xo3, xs3, xf3⟩ => ?_)
    refine mg_widen (k := 4) (n := 1063) (by decide) (by decide) ?_
    rw [xe3]
    have h_w3_h0 : w3 h0 = some (.inr (3, [.int (nI 4), .int (nI k), .int (nI sd), .int tot, .int (nI mv), .ref ak, .ref al, .ref aw, .int er])) := (xf3 h0 (mw_ci h_w2_h0 h_w2_ox (by decide)) (mw_oa h_w2_h0 h_w2_as)).trans h_w2_h0
    have h_w3_ak : w3 ak = some (eI cI (31 * k) f) := (xf3 ak (mw_ao h_w2_ak h_w2_ox) (mw_ir h_w2_ak h_w2_as)).trans h_w2_ak
    have h_w3_al : w3 al = some (eI cI 31 (lnF ln)) := (xf3 al (mw_ao h_w2_al h_w2_ox) (mw_ir h_w2_al h_w2_as)).trans h_w2_al
    have h_w3_aw : w3 aw = some (eI cI 31 (lnF tr)) := (xf3 aw (mw_ao h_w2_aw h_w2_ox) (mw_ir h_w2_aw h_w2_as)).trans h_w2_aw
    have h_w3_q2 : w3 q2 = some (.inr (3, [.int (nI 4), .int (nI k), .int (nI sd), .int tot, .int (nI mv), .ref q2a, .ref q2b, .ref q2c, .int er])) := (xf3 q2 (Ne.symm nd_q2_ox) (Ne.symm nd_q2_as)).trans xh2
    have h_w3_q2a : w3 q2a = some (eI cI (31 * k) (cpy0 f (fun _ => 0) (31 * k))) := (xf3 q2a (Ne.symm nd_q2a_ox) (Ne.symm nd_q2a_as)).trans xkq2a
    have h_w3_q2b : w3 q2b = some (eI cI 31 (cpy0 (lnF ln) (fun _ => 0) 31)) := (xf3 q2b (Ne.symm nd_q2b_ox) (Ne.symm nd_q2b_as)).trans xkq2b
    have h_w3_q2c : w3 q2c = some (eI cI 31 (cpy0 (lnF tr) (fun _ => 0) 31)) := (xf3 q2c (Ne.symm nd_q2c_ox) (Ne.symm nd_q2c_as)).trans xkq2c
    have fr_w3 : ∀ zz : Nat, zz ≠ q2 → zz ≠ q2a → zz ≠ q2b → zz ≠ q2c → zz ≠ ox → zz ≠ as → w3 zz = w zz := fun zz g0 g1 g2 g3 g4 g5 => (xf3 zz g4 g5).trans (fr_w2 zz g0 g1 g2 g3)
    exact hR _ _ _ _ dX6_copy_32 (Or.inr ⟨c_18, q2, q2a, q2b, q2c, rfl, nz_q2, nz_q2a, nz_q2b, nz_q2c, nd_q2a_q2, nd_q2b_q2, nd_q2c_q2, dd_q2b_q2a, dd_q2c_q2a, dd_q2c_q2b, xo3, xs3, h_w3_q2, h_w3_q2a, h_w3_q2b, h_w3_q2c, fun z q0 q1 q2 q3 q4 q5 => fr_w3 z q0 q1 q2 q3 q4 q5⟩)
  · refine mg_bipush C (v := (-3 : Int32)) dX6_copy_21 (by decide) ?_
    refine mg_widen (k := 4) (n := 1063) (by decide) (by decide) ?_
    exact hR _ _ _ _ dX6_copy_23 (Or.inl ⟨c_18, rfl, rfl⟩)
