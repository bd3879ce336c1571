set_option maxHeartbeats 4000000 in
set_option maxRecDepth 20000 in
theorem c_X7_none_in (D : va_G) (cI cS : ClassId) (w : mwT) (om md aso asi ase ato amo alo aro asr : Nat) (th : Int32)  (s : Nat) (hom : w om = some (.inr (6, [.int th, .int (nI md), .ref aso, .ref asi, .ref ase, .ref ato, .ref amo, .ref alo, .ref aro, .ref asr]))) (hmd : md ≤ 8) (hs : s < md) : mMi yX7_none cX7_none 2 (some .boolean) (rmL 2) [.ref om, .int (nI s)] D cI cS w (fun r w1 => r = nI 0 ∧ w1 = w) := by
  refine mMz.of (by decide) (Nat.le_of_ble_eq_true rfl) ?_
  intro X C hN hR
  refine mg_sub (lv' := [(0, .ref om), (1, .int (nI s))]) [0, 1] rfl ?_
  refine mg_iload_n C dX7_none_0 rfl ?_
  refine mg_iconst C (v := nI 0) dX7_none_1 (by decide) ?_
  refine mg_aload_n C dX7_none_2 rfl ?_
  refine mg_get C inT7 hom rfl 1 (by decide) kw_111 (Or.inl rfl) rfl dX7_none_3 ?_
  refine mg_iconst C (v := nI 1) dX7_none_6 (by decide) ?_
  refine mg_isub C (z := nI md - nI 1) dX7_none_7 rfl ?_
  refine mg_callS_i C (rest := []) (c_X7_in D cI cS w (nI s) (nI 0) (nI md - nI 1)) yq_X7_in kw_112 kw_113 ⟨by decide, by decide⟩ ⟨Nat.le_of_ble_eq_true rfl, Nat.le_of_ble_eq_true rfl⟩ (Nat.le_of_ble_eq_true rfl) rfl rfl dX7_none_8 (fun r1 w1 ⟨xa1, xk1⟩ => ?_)
  rw [xk1]
  rcases xa1 with ⟨ra1, hy_i⟩ | ⟨ra1, hy_i⟩
  · rw [ra1]
    refine mg_ifN_ne C (tgt := 18) dX7_none_11 (by decide) (by decide) (fun c_11 => ?_) (fun c_11 => absurd c_11 (by decide))
    refine mg_iconst C (v := nI 0) dX7_none_18 (by decide) ?_
    exact hR _ _ _ _ dX7_none_19 (Or.inl rfl) ⟨rfl, rfl⟩
  · rw [ra1]
    refine mg_ifN_ne C (tgt := 18) dX7_none_11 (by decide) (by decide) (fun c_11 => absurd c_11 (by decide)) (fun c_11 => ?_)
    exact absurd ((in_ix (by omega)).mpr ⟨s, hs, rfl⟩) hy_i

set_option maxHeartbeats 4000000 in
set_option maxRecDepth 20000 in
theorem c_X7_none_no (D : va_G) (cI cS : ClassId) (w : mwT) (om md aso asi ase ato amo alo aro asr : Nat) (th : Int32)  (s : Int32) (hom : w om = some (.inr (6, [.int th, .int (nI md), .ref aso, .ref asi, .ref ase, .ref ato, .ref amo, .ref alo, .ref aro, .ref asr]))) (hmd : md ≤ 8) (hno : ¬ ixN md s) : mMi yX7_none cX7_none 2 (some .boolean) (rmL 2) [.ref om, .int s] D cI cS w (fun r w1 => r = nI 1 ∧ w1 = w) := by
  refine mMz.of (by decide) (Nat.le_of_ble_eq_true rfl) ?_
  intro X C hN hR
  refine mg_sub (lv' := [(0, .ref om), (1, .int s)]) [0, 1] rfl ?_
  refine mg_iload_n C dX7_none_0 rfl ?_
  refine mg_iconst C (v := nI 0) dX7_none_1 (by decide) ?_
  refine mg_aload_n C dX7_none_2 rfl ?_
  refine mg_get C inT7 hom rfl 1 (by decide) kw_111 (Or.inl rfl) rfl dX7_none_3 ?_
  refine mg_iconst C (v := nI 1) dX7_none_6 (by decide) ?_
  refine mg_isub C (z := nI md - nI 1) dX7_none_7 rfl ?_
  refine mg_callS_i C (rest := []) (c_X7_in D cI cS w s (nI 0) (nI md - nI 1)) yq_X7_in kw_112 kw_113 ⟨by decide, by decide⟩ ⟨Nat.le_of_ble_eq_true rfl, Nat.le_of_ble_eq_true rfl⟩ (Nat.le_of_ble_eq_true rfl) rfl rfl dX7_none_8 (fun r1 w1 ⟨xa1, xk1⟩ => ?_)
  rw [xk1]
  rcases xa1 with ⟨ra1, hy_i⟩ | ⟨ra1, hy_i⟩
  · rw [ra1]
    refine mg_ifN_ne C (tgt := 18) dX7_none_11 (by decide) (by decide) (fun c_11 => ?_) (fun c_11 => absurd c_11 (by decide))
    exact absurd ((in_ix (by omega)).mp hy_i) hno
  · rw [ra1]
    refine mg_ifN_ne C (tgt := 18) dX7_none_11 (by decide) (by decide) (fun c_11 => absurd c_11 (by decide)) (fun c_11 => ?_)
    refine mg_iconst C (v := nI 1) dX7_none_14 (by decide) ?_
    refine mg_goto C (tgt := 19) dX7_none_15 (by decide) ?_
    exact hR _ _ _ _ dX7_none_19 (Or.inr rfl) ⟨rfl, rfl⟩

set_option maxHeartbeats 4000000 in
set_option maxRecDepth 20000 in
theorem c_X7_isOf_a (D : va_G) (cI cS : ClassId) (w : mwT) (om md aso asi ase ato amo alo aro asr : Nat) (th : Int32) (so : Nat → Nat) (s kd one oth : Nat) (hom : w om = some (.inr (6, [.int th, .int (nI md), .ref aso, .ref asi, .ref ase, .ref ato, .ref amo, .ref alo, .ref aro, .ref asr]))) (h_aso : w aso = some (eI cI 8 (lnF so))) (hmd : md ≤ 8) (hs : s < md) (hkd : so s = kd) (hk9 : kd < 10) (h91 : one < 10) (h92 : oth < 10) (hk : kd = one) : mMi yX7_isOf cX7_isOf 4 (some .boolean) (rmL 3) [.ref om, .int (nI s), .int (nI one), .int (nI oth)] D cI cS w (fun r w1 => r = nI 1 ∧ w1 = w) := by
  refine mMz.of (by decide) (Nat.le_of_ble_eq_true rfl) ?_
  intro X C hN hR
  refine mg_sub (lv' := [(0, .ref om), (1, .int (nI s)), (2, .int (nI one)), (3, .int (nI oth))]) [0, 1, 2, 3] rfl ?_
  refine mg_aload_n C dX7_isOf_0 rfl ?_
  refine mg_iload_n C dX7_isOf_1 rfl ?_
  refine mg_callV_i C hom rfl (rest := []) (c_X7_none_in D cI cS w om md aso asi ase ato amo alo aro asr th  s hom hmd hs) yq_X7_none kw_197 kw_198 kw_199 ⟨by decide, by decide⟩ ⟨Nat.le_of_ble_eq_true rfl, Nat.le_of_ble_eq_true rfl⟩ (Nat.le_of_ble_eq_true rfl) rfl rfl dX7_isOf_2 (fun r1 w2 ⟨e_r1, e_w2⟩ => ?_)
  rw [e_w2, e_r1]
  refine mg_ifN_ne C (tgt := 32) dX7_isOf_5 (by decide) (by decide) (fun c_5 => absurd c_5 (by decide)) (fun c_5 => ?_)
  refine mg_aload_n C dX7_isOf_8 rfl ?_
  refine mg_get C inT7 hom rfl 2 (by decide) kw_20 (Or.inl rfl) rfl dX7_isOf_9 ?_
  refine mg_iload_n C dX7_isOf_12 rfl ?_
  refine mg_ialdN C h_aso (by omega) (by omega) dX7_isOf_13 ?_
  rw [show lnF so s = nI kd from congrArg nI hkd]
  refine mg_iload_n C dX7_isOf_14 rfl ?_
  refine mg_icmpN_eq C (tgt := 28) dX7_isOf_15 (by decide) (by omega) (by omega) (fun c_15 => ?_) (fun c_15 => absurd hk c_15)
  refine mg_iconst C (v := nI 1) dX7_isOf_28 (by decide) ?_
  refine mg_goto C (tgt := 33) dX7_isOf_29 (by decide) ?_
  exact hR _ _ _ _ dX7_isOf_33 (Or.inr rfl) ⟨rfl, rfl⟩

set_option maxHeartbeats 4000000 in
set_option maxRecDepth 20000 in
theorem c_X7_isOf_b (D : va_G) (cI cS : ClassId) (w : mwT) (om md aso asi ase ato amo alo aro asr : Nat) (th : Int32) (so : Nat → Nat) (s kd one oth : Nat) (hom : w om = some (.inr (6, [.int th, .int (nI md), .ref aso, .ref asi, .ref ase, .ref ato, .ref amo, .ref alo, .ref aro, .ref asr]))) (h_aso : w aso = some (eI cI 8 (lnF so))) (hmd : md ≤ 8) (hs : s < md) (hkd : so s = kd) (hk9 : kd < 10) (h91 : one < 10) (h92 : oth < 10) (hk1 : kd ≠ one) (hk : kd = oth) : mMi yX7_isOf cX7_isOf 4 (some .boolean) (rmL 3) [.ref om, .int (nI s), .int (nI one), .int (nI oth)] D cI cS w (fun r w1 => r = nI 1 ∧ w1 = w) := by
  refine mMz.of (by decide) (Nat.le_of_ble_eq_true rfl) ?_
  intro X C hN hR
  refine mg_sub (lv' := [(0, .ref om), (1, .int (nI s)), (2, .int (nI one)), (3, .int (nI oth))]) [0, 1, 2, 3] rfl ?_
  refine mg_aload_n C dX7_isOf_0 rfl ?_
  refine mg_iload_n C dX7_isOf_1 rfl ?_
  refine mg_callV_i C hom rfl (rest := []) (c_X7_none_in D cI cS w om md aso asi ase ato amo alo aro asr th  s hom hmd hs) yq_X7_none kw_197 kw_198 kw_199 ⟨by decide, by decide⟩ ⟨Nat.le_of_ble_eq_true rfl, Nat.le_of_ble_eq_true rfl⟩ (Nat.le_of_ble_eq_true rfl) rfl rfl dX7_isOf_2 (fun r1 w2 ⟨e_r1, e_w2⟩ => ?_)
  rw [e_w2, e_r1]
  refine mg_ifN_ne C (tgt := 32) dX7_isOf_5 (by decide) (by decide) (fun c_5 => absurd c_5 (by decide)) (fun c_5 => ?_)
  refine mg_aload_n C dX7_isOf_8 rfl ?_
  refine mg_get C inT7 hom rfl 2 (by decide) kw_20 (Or.inl rfl) rfl dX7_isOf_9 ?_
  refine mg_iload_n C dX7_isOf_12 rfl ?_
  refine mg_ialdN C h_aso (by omega) (by omega) dX7_isOf_13 ?_
  rw [show lnF so s = nI kd from congrArg nI hkd]
  refine mg_iload_n C dX7_isOf_14 rfl ?_
  refine mg_icmpN_eq C (tgt := 28) dX7_isOf_15 (by decide) (by omega) (by omega) (fun c_15 => absurd c_15 hk1) (fun c_15 => ?_)
  refine mg_aload_n C dX7_isOf_18 rfl ?_
  refine mg_get C inT7 hom rfl 2 (by decide) kw_20 (Or.inl rfl) rfl dX7_isOf_19 ?_
  refine mg_iload_n C dX7_isOf_22 rfl ?_
  refine mg_ialdN C h_aso (by omega) (by omega) dX7_isOf_23 ?_
  rw [show lnF so s = nI kd from congrArg nI hkd]
  refine mg_iload_n C dX7_isOf_24 rfl ?_
  refine mg_icmpN_ne C (tgt := 32) dX7_isOf_25 (by decide) (by omega) (by omega) (fun c_25 => absurd hk c_25) (fun c_25 => ?_)
  refine mg_iconst C (v := nI 1) dX7_isOf_28 (by decide) ?_
  refine mg_goto C (tgt := 33) dX7_isOf_29 (by decide) ?_
  exact hR _ _ _ _ dX7_isOf_33 (Or.inr rfl) ⟨rfl, rfl⟩

set_option maxHeartbeats 4000000 in
set_option maxRecDepth 20000 in
theorem c_X7_isOf_n (D : va_G) (cI cS : ClassId) (w : mwT) (om md aso asi ase ato amo alo aro asr : Nat) (th : Int32) (so : Nat → Nat) (s kd one oth : Nat) (hom : w om = some (.inr (6, [.int th, .int (nI md), .ref aso, .ref asi, .ref ase, .ref ato, .ref amo, .ref alo, .ref aro, .ref asr]))) (h_aso : w aso = some (eI cI 8 (lnF so))) (hmd : md ≤ 8) (hs : s < md) (hkd : so s = kd) (hk9 : kd < 10) (h91 : one < 10) (h92 : oth < 10) (hk1 : kd ≠ one) (hk : kd ≠ oth) : mMi yX7_isOf cX7_isOf 4 (some .boolean) (rmL 3) [.ref om, .int (nI s), .int (nI one), .int (nI oth)] D cI cS w (fun r w1 => r = nI 0 ∧ w1 = w) := by
  refine mMz.of (by decide) (Nat.le_of_ble_eq_true rfl) ?_
  intro X C hN hR
  refine mg_sub (lv' := [(0, .ref om), (1, .int (nI s)), (2, .int (nI one)), (3, .int (nI oth))]) [0, 1, 2, 3] rfl ?_
  refine mg_aload_n C dX7_isOf_0 rfl ?_
  refine mg_iload_n C dX7_isOf_1 rfl ?_
  refine mg_callV_i C hom rfl (rest := []) (c_X7_none_in D cI cS w om md aso asi ase ato amo alo aro asr th  s hom hmd hs) yq_X7_none kw_197 kw_198 kw_199 ⟨by decide, by decide⟩ ⟨Nat.le_of_ble_eq_true rfl, Nat.le_of_ble_eq_true rfl⟩ (Nat.le_of_ble_eq_true rfl) rfl rfl dX7_isOf_2 (fun r1 w2 ⟨e_r1, e_w2⟩ => ?_)
  rw [e_w2, e_r1]
  refine mg_ifN_ne C (tgt := 32) dX7_isOf_5 (by decide) (by decide) (fun c_5 => absurd c_5 (by decide)) (fun c_5 => ?_)
  refine mg_aload_n C dX7_isOf_8 rfl ?_
  refine mg_get C inT7 hom rfl 2 (by decide) kw_20 (Or.inl rfl) rfl dX7_isOf_9 ?_
  refine mg_iload_n C dX7_isOf_12 rfl ?_
  refine mg_ialdN C h_aso (by omega) (by omega) dX7_isOf_13 ?_
  rw [show lnF so s = nI kd from congrArg nI hkd]
  refine mg_iload_n C dX7_isOf_14 rfl ?_
  refine mg_icmpN_eq C (tgt := 28) dX7_isOf_15 (by decide) (by omega) (by omega) (fun c_15 => absurd c_15 hk1) (fun c_15 => ?_)
  refine mg_aload_n C dX7_isOf_18 rfl ?_
  refine mg_get C inT7 hom rfl 2 (by decide) kw_20 (Or.inl rfl) rfl dX7_isOf_19 ?_
  refine mg_iload_n C dX7_isOf_22 rfl ?_
  refine mg_ialdN C h_aso (by omega) (by omega) dX7_isOf_23 ?_
  rw [show lnF so s = nI kd from congrArg nI hkd]
  refine mg_iload_n C dX7_isOf_24 rfl ?_
  refine mg_icmpN_ne C (tgt := 32) dX7_isOf_25 (by decide) (by omega) (by omega) (fun c_25 => ?_) (fun c_25 => absurd c_25 hk)
  refine mg_iconst C (v := nI 0) dX7_isOf_32 (by decide) ?_
  exact hR _ _ _ _ dX7_isOf_33 (Or.inl rfl) ⟨rfl, rfl⟩

set_option maxHeartbeats 4000000 in
set_option maxRecDepth 20000 in
theorem c_X7_isOf_no (D : va_G) (cI cS : ClassId) (w : mwT) (om md aso asi ase ato amo alo aro asr : Nat) (th : Int32) (so : Nat → Nat) (s : Int32) (one oth : Nat) (hom : w om = some (.inr (6, [.int th, .int (nI md), .ref aso, .ref asi, .ref ase, .ref ato, .ref amo, .ref alo, .ref aro, .ref asr]))) (h_aso : w aso = some (eI cI 8 (lnF so))) (hmd : md ≤ 8) (hno : ¬ ixN md s) : mMi yX7_isOf cX7_isOf 4 (some .boolean) (rmL 3) [.ref om, .int s, .int (nI one), .int (nI oth)] D cI cS w (fun r w1 => r = nI 0 ∧ w1 = w) := by
  refine mMz.of (by decide) (Nat.le_of_ble_eq_true rfl) ?_
  intro X C hN hR
  refine mg_sub (lv' := [(0, .ref om), (1, .int s), (2, .int (nI one)), (3, .int (nI oth))]) [0, 1, 2, 3] rfl ?_
  refine mg_aload_n C dX7_isOf_0 rfl ?_
  refine mg_iload_n C dX7_isOf_1 rfl ?_
  refine mg_callV_i C hom rfl (rest := []) (c_X7_none_no D cI cS w om md aso asi ase ato amo alo aro asr th  s hom hmd hno) yq_X7_none kw_197 kw_198 kw_199 ⟨by decide, by decide⟩ ⟨Nat.le_of_ble_eq_true rfl, Nat.le_of_ble_eq_true rfl⟩ (Nat.le_of_ble_eq_true rfl) rfl rfl dX7_isOf_2 (fun r1 w2 ⟨e_r1, e_w2⟩ => ?_)
  rw [e_w2, e_r1]
  refine mg_ifN_ne C (tgt := 32) dX7_isOf_5 (by decide) (by decide) (fun c_5 => ?_) (fun c_5 => absurd c_5 (by decide))
  refine mg_iconst C (v := nI 0) dX7_isOf_32 (by decide) ?_
  exact hR _ _ _ _ dX7_isOf_33 (Or.inl rfl) ⟨rfl, rfl⟩

set_option maxHeartbeats 4000000 in
set_option maxRecDepth 20000 in
theorem c_X7_isBad_in (D : va_G) (cI cS : ClassId) (w : mwT) (om md aso asi ase ato amo alo aro asr : Nat) (th : Int32)  (s : Nat) (x : Int32) (hom : w om = some (.inr (6, [.int th, .int (nI md), .ref aso, .ref asi, .ref ase, .ref ato, .ref amo, .ref alo, .ref aro, .ref asr]))) (hmd : md ≤ 8) (hs : s < md) : mMi yX7_isBad cX7_isBad 4 (some .boolean) (rmL 3) [.ref om, .int (nI s), .int x, .int (nI 1)] D cI cS w (fun r w1 => ((r = nI 1 ∧ ¬ rg 9999 x) ∨ (r = nI 0 ∧ rg 9999 x)) ∧ w1 = w) := by
  refine mMz.of (by decide) (Nat.le_of_ble_eq_true rfl) ?_
  intro X C hN hR
  refine mg_sub (lv' := [(0, .ref om), (1, .int (nI s)), (2, .int x), (3, .int (nI 1))]) [0, 1, 2, 3] rfl ?_
  refine mg_aload_n C dX7_isBad_0 rfl ?_
  refine mg_iload_n C dX7_isBad_1 rfl ?_
  refine mg_callV_i C hom rfl (rest := []) (c_X7_none_in D cI cS w om md aso asi ase ato amo alo aro asr th  s hom hmd hs) yq_X7_none kw_197 kw_198 kw_199 ⟨by decide, by decide⟩ ⟨Nat.le_of_ble_eq_true rfl, Nat.le_of_ble_eq_true rfl⟩ (Nat.le_of_ble_eq_true rfl) rfl rfl dX7_isBad_2 (fun r1 w2 ⟨e_r1, e_w2⟩ => ?_)
  rw [e_w2, e_r1]
  refine mg_ifN_ne C (tgt := 23) dX7_isBad_5 (by decide) (by decide) (fun c_5 => absurd c_5 (by decide)) (fun c_5 => ?_)
  refine mg_iload_n C dX7_isBad_8 rfl ?_
  refine mg_iconst C (v := nI 0) dX7_isBad_9 (by decide) ?_
  refine mg_sipush C (v := nI 9999) dX7_isBad_10 (by decide) ?_
  refine mg_callS_i C (rest := []) (c_X7_in D cI cS w x (nI 0) (nI 9999)) yq_X7_in kw_112 kw_113 ⟨by decide, by decide⟩ ⟨Nat.le_of_ble_eq_true rfl, Nat.le_of_ble_eq_true rfl⟩ (Nat.le_of_ble_eq_true rfl) rfl rfl dX7_isBad_13 (fun r3 w3 ⟨xa3, xk3⟩ => ?_)
  rw [xk3]
  rcases xa3 with ⟨ra3, hy_k⟩ | ⟨ra3, hy_k⟩
  · rw [ra3]
    refine mg_ifN_eq C (tgt := 23) dX7_isBad_16 (by decide) (by decide) (fun c_16 => absurd c_16 (by decide)) (fun c_16 => ?_)
    refine mg_iload_n C dX7_isBad_19 rfl ?_
    refine mg_ifN_ne C (tgt := 27) dX7_isBad_20 (by decide) (by decide) (fun c_20 => ?_) (fun c_20 => absurd c_20 (by decide))
    refine mg_iconst C (v := nI 0) dX7_isBad_27 (by decide) ?_
    exact hR _ _ _ _ dX7_isBad_28 (Or.inl rfl) ⟨Or.inr ⟨rfl, (in_rg (by decide)).mp hy_k⟩, rfl⟩
  · rw [ra3]
    refine mg_ifN_eq C (tgt := 23) dX7_isBad_16 (by decide) (by decide) (fun c_16 => ?_) (fun c_16 => absurd c_16 (by decide))
    refine mg_iconst C (v := nI 1) dX7_isBad_23 (by decide) ?_
    refine mg_goto C (tgt := 28) dX7_isBad_24 (by decide) ?_
    exact hR _ _ _ _ dX7_isBad_28 (Or.inr rfl) ⟨Or.inl ⟨rfl, fun q => hy_k ((in_rg (by decide)).mpr q)⟩, rfl⟩

set_option maxHeartbeats 4000000 in
set_option maxRecDepth 20000 in
theorem c_X7_isBad_ns (D : va_G) (cI cS : ClassId) (w : mwT) (om md aso asi ase ato amo alo aro asr : Nat) (th : Int32)  (s : Nat) (x : Int32) (hom : w om = some (.inr (6, [.int th, .int (nI md), .ref aso, .ref asi, .ref ase, .ref ato, .ref amo, .ref alo, .ref aro, .ref asr]))) (hmd : md ≤ 8) (hs : s < md) : mMi yX7_isBad cX7_isBad 4 (some .boolean) (rmL 3) [.ref om, .int (nI s), .int x, .int (nI 0)] D cI cS w (fun r w1 => r = nI 1 ∧ w1 = w) := by
  refine mMz.of (by decide) (Nat.le_of_ble_eq_true rfl) ?_
  intro X C hN hR
  refine mg_sub (lv' := [(0, .ref om), (1, .int (nI s)), (2, .int x), (3, .int (nI 0))]) [0, 1, 2, 3] rfl ?_
  refine mg_aload_n C dX7_isBad_0 rfl ?_
  refine mg_iload_n C dX7_isBad_1 rfl ?_
  refine mg_callV_i C hom rfl (rest := []) (c_X7_none_in D cI cS w om md aso asi ase ato amo alo aro asr th  s hom hmd hs) yq_X7_none kw_197 kw_198 kw_199 ⟨by decide, by decide⟩ ⟨Nat.le_of_ble_eq_true rfl, Nat.le_of_ble_eq_true rfl⟩ (Nat.le_of_ble_eq_true rfl) rfl rfl dX7_isBad_2 (fun r1 w2 ⟨e_r1, e_w2⟩ => ?_)
  rw [e_w2, e_r1]
  refine mg_ifN_ne C (tgt := 23) dX7_isBad_5 (by decide) (by decide) (fun c_5 => absurd c_5 (by decide)) (fun c_5 => ?_)
  refine mg_iload_n C dX7_isBad_8 rfl ?_
  refine mg_iconst C (v := nI 0) dX7_isBad_9 (by decide) ?_
  refine mg_sipush C (v := nI 9999) dX7_isBad_10 (by decide) ?_
  refine mg_callS_i C (rest := []) (c_X7_in D cI cS w x (nI 0) (nI 9999)) yq_X7_in kw_112 kw_113 ⟨by decide, by decide⟩ ⟨Nat.le_of_ble_eq_true rfl, Nat.le_of_ble_eq_true rfl⟩ (Nat.le_of_ble_eq_true rfl) rfl rfl dX7_isBad_13 (fun r3 w3 ⟨xa3, xk3⟩ => ?_)
  rw [xk3]
  rcases xa3 with ⟨ra3, hy_k⟩ | ⟨ra3, hy_k⟩
  · rw [ra3]
    refine mg_ifN_eq C (tgt := 23) dX7_isBad_16 (by decide) (by decide) (fun c_16 => absurd c_16 (by decide)) (fun c_16 => ?_)
    refine mg_iload_n C dX7_isBad_19 rfl ?_
    refine mg_ifN_ne C (tgt := 27) dX7_isBad_20 (by decide) (by decide) (fun c_20 => absurd c_20 (by decide)) (fun c_20 => ?_)
    refine mg_iconst C (v := nI 1) dX7_isBad_23 (by decide) ?_
    refine mg_goto C (tgt := 28) dX7_isBad_24 (by decide) ?_
    exact hR _ _ _ _ dX7_isBad_28 (Or.inr rfl) ⟨rfl, rfl⟩
  · rw [ra3]
    refine mg_ifN_eq C (tgt := 23) dX7_isBad_16 (by decide) (by decide) (fun c_16 => ?_) (fun c_16 => absurd c_16 (by decide))
    refine mg_iconst C (v := nI 1) dX7_isBad_23 (by decide) ?_
    refine mg_goto C (tgt := 28) dX7_isBad_24 (by decide) ?_
    exact hR _ _ _ _ dX7_isBad_28 (Or.inr rfl) ⟨rfl, rfl⟩

set_option maxHeartbeats 4000000 in
set_option maxRecDepth 20000 in
theorem c_X7_isBad_no (D : va_G) (cI cS : ClassId) (w : mwT) (om md aso asi ase ato amo alo aro asr : Nat) (th : Int32)  (s x o : Int32) (hom : w om = some (.inr (6, [.int th, .int (nI md), .ref aso, .ref asi, .ref ase, .ref ato, .ref amo, .ref alo, .ref aro, .ref asr]))) (hmd : md ≤ 8) (hno : ¬ ixN md s) : mMi yX7_isBad cX7_isBad 4 (some .boolean) (rmL 3) [.ref om, .int s, .int x, .int o] D cI cS w (fun r w1 => r = nI 1 ∧ w1 = w) := by
  refine mMz.of (by decide) (Nat.le_of_ble_eq_true rfl) ?_
  intro X C hN hR
  refine mg_sub (lv' := [(0, .ref om), (1, .int s), (2, .int x), (3, .int o)]) [0, 1, 2, 3] rfl ?_
  refine mg_aload_n C dX7_isBad_0 rfl ?_
  refine mg_iload_n C dX7_isBad_1 rfl ?_
  refine mg_callV_i C hom rfl (rest := []) (c_X7_none_no D cI cS w om md aso asi ase ato amo alo aro asr th  s hom hmd hno) yq_X7_none kw_197 kw_198 kw_199 ⟨by decide, by decide⟩ ⟨Nat.le_of_ble_eq_true rfl, Nat.le_of_ble_eq_true rfl⟩ (Nat.le_of_ble_eq_true rfl) rfl rfl dX7_isBad_2 (fun r1 w2 ⟨e_r1, e_w2⟩ => ?_)
  rw [e_w2, e_r1]
  refine mg_ifN_ne C (tgt := 23) dX7_isBad_5 (by decide) (by decide) (fun c_5 => ?_) (fun c_5 => absurd c_5 (by decide))
  refine mg_iconst C (v := nI 1) dX7_isBad_23 (by decide) ?_
  refine mg_goto C (tgt := 28) dX7_isBad_24 (by decide) ?_
  exact hR _ _ _ _ dX7_isBad_28 (Or.inr rfl) ⟨rfl, rfl⟩

set_option maxHeartbeats 4000000 in
set_option maxRecDepth 20000 in
theorem c_X7_empty (D : va_G) (cI cS : ClassId) (w : mwT) (om md aso asi ase ato amo alo aro asr : Nat) (th : Int32) (to : Nat → Int32) (mo : Nat → Nat) (lo : Nat → Int32) (ro : Nat → Int32) (tg : Nat → Nat) (s : Nat) (hom : w om = some (.inr (6, [.int th, .int (nI md), .ref aso, .ref asi, .ref ase, .ref ato, .ref amo, .ref alo, .ref aro, .ref asr]))) (h_ato : w ato = some (eI cI 8 to)) (h_amo : w amo = some (eI cI 8 (lnF mo))) (h_alo : w alo = some (eI cI 8 lo)) (h_aro : w aro = some (eI cI 9600 ro)) (hs8 : s < 8) (t_ato : tg ato = 4) (t_amo : tg amo = 5) (t_alo : tg alo = 6) (t_aro : tg aro = 7) : mMv yX7_empty cX7_empty 3 none (rmL 1) [.ref om, .int (nI s)] D cI cS w (fun w1 => w1 ato = some (eI cI 8 (upd to s (nI 0))) ∧ w1 amo = some (eI cI 8 (lnF (updN mo s 0))) ∧ w1 alo = some (eI cI 8 (upd lo s (nI 0))) ∧ w1 aro = some (eI cI 9600 (zrM ro s 1200)) ∧ ∀ z : Nat, z ≠ ato → z ≠ amo → z ≠ alo → z ≠ aro → w1 z = w z) := by
  refine mMv.of (by decide) (Nat.le_of_ble_eq_true rfl) ?_
  intro X C hN hR
  have fr_w : ∀ zz : Nat, w zz = w zz := fun _ => rfl
  refine mg_sub (lv' := [(0, .ref om), (1, .int (nI s))]) [0, 1] rfl ?_
  refine mg_aload_n C dX7_empty_0 rfl ?_
  refine mg_get C inT7 hom rfl 5 (by decide) kw_23 (Or.inl rfl) rfl dX7_empty_1 ?_
  refine mg_iload_n C dX7_empty_4 rfl ?_
  refine mg_iconst C (v := nI 0) dX7_empty_5 (by decide) ?_
  refine mg_iastN C h_ato (by omega) (by omega) dX7_empty_6 (fun w1 e_w1 => ?_)
  have h_w1_om : w1 om = some (.inr (6, [.int th, .int (nI md), .ref aso, .ref asi, .ref ase, .ref ato, .ref amo, .ref alo, .ref aro, .ref asr])) := (congrFun e_w1 _).trans ((mwu_ne (mw_oa hom h_ato)).trans hom)
  have h_w1_ato : w1 ato = some (eI cI 8 (upd to s (nI 0))) := (congrFun e_w1 _).trans mwu_eq
  have h_w1_amo : w1 amo = some (eI cI 8 (lnF mo)) := (congrFun e_w1 _).trans ((mwu_ne (Ne.symm (tne t_ato t_amo (by decide)))).trans h_amo)
  have h_w1_alo : w1 alo = some (eI cI 8 lo) := (congrFun e_w1 _).trans ((mwu_ne (Ne.symm (tne t_ato t_alo (by decide)))).trans h_alo)
  have h_w1_aro : w1 aro = some (eI cI 9600 ro) := (congrFun e_w1 _).trans ((mwu_ne (Ne.symm (tne t_ato t_aro (by decide)))).trans h_aro)
  have fr_w1 : ∀ zz : Nat, zz ≠ ato → w1 zz = w zz := fun zz g0 => (congrFun e_w1 zz).trans ((mwu_ne g0).trans (fr_w zz ))
  refine mg_aload_n C dX7_empty_7 rfl ?_
  refine mg_get C inT7 h_w1_om rfl 6 (by decide) kw_24 (Or.inl rfl) rfl dX7_empty_8 ?_
  refine mg_iload_n C dX7_empty_11 rfl ?_
  refine mg_iconst C (v := nI 0) dX7_empty_12 (by decide) ?_
  refine mg_iastN C h_w1_amo (by omega) (by omega) dX7_empty_13 (fun w2 e_w2 => ?_)
  rw [upd_lnF] at e_w2
  have h_w2_om : w2 om = some (.inr (6, [.int th, .int (nI md), .ref aso, .ref asi, .ref ase, .ref ato, .ref amo, .ref alo, .ref aro, .ref asr])) := (congrFun e_w2 _).trans ((mwu_ne (mw_oa h_w1_om h_w1_amo)).trans h_w1_om)
  have h_w2_ato : w2 ato = some (eI cI 8 (upd to s (nI 0))) := (congrFun e_w2 _).trans ((mwu_ne (tne t_ato t_amo (by decide))).trans h_w1_ato)
  have h_w2_amo : w2 amo = some (eI cI 8 (lnF (updN mo s 0))) := (congrFun e_w2 _).trans mwu_eq
  have h_w2_alo : w2 alo = some (eI cI 8 lo) := (congrFun e_w2 _).trans ((mwu_ne (Ne.symm (tne t_amo t_alo (by decide)))).trans h_w1_alo)
  have h_w2_aro : w2 aro = some (eI cI 9600 ro) := (congrFun e_w2 _).trans ((mwu_ne (Ne.symm (tne t_amo t_aro (by decide)))).trans h_w1_aro)
  have fr_w2 : ∀ zz : Nat, zz ≠ ato → zz ≠ amo → w2 zz = w zz := fun zz g0 g1 => (congrFun e_w2 zz).trans ((mwu_ne g1).trans (fr_w1 zz g0))
  refine mg_aload_n C dX7_empty_14 rfl ?_
  refine mg_get C inT7 h_w2_om rfl 7 (by decide) kw_25 (Or.inl rfl) rfl dX7_empty_15 ?_
  refine mg_iload_n C dX7_empty_18 rfl ?_
  refine mg_iconst C (v := nI 0) dX7_empty_19 (by decide) ?_
  refine mg_iastN C h_w2_alo (by omega) (by omega) dX7_empty_20 (fun w3 e_w3 => ?_)
  have h_w3_om : w3 om = some (.inr (6, [.int th, .int (nI md), .ref aso, .ref asi, .ref ase, .ref ato, .ref amo, .ref alo, .ref aro, .ref asr])) := (congrFun e_w3 _).trans ((mwu_ne (mw_oa h_w2_om h_w2_alo)).trans h_w2_om)
  have h_w3_ato : w3 ato = some (eI cI 8 (upd to s (nI 0))) := (congrFun e_w3 _).trans ((mwu_ne (tne t_ato t_alo (by decide))).trans h_w2_ato)
  have h_w3_amo : w3 amo = some (eI cI 8 (lnF (updN mo s 0))) := (congrFun e_w3 _).trans ((mwu_ne (tne t_amo t_alo (by decide))).trans h_w2_amo)
  have h_w3_alo : w3 alo = some (eI cI 8 (upd lo s (nI 0))) := (congrFun e_w3 _).trans mwu_eq
  have h_w3_aro : w3 aro = some (eI cI 9600 ro) := (congrFun e_w3 _).trans ((mwu_ne (Ne.symm (tne t_alo t_aro (by decide)))).trans h_w2_aro)
  have fr_w3 : ∀ zz : Nat, zz ≠ ato → zz ≠ amo → zz ≠ alo → w3 zz = w zz := fun zz g0 g1 g2 => (congrFun e_w3 zz).trans ((mwu_ne g2).trans (fr_w2 zz g0 g1))
  refine mg_iconst C (v := nI 0) dX7_empty_21 (by decide) ?_
  refine mg_istore_n C (lv' := [(2, .int (nI 0)), (0, .ref om), (1, .int (nI s))]) dX7_empty_22 rfl (by decide) rfl ?_
  have h9 : w3 aro = some (eI cI 9600 (zrM ro s 0)) := by rw [h_w3_aro, zrM_0]
  have L23 : ∀ (M23 : Nat) (nz : Nat), 1200 - nz < M23 → (nz ≤ 1200) → ∀ (w4 : mwT), w4 om = some (.inr (6, [.int th, .int (nI md), .ref aso, .ref asi, .ref ase, .ref ato, .ref amo, .ref alo, .ref aro, .ref asr])) → w4 ato = some (eI cI 8 (upd to s (nI 0))) → w4 amo = some (eI cI 8 (lnF (updN mo s 0))) → w4 alo = some (eI cI 8 (upd lo s (nI 0))) → w4 aro = some (eI cI 9600 (zrM ro s nz)) → (∀ zz : Nat, zz ≠ ato → zz ≠ amo → zz ≠ alo → zz ≠ aro → w4 zz = w zz) → mwG X 0 0 w4 [(0, .ref om), (1, .int (nI s)), (2, .int (nI nz))] [] 23 := by
    intro M23
    induction M23 with
    | zero => intro nz hm23; exact absurd hm23 (Nat.not_lt_zero _)
    | succ M23 ih23 =>
      intro nz hm23 hnz w4 h_w4_om h_w4_ato h_w4_amo h_w4_alo h_w4_aro fr_w4
      refine mg_iload_n C dX7_empty_23 rfl ?_
      refine mg_sipush C (v := nI 1200) dX7_empty_24 (by decide) ?_
      refine mg_icmpN_ge C (tgt := 49) dX7_empty_27 (by decide) (by omega) (by omega) (fun c_27 => ?_) (fun c_27 => ?_)
      · have en : nz = 1200 := by omega
        rw [en] at h_w4_aro
        exact hR _ _ _ dX7_empty_49 ⟨h_w4_ato, h_w4_amo, h_w4_alo, h_w4_aro, fun z q0 q1 q2 q3 => fr_w4 z q0 q1 q2 q3⟩
      · refine mg_aload_n C dX7_empty_30 rfl ?_
        refine mg_get C inT7 h_w4_om rfl 8 (by decide) kw_26 (Or.inl rfl) rfl dX7_empty_31 ?_
        refine mg_sipush C (v := nI 1200) dX7_empty_34 (by decide) ?_
        refine mg_iload_n C dX7_empty_37 rfl ?_
        refine mg_imul C (z := nI (1200 * s)) dX7_empty_38 (pk_mul _ _) ?_
        refine mg_iload_n C dX7_empty_39 rfl ?_
        refine mg_iadd C (z := nI ((1200 * s) + nz)) dX7_empty_40 (nI_add _ _) ?_
        refine mg_iconst C (v := nI 0) dX7_empty_41 (by decide) ?_
        refine mg_iastN C h_w4_aro (by omega) (by omega) dX7_empty_42 (fun w5 e_w5 => ?_)
        have h_w5_om : w5 om = some (.inr (6, [.int th, .int (nI md), .ref aso, .ref asi, .ref ase, .ref ato, .ref amo, .ref alo, .ref aro, .ref asr])) := (congrFun e_w5 _).trans ((mwu_ne (mw_oa h_w4_om h_w4_aro)).trans h_w4_om)
        have h_w5_ato : w5 ato = some (eI cI 8 (upd to s (nI 0))) := (congrFun e_w5 _).trans ((mwu_ne (tne t_ato t_aro (by decide))).trans h_w4_ato)
        have h_w5_amo : w5 amo = some (eI cI 8 (lnF (updN mo s 0))) := (congrFun e_w5 _).trans ((mwu_ne (tne t_amo t_aro (by decide))).trans h_w4_amo)
        have h_w5_alo : w5 alo = some (eI cI 8 (upd lo s (nI 0))) := (congrFun e_w5 _).trans ((mwu_ne (tne t_alo t_aro (by decide))).trans h_w4_alo)
        have h_w5_aro : w5 aro = some (eI cI 9600 (upd (zrM ro s nz) ((1200 * s) + nz) (nI 0))) := (congrFun e_w5 _).trans mwu_eq
        have fr_w5 : ∀ zz : Nat, zz ≠ ato → zz ≠ amo → zz ≠ alo → zz ≠ aro → w5 zz = w zz := fun zz g0 g1 g2 g3 => (congrFun e_w5 zz).trans ((mwu_ne g3).trans (fr_w4 zz g0 g1 g2 g3))
        refine mg_iinc C (v := nI (nz + 1)) (lv' := [(2, .int (nI (nz + 1))), (0, .ref om), (1, .int (nI s))]) dX7_empty_43 rfl (ni_inc _) (by decide) rfl ?_
        refine mg_goto C (tgt := 23) dX7_empty_46 (by decide) ?_
        have h9 : w5 aro = some (eI cI 9600 (zrM ro s (nz + 1))) := by rw [h_w5_aro]; exact congrArg (fun q => some (eI cI 9600 q)) (zrM_s ro s nz)
        refine mg_sub (lv' := [(0, .ref om), (1, .int (nI s)), (2, .int (nI (nz + 1)))]) [1, 2, 0] rfl ?_
        exact ih23 ((nz + 1)) (by omega) (by omega) w5 h_w5_om h_w5_ato h_w5_amo h_w5_alo h9 (fun zz g0 g1 g2 g3 => fr_w5 zz g0 g1 g2 g3)
  refine mg_sub (lv' := [(0, .ref om), (1, .int (nI s)), (2, .int (nI 0))]) [1, 2, 0] rfl ?_
  exact L23 (_ + 1) 0 (Nat.lt_succ_self _) (Nat.zero_le _) w3 h_w3_om h_w3_ato h_w3_amo h_w3_alo h9 (fun zz g0 g1 g2 g3 => fr_w3 zz g0 g1 g2)

set_option maxHeartbeats 4000000 in
set_option maxRecDepth 20000 in
theorem c_X7_weightTo (D : va_G) (cI cS : ClassId) (w : mwT) (om md aso asi ase ato amo alo aro asr : Nat) (th : Int32) (ro : Nat → Int32) (s k : Nat) (f : Nat → Int32) (ln tr : Nat → Nat) (er x : Int32) (hom : w om = some (.inr (6, [.int th, .int (nI md), .ref aso, .ref asi, .ref ase, .ref ato, .ref amo, .ref alo, .ref aro, .ref asr]))) (h_aro : w aro = some (eI cI 9600 ro)) (hs8 : s < 8) (hk2 : k ≤ 32) (hln : ∀ c, c < 31 → ln c < k) (hr : RkM ro s k (f, ln, tr, er)) : mMi yX7_weightTo cX7_weightTo 6 (some .int) (rmL 2) [.ref om, .int (nI s), .int x] D cI cS w (fun r w1 => r = wO f ln k x 31 ∧ w1 = w) := by
  refine mMi.of (by decide) (Nat.le_of_ble_eq_true rfl) ?_
  intro X C hN hR
  refine mg_sub (lv' := [(0, .ref om), (1, .int (nI s)), (2, .int x)]) [0, 1, 2] rfl ?_
  refine mg_iconst C (v := nI 0) dX7_weightTo_0 (by decide) ?_
  refine mg_istore_n C (lv' := [(3, .int (nI 0)), (0, .ref om), (1, .int (nI s)), (2, .int x)]) dX7_weightTo_1 rfl (by decide) rfl ?_
  refine mg_iconst C (v := nI 0) dX7_weightTo_2 (by decide) ?_
  refine mg_istore C (lv' := [(4, .int (nI 0)), (3, .int (nI 0)), (0, .ref om), (1, .int (nI s)), (2, .int x)]) dX7_weightTo_3 (by decide) rfl ?_
  have L5 : ∀ (M5 : Nat) (bz : Nat), 31 - bz < M5 → (bz ≤ 31) → mwG X 0 0 w [(0, .ref om), (1, .int (nI s)), (2, .int x), (3, .int (wO f ln k x bz)), (4, .int (nI bz))] [] 5 := by
    intro M5
    induction M5 with
    | zero => intro bz hm5; exact absurd hm5 (Nat.not_lt_zero _)
    | succ M5 ih5 =>
      intro bz hm5 hbz
      refine mg_iload C dX7_weightTo_5 rfl ?_
      refine mg_bipush C (v := nI 31) dX7_weightTo_7 (by decide) ?_
      refine mg_icmpN_ge C (tgt := 74) dX7_weightTo_9 (by decide) (by omega) (by omega) (fun c_9 => ?_) (fun c_9 => ?_)
      · refine mg_iload_n C dX7_weightTo_74 rfl ?_
        have eb : bz = 31 := by omega
        exact hR _ _ _ _ dX7_weightTo_75 ⟨by rw [eb], rfl⟩
      · have hlb := hln bz (by omega)
        refine mg_iconst C (v := nI 0) dX7_weightTo_12 (by decide) ?_
        refine mg_istore C (lv' := [(5, .int (nI 0)), (0, .ref om), (1, .int (nI s)), (2, .int x), (3, .int (wO f ln k x bz)), (4, .int (nI bz))]) dX7_weightTo_13 (by decide) rfl ?_
        have L15 : ∀ (M15 : Nat) (iz : Nat), ln bz - iz < M15 → (iz ≤ ln bz) → mwG X 0 0 w [(0, .ref om), (1, .int (nI s)), (2, .int x), (3, .int (wI f k bz x (wO f ln k x bz) iz)), (4, .int (nI bz)), (5, .int (nI iz))] [] 15 := by
          intro M15
          induction M15 with
          | zero => intro iz hm15; exact absurd hm15 (Nat.not_lt_zero _)
          | succ M15 ih15 =>
            intro iz hm15 hiz
            refine mg_iload C dX7_weightTo_15 rfl ?_
            refine mg_aload_n C dX7_weightTo_17 rfl ?_
            refine mg_get C inT7 hom rfl 8 (by decide) kw_26 (Or.inl rfl) rfl dX7_weightTo_18 ?_
            refine mg_sipush C (v := nI 1200) dX7_weightTo_21 (by decide) ?_
            refine mg_iload_n C dX7_weightTo_24 rfl ?_
            refine mg_imul C (z := nI (1200 * s)) dX7_weightTo_25 (pk_mul _ _) ?_
            refine mg_iload C dX7_weightTo_26 rfl ?_
            refine mg_iadd C (z := nI ((1200 * s) + bz)) dX7_weightTo_28 (nI_add _ _) ?_
            refine mg_ialdN C h_aro (by omega) (by omega) dX7_weightTo_29 ?_
            rw [show ro (1200 * s + bz) = nI (ln bz) from hr.1 bz (by omega)]
            refine mg_icmpN_ge C (tgt := 68) dX7_weightTo_30 (by decide) (by omega) (by omega) (fun c_30 => ?_) (fun c_30 => ?_)
            · have ei : iz = ln bz := by omega
              rw [ei]
              refine mg_iinc C (v := nI (bz + 1)) (lv' := [(4, .int (nI (bz + 1))), (0, .ref om), (1, .int (nI s)), (2, .int x), (3, .int (wO f ln k x (bz + 1))), (5, .int (nI (ln bz)))]) dX7_weightTo_68 rfl (ni_inc _) (by decide) rfl ?_
              refine mg_goto C (tgt := 5) dX7_weightTo_71 (by decide) ?_
              refine mg_sub (lv' := [(0, .ref om), (1, .int (nI s)), (2, .int x), (3, .int (wO f ln k x (bz + 1))), (4, .int (nI (bz + 1)))]) [1, 2, 3, 4, 0] rfl ?_
              exact ih5 ((bz + 1)) (by omega) (by omega)
            · refine mg_aload_n C dX7_weightTo_33 rfl ?_
              refine mg_get C inT7 hom rfl 8 (by decide) kw_26 (Or.inl rfl) rfl dX7_weightTo_34 ?_
              refine mg_aload_n C dX7_weightTo_37 rfl ?_
              refine mg_iload_n C dX7_weightTo_38 rfl ?_
              refine mg_iload C dX7_weightTo_39 rfl ?_
              refine mg_iload C dX7_weightTo_41 rfl ?_
              refine mg_callV_i C hom rfl (rest := [.ref aro]) (c_X7_keyAt D cI cS w om md aso asi ase ato amo alo aro asr th  s bz iz hom) yq_X7_keyAt kw_371 kw_372 kw_373 ⟨by decide, by decide⟩ ⟨Nat.le_of_ble_eq_true rfl, Nat.le_of_ble_eq_true rfl⟩ (Nat.le_of_ble_eq_true rfl) rfl rfl dX7_weightTo_43 (fun r1 w2 ⟨e_r1, e_w2⟩ => ?_)
              rw [e_w2, e_r1]
              refine mg_ialdN C h_aro (by omega) (by omega) dX7_weightTo_46 ?_
              rw [show ro (1200 * s + 100 + 32 * bz + iz) = f (bz * k + iz) from hr.2.2 bz iz (by omega) (show iz < ln bz by omega)]
              refine mg_iload_n C dX7_weightTo_47 rfl ?_
              refine mg_icmp_gt C (tgt := 60) dX7_weightTo_48 (by decide) (fun c_48 => ?_) (fun c_48 => ?_)
              · refine mg_iload_n C dX7_weightTo_60 rfl ?_
                refine mg_istore_n C (lv' := [(3, .int (wI f k bz x (wO f ln k x bz) iz)), (0, .ref om), (1, .int (nI s)), (2, .int x), (4, .int (nI bz)), (5, .int (nI iz))]) dX7_weightTo_61 rfl (by decide) rfl ?_
                have ew : wI f k bz x (wO f ln k x bz) (iz + 1) = wI f k bz x (wO f ln k x bz) iz := (if_pos c_48)
                refine mg_lv (lv' := [(3, .int (wI f k bz x (wO f ln k x bz) (iz + 1))), (0, .ref om), (1, .int (nI s)), (2, .int x), (4, .int (nI bz)), (5, .int (nI iz))]) (by rw [ew]) ?_
                refine mg_iinc C (v := nI (iz + 1)) (lv' := [(5, .int (nI (iz + 1))), (3, .int (wI f k bz x (wO f ln k x bz) (iz + 1))), (0, .ref om), (1, .int (nI s)), (2, .int x), (4, .int (nI bz))]) dX7_weightTo_62 rfl (ni_inc _) (by decide) rfl ?_
                refine mg_goto C (tgt := 15) dX7_weightTo_65 (by decide) ?_
                refine mg_sub (lv' := [(0, .ref om), (1, .int (nI s)), (2, .int x), (3, .int (wI f k bz x (wO f ln k x bz) (iz + 1))), (4, .int (nI bz)), (5, .int (nI (iz + 1)))]) [2, 3, 4, 1, 5, 0] rfl ?_
                exact ih15 ((iz + 1)) (by omega) (by omega)
              · refine mg_iload_n C dX7_weightTo_51 rfl ?_
                refine mg_iconst C (v := nI 1) dX7_weightTo_52 (by decide) ?_
                refine mg_iload C dX7_weightTo_53 rfl ?_
                refine mg_ishl C (z := sh1 bz) dX7_weightTo_55 rfl ?_
                refine mg_iadd C (z := (wI f k bz x (wO f ln k x bz) iz) + (sh1 bz)) dX7_weightTo_56 rfl ?_
                refine mg_goto C (tgt := 61) dX7_weightTo_57 (by decide) ?_
                refine mg_istore_n C (lv' := [(3, .int ((wI f k bz x (wO f ln k x bz) iz) + (sh1 bz))), (0, .ref om), (1, .int (nI s)), (2, .int x), (4, .int (nI bz)), (5, .int (nI iz))]) dX7_weightTo_61 rfl (by decide) rfl ?_
                have ew : wI f k bz x (wO f ln k x bz) (iz + 1) = (wI f k bz x (wO f ln k x bz) iz) + (sh1 bz) := (if_neg c_48)
                refine mg_lv (lv' := [(3, .int (wI f k bz x (wO f ln k x bz) (iz + 1))), (0, .ref om), (1, .int (nI s)), (2, .int x), (4, .int (nI bz)), (5, .int (nI iz))]) (by rw [ew]) ?_
                refine mg_iinc C (v := nI (iz + 1)) (lv' := [(5, .int (nI (iz + 1))), (3, .int (wI f k bz x (wO f ln k x bz) (iz + 1))), (0, .ref om), (1, .int (nI s)), (2, .int x), (4, .int (nI bz))]) dX7_weightTo_62 rfl (ni_inc _) (by decide) rfl ?_
                refine mg_goto C (tgt := 15) dX7_weightTo_65 (by decide) ?_
                refine mg_sub (lv' := [(0, .ref om), (1, .int (nI s)), (2, .int x), (3, .int (wI f k bz x (wO f ln k x bz) (iz + 1))), (4, .int (nI bz)), (5, .int (nI (iz + 1)))]) [2, 3, 4, 1, 5, 0] rfl ?_
                exact ih15 ((iz + 1)) (by omega) (by omega)
        refine mg_sub (lv' := [(0, .ref om), (1, .int (nI s)), (2, .int x), (3, .int (wO f ln k x bz)), (4, .int (nI bz)), (5, .int (nI 0))]) [1, 2, 3, 4, 5, 0] rfl ?_
        exact L15 (_ + 1) 0 (Nat.lt_succ_self _) (Nat.zero_le _)
  refine mg_sub (lv' := [(0, .ref om), (1, .int (nI s)), (2, .int x), (3, .int (nI 0)), (4, .int (nI 0))]) [2, 3, 4, 1, 0] rfl ?_
  exact L5 (_ + 1) 0 (Nat.lt_succ_self _) (Nat.zero_le _)
