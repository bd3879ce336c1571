set_option maxHeartbeats 4000000 in
set_option maxRecDepth 20000 in
theorem c_X7_clear (D : va_G) (cI cS : ClassId) (w : mwT) (om md aso asi ase ato amo alo aro asr : Nat) (th : Int32) (to : Nat → Int32) (mo : Nat → Nat) (lo : Nat → Int32) (ro : Nat → Int32) (tg : Nat → Nat) (s : Nat) (hom : w om = some (.inr (6, [.int th, .int (nI md), .ref aso, .ref asi, .ref ase, .ref ato, .ref amo, .ref alo, .ref aro, .ref asr]))) (h_ato : w ato = some (eI cI 8 to)) (h_amo : w amo = some (eI cI 8 (lnF mo))) (h_alo : w alo = some (eI cI 8 lo)) (h_aro : w aro = some (eI cI 9600 ro)) (hmd : md ≤ 8) (hs : s < md) (t_ato : tg ato = 4) (t_amo : tg amo = 5) (t_alo : tg alo = 6) (t_aro : tg aro = 7) : mMi yX7_clear cX7_clear 3 (some .int) (rmL 8) [.ref om, .int (nI s)] D cI cS w (fun r w1 => r = to s + nI 10000000 ∧ w1 om = some (.inr (6, [.int (nI 0), .int (nI md), .ref aso, .ref asi, .ref ase, .ref ato, .ref amo, .ref alo, .ref aro, .ref asr])) ∧ w1 ato = some (eI cI 8 (upd to s (nI 0))) ∧ w1 amo = some (eI cI 8 (lnF (updN mo s 0))) ∧ w1 alo = some (eI cI 8 (upd lo s (nI 0))) ∧ w1 aro = some (eI cI 9600 (zrM ro s 1200)) ∧ ∀ z : Nat, z ≠ om → z ≠ ato → z ≠ amo → z ≠ alo → z ≠ aro → w1 z = w z) := by
  refine mMi.of (by decide) (Nat.le_of_ble_eq_true rfl) ?_
  intro X C hN hR
  have fr_w : ∀ zz : Nat, w zz = w zz := fun _ => rfl
  refine mg_sub (lv' := [(0, .ref om), (1, .int (nI s))]) [0, 1] rfl ?_
  have hs8 : s < 8 := by omega
  refine mg_aload_n C dX7_clear_0 rfl ?_
  refine mg_iconst C (v := nI 0) dX7_clear_1 (by decide) ?_
  refine mg_put C (fs' := [.int (nI 0), .int (nI md), .ref aso, .ref asi, .ref ase, .ref ato, .ref amo, .ref alo, .ref aro, .ref asr]) inT7 hom rfl 0 (by decide) kw_28 (Or.inl rfl) tyX7_ok nmX7 rfl rfl rfl rfl (Nat.le_of_ble_eq_true rfl) dX7_clear_2 (fun w1 e_w1 => ?_)
  have h_w1_om : w1 om = some (.inr (6, [.int (nI 0), .int (nI md), .ref aso, .ref asi, .ref ase, .ref ato, .ref amo, .ref alo, .ref aro, .ref asr])) := (congrFun e_w1 _).trans mwu_eq
  have h_w1_ato : w1 ato = some (eI cI 8 to) := (congrFun e_w1 _).trans ((mwu_ne (mw_ao h_ato hom)).trans h_ato)
  have h_w1_amo : w1 amo = some (eI cI 8 (lnF mo)) := (congrFun e_w1 _).trans ((mwu_ne (mw_ao h_amo hom)).trans h_amo)
  have h_w1_alo : w1 alo = some (eI cI 8 lo) := (congrFun e_w1 _).trans ((mwu_ne (mw_ao h_alo hom)).trans h_alo)
  have h_w1_aro : w1 aro = some (eI cI 9600 ro) := (congrFun e_w1 _).trans ((mwu_ne (mw_ao h_aro hom)).trans h_aro)
  have fr_w1 : ∀ zz : Nat, zz ≠ om → w1 zz = w zz := fun zz g0 => (congrFun e_w1 zz).trans ((mwu_ne g0).trans (fr_w zz ))
  refine mg_aload_n C dX7_clear_5 rfl ?_
  refine mg_iload_n C dX7_clear_6 rfl ?_
  refine mg_callV_i C h_w1_om rfl (rest := []) (c_X7_none_in D cI cS w1 om md aso asi ase ato amo alo aro asr (nI 0)  s h_w1_om hmd hs) yq_X7_none kw_197 kw_198 kw_199 ⟨by decide, by decide⟩ ⟨Nat.le_of_ble_eq_true rfl, Nat.le_of_ble_eq_true rfl⟩ (Nat.le_of_ble_eq_true rfl) rfl rfl dX7_clear_7 (fun r2 w3 ⟨e_r2, e_w3⟩ => ?_)
  rw [e_w3, e_r2]
  refine mg_ifN_eq C (tgt := 15) dX7_clear_10 (by decide) (by decide) (fun c_10 => ?_) (fun c_10 => absurd c_10 (by decide))
  refine mg_aload_n C dX7_clear_15 rfl ?_
  refine mg_get C inT7 h_w1_om rfl 5 (by decide) kw_23 (Or.inl rfl) rfl dX7_clear_16 ?_
  refine mg_iload_n C dX7_clear_19 rfl ?_
  refine mg_ialdN C h_w1_ato (by omega) (by omega) dX7_clear_20 ?_
  refine mg_ldc C (v := nI 10000000) dX7_clear_21 kw_231 (by decide) ?_
  refine mg_iadd C (z := (to s) + (nI 10000000)) dX7_clear_23 rfl ?_
  refine mg_istore_n C (lv' := [(2, .int ((to s) + (nI 10000000))), (0, .ref om), (1, .int (nI s))]) dX7_clear_24 rfl (by decide) rfl ?_
  refine mg_aload_n C dX7_clear_25 rfl ?_
  refine mg_iload_n C dX7_clear_26 rfl ?_
  refine mg_callV_v C h_w1_om rfl (rest := []) (c_X7_empty D cI cS w1 om md aso asi ase ato amo alo aro asr (nI 0) to mo lo ro tg s h_w1_om h_w1_ato h_w1_amo h_w1_alo h_w1_aro hs8 t_ato t_amo t_alo t_aro) yq_X7_empty kw_115 kw_116 kw_117 ⟨by decide, by decide⟩ ⟨Nat.le_of_ble_eq_true rfl, Nat.le_of_ble_eq_true rfl⟩ (Nat.le_of_ble_eq_true rfl) rfl rfl dX7_clear_27 (fun w4 ⟨xa4, xb4, xc4, xd4, xf4⟩ => ?_)
  have h_w4_om : w4 om = some (.inr (6, [.int (nI 0), .int (nI md), .ref aso, .ref asi, .ref ase, .ref ato, .ref amo, .ref alo, .ref aro, .ref asr])) := (xf4 om (mw_oa h_w1_om h_w1_ato) (mw_oa h_w1_om h_w1_amo) (mw_oa h_w1_om h_w1_alo) (mw_oa h_w1_om h_w1_aro)).trans h_w1_om
  have fr_w4 : ∀ zz : Nat, zz ≠ om → zz ≠ ato → zz ≠ amo → zz ≠ alo → zz ≠ aro → w4 zz = w zz := fun zz g0 g1 g2 g3 g4 => (xf4 zz g1 g2 g3 g4).trans (fr_w1 zz g0)
  refine mg_iload_n C dX7_clear_30 rfl ?_
  exact hR _ _ _ _ dX7_clear_31 ⟨rfl, h_w4_om, xa4, xb4, xc4, xd4, fun z q0 q1 q2 q3 q4 => fr_w4 z q0 q1 q2 q3 q4⟩

set_option maxHeartbeats 4000000 in
set_option maxRecDepth 20000 in
theorem c_X7_copy_full (D : va_G) (cI cS : ClassId) (w : mwT) (om md aso asi ase ato amo alo aro asr : Nat) (th : Int32) (so : Nat → Nat) (si : Nat → Nat) (se : Nat → Nat) (to : Nat → Int32) (mo : Nat → Nat) (lo : Nat → Int32) (ro : Nat → Int32) (tg : Nat → Nat) (s : Nat) (hom : w om = some (.inr (6, [.int th, .int (nI md), .ref aso, .ref asi, .ref ase, .ref ato, .ref amo, .ref alo, .ref aro, .ref asr]))) (h_aso : w aso = some (eI cI 8 (lnF so))) (h_asi : w asi = some (eI cI 8 (lnF si))) (h_ase : w ase = some (eI cI 8 (lnF se))) (h_ato : w ato = some (eI cI 8 to)) (h_amo : w amo = some (eI cI 8 (lnF mo))) (h_alo : w alo = some (eI cI 8 lo)) (h_aro : w aro = some (eI cI 9600 ro)) (hmd : md ≤ 8) (hs : s < md) (hm8 : md = 8) : mMi yX7_copy cX7_copy 4 (some .int) (rmL 8) [.ref om, .int (nI s)] D cI cS w (fun r w1 => r = -3 ∧ w1 om = some (.inr (6, [.int (nI 0), .int (nI md), .ref aso, .ref asi, .ref ase, .ref ato, .ref amo, .ref alo, .ref aro, .ref asr])) ∧ ∀ z : Nat, z ≠ om → w1 z = w z) := by
  refine mMi.of (by decide) (Nat.le_of_ble_eq_true rfl) ?_
  intro X C hN hR
  have fr_w : ∀ zz : Nat, w zz = w zz := fun _ => rfl
  refine mg_sub (lv' := [(0, .ref om), (1, .int (nI s))]) [0, 1] rfl ?_
  have hs8 : s < 8 := by omega
  refine mg_aload_n C dX7_copy_0 rfl ?_
  refine mg_iconst C (v := nI 0) dX7_copy_1 (by decide) ?_
  refine mg_put C (fs' := [.int (nI 0), .int (nI md), .ref aso, .ref asi, .ref ase, .ref ato, .ref amo, .ref alo, .ref aro, .ref asr]) inT7 hom rfl 0 (by decide) kw_28 (Or.inl rfl) tyX7_ok nmX7 rfl rfl rfl rfl (Nat.le_of_ble_eq_true rfl) dX7_copy_2 (fun w1 e_w1 => ?_)
  have h_w1_om : w1 om = some (.inr (6, [.int (nI 0), .int (nI md), .ref aso, .ref asi, .ref ase, .ref ato, .ref amo, .ref alo, .ref aro, .ref asr])) := (congrFun e_w1 _).trans mwu_eq
  have h_w1_aso : w1 aso = some (eI cI 8 (lnF so)) := (congrFun e_w1 _).trans ((mwu_ne (mw_ao h_aso hom)).trans h_aso)
  have h_w1_asi : w1 asi = some (eI cI 8 (lnF si)) := (congrFun e_w1 _).trans ((mwu_ne (mw_ao h_asi hom)).trans h_asi)
  have h_w1_ase : w1 ase = some (eI cI 8 (lnF se)) := (congrFun e_w1 _).trans ((mwu_ne (mw_ao h_ase hom)).trans h_ase)
  have h_w1_ato : w1 ato = some (eI cI 8 to) := (congrFun e_w1 _).trans ((mwu_ne (mw_ao h_ato hom)).trans h_ato)
  have h_w1_amo : w1 amo = some (eI cI 8 (lnF mo)) := (congrFun e_w1 _).trans ((mwu_ne (mw_ao h_amo hom)).trans h_amo)
  have h_w1_alo : w1 alo = some (eI cI 8 lo) := (congrFun e_w1 _).trans ((mwu_ne (mw_ao h_alo hom)).trans h_alo)
  have h_w1_aro : w1 aro = some (eI cI 9600 ro) := (congrFun e_w1 _).trans ((mwu_ne (mw_ao h_aro hom)).trans h_aro)
  have fr_w1 : ∀ zz : Nat, zz ≠ om → w1 zz = w zz := fun zz g0 => (congrFun e_w1 zz).trans ((mwu_ne g0).trans (fr_w zz ))
  refine mg_aload_n C dX7_copy_5 rfl ?_
  refine mg_iload_n C dX7_copy_6 rfl ?_
  refine mg_callV_i C h_w1_om rfl (rest := []) (c_X7_none_in D cI cS w1 om md aso asi ase ato amo alo aro asr (nI 0)  s h_w1_om hmd hs) yq_X7_none kw_197 kw_198 kw_199 ⟨by decide, by decide⟩ ⟨Nat.le_of_ble_eq_true rfl, Nat.le_of_ble_eq_true rfl⟩ (Nat.le_of_ble_eq_true rfl) rfl rfl dX7_copy_7 (fun r2 w3 ⟨e_r2, e_w3⟩ => ?_)
  rw [e_w3, e_r2]
  refine mg_ifN_eq C (tgt := 15) dX7_copy_10 (by decide) (by decide) (fun c_10 => ?_) (fun c_10 => absurd c_10 (by decide))
  refine mg_aload_n C dX7_copy_15 rfl ?_
  refine mg_get C inT7 h_w1_om rfl 1 (by decide) kw_111 (Or.inl rfl) rfl dX7_copy_16 ?_
  refine mg_bipush C (v := nI 8) dX7_copy_19 (by decide) ?_
  refine mg_icmpN_ne C (tgt := 27) dX7_copy_21 (by decide) (by omega) (by omega) (fun c_21 => absurd c_21 (by omega)) (fun c_21 => ?_)
  refine mg_bipush C (v := (-3 : Int32)) dX7_copy_24 (by decide) ?_
  exact hR _ _ _ _ dX7_copy_26 ⟨rfl, h_w1_om, fun z q0 => fr_w1 z q0⟩

set_option maxHeartbeats 4000000 in
set_option maxRecDepth 20000 in
theorem c_X7_copy (D : va_G) (cI cS : ClassId) (w : mwT) (om md aso asi ase ato amo alo aro asr : Nat) (th : Int32) (so : Nat → Nat) (si : Nat → Nat) (se : Nat → Nat) (to : Nat → Int32) (mo : Nat → Nat) (lo : Nat → Int32) (ro : Nat → Int32) (tg : Nat → Nat) (s : Nat) (hom : w om = some (.inr (6, [.int th, .int (nI md), .ref aso, .ref asi, .ref ase, .ref ato, .ref amo, .ref alo, .ref aro, .ref asr]))) (h_aso : w aso = some (eI cI 8 (lnF so))) (h_asi : w asi = some (eI cI 8 (lnF si))) (h_ase : w ase = some (eI cI 8 (lnF se))) (h_ato : w ato = some (eI cI 8 to)) (h_amo : w amo = some (eI cI 8 (lnF mo))) (h_alo : w alo = some (eI cI 8 lo)) (h_aro : w aro = some (eI cI 9600 ro)) (hmd : md ≤ 8) (hs : s < md) (hm8 : md < 8) (t_aso : tg aso = 1) (t_asi : tg asi = 2) (t_ase : tg ase = 3) (t_ato : tg ato = 4) (t_amo : tg amo = 5) (t_alo : tg alo = 6) (t_aro : tg aro = 7) : mMi yX7_copy cX7_copy 4 (some .int) (rmL 8) [.ref om, .int (nI s)] D cI cS w (fun r w1 => r = nI md ∧ w1 om = some (.inr (6, [.int (nI 0), .int (nI (md + 1)), .ref aso, .ref asi, .ref ase, .ref ato, .ref amo, .ref alo, .ref aro, .ref asr])) ∧ w1 aso = some (eI cI 8 (lnF (updN so md (so s)))) ∧ w1 asi = some (eI cI 8 (lnF (updN si md (si s)))) ∧ w1 ase = some (eI cI 8 (lnF (updN se md (se s)))) ∧ w1 ato = some (eI cI 8 (upd to md (to s))) ∧ w1 amo = some (eI cI 8 (lnF (updN mo md (mo s)))) ∧ w1 alo = some (eI cI 8 (upd lo md (lo s))) ∧ w1 aro = some (eI cI 9600 (cpM ro s md 1200)) ∧ ∀ z : Nat, z ≠ om → z ≠ aso → z ≠ asi → z ≠ ase → z ≠ ato → z ≠ amo → z ≠ alo → z ≠ aro → w1 z = w z) := by
  refine mMi.of (by decide) (Nat.le_of_ble_eq_true rfl) ?_
  intro X C hN hR
  have fr_w : ∀ zz : Nat, w zz = w zz := fun _ => rfl
  refine mg_sub (lv' := [(0, .ref om), (1, .int (nI s))]) [0, 1] rfl ?_
  have hs8 : s < 8 := by omega
  refine mg_aload_n C dX7_copy_0 rfl ?_
  refine mg_iconst C (v := nI 0) dX7_copy_1 (by decide) ?_
  refine mg_put C (fs' := [.int (nI 0), .int (nI md), .ref aso, .ref asi, .ref ase, .ref ato, .ref amo, .ref alo, .ref aro, .ref asr]) inT7 hom rfl 0 (by decide) kw_28 (Or.inl rfl) tyX7_ok nmX7 rfl rfl rfl rfl (Nat.le_of_ble_eq_true rfl) dX7_copy_2 (fun w1 e_w1 => ?_)
  have h_w1_om : w1 om = some (.inr (6, [.int (nI 0), .int (nI md), .ref aso, .ref asi, .ref ase, .ref ato, .ref amo, .ref alo, .ref aro, .ref asr])) := (congrFun e_w1 _).trans mwu_eq
  have h_w1_aso : w1 aso = some (eI cI 8 (lnF so)) := (congrFun e_w1 _).trans ((mwu_ne (mw_ao h_aso hom)).trans h_aso)
  have h_w1_asi : w1 asi = some (eI cI 8 (lnF si)) := (congrFun e_w1 _).trans ((mwu_ne (mw_ao h_asi hom)).trans h_asi)
  have h_w1_ase : w1 ase = some (eI cI 8 (lnF se)) := (congrFun e_w1 _).trans ((mwu_ne (mw_ao h_ase hom)).trans h_ase)
  have h_w1_ato : w1 ato = some (eI cI 8 to) := (congrFun e_w1 _).trans ((mwu_ne (mw_ao h_ato hom)).trans h_ato)
  have h_w1_amo : w1 amo = some (eI cI 8 (lnF mo)) := (congrFun e_w1 _).trans ((mwu_ne (mw_ao h_amo hom)).trans h_amo)
  have h_w1_alo : w1 alo = some (eI cI 8 lo) := (congrFun e_w1 _).trans ((mwu_ne (mw_ao h_alo hom)).trans h_alo)
  have h_w1_aro : w1 aro = some (eI cI 9600 ro) := (congrFun e_w1 _).trans ((mwu_ne (mw_ao h_aro hom)).trans h_aro)
  have fr_w1 : ∀ zz : Nat, zz ≠ om → w1 zz = w zz := fun zz g0 => (congrFun e_w1 zz).trans ((mwu_ne g0).trans (fr_w zz ))
  refine mg_aload_n C dX7_copy_5 rfl ?_
  refine mg_iload_n C dX7_copy_6 rfl ?_
  refine mg_callV_i C h_w1_om rfl (rest := []) (c_X7_none_in D cI cS w1 om md aso asi ase ato amo alo aro asr (nI 0)  s h_w1_om hmd hs) yq_X7_none kw_197 kw_198 kw_199 ⟨by decide, by decide⟩ ⟨Nat.le_of_ble_eq_true rfl, Nat.le_of_ble_eq_true rfl⟩ (Nat.le_of_ble_eq_true rfl) rfl rfl dX7_copy_7 (fun r2 w3 ⟨e_r2, e_w3⟩ => ?_)
  rw [e_w3, e_r2]
  refine mg_ifN_eq C (tgt := 15) dX7_copy_10 (by decide) (by decide) (fun c_10 => ?_) (fun c_10 => absurd c_10 (by decide))
  refine mg_aload_n C dX7_copy_15 rfl ?_
  refine mg_get C inT7 h_w1_om rfl 1 (by decide) kw_111 (Or.inl rfl) rfl dX7_copy_16 ?_
  refine mg_bipush C (v := nI 8) dX7_copy_19 (by decide) ?_
  refine mg_icmpN_ne C (tgt := 27) dX7_copy_21 (by decide) (by omega) (by omega) (fun c_21 => ?_) (fun c_21 => absurd c_21 (by omega))
  refine mg_aload_n C dX7_copy_27 rfl ?_
  refine mg_get C inT7 h_w1_om rfl 1 (by decide) kw_111 (Or.inl rfl) rfl dX7_copy_28 ?_
  refine mg_istore_n C (lv' := [(2, .int (nI md)), (0, .ref om), (1, .int (nI s))]) dX7_copy_31 rfl (by decide) rfl ?_
  refine mg_aload_n C dX7_copy_32 rfl ?_
  refine mg_get C inT7 h_w1_om rfl 2 (by decide) kw_20 (Or.inl rfl) rfl dX7_copy_33 ?_
  refine mg_iload_n C dX7_copy_36 rfl ?_
  refine mg_aload_n C dX7_copy_37 rfl ?_
  refine mg_get C inT7 h_w1_om rfl 2 (by decide) kw_20 (Or.inl rfl) rfl dX7_copy_38 ?_
  refine mg_iload_n C dX7_copy_41 rfl ?_
  refine mg_ialdN C h_w1_aso (by omega) (by omega) dX7_copy_42 ?_
  rw [show lnF so s = nI (so s) from congrArg nI rfl]
  refine mg_iastN C h_w1_aso (by omega) (by omega) dX7_copy_43 (fun w4 e_w4 => ?_)
  rw [upd_lnF] at e_w4
  have h_w4_om : w4 om = some (.inr (6, [.int (nI 0), .int (nI md), .ref aso, .ref asi, .ref ase, .ref ato, .ref amo, .ref alo, .ref aro, .ref asr])) := (congrFun e_w4 _).trans ((mwu_ne (mw_oa h_w1_om h_w1_aso)).trans h_w1_om)
  have h_w4_aso : w4 aso = some (eI cI 8 (lnF (updN so md (so s)))) := (congrFun e_w4 _).trans mwu_eq
  have h_w4_asi : w4 asi = some (eI cI 8 (lnF si)) := (congrFun e_w4 _).trans ((mwu_ne (Ne.symm (tne t_aso t_asi (by decide)))).trans h_w1_asi)
  have h_w4_ase : w4 ase = some (eI cI 8 (lnF se)) := (congrFun e_w4 _).trans ((mwu_ne (Ne.symm (tne t_aso t_ase (by decide)))).trans h_w1_ase)
  have h_w4_ato : w4 ato = some (eI cI 8 to) := (congrFun e_w4 _).trans ((mwu_ne (Ne.symm (tne t_aso t_ato (by decide)))).trans h_w1_ato)
  have h_w4_amo : w4 amo = some (eI cI 8 (lnF mo)) := (congrFun e_w4 _).trans ((mwu_ne (Ne.symm (tne t_aso t_amo (by decide)))).trans h_w1_amo)
  have h_w4_alo : w4 alo = some (eI cI 8 lo) := (congrFun e_w4 _).trans ((mwu_ne (Ne.symm (tne t_aso t_alo (by decide)))).trans h_w1_alo)
  have h_w4_aro : w4 aro = some (eI cI 9600 ro) := (congrFun e_w4 _).trans ((mwu_ne (Ne.symm (tne t_aso t_aro (by decide)))).trans h_w1_aro)
  have fr_w4 : ∀ zz : Nat, zz ≠ om → zz ≠ aso → w4 zz = w zz := fun zz g0 g1 => (congrFun e_w4 zz).trans ((mwu_ne g1).trans (fr_w1 zz g0))
  refine mg_aload_n C dX7_copy_44 rfl ?_
  refine mg_get C inT7 h_w4_om rfl 3 (by decide) kw_21 (Or.inl rfl) rfl dX7_copy_45 ?_
  refine mg_iload_n C dX7_copy_48 rfl ?_
  refine mg_aload_n C dX7_copy_49 rfl ?_
  refine mg_get C inT7 h_w4_om rfl 3 (by decide) kw_21 (Or.inl rfl) rfl dX7_copy_50 ?_
  refine mg_iload_n C dX7_copy_53 rfl ?_
  refine mg_ialdN C h_w4_asi (by omega) (by omega) dX7_copy_54 ?_
  rw [show lnF si s = nI (si s) from congrArg nI rfl]
  refine mg_iastN C h_w4_asi (by omega) (by omega) dX7_copy_55 (fun w5 e_w5 => ?_)
  rw [upd_lnF] at e_w5
  have h_w5_om : w5 om = some (.inr (6, [.int (nI 0), .int (nI md), .ref aso, .ref asi, .ref ase, .ref ato, .ref amo, .ref alo, .ref aro, .ref asr])) := (congrFun e_w5 _).trans ((mwu_ne (mw_oa h_w4_om h_w4_asi)).trans h_w4_om)
  have h_w5_aso : w5 aso = some (eI cI 8 (lnF (updN so md (so s)))) := (congrFun e_w5 _).trans ((mwu_ne (tne t_aso t_asi (by decide))).trans h_w4_aso)
  have h_w5_asi : w5 asi = some (eI cI 8 (lnF (updN si md (si s)))) := (congrFun e_w5 _).trans mwu_eq
  have h_w5_ase : w5 ase = some (eI cI 8 (lnF se)) := (congrFun e_w5 _).trans ((mwu_ne (Ne.symm (tne t_asi t_ase (by decide)))).trans h_w4_ase)
  have h_w5_ato : w5 ato = some (eI cI 8 to) := (congrFun e_w5 _).trans ((mwu_ne (Ne.symm (tne t_asi t_ato (by decide)))).trans h_w4_ato)
  have h_w5_amo : w5 amo = some (eI cI 8 (lnF mo)) := (congrFun e_w5 _).trans ((mwu_ne (Ne.symm (tne t_asi t_amo (by decide)))).trans h_w4_amo)
  have h_w5_alo : w5 alo = some (eI cI 8 lo) := (congrFun e_w5 _).trans ((mwu_ne (Ne.symm (tne t_asi t_alo (by decide)))).trans h_w4_alo)
  have h_w5_aro : w5 aro = some (eI cI 9600 ro) := (congrFun e_w5 _).trans ((mwu_ne (Ne.symm (tne t_asi t_aro (by decide)))).trans h_w4_aro)
  have fr_w5 : ∀ zz : Nat, zz ≠ om → zz ≠ aso → zz ≠ asi → w5 zz = w zz := fun zz g0 g1 g2 => (congrFun e_w5 zz).trans ((mwu_ne g2).trans (fr_w4 zz g0 g1))
  refine mg_aload_n C dX7_copy_56 rfl ?_
  refine mg_get C inT7 h_w5_om rfl 4 (by decide) kw_22 (Or.inl rfl) rfl dX7_copy_57 ?_
  refine mg_iload_n C dX7_copy_60 rfl ?_
  refine mg_aload_n C dX7_copy_61 rfl ?_
  refine mg_get C inT7 h_w5_om rfl 4 (by decide) kw_22 (Or.inl rfl) rfl dX7_copy_62 ?_
  refine mg_iload_n C dX7_copy_65 rfl ?_
  refine mg_ialdN C h_w5_ase (by omega) (by omega) dX7_copy_66 ?_
  rw [show lnF se s = nI (se s) from congrArg nI rfl]
  refine mg_iastN C h_w5_ase (by omega) (by omega) dX7_copy_67 (fun w6 e_w6 => ?_)
  rw [upd_lnF] at e_w6
  have h_w6_om : w6 om = some (.inr (6, [.int (nI 0), .int (nI md), .ref aso, .ref asi, .ref ase, .ref ato, .ref amo, .ref alo, .ref aro, .ref asr])) := (congrFun e_w6 _).trans ((mwu_ne (mw_oa h_w5_om h_w5_ase)).trans h_w5_om)
  have h_w6_aso : w6 aso = some (eI cI 8 (lnF (updN so md (so s)))) := (congrFun e_w6 _).trans ((mwu_ne (tne t_aso t_ase (by decide))).trans h_w5_aso)
  have h_w6_asi : w6 asi = some (eI cI 8 (lnF (updN si md (si s)))) := (congrFun e_w6 _).trans ((mwu_ne (tne t_asi t_ase (by decide))).trans h_w5_asi)
  have h_w6_ase : w6 ase = some (eI cI 8 (lnF (updN se md (se s)))) := (congrFun e_w6 _).trans mwu_eq
  have h_w6_ato : w6 ato = some (eI cI 8 to) := (congrFun e_w6 _).trans ((mwu_ne (Ne.symm (tne t_ase t_ato (by decide)))).trans h_w5_ato)
  have h_w6_amo : w6 amo = some (eI cI 8 (lnF mo)) := (congrFun e_w6 _).trans ((mwu_ne (Ne.symm (tne t_ase t_amo (by decide)))).trans h_w5_amo)
  have h_w6_alo : w6 alo = some (eI cI 8 lo) := (congrFun e_w6 _).trans ((mwu_ne (Ne.symm (tne t_ase t_alo (by decide)))).trans h_w5_alo)
  have h_w6_aro : w6 aro = some (eI cI 9600 ro) := (congrFun e_w6 _).trans ((mwu_ne (Ne.symm (tne t_ase t_aro (by decide)))).trans h_w5_aro)
  have fr_w6 : ∀ zz : Nat, zz ≠ om → zz ≠ aso → zz ≠ asi → zz ≠ ase → w6 zz = w zz := fun zz g0 g1 g2 g3 => (congrFun e_w6 zz).trans ((mwu_ne g3).trans (fr_w5 zz g0 g1 g2))
  refine mg_aload_n C dX7_copy_68 rfl ?_
  refine mg_get C inT7 h_w6_om rfl 5 (by decide) kw_23 (Or.inl rfl) rfl dX7_copy_69 ?_
  refine mg_iload_n C dX7_copy_72 rfl ?_
  refine mg_aload_n C dX7_copy_73 rfl ?_
  refine mg_get C inT7 h_w6_om rfl 5 (by decide) kw_23 (Or.inl rfl) rfl dX7_copy_74 ?_
  refine mg_iload_n C dX7_copy_77 rfl ?_
  refine mg_ialdN C h_w6_ato (by omega) (by omega) dX7_copy_78 ?_
  refine mg_iastN C h_w6_ato (by omega) (by omega) dX7_copy_79 (fun w7 e_w7 => ?_)
  have h_w7_om : w7 om = some (.inr (6, [.int (nI 0), .int (nI md), .ref aso, .ref asi, .ref ase, .ref ato, .ref amo, .ref alo, .ref aro, .ref asr])) := (congrFun e_w7 _).trans ((mwu_ne (mw_oa h_w6_om h_w6_ato)).trans h_w6_om)
  have h_w7_aso : w7 aso = some (eI cI 8 (lnF (updN so md (so s)))) := (congrFun e_w7 _).trans ((mwu_ne (tne t_aso t_ato (by decide))).trans h_w6_aso)
  have h_w7_asi : w7 asi = some (eI cI 8 (lnF (updN si md (si s)))) := (congrFun e_w7 _).trans ((mwu_ne (tne t_asi t_ato (by decide))).trans h_w6_asi)
  have h_w7_ase : w7 ase = some (eI cI 8 (lnF (updN se md (se s)))) := (congrFun e_w7 _).trans ((mwu_ne (tne t_ase t_ato (by decide))).trans h_w6_ase)
  have h_w7_ato : w7 ato = some (eI cI 8 (upd to md (to s))) := (congrFun e_w7 _).trans mwu_eq
  have h_w7_amo : w7 amo = some (eI cI 8 (lnF mo)) := (congrFun e_w7 _).trans ((mwu_ne (Ne.symm (tne t_ato t_amo (by decide)))).trans h_w6_amo)
  have h_w7_alo : w7 alo = some (eI cI 8 lo) := (congrFun e_w7 _).trans ((mwu_ne (Ne.symm (tne t_ato t_alo (by decide)))).trans h_w6_alo)
  have h_w7_aro : w7 aro = some (eI cI 9600 ro) := (congrFun e_w7 _).trans ((mwu_ne (Ne.symm (tne t_ato t_aro (by decide)))).trans h_w6_aro)
  have fr_w7 : ∀ zz : Nat, zz ≠ om → zz ≠ aso → zz ≠ asi → zz ≠ ase → zz ≠ ato → w7 zz = w zz := fun zz g0 g1 g2 g3 g4 => (congrFun e_w7 zz).trans ((mwu_ne g4).trans (fr_w6 zz g0 g1 g2 g3))
  refine mg_aload_n C dX7_copy_80 rfl ?_
  refine mg_get C inT7 h_w7_om rfl 6 (by decide) kw_24 (Or.inl rfl) rfl dX7_copy_81 ?_
  refine mg_iload_n C dX7_copy_84 rfl ?_
  refine mg_aload_n C dX7_copy_85 rfl ?_
  refine mg_get C inT7 h_w7_om rfl 6 (by decide) kw_24 (Or.inl rfl) rfl dX7_copy_86 ?_
  refine mg_iload_n C dX7_copy_89 rfl ?_
  refine mg_ialdN C h_w7_amo (by omega) (by omega) dX7_copy_90 ?_
  rw [show lnF mo s = nI (mo s) from congrArg nI rfl]
  refine mg_iastN C h_w7_amo (by omega) (by omega) dX7_copy_91 (fun w8 e_w8 => ?_)
  rw [upd_lnF] at e_w8
  have h_w8_om : w8 om = some (.inr (6, [.int (nI 0), .int (nI md), .ref aso, .ref asi, .ref ase, .ref ato, .ref amo, .ref alo, .ref aro, .ref asr])) := (congrFun e_w8 _).trans ((mwu_ne (mw_oa h_w7_om h_w7_amo)).trans h_w7_om)
  have h_w8_aso : w8 aso = some (eI cI 8 (lnF (updN so md (so s)))) := (congrFun e_w8 _).trans ((mwu_ne (tne t_aso t_amo (by decide))).trans h_w7_aso)
  have h_w8_asi : w8 asi = some (eI cI 8 (lnF (updN si md (si s)))) := (congrFun e_w8 _).trans ((mwu_ne (tne t_asi t_amo (by decide))).trans h_w7_asi)
  have h_w8_ase : w8 ase = some (eI cI 8 (lnF (updN se md (se s)))) := (congrFun e_w8 _).trans ((mwu_ne (tne t_ase t_amo (by decide))).trans h_w7_ase)
  have h_w8_ato : w8 ato = some (eI cI 8 (upd to md (to s))) := (congrFun e_w8 _).trans ((mwu_ne (tne t_ato t_amo (by decide))).trans h_w7_ato)
  have h_w8_amo : w8 amo = some (eI cI 8 (lnF (updN mo md (mo s)))) := (congrFun e_w8 _).trans mwu_eq
  have h_w8_alo : w8 alo = some (eI cI 8 lo) := (congrFun e_w8 _).trans ((mwu_ne (Ne.symm (tne t_amo t_alo (by decide)))).trans h_w7_alo)
  have h_w8_aro : w8 aro = some (eI cI 9600 ro) := (congrFun e_w8 _).trans ((mwu_ne (Ne.symm (tne t_amo t_aro (by decide)))).trans h_w7_aro)
  have fr_w8 : ∀ zz : Nat, zz ≠ om → zz ≠ aso → zz ≠ asi → zz ≠ ase → zz ≠ ato → zz ≠ amo → w8 zz = w zz := fun zz g0 g1 g2 g3 g4 g5 => (congrFun e_w8 zz).trans ((mwu_ne g5).trans (fr_w7 zz g0 g1 g2 g3 g4))
  refine mg_aload_n C dX7_copy_92 rfl ?_
  refine mg_get C inT7 h_w8_om rfl 7 (by decide) kw_25 (Or.inl rfl) rfl dX7_copy_93 ?_
  refine mg_iload_n C dX7_copy_96 rfl ?_
  refine mg_aload_n C dX7_copy_97 rfl ?_
  refine mg_get C inT7 h_w8_om rfl 7 (by decide) kw_25 (Or.inl rfl) rfl dX7_copy_98 ?_
  refine mg_iload_n C dX7_copy_101 rfl ?_
  refine mg_ialdN C h_w8_alo (by omega) (by omega) dX7_copy_102 ?_
  refine mg_iastN C h_w8_alo (by omega) (by omega) dX7_copy_103 (fun w9 e_w9 => ?_)
  have h_w9_om : w9 om = some (.inr (6, [.int (nI 0), .int (nI md), .ref aso, .ref asi, .ref ase, .ref ato, .ref amo, .ref alo, .ref aro, .ref asr])) := (congrFun e_w9 _).trans ((mwu_ne (mw_oa h_w8_om h_w8_alo)).trans h_w8_om)
  have h_w9_aso : w9 aso = some (eI cI 8 (lnF (updN so md (so s)))) := (congrFun e_w9 _).trans ((mwu_ne (tne t_aso t_alo (by decide))).trans h_w8_aso)
  have h_w9_asi : w9 asi = some (eI cI 8 (lnF (updN si md (si s)))) := (congrFun e_w9 _).trans ((mwu_ne (tne t_asi t_alo (by decide))).trans h_w8_asi)
  have h_w9_ase : w9 ase = some (eI cI 8 (lnF (updN se md (se s)))) := (congrFun e_w9 _).trans ((mwu_ne (tne t_ase t_alo (by decide))).trans h_w8_ase)
  have h_w9_ato : w9 ato = some (eI cI 8 (upd to md (to s))) := (congrFun e_w9 _).trans ((mwu_ne (tne t_ato t_alo (by decide))).trans h_w8_ato)
  have h_w9_amo : w9 amo = some (eI cI 8 (lnF (updN mo md (mo s)))) := (congrFun e_w9 _).trans ((mwu_ne (tne t_amo t_alo (by decide))).trans h_w8_amo)
  have h_w9_alo : w9 alo = some (eI cI 8 (upd lo md (lo s))) := (congrFun e_w9 _).trans mwu_eq
  have h_w9_aro : w9 aro = some (eI cI 9600 ro) := (congrFun e_w9 _).trans ((mwu_ne (Ne.symm (tne t_alo t_aro (by decide)))).trans h_w8_aro)
  have fr_w9 : ∀ zz : Nat, zz ≠ om → zz ≠ aso → zz ≠ asi → zz ≠ ase → zz ≠ ato → zz ≠ amo → zz ≠ alo → w9 zz = w zz := fun zz g0 g1 g2 g3 g4 g5 g6 => (congrFun e_w9 zz).trans ((mwu_ne g6).trans (fr_w8 zz g0 g1 g2 g3 g4 g5))
  refine mg_iconst C (v := nI 0) dX7_copy_104 (by decide) ?_
  refine mg_istore_n C (lv' := [(3, .int (nI 0)), (2, .int (nI md)), (0, .ref om), (1, .int (nI s))]) dX7_copy_105 rfl (by decide) rfl ?_
  have h9 : w9 aro = some (eI cI 9600 (cpM ro s md 0)) := by rw [h_w9_aro, cpM_0]
  have L106 : ∀ (M106 : Nat) (nz : Nat), 1200 - nz < M106 → (nz ≤ 1200) → ∀ (w10 : mwT), w10 om = some (.inr (6, [.int (nI 0), .int (nI md), .ref aso, .ref asi, .ref ase, .ref ato, .ref amo, .ref alo, .ref aro, .ref asr])) → w10 aso = some (eI cI 8 (lnF (updN so md (so s)))) → w10 asi = some (eI cI 8 (lnF (updN si md (si s)))) → w10 ase = some (eI cI 8 (lnF (updN se md (se s)))) → w10 ato = some (eI cI 8 (upd to md (to s))) → w10 amo = some (eI cI 8 (lnF (updN mo md (mo s)))) → w10 alo = some (eI cI 8 (upd lo md (lo s))) → w10 aro = some (eI cI 9600 (cpM ro s md nz)) → (∀ zz : Nat, zz ≠ om → zz ≠ aso → zz ≠ asi → zz ≠ ase → zz ≠ ato → zz ≠ amo → zz ≠ alo → zz ≠ aro → w10 zz = w zz) → mwG X 0 0 w10 [(0, .ref om), (1, .int (nI s)), (2, .int (nI md)), (3, .int (nI nz))] [] 106 := by
    intro M106
    induction M106 with
    | zero => intro nz hm106; exact absurd hm106 (Nat.not_lt_zero _)
    | succ M106 ih106 =>
      intro nz hm106 hnz w10 h_w10_om h_w10_aso h_w10_asi h_w10_ase h_w10_ato h_w10_amo h_w10_alo h_w10_aro fr_w10
      refine mg_iload_n C dX7_copy_106 rfl ?_
      refine mg_sipush C (v := nI 1200) dX7_copy_107 (by decide) ?_
      refine mg_icmpN_ge C (tgt := 143) dX7_copy_110 (by decide) (by omega) (by omega) (fun c_110 => ?_) (fun c_110 => ?_)
      · refine mg_aload_n C dX7_copy_143 rfl ?_
        refine mg_dup C dX7_copy_144 rfl ?_
        refine mg_get C inT7 h_w10_om rfl 1 (by decide) kw_111 (Or.inl rfl) rfl dX7_copy_145 ?_
        refine mg_iconst C (v := nI 1) dX7_copy_148 (by decide) ?_
        refine mg_iadd C (z := nI (md + 1)) dX7_copy_149 (nI_add _ _) ?_
        refine mg_put C (fs' := [.int (nI 0), .int (nI (md + 1)), .ref aso, .ref asi, .ref ase, .ref ato, .ref amo, .ref alo, .ref aro, .ref asr]) inT7 h_w10_om rfl 1 (by decide) kw_111 (Or.inl rfl) tyX7_ok nmX7 rfl rfl rfl rfl (Nat.le_of_ble_eq_true rfl) dX7_copy_150 (fun w11 e_w11 => ?_)
        have h_w11_om : w11 om = some (.inr (6, [.int (nI 0), .int (nI (md + 1)), .ref aso, .ref asi, .ref ase, .ref ato, .ref amo, .ref alo, .ref aro, .ref asr])) := (congrFun e_w11 _).trans mwu_eq
        have h_w11_aso : w11 aso = some (eI cI 8 (lnF (updN so md (so s)))) := (congrFun e_w11 _).trans ((mwu_ne (mw_ao h_w10_aso h_w10_om)).trans h_w10_aso)
        have h_w11_asi : w11 asi = some (eI cI 8 (lnF (updN si md (si s)))) := (congrFun e_w11 _).trans ((mwu_ne (mw_ao h_w10_asi h_w10_om)).trans h_w10_asi)
        have h_w11_ase : w11 ase = some (eI cI 8 (lnF (updN se md (se s)))) := (congrFun e_w11 _).trans ((mwu_ne (mw_ao h_w10_ase h_w10_om)).trans h_w10_ase)
        have h_w11_ato : w11 ato = some (eI cI 8 (upd to md (to s))) := (congrFun e_w11 _).trans ((mwu_ne (mw_ao h_w10_ato h_w10_om)).trans h_w10_ato)
        have h_w11_amo : w11 amo = some (eI cI 8 (lnF (updN mo md (mo s)))) := (congrFun e_w11 _).trans ((mwu_ne (mw_ao h_w10_amo h_w10_om)).trans h_w10_amo)
        have h_w11_alo : w11 alo = some (eI cI 8 (upd lo md (lo s))) := (congrFun e_w11 _).trans ((mwu_ne (mw_ao h_w10_alo h_w10_om)).trans h_w10_alo)
        have h_w11_aro : w11 aro = some (eI cI 9600 (cpM ro s md nz)) := (congrFun e_w11 _).trans ((mwu_ne (mw_ao h_w10_aro h_w10_om)).trans h_w10_aro)
        have fr_w11 : ∀ zz : Nat, zz ≠ om → zz ≠ aso → zz ≠ asi → zz ≠ ase → zz ≠ ato → zz ≠ amo → zz ≠ alo → zz ≠ aro → w11 zz = w zz := fun zz g0 g1 g2 g3 g4 g5 g6 g7 => (congrFun e_w11 zz).trans ((mwu_ne g0).trans (fr_w10 zz g0 g1 g2 g3 g4 g5 g6 g7))
        refine mg_iload_n C dX7_copy_153 rfl ?_
        have en : nz = 1200 := by omega
        rw [en] at h_w11_aro
        exact hR _ _ _ _ dX7_copy_154 ⟨rfl, h_w11_om, h_w11_aso, h_w11_asi, h_w11_ase, h_w11_ato, h_w11_amo, h_w11_alo, h_w11_aro, fun z q0 q1 q2 q3 q4 q5 q6 q7 => fr_w11 z q0 q1 q2 q3 q4 q5 q6 q7⟩
      · refine mg_aload_n C dX7_copy_113 rfl ?_
        refine mg_get C inT7 h_w10_om rfl 8 (by decide) kw_26 (Or.inl rfl) rfl dX7_copy_114 ?_
        refine mg_sipush C (v := nI 1200) dX7_copy_117 (by decide) ?_
        refine mg_iload_n C dX7_copy_120 rfl ?_
        refine mg_imul C (z := nI (1200 * md)) dX7_copy_121 (pk_mul _ _) ?_
        refine mg_iload_n C dX7_copy_122 rfl ?_
        refine mg_iadd C (z := nI ((1200 * md) + nz)) dX7_copy_123 (nI_add _ _) ?_
        refine mg_aload_n C dX7_copy_124 rfl ?_
        refine mg_get C inT7 h_w10_om rfl 8 (by decide) kw_26 (Or.inl rfl) rfl dX7_copy_125 ?_
        refine mg_sipush C (v := nI 1200) dX7_copy_128 (by decide) ?_
        refine mg_iload_n C dX7_copy_131 rfl ?_
        refine mg_imul C (z := nI (1200 * s)) dX7_copy_132 (pk_mul _ _) ?_
        refine mg_iload_n C dX7_copy_133 rfl ?_
        refine mg_iadd C (z := nI ((1200 * s) + nz)) dX7_copy_134 (nI_add _ _) ?_
        refine mg_ialdN C h_w10_aro (by omega) (by omega) dX7_copy_135 ?_
        refine mg_iastN C h_w10_aro (by omega) (by omega) dX7_copy_136 (fun w12 e_w12 => ?_)
        have h_w12_om : w12 om = some (.inr (6, [.int (nI 0), .int (nI md), .ref aso, .ref asi, .ref ase, .ref ato, .ref amo, .ref alo, .ref aro, .ref asr])) := (congrFun e_w12 _).trans ((mwu_ne (mw_oa h_w10_om h_w10_aro)).trans h_w10_om)
        have h_w12_aso : w12 aso = some (eI cI 8 (lnF (updN so md (so s)))) := (congrFun e_w12 _).trans ((mwu_ne (tne t_aso t_aro (by decide))).trans h_w10_aso)
        have h_w12_asi : w12 asi = some (eI cI 8 (lnF (updN si md (si s)))) := (congrFun e_w12 _).trans ((mwu_ne (tne t_asi t_aro (by decide))).trans h_w10_asi)
        have h_w12_ase : w12 ase = some (eI cI 8 (lnF (updN se md (se s)))) := (congrFun e_w12 _).trans ((mwu_ne (tne t_ase t_aro (by decide))).trans h_w10_ase)
        have h_w12_ato : w12 ato = some (eI cI 8 (upd to md (to s))) := (congrFun e_w12 _).trans ((mwu_ne (tne t_ato t_aro (by decide))).trans h_w10_ato)
        have h_w12_amo : w12 amo = some (eI cI 8 (lnF (updN mo md (mo s)))) := (congrFun e_w12 _).trans ((mwu_ne (tne t_amo t_aro (by decide))).trans h_w10_amo)
        have h_w12_alo : w12 alo = some (eI cI 8 (upd lo md (lo s))) := (congrFun e_w12 _).trans ((mwu_ne (tne t_alo t_aro (by decide))).trans h_w10_alo)
        have h_w12_aro : w12 aro = some (eI cI 9600 (upd (cpM ro s md nz) ((1200 * md) + nz) ((cpM ro s md nz) ((1200 * s) + nz)))) := (congrFun e_w12 _).trans mwu_eq
        have fr_w12 : ∀ zz : Nat, zz ≠ om → zz ≠ aso → zz ≠ asi → zz ≠ ase → zz ≠ ato → zz ≠ amo → zz ≠ alo → zz ≠ aro → w12 zz = w zz := fun zz g0 g1 g2 g3 g4 g5 g6 g7 => (congrFun e_w12 zz).trans ((mwu_ne g7).trans (fr_w10 zz g0 g1 g2 g3 g4 g5 g6 g7))
        refine mg_iinc C (v := nI (nz + 1)) (lv' := [(3, .int (nI (nz + 1))), (0, .ref om), (1, .int (nI s)), (2, .int (nI md))]) dX7_copy_137 rfl (ni_inc _) (by decide) rfl ?_
        refine mg_goto C (tgt := 106) dX7_copy_140 (by decide) ?_
        have h9 : w12 aro = some (eI cI 9600 (cpM ro s md (nz + 1))) := by rw [h_w12_aro]; exact congrArg (fun q => some (eI cI 9600 q)) (cpM_s ro (by omega) (by omega))
        refine mg_sub (lv' := [(0, .ref om), (1, .int (nI s)), (2, .int (nI md)), (3, .int (nI (nz + 1)))]) [1, 2, 3, 0] rfl ?_
        exact ih106 ((nz + 1)) (by omega) (by omega) w12 h_w12_om h_w12_aso h_w12_asi h_w12_ase h_w12_ato h_w12_amo h_w12_alo h9 (fun zz g0 g1 g2 g3 g4 g5 g6 g7 => fr_w12 zz g0 g1 g2 g3 g4 g5 g6 g7)
  refine mg_sub (lv' := [(0, .ref om), (1, .int (nI s)), (2, .int (nI md)), (3, .int (nI 0))]) [2, 3, 1, 0] rfl ?_
  exact L106 (_ + 1) 0 (Nat.lt_succ_self _) (Nat.zero_le _) w9 h_w9_om h_w9_aso h_w9_asi h_w9_ase h_w9_ato h_w9_amo h_w9_alo h9 (fun zz g0 g1 g2 g3 g4 g5 g6 g7 => fr_w9 zz g0 g1 g2 g3 g4 g5 g6)

set_option maxHeartbeats 4000000 in
set_option maxRecDepth 20000 in
theorem c_X7_sketch (D : va_G) (cI cS : ClassId) (w : mwT) (om md aso asi ase ato amo alo aro asr : Nat) (th : Int32) (so : Nat → Nat) (si : Nat → Nat) (se : Nat → Nat) (to : Nat → Int32) (mo : Nat → Nat) (lo : Nat → Int32) (ro : Nat → Int32) (tg : Nat → Nat) (kd sz sd : Int32) (hom : w om = some (.inr (6, [.int th, .int (nI md), .ref aso, .ref asi, .ref ase, .ref ato, .ref amo, .ref alo, .ref aro, .ref asr]))) (h_aso : w aso = some (eI cI 8 (lnF so))) (h_asi : w asi = some (eI cI 8 (lnF si))) (h_ase : w ase = some (eI cI 8 (lnF se))) (h_ato : w ato = some (eI cI 8 to)) (h_amo : w amo = some (eI cI 8 (lnF mo))) (h_alo : w alo = some (eI cI 8 lo)) (h_aro : w aro = some (eI cI 9600 ro)) (hmd : md ≤ 8) (t_aso : tg aso = 1) (t_asi : tg asi = 2) (t_ase : tg ase = 3) (t_ato : tg ato = 4) (t_amo : tg amo = 5) (t_alo : tg alo = 6) (t_aro : tg aro = 7) : mMi yX7_sketch cX7_sketch 5 (some .int) (rmL 8) [.ref om, .int kd, .int sz, .int sd] D cI cS w (fun r w1 => (¬ skGood kd sz sd ∧ r = -1 ∧ w1 om = some (.inr (6, [.int (nI 0), .int (nI md), .ref aso, .ref asi, .ref ase, .ref ato, .ref amo, .ref alo, .ref aro, .ref asr])) ∧ ∀ z : Nat, z ≠ om → w1 z = w z) ∨ (∃ ka za da : Nat, ka ≤ 4 ∧ da ≤ 999 ∧ kd = nI ka ∧ sz = nI za ∧ sd = nI da ∧ szN ka za ∧ ((md = 8 ∧ r = -3 ∧ w1 om = some (.inr (6, [.int (nI 0), .int (nI md), .ref aso, .ref asi, .ref ase, .ref ato, .ref amo, .ref alo, .ref aro, .ref asr])) ∧ ∀ z : Nat, z ≠ om → w1 z = w z) ∨ (md < 8 ∧ r = nI md ∧ w1 om = some (.inr (6, [.int (nI 0), .int (nI (md + 1)), .ref aso, .ref asi, .ref ase, .ref ato, .ref amo, .ref alo, .ref aro, .ref asr])) ∧ w1 aso = some (eI cI 8 (lnF (updN so md ka))) ∧ w1 asi = some (eI cI 8 (lnF (updN si md za))) ∧ w1 ase = some (eI cI 8 (lnF (updN se md da))) ∧ w1 ato = some (eI cI 8 (upd to md (nI 0))) ∧ w1 amo = some (eI cI 8 (lnF (updN mo md 0))) ∧ w1 alo = some (eI cI 8 (upd lo md (nI 0))) ∧ w1 aro = some (eI cI 9600 (zrM ro md 1200)) ∧ ∀ z : Nat, z ≠ om → z ≠ aso → z ≠ asi → z ≠ ase → z ≠ ato → z ≠ amo → z ≠ alo → z ≠ aro → w1 z = w z)))) := by
  refine mMi.of (by decide) (Nat.le_of_ble_eq_true rfl) ?_
  intro X C hN hR
  have fr_w : ∀ zz : Nat, w zz = w zz := fun _ => rfl
  refine mg_sub (lv' := [(0, .ref om), (1, .int kd), (2, .int sz), (3, .int sd)]) [0, 1, 2, 3] rfl ?_
  refine mg_aload_n C dX7_sketch_0 rfl ?_
  refine mg_iconst C (v := nI 0) dX7_sketch_1 (by decide) ?_
  refine mg_put C (fs' := [.int (nI 0), .int (nI md), .ref aso, .ref asi, .ref ase, .ref ato, .ref amo, .ref alo, .ref aro, .ref asr]) inT7 hom rfl 0 (by decide) kw_28 (Or.inl rfl) tyX7_ok nmX7 rfl rfl rfl rfl (Nat.le_of_ble_eq_true rfl) dX7_sketch_2 (fun w1 e_w1 => ?_)
  have h_w1_om : w1 om = some (.inr (6, [.int (nI 0), .int (nI md), .ref aso, .ref asi, .ref ase, .ref ato, .ref amo, .ref alo, .ref aro, .ref asr])) := (congrFun e_w1 _).trans mwu_eq
  have h_w1_aso : w1 aso = some (eI cI 8 (lnF so)) := (congrFun e_w1 _).trans ((mwu_ne (mw_ao h_aso hom)).trans h_aso)
  have h_w1_asi : w1 asi = some (eI cI 8 (lnF si)) := (congrFun e_w1 _).trans ((mwu_ne (mw_ao h_asi hom)).trans h_asi)
  have h_w1_ase : w1 ase = some (eI cI 8 (lnF se)) := (congrFun e_w1 _).trans ((mwu_ne (mw_ao h_ase hom)).trans h_ase)
  have h_w1_ato : w1 ato = some (eI cI 8 to) := (congrFun e_w1 _).trans ((mwu_ne (mw_ao h_ato hom)).trans h_ato)
  have h_w1_amo : w1 amo = some (eI cI 8 (lnF mo)) := (congrFun e_w1 _).trans ((mwu_ne (mw_ao h_amo hom)).trans h_amo)
  have h_w1_alo : w1 alo = some (eI cI 8 lo) := (congrFun e_w1 _).trans ((mwu_ne (mw_ao h_alo hom)).trans h_alo)
  have h_w1_aro : w1 aro = some (eI cI 9600 ro) := (congrFun e_w1 _).trans ((mwu_ne (mw_ao h_aro hom)).trans h_aro)
  have fr_w1 : ∀ zz : Nat, zz ≠ om → w1 zz = w zz := fun zz g0 => (congrFun e_w1 zz).trans ((mwu_ne g0).trans (fr_w zz ))
  refine mg_iload_n C dX7_sketch_5 rfl ?_
  refine mg_iconst C (v := nI 0) dX7_sketch_6 (by decide) ?_
  refine mg_iconst C (v := nI 4) dX7_sketch_7 (by decide) ?_
  refine mg_callS_i C (rest := []) (c_X7_in D cI cS w1 kd (nI 0) (nI 4)) yq_X7_in kw_112 kw_113 ⟨by decide, by decide⟩ ⟨Nat.le_of_ble_eq_true rfl, Nat.le_of_ble_eq_true rfl⟩ (Nat.le_of_ble_eq_true rfl) rfl rfl dX7_sketch_8 (fun r2 w2 ⟨xa2, xk2⟩ => ?_)
  rw [xk2]
  rcases xa2 with ⟨ra2, hy_a⟩ | ⟨ra2, hy_a⟩
  · rw [ra2]
    obtain ⟨ka, hka, rfl⟩ := (in_rg (n := 4) (by decide)).mp hy_a
    refine mg_ifN_eq C (tgt := 29) dX7_sketch_11 (by decide) (by decide) (fun c_11 => absurd c_11 (by decide)) (fun c_11 => ?_)
    refine mg_iload_n C dX7_sketch_14 rfl ?_
    refine mg_iconst C (v := nI 0) dX7_sketch_15 (by decide) ?_
    refine mg_sipush C (v := nI 999) dX7_sketch_16 (by decide) ?_
    refine mg_callS_i C (rest := []) (c_X7_in D cI cS w1 sd (nI 0) (nI 999)) yq_X7_in kw_112 kw_113 ⟨by decide, by decide⟩ ⟨Nat.le_of_ble_eq_true rfl, Nat.le_of_ble_eq_true rfl⟩ (Nat.le_of_ble_eq_true rfl) rfl rfl dX7_sketch_19 (fun r3 w3 ⟨xa3, xk3⟩ => ?_)
    rw [xk3]
    rcases xa3 with ⟨ra3, hy_b⟩ | ⟨ra3, hy_b⟩
    · rw [ra3]
      obtain ⟨da, hda, rfl⟩ := (in_rg (n := 999) (by decide)).mp hy_b
      refine mg_ifN_eq C (tgt := 29) dX7_sketch_22 (by decide) (by decide) (fun c_22 => absurd c_22 (by decide)) (fun c_22 => ?_)
      refine mg_iconst C (v := nI 1) dX7_sketch_25 (by decide) ?_
      refine mg_goto C (tgt := 30) dX7_sketch_26 (by decide) ?_
      refine mg_istore C (lv' := [(4, .int (nI 1)), (0, .ref om), (1, .int (nI ka)), (2, .int sz), (3, .int (nI da))]) dX7_sketch_30 (by decide) rfl ?_
      refine mg_iload C dX7_sketch_32 rfl ?_
      refine mg_ifN_eq C (tgt := 130) dX7_sketch_34 (by decide) (by decide) (fun c_34 => absurd c_34 (by decide)) (fun c_34 => ?_)
      refine mg_iload_n C dX7_sketch_37 rfl ?_
      refine mg_ifN_ne C (tgt := 54) dX7_sketch_38 (by decide) (by omega) (fun c_38 => ?_) (fun c_38 => ?_)
      · refine mg_iload_n C dX7_sketch_54 rfl ?_
        refine mg_iconst C (v := nI 1) dX7_sketch_55 (by decide) ?_
        refine mg_icmpN_ne C (tgt := 72) dX7_sketch_56 (by decide) (by omega) (by omega) (fun c_56 => ?_) (fun c_56 => ?_)
        · refine mg_iload_n C dX7_sketch_72 rfl ?_
          refine mg_iconst C (v := nI 2) dX7_sketch_73 (by decide) ?_
          refine mg_icmpN_ne C (tgt := 92) dX7_sketch_74 (by decide) (by omega) (by omega) (fun c_74 => ?_) (fun c_74 => ?_)
          · refine mg_iload_n C dX7_sketch_92 rfl ?_
            refine mg_iconst C (v := nI 3) dX7_sketch_93 (by decide) ?_
            refine mg_icmpN_ne C (tgt := 110) dX7_sketch_94 (by decide) (by omega) (by omega) (fun c_94 => ?_) (fun c_94 => ?_)
            · refine mg_iload_n C dX7_sketch_110 rfl ?_
              refine mg_iconst C (v := nI 4) dX7_sketch_111 (by decide) ?_
              refine mg_bipush C (v := nI 32) dX7_sketch_112 (by decide) ?_
              refine mg_callS_i C (rest := []) (c_X7_in D cI cS w1 sz (nI 4) (nI 32)) yq_X7_in kw_112 kw_113 ⟨by decide, by decide⟩ ⟨Nat.le_of_ble_eq_true rfl, Nat.le_of_ble_eq_true rfl⟩ (Nat.le_of_ble_eq_true rfl) rfl rfl dX7_sketch_114 (fun r4 w4 ⟨xa4, xk4⟩ => ?_)
              rw [xk4]
              rcases xa4 with ⟨ra4, hy_zR⟩ | ⟨ra4, hy_zR⟩
              · rw [ra4]
                obtain ⟨za, hz1, hz2, rfl⟩ := (in_rp (lo := 4) (hi := 32) (by decide)).mp hy_zR
                refine mg_ifN_eq C (tgt := 130) dX7_sketch_117 (by decide) (by decide) (fun c_117 => absurd c_117 (by decide)) (fun c_117 => ?_)
                refine mg_iload_n C dX7_sketch_120 rfl ?_
                refine mg_iconst C (v := nI 2) dX7_sketch_121 (by decide) ?_
                refine mg_irem C (z := nI (za % 2)) dX7_sketch_122 (nI_ne0 (by omega) (by omega)) (pk_rem (by omega) (by omega) (by omega)) ?_
                refine mg_ifN_ne C (tgt := 130) dX7_sketch_123 (by decide) (by omega) (fun c_123 => ?_) (fun c_123 => ?_)
                · refine mg_iconst C (v := nI 0) dX7_sketch_130 (by decide) ?_
                  refine mg_istore C (lv' := [(4, .int (nI 0)), (0, .ref om), (1, .int (nI ka)), (2, .int (nI za)), (3, .int (nI da))]) dX7_sketch_131 (by decide) rfl ?_
                  refine mg_iload C dX7_sketch_133 rfl ?_
                  refine mg_ifN_ne C (tgt := 140) dX7_sketch_135 (by decide) (by decide) (fun c_135 => absurd c_135 (by decide)) (fun c_135 => ?_)
                  refine mg_iconst C (v := (-1 : Int32)) dX7_sketch_138 (by decide) ?_
                  exact hR _ _ _ _ dX7_sketch_139 (Or.inl ⟨sk_no3 hka (fun z2 e2 q => by have hb2 := szN_bd q; have e3 := (nI_eq (by omega) (by omega)).mp e2; unfold szN at q; omega), rfl, h_w1_om, fun z q0 => fr_w1 z q0⟩)
                · refine mg_iconst C (v := nI 1) dX7_sketch_126 (by decide) ?_
                  refine mg_goto C (tgt := 131) dX7_sketch_127 (by decide) ?_
                  refine mg_istore C (lv' := [(4, .int (nI 1)), (0, .ref om), (1, .int (nI ka)), (2, .int (nI za)), (3, .int (nI da))]) dX7_sketch_131 (by decide) rfl ?_
                  refine mg_iload C dX7_sketch_133 rfl ?_
                  refine mg_ifN_ne C (tgt := 140) dX7_sketch_135 (by decide) (by decide) (fun c_135 => ?_) (fun c_135 => absurd c_135 (by decide))
                  refine mg_aload_n C dX7_sketch_140 rfl ?_
                  refine mg_get C inT7 h_w1_om rfl 1 (by decide) kw_111 (Or.inl rfl) rfl dX7_sketch_141 ?_
                  refine mg_bipush C (v := nI 8) dX7_sketch_144 (by decide) ?_
                  refine mg_icmpN_ne C (tgt := 152) dX7_sketch_146 (by decide) (by omega) (by omega) (fun c_146 => ?_) (fun c_146 => ?_)
                  · refine mg_aload_n C dX7_sketch_152 rfl ?_
                    refine mg_get C inT7 h_w1_om rfl 2 (by decide) kw_20 (Or.inl rfl) rfl dX7_sketch_153 ?_
                    refine mg_aload_n C dX7_sketch_156 rfl ?_
                    refine mg_get C inT7 h_w1_om rfl 1 (by decide) kw_111 (Or.inl rfl) rfl dX7_sketch_157 ?_
                    refine mg_iload_n C dX7_sketch_160 rfl ?_
                    refine mg_iastN C h_w1_aso (by omega) (by omega) dX7_sketch_161 (fun w5 e_w5 => ?_)
                    rw [upd_lnF] at e_w5
                    have h_w5_om : w5 om = some (.inr (6, [.int (nI 0), .int (nI md), .ref aso, .ref asi, .ref ase, .ref ato, .ref amo, .ref alo, .ref aro, .ref asr])) := (congrFun e_w5 _).trans ((mwu_ne (mw_oa h_w1_om h_w1_aso)).trans h_w1_om)
                    have h_w5_aso : w5 aso = some (eI cI 8 (lnF (updN so md ka))) := (congrFun e_w5 _).trans mwu_eq
                    have h_w5_asi : w5 asi = some (eI cI 8 (lnF si)) := (congrFun e_w5 _).trans ((mwu_ne (Ne.symm (tne t_aso t_asi (by decide)))).trans h_w1_asi)
                    have h_w5_ase : w5 ase = some (eI cI 8 (lnF se)) := (congrFun e_w5 _).trans ((mwu_ne (Ne.symm (tne t_aso t_ase (by decide)))).trans h_w1_ase)
                    have h_w5_ato : w5 ato = some (eI cI 8 to) := (congrFun e_w5 _).trans ((mwu_ne (Ne.symm (tne t_aso t_ato (by decide)))).trans h_w1_ato)
                    have h_w5_amo : w5 amo = some (eI cI 8 (lnF mo)) := (congrFun e_w5 _).trans ((mwu_ne (Ne.symm (tne t_aso t_amo (by decide)))).trans h_w1_amo)
                    have h_w5_alo : w5 alo = some (eI cI 8 lo) := (congrFun e_w5 _).trans ((mwu_ne (Ne.symm (tne t_aso t_alo (by decide)))).trans h_w1_alo)
                    have h_w5_aro : w5 aro = some (eI cI 9600 ro) := (congrFun e_w5 _).trans ((mwu_ne (Ne.symm (tne t_aso t_aro (by decide)))).trans h_w1_aro)
                    have fr_w5 : ∀ zz : Nat, zz ≠ om → zz ≠ aso → w5 zz = w zz := fun zz g0 g1 => (congrFun e_w5 zz).trans ((mwu_ne g1).trans (fr_w1 zz g0))
                    refine mg_aload_n C dX7_sketch_162 rfl ?_
                    refine mg_get C inT7 h_w5_om rfl 3 (by decide) kw_21 (Or.inl rfl) rfl dX7_sketch_163 ?_
                    refine mg_aload_n C dX7_sketch_166 rfl ?_
                    refine mg_get C inT7 h_w5_om rfl 1 (by decide) kw_111 (Or.inl rfl) rfl dX7_sketch_167 ?_
                    refine mg_iload_n C dX7_sketch_170 rfl ?_
                    refine mg_iastN C h_w5_asi (by omega) (by omega) dX7_sketch_171 (fun w6 e_w6 => ?_)
                    rw [upd_lnF] at e_w6
                    have h_w6_om : w6 om = some (.inr (6, [.int (nI 0), .int (nI md), .ref aso, .ref asi, .ref ase, .ref ato, .ref amo, .ref alo, .ref aro, .ref asr])) := (congrFun e_w6 _).trans ((mwu_ne (mw_oa h_w5_om h_w5_asi)).trans h_w5_om)
                    have h_w6_aso : w6 aso = some (eI cI 8 (lnF (updN so md ka))) := (congrFun e_w6 _).trans ((mwu_ne (tne t_aso t_asi (by decide))).trans h_w5_aso)
                    have h_w6_asi : w6 asi = some (eI cI 8 (lnF (updN si md za))) := (congrFun e_w6 _).trans mwu_eq
                    have h_w6_ase : w6 ase = some (eI cI 8 (lnF se)) := (congrFun e_w6 _).trans ((mwu_ne (Ne.symm (tne t_asi t_ase (by decide)))).trans h_w5_ase)
                    have h_w6_ato : w6 ato = some (eI cI 8 to) := (congrFun e_w6 _).trans ((mwu_ne (Ne.symm (tne t_asi t_ato (by decide)))).trans h_w5_ato)
                    have h_w6_amo : w6 amo = some (eI cI 8 (lnF mo)) := (congrFun e_w6 _).trans ((mwu_ne (Ne.symm (tne t_asi t_amo (by decide)))).trans h_w5_amo)
                    have h_w6_alo : w6 alo = some (eI cI 8 lo) := (congrFun e_w6 _).trans ((mwu_ne (Ne.symm (tne t_asi t_alo (by decide)))).trans h_w5_alo)
                    have h_w6_aro : w6 aro = some (eI cI 9600 ro) := (congrFun e_w6 _).trans ((mwu_ne (Ne.symm (tne t_asi t_aro (by decide)))).trans h_w5_aro)
                    have fr_w6 : ∀ zz : Nat, zz ≠ om → zz ≠ aso → zz ≠ asi → w6 zz = w zz := fun zz g0 g1 g2 => (congrFun e_w6 zz).trans ((mwu_ne g2).trans (fr_w5 zz g0 g1))
                    refine mg_aload_n C dX7_sketch_172 rfl ?_
                    refine mg_get C inT7 h_w6_om rfl 4 (by decide) kw_22 (Or.inl rfl) rfl dX7_sketch_173 ?_
                    refine mg_aload_n C dX7_sketch_176 rfl ?_
                    refine mg_get C inT7 h_w6_om rfl 1 (by decide) kw_111 (Or.inl rfl) rfl dX7_sketch_177 ?_
                    refine mg_iload_n C dX7_sketch_180 rfl ?_
                    refine mg_iastN C h_w6_ase (by omega) (by omega) dX7_sketch_181 (fun w7 e_w7 => ?_)
                    rw [upd_lnF] at e_w7
                    have h_w7_om : w7 om = some (.inr (6, [.int (nI 0), .int (nI md), .ref aso, .ref asi, .ref ase, .ref ato, .ref amo, .ref alo, .ref aro, .ref asr])) := (congrFun e_w7 _).trans ((mwu_ne (mw_oa h_w6_om h_w6_ase)).trans h_w6_om)
                    have h_w7_aso : w7 aso = some (eI cI 8 (lnF (updN so md ka))) := (congrFun e_w7 _).trans ((mwu_ne (tne t_aso t_ase (by decide))).trans h_w6_aso)
                    have h_w7_asi : w7 asi = some (eI cI 8 (lnF (updN si md za))) := (congrFun e_w7 _).trans ((mwu_ne (tne t_asi t_ase (by decide))).trans h_w6_asi)
                    have h_w7_ase : w7 ase = some (eI cI 8 (lnF (updN se md da))) := (congrFun e_w7 _).trans mwu_eq
                    have h_w7_ato : w7 ato = some (eI cI 8 to) := (congrFun e_w7 _).trans ((mwu_ne (Ne.symm (tne t_ase t_ato (by decide)))).trans h_w6_ato)
                    have h_w7_amo : w7 amo = some (eI cI 8 (lnF mo)) := (congrFun e_w7 _).trans ((mwu_ne (Ne.symm (tne t_ase t_amo (by decide)))).trans h_w6_amo)
                    have h_w7_alo : w7 alo = some (eI cI 8 lo) := (congrFun e_w7 _).trans ((mwu_ne (Ne.symm (tne t_ase t_alo (by decide)))).trans h_w6_alo)
                    have h_w7_aro : w7 aro = some (eI cI 9600 ro) := (congrFun e_w7 _).trans ((mwu_ne (Ne.symm (tne t_ase t_aro (by decide)))).trans h_w6_aro)
                    have fr_w7 : ∀ zz : Nat, zz ≠ om → zz ≠ aso → zz ≠ asi → zz ≠ ase → w7 zz = w zz := fun zz g0 g1 g2 g3 => (congrFun e_w7 zz).trans ((mwu_ne g3).trans (fr_w6 zz g0 g1 g2))
                    refine mg_aload_n C dX7_sketch_182 rfl ?_
                    refine mg_dup C dX7_sketch_183 rfl ?_
                    refine mg_get C inT7 h_w7_om rfl 1 (by decide) kw_111 (Or.inl rfl) rfl dX7_sketch_184 ?_
                    refine mg_iconst C (v := nI 1) dX7_sketch_187 (by decide) ?_
                    refine mg_iadd C (z := nI (md + 1)) dX7_sketch_188 (nI_add _ _) ?_
                    refine mg_put C (fs' := [.int (nI 0), .int (nI (md + 1)), .ref aso, .ref asi, .ref ase, .ref ato, .ref amo, .ref alo, .ref aro, .ref asr]) inT7 h_w7_om rfl 1 (by decide) kw_111 (Or.inl rfl) tyX7_ok nmX7 rfl rfl rfl rfl (Nat.le_of_ble_eq_true rfl) dX7_sketch_189 (fun w8 e_w8 => ?_)
                    have h_w8_om : w8 om = some (.inr (6, [.int (nI 0), .int (nI (md + 1)), .ref aso, .ref asi, .ref ase, .ref ato, .ref amo, .ref alo, .ref aro, .ref asr])) := (congrFun e_w8 _).trans mwu_eq
                    have h_w8_aso : w8 aso = some (eI cI 8 (lnF (updN so md ka))) := (congrFun e_w8 _).trans ((mwu_ne (mw_ao h_w7_aso h_w7_om)).trans h_w7_aso)
                    have h_w8_asi : w8 asi = some (eI cI 8 (lnF (updN si md za))) := (congrFun e_w8 _).trans ((mwu_ne (mw_ao h_w7_asi h_w7_om)).trans h_w7_asi)
                    have h_w8_ase : w8 ase = some (eI cI 8 (lnF (updN se md da))) := (congrFun e_w8 _).trans ((mwu_ne (mw_ao h_w7_ase h_w7_om)).trans h_w7_ase)
                    have h_w8_ato : w8 ato = some (eI cI 8 to) := (congrFun e_w8 _).trans ((mwu_ne (mw_ao h_w7_ato h_w7_om)).trans h_w7_ato)
                    have h_w8_amo : w8 amo = some (eI cI 8 (lnF mo)) := (congrFun e_w8 _).trans ((mwu_ne (mw_ao h_w7_amo h_w7_om)).trans h_w7_amo)
                    have h_w8_alo : w8 alo = some (eI cI 8 lo) := (congrFun e_w8 _).trans ((mwu_ne (mw_ao h_w7_alo h_w7_om)).trans h_w7_alo)
                    have h_w8_aro : w8 aro = some (eI cI 9600 ro) := (congrFun e_w8 _).trans ((mwu_ne (mw_ao h_w7_aro h_w7_om)).trans h_w7_aro)
                    have fr_w8 : ∀ zz : Nat, zz ≠ om → zz ≠ aso → zz ≠ asi → zz ≠ ase → w8 zz = w zz := fun zz g0 g1 g2 g3 => (congrFun e_w8 zz).trans ((mwu_ne g0).trans (fr_w7 zz g0 g1 g2 g3))
                    refine mg_aload_n C dX7_sketch_192 rfl ?_
                    refine mg_aload_n C dX7_sketch_193 rfl ?_
                    refine mg_get C inT7 h_w8_om rfl 1 (by decide) kw_111 (Or.inl rfl) rfl dX7_sketch_194 ?_
                    refine mg_iconst C (v := nI 1) dX7_sketch_197 (by decide) ?_
                    refine mg_isub C (z := nI md) dX7_sketch_198 ((ni_sub (by omega)).trans rfl) ?_
                    refine mg_callV_v C h_w8_om rfl (rest := []) (c_X7_empty D cI cS w8 om (md + 1) aso asi ase ato amo alo aro asr (nI 0) to mo lo ro tg md h_w8_om h_w8_ato h_w8_amo h_w8_alo h_w8_aro (by omega) t_ato t_amo t_alo t_aro) yq_X7_empty kw_115 kw_116 kw_117 ⟨by decide, by decide⟩ ⟨Nat.le_of_ble_eq_true rfl, Nat.le_of_ble_eq_true rfl⟩ (Nat.le_of_ble_eq_true rfl) rfl rfl dX7_sketch_199 (fun w9 ⟨xa9, xb9, xc9, xd9, xf9⟩ => ?_)
                    have h_w9_om : w9 om = some (.inr (6, [.int (nI 0), .int (nI (md + 1)), .ref aso, .ref asi, .ref ase, .ref ato, .ref amo, .ref alo, .ref aro, .ref asr])) := (xf9 om (mw_oa h_w8_om h_w8_ato) (mw_oa h_w8_om h_w8_amo) (mw_oa h_w8_om h_w8_alo) (mw_oa h_w8_om h_w8_aro)).trans h_w8_om
                    have h_w9_aso : w9 aso = some (eI cI 8 (lnF (updN so md ka))) := (xf9 aso (tne t_aso t_ato (by decide)) (tne t_aso t_amo (by decide)) (tne t_aso t_alo (by decide)) (tne t_aso t_aro (by decide))).trans h_w8_aso
                    have h_w9_asi : w9 asi = some (eI cI 8 (lnF (updN si md za))) := (xf9 asi (tne t_asi t_ato (by decide)) (tne t_asi t_amo (by decide)) (tne t_asi t_alo (by decide)) (tne t_asi t_aro (by decide))).trans h_w8_asi
                    have h_w9_ase : w9 ase = some (eI cI 8 (lnF (updN se md da))) := (xf9 ase (tne t_ase t_ato (by decide)) (tne t_ase t_amo (by decide)) (tne t_ase t_alo (by decide)) (tne t_ase t_aro (by decide))).trans h_w8_ase
                    have fr_w9 : ∀ zz : Nat, zz ≠ om → zz ≠ aso → zz ≠ asi → zz ≠ ase → zz ≠ ato → zz ≠ amo → zz ≠ alo → zz ≠ aro → w9 zz = w zz := fun zz g0 g1 g2 g3 g4 g5 g6 g7 => (xf9 zz g4 g5 g6 g7).trans (fr_w8 zz g0 g1 g2 g3)
                    refine mg_aload_n C dX7_sketch_202 rfl ?_
                    refine mg_get C inT7 h_w9_om rfl 1 (by decide) kw_111 (Or.inl rfl) rfl dX7_sketch_203 ?_
                    refine mg_iconst C (v := nI 1) dX7_sketch_206 (by decide) ?_
                    refine mg_isub C (z := nI md) dX7_sketch_207 ((ni_sub (by omega)).trans rfl) ?_
                    have hsz : szN ka za := by unfold szN; omega
                    exact hR _ _ _ _ dX7_sketch_208 (Or.inr ⟨ka, za, da, hka, hda, rfl, rfl, rfl, hsz, Or.inr ⟨by omega, rfl, h_w9_om, h_w9_aso, h_w9_asi, h_w9_ase, xa9, xb9, xc9, xd9, fun z q0 q1 q2 q3 q4 q5 q6 q7 => fr_w9 z q0 q1 q2 q3 q4 q5 q6 q7⟩⟩)
                  · refine mg_bipush C (v := (-3 : Int32)) dX7_sketch_149 (by decide) ?_
                    have hsz : szN ka za := by unfold szN; omega
                    exact hR _ _ _ _ dX7_sketch_151 (Or.inr ⟨ka, za, da, hka, hda, rfl, rfl, rfl, hsz, Or.inl ⟨c_146, rfl, h_w1_om, fun z q0 => fr_w1 z q0⟩⟩)
              · rw [ra4]
                refine mg_ifN_eq C (tgt := 130) dX7_sketch_117 (by decide) (by decide) (fun c_117 => ?_) (fun c_117 => absurd c_117 (by decide))
                refine mg_iconst C (v := nI 0) dX7_sketch_130 (by decide) ?_
                refine mg_istore C (lv' := [(4, .int (nI 0)), (0, .ref om), (1, .int (nI ka)), (2, .int sz), (3, .int (nI da))]) dX7_sketch_131 (by decide) rfl ?_
                refine mg_iload C dX7_sketch_133 rfl ?_
                refine mg_ifN_ne C (tgt := 140) dX7_sketch_135 (by decide) (by decide) (fun c_135 => absurd c_135 (by decide)) (fun c_135 => ?_)
                refine mg_iconst C (v := (-1 : Int32)) dX7_sketch_138 (by decide) ?_
                exact hR _ _ _ _ dX7_sketch_139 (Or.inl ⟨sk_noR (lo := 4) (hi := 32) hka (fun q => hy_zR ((in_rp (by decide)).mpr q)) (fun z q => by unfold szN at q; omega), rfl, h_w1_om, fun z q0 => fr_w1 z q0⟩)
            · refine mg_iload_n C dX7_sketch_97 rfl ?_
              refine mg_iconst C (v := nI 2) dX7_sketch_98 (by decide) ?_
              refine mg_bipush C (v := nI 32) dX7_sketch_99 (by decide) ?_
              refine mg_callS_i C (rest := []) (c_X7_in D cI cS w1 sz (nI 2) (nI 32)) yq_X7_in kw_112 kw_113 ⟨by decide, by decide⟩ ⟨Nat.le_of_ble_eq_true rfl, Nat.le_of_ble_eq_true rfl⟩ (Nat.le_of_ble_eq_true rfl) rfl rfl dX7_sketch_101 (fun r10 w10 ⟨xa10, xk10⟩ => ?_)
              rw [xk10]
              rcases xa10 with ⟨ra10, hy_zL⟩ | ⟨ra10, hy_zL⟩
              · rw [ra10]
                obtain ⟨za, hz1, hz2, rfl⟩ := (in_rp (lo := 2) (hi := 32) (by decide)).mp hy_zL
                refine mg_ifN_eq C (tgt := 130) dX7_sketch_104 (by decide) (by decide) (fun c_104 => absurd c_104 (by decide)) (fun c_104 => ?_)
                refine mg_goto C (tgt := 126) dX7_sketch_107 (by decide) ?_
                refine mg_iconst C (v := nI 1) dX7_sketch_126 (by decide) ?_
                refine mg_goto C (tgt := 131) dX7_sketch_127 (by decide) ?_
                refine mg_istore C (lv' := [(4, .int (nI 1)), (0, .ref om), (1, .int (nI ka)), (2, .int (nI za)), (3, .int (nI da))]) dX7_sketch_131 (by decide) rfl ?_
                refine mg_iload C dX7_sketch_133 rfl ?_
                refine mg_ifN_ne C (tgt := 140) dX7_sketch_135 (by decide) (by decide) (fun c_135 => ?_) (fun c_135 => absurd c_135 (by decide))
                refine mg_aload_n C dX7_sketch_140 rfl ?_
                refine mg_get C inT7 h_w1_om rfl 1 (by decide) kw_111 (Or.inl rfl) rfl dX7_sketch_141 ?_
                refine mg_bipush C (v := nI 8) dX7_sketch_144 (by decide) ?_
                refine mg_icmpN_ne C (tgt := 152) dX7_sketch_146 (by decide) (by omega) (by omega) (fun c_146 => ?_) (fun c_146 => ?_)
                · refine mg_aload_n C dX7_sketch_152 rfl ?_
                  refine mg_get C inT7 h_w1_om rfl 2 (by decide) kw_20 (Or.inl rfl) rfl dX7_sketch_153 ?_
                  refine mg_aload_n C dX7_sketch_156 rfl ?_
                  refine mg_get C inT7 h_w1_om rfl 1 (by decide) kw_111 (Or.inl rfl) rfl dX7_sketch_157 ?_
                  refine mg_iload_n C dX7_sketch_160 rfl ?_
                  refine mg_iastN C h_w1_aso (by omega) (by omega) dX7_sketch_161 (fun w11 e_w11 => ?_)
                  rw [upd_lnF] at e_w11
                  have h_w11_om : w11 om = some (.inr (6, [.int (nI 0), .int (nI md), .ref aso, .ref asi, .ref ase, .ref ato, .ref amo, .ref alo, .ref aro, .ref asr])) := (congrFun e_w11 _).trans ((mwu_ne (mw_oa h_w1_om h_w1_aso)).trans h_w1_om)
                  have h_w11_aso : w11 aso = some (eI cI 8 (lnF (updN so md ka))) := (congrFun e_w11 _).trans mwu_eq
                  have h_w11_asi : w11 asi = some (eI cI 8 (lnF si)) := (congrFun e_w11 _).trans ((mwu_ne (Ne.symm (tne t_aso t_asi (by decide)))).trans h_w1_asi)
                  have h_w11_ase : w11 ase = some (eI cI 8 (lnF se)) := (congrFun e_w11 _).trans ((mwu_ne (Ne.symm (tne t_aso t_ase (by decide)))).trans h_w1_ase)
                  have h_w11_ato : w11 ato = some (eI cI 8 to) := (congrFun e_w11 _).trans ((mwu_ne (Ne.symm (tne t_aso t_ato (by decide)))).trans h_w1_ato)
                  have h_w11_amo : w11 amo = some (eI cI 8 (lnF mo)) := (congrFun e_w11 _).trans ((mwu_ne (Ne.symm (tne t_aso t_amo (by decide)))).trans h_w1_amo)
                  have h_w11_alo : w11 alo = some (eI cI 8 lo) := (congrFun e_w11 _).trans ((mwu_ne (Ne.symm (tne t_aso t_alo (by decide)))).trans h_w1_alo)
                  have h_w11_aro : w11 aro = some (eI cI 9600 ro) := (congrFun e_w11 _).trans ((mwu_ne (Ne.symm (tne t_aso t_aro (by decide)))).trans h_w1_aro)
                  have fr_w11 : ∀ zz : Nat, zz ≠ om → zz ≠ aso → w11 zz = w zz := fun zz g0 g1 => (congrFun e_w11 zz).trans ((mwu_ne g1).trans (fr_w1 zz g0))
                  refine mg_aload_n C dX7_sketch_162 rfl ?_
                  refine mg_get C inT7 h_w11_om rfl 3 (by decide) kw_21 (Or.inl rfl) rfl dX7_sketch_163 ?_
                  refine mg_aload_n C dX7_sketch_166 rfl ?_
                  refine mg_get C inT7 h_w11_om rfl 1 (by decide) kw_111 (Or.inl rfl) rfl dX7_sketch_167 ?_
                  refine mg_iload_n C dX7_sketch_170 rfl ?_
                  refine mg_iastN C h_w11_asi (by omega) (by omega) dX7_sketch_171 (fun w12 e_w12 => ?_)
                  rw [upd_lnF] at e_w12
                  have h_w12_om : w12 om = some (.inr (6, [.int (nI 0), .int (nI md), .ref aso, .ref asi, .ref ase, .ref ato, .ref amo, .ref alo, .ref aro, .ref asr])) := (congrFun e_w12 _).trans ((mwu_ne (mw_oa h_w11_om h_w11_asi)).trans h_w11_om)
                  have h_w12_aso : w12 aso = some (eI cI 8 (lnF (updN so md ka))) := (congrFun e_w12 _).trans ((mwu_ne (tne t_aso t_asi (by decide))).trans h_w11_aso)
                  have h_w12_asi : w12 asi = some (eI cI 8 (lnF (updN si md za))) := (congrFun e_w12 _).trans mwu_eq
                  have h_w12_ase : w12 ase = some (eI cI 8 (lnF se)) := (congrFun e_w12 _).trans ((mwu_ne (Ne.symm (tne t_asi t_ase (by decide)))).trans h_w11_ase)
                  have h_w12_ato : w12 ato = some (eI cI 8 to) := (congrFun e_w12 _).trans ((mwu_ne (Ne.symm (tne t_asi t_ato (by decide)))).trans h_w11_ato)
                  have h_w12_amo : w12 amo = some (eI cI 8 (lnF mo)) := (congrFun e_w12 _).trans ((mwu_ne (Ne.symm (tne t_asi t_amo (by decide)))).trans h_w11_amo)
                  have h_w12_alo : w12 alo = some (eI cI 8 lo) := (congrFun e_w12 _).trans ((mwu_ne (Ne.symm (tne t_asi t_alo (by decide)))).trans h_w11_alo)
                  have h_w12_aro : w12 aro = some (eI cI 9600 ro) := (congrFun e_w12 _).trans ((mwu_ne (Ne.symm (tne t_asi t_aro (by decide)))).trans h_w11_aro)
                  have fr_w12 : ∀ zz : Nat, zz ≠ om → zz ≠ aso → zz ≠ asi → w12 zz = w zz := fun zz g0 g1 g2 => (congrFun e_w12 zz).trans ((mwu_ne g2).trans (fr_w11 zz g0 g1))
                  refine mg_aload_n C dX7_sketch_172 rfl ?_
                  refine mg_get C inT7 h_w12_om rfl 4 (by decide) kw_22 (Or.inl rfl) rfl dX7_sketch_173 ?_
                  refine mg_aload_n C dX7_sketch_176 rfl ?_
                  refine mg_get C inT7 h_w12_om rfl 1 (by decide) kw_111 (Or.inl rfl) rfl dX7_sketch_177 ?_
                  refine mg_iload_n C dX7_sketch_180 rfl ?_
                  refine mg_iastN C h_w12_ase (by omega) (by omega) dX7_sketch_181 (fun w13 e_w13 => ?_)
                  rw [upd_lnF] at e_w13
                  have h_w13_om : w13 om = some (.inr (6, [.int (nI 0), .int (nI md), .ref aso, .ref asi, .ref ase, .ref ato, .ref amo, .ref alo, .ref aro, .ref asr])) := (congrFun e_w13 _).trans ((mwu_ne (mw_oa h_w12_om h_w12_ase)).trans h_w12_om)
                  have h_w13_aso : w13 aso = some (eI cI 8 (lnF (updN so md ka))) := (congrFun e_w13 _).trans ((mwu_ne (tne t_aso t_ase (by decide))).trans h_w12_aso)
                  have h_w13_asi : w13 asi = some (eI cI 8 (lnF (updN si md za))) := (congrFun e_w13 _).trans ((mwu_ne (tne t_asi t_ase (by decide))).trans h_w12_asi)
                  have h_w13_ase : w13 ase = some (eI cI 8 (lnF (updN se md da))) := (congrFun e_w13 _).trans mwu_eq
                  have h_w13_ato : w13 ato = some (eI cI 8 to) := (congrFun e_w13 _).trans ((mwu_ne (Ne.symm (tne t_ase t_ato (by decide)))).trans h_w12_ato)
                  have h_w13_amo : w13 amo = some (eI cI 8 (lnF mo)) := (congrFun e_w13 _).trans ((mwu_ne (Ne.symm (tne t_ase t_amo (by decide)))).trans h_w12_amo)
                  have h_w13_alo : w13 alo = some (eI cI 8 lo) := (congrFun e_w13 _).trans ((mwu_ne (Ne.symm (tne t_ase t_alo (by decide)))).trans h_w12_alo)
                  have h_w13_aro : w13 aro = some (eI cI 9600 ro) := (congrFun e_w13 _).trans ((mwu_ne (Ne.symm (tne t_ase t_aro (by decide)))).trans h_w12_aro)
                  have fr_w13 : ∀ zz : Nat, zz ≠ om → zz ≠ aso → zz ≠ asi → zz ≠ ase → w13 zz = w zz := fun zz g0 g1 g2 g3 => (congrFun e_w13 zz).trans ((mwu_ne g3).trans (fr_w12 zz g0 g1 g2))
                  refine mg_aload_n C dX7_sketch_182 rfl ?_
                  refine mg_dup C dX7_sketch_183 rfl ?_
                  refine mg_get C inT7 h_w13_om rfl 1 (by decide) kw_111 (Or.inl rfl) rfl dX7_sketch_184 ?_
                  refine mg_iconst C (v := nI 1) dX7_sketch_187 (by decide) ?_
                  refine mg_iadd C (z := nI (md + 1)) dX7_sketch_188 (nI_add _ _) ?_
                  refine mg_put C (fs' := [.int (nI 0), .int (nI (md + 1)), .ref aso, .ref asi, .ref ase, .ref ato, .ref amo, .ref alo, .ref aro, .ref asr]) inT7 h_w13_om rfl 1 (by decide) kw_111 (Or.inl rfl) tyX7_ok nmX7 rfl rfl rfl rfl (Nat.le_of_ble_eq_true rfl) dX7_sketch_189 (fun w14 e_w14 => ?_)
                  have h_w14_om : w14 om = some (.inr (6, [.int (nI 0), .int (nI (md + 1)), .ref aso, .ref asi, .ref ase, .ref ato, .ref amo, .ref alo, .ref aro, .ref asr])) := (congrFun e_w14 _).trans mwu_eq
                  have h_w14_aso : w14 aso = some (eI cI 8 (lnF (updN so md ka))) := (congrFun e_w14 _).trans ((mwu_ne (mw_ao h_w13_aso h_w13_om)).trans h_w13_aso)
                  have h_w14_asi : w14 asi = some (eI cI 8 (lnF (updN si md za))) := (congrFun e_w14 _).trans ((mwu_ne (mw_ao h_w13_asi h_w13_om)).trans h_w13_asi)
                  have h_w14_ase : w14 ase = some (eI cI 8 (lnF (updN se md da))) := (congrFun e_w14 _).trans ((mwu_ne (mw_ao h_w13_ase h_w13_om)).trans h_w13_ase)
                  have h_w14_ato : w14 ato = some (eI cI 8 to) := (congrFun e_w14 _).trans ((mwu_ne (mw_ao h_w13_ato h_w13_om)).trans h_w13_ato)
                  have h_w14_amo : w14 amo = some (eI cI 8 (lnF mo)) := (congrFun e_w14 _).trans ((mwu_ne (mw_ao h_w13_amo h_w13_om)).trans h_w13_amo)
                  have h_w14_alo : w14 alo = some (eI cI 8 lo) := (congrFun e_w14 _).trans ((mwu_ne (mw_ao h_w13_alo h_w13_om)).trans h_w13_alo)
                  have h_w14_aro : w14 aro = some (eI cI 9600 ro) := (congrFun e_w14 _).trans ((mwu_ne (mw_ao h_w13_aro h_w13_om)).trans h_w13_aro)
                  have fr_w14 : ∀ zz : Nat, zz ≠ om → zz ≠ aso → zz ≠ asi → zz ≠ ase → w14 zz = w zz := fun zz g0 g1 g2 g3 => (congrFun e_w14 zz).trans ((mwu_ne g0).trans (fr_w13 zz g0 g1 g2 g3))
                  refine mg_aload_n C dX7_sketch_192 rfl ?_
                  refine mg_aload_n C dX7_sketch_193 rfl ?_
                  refine mg_get C inT7 h_w14_om rfl 1 (by decide) kw_111 (Or.inl rfl) rfl dX7_sketch_194 ?_
                  refine mg_iconst C (v := nI 1) dX7_sketch_197 (by decide) ?_
                  refine mg_isub C (z := nI md) dX7_sketch_198 ((ni_sub (by omega)).trans rfl) ?_
                  refine mg_callV_v C h_w14_om rfl (rest := []) (c_X7_empty D cI cS w14 om (md + 1) aso asi ase ato amo alo aro asr (nI 0) to mo lo ro tg md h_w14_om h_w14_ato h_w14_amo h_w14_alo h_w14_aro (by omega) t_ato t_amo t_alo t_aro) yq_X7_empty kw_115 kw_116 kw_117 ⟨by decide, by decide⟩ ⟨Nat.le_of_ble_eq_true rfl, Nat.le_of_ble_eq_true rfl⟩ (Nat.le_of_ble_eq_true rfl) rfl rfl dX7_sketch_199 (fun w15 ⟨xa15, xb15, xc15, xd15, xf15⟩ => ?_)
                  have h_w15_om : w15 om = some (.inr (6, [.int (nI 0), .int (nI (md + 1)), .ref aso, .ref asi, .ref ase, .ref ato, .ref amo, .ref alo, .ref aro, .ref asr])) := (xf15 om (mw_oa h_w14_om h_w14_ato) (mw_oa h_w14_om h_w14_amo) (mw_oa h_w14_om h_w14_alo) (mw_oa h_w14_om h_w14_aro)).trans h_w14_om
                  have h_w15_aso : w15 aso = some (eI cI 8 (lnF (updN so md ka))) := (xf15 aso (tne t_aso t_ato (by decide)) (tne t_aso t_amo (by decide)) (tne t_aso t_alo (by decide)) (tne t_aso t_aro (by decide))).trans h_w14_aso
                  have h_w15_asi : w15 asi = some (eI cI 8 (lnF (updN si md za))) := (xf15 asi (tne t_asi t_ato (by decide)) (tne t_asi t_amo (by decide)) (tne t_asi t_alo (by decide)) (tne t_asi t_aro (by decide))).trans h_w14_asi
                  have h_w15_ase : w15 ase = some (eI cI 8 (lnF (updN se md da))) := (xf15 ase (tne t_ase t_ato (by decide)) (tne t_ase t_amo (by decide)) (tne t_ase t_alo (by decide)) (tne t_ase t_aro (by decide))).trans h_w14_ase
                  have fr_w15 : ∀ zz : Nat, zz ≠ om → zz ≠ aso → zz ≠ asi → zz ≠ ase → zz ≠ ato → zz ≠ amo → zz ≠ alo → zz ≠ aro → w15 zz = w zz := fun zz g0 g1 g2 g3 g4 g5 g6 g7 => (xf15 zz g4 g5 g6 g7).trans (fr_w14 zz g0 g1 g2 g3)
                  refine mg_aload_n C dX7_sketch_202 rfl ?_
                  refine mg_get C inT7 h_w15_om rfl 1 (by decide) kw_111 (Or.inl rfl) rfl dX7_sketch_203 ?_
                  refine mg_iconst C (v := nI 1) dX7_sketch_206 (by decide) ?_
                  refine mg_isub C (z := nI md) dX7_sketch_207 ((ni_sub (by omega)).trans rfl) ?_
                  have hsz : szN ka za := by unfold szN; omega
                  exact hR _ _ _ _ dX7_sketch_208 (Or.inr ⟨ka, za, da, hka, hda, rfl, rfl, rfl, hsz, Or.inr ⟨by omega, rfl, h_w15_om, h_w15_aso, h_w15_asi, h_w15_ase, xa15, xb15, xc15, xd15, fun z q0 q1 q2 q3 q4 q5 q6 q7 => fr_w15 z q0 q1 q2 q3 q4 q5 q6 q7⟩⟩)
                · refine mg_bipush C (v := (-3 : Int32)) dX7_sketch_149 (by decide) ?_
                  have hsz : szN ka za := by unfold szN; omega
                  exact hR _ _ _ _ dX7_sketch_151 (Or.inr ⟨ka, za, da, hka, hda, rfl, rfl, rfl, hsz, Or.inl ⟨c_146, rfl, h_w1_om, fun z q0 => fr_w1 z q0⟩⟩)
              · rw [ra10]
                refine mg_ifN_eq C (tgt := 130) dX7_sketch_104 (by decide) (by decide) (fun c_104 => ?_) (fun c_104 => absurd c_104 (by decide))
                refine mg_iconst C (v := nI 0) dX7_sketch_130 (by decide) ?_
                refine mg_istore C (lv' := [(4, .int (nI 0)), (0, .ref om), (1, .int (nI ka)), (2, .int sz), (3, .int (nI da))]) dX7_sketch_131 (by decide) rfl ?_
                refine mg_iload C dX7_sketch_133 rfl ?_
                refine mg_ifN_ne C (tgt := 140) dX7_sketch_135 (by decide) (by decide) (fun c_135 => absurd c_135 (by decide)) (fun c_135 => ?_)
                refine mg_iconst C (v := (-1 : Int32)) dX7_sketch_138 (by decide) ?_
                exact hR _ _ _ _ dX7_sketch_139 (Or.inl ⟨sk_noR (lo := 2) (hi := 32) hka (fun q => hy_zL ((in_rp (by decide)).mpr q)) (fun z q => by unfold szN at q; omega), rfl, h_w1_om, fun z q0 => fr_w1 z q0⟩)
          · refine mg_iload_n C dX7_sketch_77 rfl ?_
            refine mg_bipush C (v := nI 16) dX7_sketch_78 (by decide) ?_
            refine mg_sipush C (v := nI 512) dX7_sketch_80 (by decide) ?_
            refine mg_callS_i C (rest := []) (c_X7_in D cI cS w1 sz (nI 16) (nI 512)) yq_X7_in kw_112 kw_113 ⟨by decide, by decide⟩ ⟨Nat.le_of_ble_eq_true rfl, Nat.le_of_ble_eq_true rfl⟩ (Nat.le_of_ble_eq_true rfl) rfl rfl dX7_sketch_83 (fun r16 w16 ⟨xa16, xk16⟩ => ?_)
            rw [xk16]
            rcases xa16 with ⟨ra16, hy_zF⟩ | ⟨ra16, hy_zF⟩
            · rw [ra16]
              obtain ⟨za, hz1, hz2, rfl⟩ := (in_rp (lo := 16) (hi := 512) (by decide)).mp hy_zF
              refine mg_ifN_eq C (tgt := 130) dX7_sketch_86 (by decide) (by decide) (fun c_86 => absurd c_86 (by decide)) (fun c_86 => ?_)
              refine mg_goto C (tgt := 126) dX7_sketch_89 (by decide) ?_
              refine mg_iconst C (v := nI 1) dX7_sketch_126 (by decide) ?_
              refine mg_goto C (tgt := 131) dX7_sketch_127 (by decide) ?_
              refine mg_istore C (lv' := [(4, .int (nI 1)), (0, .ref om), (1, .int (nI ka)), (2, .int (nI za)), (3, .int (nI da))]) dX7_sketch_131 (by decide) rfl ?_
              refine mg_iload C dX7_sketch_133 rfl ?_
              refine mg_ifN_ne C (tgt := 140) dX7_sketch_135 (by decide) (by decide) (fun c_135 => ?_) (fun c_135 => absurd c_135 (by decide))
              refine mg_aload_n C dX7_sketch_140 rfl ?_
              refine mg_get C inT7 h_w1_om rfl 1 (by decide) kw_111 (Or.inl rfl) rfl dX7_sketch_141 ?_
              refine mg_bipush C (v := nI 8) dX7_sketch_144 (by decide) ?_
              refine mg_icmpN_ne C (tgt := 152) dX7_sketch_146 (by decide) (by omega) (by omega) (fun c_146 => ?_) (fun c_146 => ?_)
              · refine mg_aload_n C dX7_sketch_152 rfl ?_
                refine mg_get C inT7 h_w1_om rfl 2 (by decide) kw_20 (Or.inl rfl) rfl dX7_sketch_153 ?_
                refine mg_aload_n C dX7_sketch_156 rfl ?_
                refine mg_get C inT7 h_w1_om rfl 1 (by decide) kw_111 (Or.inl rfl) rfl dX7_sketch_157 ?_
                refine mg_iload_n C dX7_sketch_160 rfl ?_
                refine mg_iastN C h_w1_aso (by omega) (by omega) dX7_sketch_161 (fun w17 e_w17 => ?_)
                rw [upd_lnF] at e_w17
                have h_w17_om : w17 om = some (.inr (6, [.int (nI 0), .int (nI md), .ref aso, .ref asi, .ref ase, .ref ato, .ref amo, .ref alo, .ref aro, .ref asr])) := (congrFun e_w17 _).trans ((mwu_ne (mw_oa h_w1_om h_w1_aso)).trans h_w1_om)
                have h_w17_aso : w17 aso = some (eI cI 8 (lnF (updN so md ka))) := (congrFun e_w17 _).trans mwu_eq
                have h_w17_asi : w17 asi = some (eI cI 8 (lnF si)) := (congrFun e_w17 _).trans ((mwu_ne (Ne.symm (tne t_aso t_asi (by decide)))).trans h_w1_asi)
                have h_w17_ase : w17 ase = some (eI cI 8 (lnF se)) := (congrFun e_w17 _).trans ((mwu_ne (Ne.symm (tne t_aso t_ase (by decide)))).trans h_w1_ase)
                have h_w17_ato : w17 ato = some (eI cI 8 to) := (congrFun e_w17 _).trans ((mwu_ne (Ne.symm (tne t_aso t_ato (by decide)))).trans h_w1_ato)
                have h_w17_amo : w17 amo = some (eI cI 8 (lnF mo)) := (congrFun e_w17 _).trans ((mwu_ne (Ne.symm (tne t_aso t_amo (by decide)))).trans h_w1_amo)
                have h_w17_alo : w17 alo = some (eI cI 8 lo) := (congrFun e_w17 _).trans ((mwu_ne (Ne.symm (tne t_aso t_alo (by decide)))).trans h_w1_alo)
                have h_w17_aro : w17 aro = some (eI cI 9600 ro) := (congrFun e_w17 _).trans ((mwu_ne (Ne.symm (tne t_aso t_aro (by decide)))).trans h_w1_aro)
                have fr_w17 : ∀ zz : Nat, zz ≠ om → zz ≠ aso → w17 zz = w zz := fun zz g0 g1 => (congrFun e_w17 zz).trans ((mwu_ne g1).trans (fr_w1 zz g0))
                refine mg_aload_n C dX7_sketch_162 rfl ?_
                refine mg_get C inT7 h_w17_om rfl 3 (by decide) kw_21 (Or.inl rfl) rfl dX7_sketch_163 ?_
                refine mg_aload_n C dX7_sketch_166 rfl ?_
                refine mg_get C inT7 h_w17_om rfl 1 (by decide) kw_111 (Or.inl rfl) rfl dX7_sketch_167 ?_
                refine mg_iload_n C dX7_sketch_170 rfl ?_
                refine mg_iastN C h_w17_asi (by omega) (by omega) dX7_sketch_171 (fun w18 e_w18 => ?_)
                rw [upd_lnF] at e_w18
                have h_w18_om : w18 om = some (.inr (6, [.int (nI 0), .int (nI md), .ref aso, .ref asi, .ref ase, .ref ato, .ref amo, .ref alo, .ref aro, .ref asr])) := (congrFun e_w18 _).trans ((mwu_ne (mw_oa h_w17_om h_w17_asi)).trans h_w17_om)
                have h_w18_aso : w18 aso = some (eI cI 8 (lnF (updN so md ka))) := (congrFun e_w18 _).trans ((mwu_ne (tne t_aso t_asi (by decide))).trans h_w17_aso)
                have h_w18_asi : w18 asi = some (eI cI 8 (lnF (updN si md za))) := (congrFun e_w18 _).trans mwu_eq
                have h_w18_ase : w18 ase = some (eI cI 8 (lnF se)) := (congrFun e_w18 _).trans ((mwu_ne (Ne.symm (tne t_asi t_ase (by decide)))).trans h_w17_ase)
                have h_w18_ato : w18 ato = some (eI cI 8 to) := (congrFun e_w18 _).trans ((mwu_ne (Ne.symm (tne t_asi t_ato (by decide)))).trans h_w17_ato)
                have h_w18_amo : w18 amo = some (eI cI 8 (lnF mo)) := (congrFun e_w18 _).trans ((mwu_ne (Ne.symm (tne t_asi t_amo (by decide)))).trans h_w17_amo)
                have h_w18_alo : w18 alo = some (eI cI 8 lo) := (congrFun e_w18 _).trans ((mwu_ne (Ne.symm (tne t_asi t_alo (by decide)))).trans h_w17_alo)
                have h_w18_aro : w18 aro = some (eI cI 9600 ro) := (congrFun e_w18 _).trans ((mwu_ne (Ne.symm (tne t_asi t_aro (by decide)))).trans h_w17_aro)
                have fr_w18 : ∀ zz : Nat, zz ≠ om → zz ≠ aso → zz ≠ asi → w18 zz = w zz := fun zz g0 g1 g2 => (congrFun e_w18 zz).trans ((mwu_ne g2).trans (fr_w17 zz g0 g1))
                refine mg_aload_n C dX7_sketch_172 rfl ?_
                refine mg_get C inT7 h_w18_om rfl 4 (by decide) kw_22 (Or.inl rfl) rfl dX7_sketch_173 ?_
                refine mg_aload_n C dX7_sketch_176 rfl ?_
                refine mg_get C inT7 h_w18_om rfl 1 (by decide) kw_111 (Or.inl rfl) rfl dX7_sketch_177 ?_
                refine mg_iload_n C dX7_sketch_180 rfl ?_
                refine mg_iastN C h_w18_ase (by omega) (by omega) dX7_sketch_181 (fun w19 e_w19 => ?_)
                rw [upd_lnF] at e_w19
                have h_w19_om : w19 om = some (.inr (6, [.int (nI 0), .int (nI md), .ref aso, .ref asi, .ref ase, .ref ato, .ref amo, .ref alo, .ref aro, .ref asr])) := (congrFun e_w19 _).trans ((mwu_ne (mw_oa h_w18_om h_w18_ase)).trans h_w18_om)
                have h_w19_aso : w19 aso = some (eI cI 8 (lnF (updN so md ka))) := (congrFun e_w19 _).trans ((mwu_ne (tne t_aso t_ase (by decide))).trans h_w18_aso)
                have h_w19_asi : w19 asi = some (eI cI 8 (lnF (updN si md za))) := (congrFun e_w19 _).trans ((mwu_ne (tne t_asi t_ase (by decide))).trans h_w18_asi)
                have h_w19_ase : w19 ase = some (eI cI 8 (lnF (updN se md da))) := (congrFun e_w19 _).trans mwu_eq
                have h_w19_ato : w19 ato = some (eI cI 8 to) := (congrFun e_w19 _).trans ((mwu_ne (Ne.symm (tne t_ase t_ato (by decide)))).trans h_w18_ato)
                have h_w19_amo : w19 amo = some (eI cI 8 (lnF mo)) := (congrFun e_w19 _).trans ((mwu_ne (Ne.symm (tne t_ase t_amo (by decide)))).trans h_w18_amo)
                have h_w19_alo : w19 alo = some (eI cI 8 lo) := (congrFun e_w19 _).trans ((mwu_ne (Ne.symm (tne t_ase t_alo (by decide)))).trans h_w18_alo)
                have h_w19_aro : w19 aro = some (eI cI 9600 ro) := (congrFun e_w19 _).trans ((mwu_ne (Ne.symm (tne t_ase t_aro (by decide)))).trans h_w18_aro)
                have fr_w19 : ∀ zz : Nat, zz ≠ om → zz ≠ aso → zz ≠ asi → zz ≠ ase → w19 zz = w zz := fun zz g0 g1 g2 g3 => (congrFun e_w19 zz).trans ((mwu_ne g3).trans (fr_w18 zz g0 g1 g2))
                refine mg_aload_n C dX7_sketch_182 rfl ?_
                refine mg_dup C dX7_sketch_183 rfl ?_
                refine mg_get C inT7 h_w19_om rfl 1 (by decide) kw_111 (Or.inl rfl) rfl dX7_sketch_184 ?_
                refine mg_iconst C (v := nI 1) dX7_sketch_187 (by decide) ?_
                refine mg_iadd C (z := nI (md + 1)) dX7_sketch_188 (nI_add _ _) ?_
                refine mg_put C (fs' := [.int (nI 0), .int (nI (md + 1)), .ref aso, .ref asi, .ref ase, .ref ato, .ref amo, .ref alo, .ref aro, .ref asr]) inT7 h_w19_om rfl 1 (by decide) kw_111 (Or.inl rfl) tyX7_ok nmX7 rfl rfl rfl rfl (Nat.le_of_ble_eq_true rfl) dX7_sketch_189 (fun w20 e_w20 => ?_)
                have h_w20_om : w20 om = some (.inr (6, [.int (nI 0), .int (nI (md + 1)), .ref aso, .ref asi, .ref ase, .ref ato, .ref amo, .ref alo, .ref aro, .ref asr])) := (congrFun e_w20 _).trans mwu_eq
                have h_w20_aso : w20 aso = some (eI cI 8 (lnF (updN so md ka))) := (congrFun e_w20 _).trans ((mwu_ne (mw_ao h_w19_aso h_w19_om)).trans h_w19_aso)
                have h_w20_asi : w20 asi = some (eI cI 8 (lnF (updN si md za))) := (congrFun e_w20 _).trans ((mwu_ne (mw_ao h_w19_asi h_w19_om)).trans h_w19_asi)
                have h_w20_ase : w20 ase = some (eI cI 8 (lnF (updN se md da))) := (congrFun e_w20 _).trans ((mwu_ne (mw_ao h_w19_ase h_w19_om)).trans h_w19_ase)
                have h_w20_ato : w20 ato = some (eI cI 8 to) := (congrFun e_w20 _).trans ((mwu_ne (mw_ao h_w19_ato h_w19_om)).trans h_w19_ato)
                have h_w20_amo : w20 amo = some (eI cI 8 (lnF mo)) := (congrFun e_w20 _).trans ((mwu_ne (mw_ao h_w19_amo h_w19_om)).trans h_w19_amo)
                have h_w20_alo : w20 alo = some (eI cI 8 lo) := (congrFun e_w20 _).trans ((mwu_ne (mw_ao h_w19_alo h_w19_om)).trans h_w19_alo)
                have h_w20_aro : w20 aro = some (eI cI 9600 ro) := (congrFun e_w20 _).trans ((mwu_ne (mw_ao h_w19_aro h_w19_om)).trans h_w19_aro)
                have fr_w20 : ∀ zz : Nat, zz ≠ om → zz ≠ aso → zz ≠ asi → zz ≠ ase → w20 zz = w zz := fun zz g0 g1 g2 g3 => (congrFun e_w20 zz).trans ((mwu_ne g0).trans (fr_w19 zz g0 g1 g2 g3))
                refine mg_aload_n C dX7_sketch_192 rfl ?_
                refine mg_aload_n C dX7_sketch_193 rfl ?_
                refine mg_get C inT7 h_w20_om rfl 1 (by decide) kw_111 (Or.inl rfl) rfl dX7_sketch_194 ?_
                refine mg_iconst C (v := nI 1) dX7_sketch_197 (by decide) ?_
                refine mg_isub C (z := nI md) dX7_sketch_198 ((ni_sub (by omega)).trans rfl) ?_
                refine mg_callV_v C h_w20_om rfl (rest := []) (c_X7_empty D cI cS w20 om (md + 1) aso asi ase ato amo alo aro asr (nI 0) to mo lo ro tg md h_w20_om h_w20_ato h_w20_amo h_w20_alo h_w20_aro (by omega) t_ato t_amo t_alo t_aro) yq_X7_empty kw_115 kw_116 kw_117 ⟨by decide, by decide⟩ ⟨Nat.le_of_ble_eq_true rfl, Nat.le_of_ble_eq_true rfl⟩ (Nat.le_of_ble_eq_true rfl) rfl rfl dX7_sketch_199 (fun w21 ⟨xa21, xb21, xc21, xd21, xf21⟩ => ?_)
                have h_w21_om : w21 om = some (.inr (6, [.int (nI 0), .int (nI (md + 1)), .ref aso, .ref asi, .ref ase, .ref ato, .ref amo, .ref alo, .ref aro, .ref asr])) := (xf21 om (mw_oa h_w20_om h_w20_ato) (mw_oa h_w20_om h_w20_amo) (mw_oa h_w20_om h_w20_alo) (mw_oa h_w20_om h_w20_aro)).trans h_w20_om
                have h_w21_aso : w21 aso = some (eI cI 8 (lnF (updN so md ka))) := (xf21 aso (tne t_aso t_ato (by decide)) (tne t_aso t_amo (by decide)) (tne t_aso t_alo (by decide)) (tne t_aso t_aro (by decide))).trans h_w20_aso
                have h_w21_asi : w21 asi = some (eI cI 8 (lnF (updN si md za))) := (xf21 asi (tne t_asi t_ato (by decide)) (tne t_asi t_amo (by decide)) (tne t_asi t_alo (by decide)) (tne t_asi t_aro (by decide))).trans h_w20_asi
                have h_w21_ase : w21 ase = some (eI cI 8 (lnF (updN se md da))) := (xf21 ase (tne t_ase t_ato (by decide)) (tne t_ase t_amo (by decide)) (tne t_ase t_alo (by decide)) (tne t_ase t_aro (by decide))).trans h_w20_ase
                have fr_w21 : ∀ zz : Nat, zz ≠ om → zz ≠ aso → zz ≠ asi → zz ≠ ase → zz ≠ ato → zz ≠ amo → zz ≠ alo → zz ≠ aro → w21 zz = w zz := fun zz g0 g1 g2 g3 g4 g5 g6 g7 => (xf21 zz g4 g5 g6 g7).trans (fr_w20 zz g0 g1 g2 g3)
                refine mg_aload_n C dX7_sketch_202 rfl ?_
                refine mg_get C inT7 h_w21_om rfl 1 (by decide) kw_111 (Or.inl rfl) rfl dX7_sketch_203 ?_
                refine mg_iconst C (v := nI 1) dX7_sketch_206 (by decide) ?_
                refine mg_isub C (z := nI md) dX7_sketch_207 ((ni_sub (by omega)).trans rfl) ?_
                have hsz : szN ka za := by unfold szN; omega
                exact hR _ _ _ _ dX7_sketch_208 (Or.inr ⟨ka, za, da, hka, hda, rfl, rfl, rfl, hsz, Or.inr ⟨by omega, rfl, h_w21_om, h_w21_aso, h_w21_asi, h_w21_ase, xa21, xb21, xc21, xd21, fun z q0 q1 q2 q3 q4 q5 q6 q7 => fr_w21 z q0 q1 q2 q3 q4 q5 q6 q7⟩⟩)
              · refine mg_bipush C (v := (-3 : Int32)) dX7_sketch_149 (by decide) ?_
                have hsz : szN ka za := by unfold szN; omega
                exact hR _ _ _ _ dX7_sketch_151 (Or.inr ⟨ka, za, da, hka, hda, rfl, rfl, rfl, hsz, Or.inl ⟨c_146, rfl, h_w1_om, fun z q0 => fr_w1 z q0⟩⟩)
            · rw [ra16]
              refine mg_ifN_eq C (tgt := 130) dX7_sketch_86 (by decide) (by decide) (fun c_86 => ?_) (fun c_86 => absurd c_86 (by decide))
              refine mg_iconst C (v := nI 0) dX7_sketch_130 (by decide) ?_
              refine mg_istore C (lv' := [(4, .int (nI 0)), (0, .ref om), (1, .int (nI ka)), (2, .int sz), (3, .int (nI da))]) dX7_sketch_131 (by decide) rfl ?_
              refine mg_iload C dX7_sketch_133 rfl ?_
              refine mg_ifN_ne C (tgt := 140) dX7_sketch_135 (by decide) (by decide) (fun c_135 => absurd c_135 (by decide)) (fun c_135 => ?_)
              refine mg_iconst C (v := (-1 : Int32)) dX7_sketch_138 (by decide) ?_
              exact hR _ _ _ _ dX7_sketch_139 (Or.inl ⟨sk_noR (lo := 16) (hi := 512) hka (fun q => hy_zF ((in_rp (by decide)).mpr q)) (fun z q => by unfold szN at q; omega), rfl, h_w1_om, fun z q0 => fr_w1 z q0⟩)
        · refine mg_iload_n C dX7_sketch_59 rfl ?_
          refine mg_iconst C (v := nI 4) dX7_sketch_60 (by decide) ?_
          refine mg_bipush C (v := nI 64) dX7_sketch_61 (by decide) ?_
          refine mg_callS_i C (rest := []) (c_X7_in D cI cS w1 sz (nI 4) (nI 64)) yq_X7_in kw_112 kw_113 ⟨by decide, by decide⟩ ⟨Nat.le_of_ble_eq_true rfl, Nat.le_of_ble_eq_true rfl⟩ (Nat.le_of_ble_eq_true rfl) rfl rfl dX7_sketch_63 (fun r22 w22 ⟨xa22, xk22⟩ => ?_)
          rw [xk22]
          rcases xa22 with ⟨ra22, hy_zT⟩ | ⟨ra22, hy_zT⟩
          · rw [ra22]
            obtain ⟨za, hz1, hz2, rfl⟩ := (in_rp (lo := 4) (hi := 64) (by decide)).mp hy_zT
            refine mg_ifN_eq C (tgt := 130) dX7_sketch_66 (by decide) (by decide) (fun c_66 => absurd c_66 (by decide)) (fun c_66 => ?_)
            refine mg_goto C (tgt := 126) dX7_sketch_69 (by decide) ?_
            refine mg_iconst C (v := nI 1) dX7_sketch_126 (by decide) ?_
            refine mg_goto C (tgt := 131) dX7_sketch_127 (by decide) ?_
            refine mg_istore C (lv' := [(4, .int (nI 1)), (0, .ref om), (1, .int (nI ka)), (2, .int (nI za)), (3, .int (nI da))]) dX7_sketch_131 (by decide) rfl ?_
            refine mg_iload C dX7_sketch_133 rfl ?_
            refine mg_ifN_ne C (tgt := 140) dX7_sketch_135 (by decide) (by decide) (fun c_135 => ?_) (fun c_135 => absurd c_135 (by decide))
            refine mg_aload_n C dX7_sketch_140 rfl ?_
            refine mg_get C inT7 h_w1_om rfl 1 (by decide) kw_111 (Or.inl rfl) rfl dX7_sketch_141 ?_
            refine mg_bipush C (v := nI 8) dX7_sketch_144 (by decide) ?_
            refine mg_icmpN_ne C (tgt := 152) dX7_sketch_146 (by decide) (by omega) (by omega) (fun c_146 => ?_) (fun c_146 => ?_)
            · refine mg_aload_n C dX7_sketch_152 rfl ?_
              refine mg_get C inT7 h_w1_om rfl 2 (by decide) kw_20 (Or.inl rfl) rfl dX7_sketch_153 ?_
              refine mg_aload_n C dX7_sketch_156 rfl ?_
              refine mg_get C inT7 h_w1_om rfl 1 (by decide) kw_111 (Or.inl rfl) rfl dX7_sketch_157 ?_
              refine mg_iload_n C dX7_sketch_160 rfl ?_
              refine mg_iastN C h_w1_aso (by omega) (by omega) dX7_sketch_161 (fun w23 e_w23 => ?_)
              rw [upd_lnF] at e_w23
              have h_w23_om : w23 om = some (.inr (6, [.int (nI 0), .int (nI md), .ref aso, .ref asi, .ref ase, .ref ato, .ref amo, .ref alo, .ref aro, .ref asr])) := (congrFun e_w23 _).trans ((mwu_ne (mw_oa h_w1_om h_w1_aso)).trans h_w1_om)
              have h_w23_aso : w23 aso = some (eI cI 8 (lnF (updN so md ka))) := (congrFun e_w23 _).trans mwu_eq
              have h_w23_asi : w23 asi = some (eI cI 8 (lnF si)) := (congrFun e_w23 _).trans ((mwu_ne (Ne.symm (tne t_aso t_asi (by decide)))).trans h_w1_asi)
              have h_w23_ase : w23 ase = some (eI cI 8 (lnF se)) := (congrFun e_w23 _).trans ((mwu_ne (Ne.symm (tne t_aso t_ase (by decide)))).trans h_w1_ase)
              have h_w23_ato : w23 ato = some (eI cI 8 to) := (congrFun e_w23 _).trans ((mwu_ne (Ne.symm (tne t_aso t_ato (by decide)))).trans h_w1_ato)
              have h_w23_amo : w23 amo = some (eI cI 8 (lnF mo)) := (congrFun e_w23 _).trans ((mwu_ne (Ne.symm (tne t_aso t_amo (by decide)))).trans h_w1_amo)
              have h_w23_alo : w23 alo = some (eI cI 8 lo) := (congrFun e_w23 _).trans ((mwu_ne (Ne.symm (tne t_aso t_alo (by decide)))).trans h_w1_alo)
              have h_w23_aro : w23 aro = some (eI cI 9600 ro) := (congrFun e_w23 _).trans ((mwu_ne (Ne.symm (tne t_aso t_aro (by decide)))).trans h_w1_aro)
              have fr_w23 : ∀ zz : Nat, zz ≠ om → zz ≠ aso → w23 zz = w zz := fun zz g0 g1 => (congrFun e_w23 zz).trans ((mwu_ne g1).trans (fr_w1 zz g0))
              refine mg_aload_n C dX7_sketch_162 rfl ?_
              refine mg_get C inT7 h_w23_om rfl 3 (by decide) kw_21 (Or.inl rfl) rfl dX7_sketch_163 ?_
              refine mg_aload_n C dX7_sketch_166 rfl ?_
              refine mg_get C inT7 h_w23_om rfl 1 (by decide) kw_111 (Or.inl rfl) rfl dX7_sketch_167 ?_
              refine mg_iload_n C dX7_sketch_170 rfl ?_
              refine mg_iastN C h_w23_asi (by omega) (by omega) dX7_sketch_171 (fun w24 e_w24 => ?_)
              rw [upd_lnF] at e_w24
              have h_w24_om : w24 om = some (.inr (6, [.int (nI 0), .int (nI md), .ref aso, .ref asi, .ref ase, .ref ato, .ref amo, .ref alo, .ref aro, .ref asr])) := (congrFun e_w24 _).trans ((mwu_ne (mw_oa h_w23_om h_w23_asi)).trans h_w23_om)
              have h_w24_aso : w24 aso = some (eI cI 8 (lnF (updN so md ka))) := (congrFun e_w24 _).trans ((mwu_ne (tne t_aso t_asi (by decide))).trans h_w23_aso)
              have h_w24_asi : w24 asi = some (eI cI 8 (lnF (updN si md za))) := (congrFun e_w24 _).trans mwu_eq
              have h_w24_ase : w24 ase = some (eI cI 8 (lnF se)) := (congrFun e_w24 _).trans ((mwu_ne (Ne.symm (tne t_asi t_ase (by decide)))).trans h_w23_ase)
              have h_w24_ato : w24 ato = some (eI cI 8 to) := (congrFun e_w24 _).trans ((mwu_ne (Ne.symm (tne t_asi t_ato (by decide)))).trans h_w23_ato)
              have h_w24_amo : w24 amo = some (eI cI 8 (lnF mo)) := (congrFun e_w24 _).trans ((mwu_ne (Ne.symm (tne t_asi t_amo (by decide)))).trans h_w23_amo)
              have h_w24_alo : w24 alo = some (eI cI 8 lo) := (congrFun e_w24 _).trans ((mwu_ne (Ne.symm (tne t_asi t_alo (by decide)))).trans h_w23_alo)
              have h_w24_aro : w24 aro = some (eI cI 9600 ro) := (congrFun e_w24 _).trans ((mwu_ne (Ne.symm (tne t_asi t_aro (by decide)))).trans h_w23_aro)
              have fr_w24 : ∀ zz : Nat, zz ≠ om → zz ≠ aso → zz ≠ asi → w24 zz = w zz := fun zz g0 g1 g2 => (congrFun e_w24 zz).trans ((mwu_ne g2).trans (fr_w23 zz g0 g1))
              refine mg_aload_n C dX7_sketch_172 rfl ?_
              refine mg_get C inT7 h_w24_om rfl 4 (by decide) kw_22 (Or.inl rfl) rfl dX7_sketch_173 ?_
              refine mg_aload_n C dX7_sketch_176 rfl ?_
              refine mg_get C inT7 h_w24_om rfl 1 (by decide) kw_111 (Or.inl rfl) rfl dX7_sketch_177 ?_
              refine mg_iload_n C dX7_sketch_180 rfl ?_
              refine mg_iastN C h_w24_ase (by omega) (by omega) dX7_sketch_181 (fun w25 e_w25 => ?_)
              rw [upd_lnF] at e_w25
              have h_w25_om : w25 om = some (.inr (6, [.int (nI 0), .int (nI md), .ref aso, .ref asi, .ref ase, .ref ato, .ref amo, .ref alo, .ref aro, .ref asr])) := (congrFun e_w25 _).trans ((mwu_ne (mw_oa h_w24_om h_w24_ase)).trans h_w24_om)
              have h_w25_aso : w25 aso = some (eI cI 8 (lnF (updN so md ka))) := (congrFun e_w25 _).trans ((mwu_ne (tne t_aso t_ase (by decide))).trans h_w24_aso)
              have h_w25_asi : w25 asi = some (eI cI 8 (lnF (updN si md za))) := (congrFun e_w25 _).trans ((mwu_ne (tne t_asi t_ase (by decide))).trans h_w24_asi)
              have h_w25_ase : w25 ase = some (eI cI 8 (lnF (updN se md da))) := (congrFun e_w25 _).trans mwu_eq
              have h_w25_ato : w25 ato = some (eI cI 8 to) := (congrFun e_w25 _).trans ((mwu_ne (Ne.symm (tne t_ase t_ato (by decide)))).trans h_w24_ato)
              have h_w25_amo : w25 amo = some (eI cI 8 (lnF mo)) := (congrFun e_w25 _).trans ((mwu_ne (Ne.symm (tne t_ase t_amo (by decide)))).trans h_w24_amo)
              have h_w25_alo : w25 alo = some (eI cI 8 lo) := (congrFun e_w25 _).trans ((mwu_ne (Ne.symm (tne t_ase t_alo (by decide)))).trans h_w24_alo)
              have h_w25_aro : w25 aro = some (eI cI 9600 ro) := (congrFun e_w25 _).trans ((mwu_ne (Ne.symm (tne t_ase t_aro (by decide)))).trans h_w24_aro)
              have fr_w25 : ∀ zz : Nat, zz ≠ om → zz ≠ aso → zz ≠ asi → zz ≠ ase → w25 zz = w zz := fun zz g0 g1 g2 g3 => (congrFun e_w25 zz).trans ((mwu_ne g3).trans (fr_w24 zz g0 g1 g2))
              refine mg_aload_n C dX7_sketch_182 rfl ?_
              refine mg_dup C dX7_sketch_183 rfl ?_
              refine mg_get C inT7 h_w25_om rfl 1 (by decide) kw_111 (Or.inl rfl) rfl dX7_sketch_184 ?_
              refine mg_iconst C (v := nI 1) dX7_sketch_187 (by decide) ?_
              refine mg_iadd C (z := nI (md + 1)) dX7_sketch_188 (nI_add _ _) ?_
              refine mg_put C (fs' := [.int (nI 0), .int (nI (md + 1)), .ref aso, .ref asi, .ref ase, .ref ato, .ref amo, .ref alo, .ref aro, .ref asr]) inT7 h_w25_om rfl 1 (by decide) kw_111 (Or.inl rfl) tyX7_ok nmX7 rfl rfl rfl rfl (Nat.le_of_ble_eq_true rfl) dX7_sketch_189 (fun w26 e_w26 => ?_)
              have h_w26_om : w26 om = some (.inr (6, [.int (nI 0), .int (nI (md + 1)), .ref aso, .ref asi, .ref ase, .ref ato, .ref amo, .ref alo, .ref aro, .ref asr])) := (congrFun e_w26 _).trans mwu_eq
              have h_w26_aso : w26 aso = some (eI cI 8 (lnF (updN so md ka))) := (congrFun e_w26 _).trans ((mwu_ne (mw_ao h_w25_aso h_w25_om)).trans h_w25_aso)
              have h_w26_asi : w26 asi = some (eI cI 8 (lnF (updN si md za))) := (congrFun e_w26 _).trans ((mwu_ne (mw_ao h_w25_asi h_w25_om)).trans h_w25_asi)
              have h_w26_ase : w26 ase = some (eI cI 8 (lnF (updN se md da))) := (congrFun e_w26 _).trans ((mwu_ne (mw_ao h_w25_ase h_w25_om)).trans h_w25_ase)
              have h_w26_ato : w26 ato = some (eI cI 8 to) := (congrFun e_w26 _).trans ((mwu_ne (mw_ao h_w25_ato h_w25_om)).trans h_w25_ato)
              have h_w26_amo : w26 amo = some (eI cI 8 (lnF mo)) := (congrFun e_w26 _).trans ((mwu_ne (mw_ao h_w25_amo h_w25_om)).trans h_w25_amo)
              have h_w26_alo : w26 alo = some (eI cI 8 lo) := (congrFun e_w26 _).trans ((mwu_ne (mw_ao h_w25_alo h_w25_om)).trans h_w25_alo)
              have h_w26_aro : w26 aro = some (eI cI 9600 ro) := (congrFun e_w26 _).trans ((mwu_ne (mw_ao h_w25_aro h_w25_om)).trans h_w25_aro)
              have fr_w26 : ∀ zz : Nat, zz ≠ om → zz ≠ aso → zz ≠ asi → zz ≠ ase → w26 zz = w zz := fun zz g0 g1 g2 g3 => (congrFun e_w26 zz).trans ((mwu_ne g0).trans (fr_w25 zz g0 g1 g2 g3))
              refine mg_aload_n C dX7_sketch_192 rfl ?_
              refine mg_aload_n C dX7_sketch_193 rfl ?_
              refine mg_get C inT7 h_w26_om rfl 1 (by decide) kw_111 (Or.inl rfl) rfl dX7_sketch_194 ?_
              refine mg_iconst C (v := nI 1) dX7_sketch_197 (by decide) ?_
              refine mg_isub C (z := nI md) dX7_sketch_198 ((ni_sub (by omega)).trans rfl) ?_
              refine mg_callV_v C h_w26_om rfl (rest := []) (c_X7_empty D cI cS w26 om (md + 1) aso asi ase ato amo alo aro asr (nI 0) to mo lo ro tg md h_w26_om h_w26_ato h_w26_amo h_w26_alo h_w26_aro (by omega) t_ato t_amo t_alo t_aro) yq_X7_empty kw_115 kw_116 kw_117 ⟨by decide, by decide⟩ ⟨Nat.le_of_ble_eq_true rfl, Nat.le_of_ble_eq_true rfl⟩ (Nat.le_of_ble_eq_true rfl) rfl rfl dX7_sketch_199 (fun w27 ⟨xa27, xb27, xc27, xd27, xf27⟩ => ?_)
              have h_w27_om : w27 om = some (.inr (6, [.int (nI 0), .int (nI (md + 1)), .ref aso, .ref asi, .ref ase, .ref ato, .ref amo, .ref alo, .ref aro, .ref asr])) := (xf27 om (mw_oa h_w26_om h_w26_ato) (mw_oa h_w26_om h_w26_amo) (mw_oa h_w26_om h_w26_alo) (mw_oa h_w26_om h_w26_aro)).trans h_w26_om
              have h_w27_aso : w27 aso = some (eI cI 8 (lnF (updN so md ka))) := (xf27 aso (tne t_aso t_ato (by decide)) (tne t_aso t_amo (by decide)) (tne t_aso t_alo (by decide)) (tne t_aso t_aro (by decide))).trans h_w26_aso
              have h_w27_asi : w27 asi = some (eI cI 8 (lnF (updN si md za))) := (xf27 asi (tne t_asi t_ato (by decide)) (tne t_asi t_amo (by decide)) (tne t_asi t_alo (by decide)) (tne t_asi t_aro (by decide))).trans h_w26_asi
              have h_w27_ase : w27 ase = some (eI cI 8 (lnF (updN se md da))) := (xf27 ase (tne t_ase t_ato (by decide)) (tne t_ase t_amo (by decide)) (tne t_ase t_alo (by decide)) (tne t_ase t_aro (by decide))).trans h_w26_ase
              have fr_w27 : ∀ zz : Nat, zz ≠ om → zz ≠ aso → zz ≠ asi → zz ≠ ase → zz ≠ ato → zz ≠ amo → zz ≠ alo → zz ≠ aro → w27 zz = w zz := fun zz g0 g1 g2 g3 g4 g5 g6 g7 => (xf27 zz g4 g5 g6 g7).trans (fr_w26 zz g0 g1 g2 g3)
              refine mg_aload_n C dX7_sketch_202 rfl ?_
              refine mg_get C inT7 h_w27_om rfl 1 (by decide) kw_111 (Or.inl rfl) rfl dX7_sketch_203 ?_
              refine mg_iconst C (v := nI 1) dX7_sketch_206 (by decide) ?_
              refine mg_isub C (z := nI md) dX7_sketch_207 ((ni_sub (by omega)).trans rfl) ?_
              have hsz : szN ka za := by unfold szN; omega
              exact hR _ _ _ _ dX7_sketch_208 (Or.inr ⟨ka, za, da, hka, hda, rfl, rfl, rfl, hsz, Or.inr ⟨by omega, rfl, h_w27_om, h_w27_aso, h_w27_asi, h_w27_ase, xa27, xb27, xc27, xd27, fun z q0 q1 q2 q3 q4 q5 q6 q7 => fr_w27 z q0 q1 q2 q3 q4 q5 q6 q7⟩⟩)
            · refine mg_bipush C (v := (-3 : Int32)) dX7_sketch_149 (by decide) ?_
              have hsz : szN ka za := by unfold szN; omega
              exact hR _ _ _ _ dX7_sketch_151 (Or.inr ⟨ka, za, da, hka, hda, rfl, rfl, rfl, hsz, Or.inl ⟨c_146, rfl, h_w1_om, fun z q0 => fr_w1 z q0⟩⟩)
          · rw [ra22]
            refine mg_ifN_eq C (tgt := 130) dX7_sketch_66 (by decide) (by decide) (fun c_66 => ?_) (fun c_66 => absurd c_66 (by decide))
            refine mg_iconst C (v := nI 0) dX7_sketch_130 (by decide) ?_
            refine mg_istore C (lv' := [(4, .int (nI 0)), (0, .ref om), (1, .int (nI ka)), (2, .int sz), (3, .int (nI da))]) dX7_sketch_131 (by decide) rfl ?_
            refine mg_iload C dX7_sketch_133 rfl ?_
            refine mg_ifN_ne C (tgt := 140) dX7_sketch_135 (by decide) (by decide) (fun c_135 => absurd c_135 (by decide)) (fun c_135 => ?_)
            refine mg_iconst C (v := (-1 : Int32)) dX7_sketch_138 (by decide) ?_
            exact hR _ _ _ _ dX7_sketch_139 (Or.inl ⟨sk_noR (lo := 4) (hi := 64) hka (fun q => hy_zT ((in_rp (by decide)).mpr q)) (fun z q => by unfold szN at q; omega), rfl, h_w1_om, fun z q0 => fr_w1 z q0⟩)
      · refine mg_iload_n C dX7_sketch_41 rfl ?_
        refine mg_iconst C (v := nI 1) dX7_sketch_42 (by decide) ?_
        refine mg_bipush C (v := nI 20) dX7_sketch_43 (by decide) ?_
        refine mg_callS_i C (rest := []) (c_X7_in D cI cS w1 sz (nI 1) (nI 20)) yq_X7_in kw_112 kw_113 ⟨by decide, by decide⟩ ⟨Nat.le_of_ble_eq_true rfl, Nat.le_of_ble_eq_true rfl⟩ (Nat.le_of_ble_eq_true rfl) rfl rfl dX7_sketch_45 (fun r28 w28 ⟨xa28, xk28⟩ => ?_)
        rw [xk28]
        rcases xa28 with ⟨ra28, hy_zH⟩ | ⟨ra28, hy_zH⟩
        · rw [ra28]
          obtain ⟨za, hz1, hz2, rfl⟩ := (in_rp (lo := 1) (hi := 20) (by decide)).mp hy_zH
          refine mg_ifN_eq C (tgt := 130) dX7_sketch_48 (by decide) (by decide) (fun c_48 => absurd c_48 (by decide)) (fun c_48 => ?_)
          refine mg_goto C (tgt := 126) dX7_sketch_51 (by decide) ?_
          refine mg_iconst C (v := nI 1) dX7_sketch_126 (by decide) ?_
          refine mg_goto C (tgt := 131) dX7_sketch_127 (by decide) ?_
          refine mg_istore C (lv' := [(4, .int (nI 1)), (0, .ref om), (1, .int (nI ka)), (2, .int (nI za)), (3, .int (nI da))]) dX7_sketch_131 (by decide) rfl ?_
          refine mg_iload C dX7_sketch_133 rfl ?_
          refine mg_ifN_ne C (tgt := 140) dX7_sketch_135 (by decide) (by decide) (fun c_135 => ?_) (fun c_135 => absurd c_135 (by decide))
          refine mg_aload_n C dX7_sketch_140 rfl ?_
          refine mg_get C inT7 h_w1_om rfl 1 (by decide) kw_111 (Or.inl rfl) rfl dX7_sketch_141 ?_
          refine mg_bipush C (v := nI 8) dX7_sketch_144 (by decide) ?_
          refine mg_icmpN_ne C (tgt := 152) dX7_sketch_146 (by decide) (by omega) (by omega) (fun c_146 => ?_) (fun c_146 => ?_)
          · refine mg_aload_n C dX7_sketch_152 rfl ?_
            refine mg_get C inT7 h_w1_om rfl 2 (by decide) kw_20 (Or.inl rfl) rfl dX7_sketch_153 ?_
            refine mg_aload_n C dX7_sketch_156 rfl ?_
            refine mg_get C inT7 h_w1_om rfl 1 (by decide) kw_111 (Or.inl rfl) rfl dX7_sketch_157 ?_
            refine mg_iload_n C dX7_sketch_160 rfl ?_
            refine mg_iastN C h_w1_aso (by omega) (by omega) dX7_sketch_161 (fun w29 e_w29 => ?_)
            rw [upd_lnF] at e_w29
            have h_w29_om : w29 om = some (.inr (6, [.int (nI 0), .int (nI md), .ref aso, .ref asi, .ref ase, .ref ato, .ref amo, .ref alo, .ref aro, .ref asr])) := (congrFun e_w29 _).trans ((mwu_ne (mw_oa h_w1_om h_w1_aso)).trans h_w1_om)
            have h_w29_aso : w29 aso = some (eI cI 8 (lnF (updN so md ka))) := (congrFun e_w29 _).trans mwu_eq
            have h_w29_asi : w29 asi = some (eI cI 8 (lnF si)) := (congrFun e_w29 _).trans ((mwu_ne (Ne.symm (tne t_aso t_asi (by decide)))).trans h_w1_asi)
            have h_w29_ase : w29 ase = some (eI cI 8 (lnF se)) := (congrFun e_w29 _).trans ((mwu_ne (Ne.symm (tne t_aso t_ase (by decide)))).trans h_w1_ase)
            have h_w29_ato : w29 ato = some (eI cI 8 to) := (congrFun e_w29 _).trans ((mwu_ne (Ne.symm (tne t_aso t_ato (by decide)))).trans h_w1_ato)
            have h_w29_amo : w29 amo = some (eI cI 8 (lnF mo)) := (congrFun e_w29 _).trans ((mwu_ne (Ne.symm (tne t_aso t_amo (by decide)))).trans h_w1_amo)
            have h_w29_alo : w29 alo = some (eI cI 8 lo) := (congrFun e_w29 _).trans ((mwu_ne (Ne.symm (tne t_aso t_alo (by decide)))).trans h_w1_alo)
            have h_w29_aro : w29 aro = some (eI cI 9600 ro) := (congrFun e_w29 _).trans ((mwu_ne (Ne.symm (tne t_aso t_aro (by decide)))).trans h_w1_aro)
            have fr_w29 : ∀ zz : Nat, zz ≠ om → zz ≠ aso → w29 zz = w zz := fun zz g0 g1 => (congrFun e_w29 zz).trans ((mwu_ne g1).trans (fr_w1 zz g0))
            refine mg_aload_n C dX7_sketch_162 rfl ?_
            refine mg_get C inT7 h_w29_om rfl 3 (by decide) kw_21 (Or.inl rfl) rfl dX7_sketch_163 ?_
            refine mg_aload_n C dX7_sketch_166 rfl ?_
            refine mg_get C inT7 h_w29_om rfl 1 (by decide) kw_111 (Or.inl rfl) rfl dX7_sketch_167 ?_
            refine mg_iload_n C dX7_sketch_170 rfl ?_
            refine mg_iastN C h_w29_asi (by omega) (by omega) dX7_sketch_171 (fun w30 e_w30 => ?_)
            rw [upd_lnF] at e_w30
            have h_w30_om : w30 om = some (.inr (6, [.int (nI 0), .int (nI md), .ref aso, .ref asi, .ref ase, .ref ato, .ref amo, .ref alo, .ref aro, .ref asr])) := (congrFun e_w30 _).trans ((mwu_ne (mw_oa h_w29_om h_w29_asi)).trans h_w29_om)
            have h_w30_aso : w30 aso = some (eI cI 8 (lnF (updN so md ka))) := (congrFun e_w30 _).trans ((mwu_ne (tne t_aso t_asi (by decide))).trans h_w29_aso)
            have h_w30_asi : w30 asi = some (eI cI 8 (lnF (updN si md za))) := (congrFun e_w30 _).trans mwu_eq
            have h_w30_ase : w30 ase = some (eI cI 8 (lnF se)) := (congrFun e_w30 _).trans ((mwu_ne (Ne.symm (tne t_asi t_ase (by decide)))).trans h_w29_ase)
            have h_w30_ato : w30 ato = some (eI cI 8 to) := (congrFun e_w30 _).trans ((mwu_ne (Ne.symm (tne t_asi t_ato (by decide)))).trans h_w29_ato)
            have h_w30_amo : w30 amo = some (eI cI 8 (lnF mo)) := (congrFun e_w30 _).trans ((mwu_ne (Ne.symm (tne t_asi t_amo (by decide)))).trans h_w29_amo)
            have h_w30_alo : w30 alo = some (eI cI 8 lo) := (congrFun e_w30 _).trans ((mwu_ne (Ne.symm (tne t_asi t_alo (by decide)))).trans h_w29_alo)
            have h_w30_aro : w30 aro = some (eI cI 9600 ro) := (congrFun e_w30 _).trans ((mwu_ne (Ne.symm (tne t_asi t_aro (by decide)))).trans h_w29_aro)
            have fr_w30 : ∀ zz : Nat, zz ≠ om → zz ≠ aso → zz ≠ asi → w30 zz = w zz := fun zz g0 g1 g2 => (congrFun e_w30 zz).trans ((mwu_ne g2).trans (fr_w29 zz g0 g1))
            refine mg_aload_n C dX7_sketch_172 rfl ?_
            refine mg_get C inT7 h_w30_om rfl 4 (by decide) kw_22 (Or.inl rfl) rfl dX7_sketch_173 ?_
            refine mg_aload_n C dX7_sketch_176 rfl ?_
            refine mg_get C inT7 h_w30_om rfl 1 (by decide) kw_111 (Or.inl rfl) rfl dX7_sketch_177 ?_
            refine mg_iload_n C dX7_sketch_180 rfl ?_
            refine mg_iastN C h_w30_ase (by omega) (by omega) dX7_sketch_181 (fun w31 e_w31 => ?_)
            rw [upd_lnF] at e_w31
            have h_w31_om : w31 om = some (.inr (6, [.int (nI 0), .int (nI md), .ref aso, .ref asi, .ref ase, .ref ato, .ref amo, .ref alo, .ref aro, .ref asr])) := (congrFun e_w31 _).trans ((mwu_ne (mw_oa h_w30_om h_w30_ase)).trans h_w30_om)
            have h_w31_aso : w31 aso = some (eI cI 8 (lnF (updN so md ka))) := (congrFun e_w31 _).trans ((mwu_ne (tne t_aso t_ase (by decide))).trans h_w30_aso)
            have h_w31_asi : w31 asi = some (eI cI 8 (lnF (updN si md za))) := (congrFun e_w31 _).trans ((mwu_ne (tne t_asi t_ase (by decide))).trans h_w30_asi)
            have h_w31_ase : w31 ase = some (eI cI 8 (lnF (updN se md da))) := (congrFun e_w31 _).trans mwu_eq
            have h_w31_ato : w31 ato = some (eI cI 8 to) := (congrFun e_w31 _).trans ((mwu_ne (Ne.symm (tne t_ase t_ato (by decide)))).trans h_w30_ato)
            have h_w31_amo : w31 amo = some (eI cI 8 (lnF mo)) := (congrFun e_w31 _).trans ((mwu_ne (Ne.symm (tne t_ase t_amo (by decide)))).trans h_w30_amo)
            have h_w31_alo : w31 alo = some (eI cI 8 lo) := (congrFun e_w31 _).trans ((mwu_ne (Ne.symm (tne t_ase t_alo (by decide)))).trans h_w30_alo)
            have h_w31_aro : w31 aro = some (eI cI 9600 ro) := (congrFun e_w31 _).trans ((mwu_ne (Ne.symm (tne t_ase t_aro (by decide)))).trans h_w30_aro)
            have fr_w31 : ∀ zz : Nat, zz ≠ om → zz ≠ aso → zz ≠ asi → zz ≠ ase → w31 zz = w zz := fun zz g0 g1 g2 g3 => (congrFun e_w31 zz).trans ((mwu_ne g3).trans (fr_w30 zz g0 g1 g2))
            refine mg_aload_n C dX7_sketch_182 rfl ?_
            refine mg_dup C dX7_sketch_183 rfl ?_
            refine mg_get C inT7 h_w31_om rfl 1 (by decide) kw_111 (Or.inl rfl) rfl dX7_sketch_184 ?_
            refine mg_iconst C (v := nI 1) dX7_sketch_187 (by decide) ?_
            refine mg_iadd C (z := nI (md + 1)) dX7_sketch_188 (nI_add _ _) ?_
            refine mg_put C (fs' := [.int (nI 0), .int (nI (md + 1)), .ref aso, .ref asi, .ref ase, .ref ato, .ref amo, .ref alo, .ref aro, .ref asr]) inT7 h_w31_om rfl 1 (by decide) kw_111 (Or.inl rfl) tyX7_ok nmX7 rfl rfl rfl rfl (Nat.le_of_ble_eq_true rfl) dX7_sketch_189 (fun w32 e_w32 => ?_)
            have h_w32_om : w32 om = some (.inr (6, [.int (nI 0), .int (nI (md + 1)), .ref aso, .ref asi, .ref ase, .ref ato, .ref amo, .ref alo, .ref aro, .ref asr])) := (congrFun e_w32 _).trans mwu_eq
            have h_w32_aso : w32 aso = some (eI cI 8 (lnF (updN so md ka))) := (congrFun e_w32 _).trans ((mwu_ne (mw_ao h_w31_aso h_w31_om)).trans h_w31_aso)
            have h_w32_asi : w32 asi = some (eI cI 8 (lnF (updN si md za))) := (congrFun e_w32 _).trans ((mwu_ne (mw_ao h_w31_asi h_w31_om)).trans h_w31_asi)
            have h_w32_ase : w32 ase = some (eI cI 8 (lnF (updN se md da))) := (congrFun e_w32 _).trans ((mwu_ne (mw_ao h_w31_ase h_w31_om)).trans h_w31_ase)
            have h_w32_ato : w32 ato = some (eI cI 8 to) := (congrFun e_w32 _).trans ((mwu_ne (mw_ao h_w31_ato h_w31_om)).trans h_w31_ato)
            have h_w32_amo : w32 amo = some (eI cI 8 (lnF mo)) := (congrFun e_w32 _).trans ((mwu_ne (mw_ao h_w31_amo h_w31_om)).trans h_w31_amo)
            have h_w32_alo : w32 alo = some (eI cI 8 lo) := (congrFun e_w32 _).trans ((mwu_ne (mw_ao h_w31_alo h_w31_om)).trans h_w31_alo)
            have h_w32_aro : w32 aro = some (eI cI 9600 ro) := (congrFun e_w32 _).trans ((mwu_ne (mw_ao h_w31_aro h_w31_om)).trans h_w31_aro)
            have fr_w32 : ∀ zz : Nat, zz ≠ om → zz ≠ aso → zz ≠ asi → zz ≠ ase → w32 zz = w zz := fun zz g0 g1 g2 g3 => (congrFun e_w32 zz).trans ((mwu_ne g0).trans (fr_w31 zz g0 g1 g2 g3))
            refine mg_aload_n C dX7_sketch_192 rfl ?_
            refine mg_aload_n C dX7_sketch_193 rfl ?_
            refine mg_get C inT7 h_w32_om rfl 1 (by decide) kw_111 (Or.inl rfl) rfl dX7_sketch_194 ?_
            refine mg_iconst C (v := nI 1) dX7_sketch_197 (by decide) ?_
            refine mg_isub C (z := nI md) dX7_sketch_198 ((ni_sub (by omega)).trans rfl) ?_
            refine mg_callV_v C h_w32_om rfl (rest := []) (c_X7_empty D cI cS w32 om (md + 1) aso asi ase ato amo alo aro asr (nI 0) to mo lo ro tg md h_w32_om h_w32_ato h_w32_amo h_w32_alo h_w32_aro (by omega) t_ato t_amo t_alo t_aro) yq_X7_empty kw_115 kw_116 kw_117 ⟨by decide, by decide⟩ ⟨Nat.le_of_ble_eq_true rfl, Nat.le_of_ble_eq_true rfl⟩ (Nat.le_of_ble_eq_true rfl) rfl rfl dX7_sketch_199 (fun w33 ⟨xa33, xb33, xc33, xd33, xf33⟩ => ?_)
            have h_w33_om : w33 om = some (.inr (6, [.int (nI 0), .int (nI (md + 1)), .ref aso, .ref asi, .ref ase, .ref ato, .ref amo, .ref alo, .ref aro, .ref asr])) := (xf33 om (mw_oa h_w32_om h_w32_ato) (mw_oa h_w32_om h_w32_amo) (mw_oa h_w32_om h_w32_alo) (mw_oa h_w32_om h_w32_aro)).trans h_w32_om
            have h_w33_aso : w33 aso = some (eI cI 8 (lnF (updN so md ka))) := (xf33 aso (tne t_aso t_ato (by decide)) (tne t_aso t_amo (by decide)) (tne t_aso t_alo (by decide)) (tne t_aso t_aro (by decide))).trans h_w32_aso
            have h_w33_asi : w33 asi = some (eI cI 8 (lnF (updN si md za))) := (xf33 asi (tne t_asi t_ato (by decide)) (tne t_asi t_amo (by decide)) (tne t_asi t_alo (by decide)) (tne t_asi t_aro (by decide))).trans h_w32_asi
            have h_w33_ase : w33 ase = some (eI cI 8 (lnF (updN se md da))) := (xf33 ase (tne t_ase t_ato (by decide)) (tne t_ase t_amo (by decide)) (tne t_ase t_alo (by decide)) (tne t_ase t_aro (by decide))).trans h_w32_ase
            have fr_w33 : ∀ zz : Nat, zz ≠ om → zz ≠ aso → zz ≠ asi → zz ≠ ase → zz ≠ ato → zz ≠ amo → zz ≠ alo → zz ≠ aro → w33 zz = w zz := fun zz g0 g1 g2 g3 g4 g5 g6 g7 => (xf33 zz g4 g5 g6 g7).trans (fr_w32 zz g0 g1 g2 g3)
            refine mg_aload_n C dX7_sketch_202 rfl ?_
            refine mg_get C inT7 h_w33_om rfl 1 (by decide) kw_111 (Or.inl rfl) rfl dX7_sketch_203 ?_
            refine mg_iconst C (v := nI 1) dX7_sketch_206 (by decide) ?_
            refine mg_isub C (z := nI md) dX7_sketch_207 ((ni_sub (by omega)).trans rfl) ?_
            have hsz : szN ka za := by unfold szN; omega
            exact hR _ _ _ _ dX7_sketch_208 (Or.inr ⟨ka, za, da, hka, hda, rfl, rfl, rfl, hsz, Or.inr ⟨by omega, rfl, h_w33_om, h_w33_aso, h_w33_asi, h_w33_ase, xa33, xb33, xc33, xd33, fun z q0 q1 q2 q3 q4 q5 q6 q7 => fr_w33 z q0 q1 q2 q3 q4 q5 q6 q7⟩⟩)
          · refine mg_bipush C (v := (-3 : Int32)) dX7_sketch_149 (by decide) ?_
            have hsz : szN ka za := by unfold szN; omega
            exact hR _ _ _ _ dX7_sketch_151 (Or.inr ⟨ka, za, da, hka, hda, rfl, rfl, rfl, hsz, Or.inl ⟨c_146, rfl, h_w1_om, fun z q0 => fr_w1 z q0⟩⟩)
        · rw [ra28]
          refine mg_ifN_eq C (tgt := 130) dX7_sketch_48 (by decide) (by decide) (fun c_48 => ?_) (fun c_48 => absurd c_48 (by decide))
          refine mg_iconst C (v := nI 0) dX7_sketch_130 (by decide) ?_
          refine mg_istore C (lv' := [(4, .int (nI 0)), (0, .ref om), (1, .int (nI ka)), (2, .int sz), (3, .int (nI da))]) dX7_sketch_131 (by decide) rfl ?_
          refine mg_iload C dX7_sketch_133 rfl ?_
          refine mg_ifN_ne C (tgt := 140) dX7_sketch_135 (by decide) (by decide) (fun c_135 => absurd c_135 (by decide)) (fun c_135 => ?_)
          refine mg_iconst C (v := (-1 : Int32)) dX7_sketch_138 (by decide) ?_
          exact hR _ _ _ _ dX7_sketch_139 (Or.inl ⟨sk_noR (lo := 1) (hi := 20) hka (fun q => hy_zH ((in_rp (by decide)).mpr q)) (fun z q => by unfold szN at q; omega), rfl, h_w1_om, fun z q0 => fr_w1 z q0⟩)
    · rw [ra3]
      refine mg_ifN_eq C (tgt := 29) dX7_sketch_22 (by decide) (by decide) (fun c_22 => ?_) (fun c_22 => absurd c_22 (by decide))
      refine mg_iconst C (v := nI 0) dX7_sketch_29 (by decide) ?_
      refine mg_istore C (lv' := [(4, .int (nI 0)), (0, .ref om), (1, .int (nI ka)), (2, .int sz), (3, .int sd)]) dX7_sketch_30 (by decide) rfl ?_
      refine mg_iload C dX7_sketch_32 rfl ?_
      refine mg_ifN_eq C (tgt := 130) dX7_sketch_34 (by decide) (by decide) (fun c_34 => ?_) (fun c_34 => absurd c_34 (by decide))
      refine mg_iconst C (v := nI 0) dX7_sketch_130 (by decide) ?_
      refine mg_istore C (lv' := [(4, .int (nI 0)), (0, .ref om), (1, .int (nI ka)), (2, .int sz), (3, .int sd)]) dX7_sketch_131 (by decide) rfl ?_
      refine mg_iload C dX7_sketch_133 rfl ?_
      refine mg_ifN_ne C (tgt := 140) dX7_sketch_135 (by decide) (by decide) (fun c_135 => absurd c_135 (by decide)) (fun c_135 => ?_)
      refine mg_iconst C (v := (-1 : Int32)) dX7_sketch_138 (by decide) ?_
      exact hR _ _ _ _ dX7_sketch_139 (Or.inl ⟨sk_no2 (fun q => hy_b ((in_rg (by decide)).mpr q)), rfl, h_w1_om, fun z q0 => fr_w1 z q0⟩)
  · rw [ra2]
    refine mg_ifN_eq C (tgt := 29) dX7_sketch_11 (by decide) (by decide) (fun c_11 => ?_) (fun c_11 => absurd c_11 (by decide))
    refine mg_iconst C (v := nI 0) dX7_sketch_29 (by decide) ?_
    refine mg_istore C (lv' := [(4, .int (nI 0)), (0, .ref om), (1, .int kd), (2, .int sz), (3, .int sd)]) dX7_sketch_30 (by decide) rfl ?_
    refine mg_iload C dX7_sketch_32 rfl ?_
    refine mg_ifN_eq C (tgt := 130) dX7_sketch_34 (by decide) (by decide) (fun c_34 => ?_) (fun c_34 => absurd c_34 (by decide))
    refine mg_iconst C (v := nI 0) dX7_sketch_130 (by decide) ?_
    refine mg_istore C (lv' := [(4, .int (nI 0)), (0, .ref om), (1, .int kd), (2, .int sz), (3, .int sd)]) dX7_sketch_131 (by decide) rfl ?_
    refine mg_iload C dX7_sketch_133 rfl ?_
    refine mg_ifN_ne C (tgt := 140) dX7_sketch_135 (by decide) (by decide) (fun c_135 => absurd c_135 (by decide)) (fun c_135 => ?_)
    refine mg_iconst C (v := (-1 : Int32)) dX7_sketch_138 (by decide) ?_
    exact hR _ _ _ _ dX7_sketch_139 (Or.inl ⟨sk_no1 (fun q => hy_a ((in_rg (by decide)).mpr q)), rfl, h_w1_om, fun z q0 => fr_w1 z q0⟩)

set_option maxHeartbeats 4000000 in
set_option maxRecDepth 20000 in
theorem c_X7_come_H (D : va_G) (cI cS : ClassId) (w : mwT) (om md aso asi ase ato amo alo aro asr : Nat) (th : Int32) (so : Nat → Nat) (si : Nat → Nat) (se : Nat → Nat) (to : Nat → Int32) (mo : Nat → Nat) (lo : Nat → Int32) (ro : Nat → Int32) (sr : Nat → Int32) (tg : Nat → Nat) (s h k sd mv : Nat) (tot : Int32) (f : Nat → Int32) (gn : Nat → Nat) (x n : Int32) (hom : w om = some (.inr (6, [.int th, .int (nI md), .ref aso, .ref asi, .ref ase, .ref ato, .ref amo, .ref alo, .ref aro, .ref asr]))) (h_aso : w aso = some (eI cI 8 (lnF so))) (h_asi : w asi = some (eI cI 8 (lnF si))) (h_ase : w ase = some (eI cI 8 (lnF se))) (h_ato : w ato = some (eI cI 8 to)) (h_amo : w amo = some (eI cI 8 (lnF mo))) (h_alo : w alo = some (eI cI 8 lo)) (h_aro : w aro = some (eI cI 9600 ro)) (h_asr : w asr = some (eI cI 1024 sr)) (hmd : md ≤ 8) (hs : s < md) (hsd : sd ≤ 999) (hso : so s = 0) (hsi : si s = k) (hse : se s = sd) (hto : to s = tot) (hmo : mo s = mv) (hk1 : 1 ≤ k) (hk2 : k ≤ 20) (hh : h ≤ k) (hv : HvM ro s f (lnF gn) h) (hgn : ∀ i, i < h → 1 ≤ gn i ∧ gn i ≤ 10000000) (hmv : mv ≤ 10000000) (t_aso : tg aso = 1) (t_asi : tg asi = 2) (t_ase : tg ase = 3) (t_ato : tg ato = 4) (t_amo : tg amo = 5) (t_alo : tg alo = 6) (t_aro : tg aro = 7) (t_asr : tg asr = 8) : mMi yX7_come cX7_come 6 (some .int) (rmL 98) [.ref om, .int (nI s), .int x, .int n] D cI cS w (fun r w1 => (¬ (rg 9999 x ∧ rp 1 1000 n) ∧ r = -1 ∧ w1 om = some (.inr (6, [.int (nI 0), .int (nI md), .ref aso, .ref asi, .ref ase, .ref ato, .ref amo, .ref alo, .ref aro, .ref asr])) ∧ ∀ z : Nat, z ≠ om → w1 z = w z) ∨ (∃ xa cn : Nat, xa ≤ 9999 ∧ x = nI xa ∧ rp 1 1000 n ∧ absI n = nI cn ∧ 1 ≤ cn ∧ cn ≤ 1000 ∧ ((10000000 < mv + cn ∧ r = -3 ∧ w1 om = some (.inr (6, [.int (nI 0), .int (nI md), .ref aso, .ref asi, .ref ase, .ref ato, .ref amo, .ref alo, .ref aro, .ref asr])) ∧ ∀ z : Nat, z ≠ om → w1 z = w z) ∨ (mv + cn ≤ 10000000 ∧ r = tot + n + nI 10000000 ∧ w1 om = some (.inr (6, [.int (nI 0), .int (nI md), .ref aso, .ref asi, .ref ase, .ref ato, .ref amo, .ref alo, .ref aro, .ref asr])) ∧ w1 ato = some (eI cI 8 (upd to s (tot + n))) ∧ w1 amo = some (eI cI 8 (lnF (updN mo s (mv + cn)))) ∧ (∃ ro1 : Nat → Int32, w1 aro = some (eI cI 9600 ro1) ∧ outS ro ro1 s ∧ HvM ro1 s (comU k (nI xa) cn f gn h (lo s)).1.1 (comU k (nI xa) cn f gn h (lo s)).1.2.1 (comU k (nI xa) cn f gn h (lo s)).1.2.2 ∧ w1 alo = some (eI cI 8 (upd lo s (comU k (nI xa) cn f gn h (lo s)).2))) ∧ ∀ z : Nat, z ≠ om → z ≠ aro → z ≠ alo → z ≠ ato → z ≠ amo → w1 z = w z)))) := by
  refine mMi.of (by decide) (Nat.le_of_ble_eq_true rfl) ?_
  intro X C hN hR
  have fr_w : ∀ zz : Nat, w zz = w zz := fun _ => rfl
  refine mg_sub (lv' := [(0, .ref om), (1, .int (nI s)), (2, .int x), (3, .int n)]) [0, 1, 2, 3] rfl ?_
  have hs8 : s < 8 := by omega
  refine mg_aload_n C dX7_come_0 rfl ?_
  refine mg_iconst C (v := nI 0) dX7_come_1 (by decide) ?_
  refine mg_put C (fs' := [.int (nI 0), .int (nI md), .ref aso, .ref asi, .ref ase, .ref ato, .ref amo, .ref alo, .ref aro, .ref asr]) inT7 hom rfl 0 (by decide) kw_28 (Or.inl rfl) tyX7_ok nmX7 rfl rfl rfl rfl (Nat.le_of_ble_eq_true rfl) dX7_come_2 (fun w1 e_w1 => ?_)
  have h_w1_om : w1 om = some (.inr (6, [.int (nI 0), .int (nI md), .ref aso, .ref asi, .ref ase, .ref ato, .ref amo, .ref alo, .ref aro, .ref asr])) := (congrFun e_w1 _).trans mwu_eq
  have h_w1_aso : w1 aso = some (eI cI 8 (lnF so)) := (congrFun e_w1 _).trans ((mwu_ne (mw_ao h_aso hom)).trans h_aso)
  have h_w1_asi : w1 asi = some (eI cI 8 (lnF si)) := (congrFun e_w1 _).trans ((mwu_ne (mw_ao h_asi hom)).trans h_asi)
  have h_w1_ase : w1 ase = some (eI cI 8 (lnF se)) := (congrFun e_w1 _).trans ((mwu_ne (mw_ao h_ase hom)).trans h_ase)
  have h_w1_ato : w1 ato = some (eI cI 8 to) := (congrFun e_w1 _).trans ((mwu_ne (mw_ao h_ato hom)).trans h_ato)
  have h_w1_amo : w1 amo = some (eI cI 8 (lnF mo)) := (congrFun e_w1 _).trans ((mwu_ne (mw_ao h_amo hom)).trans h_amo)
  have h_w1_alo : w1 alo = some (eI cI 8 lo) := (congrFun e_w1 _).trans ((mwu_ne (mw_ao h_alo hom)).trans h_alo)
  have h_w1_aro : w1 aro = some (eI cI 9600 ro) := (congrFun e_w1 _).trans ((mwu_ne (mw_ao h_aro hom)).trans h_aro)
  have h_w1_asr : w1 asr = some (eI cI 1024 sr) := (congrFun e_w1 _).trans ((mwu_ne (mw_ao h_asr hom)).trans h_asr)
  have fr_w1 : ∀ zz : Nat, zz ≠ om → w1 zz = w zz := fun zz g0 => (congrFun e_w1 zz).trans ((mwu_ne g0).trans (fr_w zz ))
  refine mg_aload_n C dX7_come_5 rfl ?_
  refine mg_iload_n C dX7_come_6 rfl ?_
  refine mg_callV_i C h_w1_om rfl (rest := []) (c_X7_none_in D cI cS w1 om md aso asi ase ato amo alo aro asr (nI 0)  s h_w1_om hmd hs) yq_X7_none kw_197 kw_198 kw_199 ⟨by decide, by decide⟩ ⟨Nat.le_of_ble_eq_true rfl, Nat.le_of_ble_eq_true rfl⟩ (Nat.le_of_ble_eq_true rfl) rfl rfl dX7_come_7 (fun r2 w3 ⟨e_r2, e_w3⟩ => ?_)
  rw [e_w3, e_r2]
  refine mg_ifN_ne C (tgt := 24) dX7_come_10 (by decide) (by decide) (fun c_10 => absurd c_10 (by decide)) (fun c_10 => ?_)
  refine mg_iload_n C dX7_come_13 rfl ?_
  refine mg_iconst C (v := nI 0) dX7_come_14 (by decide) ?_
  refine mg_sipush C (v := nI 9999) dX7_come_15 (by decide) ?_
  refine mg_callS_i C (rest := []) (c_X7_in D cI cS w1 x (nI 0) (nI 9999)) yq_X7_in kw_112 kw_113 ⟨by decide, by decide⟩ ⟨Nat.le_of_ble_eq_true rfl, Nat.le_of_ble_eq_true rfl⟩ (Nat.le_of_ble_eq_true rfl) rfl rfl dX7_come_18 (fun r4 w4 ⟨xa4, xk4⟩ => ?_)
  rw [xk4]
  rcases xa4 with ⟨ra4, hy_key⟩ | ⟨ra4, hy_key⟩
  · rw [ra4]
    obtain ⟨xa, hxa, rfl⟩ := (in_rg (n := 9999) (by decide)).mp hy_key
    refine mg_ifN_ne C (tgt := 26) dX7_come_21 (by decide) (by decide) (fun c_21 => ?_) (fun c_21 => absurd c_21 (by decide))
    refine mg_aload_n C dX7_come_26 rfl ?_
    refine mg_get C inT7 h_w1_om rfl 2 (by decide) kw_20 (Or.inl rfl) rfl dX7_come_27 ?_
    refine mg_iload_n C dX7_come_30 rfl ?_
    refine mg_ialdN C h_w1_aso (by omega) (by omega) dX7_come_31 ?_
    rw [show lnF so s = nI 0 from congrArg nI hso]
    refine mg_iconst C (v := nI 1) dX7_come_32 (by decide) ?_
    refine mg_icmpN_ne C (tgt := 61) dX7_come_33 (by decide) (by omega) (by omega) (fun c_33 => ?_) (fun c_33 => absurd c_33 (by decide))
    refine mg_iload_n C dX7_come_61 rfl ?_
    refine mg_iconst C (v := nI 1) dX7_come_62 (by decide) ?_
    refine mg_aload_n C dX7_come_63 rfl ?_
    refine mg_get C inT7 h_w1_om rfl 2 (by decide) kw_20 (Or.inl rfl) rfl dX7_come_64 ?_
    refine mg_iload_n C dX7_come_67 rfl ?_
    refine mg_ialdN C h_w1_aso (by omega) (by omega) dX7_come_68 ?_
    rw [show lnF so s = nI 0 from congrArg nI hso]
    refine mg_iconst C (v := nI 4) dX7_come_69 (by decide) ?_
    refine mg_icmpN_ne C (tgt := 78) dX7_come_70 (by decide) (by omega) (by omega) (fun c_70 => ?_) (fun c_70 => absurd c_70 (by decide))
    refine mg_sipush C (v := nI 1000) dX7_come_78 (by decide) ?_
    refine mg_callS_i C (rest := []) (c_X7_in D cI cS w1 n (nI 1) (nI 1000)) yq_X7_in kw_112 kw_113 ⟨by decide, by decide⟩ ⟨Nat.le_of_ble_eq_true rfl, Nat.le_of_ble_eq_true rfl⟩ (Nat.le_of_ble_eq_true rfl) rfl rfl dX7_come_81 (fun r5 w5 ⟨xa5, xk5⟩ => ?_)
    rw [xk5]
    rcases xa5 with ⟨ra5, hy_n⟩ | ⟨ra5, hy_n⟩
    · rw [ra5]
      obtain ⟨cn, hc3, hc4, rfl⟩ := (in_rp (lo := 1) (hi := 1000) (by decide)).mp hy_n
      have hca : absI (nI cn) = nI cn := abs_nI (by omega)
      refine mg_istore C (lv' := [(4, .int (nI 1)), (0, .ref om), (1, .int (nI s)), (2, .int (nI xa)), (3, .int (nI cn))]) dX7_come_84 (by decide) rfl ?_
      refine mg_iload C dX7_come_86 rfl ?_
      refine mg_ifN_ne C (tgt := 93) dX7_come_88 (by decide) (by decide) (fun c_88 => ?_) (fun c_88 => absurd c_88 (by decide))
      refine mg_iload_n C dX7_come_93 rfl ?_
      refine mg_ifN_ge C (tgt := 102) dX7_come_94 (by decide) (by omega) ?_
      refine mg_iload_n C dX7_come_102 rfl ?_
      refine mg_istore C (lv' := [(5, .int (nI cn)), (4, .int (nI 1)), (0, .ref om), (1, .int (nI s)), (2, .int (nI xa)), (3, .int (nI cn))]) dX7_come_103 (by decide) rfl ?_
      refine mg_aload_n C dX7_come_105 rfl ?_
      refine mg_get C inT7 h_w1_om rfl 6 (by decide) kw_24 (Or.inl rfl) rfl dX7_come_106 ?_
      refine mg_iload_n C dX7_come_109 rfl ?_
      refine mg_ialdN C h_w1_amo (by omega) (by omega) dX7_come_110 ?_
      rw [show lnF mo s = nI mv from congrArg nI hmo]
      refine mg_iload C dX7_come_111 rfl ?_
      refine mg_iadd C (z := nI (mv + cn)) dX7_come_113 (nI_add _ _) ?_
      refine mg_ldc C (v := nI 10000000) dX7_come_114 kw_231 (by decide) ?_
      refine mg_icmpN_le C (tgt := 122) dX7_come_116 (by decide) (by omega) (by omega) (fun c_116 => ?_) (fun c_116 => ?_)
      · refine mg_aload_n C dX7_come_122 rfl ?_
        refine mg_iload_n C dX7_come_123 rfl ?_
        refine mg_iload_n C dX7_come_124 rfl ?_
        refine mg_iload_n C dX7_come_125 rfl ?_
        refine mg_callV_v C h_w1_om rfl (rest := []) (c_X7_comeOnce_H D cI cS w1 om md aso asi ase ato amo alo aro asr (nI 0) so si lo ro tg s xa k h cn f gn h_w1_om h_w1_aso h_w1_asi h_w1_alo h_w1_aro hs8 hso hsi hk1 hk2 hh hv hgn (by omega) (by omega) t_aso t_asi t_alo t_aro) yq_X7_comeOnce kw_328 kw_329 kw_330 ⟨by decide, by decide⟩ ⟨Nat.le_of_ble_eq_true rfl, Nat.le_of_ble_eq_true rfl⟩ (Nat.le_of_ble_eq_true rfl) rfl rfl dX7_come_126 (fun w6 ⟨ro1, xk6, hv1, ho1, xl6, xf6⟩ => ?_)
        have h_w6_om : w6 om = some (.inr (6, [.int (nI 0), .int (nI md), .ref aso, .ref asi, .ref ase, .ref ato, .ref amo, .ref alo, .ref aro, .ref asr])) := (xf6 om (mw_oa h_w1_om h_w1_aro) (mw_oa h_w1_om h_w1_alo)).trans h_w1_om
        have h_w6_aso : w6 aso = some (eI cI 8 (lnF so)) := (xf6 aso (tne t_aso t_aro (by decide)) (tne t_aso t_alo (by decide))).trans h_w1_aso
        have h_w6_asi : w6 asi = some (eI cI 8 (lnF si)) := (xf6 asi (tne t_asi t_aro (by decide)) (tne t_asi t_alo (by decide))).trans h_w1_asi
        have h_w6_ase : w6 ase = some (eI cI 8 (lnF se)) := (xf6 ase (tne t_ase t_aro (by decide)) (tne t_ase t_alo (by decide))).trans h_w1_ase
        have h_w6_ato : w6 ato = some (eI cI 8 to) := (xf6 ato (tne t_ato t_aro (by decide)) (tne t_ato t_alo (by decide))).trans h_w1_ato
        have h_w6_amo : w6 amo = some (eI cI 8 (lnF mo)) := (xf6 amo (tne t_amo t_aro (by decide)) (tne t_amo t_alo (by decide))).trans h_w1_amo
        have h_w6_asr : w6 asr = some (eI cI 1024 sr) := (xf6 asr (Ne.symm (tne t_aro t_asr (by decide))) (Ne.symm (tne t_alo t_asr (by decide)))).trans h_w1_asr
        have fr_w6 : ∀ zz : Nat, zz ≠ om → zz ≠ aro → zz ≠ alo → w6 zz = w zz := fun zz g0 g1 g2 => (xf6 zz g1 g2).trans (fr_w1 zz g0)
        refine mg_aload_n C dX7_come_129 rfl ?_
        refine mg_get C inT7 h_w6_om rfl 5 (by decide) kw_23 (Or.inl rfl) rfl dX7_come_130 ?_
        refine mg_iload_n C dX7_come_133 rfl ?_
        refine mg_aload_n C dX7_come_134 rfl ?_
        refine mg_get C inT7 h_w6_om rfl 5 (by decide) kw_23 (Or.inl rfl) rfl dX7_come_135 ?_
        refine mg_iload_n C dX7_come_138 rfl ?_
        refine mg_ialdN C h_w6_ato (by omega) (by omega) dX7_come_139 ?_
        rw [hto]
        refine mg_iload_n C dX7_come_140 rfl ?_
        refine mg_iadd C (z := tot + (nI cn)) dX7_come_141 rfl ?_
        refine mg_iastN C h_w6_ato (by omega) (by omega) dX7_come_142 (fun w7 e_w7 => ?_)
        have h_w7_om : w7 om = some (.inr (6, [.int (nI 0), .int (nI md), .ref aso, .ref asi, .ref ase, .ref ato, .ref amo, .ref alo, .ref aro, .ref asr])) := (congrFun e_w7 _).trans ((mwu_ne (mw_oa h_w6_om h_w6_ato)).trans h_w6_om)
        have h_w7_aso : w7 aso = some (eI cI 8 (lnF so)) := (congrFun e_w7 _).trans ((mwu_ne (tne t_aso t_ato (by decide))).trans h_w6_aso)
        have h_w7_asi : w7 asi = some (eI cI 8 (lnF si)) := (congrFun e_w7 _).trans ((mwu_ne (tne t_asi t_ato (by decide))).trans h_w6_asi)
        have h_w7_ase : w7 ase = some (eI cI 8 (lnF se)) := (congrFun e_w7 _).trans ((mwu_ne (tne t_ase t_ato (by decide))).trans h_w6_ase)
        have h_w7_ato : w7 ato = some (eI cI 8 (upd to s (tot + (nI cn)))) := (congrFun e_w7 _).trans mwu_eq
        have h_w7_amo : w7 amo = some (eI cI 8 (lnF mo)) := (congrFun e_w7 _).trans ((mwu_ne (Ne.symm (tne t_ato t_amo (by decide)))).trans h_w6_amo)
        have h_w7_alo : w7 alo = some (eI cI 8 (upd lo s (comU k (nI xa) cn f gn h (lo s)).2)) := (congrFun e_w7 _).trans ((mwu_ne (Ne.symm (tne t_ato t_alo (by decide)))).trans xl6)
        have h_w7_aro : w7 aro = some (eI cI 9600 ro1) := (congrFun e_w7 _).trans ((mwu_ne (Ne.symm (tne t_ato t_aro (by decide)))).trans xk6)
        have h_w7_asr : w7 asr = some (eI cI 1024 sr) := (congrFun e_w7 _).trans ((mwu_ne (Ne.symm (tne t_ato t_asr (by decide)))).trans h_w6_asr)
        have fr_w7 : ∀ zz : Nat, zz ≠ om → zz ≠ aro → zz ≠ alo → zz ≠ ato → w7 zz = w zz := fun zz g0 g1 g2 g3 => (congrFun e_w7 zz).trans ((mwu_ne g3).trans (fr_w6 zz g0 g1 g2))
        refine mg_aload_n C dX7_come_143 rfl ?_
        refine mg_get C inT7 h_w7_om rfl 6 (by decide) kw_24 (Or.inl rfl) rfl dX7_come_144 ?_
        refine mg_iload_n C dX7_come_147 rfl ?_
        refine mg_aload_n C dX7_come_148 rfl ?_
        refine mg_get C inT7 h_w7_om rfl 6 (by decide) kw_24 (Or.inl rfl) rfl dX7_come_149 ?_
        refine mg_iload_n C dX7_come_152 rfl ?_
        refine mg_ialdN C h_w7_amo (by omega) (by omega) dX7_come_153 ?_
        rw [show lnF mo s = nI mv from congrArg nI hmo]
        refine mg_iload C dX7_come_154 rfl ?_
        refine mg_iadd C (z := nI (mv + cn)) dX7_come_156 (nI_add _ _) ?_
        refine mg_iastN C h_w7_amo (by omega) (by omega) dX7_come_157 (fun w8 e_w8 => ?_)
        rw [upd_lnF] at e_w8
        have h_w8_om : w8 om = some (.inr (6, [.int (nI 0), .int (nI md), .ref aso, .ref asi, .ref ase, .ref ato, .ref amo, .ref alo, .ref aro, .ref asr])) := (congrFun e_w8 _).trans ((mwu_ne (mw_oa h_w7_om h_w7_amo)).trans h_w7_om)
        have h_w8_aso : w8 aso = some (eI cI 8 (lnF so)) := (congrFun e_w8 _).trans ((mwu_ne (tne t_aso t_amo (by decide))).trans h_w7_aso)
        have h_w8_asi : w8 asi = some (eI cI 8 (lnF si)) := (congrFun e_w8 _).trans ((mwu_ne (tne t_asi t_amo (by decide))).trans h_w7_asi)
        have h_w8_ase : w8 ase = some (eI cI 8 (lnF se)) := (congrFun e_w8 _).trans ((mwu_ne (tne t_ase t_amo (by decide))).trans h_w7_ase)
        have h_w8_ato : w8 ato = some (eI cI 8 (upd to s (tot + (nI cn)))) := (congrFun e_w8 _).trans ((mwu_ne (tne t_ato t_amo (by decide))).trans h_w7_ato)
        have h_w8_amo : w8 amo = some (eI cI 8 (lnF (updN mo s (mv + cn)))) := (congrFun e_w8 _).trans mwu_eq
        have h_w8_alo : w8 alo = some (eI cI 8 (upd lo s (comU k (nI xa) cn f gn h (lo s)).2)) := (congrFun e_w8 _).trans ((mwu_ne (Ne.symm (tne t_amo t_alo (by decide)))).trans h_w7_alo)
        have h_w8_aro : w8 aro = some (eI cI 9600 ro1) := (congrFun e_w8 _).trans ((mwu_ne (Ne.symm (tne t_amo t_aro (by decide)))).trans h_w7_aro)
        have h_w8_asr : w8 asr = some (eI cI 1024 sr) := (congrFun e_w8 _).trans ((mwu_ne (Ne.symm (tne t_amo t_asr (by decide)))).trans h_w7_asr)
        have fr_w8 : ∀ zz : Nat, zz ≠ om → zz ≠ aro → zz ≠ alo → zz ≠ ato → zz ≠ amo → w8 zz = w zz := fun zz g0 g1 g2 g3 g4 => (congrFun e_w8 zz).trans ((mwu_ne g4).trans (fr_w7 zz g0 g1 g2 g3))
        refine mg_aload_n C dX7_come_158 rfl ?_
        refine mg_get C inT7 h_w8_om rfl 5 (by decide) kw_23 (Or.inl rfl) rfl dX7_come_159 ?_
        refine mg_iload_n C dX7_come_162 rfl ?_
        refine mg_ialdN C h_w8_ato (by omega) (by omega) dX7_come_163 ?_
        rw [upd_same]
        refine mg_ldc C (v := nI 10000000) dX7_come_164 kw_231 (by decide) ?_
        refine mg_iadd C (z := (tot + nI cn) + (nI 10000000)) dX7_come_166 rfl ?_
        exact hR _ _ _ _ dX7_come_167 (Or.inr ⟨xa, cn, hxa, rfl, ⟨cn, hc3, hc4, rfl⟩, hca, hc3, (by omega), Or.inr ⟨c_116, rfl, h_w8_om, h_w8_ato, h_w8_amo, ⟨ro1, h_w8_aro, ho1, hv1, h_w8_alo⟩, fun z q0 q1 q2 q3 q4 => fr_w8 z q0 q1 q2 q3 q4⟩⟩)
      · refine mg_bipush C (v := (-3 : Int32)) dX7_come_119 (by decide) ?_
        exact hR _ _ _ _ dX7_come_121 (Or.inr ⟨xa, cn, hxa, rfl, ⟨cn, hc3, hc4, rfl⟩, hca, hc3, (by omega), Or.inl ⟨c_116, rfl, h_w1_om, fun z q0 => fr_w1 z q0⟩⟩)
    · rw [ra5]
      refine mg_istore C (lv' := [(4, .int (nI 0)), (0, .ref om), (1, .int (nI s)), (2, .int (nI xa)), (3, .int n)]) dX7_come_84 (by decide) rfl ?_
      refine mg_iload C dX7_come_86 rfl ?_
      refine mg_ifN_ne C (tgt := 93) dX7_come_88 (by decide) (by decide) (fun c_88 => absurd c_88 (by decide)) (fun c_88 => ?_)
      refine mg_iconst C (v := (-1 : Int32)) dX7_come_91 (by decide) ?_
      exact hR _ _ _ _ dX7_come_92 (Or.inl ⟨fun q => hy_n ((in_rp (by decide)).mpr q.2), rfl, h_w1_om, fun z q0 => fr_w1 z q0⟩)
  · rw [ra4]
    refine mg_ifN_ne C (tgt := 26) dX7_come_21 (by decide) (by decide) (fun c_21 => absurd c_21 (by decide)) (fun c_21 => ?_)
    refine mg_iconst C (v := (-1 : Int32)) dX7_come_24 (by decide) ?_
    exact hR _ _ _ _ dX7_come_25 (Or.inl ⟨fun q => hy_key ((in_rg (by decide)).mpr q.1), rfl, h_w1_om, fun z q0 => fr_w1 z q0⟩)

set_option maxHeartbeats 4000000 in
set_option maxRecDepth 20000 in
theorem c_X7_come_T (D : va_G) (cI cS : ClassId) (w : mwT) (om md aso asi ase ato amo alo aro asr : Nat) (th : Int32) (so : Nat → Nat) (si : Nat → Nat) (se : Nat → Nat) (to : Nat → Int32) (mo : Nat → Nat) (lo : Nat → Int32) (ro : Nat → Int32) (sr : Nat → Int32) (tg : Nat → Nat) (s c sd mv : Nat) (tot : Int32) (f : Nat → Int32) (x n : Int32) (hom : w om = some (.inr (6, [.int th, .int (nI md), .ref aso, .ref asi, .ref ase, .ref ato, .ref amo, .ref alo, .ref aro, .ref asr]))) (h_aso : w aso = some (eI cI 8 (lnF so))) (h_asi : w asi = some (eI cI 8 (lnF si))) (h_ase : w ase = some (eI cI 8 (lnF se))) (h_ato : w ato = some (eI cI 8 to)) (h_amo : w amo = some (eI cI 8 (lnF mo))) (h_alo : w alo = some (eI cI 8 lo)) (h_aro : w aro = some (eI cI 9600 ro)) (h_asr : w asr = some (eI cI 1024 sr)) (hmd : md ≤ 8) (hs : s < md) (hsd : sd ≤ 999) (hso : so s = 1) (hsi : si s = c) (hse : se s = sd) (hto : to s = tot) (hmo : mo s = mv) (hc1 : 4 ≤ c) (hc2 : c ≤ 64) (hv : TbM ro s f (4 * c)) (hlo : lo s = nI 0) (hmv : mv ≤ 10000000) (t_aso : tg aso = 1) (t_asi : tg asi = 2) (t_ase : tg ase = 3) (t_ato : tg ato = 4) (t_amo : tg amo = 5) (t_alo : tg alo = 6) (t_aro : tg aro = 7) (t_asr : tg asr = 8) : mMi yX7_come cX7_come 6 (some .int) (rmL 98) [.ref om, .int (nI s), .int x, .int n] D cI cS w (fun r w1 => (¬ (rg 9999 x ∧ tkOk n) ∧ r = -1 ∧ w1 om = some (.inr (6, [.int (nI 0), .int (nI md), .ref aso, .ref asi, .ref ase, .ref ato, .ref amo, .ref alo, .ref aro, .ref asr])) ∧ ∀ z : Nat, z ≠ om → w1 z = w z) ∨ (∃ xa cn : Nat, xa ≤ 9999 ∧ x = nI xa ∧ tkOk n ∧ absI n = nI cn ∧ 1 ≤ cn ∧ cn ≤ 1000 ∧ ((10000000 < mv + cn ∧ r = -3 ∧ w1 om = some (.inr (6, [.int (nI 0), .int (nI md), .ref aso, .ref asi, .ref ase, .ref ato, .ref amo, .ref alo, .ref aro, .ref asr])) ∧ ∀ z : Nat, z ≠ om → w1 z = w z) ∨ (mv + cn ≤ 10000000 ∧ r = tot + n + nI 10000000 ∧ w1 om = some (.inr (6, [.int (nI 0), .int (nI md), .ref aso, .ref asi, .ref ase, .ref ato, .ref amo, .ref alo, .ref aro, .ref asr])) ∧ w1 ato = some (eI cI 8 (upd to s (tot + n))) ∧ w1 amo = some (eI cI 8 (lnF (updN mo s (mv + cn)))) ∧ (∃ ro1 : Nat → Int32, w1 aro = some (eI cI 9600 ro1) ∧ outS ro ro1 s ∧ TbM ro1 s (tkT f sd xa c n 4) (4 * c)) ∧ ∀ z : Nat, z ≠ om → z ≠ aro → z ≠ ato → z ≠ amo → w1 z = w z)))) := by
  refine mMi.of (by decide) (Nat.le_of_ble_eq_true rfl) ?_
  intro X C hN hR
  have fr_w : ∀ zz : Nat, w zz = w zz := fun _ => rfl
  refine mg_sub (lv' := [(0, .ref om), (1, .int (nI s)), (2, .int x), (3, .int n)]) [0, 1, 2, 3] rfl ?_
  have hs8 : s < 8 := by omega
  refine mg_aload_n C dX7_come_0 rfl ?_
  refine mg_iconst C (v := nI 0) dX7_come_1 (by decide) ?_
  refine mg_put C (fs' := [.int (nI 0), .int (nI md), .ref aso, .ref asi, .ref ase, .ref ato, .ref amo, .ref alo, .ref aro, .ref asr]) inT7 hom rfl 0 (by decide) kw_28 (Or.inl rfl) tyX7_ok nmX7 rfl rfl rfl rfl (Nat.le_of_ble_eq_true rfl) dX7_come_2 (fun w1 e_w1 => ?_)
  have h_w1_om : w1 om = some (.inr (6, [.int (nI 0), .int (nI md), .ref aso, .ref asi, .ref ase, .ref ato, .ref amo, .ref alo, .ref aro, .ref asr])) := (congrFun e_w1 _).trans mwu_eq
  have h_w1_aso : w1 aso = some (eI cI 8 (lnF so)) := (congrFun e_w1 _).trans ((mwu_ne (mw_ao h_aso hom)).trans h_aso)
  have h_w1_asi : w1 asi = some (eI cI 8 (lnF si)) := (congrFun e_w1 _).trans ((mwu_ne (mw_ao h_asi hom)).trans h_asi)
  have h_w1_ase : w1 ase = some (eI cI 8 (lnF se)) := (congrFun e_w1 _).trans ((mwu_ne (mw_ao h_ase hom)).trans h_ase)
  have h_w1_ato : w1 ato = some (eI cI 8 to) := (congrFun e_w1 _).trans ((mwu_ne (mw_ao h_ato hom)).trans h_ato)
  have h_w1_amo : w1 amo = some (eI cI 8 (lnF mo)) := (congrFun e_w1 _).trans ((mwu_ne (mw_ao h_amo hom)).trans h_amo)
  have h_w1_alo : w1 alo = some (eI cI 8 lo) := (congrFun e_w1 _).trans ((mwu_ne (mw_ao h_alo hom)).trans h_alo)
  have h_w1_aro : w1 aro = some (eI cI 9600 ro) := (congrFun e_w1 _).trans ((mwu_ne (mw_ao h_aro hom)).trans h_aro)
  have h_w1_asr : w1 asr = some (eI cI 1024 sr) := (congrFun e_w1 _).trans ((mwu_ne (mw_ao h_asr hom)).trans h_asr)
  have fr_w1 : ∀ zz : Nat, zz ≠ om → w1 zz = w zz := fun zz g0 => (congrFun e_w1 zz).trans ((mwu_ne g0).trans (fr_w zz ))
  refine mg_aload_n C dX7_come_5 rfl ?_
  refine mg_iload_n C dX7_come_6 rfl ?_
  refine mg_callV_i C h_w1_om rfl (rest := []) (c_X7_none_in D cI cS w1 om md aso asi ase ato amo alo aro asr (nI 0)  s h_w1_om hmd hs) yq_X7_none kw_197 kw_198 kw_199 ⟨by decide, by decide⟩ ⟨Nat.le_of_ble_eq_true rfl, Nat.le_of_ble_eq_true rfl⟩ (Nat.le_of_ble_eq_true rfl) rfl rfl dX7_come_7 (fun r2 w3 ⟨e_r2, e_w3⟩ => ?_)
  rw [e_w3, e_r2]
  refine mg_ifN_ne C (tgt := 24) dX7_come_10 (by decide) (by decide) (fun c_10 => absurd c_10 (by decide)) (fun c_10 => ?_)
  refine mg_iload_n C dX7_come_13 rfl ?_
  refine mg_iconst C (v := nI 0) dX7_come_14 (by decide) ?_
  refine mg_sipush C (v := nI 9999) dX7_come_15 (by decide) ?_
  refine mg_callS_i C (rest := []) (c_X7_in D cI cS w1 x (nI 0) (nI 9999)) yq_X7_in kw_112 kw_113 ⟨by decide, by decide⟩ ⟨Nat.le_of_ble_eq_true rfl, Nat.le_of_ble_eq_true rfl⟩ (Nat.le_of_ble_eq_true rfl) rfl rfl dX7_come_18 (fun r4 w4 ⟨xa4, xk4⟩ => ?_)
  rw [xk4]
  rcases xa4 with ⟨ra4, hy_key⟩ | ⟨ra4, hy_key⟩
  · rw [ra4]
    obtain ⟨xa, hxa, rfl⟩ := (in_rg (n := 9999) (by decide)).mp hy_key
    refine mg_ifN_ne C (tgt := 26) dX7_come_21 (by decide) (by decide) (fun c_21 => ?_) (fun c_21 => absurd c_21 (by decide))
    refine mg_aload_n C dX7_come_26 rfl ?_
    refine mg_get C inT7 h_w1_om rfl 2 (by decide) kw_20 (Or.inl rfl) rfl dX7_come_27 ?_
    refine mg_iload_n C dX7_come_30 rfl ?_
    refine mg_ialdN C h_w1_aso (by omega) (by omega) dX7_come_31 ?_
    rw [show lnF so s = nI 1 from congrArg nI hso]
    refine mg_iconst C (v := nI 1) dX7_come_32 (by decide) ?_
    refine mg_icmpN_ne C (tgt := 61) dX7_come_33 (by decide) (by omega) (by omega) (fun c_33 => absurd c_33 (by decide)) (fun c_33 => ?_)
    refine mg_iload_n C dX7_come_36 rfl ?_
    refine mg_sipush C (v := (-1000 : Int32)) dX7_come_37 (by decide) ?_
    refine mg_sipush C (v := nI 1000) dX7_come_40 (by decide) ?_
    refine mg_callS_i C (rest := []) (c_X7_in D cI cS w1 n ((-1000 : Int32)) (nI 1000)) yq_X7_in kw_112 kw_113 ⟨by decide, by decide⟩ ⟨Nat.le_of_ble_eq_true rfl, Nat.le_of_ble_eq_true rfl⟩ (Nat.le_of_ble_eq_true rfl) rfl rfl dX7_come_43 (fun r5 w5 ⟨xa5, xk5⟩ => ?_)
    rw [xk5]
    rcases xa5 with ⟨ra5, hy_n⟩ | ⟨ra5, hy_n⟩
    · rw [ra5]
      refine mg_ifN_eq C (tgt := 57) dX7_come_46 (by decide) (by decide) (fun c_46 => absurd c_46 (by decide)) (fun c_46 => ?_)
      refine mg_iload_n C dX7_come_49 rfl ?_
      refine mg_if_eq C (tgt := 57) dX7_come_50 (by decide) (fun c_50 => ?_) (fun c_50 => ?_)
      · refine mg_iconst C (v := nI 0) dX7_come_57 (by decide) ?_
        refine mg_goto C (tgt := 84) dX7_come_58 (by decide) ?_
        refine mg_istore C (lv' := [(4, .int (nI 0)), (0, .ref om), (1, .int (nI s)), (2, .int (nI xa)), (3, .int n)]) dX7_come_84 (by decide) rfl ?_
        refine mg_iload C dX7_come_86 rfl ?_
        refine mg_ifN_ne C (tgt := 93) dX7_come_88 (by decide) (by decide) (fun c_88 => absurd c_88 (by decide)) (fun c_88 => ?_)
        refine mg_iconst C (v := (-1 : Int32)) dX7_come_91 (by decide) ?_
        exact hR _ _ _ _ dX7_come_92 (Or.inl ⟨fun q => q.2.2.2 c_50, rfl, h_w1_om, fun z q0 => fr_w1 z q0⟩)
      · refine mg_iconst C (v := nI 1) dX7_come_53 (by decide) ?_
        refine mg_goto C (tgt := 84) dX7_come_54 (by decide) ?_
        refine mg_istore C (lv' := [(4, .int (nI 1)), (0, .ref om), (1, .int (nI s)), (2, .int (nI xa)), (3, .int n)]) dX7_come_84 (by decide) rfl ?_
        refine mg_iload C dX7_come_86 rfl ?_
        refine mg_ifN_ne C (tgt := 93) dX7_come_88 (by decide) (by decide) (fun c_88 => ?_) (fun c_88 => absurd c_88 (by decide))
        have hok9 : tkOk n := in_tk.mp ⟨hy_n.1, hy_n.2, c_50⟩
        obtain ⟨cn, hc3, hc4, hca⟩ := tkOk_abs hok9
        refine mg_iload_n C dX7_come_93 rfl ?_
        refine mg_if_ge C (tgt := 102) dX7_come_94 (by decide) (fun c_94 => ?_) (fun c_94 => ?_)
        · refine mg_iload_n C dX7_come_102 rfl ?_
          refine mg_istore C (lv' := [(5, .int n), (4, .int (nI 1)), (0, .ref om), (1, .int (nI s)), (2, .int (nI xa)), (3, .int n)]) dX7_come_103 (by decide) rfl ?_
          have eb : n = nI cn := (if_pos c_94).symm.trans hca
          refine mg_lv (lv' := [(5, .int (nI cn)), (4, .int (nI 1)), (0, .ref om), (1, .int (nI s)), (2, .int (nI xa)), (3, .int n)]) (by rw [eb]) ?_
          refine mg_aload_n C dX7_come_105 rfl ?_
          refine mg_get C inT7 h_w1_om rfl 6 (by decide) kw_24 (Or.inl rfl) rfl dX7_come_106 ?_
          refine mg_iload_n C dX7_come_109 rfl ?_
          refine mg_ialdN C h_w1_amo (by omega) (by omega) dX7_come_110 ?_
          rw [show lnF mo s = nI mv from congrArg nI hmo]
          refine mg_iload C dX7_come_111 rfl ?_
          refine mg_iadd C (z := nI (mv + cn)) dX7_come_113 (nI_add _ _) ?_
          refine mg_ldc C (v := nI 10000000) dX7_come_114 kw_231 (by decide) ?_
          refine mg_icmpN_le C (tgt := 122) dX7_come_116 (by decide) (by omega) (by omega) (fun c_116 => ?_) (fun c_116 => ?_)
          · refine mg_aload_n C dX7_come_122 rfl ?_
            refine mg_iload_n C dX7_come_123 rfl ?_
            refine mg_iload_n C dX7_come_124 rfl ?_
            refine mg_iload_n C dX7_come_125 rfl ?_
            refine mg_callV_v C h_w1_om rfl (rest := []) (c_X7_comeOnce_T D cI cS w1 om md aso asi ase ato amo alo aro asr (nI 0) so si se ro tg s xa c sd n f h_w1_om h_w1_aso h_w1_asi h_w1_ase h_w1_aro hs8 hsd hxa hso hsi hse hc1 hc2 hv t_aso t_asi t_ase t_aro) yq_X7_comeOnce kw_328 kw_329 kw_330 ⟨by decide, by decide⟩ ⟨Nat.le_of_ble_eq_true rfl, Nat.le_of_ble_eq_true rfl⟩ (Nat.le_of_ble_eq_true rfl) rfl rfl dX7_come_126 (fun w6 ⟨ro1, xk6, hv1, ho1, xf6⟩ => ?_)
            have h_w6_om : w6 om = some (.inr (6, [.int (nI 0), .int (nI md), .ref aso, .ref asi, .ref ase, .ref ato, .ref amo, .ref alo, .ref aro, .ref asr])) := (xf6 om (mw_oa h_w1_om h_w1_aro)).trans h_w1_om
            have h_w6_aso : w6 aso = some (eI cI 8 (lnF so)) := (xf6 aso (tne t_aso t_aro (by decide))).trans h_w1_aso
            have h_w6_asi : w6 asi = some (eI cI 8 (lnF si)) := (xf6 asi (tne t_asi t_aro (by decide))).trans h_w1_asi
            have h_w6_ase : w6 ase = some (eI cI 8 (lnF se)) := (xf6 ase (tne t_ase t_aro (by decide))).trans h_w1_ase
            have h_w6_ato : w6 ato = some (eI cI 8 to) := (xf6 ato (tne t_ato t_aro (by decide))).trans h_w1_ato
            have h_w6_amo : w6 amo = some (eI cI 8 (lnF mo)) := (xf6 amo (tne t_amo t_aro (by decide))).trans h_w1_amo
            have h_w6_alo : w6 alo = some (eI cI 8 lo) := (xf6 alo (tne t_alo t_aro (by decide))).trans h_w1_alo
            have h_w6_asr : w6 asr = some (eI cI 1024 sr) := (xf6 asr (Ne.symm (tne t_aro t_asr (by decide)))).trans h_w1_asr
            have fr_w6 : ∀ zz : Nat, zz ≠ om → zz ≠ aro → w6 zz = w zz := fun zz g0 g1 => (xf6 zz g1).trans (fr_w1 zz g0)
            refine mg_aload_n C dX7_come_129 rfl ?_
            refine mg_get C inT7 h_w6_om rfl 5 (by decide) kw_23 (Or.inl rfl) rfl dX7_come_130 ?_
            refine mg_iload_n C dX7_come_133 rfl ?_
            refine mg_aload_n C dX7_come_134 rfl ?_
            refine mg_get C inT7 h_w6_om rfl 5 (by decide) kw_23 (Or.inl rfl) rfl dX7_come_135 ?_
            refine mg_iload_n C dX7_come_138 rfl ?_
            refine mg_ialdN C h_w6_ato (by omega) (by omega) dX7_come_139 ?_
            rw [hto]
            refine mg_iload_n C dX7_come_140 rfl ?_
            refine mg_iadd C (z := tot + n) dX7_come_141 rfl ?_
            refine mg_iastN C h_w6_ato (by omega) (by omega) dX7_come_142 (fun w7 e_w7 => ?_)
            have h_w7_om : w7 om = some (.inr (6, [.int (nI 0), .int (nI md), .ref aso, .ref asi, .ref ase, .ref ato, .ref amo, .ref alo, .ref aro, .ref asr])) := (congrFun e_w7 _).trans ((mwu_ne (mw_oa h_w6_om h_w6_ato)).trans h_w6_om)
            have h_w7_aso : w7 aso = some (eI cI 8 (lnF so)) := (congrFun e_w7 _).trans ((mwu_ne (tne t_aso t_ato (by decide))).trans h_w6_aso)
            have h_w7_asi : w7 asi = some (eI cI 8 (lnF si)) := (congrFun e_w7 _).trans ((mwu_ne (tne t_asi t_ato (by decide))).trans h_w6_asi)
            have h_w7_ase : w7 ase = some (eI cI 8 (lnF se)) := (congrFun e_w7 _).trans ((mwu_ne (tne t_ase t_ato (by decide))).trans h_w6_ase)
            have h_w7_ato : w7 ato = some (eI cI 8 (upd to s (tot + n))) := (congrFun e_w7 _).trans mwu_eq
            have h_w7_amo : w7 amo = some (eI cI 8 (lnF mo)) := (congrFun e_w7 _).trans ((mwu_ne (Ne.symm (tne t_ato t_amo (by decide)))).trans h_w6_amo)
            have h_w7_alo : w7 alo = some (eI cI 8 lo) := (congrFun e_w7 _).trans ((mwu_ne (Ne.symm (tne t_ato t_alo (by decide)))).trans h_w6_alo)
            have h_w7_aro : w7 aro = some (eI cI 9600 ro1) := (congrFun e_w7 _).trans ((mwu_ne (Ne.symm (tne t_ato t_aro (by decide)))).trans xk6)
            have h_w7_asr : w7 asr = some (eI cI 1024 sr) := (congrFun e_w7 _).trans ((mwu_ne (Ne.symm (tne t_ato t_asr (by decide)))).trans h_w6_asr)
            have fr_w7 : ∀ zz : Nat, zz ≠ om → zz ≠ aro → zz ≠ ato → w7 zz = w zz := fun zz g0 g1 g2 => (congrFun e_w7 zz).trans ((mwu_ne g2).trans (fr_w6 zz g0 g1))
            refine mg_aload_n C dX7_come_143 rfl ?_
            refine mg_get C inT7 h_w7_om rfl 6 (by decide) kw_24 (Or.inl rfl) rfl dX7_come_144 ?_
            refine mg_iload_n C dX7_come_147 rfl ?_
            refine mg_aload_n C dX7_come_148 rfl ?_
            refine mg_get C inT7 h_w7_om rfl 6 (by decide) kw_24 (Or.inl rfl) rfl dX7_come_149 ?_
            refine mg_iload_n C dX7_come_152 rfl ?_
            refine mg_ialdN C h_w7_amo (by omega) (by omega) dX7_come_153 ?_
            rw [show lnF mo s = nI mv from congrArg nI hmo]
            refine mg_iload C dX7_come_154 rfl ?_
            refine mg_iadd C (z := nI (mv + cn)) dX7_come_156 (nI_add _ _) ?_
            refine mg_iastN C h_w7_amo (by omega) (by omega) dX7_come_157 (fun w8 e_w8 => ?_)
            rw [upd_lnF] at e_w8
            have h_w8_om : w8 om = some (.inr (6, [.int (nI 0), .int (nI md), .ref aso, .ref asi, .ref ase, .ref ato, .ref amo, .ref alo, .ref aro, .ref asr])) := (congrFun e_w8 _).trans ((mwu_ne (mw_oa h_w7_om h_w7_amo)).trans h_w7_om)
            have h_w8_aso : w8 aso = some (eI cI 8 (lnF so)) := (congrFun e_w8 _).trans ((mwu_ne (tne t_aso t_amo (by decide))).trans h_w7_aso)
            have h_w8_asi : w8 asi = some (eI cI 8 (lnF si)) := (congrFun e_w8 _).trans ((mwu_ne (tne t_asi t_amo (by decide))).trans h_w7_asi)
            have h_w8_ase : w8 ase = some (eI cI 8 (lnF se)) := (congrFun e_w8 _).trans ((mwu_ne (tne t_ase t_amo (by decide))).trans h_w7_ase)
            have h_w8_ato : w8 ato = some (eI cI 8 (upd to s (tot + n))) := (congrFun e_w8 _).trans ((mwu_ne (tne t_ato t_amo (by decide))).trans h_w7_ato)
            have h_w8_amo : w8 amo = some (eI cI 8 (lnF (updN mo s (mv + cn)))) := (congrFun e_w8 _).trans mwu_eq
            have h_w8_alo : w8 alo = some (eI cI 8 lo) := (congrFun e_w8 _).trans ((mwu_ne (Ne.symm (tne t_amo t_alo (by decide)))).trans h_w7_alo)
            have h_w8_aro : w8 aro = some (eI cI 9600 ro1) := (congrFun e_w8 _).trans ((mwu_ne (Ne.symm (tne t_amo t_aro (by decide)))).trans h_w7_aro)
            have h_w8_asr : w8 asr = some (eI cI 1024 sr) := (congrFun e_w8 _).trans ((mwu_ne (Ne.symm (tne t_amo t_asr (by decide)))).trans h_w7_asr)
            have fr_w8 : ∀ zz : Nat, zz ≠ om → zz ≠ aro → zz ≠ ato → zz ≠ amo → w8 zz = w zz := fun zz g0 g1 g2 g3 => (congrFun e_w8 zz).trans ((mwu_ne g3).trans (fr_w7 zz g0 g1 g2))
            refine mg_aload_n C dX7_come_158 rfl ?_
            refine mg_get C inT7 h_w8_om rfl 5 (by decide) kw_23 (Or.inl rfl) rfl dX7_come_159 ?_
            refine mg_iload_n C dX7_come_162 rfl ?_
            refine mg_ialdN C h_w8_ato (by omega) (by omega) dX7_come_163 ?_
            rw [upd_same]
            refine mg_ldc C (v := nI 10000000) dX7_come_164 kw_231 (by decide) ?_
            refine mg_iadd C (z := (tot + n) + (nI 10000000)) dX7_come_166 rfl ?_
            exact hR _ _ _ _ dX7_come_167 (Or.inr ⟨xa, cn, hxa, rfl, hok9, hca, hc3, (by omega), Or.inr ⟨c_116, rfl, h_w8_om, h_w8_ato, h_w8_amo, ⟨ro1, h_w8_aro, ho1, hv1⟩, fun z q0 q1 q2 q3 => fr_w8 z q0 q1 q2 q3⟩⟩)
          · refine mg_bipush C (v := (-3 : Int32)) dX7_come_119 (by decide) ?_
            exact hR _ _ _ _ dX7_come_121 (Or.inr ⟨xa, cn, hxa, rfl, hok9, hca, hc3, (by omega), Or.inl ⟨c_116, rfl, h_w1_om, fun z q0 => fr_w1 z q0⟩⟩)
        · refine mg_iload_n C dX7_come_97 rfl ?_
          refine mg_ineg C (z := 0 - n) dX7_come_98 rfl ?_
          refine mg_goto C (tgt := 103) dX7_come_99 (by decide) ?_
          refine mg_istore C (lv' := [(5, .int (0 - n)), (4, .int (nI 1)), (0, .ref om), (1, .int (nI s)), (2, .int (nI xa)), (3, .int n)]) dX7_come_103 (by decide) rfl ?_
          have eb : 0 - n = nI cn := (if_neg c_94).symm.trans hca
          refine mg_lv (lv' := [(5, .int (nI cn)), (4, .int (nI 1)), (0, .ref om), (1, .int (nI s)), (2, .int (nI xa)), (3, .int n)]) (by rw [eb]) ?_
          refine mg_aload_n C dX7_come_105 rfl ?_
          refine mg_get C inT7 h_w1_om rfl 6 (by decide) kw_24 (Or.inl rfl) rfl dX7_come_106 ?_
          refine mg_iload_n C dX7_come_109 rfl ?_
          refine mg_ialdN C h_w1_amo (by omega) (by omega) dX7_come_110 ?_
          rw [show lnF mo s = nI mv from congrArg nI hmo]
          refine mg_iload C dX7_come_111 rfl ?_
          refine mg_iadd C (z := nI (mv + cn)) dX7_come_113 (nI_add _ _) ?_
          refine mg_ldc C (v := nI 10000000) dX7_come_114 kw_231 (by decide) ?_
          refine mg_icmpN_le C (tgt := 122) dX7_come_116 (by decide) (by omega) (by omega) (fun c_116 => ?_) (fun c_116 => ?_)
          · refine mg_aload_n C dX7_come_122 rfl ?_
            refine mg_iload_n C dX7_come_123 rfl ?_
            refine mg_iload_n C dX7_come_124 rfl ?_
            refine mg_iload_n C dX7_come_125 rfl ?_
            refine mg_callV_v C h_w1_om rfl (rest := []) (c_X7_comeOnce_T D cI cS w1 om md aso asi ase ato amo alo aro asr (nI 0) so si se ro tg s xa c sd n f h_w1_om h_w1_aso h_w1_asi h_w1_ase h_w1_aro hs8 hsd hxa hso hsi hse hc1 hc2 hv t_aso t_asi t_ase t_aro) yq_X7_comeOnce kw_328 kw_329 kw_330 ⟨by decide, by decide⟩ ⟨Nat.le_of_ble_eq_true rfl, Nat.le_of_ble_eq_true rfl⟩ (Nat.le_of_ble_eq_true rfl) rfl rfl dX7_come_126 (fun w9 ⟨ro1, xk9, hv1, ho1, xf9⟩ => ?_)
            have h_w9_om : w9 om = some (.inr (6, [.int (nI 0), .int (nI md), .ref aso, .ref asi, .ref ase, .ref ato, .ref amo, .ref alo, .ref aro, .ref asr])) := (xf9 om (mw_oa h_w1_om h_w1_aro)).trans h_w1_om
            have h_w9_aso : w9 aso = some (eI cI 8 (lnF so)) := (xf9 aso (tne t_aso t_aro (by decide))).trans h_w1_aso
            have h_w9_asi : w9 asi = some (eI cI 8 (lnF si)) := (xf9 asi (tne t_asi t_aro (by decide))).trans h_w1_asi
            have h_w9_ase : w9 ase = some (eI cI 8 (lnF se)) := (xf9 ase (tne t_ase t_aro (by decide))).trans h_w1_ase
            have h_w9_ato : w9 ato = some (eI cI 8 to) := (xf9 ato (tne t_ato t_aro (by decide))).trans h_w1_ato
            have h_w9_amo : w9 amo = some (eI cI 8 (lnF mo)) := (xf9 amo (tne t_amo t_aro (by decide))).trans h_w1_amo
            have h_w9_alo : w9 alo = some (eI cI 8 lo) := (xf9 alo (tne t_alo t_aro (by decide))).trans h_w1_alo
            have h_w9_asr : w9 asr = some (eI cI 1024 sr) := (xf9 asr (Ne.symm (tne t_aro t_asr (by decide)))).trans h_w1_asr
            have fr_w9 : ∀ zz : Nat, zz ≠ om → zz ≠ aro → w9 zz = w zz := fun zz g0 g1 => (xf9 zz g1).trans (fr_w1 zz g0)
            refine mg_aload_n C dX7_come_129 rfl ?_
            refine mg_get C inT7 h_w9_om rfl 5 (by decide) kw_23 (Or.inl rfl) rfl dX7_come_130 ?_
            refine mg_iload_n C dX7_come_133 rfl ?_
            refine mg_aload_n C dX7_come_134 rfl ?_
            refine mg_get C inT7 h_w9_om rfl 5 (by decide) kw_23 (Or.inl rfl) rfl dX7_come_135 ?_
            refine mg_iload_n C dX7_come_138 rfl ?_
            refine mg_ialdN C h_w9_ato (by omega) (by omega) dX7_come_139 ?_
            rw [hto]
            refine mg_iload_n C dX7_come_140 rfl ?_
            refine mg_iadd C (z := tot + n) dX7_come_141 rfl ?_
            refine mg_iastN C h_w9_ato (by omega) (by omega) dX7_come_142 (fun w10 e_w10 => ?_)
            have h_w10_om : w10 om = some (.inr (6, [.int (nI 0), .int (nI md), .ref aso, .ref asi, .ref ase, .ref ato, .ref amo, .ref alo, .ref aro, .ref asr])) := (congrFun e_w10 _).trans ((mwu_ne (mw_oa h_w9_om h_w9_ato)).trans h_w9_om)
            have h_w10_aso : w10 aso = some (eI cI 8 (lnF so)) := (congrFun e_w10 _).trans ((mwu_ne (tne t_aso t_ato (by decide))).trans h_w9_aso)
            have h_w10_asi : w10 asi = some (eI cI 8 (lnF si)) := (congrFun e_w10 _).trans ((mwu_ne (tne t_asi t_ato (by decide))).trans h_w9_asi)
            have h_w10_ase : w10 ase = some (eI cI 8 (lnF se)) := (congrFun e_w10 _).trans ((mwu_ne (tne t_ase t_ato (by decide))).trans h_w9_ase)
            have h_w10_ato : w10 ato = some (eI cI 8 (upd to s (tot + n))) := (congrFun e_w10 _).trans mwu_eq
            have h_w10_amo : w10 amo = some (eI cI 8 (lnF mo)) := (congrFun e_w10 _).trans ((mwu_ne (Ne.symm (tne t_ato t_amo (by decide)))).trans h_w9_amo)
            have h_w10_alo : w10 alo = some (eI cI 8 lo) := (congrFun e_w10 _).trans ((mwu_ne (Ne.symm (tne t_ato t_alo (by decide)))).trans h_w9_alo)
            have h_w10_aro : w10 aro = some (eI cI 9600 ro1) := (congrFun e_w10 _).trans ((mwu_ne (Ne.symm (tne t_ato t_aro (by decide)))).trans xk9)
            have h_w10_asr : w10 asr = some (eI cI 1024 sr) := (congrFun e_w10 _).trans ((mwu_ne (Ne.symm (tne t_ato t_asr (by decide)))).trans h_w9_asr)
            have fr_w10 : ∀ zz : Nat, zz ≠ om → zz ≠ aro → zz ≠ ato → w10 zz = w zz := fun zz g0 g1 g2 => (congrFun e_w10 zz).trans ((mwu_ne g2).trans (fr_w9 zz g0 g1))
            refine mg_aload_n C dX7_come_143 rfl ?_
            refine mg_get C inT7 h_w10_om rfl 6 (by decide) kw_24 (Or.inl rfl) rfl dX7_come_144 ?_
            refine mg_iload_n C dX7_come_147 rfl ?_
            refine mg_aload_n C dX7_come_148 rfl ?_
            refine mg_get C inT7 h_w10_om rfl 6 (by decide) kw_24 (Or.inl rfl) rfl dX7_come_149 ?_
            refine mg_iload_n C dX7_come_152 rfl ?_
            refine mg_ialdN C h_w10_amo (by omega) (by omega) dX7_come_153 ?_
            rw [show lnF mo s = nI mv from congrArg nI hmo]
            refine mg_iload C dX7_come_154 rfl ?_
            refine mg_iadd C (z := nI (mv + cn)) dX7_come_156 (nI_add _ _) ?_
            refine mg_iastN C h_w10_amo (by omega) (by omega) dX7_come_157 (fun w11 e_w11 => ?_)
            rw [upd_lnF] at e_w11
            have h_w11_om : w11 om = some (.inr (6, [.int (nI 0), .int (nI md), .ref aso, .ref asi, .ref ase, .ref ato, .ref amo, .ref alo, .ref aro, .ref asr])) := (congrFun e_w11 _).trans ((mwu_ne (mw_oa h_w10_om h_w10_amo)).trans h_w10_om)
            have h_w11_aso : w11 aso = some (eI cI 8 (lnF so)) := (congrFun e_w11 _).trans ((mwu_ne (tne t_aso t_amo (by decide))).trans h_w10_aso)
            have h_w11_asi : w11 asi = some (eI cI 8 (lnF si)) := (congrFun e_w11 _).trans ((mwu_ne (tne t_asi t_amo (by decide))).trans h_w10_asi)
            have h_w11_ase : w11 ase = some (eI cI 8 (lnF se)) := (congrFun e_w11 _).trans ((mwu_ne (tne t_ase t_amo (by decide))).trans h_w10_ase)
            have h_w11_ato : w11 ato = some (eI cI 8 (upd to s (tot + n))) := (congrFun e_w11 _).trans ((mwu_ne (tne t_ato t_amo (by decide))).trans h_w10_ato)
            have h_w11_amo : w11 amo = some (eI cI 8 (lnF (updN mo s (mv + cn)))) := (congrFun e_w11 _).trans mwu_eq
            have h_w11_alo : w11 alo = some (eI cI 8 lo) := (congrFun e_w11 _).trans ((mwu_ne (Ne.symm (tne t_amo t_alo (by decide)))).trans h_w10_alo)
            have h_w11_aro : w11 aro = some (eI cI 9600 ro1) := (congrFun e_w11 _).trans ((mwu_ne (Ne.symm (tne t_amo t_aro (by decide)))).trans h_w10_aro)
            have h_w11_asr : w11 asr = some (eI cI 1024 sr) := (congrFun e_w11 _).trans ((mwu_ne (Ne.symm (tne t_amo t_asr (by decide)))).trans h_w10_asr)
            have fr_w11 : ∀ zz : Nat, zz ≠ om → zz ≠ aro → zz ≠ ato → zz ≠ amo → w11 zz = w zz := fun zz g0 g1 g2 g3 => (congrFun e_w11 zz).trans ((mwu_ne g3).trans (fr_w10 zz g0 g1 g2))
            refine mg_aload_n C dX7_come_158 rfl ?_
            refine mg_get C inT7 h_w11_om rfl 5 (by decide) kw_23 (Or.inl rfl) rfl dX7_come_159 ?_
            refine mg_iload_n C dX7_come_162 rfl ?_
            refine mg_ialdN C h_w11_ato (by omega) (by omega) dX7_come_163 ?_
            rw [upd_same]
            refine mg_ldc C (v := nI 10000000) dX7_come_164 kw_231 (by decide) ?_
            refine mg_iadd C (z := (tot + n) + (nI 10000000)) dX7_come_166 rfl ?_
            exact hR _ _ _ _ dX7_come_167 (Or.inr ⟨xa, cn, hxa, rfl, hok9, hca, hc3, (by omega), Or.inr ⟨c_116, rfl, h_w11_om, h_w11_ato, h_w11_amo, ⟨ro1, h_w11_aro, ho1, hv1⟩, fun z q0 q1 q2 q3 => fr_w11 z q0 q1 q2 q3⟩⟩)
          · refine mg_bipush C (v := (-3 : Int32)) dX7_come_119 (by decide) ?_
            exact hR _ _ _ _ dX7_come_121 (Or.inr ⟨xa, cn, hxa, rfl, hok9, hca, hc3, (by omega), Or.inl ⟨c_116, rfl, h_w1_om, fun z q0 => fr_w1 z q0⟩⟩)
    · rw [ra5]
      refine mg_ifN_eq C (tgt := 57) dX7_come_46 (by decide) (by decide) (fun c_46 => ?_) (fun c_46 => absurd c_46 (by decide))
      refine mg_iconst C (v := nI 0) dX7_come_57 (by decide) ?_
      refine mg_goto C (tgt := 84) dX7_come_58 (by decide) ?_
      refine mg_istore C (lv' := [(4, .int (nI 0)), (0, .ref om), (1, .int (nI s)), (2, .int (nI xa)), (3, .int n)]) dX7_come_84 (by decide) rfl ?_
      refine mg_iload C dX7_come_86 rfl ?_
      refine mg_ifN_ne C (tgt := 93) dX7_come_88 (by decide) (by decide) (fun c_88 => absurd c_88 (by decide)) (fun c_88 => ?_)
      refine mg_iconst C (v := (-1 : Int32)) dX7_come_91 (by decide) ?_
      exact hR _ _ _ _ dX7_come_92 (Or.inl ⟨fun q => hy_n ⟨(in_tk.mpr q.2).1, (in_tk.mpr q.2).2.1⟩, rfl, h_w1_om, fun z q0 => fr_w1 z q0⟩)
  · rw [ra4]
    refine mg_ifN_ne C (tgt := 26) dX7_come_21 (by decide) (by decide) (fun c_21 => absurd c_21 (by decide)) (fun c_21 => ?_)
    refine mg_iconst C (v := (-1 : Int32)) dX7_come_24 (by decide) ?_
    exact hR _ _ _ _ dX7_come_25 (Or.inl ⟨fun q => hy_key ((in_rg (by decide)).mpr q.1), rfl, h_w1_om, fun z q0 => fr_w1 z q0⟩)

set_option maxHeartbeats 4000000 in
set_option maxRecDepth 20000 in
theorem c_X7_come_F (D : va_G) (cI cS : ClassId) (w : mwT) (om md aso asi ase ato amo alo aro asr : Nat) (th : Int32) (so : Nat → Nat) (si : Nat → Nat) (se : Nat → Nat) (to : Nat → Int32) (mo : Nat → Nat) (lo : Nat → Int32) (ro : Nat → Int32) (sr : Nat → Int32) (tg : Nat → Nat) (s c sd mv : Nat) (tot : Int32) (f : Nat → Int32) (x n : Int32) (hom : w om = some (.inr (6, [.int th, .int (nI md), .ref aso, .ref asi, .ref ase, .ref ato, .ref amo, .ref alo, .ref aro, .ref asr]))) (h_aso : w aso = some (eI cI 8 (lnF so))) (h_asi : w asi = some (eI cI 8 (lnF si))) (h_ase : w ase = some (eI cI 8 (lnF se))) (h_ato : w ato = some (eI cI 8 to)) (h_amo : w amo = some (eI cI 8 (lnF mo))) (h_alo : w alo = some (eI cI 8 lo)) (h_aro : w aro = some (eI cI 9600 ro)) (h_asr : w asr = some (eI cI 1024 sr)) (hmd : md ≤ 8) (hs : s < md) (hsd : sd ≤ 999) (hso : so s = 2) (hsi : si s = c) (hse : se s = sd) (hto : to s = tot) (hmo : mo s = mv) (hc1 : 16 ≤ c) (hc2 : c ≤ 512) (hv : TbM ro s f c) (hlo : lo s = nI 0) (hmv : mv ≤ 10000000) (t_aso : tg aso = 1) (t_asi : tg asi = 2) (t_ase : tg ase = 3) (t_ato : tg ato = 4) (t_amo : tg amo = 5) (t_alo : tg alo = 6) (t_aro : tg aro = 7) (t_asr : tg asr = 8) : mMi yX7_come cX7_come 6 (some .int) (rmL 98) [.ref om, .int (nI s), .int x, .int n] D cI cS w (fun r w1 => (¬ (rg 9999 x ∧ rp 1 1000 n) ∧ r = -1 ∧ w1 om = some (.inr (6, [.int (nI 0), .int (nI md), .ref aso, .ref asi, .ref ase, .ref ato, .ref amo, .ref alo, .ref aro, .ref asr])) ∧ ∀ z : Nat, z ≠ om → w1 z = w z) ∨ (∃ xa cn : Nat, xa ≤ 9999 ∧ x = nI xa ∧ rp 1 1000 n ∧ absI n = nI cn ∧ 1 ≤ cn ∧ cn ≤ 1000 ∧ ((10000000 < mv + cn ∧ r = -3 ∧ w1 om = some (.inr (6, [.int (nI 0), .int (nI md), .ref aso, .ref asi, .ref ase, .ref ato, .ref amo, .ref alo, .ref aro, .ref asr])) ∧ ∀ z : Nat, z ≠ om → w1 z = w z) ∨ (mv + cn ≤ 10000000 ∧ r = tot + n + nI 10000000 ∧ w1 om = some (.inr (6, [.int (nI 0), .int (nI md), .ref aso, .ref asi, .ref ase, .ref ato, .ref amo, .ref alo, .ref aro, .ref asr])) ∧ w1 ato = some (eI cI 8 (upd to s (tot + n))) ∧ w1 amo = some (eI cI 8 (lnF (updN mo s (mv + cn)))) ∧ (∃ ro1 : Nat → Int32, w1 aro = some (eI cI 9600 ro1) ∧ outS ro ro1 s ∧ TbM ro1 s (tkF f sd xa c 4) (c)) ∧ ∀ z : Nat, z ≠ om → z ≠ aro → z ≠ ato → z ≠ amo → w1 z = w z)))) := by
  refine mMi.of (by decide) (Nat.le_of_ble_eq_true rfl) ?_
  intro X C hN hR
  have fr_w : ∀ zz : Nat, w zz = w zz := fun _ => rfl
  refine mg_sub (lv' := [(0, .ref om), (1, .int (nI s)), (2, .int x), (3, .int n)]) [0, 1, 2, 3] rfl ?_
  have hs8 : s < 8 := by omega
  refine mg_aload_n C dX7_come_0 rfl ?_
  refine mg_iconst C (v := nI 0) dX7_come_1 (by decide) ?_
  refine mg_put C (fs' := [.int (nI 0), .int (nI md), .ref aso, .ref asi, .ref ase, .ref ato, .ref amo, .ref alo, .ref aro, .ref asr]) inT7 hom rfl 0 (by decide) kw_28 (Or.inl rfl) tyX7_ok nmX7 rfl rfl rfl rfl (Nat.le_of_ble_eq_true rfl) dX7_come_2 (fun w1 e_w1 => ?_)
  have h_w1_om : w1 om = some (.inr (6, [.int (nI 0), .int (nI md), .ref aso, .ref asi, .ref ase, .ref ato, .ref amo, .ref alo, .ref aro, .ref asr])) := (congrFun e_w1 _).trans mwu_eq
  have h_w1_aso : w1 aso = some (eI cI 8 (lnF so)) := (congrFun e_w1 _).trans ((mwu_ne (mw_ao h_aso hom)).trans h_aso)
  have h_w1_asi : w1 asi = some (eI cI 8 (lnF si)) := (congrFun e_w1 _).trans ((mwu_ne (mw_ao h_asi hom)).trans h_asi)
  have h_w1_ase : w1 ase = some (eI cI 8 (lnF se)) := (congrFun e_w1 _).trans ((mwu_ne (mw_ao h_ase hom)).trans h_ase)
  have h_w1_ato : w1 ato = some (eI cI 8 to) := (congrFun e_w1 _).trans ((mwu_ne (mw_ao h_ato hom)).trans h_ato)
  have h_w1_amo : w1 amo = some (eI cI 8 (lnF mo)) := (congrFun e_w1 _).trans ((mwu_ne (mw_ao h_amo hom)).trans h_amo)
  have h_w1_alo : w1 alo = some (eI cI 8 lo) := (congrFun e_w1 _).trans ((mwu_ne (mw_ao h_alo hom)).trans h_alo)
  have h_w1_aro : w1 aro = some (eI cI 9600 ro) := (congrFun e_w1 _).trans ((mwu_ne (mw_ao h_aro hom)).trans h_aro)
  have h_w1_asr : w1 asr = some (eI cI 1024 sr) := (congrFun e_w1 _).trans ((mwu_ne (mw_ao h_asr hom)).trans h_asr)
  have fr_w1 : ∀ zz : Nat, zz ≠ om → w1 zz = w zz := fun zz g0 => (congrFun e_w1 zz).trans ((mwu_ne g0).trans (fr_w zz ))
  refine mg_aload_n C dX7_come_5 rfl ?_
  refine mg_iload_n C dX7_come_6 rfl ?_
  refine mg_callV_i C h_w1_om rfl (rest := []) (c_X7_none_in D cI cS w1 om md aso asi ase ato amo alo aro asr (nI 0)  s h_w1_om hmd hs) yq_X7_none kw_197 kw_198 kw_199 ⟨by decide, by decide⟩ ⟨Nat.le_of_ble_eq_true rfl, Nat.le_of_ble_eq_true rfl⟩ (Nat.le_of_ble_eq_true rfl) rfl rfl dX7_come_7 (fun r2 w3 ⟨e_r2, e_w3⟩ => ?_)
  rw [e_w3, e_r2]
  refine mg_ifN_ne C (tgt := 24) dX7_come_10 (by decide) (by decide) (fun c_10 => absurd c_10 (by decide)) (fun c_10 => ?_)
  refine mg_iload_n C dX7_come_13 rfl ?_
  refine mg_iconst C (v := nI 0) dX7_come_14 (by decide) ?_
  refine mg_sipush C (v := nI 9999) dX7_come_15 (by decide) ?_
  refine mg_callS_i C (rest := []) (c_X7_in D cI cS w1 x (nI 0) (nI 9999)) yq_X7_in kw_112 kw_113 ⟨by decide, by decide⟩ ⟨Nat.le_of_ble_eq_true rfl, Nat.le_of_ble_eq_true rfl⟩ (Nat.le_of_ble_eq_true rfl) rfl rfl dX7_come_18 (fun r4 w4 ⟨xa4, xk4⟩ => ?_)
  rw [xk4]
  rcases xa4 with ⟨ra4, hy_key⟩ | ⟨ra4, hy_key⟩
  · rw [ra4]
    obtain ⟨xa, hxa, rfl⟩ := (in_rg (n := 9999) (by decide)).mp hy_key
    refine mg_ifN_ne C (tgt := 26) dX7_come_21 (by decide) (by decide) (fun c_21 => ?_) (fun c_21 => absurd c_21 (by decide))
    refine mg_aload_n C dX7_come_26 rfl ?_
    refine mg_get C inT7 h_w1_om rfl 2 (by decide) kw_20 (Or.inl rfl) rfl dX7_come_27 ?_
    refine mg_iload_n C dX7_come_30 rfl ?_
    refine mg_ialdN C h_w1_aso (by omega) (by omega) dX7_come_31 ?_
    rw [show lnF so s = nI 2 from congrArg nI hso]
    refine mg_iconst C (v := nI 1) dX7_come_32 (by decide) ?_
    refine mg_icmpN_ne C (tgt := 61) dX7_come_33 (by decide) (by omega) (by omega) (fun c_33 => ?_) (fun c_33 => absurd c_33 (by decide))
    refine mg_iload_n C dX7_come_61 rfl ?_
    refine mg_iconst C (v := nI 1) dX7_come_62 (by decide) ?_
    refine mg_aload_n C dX7_come_63 rfl ?_
    refine mg_get C inT7 h_w1_om rfl 2 (by decide) kw_20 (Or.inl rfl) rfl dX7_come_64 ?_
    refine mg_iload_n C dX7_come_67 rfl ?_
    refine mg_ialdN C h_w1_aso (by omega) (by omega) dX7_come_68 ?_
    rw [show lnF so s = nI 2 from congrArg nI hso]
    refine mg_iconst C (v := nI 4) dX7_come_69 (by decide) ?_
    refine mg_icmpN_ne C (tgt := 78) dX7_come_70 (by decide) (by omega) (by omega) (fun c_70 => ?_) (fun c_70 => absurd c_70 (by decide))
    refine mg_sipush C (v := nI 1000) dX7_come_78 (by decide) ?_
    refine mg_callS_i C (rest := []) (c_X7_in D cI cS w1 n (nI 1) (nI 1000)) yq_X7_in kw_112 kw_113 ⟨by decide, by decide⟩ ⟨Nat.le_of_ble_eq_true rfl, Nat.le_of_ble_eq_true rfl⟩ (Nat.le_of_ble_eq_true rfl) rfl rfl dX7_come_81 (fun r5 w5 ⟨xa5, xk5⟩ => ?_)
    rw [xk5]
    rcases xa5 with ⟨ra5, hy_n⟩ | ⟨ra5, hy_n⟩
    · rw [ra5]
      obtain ⟨cn, hc3, hc4, rfl⟩ := (in_rp (lo := 1) (hi := 1000) (by decide)).mp hy_n
      have hca : absI (nI cn) = nI cn := abs_nI (by omega)
      refine mg_istore C (lv' := [(4, .int (nI 1)), (0, .ref om), (1, .int (nI s)), (2, .int (nI xa)), (3, .int (nI cn))]) dX7_come_84 (by decide) rfl ?_
      refine mg_iload C dX7_come_86 rfl ?_
      refine mg_ifN_ne C (tgt := 93) dX7_come_88 (by decide) (by decide) (fun c_88 => ?_) (fun c_88 => absurd c_88 (by decide))
      refine mg_iload_n C dX7_come_93 rfl ?_
      refine mg_ifN_ge C (tgt := 102) dX7_come_94 (by decide) (by omega) ?_
      refine mg_iload_n C dX7_come_102 rfl ?_
      refine mg_istore C (lv' := [(5, .int (nI cn)), (4, .int (nI 1)), (0, .ref om), (1, .int (nI s)), (2, .int (nI xa)), (3, .int (nI cn))]) dX7_come_103 (by decide) rfl ?_
      refine mg_aload_n C dX7_come_105 rfl ?_
      refine mg_get C inT7 h_w1_om rfl 6 (by decide) kw_24 (Or.inl rfl) rfl dX7_come_106 ?_
      refine mg_iload_n C dX7_come_109 rfl ?_
      refine mg_ialdN C h_w1_amo (by omega) (by omega) dX7_come_110 ?_
      rw [show lnF mo s = nI mv from congrArg nI hmo]
      refine mg_iload C dX7_come_111 rfl ?_
      refine mg_iadd C (z := nI (mv + cn)) dX7_come_113 (nI_add _ _) ?_
      refine mg_ldc C (v := nI 10000000) dX7_come_114 kw_231 (by decide) ?_
      refine mg_icmpN_le C (tgt := 122) dX7_come_116 (by decide) (by omega) (by omega) (fun c_116 => ?_) (fun c_116 => ?_)
      · refine mg_aload_n C dX7_come_122 rfl ?_
        refine mg_iload_n C dX7_come_123 rfl ?_
        refine mg_iload_n C dX7_come_124 rfl ?_
        refine mg_iload_n C dX7_come_125 rfl ?_
        refine mg_callV_v C h_w1_om rfl (rest := []) (c_X7_comeOnce_F D cI cS w1 om md aso asi ase ato amo alo aro asr (nI 0) so si se ro tg s xa c sd (nI cn) f h_w1_om h_w1_aso h_w1_asi h_w1_ase h_w1_aro hs8 hsd hxa hso hsi hse hc1 hc2 hv t_aso t_asi t_ase t_aro) yq_X7_comeOnce kw_328 kw_329 kw_330 ⟨by decide, by decide⟩ ⟨Nat.le_of_ble_eq_true rfl, Nat.le_of_ble_eq_true rfl⟩ (Nat.le_of_ble_eq_true rfl) rfl rfl dX7_come_126 (fun w6 ⟨ro1, xk6, hv1, ho1, xf6⟩ => ?_)
        have h_w6_om : w6 om = some (.inr (6, [.int (nI 0), .int (nI md), .ref aso, .ref asi, .ref ase, .ref ato, .ref amo, .ref alo, .ref aro, .ref asr])) := (xf6 om (mw_oa h_w1_om h_w1_aro)).trans h_w1_om
        have h_w6_aso : w6 aso = some (eI cI 8 (lnF so)) := (xf6 aso (tne t_aso t_aro (by decide))).trans h_w1_aso
        have h_w6_asi : w6 asi = some (eI cI 8 (lnF si)) := (xf6 asi (tne t_asi t_aro (by decide))).trans h_w1_asi
        have h_w6_ase : w6 ase = some (eI cI 8 (lnF se)) := (xf6 ase (tne t_ase t_aro (by decide))).trans h_w1_ase
        have h_w6_ato : w6 ato = some (eI cI 8 to) := (xf6 ato (tne t_ato t_aro (by decide))).trans h_w1_ato
        have h_w6_amo : w6 amo = some (eI cI 8 (lnF mo)) := (xf6 amo (tne t_amo t_aro (by decide))).trans h_w1_amo
        have h_w6_alo : w6 alo = some (eI cI 8 lo) := (xf6 alo (tne t_alo t_aro (by decide))).trans h_w1_alo
        have h_w6_asr : w6 asr = some (eI cI 1024 sr) := (xf6 asr (Ne.symm (tne t_aro t_asr (by decide)))).trans h_w1_asr
        have fr_w6 : ∀ zz : Nat, zz ≠ om → zz ≠ aro → w6 zz = w zz := fun zz g0 g1 => (xf6 zz g1).trans (fr_w1 zz g0)
        refine mg_aload_n C dX7_come_129 rfl ?_
        refine mg_get C inT7 h_w6_om rfl 5 (by decide) kw_23 (Or.inl rfl) rfl dX7_come_130 ?_
        refine mg_iload_n C dX7_come_133 rfl ?_
        refine mg_aload_n C dX7_come_134 rfl ?_
        refine mg_get C inT7 h_w6_om rfl 5 (by decide) kw_23 (Or.inl rfl) rfl dX7_come_135 ?_
        refine mg_iload_n C dX7_come_138 rfl ?_
        refine mg_ialdN C h_w6_ato (by omega) (by omega) dX7_come_139 ?_
        rw [hto]
        refine mg_iload_n C dX7_come_140 rfl ?_
        refine mg_iadd C (z := tot + (nI cn)) dX7_come_141 rfl ?_
        refine mg_iastN C h_w6_ato (by omega) (by omega) dX7_come_142 (fun w7 e_w7 => ?_)
        have h_w7_om : w7 om = some (.inr (6, [.int (nI 0), .int (nI md), .ref aso, .ref asi, .ref ase, .ref ato, .ref amo, .ref alo, .ref aro, .ref asr])) := (congrFun e_w7 _).trans ((mwu_ne (mw_oa h_w6_om h_w6_ato)).trans h_w6_om)
        have h_w7_aso : w7 aso = some (eI cI 8 (lnF so)) := (congrFun e_w7 _).trans ((mwu_ne (tne t_aso t_ato (by decide))).trans h_w6_aso)
        have h_w7_asi : w7 asi = some (eI cI 8 (lnF si)) := (congrFun e_w7 _).trans ((mwu_ne (tne t_asi t_ato (by decide))).trans h_w6_asi)
        have h_w7_ase : w7 ase = some (eI cI 8 (lnF se)) := (congrFun e_w7 _).trans ((mwu_ne (tne t_ase t_ato (by decide))).trans h_w6_ase)
        have h_w7_ato : w7 ato = some (eI cI 8 (upd to s (tot + (nI cn)))) := (congrFun e_w7 _).trans mwu_eq
        have h_w7_amo : w7 amo = some (eI cI 8 (lnF mo)) := (congrFun e_w7 _).trans ((mwu_ne (Ne.symm (tne t_ato t_amo (by decide)))).trans h_w6_amo)
        have h_w7_alo : w7 alo = some (eI cI 8 lo) := (congrFun e_w7 _).trans ((mwu_ne (Ne.symm (tne t_ato t_alo (by decide)))).trans h_w6_alo)
        have h_w7_aro : w7 aro = some (eI cI 9600 ro1) := (congrFun e_w7 _).trans ((mwu_ne (Ne.symm (tne t_ato t_aro (by decide)))).trans xk6)
        have h_w7_asr : w7 asr = some (eI cI 1024 sr) := (congrFun e_w7 _).trans ((mwu_ne (Ne.symm (tne t_ato t_asr (by decide)))).trans h_w6_asr)
        have fr_w7 : ∀ zz : Nat, zz ≠ om → zz ≠ aro → zz ≠ ato → w7 zz = w zz := fun zz g0 g1 g2 => (congrFun e_w7 zz).trans ((mwu_ne g2).trans (fr_w6 zz g0 g1))
        refine mg_aload_n C dX7_come_143 rfl ?_
        refine mg_get C inT7 h_w7_om rfl 6 (by decide) kw_24 (Or.inl rfl) rfl dX7_come_144 ?_
        refine mg_iload_n C dX7_come_147 rfl ?_
        refine mg_aload_n C dX7_come_148 rfl ?_
        refine mg_get C inT7 h_w7_om rfl 6 (by decide) kw_24 (Or.inl rfl) rfl dX7_come_149 ?_
        refine mg_iload_n C dX7_come_152 rfl ?_
        refine mg_ialdN C h_w7_amo (by omega) (by omega) dX7_come_153 ?_
        rw [show lnF mo s = nI mv from congrArg nI hmo]
        refine mg_iload C dX7_come_154 rfl ?_
        refine mg_iadd C (z := nI (mv + cn)) dX7_come_156 (nI_add _ _) ?_
        refine mg_iastN C h_w7_amo (by omega) (by omega) dX7_come_157 (fun w8 e_w8 => ?_)
        rw [upd_lnF] at e_w8
        have h_w8_om : w8 om = some (.inr (6, [.int (nI 0), .int (nI md), .ref aso, .ref asi, .ref ase, .ref ato, .ref amo, .ref alo, .ref aro, .ref asr])) := (congrFun e_w8 _).trans ((mwu_ne (mw_oa h_w7_om h_w7_amo)).trans h_w7_om)
        have h_w8_aso : w8 aso = some (eI cI 8 (lnF so)) := (congrFun e_w8 _).trans ((mwu_ne (tne t_aso t_amo (by decide))).trans h_w7_aso)
        have h_w8_asi : w8 asi = some (eI cI 8 (lnF si)) := (congrFun e_w8 _).trans ((mwu_ne (tne t_asi t_amo (by decide))).trans h_w7_asi)
        have h_w8_ase : w8 ase = some (eI cI 8 (lnF se)) := (congrFun e_w8 _).trans ((mwu_ne (tne t_ase t_amo (by decide))).trans h_w7_ase)
        have h_w8_ato : w8 ato = some (eI cI 8 (upd to s (tot + (nI cn)))) := (congrFun e_w8 _).trans ((mwu_ne (tne t_ato t_amo (by decide))).trans h_w7_ato)
        have h_w8_amo : w8 amo = some (eI cI 8 (lnF (updN mo s (mv + cn)))) := (congrFun e_w8 _).trans mwu_eq
        have h_w8_alo : w8 alo = some (eI cI 8 lo) := (congrFun e_w8 _).trans ((mwu_ne (Ne.symm (tne t_amo t_alo (by decide)))).trans h_w7_alo)
        have h_w8_aro : w8 aro = some (eI cI 9600 ro1) := (congrFun e_w8 _).trans ((mwu_ne (Ne.symm (tne t_amo t_aro (by decide)))).trans h_w7_aro)
        have h_w8_asr : w8 asr = some (eI cI 1024 sr) := (congrFun e_w8 _).trans ((mwu_ne (Ne.symm (tne t_amo t_asr (by decide)))).trans h_w7_asr)
        have fr_w8 : ∀ zz : Nat, zz ≠ om → zz ≠ aro → zz ≠ ato → zz ≠ amo → w8 zz = w zz := fun zz g0 g1 g2 g3 => (congrFun e_w8 zz).trans ((mwu_ne g3).trans (fr_w7 zz g0 g1 g2))
        refine mg_aload_n C dX7_come_158 rfl ?_
        refine mg_get C inT7 h_w8_om rfl 5 (by decide) kw_23 (Or.inl rfl) rfl dX7_come_159 ?_
        refine mg_iload_n C dX7_come_162 rfl ?_
        refine mg_ialdN C h_w8_ato (by omega) (by omega) dX7_come_163 ?_
        rw [upd_same]
        refine mg_ldc C (v := nI 10000000) dX7_come_164 kw_231 (by decide) ?_
        refine mg_iadd C (z := (tot + nI cn) + (nI 10000000)) dX7_come_166 rfl ?_
        exact hR _ _ _ _ dX7_come_167 (Or.inr ⟨xa, cn, hxa, rfl, ⟨cn, hc3, hc4, rfl⟩, hca, hc3, (by omega), Or.inr ⟨c_116, rfl, h_w8_om, h_w8_ato, h_w8_amo, ⟨ro1, h_w8_aro, ho1, hv1⟩, fun z q0 q1 q2 q3 => fr_w8 z q0 q1 q2 q3⟩⟩)
      · refine mg_bipush C (v := (-3 : Int32)) dX7_come_119 (by decide) ?_
        exact hR _ _ _ _ dX7_come_121 (Or.inr ⟨xa, cn, hxa, rfl, ⟨cn, hc3, hc4, rfl⟩, hca, hc3, (by omega), Or.inl ⟨c_116, rfl, h_w1_om, fun z q0 => fr_w1 z q0⟩⟩)
    · rw [ra5]
      refine mg_istore C (lv' := [(4, .int (nI 0)), (0, .ref om), (1, .int (nI s)), (2, .int (nI xa)), (3, .int n)]) dX7_come_84 (by decide) rfl ?_
      refine mg_iload C dX7_come_86 rfl ?_
      refine mg_ifN_ne C (tgt := 93) dX7_come_88 (by decide) (by decide) (fun c_88 => absurd c_88 (by decide)) (fun c_88 => ?_)
      refine mg_iconst C (v := (-1 : Int32)) dX7_come_91 (by decide) ?_
      exact hR _ _ _ _ dX7_come_92 (Or.inl ⟨fun q => hy_n ((in_rp (by decide)).mpr q.2), rfl, h_w1_om, fun z q0 => fr_w1 z q0⟩)
  · rw [ra4]
    refine mg_ifN_ne C (tgt := 26) dX7_come_21 (by decide) (by decide) (fun c_21 => absurd c_21 (by decide)) (fun c_21 => ?_)
    refine mg_iconst C (v := (-1 : Int32)) dX7_come_24 (by decide) ?_
    exact hR _ _ _ _ dX7_come_25 (Or.inl ⟨fun q => hy_key ((in_rg (by decide)).mpr q.1), rfl, h_w1_om, fun z q0 => fr_w1 z q0⟩)

set_option maxHeartbeats 4000000 in
set_option maxRecDepth 20000 in
theorem c_X7_come_L (D : va_G) (cI cS : ClassId) (w : mwT) (om md aso asi ase ato amo alo aro asr : Nat) (th : Int32) (so : Nat → Nat) (si : Nat → Nat) (se : Nat → Nat) (to : Nat → Int32) (mo : Nat → Nat) (lo : Nat → Int32) (ro : Nat → Int32) (sr : Nat → Int32) (tg : Nat → Nat) (s h k sd mv : Nat) (tot : Int32) (f : Nat → Int32) (x n : Int32) (hom : w om = some (.inr (6, [.int th, .int (nI md), .ref aso, .ref asi, .ref ase, .ref ato, .ref amo, .ref alo, .ref aro, .ref asr]))) (h_aso : w aso = some (eI cI 8 (lnF so))) (h_asi : w asi = some (eI cI 8 (lnF si))) (h_ase : w ase = some (eI cI 8 (lnF se))) (h_ato : w ato = some (eI cI 8 to)) (h_amo : w amo = some (eI cI 8 (lnF mo))) (h_alo : w alo = some (eI cI 8 lo)) (h_aro : w aro = some (eI cI 9600 ro)) (h_asr : w asr = some (eI cI 1024 sr)) (hmd : md ≤ 8) (hs : s < md) (hsd : sd ≤ 999) (hso : so s = 3) (hsi : si s = k) (hse : se s = sd) (hto : to s = tot) (hmo : mo s = mv) (hk1 : 2 ≤ k) (hk2 : k ≤ 32) (hh : h ≤ k) (hl : LsM ro s f h) (hlo : lo s = nI 0) (hmv : mv ≤ 10000000) (t_aso : tg aso = 1) (t_asi : tg asi = 2) (t_ase : tg ase = 3) (t_ato : tg ato = 4) (t_amo : tg amo = 5) (t_alo : tg alo = 6) (t_aro : tg aro = 7) (t_asr : tg asr = 8) : mMi yX7_come cX7_come 6 (some .int) (rmL 98) [.ref om, .int (nI s), .int x, .int n] D cI cS w (fun r w1 => (¬ (rg 9999 x ∧ rp 1 1000 n) ∧ r = -1 ∧ w1 om = some (.inr (6, [.int (nI 0), .int (nI md), .ref aso, .ref asi, .ref ase, .ref ato, .ref amo, .ref alo, .ref aro, .ref asr])) ∧ ∀ z : Nat, z ≠ om → w1 z = w z) ∨ (∃ xa cn : Nat, xa ≤ 9999 ∧ x = nI xa ∧ rp 1 1000 n ∧ absI n = nI cn ∧ 1 ≤ cn ∧ cn ≤ 1000 ∧ ((10000000 < mv + cn ∧ r = -3 ∧ w1 om = some (.inr (6, [.int (nI 0), .int (nI md), .ref aso, .ref asi, .ref ase, .ref ato, .ref amo, .ref alo, .ref aro, .ref asr])) ∧ ∀ z : Nat, z ≠ om → w1 z = w z) ∨ (mv + cn ≤ 10000000 ∧ r = tot + n + nI 10000000 ∧ w1 om = some (.inr (6, [.int (nI 0), .int (nI md), .ref aso, .ref asi, .ref ase, .ref ato, .ref amo, .ref alo, .ref aro, .ref asr])) ∧ w1 ato = some (eI cI 8 (upd to s (tot + n))) ∧ w1 amo = some (eI cI 8 (lnF (updN mo s (mv + cn)))) ∧ (∃ ro1 : Nat → Int32, w1 aro = some (eI cI 9600 ro1) ∧ outS ro ro1 s ∧ LsM ro1 s (kpU k (nI (hsN sd 0 xa)) (f, h)).1 (kpU k (nI (hsN sd 0 xa)) (f, h)).2) ∧ ∀ z : Nat, z ≠ om → z ≠ aro → z ≠ ato → z ≠ amo → w1 z = w z)))) := by
  refine mMi.of (by decide) (Nat.le_of_ble_eq_true rfl) ?_
  intro X C hN hR
  have fr_w : ∀ zz : Nat, w zz = w zz := fun _ => rfl
  refine mg_sub (lv' := [(0, .ref om), (1, .int (nI s)), (2, .int x), (3, .int n)]) [0, 1, 2, 3] rfl ?_
  have hs8 : s < 8 := by omega
  refine mg_aload_n C dX7_come_0 rfl ?_
  refine mg_iconst C (v := nI 0) dX7_come_1 (by decide) ?_
  refine mg_put C (fs' := [.int (nI 0), .int (nI md), .ref aso, .ref asi, .ref ase, .ref ato, .ref amo, .ref alo, .ref aro, .ref asr]) inT7 hom rfl 0 (by decide) kw_28 (Or.inl rfl) tyX7_ok nmX7 rfl rfl rfl rfl (Nat.le_of_ble_eq_true rfl) dX7_come_2 (fun w1 e_w1 => ?_)
  have h_w1_om : w1 om = some (.inr (6, [.int (nI 0), .int (nI md), .ref aso, .ref asi, .ref ase, .ref ato, .ref amo, .ref alo, .ref aro, .ref asr])) := (congrFun e_w1 _).trans mwu_eq
  have h_w1_aso : w1 aso = some (eI cI 8 (lnF so)) := (congrFun e_w1 _).trans ((mwu_ne (mw_ao h_aso hom)).trans h_aso)
  have h_w1_asi : w1 asi = some (eI cI 8 (lnF si)) := (congrFun e_w1 _).trans ((mwu_ne (mw_ao h_asi hom)).trans h_asi)
  have h_w1_ase : w1 ase = some (eI cI 8 (lnF se)) := (congrFun e_w1 _).trans ((mwu_ne (mw_ao h_ase hom)).trans h_ase)
  have h_w1_ato : w1 ato = some (eI cI 8 to) := (congrFun e_w1 _).trans ((mwu_ne (mw_ao h_ato hom)).trans h_ato)
  have h_w1_amo : w1 amo = some (eI cI 8 (lnF mo)) := (congrFun e_w1 _).trans ((mwu_ne (mw_ao h_amo hom)).trans h_amo)
  have h_w1_alo : w1 alo = some (eI cI 8 lo) := (congrFun e_w1 _).trans ((mwu_ne (mw_ao h_alo hom)).trans h_alo)
  have h_w1_aro : w1 aro = some (eI cI 9600 ro) := (congrFun e_w1 _).trans ((mwu_ne (mw_ao h_aro hom)).trans h_aro)
  have h_w1_asr : w1 asr = some (eI cI 1024 sr) := (congrFun e_w1 _).trans ((mwu_ne (mw_ao h_asr hom)).trans h_asr)
  have fr_w1 : ∀ zz : Nat, zz ≠ om → w1 zz = w zz := fun zz g0 => (congrFun e_w1 zz).trans ((mwu_ne g0).trans (fr_w zz ))
  refine mg_aload_n C dX7_come_5 rfl ?_
  refine mg_iload_n C dX7_come_6 rfl ?_
  refine mg_callV_i C h_w1_om rfl (rest := []) (c_X7_none_in D cI cS w1 om md aso asi ase ato amo alo aro asr (nI 0)  s h_w1_om hmd hs) yq_X7_none kw_197 kw_198 kw_199 ⟨by decide, by decide⟩ ⟨Nat.le_of_ble_eq_true rfl, Nat.le_of_ble_eq_true rfl⟩ (Nat.le_of_ble_eq_true rfl) rfl rfl dX7_come_7 (fun r2 w3 ⟨e_r2, e_w3⟩ => ?_)
  rw [e_w3, e_r2]
  refine mg_ifN_ne C (tgt := 24) dX7_come_10 (by decide) (by decide) (fun c_10 => absurd c_10 (by decide)) (fun c_10 => ?_)
  refine mg_iload_n C dX7_come_13 rfl ?_
  refine mg_iconst C (v := nI 0) dX7_come_14 (by decide) ?_
  refine mg_sipush C (v := nI 9999) dX7_come_15 (by decide) ?_
  refine mg_callS_i C (rest := []) (c_X7_in D cI cS w1 x (nI 0) (nI 9999)) yq_X7_in kw_112 kw_113 ⟨by decide, by decide⟩ ⟨Nat.le_of_ble_eq_true rfl, Nat.le_of_ble_eq_true rfl⟩ (Nat.le_of_ble_eq_true rfl) rfl rfl dX7_come_18 (fun r4 w4 ⟨xa4, xk4⟩ => ?_)
  rw [xk4]
  rcases xa4 with ⟨ra4, hy_key⟩ | ⟨ra4, hy_key⟩
  · rw [ra4]
    obtain ⟨xa, hxa, rfl⟩ := (in_rg (n := 9999) (by decide)).mp hy_key
    refine mg_ifN_ne C (tgt := 26) dX7_come_21 (by decide) (by decide) (fun c_21 => ?_) (fun c_21 => absurd c_21 (by decide))
    refine mg_aload_n C dX7_come_26 rfl ?_
    refine mg_get C inT7 h_w1_om rfl 2 (by decide) kw_20 (Or.inl rfl) rfl dX7_come_27 ?_
    refine mg_iload_n C dX7_come_30 rfl ?_
    refine mg_ialdN C h_w1_aso (by omega) (by omega) dX7_come_31 ?_
    rw [show lnF so s = nI 3 from congrArg nI hso]
    refine mg_iconst C (v := nI 1) dX7_come_32 (by decide) ?_
    refine mg_icmpN_ne C (tgt := 61) dX7_come_33 (by decide) (by omega) (by omega) (fun c_33 => ?_) (fun c_33 => absurd c_33 (by decide))
    refine mg_iload_n C dX7_come_61 rfl ?_
    refine mg_iconst C (v := nI 1) dX7_come_62 (by decide) ?_
    refine mg_aload_n C dX7_come_63 rfl ?_
    refine mg_get C inT7 h_w1_om rfl 2 (by decide) kw_20 (Or.inl rfl) rfl dX7_come_64 ?_
    refine mg_iload_n C dX7_come_67 rfl ?_
    refine mg_ialdN C h_w1_aso (by omega) (by omega) dX7_come_68 ?_
    rw [show lnF so s = nI 3 from congrArg nI hso]
    refine mg_iconst C (v := nI 4) dX7_come_69 (by decide) ?_
    refine mg_icmpN_ne C (tgt := 78) dX7_come_70 (by decide) (by omega) (by omega) (fun c_70 => ?_) (fun c_70 => absurd c_70 (by decide))
    refine mg_sipush C (v := nI 1000) dX7_come_78 (by decide) ?_
    refine mg_callS_i C (rest := []) (c_X7_in D cI cS w1 n (nI 1) (nI 1000)) yq_X7_in kw_112 kw_113 ⟨by decide, by decide⟩ ⟨Nat.le_of_ble_eq_true rfl, Nat.le_of_ble_eq_true rfl⟩ (Nat.le_of_ble_eq_true rfl) rfl rfl dX7_come_81 (fun r5 w5 ⟨xa5, xk5⟩ => ?_)
    rw [xk5]
    rcases xa5 with ⟨ra5, hy_n⟩ | ⟨ra5, hy_n⟩
    · rw [ra5]
      obtain ⟨cn, hc3, hc4, rfl⟩ := (in_rp (lo := 1) (hi := 1000) (by decide)).mp hy_n
      have hca : absI (nI cn) = nI cn := abs_nI (by omega)
      refine mg_istore C (lv' := [(4, .int (nI 1)), (0, .ref om), (1, .int (nI s)), (2, .int (nI xa)), (3, .int (nI cn))]) dX7_come_84 (by decide) rfl ?_
      refine mg_iload C dX7_come_86 rfl ?_
      refine mg_ifN_ne C (tgt := 93) dX7_come_88 (by decide) (by decide) (fun c_88 => ?_) (fun c_88 => absurd c_88 (by decide))
      refine mg_iload_n C dX7_come_93 rfl ?_
      refine mg_ifN_ge C (tgt := 102) dX7_come_94 (by decide) (by omega) ?_
      refine mg_iload_n C dX7_come_102 rfl ?_
      refine mg_istore C (lv' := [(5, .int (nI cn)), (4, .int (nI 1)), (0, .ref om), (1, .int (nI s)), (2, .int (nI xa)), (3, .int (nI cn))]) dX7_come_103 (by decide) rfl ?_
      refine mg_aload_n C dX7_come_105 rfl ?_
      refine mg_get C inT7 h_w1_om rfl 6 (by decide) kw_24 (Or.inl rfl) rfl dX7_come_106 ?_
      refine mg_iload_n C dX7_come_109 rfl ?_
      refine mg_ialdN C h_w1_amo (by omega) (by omega) dX7_come_110 ?_
      rw [show lnF mo s = nI mv from congrArg nI hmo]
      refine mg_iload C dX7_come_111 rfl ?_
      refine mg_iadd C (z := nI (mv + cn)) dX7_come_113 (nI_add _ _) ?_
      refine mg_ldc C (v := nI 10000000) dX7_come_114 kw_231 (by decide) ?_
      refine mg_icmpN_le C (tgt := 122) dX7_come_116 (by decide) (by omega) (by omega) (fun c_116 => ?_) (fun c_116 => ?_)
      · refine mg_aload_n C dX7_come_122 rfl ?_
        refine mg_iload_n C dX7_come_123 rfl ?_
        refine mg_iload_n C dX7_come_124 rfl ?_
        refine mg_iload_n C dX7_come_125 rfl ?_
        refine mg_callV_v C h_w1_om rfl (rest := []) (c_X7_comeOnce_L D cI cS w1 om md aso asi ase ato amo alo aro asr (nI 0) so si se ro tg s xa k sd h (nI cn) f h_w1_om h_w1_aso h_w1_asi h_w1_ase h_w1_aro hs8 hsd hxa hso hsi hse hk1 hk2 hh hl t_aso t_asi t_ase t_aro) yq_X7_comeOnce kw_328 kw_329 kw_330 ⟨by decide, by decide⟩ ⟨Nat.le_of_ble_eq_true rfl, Nat.le_of_ble_eq_true rfl⟩ (Nat.le_of_ble_eq_true rfl) rfl rfl dX7_come_126 (fun w6 ⟨ro1, xk6, hv1, ho1, xf6⟩ => ?_)
        have h_w6_om : w6 om = some (.inr (6, [.int (nI 0), .int (nI md), .ref aso, .ref asi, .ref ase, .ref ato, .ref amo, .ref alo, .ref aro, .ref asr])) := (xf6 om (mw_oa h_w1_om h_w1_aro)).trans h_w1_om
        have h_w6_aso : w6 aso = some (eI cI 8 (lnF so)) := (xf6 aso (tne t_aso t_aro (by decide))).trans h_w1_aso
        have h_w6_asi : w6 asi = some (eI cI 8 (lnF si)) := (xf6 asi (tne t_asi t_aro (by decide))).trans h_w1_asi
        have h_w6_ase : w6 ase = some (eI cI 8 (lnF se)) := (xf6 ase (tne t_ase t_aro (by decide))).trans h_w1_ase
        have h_w6_ato : w6 ato = some (eI cI 8 to) := (xf6 ato (tne t_ato t_aro (by decide))).trans h_w1_ato
        have h_w6_amo : w6 amo = some (eI cI 8 (lnF mo)) := (xf6 amo (tne t_amo t_aro (by decide))).trans h_w1_amo
        have h_w6_alo : w6 alo = some (eI cI 8 lo) := (xf6 alo (tne t_alo t_aro (by decide))).trans h_w1_alo
        have h_w6_asr : w6 asr = some (eI cI 1024 sr) := (xf6 asr (Ne.symm (tne t_aro t_asr (by decide)))).trans h_w1_asr
        have fr_w6 : ∀ zz : Nat, zz ≠ om → zz ≠ aro → w6 zz = w zz := fun zz g0 g1 => (xf6 zz g1).trans (fr_w1 zz g0)
        refine mg_aload_n C dX7_come_129 rfl ?_
        refine mg_get C inT7 h_w6_om rfl 5 (by decide) kw_23 (Or.inl rfl) rfl dX7_come_130 ?_
        refine mg_iload_n C dX7_come_133 rfl ?_
        refine mg_aload_n C dX7_come_134 rfl ?_
        refine mg_get C inT7 h_w6_om rfl 5 (by decide) kw_23 (Or.inl rfl) rfl dX7_come_135 ?_
        refine mg_iload_n C dX7_come_138 rfl ?_
        refine mg_ialdN C h_w6_ato (by omega) (by omega) dX7_come_139 ?_
        rw [hto]
        refine mg_iload_n C dX7_come_140 rfl ?_
        refine mg_iadd C (z := tot + (nI cn)) dX7_come_141 rfl ?_
        refine mg_iastN C h_w6_ato (by omega) (by omega) dX7_come_142 (fun w7 e_w7 => ?_)
        have h_w7_om : w7 om = some (.inr (6, [.int (nI 0), .int (nI md), .ref aso, .ref asi, .ref ase, .ref ato, .ref amo, .ref alo, .ref aro, .ref asr])) := (congrFun e_w7 _).trans ((mwu_ne (mw_oa h_w6_om h_w6_ato)).trans h_w6_om)
        have h_w7_aso : w7 aso = some (eI cI 8 (lnF so)) := (congrFun e_w7 _).trans ((mwu_ne (tne t_aso t_ato (by decide))).trans h_w6_aso)
        have h_w7_asi : w7 asi = some (eI cI 8 (lnF si)) := (congrFun e_w7 _).trans ((mwu_ne (tne t_asi t_ato (by decide))).trans h_w6_asi)
        have h_w7_ase : w7 ase = some (eI cI 8 (lnF se)) := (congrFun e_w7 _).trans ((mwu_ne (tne t_ase t_ato (by decide))).trans h_w6_ase)
        have h_w7_ato : w7 ato = some (eI cI 8 (upd to s (tot + (nI cn)))) := (congrFun e_w7 _).trans mwu_eq
        have h_w7_amo : w7 amo = some (eI cI 8 (lnF mo)) := (congrFun e_w7 _).trans ((mwu_ne (Ne.symm (tne t_ato t_amo (by decide)))).trans h_w6_amo)
        have h_w7_alo : w7 alo = some (eI cI 8 lo) := (congrFun e_w7 _).trans ((mwu_ne (Ne.symm (tne t_ato t_alo (by decide)))).trans h_w6_alo)
        have h_w7_aro : w7 aro = some (eI cI 9600 ro1) := (congrFun e_w7 _).trans ((mwu_ne (Ne.symm (tne t_ato t_aro (by decide)))).trans xk6)
        have h_w7_asr : w7 asr = some (eI cI 1024 sr) := (congrFun e_w7 _).trans ((mwu_ne (Ne.symm (tne t_ato t_asr (by decide)))).trans h_w6_asr)
        have fr_w7 : ∀ zz : Nat, zz ≠ om → zz ≠ aro → zz ≠ ato → w7 zz = w zz := fun zz g0 g1 g2 => (congrFun e_w7 zz).trans ((mwu_ne g2).trans (fr_w6 zz g0 g1))
        refine mg_aload_n C dX7_come_143 rfl ?_
        refine mg_get C inT7 h_w7_om rfl 6 (by decide) kw_24 (Or.inl rfl) rfl dX7_come_144 ?_
        refine mg_iload_n C dX7_come_147 rfl ?_
        refine mg_aload_n C dX7_come_148 rfl ?_
        refine mg_get C inT7 h_w7_om rfl 6 (by decide) kw_24 (Or.inl rfl) rfl dX7_come_149 ?_
        refine mg_iload_n C dX7_come_152 rfl ?_
        refine mg_ialdN C h_w7_amo (by omega) (by omega) dX7_come_153 ?_
        rw [show lnF mo s = nI mv from congrArg nI hmo]
        refine mg_iload C dX7_come_154 rfl ?_
        refine mg_iadd C (z := nI (mv + cn)) dX7_come_156 (nI_add _ _) ?_
        refine mg_iastN C h_w7_amo (by omega) (by omega) dX7_come_157 (fun w8 e_w8 => ?_)
        rw [upd_lnF] at e_w8
        have h_w8_om : w8 om = some (.inr (6, [.int (nI 0), .int (nI md), .ref aso, .ref asi, .ref ase, .ref ato, .ref amo, .ref alo, .ref aro, .ref asr])) := (congrFun e_w8 _).trans ((mwu_ne (mw_oa h_w7_om h_w7_amo)).trans h_w7_om)
        have h_w8_aso : w8 aso = some (eI cI 8 (lnF so)) := (congrFun e_w8 _).trans ((mwu_ne (tne t_aso t_amo (by decide))).trans h_w7_aso)
        have h_w8_asi : w8 asi = some (eI cI 8 (lnF si)) := (congrFun e_w8 _).trans ((mwu_ne (tne t_asi t_amo (by decide))).trans h_w7_asi)
        have h_w8_ase : w8 ase = some (eI cI 8 (lnF se)) := (congrFun e_w8 _).trans ((mwu_ne (tne t_ase t_amo (by decide))).trans h_w7_ase)
        have h_w8_ato : w8 ato = some (eI cI 8 (upd to s (tot + (nI cn)))) := (congrFun e_w8 _).trans ((mwu_ne (tne t_ato t_amo (by decide))).trans h_w7_ato)
        have h_w8_amo : w8 amo = some (eI cI 8 (lnF (updN mo s (mv + cn)))) := (congrFun e_w8 _).trans mwu_eq
        have h_w8_alo : w8 alo = some (eI cI 8 lo) := (congrFun e_w8 _).trans ((mwu_ne (Ne.symm (tne t_amo t_alo (by decide)))).trans h_w7_alo)
        have h_w8_aro : w8 aro = some (eI cI 9600 ro1) := (congrFun e_w8 _).trans ((mwu_ne (Ne.symm (tne t_amo t_aro (by decide)))).trans h_w7_aro)
        have h_w8_asr : w8 asr = some (eI cI 1024 sr) := (congrFun e_w8 _).trans ((mwu_ne (Ne.symm (tne t_amo t_asr (by decide)))).trans h_w7_asr)
        have fr_w8 : ∀ zz : Nat, zz ≠ om → zz ≠ aro → zz ≠ ato → zz ≠ amo → w8 zz = w zz := fun zz g0 g1 g2 g3 => (congrFun e_w8 zz).trans ((mwu_ne g3).trans (fr_w7 zz g0 g1 g2))
        refine mg_aload_n C dX7_come_158 rfl ?_
        refine mg_get C inT7 h_w8_om rfl 5 (by decide) kw_23 (Or.inl rfl) rfl dX7_come_159 ?_
        refine mg_iload_n C dX7_come_162 rfl ?_
        refine mg_ialdN C h_w8_ato (by omega) (by omega) dX7_come_163 ?_
        rw [upd_same]
        refine mg_ldc C (v := nI 10000000) dX7_come_164 kw_231 (by decide) ?_
        refine mg_iadd C (z := (tot + nI cn) + (nI 10000000)) dX7_come_166 rfl ?_
        exact hR _ _ _ _ dX7_come_167 (Or.inr ⟨xa, cn, hxa, rfl, ⟨cn, hc3, hc4, rfl⟩, hca, hc3, (by omega), Or.inr ⟨c_116, rfl, h_w8_om, h_w8_ato, h_w8_amo, ⟨ro1, h_w8_aro, ho1, hv1⟩, fun z q0 q1 q2 q3 => fr_w8 z q0 q1 q2 q3⟩⟩)
      · refine mg_bipush C (v := (-3 : Int32)) dX7_come_119 (by decide) ?_
        exact hR _ _ _ _ dX7_come_121 (Or.inr ⟨xa, cn, hxa, rfl, ⟨cn, hc3, hc4, rfl⟩, hca, hc3, (by omega), Or.inl ⟨c_116, rfl, h_w1_om, fun z q0 => fr_w1 z q0⟩⟩)
    · rw [ra5]
      refine mg_istore C (lv' := [(4, .int (nI 0)), (0, .ref om), (1, .int (nI s)), (2, .int (nI xa)), (3, .int n)]) dX7_come_84 (by decide) rfl ?_
      refine mg_iload C dX7_come_86 rfl ?_
      refine mg_ifN_ne C (tgt := 93) dX7_come_88 (by decide) (by decide) (fun c_88 => absurd c_88 (by decide)) (fun c_88 => ?_)
      refine mg_iconst C (v := (-1 : Int32)) dX7_come_91 (by decide) ?_
      exact hR _ _ _ _ dX7_come_92 (Or.inl ⟨fun q => hy_n ((in_rp (by decide)).mpr q.2), rfl, h_w1_om, fun z q0 => fr_w1 z q0⟩)
  · rw [ra4]
    refine mg_ifN_ne C (tgt := 26) dX7_come_21 (by decide) (by decide) (fun c_21 => absurd c_21 (by decide)) (fun c_21 => ?_)
    refine mg_iconst C (v := (-1 : Int32)) dX7_come_24 (by decide) ?_
    exact hR _ _ _ _ dX7_come_25 (Or.inl ⟨fun q => hy_key ((in_rg (by decide)).mpr q.1), rfl, h_w1_om, fun z q0 => fr_w1 z q0⟩)

set_option maxHeartbeats 4000000 in
set_option maxRecDepth 20000 in
theorem c_X7_come_R (D : va_G) (cI cS : ClassId) (w : mwT) (om md aso asi ase ato amo alo aro asr : Nat) (th : Int32) (so : Nat → Nat) (si : Nat → Nat) (se : Nat → Nat) (to : Nat → Int32) (mo : Nat → Nat) (lo : Nat → Int32) (ro : Nat → Int32) (sr : Nat → Int32) (tg : Nat → Nat) (s k sd mv e B : Nat) (tot er : Int32) (f : Nat → Int32) (ln tr : Nat → Nat) (x n : Int32) (hom : w om = some (.inr (6, [.int th, .int (nI md), .ref aso, .ref asi, .ref ase, .ref ato, .ref amo, .ref alo, .ref aro, .ref asr]))) (h_aso : w aso = some (eI cI 8 (lnF so))) (h_asi : w asi = some (eI cI 8 (lnF si))) (h_ase : w ase = some (eI cI 8 (lnF se))) (h_ato : w ato = some (eI cI 8 to)) (h_amo : w amo = some (eI cI 8 (lnF mo))) (h_alo : w alo = some (eI cI 8 lo)) (h_aro : w aro = some (eI cI 9600 ro)) (h_asr : w asr = some (eI cI 1024 sr)) (hmd : md ≤ 8) (hs : s < md) (hsd : sd ≤ 999) (hso : so s = 4) (hsi : si s = k) (hse : se s = sd) (hto : to s = tot) (hmo : mo s = mv) (hk1 : 4 ≤ k) (hk2 : k ≤ 32) (hln : ∀ c, c < 31 → ln c < k) (hr : RkM ro s k (f, ln, tr, er)) (hlo : lo s = er) (hke : k = 2 * e) (he : 2 ≤ e) (hB : B < 2 ^ 31) (hok : rkOk k (f, ln, tr, er)) (hwt : wtS ln 31 + 1000 ≤ B) (hmv : mv ≤ 10000000) (t_aso : tg aso = 1) (t_asi : tg asi = 2) (t_ase : tg ase = 3) (t_ato : tg ato = 4) (t_amo : tg amo = 5) (t_alo : tg alo = 6) (t_aro : tg aro = 7) (t_asr : tg asr = 8) : mMi yX7_come cX7_come 6 (some .int) (rmL 98) [.ref om, .int (nI s), .int x, .int n] D cI cS w (fun r w1 => (¬ (rg 9999 x ∧ rp 1 100 n) ∧ r = -1 ∧ w1 om = some (.inr (6, [.int (nI 0), .int (nI md), .ref aso, .ref asi, .ref ase, .ref ato, .ref amo, .ref alo, .ref aro, .ref asr])) ∧ ∀ z : Nat, z ≠ om → w1 z = w z) ∨ (∃ xa cn : Nat, xa ≤ 9999 ∧ x = nI xa ∧ rp 1 100 n ∧ absI n = nI cn ∧ 1 ≤ cn ∧ cn ≤ 1000 ∧ ((10000000 < mv + cn ∧ r = -3 ∧ w1 om = some (.inr (6, [.int (nI 0), .int (nI md), .ref aso, .ref asi, .ref ase, .ref ato, .ref amo, .ref alo, .ref aro, .ref asr])) ∧ ∀ z : Nat, z ≠ om → w1 z = w z) ∨ (mv + cn ≤ 10000000 ∧ r = tot + n + nI 10000000 ∧ w1 om = some (.inr (6, [.int (nI 0), .int (nI md), .ref aso, .ref asi, .ref ase, .ref ato, .ref amo, .ref alo, .ref aro, .ref asr])) ∧ w1 ato = some (eI cI 8 (upd to s (tot + n))) ∧ w1 amo = some (eI cI 8 (lnF (updN mo s (mv + cn)))) ∧ (∃ ro1 : Nat → Int32, w1 aro = some (eI cI 9600 ro1) ∧ outS ro ro1 s ∧ RkM ro1 s k (tkR k (nI xa) (f, ln, tr, er) cn) ∧ w1 alo = some (eI cI 8 (upd lo s (tkR k (nI xa) (f, ln, tr, er) cn).2.2.2)) ∧ ∃ sr1 : Nat → Int32, w1 asr = some (eI cI 1024 sr1)) ∧ ∀ z : Nat, z ≠ om → z ≠ aro → z ≠ asr → z ≠ alo → z ≠ ato → z ≠ amo → w1 z = w z)))) := by
  refine mMi.of (by decide) (Nat.le_of_ble_eq_true rfl) ?_
  intro X C hN hR
  have fr_w : ∀ zz : Nat, w zz = w zz := fun _ => rfl
  refine mg_sub (lv' := [(0, .ref om), (1, .int (nI s)), (2, .int x), (3, .int n)]) [0, 1, 2, 3] rfl ?_
  have hs8 : s < 8 := by omega
  refine mg_aload_n C dX7_come_0 rfl ?_
  refine mg_iconst C (v := nI 0) dX7_come_1 (by decide) ?_
  refine mg_put C (fs' := [.int (nI 0), .int (nI md), .ref aso, .ref asi, .ref ase, .ref ato, .ref amo, .ref alo, .ref aro, .ref asr]) inT7 hom rfl 0 (by decide) kw_28 (Or.inl rfl) tyX7_ok nmX7 rfl rfl rfl rfl (Nat.le_of_ble_eq_true rfl) dX7_come_2 (fun w1 e_w1 => ?_)
  have h_w1_om : w1 om = some (.inr (6, [.int (nI 0), .int (nI md), .ref aso, .ref asi, .ref ase, .ref ato, .ref amo, .ref alo, .ref aro, .ref asr])) := (congrFun e_w1 _).trans mwu_eq
  have h_w1_aso : w1 aso = some (eI cI 8 (lnF so)) := (congrFun e_w1 _).trans ((mwu_ne (mw_ao h_aso hom)).trans h_aso)
  have h_w1_asi : w1 asi = some (eI cI 8 (lnF si)) := (congrFun e_w1 _).trans ((mwu_ne (mw_ao h_asi hom)).trans h_asi)
  have h_w1_ase : w1 ase = some (eI cI 8 (lnF se)) := (congrFun e_w1 _).trans ((mwu_ne (mw_ao h_ase hom)).trans h_ase)
  have h_w1_ato : w1 ato = some (eI cI 8 to) := (congrFun e_w1 _).trans ((mwu_ne (mw_ao h_ato hom)).trans h_ato)
  have h_w1_amo : w1 amo = some (eI cI 8 (lnF mo)) := (congrFun e_w1 _).trans ((mwu_ne (mw_ao h_amo hom)).trans h_amo)
  have h_w1_alo : w1 alo = some (eI cI 8 lo) := (congrFun e_w1 _).trans ((mwu_ne (mw_ao h_alo hom)).trans h_alo)
  have h_w1_aro : w1 aro = some (eI cI 9600 ro) := (congrFun e_w1 _).trans ((mwu_ne (mw_ao h_aro hom)).trans h_aro)
  have h_w1_asr : w1 asr = some (eI cI 1024 sr) := (congrFun e_w1 _).trans ((mwu_ne (mw_ao h_asr hom)).trans h_asr)
  have fr_w1 : ∀ zz : Nat, zz ≠ om → w1 zz = w zz := fun zz g0 => (congrFun e_w1 zz).trans ((mwu_ne g0).trans (fr_w zz ))
  refine mg_aload_n C dX7_come_5 rfl ?_
  refine mg_iload_n C dX7_come_6 rfl ?_
  refine mg_callV_i C h_w1_om rfl (rest := []) (c_X7_none_in D cI cS w1 om md aso asi ase ato amo alo aro asr (nI 0)  s h_w1_om hmd hs) yq_X7_none kw_197 kw_198 kw_199 ⟨by decide, by decide⟩ ⟨Nat.le_of_ble_eq_true rfl, Nat.le_of_ble_eq_true rfl⟩ (Nat.le_of_ble_eq_true rfl) rfl rfl dX7_come_7 (fun r2 w3 ⟨e_r2, e_w3⟩ => ?_)
  rw [e_w3, e_r2]
  refine mg_ifN_ne C (tgt := 24) dX7_come_10 (by decide) (by decide) (fun c_10 => absurd c_10 (by decide)) (fun c_10 => ?_)
  refine mg_iload_n C dX7_come_13 rfl ?_
  refine mg_iconst C (v := nI 0) dX7_come_14 (by decide) ?_
  refine mg_sipush C (v := nI 9999) dX7_come_15 (by decide) ?_
  refine mg_callS_i C (rest := []) (c_X7_in D cI cS w1 x (nI 0) (nI 9999)) yq_X7_in kw_112 kw_113 ⟨by decide, by decide⟩ ⟨Nat.le_of_ble_eq_true rfl, Nat.le_of_ble_eq_true rfl⟩ (Nat.le_of_ble_eq_true rfl) rfl rfl dX7_come_18 (fun r4 w4 ⟨xa4, xk4⟩ => ?_)
  rw [xk4]
  rcases xa4 with ⟨ra4, hy_key⟩ | ⟨ra4, hy_key⟩
  · rw [ra4]
    obtain ⟨xa, hxa, rfl⟩ := (in_rg (n := 9999) (by decide)).mp hy_key
    refine mg_ifN_ne C (tgt := 26) dX7_come_21 (by decide) (by decide) (fun c_21 => ?_) (fun c_21 => absurd c_21 (by decide))
    refine mg_aload_n C dX7_come_26 rfl ?_
    refine mg_get C inT7 h_w1_om rfl 2 (by decide) kw_20 (Or.inl rfl) rfl dX7_come_27 ?_
    refine mg_iload_n C dX7_come_30 rfl ?_
    refine mg_ialdN C h_w1_aso (by omega) (by omega) dX7_come_31 ?_
    rw [show lnF so s = nI 4 from congrArg nI hso]
    refine mg_iconst C (v := nI 1) dX7_come_32 (by decide) ?_
    refine mg_icmpN_ne C (tgt := 61) dX7_come_33 (by decide) (by omega) (by omega) (fun c_33 => ?_) (fun c_33 => absurd c_33 (by decide))
    refine mg_iload_n C dX7_come_61 rfl ?_
    refine mg_iconst C (v := nI 1) dX7_come_62 (by decide) ?_
    refine mg_aload_n C dX7_come_63 rfl ?_
    refine mg_get C inT7 h_w1_om rfl 2 (by decide) kw_20 (Or.inl rfl) rfl dX7_come_64 ?_
    refine mg_iload_n C dX7_come_67 rfl ?_
    refine mg_ialdN C h_w1_aso (by omega) (by omega) dX7_come_68 ?_
    rw [show lnF so s = nI 4 from congrArg nI hso]
    refine mg_iconst C (v := nI 4) dX7_come_69 (by decide) ?_
    refine mg_icmpN_ne C (tgt := 78) dX7_come_70 (by decide) (by omega) (by omega) (fun c_70 => absurd c_70 (by decide)) (fun c_70 => ?_)
    refine mg_bipush C (v := nI 100) dX7_come_73 (by decide) ?_
    refine mg_goto C (tgt := 81) dX7_come_75 (by decide) ?_
    refine mg_callS_i C (rest := []) (c_X7_in D cI cS w1 n (nI 1) (nI 100)) yq_X7_in kw_112 kw_113 ⟨by decide, by decide⟩ ⟨Nat.le_of_ble_eq_true rfl, Nat.le_of_ble_eq_true rfl⟩ (Nat.le_of_ble_eq_true rfl) rfl rfl dX7_come_81 (fun r5 w5 ⟨xa5, xk5⟩ => ?_)
    rw [xk5]
    rcases xa5 with ⟨ra5, hy_n⟩ | ⟨ra5, hy_n⟩
    · rw [ra5]
      obtain ⟨cn, hc3, hc4, rfl⟩ := (in_rp (lo := 1) (hi := 100) (by decide)).mp hy_n
      have hca : absI (nI cn) = nI cn := abs_nI (by omega)
      refine mg_istore C (lv' := [(4, .int (nI 1)), (0, .ref om), (1, .int (nI s)), (2, .int (nI xa)), (3, .int (nI cn))]) dX7_come_84 (by decide) rfl ?_
      refine mg_iload C dX7_come_86 rfl ?_
      refine mg_ifN_ne C (tgt := 93) dX7_come_88 (by decide) (by decide) (fun c_88 => ?_) (fun c_88 => absurd c_88 (by decide))
      refine mg_iload_n C dX7_come_93 rfl ?_
      refine mg_ifN_ge C (tgt := 102) dX7_come_94 (by decide) (by omega) ?_
      refine mg_iload_n C dX7_come_102 rfl ?_
      refine mg_istore C (lv' := [(5, .int (nI cn)), (4, .int (nI 1)), (0, .ref om), (1, .int (nI s)), (2, .int (nI xa)), (3, .int (nI cn))]) dX7_come_103 (by decide) rfl ?_
      refine mg_aload_n C dX7_come_105 rfl ?_
      refine mg_get C inT7 h_w1_om rfl 6 (by decide) kw_24 (Or.inl rfl) rfl dX7_come_106 ?_
      refine mg_iload_n C dX7_come_109 rfl ?_
      refine mg_ialdN C h_w1_amo (by omega) (by omega) dX7_come_110 ?_
      rw [show lnF mo s = nI mv from congrArg nI hmo]
      refine mg_iload C dX7_come_111 rfl ?_
      refine mg_iadd C (z := nI (mv + cn)) dX7_come_113 (nI_add _ _) ?_
      refine mg_ldc C (v := nI 10000000) dX7_come_114 kw_231 (by decide) ?_
      refine mg_icmpN_le C (tgt := 122) dX7_come_116 (by decide) (by omega) (by omega) (fun c_116 => ?_) (fun c_116 => ?_)
      · refine mg_aload_n C dX7_come_122 rfl ?_
        refine mg_iload_n C dX7_come_123 rfl ?_
        refine mg_iload_n C dX7_come_124 rfl ?_
        refine mg_iload_n C dX7_come_125 rfl ?_
        refine mg_callV_v C h_w1_om rfl (rest := []) (c_X7_comeOnce_R D cI cS w1 om md aso asi ase ato amo alo aro asr (nI 0) so si lo ro sr tg s xa k e B cn f ln tr er h_w1_om h_w1_aso h_w1_asi h_w1_alo h_w1_aro h_w1_asr hs8 hso hsi hke he hk2 hB hok hln hr hlo (by omega) (by omega) t_aso t_asi t_alo t_aro t_asr) yq_X7_comeOnce kw_328 kw_329 kw_330 ⟨by decide, by decide⟩ ⟨Nat.le_of_ble_eq_true rfl, Nat.le_of_ble_eq_true rfl⟩ (Nat.le_of_ble_eq_true rfl) rfl rfl dX7_come_126 (fun w6 ⟨ro1, sr1, xk6, xq6, xl6, hv1, ho1, xf6⟩ => ?_)
        have h_w6_om : w6 om = some (.inr (6, [.int (nI 0), .int (nI md), .ref aso, .ref asi, .ref ase, .ref ato, .ref amo, .ref alo, .ref aro, .ref asr])) := (xf6 om (mw_oa h_w1_om h_w1_aro) (mw_oa h_w1_om h_w1_asr) (mw_oa h_w1_om h_w1_alo)).trans h_w1_om
        have h_w6_aso : w6 aso = some (eI cI 8 (lnF so)) := (xf6 aso (tne t_aso t_aro (by decide)) (tne t_aso t_asr (by decide)) (tne t_aso t_alo (by decide))).trans h_w1_aso
        have h_w6_asi : w6 asi = some (eI cI 8 (lnF si)) := (xf6 asi (tne t_asi t_aro (by decide)) (tne t_asi t_asr (by decide)) (tne t_asi t_alo (by decide))).trans h_w1_asi
        have h_w6_ase : w6 ase = some (eI cI 8 (lnF se)) := (xf6 ase (tne t_ase t_aro (by decide)) (tne t_ase t_asr (by decide)) (tne t_ase t_alo (by decide))).trans h_w1_ase
        have h_w6_ato : w6 ato = some (eI cI 8 to) := (xf6 ato (tne t_ato t_aro (by decide)) (tne t_ato t_asr (by decide)) (tne t_ato t_alo (by decide))).trans h_w1_ato
        have h_w6_amo : w6 amo = some (eI cI 8 (lnF mo)) := (xf6 amo (tne t_amo t_aro (by decide)) (tne t_amo t_asr (by decide)) (tne t_amo t_alo (by decide))).trans h_w1_amo
        have fr_w6 : ∀ zz : Nat, zz ≠ om → zz ≠ aro → zz ≠ asr → zz ≠ alo → w6 zz = w zz := fun zz g0 g1 g2 g3 => (xf6 zz g1 g2 g3).trans (fr_w1 zz g0)
        refine mg_aload_n C dX7_come_129 rfl ?_
        refine mg_get C inT7 h_w6_om rfl 5 (by decide) kw_23 (Or.inl rfl) rfl dX7_come_130 ?_
        refine mg_iload_n C dX7_come_133 rfl ?_
        refine mg_aload_n C dX7_come_134 rfl ?_
        refine mg_get C inT7 h_w6_om rfl 5 (by decide) kw_23 (Or.inl rfl) rfl dX7_come_135 ?_
        refine mg_iload_n C dX7_come_138 rfl ?_
        refine mg_ialdN C h_w6_ato (by omega) (by omega) dX7_come_139 ?_
        rw [hto]
        refine mg_iload_n C dX7_come_140 rfl ?_
        refine mg_iadd C (z := tot + (nI cn)) dX7_come_141 rfl ?_
        refine mg_iastN C h_w6_ato (by omega) (by omega) dX7_come_142 (fun w7 e_w7 => ?_)
        have h_w7_om : w7 om = some (.inr (6, [.int (nI 0), .int (nI md), .ref aso, .ref asi, .ref ase, .ref ato, .ref amo, .ref alo, .ref aro, .ref asr])) := (congrFun e_w7 _).trans ((mwu_ne (mw_oa h_w6_om h_w6_ato)).trans h_w6_om)
        have h_w7_aso : w7 aso = some (eI cI 8 (lnF so)) := (congrFun e_w7 _).trans ((mwu_ne (tne t_aso t_ato (by decide))).trans h_w6_aso)
        have h_w7_asi : w7 asi = some (eI cI 8 (lnF si)) := (congrFun e_w7 _).trans ((mwu_ne (tne t_asi t_ato (by decide))).trans h_w6_asi)
        have h_w7_ase : w7 ase = some (eI cI 8 (lnF se)) := (congrFun e_w7 _).trans ((mwu_ne (tne t_ase t_ato (by decide))).trans h_w6_ase)
        have h_w7_ato : w7 ato = some (eI cI 8 (upd to s (tot + (nI cn)))) := (congrFun e_w7 _).trans mwu_eq
        have h_w7_amo : w7 amo = some (eI cI 8 (lnF mo)) := (congrFun e_w7 _).trans ((mwu_ne (Ne.symm (tne t_ato t_amo (by decide)))).trans h_w6_amo)
        have h_w7_alo : w7 alo = some (eI cI 8 (upd lo s (tkR k (nI xa) (f, ln, tr, er) cn).2.2.2)) := (congrFun e_w7 _).trans ((mwu_ne (Ne.symm (tne t_ato t_alo (by decide)))).trans xl6)
        have h_w7_aro : w7 aro = some (eI cI 9600 ro1) := (congrFun e_w7 _).trans ((mwu_ne (Ne.symm (tne t_ato t_aro (by decide)))).trans xk6)
        have h_w7_asr : w7 asr = some (eI cI 1024 sr1) := (congrFun e_w7 _).trans ((mwu_ne (Ne.symm (tne t_ato t_asr (by decide)))).trans xq6)
        have fr_w7 : ∀ zz : Nat, zz ≠ om → zz ≠ aro → zz ≠ asr → zz ≠ alo → zz ≠ ato → w7 zz = w zz := fun zz g0 g1 g2 g3 g4 => (congrFun e_w7 zz).trans ((mwu_ne g4).trans (fr_w6 zz g0 g1 g2 g3))
        refine mg_aload_n C dX7_come_143 rfl ?_
        refine mg_get C inT7 h_w7_om rfl 6 (by decide) kw_24 (Or.inl rfl) rfl dX7_come_144 ?_
        refine mg_iload_n C dX7_come_147 rfl ?_
        refine mg_aload_n C dX7_come_148 rfl ?_
        refine mg_get C inT7 h_w7_om rfl 6 (by decide) kw_24 (Or.inl rfl) rfl dX7_come_149 ?_
        refine mg_iload_n C dX7_come_152 rfl ?_
        refine mg_ialdN C h_w7_amo (by omega) (by omega) dX7_come_153 ?_
        rw [show lnF mo s = nI mv from congrArg nI hmo]
        refine mg_iload C dX7_come_154 rfl ?_
        refine mg_iadd C (z := nI (mv + cn)) dX7_come_156 (nI_add _ _) ?_
        refine mg_iastN C h_w7_amo (by omega) (by omega) dX7_come_157 (fun w8 e_w8 => ?_)
        rw [upd_lnF] at e_w8
        have h_w8_om : w8 om = some (.inr (6, [.int (nI 0), .int (nI md), .ref aso, .ref asi, .ref ase, .ref ato, .ref amo, .ref alo, .ref aro, .ref asr])) := (congrFun e_w8 _).trans ((mwu_ne (mw_oa h_w7_om h_w7_amo)).trans h_w7_om)
        have h_w8_aso : w8 aso = some (eI cI 8 (lnF so)) := (congrFun e_w8 _).trans ((mwu_ne (tne t_aso t_amo (by decide))).trans h_w7_aso)
        have h_w8_asi : w8 asi = some (eI cI 8 (lnF si)) := (congrFun e_w8 _).trans ((mwu_ne (tne t_asi t_amo (by decide))).trans h_w7_asi)
        have h_w8_ase : w8 ase = some (eI cI 8 (lnF se)) := (congrFun e_w8 _).trans ((mwu_ne (tne t_ase t_amo (by decide))).trans h_w7_ase)
        have h_w8_ato : w8 ato = some (eI cI 8 (upd to s (tot + (nI cn)))) := (congrFun e_w8 _).trans ((mwu_ne (tne t_ato t_amo (by decide))).trans h_w7_ato)
        have h_w8_amo : w8 amo = some (eI cI 8 (lnF (updN mo s (mv + cn)))) := (congrFun e_w8 _).trans mwu_eq
        have h_w8_alo : w8 alo = some (eI cI 8 (upd lo s (tkR k (nI xa) (f, ln, tr, er) cn).2.2.2)) := (congrFun e_w8 _).trans ((mwu_ne (Ne.symm (tne t_amo t_alo (by decide)))).trans h_w7_alo)
        have h_w8_aro : w8 aro = some (eI cI 9600 ro1) := (congrFun e_w8 _).trans ((mwu_ne (Ne.symm (tne t_amo t_aro (by decide)))).trans h_w7_aro)
        have h_w8_asr : w8 asr = some (eI cI 1024 sr1) := (congrFun e_w8 _).trans ((mwu_ne (Ne.symm (tne t_amo t_asr (by decide)))).trans h_w7_asr)
        have fr_w8 : ∀ zz : Nat, zz ≠ om → zz ≠ aro → zz ≠ asr → zz ≠ alo → zz ≠ ato → zz ≠ amo → w8 zz = w zz := fun zz g0 g1 g2 g3 g4 g5 => (congrFun e_w8 zz).trans ((mwu_ne g5).trans (fr_w7 zz g0 g1 g2 g3 g4))
        refine mg_aload_n C dX7_come_158 rfl ?_
        refine mg_get C inT7 h_w8_om rfl 5 (by decide) kw_23 (Or.inl rfl) rfl dX7_come_159 ?_
        refine mg_iload_n C dX7_come_162 rfl ?_
        refine mg_ialdN C h_w8_ato (by omega) (by omega) dX7_come_163 ?_
        rw [upd_same]
        refine mg_ldc C (v := nI 10000000) dX7_come_164 kw_231 (by decide) ?_
        refine mg_iadd C (z := (tot + nI cn) + (nI 10000000)) dX7_come_166 rfl ?_
        exact hR _ _ _ _ dX7_come_167 (Or.inr ⟨xa, cn, hxa, rfl, ⟨cn, hc3, hc4, rfl⟩, hca, hc3, (by omega), Or.inr ⟨c_116, rfl, h_w8_om, h_w8_ato, h_w8_amo, ⟨ro1, h_w8_aro, ho1, hv1, h_w8_alo, ⟨sr1, h_w8_asr⟩⟩, fun z q0 q1 q2 q3 q4 q5 => fr_w8 z q0 q1 q2 q3 q4 q5⟩⟩)
      · refine mg_bipush C (v := (-3 : Int32)) dX7_come_119 (by decide) ?_
        exact hR _ _ _ _ dX7_come_121 (Or.inr ⟨xa, cn, hxa, rfl, ⟨cn, hc3, hc4, rfl⟩, hca, hc3, (by omega), Or.inl ⟨c_116, rfl, h_w1_om, fun z q0 => fr_w1 z q0⟩⟩)
    · rw [ra5]
      refine mg_istore C (lv' := [(4, .int (nI 0)), (0, .ref om), (1, .int (nI s)), (2, .int (nI xa)), (3, .int n)]) dX7_come_84 (by decide) rfl ?_
      refine mg_iload C dX7_come_86 rfl ?_
      refine mg_ifN_ne C (tgt := 93) dX7_come_88 (by decide) (by decide) (fun c_88 => absurd c_88 (by decide)) (fun c_88 => ?_)
      refine mg_iconst C (v := (-1 : Int32)) dX7_come_91 (by decide) ?_
      exact hR _ _ _ _ dX7_come_92 (Or.inl ⟨fun q => hy_n ((in_rp (by decide)).mpr q.2), rfl, h_w1_om, fun z q0 => fr_w1 z q0⟩)
  · rw [ra4]
    refine mg_ifN_ne C (tgt := 26) dX7_come_21 (by decide) (by decide) (fun c_21 => absurd c_21 (by decide)) (fun c_21 => ?_)
    refine mg_iconst C (v := (-1 : Int32)) dX7_come_24 (by decide) ?_
    exact hR _ _ _ _ dX7_come_25 (Or.inl ⟨fun q => hy_key ((in_rg (by decide)).mpr q.1), rfl, h_w1_om, fun z q0 => fr_w1 z q0⟩)
