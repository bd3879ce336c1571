theorem qnot {q t : Int32} (h : ¬ (nI 1 ≤ q ∧ q ≤ t)) : q < nI 1 ∨ ¬ q ≤ t := by
  by_cases h1 : nI 1 ≤ q
  · exact Or.inr fun z => h ⟨h1, z⟩
  · exact Or.inl (Int32.not_le.mp h1)
theorem pa01 {pa : Nat} {ro : Nat → Int32} {z : Nat} {u v : Int32} (h : pa ≤ 1) (h0 : ro z = u) (h1 : ro (z + 1) = v) : (nI pa = 0 ∧ ro (z + pa) = u) ∨ (nI pa = 1 ∧ ro (z + pa) = v) := by
  rcases (show pa = 0 ∨ pa = 1 by omega) with rfl | rfl
  · exact Or.inl ⟨nI_0, h0⟩
  · exact Or.inr ⟨by decide, h1⟩

set_option maxHeartbeats 4000000 in
set_option maxRecDepth 20000 in
theorem c_X7_clear_no (D : va_G) (cI cS : ClassId) (w : mwT) (om md aso asi ase ato amo alo aro asr : Nat) (th : Int32) (so : Nat → Nat) (s : Int32) (hom : w om = some (.inr (6, [.int th, .int (nI md), .ref aso, .ref asi, .ref ase, .ref ato, .ref amo, .ref alo, .ref aro, .ref asr]))) (h_aso : w aso = some (eI cI 8 (lnF so))) (hmd : md ≤ 8) (hno : ¬ ixN md s) : mMi yX7_clear cX7_clear 3 (some .int) (rmL 8) [.ref om, .int s] D cI cS w (fun r w1 => (r = -1) ∧ w1 om = some (.inr (6, [.int (nI 0), .int (nI md), .ref aso, .ref asi, .ref ase, .ref ato, .ref amo, .ref alo, .ref aro, .ref asr])) ∧ ∀ z : Nat, z ≠ om → w1 z = w z) := by
  refine mMi.of (by decide) (Nat.le_of_ble_eq_true rfl) ?_
  intro X C hN hR
  have fr_w : ∀ zz : Nat, w zz = w zz := fun _ => rfl
  refine mg_sub (lv' := [(0, .ref om), (1, .int s)]) [0, 1] rfl ?_
  refine mg_aload_n C dX7_clear_0 rfl ?_
  refine mg_iconst C (v := nI 0) dX7_clear_1 (by decide) ?_
  refine mg_put C (fs' := [.int (nI 0), .int (nI md), .ref aso, .ref asi, .ref ase, .ref ato, .ref amo, .ref alo, .ref aro, .ref asr]) inT7 hom rfl 0 (by decide) kw_28 (Or.inl rfl) tyX7_ok nmX7 rfl rfl rfl rfl (Nat.le_of_ble_eq_true rfl) dX7_clear_2 (fun w1 e_w1 => ?_)
  have h_w1_om : w1 om = some (.inr (6, [.int (nI 0), .int (nI md), .ref aso, .ref asi, .ref ase, .ref ato, .ref amo, .ref alo, .ref aro, .ref asr])) := (congrFun e_w1 _).trans mwu_eq
  have h_w1_aso : w1 aso = some (eI cI 8 (lnF so)) := (congrFun e_w1 _).trans ((mwu_ne (mw_ao h_aso hom)).trans h_aso)
  have fr_w1 : ∀ zz : Nat, zz ≠ om → w1 zz = w zz := fun zz g0 => (congrFun e_w1 zz).trans ((mwu_ne g0).trans (fr_w zz ))
  refine mg_aload_n C dX7_clear_5 rfl ?_
  refine mg_iload_n C dX7_clear_6 rfl ?_
  refine mg_callV_i C h_w1_om rfl (rest := []) (c_X7_none_no D cI cS w1 om md aso asi ase ato amo alo aro asr (nI 0)  s h_w1_om hmd hno) yq_X7_none kw_197 kw_198 kw_199 ⟨by decide, by decide⟩ ⟨Nat.le_of_ble_eq_true rfl, Nat.le_of_ble_eq_true rfl⟩ (Nat.le_of_ble_eq_true rfl) rfl rfl dX7_clear_7 (fun r2 w3 ⟨e_r2, e_w3⟩ => ?_)
  rw [e_w3, e_r2]
  refine mg_ifN_eq C (tgt := 15) dX7_clear_10 (by decide) (by decide) (fun c_10 => absurd c_10 (by decide)) (fun c_10 => ?_)
  refine mg_iconst C (v := (-1 : Int32)) dX7_clear_13 (by decide) ?_
  exact hR _ _ _ _ dX7_clear_14 ⟨rfl, h_w1_om, fun z q0 => fr_w1 z q0⟩

set_option maxHeartbeats 4000000 in
set_option maxRecDepth 20000 in
theorem c_X7_come_no (D : va_G) (cI cS : ClassId) (w : mwT) (om md aso asi ase ato amo alo aro asr : Nat) (th : Int32) (so : Nat → Nat) (s u v : Int32) (hom : w om = some (.inr (6, [.int th, .int (nI md), .ref aso, .ref asi, .ref ase, .ref ato, .ref amo, .ref alo, .ref aro, .ref asr]))) (h_aso : w aso = some (eI cI 8 (lnF so))) (hmd : md ≤ 8) (hno : ¬ ixN md s) : mMi yX7_come cX7_come 6 (some .int) (rmL 8) [.ref om, .int s, .int u, .int v] D cI cS w (fun r w1 => (r = -1) ∧ w1 om = some (.inr (6, [.int (nI 0), .int (nI md), .ref aso, .ref asi, .ref ase, .ref ato, .ref amo, .ref alo, .ref aro, .ref asr])) ∧ ∀ z : Nat, z ≠ om → w1 z = w z) := by
  refine mMi.of (by decide) (Nat.le_of_ble_eq_true rfl) ?_
  intro X C hN hR
  have fr_w : ∀ zz : Nat, w zz = w zz := fun _ => rfl
  refine mg_sub (lv' := [(0, .ref om), (1, .int s), (2, .int u), (3, .int v)]) [0, 1, 2, 3] rfl ?_
  refine mg_aload_n C dX7_come_0 rfl ?_
  refine mg_iconst C (v := nI 0) dX7_come_1 (by decide) ?_
  refine mg_put C (fs' := [.int (nI 0), .int (nI md), .ref aso, .ref asi, .ref ase, .ref ato, .ref amo, .ref alo, .ref aro, .ref asr]) inT7 hom rfl 0 (by decide) kw_28 (Or.inl rfl) tyX7_ok nmX7 rfl rfl rfl rfl (Nat.le_of_ble_eq_true rfl) dX7_come_2 (fun w1 e_w1 => ?_)
  have h_w1_om : w1 om = some (.inr (6, [.int (nI 0), .int (nI md), .ref aso, .ref asi, .ref ase, .ref ato, .ref amo, .ref alo, .ref aro, .ref asr])) := (congrFun e_w1 _).trans mwu_eq
  have h_w1_aso : w1 aso = some (eI cI 8 (lnF so)) := (congrFun e_w1 _).trans ((mwu_ne (mw_ao h_aso hom)).trans h_aso)
  have fr_w1 : ∀ zz : Nat, zz ≠ om → w1 zz = w zz := fun zz g0 => (congrFun e_w1 zz).trans ((mwu_ne g0).trans (fr_w zz ))
  refine mg_aload_n C dX7_come_5 rfl ?_
  refine mg_iload_n C dX7_come_6 rfl ?_
  refine mg_callV_i C h_w1_om rfl (rest := []) (c_X7_none_no D cI cS w1 om md aso asi ase ato amo alo aro asr (nI 0)  s h_w1_om hmd hno) yq_X7_none kw_197 kw_198 kw_199 ⟨by decide, by decide⟩ ⟨Nat.le_of_ble_eq_true rfl, Nat.le_of_ble_eq_true rfl⟩ (Nat.le_of_ble_eq_true rfl) rfl rfl dX7_come_7 (fun r2 w3 ⟨e_r2, e_w3⟩ => ?_)
  rw [e_w3, e_r2]
  refine mg_ifN_ne C (tgt := 24) dX7_come_10 (by decide) (by decide) (fun c_10 => ?_) (fun c_10 => absurd c_10 (by decide))
  refine mg_iconst C (v := (-1 : Int32)) dX7_come_24 (by decide) ?_
  exact hR _ _ _ _ dX7_come_25 ⟨rfl, h_w1_om, fun z q0 => fr_w1 z q0⟩

set_option maxHeartbeats 4000000 in
set_option maxRecDepth 20000 in
theorem c_X7_copy_no (D : va_G) (cI cS : ClassId) (w : mwT) (om md aso asi ase ato amo alo aro asr : Nat) (th : Int32) (so : Nat → Nat) (s : Int32) (hom : w om = some (.inr (6, [.int th, .int (nI md), .ref aso, .ref asi, .ref ase, .ref ato, .ref amo, .ref alo, .ref aro, .ref asr]))) (h_aso : w aso = some (eI cI 8 (lnF so))) (hmd : md ≤ 8) (hno : ¬ ixN md s) : mMi yX7_copy cX7_copy 4 (some .int) (rmL 8) [.ref om, .int s] D cI cS w (fun r w1 => (r = -1) ∧ w1 om = some (.inr (6, [.int (nI 0), .int (nI md), .ref aso, .ref asi, .ref ase, .ref ato, .ref amo, .ref alo, .ref aro, .ref asr])) ∧ ∀ z : Nat, z ≠ om → w1 z = w z) := by
  refine mMi.of (by decide) (Nat.le_of_ble_eq_true rfl) ?_
  intro X C hN hR
  have fr_w : ∀ zz : Nat, w zz = w zz := fun _ => rfl
  refine mg_sub (lv' := [(0, .ref om), (1, .int s)]) [0, 1] rfl ?_
  refine mg_aload_n C dX7_copy_0 rfl ?_
  refine mg_iconst C (v := nI 0) dX7_copy_1 (by decide) ?_
  refine mg_put C (fs' := [.int (nI 0), .int (nI md), .ref aso, .ref asi, .ref ase, .ref ato, .ref amo, .ref alo, .ref aro, .ref asr]) inT7 hom rfl 0 (by decide) kw_28 (Or.inl rfl) tyX7_ok nmX7 rfl rfl rfl rfl (Nat.le_of_ble_eq_true rfl) dX7_copy_2 (fun w1 e_w1 => ?_)
  have h_w1_om : w1 om = some (.inr (6, [.int (nI 0), .int (nI md), .ref aso, .ref asi, .ref ase, .ref ato, .ref amo, .ref alo, .ref aro, .ref asr])) := (congrFun e_w1 _).trans mwu_eq
  have h_w1_aso : w1 aso = some (eI cI 8 (lnF so)) := (congrFun e_w1 _).trans ((mwu_ne (mw_ao h_aso hom)).trans h_aso)
  have fr_w1 : ∀ zz : Nat, zz ≠ om → w1 zz = w zz := fun zz g0 => (congrFun e_w1 zz).trans ((mwu_ne g0).trans (fr_w zz ))
  refine mg_aload_n C dX7_copy_5 rfl ?_
  refine mg_iload_n C dX7_copy_6 rfl ?_
  refine mg_callV_i C h_w1_om rfl (rest := []) (c_X7_none_no D cI cS w1 om md aso asi ase ato amo alo aro asr (nI 0)  s h_w1_om hmd hno) yq_X7_none kw_197 kw_198 kw_199 ⟨by decide, by decide⟩ ⟨Nat.le_of_ble_eq_true rfl, Nat.le_of_ble_eq_true rfl⟩ (Nat.le_of_ble_eq_true rfl) rfl rfl dX7_copy_7 (fun r2 w3 ⟨e_r2, e_w3⟩ => ?_)
  rw [e_w3, e_r2]
  refine mg_ifN_eq C (tgt := 15) dX7_copy_10 (by decide) (by decide) (fun c_10 => absurd c_10 (by decide)) (fun c_10 => ?_)
  refine mg_iconst C (v := (-1 : Int32)) dX7_copy_13 (by decide) ?_
  exact hR _ _ _ _ dX7_copy_14 ⟨rfl, h_w1_om, fun z q0 => fr_w1 z q0⟩

set_option maxHeartbeats 4000000 in
set_option maxRecDepth 20000 in
theorem c_X7_told_no (D : va_G) (cI cS : ClassId) (w : mwT) (om md aso asi ase ato amo alo aro asr : Nat) (th : Int32) (so : Nat → Nat) (s u : Int32) (hom : w om = some (.inr (6, [.int th, .int (nI md), .ref aso, .ref asi, .ref ase, .ref ato, .ref amo, .ref alo, .ref aro, .ref asr]))) (h_aso : w aso = some (eI cI 8 (lnF so))) (hmd : md ≤ 8) (hno : ¬ ixN md s) : mMi yX7_told cX7_told 3 (some .int) (rmL 8) [.ref om, .int s, .int u] D cI cS w (fun r w1 => (r = -1) ∧ w1 om = some (.inr (6, [.int (nI 0), .int (nI md), .ref aso, .ref asi, .ref ase, .ref ato, .ref amo, .ref alo, .ref aro, .ref asr])) ∧ ∀ z : Nat, z ≠ om → w1 z = w z) := by
  refine mMi.of (by decide) (Nat.le_of_ble_eq_true rfl) ?_
  intro X C hN hR
  have fr_w : ∀ zz : Nat, w zz = w zz := fun _ => rfl
  refine mg_sub (lv' := [(0, .ref om), (1, .int s), (2, .int u)]) [0, 1, 2] rfl ?_
  refine mg_aload_n C dX7_told_0 rfl ?_
  refine mg_iconst C (v := nI 0) dX7_told_1 (by decide) ?_
  refine mg_put C (fs' := [.int (nI 0), .int (nI md), .ref aso, .ref asi, .ref ase, .ref ato, .ref amo, .ref alo, .ref aro, .ref asr]) inT7 hom rfl 0 (by decide) kw_28 (Or.inl rfl) tyX7_ok nmX7 rfl rfl rfl rfl (Nat.le_of_ble_eq_true rfl) dX7_told_2 (fun w1 e_w1 => ?_)
  have h_w1_om : w1 om = some (.inr (6, [.int (nI 0), .int (nI md), .ref aso, .ref asi, .ref ase, .ref ato, .ref amo, .ref alo, .ref aro, .ref asr])) := (congrFun e_w1 _).trans mwu_eq
  have h_w1_aso : w1 aso = some (eI cI 8 (lnF so)) := (congrFun e_w1 _).trans ((mwu_ne (mw_ao h_aso hom)).trans h_aso)
  have fr_w1 : ∀ zz : Nat, zz ≠ om → w1 zz = w zz := fun zz g0 => (congrFun e_w1 zz).trans ((mwu_ne g0).trans (fr_w zz ))
  refine mg_aload_n C dX7_told_5 rfl ?_
  refine mg_iload_n C dX7_told_6 rfl ?_
  refine mg_callV_i C h_w1_om rfl (rest := []) (c_X7_none_no D cI cS w1 om md aso asi ase ato amo alo aro asr (nI 0)  s h_w1_om hmd hno) yq_X7_none kw_197 kw_198 kw_199 ⟨by decide, by decide⟩ ⟨Nat.le_of_ble_eq_true rfl, Nat.le_of_ble_eq_true rfl⟩ (Nat.le_of_ble_eq_true rfl) rfl rfl dX7_told_7 (fun r2 w3 ⟨e_r2, e_w3⟩ => ?_)
  rw [e_w3, e_r2]
  refine mg_ifN_eq C (tgt := 15) dX7_told_10 (by decide) (by decide) (fun c_10 => absurd c_10 (by decide)) (fun c_10 => ?_)
  refine mg_iconst C (v := (-1 : Int32)) dX7_told_13 (by decide) ?_
  exact hR _ _ _ _ dX7_told_14 ⟨rfl, h_w1_om, fun z q0 => fr_w1 z q0⟩

set_option maxHeartbeats 4000000 in
set_option maxRecDepth 20000 in
theorem c_X7_kept_no (D : va_G) (cI cS : ClassId) (w : mwT) (om md aso asi ase ato amo alo aro asr : Nat) (th : Int32) (so : Nat → Nat) (s u v : Int32) (hom : w om = some (.inr (6, [.int th, .int (nI md), .ref aso, .ref asi, .ref ase, .ref ato, .ref amo, .ref alo, .ref aro, .ref asr]))) (h_aso : w aso = some (eI cI 8 (lnF so))) (hmd : md ≤ 8) (hno : ¬ ixN md s) : mMi yX7_kept cX7_kept 5 (some .int) (rmL 8) [.ref om, .int s, .int u, .int v] D cI cS w (fun r w1 => (r = -1) ∧ w1 om = some (.inr (6, [.int (nI 0), .int (nI md), .ref aso, .ref asi, .ref ase, .ref ato, .ref amo, .ref alo, .ref aro, .ref asr])) ∧ ∀ z : Nat, z ≠ om → w1 z = w z) := by
  refine mMi.of (by decide) (Nat.le_of_ble_eq_true rfl) ?_
  intro X C hN hR
  have fr_w : ∀ zz : Nat, w zz = w zz := fun _ => rfl
  refine mg_sub (lv' := [(0, .ref om), (1, .int s), (2, .int u), (3, .int v)]) [0, 1, 2, 3] rfl ?_
  refine mg_aload_n C dX7_kept_0 rfl ?_
  refine mg_iconst C (v := nI 0) dX7_kept_1 (by decide) ?_
  refine mg_put C (fs' := [.int (nI 0), .int (nI md), .ref aso, .ref asi, .ref ase, .ref ato, .ref amo, .ref alo, .ref aro, .ref asr]) inT7 hom rfl 0 (by decide) kw_28 (Or.inl rfl) tyX7_ok nmX7 rfl rfl rfl rfl (Nat.le_of_ble_eq_true rfl) dX7_kept_2 (fun w1 e_w1 => ?_)
  have h_w1_om : w1 om = some (.inr (6, [.int (nI 0), .int (nI md), .ref aso, .ref asi, .ref ase, .ref ato, .ref amo, .ref alo, .ref aro, .ref asr])) := (congrFun e_w1 _).trans mwu_eq
  have h_w1_aso : w1 aso = some (eI cI 8 (lnF so)) := (congrFun e_w1 _).trans ((mwu_ne (mw_ao h_aso hom)).trans h_aso)
  have fr_w1 : ∀ zz : Nat, zz ≠ om → w1 zz = w zz := fun zz g0 => (congrFun e_w1 zz).trans ((mwu_ne g0).trans (fr_w zz ))
  refine mg_aload_n C dX7_kept_5 rfl ?_
  refine mg_iload_n C dX7_kept_6 rfl ?_
  refine mg_callV_i C h_w1_om rfl (rest := []) (c_X7_none_no D cI cS w1 om md aso asi ase ato amo alo aro asr (nI 0)  s h_w1_om hmd hno) yq_X7_none kw_197 kw_198 kw_199 ⟨by decide, by decide⟩ ⟨Nat.le_of_ble_eq_true rfl, Nat.le_of_ble_eq_true rfl⟩ (Nat.le_of_ble_eq_true rfl) rfl rfl dX7_kept_7 (fun r2 w3 ⟨e_r2, e_w3⟩ => ?_)
  rw [e_w3, e_r2]
  refine mg_ifN_eq C (tgt := 15) dX7_kept_10 (by decide) (by decide) (fun c_10 => absurd c_10 (by decide)) (fun c_10 => ?_)
  refine mg_iconst C (v := (-1 : Int32)) dX7_kept_13 (by decide) ?_
  exact hR _ _ _ _ dX7_kept_14 ⟨rfl, h_w1_om, fun z q0 => fr_w1 z q0⟩

set_option maxHeartbeats 4000000 in
set_option maxRecDepth 20000 in
theorem c_X7_low_no (D : va_G) (cI cS : ClassId) (w : mwT) (om md aso asi ase ato amo alo aro asr : Nat) (th : Int32) (so : Nat → Nat) (s u : Int32) (hom : w om = some (.inr (6, [.int th, .int (nI md), .ref aso, .ref asi, .ref ase, .ref ato, .ref amo, .ref alo, .ref aro, .ref asr]))) (h_aso : w aso = some (eI cI 8 (lnF so))) (hmd : md ≤ 8) (hno : ¬ ixN md s) : mMi yX7_low cX7_low 4 (some .int) (rmL 8) [.ref om, .int s, .int u] D cI cS w (fun r w1 => (r = -1) ∧ w1 om = some (.inr (6, [.int (nI 0), .int (nI md), .ref aso, .ref asi, .ref ase, .ref ato, .ref amo, .ref alo, .ref aro, .ref asr])) ∧ ∀ z : Nat, z ≠ om → w1 z = w z) := by
  refine mMi.of (by decide) (Nat.le_of_ble_eq_true rfl) ?_
  intro X C hN hR
  have fr_w : ∀ zz : Nat, w zz = w zz := fun _ => rfl
  refine mg_sub (lv' := [(0, .ref om), (1, .int s), (2, .int u)]) [0, 1, 2] rfl ?_
  refine mg_aload_n C dX7_low_0 rfl ?_
  refine mg_iconst C (v := nI 0) dX7_low_1 (by decide) ?_
  refine mg_put C (fs' := [.int (nI 0), .int (nI md), .ref aso, .ref asi, .ref ase, .ref ato, .ref amo, .ref alo, .ref aro, .ref asr]) inT7 hom rfl 0 (by decide) kw_28 (Or.inl rfl) tyX7_ok nmX7 rfl rfl rfl rfl (Nat.le_of_ble_eq_true rfl) dX7_low_2 (fun w1 e_w1 => ?_)
  have h_w1_om : w1 om = some (.inr (6, [.int (nI 0), .int (nI md), .ref aso, .ref asi, .ref ase, .ref ato, .ref amo, .ref alo, .ref aro, .ref asr])) := (congrFun e_w1 _).trans mwu_eq
  have h_w1_aso : w1 aso = some (eI cI 8 (lnF so)) := (congrFun e_w1 _).trans ((mwu_ne (mw_ao h_aso hom)).trans h_aso)
  have fr_w1 : ∀ zz : Nat, zz ≠ om → w1 zz = w zz := fun zz g0 => (congrFun e_w1 zz).trans ((mwu_ne g0).trans (fr_w zz ))
  refine mg_aload_n C dX7_low_5 rfl ?_
  refine mg_iload_n C dX7_low_6 rfl ?_
  refine mg_iload_n C dX7_low_7 rfl ?_
  refine mg_aload_n C dX7_low_8 rfl ?_
  refine mg_iload_n C dX7_low_9 rfl ?_
  refine mg_iconst C (v := nI 0) dX7_low_10 (by decide) ?_
  refine mg_iconst C (v := nI 4) dX7_low_11 (by decide) ?_
  refine mg_callV_i C h_w1_om rfl (rest := [.int u, .int s, .ref om]) (c_X7_isOf_no D cI cS w1 om md aso asi ase ato amo alo aro asr (nI 0) so s 0 4 h_w1_om h_w1_aso hmd hno) yq_X7_isOf kw_463 kw_464 kw_465 ⟨by decide, by decide⟩ ⟨Nat.le_of_ble_eq_true rfl, Nat.le_of_ble_eq_true rfl⟩ (Nat.le_of_ble_eq_true rfl) rfl rfl dX7_low_12 (fun r2 w3 ⟨e_r2, e_w3⟩ => ?_)
  rw [e_w3, e_r2]
  refine mg_callV_i C h_w1_om rfl (rest := []) (c_X7_isBad_no D cI cS w1 om md aso asi ase ato amo alo aro asr (nI 0)  s u (nI 0) h_w1_om hmd hno) yq_X7_isBad kw_467 kw_468 kw_469 ⟨by decide, by decide⟩ ⟨Nat.le_of_ble_eq_true rfl, Nat.le_of_ble_eq_true rfl⟩ (Nat.le_of_ble_eq_true rfl) rfl rfl dX7_low_15 (fun r4 w5 ⟨e_r4, e_w5⟩ => ?_)
  rw [e_w5, e_r4]
  refine mg_ifN_eq C (tgt := 23) dX7_low_18 (by decide) (by decide) (fun c_18 => absurd c_18 (by decide)) (fun c_18 => ?_)
  refine mg_iconst C (v := (-1 : Int32)) dX7_low_21 (by decide) ?_
  exact hR _ _ _ _ dX7_low_22 ⟨rfl, h_w1_om, fun z q0 => fr_w1 z q0⟩

set_option maxHeartbeats 4000000 in
set_option maxRecDepth 20000 in
theorem c_X7_high_no (D : va_G) (cI cS : ClassId) (w : mwT) (om md aso asi ase ato amo alo aro asr : Nat) (th : Int32) (so : Nat → Nat) (s u : Int32) (hom : w om = some (.inr (6, [.int th, .int (nI md), .ref aso, .ref asi, .ref ase, .ref ato, .ref amo, .ref alo, .ref aro, .ref asr]))) (h_aso : w aso = some (eI cI 8 (lnF so))) (hmd : md ≤ 8) (hno : ¬ ixN md s) : mMi yX7_high cX7_high 5 (some .int) (rmL 8) [.ref om, .int s, .int u] D cI cS w (fun r w1 => (r = -1) ∧ w1 om = some (.inr (6, [.int (nI 0), .int (nI md), .ref aso, .ref asi, .ref ase, .ref ato, .ref amo, .ref alo, .ref aro, .ref asr])) ∧ ∀ z : Nat, z ≠ om → w1 z = w z) := by
  refine mMi.of (by decide) (Nat.le_of_ble_eq_true rfl) ?_
  intro X C hN hR
  have fr_w : ∀ zz : Nat, w zz = w zz := fun _ => rfl
  refine mg_sub (lv' := [(0, .ref om), (1, .int s), (2, .int u)]) [0, 1, 2] rfl ?_
  refine mg_aload_n C dX7_high_0 rfl ?_
  refine mg_iconst C (v := nI 0) dX7_high_1 (by decide) ?_
  refine mg_put C (fs' := [.int (nI 0), .int (nI md), .ref aso, .ref asi, .ref ase, .ref ato, .ref amo, .ref alo, .ref aro, .ref asr]) inT7 hom rfl 0 (by decide) kw_28 (Or.inl rfl) tyX7_ok nmX7 rfl rfl rfl rfl (Nat.le_of_ble_eq_true rfl) dX7_high_2 (fun w1 e_w1 => ?_)
  have h_w1_om : w1 om = some (.inr (6, [.int (nI 0), .int (nI md), .ref aso, .ref asi, .ref ase, .ref ato, .ref amo, .ref alo, .ref aro, .ref asr])) := (congrFun e_w1 _).trans mwu_eq
  have h_w1_aso : w1 aso = some (eI cI 8 (lnF so)) := (congrFun e_w1 _).trans ((mwu_ne (mw_ao h_aso hom)).trans h_aso)
  have fr_w1 : ∀ zz : Nat, zz ≠ om → w1 zz = w zz := fun zz g0 => (congrFun e_w1 zz).trans ((mwu_ne g0).trans (fr_w zz ))
  refine mg_aload_n C dX7_high_5 rfl ?_
  refine mg_iload_n C dX7_high_6 rfl ?_
  refine mg_iload_n C dX7_high_7 rfl ?_
  refine mg_aload_n C dX7_high_8 rfl ?_
  refine mg_iload_n C dX7_high_9 rfl ?_
  refine mg_iconst C (v := nI 0) dX7_high_10 (by decide) ?_
  refine mg_iconst C (v := nI 4) dX7_high_11 (by decide) ?_
  refine mg_callV_i C h_w1_om rfl (rest := [.int u, .int s, .ref om]) (c_X7_isOf_no D cI cS w1 om md aso asi ase ato amo alo aro asr (nI 0) so s 0 4 h_w1_om h_w1_aso hmd hno) yq_X7_isOf kw_463 kw_464 kw_465 ⟨by decide, by decide⟩ ⟨Nat.le_of_ble_eq_true rfl, Nat.le_of_ble_eq_true rfl⟩ (Nat.le_of_ble_eq_true rfl) rfl rfl dX7_high_12 (fun r2 w3 ⟨e_r2, e_w3⟩ => ?_)
  rw [e_w3, e_r2]
  refine mg_ifN_ne C (tgt := 28) dX7_high_15 (by decide) (by decide) (fun c_15 => absurd c_15 (by decide)) (fun c_15 => ?_)
  refine mg_aload_n C dX7_high_18 rfl ?_
  refine mg_iload_n C dX7_high_19 rfl ?_
  refine mg_iconst C (v := nI 1) dX7_high_20 (by decide) ?_
  refine mg_iconst C (v := nI 1) dX7_high_21 (by decide) ?_
  refine mg_callV_i C h_w1_om rfl (rest := [.int u, .int s, .ref om]) (c_X7_isOf_no D cI cS w1 om md aso asi ase ato amo alo aro asr (nI 0) so s 1 1 h_w1_om h_w1_aso hmd hno) yq_X7_isOf kw_463 kw_464 kw_465 ⟨by decide, by decide⟩ ⟨Nat.le_of_ble_eq_true rfl, Nat.le_of_ble_eq_true rfl⟩ (Nat.le_of_ble_eq_true rfl) rfl rfl dX7_high_22 (fun r4 w5 ⟨e_r4, e_w5⟩ => ?_)
  rw [e_w5, e_r4]
  refine mg_ifN_eq C (tgt := 32) dX7_high_25 (by decide) (by decide) (fun c_25 => ?_) (fun c_25 => absurd c_25 (by decide))
  refine mg_iconst C (v := nI 0) dX7_high_32 (by decide) ?_
  refine mg_callV_i C h_w1_om rfl (rest := []) (c_X7_isBad_no D cI cS w1 om md aso asi ase ato amo alo aro asr (nI 0)  s u (nI 0) h_w1_om hmd hno) yq_X7_isBad kw_467 kw_468 kw_469 ⟨by decide, by decide⟩ ⟨Nat.le_of_ble_eq_true rfl, Nat.le_of_ble_eq_true rfl⟩ (Nat.le_of_ble_eq_true rfl) rfl rfl dX7_high_33 (fun r6 w7 ⟨e_r6, e_w7⟩ => ?_)
  rw [e_w7, e_r6]
  refine mg_ifN_eq C (tgt := 41) dX7_high_36 (by decide) (by decide) (fun c_36 => absurd c_36 (by decide)) (fun c_36 => ?_)
  refine mg_iconst C (v := (-1 : Int32)) dX7_high_39 (by decide) ?_
  exact hR _ _ _ _ dX7_high_40 ⟨rfl, h_w1_om, fun z q0 => fr_w1 z q0⟩

set_option maxHeartbeats 4000000 in
set_option maxRecDepth 20000 in
theorem c_X7_has_no (D : va_G) (cI cS : ClassId) (w : mwT) (om md aso asi ase ato amo alo aro asr : Nat) (th : Int32) (so : Nat → Nat) (s u : Int32) (hom : w om = some (.inr (6, [.int th, .int (nI md), .ref aso, .ref asi, .ref ase, .ref ato, .ref amo, .ref alo, .ref aro, .ref asr]))) (h_aso : w aso = some (eI cI 8 (lnF so))) (hmd : md ≤ 8) (hno : ¬ ixN md s) : mMi yX7_has cX7_has 6 (some .int) (rmL 8) [.ref om, .int s, .int u] D cI cS w (fun r w1 => (r = -1) ∧ w1 om = some (.inr (6, [.int (nI 0), .int (nI md), .ref aso, .ref asi, .ref ase, .ref ato, .ref amo, .ref alo, .ref aro, .ref asr])) ∧ ∀ z : Nat, z ≠ om → w1 z = w z) := by
  refine mMi.of (by decide) (Nat.le_of_ble_eq_true rfl) ?_
  intro X C hN hR
  have fr_w : ∀ zz : Nat, w zz = w zz := fun _ => rfl
  refine mg_sub (lv' := [(0, .ref om), (1, .int s), (2, .int u)]) [0, 1, 2] rfl ?_
  refine mg_aload_n C dX7_has_0 rfl ?_
  refine mg_iconst C (v := nI 0) dX7_has_1 (by decide) ?_
  refine mg_put C (fs' := [.int (nI 0), .int (nI md), .ref aso, .ref asi, .ref ase, .ref ato, .ref amo, .ref alo, .ref aro, .ref asr]) inT7 hom rfl 0 (by decide) kw_28 (Or.inl rfl) tyX7_ok nmX7 rfl rfl rfl rfl (Nat.le_of_ble_eq_true rfl) dX7_has_2 (fun w1 e_w1 => ?_)
  have h_w1_om : w1 om = some (.inr (6, [.int (nI 0), .int (nI md), .ref aso, .ref asi, .ref ase, .ref ato, .ref amo, .ref alo, .ref aro, .ref asr])) := (congrFun e_w1 _).trans mwu_eq
  have h_w1_aso : w1 aso = some (eI cI 8 (lnF so)) := (congrFun e_w1 _).trans ((mwu_ne (mw_ao h_aso hom)).trans h_aso)
  have fr_w1 : ∀ zz : Nat, zz ≠ om → w1 zz = w zz := fun zz g0 => (congrFun e_w1 zz).trans ((mwu_ne g0).trans (fr_w zz ))
  refine mg_aload_n C dX7_has_5 rfl ?_
  refine mg_iload_n C dX7_has_6 rfl ?_
  refine mg_iload_n C dX7_has_7 rfl ?_
  refine mg_aload_n C dX7_has_8 rfl ?_
  refine mg_iload_n C dX7_has_9 rfl ?_
  refine mg_iconst C (v := nI 2) dX7_has_10 (by decide) ?_
  refine mg_iconst C (v := nI 3) dX7_has_11 (by decide) ?_
  refine mg_callV_i C h_w1_om rfl (rest := [.int u, .int s, .ref om]) (c_X7_isOf_no D cI cS w1 om md aso asi ase ato amo alo aro asr (nI 0) so s 2 3 h_w1_om h_w1_aso hmd hno) yq_X7_isOf kw_463 kw_464 kw_465 ⟨by decide, by decide⟩ ⟨Nat.le_of_ble_eq_true rfl, Nat.le_of_ble_eq_true rfl⟩ (Nat.le_of_ble_eq_true rfl) rfl rfl dX7_has_12 (fun r2 w3 ⟨e_r2, e_w3⟩ => ?_)
  rw [e_w3, e_r2]
  refine mg_callV_i C h_w1_om rfl (rest := []) (c_X7_isBad_no D cI cS w1 om md aso asi ase ato amo alo aro asr (nI 0)  s u (nI 0) h_w1_om hmd hno) yq_X7_isBad kw_467 kw_468 kw_469 ⟨by decide, by decide⟩ ⟨Nat.le_of_ble_eq_true rfl, Nat.le_of_ble_eq_true rfl⟩ (Nat.le_of_ble_eq_true rfl) rfl rfl dX7_has_15 (fun r4 w5 ⟨e_r4, e_w5⟩ => ?_)
  rw [e_w5, e_r4]
  refine mg_ifN_eq C (tgt := 23) dX7_has_18 (by decide) (by decide) (fun c_18 => absurd c_18 (by decide)) (fun c_18 => ?_)
  refine mg_iconst C (v := (-1 : Int32)) dX7_has_21 (by decide) ?_
  exact hR _ _ _ _ dX7_has_22 ⟨rfl, h_w1_om, fun z q0 => fr_w1 z q0⟩

set_option maxHeartbeats 4000000 in
set_option maxRecDepth 20000 in
theorem c_X7_distinct_no (D : va_G) (cI cS : ClassId) (w : mwT) (om md aso asi ase ato amo alo aro asr : Nat) (th : Int32) (so : Nat → Nat) (s : Int32) (hom : w om = some (.inr (6, [.int th, .int (nI md), .ref aso, .ref asi, .ref ase, .ref ato, .ref amo, .ref alo, .ref aro, .ref asr]))) (h_aso : w aso = some (eI cI 8 (lnF so))) (hmd : md ≤ 8) (hno : ¬ ixN md s) : mMi yX7_distinct cX7_distinct 4 (some .int) (rmL 8) [.ref om, .int s] D cI cS w (fun r w1 => (r = -1) ∧ w1 om = some (.inr (6, [.int (nI 0), .int (nI md), .ref aso, .ref asi, .ref ase, .ref ato, .ref amo, .ref alo, .ref aro, .ref asr])) ∧ ∀ z : Nat, z ≠ om → w1 z = w z) := by
  refine mMi.of (by decide) (Nat.le_of_ble_eq_true rfl) ?_
  intro X C hN hR
  have fr_w : ∀ zz : Nat, w zz = w zz := fun _ => rfl
  refine mg_sub (lv' := [(0, .ref om), (1, .int s)]) [0, 1] rfl ?_
  refine mg_aload_n C dX7_distinct_0 rfl ?_
  refine mg_iconst C (v := nI 0) dX7_distinct_1 (by decide) ?_
  refine mg_put C (fs' := [.int (nI 0), .int (nI md), .ref aso, .ref asi, .ref ase, .ref ato, .ref amo, .ref alo, .ref aro, .ref asr]) inT7 hom rfl 0 (by decide) kw_28 (Or.inl rfl) tyX7_ok nmX7 rfl rfl rfl rfl (Nat.le_of_ble_eq_true rfl) dX7_distinct_2 (fun w1 e_w1 => ?_)
  have h_w1_om : w1 om = some (.inr (6, [.int (nI 0), .int (nI md), .ref aso, .ref asi, .ref ase, .ref ato, .ref amo, .ref alo, .ref aro, .ref asr])) := (congrFun e_w1 _).trans mwu_eq
  have h_w1_aso : w1 aso = some (eI cI 8 (lnF so)) := (congrFun e_w1 _).trans ((mwu_ne (mw_ao h_aso hom)).trans h_aso)
  have fr_w1 : ∀ zz : Nat, zz ≠ om → w1 zz = w zz := fun zz g0 => (congrFun e_w1 zz).trans ((mwu_ne g0).trans (fr_w zz ))
  refine mg_aload_n C dX7_distinct_5 rfl ?_
  refine mg_iload_n C dX7_distinct_6 rfl ?_
  refine mg_iconst C (v := nI 3) dX7_distinct_7 (by decide) ?_
  refine mg_iconst C (v := nI 3) dX7_distinct_8 (by decide) ?_
  refine mg_callV_i C h_w1_om rfl (rest := []) (c_X7_isOf_no D cI cS w1 om md aso asi ase ato amo alo aro asr (nI 0) so s 3 3 h_w1_om h_w1_aso hmd hno) yq_X7_isOf kw_463 kw_464 kw_465 ⟨by decide, by decide⟩ ⟨Nat.le_of_ble_eq_true rfl, Nat.le_of_ble_eq_true rfl⟩ (Nat.le_of_ble_eq_true rfl) rfl rfl dX7_distinct_9 (fun r2 w3 ⟨e_r2, e_w3⟩ => ?_)
  rw [e_w3, e_r2]
  refine mg_ifN_ne C (tgt := 17) dX7_distinct_12 (by decide) (by decide) (fun c_12 => absurd c_12 (by decide)) (fun c_12 => ?_)
  refine mg_iconst C (v := (-1 : Int32)) dX7_distinct_15 (by decide) ?_
  exact hR _ _ _ _ dX7_distinct_16 ⟨rfl, h_w1_om, fun z q0 => fr_w1 z q0⟩

set_option maxHeartbeats 4000000 in
set_option maxRecDepth 20000 in
theorem c_X7_quantile_no (D : va_G) (cI cS : ClassId) (w : mwT) (om md aso asi ase ato amo alo aro asr : Nat) (th : Int32) (so : Nat → Nat) (s u : Int32) (hom : w om = some (.inr (6, [.int th, .int (nI md), .ref aso, .ref asi, .ref ase, .ref ato, .ref amo, .ref alo, .ref aro, .ref asr]))) (h_aso : w aso = some (eI cI 8 (lnF so))) (hmd : md ≤ 8) (hno : ¬ ixN md s) : mMi yX7_quantile cX7_quantile 6 (some .int) (rmL 8) [.ref om, .int s, .int u] D cI cS w (fun r w1 => (r = -1) ∧ w1 om = some (.inr (6, [.int (nI 0), .int (nI md), .ref aso, .ref asi, .ref ase, .ref ato, .ref amo, .ref alo, .ref aro, .ref asr])) ∧ ∀ z : Nat, z ≠ om → w1 z = w z) := by
  refine mMi.of (by decide) (Nat.le_of_ble_eq_true rfl) ?_
  intro X C hN hR
  have fr_w : ∀ zz : Nat, w zz = w zz := fun _ => rfl
  refine mg_sub (lv' := [(0, .ref om), (1, .int s), (2, .int u)]) [0, 1, 2] rfl ?_
  refine mg_aload_n C dX7_quantile_0 rfl ?_
  refine mg_iconst C (v := nI 0) dX7_quantile_1 (by decide) ?_
  refine mg_put C (fs' := [.int (nI 0), .int (nI md), .ref aso, .ref asi, .ref ase, .ref ato, .ref amo, .ref alo, .ref aro, .ref asr]) inT7 hom rfl 0 (by decide) kw_28 (Or.inl rfl) tyX7_ok nmX7 rfl rfl rfl rfl (Nat.le_of_ble_eq_true rfl) dX7_quantile_2 (fun w1 e_w1 => ?_)
  have h_w1_om : w1 om = some (.inr (6, [.int (nI 0), .int (nI md), .ref aso, .ref asi, .ref ase, .ref ato, .ref amo, .ref alo, .ref aro, .ref asr])) := (congrFun e_w1 _).trans mwu_eq
  have h_w1_aso : w1 aso = some (eI cI 8 (lnF so)) := (congrFun e_w1 _).trans ((mwu_ne (mw_ao h_aso hom)).trans h_aso)
  have fr_w1 : ∀ zz : Nat, zz ≠ om → w1 zz = w zz := fun zz g0 => (congrFun e_w1 zz).trans ((mwu_ne g0).trans (fr_w zz ))
  refine mg_aload_n C dX7_quantile_5 rfl ?_
  refine mg_iload_n C dX7_quantile_6 rfl ?_
  refine mg_iconst C (v := nI 4) dX7_quantile_7 (by decide) ?_
  refine mg_iconst C (v := nI 4) dX7_quantile_8 (by decide) ?_
  refine mg_callV_i C h_w1_om rfl (rest := []) (c_X7_isOf_no D cI cS w1 om md aso asi ase ato amo alo aro asr (nI 0) so s 4 4 h_w1_om h_w1_aso hmd hno) yq_X7_isOf kw_463 kw_464 kw_465 ⟨by decide, by decide⟩ ⟨Nat.le_of_ble_eq_true rfl, Nat.le_of_ble_eq_true rfl⟩ (Nat.le_of_ble_eq_true rfl) rfl rfl dX7_quantile_9 (fun r2 w3 ⟨e_r2, e_w3⟩ => ?_)
  rw [e_w3, e_r2]
  refine mg_ifN_eq C (tgt := 29) dX7_quantile_12 (by decide) (by decide) (fun c_12 => ?_) (fun c_12 => absurd c_12 (by decide))
  refine mg_iconst C (v := (-1 : Int32)) dX7_quantile_29 (by decide) ?_
  exact hR _ _ _ _ dX7_quantile_30 ⟨rfl, h_w1_om, fun z q0 => fr_w1 z q0⟩

set_option maxHeartbeats 4000000 in
set_option maxRecDepth 20000 in
theorem c_X7_count (D : va_G) (cI cS : ClassId) (w : mwT) (om md aso asi ase ato amo alo aro asr : Nat) (th : Int32) (hom : w om = some (.inr (6, [.int th, .int (nI md), .ref aso, .ref asi, .ref ase, .ref ato, .ref amo, .ref alo, .ref aro, .ref asr]))) (hmd : md ≤ 8) : mMi yX7_count cX7_count 1 (some .int) (rmL 8) [.ref om] D cI cS w (fun r w1 => r = nI md ∧ w1 om = some (.inr (6, [.int (nI 0), .int (nI md), .ref aso, .ref asi, .ref ase, .ref ato, .ref amo, .ref alo, .ref aro, .ref asr])) ∧ ∀ z : Nat, z ≠ om → w1 z = w z) := by
  refine mMi.of (by decide) (Nat.le_of_ble_eq_true rfl) ?_
  intro X C hN hR
  have fr_w : ∀ zz : Nat, w zz = w zz := fun _ => rfl
  refine mg_sub (lv' := [(0, .ref om)]) [0] rfl ?_
  refine mg_aload_n C dX7_count_0 rfl ?_
  refine mg_iconst C (v := nI 0) dX7_count_1 (by decide) ?_
  refine mg_put C (fs' := [.int (nI 0), .int (nI md), .ref aso, .ref asi, .ref ase, .ref ato, .ref amo, .ref alo, .ref aro, .ref asr]) inT7 hom rfl 0 (by decide) kw_28 (Or.inl rfl) tyX7_ok nmX7 rfl rfl rfl rfl (Nat.le_of_ble_eq_true rfl) dX7_count_2 (fun w1 e_w1 => ?_)
  have h_w1_om : w1 om = some (.inr (6, [.int (nI 0), .int (nI md), .ref aso, .ref asi, .ref ase, .ref ato, .ref amo, .ref alo, .ref aro, .ref asr])) := (congrFun e_w1 _).trans mwu_eq
  have fr_w1 : ∀ zz : Nat, zz ≠ om → w1 zz = w zz := fun zz g0 => (congrFun e_w1 zz).trans ((mwu_ne g0).trans (fr_w zz ))
  refine mg_aload_n C dX7_count_5 rfl ?_
  refine mg_get C inT7 h_w1_om rfl 1 (by decide) kw_111 (Or.inl rfl) rfl dX7_count_6 ?_
  exact hR _ _ _ _ dX7_count_9 ⟨rfl, h_w1_om, fun z q0 => fr_w1 z q0⟩

set_option maxHeartbeats 4000000 in
set_option maxRecDepth 20000 in
theorem c_X7_hash (D : va_G) (cI cS : ClassId) (w : mwT) (om md aso asi ase ato amo alo aro asr : Nat) (th : Int32) (se j x : Int32) (hom : w om = some (.inr (6, [.int th, .int (nI md), .ref aso, .ref asi, .ref ase, .ref ato, .ref amo, .ref alo, .ref aro, .ref asr]))) : mMi yX7_hash cX7_hash 4 (some .int) (rmL 8) [.ref om, .int se, .int j, .int x] D cI cS w (fun r w1 => ((r = -1 ∧ ¬ (rg 999 se ∧ ixN 4 j ∧ rg 9999 x)) ∨ (∃ sa ja xa : Nat, sa ≤ 999 ∧ ja < 4 ∧ xa ≤ 9999 ∧ se = nI sa ∧ j = nI ja ∧ x = nI xa ∧ r = nI (hsN sa ja xa))) ∧ w1 om = some (.inr (6, [.int (nI 0), .int (nI md), .ref aso, .ref asi, .ref ase, .ref ato, .ref amo, .ref alo, .ref aro, .ref asr])) ∧ ∀ z : Nat, z ≠ om → w1 z = w z) := by
  refine mMi.of (by decide) (Nat.le_of_ble_eq_true rfl) ?_
  intro X C hN hR
  have fr_w : ∀ zz : Nat, w zz = w zz := fun _ => rfl
  refine mg_sub (lv' := [(0, .ref om), (1, .int se), (2, .int j), (3, .int x)]) [0, 1, 2, 3] rfl ?_
  refine mg_aload_n C dX7_hash_0 rfl ?_
  refine mg_iconst C (v := nI 0) dX7_hash_1 (by decide) ?_
  refine mg_put C (fs' := [.int (nI 0), .int (nI md), .ref aso, .ref asi, .ref ase, .ref ato, .ref amo, .ref alo, .ref aro, .ref asr]) inT7 hom rfl 0 (by decide) kw_28 (Or.inl rfl) tyX7_ok nmX7 rfl rfl rfl rfl (Nat.le_of_ble_eq_true rfl) dX7_hash_2 (fun w1 e_w1 => ?_)
  have h_w1_om : w1 om = some (.inr (6, [.int (nI 0), .int (nI md), .ref aso, .ref asi, .ref ase, .ref ato, .ref amo, .ref alo, .ref aro, .ref asr])) := (congrFun e_w1 _).trans mwu_eq
  have fr_w1 : ∀ zz : Nat, zz ≠ om → w1 zz = w zz := fun zz g0 => (congrFun e_w1 zz).trans ((mwu_ne g0).trans (fr_w zz ))
  refine mg_iload_n C dX7_hash_5 rfl ?_
  refine mg_iconst C (v := nI 0) dX7_hash_6 (by decide) ?_
  refine mg_sipush C (v := nI 999) dX7_hash_7 (by decide) ?_
  refine mg_callS_i C (rest := []) (c_X7_in D cI cS w1 se (nI 0) (nI 999)) yq_X7_in kw_112 kw_113 ⟨by decide, by decide⟩ ⟨Nat.le_of_ble_eq_true rfl, Nat.le_of_ble_eq_true rfl⟩ (Nat.le_of_ble_eq_true rfl) rfl rfl dX7_hash_10 (fun r2 w2 ⟨xa2, xk2⟩ => ?_)
  rw [xk2]
  rcases xa2 with ⟨ra2, hy_a⟩ | ⟨ra2, hy_a⟩
  · rw [ra2]
    obtain ⟨sa, hsa, rfl⟩ := (in_rg (n := 999) (by decide)).mp hy_a
    refine mg_ifN_eq C (tgt := 45) dX7_hash_13 (by decide) (by decide) (fun c_13 => absurd c_13 (by decide)) (fun c_13 => ?_)
    refine mg_iload_n C dX7_hash_16 rfl ?_
    refine mg_iconst C (v := nI 0) dX7_hash_17 (by decide) ?_
    refine mg_iconst C (v := nI 3) dX7_hash_18 (by decide) ?_
    refine mg_callS_i C (rest := []) (c_X7_in D cI cS w1 j (nI 0) (nI 3)) yq_X7_in kw_112 kw_113 ⟨by decide, by decide⟩ ⟨Nat.le_of_ble_eq_true rfl, Nat.le_of_ble_eq_true rfl⟩ (Nat.le_of_ble_eq_true rfl) rfl rfl dX7_hash_19 (fun r3 w3 ⟨xa3, xk3⟩ => ?_)
    rw [xk3]
    rcases xa3 with ⟨ra3, hy_b⟩ | ⟨ra3, hy_b⟩
    · rw [ra3]
      obtain ⟨ja, hja, rfl⟩ := (in_rg (n := 3) (by decide)).mp hy_b
      refine mg_ifN_eq C (tgt := 45) dX7_hash_22 (by decide) (by decide) (fun c_22 => absurd c_22 (by decide)) (fun c_22 => ?_)
      refine mg_iload_n C dX7_hash_25 rfl ?_
      refine mg_iconst C (v := nI 0) dX7_hash_26 (by decide) ?_
      refine mg_sipush C (v := nI 9999) dX7_hash_27 (by decide) ?_
      refine mg_callS_i C (rest := []) (c_X7_in D cI cS w1 x (nI 0) (nI 9999)) yq_X7_in kw_112 kw_113 ⟨by decide, by decide⟩ ⟨Nat.le_of_ble_eq_true rfl, Nat.le_of_ble_eq_true rfl⟩ (Nat.le_of_ble_eq_true rfl) rfl rfl dX7_hash_30 (fun r4 w4 ⟨xa4, xk4⟩ => ?_)
      rw [xk4]
      rcases xa4 with ⟨ra4, hy_c⟩ | ⟨ra4, hy_c⟩
      · rw [ra4]
        obtain ⟨xa, hxa, rfl⟩ := (in_rg (n := 9999) (by decide)).mp hy_c
        refine mg_ifN_eq C (tgt := 45) dX7_hash_33 (by decide) (by decide) (fun c_33 => absurd c_33 (by decide)) (fun c_33 => ?_)
        refine mg_iload_n C dX7_hash_36 rfl ?_
        refine mg_iload_n C dX7_hash_37 rfl ?_
        refine mg_iload_n C dX7_hash_38 rfl ?_
        refine mg_callS_i C (rest := []) (c_X7_hashOf D cI cS w1 sa ja xa hsa (by omega) hxa) yq_X7_hashOf kw_360 kw_361 ⟨by decide, by decide⟩ ⟨Nat.le_of_ble_eq_true rfl, Nat.le_of_ble_eq_true rfl⟩ (Nat.le_of_ble_eq_true rfl) rfl rfl dX7_hash_39 (fun r5 w6 ⟨e_r5, e_w6⟩ => ?_)
        rw [e_w6, e_r5]
        refine mg_goto C (tgt := 46) dX7_hash_42 (by decide) ?_
        exact hR _ _ _ _ dX7_hash_46 ⟨Or.inr ⟨sa, ja, xa, hsa, by omega, hxa, rfl, rfl, rfl, rfl⟩, h_w1_om, fun z q0 => fr_w1 z q0⟩
      · rw [ra4]
        refine mg_ifN_eq C (tgt := 45) dX7_hash_33 (by decide) (by decide) (fun c_33 => ?_) (fun c_33 => absurd c_33 (by decide))
        refine mg_iconst C (v := (-1 : Int32)) dX7_hash_45 (by decide) ?_
        exact hR _ _ _ _ dX7_hash_46 ⟨Or.inl ⟨rfl, fun q => hy_c ((in_rg (by decide)).mpr q.2.2)⟩, h_w1_om, fun z q0 => fr_w1 z q0⟩
    · rw [ra3]
      refine mg_ifN_eq C (tgt := 45) dX7_hash_22 (by decide) (by decide) (fun c_22 => ?_) (fun c_22 => absurd c_22 (by decide))
      refine mg_iconst C (v := (-1 : Int32)) dX7_hash_45 (by decide) ?_
      exact hR _ _ _ _ dX7_hash_46 ⟨Or.inl ⟨rfl, fun q => hy_b ((in_rg (by decide)).mpr ((rg_ix (n := 4) (by decide)).mpr q.2.1))⟩, h_w1_om, fun z q0 => fr_w1 z q0⟩
  · rw [ra2]
    refine mg_ifN_eq C (tgt := 45) dX7_hash_13 (by decide) (by decide) (fun c_13 => ?_) (fun c_13 => absurd c_13 (by decide))
    refine mg_iconst C (v := (-1 : Int32)) dX7_hash_45 (by decide) ?_
    exact hR _ _ _ _ dX7_hash_46 ⟨Or.inl ⟨rfl, fun q => hy_a ((in_rg (by decide)).mpr q.1)⟩, h_w1_om, fun z q0 => fr_w1 z q0⟩

set_option maxHeartbeats 4000000 in
set_option maxRecDepth 20000 in
theorem c_X7_low_H (D : va_G) (cI cS : ClassId) (w : mwT) (om md aso asi ase ato amo alo aro asr : Nat) (th : Int32) (so : Nat → Nat) (si : Nat → Nat) (se : Nat → Nat) (to : Nat → Int32) (mo : Nat → Nat) (lo : Nat → Int32) (ro : Nat → Int32) (s h k sd mv : Nat) (tot : Int32) (f g : Nat → Int32) (x : Int32) (hom : w om = some (.inr (6, [.int th, .int (nI md), .ref aso, .ref asi, .ref ase, .ref ato, .ref amo, .ref alo, .ref aro, .ref asr]))) (h_aso : w aso = some (eI cI 8 (lnF so))) (h_asi : w asi = some (eI cI 8 (lnF si))) (h_ase : w ase = some (eI cI 8 (lnF se))) (h_ato : w ato = some (eI cI 8 to)) (h_amo : w amo = some (eI cI 8 (lnF mo))) (h_alo : w alo = some (eI cI 8 lo)) (h_aro : w aro = some (eI cI 9600 ro)) (hmd : md ≤ 8) (hs : s < md) (hsd : sd ≤ 999) (hso : so s = 0) (hsi : si s = k) (hse : se s = sd) (hto : to s = tot) (hmo : mo s = mv) (hk1 : 1 ≤ k) (hk2 : k ≤ 20) (hh : h ≤ k) (hv : HvM ro s f g h) : mMi yX7_low cX7_low 4 (some .int) (rmL 8) [.ref om, .int (nI s), .int x] D cI cS w (fun r w1 => ((¬ rg 9999 x ∧ r = -1) ∨ (∃ xa : Nat, xa ≤ 9999 ∧ x = nI xa ∧ r = alU f g h (nI xa))) ∧ w1 om = some (.inr (6, [.int (nI 0), .int (nI md), .ref aso, .ref asi, .ref ase, .ref ato, .ref amo, .ref alo, .ref aro, .ref asr])) ∧ ∀ z : Nat, z ≠ om → w1 z = w z) := by
  refine mMi.of (by decide) (Nat.le_of_ble_eq_true rfl) ?_
  intro X C hN hR
  have fr_w : ∀ zz : Nat, w zz = w zz := fun _ => rfl
  refine mg_sub (lv' := [(0, .ref om), (1, .int (nI s)), (2, .int x)]) [0, 1, 2] rfl ?_
  have hs8 : s < 8 := by omega
  refine mg_aload_n C dX7_low_0 rfl ?_
  refine mg_iconst C (v := nI 0) dX7_low_1 (by decide) ?_
  refine mg_put C (fs' := [.int (nI 0), .int (nI md), .ref aso, .ref asi, .ref ase, .ref ato, .ref amo, .ref alo, .ref aro, .ref asr]) inT7 hom rfl 0 (by decide) kw_28 (Or.inl rfl) tyX7_ok nmX7 rfl rfl rfl rfl (Nat.le_of_ble_eq_true rfl) dX7_low_2 (fun w1 e_w1 => ?_)
  have h_w1_om : w1 om = some (.inr (6, [.int (nI 0), .int (nI md), .ref aso, .ref asi, .ref ase, .ref ato, .ref amo, .ref alo, .ref aro, .ref asr])) := (congrFun e_w1 _).trans mwu_eq
  have h_w1_aso : w1 aso = some (eI cI 8 (lnF so)) := (congrFun e_w1 _).trans ((mwu_ne (mw_ao h_aso hom)).trans h_aso)
  have h_w1_asi : w1 asi = some (eI cI 8 (lnF si)) := (congrFun e_w1 _).trans ((mwu_ne (mw_ao h_asi hom)).trans h_asi)
  have h_w1_ase : w1 ase = some (eI cI 8 (lnF se)) := (congrFun e_w1 _).trans ((mwu_ne (mw_ao h_ase hom)).trans h_ase)
  have h_w1_ato : w1 ato = some (eI cI 8 to) := (congrFun e_w1 _).trans ((mwu_ne (mw_ao h_ato hom)).trans h_ato)
  have h_w1_amo : w1 amo = some (eI cI 8 (lnF mo)) := (congrFun e_w1 _).trans ((mwu_ne (mw_ao h_amo hom)).trans h_amo)
  have h_w1_alo : w1 alo = some (eI cI 8 lo) := (congrFun e_w1 _).trans ((mwu_ne (mw_ao h_alo hom)).trans h_alo)
  have h_w1_aro : w1 aro = some (eI cI 9600 ro) := (congrFun e_w1 _).trans ((mwu_ne (mw_ao h_aro hom)).trans h_aro)
  have fr_w1 : ∀ zz : Nat, zz ≠ om → w1 zz = w zz := fun zz g0 => (congrFun e_w1 zz).trans ((mwu_ne g0).trans (fr_w zz ))
  refine mg_aload_n C dX7_low_5 rfl ?_
  refine mg_iload_n C dX7_low_6 rfl ?_
  refine mg_iload_n C dX7_low_7 rfl ?_
  refine mg_aload_n C dX7_low_8 rfl ?_
  refine mg_iload_n C dX7_low_9 rfl ?_
  refine mg_iconst C (v := nI 0) dX7_low_10 (by decide) ?_
  refine mg_iconst C (v := nI 4) dX7_low_11 (by decide) ?_
  refine mg_callV_i C h_w1_om rfl (rest := [.int x, .int (nI s), .ref om]) (c_X7_isOf_a D cI cS w1 om md aso asi ase ato amo alo aro asr (nI 0) so s 0 0 4 h_w1_om h_w1_aso hmd hs hso (by decide) (by decide) (by decide) rfl) yq_X7_isOf kw_463 kw_464 kw_465 ⟨by decide, by decide⟩ ⟨Nat.le_of_ble_eq_true rfl, Nat.le_of_ble_eq_true rfl⟩ (Nat.le_of_ble_eq_true rfl) rfl rfl dX7_low_12 (fun r2 w3 ⟨e_r2, e_w3⟩ => ?_)
  rw [e_w3, e_r2]
  refine mg_callV_i C h_w1_om rfl (rest := []) (c_X7_isBad_in D cI cS w1 om md aso asi ase ato amo alo aro asr (nI 0)  s x h_w1_om hmd hs) yq_X7_isBad kw_467 kw_468 kw_469 ⟨by decide, by decide⟩ ⟨Nat.le_of_ble_eq_true rfl, Nat.le_of_ble_eq_true rfl⟩ (Nat.le_of_ble_eq_true rfl) rfl rfl dX7_low_15 (fun r4 w4 ⟨xa4, xk4⟩ => ?_)
  rw [xk4]
  rcases xa4 with ⟨ra4, hy_bad⟩ | ⟨ra4, hy_bad⟩
  · rw [ra4]
    refine mg_ifN_eq C (tgt := 23) dX7_low_18 (by decide) (by decide) (fun c_18 => absurd c_18 (by decide)) (fun c_18 => ?_)
    refine mg_iconst C (v := (-1 : Int32)) dX7_low_21 (by decide) ?_
    exact hR _ _ _ _ dX7_low_22 ⟨Or.inl ⟨hy_bad, rfl⟩, h_w1_om, fun z q0 => fr_w1 z q0⟩
  · rw [ra4]
    obtain ⟨xa, hxa, rfl⟩ := hy_bad
    refine mg_ifN_eq C (tgt := 23) dX7_low_18 (by decide) (by decide) (fun c_18 => ?_) (fun c_18 => absurd c_18 (by decide))
    refine mg_aload_n C dX7_low_23 rfl ?_
    refine mg_get C inT7 h_w1_om rfl 2 (by decide) kw_20 (Or.inl rfl) rfl dX7_low_24 ?_
    refine mg_iload_n C dX7_low_27 rfl ?_
    refine mg_ialdN C h_w1_aso (by omega) (by omega) dX7_low_28 ?_
    rw [show lnF so s = nI 0 from congrArg nI hso]
    refine mg_ifN_ne C (tgt := 39) dX7_low_29 (by decide) (by decide) (fun c_29 => absurd c_29 (by decide)) (fun c_29 => ?_)
    refine mg_aload_n C dX7_low_32 rfl ?_
    refine mg_iload_n C dX7_low_33 rfl ?_
    refine mg_iload_n C dX7_low_34 rfl ?_
    refine mg_callV_i C h_w1_om rfl (rest := []) (c_X7_numberOf D cI cS w1 om md aso asi ase ato amo alo aro asr (nI 0) ro s h f g (nI xa) h_w1_om h_w1_aro hs8 hv (by omega)) yq_X7_numberOf kw_471 kw_472 kw_473 ⟨by decide, by decide⟩ ⟨Nat.le_of_ble_eq_true rfl, Nat.le_of_ble_eq_true rfl⟩ (Nat.le_of_ble_eq_true rfl) rfl rfl dX7_low_35 (fun r5 w6 ⟨e_r5, e_w6⟩ => ?_)
    rw [e_w6, e_r5]
    exact hR _ _ _ _ dX7_low_38 ⟨Or.inr ⟨xa, hxa, rfl, rfl⟩, h_w1_om, fun z q0 => fr_w1 z q0⟩

set_option maxHeartbeats 4000000 in
set_option maxRecDepth 20000 in
theorem c_X7_high_H (D : va_G) (cI cS : ClassId) (w : mwT) (om md aso asi ase ato amo alo aro asr : Nat) (th : Int32) (so : Nat → Nat) (si : Nat → Nat) (se : Nat → Nat) (to : Nat → Int32) (mo : Nat → Nat) (lo : Nat → Int32) (ro : Nat → Int32) (s h k sd mv : Nat) (tot : Int32) (f g : Nat → Int32) (x : Int32) (hom : w om = some (.inr (6, [.int th, .int (nI md), .ref aso, .ref asi, .ref ase, .ref ato, .ref amo, .ref alo, .ref aro, .ref asr]))) (h_aso : w aso = some (eI cI 8 (lnF so))) (h_asi : w asi = some (eI cI 8 (lnF si))) (h_ase : w ase = some (eI cI 8 (lnF se))) (h_ato : w ato = some (eI cI 8 to)) (h_amo : w amo = some (eI cI 8 (lnF mo))) (h_alo : w alo = some (eI cI 8 lo)) (h_aro : w aro = some (eI cI 9600 ro)) (hmd : md ≤ 8) (hs : s < md) (hsd : sd ≤ 999) (hso : so s = 0) (hsi : si s = k) (hse : se s = sd) (hto : to s = tot) (hmo : mo s = mv) (hk1 : 1 ≤ k) (hk2 : k ≤ 20) (hh : h ≤ k) (hv : HvM ro s f g h) : mMi yX7_high cX7_high 5 (some .int) (rmL 8) [.ref om, .int (nI s), .int x] D cI cS w (fun r w1 => ((¬ rg 9999 x ∧ r = -1) ∨ (∃ xa : Nat, xa ≤ 9999 ∧ x = nI xa ∧ r = alU f g h (nI xa) + lo s)) ∧ w1 om = some (.inr (6, [.int (nI 0), .int (nI md), .ref aso, .ref asi, .ref ase, .ref ato, .ref amo, .ref alo, .ref aro, .ref asr])) ∧ ∀ z : Nat, z ≠ om → w1 z = w z) := by
  refine mMi.of (by decide) (Nat.le_of_ble_eq_true rfl) ?_
  intro X C hN hR
  have fr_w : ∀ zz : Nat, w zz = w zz := fun _ => rfl
  refine mg_sub (lv' := [(0, .ref om), (1, .int (nI s)), (2, .int x)]) [0, 1, 2] rfl ?_
  have hs8 : s < 8 := by omega
  refine mg_aload_n C dX7_high_0 rfl ?_
  refine mg_iconst C (v := nI 0) dX7_high_1 (by decide) ?_
  refine mg_put C (fs' := [.int (nI 0), .int (nI md), .ref aso, .ref asi, .ref ase, .ref ato, .ref amo, .ref alo, .ref aro, .ref asr]) inT7 hom rfl 0 (by decide) kw_28 (Or.inl rfl) tyX7_ok nmX7 rfl rfl rfl rfl (Nat.le_of_ble_eq_true rfl) dX7_high_2 (fun w1 e_w1 => ?_)
  have h_w1_om : w1 om = some (.inr (6, [.int (nI 0), .int (nI md), .ref aso, .ref asi, .ref ase, .ref ato, .ref amo, .ref alo, .ref aro, .ref asr])) := (congrFun e_w1 _).trans mwu_eq
  have h_w1_aso : w1 aso = some (eI cI 8 (lnF so)) := (congrFun e_w1 _).trans ((mwu_ne (mw_ao h_aso hom)).trans h_aso)
  have h_w1_asi : w1 asi = some (eI cI 8 (lnF si)) := (congrFun e_w1 _).trans ((mwu_ne (mw_ao h_asi hom)).trans h_asi)
  have h_w1_ase : w1 ase = some (eI cI 8 (lnF se)) := (congrFun e_w1 _).trans ((mwu_ne (mw_ao h_ase hom)).trans h_ase)
  have h_w1_ato : w1 ato = some (eI cI 8 to) := (congrFun e_w1 _).trans ((mwu_ne (mw_ao h_ato hom)).trans h_ato)
  have h_w1_amo : w1 amo = some (eI cI 8 (lnF mo)) := (congrFun e_w1 _).trans ((mwu_ne (mw_ao h_amo hom)).trans h_amo)
  have h_w1_alo : w1 alo = some (eI cI 8 lo) := (congrFun e_w1 _).trans ((mwu_ne (mw_ao h_alo hom)).trans h_alo)
  have h_w1_aro : w1 aro = some (eI cI 9600 ro) := (congrFun e_w1 _).trans ((mwu_ne (mw_ao h_aro hom)).trans h_aro)
  have fr_w1 : ∀ zz : Nat, zz ≠ om → w1 zz = w zz := fun zz g0 => (congrFun e_w1 zz).trans ((mwu_ne g0).trans (fr_w zz ))
  refine mg_aload_n C dX7_high_5 rfl ?_
  refine mg_iload_n C dX7_high_6 rfl ?_
  refine mg_iload_n C dX7_high_7 rfl ?_
  refine mg_aload_n C dX7_high_8 rfl ?_
  refine mg_iload_n C dX7_high_9 rfl ?_
  refine mg_iconst C (v := nI 0) dX7_high_10 (by decide) ?_
  refine mg_iconst C (v := nI 4) dX7_high_11 (by decide) ?_
  refine mg_callV_i C h_w1_om rfl (rest := [.int x, .int (nI s), .ref om]) (c_X7_isOf_a D cI cS w1 om md aso asi ase ato amo alo aro asr (nI 0) so s 0 0 4 h_w1_om h_w1_aso hmd hs hso (by decide) (by decide) (by decide) rfl) yq_X7_isOf kw_463 kw_464 kw_465 ⟨by decide, by decide⟩ ⟨Nat.le_of_ble_eq_true rfl, Nat.le_of_ble_eq_true rfl⟩ (Nat.le_of_ble_eq_true rfl) rfl rfl dX7_high_12 (fun r2 w3 ⟨e_r2, e_w3⟩ => ?_)
  rw [e_w3, e_r2]
  refine mg_ifN_ne C (tgt := 28) dX7_high_15 (by decide) (by decide) (fun c_15 => ?_) (fun c_15 => absurd c_15 (by decide))
  refine mg_iconst C (v := nI 1) dX7_high_28 (by decide) ?_
  refine mg_goto C (tgt := 33) dX7_high_29 (by decide) ?_
  refine mg_callV_i C h_w1_om rfl (rest := []) (c_X7_isBad_in D cI cS w1 om md aso asi ase ato amo alo aro asr (nI 0)  s x h_w1_om hmd hs) yq_X7_isBad kw_467 kw_468 kw_469 ⟨by decide, by decide⟩ ⟨Nat.le_of_ble_eq_true rfl, Nat.le_of_ble_eq_true rfl⟩ (Nat.le_of_ble_eq_true rfl) rfl rfl dX7_high_33 (fun r4 w4 ⟨xa4, xk4⟩ => ?_)
  rw [xk4]
  rcases xa4 with ⟨ra4, hy_bad⟩ | ⟨ra4, hy_bad⟩
  · rw [ra4]
    refine mg_ifN_eq C (tgt := 41) dX7_high_36 (by decide) (by decide) (fun c_36 => absurd c_36 (by decide)) (fun c_36 => ?_)
    refine mg_iconst C (v := (-1 : Int32)) dX7_high_39 (by decide) ?_
    exact hR _ _ _ _ dX7_high_40 ⟨Or.inl ⟨hy_bad, rfl⟩, h_w1_om, fun z q0 => fr_w1 z q0⟩
  · rw [ra4]
    obtain ⟨xa, hxa, rfl⟩ := hy_bad
    refine mg_ifN_eq C (tgt := 41) dX7_high_36 (by decide) (by decide) (fun c_36 => ?_) (fun c_36 => absurd c_36 (by decide))
    refine mg_aload_n C dX7_high_41 rfl ?_
    refine mg_get C inT7 h_w1_om rfl 2 (by decide) kw_20 (Or.inl rfl) rfl dX7_high_42 ?_
    refine mg_iload_n C dX7_high_45 rfl ?_
    refine mg_ialdN C h_w1_aso (by omega) (by omega) dX7_high_46 ?_
    rw [show lnF so s = nI 0 from congrArg nI hso]
    refine mg_ifN_ne C (tgt := 64) dX7_high_47 (by decide) (by decide) (fun c_47 => absurd c_47 (by decide)) (fun c_47 => ?_)
    refine mg_aload_n C dX7_high_50 rfl ?_
    refine mg_iload_n C dX7_high_51 rfl ?_
    refine mg_iload_n C dX7_high_52 rfl ?_
    refine mg_callV_i C h_w1_om rfl (rest := []) (c_X7_numberOf D cI cS w1 om md aso asi ase ato amo alo aro asr (nI 0) ro s h f g (nI xa) h_w1_om h_w1_aro hs8 hv (by omega)) yq_X7_numberOf kw_471 kw_472 kw_473 ⟨by decide, by decide⟩ ⟨Nat.le_of_ble_eq_true rfl, Nat.le_of_ble_eq_true rfl⟩ (Nat.le_of_ble_eq_true rfl) rfl rfl dX7_high_53 (fun r5 w6 ⟨e_r5, e_w6⟩ => ?_)
    rw [e_w6, e_r5]
    refine mg_aload_n C dX7_high_56 rfl ?_
    refine mg_get C inT7 h_w1_om rfl 7 (by decide) kw_25 (Or.inl rfl) rfl dX7_high_57 ?_
    refine mg_iload_n C dX7_high_60 rfl ?_
    refine mg_ialdN C h_w1_alo (by omega) (by omega) dX7_high_61 ?_
    refine mg_iadd C (z := (alU f g h (nI xa)) + (lo s)) dX7_high_62 rfl ?_
    exact hR _ _ _ _ dX7_high_63 ⟨Or.inr ⟨xa, hxa, rfl, rfl⟩, h_w1_om, fun z q0 => fr_w1 z q0⟩

set_option maxHeartbeats 4000000 in
set_option maxRecDepth 20000 in
theorem c_X7_has_H (D : va_G) (cI cS : ClassId) (w : mwT) (om md aso asi ase ato amo alo aro asr : Nat) (th : Int32) (so : Nat → Nat) (si : Nat → Nat) (se : Nat → Nat) (to : Nat → Int32) (mo : Nat → Nat) (lo : Nat → Int32) (ro : Nat → Int32) (s h k sd mv : Nat) (tot : Int32) (f g : Nat → Int32) (x : Int32) (hom : w om = some (.inr (6, [.int th, .int (nI md), .ref aso, .ref asi, .ref ase, .ref ato, .ref amo, .ref alo, .ref aro, .ref asr]))) (h_aso : w aso = some (eI cI 8 (lnF so))) (h_asi : w asi = some (eI cI 8 (lnF si))) (h_ase : w ase = some (eI cI 8 (lnF se))) (h_ato : w ato = some (eI cI 8 to)) (h_amo : w amo = some (eI cI 8 (lnF mo))) (h_alo : w alo = some (eI cI 8 lo)) (h_aro : w aro = some (eI cI 9600 ro)) (hmd : md ≤ 8) (hs : s < md) (hsd : sd ≤ 999) (hso : so s = 0) (hsi : si s = k) (hse : se s = sd) (hto : to s = tot) (hmo : mo s = mv) (hk1 : 1 ≤ k) (hk2 : k ≤ 20) (hh : h ≤ k) (hv : HvM ro s f g h) : mMi yX7_has cX7_has 6 (some .int) (rmL 8) [.ref om, .int (nI s), .int x] D cI cS w (fun r w1 => (r = -1) ∧ w1 om = some (.inr (6, [.int (nI 0), .int (nI md), .ref aso, .ref asi, .ref ase, .ref ato, .ref amo, .ref alo, .ref aro, .ref asr])) ∧ ∀ z : Nat, z ≠ om → w1 z = w z) := by
  refine mMi.of (by decide) (Nat.le_of_ble_eq_true rfl) ?_
  intro X C hN hR
  have fr_w : ∀ zz : Nat, w zz = w zz := fun _ => rfl
  refine mg_sub (lv' := [(0, .ref om), (1, .int (nI s)), (2, .int x)]) [0, 1, 2] rfl ?_
  have hs8 : s < 8 := by omega
  refine mg_aload_n C dX7_has_0 rfl ?_
  refine mg_iconst C (v := nI 0) dX7_has_1 (by decide) ?_
  refine mg_put C (fs' := [.int (nI 0), .int (nI md), .ref aso, .ref asi, .ref ase, .ref ato, .ref amo, .ref alo, .ref aro, .ref asr]) inT7 hom rfl 0 (by decide) kw_28 (Or.inl rfl) tyX7_ok nmX7 rfl rfl rfl rfl (Nat.le_of_ble_eq_true rfl) dX7_has_2 (fun w1 e_w1 => ?_)
  have h_w1_om : w1 om = some (.inr (6, [.int (nI 0), .int (nI md), .ref aso, .ref asi, .ref ase, .ref ato, .ref amo, .ref alo, .ref aro, .ref asr])) := (congrFun e_w1 _).trans mwu_eq
  have h_w1_aso : w1 aso = some (eI cI 8 (lnF so)) := (congrFun e_w1 _).trans ((mwu_ne (mw_ao h_aso hom)).trans h_aso)
  have h_w1_asi : w1 asi = some (eI cI 8 (lnF si)) := (congrFun e_w1 _).trans ((mwu_ne (mw_ao h_asi hom)).trans h_asi)
  have h_w1_ase : w1 ase = some (eI cI 8 (lnF se)) := (congrFun e_w1 _).trans ((mwu_ne (mw_ao h_ase hom)).trans h_ase)
  have h_w1_ato : w1 ato = some (eI cI 8 to) := (congrFun e_w1 _).trans ((mwu_ne (mw_ao h_ato hom)).trans h_ato)
  have h_w1_amo : w1 amo = some (eI cI 8 (lnF mo)) := (congrFun e_w1 _).trans ((mwu_ne (mw_ao h_amo hom)).trans h_amo)
  have h_w1_alo : w1 alo = some (eI cI 8 lo) := (congrFun e_w1 _).trans ((mwu_ne (mw_ao h_alo hom)).trans h_alo)
  have h_w1_aro : w1 aro = some (eI cI 9600 ro) := (congrFun e_w1 _).trans ((mwu_ne (mw_ao h_aro hom)).trans h_aro)
  have fr_w1 : ∀ zz : Nat, zz ≠ om → w1 zz = w zz := fun zz g0 => (congrFun e_w1 zz).trans ((mwu_ne g0).trans (fr_w zz ))
  refine mg_aload_n C dX7_has_5 rfl ?_
  refine mg_iload_n C dX7_has_6 rfl ?_
  refine mg_iload_n C dX7_has_7 rfl ?_
  refine mg_aload_n C dX7_has_8 rfl ?_
  refine mg_iload_n C dX7_has_9 rfl ?_
  refine mg_iconst C (v := nI 2) dX7_has_10 (by decide) ?_
  refine mg_iconst C (v := nI 3) dX7_has_11 (by decide) ?_
  refine mg_callV_i C h_w1_om rfl (rest := [.int x, .int (nI s), .ref om]) (c_X7_isOf_n D cI cS w1 om md aso asi ase ato amo alo aro asr (nI 0) so s 0 2 3 h_w1_om h_w1_aso hmd hs hso (by decide) (by decide) (by decide) (by decide) (by decide)) yq_X7_isOf kw_463 kw_464 kw_465 ⟨by decide, by decide⟩ ⟨Nat.le_of_ble_eq_true rfl, Nat.le_of_ble_eq_true rfl⟩ (Nat.le_of_ble_eq_true rfl) rfl rfl dX7_has_12 (fun r2 w3 ⟨e_r2, e_w3⟩ => ?_)
  rw [e_w3, e_r2]
  refine mg_callV_i C h_w1_om rfl (rest := []) (c_X7_isBad_ns D cI cS w1 om md aso asi ase ato amo alo aro asr (nI 0)  s x h_w1_om hmd hs) yq_X7_isBad kw_467 kw_468 kw_469 ⟨by decide, by decide⟩ ⟨Nat.le_of_ble_eq_true rfl, Nat.le_of_ble_eq_true rfl⟩ (Nat.le_of_ble_eq_true rfl) rfl rfl dX7_has_15 (fun r4 w5 ⟨e_r4, e_w5⟩ => ?_)
  rw [e_w5, e_r4]
  refine mg_ifN_eq C (tgt := 23) dX7_has_18 (by decide) (by decide) (fun c_18 => absurd c_18 (by decide)) (fun c_18 => ?_)
  refine mg_iconst C (v := (-1 : Int32)) dX7_has_21 (by decide) ?_
  exact hR _ _ _ _ dX7_has_22 ⟨rfl, h_w1_om, fun z q0 => fr_w1 z q0⟩

set_option maxHeartbeats 4000000 in
set_option maxRecDepth 20000 in
theorem c_X7_distinct_H (D : va_G) (cI cS : ClassId) (w : mwT) (om md aso asi ase ato amo alo aro asr : Nat) (th : Int32) (so : Nat → Nat) (si : Nat → Nat) (se : Nat → Nat) (to : Nat → Int32) (mo : Nat → Nat) (lo : Nat → Int32) (ro : Nat → Int32) (s h k sd mv : Nat) (tot : Int32) (f g : Nat → Int32) (hom : w om = some (.inr (6, [.int th, .int (nI md), .ref aso, .ref asi, .ref ase, .ref ato, .ref amo, .ref alo, .ref aro, .ref asr]))) (h_aso : w aso = some (eI cI 8 (lnF so))) (h_asi : w asi = some (eI cI 8 (lnF si))) (h_ase : w ase = some (eI cI 8 (lnF se))) (h_ato : w ato = some (eI cI 8 to)) (h_amo : w amo = some (eI cI 8 (lnF mo))) (h_alo : w alo = some (eI cI 8 lo)) (h_aro : w aro = some (eI cI 9600 ro)) (hmd : md ≤ 8) (hs : s < md) (hsd : sd ≤ 999) (hso : so s = 0) (hsi : si s = k) (hse : se s = sd) (hto : to s = tot) (hmo : mo s = mv) (hk1 : 1 ≤ k) (hk2 : k ≤ 20) (hh : h ≤ k) (hv : HvM ro s f g h) : mMi yX7_distinct cX7_distinct 4 (some .int) (rmL 8) [.ref om, .int (nI s)] D cI cS w (fun r w1 => (r = -1) ∧ w1 om = some (.inr (6, [.int (nI 0), .int (nI md), .ref aso, .ref asi, .ref ase, .ref ato, .ref amo, .ref alo, .ref aro, .ref asr])) ∧ ∀ z : Nat, z ≠ om → w1 z = w z) := by
  refine mMi.of (by decide) (Nat.le_of_ble_eq_true rfl) ?_
  intro X C hN hR
  have fr_w : ∀ zz : Nat, w zz = w zz := fun _ => rfl
  refine mg_sub (lv' := [(0, .ref om), (1, .int (nI s))]) [0, 1] rfl ?_
  have hs8 : s < 8 := by omega
  refine mg_aload_n C dX7_distinct_0 rfl ?_
  refine mg_iconst C (v := nI 0) dX7_distinct_1 (by decide) ?_
  refine mg_put C (fs' := [.int (nI 0), .int (nI md), .ref aso, .ref asi, .ref ase, .ref ato, .ref amo, .ref alo, .ref aro, .ref asr]) inT7 hom rfl 0 (by decide) kw_28 (Or.inl rfl) tyX7_ok nmX7 rfl rfl rfl rfl (Nat.le_of_ble_eq_true rfl) dX7_distinct_2 (fun w1 e_w1 => ?_)
  have h_w1_om : w1 om = some (.inr (6, [.int (nI 0), .int (nI md), .ref aso, .ref asi, .ref ase, .ref ato, .ref amo, .ref alo, .ref aro, .ref asr])) := (congrFun e_w1 _).trans mwu_eq
  have h_w1_aso : w1 aso = some (eI cI 8 (lnF so)) := (congrFun e_w1 _).trans ((mwu_ne (mw_ao h_aso hom)).trans h_aso)
  have h_w1_asi : w1 asi = some (eI cI 8 (lnF si)) := (congrFun e_w1 _).trans ((mwu_ne (mw_ao h_asi hom)).trans h_asi)
  have h_w1_ase : w1 ase = some (eI cI 8 (lnF se)) := (congrFun e_w1 _).trans ((mwu_ne (mw_ao h_ase hom)).trans h_ase)
  have h_w1_ato : w1 ato = some (eI cI 8 to) := (congrFun e_w1 _).trans ((mwu_ne (mw_ao h_ato hom)).trans h_ato)
  have h_w1_amo : w1 amo = some (eI cI 8 (lnF mo)) := (congrFun e_w1 _).trans ((mwu_ne (mw_ao h_amo hom)).trans h_amo)
  have h_w1_alo : w1 alo = some (eI cI 8 lo) := (congrFun e_w1 _).trans ((mwu_ne (mw_ao h_alo hom)).trans h_alo)
  have h_w1_aro : w1 aro = some (eI cI 9600 ro) := (congrFun e_w1 _).trans ((mwu_ne (mw_ao h_aro hom)).trans h_aro)
  have fr_w1 : ∀ zz : Nat, zz ≠ om → w1 zz = w zz := fun zz g0 => (congrFun e_w1 zz).trans ((mwu_ne g0).trans (fr_w zz ))
  refine mg_aload_n C dX7_distinct_5 rfl ?_
  refine mg_iload_n C dX7_distinct_6 rfl ?_
  refine mg_iconst C (v := nI 3) dX7_distinct_7 (by decide) ?_
  refine mg_iconst C (v := nI 3) dX7_distinct_8 (by decide) ?_
  refine mg_callV_i C h_w1_om rfl (rest := []) (c_X7_isOf_n D cI cS w1 om md aso asi ase ato amo alo aro asr (nI 0) so s 0 3 3 h_w1_om h_w1_aso hmd hs hso (by decide) (by decide) (by decide) (by decide) (by decide)) yq_X7_isOf kw_463 kw_464 kw_465 ⟨by decide, by decide⟩ ⟨Nat.le_of_ble_eq_true rfl, Nat.le_of_ble_eq_true rfl⟩ (Nat.le_of_ble_eq_true rfl) rfl rfl dX7_distinct_9 (fun r2 w3 ⟨e_r2, e_w3⟩ => ?_)
  rw [e_w3, e_r2]
  refine mg_ifN_ne C (tgt := 17) dX7_distinct_12 (by decide) (by decide) (fun c_12 => absurd c_12 (by decide)) (fun c_12 => ?_)
  refine mg_iconst C (v := (-1 : Int32)) dX7_distinct_15 (by decide) ?_
  exact hR _ _ _ _ dX7_distinct_16 ⟨rfl, h_w1_om, fun z q0 => fr_w1 z q0⟩

set_option maxHeartbeats 4000000 in
set_option maxRecDepth 20000 in
theorem c_X7_quantile_H (D : va_G) (cI cS : ClassId) (w : mwT) (om md aso asi ase ato amo alo aro asr : Nat) (th : Int32) (so : Nat → Nat) (si : Nat → Nat) (se : Nat → Nat) (to : Nat → Int32) (mo : Nat → Nat) (lo : Nat → Int32) (ro : Nat → Int32) (s h k sd mv : Nat) (tot : Int32) (f g : Nat → Int32) (q : Int32) (hom : w om = some (.inr (6, [.int th, .int (nI md), .ref aso, .ref asi, .ref ase, .ref ato, .ref amo, .ref alo, .ref aro, .ref asr]))) (h_aso : w aso = some (eI cI 8 (lnF so))) (h_asi : w asi = some (eI cI 8 (lnF si))) (h_ase : w ase = some (eI cI 8 (lnF se))) (h_ato : w ato = some (eI cI 8 to)) (h_amo : w amo = some (eI cI 8 (lnF mo))) (h_alo : w alo = some (eI cI 8 lo)) (h_aro : w aro = some (eI cI 9600 ro)) (hmd : md ≤ 8) (hs : s < md) (hsd : sd ≤ 999) (hso : so s = 0) (hsi : si s = k) (hse : se s = sd) (hto : to s = tot) (hmo : mo s = mv) (hk1 : 1 ≤ k) (hk2 : k ≤ 20) (hh : h ≤ k) (hv : HvM ro s f g h) : mMi yX7_quantile cX7_quantile 6 (some .int) (rmL 8) [.ref om, .int (nI s), .int q] D cI cS w (fun r w1 => (r = -1) ∧ w1 om = some (.inr (6, [.int (nI 0), .int (nI md), .ref aso, .ref asi, .ref ase, .ref ato, .ref amo, .ref alo, .ref aro, .ref asr])) ∧ ∀ z : Nat, z ≠ om → w1 z = w z) := by
  refine mMi.of (by decide) (Nat.le_of_ble_eq_true rfl) ?_
  intro X C hN hR
  have fr_w : ∀ zz : Nat, w zz = w zz := fun _ => rfl
  refine mg_sub (lv' := [(0, .ref om), (1, .int (nI s)), (2, .int q)]) [0, 1, 2] rfl ?_
  have hs8 : s < 8 := by omega
  refine mg_aload_n C dX7_quantile_0 rfl ?_
  refine mg_iconst C (v := nI 0) dX7_quantile_1 (by decide) ?_
  refine mg_put C (fs' := [.int (nI 0), .int (nI md), .ref aso, .ref asi, .ref ase, .ref ato, .ref amo, .ref alo, .ref aro, .ref asr]) inT7 hom rfl 0 (by decide) kw_28 (Or.inl rfl) tyX7_ok nmX7 rfl rfl rfl rfl (Nat.le_of_ble_eq_true rfl) dX7_quantile_2 (fun w1 e_w1 => ?_)
  have h_w1_om : w1 om = some (.inr (6, [.int (nI 0), .int (nI md), .ref aso, .ref asi, .ref ase, .ref ato, .ref amo, .ref alo, .ref aro, .ref asr])) := (congrFun e_w1 _).trans mwu_eq
  have h_w1_aso : w1 aso = some (eI cI 8 (lnF so)) := (congrFun e_w1 _).trans ((mwu_ne (mw_ao h_aso hom)).trans h_aso)
  have h_w1_asi : w1 asi = some (eI cI 8 (lnF si)) := (congrFun e_w1 _).trans ((mwu_ne (mw_ao h_asi hom)).trans h_asi)
  have h_w1_ase : w1 ase = some (eI cI 8 (lnF se)) := (congrFun e_w1 _).trans ((mwu_ne (mw_ao h_ase hom)).trans h_ase)
  have h_w1_ato : w1 ato = some (eI cI 8 to) := (congrFun e_w1 _).trans ((mwu_ne (mw_ao h_ato hom)).trans h_ato)
  have h_w1_amo : w1 amo = some (eI cI 8 (lnF mo)) := (congrFun e_w1 _).trans ((mwu_ne (mw_ao h_amo hom)).trans h_amo)
  have h_w1_alo : w1 alo = some (eI cI 8 lo) := (congrFun e_w1 _).trans ((mwu_ne (mw_ao h_alo hom)).trans h_alo)
  have h_w1_aro : w1 aro = some (eI cI 9600 ro) := (congrFun e_w1 _).trans ((mwu_ne (mw_ao h_aro hom)).trans h_aro)
  have fr_w1 : ∀ zz : Nat, zz ≠ om → w1 zz = w zz := fun zz g0 => (congrFun e_w1 zz).trans ((mwu_ne g0).trans (fr_w zz ))
  refine mg_aload_n C dX7_quantile_5 rfl ?_
  refine mg_iload_n C dX7_quantile_6 rfl ?_
  refine mg_iconst C (v := nI 4) dX7_quantile_7 (by decide) ?_
  refine mg_iconst C (v := nI 4) dX7_quantile_8 (by decide) ?_
  refine mg_callV_i C h_w1_om rfl (rest := []) (c_X7_isOf_n D cI cS w1 om md aso asi ase ato amo alo aro asr (nI 0) so s 0 4 4 h_w1_om h_w1_aso hmd hs hso (by decide) (by decide) (by decide) (by decide) (by decide)) yq_X7_isOf kw_463 kw_464 kw_465 ⟨by decide, by decide⟩ ⟨Nat.le_of_ble_eq_true rfl, Nat.le_of_ble_eq_true rfl⟩ (Nat.le_of_ble_eq_true rfl) rfl rfl dX7_quantile_9 (fun r2 w3 ⟨e_r2, e_w3⟩ => ?_)
  rw [e_w3, e_r2]
  refine mg_ifN_eq C (tgt := 29) dX7_quantile_12 (by decide) (by decide) (fun c_12 => ?_) (fun c_12 => absurd c_12 (by decide))
  refine mg_iconst C (v := (-1 : Int32)) dX7_quantile_29 (by decide) ?_
  exact hR _ _ _ _ dX7_quantile_30 ⟨rfl, h_w1_om, fun z q0 => fr_w1 z q0⟩

set_option maxHeartbeats 4000000 in
set_option maxRecDepth 20000 in
theorem c_X7_told_H (D : va_G) (cI cS : ClassId) (w : mwT) (om md aso asi ase ato amo alo aro asr : Nat) (th : Int32) (so : Nat → Nat) (si : Nat → Nat) (se : Nat → Nat) (to : Nat → Int32) (mo : Nat → Nat) (lo : Nat → Int32) (ro : Nat → Int32) (s h k sd mv : Nat) (tot : Int32) (f g : Nat → Int32) (q : Int32) (hom : w om = some (.inr (6, [.int th, .int (nI md), .ref aso, .ref asi, .ref ase, .ref ato, .ref amo, .ref alo, .ref aro, .ref asr]))) (h_aso : w aso = some (eI cI 8 (lnF so))) (h_asi : w asi = some (eI cI 8 (lnF si))) (h_ase : w ase = some (eI cI 8 (lnF se))) (h_ato : w ato = some (eI cI 8 to)) (h_amo : w amo = some (eI cI 8 (lnF mo))) (h_alo : w alo = some (eI cI 8 lo)) (h_aro : w aro = some (eI cI 9600 ro)) (hmd : md ≤ 8) (hs : s < md) (hsd : sd ≤ 999) (hso : so s = 0) (hsi : si s = k) (hse : se s = sd) (hto : to s = tot) (hmo : mo s = mv) (hk1 : 1 ≤ k) (hk2 : k ≤ 20) (hh : h ≤ k) (hv : HvM ro s f g h) : mMi yX7_told cX7_told 3 (some .int) (rmL 8) [.ref om, .int (nI s), .int q] D cI cS w (fun r w1 => ((¬ rg 6 q ∧ r = -1) ∨ (q = nI 0 ∧ r = nI 0) ∨ (q = nI 1 ∧ r = nI k) ∨ (q = nI 2 ∧ r = nI sd) ∨ (q = nI 3 ∧ r = tot + nI 10000000) ∨ (q = nI 4 ∧ r = nI mv) ∨ (q = nI 5 ∧ r = lo s) ∨ (q = nI 6 ∧ r = nI h)) ∧ w1 om = some (.inr (6, [.int (nI 0), .int (nI md), .ref aso, .ref asi, .ref ase, .ref ato, .ref amo, .ref alo, .ref aro, .ref asr])) ∧ ∀ z : Nat, z ≠ om → w1 z = w z) := by
  refine mMi.of (by decide) (Nat.le_of_ble_eq_true rfl) ?_
  intro X C hN hR
  have fr_w : ∀ zz : Nat, w zz = w zz := fun _ => rfl
  refine mg_sub (lv' := [(0, .ref om), (1, .int (nI s)), (2, .int q)]) [0, 1, 2] rfl ?_
  have hs8 : s < 8 := by omega
  refine mg_aload_n C dX7_told_0 rfl ?_
  refine mg_iconst C (v := nI 0) dX7_told_1 (by decide) ?_
  refine mg_put C (fs' := [.int (nI 0), .int (nI md), .ref aso, .ref asi, .ref ase, .ref ato, .ref amo, .ref alo, .ref aro, .ref asr]) inT7 hom rfl 0 (by decide) kw_28 (Or.inl rfl) tyX7_ok nmX7 rfl rfl rfl rfl (Nat.le_of_ble_eq_true rfl) dX7_told_2 (fun w1 e_w1 => ?_)
  have h_w1_om : w1 om = some (.inr (6, [.int (nI 0), .int (nI md), .ref aso, .ref asi, .ref ase, .ref ato, .ref amo, .ref alo, .ref aro, .ref asr])) := (congrFun e_w1 _).trans mwu_eq
  have h_w1_aso : w1 aso = some (eI cI 8 (lnF so)) := (congrFun e_w1 _).trans ((mwu_ne (mw_ao h_aso hom)).trans h_aso)
  have h_w1_asi : w1 asi = some (eI cI 8 (lnF si)) := (congrFun e_w1 _).trans ((mwu_ne (mw_ao h_asi hom)).trans h_asi)
  have h_w1_ase : w1 ase = some (eI cI 8 (lnF se)) := (congrFun e_w1 _).trans ((mwu_ne (mw_ao h_ase hom)).trans h_ase)
  have h_w1_ato : w1 ato = some (eI cI 8 to) := (congrFun e_w1 _).trans ((mwu_ne (mw_ao h_ato hom)).trans h_ato)
  have h_w1_amo : w1 amo = some (eI cI 8 (lnF mo)) := (congrFun e_w1 _).trans ((mwu_ne (mw_ao h_amo hom)).trans h_amo)
  have h_w1_alo : w1 alo = some (eI cI 8 lo) := (congrFun e_w1 _).trans ((mwu_ne (mw_ao h_alo hom)).trans h_alo)
  have h_w1_aro : w1 aro = some (eI cI 9600 ro) := (congrFun e_w1 _).trans ((mwu_ne (mw_ao h_aro hom)).trans h_aro)
  have fr_w1 : ∀ zz : Nat, zz ≠ om → w1 zz = w zz := fun zz g0 => (congrFun e_w1 zz).trans ((mwu_ne g0).trans (fr_w zz ))
  refine mg_aload_n C dX7_told_5 rfl ?_
  refine mg_iload_n C dX7_told_6 rfl ?_
  refine mg_callV_i C h_w1_om rfl (rest := []) (c_X7_none_in D cI cS w1 om md aso asi ase ato amo alo aro asr (nI 0)  s h_w1_om hmd hs) yq_X7_none kw_197 kw_198 kw_199 ⟨by decide, by decide⟩ ⟨Nat.le_of_ble_eq_true rfl, Nat.le_of_ble_eq_true rfl⟩ (Nat.le_of_ble_eq_true rfl) rfl rfl dX7_told_7 (fun r2 w3 ⟨e_r2, e_w3⟩ => ?_)
  rw [e_w3, e_r2]
  refine mg_ifN_eq C (tgt := 15) dX7_told_10 (by decide) (by decide) (fun c_10 => ?_) (fun c_10 => absurd c_10 (by decide))
  refine mg_iload_n C dX7_told_15 rfl ?_
  rcases Classical.em (rg 6 q) with ⟨jt16, hjjt16, ejt16⟩ | hq16
  · rcases (show jt16 = 0 ∨ jt16 = 1 ∨ jt16 = 2 ∨ jt16 = 3 ∨ jt16 = 4 ∨ jt16 = 5 ∨ jt16 = 6 by omega) with zjt16 | zjt16 | zjt16 | zjt16 | zjt16 | zjt16 | zjt16
    · rw [zjt16] at ejt16
      rw [ejt16]
      refine mg_tabIn C (tgt := 60) (off := 44) dX7_told_16 (by decide) (by decide) rfl (by decide) ?_
      refine mg_aload_n C dX7_told_60 rfl ?_
      refine mg_get C inT7 h_w1_om rfl 2 (by decide) kw_20 (Or.inl rfl) rfl dX7_told_61 ?_
      refine mg_iload_n C dX7_told_64 rfl ?_
      refine mg_ialdN C h_w1_aso (by omega) (by omega) dX7_told_65 ?_
      rw [show lnF so s = nI 0 from congrArg nI hso]
      exact hR _ _ _ _ dX7_told_66 ⟨Or.inr (Or.inl ⟨ejt16, rfl⟩), h_w1_om, fun z q0 => fr_w1 z q0⟩
    · rw [zjt16] at ejt16
      rw [ejt16]
      refine mg_tabIn C (tgt := 67) (off := 51) dX7_told_16 (by decide) (by decide) rfl (by decide) ?_
      refine mg_aload_n C dX7_told_67 rfl ?_
      refine mg_get C inT7 h_w1_om rfl 3 (by decide) kw_21 (Or.inl rfl) rfl dX7_told_68 ?_
      refine mg_iload_n C dX7_told_71 rfl ?_
      refine mg_ialdN C h_w1_asi (by omega) (by omega) dX7_told_72 ?_
      rw [show lnF si s = nI k from congrArg nI hsi]
      exact hR _ _ _ _ dX7_told_73 ⟨Or.inr (Or.inr (Or.inl ⟨ejt16, rfl⟩)), h_w1_om, fun z q0 => fr_w1 z q0⟩
    · rw [zjt16] at ejt16
      rw [ejt16]
      refine mg_tabIn C (tgt := 74) (off := 58) dX7_told_16 (by decide) (by decide) rfl (by decide) ?_
      refine mg_aload_n C dX7_told_74 rfl ?_
      refine mg_get C inT7 h_w1_om rfl 4 (by decide) kw_22 (Or.inl rfl) rfl dX7_told_75 ?_
      refine mg_iload_n C dX7_told_78 rfl ?_
      refine mg_ialdN C h_w1_ase (by omega) (by omega) dX7_told_79 ?_
      rw [show lnF se s = nI sd from congrArg nI hse]
      exact hR _ _ _ _ dX7_told_80 ⟨Or.inr (Or.inr (Or.inr (Or.inl ⟨ejt16, rfl⟩))), h_w1_om, fun z q0 => fr_w1 z q0⟩
    · rw [zjt16] at ejt16
      rw [ejt16]
      refine mg_tabIn C (tgt := 81) (off := 65) dX7_told_16 (by decide) (by decide) rfl (by decide) ?_
      refine mg_aload_n C dX7_told_81 rfl ?_
      refine mg_get C inT7 h_w1_om rfl 5 (by decide) kw_23 (Or.inl rfl) rfl dX7_told_82 ?_
      refine mg_iload_n C dX7_told_85 rfl ?_
      refine mg_ialdN C h_w1_ato (by omega) (by omega) dX7_told_86 ?_
      rw [hto]
      refine mg_ldc C (v := nI 10000000) dX7_told_87 kw_231 (by decide) ?_
      refine mg_iadd C (z := tot + (nI 10000000)) dX7_told_89 rfl ?_
      exact hR _ _ _ _ dX7_told_90 ⟨Or.inr (Or.inr (Or.inr (Or.inr (Or.inl ⟨ejt16, rfl⟩)))), h_w1_om, fun z q0 => fr_w1 z q0⟩
    · rw [zjt16] at ejt16
      rw [ejt16]
      refine mg_tabIn C (tgt := 91) (off := 75) dX7_told_16 (by decide) (by decide) rfl (by decide) ?_
      refine mg_aload_n C dX7_told_91 rfl ?_
      refine mg_get C inT7 h_w1_om rfl 6 (by decide) kw_24 (Or.inl rfl) rfl dX7_told_92 ?_
      refine mg_iload_n C dX7_told_95 rfl ?_
      refine mg_ialdN C h_w1_amo (by omega) (by omega) dX7_told_96 ?_
      rw [show lnF mo s = nI mv from congrArg nI hmo]
      exact hR _ _ _ _ dX7_told_97 ⟨Or.inr (Or.inr (Or.inr (Or.inr (Or.inr (Or.inl ⟨ejt16, rfl⟩))))), h_w1_om, fun z q0 => fr_w1 z q0⟩
    · rw [zjt16] at ejt16
      rw [ejt16]
      refine mg_tabIn C (tgt := 98) (off := 82) dX7_told_16 (by decide) (by decide) rfl (by decide) ?_
      refine mg_aload_n C dX7_told_98 rfl ?_
      refine mg_get C inT7 h_w1_om rfl 7 (by decide) kw_25 (Or.inl rfl) rfl dX7_told_99 ?_
      refine mg_iload_n C dX7_told_102 rfl ?_
      refine mg_ialdN C h_w1_alo (by omega) (by omega) dX7_told_103 ?_
      exact hR _ _ _ _ dX7_told_104 ⟨Or.inr (Or.inr (Or.inr (Or.inr (Or.inr (Or.inr (Or.inl ⟨ejt16, rfl⟩)))))), h_w1_om, fun z q0 => fr_w1 z q0⟩
    · rw [zjt16] at ejt16
      rw [ejt16]
      refine mg_tabIn C (tgt := 105) (off := 89) dX7_told_16 (by decide) (by decide) rfl (by decide) ?_
      refine mg_aload_n C dX7_told_105 rfl ?_
      refine mg_iload_n C dX7_told_106 rfl ?_
      refine mg_callV_i C h_w1_om rfl (rest := []) (c_X7_keptOf_H D cI cS w1 om md aso asi ase ato amo alo aro asr (nI 0) so ro s h h_w1_om h_w1_aso h_w1_aro hs8 hso hv.1) yq_X7_keptOf kw_617 kw_618 kw_619 ⟨by decide, by decide⟩ ⟨Nat.le_of_ble_eq_true rfl, Nat.le_of_ble_eq_true rfl⟩ (Nat.le_of_ble_eq_true rfl) rfl rfl dX7_told_107 (fun r4 w4 ⟨xe4, xk4⟩ => ?_)
      rw [xk4, xe4]
      exact hR _ _ _ _ dX7_told_110 ⟨Or.inr (Or.inr (Or.inr (Or.inr (Or.inr (Or.inr (Or.inr (⟨ejt16, rfl⟩))))))), h_w1_om, fun z q0 => fr_w1 z q0⟩
  · refine mg_tabOut C (tgt := 111) dX7_told_16 (rg_out (by decide) hq16) (by decide) ?_
    refine mg_iconst C (v := (-1 : Int32)) dX7_told_111 (by decide) ?_
    exact hR _ _ _ _ dX7_told_112 ⟨Or.inl ⟨hq16, rfl⟩, h_w1_om, fun z q0 => fr_w1 z q0⟩

set_option maxHeartbeats 4000000 in
set_option maxRecDepth 20000 in
theorem c_X7_kept_H (D : va_G) (cI cS : ClassId) (w : mwT) (om md aso asi ase ato amo alo aro asr : Nat) (th : Int32) (so : Nat → Nat) (si : Nat → Nat) (se : Nat → Nat) (to : Nat → Int32) (mo : Nat → Nat) (lo : Nat → Int32) (ro : Nat → Int32) (s h k sd mv : Nat) (tot : Int32) (f g : Nat → Int32) (i pt : Int32) (hom : w om = some (.inr (6, [.int th, .int (nI md), .ref aso, .ref asi, .ref ase, .ref ato, .ref amo, .ref alo, .ref aro, .ref asr]))) (h_aso : w aso = some (eI cI 8 (lnF so))) (h_asi : w asi = some (eI cI 8 (lnF si))) (h_ase : w ase = some (eI cI 8 (lnF se))) (h_ato : w ato = some (eI cI 8 to)) (h_amo : w amo = some (eI cI 8 (lnF mo))) (h_alo : w alo = some (eI cI 8 lo)) (h_aro : w aro = some (eI cI 9600 ro)) (hmd : md ≤ 8) (hs : s < md) (hsd : sd ≤ 999) (hso : so s = 0) (hsi : si s = k) (hse : se s = sd) (hto : to s = tot) (hmo : mo s = mv) (hk1 : 1 ≤ k) (hk2 : k ≤ 20) (hh : h ≤ k) (hv : HvM ro s f g h) : mMi yX7_kept cX7_kept 5 (some .int) (rmL 8) [.ref om, .int (nI s), .int i, .int pt] D cI cS w (fun r w1 => ((∃ kz : Nat, kz < h ∧ i = nI (bfU f kz h) ∧ ((pt = 0 ∧ r = f kz) ∨ (pt = 1 ∧ r = g kz))) ∨ (r = -1 ∧ ¬ ((∃ j : Nat, j < h ∧ nI (bfU f j h) = i) ∧ (pt = 0 ∨ pt = 1)))) ∧ w1 om = some (.inr (6, [.int (nI 0), .int (nI md), .ref aso, .ref asi, .ref ase, .ref ato, .ref amo, .ref alo, .ref aro, .ref asr])) ∧ ∀ z : Nat, z ≠ om → w1 z = w z) := by
  refine mMi.of (by decide) (Nat.le_of_ble_eq_true rfl) ?_
  intro X C hN hR
  have fr_w : ∀ zz : Nat, w zz = w zz := fun _ => rfl
  refine mg_sub (lv' := [(0, .ref om), (1, .int (nI s)), (2, .int i), (3, .int pt)]) [0, 1, 2, 3] rfl ?_
  have hs8 : s < 8 := by omega
  refine mg_aload_n C dX7_kept_0 rfl ?_
  refine mg_iconst C (v := nI 0) dX7_kept_1 (by decide) ?_
  refine mg_put C (fs' := [.int (nI 0), .int (nI md), .ref aso, .ref asi, .ref ase, .ref ato, .ref amo, .ref alo, .ref aro, .ref asr]) inT7 hom rfl 0 (by decide) kw_28 (Or.inl rfl) tyX7_ok nmX7 rfl rfl rfl rfl (Nat.le_of_ble_eq_true rfl) dX7_kept_2 (fun w1 e_w1 => ?_)
  have h_w1_om : w1 om = some (.inr (6, [.int (nI 0), .int (nI md), .ref aso, .ref asi, .ref ase, .ref ato, .ref amo, .ref alo, .ref aro, .ref asr])) := (congrFun e_w1 _).trans mwu_eq
  have h_w1_aso : w1 aso = some (eI cI 8 (lnF so)) := (congrFun e_w1 _).trans ((mwu_ne (mw_ao h_aso hom)).trans h_aso)
  have h_w1_asi : w1 asi = some (eI cI 8 (lnF si)) := (congrFun e_w1 _).trans ((mwu_ne (mw_ao h_asi hom)).trans h_asi)
  have h_w1_ase : w1 ase = some (eI cI 8 (lnF se)) := (congrFun e_w1 _).trans ((mwu_ne (mw_ao h_ase hom)).trans h_ase)
  have h_w1_ato : w1 ato = some (eI cI 8 to) := (congrFun e_w1 _).trans ((mwu_ne (mw_ao h_ato hom)).trans h_ato)
  have h_w1_amo : w1 amo = some (eI cI 8 (lnF mo)) := (congrFun e_w1 _).trans ((mwu_ne (mw_ao h_amo hom)).trans h_amo)
  have h_w1_alo : w1 alo = some (eI cI 8 lo) := (congrFun e_w1 _).trans ((mwu_ne (mw_ao h_alo hom)).trans h_alo)
  have h_w1_aro : w1 aro = some (eI cI 9600 ro) := (congrFun e_w1 _).trans ((mwu_ne (mw_ao h_aro hom)).trans h_aro)
  have fr_w1 : ∀ zz : Nat, zz ≠ om → w1 zz = w zz := fun zz g0 => (congrFun e_w1 zz).trans ((mwu_ne g0).trans (fr_w zz ))
  refine mg_aload_n C dX7_kept_5 rfl ?_
  refine mg_iload_n C dX7_kept_6 rfl ?_
  refine mg_callV_i C h_w1_om rfl (rest := []) (c_X7_none_in D cI cS w1 om md aso asi ase ato amo alo aro asr (nI 0)  s h_w1_om hmd hs) yq_X7_none kw_197 kw_198 kw_199 ⟨by decide, by decide⟩ ⟨Nat.le_of_ble_eq_true rfl, Nat.le_of_ble_eq_true rfl⟩ (Nat.le_of_ble_eq_true rfl) rfl rfl dX7_kept_7 (fun r2 w3 ⟨e_r2, e_w3⟩ => ?_)
  rw [e_w3, e_r2]
  refine mg_ifN_eq C (tgt := 15) dX7_kept_10 (by decide) (by decide) (fun c_10 => ?_) (fun c_10 => absurd c_10 (by decide))
  refine mg_iconst C (v := nI 0) dX7_kept_15 (by decide) ?_
  refine mg_istore C (lv' := [(4, .int (nI 0)), (0, .ref om), (1, .int (nI s)), (2, .int i), (3, .int pt)]) dX7_kept_16 (by decide) rfl ?_
  refine mg_aload_n C dX7_kept_18 rfl ?_
  refine mg_get C inT7 h_w1_om rfl 2 (by decide) kw_20 (Or.inl rfl) rfl dX7_kept_19 ?_
  refine mg_iload_n C dX7_kept_22 rfl ?_
  refine mg_ialdN C h_w1_aso (by omega) (by omega) dX7_kept_23 ?_
  rw [show lnF so s = nI 0 from congrArg nI hso]
  refine mg_tabIn C (tgt := 56) (off := 32) dX7_kept_24 (by decide) (by decide) rfl (by decide) ?_
  refine mg_iload_n C dX7_kept_56 rfl ?_
  refine mg_iconst C (v := nI 0) dX7_kept_57 (by decide) ?_
  refine mg_iconst C (v := nI 1) dX7_kept_58 (by decide) ?_
  refine mg_callS_i C (rest := []) (c_X7_in D cI cS w1 pt (nI 0) (nI 1)) yq_X7_in kw_112 kw_113 ⟨by decide, by decide⟩ ⟨Nat.le_of_ble_eq_true rfl, Nat.le_of_ble_eq_true rfl⟩ (Nat.le_of_ble_eq_true rfl) rfl rfl dX7_kept_59 (fun r4 w4 ⟨xa4, xk4⟩ => ?_)
  rw [xk4]
  rcases xa4 with ⟨ra4, hy_p⟩ | ⟨ra4, hy_p⟩
  · rw [ra4]
    obtain ⟨pa, hpa, rfl⟩ := (in_rg (n := 1) (by decide)).mp hy_p
    refine mg_ifN_eq C (tgt := 75) dX7_kept_62 (by decide) (by decide) (fun c_62 => absurd c_62 (by decide)) (fun c_62 => ?_)
    refine mg_aload_n C dX7_kept_65 rfl ?_
    refine mg_iload_n C dX7_kept_66 rfl ?_
    refine mg_iconst C (v := nI 2) dX7_kept_67 (by decide) ?_
    refine mg_iload_n C dX7_kept_68 rfl ?_
    refine mg_callV_i C h_w1_om rfl (rest := []) (c_X7_nth D cI cS w1 om md aso asi ase ato amo alo aro asr (nI 0) ro s 2 h f i h_w1_om h_w1_aro hs8 (by decide) (by omega) hv.1 (fun m hm => (hv.2 m hm).1)) yq_X7_nth kw_646 kw_647 kw_648 ⟨by decide, by decide⟩ ⟨Nat.le_of_ble_eq_true rfl, Nat.le_of_ble_eq_true rfl⟩ (Nat.le_of_ble_eq_true rfl) rfl rfl dX7_kept_69 (fun r5 w5 ⟨xa5, xk5⟩ => ?_)
    rw [xk5]
    rcases xa5 with ⟨kz, hkz, ra5, hbf⟩ | ⟨ra5, hbf⟩
    · rw [ra5]
      refine mg_goto C (tgt := 76) dX7_kept_72 (by decide) ?_
      refine mg_istore C (lv' := [(4, .int (nI kz)), (0, .ref om), (1, .int (nI s)), (2, .int i), (3, .int (nI pa))]) dX7_kept_76 (by decide) rfl ?_
      refine mg_iload C dX7_kept_78 rfl ?_
      refine mg_ifN_ge C (tgt := 87) dX7_kept_80 (by decide) (by omega) ?_
      refine mg_aload_n C dX7_kept_87 rfl ?_
      refine mg_get C inT7 h_w1_om rfl 8 (by decide) kw_26 (Or.inl rfl) rfl dX7_kept_88 ?_
      refine mg_aload_n C dX7_kept_91 rfl ?_
      refine mg_iload_n C dX7_kept_92 rfl ?_
      refine mg_iload C dX7_kept_93 rfl ?_
      refine mg_callV_i C h_w1_om rfl (rest := [.ref aro]) (c_X7_at D cI cS w1 om md aso asi ase ato amo alo aro asr (nI 0)  s kz h_w1_om ) yq_X7_at kw_344 kw_345 kw_346 ⟨by decide, by decide⟩ ⟨Nat.le_of_ble_eq_true rfl, Nat.le_of_ble_eq_true rfl⟩ (Nat.le_of_ble_eq_true rfl) rfl rfl dX7_kept_95 (fun r6 w7 ⟨e_r6, e_w7⟩ => ?_)
      rw [e_w7, e_r6]
      refine mg_iload_n C dX7_kept_98 rfl ?_
      refine mg_iadd C (z := nI ((1200 * s + 100 + 2 * kz) + pa)) dX7_kept_99 (nI_add _ _) ?_
      refine mg_ialdN C h_w1_aro (by omega) (by omega) dX7_kept_100 ?_
      exact hR _ _ _ _ dX7_kept_101 ⟨Or.inl ⟨kz, hkz, hbf, pa01 hpa (hv.2 kz hkz).1 (hv.2 kz hkz).2⟩, h_w1_om, fun z q0 => fr_w1 z q0⟩
    · rw [ra5]
      refine mg_goto C (tgt := 76) dX7_kept_72 (by decide) ?_
      refine mg_istore C (lv' := [(4, .int ((-1 : Int32))), (0, .ref om), (1, .int (nI s)), (2, .int i), (3, .int (nI pa))]) dX7_kept_76 (by decide) rfl ?_
      refine mg_iload C dX7_kept_78 rfl ?_
      refine mg_if_ge C (tgt := 87) dX7_kept_80 (by decide) (fun c_80 => absurd c_80 (by decide)) (fun c_80 => ?_)
      refine mg_iconst C (v := (-1 : Int32)) dX7_kept_83 (by decide) ?_
      refine mg_goto C (tgt := 101) dX7_kept_84 (by decide) ?_
      exact hR _ _ _ _ dX7_kept_101 ⟨Or.inr ⟨rfl, fun q => q.1.elim (fun j z => hbf j z.1 z.2)⟩, h_w1_om, fun z q0 => fr_w1 z q0⟩
  · rw [ra4]
    refine mg_ifN_eq C (tgt := 75) dX7_kept_62 (by decide) (by decide) (fun c_62 => ?_) (fun c_62 => absurd c_62 (by decide))
    refine mg_iconst C (v := (-1 : Int32)) dX7_kept_75 (by decide) ?_
    refine mg_istore C (lv' := [(4, .int ((-1 : Int32))), (0, .ref om), (1, .int (nI s)), (2, .int i), (3, .int pt)]) dX7_kept_76 (by decide) rfl ?_
    refine mg_iload C dX7_kept_78 rfl ?_
    refine mg_if_ge C (tgt := 87) dX7_kept_80 (by decide) (fun c_80 => absurd c_80 (by decide)) (fun c_80 => ?_)
    refine mg_iconst C (v := (-1 : Int32)) dX7_kept_83 (by decide) ?_
    refine mg_goto C (tgt := 101) dX7_kept_84 (by decide) ?_
    exact hR _ _ _ _ dX7_kept_101 ⟨Or.inr ⟨rfl, fun q => hy_p ((in_rg (by decide)).mpr (rg1_or.mpr q.2))⟩, h_w1_om, fun z q0 => fr_w1 z q0⟩

set_option maxHeartbeats 4000000 in
set_option maxRecDepth 20000 in
theorem c_X7_low_T (D : va_G) (cI cS : ClassId) (w : mwT) (om md aso asi ase ato amo alo aro asr : Nat) (th : Int32) (so : Nat → Nat) (si : Nat → Nat) (se : Nat → Nat) (to : Nat → Int32) (mo : Nat → Nat) (lo : Nat → Int32) (ro : Nat → Int32) (s c sd mv : Nat) (tot : Int32) (f : Nat → Int32) (x : Int32) (hom : w om = some (.inr (6, [.int th, .int (nI md), .ref aso, .ref asi, .ref ase, .ref ato, .ref amo, .ref alo, .ref aro, .ref asr]))) (h_aso : w aso = some (eI cI 8 (lnF so))) (h_asi : w asi = some (eI cI 8 (lnF si))) (h_ase : w ase = some (eI cI 8 (lnF se))) (h_ato : w ato = some (eI cI 8 to)) (h_amo : w amo = some (eI cI 8 (lnF mo))) (h_alo : w alo = some (eI cI 8 lo)) (h_aro : w aro = some (eI cI 9600 ro)) (hmd : md ≤ 8) (hs : s < md) (hsd : sd ≤ 999) (hso : so s = 1) (hsi : si s = c) (hse : se s = sd) (hto : to s = tot) (hmo : mo s = mv) (hc1 : 4 ≤ c) (hc2 : c ≤ 64) (hv : TbM ro s f (4 * c)) (hlo : lo s = nI 0) : mMi yX7_low cX7_low 4 (some .int) (rmL 8) [.ref om, .int (nI s), .int x] D cI cS w (fun r w1 => (r = -1) ∧ w1 om = some (.inr (6, [.int (nI 0), .int (nI md), .ref aso, .ref asi, .ref ase, .ref ato, .ref amo, .ref alo, .ref aro, .ref asr])) ∧ ∀ z : Nat, z ≠ om → w1 z = w z) := by
  refine mMi.of (by decide) (Nat.le_of_ble_eq_true rfl) ?_
  intro X C hN hR
  have fr_w : ∀ zz : Nat, w zz = w zz := fun _ => rfl
  refine mg_sub (lv' := [(0, .ref om), (1, .int (nI s)), (2, .int x)]) [0, 1, 2] rfl ?_
  have hs8 : s < 8 := by omega
  refine mg_aload_n C dX7_low_0 rfl ?_
  refine mg_iconst C (v := nI 0) dX7_low_1 (by decide) ?_
  refine mg_put C (fs' := [.int (nI 0), .int (nI md), .ref aso, .ref asi, .ref ase, .ref ato, .ref amo, .ref alo, .ref aro, .ref asr]) inT7 hom rfl 0 (by decide) kw_28 (Or.inl rfl) tyX7_ok nmX7 rfl rfl rfl rfl (Nat.le_of_ble_eq_true rfl) dX7_low_2 (fun w1 e_w1 => ?_)
  have h_w1_om : w1 om = some (.inr (6, [.int (nI 0), .int (nI md), .ref aso, .ref asi, .ref ase, .ref ato, .ref amo, .ref alo, .ref aro, .ref asr])) := (congrFun e_w1 _).trans mwu_eq
  have h_w1_aso : w1 aso = some (eI cI 8 (lnF so)) := (congrFun e_w1 _).trans ((mwu_ne (mw_ao h_aso hom)).trans h_aso)
  have h_w1_asi : w1 asi = some (eI cI 8 (lnF si)) := (congrFun e_w1 _).trans ((mwu_ne (mw_ao h_asi hom)).trans h_asi)
  have h_w1_ase : w1 ase = some (eI cI 8 (lnF se)) := (congrFun e_w1 _).trans ((mwu_ne (mw_ao h_ase hom)).trans h_ase)
  have h_w1_ato : w1 ato = some (eI cI 8 to) := (congrFun e_w1 _).trans ((mwu_ne (mw_ao h_ato hom)).trans h_ato)
  have h_w1_amo : w1 amo = some (eI cI 8 (lnF mo)) := (congrFun e_w1 _).trans ((mwu_ne (mw_ao h_amo hom)).trans h_amo)
  have h_w1_alo : w1 alo = some (eI cI 8 lo) := (congrFun e_w1 _).trans ((mwu_ne (mw_ao h_alo hom)).trans h_alo)
  have h_w1_aro : w1 aro = some (eI cI 9600 ro) := (congrFun e_w1 _).trans ((mwu_ne (mw_ao h_aro hom)).trans h_aro)
  have fr_w1 : ∀ zz : Nat, zz ≠ om → w1 zz = w zz := fun zz g0 => (congrFun e_w1 zz).trans ((mwu_ne g0).trans (fr_w zz ))
  refine mg_aload_n C dX7_low_5 rfl ?_
  refine mg_iload_n C dX7_low_6 rfl ?_
  refine mg_iload_n C dX7_low_7 rfl ?_
  refine mg_aload_n C dX7_low_8 rfl ?_
  refine mg_iload_n C dX7_low_9 rfl ?_
  refine mg_iconst C (v := nI 0) dX7_low_10 (by decide) ?_
  refine mg_iconst C (v := nI 4) dX7_low_11 (by decide) ?_
  refine mg_callV_i C h_w1_om rfl (rest := [.int x, .int (nI s), .ref om]) (c_X7_isOf_n D cI cS w1 om md aso asi ase ato amo alo aro asr (nI 0) so s 1 0 4 h_w1_om h_w1_aso hmd hs hso (by decide) (by decide) (by decide) (by decide) (by decide)) yq_X7_isOf kw_463 kw_464 kw_465 ⟨by decide, by decide⟩ ⟨Nat.le_of_ble_eq_true rfl, Nat.le_of_ble_eq_true rfl⟩ (Nat.le_of_ble_eq_true rfl) rfl rfl dX7_low_12 (fun r2 w3 ⟨e_r2, e_w3⟩ => ?_)
  rw [e_w3, e_r2]
  refine mg_callV_i C h_w1_om rfl (rest := []) (c_X7_isBad_ns D cI cS w1 om md aso asi ase ato amo alo aro asr (nI 0)  s x h_w1_om hmd hs) yq_X7_isBad kw_467 kw_468 kw_469 ⟨by decide, by decide⟩ ⟨Nat.le_of_ble_eq_true rfl, Nat.le_of_ble_eq_true rfl⟩ (Nat.le_of_ble_eq_true rfl) rfl rfl dX7_low_15 (fun r4 w5 ⟨e_r4, e_w5⟩ => ?_)
  rw [e_w5, e_r4]
  refine mg_ifN_eq C (tgt := 23) dX7_low_18 (by decide) (by decide) (fun c_18 => absurd c_18 (by decide)) (fun c_18 => ?_)
  refine mg_iconst C (v := (-1 : Int32)) dX7_low_21 (by decide) ?_
  exact hR _ _ _ _ dX7_low_22 ⟨rfl, h_w1_om, fun z q0 => fr_w1 z q0⟩

set_option maxHeartbeats 4000000 in
set_option maxRecDepth 20000 in
theorem c_X7_high_T (D : va_G) (cI cS : ClassId) (w : mwT) (om md aso asi ase ato amo alo aro asr : Nat) (th : Int32) (so : Nat → Nat) (si : Nat → Nat) (se : Nat → Nat) (to : Nat → Int32) (mo : Nat → Nat) (lo : Nat → Int32) (ro : Nat → Int32) (s c sd mv : Nat) (tot : Int32) (f : Nat → Int32) (x : Int32) (hom : w om = some (.inr (6, [.int th, .int (nI md), .ref aso, .ref asi, .ref ase, .ref ato, .ref amo, .ref alo, .ref aro, .ref asr]))) (h_aso : w aso = some (eI cI 8 (lnF so))) (h_asi : w asi = some (eI cI 8 (lnF si))) (h_ase : w ase = some (eI cI 8 (lnF se))) (h_ato : w ato = some (eI cI 8 to)) (h_amo : w amo = some (eI cI 8 (lnF mo))) (h_alo : w alo = some (eI cI 8 lo)) (h_aro : w aro = some (eI cI 9600 ro)) (hmd : md ≤ 8) (hs : s < md) (hsd : sd ≤ 999) (hso : so s = 1) (hsi : si s = c) (hse : se s = sd) (hto : to s = tot) (hmo : mo s = mv) (hc1 : 4 ≤ c) (hc2 : c ≤ 64) (hv : TbM ro s f (4 * c)) (hlo : lo s = nI 0) : mMi yX7_high cX7_high 5 (some .int) (rmL 8) [.ref om, .int (nI s), .int x] D cI cS w (fun r w1 => ((¬ rg 9999 x ∧ r = -1) ∨ (∃ xa : Nat, xa ≤ 9999 ∧ x = nI xa ∧ r = mn1 f sd xa c 3)) ∧ w1 om = some (.inr (6, [.int (nI 0), .int (nI md), .ref aso, .ref asi, .ref ase, .ref ato, .ref amo, .ref alo, .ref aro, .ref asr])) ∧ ∀ z : Nat, z ≠ om → w1 z = w z) := by
  refine mMi.of (by decide) (Nat.le_of_ble_eq_true rfl) ?_
  intro X C hN hR
  have fr_w : ∀ zz : Nat, w zz = w zz := fun _ => rfl
  refine mg_sub (lv' := [(0, .ref om), (1, .int (nI s)), (2, .int x)]) [0, 1, 2] rfl ?_
  have hs8 : s < 8 := by omega
  refine mg_aload_n C dX7_high_0 rfl ?_
  refine mg_iconst C (v := nI 0) dX7_high_1 (by decide) ?_
  refine mg_put C (fs' := [.int (nI 0), .int (nI md), .ref aso, .ref asi, .ref ase, .ref ato, .ref amo, .ref alo, .ref aro, .ref asr]) inT7 hom rfl 0 (by decide) kw_28 (Or.inl rfl) tyX7_ok nmX7 rfl rfl rfl rfl (Nat.le_of_ble_eq_true rfl) dX7_high_2 (fun w1 e_w1 => ?_)
  have h_w1_om : w1 om = some (.inr (6, [.int (nI 0), .int (nI md), .ref aso, .ref asi, .ref ase, .ref ato, .ref amo, .ref alo, .ref aro, .ref asr])) := (congrFun e_w1 _).trans mwu_eq
  have h_w1_aso : w1 aso = some (eI cI 8 (lnF so)) := (congrFun e_w1 _).trans ((mwu_ne (mw_ao h_aso hom)).trans h_aso)
  have h_w1_asi : w1 asi = some (eI cI 8 (lnF si)) := (congrFun e_w1 _).trans ((mwu_ne (mw_ao h_asi hom)).trans h_asi)
  have h_w1_ase : w1 ase = some (eI cI 8 (lnF se)) := (congrFun e_w1 _).trans ((mwu_ne (mw_ao h_ase hom)).trans h_ase)
  have h_w1_ato : w1 ato = some (eI cI 8 to) := (congrFun e_w1 _).trans ((mwu_ne (mw_ao h_ato hom)).trans h_ato)
  have h_w1_amo : w1 amo = some (eI cI 8 (lnF mo)) := (congrFun e_w1 _).trans ((mwu_ne (mw_ao h_amo hom)).trans h_amo)
  have h_w1_alo : w1 alo = some (eI cI 8 lo) := (congrFun e_w1 _).trans ((mwu_ne (mw_ao h_alo hom)).trans h_alo)
  have h_w1_aro : w1 aro = some (eI cI 9600 ro) := (congrFun e_w1 _).trans ((mwu_ne (mw_ao h_aro hom)).trans h_aro)
  have fr_w1 : ∀ zz : Nat, zz ≠ om → w1 zz = w zz := fun zz g0 => (congrFun e_w1 zz).trans ((mwu_ne g0).trans (fr_w zz ))
  refine mg_aload_n C dX7_high_5 rfl ?_
  refine mg_iload_n C dX7_high_6 rfl ?_
  refine mg_iload_n C dX7_high_7 rfl ?_
  refine mg_aload_n C dX7_high_8 rfl ?_
  refine mg_iload_n C dX7_high_9 rfl ?_
  refine mg_iconst C (v := nI 0) dX7_high_10 (by decide) ?_
  refine mg_iconst C (v := nI 4) dX7_high_11 (by decide) ?_
  refine mg_callV_i C h_w1_om rfl (rest := [.int x, .int (nI s), .ref om]) (c_X7_isOf_n D cI cS w1 om md aso asi ase ato amo alo aro asr (nI 0) so s 1 0 4 h_w1_om h_w1_aso hmd hs hso (by decide) (by decide) (by decide) (by decide) (by decide)) yq_X7_isOf kw_463 kw_464 kw_465 ⟨by decide, by decide⟩ ⟨Nat.le_of_ble_eq_true rfl, Nat.le_of_ble_eq_true rfl⟩ (Nat.le_of_ble_eq_true rfl) rfl rfl dX7_high_12 (fun r2 w3 ⟨e_r2, e_w3⟩ => ?_)
  rw [e_w3, e_r2]
  refine mg_ifN_ne C (tgt := 28) dX7_high_15 (by decide) (by decide) (fun c_15 => absurd c_15 (by decide)) (fun c_15 => ?_)
  refine mg_aload_n C dX7_high_18 rfl ?_
  refine mg_iload_n C dX7_high_19 rfl ?_
  refine mg_iconst C (v := nI 1) dX7_high_20 (by decide) ?_
  refine mg_iconst C (v := nI 1) dX7_high_21 (by decide) ?_
  refine mg_callV_i C h_w1_om rfl (rest := [.int x, .int (nI s), .ref om]) (c_X7_isOf_a D cI cS w1 om md aso asi ase ato amo alo aro asr (nI 0) so s 1 1 1 h_w1_om h_w1_aso hmd hs hso (by decide) (by decide) (by decide) rfl) yq_X7_isOf kw_463 kw_464 kw_465 ⟨by decide, by decide⟩ ⟨Nat.le_of_ble_eq_true rfl, Nat.le_of_ble_eq_true rfl⟩ (Nat.le_of_ble_eq_true rfl) rfl rfl dX7_high_22 (fun r4 w5 ⟨e_r4, e_w5⟩ => ?_)
  rw [e_w5, e_r4]
  refine mg_ifN_eq C (tgt := 32) dX7_high_25 (by decide) (by decide) (fun c_25 => absurd c_25 (by decide)) (fun c_25 => ?_)
  refine mg_iconst C (v := nI 1) dX7_high_28 (by decide) ?_
  refine mg_goto C (tgt := 33) dX7_high_29 (by decide) ?_
  refine mg_callV_i C h_w1_om rfl (rest := []) (c_X7_isBad_in D cI cS w1 om md aso asi ase ato amo alo aro asr (nI 0)  s x h_w1_om hmd hs) yq_X7_isBad kw_467 kw_468 kw_469 ⟨by decide, by decide⟩ ⟨Nat.le_of_ble_eq_true rfl, Nat.le_of_ble_eq_true rfl⟩ (Nat.le_of_ble_eq_true rfl) rfl rfl dX7_high_33 (fun r6 w6 ⟨xa6, xk6⟩ => ?_)
  rw [xk6]
  rcases xa6 with ⟨ra6, hy_bad⟩ | ⟨ra6, hy_bad⟩
  · rw [ra6]
    refine mg_ifN_eq C (tgt := 41) dX7_high_36 (by decide) (by decide) (fun c_36 => absurd c_36 (by decide)) (fun c_36 => ?_)
    refine mg_iconst C (v := (-1 : Int32)) dX7_high_39 (by decide) ?_
    exact hR _ _ _ _ dX7_high_40 ⟨Or.inl ⟨hy_bad, rfl⟩, h_w1_om, fun z q0 => fr_w1 z q0⟩
  · rw [ra6]
    obtain ⟨xa, hxa, rfl⟩ := hy_bad
    refine mg_ifN_eq C (tgt := 41) dX7_high_36 (by decide) (by decide) (fun c_36 => ?_) (fun c_36 => absurd c_36 (by decide))
    refine mg_aload_n C dX7_high_41 rfl ?_
    refine mg_get C inT7 h_w1_om rfl 2 (by decide) kw_20 (Or.inl rfl) rfl dX7_high_42 ?_
    refine mg_iload_n C dX7_high_45 rfl ?_
    refine mg_ialdN C h_w1_aso (by omega) (by omega) dX7_high_46 ?_
    rw [show lnF so s = nI 1 from congrArg nI hso]
    refine mg_ifN_ne C (tgt := 64) dX7_high_47 (by decide) (by decide) (fun c_47 => ?_) (fun c_47 => absurd c_47 (by decide))
    refine mg_aload_n C dX7_high_64 rfl ?_
    refine mg_get C inT7 h_w1_om rfl 2 (by decide) kw_20 (Or.inl rfl) rfl dX7_high_65 ?_
    refine mg_iload_n C dX7_high_68 rfl ?_
    refine mg_ialdN C h_w1_aso (by omega) (by omega) dX7_high_69 ?_
    rw [show lnF so s = nI 1 from congrArg nI hso]
    refine mg_iconst C (v := nI 4) dX7_high_70 (by decide) ?_
    refine mg_icmpN_ne C (tgt := 109) dX7_high_71 (by decide) (by omega) (by omega) (fun c_71 => ?_) (fun c_71 => absurd c_71 (by decide))
    refine mg_aload_n C dX7_high_109 rfl ?_
    refine mg_get C inT7 h_w1_om rfl 8 (by decide) kw_26 (Or.inl rfl) rfl dX7_high_110 ?_
    refine mg_aload_n C dX7_high_113 rfl ?_
    refine mg_iload_n C dX7_high_114 rfl ?_
    refine mg_iconst C (v := nI 0) dX7_high_115 (by decide) ?_
    refine mg_iload_n C dX7_high_116 rfl ?_
    refine mg_callV_i C h_w1_om rfl (rest := [.ref aro]) (c_X7_cell_T D cI cS w1 om md aso asi ase ato amo alo aro asr (nI 0) so si se s 0 xa c sd h_w1_om h_w1_aso h_w1_asi h_w1_ase hs8 hsd (by omega) hxa hse hsi hso hc1 hc2) yq_X7_cell kw_356 kw_357 kw_358 ⟨by decide, by decide⟩ ⟨Nat.le_of_ble_eq_true rfl, Nat.le_of_ble_eq_true rfl⟩ (Nat.le_of_ble_eq_true rfl) rfl rfl dX7_high_117 (fun r7 w8 ⟨e_r7, e_w8⟩ => ?_)
    rw [e_w8, e_r7]
    have hpl : hsN sd 0 xa % c < c := Nat.mod_lt _ (by omega)
    have hjc := jc_le (c := c) (show 0 < 4 by omega)
    refine mg_ialdN C h_w1_aro (by omega) (by omega) dX7_high_120 ?_
    rw [hv _ (by omega)]
    refine mg_istore_n C (lv' := [(3, .int (f (0 * c + hsN sd 0 xa % c))), (0, .ref om), (1, .int (nI s)), (2, .int (nI xa))]) dX7_high_121 rfl (by decide) rfl ?_
    refine mg_iconst C (v := nI 1) dX7_high_122 (by decide) ?_
    refine mg_istore C (lv' := [(4, .int (nI 1)), (3, .int (f (0 * c + hsN sd 0 xa % c))), (0, .ref om), (1, .int (nI s)), (2, .int (nI xa))]) dX7_high_123 (by decide) rfl ?_
    have L125 : ∀ (M125 : Nat) (jz : Nat), 3 - jz < M125 → (jz ≤ 3) → mwG X 0 0 w1 [(0, .ref om), (1, .int (nI s)), (2, .int (nI xa)), (3, .int (mn1 f sd xa c jz)), (4, .int (nI (jz + 1)))] [] 125 := by
      intro M125
      induction M125 with
      | zero => intro jz hm125; exact absurd hm125 (Nat.not_lt_zero _)
      | succ M125 ih125 =>
        intro jz hm125 hjz
        refine mg_iload C dX7_high_125 rfl ?_
        refine mg_iconst C (v := nI 4) dX7_high_127 (by decide) ?_
        refine mg_icmpN_ge C (tgt := 172) dX7_high_128 (by decide) (by omega) (by omega) (fun c_128 => ?_) (fun c_128 => ?_)
        · refine mg_iload_n C dX7_high_172 rfl ?_
          have ej : jz = 3 := by omega
          exact hR _ _ _ _ dX7_high_173 ⟨Or.inr ⟨xa, hxa, rfl, (by rw [ej])⟩, h_w1_om, fun z q0 => fr_w1 z q0⟩
        · refine mg_aload_n C dX7_high_131 rfl ?_
          refine mg_get C inT7 h_w1_om rfl 8 (by decide) kw_26 (Or.inl rfl) rfl dX7_high_132 ?_
          refine mg_aload_n C dX7_high_135 rfl ?_
          refine mg_iload_n C dX7_high_136 rfl ?_
          refine mg_iload C dX7_high_137 rfl ?_
          refine mg_iload_n C dX7_high_139 rfl ?_
          refine mg_callV_i C h_w1_om rfl (rest := [.ref aro]) (c_X7_cell_T D cI cS w1 om md aso asi ase ato amo alo aro asr (nI 0) so si se s (jz + 1) xa c sd h_w1_om h_w1_aso h_w1_asi h_w1_ase hs8 hsd (by omega) hxa hse hsi hso hc1 hc2) yq_X7_cell kw_356 kw_357 kw_358 ⟨by decide, by decide⟩ ⟨Nat.le_of_ble_eq_true rfl, Nat.le_of_ble_eq_true rfl⟩ (Nat.le_of_ble_eq_true rfl) rfl rfl dX7_high_140 (fun r9 w10 ⟨e_r9, e_w10⟩ => ?_)
          rw [e_w10, e_r9]
          have hpl : hsN sd (jz + 1) xa % c < c := Nat.mod_lt _ (by omega)
          have hjc := jc_le (c := c) (show jz + 1 < 4 by omega)
          refine mg_ialdN C h_w1_aro (by omega) (by omega) dX7_high_143 ?_
          rw [hv _ (by omega)]
          refine mg_iload_n C dX7_high_144 rfl ?_
          refine mg_icmp_ge C (tgt := 164) dX7_high_145 (by decide) (fun c_145 => ?_) (fun c_145 => ?_)
          · refine mg_iload_n C dX7_high_164 rfl ?_
            refine mg_istore_n C (lv' := [(3, .int (mn1 f sd xa c jz)), (0, .ref om), (1, .int (nI s)), (2, .int (nI xa)), (4, .int (nI (jz + 1)))]) dX7_high_165 rfl (by decide) rfl ?_
            have em : mn1 f sd xa c (jz + 1) = mn1 f sd xa c jz := if_neg (Int32.not_lt.mpr c_145)
            refine mg_lv (lv' := [(3, .int (mn1 f sd xa c (jz + 1))), (0, .ref om), (1, .int (nI s)), (2, .int (nI xa)), (4, .int (nI (jz + 1)))]) (by rw [em]) ?_
            refine mg_iinc C (v := nI (jz + 1 + 1)) (lv' := [(4, .int (nI (jz + 1 + 1))), (3, .int (mn1 f sd xa c (jz + 1))), (0, .ref om), (1, .int (nI s)), (2, .int (nI xa))]) dX7_high_166 rfl (ni_inc _) (by decide) rfl ?_
            refine mg_goto C (tgt := 125) dX7_high_169 (by decide) ?_
            refine mg_sub (lv' := [(0, .ref om), (1, .int (nI s)), (2, .int (nI xa)), (3, .int (mn1 f sd xa c (jz + 1))), (4, .int (nI (jz + 1 + 1)))]) [2, 3, 4, 1, 0] rfl ?_
            exact ih125 ((jz + 1)) (by omega) (by omega)
          · refine mg_aload_n C dX7_high_148 rfl ?_
            refine mg_get C inT7 h_w1_om rfl 8 (by decide) kw_26 (Or.inl rfl) rfl dX7_high_149 ?_
            refine mg_aload_n C dX7_high_152 rfl ?_
            refine mg_iload_n C dX7_high_153 rfl ?_
            refine mg_iload C dX7_high_154 rfl ?_
            refine mg_iload_n C dX7_high_156 rfl ?_
            refine mg_callV_i C h_w1_om rfl (rest := [.ref aro]) (c_X7_cell_T D cI cS w1 om md aso asi ase ato amo alo aro asr (nI 0) so si se s (jz + 1) xa c sd h_w1_om h_w1_aso h_w1_asi h_w1_ase hs8 hsd (by omega) hxa hse hsi hso hc1 hc2) yq_X7_cell kw_356 kw_357 kw_358 ⟨by decide, by decide⟩ ⟨Nat.le_of_ble_eq_true rfl, Nat.le_of_ble_eq_true rfl⟩ (Nat.le_of_ble_eq_true rfl) rfl rfl dX7_high_157 (fun r11 w12 ⟨e_r11, e_w12⟩ => ?_)
            rw [e_w12, e_r11]
            have hpl : hsN sd (jz + 1) xa % c < c := Nat.mod_lt _ (by omega)
            have hjc := jc_le (c := c) (show jz + 1 < 4 by omega)
            refine mg_ialdN C h_w1_aro (by omega) (by omega) dX7_high_160 ?_
            rw [hv _ (by omega)]
            refine mg_goto C (tgt := 165) dX7_high_161 (by decide) ?_
            refine mg_istore_n C (lv' := [(3, .int (f ((jz + 1) * c + hsN sd (jz + 1) xa % c))), (0, .ref om), (1, .int (nI s)), (2, .int (nI xa)), (4, .int (nI (jz + 1)))]) dX7_high_165 rfl (by decide) rfl ?_
            have em : mn1 f sd xa c (jz + 1) = f ((jz + 1) * c + hsN sd (jz + 1) xa % c) := if_pos (Int32.not_le.mp c_145)
            refine mg_lv (lv' := [(3, .int (mn1 f sd xa c (jz + 1))), (0, .ref om), (1, .int (nI s)), (2, .int (nI xa)), (4, .int (nI (jz + 1)))]) (by rw [em]) ?_
            refine mg_iinc C (v := nI (jz + 1 + 1)) (lv' := [(4, .int (nI (jz + 1 + 1))), (3, .int (mn1 f sd xa c (jz + 1))), (0, .ref om), (1, .int (nI s)), (2, .int (nI xa))]) dX7_high_166 rfl (ni_inc _) (by decide) rfl ?_
            refine mg_goto C (tgt := 125) dX7_high_169 (by decide) ?_
            refine mg_sub (lv' := [(0, .ref om), (1, .int (nI s)), (2, .int (nI xa)), (3, .int (mn1 f sd xa c (jz + 1))), (4, .int (nI (jz + 1 + 1)))]) [2, 3, 4, 1, 0] rfl ?_
            exact ih125 ((jz + 1)) (by omega) (by omega)
    refine mg_sub (lv' := [(0, .ref om), (1, .int (nI s)), (2, .int (nI xa)), (3, .int (f (0 * c + hsN sd 0 xa % c))), (4, .int (nI 1))]) [2, 3, 4, 1, 0] rfl ?_
    exact L125 (_ + 1) 0 (Nat.lt_succ_self _) (by omega)

set_option maxHeartbeats 4000000 in
set_option maxRecDepth 20000 in
theorem c_X7_has_T (D : va_G) (cI cS : ClassId) (w : mwT) (om md aso asi ase ato amo alo aro asr : Nat) (th : Int32) (so : Nat → Nat) (si : Nat → Nat) (se : Nat → Nat) (to : Nat → Int32) (mo : Nat → Nat) (lo : Nat → Int32) (ro : Nat → Int32) (s c sd mv : Nat) (tot : Int32) (f : Nat → Int32) (x : Int32) (hom : w om = some (.inr (6, [.int th, .int (nI md), .ref aso, .ref asi, .ref ase, .ref ato, .ref amo, .ref alo, .ref aro, .ref asr]))) (h_aso : w aso = some (eI cI 8 (lnF so))) (h_asi : w asi = some (eI cI 8 (lnF si))) (h_ase : w ase = some (eI cI 8 (lnF se))) (h_ato : w ato = some (eI cI 8 to)) (h_amo : w amo = some (eI cI 8 (lnF mo))) (h_alo : w alo = some (eI cI 8 lo)) (h_aro : w aro = some (eI cI 9600 ro)) (hmd : md ≤ 8) (hs : s < md) (hsd : sd ≤ 999) (hso : so s = 1) (hsi : si s = c) (hse : se s = sd) (hto : to s = tot) (hmo : mo s = mv) (hc1 : 4 ≤ c) (hc2 : c ≤ 64) (hv : TbM ro s f (4 * c)) (hlo : lo s = nI 0) : mMi yX7_has cX7_has 6 (some .int) (rmL 8) [.ref om, .int (nI s), .int x] D cI cS w (fun r w1 => (r = -1) ∧ w1 om = some (.inr (6, [.int (nI 0), .int (nI md), .ref aso, .ref asi, .ref ase, .ref ato, .ref amo, .ref alo, .ref aro, .ref asr])) ∧ ∀ z : Nat, z ≠ om → w1 z = w z) := by
  refine mMi.of (by decide) (Nat.le_of_ble_eq_true rfl) ?_
  intro X C hN hR
  have fr_w : ∀ zz : Nat, w zz = w zz := fun _ => rfl
  refine mg_sub (lv' := [(0, .ref om), (1, .int (nI s)), (2, .int x)]) [0, 1, 2] rfl ?_
  have hs8 : s < 8 := by omega
  refine mg_aload_n C dX7_has_0 rfl ?_
  refine mg_iconst C (v := nI 0) dX7_has_1 (by decide) ?_
  refine mg_put C (fs' := [.int (nI 0), .int (nI md), .ref aso, .ref asi, .ref ase, .ref ato, .ref amo, .ref alo, .ref aro, .ref asr]) inT7 hom rfl 0 (by decide) kw_28 (Or.inl rfl) tyX7_ok nmX7 rfl rfl rfl rfl (Nat.le_of_ble_eq_true rfl) dX7_has_2 (fun w1 e_w1 => ?_)
  have h_w1_om : w1 om = some (.inr (6, [.int (nI 0), .int (nI md), .ref aso, .ref asi, .ref ase, .ref ato, .ref amo, .ref alo, .ref aro, .ref asr])) := (congrFun e_w1 _).trans mwu_eq
  have h_w1_aso : w1 aso = some (eI cI 8 (lnF so)) := (congrFun e_w1 _).trans ((mwu_ne (mw_ao h_aso hom)).trans h_aso)
  have h_w1_asi : w1 asi = some (eI cI 8 (lnF si)) := (congrFun e_w1 _).trans ((mwu_ne (mw_ao h_asi hom)).trans h_asi)
  have h_w1_ase : w1 ase = some (eI cI 8 (lnF se)) := (congrFun e_w1 _).trans ((mwu_ne (mw_ao h_ase hom)).trans h_ase)
  have h_w1_ato : w1 ato = some (eI cI 8 to) := (congrFun e_w1 _).trans ((mwu_ne (mw_ao h_ato hom)).trans h_ato)
  have h_w1_amo : w1 amo = some (eI cI 8 (lnF mo)) := (congrFun e_w1 _).trans ((mwu_ne (mw_ao h_amo hom)).trans h_amo)
  have h_w1_alo : w1 alo = some (eI cI 8 lo) := (congrFun e_w1 _).trans ((mwu_ne (mw_ao h_alo hom)).trans h_alo)
  have h_w1_aro : w1 aro = some (eI cI 9600 ro) := (congrFun e_w1 _).trans ((mwu_ne (mw_ao h_aro hom)).trans h_aro)
  have fr_w1 : ∀ zz : Nat, zz ≠ om → w1 zz = w zz := fun zz g0 => (congrFun e_w1 zz).trans ((mwu_ne g0).trans (fr_w zz ))
  refine mg_aload_n C dX7_has_5 rfl ?_
  refine mg_iload_n C dX7_has_6 rfl ?_
  refine mg_iload_n C dX7_has_7 rfl ?_
  refine mg_aload_n C dX7_has_8 rfl ?_
  refine mg_iload_n C dX7_has_9 rfl ?_
  refine mg_iconst C (v := nI 2) dX7_has_10 (by decide) ?_
  refine mg_iconst C (v := nI 3) dX7_has_11 (by decide) ?_
  refine mg_callV_i C h_w1_om rfl (rest := [.int x, .int (nI s), .ref om]) (c_X7_isOf_n D cI cS w1 om md aso asi ase ato amo alo aro asr (nI 0) so s 1 2 3 h_w1_om h_w1_aso hmd hs hso (by decide) (by decide) (by decide) (by decide) (by decide)) yq_X7_isOf kw_463 kw_464 kw_465 ⟨by decide, by decide⟩ ⟨Nat.le_of_ble_eq_true rfl, Nat.le_of_ble_eq_true rfl⟩ (Nat.le_of_ble_eq_true rfl) rfl rfl dX7_has_12 (fun r2 w3 ⟨e_r2, e_w3⟩ => ?_)
  rw [e_w3, e_r2]
  refine mg_callV_i C h_w1_om rfl (rest := []) (c_X7_isBad_ns D cI cS w1 om md aso asi ase ato amo alo aro asr (nI 0)  s x h_w1_om hmd hs) yq_X7_isBad kw_467 kw_468 kw_469 ⟨by decide, by decide⟩ ⟨Nat.le_of_ble_eq_true rfl, Nat.le_of_ble_eq_true rfl⟩ (Nat.le_of_ble_eq_true rfl) rfl rfl dX7_has_15 (fun r4 w5 ⟨e_r4, e_w5⟩ => ?_)
  rw [e_w5, e_r4]
  refine mg_ifN_eq C (tgt := 23) dX7_has_18 (by decide) (by decide) (fun c_18 => absurd c_18 (by decide)) (fun c_18 => ?_)
  refine mg_iconst C (v := (-1 : Int32)) dX7_has_21 (by decide) ?_
  exact hR _ _ _ _ dX7_has_22 ⟨rfl, h_w1_om, fun z q0 => fr_w1 z q0⟩

set_option maxHeartbeats 4000000 in
set_option maxRecDepth 20000 in
theorem c_X7_distinct_T (D : va_G) (cI cS : ClassId) (w : mwT) (om md aso asi ase ato amo alo aro asr : Nat) (th : Int32) (so : Nat → Nat) (si : Nat → Nat) (se : Nat → Nat) (to : Nat → Int32) (mo : Nat → Nat) (lo : Nat → Int32) (ro : Nat → Int32) (s c sd mv : Nat) (tot : Int32) (f : Nat → Int32) (hom : w om = some (.inr (6, [.int th, .int (nI md), .ref aso, .ref asi, .ref ase, .ref ato, .ref amo, .ref alo, .ref aro, .ref asr]))) (h_aso : w aso = some (eI cI 8 (lnF so))) (h_asi : w asi = some (eI cI 8 (lnF si))) (h_ase : w ase = some (eI cI 8 (lnF se))) (h_ato : w ato = some (eI cI 8 to)) (h_amo : w amo = some (eI cI 8 (lnF mo))) (h_alo : w alo = some (eI cI 8 lo)) (h_aro : w aro = some (eI cI 9600 ro)) (hmd : md ≤ 8) (hs : s < md) (hsd : sd ≤ 999) (hso : so s = 1) (hsi : si s = c) (hse : se s = sd) (hto : to s = tot) (hmo : mo s = mv) (hc1 : 4 ≤ c) (hc2 : c ≤ 64) (hv : TbM ro s f (4 * c)) (hlo : lo s = nI 0) : mMi yX7_distinct cX7_distinct 4 (some .int) (rmL 8) [.ref om, .int (nI s)] D cI cS w (fun r w1 => (r = -1) ∧ w1 om = some (.inr (6, [.int (nI 0), .int (nI md), .ref aso, .ref asi, .ref ase, .ref ato, .ref amo, .ref alo, .ref aro, .ref asr])) ∧ ∀ z : Nat, z ≠ om → w1 z = w z) := by
  refine mMi.of (by decide) (Nat.le_of_ble_eq_true rfl) ?_
  intro X C hN hR
  have fr_w : ∀ zz : Nat, w zz = w zz := fun _ => rfl
  refine mg_sub (lv' := [(0, .ref om), (1, .int (nI s))]) [0, 1] rfl ?_
  have hs8 : s < 8 := by omega
  refine mg_aload_n C dX7_distinct_0 rfl ?_
  refine mg_iconst C (v := nI 0) dX7_distinct_1 (by decide) ?_
  refine mg_put C (fs' := [.int (nI 0), .int (nI md), .ref aso, .ref asi, .ref ase, .ref ato, .ref amo, .ref alo, .ref aro, .ref asr]) inT7 hom rfl 0 (by decide) kw_28 (Or.inl rfl) tyX7_ok nmX7 rfl rfl rfl rfl (Nat.le_of_ble_eq_true rfl) dX7_distinct_2 (fun w1 e_w1 => ?_)
  have h_w1_om : w1 om = some (.inr (6, [.int (nI 0), .int (nI md), .ref aso, .ref asi, .ref ase, .ref ato, .ref amo, .ref alo, .ref aro, .ref asr])) := (congrFun e_w1 _).trans mwu_eq
  have h_w1_aso : w1 aso = some (eI cI 8 (lnF so)) := (congrFun e_w1 _).trans ((mwu_ne (mw_ao h_aso hom)).trans h_aso)
  have h_w1_asi : w1 asi = some (eI cI 8 (lnF si)) := (congrFun e_w1 _).trans ((mwu_ne (mw_ao h_asi hom)).trans h_asi)
  have h_w1_ase : w1 ase = some (eI cI 8 (lnF se)) := (congrFun e_w1 _).trans ((mwu_ne (mw_ao h_ase hom)).trans h_ase)
  have h_w1_ato : w1 ato = some (eI cI 8 to) := (congrFun e_w1 _).trans ((mwu_ne (mw_ao h_ato hom)).trans h_ato)
  have h_w1_amo : w1 amo = some (eI cI 8 (lnF mo)) := (congrFun e_w1 _).trans ((mwu_ne (mw_ao h_amo hom)).trans h_amo)
  have h_w1_alo : w1 alo = some (eI cI 8 lo) := (congrFun e_w1 _).trans ((mwu_ne (mw_ao h_alo hom)).trans h_alo)
  have h_w1_aro : w1 aro = some (eI cI 9600 ro) := (congrFun e_w1 _).trans ((mwu_ne (mw_ao h_aro hom)).trans h_aro)
  have fr_w1 : ∀ zz : Nat, zz ≠ om → w1 zz = w zz := fun zz g0 => (congrFun e_w1 zz).trans ((mwu_ne g0).trans (fr_w zz ))
  refine mg_aload_n C dX7_distinct_5 rfl ?_
  refine mg_iload_n C dX7_distinct_6 rfl ?_
  refine mg_iconst C (v := nI 3) dX7_distinct_7 (by decide) ?_
  refine mg_iconst C (v := nI 3) dX7_distinct_8 (by decide) ?_
  refine mg_callV_i C h_w1_om rfl (rest := []) (c_X7_isOf_n D cI cS w1 om md aso asi ase ato amo alo aro asr (nI 0) so s 1 3 3 h_w1_om h_w1_aso hmd hs hso (by decide) (by decide) (by decide) (by decide) (by decide)) yq_X7_isOf kw_463 kw_464 kw_465 ⟨by decide, by decide⟩ ⟨Nat.le_of_ble_eq_true rfl, Nat.le_of_ble_eq_true rfl⟩ (Nat.le_of_ble_eq_true rfl) rfl rfl dX7_distinct_9 (fun r2 w3 ⟨e_r2, e_w3⟩ => ?_)
  rw [e_w3, e_r2]
  refine mg_ifN_ne C (tgt := 17) dX7_distinct_12 (by decide) (by decide) (fun c_12 => absurd c_12 (by decide)) (fun c_12 => ?_)
  refine mg_iconst C (v := (-1 : Int32)) dX7_distinct_15 (by decide) ?_
  exact hR _ _ _ _ dX7_distinct_16 ⟨rfl, h_w1_om, fun z q0 => fr_w1 z q0⟩

set_option maxHeartbeats 4000000 in
set_option maxRecDepth 20000 in
theorem c_X7_quantile_T (D : va_G) (cI cS : ClassId) (w : mwT) (om md aso asi ase ato amo alo aro asr : Nat) (th : Int32) (so : Nat → Nat) (si : Nat → Nat) (se : Nat → Nat) (to : Nat → Int32) (mo : Nat → Nat) (lo : Nat → Int32) (ro : Nat → Int32) (s c sd mv : Nat) (tot : Int32) (f : Nat → Int32) (q : Int32) (hom : w om = some (.inr (6, [.int th, .int (nI md), .ref aso, .ref asi, .ref ase, .ref ato, .ref amo, .ref alo, .ref aro, .ref asr]))) (h_aso : w aso = some (eI cI 8 (lnF so))) (h_asi : w asi = some (eI cI 8 (lnF si))) (h_ase : w ase = some (eI cI 8 (lnF se))) (h_ato : w ato = some (eI cI 8 to)) (h_amo : w amo = some (eI cI 8 (lnF mo))) (h_alo : w alo = some (eI cI 8 lo)) (h_aro : w aro = some (eI cI 9600 ro)) (hmd : md ≤ 8) (hs : s < md) (hsd : sd ≤ 999) (hso : so s = 1) (hsi : si s = c) (hse : se s = sd) (hto : to s = tot) (hmo : mo s = mv) (hc1 : 4 ≤ c) (hc2 : c ≤ 64) (hv : TbM ro s f (4 * c)) (hlo : lo s = nI 0) : mMi yX7_quantile cX7_quantile 6 (some .int) (rmL 8) [.ref om, .int (nI s), .int q] D cI cS w (fun r w1 => (r = -1) ∧ w1 om = some (.inr (6, [.int (nI 0), .int (nI md), .ref aso, .ref asi, .ref ase, .ref ato, .ref amo, .ref alo, .ref aro, .ref asr])) ∧ ∀ z : Nat, z ≠ om → w1 z = w z) := by
  refine mMi.of (by decide) (Nat.le_of_ble_eq_true rfl) ?_
  intro X C hN hR
  have fr_w : ∀ zz : Nat, w zz = w zz := fun _ => rfl
  refine mg_sub (lv' := [(0, .ref om), (1, .int (nI s)), (2, .int q)]) [0, 1, 2] rfl ?_
  have hs8 : s < 8 := by omega
  refine mg_aload_n C dX7_quantile_0 rfl ?_
  refine mg_iconst C (v := nI 0) dX7_quantile_1 (by decide) ?_
  refine mg_put C (fs' := [.int (nI 0), .int (nI md), .ref aso, .ref asi, .ref ase, .ref ato, .ref amo, .ref alo, .ref aro, .ref asr]) inT7 hom rfl 0 (by decide) kw_28 (Or.inl rfl) tyX7_ok nmX7 rfl rfl rfl rfl (Nat.le_of_ble_eq_true rfl) dX7_quantile_2 (fun w1 e_w1 => ?_)
  have h_w1_om : w1 om = some (.inr (6, [.int (nI 0), .int (nI md), .ref aso, .ref asi, .ref ase, .ref ato, .ref amo, .ref alo, .ref aro, .ref asr])) := (congrFun e_w1 _).trans mwu_eq
  have h_w1_aso : w1 aso = some (eI cI 8 (lnF so)) := (congrFun e_w1 _).trans ((mwu_ne (mw_ao h_aso hom)).trans h_aso)
  have h_w1_asi : w1 asi = some (eI cI 8 (lnF si)) := (congrFun e_w1 _).trans ((mwu_ne (mw_ao h_asi hom)).trans h_asi)
  have h_w1_ase : w1 ase = some (eI cI 8 (lnF se)) := (congrFun e_w1 _).trans ((mwu_ne (mw_ao h_ase hom)).trans h_ase)
  have h_w1_ato : w1 ato = some (eI cI 8 to) := (congrFun e_w1 _).trans ((mwu_ne (mw_ao h_ato hom)).trans h_ato)
  have h_w1_amo : w1 amo = some (eI cI 8 (lnF mo)) := (congrFun e_w1 _).trans ((mwu_ne (mw_ao h_amo hom)).trans h_amo)
  have h_w1_alo : w1 alo = some (eI cI 8 lo) := (congrFun e_w1 _).trans ((mwu_ne (mw_ao h_alo hom)).trans h_alo)
  have h_w1_aro : w1 aro = some (eI cI 9600 ro) := (congrFun e_w1 _).trans ((mwu_ne (mw_ao h_aro hom)).trans h_aro)
  have fr_w1 : ∀ zz : Nat, zz ≠ om → w1 zz = w zz := fun zz g0 => (congrFun e_w1 zz).trans ((mwu_ne g0).trans (fr_w zz ))
  refine mg_aload_n C dX7_quantile_5 rfl ?_
  refine mg_iload_n C dX7_quantile_6 rfl ?_
  refine mg_iconst C (v := nI 4) dX7_quantile_7 (by decide) ?_
  refine mg_iconst C (v := nI 4) dX7_quantile_8 (by decide) ?_
  refine mg_callV_i C h_w1_om rfl (rest := []) (c_X7_isOf_n D cI cS w1 om md aso asi ase ato amo alo aro asr (nI 0) so s 1 4 4 h_w1_om h_w1_aso hmd hs hso (by decide) (by decide) (by decide) (by decide) (by decide)) yq_X7_isOf kw_463 kw_464 kw_465 ⟨by decide, by decide⟩ ⟨Nat.le_of_ble_eq_true rfl, Nat.le_of_ble_eq_true rfl⟩ (Nat.le_of_ble_eq_true rfl) rfl rfl dX7_quantile_9 (fun r2 w3 ⟨e_r2, e_w3⟩ => ?_)
  rw [e_w3, e_r2]
  refine mg_ifN_eq C (tgt := 29) dX7_quantile_12 (by decide) (by decide) (fun c_12 => ?_) (fun c_12 => absurd c_12 (by decide))
  refine mg_iconst C (v := (-1 : Int32)) dX7_quantile_29 (by decide) ?_
  exact hR _ _ _ _ dX7_quantile_30 ⟨rfl, h_w1_om, fun z q0 => fr_w1 z q0⟩

set_option maxHeartbeats 4000000 in
set_option maxRecDepth 20000 in
theorem c_X7_told_T (D : va_G) (cI cS : ClassId) (w : mwT) (om md aso asi ase ato amo alo aro asr : Nat) (th : Int32) (so : Nat → Nat) (si : Nat → Nat) (se : Nat → Nat) (to : Nat → Int32) (mo : Nat → Nat) (lo : Nat → Int32) (ro : Nat → Int32) (s c sd mv : Nat) (tot : Int32) (f : Nat → Int32) (q : Int32) (hom : w om = some (.inr (6, [.int th, .int (nI md), .ref aso, .ref asi, .ref ase, .ref ato, .ref amo, .ref alo, .ref aro, .ref asr]))) (h_aso : w aso = some (eI cI 8 (lnF so))) (h_asi : w asi = some (eI cI 8 (lnF si))) (h_ase : w ase = some (eI cI 8 (lnF se))) (h_ato : w ato = some (eI cI 8 to)) (h_amo : w amo = some (eI cI 8 (lnF mo))) (h_alo : w alo = some (eI cI 8 lo)) (h_aro : w aro = some (eI cI 9600 ro)) (hmd : md ≤ 8) (hs : s < md) (hsd : sd ≤ 999) (hso : so s = 1) (hsi : si s = c) (hse : se s = sd) (hto : to s = tot) (hmo : mo s = mv) (hc1 : 4 ≤ c) (hc2 : c ≤ 64) (hv : TbM ro s f (4 * c)) (hlo : lo s = nI 0) : mMi yX7_told cX7_told 3 (some .int) (rmL 8) [.ref om, .int (nI s), .int q] D cI cS w (fun r w1 => ((¬ rg 6 q ∧ r = -1) ∨ (q = nI 0 ∧ r = nI 1) ∨ (q = nI 1 ∧ r = nI c) ∨ (q = nI 2 ∧ r = nI sd) ∨ (q = nI 3 ∧ r = tot + nI 10000000) ∨ (q = nI 4 ∧ r = nI mv) ∨ (q = nI 5 ∧ r = nI 0) ∨ (q = nI 6 ∧ r = nI (cnz f (4 * c)))) ∧ w1 om = some (.inr (6, [.int (nI 0), .int (nI md), .ref aso, .ref asi, .ref ase, .ref ato, .ref amo, .ref alo, .ref aro, .ref asr])) ∧ ∀ z : Nat, z ≠ om → w1 z = w z) := by
  refine mMi.of (by decide) (Nat.le_of_ble_eq_true rfl) ?_
  intro X C hN hR
  have fr_w : ∀ zz : Nat, w zz = w zz := fun _ => rfl
  refine mg_sub (lv' := [(0, .ref om), (1, .int (nI s)), (2, .int q)]) [0, 1, 2] rfl ?_
  have hs8 : s < 8 := by omega
  refine mg_aload_n C dX7_told_0 rfl ?_
  refine mg_iconst C (v := nI 0) dX7_told_1 (by decide) ?_
  refine mg_put C (fs' := [.int (nI 0), .int (nI md), .ref aso, .ref asi, .ref ase, .ref ato, .ref amo, .ref alo, .ref aro, .ref asr]) inT7 hom rfl 0 (by decide) kw_28 (Or.inl rfl) tyX7_ok nmX7 rfl rfl rfl rfl (Nat.le_of_ble_eq_true rfl) dX7_told_2 (fun w1 e_w1 => ?_)
  have h_w1_om : w1 om = some (.inr (6, [.int (nI 0), .int (nI md), .ref aso, .ref asi, .ref ase, .ref ato, .ref amo, .ref alo, .ref aro, .ref asr])) := (congrFun e_w1 _).trans mwu_eq
  have h_w1_aso : w1 aso = some (eI cI 8 (lnF so)) := (congrFun e_w1 _).trans ((mwu_ne (mw_ao h_aso hom)).trans h_aso)
  have h_w1_asi : w1 asi = some (eI cI 8 (lnF si)) := (congrFun e_w1 _).trans ((mwu_ne (mw_ao h_asi hom)).trans h_asi)
  have h_w1_ase : w1 ase = some (eI cI 8 (lnF se)) := (congrFun e_w1 _).trans ((mwu_ne (mw_ao h_ase hom)).trans h_ase)
  have h_w1_ato : w1 ato = some (eI cI 8 to) := (congrFun e_w1 _).trans ((mwu_ne (mw_ao h_ato hom)).trans h_ato)
  have h_w1_amo : w1 amo = some (eI cI 8 (lnF mo)) := (congrFun e_w1 _).trans ((mwu_ne (mw_ao h_amo hom)).trans h_amo)
  have h_w1_alo : w1 alo = some (eI cI 8 lo) := (congrFun e_w1 _).trans ((mwu_ne (mw_ao h_alo hom)).trans h_alo)
  have h_w1_aro : w1 aro = some (eI cI 9600 ro) := (congrFun e_w1 _).trans ((mwu_ne (mw_ao h_aro hom)).trans h_aro)
  have fr_w1 : ∀ zz : Nat, zz ≠ om → w1 zz = w zz := fun zz g0 => (congrFun e_w1 zz).trans ((mwu_ne g0).trans (fr_w zz ))
  refine mg_aload_n C dX7_told_5 rfl ?_
  refine mg_iload_n C dX7_told_6 rfl ?_
  refine mg_callV_i C h_w1_om rfl (rest := []) (c_X7_none_in D cI cS w1 om md aso asi ase ato amo alo aro asr (nI 0)  s h_w1_om hmd hs) yq_X7_none kw_197 kw_198 kw_199 ⟨by decide, by decide⟩ ⟨Nat.le_of_ble_eq_true rfl, Nat.le_of_ble_eq_true rfl⟩ (Nat.le_of_ble_eq_true rfl) rfl rfl dX7_told_7 (fun r2 w3 ⟨e_r2, e_w3⟩ => ?_)
  rw [e_w3, e_r2]
  refine mg_ifN_eq C (tgt := 15) dX7_told_10 (by decide) (by decide) (fun c_10 => ?_) (fun c_10 => absurd c_10 (by decide))
  refine mg_iload_n C dX7_told_15 rfl ?_
  rcases Classical.em (rg 6 q) with ⟨jt16, hjjt16, ejt16⟩ | hq16
  · rcases (show jt16 = 0 ∨ jt16 = 1 ∨ jt16 = 2 ∨ jt16 = 3 ∨ jt16 = 4 ∨ jt16 = 5 ∨ jt16 = 6 by omega) with zjt16 | zjt16 | zjt16 | zjt16 | zjt16 | zjt16 | zjt16
    · rw [zjt16] at ejt16
      rw [ejt16]
      refine mg_tabIn C (tgt := 60) (off := 44) dX7_told_16 (by decide) (by decide) rfl (by decide) ?_
      refine mg_aload_n C dX7_told_60 rfl ?_
      refine mg_get C inT7 h_w1_om rfl 2 (by decide) kw_20 (Or.inl rfl) rfl dX7_told_61 ?_
      refine mg_iload_n C dX7_told_64 rfl ?_
      refine mg_ialdN C h_w1_aso (by omega) (by omega) dX7_told_65 ?_
      rw [show lnF so s = nI 1 from congrArg nI hso]
      exact hR _ _ _ _ dX7_told_66 ⟨Or.inr (Or.inl ⟨ejt16, rfl⟩), h_w1_om, fun z q0 => fr_w1 z q0⟩
    · rw [zjt16] at ejt16
      rw [ejt16]
      refine mg_tabIn C (tgt := 67) (off := 51) dX7_told_16 (by decide) (by decide) rfl (by decide) ?_
      refine mg_aload_n C dX7_told_67 rfl ?_
      refine mg_get C inT7 h_w1_om rfl 3 (by decide) kw_21 (Or.inl rfl) rfl dX7_told_68 ?_
      refine mg_iload_n C dX7_told_71 rfl ?_
      refine mg_ialdN C h_w1_asi (by omega) (by omega) dX7_told_72 ?_
      rw [show lnF si s = nI c from congrArg nI hsi]
      exact hR _ _ _ _ dX7_told_73 ⟨Or.inr (Or.inr (Or.inl ⟨ejt16, rfl⟩)), h_w1_om, fun z q0 => fr_w1 z q0⟩
    · rw [zjt16] at ejt16
      rw [ejt16]
      refine mg_tabIn C (tgt := 74) (off := 58) dX7_told_16 (by decide) (by decide) rfl (by decide) ?_
      refine mg_aload_n C dX7_told_74 rfl ?_
      refine mg_get C inT7 h_w1_om rfl 4 (by decide) kw_22 (Or.inl rfl) rfl dX7_told_75 ?_
      refine mg_iload_n C dX7_told_78 rfl ?_
      refine mg_ialdN C h_w1_ase (by omega) (by omega) dX7_told_79 ?_
      rw [show lnF se s = nI sd from congrArg nI hse]
      exact hR _ _ _ _ dX7_told_80 ⟨Or.inr (Or.inr (Or.inr (Or.inl ⟨ejt16, rfl⟩))), h_w1_om, fun z q0 => fr_w1 z q0⟩
    · rw [zjt16] at ejt16
      rw [ejt16]
      refine mg_tabIn C (tgt := 81) (off := 65) dX7_told_16 (by decide) (by decide) rfl (by decide) ?_
      refine mg_aload_n C dX7_told_81 rfl ?_
      refine mg_get C inT7 h_w1_om rfl 5 (by decide) kw_23 (Or.inl rfl) rfl dX7_told_82 ?_
      refine mg_iload_n C dX7_told_85 rfl ?_
      refine mg_ialdN C h_w1_ato (by omega) (by omega) dX7_told_86 ?_
      rw [hto]
      refine mg_ldc C (v := nI 10000000) dX7_told_87 kw_231 (by decide) ?_
      refine mg_iadd C (z := tot + (nI 10000000)) dX7_told_89 rfl ?_
      exact hR _ _ _ _ dX7_told_90 ⟨Or.inr (Or.inr (Or.inr (Or.inr (Or.inl ⟨ejt16, rfl⟩)))), h_w1_om, fun z q0 => fr_w1 z q0⟩
    · rw [zjt16] at ejt16
      rw [ejt16]
      refine mg_tabIn C (tgt := 91) (off := 75) dX7_told_16 (by decide) (by decide) rfl (by decide) ?_
      refine mg_aload_n C dX7_told_91 rfl ?_
      refine mg_get C inT7 h_w1_om rfl 6 (by decide) kw_24 (Or.inl rfl) rfl dX7_told_92 ?_
      refine mg_iload_n C dX7_told_95 rfl ?_
      refine mg_ialdN C h_w1_amo (by omega) (by omega) dX7_told_96 ?_
      rw [show lnF mo s = nI mv from congrArg nI hmo]
      exact hR _ _ _ _ dX7_told_97 ⟨Or.inr (Or.inr (Or.inr (Or.inr (Or.inr (Or.inl ⟨ejt16, rfl⟩))))), h_w1_om, fun z q0 => fr_w1 z q0⟩
    · rw [zjt16] at ejt16
      rw [ejt16]
      refine mg_tabIn C (tgt := 98) (off := 82) dX7_told_16 (by decide) (by decide) rfl (by decide) ?_
      refine mg_aload_n C dX7_told_98 rfl ?_
      refine mg_get C inT7 h_w1_om rfl 7 (by decide) kw_25 (Or.inl rfl) rfl dX7_told_99 ?_
      refine mg_iload_n C dX7_told_102 rfl ?_
      refine mg_ialdN C h_w1_alo (by omega) (by omega) dX7_told_103 ?_
      rw [hlo]
      exact hR _ _ _ _ dX7_told_104 ⟨Or.inr (Or.inr (Or.inr (Or.inr (Or.inr (Or.inr (Or.inl ⟨ejt16, rfl⟩)))))), h_w1_om, fun z q0 => fr_w1 z q0⟩
    · rw [zjt16] at ejt16
      rw [ejt16]
      refine mg_tabIn C (tgt := 105) (off := 89) dX7_told_16 (by decide) (by decide) rfl (by decide) ?_
      refine mg_aload_n C dX7_told_105 rfl ?_
      refine mg_iload_n C dX7_told_106 rfl ?_
      refine mg_callV_i C h_w1_om rfl (rest := []) (c_X7_keptOf_T D cI cS w1 om md aso asi ase ato amo alo aro asr (nI 0) so si ro s c f h_w1_om h_w1_aso h_w1_asi h_w1_aro hs8 hso hsi hc1 hc2 hv) yq_X7_keptOf kw_617 kw_618 kw_619 ⟨by decide, by decide⟩ ⟨Nat.le_of_ble_eq_true rfl, Nat.le_of_ble_eq_true rfl⟩ (Nat.le_of_ble_eq_true rfl) rfl rfl dX7_told_107 (fun r4 w4 ⟨xe4, xk4⟩ => ?_)
      rw [xk4, xe4]
      exact hR _ _ _ _ dX7_told_110 ⟨Or.inr (Or.inr (Or.inr (Or.inr (Or.inr (Or.inr (Or.inr (⟨ejt16, rfl⟩))))))), h_w1_om, fun z q0 => fr_w1 z q0⟩
  · refine mg_tabOut C (tgt := 111) dX7_told_16 (rg_out (by decide) hq16) (by decide) ?_
    refine mg_iconst C (v := (-1 : Int32)) dX7_told_111 (by decide) ?_
    exact hR _ _ _ _ dX7_told_112 ⟨Or.inl ⟨hq16, rfl⟩, h_w1_om, fun z q0 => fr_w1 z q0⟩

set_option maxHeartbeats 4000000 in
set_option maxRecDepth 20000 in
theorem c_X7_kept_T (D : va_G) (cI cS : ClassId) (w : mwT) (om md aso asi ase ato amo alo aro asr : Nat) (th : Int32) (so : Nat → Nat) (si : Nat → Nat) (se : Nat → Nat) (to : Nat → Int32) (mo : Nat → Nat) (lo : Nat → Int32) (ro : Nat → Int32) (s c sd mv : Nat) (tot : Int32) (f : Nat → Int32) (i pt : Int32) (hom : w om = some (.inr (6, [.int th, .int (nI md), .ref aso, .ref asi, .ref ase, .ref ato, .ref amo, .ref alo, .ref aro, .ref asr]))) (h_aso : w aso = some (eI cI 8 (lnF so))) (h_asi : w asi = some (eI cI 8 (lnF si))) (h_ase : w ase = some (eI cI 8 (lnF se))) (h_ato : w ato = some (eI cI 8 to)) (h_amo : w amo = some (eI cI 8 (lnF mo))) (h_alo : w alo = some (eI cI 8 lo)) (h_aro : w aro = some (eI cI 9600 ro)) (hmd : md ≤ 8) (hs : s < md) (hsd : sd ≤ 999) (hso : so s = 1) (hsi : si s = c) (hse : se s = sd) (hto : to s = tot) (hmo : mo s = mv) (hc1 : 4 ≤ c) (hc2 : c ≤ 64) (hv : TbM ro s f (4 * c)) (hlo : lo s = nI 0) : mMi yX7_kept cX7_kept 5 (some .int) (rmL 8) [.ref om, .int (nI s), .int i, .int pt] D cI cS w (fun r w1 => ((∃ e : Nat, e < 4 * c ∧ i = nI e ∧ pt = 0 ∧ r = f e + nI 10000000) ∨ (r = -1 ∧ ¬ (ixN (4 * c) i ∧ pt = 0))) ∧ w1 om = some (.inr (6, [.int (nI 0), .int (nI md), .ref aso, .ref asi, .ref ase, .ref ato, .ref amo, .ref alo, .ref aro, .ref asr])) ∧ ∀ z : Nat, z ≠ om → w1 z = w z) := by
  refine mMi.of (by decide) (Nat.le_of_ble_eq_true rfl) ?_
  intro X C hN hR
  have fr_w : ∀ zz : Nat, w zz = w zz := fun _ => rfl
  refine mg_sub (lv' := [(0, .ref om), (1, .int (nI s)), (2, .int i), (3, .int pt)]) [0, 1, 2, 3] rfl ?_
  have hs8 : s < 8 := by omega
  refine mg_aload_n C dX7_kept_0 rfl ?_
  refine mg_iconst C (v := nI 0) dX7_kept_1 (by decide) ?_
  refine mg_put C (fs' := [.int (nI 0), .int (nI md), .ref aso, .ref asi, .ref ase, .ref ato, .ref amo, .ref alo, .ref aro, .ref asr]) inT7 hom rfl 0 (by decide) kw_28 (Or.inl rfl) tyX7_ok nmX7 rfl rfl rfl rfl (Nat.le_of_ble_eq_true rfl) dX7_kept_2 (fun w1 e_w1 => ?_)
  have h_w1_om : w1 om = some (.inr (6, [.int (nI 0), .int (nI md), .ref aso, .ref asi, .ref ase, .ref ato, .ref amo, .ref alo, .ref aro, .ref asr])) := (congrFun e_w1 _).trans mwu_eq
  have h_w1_aso : w1 aso = some (eI cI 8 (lnF so)) := (congrFun e_w1 _).trans ((mwu_ne (mw_ao h_aso hom)).trans h_aso)
  have h_w1_asi : w1 asi = some (eI cI 8 (lnF si)) := (congrFun e_w1 _).trans ((mwu_ne (mw_ao h_asi hom)).trans h_asi)
  have h_w1_ase : w1 ase = some (eI cI 8 (lnF se)) := (congrFun e_w1 _).trans ((mwu_ne (mw_ao h_ase hom)).trans h_ase)
  have h_w1_ato : w1 ato = some (eI cI 8 to) := (congrFun e_w1 _).trans ((mwu_ne (mw_ao h_ato hom)).trans h_ato)
  have h_w1_amo : w1 amo = some (eI cI 8 (lnF mo)) := (congrFun e_w1 _).trans ((mwu_ne (mw_ao h_amo hom)).trans h_amo)
  have h_w1_alo : w1 alo = some (eI cI 8 lo) := (congrFun e_w1 _).trans ((mwu_ne (mw_ao h_alo hom)).trans h_alo)
  have h_w1_aro : w1 aro = some (eI cI 9600 ro) := (congrFun e_w1 _).trans ((mwu_ne (mw_ao h_aro hom)).trans h_aro)
  have fr_w1 : ∀ zz : Nat, zz ≠ om → w1 zz = w zz := fun zz g0 => (congrFun e_w1 zz).trans ((mwu_ne g0).trans (fr_w zz ))
  refine mg_aload_n C dX7_kept_5 rfl ?_
  refine mg_iload_n C dX7_kept_6 rfl ?_
  refine mg_callV_i C h_w1_om rfl (rest := []) (c_X7_none_in D cI cS w1 om md aso asi ase ato amo alo aro asr (nI 0)  s h_w1_om hmd hs) yq_X7_none kw_197 kw_198 kw_199 ⟨by decide, by decide⟩ ⟨Nat.le_of_ble_eq_true rfl, Nat.le_of_ble_eq_true rfl⟩ (Nat.le_of_ble_eq_true rfl) rfl rfl dX7_kept_7 (fun r2 w3 ⟨e_r2, e_w3⟩ => ?_)
  rw [e_w3, e_r2]
  refine mg_ifN_eq C (tgt := 15) dX7_kept_10 (by decide) (by decide) (fun c_10 => ?_) (fun c_10 => absurd c_10 (by decide))
  refine mg_iconst C (v := nI 0) dX7_kept_15 (by decide) ?_
  refine mg_istore C (lv' := [(4, .int (nI 0)), (0, .ref om), (1, .int (nI s)), (2, .int i), (3, .int pt)]) dX7_kept_16 (by decide) rfl ?_
  refine mg_aload_n C dX7_kept_18 rfl ?_
  refine mg_get C inT7 h_w1_om rfl 2 (by decide) kw_20 (Or.inl rfl) rfl dX7_kept_19 ?_
  refine mg_iload_n C dX7_kept_22 rfl ?_
  refine mg_ialdN C h_w1_aso (by omega) (by omega) dX7_kept_23 ?_
  rw [show lnF so s = nI 1 from congrArg nI hso]
  refine mg_tabIn C (tgt := 102) (off := 78) dX7_kept_24 (by decide) (by decide) rfl (by decide) ?_
  refine mg_iload_n C dX7_kept_102 rfl ?_
  refine mg_if_ne C (tgt := 145) dX7_kept_103 (by decide) (fun c_103 => ?_) (fun c_103 => ?_)
  · refine mg_iconst C (v := (-1 : Int32)) dX7_kept_145 (by decide) ?_
    exact hR _ _ _ _ dX7_kept_146 ⟨Or.inr ⟨rfl, fun q => c_103 q.2⟩, h_w1_om, fun z q0 => fr_w1 z q0⟩
  · refine mg_iload_n C dX7_kept_106 rfl ?_
    refine mg_iconst C (v := nI 0) dX7_kept_107 (by decide) ?_
    refine mg_iconst C (v := nI 4) dX7_kept_108 (by decide) ?_
    refine mg_aload_n C dX7_kept_109 rfl ?_
    refine mg_get C inT7 h_w1_om rfl 3 (by decide) kw_21 (Or.inl rfl) rfl dX7_kept_110 ?_
    refine mg_iload_n C dX7_kept_113 rfl ?_
    refine mg_ialdN C h_w1_asi (by omega) (by omega) dX7_kept_114 ?_
    rw [show lnF si s = nI c from congrArg nI hsi]
    refine mg_imul C (z := nI (4 * c)) dX7_kept_115 (pk_mul _ _) ?_
    refine mg_iconst C (v := nI 1) dX7_kept_116 (by decide) ?_
    refine mg_isub C (z := nI ((4 * c) - 1)) dX7_kept_117 (ni_sub (by omega)) ?_
    refine mg_callS_i C (rest := []) (c_X7_in D cI cS w1 i (nI 0) (nI ((4 * c) - 1))) yq_X7_in kw_112 kw_113 ⟨by decide, by decide⟩ ⟨Nat.le_of_ble_eq_true rfl, Nat.le_of_ble_eq_true rfl⟩ (Nat.le_of_ble_eq_true rfl) rfl rfl dX7_kept_118 (fun r4 w4 ⟨xa4, xk4⟩ => ?_)
    rw [xk4]
    rcases xa4 with ⟨ra4, hy_p⟩ | ⟨ra4, hy_p⟩
    · rw [ra4]
      obtain ⟨pa, hpa, rfl⟩ := (rg_ix (n := 4 * c) (by omega)).mp ((in_rg (by omega)).mp hy_p)
      refine mg_ifN_eq C (tgt := 145) dX7_kept_121 (by decide) (by decide) (fun c_121 => absurd c_121 (by decide)) (fun c_121 => ?_)
      refine mg_aload_n C dX7_kept_124 rfl ?_
      refine mg_get C inT7 h_w1_om rfl 8 (by decide) kw_26 (Or.inl rfl) rfl dX7_kept_125 ?_
      refine mg_sipush C (v := nI 1200) dX7_kept_128 (by decide) ?_
      refine mg_iload_n C dX7_kept_131 rfl ?_
      refine mg_imul C (z := nI (1200 * s)) dX7_kept_132 (pk_mul _ _) ?_
      refine mg_bipush C (v := nI 100) dX7_kept_133 (by decide) ?_
      refine mg_iadd C (z := nI ((1200 * s) + 100)) dX7_kept_135 (nI_add _ _) ?_
      refine mg_iload_n C dX7_kept_136 rfl ?_
      refine mg_iadd C (z := nI (((1200 * s) + 100) + pa)) dX7_kept_137 (nI_add _ _) ?_
      refine mg_ialdN C h_w1_aro (by omega) (by omega) dX7_kept_138 ?_
      rw [hv pa hpa]
      refine mg_ldc C (v := nI 10000000) dX7_kept_139 kw_231 (by decide) ?_
      refine mg_iadd C (z := (f pa) + (nI 10000000)) dX7_kept_141 rfl ?_
      refine mg_goto C (tgt := 146) dX7_kept_142 (by decide) ?_
      exact hR _ _ _ _ dX7_kept_146 ⟨Or.inl ⟨pa, hpa, rfl, c_103, rfl⟩, h_w1_om, fun z q0 => fr_w1 z q0⟩
    · rw [ra4]
      refine mg_ifN_eq C (tgt := 145) dX7_kept_121 (by decide) (by decide) (fun c_121 => ?_) (fun c_121 => absurd c_121 (by decide))
      refine mg_iconst C (v := (-1 : Int32)) dX7_kept_145 (by decide) ?_
      exact hR _ _ _ _ dX7_kept_146 ⟨Or.inr ⟨rfl, fun q => hy_p ((in_rg (by omega)).mpr ((rg_ix (n := 4 * c) (by omega)).mpr q.1))⟩, h_w1_om, fun z q0 => fr_w1 z q0⟩

set_option maxHeartbeats 4000000 in
set_option maxRecDepth 20000 in
theorem c_X7_low_F (D : va_G) (cI cS : ClassId) (w : mwT) (om md aso asi ase ato amo alo aro asr : Nat) (th : Int32) (so : Nat → Nat) (si : Nat → Nat) (se : Nat → Nat) (to : Nat → Int32) (mo : Nat → Nat) (lo : Nat → Int32) (ro : Nat → Int32) (s c sd mv : Nat) (tot : Int32) (f : Nat → Int32) (x : Int32) (hom : w om = some (.inr (6, [.int th, .int (nI md), .ref aso, .ref asi, .ref ase, .ref ato, .ref amo, .ref alo, .ref aro, .ref asr]))) (h_aso : w aso = some (eI cI 8 (lnF so))) (h_asi : w asi = some (eI cI 8 (lnF si))) (h_ase : w ase = some (eI cI 8 (lnF se))) (h_ato : w ato = some (eI cI 8 to)) (h_amo : w amo = some (eI cI 8 (lnF mo))) (h_alo : w alo = some (eI cI 8 lo)) (h_aro : w aro = some (eI cI 9600 ro)) (hmd : md ≤ 8) (hs : s < md) (hsd : sd ≤ 999) (hso : so s = 2) (hsi : si s = c) (hse : se s = sd) (hto : to s = tot) (hmo : mo s = mv) (hc1 : 16 ≤ c) (hc2 : c ≤ 512) (hv : TbM ro s f c) (hlo : lo s = nI 0) : mMi yX7_low cX7_low 4 (some .int) (rmL 8) [.ref om, .int (nI s), .int x] D cI cS w (fun r w1 => (r = -1) ∧ w1 om = some (.inr (6, [.int (nI 0), .int (nI md), .ref aso, .ref asi, .ref ase, .ref ato, .ref amo, .ref alo, .ref aro, .ref asr])) ∧ ∀ z : Nat, z ≠ om → w1 z = w z) := by
  refine mMi.of (by decide) (Nat.le_of_ble_eq_true rfl) ?_
  intro X C hN hR
  have fr_w : ∀ zz : Nat, w zz = w zz := fun _ => rfl
  refine mg_sub (lv' := [(0, .ref om), (1, .int (nI s)), (2, .int x)]) [0, 1, 2] rfl ?_
  have hs8 : s < 8 := by omega
  refine mg_aload_n C dX7_low_0 rfl ?_
  refine mg_iconst C (v := nI 0) dX7_low_1 (by decide) ?_
  refine mg_put C (fs' := [.int (nI 0), .int (nI md), .ref aso, .ref asi, .ref ase, .ref ato, .ref amo, .ref alo, .ref aro, .ref asr]) inT7 hom rfl 0 (by decide) kw_28 (Or.inl rfl) tyX7_ok nmX7 rfl rfl rfl rfl (Nat.le_of_ble_eq_true rfl) dX7_low_2 (fun w1 e_w1 => ?_)
  have h_w1_om : w1 om = some (.inr (6, [.int (nI 0), .int (nI md), .ref aso, .ref asi, .ref ase, .ref ato, .ref amo, .ref alo, .ref aro, .ref asr])) := (congrFun e_w1 _).trans mwu_eq
  have h_w1_aso : w1 aso = some (eI cI 8 (lnF so)) := (congrFun e_w1 _).trans ((mwu_ne (mw_ao h_aso hom)).trans h_aso)
  have h_w1_asi : w1 asi = some (eI cI 8 (lnF si)) := (congrFun e_w1 _).trans ((mwu_ne (mw_ao h_asi hom)).trans h_asi)
  have h_w1_ase : w1 ase = some (eI cI 8 (lnF se)) := (congrFun e_w1 _).trans ((mwu_ne (mw_ao h_ase hom)).trans h_ase)
  have h_w1_ato : w1 ato = some (eI cI 8 to) := (congrFun e_w1 _).trans ((mwu_ne (mw_ao h_ato hom)).trans h_ato)
  have h_w1_amo : w1 amo = some (eI cI 8 (lnF mo)) := (congrFun e_w1 _).trans ((mwu_ne (mw_ao h_amo hom)).trans h_amo)
  have h_w1_alo : w1 alo = some (eI cI 8 lo) := (congrFun e_w1 _).trans ((mwu_ne (mw_ao h_alo hom)).trans h_alo)
  have h_w1_aro : w1 aro = some (eI cI 9600 ro) := (congrFun e_w1 _).trans ((mwu_ne (mw_ao h_aro hom)).trans h_aro)
  have fr_w1 : ∀ zz : Nat, zz ≠ om → w1 zz = w zz := fun zz g0 => (congrFun e_w1 zz).trans ((mwu_ne g0).trans (fr_w zz ))
  refine mg_aload_n C dX7_low_5 rfl ?_
  refine mg_iload_n C dX7_low_6 rfl ?_
  refine mg_iload_n C dX7_low_7 rfl ?_
  refine mg_aload_n C dX7_low_8 rfl ?_
  refine mg_iload_n C dX7_low_9 rfl ?_
  refine mg_iconst C (v := nI 0) dX7_low_10 (by decide) ?_
  refine mg_iconst C (v := nI 4) dX7_low_11 (by decide) ?_
  refine mg_callV_i C h_w1_om rfl (rest := [.int x, .int (nI s), .ref om]) (c_X7_isOf_n D cI cS w1 om md aso asi ase ato amo alo aro asr (nI 0) so s 2 0 4 h_w1_om h_w1_aso hmd hs hso (by decide) (by decide) (by decide) (by decide) (by decide)) yq_X7_isOf kw_463 kw_464 kw_465 ⟨by decide, by decide⟩ ⟨Nat.le_of_ble_eq_true rfl, Nat.le_of_ble_eq_true rfl⟩ (Nat.le_of_ble_eq_true rfl) rfl rfl dX7_low_12 (fun r2 w3 ⟨e_r2, e_w3⟩ => ?_)
  rw [e_w3, e_r2]
  refine mg_callV_i C h_w1_om rfl (rest := []) (c_X7_isBad_ns D cI cS w1 om md aso asi ase ato amo alo aro asr (nI 0)  s x h_w1_om hmd hs) yq_X7_isBad kw_467 kw_468 kw_469 ⟨by decide, by decide⟩ ⟨Nat.le_of_ble_eq_true rfl, Nat.le_of_ble_eq_true rfl⟩ (Nat.le_of_ble_eq_true rfl) rfl rfl dX7_low_15 (fun r4 w5 ⟨e_r4, e_w5⟩ => ?_)
  rw [e_w5, e_r4]
  refine mg_ifN_eq C (tgt := 23) dX7_low_18 (by decide) (by decide) (fun c_18 => absurd c_18 (by decide)) (fun c_18 => ?_)
  refine mg_iconst C (v := (-1 : Int32)) dX7_low_21 (by decide) ?_
  exact hR _ _ _ _ dX7_low_22 ⟨rfl, h_w1_om, fun z q0 => fr_w1 z q0⟩

set_option maxHeartbeats 4000000 in
set_option maxRecDepth 20000 in
theorem c_X7_high_F (D : va_G) (cI cS : ClassId) (w : mwT) (om md aso asi ase ato amo alo aro asr : Nat) (th : Int32) (so : Nat → Nat) (si : Nat → Nat) (se : Nat → Nat) (to : Nat → Int32) (mo : Nat → Nat) (lo : Nat → Int32) (ro : Nat → Int32) (s c sd mv : Nat) (tot : Int32) (f : Nat → Int32) (x : Int32) (hom : w om = some (.inr (6, [.int th, .int (nI md), .ref aso, .ref asi, .ref ase, .ref ato, .ref amo, .ref alo, .ref aro, .ref asr]))) (h_aso : w aso = some (eI cI 8 (lnF so))) (h_asi : w asi = some (eI cI 8 (lnF si))) (h_ase : w ase = some (eI cI 8 (lnF se))) (h_ato : w ato = some (eI cI 8 to)) (h_amo : w amo = some (eI cI 8 (lnF mo))) (h_alo : w alo = some (eI cI 8 lo)) (h_aro : w aro = some (eI cI 9600 ro)) (hmd : md ≤ 8) (hs : s < md) (hsd : sd ≤ 999) (hso : so s = 2) (hsi : si s = c) (hse : se s = sd) (hto : to s = tot) (hmo : mo s = mv) (hc1 : 16 ≤ c) (hc2 : c ≤ 512) (hv : TbM ro s f c) (hlo : lo s = nI 0) : mMi yX7_high cX7_high 5 (some .int) (rmL 8) [.ref om, .int (nI s), .int x] D cI cS w (fun r w1 => (r = -1) ∧ w1 om = some (.inr (6, [.int (nI 0), .int (nI md), .ref aso, .ref asi, .ref ase, .ref ato, .ref amo, .ref alo, .ref aro, .ref asr])) ∧ ∀ z : Nat, z ≠ om → w1 z = w z) := by
  refine mMi.of (by decide) (Nat.le_of_ble_eq_true rfl) ?_
  intro X C hN hR
  have fr_w : ∀ zz : Nat, w zz = w zz := fun _ => rfl
  refine mg_sub (lv' := [(0, .ref om), (1, .int (nI s)), (2, .int x)]) [0, 1, 2] rfl ?_
  have hs8 : s < 8 := by omega
  refine mg_aload_n C dX7_high_0 rfl ?_
  refine mg_iconst C (v := nI 0) dX7_high_1 (by decide) ?_
  refine mg_put C (fs' := [.int (nI 0), .int (nI md), .ref aso, .ref asi, .ref ase, .ref ato, .ref amo, .ref alo, .ref aro, .ref asr]) inT7 hom rfl 0 (by decide) kw_28 (Or.inl rfl) tyX7_ok nmX7 rfl rfl rfl rfl (Nat.le_of_ble_eq_true rfl) dX7_high_2 (fun w1 e_w1 => ?_)
  have h_w1_om : w1 om = some (.inr (6, [.int (nI 0), .int (nI md), .ref aso, .ref asi, .ref ase, .ref ato, .ref amo, .ref alo, .ref aro, .ref asr])) := (congrFun e_w1 _).trans mwu_eq
  have h_w1_aso : w1 aso = some (eI cI 8 (lnF so)) := (congrFun e_w1 _).trans ((mwu_ne (mw_ao h_aso hom)).trans h_aso)
  have h_w1_asi : w1 asi = some (eI cI 8 (lnF si)) := (congrFun e_w1 _).trans ((mwu_ne (mw_ao h_asi hom)).trans h_asi)
  have h_w1_ase : w1 ase = some (eI cI 8 (lnF se)) := (congrFun e_w1 _).trans ((mwu_ne (mw_ao h_ase hom)).trans h_ase)
  have h_w1_ato : w1 ato = some (eI cI 8 to) := (congrFun e_w1 _).trans ((mwu_ne (mw_ao h_ato hom)).trans h_ato)
  have h_w1_amo : w1 amo = some (eI cI 8 (lnF mo)) := (congrFun e_w1 _).trans ((mwu_ne (mw_ao h_amo hom)).trans h_amo)
  have h_w1_alo : w1 alo = some (eI cI 8 lo) := (congrFun e_w1 _).trans ((mwu_ne (mw_ao h_alo hom)).trans h_alo)
  have h_w1_aro : w1 aro = some (eI cI 9600 ro) := (congrFun e_w1 _).trans ((mwu_ne (mw_ao h_aro hom)).trans h_aro)
  have fr_w1 : ∀ zz : Nat, zz ≠ om → w1 zz = w zz := fun zz g0 => (congrFun e_w1 zz).trans ((mwu_ne g0).trans (fr_w zz ))
  refine mg_aload_n C dX7_high_5 rfl ?_
  refine mg_iload_n C dX7_high_6 rfl ?_
  refine mg_iload_n C dX7_high_7 rfl ?_
  refine mg_aload_n C dX7_high_8 rfl ?_
  refine mg_iload_n C dX7_high_9 rfl ?_
  refine mg_iconst C (v := nI 0) dX7_high_10 (by decide) ?_
  refine mg_iconst C (v := nI 4) dX7_high_11 (by decide) ?_
  refine mg_callV_i C h_w1_om rfl (rest := [.int x, .int (nI s), .ref om]) (c_X7_isOf_n D cI cS w1 om md aso asi ase ato amo alo aro asr (nI 0) so s 2 0 4 h_w1_om h_w1_aso hmd hs hso (by decide) (by decide) (by decide) (by decide) (by decide)) yq_X7_isOf kw_463 kw_464 kw_465 ⟨by decide, by decide⟩ ⟨Nat.le_of_ble_eq_true rfl, Nat.le_of_ble_eq_true rfl⟩ (Nat.le_of_ble_eq_true rfl) rfl rfl dX7_high_12 (fun r2 w3 ⟨e_r2, e_w3⟩ => ?_)
  rw [e_w3, e_r2]
  refine mg_ifN_ne C (tgt := 28) dX7_high_15 (by decide) (by decide) (fun c_15 => absurd c_15 (by decide)) (fun c_15 => ?_)
  refine mg_aload_n C dX7_high_18 rfl ?_
  refine mg_iload_n C dX7_high_19 rfl ?_
  refine mg_iconst C (v := nI 1) dX7_high_20 (by decide) ?_
  refine mg_iconst C (v := nI 1) dX7_high_21 (by decide) ?_
  refine mg_callV_i C h_w1_om rfl (rest := [.int x, .int (nI s), .ref om]) (c_X7_isOf_n D cI cS w1 om md aso asi ase ato amo alo aro asr (nI 0) so s 2 1 1 h_w1_om h_w1_aso hmd hs hso (by decide) (by decide) (by decide) (by decide) (by decide)) yq_X7_isOf kw_463 kw_464 kw_465 ⟨by decide, by decide⟩ ⟨Nat.le_of_ble_eq_true rfl, Nat.le_of_ble_eq_true rfl⟩ (Nat.le_of_ble_eq_true rfl) rfl rfl dX7_high_22 (fun r4 w5 ⟨e_r4, e_w5⟩ => ?_)
  rw [e_w5, e_r4]
  refine mg_ifN_eq C (tgt := 32) dX7_high_25 (by decide) (by decide) (fun c_25 => ?_) (fun c_25 => absurd c_25 (by decide))
  refine mg_iconst C (v := nI 0) dX7_high_32 (by decide) ?_
  refine mg_callV_i C h_w1_om rfl (rest := []) (c_X7_isBad_ns D cI cS w1 om md aso asi ase ato amo alo aro asr (nI 0)  s x h_w1_om hmd hs) yq_X7_isBad kw_467 kw_468 kw_469 ⟨by decide, by decide⟩ ⟨Nat.le_of_ble_eq_true rfl, Nat.le_of_ble_eq_true rfl⟩ (Nat.le_of_ble_eq_true rfl) rfl rfl dX7_high_33 (fun r6 w7 ⟨e_r6, e_w7⟩ => ?_)
  rw [e_w7, e_r6]
  refine mg_ifN_eq C (tgt := 41) dX7_high_36 (by decide) (by decide) (fun c_36 => absurd c_36 (by decide)) (fun c_36 => ?_)
  refine mg_iconst C (v := (-1 : Int32)) dX7_high_39 (by decide) ?_
  exact hR _ _ _ _ dX7_high_40 ⟨rfl, h_w1_om, fun z q0 => fr_w1 z q0⟩

set_option maxHeartbeats 4000000 in
set_option maxRecDepth 20000 in
theorem c_X7_has_F (D : va_G) (cI cS : ClassId) (w : mwT) (om md aso asi ase ato amo alo aro asr : Nat) (th : Int32) (so : Nat → Nat) (si : Nat → Nat) (se : Nat → Nat) (to : Nat → Int32) (mo : Nat → Nat) (lo : Nat → Int32) (ro : Nat → Int32) (s c sd mv : Nat) (tot : Int32) (f : Nat → Int32) (x : Int32) (hom : w om = some (.inr (6, [.int th, .int (nI md), .ref aso, .ref asi, .ref ase, .ref ato, .ref amo, .ref alo, .ref aro, .ref asr]))) (h_aso : w aso = some (eI cI 8 (lnF so))) (h_asi : w asi = some (eI cI 8 (lnF si))) (h_ase : w ase = some (eI cI 8 (lnF se))) (h_ato : w ato = some (eI cI 8 to)) (h_amo : w amo = some (eI cI 8 (lnF mo))) (h_alo : w alo = some (eI cI 8 lo)) (h_aro : w aro = some (eI cI 9600 ro)) (hmd : md ≤ 8) (hs : s < md) (hsd : sd ≤ 999) (hso : so s = 2) (hsi : si s = c) (hse : se s = sd) (hto : to s = tot) (hmo : mo s = mv) (hc1 : 16 ≤ c) (hc2 : c ≤ 512) (hv : TbM ro s f c) (hlo : lo s = nI 0) : mMi yX7_has cX7_has 6 (some .int) (rmL 8) [.ref om, .int (nI s), .int x] D cI cS w (fun r w1 => ((¬ rg 9999 x ∧ r = -1) ∨ (∃ xa : Nat, xa ≤ 9999 ∧ x = nI xa ∧ r = hlF f sd xa c 4)) ∧ w1 om = some (.inr (6, [.int (nI 0), .int (nI md), .ref aso, .ref asi, .ref ase, .ref ato, .ref amo, .ref alo, .ref aro, .ref asr])) ∧ ∀ z : Nat, z ≠ om → w1 z = w z) := by
  refine mMi.of (by decide) (Nat.le_of_ble_eq_true rfl) ?_
  intro X C hN hR
  have fr_w : ∀ zz : Nat, w zz = w zz := fun _ => rfl
  refine mg_sub (lv' := [(0, .ref om), (1, .int (nI s)), (2, .int x)]) [0, 1, 2] rfl ?_
  have hs8 : s < 8 := by omega
  refine mg_aload_n C dX7_has_0 rfl ?_
  refine mg_iconst C (v := nI 0) dX7_has_1 (by decide) ?_
  refine mg_put C (fs' := [.int (nI 0), .int (nI md), .ref aso, .ref asi, .ref ase, .ref ato, .ref amo, .ref alo, .ref aro, .ref asr]) inT7 hom rfl 0 (by decide) kw_28 (Or.inl rfl) tyX7_ok nmX7 rfl rfl rfl rfl (Nat.le_of_ble_eq_true rfl) dX7_has_2 (fun w1 e_w1 => ?_)
  have h_w1_om : w1 om = some (.inr (6, [.int (nI 0), .int (nI md), .ref aso, .ref asi, .ref ase, .ref ato, .ref amo, .ref alo, .ref aro, .ref asr])) := (congrFun e_w1 _).trans mwu_eq
  have h_w1_aso : w1 aso = some (eI cI 8 (lnF so)) := (congrFun e_w1 _).trans ((mwu_ne (mw_ao h_aso hom)).trans h_aso)
  have h_w1_asi : w1 asi = some (eI cI 8 (lnF si)) := (congrFun e_w1 _).trans ((mwu_ne (mw_ao h_asi hom)).trans h_asi)
  have h_w1_ase : w1 ase = some (eI cI 8 (lnF se)) := (congrFun e_w1 _).trans ((mwu_ne (mw_ao h_ase hom)).trans h_ase)
  have h_w1_ato : w1 ato = some (eI cI 8 to) := (congrFun e_w1 _).trans ((mwu_ne (mw_ao h_ato hom)).trans h_ato)
  have h_w1_amo : w1 amo = some (eI cI 8 (lnF mo)) := (congrFun e_w1 _).trans ((mwu_ne (mw_ao h_amo hom)).trans h_amo)
  have h_w1_alo : w1 alo = some (eI cI 8 lo) := (congrFun e_w1 _).trans ((mwu_ne (mw_ao h_alo hom)).trans h_alo)
  have h_w1_aro : w1 aro = some (eI cI 9600 ro) := (congrFun e_w1 _).trans ((mwu_ne (mw_ao h_aro hom)).trans h_aro)
  have fr_w1 : ∀ zz : Nat, zz ≠ om → w1 zz = w zz := fun zz g0 => (congrFun e_w1 zz).trans ((mwu_ne g0).trans (fr_w zz ))
  refine mg_aload_n C dX7_has_5 rfl ?_
  refine mg_iload_n C dX7_has_6 rfl ?_
  refine mg_iload_n C dX7_has_7 rfl ?_
  refine mg_aload_n C dX7_has_8 rfl ?_
  refine mg_iload_n C dX7_has_9 rfl ?_
  refine mg_iconst C (v := nI 2) dX7_has_10 (by decide) ?_
  refine mg_iconst C (v := nI 3) dX7_has_11 (by decide) ?_
  refine mg_callV_i C h_w1_om rfl (rest := [.int x, .int (nI s), .ref om]) (c_X7_isOf_a D cI cS w1 om md aso asi ase ato amo alo aro asr (nI 0) so s 2 2 3 h_w1_om h_w1_aso hmd hs hso (by decide) (by decide) (by decide) rfl) yq_X7_isOf kw_463 kw_464 kw_465 ⟨by decide, by decide⟩ ⟨Nat.le_of_ble_eq_true rfl, Nat.le_of_ble_eq_true rfl⟩ (Nat.le_of_ble_eq_true rfl) rfl rfl dX7_has_12 (fun r2 w3 ⟨e_r2, e_w3⟩ => ?_)
  rw [e_w3, e_r2]
  refine mg_callV_i C h_w1_om rfl (rest := []) (c_X7_isBad_in D cI cS w1 om md aso asi ase ato amo alo aro asr (nI 0)  s x h_w1_om hmd hs) yq_X7_isBad kw_467 kw_468 kw_469 ⟨by decide, by decide⟩ ⟨Nat.le_of_ble_eq_true rfl, Nat.le_of_ble_eq_true rfl⟩ (Nat.le_of_ble_eq_true rfl) rfl rfl dX7_has_15 (fun r4 w4 ⟨xa4, xk4⟩ => ?_)
  rw [xk4]
  rcases xa4 with ⟨ra4, hy_bad⟩ | ⟨ra4, hy_bad⟩
  · rw [ra4]
    refine mg_ifN_eq C (tgt := 23) dX7_has_18 (by decide) (by decide) (fun c_18 => absurd c_18 (by decide)) (fun c_18 => ?_)
    refine mg_iconst C (v := (-1 : Int32)) dX7_has_21 (by decide) ?_
    exact hR _ _ _ _ dX7_has_22 ⟨Or.inl ⟨hy_bad, rfl⟩, h_w1_om, fun z q0 => fr_w1 z q0⟩
  · rw [ra4]
    obtain ⟨xa, hxa, rfl⟩ := hy_bad
    refine mg_ifN_eq C (tgt := 23) dX7_has_18 (by decide) (by decide) (fun c_18 => ?_) (fun c_18 => absurd c_18 (by decide))
    refine mg_aload_n C dX7_has_23 rfl ?_
    refine mg_get C inT7 h_w1_om rfl 2 (by decide) kw_20 (Or.inl rfl) rfl dX7_has_24 ?_
    refine mg_iload_n C dX7_has_27 rfl ?_
    refine mg_ialdN C h_w1_aso (by omega) (by omega) dX7_has_28 ?_
    rw [show lnF so s = nI 2 from congrArg nI hso]
    refine mg_iconst C (v := nI 2) dX7_has_29 (by decide) ?_
    refine mg_icmpN_ne C (tgt := 68) dX7_has_30 (by decide) (by omega) (by omega) (fun c_30 => absurd rfl c_30) (fun c_30 => ?_)
    refine mg_iconst C (v := nI 1) dX7_has_33 (by decide) ?_
    refine mg_istore_n C (lv' := [(3, .int (nI 1)), (0, .ref om), (1, .int (nI s)), (2, .int (nI xa))]) dX7_has_34 rfl (by decide) rfl ?_
    refine mg_iconst C (v := nI 0) dX7_has_35 (by decide) ?_
    refine mg_istore C (lv' := [(4, .int (nI 0)), (3, .int (nI 1)), (0, .ref om), (1, .int (nI s)), (2, .int (nI xa))]) dX7_has_36 (by decide) rfl ?_
    have L38 : ∀ (M38 : Nat) (jz : Nat), 4 - jz < M38 → (jz ≤ 4) → mwG X 0 0 w1 [(0, .ref om), (1, .int (nI s)), (2, .int (nI xa)), (3, .int (hlF f sd xa c jz)), (4, .int (nI jz))] [] 38 := by
      intro M38
      induction M38 with
      | zero => intro jz hm38; exact absurd hm38 (Nat.not_lt_zero _)
      | succ M38 ih38 =>
        intro jz hm38 hjz
        refine mg_iload C dX7_has_38 rfl ?_
        refine mg_iconst C (v := nI 4) dX7_has_40 (by decide) ?_
        refine mg_icmpN_ge C (tgt := 66) dX7_has_41 (by decide) (by omega) (by omega) (fun c_41 => ?_) (fun c_41 => ?_)
        · refine mg_iload_n C dX7_has_66 rfl ?_
          have ej : jz = 4 := by omega
          exact hR _ _ _ _ dX7_has_67 ⟨Or.inr ⟨xa, hxa, rfl, (by rw [ej])⟩, h_w1_om, fun z q0 => fr_w1 z q0⟩
        · refine mg_iload_n C dX7_has_44 rfl ?_
          refine mg_aload_n C dX7_has_45 rfl ?_
          refine mg_get C inT7 h_w1_om rfl 8 (by decide) kw_26 (Or.inl rfl) rfl dX7_has_46 ?_
          refine mg_aload_n C dX7_has_49 rfl ?_
          refine mg_iload_n C dX7_has_50 rfl ?_
          refine mg_iload C dX7_has_51 rfl ?_
          refine mg_iload_n C dX7_has_53 rfl ?_
          refine mg_callV_i C h_w1_om rfl (rest := [.ref aro, .int (hlF f sd xa c jz)]) (c_X7_cell_F D cI cS w1 om md aso asi ase ato amo alo aro asr (nI 0) so si se s jz xa c sd h_w1_om h_w1_aso h_w1_asi h_w1_ase hs8 hsd (by omega) hxa hse hsi hso hc1 hc2) yq_X7_cell kw_356 kw_357 kw_358 ⟨by decide, by decide⟩ ⟨Nat.le_of_ble_eq_true rfl, Nat.le_of_ble_eq_true rfl⟩ (Nat.le_of_ble_eq_true rfl) rfl rfl dX7_has_54 (fun r5 w6 ⟨e_r5, e_w6⟩ => ?_)
          rw [e_w6, e_r5]
          have hpl : hsN sd jz xa % c < c := Nat.mod_lt _ (by omega)
          refine mg_ialdN C h_w1_aro (by omega) (by omega) dX7_has_57 ?_
          rw [hv _ hpl]
          refine mg_iand C (z := (hlF f sd xa c jz) &&& (f (hsN sd jz xa % c))) dX7_has_58 rfl ?_
          refine mg_istore_n C (lv' := [(3, .int ((hlF f sd xa c jz) &&& (f (hsN sd jz xa % c)))), (0, .ref om), (1, .int (nI s)), (2, .int (nI xa)), (4, .int (nI jz))]) dX7_has_59 rfl (by decide) rfl ?_
          refine mg_iinc C (v := nI (jz + 1)) (lv' := [(4, .int (nI (jz + 1))), (3, .int ((hlF f sd xa c jz) &&& (f (hsN sd jz xa % c)))), (0, .ref om), (1, .int (nI s)), (2, .int (nI xa))]) dX7_has_60 rfl (ni_inc _) (by decide) rfl ?_
          refine mg_goto C (tgt := 38) dX7_has_63 (by decide) ?_
          refine mg_sub (lv' := [(0, .ref om), (1, .int (nI s)), (2, .int (nI xa)), (3, .int ((hlF f sd xa c jz) &&& (f (hsN sd jz xa % c)))), (4, .int (nI (jz + 1)))]) [2, 3, 4, 1, 0] rfl ?_
          exact ih38 ((jz + 1)) (by omega) (by omega)
    refine mg_sub (lv' := [(0, .ref om), (1, .int (nI s)), (2, .int (nI xa)), (3, .int (nI 1)), (4, .int (nI 0))]) [2, 3, 4, 1, 0] rfl ?_
    exact L38 (_ + 1) 0 (Nat.lt_succ_self _) (by omega)

set_option maxHeartbeats 4000000 in
set_option maxRecDepth 20000 in
theorem c_X7_distinct_F (D : va_G) (cI cS : ClassId) (w : mwT) (om md aso asi ase ato amo alo aro asr : Nat) (th : Int32) (so : Nat → Nat) (si : Nat → Nat) (se : Nat → Nat) (to : Nat → Int32) (mo : Nat → Nat) (lo : Nat → Int32) (ro : Nat → Int32) (s c sd mv : Nat) (tot : Int32) (f : Nat → Int32) (hom : w om = some (.inr (6, [.int th, .int (nI md), .ref aso, .ref asi, .ref ase, .ref ato, .ref amo, .ref alo, .ref aro, .ref asr]))) (h_aso : w aso = some (eI cI 8 (lnF so))) (h_asi : w asi = some (eI cI 8 (lnF si))) (h_ase : w ase = some (eI cI 8 (lnF se))) (h_ato : w ato = some (eI cI 8 to)) (h_amo : w amo = some (eI cI 8 (lnF mo))) (h_alo : w alo = some (eI cI 8 lo)) (h_aro : w aro = some (eI cI 9600 ro)) (hmd : md ≤ 8) (hs : s < md) (hsd : sd ≤ 999) (hso : so s = 2) (hsi : si s = c) (hse : se s = sd) (hto : to s = tot) (hmo : mo s = mv) (hc1 : 16 ≤ c) (hc2 : c ≤ 512) (hv : TbM ro s f c) (hlo : lo s = nI 0) : mMi yX7_distinct cX7_distinct 4 (some .int) (rmL 8) [.ref om, .int (nI s)] D cI cS w (fun r w1 => (r = -1) ∧ w1 om = some (.inr (6, [.int (nI 0), .int (nI md), .ref aso, .ref asi, .ref ase, .ref ato, .ref amo, .ref alo, .ref aro, .ref asr])) ∧ ∀ z : Nat, z ≠ om → w1 z = w z) := by
  refine mMi.of (by decide) (Nat.le_of_ble_eq_true rfl) ?_
  intro X C hN hR
  have fr_w : ∀ zz : Nat, w zz = w zz := fun _ => rfl
  refine mg_sub (lv' := [(0, .ref om), (1, .int (nI s))]) [0, 1] rfl ?_
  have hs8 : s < 8 := by omega
  refine mg_aload_n C dX7_distinct_0 rfl ?_
  refine mg_iconst C (v := nI 0) dX7_distinct_1 (by decide) ?_
  refine mg_put C (fs' := [.int (nI 0), .int (nI md), .ref aso, .ref asi, .ref ase, .ref ato, .ref amo, .ref alo, .ref aro, .ref asr]) inT7 hom rfl 0 (by decide) kw_28 (Or.inl rfl) tyX7_ok nmX7 rfl rfl rfl rfl (Nat.le_of_ble_eq_true rfl) dX7_distinct_2 (fun w1 e_w1 => ?_)
  have h_w1_om : w1 om = some (.inr (6, [.int (nI 0), .int (nI md), .ref aso, .ref asi, .ref ase, .ref ato, .ref amo, .ref alo, .ref aro, .ref asr])) := (congrFun e_w1 _).trans mwu_eq
  have h_w1_aso : w1 aso = some (eI cI 8 (lnF so)) := (congrFun e_w1 _).trans ((mwu_ne (mw_ao h_aso hom)).trans h_aso)
  have h_w1_asi : w1 asi = some (eI cI 8 (lnF si)) := (congrFun e_w1 _).trans ((mwu_ne (mw_ao h_asi hom)).trans h_asi)
  have h_w1_ase : w1 ase = some (eI cI 8 (lnF se)) := (congrFun e_w1 _).trans ((mwu_ne (mw_ao h_ase hom)).trans h_ase)
  have h_w1_ato : w1 ato = some (eI cI 8 to) := (congrFun e_w1 _).trans ((mwu_ne (mw_ao h_ato hom)).trans h_ato)
  have h_w1_amo : w1 amo = some (eI cI 8 (lnF mo)) := (congrFun e_w1 _).trans ((mwu_ne (mw_ao h_amo hom)).trans h_amo)
  have h_w1_alo : w1 alo = some (eI cI 8 lo) := (congrFun e_w1 _).trans ((mwu_ne (mw_ao h_alo hom)).trans h_alo)
  have h_w1_aro : w1 aro = some (eI cI 9600 ro) := (congrFun e_w1 _).trans ((mwu_ne (mw_ao h_aro hom)).trans h_aro)
  have fr_w1 : ∀ zz : Nat, zz ≠ om → w1 zz = w zz := fun zz g0 => (congrFun e_w1 zz).trans ((mwu_ne g0).trans (fr_w zz ))
  refine mg_aload_n C dX7_distinct_5 rfl ?_
  refine mg_iload_n C dX7_distinct_6 rfl ?_
  refine mg_iconst C (v := nI 3) dX7_distinct_7 (by decide) ?_
  refine mg_iconst C (v := nI 3) dX7_distinct_8 (by decide) ?_
  refine mg_callV_i C h_w1_om rfl (rest := []) (c_X7_isOf_n D cI cS w1 om md aso asi ase ato amo alo aro asr (nI 0) so s 2 3 3 h_w1_om h_w1_aso hmd hs hso (by decide) (by decide) (by decide) (by decide) (by decide)) yq_X7_isOf kw_463 kw_464 kw_465 ⟨by decide, by decide⟩ ⟨Nat.le_of_ble_eq_true rfl, Nat.le_of_ble_eq_true rfl⟩ (Nat.le_of_ble_eq_true rfl) rfl rfl dX7_distinct_9 (fun r2 w3 ⟨e_r2, e_w3⟩ => ?_)
  rw [e_w3, e_r2]
  refine mg_ifN_ne C (tgt := 17) dX7_distinct_12 (by decide) (by decide) (fun c_12 => absurd c_12 (by decide)) (fun c_12 => ?_)
  refine mg_iconst C (v := (-1 : Int32)) dX7_distinct_15 (by decide) ?_
  exact hR _ _ _ _ dX7_distinct_16 ⟨rfl, h_w1_om, fun z q0 => fr_w1 z q0⟩

set_option maxHeartbeats 4000000 in
set_option maxRecDepth 20000 in
theorem c_X7_quantile_F (D : va_G) (cI cS : ClassId) (w : mwT) (om md aso asi ase ato amo alo aro asr : Nat) (th : Int32) (so : Nat → Nat) (si : Nat → Nat) (se : Nat → Nat) (to : Nat → Int32) (mo : Nat → Nat) (lo : Nat → Int32) (ro : Nat → Int32) (s c sd mv : Nat) (tot : Int32) (f : Nat → Int32) (q : Int32) (hom : w om = some (.inr (6, [.int th, .int (nI md), .ref aso, .ref asi, .ref ase, .ref ato, .ref amo, .ref alo, .ref aro, .ref asr]))) (h_aso : w aso = some (eI cI 8 (lnF so))) (h_asi : w asi = some (eI cI 8 (lnF si))) (h_ase : w ase = some (eI cI 8 (lnF se))) (h_ato : w ato = some (eI cI 8 to)) (h_amo : w amo = some (eI cI 8 (lnF mo))) (h_alo : w alo = some (eI cI 8 lo)) (h_aro : w aro = some (eI cI 9600 ro)) (hmd : md ≤ 8) (hs : s < md) (hsd : sd ≤ 999) (hso : so s = 2) (hsi : si s = c) (hse : se s = sd) (hto : to s = tot) (hmo : mo s = mv) (hc1 : 16 ≤ c) (hc2 : c ≤ 512) (hv : TbM ro s f c) (hlo : lo s = nI 0) : mMi yX7_quantile cX7_quantile 6 (some .int) (rmL 8) [.ref om, .int (nI s), .int q] D cI cS w (fun r w1 => (r = -1) ∧ w1 om = some (.inr (6, [.int (nI 0), .int (nI md), .ref aso, .ref asi, .ref ase, .ref ato, .ref amo, .ref alo, .ref aro, .ref asr])) ∧ ∀ z : Nat, z ≠ om → w1 z = w z) := by
  refine mMi.of (by decide) (Nat.le_of_ble_eq_true rfl) ?_
  intro X C hN hR
  have fr_w : ∀ zz : Nat, w zz = w zz := fun _ => rfl
  refine mg_sub (lv' := [(0, .ref om), (1, .int (nI s)), (2, .int q)]) [0, 1, 2] rfl ?_
  have hs8 : s < 8 := by omega
  refine mg_aload_n C dX7_quantile_0 rfl ?_
  refine mg_iconst C (v := nI 0) dX7_quantile_1 (by decide) ?_
  refine mg_put C (fs' := [.int (nI 0), .int (nI md), .ref aso, .ref asi, .ref ase, .ref ato, .ref amo, .ref alo, .ref aro, .ref asr]) inT7 hom rfl 0 (by decide) kw_28 (Or.inl rfl) tyX7_ok nmX7 rfl rfl rfl rfl (Nat.le_of_ble_eq_true rfl) dX7_quantile_2 (fun w1 e_w1 => ?_)
  have h_w1_om : w1 om = some (.inr (6, [.int (nI 0), .int (nI md), .ref aso, .ref asi, .ref ase, .ref ato, .ref amo, .ref alo, .ref aro, .ref asr])) := (congrFun e_w1 _).trans mwu_eq
  have h_w1_aso : w1 aso = some (eI cI 8 (lnF so)) := (congrFun e_w1 _).trans ((mwu_ne (mw_ao h_aso hom)).trans h_aso)
  have h_w1_asi : w1 asi = some (eI cI 8 (lnF si)) := (congrFun e_w1 _).trans ((mwu_ne (mw_ao h_asi hom)).trans h_asi)
  have h_w1_ase : w1 ase = some (eI cI 8 (lnF se)) := (congrFun e_w1 _).trans ((mwu_ne (mw_ao h_ase hom)).trans h_ase)
  have h_w1_ato : w1 ato = some (eI cI 8 to) := (congrFun e_w1 _).trans ((mwu_ne (mw_ao h_ato hom)).trans h_ato)
  have h_w1_amo : w1 amo = some (eI cI 8 (lnF mo)) := (congrFun e_w1 _).trans ((mwu_ne (mw_ao h_amo hom)).trans h_amo)
  have h_w1_alo : w1 alo = some (eI cI 8 lo) := (congrFun e_w1 _).trans ((mwu_ne (mw_ao h_alo hom)).trans h_alo)
  have h_w1_aro : w1 aro = some (eI cI 9600 ro) := (congrFun e_w1 _).trans ((mwu_ne (mw_ao h_aro hom)).trans h_aro)
  have fr_w1 : ∀ zz : Nat, zz ≠ om → w1 zz = w zz := fun zz g0 => (congrFun e_w1 zz).trans ((mwu_ne g0).trans (fr_w zz ))
  refine mg_aload_n C dX7_quantile_5 rfl ?_
  refine mg_iload_n C dX7_quantile_6 rfl ?_
  refine mg_iconst C (v := nI 4) dX7_quantile_7 (by decide) ?_
  refine mg_iconst C (v := nI 4) dX7_quantile_8 (by decide) ?_
  refine mg_callV_i C h_w1_om rfl (rest := []) (c_X7_isOf_n D cI cS w1 om md aso asi ase ato amo alo aro asr (nI 0) so s 2 4 4 h_w1_om h_w1_aso hmd hs hso (by decide) (by decide) (by decide) (by decide) (by decide)) yq_X7_isOf kw_463 kw_464 kw_465 ⟨by decide, by decide⟩ ⟨Nat.le_of_ble_eq_true rfl, Nat.le_of_ble_eq_true rfl⟩ (Nat.le_of_ble_eq_true rfl) rfl rfl dX7_quantile_9 (fun r2 w3 ⟨e_r2, e_w3⟩ => ?_)
  rw [e_w3, e_r2]
  refine mg_ifN_eq C (tgt := 29) dX7_quantile_12 (by decide) (by decide) (fun c_12 => ?_) (fun c_12 => absurd c_12 (by decide))
  refine mg_iconst C (v := (-1 : Int32)) dX7_quantile_29 (by decide) ?_
  exact hR _ _ _ _ dX7_quantile_30 ⟨rfl, h_w1_om, fun z q0 => fr_w1 z q0⟩

set_option maxHeartbeats 4000000 in
set_option maxRecDepth 20000 in
theorem c_X7_told_F (D : va_G) (cI cS : ClassId) (w : mwT) (om md aso asi ase ato amo alo aro asr : Nat) (th : Int32) (so : Nat → Nat) (si : Nat → Nat) (se : Nat → Nat) (to : Nat → Int32) (mo : Nat → Nat) (lo : Nat → Int32) (ro : Nat → Int32) (s c sd mv : Nat) (tot : Int32) (f : Nat → Int32) (q : Int32) (hom : w om = some (.inr (6, [.int th, .int (nI md), .ref aso, .ref asi, .ref ase, .ref ato, .ref amo, .ref alo, .ref aro, .ref asr]))) (h_aso : w aso = some (eI cI 8 (lnF so))) (h_asi : w asi = some (eI cI 8 (lnF si))) (h_ase : w ase = some (eI cI 8 (lnF se))) (h_ato : w ato = some (eI cI 8 to)) (h_amo : w amo = some (eI cI 8 (lnF mo))) (h_alo : w alo = some (eI cI 8 lo)) (h_aro : w aro = some (eI cI 9600 ro)) (hmd : md ≤ 8) (hs : s < md) (hsd : sd ≤ 999) (hso : so s = 2) (hsi : si s = c) (hse : se s = sd) (hto : to s = tot) (hmo : mo s = mv) (hc1 : 16 ≤ c) (hc2 : c ≤ 512) (hv : TbM ro s f c) (hlo : lo s = nI 0) : mMi yX7_told cX7_told 3 (some .int) (rmL 8) [.ref om, .int (nI s), .int q] D cI cS w (fun r w1 => ((¬ rg 6 q ∧ r = -1) ∨ (q = nI 0 ∧ r = nI 2) ∨ (q = nI 1 ∧ r = nI c) ∨ (q = nI 2 ∧ r = nI sd) ∨ (q = nI 3 ∧ r = tot + nI 10000000) ∨ (q = nI 4 ∧ r = nI mv) ∨ (q = nI 5 ∧ r = nI 0) ∨ (q = nI 6 ∧ r = nI (cnz f c))) ∧ w1 om = some (.inr (6, [.int (nI 0), .int (nI md), .ref aso, .ref asi, .ref ase, .ref ato, .ref amo, .ref alo, .ref aro, .ref asr])) ∧ ∀ z : Nat, z ≠ om → w1 z = w z) := by
  refine mMi.of (by decide) (Nat.le_of_ble_eq_true rfl) ?_
  intro X C hN hR
  have fr_w : ∀ zz : Nat, w zz = w zz := fun _ => rfl
  refine mg_sub (lv' := [(0, .ref om), (1, .int (nI s)), (2, .int q)]) [0, 1, 2] rfl ?_
  have hs8 : s < 8 := by omega
  refine mg_aload_n C dX7_told_0 rfl ?_
  refine mg_iconst C (v := nI 0) dX7_told_1 (by decide) ?_
  refine mg_put C (fs' := [.int (nI 0), .int (nI md), .ref aso, .ref asi, .ref ase, .ref ato, .ref amo, .ref alo, .ref aro, .ref asr]) inT7 hom rfl 0 (by decide) kw_28 (Or.inl rfl) tyX7_ok nmX7 rfl rfl rfl rfl (Nat.le_of_ble_eq_true rfl) dX7_told_2 (fun w1 e_w1 => ?_)
  have h_w1_om : w1 om = some (.inr (6, [.int (nI 0), .int (nI md), .ref aso, .ref asi, .ref ase, .ref ato, .ref amo, .ref alo, .ref aro, .ref asr])) := (congrFun e_w1 _).trans mwu_eq
  have h_w1_aso : w1 aso = some (eI cI 8 (lnF so)) := (congrFun e_w1 _).trans ((mwu_ne (mw_ao h_aso hom)).trans h_aso)
  have h_w1_asi : w1 asi = some (eI cI 8 (lnF si)) := (congrFun e_w1 _).trans ((mwu_ne (mw_ao h_asi hom)).trans h_asi)
  have h_w1_ase : w1 ase = some (eI cI 8 (lnF se)) := (congrFun e_w1 _).trans ((mwu_ne (mw_ao h_ase hom)).trans h_ase)
  have h_w1_ato : w1 ato = some (eI cI 8 to) := (congrFun e_w1 _).trans ((mwu_ne (mw_ao h_ato hom)).trans h_ato)
  have h_w1_amo : w1 amo = some (eI cI 8 (lnF mo)) := (congrFun e_w1 _).trans ((mwu_ne (mw_ao h_amo hom)).trans h_amo)
  have h_w1_alo : w1 alo = some (eI cI 8 lo) := (congrFun e_w1 _).trans ((mwu_ne (mw_ao h_alo hom)).trans h_alo)
  have h_w1_aro : w1 aro = some (eI cI 9600 ro) := (congrFun e_w1 _).trans ((mwu_ne (mw_ao h_aro hom)).trans h_aro)
  have fr_w1 : ∀ zz : Nat, zz ≠ om → w1 zz = w zz := fun zz g0 => (congrFun e_w1 zz).trans ((mwu_ne g0).trans (fr_w zz ))
  refine mg_aload_n C dX7_told_5 rfl ?_
  refine mg_iload_n C dX7_told_6 rfl ?_
  refine mg_callV_i C h_w1_om rfl (rest := []) (c_X7_none_in D cI cS w1 om md aso asi ase ato amo alo aro asr (nI 0)  s h_w1_om hmd hs) yq_X7_none kw_197 kw_198 kw_199 ⟨by decide, by decide⟩ ⟨Nat.le_of_ble_eq_true rfl, Nat.le_of_ble_eq_true rfl⟩ (Nat.le_of_ble_eq_true rfl) rfl rfl dX7_told_7 (fun r2 w3 ⟨e_r2, e_w3⟩ => ?_)
  rw [e_w3, e_r2]
  refine mg_ifN_eq C (tgt := 15) dX7_told_10 (by decide) (by decide) (fun c_10 => ?_) (fun c_10 => absurd c_10 (by decide))
  refine mg_iload_n C dX7_told_15 rfl ?_
  rcases Classical.em (rg 6 q) with ⟨jt16, hjjt16, ejt16⟩ | hq16
  · rcases (show jt16 = 0 ∨ jt16 = 1 ∨ jt16 = 2 ∨ jt16 = 3 ∨ jt16 = 4 ∨ jt16 = 5 ∨ jt16 = 6 by omega) with zjt16 | zjt16 | zjt16 | zjt16 | zjt16 | zjt16 | zjt16
    · rw [zjt16] at ejt16
      rw [ejt16]
      refine mg_tabIn C (tgt := 60) (off := 44) dX7_told_16 (by decide) (by decide) rfl (by decide) ?_
      refine mg_aload_n C dX7_told_60 rfl ?_
      refine mg_get C inT7 h_w1_om rfl 2 (by decide) kw_20 (Or.inl rfl) rfl dX7_told_61 ?_
      refine mg_iload_n C dX7_told_64 rfl ?_
      refine mg_ialdN C h_w1_aso (by omega) (by omega) dX7_told_65 ?_
      rw [show lnF so s = nI 2 from congrArg nI hso]
      exact hR _ _ _ _ dX7_told_66 ⟨Or.inr (Or.inl ⟨ejt16, rfl⟩), h_w1_om, fun z q0 => fr_w1 z q0⟩
    · rw [zjt16] at ejt16
      rw [ejt16]
      refine mg_tabIn C (tgt := 67) (off := 51) dX7_told_16 (by decide) (by decide) rfl (by decide) ?_
      refine mg_aload_n C dX7_told_67 rfl ?_
      refine mg_get C inT7 h_w1_om rfl 3 (by decide) kw_21 (Or.inl rfl) rfl dX7_told_68 ?_
      refine mg_iload_n C dX7_told_71 rfl ?_
      refine mg_ialdN C h_w1_asi (by omega) (by omega) dX7_told_72 ?_
      rw [show lnF si s = nI c from congrArg nI hsi]
      exact hR _ _ _ _ dX7_told_73 ⟨Or.inr (Or.inr (Or.inl ⟨ejt16, rfl⟩)), h_w1_om, fun z q0 => fr_w1 z q0⟩
    · rw [zjt16] at ejt16
      rw [ejt16]
      refine mg_tabIn C (tgt := 74) (off := 58) dX7_told_16 (by decide) (by decide) rfl (by decide) ?_
      refine mg_aload_n C dX7_told_74 rfl ?_
      refine mg_get C inT7 h_w1_om rfl 4 (by decide) kw_22 (Or.inl rfl) rfl dX7_told_75 ?_
      refine mg_iload_n C dX7_told_78 rfl ?_
      refine mg_ialdN C h_w1_ase (by omega) (by omega) dX7_told_79 ?_
      rw [show lnF se s = nI sd from congrArg nI hse]
      exact hR _ _ _ _ dX7_told_80 ⟨Or.inr (Or.inr (Or.inr (Or.inl ⟨ejt16, rfl⟩))), h_w1_om, fun z q0 => fr_w1 z q0⟩
    · rw [zjt16] at ejt16
      rw [ejt16]
      refine mg_tabIn C (tgt := 81) (off := 65) dX7_told_16 (by decide) (by decide) rfl (by decide) ?_
      refine mg_aload_n C dX7_told_81 rfl ?_
      refine mg_get C inT7 h_w1_om rfl 5 (by decide) kw_23 (Or.inl rfl) rfl dX7_told_82 ?_
      refine mg_iload_n C dX7_told_85 rfl ?_
      refine mg_ialdN C h_w1_ato (by omega) (by omega) dX7_told_86 ?_
      rw [hto]
      refine mg_ldc C (v := nI 10000000) dX7_told_87 kw_231 (by decide) ?_
      refine mg_iadd C (z := tot + (nI 10000000)) dX7_told_89 rfl ?_
      exact hR _ _ _ _ dX7_told_90 ⟨Or.inr (Or.inr (Or.inr (Or.inr (Or.inl ⟨ejt16, rfl⟩)))), h_w1_om, fun z q0 => fr_w1 z q0⟩
    · rw [zjt16] at ejt16
      rw [ejt16]
      refine mg_tabIn C (tgt := 91) (off := 75) dX7_told_16 (by decide) (by decide) rfl (by decide) ?_
      refine mg_aload_n C dX7_told_91 rfl ?_
      refine mg_get C inT7 h_w1_om rfl 6 (by decide) kw_24 (Or.inl rfl) rfl dX7_told_92 ?_
      refine mg_iload_n C dX7_told_95 rfl ?_
      refine mg_ialdN C h_w1_amo (by omega) (by omega) dX7_told_96 ?_
      rw [show lnF mo s = nI mv from congrArg nI hmo]
      exact hR _ _ _ _ dX7_told_97 ⟨Or.inr (Or.inr (Or.inr (Or.inr (Or.inr (Or.inl ⟨ejt16, rfl⟩))))), h_w1_om, fun z q0 => fr_w1 z q0⟩
    · rw [zjt16] at ejt16
      rw [ejt16]
      refine mg_tabIn C (tgt := 98) (off := 82) dX7_told_16 (by decide) (by decide) rfl (by decide) ?_
      refine mg_aload_n C dX7_told_98 rfl ?_
      refine mg_get C inT7 h_w1_om rfl 7 (by decide) kw_25 (Or.inl rfl) rfl dX7_told_99 ?_
      refine mg_iload_n C dX7_told_102 rfl ?_
      refine mg_ialdN C h_w1_alo (by omega) (by omega) dX7_told_103 ?_
      rw [hlo]
      exact hR _ _ _ _ dX7_told_104 ⟨Or.inr (Or.inr (Or.inr (Or.inr (Or.inr (Or.inr (Or.inl ⟨ejt16, rfl⟩)))))), h_w1_om, fun z q0 => fr_w1 z q0⟩
    · rw [zjt16] at ejt16
      rw [ejt16]
      refine mg_tabIn C (tgt := 105) (off := 89) dX7_told_16 (by decide) (by decide) rfl (by decide) ?_
      refine mg_aload_n C dX7_told_105 rfl ?_
      refine mg_iload_n C dX7_told_106 rfl ?_
      refine mg_callV_i C h_w1_om rfl (rest := []) (c_X7_keptOf_F D cI cS w1 om md aso asi ase ato amo alo aro asr (nI 0) so si ro s c f h_w1_om h_w1_aso h_w1_asi h_w1_aro hs8 hso hsi hc1 hc2 (by rw [Nat.one_mul]; exact hv)) yq_X7_keptOf kw_617 kw_618 kw_619 ⟨by decide, by decide⟩ ⟨Nat.le_of_ble_eq_true rfl, Nat.le_of_ble_eq_true rfl⟩ (Nat.le_of_ble_eq_true rfl) rfl rfl dX7_told_107 (fun r4 w4 ⟨xe4, xk4⟩ => ?_)
      rw [xk4, xe4]
      exact hR _ _ _ _ dX7_told_110 ⟨Or.inr (Or.inr (Or.inr (Or.inr (Or.inr (Or.inr (Or.inr (⟨ejt16, (by rw [Nat.one_mul])⟩))))))), h_w1_om, fun z q0 => fr_w1 z q0⟩
  · refine mg_tabOut C (tgt := 111) dX7_told_16 (rg_out (by decide) hq16) (by decide) ?_
    refine mg_iconst C (v := (-1 : Int32)) dX7_told_111 (by decide) ?_
    exact hR _ _ _ _ dX7_told_112 ⟨Or.inl ⟨hq16, rfl⟩, h_w1_om, fun z q0 => fr_w1 z q0⟩

set_option maxHeartbeats 4000000 in
set_option maxRecDepth 20000 in
theorem c_X7_kept_F (D : va_G) (cI cS : ClassId) (w : mwT) (om md aso asi ase ato amo alo aro asr : Nat) (th : Int32) (so : Nat → Nat) (si : Nat → Nat) (se : Nat → Nat) (to : Nat → Int32) (mo : Nat → Nat) (lo : Nat → Int32) (ro : Nat → Int32) (s c sd mv : Nat) (tot : Int32) (f : Nat → Int32) (i pt : Int32) (hom : w om = some (.inr (6, [.int th, .int (nI md), .ref aso, .ref asi, .ref ase, .ref ato, .ref amo, .ref alo, .ref aro, .ref asr]))) (h_aso : w aso = some (eI cI 8 (lnF so))) (h_asi : w asi = some (eI cI 8 (lnF si))) (h_ase : w ase = some (eI cI 8 (lnF se))) (h_ato : w ato = some (eI cI 8 to)) (h_amo : w amo = some (eI cI 8 (lnF mo))) (h_alo : w alo = some (eI cI 8 lo)) (h_aro : w aro = some (eI cI 9600 ro)) (hmd : md ≤ 8) (hs : s < md) (hsd : sd ≤ 999) (hso : so s = 2) (hsi : si s = c) (hse : se s = sd) (hto : to s = tot) (hmo : mo s = mv) (hc1 : 16 ≤ c) (hc2 : c ≤ 512) (hv : TbM ro s f c) (hlo : lo s = nI 0) : mMi yX7_kept cX7_kept 5 (some .int) (rmL 8) [.ref om, .int (nI s), .int i, .int pt] D cI cS w (fun r w1 => ((∃ e : Nat, e < c ∧ i = nI e ∧ pt = 0 ∧ r = f e) ∨ (r = -1 ∧ ¬ (ixN (c) i ∧ pt = 0))) ∧ w1 om = some (.inr (6, [.int (nI 0), .int (nI md), .ref aso, .ref asi, .ref ase, .ref ato, .ref amo, .ref alo, .ref aro, .ref asr])) ∧ ∀ z : Nat, z ≠ om → w1 z = w z) := by
  refine mMi.of (by decide) (Nat.le_of_ble_eq_true rfl) ?_
  intro X C hN hR
  have fr_w : ∀ zz : Nat, w zz = w zz := fun _ => rfl
  refine mg_sub (lv' := [(0, .ref om), (1, .int (nI s)), (2, .int i), (3, .int pt)]) [0, 1, 2, 3] rfl ?_
  have hs8 : s < 8 := by omega
  refine mg_aload_n C dX7_kept_0 rfl ?_
  refine mg_iconst C (v := nI 0) dX7_kept_1 (by decide) ?_
  refine mg_put C (fs' := [.int (nI 0), .int (nI md), .ref aso, .ref asi, .ref ase, .ref ato, .ref amo, .ref alo, .ref aro, .ref asr]) inT7 hom rfl 0 (by decide) kw_28 (Or.inl rfl) tyX7_ok nmX7 rfl rfl rfl rfl (Nat.le_of_ble_eq_true rfl) dX7_kept_2 (fun w1 e_w1 => ?_)
  have h_w1_om : w1 om = some (.inr (6, [.int (nI 0), .int (nI md), .ref aso, .ref asi, .ref ase, .ref ato, .ref amo, .ref alo, .ref aro, .ref asr])) := (congrFun e_w1 _).trans mwu_eq
  have h_w1_aso : w1 aso = some (eI cI 8 (lnF so)) := (congrFun e_w1 _).trans ((mwu_ne (mw_ao h_aso hom)).trans h_aso)
  have h_w1_asi : w1 asi = some (eI cI 8 (lnF si)) := (congrFun e_w1 _).trans ((mwu_ne (mw_ao h_asi hom)).trans h_asi)
  have h_w1_ase : w1 ase = some (eI cI 8 (lnF se)) := (congrFun e_w1 _).trans ((mwu_ne (mw_ao h_ase hom)).trans h_ase)
  have h_w1_ato : w1 ato = some (eI cI 8 to) := (congrFun e_w1 _).trans ((mwu_ne (mw_ao h_ato hom)).trans h_ato)
  have h_w1_amo : w1 amo = some (eI cI 8 (lnF mo)) := (congrFun e_w1 _).trans ((mwu_ne (mw_ao h_amo hom)).trans h_amo)
  have h_w1_alo : w1 alo = some (eI cI 8 lo) := (congrFun e_w1 _).trans ((mwu_ne (mw_ao h_alo hom)).trans h_alo)
  have h_w1_aro : w1 aro = some (eI cI 9600 ro) := (congrFun e_w1 _).trans ((mwu_ne (mw_ao h_aro hom)).trans h_aro)
  have fr_w1 : ∀ zz : Nat, zz ≠ om → w1 zz = w zz := fun zz g0 => (congrFun e_w1 zz).trans ((mwu_ne g0).trans (fr_w zz ))
  refine mg_aload_n C dX7_kept_5 rfl ?_
  refine mg_iload_n C dX7_kept_6 rfl ?_
  refine mg_callV_i C h_w1_om rfl (rest := []) (c_X7_none_in D cI cS w1 om md aso asi ase ato amo alo aro asr (nI 0)  s h_w1_om hmd hs) yq_X7_none kw_197 kw_198 kw_199 ⟨by decide, by decide⟩ ⟨Nat.le_of_ble_eq_true rfl, Nat.le_of_ble_eq_true rfl⟩ (Nat.le_of_ble_eq_true rfl) rfl rfl dX7_kept_7 (fun r2 w3 ⟨e_r2, e_w3⟩ => ?_)
  rw [e_w3, e_r2]
  refine mg_ifN_eq C (tgt := 15) dX7_kept_10 (by decide) (by decide) (fun c_10 => ?_) (fun c_10 => absurd c_10 (by decide))
  refine mg_iconst C (v := nI 0) dX7_kept_15 (by decide) ?_
  refine mg_istore C (lv' := [(4, .int (nI 0)), (0, .ref om), (1, .int (nI s)), (2, .int i), (3, .int pt)]) dX7_kept_16 (by decide) rfl ?_
  refine mg_aload_n C dX7_kept_18 rfl ?_
  refine mg_get C inT7 h_w1_om rfl 2 (by decide) kw_20 (Or.inl rfl) rfl dX7_kept_19 ?_
  refine mg_iload_n C dX7_kept_22 rfl ?_
  refine mg_ialdN C h_w1_aso (by omega) (by omega) dX7_kept_23 ?_
  rw [show lnF so s = nI 2 from congrArg nI hso]
  refine mg_tabIn C (tgt := 147) (off := 123) dX7_kept_24 (by decide) (by decide) rfl (by decide) ?_
  refine mg_iload_n C dX7_kept_147 rfl ?_
  refine mg_if_ne C (tgt := 185) dX7_kept_148 (by decide) (fun c_148 => ?_) (fun c_148 => ?_)
  · refine mg_iconst C (v := (-1 : Int32)) dX7_kept_185 (by decide) ?_
    exact hR _ _ _ _ dX7_kept_186 ⟨Or.inr ⟨rfl, fun q => c_148 q.2⟩, h_w1_om, fun z q0 => fr_w1 z q0⟩
  · refine mg_iload_n C dX7_kept_151 rfl ?_
    refine mg_iconst C (v := nI 0) dX7_kept_152 (by decide) ?_
    refine mg_aload_n C dX7_kept_153 rfl ?_
    refine mg_get C inT7 h_w1_om rfl 3 (by decide) kw_21 (Or.inl rfl) rfl dX7_kept_154 ?_
    refine mg_iload_n C dX7_kept_157 rfl ?_
    refine mg_ialdN C h_w1_asi (by omega) (by omega) dX7_kept_158 ?_
    rw [show lnF si s = nI c from congrArg nI hsi]
    refine mg_iconst C (v := nI 1) dX7_kept_159 (by decide) ?_
    refine mg_isub C (z := nI (c - 1)) dX7_kept_160 (ni_sub (by omega)) ?_
    refine mg_callS_i C (rest := []) (c_X7_in D cI cS w1 i (nI 0) (nI (c - 1))) yq_X7_in kw_112 kw_113 ⟨by decide, by decide⟩ ⟨Nat.le_of_ble_eq_true rfl, Nat.le_of_ble_eq_true rfl⟩ (Nat.le_of_ble_eq_true rfl) rfl rfl dX7_kept_161 (fun r4 w4 ⟨xa4, xk4⟩ => ?_)
    rw [xk4]
    rcases xa4 with ⟨ra4, hy_p⟩ | ⟨ra4, hy_p⟩
    · rw [ra4]
      obtain ⟨pa, hpa, rfl⟩ := (rg_ix (n := c) (by omega)).mp ((in_rg (by omega)).mp hy_p)
      refine mg_ifN_eq C (tgt := 185) dX7_kept_164 (by decide) (by decide) (fun c_164 => absurd c_164 (by decide)) (fun c_164 => ?_)
      refine mg_aload_n C dX7_kept_167 rfl ?_
      refine mg_get C inT7 h_w1_om rfl 8 (by decide) kw_26 (Or.inl rfl) rfl dX7_kept_168 ?_
      refine mg_sipush C (v := nI 1200) dX7_kept_171 (by decide) ?_
      refine mg_iload_n C dX7_kept_174 rfl ?_
      refine mg_imul C (z := nI (1200 * s)) dX7_kept_175 (pk_mul _ _) ?_
      refine mg_bipush C (v := nI 100) dX7_kept_176 (by decide) ?_
      refine mg_iadd C (z := nI ((1200 * s) + 100)) dX7_kept_178 (nI_add _ _) ?_
      refine mg_iload_n C dX7_kept_179 rfl ?_
      refine mg_iadd C (z := nI (((1200 * s) + 100) + pa)) dX7_kept_180 (nI_add _ _) ?_
      refine mg_ialdN C h_w1_aro (by omega) (by omega) dX7_kept_181 ?_
      rw [hv pa hpa]
      refine mg_goto C (tgt := 186) dX7_kept_182 (by decide) ?_
      exact hR _ _ _ _ dX7_kept_186 ⟨Or.inl ⟨pa, hpa, rfl, c_148, rfl⟩, h_w1_om, fun z q0 => fr_w1 z q0⟩
    · rw [ra4]
      refine mg_ifN_eq C (tgt := 185) dX7_kept_164 (by decide) (by decide) (fun c_164 => ?_) (fun c_164 => absurd c_164 (by decide))
      refine mg_iconst C (v := (-1 : Int32)) dX7_kept_185 (by decide) ?_
      exact hR _ _ _ _ dX7_kept_186 ⟨Or.inr ⟨rfl, fun q => hy_p ((in_rg (by omega)).mpr ((rg_ix (n := c) (by omega)).mpr q.1))⟩, h_w1_om, fun z q0 => fr_w1 z q0⟩

set_option maxHeartbeats 4000000 in
set_option maxRecDepth 20000 in
theorem c_X7_low_L (D : va_G) (cI cS : ClassId) (w : mwT) (om md aso asi ase ato amo alo aro asr : Nat) (th : Int32) (so : Nat → Nat) (si : Nat → Nat) (se : Nat → Nat) (to : Nat → Int32) (mo : Nat → Nat) (lo : Nat → Int32) (ro : Nat → Int32) (s h k sd mv : Nat) (tot : Int32) (f : Nat → Int32) (x : Int32) (hom : w om = some (.inr (6, [.int th, .int (nI md), .ref aso, .ref asi, .ref ase, .ref ato, .ref amo, .ref alo, .ref aro, .ref asr]))) (h_aso : w aso = some (eI cI 8 (lnF so))) (h_asi : w asi = some (eI cI 8 (lnF si))) (h_ase : w ase = some (eI cI 8 (lnF se))) (h_ato : w ato = some (eI cI 8 to)) (h_amo : w amo = some (eI cI 8 (lnF mo))) (h_alo : w alo = some (eI cI 8 lo)) (h_aro : w aro = some (eI cI 9600 ro)) (hmd : md ≤ 8) (hs : s < md) (hsd : sd ≤ 999) (hso : so s = 3) (hsi : si s = k) (hse : se s = sd) (hto : to s = tot) (hmo : mo s = mv) (hk1 : 2 ≤ k) (hk2 : k ≤ 32) (hh : h ≤ k) (hl : LsM ro s f h) (hlo : lo s = nI 0) : mMi yX7_low cX7_low 4 (some .int) (rmL 8) [.ref om, .int (nI s), .int x] D cI cS w (fun r w1 => (r = -1) ∧ w1 om = some (.inr (6, [.int (nI 0), .int (nI md), .ref aso, .ref asi, .ref ase, .ref ato, .ref amo, .ref alo, .ref aro, .ref asr])) ∧ ∀ z : Nat, z ≠ om → w1 z = w z) := by
  refine mMi.of (by decide) (Nat.le_of_ble_eq_true rfl) ?_
  intro X C hN hR
  have fr_w : ∀ zz : Nat, w zz = w zz := fun _ => rfl
  refine mg_sub (lv' := [(0, .ref om), (1, .int (nI s)), (2, .int x)]) [0, 1, 2] rfl ?_
  have hs8 : s < 8 := by omega
  refine mg_aload_n C dX7_low_0 rfl ?_
  refine mg_iconst C (v := nI 0) dX7_low_1 (by decide) ?_
  refine mg_put C (fs' := [.int (nI 0), .int (nI md), .ref aso, .ref asi, .ref ase, .ref ato, .ref amo, .ref alo, .ref aro, .ref asr]) inT7 hom rfl 0 (by decide) kw_28 (Or.inl rfl) tyX7_ok nmX7 rfl rfl rfl rfl (Nat.le_of_ble_eq_true rfl) dX7_low_2 (fun w1 e_w1 => ?_)
  have h_w1_om : w1 om = some (.inr (6, [.int (nI 0), .int (nI md), .ref aso, .ref asi, .ref ase, .ref ato, .ref amo, .ref alo, .ref aro, .ref asr])) := (congrFun e_w1 _).trans mwu_eq
  have h_w1_aso : w1 aso = some (eI cI 8 (lnF so)) := (congrFun e_w1 _).trans ((mwu_ne (mw_ao h_aso hom)).trans h_aso)
  have h_w1_asi : w1 asi = some (eI cI 8 (lnF si)) := (congrFun e_w1 _).trans ((mwu_ne (mw_ao h_asi hom)).trans h_asi)
  have h_w1_ase : w1 ase = some (eI cI 8 (lnF se)) := (congrFun e_w1 _).trans ((mwu_ne (mw_ao h_ase hom)).trans h_ase)
  have h_w1_ato : w1 ato = some (eI cI 8 to) := (congrFun e_w1 _).trans ((mwu_ne (mw_ao h_ato hom)).trans h_ato)
  have h_w1_amo : w1 amo = some (eI cI 8 (lnF mo)) := (congrFun e_w1 _).trans ((mwu_ne (mw_ao h_amo hom)).trans h_amo)
  have h_w1_alo : w1 alo = some (eI cI 8 lo) := (congrFun e_w1 _).trans ((mwu_ne (mw_ao h_alo hom)).trans h_alo)
  have h_w1_aro : w1 aro = some (eI cI 9600 ro) := (congrFun e_w1 _).trans ((mwu_ne (mw_ao h_aro hom)).trans h_aro)
  have fr_w1 : ∀ zz : Nat, zz ≠ om → w1 zz = w zz := fun zz g0 => (congrFun e_w1 zz).trans ((mwu_ne g0).trans (fr_w zz ))
  refine mg_aload_n C dX7_low_5 rfl ?_
  refine mg_iload_n C dX7_low_6 rfl ?_
  refine mg_iload_n C dX7_low_7 rfl ?_
  refine mg_aload_n C dX7_low_8 rfl ?_
  refine mg_iload_n C dX7_low_9 rfl ?_
  refine mg_iconst C (v := nI 0) dX7_low_10 (by decide) ?_
  refine mg_iconst C (v := nI 4) dX7_low_11 (by decide) ?_
  refine mg_callV_i C h_w1_om rfl (rest := [.int x, .int (nI s), .ref om]) (c_X7_isOf_n D cI cS w1 om md aso asi ase ato amo alo aro asr (nI 0) so s 3 0 4 h_w1_om h_w1_aso hmd hs hso (by decide) (by decide) (by decide) (by decide) (by decide)) yq_X7_isOf kw_463 kw_464 kw_465 ⟨by decide, by decide⟩ ⟨Nat.le_of_ble_eq_true rfl, Nat.le_of_ble_eq_true rfl⟩ (Nat.le_of_ble_eq_true rfl) rfl rfl dX7_low_12 (fun r2 w3 ⟨e_r2, e_w3⟩ => ?_)
  rw [e_w3, e_r2]
  refine mg_callV_i C h_w1_om rfl (rest := []) (c_X7_isBad_ns D cI cS w1 om md aso asi ase ato amo alo aro asr (nI 0)  s x h_w1_om hmd hs) yq_X7_isBad kw_467 kw_468 kw_469 ⟨by decide, by decide⟩ ⟨Nat.le_of_ble_eq_true rfl, Nat.le_of_ble_eq_true rfl⟩ (Nat.le_of_ble_eq_true rfl) rfl rfl dX7_low_15 (fun r4 w5 ⟨e_r4, e_w5⟩ => ?_)
  rw [e_w5, e_r4]
  refine mg_ifN_eq C (tgt := 23) dX7_low_18 (by decide) (by decide) (fun c_18 => absurd c_18 (by decide)) (fun c_18 => ?_)
  refine mg_iconst C (v := (-1 : Int32)) dX7_low_21 (by decide) ?_
  exact hR _ _ _ _ dX7_low_22 ⟨rfl, h_w1_om, fun z q0 => fr_w1 z q0⟩

set_option maxHeartbeats 4000000 in
set_option maxRecDepth 20000 in
theorem c_X7_high_L (D : va_G) (cI cS : ClassId) (w : mwT) (om md aso asi ase ato amo alo aro asr : Nat) (th : Int32) (so : Nat → Nat) (si : Nat → Nat) (se : Nat → Nat) (to : Nat → Int32) (mo : Nat → Nat) (lo : Nat → Int32) (ro : Nat → Int32) (s h k sd mv : Nat) (tot : Int32) (f : Nat → Int32) (x : Int32) (hom : w om = some (.inr (6, [.int th, .int (nI md), .ref aso, .ref asi, .ref ase, .ref ato, .ref amo, .ref alo, .ref aro, .ref asr]))) (h_aso : w aso = some (eI cI 8 (lnF so))) (h_asi : w asi = some (eI cI 8 (lnF si))) (h_ase : w ase = some (eI cI 8 (lnF se))) (h_ato : w ato = some (eI cI 8 to)) (h_amo : w amo = some (eI cI 8 (lnF mo))) (h_alo : w alo = some (eI cI 8 lo)) (h_aro : w aro = some (eI cI 9600 ro)) (hmd : md ≤ 8) (hs : s < md) (hsd : sd ≤ 999) (hso : so s = 3) (hsi : si s = k) (hse : se s = sd) (hto : to s = tot) (hmo : mo s = mv) (hk1 : 2 ≤ k) (hk2 : k ≤ 32) (hh : h ≤ k) (hl : LsM ro s f h) (hlo : lo s = nI 0) : mMi yX7_high cX7_high 5 (some .int) (rmL 8) [.ref om, .int (nI s), .int x] D cI cS w (fun r w1 => (r = -1) ∧ w1 om = some (.inr (6, [.int (nI 0), .int (nI md), .ref aso, .ref asi, .ref ase, .ref ato, .ref amo, .ref alo, .ref aro, .ref asr])) ∧ ∀ z : Nat, z ≠ om → w1 z = w z) := by
  refine mMi.of (by decide) (Nat.le_of_ble_eq_true rfl) ?_
  intro X C hN hR
  have fr_w : ∀ zz : Nat, w zz = w zz := fun _ => rfl
  refine mg_sub (lv' := [(0, .ref om), (1, .int (nI s)), (2, .int x)]) [0, 1, 2] rfl ?_
  have hs8 : s < 8 := by omega
  refine mg_aload_n C dX7_high_0 rfl ?_
  refine mg_iconst C (v := nI 0) dX7_high_1 (by decide) ?_
  refine mg_put C (fs' := [.int (nI 0), .int (nI md), .ref aso, .ref asi, .ref ase, .ref ato, .ref amo, .ref alo, .ref aro, .ref asr]) inT7 hom rfl 0 (by decide) kw_28 (Or.inl rfl) tyX7_ok nmX7 rfl rfl rfl rfl (Nat.le_of_ble_eq_true rfl) dX7_high_2 (fun w1 e_w1 => ?_)
  have h_w1_om : w1 om = some (.inr (6, [.int (nI 0), .int (nI md), .ref aso, .ref asi, .ref ase, .ref ato, .ref amo, .ref alo, .ref aro, .ref asr])) := (congrFun e_w1 _).trans mwu_eq
  have h_w1_aso : w1 aso = some (eI cI 8 (lnF so)) := (congrFun e_w1 _).trans ((mwu_ne (mw_ao h_aso hom)).trans h_aso)
  have h_w1_asi : w1 asi = some (eI cI 8 (lnF si)) := (congrFun e_w1 _).trans ((mwu_ne (mw_ao h_asi hom)).trans h_asi)
  have h_w1_ase : w1 ase = some (eI cI 8 (lnF se)) := (congrFun e_w1 _).trans ((mwu_ne (mw_ao h_ase hom)).trans h_ase)
  have h_w1_ato : w1 ato = some (eI cI 8 to) := (congrFun e_w1 _).trans ((mwu_ne (mw_ao h_ato hom)).trans h_ato)
  have h_w1_amo : w1 amo = some (eI cI 8 (lnF mo)) := (congrFun e_w1 _).trans ((mwu_ne (mw_ao h_amo hom)).trans h_amo)
  have h_w1_alo : w1 alo = some (eI cI 8 lo) := (congrFun e_w1 _).trans ((mwu_ne (mw_ao h_alo hom)).trans h_alo)
  have h_w1_aro : w1 aro = some (eI cI 9600 ro) := (congrFun e_w1 _).trans ((mwu_ne (mw_ao h_aro hom)).trans h_aro)
  have fr_w1 : ∀ zz : Nat, zz ≠ om → w1 zz = w zz := fun zz g0 => (congrFun e_w1 zz).trans ((mwu_ne g0).trans (fr_w zz ))
  refine mg_aload_n C dX7_high_5 rfl ?_
  refine mg_iload_n C dX7_high_6 rfl ?_
  refine mg_iload_n C dX7_high_7 rfl ?_
  refine mg_aload_n C dX7_high_8 rfl ?_
  refine mg_iload_n C dX7_high_9 rfl ?_
  refine mg_iconst C (v := nI 0) dX7_high_10 (by decide) ?_
  refine mg_iconst C (v := nI 4) dX7_high_11 (by decide) ?_
  refine mg_callV_i C h_w1_om rfl (rest := [.int x, .int (nI s), .ref om]) (c_X7_isOf_n D cI cS w1 om md aso asi ase ato amo alo aro asr (nI 0) so s 3 0 4 h_w1_om h_w1_aso hmd hs hso (by decide) (by decide) (by decide) (by decide) (by decide)) yq_X7_isOf kw_463 kw_464 kw_465 ⟨by decide, by decide⟩ ⟨Nat.le_of_ble_eq_true rfl, Nat.le_of_ble_eq_true rfl⟩ (Nat.le_of_ble_eq_true rfl) rfl rfl dX7_high_12 (fun r2 w3 ⟨e_r2, e_w3⟩ => ?_)
  rw [e_w3, e_r2]
  refine mg_ifN_ne C (tgt := 28) dX7_high_15 (by decide) (by decide) (fun c_15 => absurd c_15 (by decide)) (fun c_15 => ?_)
  refine mg_aload_n C dX7_high_18 rfl ?_
  refine mg_iload_n C dX7_high_19 rfl ?_
  refine mg_iconst C (v := nI 1) dX7_high_20 (by decide) ?_
  refine mg_iconst C (v := nI 1) dX7_high_21 (by decide) ?_
  refine mg_callV_i C h_w1_om rfl (rest := [.int x, .int (nI s), .ref om]) (c_X7_isOf_n D cI cS w1 om md aso asi ase ato amo alo aro asr (nI 0) so s 3 1 1 h_w1_om h_w1_aso hmd hs hso (by decide) (by decide) (by decide) (by decide) (by decide)) yq_X7_isOf kw_463 kw_464 kw_465 ⟨by decide, by decide⟩ ⟨Nat.le_of_ble_eq_true rfl, Nat.le_of_ble_eq_true rfl⟩ (Nat.le_of_ble_eq_true rfl) rfl rfl dX7_high_22 (fun r4 w5 ⟨e_r4, e_w5⟩ => ?_)
  rw [e_w5, e_r4]
  refine mg_ifN_eq C (tgt := 32) dX7_high_25 (by decide) (by decide) (fun c_25 => ?_) (fun c_25 => absurd c_25 (by decide))
  refine mg_iconst C (v := nI 0) dX7_high_32 (by decide) ?_
  refine mg_callV_i C h_w1_om rfl (rest := []) (c_X7_isBad_ns D cI cS w1 om md aso asi ase ato amo alo aro asr (nI 0)  s x h_w1_om hmd hs) yq_X7_isBad kw_467 kw_468 kw_469 ⟨by decide, by decide⟩ ⟨Nat.le_of_ble_eq_true rfl, Nat.le_of_ble_eq_true rfl⟩ (Nat.le_of_ble_eq_true rfl) rfl rfl dX7_high_33 (fun r6 w7 ⟨e_r6, e_w7⟩ => ?_)
  rw [e_w7, e_r6]
  refine mg_ifN_eq C (tgt := 41) dX7_high_36 (by decide) (by decide) (fun c_36 => absurd c_36 (by decide)) (fun c_36 => ?_)
  refine mg_iconst C (v := (-1 : Int32)) dX7_high_39 (by decide) ?_
  exact hR _ _ _ _ dX7_high_40 ⟨rfl, h_w1_om, fun z q0 => fr_w1 z q0⟩

set_option maxHeartbeats 4000000 in
set_option maxRecDepth 20000 in
theorem c_X7_has_L (D : va_G) (cI cS : ClassId) (w : mwT) (om md aso asi ase ato amo alo aro asr : Nat) (th : Int32) (so : Nat → Nat) (si : Nat → Nat) (se : Nat → Nat) (to : Nat → Int32) (mo : Nat → Nat) (lo : Nat → Int32) (ro : Nat → Int32) (s h k sd mv : Nat) (tot : Int32) (f : Nat → Int32) (x : Int32) (hom : w om = some (.inr (6, [.int th, .int (nI md), .ref aso, .ref asi, .ref ase, .ref ato, .ref amo, .ref alo, .ref aro, .ref asr]))) (h_aso : w aso = some (eI cI 8 (lnF so))) (h_asi : w asi = some (eI cI 8 (lnF si))) (h_ase : w ase = some (eI cI 8 (lnF se))) (h_ato : w ato = some (eI cI 8 to)) (h_amo : w amo = some (eI cI 8 (lnF mo))) (h_alo : w alo = some (eI cI 8 lo)) (h_aro : w aro = some (eI cI 9600 ro)) (hmd : md ≤ 8) (hs : s < md) (hsd : sd ≤ 999) (hso : so s = 3) (hsi : si s = k) (hse : se s = sd) (hto : to s = tot) (hmo : mo s = mv) (hk1 : 2 ≤ k) (hk2 : k ≤ 32) (hh : h ≤ k) (hl : LsM ro s f h) (hlo : lo s = nI 0) : mMi yX7_has cX7_has 6 (some .int) (rmL 8) [.ref om, .int (nI s), .int x] D cI cS w (fun r w1 => ((¬ rg 9999 x ∧ r = -1) ∨ (∃ xa : Nat, xa ≤ 9999 ∧ x = nI xa ∧ r = nI (hsU f (nI (hsN sd 0 xa)) h))) ∧ w1 om = some (.inr (6, [.int (nI 0), .int (nI md), .ref aso, .ref asi, .ref ase, .ref ato, .ref amo, .ref alo, .ref aro, .ref asr])) ∧ ∀ z : Nat, z ≠ om → w1 z = w z) := by
  refine mMi.of (by decide) (Nat.le_of_ble_eq_true rfl) ?_
  intro X C hN hR
  have fr_w : ∀ zz : Nat, w zz = w zz := fun _ => rfl
  refine mg_sub (lv' := [(0, .ref om), (1, .int (nI s)), (2, .int x)]) [0, 1, 2] rfl ?_
  have hs8 : s < 8 := by omega
  refine mg_aload_n C dX7_has_0 rfl ?_
  refine mg_iconst C (v := nI 0) dX7_has_1 (by decide) ?_
  refine mg_put C (fs' := [.int (nI 0), .int (nI md), .ref aso, .ref asi, .ref ase, .ref ato, .ref amo, .ref alo, .ref aro, .ref asr]) inT7 hom rfl 0 (by decide) kw_28 (Or.inl rfl) tyX7_ok nmX7 rfl rfl rfl rfl (Nat.le_of_ble_eq_true rfl) dX7_has_2 (fun w1 e_w1 => ?_)
  have h_w1_om : w1 om = some (.inr (6, [.int (nI 0), .int (nI md), .ref aso, .ref asi, .ref ase, .ref ato, .ref amo, .ref alo, .ref aro, .ref asr])) := (congrFun e_w1 _).trans mwu_eq
  have h_w1_aso : w1 aso = some (eI cI 8 (lnF so)) := (congrFun e_w1 _).trans ((mwu_ne (mw_ao h_aso hom)).trans h_aso)
  have h_w1_asi : w1 asi = some (eI cI 8 (lnF si)) := (congrFun e_w1 _).trans ((mwu_ne (mw_ao h_asi hom)).trans h_asi)
  have h_w1_ase : w1 ase = some (eI cI 8 (lnF se)) := (congrFun e_w1 _).trans ((mwu_ne (mw_ao h_ase hom)).trans h_ase)
  have h_w1_ato : w1 ato = some (eI cI 8 to) := (congrFun e_w1 _).trans ((mwu_ne (mw_ao h_ato hom)).trans h_ato)
  have h_w1_amo : w1 amo = some (eI cI 8 (lnF mo)) := (congrFun e_w1 _).trans ((mwu_ne (mw_ao h_amo hom)).trans h_amo)
  have h_w1_alo : w1 alo = some (eI cI 8 lo) := (congrFun e_w1 _).trans ((mwu_ne (mw_ao h_alo hom)).trans h_alo)
  have h_w1_aro : w1 aro = some (eI cI 9600 ro) := (congrFun e_w1 _).trans ((mwu_ne (mw_ao h_aro hom)).trans h_aro)
  have fr_w1 : ∀ zz : Nat, zz ≠ om → w1 zz = w zz := fun zz g0 => (congrFun e_w1 zz).trans ((mwu_ne g0).trans (fr_w zz ))
  refine mg_aload_n C dX7_has_5 rfl ?_
  refine mg_iload_n C dX7_has_6 rfl ?_
  refine mg_iload_n C dX7_has_7 rfl ?_
  refine mg_aload_n C dX7_has_8 rfl ?_
  refine mg_iload_n C dX7_has_9 rfl ?_
  refine mg_iconst C (v := nI 2) dX7_has_10 (by decide) ?_
  refine mg_iconst C (v := nI 3) dX7_has_11 (by decide) ?_
  refine mg_callV_i C h_w1_om rfl (rest := [.int x, .int (nI s), .ref om]) (c_X7_isOf_b D cI cS w1 om md aso asi ase ato amo alo aro asr (nI 0) so s 3 2 3 h_w1_om h_w1_aso hmd hs hso (by decide) (by decide) (by decide) (by decide) rfl) yq_X7_isOf kw_463 kw_464 kw_465 ⟨by decide, by decide⟩ ⟨Nat.le_of_ble_eq_true rfl, Nat.le_of_ble_eq_true rfl⟩ (Nat.le_of_ble_eq_true rfl) rfl rfl dX7_has_12 (fun r2 w3 ⟨e_r2, e_w3⟩ => ?_)
  rw [e_w3, e_r2]
  refine mg_callV_i C h_w1_om rfl (rest := []) (c_X7_isBad_in D cI cS w1 om md aso asi ase ato amo alo aro asr (nI 0)  s x h_w1_om hmd hs) yq_X7_isBad kw_467 kw_468 kw_469 ⟨by decide, by decide⟩ ⟨Nat.le_of_ble_eq_true rfl, Nat.le_of_ble_eq_true rfl⟩ (Nat.le_of_ble_eq_true rfl) rfl rfl dX7_has_15 (fun r4 w4 ⟨xa4, xk4⟩ => ?_)
  rw [xk4]
  rcases xa4 with ⟨ra4, hy_bad⟩ | ⟨ra4, hy_bad⟩
  · rw [ra4]
    refine mg_ifN_eq C (tgt := 23) dX7_has_18 (by decide) (by decide) (fun c_18 => absurd c_18 (by decide)) (fun c_18 => ?_)
    refine mg_iconst C (v := (-1 : Int32)) dX7_has_21 (by decide) ?_
    exact hR _ _ _ _ dX7_has_22 ⟨Or.inl ⟨hy_bad, rfl⟩, h_w1_om, fun z q0 => fr_w1 z q0⟩
  · rw [ra4]
    obtain ⟨xa, hxa, rfl⟩ := hy_bad
    refine mg_ifN_eq C (tgt := 23) dX7_has_18 (by decide) (by decide) (fun c_18 => ?_) (fun c_18 => absurd c_18 (by decide))
    refine mg_aload_n C dX7_has_23 rfl ?_
    refine mg_get C inT7 h_w1_om rfl 2 (by decide) kw_20 (Or.inl rfl) rfl dX7_has_24 ?_
    refine mg_iload_n C dX7_has_27 rfl ?_
    refine mg_ialdN C h_w1_aso (by omega) (by omega) dX7_has_28 ?_
    rw [show lnF so s = nI 3 from congrArg nI hso]
    refine mg_iconst C (v := nI 2) dX7_has_29 (by decide) ?_
    refine mg_icmpN_ne C (tgt := 68) dX7_has_30 (by decide) (by omega) (by omega) (fun c_30 => ?_) (fun c_30 => absurd c_30 (by decide))
    refine mg_aload_n C dX7_has_68 rfl ?_
    refine mg_get C inT7 h_w1_om rfl 4 (by decide) kw_22 (Or.inl rfl) rfl dX7_has_69 ?_
    refine mg_iload_n C dX7_has_72 rfl ?_
    refine mg_ialdN C h_w1_ase (by omega) (by omega) dX7_has_73 ?_
    rw [show lnF se s = nI sd from congrArg nI hse]
    refine mg_iconst C (v := nI 0) dX7_has_74 (by decide) ?_
    refine mg_iload_n C dX7_has_75 rfl ?_
    refine mg_callS_i C (rest := []) (c_X7_hashOf D cI cS w1 sd 0 xa hsd (by omega) hxa) yq_X7_hashOf kw_360 kw_361 ⟨by decide, by decide⟩ ⟨Nat.le_of_ble_eq_true rfl, Nat.le_of_ble_eq_true rfl⟩ (Nat.le_of_ble_eq_true rfl) rfl rfl dX7_has_76 (fun r5 w6 ⟨e_r5, e_w6⟩ => ?_)
    rw [e_w6, e_r5]
    have hhl := hsN_lt sd 0 xa
    refine mg_istore_n C (lv' := [(3, .int (nI (hsN sd 0 xa))), (0, .ref om), (1, .int (nI s)), (2, .int (nI xa))]) dX7_has_79 rfl (by decide) rfl ?_
    refine mg_iconst C (v := nI 0) dX7_has_80 (by decide) ?_
    refine mg_istore C (lv' := [(4, .int (nI 0)), (3, .int (nI (hsN sd 0 xa))), (0, .ref om), (1, .int (nI s)), (2, .int (nI xa))]) dX7_has_81 (by decide) rfl ?_
    refine mg_iconst C (v := nI 0) dX7_has_83 (by decide) ?_
    refine mg_istore C (lv' := [(5, .int (nI 0)), (4, .int (nI 0)), (3, .int (nI (hsN sd 0 xa))), (0, .ref om), (1, .int (nI s)), (2, .int (nI xa))]) dX7_has_84 (by decide) rfl ?_
    have L86 : ∀ (M86 : Nat) (jz : Nat), h - jz < M86 → (jz ≤ h) → mwG X 0 0 w1 [(0, .ref om), (1, .int (nI s)), (2, .int (nI xa)), (3, .int (nI (hsN sd 0 xa))), (4, .int (nI (hsU f (nI (hsN sd 0 xa)) jz))), (5, .int (nI jz))] [] 86 := by
      intro M86
      induction M86 with
      | zero => intro jz hm86; exact absurd hm86 (Nat.not_lt_zero _)
      | succ M86 ih86 =>
        intro jz hm86 hjz
        refine mg_iload C dX7_has_86 rfl ?_
        refine mg_aload_n C dX7_has_88 rfl ?_
        refine mg_iload_n C dX7_has_89 rfl ?_
        refine mg_callV_i C h_w1_om rfl (rest := [.int (nI jz)]) (c_X7_many D cI cS w1 om md aso asi ase ato amo alo aro asr (nI 0) ro s h h_w1_om h_w1_aro hs8 hl.1) yq_X7_many kw_340 kw_341 kw_342 ⟨by decide, by decide⟩ ⟨Nat.le_of_ble_eq_true rfl, Nat.le_of_ble_eq_true rfl⟩ (Nat.le_of_ble_eq_true rfl) rfl rfl dX7_has_90 (fun r7 w8 ⟨e_r7, e_w8⟩ => ?_)
        rw [e_w8, e_r7]
        refine mg_icmpN_ge C (tgt := 130) dX7_has_93 (by decide) (by omega) (by omega) (fun c_93 => ?_) (fun c_93 => ?_)
        · refine mg_iload C dX7_has_130 rfl ?_
          have ej : jz = h := by omega
          exact hR _ _ _ _ dX7_has_132 ⟨Or.inr ⟨xa, hxa, rfl, (by rw [ej])⟩, h_w1_om, fun z q0 => fr_w1 z q0⟩
        · refine mg_aload_n C dX7_has_96 rfl ?_
          refine mg_get C inT7 h_w1_om rfl 8 (by decide) kw_26 (Or.inl rfl) rfl dX7_has_97 ?_
          refine mg_sipush C (v := nI 1200) dX7_has_100 (by decide) ?_
          refine mg_iload_n C dX7_has_103 rfl ?_
          refine mg_imul C (z := nI (1200 * s)) dX7_has_104 (pk_mul _ _) ?_
          refine mg_bipush C (v := nI 100) dX7_has_105 (by decide) ?_
          refine mg_iadd C (z := nI ((1200 * s) + 100)) dX7_has_107 (nI_add _ _) ?_
          refine mg_iload C dX7_has_108 rfl ?_
          refine mg_iadd C (z := nI (((1200 * s) + 100) + jz)) dX7_has_110 (nI_add _ _) ?_
          refine mg_ialdN C h_w1_aro (by omega) (by omega) dX7_has_111 ?_
          rw [hl.2 jz (by omega)]
          refine mg_iload_n C dX7_has_112 rfl ?_
          refine mg_icmp_ne C (tgt := 120) dX7_has_113 (by decide) (fun c_113 => ?_) (fun c_113 => ?_)
          · refine mg_iload C dX7_has_120 rfl ?_
            refine mg_istore C (lv' := [(4, .int (nI (hsU f (nI (hsN sd 0 xa)) jz))), (0, .ref om), (1, .int (nI s)), (2, .int (nI xa)), (3, .int (nI (hsN sd 0 xa))), (5, .int (nI jz))]) dX7_has_122 (by decide) rfl ?_
            have em : hsU f (nI (hsN sd 0 xa)) (jz + 1) = hsU f (nI (hsN sd 0 xa)) jz := if_neg c_113
            refine mg_lv (lv' := [(4, .int (nI (hsU f (nI (hsN sd 0 xa)) (jz + 1)))), (0, .ref om), (1, .int (nI s)), (2, .int (nI xa)), (3, .int (nI (hsN sd 0 xa))), (5, .int (nI jz))]) (by rw [em]) ?_
            refine mg_iinc C (v := nI (jz + 1)) (lv' := [(5, .int (nI (jz + 1))), (4, .int (nI (hsU f (nI (hsN sd 0 xa)) (jz + 1)))), (0, .ref om), (1, .int (nI s)), (2, .int (nI xa)), (3, .int (nI (hsN sd 0 xa)))]) dX7_has_124 rfl (ni_inc _) (by decide) rfl ?_
            refine mg_goto C (tgt := 86) dX7_has_127 (by decide) ?_
            refine mg_sub (lv' := [(0, .ref om), (1, .int (nI s)), (2, .int (nI xa)), (3, .int (nI (hsN sd 0 xa))), (4, .int (nI (hsU f (nI (hsN sd 0 xa)) (jz + 1)))), (5, .int (nI (jz + 1)))]) [2, 3, 4, 5, 1, 0] rfl ?_
            exact ih86 ((jz + 1)) (by omega) (by omega)
          · refine mg_iconst C (v := nI 1) dX7_has_116 (by decide) ?_
            refine mg_goto C (tgt := 122) dX7_has_117 (by decide) ?_
            refine mg_istore C (lv' := [(4, .int (nI 1)), (0, .ref om), (1, .int (nI s)), (2, .int (nI xa)), (3, .int (nI (hsN sd 0 xa))), (5, .int (nI jz))]) dX7_has_122 (by decide) rfl ?_
            have em : hsU f (nI (hsN sd 0 xa)) (jz + 1) = 1 := if_pos c_113
            refine mg_lv (lv' := [(4, .int (nI (hsU f (nI (hsN sd 0 xa)) (jz + 1)))), (0, .ref om), (1, .int (nI s)), (2, .int (nI xa)), (3, .int (nI (hsN sd 0 xa))), (5, .int (nI jz))]) (by rw [em]) ?_
            refine mg_iinc C (v := nI (jz + 1)) (lv' := [(5, .int (nI (jz + 1))), (4, .int (nI (hsU f (nI (hsN sd 0 xa)) (jz + 1)))), (0, .ref om), (1, .int (nI s)), (2, .int (nI xa)), (3, .int (nI (hsN sd 0 xa)))]) dX7_has_124 rfl (ni_inc _) (by decide) rfl ?_
            refine mg_goto C (tgt := 86) dX7_has_127 (by decide) ?_
            refine mg_sub (lv' := [(0, .ref om), (1, .int (nI s)), (2, .int (nI xa)), (3, .int (nI (hsN sd 0 xa))), (4, .int (nI (hsU f (nI (hsN sd 0 xa)) (jz + 1)))), (5, .int (nI (jz + 1)))]) [2, 3, 4, 5, 1, 0] rfl ?_
            exact ih86 ((jz + 1)) (by omega) (by omega)
    refine mg_sub (lv' := [(0, .ref om), (1, .int (nI s)), (2, .int (nI xa)), (3, .int (nI (hsN sd 0 xa))), (4, .int (nI 0)), (5, .int (nI 0))]) [3, 4, 5, 2, 1, 0] rfl ?_
    exact L86 (_ + 1) 0 (Nat.lt_succ_self _) (by omega)

set_option maxHeartbeats 4000000 in
set_option maxRecDepth 20000 in
theorem c_X7_distinct_L (D : va_G) (cI cS : ClassId) (w : mwT) (om md aso asi ase ato amo alo aro asr : Nat) (th : Int32) (so : Nat → Nat) (si : Nat → Nat) (se : Nat → Nat) (to : Nat → Int32) (mo : Nat → Nat) (lo : Nat → Int32) (ro : Nat → Int32) (s h k sd mv : Nat) (tot : Int32) (f : Nat → Int32) (hom : w om = some (.inr (6, [.int th, .int (nI md), .ref aso, .ref asi, .ref ase, .ref ato, .ref amo, .ref alo, .ref aro, .ref asr]))) (h_aso : w aso = some (eI cI 8 (lnF so))) (h_asi : w asi = some (eI cI 8 (lnF si))) (h_ase : w ase = some (eI cI 8 (lnF se))) (h_ato : w ato = some (eI cI 8 to)) (h_amo : w amo = some (eI cI 8 (lnF mo))) (h_alo : w alo = some (eI cI 8 lo)) (h_aro : w aro = some (eI cI 9600 ro)) (hmd : md ≤ 8) (hs : s < md) (hsd : sd ≤ 999) (hso : so s = 3) (hsi : si s = k) (hse : se s = sd) (hto : to s = tot) (hmo : mo s = mv) (hk1 : 2 ≤ k) (hk2 : k ≤ 32) (hh : h ≤ k) (hl : LsM ro s f h) (hlo : lo s = nI 0) (hmx : h = k → ¬ mxU f h = 0) : mMi yX7_distinct cX7_distinct 4 (some .int) (rmL 8) [.ref om, .int (nI s)] D cI cS w (fun r w1 => (r = (if h < k then nI h else nI ((k - 1) * 65537) / mxU f h)) ∧ w1 om = some (.inr (6, [.int (nI 0), .int (nI md), .ref aso, .ref asi, .ref ase, .ref ato, .ref amo, .ref alo, .ref aro, .ref asr])) ∧ ∀ z : Nat, z ≠ om → w1 z = w z) := by
  refine mMi.of (by decide) (Nat.le_of_ble_eq_true rfl) ?_
  intro X C hN hR
  have fr_w : ∀ zz : Nat, w zz = w zz := fun _ => rfl
  refine mg_sub (lv' := [(0, .ref om), (1, .int (nI s))]) [0, 1] rfl ?_
  have hs8 : s < 8 := by omega
  refine mg_aload_n C dX7_distinct_0 rfl ?_
  refine mg_iconst C (v := nI 0) dX7_distinct_1 (by decide) ?_
  refine mg_put C (fs' := [.int (nI 0), .int (nI md), .ref aso, .ref asi, .ref ase, .ref ato, .ref amo, .ref alo, .ref aro, .ref asr]) inT7 hom rfl 0 (by decide) kw_28 (Or.inl rfl) tyX7_ok nmX7 rfl rfl rfl rfl (Nat.le_of_ble_eq_true rfl) dX7_distinct_2 (fun w1 e_w1 => ?_)
  have h_w1_om : w1 om = some (.inr (6, [.int (nI 0), .int (nI md), .ref aso, .ref asi, .ref ase, .ref ato, .ref amo, .ref alo, .ref aro, .ref asr])) := (congrFun e_w1 _).trans mwu_eq
  have h_w1_aso : w1 aso = some (eI cI 8 (lnF so)) := (congrFun e_w1 _).trans ((mwu_ne (mw_ao h_aso hom)).trans h_aso)
  have h_w1_asi : w1 asi = some (eI cI 8 (lnF si)) := (congrFun e_w1 _).trans ((mwu_ne (mw_ao h_asi hom)).trans h_asi)
  have h_w1_ase : w1 ase = some (eI cI 8 (lnF se)) := (congrFun e_w1 _).trans ((mwu_ne (mw_ao h_ase hom)).trans h_ase)
  have h_w1_ato : w1 ato = some (eI cI 8 to) := (congrFun e_w1 _).trans ((mwu_ne (mw_ao h_ato hom)).trans h_ato)
  have h_w1_amo : w1 amo = some (eI cI 8 (lnF mo)) := (congrFun e_w1 _).trans ((mwu_ne (mw_ao h_amo hom)).trans h_amo)
  have h_w1_alo : w1 alo = some (eI cI 8 lo) := (congrFun e_w1 _).trans ((mwu_ne (mw_ao h_alo hom)).trans h_alo)
  have h_w1_aro : w1 aro = some (eI cI 9600 ro) := (congrFun e_w1 _).trans ((mwu_ne (mw_ao h_aro hom)).trans h_aro)
  have fr_w1 : ∀ zz : Nat, zz ≠ om → w1 zz = w zz := fun zz g0 => (congrFun e_w1 zz).trans ((mwu_ne g0).trans (fr_w zz ))
  refine mg_aload_n C dX7_distinct_5 rfl ?_
  refine mg_iload_n C dX7_distinct_6 rfl ?_
  refine mg_iconst C (v := nI 3) dX7_distinct_7 (by decide) ?_
  refine mg_iconst C (v := nI 3) dX7_distinct_8 (by decide) ?_
  refine mg_callV_i C h_w1_om rfl (rest := []) (c_X7_isOf_a D cI cS w1 om md aso asi ase ato amo alo aro asr (nI 0) so s 3 3 3 h_w1_om h_w1_aso hmd hs hso (by decide) (by decide) (by decide) rfl) yq_X7_isOf kw_463 kw_464 kw_465 ⟨by decide, by decide⟩ ⟨Nat.le_of_ble_eq_true rfl, Nat.le_of_ble_eq_true rfl⟩ (Nat.le_of_ble_eq_true rfl) rfl rfl dX7_distinct_9 (fun r2 w3 ⟨e_r2, e_w3⟩ => ?_)
  rw [e_w3, e_r2]
  refine mg_ifN_ne C (tgt := 17) dX7_distinct_12 (by decide) (by decide) (fun c_12 => ?_) (fun c_12 => absurd c_12 (by decide))
  refine mg_aload_n C dX7_distinct_17 rfl ?_
  refine mg_iload_n C dX7_distinct_18 rfl ?_
  refine mg_callV_i C h_w1_om rfl (rest := []) (c_X7_many D cI cS w1 om md aso asi ase ato amo alo aro asr (nI 0) ro s h h_w1_om h_w1_aro hs8 hl.1) yq_X7_many kw_340 kw_341 kw_342 ⟨by decide, by decide⟩ ⟨Nat.le_of_ble_eq_true rfl, Nat.le_of_ble_eq_true rfl⟩ (Nat.le_of_ble_eq_true rfl) rfl rfl dX7_distinct_19 (fun r4 w5 ⟨e_r4, e_w5⟩ => ?_)
  rw [e_w5, e_r4]
  refine mg_aload_n C dX7_distinct_22 rfl ?_
  refine mg_get C inT7 h_w1_om rfl 3 (by decide) kw_21 (Or.inl rfl) rfl dX7_distinct_23 ?_
  refine mg_iload_n C dX7_distinct_26 rfl ?_
  refine mg_ialdN C h_w1_asi (by omega) (by omega) dX7_distinct_27 ?_
  rw [show lnF si s = nI k from congrArg nI hsi]
  refine mg_icmpN_ge C (tgt := 37) dX7_distinct_28 (by decide) (by omega) (by omega) (fun c_28 => ?_) (fun c_28 => ?_)
  · refine mg_iconst C (v := nI 0) dX7_distinct_37 (by decide) ?_
    refine mg_istore_n C (lv' := [(2, .int (nI 0)), (0, .ref om), (1, .int (nI s))]) dX7_distinct_38 rfl (by decide) rfl ?_
    refine mg_iconst C (v := nI 0) dX7_distinct_39 (by decide) ?_
    refine mg_istore_n C (lv' := [(3, .int (nI 0)), (2, .int (nI 0)), (0, .ref om), (1, .int (nI s))]) dX7_distinct_40 rfl (by decide) rfl ?_
    have L41 : ∀ (M41 : Nat) (jz : Nat), h - jz < M41 → (jz ≤ h) → mwG X 0 0 w1 [(0, .ref om), (1, .int (nI s)), (2, .int (mxU f jz)), (3, .int (nI jz))] [] 41 := by
      intro M41
      induction M41 with
      | zero => intro jz hm41; exact absurd hm41 (Nat.not_lt_zero _)
      | succ M41 ih41 =>
        intro jz hm41 hjz
        refine mg_iload_n C dX7_distinct_41 rfl ?_
        refine mg_aload_n C dX7_distinct_42 rfl ?_
        refine mg_iload_n C dX7_distinct_43 rfl ?_
        refine mg_callV_i C h_w1_om rfl (rest := [.int (nI jz)]) (c_X7_many D cI cS w1 om md aso asi ase ato amo alo aro asr (nI 0) ro s h h_w1_om h_w1_aro hs8 hl.1) yq_X7_many kw_340 kw_341 kw_342 ⟨by decide, by decide⟩ ⟨Nat.le_of_ble_eq_true rfl, Nat.le_of_ble_eq_true rfl⟩ (Nat.le_of_ble_eq_true rfl) rfl rfl dX7_distinct_44 (fun r6 w7 ⟨e_r6, e_w7⟩ => ?_)
        rw [e_w7, e_r6]
        refine mg_icmpN_ge C (tgt := 95) dX7_distinct_47 (by decide) (by omega) (by omega) (fun c_47 => ?_) (fun c_47 => ?_)
        · have ej : jz = h := by omega
          rw [ej]
          refine mg_aload_n C dX7_distinct_95 rfl ?_
          refine mg_get C inT7 h_w1_om rfl 3 (by decide) kw_21 (Or.inl rfl) rfl dX7_distinct_96 ?_
          refine mg_iload_n C dX7_distinct_99 rfl ?_
          refine mg_ialdN C h_w1_asi (by omega) (by omega) dX7_distinct_100 ?_
          rw [show lnF si s = nI k from congrArg nI hsi]
          refine mg_iconst C (v := nI 1) dX7_distinct_101 (by decide) ?_
          refine mg_isub C (z := nI (k - 1)) dX7_distinct_102 (ni_sub (by omega)) ?_
          refine mg_ldc C (v := nI 65537) dX7_distinct_103 kw_363 (by decide) ?_
          refine mg_imul C (z := nI ((k - 1) * 65537)) dX7_distinct_105 (pk_mul _ _) ?_
          refine mg_iload_n C dX7_distinct_106 rfl ?_
          refine mg_idiv C (z := nI ((k - 1) * 65537) / mxU f h) dX7_distinct_107 (hmx (by omega)) rfl ?_
          exact hR _ _ _ _ dX7_distinct_108 ⟨(if_neg (by omega)).symm, h_w1_om, fun z q0 => fr_w1 z q0⟩
        · refine mg_aload_n C dX7_distinct_50 rfl ?_
          refine mg_get C inT7 h_w1_om rfl 8 (by decide) kw_26 (Or.inl rfl) rfl dX7_distinct_51 ?_
          refine mg_sipush C (v := nI 1200) dX7_distinct_54 (by decide) ?_
          refine mg_iload_n C dX7_distinct_57 rfl ?_
          refine mg_imul C (z := nI (1200 * s)) dX7_distinct_58 (pk_mul _ _) ?_
          refine mg_bipush C (v := nI 100) dX7_distinct_59 (by decide) ?_
          refine mg_iadd C (z := nI ((1200 * s) + 100)) dX7_distinct_61 (nI_add _ _) ?_
          refine mg_iload_n C dX7_distinct_62 rfl ?_
          refine mg_iadd C (z := nI (((1200 * s) + 100) + jz)) dX7_distinct_63 (nI_add _ _) ?_
          refine mg_ialdN C h_w1_aro (by omega) (by omega) dX7_distinct_64 ?_
          rw [hl.2 jz (by omega)]
          refine mg_iload_n C dX7_distinct_65 rfl ?_
          refine mg_icmp_le C (tgt := 87) dX7_distinct_66 (by decide) (fun c_66 => ?_) (fun c_66 => ?_)
          · refine mg_iload_n C dX7_distinct_87 rfl ?_
            refine mg_istore_n C (lv' := [(2, .int (mxU f jz)), (0, .ref om), (1, .int (nI s)), (3, .int (nI jz))]) dX7_distinct_88 rfl (by decide) rfl ?_
            have em : mxU f (jz + 1) = mxU f jz := if_pos c_66
            refine mg_lv (lv' := [(2, .int (mxU f (jz + 1))), (0, .ref om), (1, .int (nI s)), (3, .int (nI jz))]) (by rw [em]) ?_
            refine mg_iinc C (v := nI (jz + 1)) (lv' := [(3, .int (nI (jz + 1))), (2, .int (mxU f (jz + 1))), (0, .ref om), (1, .int (nI s))]) dX7_distinct_89 rfl (ni_inc _) (by decide) rfl ?_
            refine mg_goto C (tgt := 41) dX7_distinct_92 (by decide) ?_
            refine mg_sub (lv' := [(0, .ref om), (1, .int (nI s)), (2, .int (mxU f (jz + 1))), (3, .int (nI (jz + 1)))]) [2, 3, 1, 0] rfl ?_
            exact ih41 ((jz + 1)) (by omega) (by omega)
          · refine mg_aload_n C dX7_distinct_69 rfl ?_
            refine mg_get C inT7 h_w1_om rfl 8 (by decide) kw_26 (Or.inl rfl) rfl dX7_distinct_70 ?_
            refine mg_sipush C (v := nI 1200) dX7_distinct_73 (by decide) ?_
            refine mg_iload_n C dX7_distinct_76 rfl ?_
            refine mg_imul C (z := nI (1200 * s)) dX7_distinct_77 (pk_mul _ _) ?_
            refine mg_bipush C (v := nI 100) dX7_distinct_78 (by decide) ?_
            refine mg_iadd C (z := nI ((1200 * s) + 100)) dX7_distinct_80 (nI_add _ _) ?_
            refine mg_iload_n C dX7_distinct_81 rfl ?_
            refine mg_iadd C (z := nI (((1200 * s) + 100) + jz)) dX7_distinct_82 (nI_add _ _) ?_
            refine mg_ialdN C h_w1_aro (by omega) (by omega) dX7_distinct_83 ?_
            rw [hl.2 jz (by omega)]
            refine mg_goto C (tgt := 88) dX7_distinct_84 (by decide) ?_
            refine mg_istore_n C (lv' := [(2, .int (f jz)), (0, .ref om), (1, .int (nI s)), (3, .int (nI jz))]) dX7_distinct_88 rfl (by decide) rfl ?_
            have em : mxU f (jz + 1) = f jz := if_neg c_66
            refine mg_lv (lv' := [(2, .int (mxU f (jz + 1))), (0, .ref om), (1, .int (nI s)), (3, .int (nI jz))]) (by rw [em]) ?_
            refine mg_iinc C (v := nI (jz + 1)) (lv' := [(3, .int (nI (jz + 1))), (2, .int (mxU f (jz + 1))), (0, .ref om), (1, .int (nI s))]) dX7_distinct_89 rfl (ni_inc _) (by decide) rfl ?_
            refine mg_goto C (tgt := 41) dX7_distinct_92 (by decide) ?_
            refine mg_sub (lv' := [(0, .ref om), (1, .int (nI s)), (2, .int (mxU f (jz + 1))), (3, .int (nI (jz + 1)))]) [2, 3, 1, 0] rfl ?_
            exact ih41 ((jz + 1)) (by omega) (by omega)
    refine mg_sub (lv' := [(0, .ref om), (1, .int (nI s)), (2, .int (nI 0)), (3, .int (nI 0))]) [2, 3, 1, 0] rfl ?_
    exact L41 (_ + 1) 0 (Nat.lt_succ_self _) (by omega)
  · refine mg_aload_n C dX7_distinct_31 rfl ?_
    refine mg_iload_n C dX7_distinct_32 rfl ?_
    refine mg_callV_i C h_w1_om rfl (rest := []) (c_X7_many D cI cS w1 om md aso asi ase ato amo alo aro asr (nI 0) ro s h h_w1_om h_w1_aro hs8 hl.1) yq_X7_many kw_340 kw_341 kw_342 ⟨by decide, by decide⟩ ⟨Nat.le_of_ble_eq_true rfl, Nat.le_of_ble_eq_true rfl⟩ (Nat.le_of_ble_eq_true rfl) rfl rfl dX7_distinct_33 (fun r8 w9 ⟨e_r8, e_w9⟩ => ?_)
    rw [e_w9, e_r8]
    exact hR _ _ _ _ dX7_distinct_36 ⟨(if_pos c_28).symm, h_w1_om, fun z q0 => fr_w1 z q0⟩

set_option maxHeartbeats 4000000 in
set_option maxRecDepth 20000 in
theorem c_X7_quantile_L (D : va_G) (cI cS : ClassId) (w : mwT) (om md aso asi ase ato amo alo aro asr : Nat) (th : Int32) (so : Nat → Nat) (si : Nat → Nat) (se : Nat → Nat) (to : Nat → Int32) (mo : Nat → Nat) (lo : Nat → Int32) (ro : Nat → Int32) (s h k sd mv : Nat) (tot : Int32) (f : Nat → Int32) (q : Int32) (hom : w om = some (.inr (6, [.int th, .int (nI md), .ref aso, .ref asi, .ref ase, .ref ato, .ref amo, .ref alo, .ref aro, .ref asr]))) (h_aso : w aso = some (eI cI 8 (lnF so))) (h_asi : w asi = some (eI cI 8 (lnF si))) (h_ase : w ase = some (eI cI 8 (lnF se))) (h_ato : w ato = some (eI cI 8 to)) (h_amo : w amo = some (eI cI 8 (lnF mo))) (h_alo : w alo = some (eI cI 8 lo)) (h_aro : w aro = some (eI cI 9600 ro)) (hmd : md ≤ 8) (hs : s < md) (hsd : sd ≤ 999) (hso : so s = 3) (hsi : si s = k) (hse : se s = sd) (hto : to s = tot) (hmo : mo s = mv) (hk1 : 2 ≤ k) (hk2 : k ≤ 32) (hh : h ≤ k) (hl : LsM ro s f h) (hlo : lo s = nI 0) : mMi yX7_quantile cX7_quantile 6 (some .int) (rmL 8) [.ref om, .int (nI s), .int q] D cI cS w (fun r w1 => (r = -1) ∧ w1 om = some (.inr (6, [.int (nI 0), .int (nI md), .ref aso, .ref asi, .ref ase, .ref ato, .ref amo, .ref alo, .ref aro, .ref asr])) ∧ ∀ z : Nat, z ≠ om → w1 z = w z) := by
  refine mMi.of (by decide) (Nat.le_of_ble_eq_true rfl) ?_
  intro X C hN hR
  have fr_w : ∀ zz : Nat, w zz = w zz := fun _ => rfl
  refine mg_sub (lv' := [(0, .ref om), (1, .int (nI s)), (2, .int q)]) [0, 1, 2] rfl ?_
  have hs8 : s < 8 := by omega
  refine mg_aload_n C dX7_quantile_0 rfl ?_
  refine mg_iconst C (v := nI 0) dX7_quantile_1 (by decide) ?_
  refine mg_put C (fs' := [.int (nI 0), .int (nI md), .ref aso, .ref asi, .ref ase, .ref ato, .ref amo, .ref alo, .ref aro, .ref asr]) inT7 hom rfl 0 (by decide) kw_28 (Or.inl rfl) tyX7_ok nmX7 rfl rfl rfl rfl (Nat.le_of_ble_eq_true rfl) dX7_quantile_2 (fun w1 e_w1 => ?_)
  have h_w1_om : w1 om = some (.inr (6, [.int (nI 0), .int (nI md), .ref aso, .ref asi, .ref ase, .ref ato, .ref amo, .ref alo, .ref aro, .ref asr])) := (congrFun e_w1 _).trans mwu_eq
  have h_w1_aso : w1 aso = some (eI cI 8 (lnF so)) := (congrFun e_w1 _).trans ((mwu_ne (mw_ao h_aso hom)).trans h_aso)
  have h_w1_asi : w1 asi = some (eI cI 8 (lnF si)) := (congrFun e_w1 _).trans ((mwu_ne (mw_ao h_asi hom)).trans h_asi)
  have h_w1_ase : w1 ase = some (eI cI 8 (lnF se)) := (congrFun e_w1 _).trans ((mwu_ne (mw_ao h_ase hom)).trans h_ase)
  have h_w1_ato : w1 ato = some (eI cI 8 to) := (congrFun e_w1 _).trans ((mwu_ne (mw_ao h_ato hom)).trans h_ato)
  have h_w1_amo : w1 amo = some (eI cI 8 (lnF mo)) := (congrFun e_w1 _).trans ((mwu_ne (mw_ao h_amo hom)).trans h_amo)
  have h_w1_alo : w1 alo = some (eI cI 8 lo) := (congrFun e_w1 _).trans ((mwu_ne (mw_ao h_alo hom)).trans h_alo)
  have h_w1_aro : w1 aro = some (eI cI 9600 ro) := (congrFun e_w1 _).trans ((mwu_ne (mw_ao h_aro hom)).trans h_aro)
  have fr_w1 : ∀ zz : Nat, zz ≠ om → w1 zz = w zz := fun zz g0 => (congrFun e_w1 zz).trans ((mwu_ne g0).trans (fr_w zz ))
  refine mg_aload_n C dX7_quantile_5 rfl ?_
  refine mg_iload_n C dX7_quantile_6 rfl ?_
  refine mg_iconst C (v := nI 4) dX7_quantile_7 (by decide) ?_
  refine mg_iconst C (v := nI 4) dX7_quantile_8 (by decide) ?_
  refine mg_callV_i C h_w1_om rfl (rest := []) (c_X7_isOf_n D cI cS w1 om md aso asi ase ato amo alo aro asr (nI 0) so s 3 4 4 h_w1_om h_w1_aso hmd hs hso (by decide) (by decide) (by decide) (by decide) (by decide)) yq_X7_isOf kw_463 kw_464 kw_465 ⟨by decide, by decide⟩ ⟨Nat.le_of_ble_eq_true rfl, Nat.le_of_ble_eq_true rfl⟩ (Nat.le_of_ble_eq_true rfl) rfl rfl dX7_quantile_9 (fun r2 w3 ⟨e_r2, e_w3⟩ => ?_)
  rw [e_w3, e_r2]
  refine mg_ifN_eq C (tgt := 29) dX7_quantile_12 (by decide) (by decide) (fun c_12 => ?_) (fun c_12 => absurd c_12 (by decide))
  refine mg_iconst C (v := (-1 : Int32)) dX7_quantile_29 (by decide) ?_
  exact hR _ _ _ _ dX7_quantile_30 ⟨rfl, h_w1_om, fun z q0 => fr_w1 z q0⟩

set_option maxHeartbeats 4000000 in
set_option maxRecDepth 20000 in
theorem c_X7_told_L (D : va_G) (cI cS : ClassId) (w : mwT) (om md aso asi ase ato amo alo aro asr : Nat) (th : Int32) (so : Nat → Nat) (si : Nat → Nat) (se : Nat → Nat) (to : Nat → Int32) (mo : Nat → Nat) (lo : Nat → Int32) (ro : Nat → Int32) (s h k sd mv : Nat) (tot : Int32) (f : Nat → Int32) (q : Int32) (hom : w om = some (.inr (6, [.int th, .int (nI md), .ref aso, .ref asi, .ref ase, .ref ato, .ref amo, .ref alo, .ref aro, .ref asr]))) (h_aso : w aso = some (eI cI 8 (lnF so))) (h_asi : w asi = some (eI cI 8 (lnF si))) (h_ase : w ase = some (eI cI 8 (lnF se))) (h_ato : w ato = some (eI cI 8 to)) (h_amo : w amo = some (eI cI 8 (lnF mo))) (h_alo : w alo = some (eI cI 8 lo)) (h_aro : w aro = some (eI cI 9600 ro)) (hmd : md ≤ 8) (hs : s < md) (hsd : sd ≤ 999) (hso : so s = 3) (hsi : si s = k) (hse : se s = sd) (hto : to s = tot) (hmo : mo s = mv) (hk1 : 2 ≤ k) (hk2 : k ≤ 32) (hh : h ≤ k) (hl : LsM ro s f h) (hlo : lo s = nI 0) : mMi yX7_told cX7_told 3 (some .int) (rmL 8) [.ref om, .int (nI s), .int q] D cI cS w (fun r w1 => ((¬ rg 6 q ∧ r = -1) ∨ (q = nI 0 ∧ r = nI 3) ∨ (q = nI 1 ∧ r = nI k) ∨ (q = nI 2 ∧ r = nI sd) ∨ (q = nI 3 ∧ r = tot + nI 10000000) ∨ (q = nI 4 ∧ r = nI mv) ∨ (q = nI 5 ∧ r = nI 0) ∨ (q = nI 6 ∧ r = nI h)) ∧ w1 om = some (.inr (6, [.int (nI 0), .int (nI md), .ref aso, .ref asi, .ref ase, .ref ato, .ref amo, .ref alo, .ref aro, .ref asr])) ∧ ∀ z : Nat, z ≠ om → w1 z = w z) := by
  refine mMi.of (by decide) (Nat.le_of_ble_eq_true rfl) ?_
  intro X C hN hR
  have fr_w : ∀ zz : Nat, w zz = w zz := fun _ => rfl
  refine mg_sub (lv' := [(0, .ref om), (1, .int (nI s)), (2, .int q)]) [0, 1, 2] rfl ?_
  have hs8 : s < 8 := by omega
  refine mg_aload_n C dX7_told_0 rfl ?_
  refine mg_iconst C (v := nI 0) dX7_told_1 (by decide) ?_
  refine mg_put C (fs' := [.int (nI 0), .int (nI md), .ref aso, .ref asi, .ref ase, .ref ato, .ref amo, .ref alo, .ref aro, .ref asr]) inT7 hom rfl 0 (by decide) kw_28 (Or.inl rfl) tyX7_ok nmX7 rfl rfl rfl rfl (Nat.le_of_ble_eq_true rfl) dX7_told_2 (fun w1 e_w1 => ?_)
  have h_w1_om : w1 om = some (.inr (6, [.int (nI 0), .int (nI md), .ref aso, .ref asi, .ref ase, .ref ato, .ref amo, .ref alo, .ref aro, .ref asr])) := (congrFun e_w1 _).trans mwu_eq
  have h_w1_aso : w1 aso = some (eI cI 8 (lnF so)) := (congrFun e_w1 _).trans ((mwu_ne (mw_ao h_aso hom)).trans h_aso)
  have h_w1_asi : w1 asi = some (eI cI 8 (lnF si)) := (congrFun e_w1 _).trans ((mwu_ne (mw_ao h_asi hom)).trans h_asi)
  have h_w1_ase : w1 ase = some (eI cI 8 (lnF se)) := (congrFun e_w1 _).trans ((mwu_ne (mw_ao h_ase hom)).trans h_ase)
  have h_w1_ato : w1 ato = some (eI cI 8 to) := (congrFun e_w1 _).trans ((mwu_ne (mw_ao h_ato hom)).trans h_ato)
  have h_w1_amo : w1 amo = some (eI cI 8 (lnF mo)) := (congrFun e_w1 _).trans ((mwu_ne (mw_ao h_amo hom)).trans h_amo)
  have h_w1_alo : w1 alo = some (eI cI 8 lo) := (congrFun e_w1 _).trans ((mwu_ne (mw_ao h_alo hom)).trans h_alo)
  have h_w1_aro : w1 aro = some (eI cI 9600 ro) := (congrFun e_w1 _).trans ((mwu_ne (mw_ao h_aro hom)).trans h_aro)
  have fr_w1 : ∀ zz : Nat, zz ≠ om → w1 zz = w zz := fun zz g0 => (congrFun e_w1 zz).trans ((mwu_ne g0).trans (fr_w zz ))
  refine mg_aload_n C dX7_told_5 rfl ?_
  refine mg_iload_n C dX7_told_6 rfl ?_
  refine mg_callV_i C h_w1_om rfl (rest := []) (c_X7_none_in D cI cS w1 om md aso asi ase ato amo alo aro asr (nI 0)  s h_w1_om hmd hs) yq_X7_none kw_197 kw_198 kw_199 ⟨by decide, by decide⟩ ⟨Nat.le_of_ble_eq_true rfl, Nat.le_of_ble_eq_true rfl⟩ (Nat.le_of_ble_eq_true rfl) rfl rfl dX7_told_7 (fun r2 w3 ⟨e_r2, e_w3⟩ => ?_)
  rw [e_w3, e_r2]
  refine mg_ifN_eq C (tgt := 15) dX7_told_10 (by decide) (by decide) (fun c_10 => ?_) (fun c_10 => absurd c_10 (by decide))
  refine mg_iload_n C dX7_told_15 rfl ?_
  rcases Classical.em (rg 6 q) with ⟨jt16, hjjt16, ejt16⟩ | hq16
  · rcases (show jt16 = 0 ∨ jt16 = 1 ∨ jt16 = 2 ∨ jt16 = 3 ∨ jt16 = 4 ∨ jt16 = 5 ∨ jt16 = 6 by omega) with zjt16 | zjt16 | zjt16 | zjt16 | zjt16 | zjt16 | zjt16
    · rw [zjt16] at ejt16
      rw [ejt16]
      refine mg_tabIn C (tgt := 60) (off := 44) dX7_told_16 (by decide) (by decide) rfl (by decide) ?_
      refine mg_aload_n C dX7_told_60 rfl ?_
      refine mg_get C inT7 h_w1_om rfl 2 (by decide) kw_20 (Or.inl rfl) rfl dX7_told_61 ?_
      refine mg_iload_n C dX7_told_64 rfl ?_
      refine mg_ialdN C h_w1_aso (by omega) (by omega) dX7_told_65 ?_
      rw [show lnF so s = nI 3 from congrArg nI hso]
      exact hR _ _ _ _ dX7_told_66 ⟨Or.inr (Or.inl ⟨ejt16, rfl⟩), h_w1_om, fun z q0 => fr_w1 z q0⟩
    · rw [zjt16] at ejt16
      rw [ejt16]
      refine mg_tabIn C (tgt := 67) (off := 51) dX7_told_16 (by decide) (by decide) rfl (by decide) ?_
      refine mg_aload_n C dX7_told_67 rfl ?_
      refine mg_get C inT7 h_w1_om rfl 3 (by decide) kw_21 (Or.inl rfl) rfl dX7_told_68 ?_
      refine mg_iload_n C dX7_told_71 rfl ?_
      refine mg_ialdN C h_w1_asi (by omega) (by omega) dX7_told_72 ?_
      rw [show lnF si s = nI k from congrArg nI hsi]
      exact hR _ _ _ _ dX7_told_73 ⟨Or.inr (Or.inr (Or.inl ⟨ejt16, rfl⟩)), h_w1_om, fun z q0 => fr_w1 z q0⟩
    · rw [zjt16] at ejt16
      rw [ejt16]
      refine mg_tabIn C (tgt := 74) (off := 58) dX7_told_16 (by decide) (by decide) rfl (by decide) ?_
      refine mg_aload_n C dX7_told_74 rfl ?_
      refine mg_get C inT7 h_w1_om rfl 4 (by decide) kw_22 (Or.inl rfl) rfl dX7_told_75 ?_
      refine mg_iload_n C dX7_told_78 rfl ?_
      refine mg_ialdN C h_w1_ase (by omega) (by omega) dX7_told_79 ?_
      rw [show lnF se s = nI sd from congrArg nI hse]
      exact hR _ _ _ _ dX7_told_80 ⟨Or.inr (Or.inr (Or.inr (Or.inl ⟨ejt16, rfl⟩))), h_w1_om, fun z q0 => fr_w1 z q0⟩
    · rw [zjt16] at ejt16
      rw [ejt16]
      refine mg_tabIn C (tgt := 81) (off := 65) dX7_told_16 (by decide) (by decide) rfl (by decide) ?_
      refine mg_aload_n C dX7_told_81 rfl ?_
      refine mg_get C inT7 h_w1_om rfl 5 (by decide) kw_23 (Or.inl rfl) rfl dX7_told_82 ?_
      refine mg_iload_n C dX7_told_85 rfl ?_
      refine mg_ialdN C h_w1_ato (by omega) (by omega) dX7_told_86 ?_
      rw [hto]
      refine mg_ldc C (v := nI 10000000) dX7_told_87 kw_231 (by decide) ?_
      refine mg_iadd C (z := tot + (nI 10000000)) dX7_told_89 rfl ?_
      exact hR _ _ _ _ dX7_told_90 ⟨Or.inr (Or.inr (Or.inr (Or.inr (Or.inl ⟨ejt16, rfl⟩)))), h_w1_om, fun z q0 => fr_w1 z q0⟩
    · rw [zjt16] at ejt16
      rw [ejt16]
      refine mg_tabIn C (tgt := 91) (off := 75) dX7_told_16 (by decide) (by decide) rfl (by decide) ?_
      refine mg_aload_n C dX7_told_91 rfl ?_
      refine mg_get C inT7 h_w1_om rfl 6 (by decide) kw_24 (Or.inl rfl) rfl dX7_told_92 ?_
      refine mg_iload_n C dX7_told_95 rfl ?_
      refine mg_ialdN C h_w1_amo (by omega) (by omega) dX7_told_96 ?_
      rw [show lnF mo s = nI mv from congrArg nI hmo]
      exact hR _ _ _ _ dX7_told_97 ⟨Or.inr (Or.inr (Or.inr (Or.inr (Or.inr (Or.inl ⟨ejt16, rfl⟩))))), h_w1_om, fun z q0 => fr_w1 z q0⟩
    · rw [zjt16] at ejt16
      rw [ejt16]
      refine mg_tabIn C (tgt := 98) (off := 82) dX7_told_16 (by decide) (by decide) rfl (by decide) ?_
      refine mg_aload_n C dX7_told_98 rfl ?_
      refine mg_get C inT7 h_w1_om rfl 7 (by decide) kw_25 (Or.inl rfl) rfl dX7_told_99 ?_
      refine mg_iload_n C dX7_told_102 rfl ?_
      refine mg_ialdN C h_w1_alo (by omega) (by omega) dX7_told_103 ?_
      rw [hlo]
      exact hR _ _ _ _ dX7_told_104 ⟨Or.inr (Or.inr (Or.inr (Or.inr (Or.inr (Or.inr (Or.inl ⟨ejt16, rfl⟩)))))), h_w1_om, fun z q0 => fr_w1 z q0⟩
    · rw [zjt16] at ejt16
      rw [ejt16]
      refine mg_tabIn C (tgt := 105) (off := 89) dX7_told_16 (by decide) (by decide) rfl (by decide) ?_
      refine mg_aload_n C dX7_told_105 rfl ?_
      refine mg_iload_n C dX7_told_106 rfl ?_
      refine mg_callV_i C h_w1_om rfl (rest := []) (c_X7_keptOf_L D cI cS w1 om md aso asi ase ato amo alo aro asr (nI 0) so ro s h h_w1_om h_w1_aso h_w1_aro hs8 hso hl.1) yq_X7_keptOf kw_617 kw_618 kw_619 ⟨by decide, by decide⟩ ⟨Nat.le_of_ble_eq_true rfl, Nat.le_of_ble_eq_true rfl⟩ (Nat.le_of_ble_eq_true rfl) rfl rfl dX7_told_107 (fun r4 w4 ⟨xe4, xk4⟩ => ?_)
      rw [xk4, xe4]
      exact hR _ _ _ _ dX7_told_110 ⟨Or.inr (Or.inr (Or.inr (Or.inr (Or.inr (Or.inr (Or.inr (⟨ejt16, rfl⟩))))))), h_w1_om, fun z q0 => fr_w1 z q0⟩
  · refine mg_tabOut C (tgt := 111) dX7_told_16 (rg_out (by decide) hq16) (by decide) ?_
    refine mg_iconst C (v := (-1 : Int32)) dX7_told_111 (by decide) ?_
    exact hR _ _ _ _ dX7_told_112 ⟨Or.inl ⟨hq16, rfl⟩, h_w1_om, fun z q0 => fr_w1 z q0⟩

set_option maxHeartbeats 4000000 in
set_option maxRecDepth 20000 in
theorem c_X7_kept_L (D : va_G) (cI cS : ClassId) (w : mwT) (om md aso asi ase ato amo alo aro asr : Nat) (th : Int32) (so : Nat → Nat) (si : Nat → Nat) (se : Nat → Nat) (to : Nat → Int32) (mo : Nat → Nat) (lo : Nat → Int32) (ro : Nat → Int32) (s h k sd mv : Nat) (tot : Int32) (f : Nat → Int32) (i pt : Int32) (hom : w om = some (.inr (6, [.int th, .int (nI md), .ref aso, .ref asi, .ref ase, .ref ato, .ref amo, .ref alo, .ref aro, .ref asr]))) (h_aso : w aso = some (eI cI 8 (lnF so))) (h_asi : w asi = some (eI cI 8 (lnF si))) (h_ase : w ase = some (eI cI 8 (lnF se))) (h_ato : w ato = some (eI cI 8 to)) (h_amo : w amo = some (eI cI 8 (lnF mo))) (h_alo : w alo = some (eI cI 8 lo)) (h_aro : w aro = some (eI cI 9600 ro)) (hmd : md ≤ 8) (hs : s < md) (hsd : sd ≤ 999) (hso : so s = 3) (hsi : si s = k) (hse : se s = sd) (hto : to s = tot) (hmo : mo s = mv) (hk1 : 2 ≤ k) (hk2 : k ≤ 32) (hh : h ≤ k) (hl : LsM ro s f h) (hlo : lo s = nI 0) : mMi yX7_kept cX7_kept 5 (some .int) (rmL 8) [.ref om, .int (nI s), .int i, .int pt] D cI cS w (fun r w1 => ((∃ kz : Nat, kz < h ∧ i = nI (bfU f kz h) ∧ pt = 0 ∧ r = f kz) ∨ (r = -1 ∧ ¬ ((∃ j : Nat, j < h ∧ nI (bfU f j h) = i) ∧ pt = 0))) ∧ w1 om = some (.inr (6, [.int (nI 0), .int (nI md), .ref aso, .ref asi, .ref ase, .ref ato, .ref amo, .ref alo, .ref aro, .ref asr])) ∧ ∀ z : Nat, z ≠ om → w1 z = w z) := by
  refine mMi.of (by decide) (Nat.le_of_ble_eq_true rfl) ?_
  intro X C hN hR
  have fr_w : ∀ zz : Nat, w zz = w zz := fun _ => rfl
  refine mg_sub (lv' := [(0, .ref om), (1, .int (nI s)), (2, .int i), (3, .int pt)]) [0, 1, 2, 3] rfl ?_
  have hs8 : s < 8 := by omega
  refine mg_aload_n C dX7_kept_0 rfl ?_
  refine mg_iconst C (v := nI 0) dX7_kept_1 (by decide) ?_
  refine mg_put C (fs' := [.int (nI 0), .int (nI md), .ref aso, .ref asi, .ref ase, .ref ato, .ref amo, .ref alo, .ref aro, .ref asr]) inT7 hom rfl 0 (by decide) kw_28 (Or.inl rfl) tyX7_ok nmX7 rfl rfl rfl rfl (Nat.le_of_ble_eq_true rfl) dX7_kept_2 (fun w1 e_w1 => ?_)
  have h_w1_om : w1 om = some (.inr (6, [.int (nI 0), .int (nI md), .ref aso, .ref asi, .ref ase, .ref ato, .ref amo, .ref alo, .ref aro, .ref asr])) := (congrFun e_w1 _).trans mwu_eq
  have h_w1_aso : w1 aso = some (eI cI 8 (lnF so)) := (congrFun e_w1 _).trans ((mwu_ne (mw_ao h_aso hom)).trans h_aso)
  have h_w1_asi : w1 asi = some (eI cI 8 (lnF si)) := (congrFun e_w1 _).trans ((mwu_ne (mw_ao h_asi hom)).trans h_asi)
  have h_w1_ase : w1 ase = some (eI cI 8 (lnF se)) := (congrFun e_w1 _).trans ((mwu_ne (mw_ao h_ase hom)).trans h_ase)
  have h_w1_ato : w1 ato = some (eI cI 8 to) := (congrFun e_w1 _).trans ((mwu_ne (mw_ao h_ato hom)).trans h_ato)
  have h_w1_amo : w1 amo = some (eI cI 8 (lnF mo)) := (congrFun e_w1 _).trans ((mwu_ne (mw_ao h_amo hom)).trans h_amo)
  have h_w1_alo : w1 alo = some (eI cI 8 lo) := (congrFun e_w1 _).trans ((mwu_ne (mw_ao h_alo hom)).trans h_alo)
  have h_w1_aro : w1 aro = some (eI cI 9600 ro) := (congrFun e_w1 _).trans ((mwu_ne (mw_ao h_aro hom)).trans h_aro)
  have fr_w1 : ∀ zz : Nat, zz ≠ om → w1 zz = w zz := fun zz g0 => (congrFun e_w1 zz).trans ((mwu_ne g0).trans (fr_w zz ))
  refine mg_aload_n C dX7_kept_5 rfl ?_
  refine mg_iload_n C dX7_kept_6 rfl ?_
  refine mg_callV_i C h_w1_om rfl (rest := []) (c_X7_none_in D cI cS w1 om md aso asi ase ato amo alo aro asr (nI 0)  s h_w1_om hmd hs) yq_X7_none kw_197 kw_198 kw_199 ⟨by decide, by decide⟩ ⟨Nat.le_of_ble_eq_true rfl, Nat.le_of_ble_eq_true rfl⟩ (Nat.le_of_ble_eq_true rfl) rfl rfl dX7_kept_7 (fun r2 w3 ⟨e_r2, e_w3⟩ => ?_)
  rw [e_w3, e_r2]
  refine mg_ifN_eq C (tgt := 15) dX7_kept_10 (by decide) (by decide) (fun c_10 => ?_) (fun c_10 => absurd c_10 (by decide))
  refine mg_iconst C (v := nI 0) dX7_kept_15 (by decide) ?_
  refine mg_istore C (lv' := [(4, .int (nI 0)), (0, .ref om), (1, .int (nI s)), (2, .int i), (3, .int pt)]) dX7_kept_16 (by decide) rfl ?_
  refine mg_aload_n C dX7_kept_18 rfl ?_
  refine mg_get C inT7 h_w1_om rfl 2 (by decide) kw_20 (Or.inl rfl) rfl dX7_kept_19 ?_
  refine mg_iload_n C dX7_kept_22 rfl ?_
  refine mg_ialdN C h_w1_aso (by omega) (by omega) dX7_kept_23 ?_
  rw [show lnF so s = nI 3 from congrArg nI hso]
  refine mg_tabIn C (tgt := 187) (off := 163) dX7_kept_24 (by decide) (by decide) rfl (by decide) ?_
  refine mg_iload_n C dX7_kept_187 rfl ?_
  refine mg_if_ne C (tgt := 201) dX7_kept_188 (by decide) (fun c_188 => ?_) (fun c_188 => ?_)
  · refine mg_iconst C (v := (-1 : Int32)) dX7_kept_201 (by decide) ?_
    refine mg_istore C (lv' := [(4, .int ((-1 : Int32))), (0, .ref om), (1, .int (nI s)), (2, .int i), (3, .int pt)]) dX7_kept_202 (by decide) rfl ?_
    refine mg_iload C dX7_kept_204 rfl ?_
    refine mg_if_ge C (tgt := 213) dX7_kept_206 (by decide) (fun c_206 => absurd c_206 (by decide)) (fun c_206 => ?_)
    refine mg_iconst C (v := (-1 : Int32)) dX7_kept_209 (by decide) ?_
    refine mg_goto C (tgt := 229) dX7_kept_210 (by decide) ?_
    exact hR _ _ _ _ dX7_kept_229 ⟨Or.inr ⟨rfl, fun q => c_188 q.2⟩, h_w1_om, fun z q0 => fr_w1 z q0⟩
  · refine mg_aload_n C dX7_kept_191 rfl ?_
    refine mg_iload_n C dX7_kept_192 rfl ?_
    refine mg_iconst C (v := nI 1) dX7_kept_193 (by decide) ?_
    refine mg_iload_n C dX7_kept_194 rfl ?_
    refine mg_callV_i C h_w1_om rfl (rest := []) (c_X7_nth D cI cS w1 om md aso asi ase ato amo alo aro asr (nI 0) ro s 1 h f i h_w1_om h_w1_aro hs8 (by decide) (by omega) hl.1 (fun m hm => by rw [Nat.one_mul]; exact hl.2 m hm)) yq_X7_nth kw_646 kw_647 kw_648 ⟨by decide, by decide⟩ ⟨Nat.le_of_ble_eq_true rfl, Nat.le_of_ble_eq_true rfl⟩ (Nat.le_of_ble_eq_true rfl) rfl rfl dX7_kept_195 (fun r4 w4 ⟨xa4, xk4⟩ => ?_)
    rw [xk4]
    rcases xa4 with ⟨kz, hkz, ra4, hbf⟩ | ⟨ra4, hbf⟩
    · rw [ra4]
      refine mg_goto C (tgt := 202) dX7_kept_198 (by decide) ?_
      refine mg_istore C (lv' := [(4, .int (nI kz)), (0, .ref om), (1, .int (nI s)), (2, .int i), (3, .int pt)]) dX7_kept_202 (by decide) rfl ?_
      refine mg_iload C dX7_kept_204 rfl ?_
      refine mg_ifN_ge C (tgt := 213) dX7_kept_206 (by decide) (by omega) ?_
      refine mg_aload_n C dX7_kept_213 rfl ?_
      refine mg_get C inT7 h_w1_om rfl 8 (by decide) kw_26 (Or.inl rfl) rfl dX7_kept_214 ?_
      refine mg_sipush C (v := nI 1200) dX7_kept_217 (by decide) ?_
      refine mg_iload_n C dX7_kept_220 rfl ?_
      refine mg_imul C (z := nI (1200 * s)) dX7_kept_221 (pk_mul _ _) ?_
      refine mg_bipush C (v := nI 100) dX7_kept_222 (by decide) ?_
      refine mg_iadd C (z := nI ((1200 * s) + 100)) dX7_kept_224 (nI_add _ _) ?_
      refine mg_iload C dX7_kept_225 rfl ?_
      refine mg_iadd C (z := nI (((1200 * s) + 100) + kz)) dX7_kept_227 (nI_add _ _) ?_
      refine mg_ialdN C h_w1_aro (by omega) (by omega) dX7_kept_228 ?_
      exact hR _ _ _ _ dX7_kept_229 ⟨Or.inl ⟨kz, hkz, hbf, c_188, hl.2 kz hkz⟩, h_w1_om, fun z q0 => fr_w1 z q0⟩
    · rw [ra4]
      refine mg_goto C (tgt := 202) dX7_kept_198 (by decide) ?_
      refine mg_istore C (lv' := [(4, .int ((-1 : Int32))), (0, .ref om), (1, .int (nI s)), (2, .int i), (3, .int pt)]) dX7_kept_202 (by decide) rfl ?_
      refine mg_iload C dX7_kept_204 rfl ?_
      refine mg_if_ge C (tgt := 213) dX7_kept_206 (by decide) (fun c_206 => absurd c_206 (by decide)) (fun c_206 => ?_)
      refine mg_iconst C (v := (-1 : Int32)) dX7_kept_209 (by decide) ?_
      refine mg_goto C (tgt := 229) dX7_kept_210 (by decide) ?_
      exact hR _ _ _ _ dX7_kept_229 ⟨Or.inr ⟨rfl, fun q => q.1.elim (fun j z => hbf j z.1 z.2)⟩, h_w1_om, fun z q0 => fr_w1 z q0⟩

set_option maxHeartbeats 4000000 in
set_option maxRecDepth 20000 in
theorem c_X7_low_R (D : va_G) (cI cS : ClassId) (w : mwT) (om md aso asi ase ato amo alo aro asr : Nat) (th : Int32) (so : Nat → Nat) (si : Nat → Nat) (se : Nat → Nat) (to : Nat → Int32) (mo : Nat → Nat) (lo : Nat → Int32) (ro : Nat → Int32) (s k sd mv : Nat) (tot er : Int32) (f : Nat → Int32) (ln tr : Nat → Nat) (x : Int32) (hom : w om = some (.inr (6, [.int th, .int (nI md), .ref aso, .ref asi, .ref ase, .ref ato, .ref amo, .ref alo, .ref aro, .ref asr]))) (h_aso : w aso = some (eI cI 8 (lnF so))) (h_asi : w asi = some (eI cI 8 (lnF si))) (h_ase : w ase = some (eI cI 8 (lnF se))) (h_ato : w ato = some (eI cI 8 to)) (h_amo : w amo = some (eI cI 8 (lnF mo))) (h_alo : w alo = some (eI cI 8 lo)) (h_aro : w aro = some (eI cI 9600 ro)) (hmd : md ≤ 8) (hs : s < md) (hsd : sd ≤ 999) (hso : so s = 4) (hsi : si s = k) (hse : se s = sd) (hto : to s = tot) (hmo : mo s = mv) (hk1 : 4 ≤ k) (hk2 : k ≤ 32) (hln : ∀ c, c < 31 → ln c < k) (hr : RkM ro s k (f, ln, tr, er)) (hlo : lo s = er) : mMi yX7_low cX7_low 4 (some .int) (rmL 8) [.ref om, .int (nI s), .int x] D cI cS w (fun r w1 => ((¬ rg 9999 x ∧ r = -1) ∨ (∃ xa : Nat, xa ≤ 9999 ∧ x = nI xa ∧ r = (if wO f ln k (nI xa) 31 - er < 0 then nI 0 else wO f ln k (nI xa) 31 - er))) ∧ w1 om = some (.inr (6, [.int (nI 0), .int (nI md), .ref aso, .ref asi, .ref ase, .ref ato, .ref amo, .ref alo, .ref aro, .ref asr])) ∧ ∀ z : Nat, z ≠ om → w1 z = w z) := by
  refine mMi.of (by decide) (Nat.le_of_ble_eq_true rfl) ?_
  intro X C hN hR
  have fr_w : ∀ zz : Nat, w zz = w zz := fun _ => rfl
  refine mg_sub (lv' := [(0, .ref om), (1, .int (nI s)), (2, .int x)]) [0, 1, 2] rfl ?_
  have hs8 : s < 8 := by omega
  refine mg_aload_n C dX7_low_0 rfl ?_
  refine mg_iconst C (v := nI 0) dX7_low_1 (by decide) ?_
  refine mg_put C (fs' := [.int (nI 0), .int (nI md), .ref aso, .ref asi, .ref ase, .ref ato, .ref amo, .ref alo, .ref aro, .ref asr]) inT7 hom rfl 0 (by decide) kw_28 (Or.inl rfl) tyX7_ok nmX7 rfl rfl rfl rfl (Nat.le_of_ble_eq_true rfl) dX7_low_2 (fun w1 e_w1 => ?_)
  have h_w1_om : w1 om = some (.inr (6, [.int (nI 0), .int (nI md), .ref aso, .ref asi, .ref ase, .ref ato, .ref amo, .ref alo, .ref aro, .ref asr])) := (congrFun e_w1 _).trans mwu_eq
  have h_w1_aso : w1 aso = some (eI cI 8 (lnF so)) := (congrFun e_w1 _).trans ((mwu_ne (mw_ao h_aso hom)).trans h_aso)
  have h_w1_asi : w1 asi = some (eI cI 8 (lnF si)) := (congrFun e_w1 _).trans ((mwu_ne (mw_ao h_asi hom)).trans h_asi)
  have h_w1_ase : w1 ase = some (eI cI 8 (lnF se)) := (congrFun e_w1 _).trans ((mwu_ne (mw_ao h_ase hom)).trans h_ase)
  have h_w1_ato : w1 ato = some (eI cI 8 to) := (congrFun e_w1 _).trans ((mwu_ne (mw_ao h_ato hom)).trans h_ato)
  have h_w1_amo : w1 amo = some (eI cI 8 (lnF mo)) := (congrFun e_w1 _).trans ((mwu_ne (mw_ao h_amo hom)).trans h_amo)
  have h_w1_alo : w1 alo = some (eI cI 8 lo) := (congrFun e_w1 _).trans ((mwu_ne (mw_ao h_alo hom)).trans h_alo)
  have h_w1_aro : w1 aro = some (eI cI 9600 ro) := (congrFun e_w1 _).trans ((mwu_ne (mw_ao h_aro hom)).trans h_aro)
  have fr_w1 : ∀ zz : Nat, zz ≠ om → w1 zz = w zz := fun zz g0 => (congrFun e_w1 zz).trans ((mwu_ne g0).trans (fr_w zz ))
  refine mg_aload_n C dX7_low_5 rfl ?_
  refine mg_iload_n C dX7_low_6 rfl ?_
  refine mg_iload_n C dX7_low_7 rfl ?_
  refine mg_aload_n C dX7_low_8 rfl ?_
  refine mg_iload_n C dX7_low_9 rfl ?_
  refine mg_iconst C (v := nI 0) dX7_low_10 (by decide) ?_
  refine mg_iconst C (v := nI 4) dX7_low_11 (by decide) ?_
  refine mg_callV_i C h_w1_om rfl (rest := [.int x, .int (nI s), .ref om]) (c_X7_isOf_b D cI cS w1 om md aso asi ase ato amo alo aro asr (nI 0) so s 4 0 4 h_w1_om h_w1_aso hmd hs hso (by decide) (by decide) (by decide) (by decide) rfl) yq_X7_isOf kw_463 kw_464 kw_465 ⟨by decide, by decide⟩ ⟨Nat.le_of_ble_eq_true rfl, Nat.le_of_ble_eq_true rfl⟩ (Nat.le_of_ble_eq_true rfl) rfl rfl dX7_low_12 (fun r2 w3 ⟨e_r2, e_w3⟩ => ?_)
  rw [e_w3, e_r2]
  refine mg_callV_i C h_w1_om rfl (rest := []) (c_X7_isBad_in D cI cS w1 om md aso asi ase ato amo alo aro asr (nI 0)  s x h_w1_om hmd hs) yq_X7_isBad kw_467 kw_468 kw_469 ⟨by decide, by decide⟩ ⟨Nat.le_of_ble_eq_true rfl, Nat.le_of_ble_eq_true rfl⟩ (Nat.le_of_ble_eq_true rfl) rfl rfl dX7_low_15 (fun r4 w4 ⟨xa4, xk4⟩ => ?_)
  rw [xk4]
  rcases xa4 with ⟨ra4, hy_bad⟩ | ⟨ra4, hy_bad⟩
  · rw [ra4]
    refine mg_ifN_eq C (tgt := 23) dX7_low_18 (by decide) (by decide) (fun c_18 => absurd c_18 (by decide)) (fun c_18 => ?_)
    refine mg_iconst C (v := (-1 : Int32)) dX7_low_21 (by decide) ?_
    exact hR _ _ _ _ dX7_low_22 ⟨Or.inl ⟨hy_bad, rfl⟩, h_w1_om, fun z q0 => fr_w1 z q0⟩
  · rw [ra4]
    obtain ⟨xa, hxa, rfl⟩ := hy_bad
    refine mg_ifN_eq C (tgt := 23) dX7_low_18 (by decide) (by decide) (fun c_18 => ?_) (fun c_18 => absurd c_18 (by decide))
    refine mg_aload_n C dX7_low_23 rfl ?_
    refine mg_get C inT7 h_w1_om rfl 2 (by decide) kw_20 (Or.inl rfl) rfl dX7_low_24 ?_
    refine mg_iload_n C dX7_low_27 rfl ?_
    refine mg_ialdN C h_w1_aso (by omega) (by omega) dX7_low_28 ?_
    rw [show lnF so s = nI 4 from congrArg nI hso]
    refine mg_ifN_ne C (tgt := 39) dX7_low_29 (by decide) (by decide) (fun c_29 => ?_) (fun c_29 => absurd c_29 (by decide))
    refine mg_aload_n C dX7_low_39 rfl ?_
    refine mg_iload_n C dX7_low_40 rfl ?_
    refine mg_iload_n C dX7_low_41 rfl ?_
    refine mg_callV_i C h_w1_om rfl (rest := []) (c_X7_weightTo D cI cS w1 om md aso asi ase ato amo alo aro asr (nI 0) ro s k f ln tr er (nI xa) h_w1_om h_w1_aro hs8 hk2 hln hr) yq_X7_weightTo kw_475 kw_476 kw_477 ⟨by decide, by decide⟩ ⟨Nat.le_of_ble_eq_true rfl, Nat.le_of_ble_eq_true rfl⟩ (Nat.le_of_ble_eq_true rfl) rfl rfl dX7_low_42 (fun r5 w6 ⟨e_r5, e_w6⟩ => ?_)
    rw [e_w6, e_r5]
    refine mg_aload_n C dX7_low_45 rfl ?_
    refine mg_get C inT7 h_w1_om rfl 7 (by decide) kw_25 (Or.inl rfl) rfl dX7_low_46 ?_
    refine mg_iload_n C dX7_low_49 rfl ?_
    refine mg_ialdN C h_w1_alo (by omega) (by omega) dX7_low_50 ?_
    rw [hlo]
    refine mg_isub C (z := (wO f ln k (nI xa) 31) - er) dX7_low_51 rfl ?_
    refine mg_istore_n C (lv' := [(3, .int ((wO f ln k (nI xa) 31) - er)), (0, .ref om), (1, .int (nI s)), (2, .int (nI xa))]) dX7_low_52 rfl (by decide) rfl ?_
    refine mg_iload_n C dX7_low_53 rfl ?_
    refine mg_if_ge C (tgt := 61) dX7_low_54 (by decide) (fun c_54 => ?_) (fun c_54 => ?_)
    · refine mg_iload_n C dX7_low_61 rfl ?_
      exact hR _ _ _ _ dX7_low_62 ⟨Or.inr ⟨xa, hxa, rfl, (if_neg (Int32.not_lt.mpr c_54)).symm⟩, h_w1_om, fun z q0 => fr_w1 z q0⟩
    · refine mg_iconst C (v := nI 0) dX7_low_57 (by decide) ?_
      refine mg_goto C (tgt := 62) dX7_low_58 (by decide) ?_
      exact hR _ _ _ _ dX7_low_62 ⟨Or.inr ⟨xa, hxa, rfl, (if_pos (Int32.not_le.mp c_54)).symm⟩, h_w1_om, fun z q0 => fr_w1 z q0⟩

set_option maxHeartbeats 4000000 in
set_option maxRecDepth 20000 in
theorem c_X7_high_R (D : va_G) (cI cS : ClassId) (w : mwT) (om md aso asi ase ato amo alo aro asr : Nat) (th : Int32) (so : Nat → Nat) (si : Nat → Nat) (se : Nat → Nat) (to : Nat → Int32) (mo : Nat → Nat) (lo : Nat → Int32) (ro : Nat → Int32) (s k sd mv : Nat) (tot er : Int32) (f : Nat → Int32) (ln tr : Nat → Nat) (x : Int32) (hom : w om = some (.inr (6, [.int th, .int (nI md), .ref aso, .ref asi, .ref ase, .ref ato, .ref amo, .ref alo, .ref aro, .ref asr]))) (h_aso : w aso = some (eI cI 8 (lnF so))) (h_asi : w asi = some (eI cI 8 (lnF si))) (h_ase : w ase = some (eI cI 8 (lnF se))) (h_ato : w ato = some (eI cI 8 to)) (h_amo : w amo = some (eI cI 8 (lnF mo))) (h_alo : w alo = some (eI cI 8 lo)) (h_aro : w aro = some (eI cI 9600 ro)) (hmd : md ≤ 8) (hs : s < md) (hsd : sd ≤ 999) (hso : so s = 4) (hsi : si s = k) (hse : se s = sd) (hto : to s = tot) (hmo : mo s = mv) (hk1 : 4 ≤ k) (hk2 : k ≤ 32) (hln : ∀ c, c < 31 → ln c < k) (hr : RkM ro s k (f, ln, tr, er)) (hlo : lo s = er) : mMi yX7_high cX7_high 5 (some .int) (rmL 8) [.ref om, .int (nI s), .int x] D cI cS w (fun r w1 => ((¬ rg 9999 x ∧ r = -1) ∨ (∃ xa : Nat, xa ≤ 9999 ∧ x = nI xa ∧ r = (if tot < wO f ln k (nI xa) 31 + er then tot else wO f ln k (nI xa) 31 + er))) ∧ w1 om = some (.inr (6, [.int (nI 0), .int (nI md), .ref aso, .ref asi, .ref ase, .ref ato, .ref amo, .ref alo, .ref aro, .ref asr])) ∧ ∀ z : Nat, z ≠ om → w1 z = w z) := by
  refine mMi.of (by decide) (Nat.le_of_ble_eq_true rfl) ?_
  intro X C hN hR
  have fr_w : ∀ zz : Nat, w zz = w zz := fun _ => rfl
  refine mg_sub (lv' := [(0, .ref om), (1, .int (nI s)), (2, .int x)]) [0, 1, 2] rfl ?_
  have hs8 : s < 8 := by omega
  refine mg_aload_n C dX7_high_0 rfl ?_
  refine mg_iconst C (v := nI 0) dX7_high_1 (by decide) ?_
  refine mg_put C (fs' := [.int (nI 0), .int (nI md), .ref aso, .ref asi, .ref ase, .ref ato, .ref amo, .ref alo, .ref aro, .ref asr]) inT7 hom rfl 0 (by decide) kw_28 (Or.inl rfl) tyX7_ok nmX7 rfl rfl rfl rfl (Nat.le_of_ble_eq_true rfl) dX7_high_2 (fun w1 e_w1 => ?_)
  have h_w1_om : w1 om = some (.inr (6, [.int (nI 0), .int (nI md), .ref aso, .ref asi, .ref ase, .ref ato, .ref amo, .ref alo, .ref aro, .ref asr])) := (congrFun e_w1 _).trans mwu_eq
  have h_w1_aso : w1 aso = some (eI cI 8 (lnF so)) := (congrFun e_w1 _).trans ((mwu_ne (mw_ao h_aso hom)).trans h_aso)
  have h_w1_asi : w1 asi = some (eI cI 8 (lnF si)) := (congrFun e_w1 _).trans ((mwu_ne (mw_ao h_asi hom)).trans h_asi)
  have h_w1_ase : w1 ase = some (eI cI 8 (lnF se)) := (congrFun e_w1 _).trans ((mwu_ne (mw_ao h_ase hom)).trans h_ase)
  have h_w1_ato : w1 ato = some (eI cI 8 to) := (congrFun e_w1 _).trans ((mwu_ne (mw_ao h_ato hom)).trans h_ato)
  have h_w1_amo : w1 amo = some (eI cI 8 (lnF mo)) := (congrFun e_w1 _).trans ((mwu_ne (mw_ao h_amo hom)).trans h_amo)
  have h_w1_alo : w1 alo = some (eI cI 8 lo) := (congrFun e_w1 _).trans ((mwu_ne (mw_ao h_alo hom)).trans h_alo)
  have h_w1_aro : w1 aro = some (eI cI 9600 ro) := (congrFun e_w1 _).trans ((mwu_ne (mw_ao h_aro hom)).trans h_aro)
  have fr_w1 : ∀ zz : Nat, zz ≠ om → w1 zz = w zz := fun zz g0 => (congrFun e_w1 zz).trans ((mwu_ne g0).trans (fr_w zz ))
  refine mg_aload_n C dX7_high_5 rfl ?_
  refine mg_iload_n C dX7_high_6 rfl ?_
  refine mg_iload_n C dX7_high_7 rfl ?_
  refine mg_aload_n C dX7_high_8 rfl ?_
  refine mg_iload_n C dX7_high_9 rfl ?_
  refine mg_iconst C (v := nI 0) dX7_high_10 (by decide) ?_
  refine mg_iconst C (v := nI 4) dX7_high_11 (by decide) ?_
  refine mg_callV_i C h_w1_om rfl (rest := [.int x, .int (nI s), .ref om]) (c_X7_isOf_b D cI cS w1 om md aso asi ase ato amo alo aro asr (nI 0) so s 4 0 4 h_w1_om h_w1_aso hmd hs hso (by decide) (by decide) (by decide) (by decide) rfl) yq_X7_isOf kw_463 kw_464 kw_465 ⟨by decide, by decide⟩ ⟨Nat.le_of_ble_eq_true rfl, Nat.le_of_ble_eq_true rfl⟩ (Nat.le_of_ble_eq_true rfl) rfl rfl dX7_high_12 (fun r2 w3 ⟨e_r2, e_w3⟩ => ?_)
  rw [e_w3, e_r2]
  refine mg_ifN_ne C (tgt := 28) dX7_high_15 (by decide) (by decide) (fun c_15 => ?_) (fun c_15 => absurd c_15 (by decide))
  refine mg_iconst C (v := nI 1) dX7_high_28 (by decide) ?_
  refine mg_goto C (tgt := 33) dX7_high_29 (by decide) ?_
  refine mg_callV_i C h_w1_om rfl (rest := []) (c_X7_isBad_in D cI cS w1 om md aso asi ase ato amo alo aro asr (nI 0)  s x h_w1_om hmd hs) yq_X7_isBad kw_467 kw_468 kw_469 ⟨by decide, by decide⟩ ⟨Nat.le_of_ble_eq_true rfl, Nat.le_of_ble_eq_true rfl⟩ (Nat.le_of_ble_eq_true rfl) rfl rfl dX7_high_33 (fun r4 w4 ⟨xa4, xk4⟩ => ?_)
  rw [xk4]
  rcases xa4 with ⟨ra4, hy_bad⟩ | ⟨ra4, hy_bad⟩
  · rw [ra4]
    refine mg_ifN_eq C (tgt := 41) dX7_high_36 (by decide) (by decide) (fun c_36 => absurd c_36 (by decide)) (fun c_36 => ?_)
    refine mg_iconst C (v := (-1 : Int32)) dX7_high_39 (by decide) ?_
    exact hR _ _ _ _ dX7_high_40 ⟨Or.inl ⟨hy_bad, rfl⟩, h_w1_om, fun z q0 => fr_w1 z q0⟩
  · rw [ra4]
    obtain ⟨xa, hxa, rfl⟩ := hy_bad
    refine mg_ifN_eq C (tgt := 41) dX7_high_36 (by decide) (by decide) (fun c_36 => ?_) (fun c_36 => absurd c_36 (by decide))
    refine mg_aload_n C dX7_high_41 rfl ?_
    refine mg_get C inT7 h_w1_om rfl 2 (by decide) kw_20 (Or.inl rfl) rfl dX7_high_42 ?_
    refine mg_iload_n C dX7_high_45 rfl ?_
    refine mg_ialdN C h_w1_aso (by omega) (by omega) dX7_high_46 ?_
    rw [show lnF so s = nI 4 from congrArg nI hso]
    refine mg_ifN_ne C (tgt := 64) dX7_high_47 (by decide) (by decide) (fun c_47 => ?_) (fun c_47 => absurd c_47 (by decide))
    refine mg_aload_n C dX7_high_64 rfl ?_
    refine mg_get C inT7 h_w1_om rfl 2 (by decide) kw_20 (Or.inl rfl) rfl dX7_high_65 ?_
    refine mg_iload_n C dX7_high_68 rfl ?_
    refine mg_ialdN C h_w1_aso (by omega) (by omega) dX7_high_69 ?_
    rw [show lnF so s = nI 4 from congrArg nI hso]
    refine mg_iconst C (v := nI 4) dX7_high_70 (by decide) ?_
    refine mg_icmpN_ne C (tgt := 109) dX7_high_71 (by decide) (by omega) (by omega) (fun c_71 => absurd c_71 (by decide)) (fun c_71 => ?_)
    refine mg_aload_n C dX7_high_74 rfl ?_
    refine mg_iload_n C dX7_high_75 rfl ?_
    refine mg_iload_n C dX7_high_76 rfl ?_
    refine mg_callV_i C h_w1_om rfl (rest := []) (c_X7_weightTo D cI cS w1 om md aso asi ase ato amo alo aro asr (nI 0) ro s k f ln tr er (nI xa) h_w1_om h_w1_aro hs8 hk2 hln hr) yq_X7_weightTo kw_475 kw_476 kw_477 ⟨by decide, by decide⟩ ⟨Nat.le_of_ble_eq_true rfl, Nat.le_of_ble_eq_true rfl⟩ (Nat.le_of_ble_eq_true rfl) rfl rfl dX7_high_77 (fun r5 w6 ⟨e_r5, e_w6⟩ => ?_)
    rw [e_w6, e_r5]
    refine mg_aload_n C dX7_high_80 rfl ?_
    refine mg_get C inT7 h_w1_om rfl 7 (by decide) kw_25 (Or.inl rfl) rfl dX7_high_81 ?_
    refine mg_iload_n C dX7_high_84 rfl ?_
    refine mg_ialdN C h_w1_alo (by omega) (by omega) dX7_high_85 ?_
    rw [hlo]
    refine mg_iadd C (z := (wO f ln k (nI xa) 31) + er) dX7_high_86 rfl ?_
    refine mg_istore_n C (lv' := [(3, .int ((wO f ln k (nI xa) 31) + er)), (0, .ref om), (1, .int (nI s)), (2, .int (nI xa))]) dX7_high_87 rfl (by decide) rfl ?_
    refine mg_iload_n C dX7_high_88 rfl ?_
    refine mg_aload_n C dX7_high_89 rfl ?_
    refine mg_get C inT7 h_w1_om rfl 5 (by decide) kw_23 (Or.inl rfl) rfl dX7_high_90 ?_
    refine mg_iload_n C dX7_high_93 rfl ?_
    refine mg_ialdN C h_w1_ato (by omega) (by omega) dX7_high_94 ?_
    rw [hto]
    refine mg_icmp_le C (tgt := 107) dX7_high_95 (by decide) (fun c_95 => ?_) (fun c_95 => ?_)
    · refine mg_iload_n C dX7_high_107 rfl ?_
      exact hR _ _ _ _ dX7_high_108 ⟨Or.inr ⟨xa, hxa, rfl, (if_neg (Int32.not_lt.mpr c_95)).symm⟩, h_w1_om, fun z q0 => fr_w1 z q0⟩
    · refine mg_aload_n C dX7_high_98 rfl ?_
      refine mg_get C inT7 h_w1_om rfl 5 (by decide) kw_23 (Or.inl rfl) rfl dX7_high_99 ?_
      refine mg_iload_n C dX7_high_102 rfl ?_
      refine mg_ialdN C h_w1_ato (by omega) (by omega) dX7_high_103 ?_
      rw [hto]
      refine mg_goto C (tgt := 108) dX7_high_104 (by decide) ?_
      exact hR _ _ _ _ dX7_high_108 ⟨Or.inr ⟨xa, hxa, rfl, (if_pos (Int32.not_le.mp c_95)).symm⟩, h_w1_om, fun z q0 => fr_w1 z q0⟩

set_option maxHeartbeats 4000000 in
set_option maxRecDepth 20000 in
theorem c_X7_has_R (D : va_G) (cI cS : ClassId) (w : mwT) (om md aso asi ase ato amo alo aro asr : Nat) (th : Int32) (so : Nat → Nat) (si : Nat → Nat) (se : Nat → Nat) (to : Nat → Int32) (mo : Nat → Nat) (lo : Nat → Int32) (ro : Nat → Int32) (s k sd mv : Nat) (tot er : Int32) (f : Nat → Int32) (ln tr : Nat → Nat) (x : Int32) (hom : w om = some (.inr (6, [.int th, .int (nI md), .ref aso, .ref asi, .ref ase, .ref ato, .ref amo, .ref alo, .ref aro, .ref asr]))) (h_aso : w aso = some (eI cI 8 (lnF so))) (h_asi : w asi = some (eI cI 8 (lnF si))) (h_ase : w ase = some (eI cI 8 (lnF se))) (h_ato : w ato = some (eI cI 8 to)) (h_amo : w amo = some (eI cI 8 (lnF mo))) (h_alo : w alo = some (eI cI 8 lo)) (h_aro : w aro = some (eI cI 9600 ro)) (hmd : md ≤ 8) (hs : s < md) (hsd : sd ≤ 999) (hso : so s = 4) (hsi : si s = k) (hse : se s = sd) (hto : to s = tot) (hmo : mo s = mv) (hk1 : 4 ≤ k) (hk2 : k ≤ 32) (hln : ∀ c, c < 31 → ln c < k) (hr : RkM ro s k (f, ln, tr, er)) (hlo : lo s = er) : mMi yX7_has cX7_has 6 (some .int) (rmL 8) [.ref om, .int (nI s), .int x] D cI cS w (fun r w1 => (r = -1) ∧ w1 om = some (.inr (6, [.int (nI 0), .int (nI md), .ref aso, .ref asi, .ref ase, .ref ato, .ref amo, .ref alo, .ref aro, .ref asr])) ∧ ∀ z : Nat, z ≠ om → w1 z = w z) := by
  refine mMi.of (by decide) (Nat.le_of_ble_eq_true rfl) ?_
  intro X C hN hR
  have fr_w : ∀ zz : Nat, w zz = w zz := fun _ => rfl
  refine mg_sub (lv' := [(0, .ref om), (1, .int (nI s)), (2, .int x)]) [0, 1, 2] rfl ?_
  have hs8 : s < 8 := by omega
  refine mg_aload_n C dX7_has_0 rfl ?_
  refine mg_iconst C (v := nI 0) dX7_has_1 (by decide) ?_
  refine mg_put C (fs' := [.int (nI 0), .int (nI md), .ref aso, .ref asi, .ref ase, .ref ato, .ref amo, .ref alo, .ref aro, .ref asr]) inT7 hom rfl 0 (by decide) kw_28 (Or.inl rfl) tyX7_ok nmX7 rfl rfl rfl rfl (Nat.le_of_ble_eq_true rfl) dX7_has_2 (fun w1 e_w1 => ?_)
  have h_w1_om : w1 om = some (.inr (6, [.int (nI 0), .int (nI md), .ref aso, .ref asi, .ref ase, .ref ato, .ref amo, .ref alo, .ref aro, .ref asr])) := (congrFun e_w1 _).trans mwu_eq
  have h_w1_aso : w1 aso = some (eI cI 8 (lnF so)) := (congrFun e_w1 _).trans ((mwu_ne (mw_ao h_aso hom)).trans h_aso)
  have h_w1_asi : w1 asi = some (eI cI 8 (lnF si)) := (congrFun e_w1 _).trans ((mwu_ne (mw_ao h_asi hom)).trans h_asi)
  have h_w1_ase : w1 ase = some (eI cI 8 (lnF se)) := (congrFun e_w1 _).trans ((mwu_ne (mw_ao h_ase hom)).trans h_ase)
  have h_w1_ato : w1 ato = some (eI cI 8 to) := (congrFun e_w1 _).trans ((mwu_ne (mw_ao h_ato hom)).trans h_ato)
  have h_w1_amo : w1 amo = some (eI cI 8 (lnF mo)) := (congrFun e_w1 _).trans ((mwu_ne (mw_ao h_amo hom)).trans h_amo)
  have h_w1_alo : w1 alo = some (eI cI 8 lo) := (congrFun e_w1 _).trans ((mwu_ne (mw_ao h_alo hom)).trans h_alo)
  have h_w1_aro : w1 aro = some (eI cI 9600 ro) := (congrFun e_w1 _).trans ((mwu_ne (mw_ao h_aro hom)).trans h_aro)
  have fr_w1 : ∀ zz : Nat, zz ≠ om → w1 zz = w zz := fun zz g0 => (congrFun e_w1 zz).trans ((mwu_ne g0).trans (fr_w zz ))
  refine mg_aload_n C dX7_has_5 rfl ?_
  refine mg_iload_n C dX7_has_6 rfl ?_
  refine mg_iload_n C dX7_has_7 rfl ?_
  refine mg_aload_n C dX7_has_8 rfl ?_
  refine mg_iload_n C dX7_has_9 rfl ?_
  refine mg_iconst C (v := nI 2) dX7_has_10 (by decide) ?_
  refine mg_iconst C (v := nI 3) dX7_has_11 (by decide) ?_
  refine mg_callV_i C h_w1_om rfl (rest := [.int x, .int (nI s), .ref om]) (c_X7_isOf_n D cI cS w1 om md aso asi ase ato amo alo aro asr (nI 0) so s 4 2 3 h_w1_om h_w1_aso hmd hs hso (by decide) (by decide) (by decide) (by decide) (by decide)) yq_X7_isOf kw_463 kw_464 kw_465 ⟨by decide, by decide⟩ ⟨Nat.le_of_ble_eq_true rfl, Nat.le_of_ble_eq_true rfl⟩ (Nat.le_of_ble_eq_true rfl) rfl rfl dX7_has_12 (fun r2 w3 ⟨e_r2, e_w3⟩ => ?_)
  rw [e_w3, e_r2]
  refine mg_callV_i C h_w1_om rfl (rest := []) (c_X7_isBad_ns D cI cS w1 om md aso asi ase ato amo alo aro asr (nI 0)  s x h_w1_om hmd hs) yq_X7_isBad kw_467 kw_468 kw_469 ⟨by decide, by decide⟩ ⟨Nat.le_of_ble_eq_true rfl, Nat.le_of_ble_eq_true rfl⟩ (Nat.le_of_ble_eq_true rfl) rfl rfl dX7_has_15 (fun r4 w5 ⟨e_r4, e_w5⟩ => ?_)
  rw [e_w5, e_r4]
  refine mg_ifN_eq C (tgt := 23) dX7_has_18 (by decide) (by decide) (fun c_18 => absurd c_18 (by decide)) (fun c_18 => ?_)
  refine mg_iconst C (v := (-1 : Int32)) dX7_has_21 (by decide) ?_
  exact hR _ _ _ _ dX7_has_22 ⟨rfl, h_w1_om, fun z q0 => fr_w1 z q0⟩

set_option maxHeartbeats 4000000 in
set_option maxRecDepth 20000 in
theorem c_X7_distinct_R (D : va_G) (cI cS : ClassId) (w : mwT) (om md aso asi ase ato amo alo aro asr : Nat) (th : Int32) (so : Nat → Nat) (si : Nat → Nat) (se : Nat → Nat) (to : Nat → Int32) (mo : Nat → Nat) (lo : Nat → Int32) (ro : Nat → Int32) (s k sd mv : Nat) (tot er : Int32) (f : Nat → Int32) (ln tr : Nat → Nat) (hom : w om = some (.inr (6, [.int th, .int (nI md), .ref aso, .ref asi, .ref ase, .ref ato, .ref amo, .ref alo, .ref aro, .ref asr]))) (h_aso : w aso = some (eI cI 8 (lnF so))) (h_asi : w asi = some (eI cI 8 (lnF si))) (h_ase : w ase = some (eI cI 8 (lnF se))) (h_ato : w ato = some (eI cI 8 to)) (h_amo : w amo = some (eI cI 8 (lnF mo))) (h_alo : w alo = some (eI cI 8 lo)) (h_aro : w aro = some (eI cI 9600 ro)) (hmd : md ≤ 8) (hs : s < md) (hsd : sd ≤ 999) (hso : so s = 4) (hsi : si s = k) (hse : se s = sd) (hto : to s = tot) (hmo : mo s = mv) (hk1 : 4 ≤ k) (hk2 : k ≤ 32) (hln : ∀ c, c < 31 → ln c < k) (hr : RkM ro s k (f, ln, tr, er)) (hlo : lo s = er) : mMi yX7_distinct cX7_distinct 4 (some .int) (rmL 8) [.ref om, .int (nI s)] D cI cS w (fun r w1 => (r = -1) ∧ w1 om = some (.inr (6, [.int (nI 0), .int (nI md), .ref aso, .ref asi, .ref ase, .ref ato, .ref amo, .ref alo, .ref aro, .ref asr])) ∧ ∀ z : Nat, z ≠ om → w1 z = w z) := by
  refine mMi.of (by decide) (Nat.le_of_ble_eq_true rfl) ?_
  intro X C hN hR
  have fr_w : ∀ zz : Nat, w zz = w zz := fun _ => rfl
  refine mg_sub (lv' := [(0, .ref om), (1, .int (nI s))]) [0, 1] rfl ?_
  have hs8 : s < 8 := by omega
  refine mg_aload_n C dX7_distinct_0 rfl ?_
  refine mg_iconst C (v := nI 0) dX7_distinct_1 (by decide) ?_
  refine mg_put C (fs' := [.int (nI 0), .int (nI md), .ref aso, .ref asi, .ref ase, .ref ato, .ref amo, .ref alo, .ref aro, .ref asr]) inT7 hom rfl 0 (by decide) kw_28 (Or.inl rfl) tyX7_ok nmX7 rfl rfl rfl rfl (Nat.le_of_ble_eq_true rfl) dX7_distinct_2 (fun w1 e_w1 => ?_)
  have h_w1_om : w1 om = some (.inr (6, [.int (nI 0), .int (nI md), .ref aso, .ref asi, .ref ase, .ref ato, .ref amo, .ref alo, .ref aro, .ref asr])) := (congrFun e_w1 _).trans mwu_eq
  have h_w1_aso : w1 aso = some (eI cI 8 (lnF so)) := (congrFun e_w1 _).trans ((mwu_ne (mw_ao h_aso hom)).trans h_aso)
  have h_w1_asi : w1 asi = some (eI cI 8 (lnF si)) := (congrFun e_w1 _).trans ((mwu_ne (mw_ao h_asi hom)).trans h_asi)
  have h_w1_ase : w1 ase = some (eI cI 8 (lnF se)) := (congrFun e_w1 _).trans ((mwu_ne (mw_ao h_ase hom)).trans h_ase)
  have h_w1_ato : w1 ato = some (eI cI 8 to) := (congrFun e_w1 _).trans ((mwu_ne (mw_ao h_ato hom)).trans h_ato)
  have h_w1_amo : w1 amo = some (eI cI 8 (lnF mo)) := (congrFun e_w1 _).trans ((mwu_ne (mw_ao h_amo hom)).trans h_amo)
  have h_w1_alo : w1 alo = some (eI cI 8 lo) := (congrFun e_w1 _).trans ((mwu_ne (mw_ao h_alo hom)).trans h_alo)
  have h_w1_aro : w1 aro = some (eI cI 9600 ro) := (congrFun e_w1 _).trans ((mwu_ne (mw_ao h_aro hom)).trans h_aro)
  have fr_w1 : ∀ zz : Nat, zz ≠ om → w1 zz = w zz := fun zz g0 => (congrFun e_w1 zz).trans ((mwu_ne g0).trans (fr_w zz ))
  refine mg_aload_n C dX7_distinct_5 rfl ?_
  refine mg_iload_n C dX7_distinct_6 rfl ?_
  refine mg_iconst C (v := nI 3) dX7_distinct_7 (by decide) ?_
  refine mg_iconst C (v := nI 3) dX7_distinct_8 (by decide) ?_
  refine mg_callV_i C h_w1_om rfl (rest := []) (c_X7_isOf_n D cI cS w1 om md aso asi ase ato amo alo aro asr (nI 0) so s 4 3 3 h_w1_om h_w1_aso hmd hs hso (by decide) (by decide) (by decide) (by decide) (by decide)) yq_X7_isOf kw_463 kw_464 kw_465 ⟨by decide, by decide⟩ ⟨Nat.le_of_ble_eq_true rfl, Nat.le_of_ble_eq_true rfl⟩ (Nat.le_of_ble_eq_true rfl) rfl rfl dX7_distinct_9 (fun r2 w3 ⟨e_r2, e_w3⟩ => ?_)
  rw [e_w3, e_r2]
  refine mg_ifN_ne C (tgt := 17) dX7_distinct_12 (by decide) (by decide) (fun c_12 => absurd c_12 (by decide)) (fun c_12 => ?_)
  refine mg_iconst C (v := (-1 : Int32)) dX7_distinct_15 (by decide) ?_
  exact hR _ _ _ _ dX7_distinct_16 ⟨rfl, h_w1_om, fun z q0 => fr_w1 z q0⟩

set_option maxHeartbeats 4000000 in
set_option maxRecDepth 20000 in
theorem c_X7_quantile_R (D : va_G) (cI cS : ClassId) (w : mwT) (om md aso asi ase ato amo alo aro asr : Nat) (th : Int32) (so : Nat → Nat) (si : Nat → Nat) (se : Nat → Nat) (to : Nat → Int32) (mo : Nat → Nat) (lo : Nat → Int32) (ro : Nat → Int32) (s k sd mv : Nat) (tot er : Int32) (f : Nat → Int32) (ln tr : Nat → Nat) (q : Int32) (hom : w om = some (.inr (6, [.int th, .int (nI md), .ref aso, .ref asi, .ref ase, .ref ato, .ref amo, .ref alo, .ref aro, .ref asr]))) (h_aso : w aso = some (eI cI 8 (lnF so))) (h_asi : w asi = some (eI cI 8 (lnF si))) (h_ase : w ase = some (eI cI 8 (lnF se))) (h_ato : w ato = some (eI cI 8 to)) (h_amo : w amo = some (eI cI 8 (lnF mo))) (h_alo : w alo = some (eI cI 8 lo)) (h_aro : w aro = some (eI cI 9600 ro)) (hmd : md ≤ 8) (hs : s < md) (hsd : sd ≤ 999) (hso : so s = 4) (hsi : si s = k) (hse : se s = sd) (hto : to s = tot) (hmo : mo s = mv) (hk1 : 4 ≤ k) (hk2 : k ≤ 32) (hln : ∀ c, c < 31 → ln c < k) (hr : RkM ro s k (f, ln, tr, er)) (hlo : lo s = er) : mMi yX7_quantile cX7_quantile 6 (some .int) (rmL 8) [.ref om, .int (nI s), .int q] D cI cS w (fun r w1 => ((r = -1 ∧ (q < nI 1 ∨ ¬ q ≤ tot)) ∨ (¬ q < nI 1 ∧ q ≤ tot ∧ r = nI (bsR (fun m => wO f ln k (nI m) 31) q 14 0 9999))) ∧ w1 om = some (.inr (6, [.int (nI 0), .int (nI md), .ref aso, .ref asi, .ref ase, .ref ato, .ref amo, .ref alo, .ref aro, .ref asr])) ∧ ∀ z : Nat, z ≠ om → w1 z = w z) := by
  refine mMi.of (by decide) (Nat.le_of_ble_eq_true rfl) ?_
  intro X C hN hR
  have fr_w : ∀ zz : Nat, w zz = w zz := fun _ => rfl
  refine mg_sub (lv' := [(0, .ref om), (1, .int (nI s)), (2, .int q)]) [0, 1, 2] rfl ?_
  have hs8 : s < 8 := by omega
  refine mg_aload_n C dX7_quantile_0 rfl ?_
  refine mg_iconst C (v := nI 0) dX7_quantile_1 (by decide) ?_
  refine mg_put C (fs' := [.int (nI 0), .int (nI md), .ref aso, .ref asi, .ref ase, .ref ato, .ref amo, .ref alo, .ref aro, .ref asr]) inT7 hom rfl 0 (by decide) kw_28 (Or.inl rfl) tyX7_ok nmX7 rfl rfl rfl rfl (Nat.le_of_ble_eq_true rfl) dX7_quantile_2 (fun w1 e_w1 => ?_)
  have h_w1_om : w1 om = some (.inr (6, [.int (nI 0), .int (nI md), .ref aso, .ref asi, .ref ase, .ref ato, .ref amo, .ref alo, .ref aro, .ref asr])) := (congrFun e_w1 _).trans mwu_eq
  have h_w1_aso : w1 aso = some (eI cI 8 (lnF so)) := (congrFun e_w1 _).trans ((mwu_ne (mw_ao h_aso hom)).trans h_aso)
  have h_w1_asi : w1 asi = some (eI cI 8 (lnF si)) := (congrFun e_w1 _).trans ((mwu_ne (mw_ao h_asi hom)).trans h_asi)
  have h_w1_ase : w1 ase = some (eI cI 8 (lnF se)) := (congrFun e_w1 _).trans ((mwu_ne (mw_ao h_ase hom)).trans h_ase)
  have h_w1_ato : w1 ato = some (eI cI 8 to) := (congrFun e_w1 _).trans ((mwu_ne (mw_ao h_ato hom)).trans h_ato)
  have h_w1_amo : w1 amo = some (eI cI 8 (lnF mo)) := (congrFun e_w1 _).trans ((mwu_ne (mw_ao h_amo hom)).trans h_amo)
  have h_w1_alo : w1 alo = some (eI cI 8 lo) := (congrFun e_w1 _).trans ((mwu_ne (mw_ao h_alo hom)).trans h_alo)
  have h_w1_aro : w1 aro = some (eI cI 9600 ro) := (congrFun e_w1 _).trans ((mwu_ne (mw_ao h_aro hom)).trans h_aro)
  have fr_w1 : ∀ zz : Nat, zz ≠ om → w1 zz = w zz := fun zz g0 => (congrFun e_w1 zz).trans ((mwu_ne g0).trans (fr_w zz ))
  refine mg_aload_n C dX7_quantile_5 rfl ?_
  refine mg_iload_n C dX7_quantile_6 rfl ?_
  refine mg_iconst C (v := nI 4) dX7_quantile_7 (by decide) ?_
  refine mg_iconst C (v := nI 4) dX7_quantile_8 (by decide) ?_
  refine mg_callV_i C h_w1_om rfl (rest := []) (c_X7_isOf_a D cI cS w1 om md aso asi ase ato amo alo aro asr (nI 0) so s 4 4 4 h_w1_om h_w1_aso hmd hs hso (by decide) (by decide) (by decide) rfl) yq_X7_isOf kw_463 kw_464 kw_465 ⟨by decide, by decide⟩ ⟨Nat.le_of_ble_eq_true rfl, Nat.le_of_ble_eq_true rfl⟩ (Nat.le_of_ble_eq_true rfl) rfl rfl dX7_quantile_9 (fun r2 w3 ⟨e_r2, e_w3⟩ => ?_)
  rw [e_w3, e_r2]
  refine mg_ifN_eq C (tgt := 29) dX7_quantile_12 (by decide) (by decide) (fun c_12 => absurd c_12 (by decide)) (fun c_12 => ?_)
  refine mg_iload_n C dX7_quantile_15 rfl ?_
  refine mg_iconst C (v := nI 1) dX7_quantile_16 (by decide) ?_
  refine mg_aload_n C dX7_quantile_17 rfl ?_
  refine mg_get C inT7 h_w1_om rfl 5 (by decide) kw_23 (Or.inl rfl) rfl dX7_quantile_18 ?_
  refine mg_iload_n C dX7_quantile_21 rfl ?_
  refine mg_ialdN C h_w1_ato (by omega) (by omega) dX7_quantile_22 ?_
  rw [hto]
  refine mg_callS_i C (rest := []) (c_X7_in D cI cS w1 q (nI 1) tot) yq_X7_in kw_112 kw_113 ⟨by decide, by decide⟩ ⟨Nat.le_of_ble_eq_true rfl, Nat.le_of_ble_eq_true rfl⟩ (Nat.le_of_ble_eq_true rfl) rfl rfl dX7_quantile_23 (fun r4 w4 ⟨xa4, xk4⟩ => ?_)
  rw [xk4]
  rcases xa4 with ⟨ra4, hy_q⟩ | ⟨ra4, hy_q⟩
  · rw [ra4]
    refine mg_ifN_ne C (tgt := 31) dX7_quantile_26 (by decide) (by decide) (fun c_26 => ?_) (fun c_26 => absurd c_26 (by decide))
    refine mg_iconst C (v := nI 0) dX7_quantile_31 (by decide) ?_
    refine mg_istore_n C (lv' := [(3, .int (nI 0)), (0, .ref om), (1, .int (nI s)), (2, .int q)]) dX7_quantile_32 rfl (by decide) rfl ?_
    refine mg_sipush C (v := nI 9999) dX7_quantile_33 (by decide) ?_
    refine mg_istore C (lv' := [(4, .int (nI 9999)), (3, .int (nI 0)), (0, .ref om), (1, .int (nI s)), (2, .int q)]) dX7_quantile_36 (by decide) rfl ?_
    have L38 : ∀ (M38 : Nat) (nz : Nat) (lz : Nat) (hz : Nat), hz - lz < M38 → (hz - lz < 2 ^ nz) → (lz ≤ 10000) → (hz ≤ 9999) → (bsR (fun m => wO f ln k (nI m) 31) q nz lz hz = bsR (fun m => wO f ln k (nI m) 31) q 14 0 9999) → mwG X 0 0 w1 [(0, .ref om), (1, .int (nI s)), (2, .int q), (3, .int (nI lz)), (4, .int (nI hz))] [] 38 := by
      intro M38
      induction M38 with
      | zero => intro nz lz hz hm38; exact absurd hm38 (Nat.not_lt_zero _)
      | succ M38 ih38 =>
        intro nz lz hz hm38 hfu hlz hhz hbs
        refine mg_iload_n C dX7_quantile_38 rfl ?_
        refine mg_iload C dX7_quantile_39 rfl ?_
        refine mg_icmpN_ge C (tgt := 78) dX7_quantile_41 (by decide) (by omega) (by omega) (fun c_41 => ?_) (fun c_41 => ?_)
        · refine mg_iload_n C dX7_quantile_78 rfl ?_
          have er2 : lz = bsR (fun m => wO f ln k (nI m) 31) q 14 0 9999 := by
            rw [← hbs]
            cases nz with
            | zero => rfl
            | succ n1 => exact (if_neg (Nat.not_lt.mpr c_41)).symm
          exact hR _ _ _ _ dX7_quantile_79 ⟨Or.inr ⟨Int32.not_lt.mpr hy_q.1, hy_q.2, congrArg nI er2⟩, h_w1_om, fun z q0 => fr_w1 z q0⟩
        · obtain ⟨n1, rfl⟩ : ∃ n1, nz = n1 + 1 := by
            cases nz with
            | zero => rw [Nat.pow_zero] at hfu; omega
            | succ n1 => exact ⟨n1, rfl⟩
          rw [Nat.pow_succ] at hfu
          refine mg_iload_n C dX7_quantile_44 rfl ?_
          refine mg_iload C dX7_quantile_45 rfl ?_
          refine mg_iadd C (z := nI (lz + hz)) dX7_quantile_47 (nI_add _ _) ?_
          refine mg_iconst C (v := nI 2) dX7_quantile_48 (by decide) ?_
          refine mg_idiv C (z := nI ((lz + hz) / 2)) dX7_quantile_49 (nI_ne0 (by omega) (by omega)) (pk_div (by omega) (by omega) (by omega)) ?_
          refine mg_istore C (lv' := [(5, .int (nI ((lz + hz) / 2))), (0, .ref om), (1, .int (nI s)), (2, .int q), (3, .int (nI lz)), (4, .int (nI hz))]) dX7_quantile_50 (by decide) rfl ?_
          refine mg_aload_n C dX7_quantile_52 rfl ?_
          refine mg_iload_n C dX7_quantile_53 rfl ?_
          refine mg_iload C dX7_quantile_54 rfl ?_
          refine mg_callV_i C h_w1_om rfl (rest := []) (c_X7_weightTo D cI cS w1 om md aso asi ase ato amo alo aro asr (nI 0) ro s k f ln tr er (nI ((lz + hz) / 2)) h_w1_om h_w1_aro hs8 hk2 hln hr) yq_X7_weightTo kw_475 kw_476 kw_477 ⟨by decide, by decide⟩ ⟨Nat.le_of_ble_eq_true rfl, Nat.le_of_ble_eq_true rfl⟩ (Nat.le_of_ble_eq_true rfl) rfl rfl dX7_quantile_56 (fun r5 w6 ⟨e_r5, e_w6⟩ => ?_)
          rw [e_w6, e_r5]
          refine mg_iload_n C dX7_quantile_59 rfl ?_
          refine mg_icmp_lt C (tgt := 70) dX7_quantile_60 (by decide) (fun c_60 => ?_) (fun c_60 => ?_)
          · refine mg_iload C dX7_quantile_70 rfl ?_
            refine mg_iconst C (v := nI 1) dX7_quantile_72 (by decide) ?_
            refine mg_iadd C (z := nI (((lz + hz) / 2) + 1)) dX7_quantile_73 (nI_add _ _) ?_
            refine mg_istore_n C (lv' := [(3, .int (nI (((lz + hz) / 2) + 1))), (5, .int (nI ((lz + hz) / 2))), (0, .ref om), (1, .int (nI s)), (2, .int q), (4, .int (nI hz))]) dX7_quantile_74 rfl (by decide) rfl ?_
            have hb2 : bsR (fun m => wO f ln k (nI m) 31) q n1 (((lz + hz) / 2) + 1) (hz) = bsR (fun m => wO f ln k (nI m) 31) q 14 0 9999 := by
              rw [← hbs]
              exact ((if_pos c_41).trans (if_pos c_60)).symm
            refine mg_goto C (tgt := 38) dX7_quantile_75 (by decide) ?_
            refine mg_sub (lv' := [(0, .ref om), (1, .int (nI s)), (2, .int q), (3, .int (nI (((lz + hz) / 2) + 1))), (4, .int (nI hz))]) [2, 3, 4, 0, 5] rfl ?_
            exact ih38 n1 (((lz + hz) / 2) + 1) hz (by omega) (by omega) (by omega) (by omega) hb2
          · refine mg_iload C dX7_quantile_63 rfl ?_
            refine mg_istore C (lv' := [(4, .int (nI ((lz + hz) / 2))), (5, .int (nI ((lz + hz) / 2))), (0, .ref om), (1, .int (nI s)), (2, .int q), (3, .int (nI lz))]) dX7_quantile_65 (by decide) rfl ?_
            refine mg_goto C (tgt := 75) dX7_quantile_67 (by decide) ?_
            have hb2 : bsR (fun m => wO f ln k (nI m) 31) q n1 (lz) ((lz + hz) / 2) = bsR (fun m => wO f ln k (nI m) 31) q 14 0 9999 := by
              rw [← hbs]
              exact ((if_pos c_41).trans (if_neg c_60)).symm
            refine mg_goto C (tgt := 38) dX7_quantile_75 (by decide) ?_
            refine mg_sub (lv' := [(0, .ref om), (1, .int (nI s)), (2, .int q), (3, .int (nI lz)), (4, .int (nI ((lz + hz) / 2)))]) [2, 3, 4, 5, 0] rfl ?_
            exact ih38 n1 lz ((lz + hz) / 2) (by omega) (by omega) (by omega) (by omega) hb2
    refine mg_sub (lv' := [(0, .ref om), (1, .int (nI s)), (2, .int q), (3, .int (nI 0)), (4, .int (nI 9999))]) [2, 3, 4, 1, 0] rfl ?_
    exact L38 (_ + 1) 14 0 9999 (Nat.lt_succ_self _) (by decide) (by omega) (by omega) rfl
  · rw [ra4]
    refine mg_ifN_ne C (tgt := 31) dX7_quantile_26 (by decide) (by decide) (fun c_26 => absurd c_26 (by decide)) (fun c_26 => ?_)
    refine mg_iconst C (v := (-1 : Int32)) dX7_quantile_29 (by decide) ?_
    exact hR _ _ _ _ dX7_quantile_30 ⟨Or.inl ⟨rfl, qnot hy_q⟩, h_w1_om, fun z q0 => fr_w1 z q0⟩

set_option maxHeartbeats 4000000 in
set_option maxRecDepth 20000 in
theorem c_X7_told_R (D : va_G) (cI cS : ClassId) (w : mwT) (om md aso asi ase ato amo alo aro asr : Nat) (th : Int32) (so : Nat → Nat) (si : Nat → Nat) (se : Nat → Nat) (to : Nat → Int32) (mo : Nat → Nat) (lo : Nat → Int32) (ro : Nat → Int32) (s k sd mv : Nat) (tot er : Int32) (f : Nat → Int32) (ln tr : Nat → Nat) (q : Int32) (hom : w om = some (.inr (6, [.int th, .int (nI md), .ref aso, .ref asi, .ref ase, .ref ato, .ref amo, .ref alo, .ref aro, .ref asr]))) (h_aso : w aso = some (eI cI 8 (lnF so))) (h_asi : w asi = some (eI cI 8 (lnF si))) (h_ase : w ase = some (eI cI 8 (lnF se))) (h_ato : w ato = some (eI cI 8 to)) (h_amo : w amo = some (eI cI 8 (lnF mo))) (h_alo : w alo = some (eI cI 8 lo)) (h_aro : w aro = some (eI cI 9600 ro)) (hmd : md ≤ 8) (hs : s < md) (hsd : sd ≤ 999) (hso : so s = 4) (hsi : si s = k) (hse : se s = sd) (hto : to s = tot) (hmo : mo s = mv) (hk1 : 4 ≤ k) (hk2 : k ≤ 32) (hln : ∀ c, c < 31 → ln c < k) (hr : RkM ro s k (f, ln, tr, er)) (hlo : lo s = er) : mMi yX7_told cX7_told 3 (some .int) (rmL 8) [.ref om, .int (nI s), .int q] D cI cS w (fun r w1 => ((¬ rg 6 q ∧ r = -1) ∨ (q = nI 0 ∧ r = nI 4) ∨ (q = nI 1 ∧ r = nI k) ∨ (q = nI 2 ∧ r = nI sd) ∨ (q = nI 3 ∧ r = tot + nI 10000000) ∨ (q = nI 4 ∧ r = nI mv) ∨ (q = nI 5 ∧ r = er) ∨ (q = nI 6 ∧ r = nI (smN ln 31))) ∧ w1 om = some (.inr (6, [.int (nI 0), .int (nI md), .ref aso, .ref asi, .ref ase, .ref ato, .ref amo, .ref alo, .ref aro, .ref asr])) ∧ ∀ z : Nat, z ≠ om → w1 z = w z) := by
  refine mMi.of (by decide) (Nat.le_of_ble_eq_true rfl) ?_
  intro X C hN hR
  have fr_w : ∀ zz : Nat, w zz = w zz := fun _ => rfl
  refine mg_sub (lv' := [(0, .ref om), (1, .int (nI s)), (2, .int q)]) [0, 1, 2] rfl ?_
  have hs8 : s < 8 := by omega
  refine mg_aload_n C dX7_told_0 rfl ?_
  refine mg_iconst C (v := nI 0) dX7_told_1 (by decide) ?_
  refine mg_put C (fs' := [.int (nI 0), .int (nI md), .ref aso, .ref asi, .ref ase, .ref ato, .ref amo, .ref alo, .ref aro, .ref asr]) inT7 hom rfl 0 (by decide) kw_28 (Or.inl rfl) tyX7_ok nmX7 rfl rfl rfl rfl (Nat.le_of_ble_eq_true rfl) dX7_told_2 (fun w1 e_w1 => ?_)
  have h_w1_om : w1 om = some (.inr (6, [.int (nI 0), .int (nI md), .ref aso, .ref asi, .ref ase, .ref ato, .ref amo, .ref alo, .ref aro, .ref asr])) := (congrFun e_w1 _).trans mwu_eq
  have h_w1_aso : w1 aso = some (eI cI 8 (lnF so)) := (congrFun e_w1 _).trans ((mwu_ne (mw_ao h_aso hom)).trans h_aso)
  have h_w1_asi : w1 asi = some (eI cI 8 (lnF si)) := (congrFun e_w1 _).trans ((mwu_ne (mw_ao h_asi hom)).trans h_asi)
  have h_w1_ase : w1 ase = some (eI cI 8 (lnF se)) := (congrFun e_w1 _).trans ((mwu_ne (mw_ao h_ase hom)).trans h_ase)
  have h_w1_ato : w1 ato = some (eI cI 8 to) := (congrFun e_w1 _).trans ((mwu_ne (mw_ao h_ato hom)).trans h_ato)
  have h_w1_amo : w1 amo = some (eI cI 8 (lnF mo)) := (congrFun e_w1 _).trans ((mwu_ne (mw_ao h_amo hom)).trans h_amo)
  have h_w1_alo : w1 alo = some (eI cI 8 lo) := (congrFun e_w1 _).trans ((mwu_ne (mw_ao h_alo hom)).trans h_alo)
  have h_w1_aro : w1 aro = some (eI cI 9600 ro) := (congrFun e_w1 _).trans ((mwu_ne (mw_ao h_aro hom)).trans h_aro)
  have fr_w1 : ∀ zz : Nat, zz ≠ om → w1 zz = w zz := fun zz g0 => (congrFun e_w1 zz).trans ((mwu_ne g0).trans (fr_w zz ))
  refine mg_aload_n C dX7_told_5 rfl ?_
  refine mg_iload_n C dX7_told_6 rfl ?_
  refine mg_callV_i C h_w1_om rfl (rest := []) (c_X7_none_in D cI cS w1 om md aso asi ase ato amo alo aro asr (nI 0)  s h_w1_om hmd hs) yq_X7_none kw_197 kw_198 kw_199 ⟨by decide, by decide⟩ ⟨Nat.le_of_ble_eq_true rfl, Nat.le_of_ble_eq_true rfl⟩ (Nat.le_of_ble_eq_true rfl) rfl rfl dX7_told_7 (fun r2 w3 ⟨e_r2, e_w3⟩ => ?_)
  rw [e_w3, e_r2]
  refine mg_ifN_eq C (tgt := 15) dX7_told_10 (by decide) (by decide) (fun c_10 => ?_) (fun c_10 => absurd c_10 (by decide))
  refine mg_iload_n C dX7_told_15 rfl ?_
  rcases Classical.em (rg 6 q) with ⟨jt16, hjjt16, ejt16⟩ | hq16
  · rcases (show jt16 = 0 ∨ jt16 = 1 ∨ jt16 = 2 ∨ jt16 = 3 ∨ jt16 = 4 ∨ jt16 = 5 ∨ jt16 = 6 by omega) with zjt16 | zjt16 | zjt16 | zjt16 | zjt16 | zjt16 | zjt16
    · rw [zjt16] at ejt16
      rw [ejt16]
      refine mg_tabIn C (tgt := 60) (off := 44) dX7_told_16 (by decide) (by decide) rfl (by decide) ?_
      refine mg_aload_n C dX7_told_60 rfl ?_
      refine mg_get C inT7 h_w1_om rfl 2 (by decide) kw_20 (Or.inl rfl) rfl dX7_told_61 ?_
      refine mg_iload_n C dX7_told_64 rfl ?_
      refine mg_ialdN C h_w1_aso (by omega) (by omega) dX7_told_65 ?_
      rw [show lnF so s = nI 4 from congrArg nI hso]
      exact hR _ _ _ _ dX7_told_66 ⟨Or.inr (Or.inl ⟨ejt16, rfl⟩), h_w1_om, fun z q0 => fr_w1 z q0⟩
    · rw [zjt16] at ejt16
      rw [ejt16]
      refine mg_tabIn C (tgt := 67) (off := 51) dX7_told_16 (by decide) (by decide) rfl (by decide) ?_
      refine mg_aload_n C dX7_told_67 rfl ?_
      refine mg_get C inT7 h_w1_om rfl 3 (by decide) kw_21 (Or.inl rfl) rfl dX7_told_68 ?_
      refine mg_iload_n C dX7_told_71 rfl ?_
      refine mg_ialdN C h_w1_asi (by omega) (by omega) dX7_told_72 ?_
      rw [show lnF si s = nI k from congrArg nI hsi]
      exact hR _ _ _ _ dX7_told_73 ⟨Or.inr (Or.inr (Or.inl ⟨ejt16, rfl⟩)), h_w1_om, fun z q0 => fr_w1 z q0⟩
    · rw [zjt16] at ejt16
      rw [ejt16]
      refine mg_tabIn C (tgt := 74) (off := 58) dX7_told_16 (by decide) (by decide) rfl (by decide) ?_
      refine mg_aload_n C dX7_told_74 rfl ?_
      refine mg_get C inT7 h_w1_om rfl 4 (by decide) kw_22 (Or.inl rfl) rfl dX7_told_75 ?_
      refine mg_iload_n C dX7_told_78 rfl ?_
      refine mg_ialdN C h_w1_ase (by omega) (by omega) dX7_told_79 ?_
      rw [show lnF se s = nI sd from congrArg nI hse]
      exact hR _ _ _ _ dX7_told_80 ⟨Or.inr (Or.inr (Or.inr (Or.inl ⟨ejt16, rfl⟩))), h_w1_om, fun z q0 => fr_w1 z q0⟩
    · rw [zjt16] at ejt16
      rw [ejt16]
      refine mg_tabIn C (tgt := 81) (off := 65) dX7_told_16 (by decide) (by decide) rfl (by decide) ?_
      refine mg_aload_n C dX7_told_81 rfl ?_
      refine mg_get C inT7 h_w1_om rfl 5 (by decide) kw_23 (Or.inl rfl) rfl dX7_told_82 ?_
      refine mg_iload_n C dX7_told_85 rfl ?_
      refine mg_ialdN C h_w1_ato (by omega) (by omega) dX7_told_86 ?_
      rw [hto]
      refine mg_ldc C (v := nI 10000000) dX7_told_87 kw_231 (by decide) ?_
      refine mg_iadd C (z := tot + (nI 10000000)) dX7_told_89 rfl ?_
      exact hR _ _ _ _ dX7_told_90 ⟨Or.inr (Or.inr (Or.inr (Or.inr (Or.inl ⟨ejt16, rfl⟩)))), h_w1_om, fun z q0 => fr_w1 z q0⟩
    · rw [zjt16] at ejt16
      rw [ejt16]
      refine mg_tabIn C (tgt := 91) (off := 75) dX7_told_16 (by decide) (by decide) rfl (by decide) ?_
      refine mg_aload_n C dX7_told_91 rfl ?_
      refine mg_get C inT7 h_w1_om rfl 6 (by decide) kw_24 (Or.inl rfl) rfl dX7_told_92 ?_
      refine mg_iload_n C dX7_told_95 rfl ?_
      refine mg_ialdN C h_w1_amo (by omega) (by omega) dX7_told_96 ?_
      rw [show lnF mo s = nI mv from congrArg nI hmo]
      exact hR _ _ _ _ dX7_told_97 ⟨Or.inr (Or.inr (Or.inr (Or.inr (Or.inr (Or.inl ⟨ejt16, rfl⟩))))), h_w1_om, fun z q0 => fr_w1 z q0⟩
    · rw [zjt16] at ejt16
      rw [ejt16]
      refine mg_tabIn C (tgt := 98) (off := 82) dX7_told_16 (by decide) (by decide) rfl (by decide) ?_
      refine mg_aload_n C dX7_told_98 rfl ?_
      refine mg_get C inT7 h_w1_om rfl 7 (by decide) kw_25 (Or.inl rfl) rfl dX7_told_99 ?_
      refine mg_iload_n C dX7_told_102 rfl ?_
      refine mg_ialdN C h_w1_alo (by omega) (by omega) dX7_told_103 ?_
      rw [hlo]
      exact hR _ _ _ _ dX7_told_104 ⟨Or.inr (Or.inr (Or.inr (Or.inr (Or.inr (Or.inr (Or.inl ⟨ejt16, rfl⟩)))))), h_w1_om, fun z q0 => fr_w1 z q0⟩
    · rw [zjt16] at ejt16
      rw [ejt16]
      refine mg_tabIn C (tgt := 105) (off := 89) dX7_told_16 (by decide) (by decide) rfl (by decide) ?_
      refine mg_aload_n C dX7_told_105 rfl ?_
      refine mg_iload_n C dX7_told_106 rfl ?_
      refine mg_callV_i C h_w1_om rfl (rest := []) (c_X7_keptOf_R D cI cS w1 om md aso asi ase ato amo alo aro asr (nI 0) so ro s ln h_w1_om h_w1_aso h_w1_aro hs8 hso hr.1) yq_X7_keptOf kw_617 kw_618 kw_619 ⟨by decide, by decide⟩ ⟨Nat.le_of_ble_eq_true rfl, Nat.le_of_ble_eq_true rfl⟩ (Nat.le_of_ble_eq_true rfl) rfl rfl dX7_told_107 (fun r4 w4 ⟨xe4, xk4⟩ => ?_)
      rw [xk4, xe4]
      exact hR _ _ _ _ dX7_told_110 ⟨Or.inr (Or.inr (Or.inr (Or.inr (Or.inr (Or.inr (Or.inr (⟨ejt16, rfl⟩))))))), h_w1_om, fun z q0 => fr_w1 z q0⟩
  · refine mg_tabOut C (tgt := 111) dX7_told_16 (rg_out (by decide) hq16) (by decide) ?_
    refine mg_iconst C (v := (-1 : Int32)) dX7_told_111 (by decide) ?_
    exact hR _ _ _ _ dX7_told_112 ⟨Or.inl ⟨hq16, rfl⟩, h_w1_om, fun z q0 => fr_w1 z q0⟩

set_option maxHeartbeats 4000000 in
set_option maxRecDepth 20000 in
theorem c_X7_kept_R (D : va_G) (cI cS : ClassId) (w : mwT) (om md aso asi ase ato amo alo aro asr : Nat) (th : Int32) (so : Nat → Nat) (si : Nat → Nat) (se : Nat → Nat) (to : Nat → Int32) (mo : Nat → Nat) (lo : Nat → Int32) (ro : Nat → Int32) (s k sd mv : Nat) (tot er : Int32) (f : Nat → Int32) (ln tr : Nat → Nat) (i pt : Int32) (hom : w om = some (.inr (6, [.int th, .int (nI md), .ref aso, .ref asi, .ref ase, .ref ato, .ref amo, .ref alo, .ref aro, .ref asr]))) (h_aso : w aso = some (eI cI 8 (lnF so))) (h_asi : w asi = some (eI cI 8 (lnF si))) (h_ase : w ase = some (eI cI 8 (lnF se))) (h_ato : w ato = some (eI cI 8 to)) (h_amo : w amo = some (eI cI 8 (lnF mo))) (h_alo : w alo = some (eI cI 8 lo)) (h_aro : w aro = some (eI cI 9600 ro)) (hmd : md ≤ 8) (hs : s < md) (hsd : sd ≤ 999) (hso : so s = 4) (hsi : si s = k) (hse : se s = sd) (hto : to s = tot) (hmo : mo s = mv) (hk1 : 4 ≤ k) (hk2 : k ≤ 32) (hln : ∀ c, c < 31 → ln c < k) (hr : RkM ro s k (f, ln, tr, er)) (hlo : lo s = er) : mMi yX7_kept cX7_kept 5 (some .int) (rmL 8) [.ref om, .int (nI s), .int i, .int pt] D cI cS w (fun r w1 => ((r = -1 ∧ ¬ ixN 31 pt) ∨ (∃ b : Nat, b < 31 ∧ pt = nI b ∧ ((r = -1 ∧ ¬ (i = -1 ∨ ixN (ln b) i)) ∨ (i = -1 ∧ r = nI (ln b)) ∨ ∃ c : Nat, c < ln b ∧ i = nI c ∧ r = f (b * k + c)))) ∧ w1 om = some (.inr (6, [.int (nI 0), .int (nI md), .ref aso, .ref asi, .ref ase, .ref ato, .ref amo, .ref alo, .ref aro, .ref asr])) ∧ ∀ z : Nat, z ≠ om → w1 z = w z) := by
  refine mMi.of (by decide) (Nat.le_of_ble_eq_true rfl) ?_
  intro X C hN hR
  have fr_w : ∀ zz : Nat, w zz = w zz := fun _ => rfl
  refine mg_sub (lv' := [(0, .ref om), (1, .int (nI s)), (2, .int i), (3, .int pt)]) [0, 1, 2, 3] rfl ?_
  have hs8 : s < 8 := by omega
  refine mg_aload_n C dX7_kept_0 rfl ?_
  refine mg_iconst C (v := nI 0) dX7_kept_1 (by decide) ?_
  refine mg_put C (fs' := [.int (nI 0), .int (nI md), .ref aso, .ref asi, .ref ase, .ref ato, .ref amo, .ref alo, .ref aro, .ref asr]) inT7 hom rfl 0 (by decide) kw_28 (Or.inl rfl) tyX7_ok nmX7 rfl rfl rfl rfl (Nat.le_of_ble_eq_true rfl) dX7_kept_2 (fun w1 e_w1 => ?_)
  have h_w1_om : w1 om = some (.inr (6, [.int (nI 0), .int (nI md), .ref aso, .ref asi, .ref ase, .ref ato, .ref amo, .ref alo, .ref aro, .ref asr])) := (congrFun e_w1 _).trans mwu_eq
  have h_w1_aso : w1 aso = some (eI cI 8 (lnF so)) := (congrFun e_w1 _).trans ((mwu_ne (mw_ao h_aso hom)).trans h_aso)
  have h_w1_asi : w1 asi = some (eI cI 8 (lnF si)) := (congrFun e_w1 _).trans ((mwu_ne (mw_ao h_asi hom)).trans h_asi)
  have h_w1_ase : w1 ase = some (eI cI 8 (lnF se)) := (congrFun e_w1 _).trans ((mwu_ne (mw_ao h_ase hom)).trans h_ase)
  have h_w1_ato : w1 ato = some (eI cI 8 to) := (congrFun e_w1 _).trans ((mwu_ne (mw_ao h_ato hom)).trans h_ato)
  have h_w1_amo : w1 amo = some (eI cI 8 (lnF mo)) := (congrFun e_w1 _).trans ((mwu_ne (mw_ao h_amo hom)).trans h_amo)
  have h_w1_alo : w1 alo = some (eI cI 8 lo) := (congrFun e_w1 _).trans ((mwu_ne (mw_ao h_alo hom)).trans h_alo)
  have h_w1_aro : w1 aro = some (eI cI 9600 ro) := (congrFun e_w1 _).trans ((mwu_ne (mw_ao h_aro hom)).trans h_aro)
  have fr_w1 : ∀ zz : Nat, zz ≠ om → w1 zz = w zz := fun zz g0 => (congrFun e_w1 zz).trans ((mwu_ne g0).trans (fr_w zz ))
  refine mg_aload_n C dX7_kept_5 rfl ?_
  refine mg_iload_n C dX7_kept_6 rfl ?_
  refine mg_callV_i C h_w1_om rfl (rest := []) (c_X7_none_in D cI cS w1 om md aso asi ase ato amo alo aro asr (nI 0)  s h_w1_om hmd hs) yq_X7_none kw_197 kw_198 kw_199 ⟨by decide, by decide⟩ ⟨Nat.le_of_ble_eq_true rfl, Nat.le_of_ble_eq_true rfl⟩ (Nat.le_of_ble_eq_true rfl) rfl rfl dX7_kept_7 (fun r2 w3 ⟨e_r2, e_w3⟩ => ?_)
  rw [e_w3, e_r2]
  refine mg_ifN_eq C (tgt := 15) dX7_kept_10 (by decide) (by decide) (fun c_10 => ?_) (fun c_10 => absurd c_10 (by decide))
  refine mg_iconst C (v := nI 0) dX7_kept_15 (by decide) ?_
  refine mg_istore C (lv' := [(4, .int (nI 0)), (0, .ref om), (1, .int (nI s)), (2, .int i), (3, .int pt)]) dX7_kept_16 (by decide) rfl ?_
  refine mg_aload_n C dX7_kept_18 rfl ?_
  refine mg_get C inT7 h_w1_om rfl 2 (by decide) kw_20 (Or.inl rfl) rfl dX7_kept_19 ?_
  refine mg_iload_n C dX7_kept_22 rfl ?_
  refine mg_ialdN C h_w1_aso (by omega) (by omega) dX7_kept_23 ?_
  rw [show lnF so s = nI 4 from congrArg nI hso]
  refine mg_tabOut C (tgt := 230) dX7_kept_24 (by decide) (by decide) ?_
  refine mg_iload_n C dX7_kept_230 rfl ?_
  refine mg_iconst C (v := nI 0) dX7_kept_231 (by decide) ?_
  refine mg_bipush C (v := nI 30) dX7_kept_232 (by decide) ?_
  refine mg_callS_i C (rest := []) (c_X7_in D cI cS w1 pt (nI 0) (nI 30)) yq_X7_in kw_112 kw_113 ⟨by decide, by decide⟩ ⟨Nat.le_of_ble_eq_true rfl, Nat.le_of_ble_eq_true rfl⟩ (Nat.le_of_ble_eq_true rfl) rfl rfl dX7_kept_234 (fun r4 w4 ⟨xa4, xk4⟩ => ?_)
  rw [xk4]
  rcases xa4 with ⟨ra4, hy_p⟩ | ⟨ra4, hy_p⟩
  · rw [ra4]
    obtain ⟨pb, hpb, rfl⟩ := (in_rg (n := 30) (by decide)).mp hy_p
    have hlb := hln pb (by omega)
    refine mg_ifN_eq C (tgt := 262) dX7_kept_237 (by decide) (by decide) (fun c_237 => absurd c_237 (by decide)) (fun c_237 => ?_)
    refine mg_iload_n C dX7_kept_240 rfl ?_
    refine mg_iconst C (v := (-1 : Int32)) dX7_kept_241 (by decide) ?_
    refine mg_aload_n C dX7_kept_242 rfl ?_
    refine mg_get C inT7 h_w1_om rfl 8 (by decide) kw_26 (Or.inl rfl) rfl dX7_kept_243 ?_
    refine mg_sipush C (v := nI 1200) dX7_kept_246 (by decide) ?_
    refine mg_iload_n C dX7_kept_249 rfl ?_
    refine mg_imul C (z := nI (1200 * s)) dX7_kept_250 (pk_mul _ _) ?_
    refine mg_iload_n C dX7_kept_251 rfl ?_
    refine mg_iadd C (z := nI ((1200 * s) + pb)) dX7_kept_252 (nI_add _ _) ?_
    refine mg_ialdN C h_w1_aro (by omega) (by omega) dX7_kept_253 ?_
    rw [show ro (1200 * s + pb) = nI (ln pb) from hr.1 pb (by omega)]
    refine mg_iconst C (v := nI 1) dX7_kept_254 (by decide) ?_
    refine mg_isub C (z := nI (ln pb) - nI 1) dX7_kept_255 rfl ?_
    refine mg_callS_i C (rest := []) (c_X7_in D cI cS w1 i ((-1 : Int32)) (nI (ln pb) - nI 1)) yq_X7_in kw_112 kw_113 ⟨by decide, by decide⟩ ⟨Nat.le_of_ble_eq_true rfl, Nat.le_of_ble_eq_true rfl⟩ (Nat.le_of_ble_eq_true rfl) rfl rfl dX7_kept_256 (fun r5 w5 ⟨xa5, xk5⟩ => ?_)
    rw [xk5]
    rcases xa5 with ⟨ra5, hy_i⟩ | ⟨ra5, hy_i⟩
    · rw [ra5]
      refine mg_ifN_ne C (tgt := 264) dX7_kept_259 (by decide) (by decide) (fun c_259 => ?_) (fun c_259 => absurd c_259 (by decide))
      refine mg_iload_n C dX7_kept_264 rfl ?_
      refine mg_if_ge C (tgt := 283) dX7_kept_265 (by decide) (fun c_265 => ?_) (fun c_265 => ?_)
      · obtain ⟨pc, hpc, rfl⟩ := (((in_m1 (by omega)).mp hy_i).resolve_left (fun q => absurd (q ▸ c_265) (by decide)))
        refine mg_aload_n C dX7_kept_283 rfl ?_
        refine mg_get C inT7 h_w1_om rfl 8 (by decide) kw_26 (Or.inl rfl) rfl dX7_kept_284 ?_
        refine mg_aload_n C dX7_kept_287 rfl ?_
        refine mg_iload_n C dX7_kept_288 rfl ?_
        refine mg_iload_n C dX7_kept_289 rfl ?_
        refine mg_iload_n C dX7_kept_290 rfl ?_
        refine mg_callV_i C h_w1_om rfl (rest := [.ref aro]) (c_X7_keyAt D cI cS w1 om md aso asi ase ato amo alo aro asr (nI 0)  s pb pc h_w1_om ) yq_X7_keyAt kw_371 kw_372 kw_373 ⟨by decide, by decide⟩ ⟨Nat.le_of_ble_eq_true rfl, Nat.le_of_ble_eq_true rfl⟩ (Nat.le_of_ble_eq_true rfl) rfl rfl dX7_kept_291 (fun r6 w7 ⟨e_r6, e_w7⟩ => ?_)
        rw [e_w7, e_r6]
        refine mg_ialdN C h_w1_aro (by omega) (by omega) dX7_kept_294 ?_
        exact hR _ _ _ _ dX7_kept_295 ⟨Or.inr ⟨pb, by omega, rfl, Or.inr (Or.inr ⟨pc, hpc, rfl, hr.2.2 pb pc (by omega) hpc⟩)⟩, h_w1_om, fun z q0 => fr_w1 z q0⟩
      · refine mg_aload_n C dX7_kept_268 rfl ?_
        refine mg_get C inT7 h_w1_om rfl 8 (by decide) kw_26 (Or.inl rfl) rfl dX7_kept_269 ?_
        refine mg_sipush C (v := nI 1200) dX7_kept_272 (by decide) ?_
        refine mg_iload_n C dX7_kept_275 rfl ?_
        refine mg_imul C (z := nI (1200 * s)) dX7_kept_276 (pk_mul _ _) ?_
        refine mg_iload_n C dX7_kept_277 rfl ?_
        refine mg_iadd C (z := nI ((1200 * s) + pb)) dX7_kept_278 (nI_add _ _) ?_
        refine mg_ialdN C h_w1_aro (by omega) (by omega) dX7_kept_279 ?_
        rw [show ro (1200 * s + pb) = nI (ln pb) from hr.1 pb (by omega)]
        refine mg_goto C (tgt := 295) dX7_kept_280 (by decide) ?_
        exact hR _ _ _ _ dX7_kept_295 ⟨Or.inr ⟨pb, by omega, rfl, Or.inr (Or.inl ⟨((in_m1 (by omega)).mp hy_i).resolve_right (fun q => q.elim (fun a z => c_265 (z.2 ▸ nI_pos' (by omega)))), rfl⟩)⟩, h_w1_om, fun z q0 => fr_w1 z q0⟩
    · rw [ra5]
      refine mg_ifN_ne C (tgt := 264) dX7_kept_259 (by decide) (by decide) (fun c_259 => absurd c_259 (by decide)) (fun c_259 => ?_)
      refine mg_iconst C (v := (-1 : Int32)) dX7_kept_262 (by decide) ?_
      exact hR _ _ _ _ dX7_kept_263 ⟨Or.inr ⟨pb, by omega, rfl, Or.inl ⟨rfl, fun q => hy_i ((in_m1 (by omega)).mpr q)⟩⟩, h_w1_om, fun z q0 => fr_w1 z q0⟩
  · rw [ra4]
    refine mg_ifN_eq C (tgt := 262) dX7_kept_237 (by decide) (by decide) (fun c_237 => ?_) (fun c_237 => absurd c_237 (by decide))
    refine mg_iconst C (v := (-1 : Int32)) dX7_kept_262 (by decide) ?_
    exact hR _ _ _ _ dX7_kept_263 ⟨Or.inl ⟨rfl, fun q => hy_p ((in_rg (n := 30) (by decide)).mpr ((rg_ix (n := 31) (by decide)).mpr q))⟩, h_w1_om, fun z q0 => fr_w1 z q0⟩
