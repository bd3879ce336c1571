theorem upd_ne2 {f : Nat → Int32} {k j : Nat} {v : Int32} (h : j ≠ k) : upd f k v j = f j := by
  unfold upd
  rw [if_neg h]
theorem jh_mk {cI : ClassId} {w w1 : mwT} {aro alo s b k : Nat} {ro lo : Nat → Int32} {JF : hvT} (hex : k < JF.2.2 → ∃ j : Nat, j < JF.2.2 ∧ ahU JF.2.1 j JF.2.2 = k)
    (H : (JF.2.2 ≤ k ∧ ∃ ro1 : Nat → Int32, w1 aro = some (eI cI 9600 ro1) ∧ HvM ro1 s JF.1 JF.2.1 JF.2.2 ∧ outS ro ro1 s ∧ w1 alo = some (eI cI 8 (upd lo s (lo s + lo b))) ∧ ∀ z : Nat, z ≠ aro → z ≠ alo → w1 z = w z) ∨ (k < JF.2.2 ∧ ∃ kz : Nat, kz < JF.2.2 ∧ ahU JF.2.1 kz JF.2.2 = k ∧ ∃ ro1 : Nat → Int32, w1 aro = some (eI cI 9600 ro1) ∧ HvM ro1 s (lessU JF.1 JF.2.1 (JF.2.1 kz) JF.2.2).1 (lessU JF.1 JF.2.1 (JF.2.1 kz) JF.2.2).2.1 (lessU JF.1 JF.2.1 (JF.2.1 kz) JF.2.2).2.2 ∧ outS ro ro1 s ∧ w1 alo = some (eI cI 8 (upd lo s (lo s + lo b + JF.2.1 kz))) ∧ ∀ z : Nat, z ≠ aro → z ≠ alo → w1 z = w z) ∨ (k < JF.2.2 ∧ (∀ j, j < JF.2.2 → ¬ ahU JF.2.1 j JF.2.2 = k) ∧ ∃ ro1 : Nat → Int32, w1 aro = some (eI cI 9600 ro1) ∧ HvM ro1 s JF.1 JF.2.1 JF.2.2 ∧ outS ro ro1 s ∧ w1 alo = some (eI cI 8 (upd lo s (lo s + lo b))) ∧ ∀ z : Nat, z ≠ aro → z ≠ alo → w1 z = w z)) :
    ∃ roz loz : Nat → Int32, w1 aro = some (eI cI 9600 roz) ∧ w1 alo = some (eI cI 8 loz) ∧ outS ro roz s ∧ ((JF.2.2 ≤ k ∧ HvM roz s JF.1 JF.2.1 JF.2.2 ∧ loz = upd lo s (lo s + lo b)) ∨ (k < JF.2.2 ∧ ∃ kz : Nat, kz < JF.2.2 ∧ ahU JF.2.1 kz JF.2.2 = k ∧ HvM roz s (lessU JF.1 JF.2.1 (JF.2.1 kz) JF.2.2).1 (lessU JF.1 JF.2.1 (JF.2.1 kz) JF.2.2).2.1 (lessU JF.1 JF.2.1 (JF.2.1 kz) JF.2.2).2.2 ∧ loz = upd lo s (lo s + lo b + JF.2.1 kz))) ∧ ∀ z : Nat, z ≠ aro → z ≠ alo → w1 z = w z := by
  rcases H with ⟨a1, ro1, a2, a3, a4, a5, a6⟩ | ⟨a1, kz, a7, a8, ro1, a2, a3, a4, a5, a6⟩ | ⟨a1, a7, _⟩
  · exact ⟨ro1, _, a2, a5, a4, Or.inl ⟨a1, a3, rfl⟩, a6⟩
  · exact ⟨ro1, _, a2, a5, a4, Or.inr ⟨a1, kz, a7, a8, a3, rfl⟩, a6⟩
  · obtain ⟨j, h1, h2⟩ := hex a1
    exact absurd h2 (a7 j h1)
theorem jh_fin {cI : ClassId} {w1 : mwT} {alo s b k : Nat} {roz lo loz : Nat → Int32} {JF : hvT} (hl : w1 alo = some (eI cI 8 loz)) (H : ((JF.2.2 ≤ k ∧ HvM roz s JF.1 JF.2.1 JF.2.2 ∧ loz = upd lo s (lo s + lo b)) ∨ (k < JF.2.2 ∧ ∃ kz : Nat, kz < JF.2.2 ∧ ahU JF.2.1 kz JF.2.2 = k ∧ HvM roz s (lessU JF.1 JF.2.1 (JF.2.1 kz) JF.2.2).1 (lessU JF.1 JF.2.1 (JF.2.1 kz) JF.2.2).2.1 (lessU JF.1 JF.2.1 (JF.2.1 kz) JF.2.2).2.2 ∧ loz = upd lo s (lo s + lo b + JF.2.1 kz)))) :
    ((JF.2.2 ≤ k ∧ HvM roz s JF.1 JF.2.1 JF.2.2 ∧ w1 alo = some (eI cI 8 (upd lo s (lo s + lo b)))) ∨ (k < JF.2.2 ∧ ∃ kz : Nat, kz < JF.2.2 ∧ ahU JF.2.1 kz JF.2.2 = k ∧ HvM roz s (lessU JF.1 JF.2.1 (JF.2.1 kz) JF.2.2).1 (lessU JF.1 JF.2.1 (JF.2.1 kz) JF.2.2).2.1 (lessU JF.1 JF.2.1 (JF.2.1 kz) JF.2.2).2.2 ∧ w1 alo = some (eI cI 8 (upd lo s (lo s + lo b + JF.2.1 kz))))) := by
  rcases H with ⟨a1, a2, rfl⟩ | ⟨a1, kz, a2, a3, a4, rfl⟩
  · exact Or.inl ⟨a1, a2, hl⟩
  · exact Or.inr ⟨a1, kz, a2, a3, a4, hl⟩

set_option maxHeartbeats 4000000 in
set_option maxRecDepth 20000 in
theorem c_X7_merge_no (D : va_G) (cI cS : ClassId) (w : mwT) (om md aso asi ase ato amo alo aro asr : Nat) (th : Int32)  (s u : Int32) (hom : w om = some (.inr (6, [.int th, .int (nI md), .ref aso, .ref asi, .ref ase, .ref ato, .ref amo, .ref alo, .ref aro, .ref asr]))) (hmd : md ≤ 8) (hno : ¬ ixN md s) : mMi yX7_merge cX7_merge 6 (some .int) (rmL 98) [.ref om, .int s, .int u] D cI cS w (fun r w1 => r = -1 ∧ w1 om = some (.inr (6, [.int (nI 0), .int (nI md), .ref aso, .ref asi, .ref ase, .ref ato, .ref amo, .ref alo, .ref aro, .ref asr])) ∧ ∀ z : Nat, z ≠ om → w1 z = w z) := by
  refine mMi.of (by decide) (Nat.le_of_ble_eq_true rfl) ?_
  intro X C hN hR
  have fr_w : ∀ zz : Nat, w zz = w zz := fun _ => rfl
  refine mg_sub (lv' := [(0, .ref om), (1, .int s), (2, .int u)]) [0, 1, 2] rfl ?_
  refine mg_aload_n C dX7_merge_0 rfl ?_
  refine mg_iconst C (v := nI 0) dX7_merge_1 (by decide) ?_
  refine mg_put C (fs' := [.int (nI 0), .int (nI md), .ref aso, .ref asi, .ref ase, .ref ato, .ref amo, .ref alo, .ref aro, .ref asr]) inT7 hom rfl 0 (by decide) kw_28 (Or.inl rfl) tyX7_ok nmX7 rfl rfl rfl rfl (Nat.le_of_ble_eq_true rfl) dX7_merge_2 (fun w1 e_w1 => ?_)
  have h_w1_om : w1 om = some (.inr (6, [.int (nI 0), .int (nI md), .ref aso, .ref asi, .ref ase, .ref ato, .ref amo, .ref alo, .ref aro, .ref asr])) := (congrFun e_w1 _).trans mwu_eq
  have fr_w1 : ∀ zz : Nat, zz ≠ om → w1 zz = w zz := fun zz g0 => (congrFun e_w1 zz).trans ((mwu_ne g0).trans (fr_w zz ))
  refine mg_aload_n C dX7_merge_5 rfl ?_
  refine mg_iload_n C dX7_merge_6 rfl ?_
  refine mg_callV_i C h_w1_om rfl (rest := []) (c_X7_none_no D cI cS w1 om md aso asi ase ato amo alo aro asr (nI 0)  s h_w1_om hmd hno) yq_X7_none kw_197 kw_198 kw_199 ⟨by decide, by decide⟩ ⟨Nat.le_of_ble_eq_true rfl, Nat.le_of_ble_eq_true rfl⟩ (Nat.le_of_ble_eq_true rfl) rfl rfl dX7_merge_7 (fun r2 w3 ⟨e_r2, e_w3⟩ => ?_)
  rw [e_w3, e_r2]
  refine mg_ifN_ne C (tgt := 71) dX7_merge_10 (by decide) (by decide) (fun c_10 => ?_) (fun c_10 => absurd c_10 (by decide))
  refine mg_iconst C (v := (-1 : Int32)) dX7_merge_71 (by decide) ?_
  exact hR _ _ _ _ dX7_merge_72 ⟨rfl, h_w1_om, fun z q0 => fr_w1 z q0⟩

set_option maxHeartbeats 4000000 in
set_option maxRecDepth 20000 in
theorem c_X7_merge_in (D : va_G) (cI cS : ClassId) (w : mwT) (om md aso asi ase ato amo alo aro asr : Nat) (th : Int32)  (s : Nat) (u : Int32) (hom : w om = some (.inr (6, [.int th, .int (nI md), .ref aso, .ref asi, .ref ase, .ref ato, .ref amo, .ref alo, .ref aro, .ref asr]))) (hmd : md ≤ 8) (hs : s < md) (hno : ¬ ixN md u) : mMi yX7_merge cX7_merge 6 (some .int) (rmL 98) [.ref om, .int (nI s), .int u] D cI cS w (fun r w1 => r = -1 ∧ w1 om = some (.inr (6, [.int (nI 0), .int (nI md), .ref aso, .ref asi, .ref ase, .ref ato, .ref amo, .ref alo, .ref aro, .ref asr])) ∧ ∀ z : Nat, z ≠ om → w1 z = w z) := by
  refine mMi.of (by decide) (Nat.le_of_ble_eq_true rfl) ?_
  intro X C hN hR
  have fr_w : ∀ zz : Nat, w zz = w zz := fun _ => rfl
  refine mg_sub (lv' := [(0, .ref om), (1, .int (nI s)), (2, .int u)]) [0, 1, 2] rfl ?_
  refine mg_aload_n C dX7_merge_0 rfl ?_
  refine mg_iconst C (v := nI 0) dX7_merge_1 (by decide) ?_
  refine mg_put C (fs' := [.int (nI 0), .int (nI md), .ref aso, .ref asi, .ref ase, .ref ato, .ref amo, .ref alo, .ref aro, .ref asr]) inT7 hom rfl 0 (by decide) kw_28 (Or.inl rfl) tyX7_ok nmX7 rfl rfl rfl rfl (Nat.le_of_ble_eq_true rfl) dX7_merge_2 (fun w1 e_w1 => ?_)
  have h_w1_om : w1 om = some (.inr (6, [.int (nI 0), .int (nI md), .ref aso, .ref asi, .ref ase, .ref ato, .ref amo, .ref alo, .ref aro, .ref asr])) := (congrFun e_w1 _).trans mwu_eq
  have fr_w1 : ∀ zz : Nat, zz ≠ om → w1 zz = w zz := fun zz g0 => (congrFun e_w1 zz).trans ((mwu_ne g0).trans (fr_w zz ))
  refine mg_aload_n C dX7_merge_5 rfl ?_
  refine mg_iload_n C dX7_merge_6 rfl ?_
  refine mg_callV_i C h_w1_om rfl (rest := []) (c_X7_none_in D cI cS w1 om md aso asi ase ato amo alo aro asr (nI 0)  s h_w1_om hmd hs) yq_X7_none kw_197 kw_198 kw_199 ⟨by decide, by decide⟩ ⟨Nat.le_of_ble_eq_true rfl, Nat.le_of_ble_eq_true rfl⟩ (Nat.le_of_ble_eq_true rfl) rfl rfl dX7_merge_7 (fun r2 w3 ⟨e_r2, e_w3⟩ => ?_)
  rw [e_w3, e_r2]
  refine mg_ifN_ne C (tgt := 71) dX7_merge_10 (by decide) (by decide) (fun c_10 => absurd c_10 (by decide)) (fun c_10 => ?_)
  refine mg_aload_n C dX7_merge_13 rfl ?_
  refine mg_iload_n C dX7_merge_14 rfl ?_
  refine mg_callV_i C h_w1_om rfl (rest := []) (c_X7_none_no D cI cS w1 om md aso asi ase ato amo alo aro asr (nI 0)  u h_w1_om hmd hno) yq_X7_none kw_197 kw_198 kw_199 ⟨by decide, by decide⟩ ⟨Nat.le_of_ble_eq_true rfl, Nat.le_of_ble_eq_true rfl⟩ (Nat.le_of_ble_eq_true rfl) rfl rfl dX7_merge_15 (fun r4 w5 ⟨e_r4, e_w5⟩ => ?_)
  rw [e_w5, e_r4]
  refine mg_ifN_ne C (tgt := 71) dX7_merge_18 (by decide) (by decide) (fun c_18 => ?_) (fun c_18 => absurd c_18 (by decide))
  refine mg_iconst C (v := (-1 : Int32)) dX7_merge_71 (by decide) ?_
  exact hR _ _ _ _ dX7_merge_72 ⟨rfl, h_w1_om, fun z q0 => fr_w1 z q0⟩

set_option maxHeartbeats 4000000 in
set_option maxRecDepth 20000 in
theorem c_X7_merge_same (D : va_G) (cI cS : ClassId) (w : mwT) (om md aso asi ase ato amo alo aro asr : Nat) (th : Int32)  (s : Nat) (hom : w om = some (.inr (6, [.int th, .int (nI md), .ref aso, .ref asi, .ref ase, .ref ato, .ref amo, .ref alo, .ref aro, .ref asr]))) (hmd : md ≤ 8) (hs : s < md) : mMi yX7_merge cX7_merge 6 (some .int) (rmL 98) [.ref om, .int (nI s), .int (nI s)] D cI cS w (fun r w1 => r = -1 ∧ w1 om = some (.inr (6, [.int (nI 0), .int (nI md), .ref aso, .ref asi, .ref ase, .ref ato, .ref amo, .ref alo, .ref aro, .ref asr])) ∧ ∀ z : Nat, z ≠ om → w1 z = w z) := by
  refine mMi.of (by decide) (Nat.le_of_ble_eq_true rfl) ?_
  intro X C hN hR
  have fr_w : ∀ zz : Nat, w zz = w zz := fun _ => rfl
  refine mg_sub (lv' := [(0, .ref om), (1, .int (nI s)), (2, .int (nI s))]) [0, 1, 2] rfl ?_
  refine mg_aload_n C dX7_merge_0 rfl ?_
  refine mg_iconst C (v := nI 0) dX7_merge_1 (by decide) ?_
  refine mg_put C (fs' := [.int (nI 0), .int (nI md), .ref aso, .ref asi, .ref ase, .ref ato, .ref amo, .ref alo, .ref aro, .ref asr]) inT7 hom rfl 0 (by decide) kw_28 (Or.inl rfl) tyX7_ok nmX7 rfl rfl rfl rfl (Nat.le_of_ble_eq_true rfl) dX7_merge_2 (fun w1 e_w1 => ?_)
  have h_w1_om : w1 om = some (.inr (6, [.int (nI 0), .int (nI md), .ref aso, .ref asi, .ref ase, .ref ato, .ref amo, .ref alo, .ref aro, .ref asr])) := (congrFun e_w1 _).trans mwu_eq
  have fr_w1 : ∀ zz : Nat, zz ≠ om → w1 zz = w zz := fun zz g0 => (congrFun e_w1 zz).trans ((mwu_ne g0).trans (fr_w zz ))
  refine mg_aload_n C dX7_merge_5 rfl ?_
  refine mg_iload_n C dX7_merge_6 rfl ?_
  refine mg_callV_i C h_w1_om rfl (rest := []) (c_X7_none_in D cI cS w1 om md aso asi ase ato amo alo aro asr (nI 0)  s h_w1_om hmd hs) yq_X7_none kw_197 kw_198 kw_199 ⟨by decide, by decide⟩ ⟨Nat.le_of_ble_eq_true rfl, Nat.le_of_ble_eq_true rfl⟩ (Nat.le_of_ble_eq_true rfl) rfl rfl dX7_merge_7 (fun r2 w3 ⟨e_r2, e_w3⟩ => ?_)
  rw [e_w3, e_r2]
  refine mg_ifN_ne C (tgt := 71) dX7_merge_10 (by decide) (by decide) (fun c_10 => absurd c_10 (by decide)) (fun c_10 => ?_)
  refine mg_aload_n C dX7_merge_13 rfl ?_
  refine mg_iload_n C dX7_merge_14 rfl ?_
  refine mg_callV_i C h_w1_om rfl (rest := []) (c_X7_none_in D cI cS w1 om md aso asi ase ato amo alo aro asr (nI 0)  s h_w1_om hmd hs) yq_X7_none kw_197 kw_198 kw_199 ⟨by decide, by decide⟩ ⟨Nat.le_of_ble_eq_true rfl, Nat.le_of_ble_eq_true rfl⟩ (Nat.le_of_ble_eq_true rfl) rfl rfl dX7_merge_15 (fun r4 w5 ⟨e_r4, e_w5⟩ => ?_)
  rw [e_w5, e_r4]
  refine mg_ifN_ne C (tgt := 71) dX7_merge_18 (by decide) (by decide) (fun c_18 => absurd c_18 (by decide)) (fun c_18 => ?_)
  refine mg_iload_n C dX7_merge_21 rfl ?_
  refine mg_iload_n C dX7_merge_22 rfl ?_
  refine mg_icmpN_eq C (tgt := 71) dX7_merge_23 (by decide) (by omega) (by omega) (fun c_23 => ?_) (fun c_23 => absurd rfl c_23)
  refine mg_iconst C (v := (-1 : Int32)) dX7_merge_71 (by decide) ?_
  exact hR _ _ _ _ dX7_merge_72 ⟨rfl, h_w1_om, fun z q0 => fr_w1 z q0⟩

set_option maxHeartbeats 4000000 in
set_option maxRecDepth 20000 in
theorem c_X7_merge_un (D : va_G) (cI cS : ClassId) (w : mwT) (om md aso asi ase ato amo alo aro asr : Nat) (th : Int32) (so : Nat → Nat) (si : Nat → Nat) (se : Nat → Nat) (s b : Nat) (hom : w om = some (.inr (6, [.int th, .int (nI md), .ref aso, .ref asi, .ref ase, .ref ato, .ref amo, .ref alo, .ref aro, .ref asr]))) (h_aso : w aso = some (eI cI 8 (lnF so))) (h_asi : w asi = some (eI cI 8 (lnF si))) (h_ase : w ase = some (eI cI 8 (lnF se))) (hmd : md ≤ 8) (hs : s < md) (hb : b < md) (hab : s ≠ b) (hnl : ¬ (so s = so b ∧ si s = si b ∧ se s = se b)) (hq1 : so s < 1000 ∧ so b < 1000) (hq2 : si s < 1000 ∧ si b < 1000) (hq3 : se s < 1000 ∧ se b < 1000) : mMi yX7_merge cX7_merge 6 (some .int) (rmL 98) [.ref om, .int (nI s), .int (nI b)] D cI cS w (fun r w1 => r = -1 ∧ w1 om = some (.inr (6, [.int (nI 0), .int (nI md), .ref aso, .ref asi, .ref ase, .ref ato, .ref amo, .ref alo, .ref aro, .ref asr])) ∧ ∀ z : Nat, z ≠ om → w1 z = w z) := by
  refine mMi.of (by decide) (Nat.le_of_ble_eq_true rfl) ?_
  intro X C hN hR
  have fr_w : ∀ zz : Nat, w zz = w zz := fun _ => rfl
  refine mg_sub (lv' := [(0, .ref om), (1, .int (nI s)), (2, .int (nI b))]) [0, 1, 2] rfl ?_
  refine mg_aload_n C dX7_merge_0 rfl ?_
  refine mg_iconst C (v := nI 0) dX7_merge_1 (by decide) ?_
  refine mg_put C (fs' := [.int (nI 0), .int (nI md), .ref aso, .ref asi, .ref ase, .ref ato, .ref amo, .ref alo, .ref aro, .ref asr]) inT7 hom rfl 0 (by decide) kw_28 (Or.inl rfl) tyX7_ok nmX7 rfl rfl rfl rfl (Nat.le_of_ble_eq_true rfl) dX7_merge_2 (fun w1 e_w1 => ?_)
  have h_w1_om : w1 om = some (.inr (6, [.int (nI 0), .int (nI md), .ref aso, .ref asi, .ref ase, .ref ato, .ref amo, .ref alo, .ref aro, .ref asr])) := (congrFun e_w1 _).trans mwu_eq
  have h_w1_aso : w1 aso = some (eI cI 8 (lnF so)) := (congrFun e_w1 _).trans ((mwu_ne (mw_ao h_aso hom)).trans h_aso)
  have h_w1_asi : w1 asi = some (eI cI 8 (lnF si)) := (congrFun e_w1 _).trans ((mwu_ne (mw_ao h_asi hom)).trans h_asi)
  have h_w1_ase : w1 ase = some (eI cI 8 (lnF se)) := (congrFun e_w1 _).trans ((mwu_ne (mw_ao h_ase hom)).trans h_ase)
  have fr_w1 : ∀ zz : Nat, zz ≠ om → w1 zz = w zz := fun zz g0 => (congrFun e_w1 zz).trans ((mwu_ne g0).trans (fr_w zz ))
  refine mg_aload_n C dX7_merge_5 rfl ?_
  refine mg_iload_n C dX7_merge_6 rfl ?_
  refine mg_callV_i C h_w1_om rfl (rest := []) (c_X7_none_in D cI cS w1 om md aso asi ase ato amo alo aro asr (nI 0)  s h_w1_om hmd hs) yq_X7_none kw_197 kw_198 kw_199 ⟨by decide, by decide⟩ ⟨Nat.le_of_ble_eq_true rfl, Nat.le_of_ble_eq_true rfl⟩ (Nat.le_of_ble_eq_true rfl) rfl rfl dX7_merge_7 (fun r2 w3 ⟨e_r2, e_w3⟩ => ?_)
  rw [e_w3, e_r2]
  refine mg_ifN_ne C (tgt := 71) dX7_merge_10 (by decide) (by decide) (fun c_10 => absurd c_10 (by decide)) (fun c_10 => ?_)
  refine mg_aload_n C dX7_merge_13 rfl ?_
  refine mg_iload_n C dX7_merge_14 rfl ?_
  refine mg_callV_i C h_w1_om rfl (rest := []) (c_X7_none_in D cI cS w1 om md aso asi ase ato amo alo aro asr (nI 0)  b h_w1_om hmd hb) yq_X7_none kw_197 kw_198 kw_199 ⟨by decide, by decide⟩ ⟨Nat.le_of_ble_eq_true rfl, Nat.le_of_ble_eq_true rfl⟩ (Nat.le_of_ble_eq_true rfl) rfl rfl dX7_merge_15 (fun r4 w5 ⟨e_r4, e_w5⟩ => ?_)
  rw [e_w5, e_r4]
  refine mg_ifN_ne C (tgt := 71) dX7_merge_18 (by decide) (by decide) (fun c_18 => absurd c_18 (by decide)) (fun c_18 => ?_)
  refine mg_iload_n C dX7_merge_21 rfl ?_
  refine mg_iload_n C dX7_merge_22 rfl ?_
  refine mg_icmpN_eq C (tgt := 71) dX7_merge_23 (by decide) (by omega) (by omega) (fun c_23 => absurd c_23 hab) (fun c_23 => ?_)
  refine mg_aload_n C dX7_merge_26 rfl ?_
  refine mg_get C inT7 h_w1_om rfl 2 (by decide) kw_20 (Or.inl rfl) rfl dX7_merge_27 ?_
  refine mg_iload_n C dX7_merge_30 rfl ?_
  refine mg_ialdN C h_w1_aso (by omega) (by omega) dX7_merge_31 ?_
  refine mg_aload_n C dX7_merge_32 rfl ?_
  refine mg_get C inT7 h_w1_om rfl 2 (by decide) kw_20 (Or.inl rfl) rfl dX7_merge_33 ?_
  refine mg_iload_n C dX7_merge_36 rfl ?_
  refine mg_ialdN C h_w1_aso (by omega) (by omega) dX7_merge_37 ?_
  refine mg_icmpN_ne C (tgt := 71) dX7_merge_38 (by decide) (by omega) (by omega) (fun c_38 => ?_) (fun c_38 => ?_)
  · refine mg_iconst C (v := (-1 : Int32)) dX7_merge_71 (by decide) ?_
    exact hR _ _ _ _ dX7_merge_72 ⟨rfl, h_w1_om, fun z q0 => fr_w1 z q0⟩
  · refine mg_aload_n C dX7_merge_41 rfl ?_
    refine mg_get C inT7 h_w1_om rfl 3 (by decide) kw_21 (Or.inl rfl) rfl dX7_merge_42 ?_
    refine mg_iload_n C dX7_merge_45 rfl ?_
    refine mg_ialdN C h_w1_asi (by omega) (by omega) dX7_merge_46 ?_
    refine mg_aload_n C dX7_merge_47 rfl ?_
    refine mg_get C inT7 h_w1_om rfl 3 (by decide) kw_21 (Or.inl rfl) rfl dX7_merge_48 ?_
    refine mg_iload_n C dX7_merge_51 rfl ?_
    refine mg_ialdN C h_w1_asi (by omega) (by omega) dX7_merge_52 ?_
    refine mg_icmpN_ne C (tgt := 71) dX7_merge_53 (by decide) (by omega) (by omega) (fun c_53 => ?_) (fun c_53 => ?_)
    · refine mg_iconst C (v := (-1 : Int32)) dX7_merge_71 (by decide) ?_
      exact hR _ _ _ _ dX7_merge_72 ⟨rfl, h_w1_om, fun z q0 => fr_w1 z q0⟩
    · refine mg_aload_n C dX7_merge_56 rfl ?_
      refine mg_get C inT7 h_w1_om rfl 4 (by decide) kw_22 (Or.inl rfl) rfl dX7_merge_57 ?_
      refine mg_iload_n C dX7_merge_60 rfl ?_
      refine mg_ialdN C h_w1_ase (by omega) (by omega) dX7_merge_61 ?_
      refine mg_aload_n C dX7_merge_62 rfl ?_
      refine mg_get C inT7 h_w1_om rfl 4 (by decide) kw_22 (Or.inl rfl) rfl dX7_merge_63 ?_
      refine mg_iload_n C dX7_merge_66 rfl ?_
      refine mg_ialdN C h_w1_ase (by omega) (by omega) dX7_merge_67 ?_
      refine mg_icmpN_eq C (tgt := 73) dX7_merge_68 (by decide) (by omega) (by omega) (fun c_68 => absurd ⟨c_38, c_53, c_68⟩ hnl) (fun c_68 => ?_)
      refine mg_iconst C (v := (-1 : Int32)) dX7_merge_71 (by decide) ?_
      exact hR _ _ _ _ dX7_merge_72 ⟨rfl, h_w1_om, fun z q0 => fr_w1 z q0⟩

set_option maxHeartbeats 4000000 in
set_option maxRecDepth 20000 in
theorem c_X7_merge_H (D : va_G) (cI cS : ClassId) (w : mwT) (om md aso asi ase ato amo alo aro asr : Nat) (th : Int32) (so : Nat → Nat) (si : Nat → Nat) (se : Nat → Nat) (to : Nat → Int32) (mo : Nat → Nat) (lo : Nat → Int32) (ro : Nat → Int32) (sr : Nat → Int32) (tg : Nat → Nat) (s h k sd mv : Nat) (tot : Int32) (f g : Nat → Int32) (b h2 mv2 : Nat) (tot2 : Int32) (f2 g2 : Nat → Int32) (hom : w om = some (.inr (6, [.int th, .int (nI md), .ref aso, .ref asi, .ref ase, .ref ato, .ref amo, .ref alo, .ref aro, .ref asr]))) (h_aso : w aso = some (eI cI 8 (lnF so))) (h_asi : w asi = some (eI cI 8 (lnF si))) (h_ase : w ase = some (eI cI 8 (lnF se))) (h_ato : w ato = some (eI cI 8 to)) (h_amo : w amo = some (eI cI 8 (lnF mo))) (h_alo : w alo = some (eI cI 8 lo)) (h_aro : w aro = some (eI cI 9600 ro)) (h_asr : w asr = some (eI cI 1024 sr)) (hmd : md ≤ 8) (hs : s < md) (hsd : sd ≤ 999) (hso : so s = 0) (hsi : si s = k) (hse : se s = sd) (hto : to s = tot) (hmo : mo s = mv) (hk1 : 1 ≤ k) (hk2 : k ≤ 20) (hh : h ≤ k) (hv : HvM ro s f g h) (hb : b < md) (hab : s ≠ b) (gso : so b = 0) (gsi : si b = k) (gse : se b = sd) (gto : to b = tot2) (gmo : mo b = mv2) (hmv : mv ≤ 10000000) (hmv2 : mv2 ≤ 10000000) (hv2 : HvM ro b f2 g2 h2) (hh2 : h2 ≤ k) (hex : k < (jnU f2 g2 (f, g, h) h2).2.2 → ∃ j : Nat, j < (jnU f2 g2 (f, g, h) h2).2.2 ∧ ahU (jnU f2 g2 (f, g, h) h2).2.1 j (jnU f2 g2 (f, g, h) h2).2.2 = k) (t_aso : tg aso = 1) (t_asi : tg asi = 2) (t_ase : tg ase = 3) (t_ato : tg ato = 4) (t_amo : tg amo = 5) (t_alo : tg alo = 6) (t_aro : tg aro = 7) (t_asr : tg asr = 8) : mMi yX7_merge cX7_merge 6 (some .int) (rmL 98) [.ref om, .int (nI s), .int (nI b)] D cI cS w (fun r w1 => (10000000 < mv + mv2 ∧ r = -3 ∧ w1 om = some (.inr (6, [.int (nI 0), .int (nI md), .ref aso, .ref asi, .ref ase, .ref ato, .ref amo, .ref alo, .ref aro, .ref asr])) ∧ ∀ z : Nat, z ≠ om → w1 z = w z) ∨ (mv + mv2 ≤ 10000000 ∧ r = tot + tot2 + nI 10000000 ∧ w1 om = some (.inr (6, [.int (nI 0), .int (nI md), .ref aso, .ref asi, .ref ase, .ref ato, .ref amo, .ref alo, .ref aro, .ref asr])) ∧ w1 ato = some (eI cI 8 (upd to s (tot + tot2))) ∧ w1 amo = some (eI cI 8 (lnF (updN mo s (mv + mv2)))) ∧ (∃ ro1 : Nat → Int32, w1 aro = some (eI cI 9600 ro1) ∧ outS ro ro1 s ∧ (((jnU f2 g2 (f, g, h) h2).2.2 ≤ k ∧ HvM ro1 s (jnU f2 g2 (f, g, h) h2).1 (jnU f2 g2 (f, g, h) h2).2.1 (jnU f2 g2 (f, g, h) h2).2.2 ∧ w1 alo = some (eI cI 8 (upd lo s (lo s + lo b)))) ∨ (k < (jnU f2 g2 (f, g, h) h2).2.2 ∧ ∃ kz : Nat, kz < (jnU f2 g2 (f, g, h) h2).2.2 ∧ ahU (jnU f2 g2 (f, g, h) h2).2.1 kz (jnU f2 g2 (f, g, h) h2).2.2 = k ∧ HvM ro1 s (lessU (jnU f2 g2 (f, g, h) h2).1 (jnU f2 g2 (f, g, h) h2).2.1 ((jnU f2 g2 (f, g, h) h2).2.1 kz) (jnU f2 g2 (f, g, h) h2).2.2).1 (lessU (jnU f2 g2 (f, g, h) h2).1 (jnU f2 g2 (f, g, h) h2).2.1 ((jnU f2 g2 (f, g, h) h2).2.1 kz) (jnU f2 g2 (f, g, h) h2).2.2).2.1 (lessU (jnU f2 g2 (f, g, h) h2).1 (jnU f2 g2 (f, g, h) h2).2.1 ((jnU f2 g2 (f, g, h) h2).2.1 kz) (jnU f2 g2 (f, g, h) h2).2.2).2.2 ∧ w1 alo = some (eI cI 8 (upd lo s (lo s + lo b + (jnU f2 g2 (f, g, h) h2).2.1 kz)))))) ∧ ∀ z : Nat, z ≠ om → z ≠ aro → z ≠ alo → z ≠ ato → z ≠ amo → w1 z = w z)) := by
  refine mMi.of (by decide) (Nat.le_of_ble_eq_true rfl) ?_
  intro X C hN hR
  have fr_w : ∀ zz : Nat, w zz = w zz := fun _ => rfl
  refine mg_sub (lv' := [(0, .ref om), (1, .int (nI s)), (2, .int (nI b))]) [0, 1, 2] rfl ?_
  have hs8 : s < 8 := by omega
  refine mg_aload_n C dX7_merge_0 rfl ?_
  refine mg_iconst C (v := nI 0) dX7_merge_1 (by decide) ?_
  refine mg_put C (fs' := [.int (nI 0), .int (nI md), .ref aso, .ref asi, .ref ase, .ref ato, .ref amo, .ref alo, .ref aro, .ref asr]) inT7 hom rfl 0 (by decide) kw_28 (Or.inl rfl) tyX7_ok nmX7 rfl rfl rfl rfl (Nat.le_of_ble_eq_true rfl) dX7_merge_2 (fun w1 e_w1 => ?_)
  have h_w1_om : w1 om = some (.inr (6, [.int (nI 0), .int (nI md), .ref aso, .ref asi, .ref ase, .ref ato, .ref amo, .ref alo, .ref aro, .ref asr])) := (congrFun e_w1 _).trans mwu_eq
  have h_w1_aso : w1 aso = some (eI cI 8 (lnF so)) := (congrFun e_w1 _).trans ((mwu_ne (mw_ao h_aso hom)).trans h_aso)
  have h_w1_asi : w1 asi = some (eI cI 8 (lnF si)) := (congrFun e_w1 _).trans ((mwu_ne (mw_ao h_asi hom)).trans h_asi)
  have h_w1_ase : w1 ase = some (eI cI 8 (lnF se)) := (congrFun e_w1 _).trans ((mwu_ne (mw_ao h_ase hom)).trans h_ase)
  have h_w1_ato : w1 ato = some (eI cI 8 to) := (congrFun e_w1 _).trans ((mwu_ne (mw_ao h_ato hom)).trans h_ato)
  have h_w1_amo : w1 amo = some (eI cI 8 (lnF mo)) := (congrFun e_w1 _).trans ((mwu_ne (mw_ao h_amo hom)).trans h_amo)
  have h_w1_alo : w1 alo = some (eI cI 8 lo) := (congrFun e_w1 _).trans ((mwu_ne (mw_ao h_alo hom)).trans h_alo)
  have h_w1_aro : w1 aro = some (eI cI 9600 ro) := (congrFun e_w1 _).trans ((mwu_ne (mw_ao h_aro hom)).trans h_aro)
  have h_w1_asr : w1 asr = some (eI cI 1024 sr) := (congrFun e_w1 _).trans ((mwu_ne (mw_ao h_asr hom)).trans h_asr)
  have fr_w1 : ∀ zz : Nat, zz ≠ om → w1 zz = w zz := fun zz g0 => (congrFun e_w1 zz).trans ((mwu_ne g0).trans (fr_w zz ))
  refine mg_aload_n C dX7_merge_5 rfl ?_
  refine mg_iload_n C dX7_merge_6 rfl ?_
  refine mg_callV_i C h_w1_om rfl (rest := []) (c_X7_none_in D cI cS w1 om md aso asi ase ato amo alo aro asr (nI 0)  s h_w1_om hmd hs) yq_X7_none kw_197 kw_198 kw_199 ⟨by decide, by decide⟩ ⟨Nat.le_of_ble_eq_true rfl, Nat.le_of_ble_eq_true rfl⟩ (Nat.le_of_ble_eq_true rfl) rfl rfl dX7_merge_7 (fun r2 w3 ⟨e_r2, e_w3⟩ => ?_)
  rw [e_w3, e_r2]
  refine mg_ifN_ne C (tgt := 71) dX7_merge_10 (by decide) (by decide) (fun c_10 => absurd c_10 (by decide)) (fun c_10 => ?_)
  refine mg_aload_n C dX7_merge_13 rfl ?_
  refine mg_iload_n C dX7_merge_14 rfl ?_
  refine mg_callV_i C h_w1_om rfl (rest := []) (c_X7_none_in D cI cS w1 om md aso asi ase ato amo alo aro asr (nI 0)  b h_w1_om hmd hb) yq_X7_none kw_197 kw_198 kw_199 ⟨by decide, by decide⟩ ⟨Nat.le_of_ble_eq_true rfl, Nat.le_of_ble_eq_true rfl⟩ (Nat.le_of_ble_eq_true rfl) rfl rfl dX7_merge_15 (fun r4 w5 ⟨e_r4, e_w5⟩ => ?_)
  rw [e_w5, e_r4]
  refine mg_ifN_ne C (tgt := 71) dX7_merge_18 (by decide) (by decide) (fun c_18 => absurd c_18 (by decide)) (fun c_18 => ?_)
  refine mg_iload_n C dX7_merge_21 rfl ?_
  refine mg_iload_n C dX7_merge_22 rfl ?_
  refine mg_icmpN_eq C (tgt := 71) dX7_merge_23 (by decide) (by omega) (by omega) (fun c_23 => absurd c_23 hab) (fun c_23 => ?_)
  refine mg_aload_n C dX7_merge_26 rfl ?_
  refine mg_get C inT7 h_w1_om rfl 2 (by decide) kw_20 (Or.inl rfl) rfl dX7_merge_27 ?_
  refine mg_iload_n C dX7_merge_30 rfl ?_
  refine mg_ialdN C h_w1_aso (by omega) (by omega) dX7_merge_31 ?_
  rw [show lnF so s = nI 0 from congrArg nI hso]
  refine mg_aload_n C dX7_merge_32 rfl ?_
  refine mg_get C inT7 h_w1_om rfl 2 (by decide) kw_20 (Or.inl rfl) rfl dX7_merge_33 ?_
  refine mg_iload_n C dX7_merge_36 rfl ?_
  refine mg_ialdN C h_w1_aso (by omega) (by omega) dX7_merge_37 ?_
  rw [show lnF so b = nI 0 from congrArg nI gso]
  refine mg_icmpN_ne C (tgt := 71) dX7_merge_38 (by decide) (by omega) (by omega) (fun c_38 => absurd rfl c_38) (fun c_38 => ?_)
  refine mg_aload_n C dX7_merge_41 rfl ?_
  refine mg_get C inT7 h_w1_om rfl 3 (by decide) kw_21 (Or.inl rfl) rfl dX7_merge_42 ?_
  refine mg_iload_n C dX7_merge_45 rfl ?_
  refine mg_ialdN C h_w1_asi (by omega) (by omega) dX7_merge_46 ?_
  rw [show lnF si s = nI k from congrArg nI hsi]
  refine mg_aload_n C dX7_merge_47 rfl ?_
  refine mg_get C inT7 h_w1_om rfl 3 (by decide) kw_21 (Or.inl rfl) rfl dX7_merge_48 ?_
  refine mg_iload_n C dX7_merge_51 rfl ?_
  refine mg_ialdN C h_w1_asi (by omega) (by omega) dX7_merge_52 ?_
  rw [show lnF si b = nI k from congrArg nI gsi]
  refine mg_icmpN_ne C (tgt := 71) dX7_merge_53 (by decide) (by omega) (by omega) (fun c_53 => absurd rfl c_53) (fun c_53 => ?_)
  refine mg_aload_n C dX7_merge_56 rfl ?_
  refine mg_get C inT7 h_w1_om rfl 4 (by decide) kw_22 (Or.inl rfl) rfl dX7_merge_57 ?_
  refine mg_iload_n C dX7_merge_60 rfl ?_
  refine mg_ialdN C h_w1_ase (by omega) (by omega) dX7_merge_61 ?_
  rw [show lnF se s = nI sd from congrArg nI hse]
  refine mg_aload_n C dX7_merge_62 rfl ?_
  refine mg_get C inT7 h_w1_om rfl 4 (by decide) kw_22 (Or.inl rfl) rfl dX7_merge_63 ?_
  refine mg_iload_n C dX7_merge_66 rfl ?_
  refine mg_ialdN C h_w1_ase (by omega) (by omega) dX7_merge_67 ?_
  rw [show lnF se b = nI sd from congrArg nI gse]
  refine mg_icmpN_eq C (tgt := 73) dX7_merge_68 (by decide) (by omega) (by omega) (fun c_68 => ?_) (fun c_68 => absurd rfl c_68)
  refine mg_aload_n C dX7_merge_73 rfl ?_
  refine mg_get C inT7 h_w1_om rfl 6 (by decide) kw_24 (Or.inl rfl) rfl dX7_merge_74 ?_
  refine mg_iload_n C dX7_merge_77 rfl ?_
  refine mg_ialdN C h_w1_amo (by omega) (by omega) dX7_merge_78 ?_
  rw [show lnF mo s = nI mv from congrArg nI hmo]
  refine mg_aload_n C dX7_merge_79 rfl ?_
  refine mg_get C inT7 h_w1_om rfl 6 (by decide) kw_24 (Or.inl rfl) rfl dX7_merge_80 ?_
  refine mg_iload_n C dX7_merge_83 rfl ?_
  refine mg_ialdN C h_w1_amo (by omega) (by omega) dX7_merge_84 ?_
  rw [show lnF mo b = nI mv2 from congrArg nI gmo]
  refine mg_iadd C (z := nI (mv + mv2)) dX7_merge_85 (nI_add _ _) ?_
  refine mg_ldc C (v := nI 10000000) dX7_merge_86 kw_231 (by decide) ?_
  refine mg_icmpN_le C (tgt := 94) dX7_merge_88 (by decide) (by omega) (by omega) (fun c_88 => ?_) (fun c_88 => ?_)
  · refine mg_sipush C (v := nI 1200) dX7_merge_94 (by decide) ?_
    refine mg_iload_n C dX7_merge_97 rfl ?_
    refine mg_imul C (z := nI (1200 * b)) dX7_merge_98 (pk_mul _ _) ?_
    refine mg_bipush C (v := nI 100) dX7_merge_99 (by decide) ?_
    refine mg_iadd C (z := nI ((1200 * b) + 100)) dX7_merge_101 (nI_add _ _) ?_
    refine mg_istore_n C (lv' := [(3, .int (nI ((1200 * b) + 100))), (0, .ref om), (1, .int (nI s)), (2, .int (nI b))]) dX7_merge_102 rfl (by decide) rfl ?_
    refine mg_aload_n C dX7_merge_103 rfl ?_
    refine mg_get C inT7 h_w1_om rfl 2 (by decide) kw_20 (Or.inl rfl) rfl dX7_merge_104 ?_
    refine mg_iload_n C dX7_merge_107 rfl ?_
    refine mg_ialdN C h_w1_aso (by omega) (by omega) dX7_merge_108 ?_
    rw [show lnF so s = nI 0 from congrArg nI hso]
    refine mg_tabIn C (tgt := 140) (off := 31) dX7_merge_109 (by decide) (by decide) rfl (by decide) ?_
    refine mg_aload_n C dX7_merge_140 rfl ?_
    refine mg_iload_n C dX7_merge_141 rfl ?_
    refine mg_iload_n C dX7_merge_142 rfl ?_
    refine mg_callV_v C h_w1_om rfl (rest := []) (c_X7_joinHeavy D cI cS w1 om md aso asi ase ato amo alo aro asr (nI 0) ro lo si tg s b h h2 k f g f2 g2 h_w1_om h_w1_aro h_w1_alo h_w1_asi hs8 (by omega) hab hk2 hh hh2 hv hv2 hsi t_aro t_alo t_asi) yq_X7_joinHeavy kw_422 kw_423 kw_424 ⟨by decide, by decide⟩ ⟨Nat.le_of_ble_eq_true rfl, Nat.le_of_ble_eq_true rfl⟩ (Nat.le_of_ble_eq_true rfl) rfl rfl dX7_merge_143 (fun w6 xz6 => ?_)
    obtain ⟨roz, loz, xk6, xl6, hoz, hez, xf6⟩ := jh_mk (cI := cI) hex xz6
    have h_w6_om : w6 om = some (.inr (6, [.int (nI 0), .int (nI md), .ref aso, .ref asi, .ref ase, .ref ato, .ref amo, .ref alo, .ref aro, .ref asr])) := (xf6 om (mw_oa h_w1_om h_w1_aro) (mw_oa h_w1_om h_w1_alo)).trans h_w1_om
    have h_w6_aso : w6 aso = some (eI cI 8 (lnF so)) := (xf6 aso (tne t_aso t_aro (by decide)) (tne t_aso t_alo (by decide))).trans h_w1_aso
    have h_w6_asi : w6 asi = some (eI cI 8 (lnF si)) := (xf6 asi (tne t_asi t_aro (by decide)) (tne t_asi t_alo (by decide))).trans h_w1_asi
    have h_w6_ase : w6 ase = some (eI cI 8 (lnF se)) := (xf6 ase (tne t_ase t_aro (by decide)) (tne t_ase t_alo (by decide))).trans h_w1_ase
    have h_w6_ato : w6 ato = some (eI cI 8 to) := (xf6 ato (tne t_ato t_aro (by decide)) (tne t_ato t_alo (by decide))).trans h_w1_ato
    have h_w6_amo : w6 amo = some (eI cI 8 (lnF mo)) := (xf6 amo (tne t_amo t_aro (by decide)) (tne t_amo t_alo (by decide))).trans h_w1_amo
    have h_w6_asr : w6 asr = some (eI cI 1024 sr) := (xf6 asr (Ne.symm (tne t_aro t_asr (by decide))) (Ne.symm (tne t_alo t_asr (by decide)))).trans h_w1_asr
    have fr_w6 : ∀ zz : Nat, zz ≠ om → zz ≠ aro → zz ≠ alo → w6 zz = w zz := fun zz g0 g1 g2 => (xf6 zz g1 g2).trans (fr_w1 zz g0)
    refine mg_goto C (tgt := 400) dX7_merge_146 (by decide) ?_
    refine mg_aload_n C dX7_merge_400 rfl ?_
    refine mg_get C inT7 h_w6_om rfl 5 (by decide) kw_23 (Or.inl rfl) rfl dX7_merge_401 ?_
    refine mg_iload_n C dX7_merge_404 rfl ?_
    refine mg_aload_n C dX7_merge_405 rfl ?_
    refine mg_get C inT7 h_w6_om rfl 5 (by decide) kw_23 (Or.inl rfl) rfl dX7_merge_406 ?_
    refine mg_iload_n C dX7_merge_409 rfl ?_
    refine mg_ialdN C h_w6_ato (by omega) (by omega) dX7_merge_410 ?_
    rw [hto]
    refine mg_aload_n C dX7_merge_411 rfl ?_
    refine mg_get C inT7 h_w6_om rfl 5 (by decide) kw_23 (Or.inl rfl) rfl dX7_merge_412 ?_
    refine mg_iload_n C dX7_merge_415 rfl ?_
    refine mg_ialdN C h_w6_ato (by omega) (by omega) dX7_merge_416 ?_
    rw [gto]
    refine mg_iadd C (z := tot + tot2) dX7_merge_417 rfl ?_
    refine mg_iastN C h_w6_ato (by omega) (by omega) dX7_merge_418 (fun w7 e_w7 => ?_)
    have h_w7_om : w7 om = some (.inr (6, [.int (nI 0), .int (nI md), .ref aso, .ref asi, .ref ase, .ref ato, .ref amo, .ref alo, .ref aro, .ref asr])) := (congrFun e_w7 _).trans ((mwu_ne (mw_oa h_w6_om h_w6_ato)).trans h_w6_om)
    have h_w7_aso : w7 aso = some (eI cI 8 (lnF so)) := (congrFun e_w7 _).trans ((mwu_ne (tne t_aso t_ato (by decide))).trans h_w6_aso)
    have h_w7_asi : w7 asi = some (eI cI 8 (lnF si)) := (congrFun e_w7 _).trans ((mwu_ne (tne t_asi t_ato (by decide))).trans h_w6_asi)
    have h_w7_ase : w7 ase = some (eI cI 8 (lnF se)) := (congrFun e_w7 _).trans ((mwu_ne (tne t_ase t_ato (by decide))).trans h_w6_ase)
    have h_w7_ato : w7 ato = some (eI cI 8 (upd to s (tot + tot2))) := (congrFun e_w7 _).trans mwu_eq
    have h_w7_amo : w7 amo = some (eI cI 8 (lnF mo)) := (congrFun e_w7 _).trans ((mwu_ne (Ne.symm (tne t_ato t_amo (by decide)))).trans h_w6_amo)
    have h_w7_alo : w7 alo = some (eI cI 8 loz) := (congrFun e_w7 _).trans ((mwu_ne (Ne.symm (tne t_ato t_alo (by decide)))).trans xl6)
    have h_w7_aro : w7 aro = some (eI cI 9600 roz) := (congrFun e_w7 _).trans ((mwu_ne (Ne.symm (tne t_ato t_aro (by decide)))).trans xk6)
    have h_w7_asr : w7 asr = some (eI cI 1024 sr) := (congrFun e_w7 _).trans ((mwu_ne (Ne.symm (tne t_ato t_asr (by decide)))).trans h_w6_asr)
    have fr_w7 : ∀ zz : Nat, zz ≠ om → zz ≠ aro → zz ≠ alo → zz ≠ ato → w7 zz = w zz := fun zz g0 g1 g2 g3 => (congrFun e_w7 zz).trans ((mwu_ne g3).trans (fr_w6 zz g0 g1 g2))
    refine mg_aload_n C dX7_merge_419 rfl ?_
    refine mg_get C inT7 h_w7_om rfl 6 (by decide) kw_24 (Or.inl rfl) rfl dX7_merge_420 ?_
    refine mg_iload_n C dX7_merge_423 rfl ?_
    refine mg_aload_n C dX7_merge_424 rfl ?_
    refine mg_get C inT7 h_w7_om rfl 6 (by decide) kw_24 (Or.inl rfl) rfl dX7_merge_425 ?_
    refine mg_iload_n C dX7_merge_428 rfl ?_
    refine mg_ialdN C h_w7_amo (by omega) (by omega) dX7_merge_429 ?_
    rw [show lnF mo s = nI mv from congrArg nI hmo]
    refine mg_aload_n C dX7_merge_430 rfl ?_
    refine mg_get C inT7 h_w7_om rfl 6 (by decide) kw_24 (Or.inl rfl) rfl dX7_merge_431 ?_
    refine mg_iload_n C dX7_merge_434 rfl ?_
    refine mg_ialdN C h_w7_amo (by omega) (by omega) dX7_merge_435 ?_
    rw [show lnF mo b = nI mv2 from congrArg nI gmo]
    refine mg_iadd C (z := nI (mv + mv2)) dX7_merge_436 (nI_add _ _) ?_
    refine mg_iastN C h_w7_amo (by omega) (by omega) dX7_merge_437 (fun w8 e_w8 => ?_)
    rw [upd_lnF] at e_w8
    have h_w8_om : w8 om = some (.inr (6, [.int (nI 0), .int (nI md), .ref aso, .ref asi, .ref ase, .ref ato, .ref amo, .ref alo, .ref aro, .ref asr])) := (congrFun e_w8 _).trans ((mwu_ne (mw_oa h_w7_om h_w7_amo)).trans h_w7_om)
    have h_w8_aso : w8 aso = some (eI cI 8 (lnF so)) := (congrFun e_w8 _).trans ((mwu_ne (tne t_aso t_amo (by decide))).trans h_w7_aso)
    have h_w8_asi : w8 asi = some (eI cI 8 (lnF si)) := (congrFun e_w8 _).trans ((mwu_ne (tne t_asi t_amo (by decide))).trans h_w7_asi)
    have h_w8_ase : w8 ase = some (eI cI 8 (lnF se)) := (congrFun e_w8 _).trans ((mwu_ne (tne t_ase t_amo (by decide))).trans h_w7_ase)
    have h_w8_ato : w8 ato = some (eI cI 8 (upd to s (tot + tot2))) := (congrFun e_w8 _).trans ((mwu_ne (tne t_ato t_amo (by decide))).trans h_w7_ato)
    have h_w8_amo : w8 amo = some (eI cI 8 (lnF (updN mo s (mv + mv2)))) := (congrFun e_w8 _).trans mwu_eq
    have h_w8_alo : w8 alo = some (eI cI 8 loz) := (congrFun e_w8 _).trans ((mwu_ne (Ne.symm (tne t_amo t_alo (by decide)))).trans h_w7_alo)
    have h_w8_aro : w8 aro = some (eI cI 9600 roz) := (congrFun e_w8 _).trans ((mwu_ne (Ne.symm (tne t_amo t_aro (by decide)))).trans h_w7_aro)
    have h_w8_asr : w8 asr = some (eI cI 1024 sr) := (congrFun e_w8 _).trans ((mwu_ne (Ne.symm (tne t_amo t_asr (by decide)))).trans h_w7_asr)
    have fr_w8 : ∀ zz : Nat, zz ≠ om → zz ≠ aro → zz ≠ alo → zz ≠ ato → zz ≠ amo → w8 zz = w zz := fun zz g0 g1 g2 g3 g4 => (congrFun e_w8 zz).trans ((mwu_ne g4).trans (fr_w7 zz g0 g1 g2 g3))
    refine mg_aload_n C dX7_merge_438 rfl ?_
    refine mg_get C inT7 h_w8_om rfl 5 (by decide) kw_23 (Or.inl rfl) rfl dX7_merge_439 ?_
    refine mg_iload_n C dX7_merge_442 rfl ?_
    refine mg_ialdN C h_w8_ato (by omega) (by omega) dX7_merge_443 ?_
    rw [upd_same]
    refine mg_ldc C (v := nI 10000000) dX7_merge_444 kw_231 (by decide) ?_
    refine mg_iadd C (z := (tot + tot2) + (nI 10000000)) dX7_merge_446 rfl ?_
    have hez2 := jh_fin (w1 := w8) (cI := cI) h_w8_alo hez
    exact hR _ _ _ _ dX7_merge_447 (Or.inr ⟨c_88, rfl, h_w8_om, h_w8_ato, h_w8_amo, ⟨roz, h_w8_aro, hoz, hez2⟩, fun z q0 q1 q2 q3 q4 => fr_w8 z q0 q1 q2 q3 q4⟩)
  · refine mg_bipush C (v := (-3 : Int32)) dX7_merge_91 (by decide) ?_
    exact hR _ _ _ _ dX7_merge_93 (Or.inl ⟨c_88, rfl, h_w1_om, fun z q0 => fr_w1 z q0⟩)

set_option maxHeartbeats 4000000 in
set_option maxRecDepth 20000 in
theorem c_X7_merge_T (D : va_G) (cI cS : ClassId) (w : mwT) (om md aso asi ase ato amo alo aro asr : Nat) (th : Int32) (so : Nat → Nat) (si : Nat → Nat) (se : Nat → Nat) (to : Nat → Int32) (mo : Nat → Nat) (lo : Nat → Int32) (ro : Nat → Int32) (sr : Nat → Int32) (tg : Nat → Nat) (s c sd mv : Nat) (tot : Int32) (f : Nat → Int32) (b mv2 : Nat) (tot2 : Int32) (f2 : Nat → Int32) (hom : w om = some (.inr (6, [.int th, .int (nI md), .ref aso, .ref asi, .ref ase, .ref ato, .ref amo, .ref alo, .ref aro, .ref asr]))) (h_aso : w aso = some (eI cI 8 (lnF so))) (h_asi : w asi = some (eI cI 8 (lnF si))) (h_ase : w ase = some (eI cI 8 (lnF se))) (h_ato : w ato = some (eI cI 8 to)) (h_amo : w amo = some (eI cI 8 (lnF mo))) (h_alo : w alo = some (eI cI 8 lo)) (h_aro : w aro = some (eI cI 9600 ro)) (h_asr : w asr = some (eI cI 1024 sr)) (hmd : md ≤ 8) (hs : s < md) (hsd : sd ≤ 999) (hso : so s = 1) (hsi : si s = c) (hse : se s = sd) (hto : to s = tot) (hmo : mo s = mv) (hc1 : 4 ≤ c) (hc2 : c ≤ 64) (hv : TbM ro s f (4 * c)) (hlo : lo s = nI 0) (hb : b < md) (hab : s ≠ b) (gso : so b = 1) (gsi : si b = c) (gse : se b = sd) (gto : to b = tot2) (gmo : mo b = mv2) (hmv : mv ≤ 10000000) (hmv2 : mv2 ≤ 10000000) (hv2 : TbM ro b f2 (4 * c)) (t_aso : tg aso = 1) (t_asi : tg asi = 2) (t_ase : tg ase = 3) (t_ato : tg ato = 4) (t_amo : tg amo = 5) (t_alo : tg alo = 6) (t_aro : tg aro = 7) (t_asr : tg asr = 8) : mMi yX7_merge cX7_merge 6 (some .int) (rmL 98) [.ref om, .int (nI s), .int (nI b)] D cI cS w (fun r w1 => (10000000 < mv + mv2 ∧ r = -3 ∧ w1 om = some (.inr (6, [.int (nI 0), .int (nI md), .ref aso, .ref asi, .ref ase, .ref ato, .ref amo, .ref alo, .ref aro, .ref asr])) ∧ ∀ z : Nat, z ≠ om → w1 z = w z) ∨ (mv + mv2 ≤ 10000000 ∧ r = tot + tot2 + nI 10000000 ∧ w1 om = some (.inr (6, [.int (nI 0), .int (nI md), .ref aso, .ref asi, .ref ase, .ref ato, .ref amo, .ref alo, .ref aro, .ref asr])) ∧ w1 ato = some (eI cI 8 (upd to s (tot + tot2))) ∧ w1 amo = some (eI cI 8 (lnF (updN mo s (mv + mv2)))) ∧ (∃ ro1 : Nat → Int32, w1 aro = some (eI cI 9600 ro1) ∧ outS ro ro1 s ∧ TbM ro1 s (jnA f f2 (4 * c)) (4 * c)) ∧ ∀ z : Nat, z ≠ om → z ≠ aro → z ≠ ato → z ≠ amo → w1 z = w z)) := by
  refine mMi.of (by decide) (Nat.le_of_ble_eq_true rfl) ?_
  intro X C hN hR
  have fr_w : ∀ zz : Nat, w zz = w zz := fun _ => rfl
  refine mg_sub (lv' := [(0, .ref om), (1, .int (nI s)), (2, .int (nI b))]) [0, 1, 2] rfl ?_
  have hs8 : s < 8 := by omega
  refine mg_aload_n C dX7_merge_0 rfl ?_
  refine mg_iconst C (v := nI 0) dX7_merge_1 (by decide) ?_
  refine mg_put C (fs' := [.int (nI 0), .int (nI md), .ref aso, .ref asi, .ref ase, .ref ato, .ref amo, .ref alo, .ref aro, .ref asr]) inT7 hom rfl 0 (by decide) kw_28 (Or.inl rfl) tyX7_ok nmX7 rfl rfl rfl rfl (Nat.le_of_ble_eq_true rfl) dX7_merge_2 (fun w1 e_w1 => ?_)
  have h_w1_om : w1 om = some (.inr (6, [.int (nI 0), .int (nI md), .ref aso, .ref asi, .ref ase, .ref ato, .ref amo, .ref alo, .ref aro, .ref asr])) := (congrFun e_w1 _).trans mwu_eq
  have h_w1_aso : w1 aso = some (eI cI 8 (lnF so)) := (congrFun e_w1 _).trans ((mwu_ne (mw_ao h_aso hom)).trans h_aso)
  have h_w1_asi : w1 asi = some (eI cI 8 (lnF si)) := (congrFun e_w1 _).trans ((mwu_ne (mw_ao h_asi hom)).trans h_asi)
  have h_w1_ase : w1 ase = some (eI cI 8 (lnF se)) := (congrFun e_w1 _).trans ((mwu_ne (mw_ao h_ase hom)).trans h_ase)
  have h_w1_ato : w1 ato = some (eI cI 8 to) := (congrFun e_w1 _).trans ((mwu_ne (mw_ao h_ato hom)).trans h_ato)
  have h_w1_amo : w1 amo = some (eI cI 8 (lnF mo)) := (congrFun e_w1 _).trans ((mwu_ne (mw_ao h_amo hom)).trans h_amo)
  have h_w1_alo : w1 alo = some (eI cI 8 lo) := (congrFun e_w1 _).trans ((mwu_ne (mw_ao h_alo hom)).trans h_alo)
  have h_w1_aro : w1 aro = some (eI cI 9600 ro) := (congrFun e_w1 _).trans ((mwu_ne (mw_ao h_aro hom)).trans h_aro)
  have h_w1_asr : w1 asr = some (eI cI 1024 sr) := (congrFun e_w1 _).trans ((mwu_ne (mw_ao h_asr hom)).trans h_asr)
  have fr_w1 : ∀ zz : Nat, zz ≠ om → w1 zz = w zz := fun zz g0 => (congrFun e_w1 zz).trans ((mwu_ne g0).trans (fr_w zz ))
  refine mg_aload_n C dX7_merge_5 rfl ?_
  refine mg_iload_n C dX7_merge_6 rfl ?_
  refine mg_callV_i C h_w1_om rfl (rest := []) (c_X7_none_in D cI cS w1 om md aso asi ase ato amo alo aro asr (nI 0)  s h_w1_om hmd hs) yq_X7_none kw_197 kw_198 kw_199 ⟨by decide, by decide⟩ ⟨Nat.le_of_ble_eq_true rfl, Nat.le_of_ble_eq_true rfl⟩ (Nat.le_of_ble_eq_true rfl) rfl rfl dX7_merge_7 (fun r2 w3 ⟨e_r2, e_w3⟩ => ?_)
  rw [e_w3, e_r2]
  refine mg_ifN_ne C (tgt := 71) dX7_merge_10 (by decide) (by decide) (fun c_10 => absurd c_10 (by decide)) (fun c_10 => ?_)
  refine mg_aload_n C dX7_merge_13 rfl ?_
  refine mg_iload_n C dX7_merge_14 rfl ?_
  refine mg_callV_i C h_w1_om rfl (rest := []) (c_X7_none_in D cI cS w1 om md aso asi ase ato amo alo aro asr (nI 0)  b h_w1_om hmd hb) yq_X7_none kw_197 kw_198 kw_199 ⟨by decide, by decide⟩ ⟨Nat.le_of_ble_eq_true rfl, Nat.le_of_ble_eq_true rfl⟩ (Nat.le_of_ble_eq_true rfl) rfl rfl dX7_merge_15 (fun r4 w5 ⟨e_r4, e_w5⟩ => ?_)
  rw [e_w5, e_r4]
  refine mg_ifN_ne C (tgt := 71) dX7_merge_18 (by decide) (by decide) (fun c_18 => absurd c_18 (by decide)) (fun c_18 => ?_)
  refine mg_iload_n C dX7_merge_21 rfl ?_
  refine mg_iload_n C dX7_merge_22 rfl ?_
  refine mg_icmpN_eq C (tgt := 71) dX7_merge_23 (by decide) (by omega) (by omega) (fun c_23 => absurd c_23 hab) (fun c_23 => ?_)
  refine mg_aload_n C dX7_merge_26 rfl ?_
  refine mg_get C inT7 h_w1_om rfl 2 (by decide) kw_20 (Or.inl rfl) rfl dX7_merge_27 ?_
  refine mg_iload_n C dX7_merge_30 rfl ?_
  refine mg_ialdN C h_w1_aso (by omega) (by omega) dX7_merge_31 ?_
  rw [show lnF so s = nI 1 from congrArg nI hso]
  refine mg_aload_n C dX7_merge_32 rfl ?_
  refine mg_get C inT7 h_w1_om rfl 2 (by decide) kw_20 (Or.inl rfl) rfl dX7_merge_33 ?_
  refine mg_iload_n C dX7_merge_36 rfl ?_
  refine mg_ialdN C h_w1_aso (by omega) (by omega) dX7_merge_37 ?_
  rw [show lnF so b = nI 1 from congrArg nI gso]
  refine mg_icmpN_ne C (tgt := 71) dX7_merge_38 (by decide) (by omega) (by omega) (fun c_38 => absurd rfl c_38) (fun c_38 => ?_)
  refine mg_aload_n C dX7_merge_41 rfl ?_
  refine mg_get C inT7 h_w1_om rfl 3 (by decide) kw_21 (Or.inl rfl) rfl dX7_merge_42 ?_
  refine mg_iload_n C dX7_merge_45 rfl ?_
  refine mg_ialdN C h_w1_asi (by omega) (by omega) dX7_merge_46 ?_
  rw [show lnF si s = nI c from congrArg nI hsi]
  refine mg_aload_n C dX7_merge_47 rfl ?_
  refine mg_get C inT7 h_w1_om rfl 3 (by decide) kw_21 (Or.inl rfl) rfl dX7_merge_48 ?_
  refine mg_iload_n C dX7_merge_51 rfl ?_
  refine mg_ialdN C h_w1_asi (by omega) (by omega) dX7_merge_52 ?_
  rw [show lnF si b = nI c from congrArg nI gsi]
  refine mg_icmpN_ne C (tgt := 71) dX7_merge_53 (by decide) (by omega) (by omega) (fun c_53 => absurd rfl c_53) (fun c_53 => ?_)
  refine mg_aload_n C dX7_merge_56 rfl ?_
  refine mg_get C inT7 h_w1_om rfl 4 (by decide) kw_22 (Or.inl rfl) rfl dX7_merge_57 ?_
  refine mg_iload_n C dX7_merge_60 rfl ?_
  refine mg_ialdN C h_w1_ase (by omega) (by omega) dX7_merge_61 ?_
  rw [show lnF se s = nI sd from congrArg nI hse]
  refine mg_aload_n C dX7_merge_62 rfl ?_
  refine mg_get C inT7 h_w1_om rfl 4 (by decide) kw_22 (Or.inl rfl) rfl dX7_merge_63 ?_
  refine mg_iload_n C dX7_merge_66 rfl ?_
  refine mg_ialdN C h_w1_ase (by omega) (by omega) dX7_merge_67 ?_
  rw [show lnF se b = nI sd from congrArg nI gse]
  refine mg_icmpN_eq C (tgt := 73) dX7_merge_68 (by decide) (by omega) (by omega) (fun c_68 => ?_) (fun c_68 => absurd rfl c_68)
  refine mg_aload_n C dX7_merge_73 rfl ?_
  refine mg_get C inT7 h_w1_om rfl 6 (by decide) kw_24 (Or.inl rfl) rfl dX7_merge_74 ?_
  refine mg_iload_n C dX7_merge_77 rfl ?_
  refine mg_ialdN C h_w1_amo (by omega) (by omega) dX7_merge_78 ?_
  rw [show lnF mo s = nI mv from congrArg nI hmo]
  refine mg_aload_n C dX7_merge_79 rfl ?_
  refine mg_get C inT7 h_w1_om rfl 6 (by decide) kw_24 (Or.inl rfl) rfl dX7_merge_80 ?_
  refine mg_iload_n C dX7_merge_83 rfl ?_
  refine mg_ialdN C h_w1_amo (by omega) (by omega) dX7_merge_84 ?_
  rw [show lnF mo b = nI mv2 from congrArg nI gmo]
  refine mg_iadd C (z := nI (mv + mv2)) dX7_merge_85 (nI_add _ _) ?_
  refine mg_ldc C (v := nI 10000000) dX7_merge_86 kw_231 (by decide) ?_
  refine mg_icmpN_le C (tgt := 94) dX7_merge_88 (by decide) (by omega) (by omega) (fun c_88 => ?_) (fun c_88 => ?_)
  · refine mg_sipush C (v := nI 1200) dX7_merge_94 (by decide) ?_
    refine mg_iload_n C dX7_merge_97 rfl ?_
    refine mg_imul C (z := nI (1200 * b)) dX7_merge_98 (pk_mul _ _) ?_
    refine mg_bipush C (v := nI 100) dX7_merge_99 (by decide) ?_
    refine mg_iadd C (z := nI ((1200 * b) + 100)) dX7_merge_101 (nI_add _ _) ?_
    refine mg_istore_n C (lv' := [(3, .int (nI ((1200 * b) + 100))), (0, .ref om), (1, .int (nI s)), (2, .int (nI b))]) dX7_merge_102 rfl (by decide) rfl ?_
    refine mg_aload_n C dX7_merge_103 rfl ?_
    refine mg_get C inT7 h_w1_om rfl 2 (by decide) kw_20 (Or.inl rfl) rfl dX7_merge_104 ?_
    refine mg_iload_n C dX7_merge_107 rfl ?_
    refine mg_ialdN C h_w1_aso (by omega) (by omega) dX7_merge_108 ?_
    rw [show lnF so s = nI 1 from congrArg nI hso]
    refine mg_tabIn C (tgt := 149) (off := 40) dX7_merge_109 (by decide) (by decide) rfl (by decide) ?_
    refine mg_iconst C (v := nI 0) dX7_merge_149 (by decide) ?_
    refine mg_istore C (lv' := [(4, .int (nI 0)), (3, .int (nI ((1200 * b) + 100))), (0, .ref om), (1, .int (nI s)), (2, .int (nI b))]) dX7_merge_150 (by decide) rfl ?_
    have L152 : ∀ (M152 : Nat) (nz : Nat) (roz : Nat → Int32), 4 * c - nz < M152 → (nz ≤ 4 * c) → (TbM roz s (jnA f f2 nz) (4 * c)) → (outS ro roz s) → ∀ (w6 : mwT), w6 om = some (.inr (6, [.int (nI 0), .int (nI md), .ref aso, .ref asi, .ref ase, .ref ato, .ref amo, .ref alo, .ref aro, .ref asr])) → w6 aso = some (eI cI 8 (lnF so)) → w6 asi = some (eI cI 8 (lnF si)) → w6 ase = some (eI cI 8 (lnF se)) → w6 ato = some (eI cI 8 to) → w6 amo = some (eI cI 8 (lnF mo)) → w6 alo = some (eI cI 8 lo) → w6 aro = some (eI cI 9600 roz) → w6 asr = some (eI cI 1024 sr) → (∀ zz : Nat, zz ≠ om → zz ≠ aro → w6 zz = w zz) → mwG X 0 0 w6 [(0, .ref om), (1, .int (nI s)), (2, .int (nI b)), (3, .int (nI (1200 * b + 100))), (4, .int (nI nz))] [] 152 := by
      intro M152
      induction M152 with
      | zero => intro nz roz hm152; exact absurd hm152 (Nat.not_lt_zero _)
      | succ M152 ih152 =>
        intro nz roz hm152 hnz hvz hoz w6 h_w6_om h_w6_aso h_w6_asi h_w6_ase h_w6_ato h_w6_amo h_w6_alo h_w6_aro h_w6_asr fr_w6
        refine mg_iload C dX7_merge_152 rfl ?_
        refine mg_iconst C (v := nI 4) dX7_merge_154 (by decide) ?_
        refine mg_aload_n C dX7_merge_155 rfl ?_
        refine mg_get C inT7 h_w6_om rfl 3 (by decide) kw_21 (Or.inl rfl) rfl dX7_merge_156 ?_
        refine mg_iload_n C dX7_merge_159 rfl ?_
        refine mg_ialdN C h_w6_asi (by omega) (by omega) dX7_merge_160 ?_
        rw [show lnF si s = nI c from congrArg nI hsi]
        refine mg_imul C (z := nI (4 * c)) dX7_merge_161 (pk_mul _ _) ?_
        refine mg_icmpN_ge C (tgt := 213) dX7_merge_162 (by decide) (by omega) (by omega) (fun c_162 => ?_) (fun c_162 => ?_)
        · refine mg_goto C (tgt := 400) dX7_merge_213 (by decide) ?_
          refine mg_aload_n C dX7_merge_400 rfl ?_
          refine mg_get C inT7 h_w6_om rfl 5 (by decide) kw_23 (Or.inl rfl) rfl dX7_merge_401 ?_
          refine mg_iload_n C dX7_merge_404 rfl ?_
          refine mg_aload_n C dX7_merge_405 rfl ?_
          refine mg_get C inT7 h_w6_om rfl 5 (by decide) kw_23 (Or.inl rfl) rfl dX7_merge_406 ?_
          refine mg_iload_n C dX7_merge_409 rfl ?_
          refine mg_ialdN C h_w6_ato (by omega) (by omega) dX7_merge_410 ?_
          rw [hto]
          refine mg_aload_n C dX7_merge_411 rfl ?_
          refine mg_get C inT7 h_w6_om rfl 5 (by decide) kw_23 (Or.inl rfl) rfl dX7_merge_412 ?_
          refine mg_iload_n C dX7_merge_415 rfl ?_
          refine mg_ialdN C h_w6_ato (by omega) (by omega) dX7_merge_416 ?_
          rw [gto]
          refine mg_iadd C (z := tot + tot2) dX7_merge_417 rfl ?_
          refine mg_iastN C h_w6_ato (by omega) (by omega) dX7_merge_418 (fun w7 e_w7 => ?_)
          have h_w7_om : w7 om = some (.inr (6, [.int (nI 0), .int (nI md), .ref aso, .ref asi, .ref ase, .ref ato, .ref amo, .ref alo, .ref aro, .ref asr])) := (congrFun e_w7 _).trans ((mwu_ne (mw_oa h_w6_om h_w6_ato)).trans h_w6_om)
          have h_w7_aso : w7 aso = some (eI cI 8 (lnF so)) := (congrFun e_w7 _).trans ((mwu_ne (tne t_aso t_ato (by decide))).trans h_w6_aso)
          have h_w7_asi : w7 asi = some (eI cI 8 (lnF si)) := (congrFun e_w7 _).trans ((mwu_ne (tne t_asi t_ato (by decide))).trans h_w6_asi)
          have h_w7_ase : w7 ase = some (eI cI 8 (lnF se)) := (congrFun e_w7 _).trans ((mwu_ne (tne t_ase t_ato (by decide))).trans h_w6_ase)
          have h_w7_ato : w7 ato = some (eI cI 8 (upd to s (tot + tot2))) := (congrFun e_w7 _).trans mwu_eq
          have h_w7_amo : w7 amo = some (eI cI 8 (lnF mo)) := (congrFun e_w7 _).trans ((mwu_ne (Ne.symm (tne t_ato t_amo (by decide)))).trans h_w6_amo)
          have h_w7_alo : w7 alo = some (eI cI 8 lo) := (congrFun e_w7 _).trans ((mwu_ne (Ne.symm (tne t_ato t_alo (by decide)))).trans h_w6_alo)
          have h_w7_aro : w7 aro = some (eI cI 9600 roz) := (congrFun e_w7 _).trans ((mwu_ne (Ne.symm (tne t_ato t_aro (by decide)))).trans h_w6_aro)
          have h_w7_asr : w7 asr = some (eI cI 1024 sr) := (congrFun e_w7 _).trans ((mwu_ne (Ne.symm (tne t_ato t_asr (by decide)))).trans h_w6_asr)
          have fr_w7 : ∀ zz : Nat, zz ≠ om → zz ≠ aro → zz ≠ ato → w7 zz = w zz := fun zz g0 g1 g2 => (congrFun e_w7 zz).trans ((mwu_ne g2).trans (fr_w6 zz g0 g1))
          refine mg_aload_n C dX7_merge_419 rfl ?_
          refine mg_get C inT7 h_w7_om rfl 6 (by decide) kw_24 (Or.inl rfl) rfl dX7_merge_420 ?_
          refine mg_iload_n C dX7_merge_423 rfl ?_
          refine mg_aload_n C dX7_merge_424 rfl ?_
          refine mg_get C inT7 h_w7_om rfl 6 (by decide) kw_24 (Or.inl rfl) rfl dX7_merge_425 ?_
          refine mg_iload_n C dX7_merge_428 rfl ?_
          refine mg_ialdN C h_w7_amo (by omega) (by omega) dX7_merge_429 ?_
          rw [show lnF mo s = nI mv from congrArg nI hmo]
          refine mg_aload_n C dX7_merge_430 rfl ?_
          refine mg_get C inT7 h_w7_om rfl 6 (by decide) kw_24 (Or.inl rfl) rfl dX7_merge_431 ?_
          refine mg_iload_n C dX7_merge_434 rfl ?_
          refine mg_ialdN C h_w7_amo (by omega) (by omega) dX7_merge_435 ?_
          rw [show lnF mo b = nI mv2 from congrArg nI gmo]
          refine mg_iadd C (z := nI (mv + mv2)) dX7_merge_436 (nI_add _ _) ?_
          refine mg_iastN C h_w7_amo (by omega) (by omega) dX7_merge_437 (fun w8 e_w8 => ?_)
          rw [upd_lnF] at e_w8
          have h_w8_om : w8 om = some (.inr (6, [.int (nI 0), .int (nI md), .ref aso, .ref asi, .ref ase, .ref ato, .ref amo, .ref alo, .ref aro, .ref asr])) := (congrFun e_w8 _).trans ((mwu_ne (mw_oa h_w7_om h_w7_amo)).trans h_w7_om)
          have h_w8_aso : w8 aso = some (eI cI 8 (lnF so)) := (congrFun e_w8 _).trans ((mwu_ne (tne t_aso t_amo (by decide))).trans h_w7_aso)
          have h_w8_asi : w8 asi = some (eI cI 8 (lnF si)) := (congrFun e_w8 _).trans ((mwu_ne (tne t_asi t_amo (by decide))).trans h_w7_asi)
          have h_w8_ase : w8 ase = some (eI cI 8 (lnF se)) := (congrFun e_w8 _).trans ((mwu_ne (tne t_ase t_amo (by decide))).trans h_w7_ase)
          have h_w8_ato : w8 ato = some (eI cI 8 (upd to s (tot + tot2))) := (congrFun e_w8 _).trans ((mwu_ne (tne t_ato t_amo (by decide))).trans h_w7_ato)
          have h_w8_amo : w8 amo = some (eI cI 8 (lnF (updN mo s (mv + mv2)))) := (congrFun e_w8 _).trans mwu_eq
          have h_w8_alo : w8 alo = some (eI cI 8 lo) := (congrFun e_w8 _).trans ((mwu_ne (Ne.symm (tne t_amo t_alo (by decide)))).trans h_w7_alo)
          have h_w8_aro : w8 aro = some (eI cI 9600 roz) := (congrFun e_w8 _).trans ((mwu_ne (Ne.symm (tne t_amo t_aro (by decide)))).trans h_w7_aro)
          have h_w8_asr : w8 asr = some (eI cI 1024 sr) := (congrFun e_w8 _).trans ((mwu_ne (Ne.symm (tne t_amo t_asr (by decide)))).trans h_w7_asr)
          have fr_w8 : ∀ zz : Nat, zz ≠ om → zz ≠ aro → zz ≠ ato → zz ≠ amo → w8 zz = w zz := fun zz g0 g1 g2 g3 => (congrFun e_w8 zz).trans ((mwu_ne g3).trans (fr_w7 zz g0 g1 g2))
          refine mg_aload_n C dX7_merge_438 rfl ?_
          refine mg_get C inT7 h_w8_om rfl 5 (by decide) kw_23 (Or.inl rfl) rfl dX7_merge_439 ?_
          refine mg_iload_n C dX7_merge_442 rfl ?_
          refine mg_ialdN C h_w8_ato (by omega) (by omega) dX7_merge_443 ?_
          rw [upd_same]
          refine mg_ldc C (v := nI 10000000) dX7_merge_444 kw_231 (by decide) ?_
          refine mg_iadd C (z := (tot + tot2) + (nI 10000000)) dX7_merge_446 rfl ?_
          have en : nz = 4 * c := by omega
          rw [en] at hvz
          exact hR _ _ _ _ dX7_merge_447 (Or.inr ⟨c_88, rfl, h_w8_om, h_w8_ato, h_w8_amo, ⟨roz, h_w8_aro, hoz, hvz⟩, fun z q0 q1 q2 q3 => fr_w8 z q0 q1 q2 q3⟩)
        · refine mg_aload_n C dX7_merge_165 rfl ?_
          refine mg_get C inT7 h_w6_om rfl 8 (by decide) kw_26 (Or.inl rfl) rfl dX7_merge_166 ?_
          refine mg_sipush C (v := nI 1200) dX7_merge_169 (by decide) ?_
          refine mg_iload_n C dX7_merge_172 rfl ?_
          refine mg_imul C (z := nI (1200 * s)) dX7_merge_173 (pk_mul _ _) ?_
          refine mg_bipush C (v := nI 100) dX7_merge_174 (by decide) ?_
          refine mg_iadd C (z := nI ((1200 * s) + 100)) dX7_merge_176 (nI_add _ _) ?_
          refine mg_iload C dX7_merge_177 rfl ?_
          refine mg_iadd C (z := nI (((1200 * s) + 100) + nz)) dX7_merge_179 (nI_add _ _) ?_
          refine mg_aload_n C dX7_merge_180 rfl ?_
          refine mg_get C inT7 h_w6_om rfl 8 (by decide) kw_26 (Or.inl rfl) rfl dX7_merge_181 ?_
          refine mg_sipush C (v := nI 1200) dX7_merge_184 (by decide) ?_
          refine mg_iload_n C dX7_merge_187 rfl ?_
          refine mg_imul C (z := nI (1200 * s)) dX7_merge_188 (pk_mul _ _) ?_
          refine mg_bipush C (v := nI 100) dX7_merge_189 (by decide) ?_
          refine mg_iadd C (z := nI ((1200 * s) + 100)) dX7_merge_191 (nI_add _ _) ?_
          refine mg_iload C dX7_merge_192 rfl ?_
          refine mg_iadd C (z := nI (((1200 * s) + 100) + nz)) dX7_merge_194 (nI_add _ _) ?_
          refine mg_ialdN C h_w6_aro (by omega) (by omega) dX7_merge_195 ?_
          rw [hvz nz (by omega)]
          refine mg_aload_n C dX7_merge_196 rfl ?_
          refine mg_get C inT7 h_w6_om rfl 8 (by decide) kw_26 (Or.inl rfl) rfl dX7_merge_197 ?_
          refine mg_iload_n C dX7_merge_200 rfl ?_
          refine mg_iload C dX7_merge_201 rfl ?_
          refine mg_iadd C (z := nI ((1200 * b + 100) + nz)) dX7_merge_203 (nI_add _ _) ?_
          refine mg_ialdN C h_w6_aro (by omega) (by omega) dX7_merge_204 ?_
          rw [(hv2.out hoz hab (by omega)) nz (by omega)]
          refine mg_iadd C (z := (jnA f f2 nz nz) + (f2 nz)) dX7_merge_205 rfl ?_
          refine mg_iastN C h_w6_aro (by omega) (by omega) dX7_merge_206 (fun w9 e_w9 => ?_)
          have h_w9_om : w9 om = some (.inr (6, [.int (nI 0), .int (nI md), .ref aso, .ref asi, .ref ase, .ref ato, .ref amo, .ref alo, .ref aro, .ref asr])) := (congrFun e_w9 _).trans ((mwu_ne (mw_oa h_w6_om h_w6_aro)).trans h_w6_om)
          have h_w9_aso : w9 aso = some (eI cI 8 (lnF so)) := (congrFun e_w9 _).trans ((mwu_ne (tne t_aso t_aro (by decide))).trans h_w6_aso)
          have h_w9_asi : w9 asi = some (eI cI 8 (lnF si)) := (congrFun e_w9 _).trans ((mwu_ne (tne t_asi t_aro (by decide))).trans h_w6_asi)
          have h_w9_ase : w9 ase = some (eI cI 8 (lnF se)) := (congrFun e_w9 _).trans ((mwu_ne (tne t_ase t_aro (by decide))).trans h_w6_ase)
          have h_w9_ato : w9 ato = some (eI cI 8 to) := (congrFun e_w9 _).trans ((mwu_ne (tne t_ato t_aro (by decide))).trans h_w6_ato)
          have h_w9_amo : w9 amo = some (eI cI 8 (lnF mo)) := (congrFun e_w9 _).trans ((mwu_ne (tne t_amo t_aro (by decide))).trans h_w6_amo)
          have h_w9_alo : w9 alo = some (eI cI 8 lo) := (congrFun e_w9 _).trans ((mwu_ne (tne t_alo t_aro (by decide))).trans h_w6_alo)
          have h_w9_aro : w9 aro = some (eI cI 9600 (upd roz (((1200 * s) + 100) + nz) ((jnA f f2 nz nz) + (f2 nz)))) := (congrFun e_w9 _).trans mwu_eq
          have h_w9_asr : w9 asr = some (eI cI 1024 sr) := (congrFun e_w9 _).trans ((mwu_ne (Ne.symm (tne t_aro t_asr (by decide)))).trans h_w6_asr)
          have fr_w9 : ∀ zz : Nat, zz ≠ om → zz ≠ aro → w9 zz = w zz := fun zz g0 g1 => (congrFun e_w9 zz).trans ((mwu_ne g1).trans (fr_w6 zz g0 g1))
          have hvn := hvz.up (p := nz) (v := jnA f f2 nz nz + f2 nz)
          have hon := hoz.up (z := 1200 * s + 100 + nz) (v := jnA f f2 nz nz + f2 nz) (by omega) (by omega)
          refine mg_iinc C (v := nI (nz + 1)) (lv' := [(4, .int (nI (nz + 1))), (0, .ref om), (1, .int (nI s)), (2, .int (nI b)), (3, .int (nI (1200 * b + 100)))]) dX7_merge_207 rfl (ni_inc _) (by decide) rfl ?_
          refine mg_goto C (tgt := 152) dX7_merge_210 (by decide) ?_
          refine mg_sub (lv' := [(0, .ref om), (1, .int (nI s)), (2, .int (nI b)), (3, .int (nI (1200 * b + 100))), (4, .int (nI (nz + 1)))]) [1, 2, 3, 4, 0] rfl ?_
          exact ih152 ((nz + 1)) (upd roz (((1200 * s) + 100) + nz) ((jnA f f2 nz nz) + (f2 nz))) (by omega) (by omega) hvn hon w9 h_w9_om h_w9_aso h_w9_asi h_w9_ase h_w9_ato h_w9_amo h_w9_alo h_w9_aro h_w9_asr (fun zz g0 g1 => fr_w9 zz g0 g1)
    refine mg_sub (lv' := [(0, .ref om), (1, .int (nI s)), (2, .int (nI b)), (3, .int (nI ((1200 * b) + 100))), (4, .int (nI 0))]) [2, 3, 4, 1, 0] rfl ?_
    exact L152 (_ + 1) 0 ro (Nat.lt_succ_self _) (Nat.zero_le _) hv (outS.rf ro s) w1 h_w1_om h_w1_aso h_w1_asi h_w1_ase h_w1_ato h_w1_amo h_w1_alo h_w1_aro h_w1_asr (fun zz g0 g1 => fr_w1 zz g0)
  · refine mg_bipush C (v := (-3 : Int32)) dX7_merge_91 (by decide) ?_
    exact hR _ _ _ _ dX7_merge_93 (Or.inl ⟨c_88, rfl, h_w1_om, fun z q0 => fr_w1 z q0⟩)

set_option maxHeartbeats 4000000 in
set_option maxRecDepth 20000 in
theorem c_X7_merge_F (D : va_G) (cI cS : ClassId) (w : mwT) (om md aso asi ase ato amo alo aro asr : Nat) (th : Int32) (so : Nat → Nat) (si : Nat → Nat) (se : Nat → Nat) (to : Nat → Int32) (mo : Nat → Nat) (lo : Nat → Int32) (ro : Nat → Int32) (sr : Nat → Int32) (tg : Nat → Nat) (s c sd mv : Nat) (tot : Int32) (f : Nat → Int32) (b mv2 : Nat) (tot2 : Int32) (f2 : Nat → Int32) (hom : w om = some (.inr (6, [.int th, .int (nI md), .ref aso, .ref asi, .ref ase, .ref ato, .ref amo, .ref alo, .ref aro, .ref asr]))) (h_aso : w aso = some (eI cI 8 (lnF so))) (h_asi : w asi = some (eI cI 8 (lnF si))) (h_ase : w ase = some (eI cI 8 (lnF se))) (h_ato : w ato = some (eI cI 8 to)) (h_amo : w amo = some (eI cI 8 (lnF mo))) (h_alo : w alo = some (eI cI 8 lo)) (h_aro : w aro = some (eI cI 9600 ro)) (h_asr : w asr = some (eI cI 1024 sr)) (hmd : md ≤ 8) (hs : s < md) (hsd : sd ≤ 999) (hso : so s = 2) (hsi : si s = c) (hse : se s = sd) (hto : to s = tot) (hmo : mo s = mv) (hc1 : 16 ≤ c) (hc2 : c ≤ 512) (hv : TbM ro s f c) (hlo : lo s = nI 0) (hb : b < md) (hab : s ≠ b) (gso : so b = 2) (gsi : si b = c) (gse : se b = sd) (gto : to b = tot2) (gmo : mo b = mv2) (hmv : mv ≤ 10000000) (hmv2 : mv2 ≤ 10000000) (hv2 : TbM ro b f2 c) (t_aso : tg aso = 1) (t_asi : tg asi = 2) (t_ase : tg ase = 3) (t_ato : tg ato = 4) (t_amo : tg amo = 5) (t_alo : tg alo = 6) (t_aro : tg aro = 7) (t_asr : tg asr = 8) : mMi yX7_merge cX7_merge 6 (some .int) (rmL 98) [.ref om, .int (nI s), .int (nI b)] D cI cS w (fun r w1 => (10000000 < mv + mv2 ∧ r = -3 ∧ w1 om = some (.inr (6, [.int (nI 0), .int (nI md), .ref aso, .ref asi, .ref ase, .ref ato, .ref amo, .ref alo, .ref aro, .ref asr])) ∧ ∀ z : Nat, z ≠ om → w1 z = w z) ∨ (mv + mv2 ≤ 10000000 ∧ r = tot + tot2 + nI 10000000 ∧ w1 om = some (.inr (6, [.int (nI 0), .int (nI md), .ref aso, .ref asi, .ref ase, .ref ato, .ref amo, .ref alo, .ref aro, .ref asr])) ∧ w1 ato = some (eI cI 8 (upd to s (tot + tot2))) ∧ w1 amo = some (eI cI 8 (lnF (updN mo s (mv + mv2)))) ∧ (∃ ro1 : Nat → Int32, w1 aro = some (eI cI 9600 ro1) ∧ outS ro ro1 s ∧ TbM ro1 s (jnO f f2 c) c) ∧ ∀ z : Nat, z ≠ om → z ≠ aro → z ≠ ato → z ≠ amo → w1 z = w z)) := by
  refine mMi.of (by decide) (Nat.le_of_ble_eq_true rfl) ?_
  intro X C hN hR
  have fr_w : ∀ zz : Nat, w zz = w zz := fun _ => rfl
  refine mg_sub (lv' := [(0, .ref om), (1, .int (nI s)), (2, .int (nI b))]) [0, 1, 2] rfl ?_
  have hs8 : s < 8 := by omega
  refine mg_aload_n C dX7_merge_0 rfl ?_
  refine mg_iconst C (v := nI 0) dX7_merge_1 (by decide) ?_
  refine mg_put C (fs' := [.int (nI 0), .int (nI md), .ref aso, .ref asi, .ref ase, .ref ato, .ref amo, .ref alo, .ref aro, .ref asr]) inT7 hom rfl 0 (by decide) kw_28 (Or.inl rfl) tyX7_ok nmX7 rfl rfl rfl rfl (Nat.le_of_ble_eq_true rfl) dX7_merge_2 (fun w1 e_w1 => ?_)
  have h_w1_om : w1 om = some (.inr (6, [.int (nI 0), .int (nI md), .ref aso, .ref asi, .ref ase, .ref ato, .ref amo, .ref alo, .ref aro, .ref asr])) := (congrFun e_w1 _).trans mwu_eq
  have h_w1_aso : w1 aso = some (eI cI 8 (lnF so)) := (congrFun e_w1 _).trans ((mwu_ne (mw_ao h_aso hom)).trans h_aso)
  have h_w1_asi : w1 asi = some (eI cI 8 (lnF si)) := (congrFun e_w1 _).trans ((mwu_ne (mw_ao h_asi hom)).trans h_asi)
  have h_w1_ase : w1 ase = some (eI cI 8 (lnF se)) := (congrFun e_w1 _).trans ((mwu_ne (mw_ao h_ase hom)).trans h_ase)
  have h_w1_ato : w1 ato = some (eI cI 8 to) := (congrFun e_w1 _).trans ((mwu_ne (mw_ao h_ato hom)).trans h_ato)
  have h_w1_amo : w1 amo = some (eI cI 8 (lnF mo)) := (congrFun e_w1 _).trans ((mwu_ne (mw_ao h_amo hom)).trans h_amo)
  have h_w1_alo : w1 alo = some (eI cI 8 lo) := (congrFun e_w1 _).trans ((mwu_ne (mw_ao h_alo hom)).trans h_alo)
  have h_w1_aro : w1 aro = some (eI cI 9600 ro) := (congrFun e_w1 _).trans ((mwu_ne (mw_ao h_aro hom)).trans h_aro)
  have h_w1_asr : w1 asr = some (eI cI 1024 sr) := (congrFun e_w1 _).trans ((mwu_ne (mw_ao h_asr hom)).trans h_asr)
  have fr_w1 : ∀ zz : Nat, zz ≠ om → w1 zz = w zz := fun zz g0 => (congrFun e_w1 zz).trans ((mwu_ne g0).trans (fr_w zz ))
  refine mg_aload_n C dX7_merge_5 rfl ?_
  refine mg_iload_n C dX7_merge_6 rfl ?_
  refine mg_callV_i C h_w1_om rfl (rest := []) (c_X7_none_in D cI cS w1 om md aso asi ase ato amo alo aro asr (nI 0)  s h_w1_om hmd hs) yq_X7_none kw_197 kw_198 kw_199 ⟨by decide, by decide⟩ ⟨Nat.le_of_ble_eq_true rfl, Nat.le_of_ble_eq_true rfl⟩ (Nat.le_of_ble_eq_true rfl) rfl rfl dX7_merge_7 (fun r2 w3 ⟨e_r2, e_w3⟩ => ?_)
  rw [e_w3, e_r2]
  refine mg_ifN_ne C (tgt := 71) dX7_merge_10 (by decide) (by decide) (fun c_10 => absurd c_10 (by decide)) (fun c_10 => ?_)
  refine mg_aload_n C dX7_merge_13 rfl ?_
  refine mg_iload_n C dX7_merge_14 rfl ?_
  refine mg_callV_i C h_w1_om rfl (rest := []) (c_X7_none_in D cI cS w1 om md aso asi ase ato amo alo aro asr (nI 0)  b h_w1_om hmd hb) yq_X7_none kw_197 kw_198 kw_199 ⟨by decide, by decide⟩ ⟨Nat.le_of_ble_eq_true rfl, Nat.le_of_ble_eq_true rfl⟩ (Nat.le_of_ble_eq_true rfl) rfl rfl dX7_merge_15 (fun r4 w5 ⟨e_r4, e_w5⟩ => ?_)
  rw [e_w5, e_r4]
  refine mg_ifN_ne C (tgt := 71) dX7_merge_18 (by decide) (by decide) (fun c_18 => absurd c_18 (by decide)) (fun c_18 => ?_)
  refine mg_iload_n C dX7_merge_21 rfl ?_
  refine mg_iload_n C dX7_merge_22 rfl ?_
  refine mg_icmpN_eq C (tgt := 71) dX7_merge_23 (by decide) (by omega) (by omega) (fun c_23 => absurd c_23 hab) (fun c_23 => ?_)
  refine mg_aload_n C dX7_merge_26 rfl ?_
  refine mg_get C inT7 h_w1_om rfl 2 (by decide) kw_20 (Or.inl rfl) rfl dX7_merge_27 ?_
  refine mg_iload_n C dX7_merge_30 rfl ?_
  refine mg_ialdN C h_w1_aso (by omega) (by omega) dX7_merge_31 ?_
  rw [show lnF so s = nI 2 from congrArg nI hso]
  refine mg_aload_n C dX7_merge_32 rfl ?_
  refine mg_get C inT7 h_w1_om rfl 2 (by decide) kw_20 (Or.inl rfl) rfl dX7_merge_33 ?_
  refine mg_iload_n C dX7_merge_36 rfl ?_
  refine mg_ialdN C h_w1_aso (by omega) (by omega) dX7_merge_37 ?_
  rw [show lnF so b = nI 2 from congrArg nI gso]
  refine mg_icmpN_ne C (tgt := 71) dX7_merge_38 (by decide) (by omega) (by omega) (fun c_38 => absurd rfl c_38) (fun c_38 => ?_)
  refine mg_aload_n C dX7_merge_41 rfl ?_
  refine mg_get C inT7 h_w1_om rfl 3 (by decide) kw_21 (Or.inl rfl) rfl dX7_merge_42 ?_
  refine mg_iload_n C dX7_merge_45 rfl ?_
  refine mg_ialdN C h_w1_asi (by omega) (by omega) dX7_merge_46 ?_
  rw [show lnF si s = nI c from congrArg nI hsi]
  refine mg_aload_n C dX7_merge_47 rfl ?_
  refine mg_get C inT7 h_w1_om rfl 3 (by decide) kw_21 (Or.inl rfl) rfl dX7_merge_48 ?_
  refine mg_iload_n C dX7_merge_51 rfl ?_
  refine mg_ialdN C h_w1_asi (by omega) (by omega) dX7_merge_52 ?_
  rw [show lnF si b = nI c from congrArg nI gsi]
  refine mg_icmpN_ne C (tgt := 71) dX7_merge_53 (by decide) (by omega) (by omega) (fun c_53 => absurd rfl c_53) (fun c_53 => ?_)
  refine mg_aload_n C dX7_merge_56 rfl ?_
  refine mg_get C inT7 h_w1_om rfl 4 (by decide) kw_22 (Or.inl rfl) rfl dX7_merge_57 ?_
  refine mg_iload_n C dX7_merge_60 rfl ?_
  refine mg_ialdN C h_w1_ase (by omega) (by omega) dX7_merge_61 ?_
  rw [show lnF se s = nI sd from congrArg nI hse]
  refine mg_aload_n C dX7_merge_62 rfl ?_
  refine mg_get C inT7 h_w1_om rfl 4 (by decide) kw_22 (Or.inl rfl) rfl dX7_merge_63 ?_
  refine mg_iload_n C dX7_merge_66 rfl ?_
  refine mg_ialdN C h_w1_ase (by omega) (by omega) dX7_merge_67 ?_
  rw [show lnF se b = nI sd from congrArg nI gse]
  refine mg_icmpN_eq C (tgt := 73) dX7_merge_68 (by decide) (by omega) (by omega) (fun c_68 => ?_) (fun c_68 => absurd rfl c_68)
  refine mg_aload_n C dX7_merge_73 rfl ?_
  refine mg_get C inT7 h_w1_om rfl 6 (by decide) kw_24 (Or.inl rfl) rfl dX7_merge_74 ?_
  refine mg_iload_n C dX7_merge_77 rfl ?_
  refine mg_ialdN C h_w1_amo (by omega) (by omega) dX7_merge_78 ?_
  rw [show lnF mo s = nI mv from congrArg nI hmo]
  refine mg_aload_n C dX7_merge_79 rfl ?_
  refine mg_get C inT7 h_w1_om rfl 6 (by decide) kw_24 (Or.inl rfl) rfl dX7_merge_80 ?_
  refine mg_iload_n C dX7_merge_83 rfl ?_
  refine mg_ialdN C h_w1_amo (by omega) (by omega) dX7_merge_84 ?_
  rw [show lnF mo b = nI mv2 from congrArg nI gmo]
  refine mg_iadd C (z := nI (mv + mv2)) dX7_merge_85 (nI_add _ _) ?_
  refine mg_ldc C (v := nI 10000000) dX7_merge_86 kw_231 (by decide) ?_
  refine mg_icmpN_le C (tgt := 94) dX7_merge_88 (by decide) (by omega) (by omega) (fun c_88 => ?_) (fun c_88 => ?_)
  · refine mg_sipush C (v := nI 1200) dX7_merge_94 (by decide) ?_
    refine mg_iload_n C dX7_merge_97 rfl ?_
    refine mg_imul C (z := nI (1200 * b)) dX7_merge_98 (pk_mul _ _) ?_
    refine mg_bipush C (v := nI 100) dX7_merge_99 (by decide) ?_
    refine mg_iadd C (z := nI ((1200 * b) + 100)) dX7_merge_101 (nI_add _ _) ?_
    refine mg_istore_n C (lv' := [(3, .int (nI ((1200 * b) + 100))), (0, .ref om), (1, .int (nI s)), (2, .int (nI b))]) dX7_merge_102 rfl (by decide) rfl ?_
    refine mg_aload_n C dX7_merge_103 rfl ?_
    refine mg_get C inT7 h_w1_om rfl 2 (by decide) kw_20 (Or.inl rfl) rfl dX7_merge_104 ?_
    refine mg_iload_n C dX7_merge_107 rfl ?_
    refine mg_ialdN C h_w1_aso (by omega) (by omega) dX7_merge_108 ?_
    rw [show lnF so s = nI 2 from congrArg nI hso]
    refine mg_tabIn C (tgt := 216) (off := 107) dX7_merge_109 (by decide) (by decide) rfl (by decide) ?_
    refine mg_iconst C (v := nI 0) dX7_merge_216 (by decide) ?_
    refine mg_istore C (lv' := [(4, .int (nI 0)), (3, .int (nI ((1200 * b) + 100))), (0, .ref om), (1, .int (nI s)), (2, .int (nI b))]) dX7_merge_217 (by decide) rfl ?_
    have L219 : ∀ (M219 : Nat) (nz : Nat) (roz : Nat → Int32), c - nz < M219 → (nz ≤ c) → (TbM roz s (jnO f f2 nz) (c)) → (outS ro roz s) → ∀ (w6 : mwT), w6 om = some (.inr (6, [.int (nI 0), .int (nI md), .ref aso, .ref asi, .ref ase, .ref ato, .ref amo, .ref alo, .ref aro, .ref asr])) → w6 aso = some (eI cI 8 (lnF so)) → w6 asi = some (eI cI 8 (lnF si)) → w6 ase = some (eI cI 8 (lnF se)) → w6 ato = some (eI cI 8 to) → w6 amo = some (eI cI 8 (lnF mo)) → w6 alo = some (eI cI 8 lo) → w6 aro = some (eI cI 9600 roz) → w6 asr = some (eI cI 1024 sr) → (∀ zz : Nat, zz ≠ om → zz ≠ aro → w6 zz = w zz) → mwG X 0 0 w6 [(0, .ref om), (1, .int (nI s)), (2, .int (nI b)), (3, .int (nI (1200 * b + 100))), (4, .int (nI nz))] [] 219 := by
      intro M219
      induction M219 with
      | zero => intro nz roz hm219; exact absurd hm219 (Nat.not_lt_zero _)
      | succ M219 ih219 =>
        intro nz roz hm219 hnz hvz hoz w6 h_w6_om h_w6_aso h_w6_asi h_w6_ase h_w6_ato h_w6_amo h_w6_alo h_w6_aro h_w6_asr fr_w6
        refine mg_iload C dX7_merge_219 rfl ?_
        refine mg_aload_n C dX7_merge_221 rfl ?_
        refine mg_get C inT7 h_w6_om rfl 3 (by decide) kw_21 (Or.inl rfl) rfl dX7_merge_222 ?_
        refine mg_iload_n C dX7_merge_225 rfl ?_
        refine mg_ialdN C h_w6_asi (by omega) (by omega) dX7_merge_226 ?_
        rw [show lnF si s = nI c from congrArg nI hsi]
        refine mg_icmpN_ge C (tgt := 278) dX7_merge_227 (by decide) (by omega) (by omega) (fun c_227 => ?_) (fun c_227 => ?_)
        · refine mg_goto C (tgt := 400) dX7_merge_278 (by decide) ?_
          refine mg_aload_n C dX7_merge_400 rfl ?_
          refine mg_get C inT7 h_w6_om rfl 5 (by decide) kw_23 (Or.inl rfl) rfl dX7_merge_401 ?_
          refine mg_iload_n C dX7_merge_404 rfl ?_
          refine mg_aload_n C dX7_merge_405 rfl ?_
          refine mg_get C inT7 h_w6_om rfl 5 (by decide) kw_23 (Or.inl rfl) rfl dX7_merge_406 ?_
          refine mg_iload_n C dX7_merge_409 rfl ?_
          refine mg_ialdN C h_w6_ato (by omega) (by omega) dX7_merge_410 ?_
          rw [hto]
          refine mg_aload_n C dX7_merge_411 rfl ?_
          refine mg_get C inT7 h_w6_om rfl 5 (by decide) kw_23 (Or.inl rfl) rfl dX7_merge_412 ?_
          refine mg_iload_n C dX7_merge_415 rfl ?_
          refine mg_ialdN C h_w6_ato (by omega) (by omega) dX7_merge_416 ?_
          rw [gto]
          refine mg_iadd C (z := tot + tot2) dX7_merge_417 rfl ?_
          refine mg_iastN C h_w6_ato (by omega) (by omega) dX7_merge_418 (fun w7 e_w7 => ?_)
          have h_w7_om : w7 om = some (.inr (6, [.int (nI 0), .int (nI md), .ref aso, .ref asi, .ref ase, .ref ato, .ref amo, .ref alo, .ref aro, .ref asr])) := (congrFun e_w7 _).trans ((mwu_ne (mw_oa h_w6_om h_w6_ato)).trans h_w6_om)
          have h_w7_aso : w7 aso = some (eI cI 8 (lnF so)) := (congrFun e_w7 _).trans ((mwu_ne (tne t_aso t_ato (by decide))).trans h_w6_aso)
          have h_w7_asi : w7 asi = some (eI cI 8 (lnF si)) := (congrFun e_w7 _).trans ((mwu_ne (tne t_asi t_ato (by decide))).trans h_w6_asi)
          have h_w7_ase : w7 ase = some (eI cI 8 (lnF se)) := (congrFun e_w7 _).trans ((mwu_ne (tne t_ase t_ato (by decide))).trans h_w6_ase)
          have h_w7_ato : w7 ato = some (eI cI 8 (upd to s (tot + tot2))) := (congrFun e_w7 _).trans mwu_eq
          have h_w7_amo : w7 amo = some (eI cI 8 (lnF mo)) := (congrFun e_w7 _).trans ((mwu_ne (Ne.symm (tne t_ato t_amo (by decide)))).trans h_w6_amo)
          have h_w7_alo : w7 alo = some (eI cI 8 lo) := (congrFun e_w7 _).trans ((mwu_ne (Ne.symm (tne t_ato t_alo (by decide)))).trans h_w6_alo)
          have h_w7_aro : w7 aro = some (eI cI 9600 roz) := (congrFun e_w7 _).trans ((mwu_ne (Ne.symm (tne t_ato t_aro (by decide)))).trans h_w6_aro)
          have h_w7_asr : w7 asr = some (eI cI 1024 sr) := (congrFun e_w7 _).trans ((mwu_ne (Ne.symm (tne t_ato t_asr (by decide)))).trans h_w6_asr)
          have fr_w7 : ∀ zz : Nat, zz ≠ om → zz ≠ aro → zz ≠ ato → w7 zz = w zz := fun zz g0 g1 g2 => (congrFun e_w7 zz).trans ((mwu_ne g2).trans (fr_w6 zz g0 g1))
          refine mg_aload_n C dX7_merge_419 rfl ?_
          refine mg_get C inT7 h_w7_om rfl 6 (by decide) kw_24 (Or.inl rfl) rfl dX7_merge_420 ?_
          refine mg_iload_n C dX7_merge_423 rfl ?_
          refine mg_aload_n C dX7_merge_424 rfl ?_
          refine mg_get C inT7 h_w7_om rfl 6 (by decide) kw_24 (Or.inl rfl) rfl dX7_merge_425 ?_
          refine mg_iload_n C dX7_merge_428 rfl ?_
          refine mg_ialdN C h_w7_amo (by omega) (by omega) dX7_merge_429 ?_
          rw [show lnF mo s = nI mv from congrArg nI hmo]
          refine mg_aload_n C dX7_merge_430 rfl ?_
          refine mg_get C inT7 h_w7_om rfl 6 (by decide) kw_24 (Or.inl rfl) rfl dX7_merge_431 ?_
          refine mg_iload_n C dX7_merge_434 rfl ?_
          refine mg_ialdN C h_w7_amo (by omega) (by omega) dX7_merge_435 ?_
          rw [show lnF mo b = nI mv2 from congrArg nI gmo]
          refine mg_iadd C (z := nI (mv + mv2)) dX7_merge_436 (nI_add _ _) ?_
          refine mg_iastN C h_w7_amo (by omega) (by omega) dX7_merge_437 (fun w8 e_w8 => ?_)
          rw [upd_lnF] at e_w8
          have h_w8_om : w8 om = some (.inr (6, [.int (nI 0), .int (nI md), .ref aso, .ref asi, .ref ase, .ref ato, .ref amo, .ref alo, .ref aro, .ref asr])) := (congrFun e_w8 _).trans ((mwu_ne (mw_oa h_w7_om h_w7_amo)).trans h_w7_om)
          have h_w8_aso : w8 aso = some (eI cI 8 (lnF so)) := (congrFun e_w8 _).trans ((mwu_ne (tne t_aso t_amo (by decide))).trans h_w7_aso)
          have h_w8_asi : w8 asi = some (eI cI 8 (lnF si)) := (congrFun e_w8 _).trans ((mwu_ne (tne t_asi t_amo (by decide))).trans h_w7_asi)
          have h_w8_ase : w8 ase = some (eI cI 8 (lnF se)) := (congrFun e_w8 _).trans ((mwu_ne (tne t_ase t_amo (by decide))).trans h_w7_ase)
          have h_w8_ato : w8 ato = some (eI cI 8 (upd to s (tot + tot2))) := (congrFun e_w8 _).trans ((mwu_ne (tne t_ato t_amo (by decide))).trans h_w7_ato)
          have h_w8_amo : w8 amo = some (eI cI 8 (lnF (updN mo s (mv + mv2)))) := (congrFun e_w8 _).trans mwu_eq
          have h_w8_alo : w8 alo = some (eI cI 8 lo) := (congrFun e_w8 _).trans ((mwu_ne (Ne.symm (tne t_amo t_alo (by decide)))).trans h_w7_alo)
          have h_w8_aro : w8 aro = some (eI cI 9600 roz) := (congrFun e_w8 _).trans ((mwu_ne (Ne.symm (tne t_amo t_aro (by decide)))).trans h_w7_aro)
          have h_w8_asr : w8 asr = some (eI cI 1024 sr) := (congrFun e_w8 _).trans ((mwu_ne (Ne.symm (tne t_amo t_asr (by decide)))).trans h_w7_asr)
          have fr_w8 : ∀ zz : Nat, zz ≠ om → zz ≠ aro → zz ≠ ato → zz ≠ amo → w8 zz = w zz := fun zz g0 g1 g2 g3 => (congrFun e_w8 zz).trans ((mwu_ne g3).trans (fr_w7 zz g0 g1 g2))
          refine mg_aload_n C dX7_merge_438 rfl ?_
          refine mg_get C inT7 h_w8_om rfl 5 (by decide) kw_23 (Or.inl rfl) rfl dX7_merge_439 ?_
          refine mg_iload_n C dX7_merge_442 rfl ?_
          refine mg_ialdN C h_w8_ato (by omega) (by omega) dX7_merge_443 ?_
          rw [upd_same]
          refine mg_ldc C (v := nI 10000000) dX7_merge_444 kw_231 (by decide) ?_
          refine mg_iadd C (z := (tot + tot2) + (nI 10000000)) dX7_merge_446 rfl ?_
          have en : nz = c := by omega
          rw [en] at hvz
          exact hR _ _ _ _ dX7_merge_447 (Or.inr ⟨c_88, rfl, h_w8_om, h_w8_ato, h_w8_amo, ⟨roz, h_w8_aro, hoz, hvz⟩, fun z q0 q1 q2 q3 => fr_w8 z q0 q1 q2 q3⟩)
        · refine mg_aload_n C dX7_merge_230 rfl ?_
          refine mg_get C inT7 h_w6_om rfl 8 (by decide) kw_26 (Or.inl rfl) rfl dX7_merge_231 ?_
          refine mg_sipush C (v := nI 1200) dX7_merge_234 (by decide) ?_
          refine mg_iload_n C dX7_merge_237 rfl ?_
          refine mg_imul C (z := nI (1200 * s)) dX7_merge_238 (pk_mul _ _) ?_
          refine mg_bipush C (v := nI 100) dX7_merge_239 (by decide) ?_
          refine mg_iadd C (z := nI ((1200 * s) + 100)) dX7_merge_241 (nI_add _ _) ?_
          refine mg_iload C dX7_merge_242 rfl ?_
          refine mg_iadd C (z := nI (((1200 * s) + 100) + nz)) dX7_merge_244 (nI_add _ _) ?_
          refine mg_aload_n C dX7_merge_245 rfl ?_
          refine mg_get C inT7 h_w6_om rfl 8 (by decide) kw_26 (Or.inl rfl) rfl dX7_merge_246 ?_
          refine mg_sipush C (v := nI 1200) dX7_merge_249 (by decide) ?_
          refine mg_iload_n C dX7_merge_252 rfl ?_
          refine mg_imul C (z := nI (1200 * s)) dX7_merge_253 (pk_mul _ _) ?_
          refine mg_bipush C (v := nI 100) dX7_merge_254 (by decide) ?_
          refine mg_iadd C (z := nI ((1200 * s) + 100)) dX7_merge_256 (nI_add _ _) ?_
          refine mg_iload C dX7_merge_257 rfl ?_
          refine mg_iadd C (z := nI (((1200 * s) + 100) + nz)) dX7_merge_259 (nI_add _ _) ?_
          refine mg_ialdN C h_w6_aro (by omega) (by omega) dX7_merge_260 ?_
          rw [hvz nz (by omega)]
          refine mg_aload_n C dX7_merge_261 rfl ?_
          refine mg_get C inT7 h_w6_om rfl 8 (by decide) kw_26 (Or.inl rfl) rfl dX7_merge_262 ?_
          refine mg_iload_n C dX7_merge_265 rfl ?_
          refine mg_iload C dX7_merge_266 rfl ?_
          refine mg_iadd C (z := nI ((1200 * b + 100) + nz)) dX7_merge_268 (nI_add _ _) ?_
          refine mg_ialdN C h_w6_aro (by omega) (by omega) dX7_merge_269 ?_
          rw [(hv2.out hoz hab (by omega)) nz (by omega)]
          refine mg_ior C (z := (jnO f f2 nz nz) ||| (f2 nz)) dX7_merge_270 rfl ?_
          refine mg_iastN C h_w6_aro (by omega) (by omega) dX7_merge_271 (fun w9 e_w9 => ?_)
          have h_w9_om : w9 om = some (.inr (6, [.int (nI 0), .int (nI md), .ref aso, .ref asi, .ref ase, .ref ato, .ref amo, .ref alo, .ref aro, .ref asr])) := (congrFun e_w9 _).trans ((mwu_ne (mw_oa h_w6_om h_w6_aro)).trans h_w6_om)
          have h_w9_aso : w9 aso = some (eI cI 8 (lnF so)) := (congrFun e_w9 _).trans ((mwu_ne (tne t_aso t_aro (by decide))).trans h_w6_aso)
          have h_w9_asi : w9 asi = some (eI cI 8 (lnF si)) := (congrFun e_w9 _).trans ((mwu_ne (tne t_asi t_aro (by decide))).trans h_w6_asi)
          have h_w9_ase : w9 ase = some (eI cI 8 (lnF se)) := (congrFun e_w9 _).trans ((mwu_ne (tne t_ase t_aro (by decide))).trans h_w6_ase)
          have h_w9_ato : w9 ato = some (eI cI 8 to) := (congrFun e_w9 _).trans ((mwu_ne (tne t_ato t_aro (by decide))).trans h_w6_ato)
          have h_w9_amo : w9 amo = some (eI cI 8 (lnF mo)) := (congrFun e_w9 _).trans ((mwu_ne (tne t_amo t_aro (by decide))).trans h_w6_amo)
          have h_w9_alo : w9 alo = some (eI cI 8 lo) := (congrFun e_w9 _).trans ((mwu_ne (tne t_alo t_aro (by decide))).trans h_w6_alo)
          have h_w9_aro : w9 aro = some (eI cI 9600 (upd roz (((1200 * s) + 100) + nz) ((jnO f f2 nz nz) ||| (f2 nz)))) := (congrFun e_w9 _).trans mwu_eq
          have h_w9_asr : w9 asr = some (eI cI 1024 sr) := (congrFun e_w9 _).trans ((mwu_ne (Ne.symm (tne t_aro t_asr (by decide)))).trans h_w6_asr)
          have fr_w9 : ∀ zz : Nat, zz ≠ om → zz ≠ aro → w9 zz = w zz := fun zz g0 g1 => (congrFun e_w9 zz).trans ((mwu_ne g1).trans (fr_w6 zz g0 g1))
          have hvn := hvz.up (p := nz) (v := jnO f f2 nz nz ||| f2 nz)
          have hon := hoz.up (z := 1200 * s + 100 + nz) (v := jnO f f2 nz nz ||| f2 nz) (by omega) (by omega)
          refine mg_iinc C (v := nI (nz + 1)) (lv' := [(4, .int (nI (nz + 1))), (0, .ref om), (1, .int (nI s)), (2, .int (nI b)), (3, .int (nI (1200 * b + 100)))]) dX7_merge_272 rfl (ni_inc _) (by decide) rfl ?_
          refine mg_goto C (tgt := 219) dX7_merge_275 (by decide) ?_
          refine mg_sub (lv' := [(0, .ref om), (1, .int (nI s)), (2, .int (nI b)), (3, .int (nI (1200 * b + 100))), (4, .int (nI (nz + 1)))]) [1, 2, 3, 4, 0] rfl ?_
          exact ih219 ((nz + 1)) (upd roz (((1200 * s) + 100) + nz) ((jnO f f2 nz nz) ||| (f2 nz))) (by omega) (by omega) hvn hon w9 h_w9_om h_w9_aso h_w9_asi h_w9_ase h_w9_ato h_w9_amo h_w9_alo h_w9_aro h_w9_asr (fun zz g0 g1 => fr_w9 zz g0 g1)
    refine mg_sub (lv' := [(0, .ref om), (1, .int (nI s)), (2, .int (nI b)), (3, .int (nI ((1200 * b) + 100))), (4, .int (nI 0))]) [2, 3, 4, 1, 0] rfl ?_
    exact L219 (_ + 1) 0 ro (Nat.lt_succ_self _) (Nat.zero_le _) hv (outS.rf ro s) w1 h_w1_om h_w1_aso h_w1_asi h_w1_ase h_w1_ato h_w1_amo h_w1_alo h_w1_aro h_w1_asr (fun zz g0 g1 => fr_w1 zz g0)
  · refine mg_bipush C (v := (-3 : Int32)) dX7_merge_91 (by decide) ?_
    exact hR _ _ _ _ dX7_merge_93 (Or.inl ⟨c_88, rfl, h_w1_om, fun z q0 => fr_w1 z q0⟩)

set_option maxHeartbeats 4000000 in
set_option maxRecDepth 20000 in
theorem c_X7_merge_L (D : va_G) (cI cS : ClassId) (w : mwT) (om md aso asi ase ato amo alo aro asr : Nat) (th : Int32) (so : Nat → Nat) (si : Nat → Nat) (se : Nat → Nat) (to : Nat → Int32) (mo : Nat → Nat) (lo : Nat → Int32) (ro : Nat → Int32) (sr : Nat → Int32) (tg : Nat → Nat) (s h k sd mv : Nat) (tot : Int32) (f : Nat → Int32) (b h2 mv2 : Nat) (tot2 : Int32) (f2 : Nat → Int32) (hom : w om = some (.inr (6, [.int th, .int (nI md), .ref aso, .ref asi, .ref ase, .ref ato, .ref amo, .ref alo, .ref aro, .ref asr]))) (h_aso : w aso = some (eI cI 8 (lnF so))) (h_asi : w asi = some (eI cI 8 (lnF si))) (h_ase : w ase = some (eI cI 8 (lnF se))) (h_ato : w ato = some (eI cI 8 to)) (h_amo : w amo = some (eI cI 8 (lnF mo))) (h_alo : w alo = some (eI cI 8 lo)) (h_aro : w aro = some (eI cI 9600 ro)) (h_asr : w asr = some (eI cI 1024 sr)) (hmd : md ≤ 8) (hs : s < md) (hsd : sd ≤ 999) (hso : so s = 3) (hsi : si s = k) (hse : se s = sd) (hto : to s = tot) (hmo : mo s = mv) (hk1 : 2 ≤ k) (hk2 : k ≤ 32) (hh : h ≤ k) (hl : LsM ro s f h) (hlo : lo s = nI 0) (hb : b < md) (hab : s ≠ b) (gso : so b = 3) (gsi : si b = k) (gse : se b = sd) (gto : to b = tot2) (gmo : mo b = mv2) (hmv : mv ≤ 10000000) (hmv2 : mv2 ≤ 10000000) (hl2 : LsM ro b f2 h2) (hh2 : h2 ≤ k) (t_aso : tg aso = 1) (t_asi : tg asi = 2) (t_ase : tg ase = 3) (t_ato : tg ato = 4) (t_amo : tg amo = 5) (t_alo : tg alo = 6) (t_aro : tg aro = 7) (t_asr : tg asr = 8) : mMi yX7_merge cX7_merge 6 (some .int) (rmL 98) [.ref om, .int (nI s), .int (nI b)] D cI cS w (fun r w1 => (10000000 < mv + mv2 ∧ r = -3 ∧ w1 om = some (.inr (6, [.int (nI 0), .int (nI md), .ref aso, .ref asi, .ref ase, .ref ato, .ref amo, .ref alo, .ref aro, .ref asr])) ∧ ∀ z : Nat, z ≠ om → w1 z = w z) ∨ (mv + mv2 ≤ 10000000 ∧ r = tot + tot2 + nI 10000000 ∧ w1 om = some (.inr (6, [.int (nI 0), .int (nI md), .ref aso, .ref asi, .ref ase, .ref ato, .ref amo, .ref alo, .ref aro, .ref asr])) ∧ w1 ato = some (eI cI 8 (upd to s (tot + tot2))) ∧ w1 amo = some (eI cI 8 (lnF (updN mo s (mv + mv2)))) ∧ (∃ ro1 : Nat → Int32, w1 aro = some (eI cI 9600 ro1) ∧ outS ro ro1 s ∧ LsM ro1 s (jkU k f2 (f, h) h2).1 (jkU k f2 (f, h) h2).2) ∧ ∀ z : Nat, z ≠ om → z ≠ aro → z ≠ ato → z ≠ amo → w1 z = w z)) := by
  refine mMi.of (by decide) (Nat.le_of_ble_eq_true rfl) ?_
  intro X C hN hR
  have fr_w : ∀ zz : Nat, w zz = w zz := fun _ => rfl
  refine mg_sub (lv' := [(0, .ref om), (1, .int (nI s)), (2, .int (nI b))]) [0, 1, 2] rfl ?_
  have hs8 : s < 8 := by omega
  refine mg_aload_n C dX7_merge_0 rfl ?_
  refine mg_iconst C (v := nI 0) dX7_merge_1 (by decide) ?_
  refine mg_put C (fs' := [.int (nI 0), .int (nI md), .ref aso, .ref asi, .ref ase, .ref ato, .ref amo, .ref alo, .ref aro, .ref asr]) inT7 hom rfl 0 (by decide) kw_28 (Or.inl rfl) tyX7_ok nmX7 rfl rfl rfl rfl (Nat.le_of_ble_eq_true rfl) dX7_merge_2 (fun w1 e_w1 => ?_)
  have h_w1_om : w1 om = some (.inr (6, [.int (nI 0), .int (nI md), .ref aso, .ref asi, .ref ase, .ref ato, .ref amo, .ref alo, .ref aro, .ref asr])) := (congrFun e_w1 _).trans mwu_eq
  have h_w1_aso : w1 aso = some (eI cI 8 (lnF so)) := (congrFun e_w1 _).trans ((mwu_ne (mw_ao h_aso hom)).trans h_aso)
  have h_w1_asi : w1 asi = some (eI cI 8 (lnF si)) := (congrFun e_w1 _).trans ((mwu_ne (mw_ao h_asi hom)).trans h_asi)
  have h_w1_ase : w1 ase = some (eI cI 8 (lnF se)) := (congrFun e_w1 _).trans ((mwu_ne (mw_ao h_ase hom)).trans h_ase)
  have h_w1_ato : w1 ato = some (eI cI 8 to) := (congrFun e_w1 _).trans ((mwu_ne (mw_ao h_ato hom)).trans h_ato)
  have h_w1_amo : w1 amo = some (eI cI 8 (lnF mo)) := (congrFun e_w1 _).trans ((mwu_ne (mw_ao h_amo hom)).trans h_amo)
  have h_w1_alo : w1 alo = some (eI cI 8 lo) := (congrFun e_w1 _).trans ((mwu_ne (mw_ao h_alo hom)).trans h_alo)
  have h_w1_aro : w1 aro = some (eI cI 9600 ro) := (congrFun e_w1 _).trans ((mwu_ne (mw_ao h_aro hom)).trans h_aro)
  have h_w1_asr : w1 asr = some (eI cI 1024 sr) := (congrFun e_w1 _).trans ((mwu_ne (mw_ao h_asr hom)).trans h_asr)
  have fr_w1 : ∀ zz : Nat, zz ≠ om → w1 zz = w zz := fun zz g0 => (congrFun e_w1 zz).trans ((mwu_ne g0).trans (fr_w zz ))
  refine mg_aload_n C dX7_merge_5 rfl ?_
  refine mg_iload_n C dX7_merge_6 rfl ?_
  refine mg_callV_i C h_w1_om rfl (rest := []) (c_X7_none_in D cI cS w1 om md aso asi ase ato amo alo aro asr (nI 0)  s h_w1_om hmd hs) yq_X7_none kw_197 kw_198 kw_199 ⟨by decide, by decide⟩ ⟨Nat.le_of_ble_eq_true rfl, Nat.le_of_ble_eq_true rfl⟩ (Nat.le_of_ble_eq_true rfl) rfl rfl dX7_merge_7 (fun r2 w3 ⟨e_r2, e_w3⟩ => ?_)
  rw [e_w3, e_r2]
  refine mg_ifN_ne C (tgt := 71) dX7_merge_10 (by decide) (by decide) (fun c_10 => absurd c_10 (by decide)) (fun c_10 => ?_)
  refine mg_aload_n C dX7_merge_13 rfl ?_
  refine mg_iload_n C dX7_merge_14 rfl ?_
  refine mg_callV_i C h_w1_om rfl (rest := []) (c_X7_none_in D cI cS w1 om md aso asi ase ato amo alo aro asr (nI 0)  b h_w1_om hmd hb) yq_X7_none kw_197 kw_198 kw_199 ⟨by decide, by decide⟩ ⟨Nat.le_of_ble_eq_true rfl, Nat.le_of_ble_eq_true rfl⟩ (Nat.le_of_ble_eq_true rfl) rfl rfl dX7_merge_15 (fun r4 w5 ⟨e_r4, e_w5⟩ => ?_)
  rw [e_w5, e_r4]
  refine mg_ifN_ne C (tgt := 71) dX7_merge_18 (by decide) (by decide) (fun c_18 => absurd c_18 (by decide)) (fun c_18 => ?_)
  refine mg_iload_n C dX7_merge_21 rfl ?_
  refine mg_iload_n C dX7_merge_22 rfl ?_
  refine mg_icmpN_eq C (tgt := 71) dX7_merge_23 (by decide) (by omega) (by omega) (fun c_23 => absurd c_23 hab) (fun c_23 => ?_)
  refine mg_aload_n C dX7_merge_26 rfl ?_
  refine mg_get C inT7 h_w1_om rfl 2 (by decide) kw_20 (Or.inl rfl) rfl dX7_merge_27 ?_
  refine mg_iload_n C dX7_merge_30 rfl ?_
  refine mg_ialdN C h_w1_aso (by omega) (by omega) dX7_merge_31 ?_
  rw [show lnF so s = nI 3 from congrArg nI hso]
  refine mg_aload_n C dX7_merge_32 rfl ?_
  refine mg_get C inT7 h_w1_om rfl 2 (by decide) kw_20 (Or.inl rfl) rfl dX7_merge_33 ?_
  refine mg_iload_n C dX7_merge_36 rfl ?_
  refine mg_ialdN C h_w1_aso (by omega) (by omega) dX7_merge_37 ?_
  rw [show lnF so b = nI 3 from congrArg nI gso]
  refine mg_icmpN_ne C (tgt := 71) dX7_merge_38 (by decide) (by omega) (by omega) (fun c_38 => absurd rfl c_38) (fun c_38 => ?_)
  refine mg_aload_n C dX7_merge_41 rfl ?_
  refine mg_get C inT7 h_w1_om rfl 3 (by decide) kw_21 (Or.inl rfl) rfl dX7_merge_42 ?_
  refine mg_iload_n C dX7_merge_45 rfl ?_
  refine mg_ialdN C h_w1_asi (by omega) (by omega) dX7_merge_46 ?_
  rw [show lnF si s = nI k from congrArg nI hsi]
  refine mg_aload_n C dX7_merge_47 rfl ?_
  refine mg_get C inT7 h_w1_om rfl 3 (by decide) kw_21 (Or.inl rfl) rfl dX7_merge_48 ?_
  refine mg_iload_n C dX7_merge_51 rfl ?_
  refine mg_ialdN C h_w1_asi (by omega) (by omega) dX7_merge_52 ?_
  rw [show lnF si b = nI k from congrArg nI gsi]
  refine mg_icmpN_ne C (tgt := 71) dX7_merge_53 (by decide) (by omega) (by omega) (fun c_53 => absurd rfl c_53) (fun c_53 => ?_)
  refine mg_aload_n C dX7_merge_56 rfl ?_
  refine mg_get C inT7 h_w1_om rfl 4 (by decide) kw_22 (Or.inl rfl) rfl dX7_merge_57 ?_
  refine mg_iload_n C dX7_merge_60 rfl ?_
  refine mg_ialdN C h_w1_ase (by omega) (by omega) dX7_merge_61 ?_
  rw [show lnF se s = nI sd from congrArg nI hse]
  refine mg_aload_n C dX7_merge_62 rfl ?_
  refine mg_get C inT7 h_w1_om rfl 4 (by decide) kw_22 (Or.inl rfl) rfl dX7_merge_63 ?_
  refine mg_iload_n C dX7_merge_66 rfl ?_
  refine mg_ialdN C h_w1_ase (by omega) (by omega) dX7_merge_67 ?_
  rw [show lnF se b = nI sd from congrArg nI gse]
  refine mg_icmpN_eq C (tgt := 73) dX7_merge_68 (by decide) (by omega) (by omega) (fun c_68 => ?_) (fun c_68 => absurd rfl c_68)
  refine mg_aload_n C dX7_merge_73 rfl ?_
  refine mg_get C inT7 h_w1_om rfl 6 (by decide) kw_24 (Or.inl rfl) rfl dX7_merge_74 ?_
  refine mg_iload_n C dX7_merge_77 rfl ?_
  refine mg_ialdN C h_w1_amo (by omega) (by omega) dX7_merge_78 ?_
  rw [show lnF mo s = nI mv from congrArg nI hmo]
  refine mg_aload_n C dX7_merge_79 rfl ?_
  refine mg_get C inT7 h_w1_om rfl 6 (by decide) kw_24 (Or.inl rfl) rfl dX7_merge_80 ?_
  refine mg_iload_n C dX7_merge_83 rfl ?_
  refine mg_ialdN C h_w1_amo (by omega) (by omega) dX7_merge_84 ?_
  rw [show lnF mo b = nI mv2 from congrArg nI gmo]
  refine mg_iadd C (z := nI (mv + mv2)) dX7_merge_85 (nI_add _ _) ?_
  refine mg_ldc C (v := nI 10000000) dX7_merge_86 kw_231 (by decide) ?_
  refine mg_icmpN_le C (tgt := 94) dX7_merge_88 (by decide) (by omega) (by omega) (fun c_88 => ?_) (fun c_88 => ?_)
  · refine mg_sipush C (v := nI 1200) dX7_merge_94 (by decide) ?_
    refine mg_iload_n C dX7_merge_97 rfl ?_
    refine mg_imul C (z := nI (1200 * b)) dX7_merge_98 (pk_mul _ _) ?_
    refine mg_bipush C (v := nI 100) dX7_merge_99 (by decide) ?_
    refine mg_iadd C (z := nI ((1200 * b) + 100)) dX7_merge_101 (nI_add _ _) ?_
    refine mg_istore_n C (lv' := [(3, .int (nI ((1200 * b) + 100))), (0, .ref om), (1, .int (nI s)), (2, .int (nI b))]) dX7_merge_102 rfl (by decide) rfl ?_
    refine mg_aload_n C dX7_merge_103 rfl ?_
    refine mg_get C inT7 h_w1_om rfl 2 (by decide) kw_20 (Or.inl rfl) rfl dX7_merge_104 ?_
    refine mg_iload_n C dX7_merge_107 rfl ?_
    refine mg_ialdN C h_w1_aso (by omega) (by omega) dX7_merge_108 ?_
    rw [show lnF so s = nI 3 from congrArg nI hso]
    refine mg_tabIn C (tgt := 281) (off := 172) dX7_merge_109 (by decide) (by decide) rfl (by decide) ?_
    refine mg_iconst C (v := nI 0) dX7_merge_281 (by decide) ?_
    refine mg_istore C (lv' := [(4, .int (nI 0)), (3, .int (nI ((1200 * b) + 100))), (0, .ref om), (1, .int (nI s)), (2, .int (nI b))]) dX7_merge_282 (by decide) rfl ?_
    have L284 : ∀ (M284 : Nat) (nz : Nat) (roz : Nat → Int32), h2 - nz < M284 → (nz ≤ h2) → (LsM roz s (jkU k f2 (f, h) nz).1 (jkU k f2 (f, h) nz).2) → (outS ro roz s) → ∀ (w6 : mwT), w6 om = some (.inr (6, [.int (nI 0), .int (nI md), .ref aso, .ref asi, .ref ase, .ref ato, .ref amo, .ref alo, .ref aro, .ref asr])) → w6 aso = some (eI cI 8 (lnF so)) → w6 asi = some (eI cI 8 (lnF si)) → w6 ase = some (eI cI 8 (lnF se)) → w6 ato = some (eI cI 8 to) → w6 amo = some (eI cI 8 (lnF mo)) → w6 alo = some (eI cI 8 lo) → w6 aro = some (eI cI 9600 roz) → w6 asr = some (eI cI 1024 sr) → (∀ zz : Nat, zz ≠ om → zz ≠ aro → w6 zz = w zz) → mwG X 0 0 w6 [(0, .ref om), (1, .int (nI s)), (2, .int (nI b)), (3, .int (nI (1200 * b + 100))), (4, .int (nI nz))] [] 284 := by
      intro M284
      induction M284 with
      | zero => intro nz roz hm284; exact absurd hm284 (Nat.not_lt_zero _)
      | succ M284 ih284 =>
        intro nz roz hm284 hnz hvz hoz w6 h_w6_om h_w6_aso h_w6_asi h_w6_ase h_w6_ato h_w6_amo h_w6_alo h_w6_aro h_w6_asr fr_w6
        refine mg_iload C dX7_merge_284 rfl ?_
        refine mg_aload_n C dX7_merge_286 rfl ?_
        refine mg_iload_n C dX7_merge_287 rfl ?_
        refine mg_callV_i C h_w6_om rfl (rest := [.int (nI nz)]) (c_X7_many D cI cS w6 om md aso asi ase ato amo alo aro asr (nI 0) roz b h2 h_w6_om h_w6_aro (by omega) (hl2.out hoz hab (by omega)).1) yq_X7_many kw_340 kw_341 kw_342 ⟨by decide, by decide⟩ ⟨Nat.le_of_ble_eq_true rfl, Nat.le_of_ble_eq_true rfl⟩ (Nat.le_of_ble_eq_true rfl) rfl rfl dX7_merge_288 (fun r7 w8 ⟨e_r7, e_w8⟩ => ?_)
        rw [e_w8, e_r7]
        refine mg_icmpN_ge C (tgt := 314) dX7_merge_291 (by decide) (by omega) (by omega) (fun c_291 => ?_) (fun c_291 => ?_)
        · refine mg_goto C (tgt := 400) dX7_merge_314 (by decide) ?_
          refine mg_aload_n C dX7_merge_400 rfl ?_
          refine mg_get C inT7 h_w6_om rfl 5 (by decide) kw_23 (Or.inl rfl) rfl dX7_merge_401 ?_
          refine mg_iload_n C dX7_merge_404 rfl ?_
          refine mg_aload_n C dX7_merge_405 rfl ?_
          refine mg_get C inT7 h_w6_om rfl 5 (by decide) kw_23 (Or.inl rfl) rfl dX7_merge_406 ?_
          refine mg_iload_n C dX7_merge_409 rfl ?_
          refine mg_ialdN C h_w6_ato (by omega) (by omega) dX7_merge_410 ?_
          rw [hto]
          refine mg_aload_n C dX7_merge_411 rfl ?_
          refine mg_get C inT7 h_w6_om rfl 5 (by decide) kw_23 (Or.inl rfl) rfl dX7_merge_412 ?_
          refine mg_iload_n C dX7_merge_415 rfl ?_
          refine mg_ialdN C h_w6_ato (by omega) (by omega) dX7_merge_416 ?_
          rw [gto]
          refine mg_iadd C (z := tot + tot2) dX7_merge_417 rfl ?_
          refine mg_iastN C h_w6_ato (by omega) (by omega) dX7_merge_418 (fun w9 e_w9 => ?_)
          have h_w9_om : w9 om = some (.inr (6, [.int (nI 0), .int (nI md), .ref aso, .ref asi, .ref ase, .ref ato, .ref amo, .ref alo, .ref aro, .ref asr])) := (congrFun e_w9 _).trans ((mwu_ne (mw_oa h_w6_om h_w6_ato)).trans h_w6_om)
          have h_w9_aso : w9 aso = some (eI cI 8 (lnF so)) := (congrFun e_w9 _).trans ((mwu_ne (tne t_aso t_ato (by decide))).trans h_w6_aso)
          have h_w9_asi : w9 asi = some (eI cI 8 (lnF si)) := (congrFun e_w9 _).trans ((mwu_ne (tne t_asi t_ato (by decide))).trans h_w6_asi)
          have h_w9_ase : w9 ase = some (eI cI 8 (lnF se)) := (congrFun e_w9 _).trans ((mwu_ne (tne t_ase t_ato (by decide))).trans h_w6_ase)
          have h_w9_ato : w9 ato = some (eI cI 8 (upd to s (tot + tot2))) := (congrFun e_w9 _).trans mwu_eq
          have h_w9_amo : w9 amo = some (eI cI 8 (lnF mo)) := (congrFun e_w9 _).trans ((mwu_ne (Ne.symm (tne t_ato t_amo (by decide)))).trans h_w6_amo)
          have h_w9_alo : w9 alo = some (eI cI 8 lo) := (congrFun e_w9 _).trans ((mwu_ne (Ne.symm (tne t_ato t_alo (by decide)))).trans h_w6_alo)
          have h_w9_aro : w9 aro = some (eI cI 9600 roz) := (congrFun e_w9 _).trans ((mwu_ne (Ne.symm (tne t_ato t_aro (by decide)))).trans h_w6_aro)
          have h_w9_asr : w9 asr = some (eI cI 1024 sr) := (congrFun e_w9 _).trans ((mwu_ne (Ne.symm (tne t_ato t_asr (by decide)))).trans h_w6_asr)
          have fr_w9 : ∀ zz : Nat, zz ≠ om → zz ≠ aro → zz ≠ ato → w9 zz = w zz := fun zz g0 g1 g2 => (congrFun e_w9 zz).trans ((mwu_ne g2).trans (fr_w6 zz g0 g1))
          refine mg_aload_n C dX7_merge_419 rfl ?_
          refine mg_get C inT7 h_w9_om rfl 6 (by decide) kw_24 (Or.inl rfl) rfl dX7_merge_420 ?_
          refine mg_iload_n C dX7_merge_423 rfl ?_
          refine mg_aload_n C dX7_merge_424 rfl ?_
          refine mg_get C inT7 h_w9_om rfl 6 (by decide) kw_24 (Or.inl rfl) rfl dX7_merge_425 ?_
          refine mg_iload_n C dX7_merge_428 rfl ?_
          refine mg_ialdN C h_w9_amo (by omega) (by omega) dX7_merge_429 ?_
          rw [show lnF mo s = nI mv from congrArg nI hmo]
          refine mg_aload_n C dX7_merge_430 rfl ?_
          refine mg_get C inT7 h_w9_om rfl 6 (by decide) kw_24 (Or.inl rfl) rfl dX7_merge_431 ?_
          refine mg_iload_n C dX7_merge_434 rfl ?_
          refine mg_ialdN C h_w9_amo (by omega) (by omega) dX7_merge_435 ?_
          rw [show lnF mo b = nI mv2 from congrArg nI gmo]
          refine mg_iadd C (z := nI (mv + mv2)) dX7_merge_436 (nI_add _ _) ?_
          refine mg_iastN C h_w9_amo (by omega) (by omega) dX7_merge_437 (fun w10 e_w10 => ?_)
          rw [upd_lnF] at e_w10
          have h_w10_om : w10 om = some (.inr (6, [.int (nI 0), .int (nI md), .ref aso, .ref asi, .ref ase, .ref ato, .ref amo, .ref alo, .ref aro, .ref asr])) := (congrFun e_w10 _).trans ((mwu_ne (mw_oa h_w9_om h_w9_amo)).trans h_w9_om)
          have h_w10_aso : w10 aso = some (eI cI 8 (lnF so)) := (congrFun e_w10 _).trans ((mwu_ne (tne t_aso t_amo (by decide))).trans h_w9_aso)
          have h_w10_asi : w10 asi = some (eI cI 8 (lnF si)) := (congrFun e_w10 _).trans ((mwu_ne (tne t_asi t_amo (by decide))).trans h_w9_asi)
          have h_w10_ase : w10 ase = some (eI cI 8 (lnF se)) := (congrFun e_w10 _).trans ((mwu_ne (tne t_ase t_amo (by decide))).trans h_w9_ase)
          have h_w10_ato : w10 ato = some (eI cI 8 (upd to s (tot + tot2))) := (congrFun e_w10 _).trans ((mwu_ne (tne t_ato t_amo (by decide))).trans h_w9_ato)
          have h_w10_amo : w10 amo = some (eI cI 8 (lnF (updN mo s (mv + mv2)))) := (congrFun e_w10 _).trans mwu_eq
          have h_w10_alo : w10 alo = some (eI cI 8 lo) := (congrFun e_w10 _).trans ((mwu_ne (Ne.symm (tne t_amo t_alo (by decide)))).trans h_w9_alo)
          have h_w10_aro : w10 aro = some (eI cI 9600 roz) := (congrFun e_w10 _).trans ((mwu_ne (Ne.symm (tne t_amo t_aro (by decide)))).trans h_w9_aro)
          have h_w10_asr : w10 asr = some (eI cI 1024 sr) := (congrFun e_w10 _).trans ((mwu_ne (Ne.symm (tne t_amo t_asr (by decide)))).trans h_w9_asr)
          have fr_w10 : ∀ zz : Nat, zz ≠ om → zz ≠ aro → zz ≠ ato → zz ≠ amo → w10 zz = w zz := fun zz g0 g1 g2 g3 => (congrFun e_w10 zz).trans ((mwu_ne g3).trans (fr_w9 zz g0 g1 g2))
          refine mg_aload_n C dX7_merge_438 rfl ?_
          refine mg_get C inT7 h_w10_om rfl 5 (by decide) kw_23 (Or.inl rfl) rfl dX7_merge_439 ?_
          refine mg_iload_n C dX7_merge_442 rfl ?_
          refine mg_ialdN C h_w10_ato (by omega) (by omega) dX7_merge_443 ?_
          rw [upd_same]
          refine mg_ldc C (v := nI 10000000) dX7_merge_444 kw_231 (by decide) ?_
          refine mg_iadd C (z := (tot + tot2) + (nI 10000000)) dX7_merge_446 rfl ?_
          have en : nz = h2 := by omega
          rw [en] at hvz
          exact hR _ _ _ _ dX7_merge_447 (Or.inr ⟨c_88, rfl, h_w10_om, h_w10_ato, h_w10_amo, ⟨roz, h_w10_aro, hoz, hvz⟩, fun z q0 q1 q2 q3 => fr_w10 z q0 q1 q2 q3⟩)
        · refine mg_aload_n C dX7_merge_294 rfl ?_
          refine mg_iload_n C dX7_merge_295 rfl ?_
          refine mg_aload_n C dX7_merge_296 rfl ?_
          refine mg_get C inT7 h_w6_om rfl 8 (by decide) kw_26 (Or.inl rfl) rfl dX7_merge_297 ?_
          refine mg_iload_n C dX7_merge_300 rfl ?_
          refine mg_iload C dX7_merge_301 rfl ?_
          refine mg_iadd C (z := nI ((1200 * b + 100) + nz)) dX7_merge_303 (nI_add _ _) ?_
          refine mg_ialdN C h_w6_aro (by omega) (by omega) dX7_merge_304 ?_
          rw [(hl2.out hoz hab (by omega)).2 nz (by omega)]
          refine mg_callV_v C h_w6_om rfl (rest := []) (c_X7_keep D cI cS w6 om md aso asi ase ato amo alo aro asr (nI 0) roz si tg s (jkU k f2 (f, h) nz).2 k (jkU k f2 (f, h) nz).1 (f2 nz) h_w6_om h_w6_aro h_w6_asi hs8 hk1 hk2 (jkU_le (S := (f, h)) hh nz) hvz hsi t_aro t_asi) yq_X7_keep kw_364 kw_365 kw_366 ⟨by decide, by decide⟩ ⟨Nat.le_of_ble_eq_true rfl, Nat.le_of_ble_eq_true rfl⟩ (Nat.le_of_ble_eq_true rfl) rfl rfl dX7_merge_305 (fun w11 ⟨roq, xk11, hlq, hoq, xf11⟩ => ?_)
          have h_w11_om : w11 om = some (.inr (6, [.int (nI 0), .int (nI md), .ref aso, .ref asi, .ref ase, .ref ato, .ref amo, .ref alo, .ref aro, .ref asr])) := (xf11 om (mw_oa h_w6_om h_w6_aro)).trans h_w6_om
          have h_w11_aso : w11 aso = some (eI cI 8 (lnF so)) := (xf11 aso (tne t_aso t_aro (by decide))).trans h_w6_aso
          have h_w11_asi : w11 asi = some (eI cI 8 (lnF si)) := (xf11 asi (tne t_asi t_aro (by decide))).trans h_w6_asi
          have h_w11_ase : w11 ase = some (eI cI 8 (lnF se)) := (xf11 ase (tne t_ase t_aro (by decide))).trans h_w6_ase
          have h_w11_ato : w11 ato = some (eI cI 8 to) := (xf11 ato (tne t_ato t_aro (by decide))).trans h_w6_ato
          have h_w11_amo : w11 amo = some (eI cI 8 (lnF mo)) := (xf11 amo (tne t_amo t_aro (by decide))).trans h_w6_amo
          have h_w11_alo : w11 alo = some (eI cI 8 lo) := (xf11 alo (tne t_alo t_aro (by decide))).trans h_w6_alo
          have h_w11_asr : w11 asr = some (eI cI 1024 sr) := (xf11 asr (Ne.symm (tne t_aro t_asr (by decide)))).trans h_w6_asr
          have fr_w11 : ∀ zz : Nat, zz ≠ om → zz ≠ aro → w11 zz = w zz := fun zz g0 g1 => (xf11 zz g1).trans (fr_w6 zz g0 g1)
          refine mg_iinc C (v := nI (nz + 1)) (lv' := [(4, .int (nI (nz + 1))), (0, .ref om), (1, .int (nI s)), (2, .int (nI b)), (3, .int (nI (1200 * b + 100)))]) dX7_merge_308 rfl (ni_inc _) (by decide) rfl ?_
          refine mg_goto C (tgt := 284) dX7_merge_311 (by decide) ?_
          refine mg_sub (lv' := [(0, .ref om), (1, .int (nI s)), (2, .int (nI b)), (3, .int (nI (1200 * b + 100))), (4, .int (nI (nz + 1)))]) [1, 2, 3, 4, 0] rfl ?_
          exact ih284 ((nz + 1)) roq (by omega) (by omega) hlq (hoz.tr hoq) w11 h_w11_om h_w11_aso h_w11_asi h_w11_ase h_w11_ato h_w11_amo h_w11_alo xk11 h_w11_asr (fun zz g0 g1 => fr_w11 zz g0 g1)
    refine mg_sub (lv' := [(0, .ref om), (1, .int (nI s)), (2, .int (nI b)), (3, .int (nI ((1200 * b) + 100))), (4, .int (nI 0))]) [2, 3, 4, 1, 0] rfl ?_
    exact L284 (_ + 1) 0 ro (Nat.lt_succ_self _) (Nat.zero_le _) hl (outS.rf ro s) w1 h_w1_om h_w1_aso h_w1_asi h_w1_ase h_w1_ato h_w1_amo h_w1_alo h_w1_aro h_w1_asr (fun zz g0 g1 => fr_w1 zz g0)
  · refine mg_bipush C (v := (-3 : Int32)) dX7_merge_91 (by decide) ?_
    exact hR _ _ _ _ dX7_merge_93 (Or.inl ⟨c_88, rfl, h_w1_om, fun z q0 => fr_w1 z q0⟩)

set_option maxHeartbeats 4000000 in
set_option maxRecDepth 20000 in
theorem c_X7_merge_R (D : va_G) (cI cS : ClassId) (w : mwT) (om md aso asi ase ato amo alo aro asr : Nat) (th : Int32) (so : Nat → Nat) (si : Nat → Nat) (se : Nat → Nat) (to : Nat → Int32) (mo : Nat → Nat) (lo : Nat → Int32) (ro : Nat → Int32) (sr : Nat → Int32) (tg : Nat → Nat) (s k sd mv : Nat) (tot er : Int32) (f : Nat → Int32) (ln tr : Nat → Nat) (b mv2 e B : Nat) (tot2 er2 : Int32) (f2 : Nat → Int32) (ln2 tr2 : Nat → Nat) (hom : w om = some (.inr (6, [.int th, .int (nI md), .ref aso, .ref asi, .ref ase, .ref ato, .ref amo, .ref alo, .ref aro, .ref asr]))) (h_aso : w aso = some (eI cI 8 (lnF so))) (h_asi : w asi = some (eI cI 8 (lnF si))) (h_ase : w ase = some (eI cI 8 (lnF se))) (h_ato : w ato = some (eI cI 8 to)) (h_amo : w amo = some (eI cI 8 (lnF mo))) (h_alo : w alo = some (eI cI 8 lo)) (h_aro : w aro = some (eI cI 9600 ro)) (h_asr : w asr = some (eI cI 1024 sr)) (hmd : md ≤ 8) (hs : s < md) (hsd : sd ≤ 999) (hso : so s = 4) (hsi : si s = k) (hse : se s = sd) (hto : to s = tot) (hmo : mo s = mv) (hk1 : 4 ≤ k) (hk2 : k ≤ 32) (hln : ∀ c, c < 31 → ln c < k) (hr : RkM ro s k (f, ln, tr, er)) (hlo : lo s = er) (hb : b < md) (hab : s ≠ b) (gso : so b = 4) (gsi : si b = k) (gse : se b = sd) (gto : to b = tot2) (gmo : mo b = mv2) (hmv : mv ≤ 10000000) (hmv2 : mv2 ≤ 10000000) (hke : k = 2 * e) (he : 2 ≤ e) (hB : B < 2 ^ 31) (hok : rkOk k (f, ln, tr, er)) (hln2 : ∀ c, c < 31 → ln2 c < k) (hr2 : RkM ro b k (f2, ln2, tr2, er2)) (glo : lo b = er2) (hwt : wtS ln 31 + wtS ln2 31 ≤ B) (t_aso : tg aso = 1) (t_asi : tg asi = 2) (t_ase : tg ase = 3) (t_ato : tg ato = 4) (t_amo : tg amo = 5) (t_alo : tg alo = 6) (t_aro : tg aro = 7) (t_asr : tg asr = 8) : mMi yX7_merge cX7_merge 6 (some .int) (rmL 98) [.ref om, .int (nI s), .int (nI b)] D cI cS w (fun r w1 => (10000000 < mv + mv2 ∧ r = -3 ∧ w1 om = some (.inr (6, [.int (nI 0), .int (nI md), .ref aso, .ref asi, .ref ase, .ref ato, .ref amo, .ref alo, .ref aro, .ref asr])) ∧ ∀ z : Nat, z ≠ om → w1 z = w z) ∨ (mv + mv2 ≤ 10000000 ∧ r = tot + tot2 + nI 10000000 ∧ w1 om = some (.inr (6, [.int (nI 0), .int (nI md), .ref aso, .ref asi, .ref ase, .ref ato, .ref amo, .ref alo, .ref aro, .ref asr])) ∧ w1 ato = some (eI cI 8 (upd to s (tot + tot2))) ∧ w1 amo = some (eI cI 8 (lnF (updN mo s (mv + mv2)))) ∧ (∃ ro1 : Nat → Int32, w1 aro = some (eI cI 9600 ro1) ∧ outS ro ro1 s ∧ RkM ro1 s k (joR k f2 ln2 (f, ln, tr, er) 31) ∧ w1 alo = some (eI cI 8 (upd lo s ((joR k f2 ln2 (f, ln, tr, er) 31).2.2.2 + er2))) ∧ ∃ sr1 : Nat → Int32, w1 asr = some (eI cI 1024 sr1)) ∧ ∀ z : Nat, z ≠ om → z ≠ aro → z ≠ asr → z ≠ alo → z ≠ ato → z ≠ amo → w1 z = w z)) := by
  refine mMi.of (by decide) (Nat.le_of_ble_eq_true rfl) ?_
  intro X C hN hR
  have fr_w : ∀ zz : Nat, w zz = w zz := fun _ => rfl
  refine mg_sub (lv' := [(0, .ref om), (1, .int (nI s)), (2, .int (nI b))]) [0, 1, 2] rfl ?_
  have hs8 : s < 8 := by omega
  refine mg_aload_n C dX7_merge_0 rfl ?_
  refine mg_iconst C (v := nI 0) dX7_merge_1 (by decide) ?_
  refine mg_put C (fs' := [.int (nI 0), .int (nI md), .ref aso, .ref asi, .ref ase, .ref ato, .ref amo, .ref alo, .ref aro, .ref asr]) inT7 hom rfl 0 (by decide) kw_28 (Or.inl rfl) tyX7_ok nmX7 rfl rfl rfl rfl (Nat.le_of_ble_eq_true rfl) dX7_merge_2 (fun w1 e_w1 => ?_)
  have h_w1_om : w1 om = some (.inr (6, [.int (nI 0), .int (nI md), .ref aso, .ref asi, .ref ase, .ref ato, .ref amo, .ref alo, .ref aro, .ref asr])) := (congrFun e_w1 _).trans mwu_eq
  have h_w1_aso : w1 aso = some (eI cI 8 (lnF so)) := (congrFun e_w1 _).trans ((mwu_ne (mw_ao h_aso hom)).trans h_aso)
  have h_w1_asi : w1 asi = some (eI cI 8 (lnF si)) := (congrFun e_w1 _).trans ((mwu_ne (mw_ao h_asi hom)).trans h_asi)
  have h_w1_ase : w1 ase = some (eI cI 8 (lnF se)) := (congrFun e_w1 _).trans ((mwu_ne (mw_ao h_ase hom)).trans h_ase)
  have h_w1_ato : w1 ato = some (eI cI 8 to) := (congrFun e_w1 _).trans ((mwu_ne (mw_ao h_ato hom)).trans h_ato)
  have h_w1_amo : w1 amo = some (eI cI 8 (lnF mo)) := (congrFun e_w1 _).trans ((mwu_ne (mw_ao h_amo hom)).trans h_amo)
  have h_w1_alo : w1 alo = some (eI cI 8 lo) := (congrFun e_w1 _).trans ((mwu_ne (mw_ao h_alo hom)).trans h_alo)
  have h_w1_aro : w1 aro = some (eI cI 9600 ro) := (congrFun e_w1 _).trans ((mwu_ne (mw_ao h_aro hom)).trans h_aro)
  have h_w1_asr : w1 asr = some (eI cI 1024 sr) := (congrFun e_w1 _).trans ((mwu_ne (mw_ao h_asr hom)).trans h_asr)
  have fr_w1 : ∀ zz : Nat, zz ≠ om → w1 zz = w zz := fun zz g0 => (congrFun e_w1 zz).trans ((mwu_ne g0).trans (fr_w zz ))
  refine mg_aload_n C dX7_merge_5 rfl ?_
  refine mg_iload_n C dX7_merge_6 rfl ?_
  refine mg_callV_i C h_w1_om rfl (rest := []) (c_X7_none_in D cI cS w1 om md aso asi ase ato amo alo aro asr (nI 0)  s h_w1_om hmd hs) yq_X7_none kw_197 kw_198 kw_199 ⟨by (dsimp only; omega), by (dsimp only; omega)⟩ ⟨Nat.le_of_ble_eq_true rfl, Nat.le_of_ble_eq_true rfl⟩ (Nat.le_of_ble_eq_true rfl) rfl rfl dX7_merge_7 (fun r2 w3 ⟨e_r2, e_w3⟩ => ?_)
  rw [e_w3, e_r2]
  refine mg_ifN_ne C (tgt := 71) dX7_merge_10 (by decide) (by decide) (fun c_10 => absurd c_10 (by decide)) (fun c_10 => ?_)
  refine mg_aload_n C dX7_merge_13 rfl ?_
  refine mg_iload_n C dX7_merge_14 rfl ?_
  refine mg_callV_i C h_w1_om rfl (rest := []) (c_X7_none_in D cI cS w1 om md aso asi ase ato amo alo aro asr (nI 0)  b h_w1_om hmd hb) yq_X7_none kw_197 kw_198 kw_199 ⟨by (dsimp only; omega), by (dsimp only; omega)⟩ ⟨Nat.le_of_ble_eq_true rfl, Nat.le_of_ble_eq_true rfl⟩ (Nat.le_of_ble_eq_true rfl) rfl rfl dX7_merge_15 (fun r4 w5 ⟨e_r4, e_w5⟩ => ?_)
  rw [e_w5, e_r4]
  refine mg_ifN_ne C (tgt := 71) dX7_merge_18 (by decide) (by decide) (fun c_18 => absurd c_18 (by decide)) (fun c_18 => ?_)
  refine mg_iload_n C dX7_merge_21 rfl ?_
  refine mg_iload_n C dX7_merge_22 rfl ?_
  refine mg_icmpN_eq C (tgt := 71) dX7_merge_23 (by decide) (by omega) (by omega) (fun c_23 => absurd c_23 hab) (fun c_23 => ?_)
  refine mg_aload_n C dX7_merge_26 rfl ?_
  refine mg_get C inT7 h_w1_om rfl 2 (by decide) kw_20 (Or.inl rfl) rfl dX7_merge_27 ?_
  refine mg_iload_n C dX7_merge_30 rfl ?_
  refine mg_ialdN C h_w1_aso (by omega) (by omega) dX7_merge_31 ?_
  rw [show lnF so s = nI 4 from congrArg nI hso]
  refine mg_aload_n C dX7_merge_32 rfl ?_
  refine mg_get C inT7 h_w1_om rfl 2 (by decide) kw_20 (Or.inl rfl) rfl dX7_merge_33 ?_
  refine mg_iload_n C dX7_merge_36 rfl ?_
  refine mg_ialdN C h_w1_aso (by omega) (by omega) dX7_merge_37 ?_
  rw [show lnF so b = nI 4 from congrArg nI gso]
  refine mg_icmpN_ne C (tgt := 71) dX7_merge_38 (by decide) (by omega) (by omega) (fun c_38 => absurd rfl c_38) (fun c_38 => ?_)
  refine mg_aload_n C dX7_merge_41 rfl ?_
  refine mg_get C inT7 h_w1_om rfl 3 (by decide) kw_21 (Or.inl rfl) rfl dX7_merge_42 ?_
  refine mg_iload_n C dX7_merge_45 rfl ?_
  refine mg_ialdN C h_w1_asi (by omega) (by omega) dX7_merge_46 ?_
  rw [show lnF si s = nI k from congrArg nI hsi]
  refine mg_aload_n C dX7_merge_47 rfl ?_
  refine mg_get C inT7 h_w1_om rfl 3 (by decide) kw_21 (Or.inl rfl) rfl dX7_merge_48 ?_
  refine mg_iload_n C dX7_merge_51 rfl ?_
  refine mg_ialdN C h_w1_asi (by omega) (by omega) dX7_merge_52 ?_
  rw [show lnF si b = nI k from congrArg nI gsi]
  refine mg_icmpN_ne C (tgt := 71) dX7_merge_53 (by decide) (by omega) (by omega) (fun c_53 => absurd rfl c_53) (fun c_53 => ?_)
  refine mg_aload_n C dX7_merge_56 rfl ?_
  refine mg_get C inT7 h_w1_om rfl 4 (by decide) kw_22 (Or.inl rfl) rfl dX7_merge_57 ?_
  refine mg_iload_n C dX7_merge_60 rfl ?_
  refine mg_ialdN C h_w1_ase (by omega) (by omega) dX7_merge_61 ?_
  rw [show lnF se s = nI sd from congrArg nI hse]
  refine mg_aload_n C dX7_merge_62 rfl ?_
  refine mg_get C inT7 h_w1_om rfl 4 (by decide) kw_22 (Or.inl rfl) rfl dX7_merge_63 ?_
  refine mg_iload_n C dX7_merge_66 rfl ?_
  refine mg_ialdN C h_w1_ase (by omega) (by omega) dX7_merge_67 ?_
  rw [show lnF se b = nI sd from congrArg nI gse]
  refine mg_icmpN_eq C (tgt := 73) dX7_merge_68 (by decide) (by omega) (by omega) (fun c_68 => ?_) (fun c_68 => absurd rfl c_68)
  refine mg_aload_n C dX7_merge_73 rfl ?_
  refine mg_get C inT7 h_w1_om rfl 6 (by decide) kw_24 (Or.inl rfl) rfl dX7_merge_74 ?_
  refine mg_iload_n C dX7_merge_77 rfl ?_
  refine mg_ialdN C h_w1_amo (by omega) (by omega) dX7_merge_78 ?_
  rw [show lnF mo s = nI mv from congrArg nI hmo]
  refine mg_aload_n C dX7_merge_79 rfl ?_
  refine mg_get C inT7 h_w1_om rfl 6 (by decide) kw_24 (Or.inl rfl) rfl dX7_merge_80 ?_
  refine mg_iload_n C dX7_merge_83 rfl ?_
  refine mg_ialdN C h_w1_amo (by omega) (by omega) dX7_merge_84 ?_
  rw [show lnF mo b = nI mv2 from congrArg nI gmo]
  refine mg_iadd C (z := nI (mv + mv2)) dX7_merge_85 (nI_add _ _) ?_
  refine mg_ldc C (v := nI 10000000) dX7_merge_86 kw_231 (by decide) ?_
  refine mg_icmpN_le C (tgt := 94) dX7_merge_88 (by decide) (by omega) (by omega) (fun c_88 => ?_) (fun c_88 => ?_)
  · refine mg_sipush C (v := nI 1200) dX7_merge_94 (by decide) ?_
    refine mg_iload_n C dX7_merge_97 rfl ?_
    refine mg_imul C (z := nI (1200 * b)) dX7_merge_98 (pk_mul _ _) ?_
    refine mg_bipush C (v := nI 100) dX7_merge_99 (by decide) ?_
    refine mg_iadd C (z := nI ((1200 * b) + 100)) dX7_merge_101 (nI_add _ _) ?_
    refine mg_istore_n C (lv' := [(3, .int (nI ((1200 * b) + 100))), (0, .ref om), (1, .int (nI s)), (2, .int (nI b))]) dX7_merge_102 rfl (by decide) rfl ?_
    refine mg_aload_n C dX7_merge_103 rfl ?_
    refine mg_get C inT7 h_w1_om rfl 2 (by decide) kw_20 (Or.inl rfl) rfl dX7_merge_104 ?_
    refine mg_iload_n C dX7_merge_107 rfl ?_
    refine mg_ialdN C h_w1_aso (by omega) (by omega) dX7_merge_108 ?_
    rw [show lnF so s = nI 4 from congrArg nI hso]
    refine mg_tabOut C (tgt := 317) dX7_merge_109 (by decide) (by decide) ?_
    refine mg_iconst C (v := nI 0) dX7_merge_317 (by decide) ?_
    refine mg_istore C (lv' := [(4, .int (nI 0)), (3, .int (nI ((1200 * b) + 100))), (0, .ref om), (1, .int (nI s)), (2, .int (nI b))]) dX7_merge_318 (by decide) rfl ?_
    have h8 : w1 alo = some (eI cI 8 (upd lo s (joR k f2 ln2 (f, ln, tr, er) 0).2.2.2)) := by rw [h_w1_alo]; exact congrArg (fun q => some (eI cI 8 q)) (by show lo = upd lo s er; rw [← hlo, upd_self])
    have L320 : ∀ (M320 : Nat) (bz : Nat) (roy : Nat → Int32) (sry : Nat → Int32), 31 - bz < M320 → (bz ≤ 31) → (RkM roy s k (joR k f2 ln2 (f, ln, tr, er) bz)) → (outS ro roy s) → ∀ (w6 : mwT), w6 om = some (.inr (6, [.int (nI 0), .int (nI md), .ref aso, .ref asi, .ref ase, .ref ato, .ref amo, .ref alo, .ref aro, .ref asr])) → w6 aso = some (eI cI 8 (lnF so)) → w6 asi = some (eI cI 8 (lnF si)) → w6 ase = some (eI cI 8 (lnF se)) → w6 ato = some (eI cI 8 to) → w6 amo = some (eI cI 8 (lnF mo)) → w6 alo = some (eI cI 8 (upd lo s (joR k f2 ln2 (f, ln, tr, er) bz).2.2.2)) → w6 aro = some (eI cI 9600 roy) → w6 asr = some (eI cI 1024 sry) → (∀ zz : Nat, zz ≠ om → zz ≠ aro → zz ≠ asr → zz ≠ alo → w6 zz = w zz) → mwG X 0 0 w6 [(0, .ref om), (1, .int (nI s)), (2, .int (nI b)), (3, .int (nI (1200 * b + 100))), (4, .int (nI bz))] [] 320 := by
      intro M320
      induction M320 with
      | zero => intro bz roy sry hm320; exact absurd hm320 (Nat.not_lt_zero _)
      | succ M320 ih320 =>
        intro bz roy sry hm320 hbz hry hoy w6 h_w6_om h_w6_aso h_w6_asi h_w6_ase h_w6_ato h_w6_amo h_w6_alo h_w6_aro h_w6_asr fr_w6
        refine mg_iload C dX7_merge_320 rfl ?_
        refine mg_bipush C (v := nI 31) dX7_merge_322 (by decide) ?_
        refine mg_icmpN_ge C (tgt := 381) dX7_merge_324 (by decide) (by omega) (by omega) (fun c_324 => ?_) (fun c_324 => ?_)
        · have eb : bz = 31 := by omega
          rw [eb] at hry
          rw [eb] at h_w6_alo
          refine mg_aload_n C dX7_merge_381 rfl ?_
          refine mg_get C inT7 h_w6_om rfl 7 (by decide) kw_25 (Or.inl rfl) rfl dX7_merge_382 ?_
          refine mg_iload_n C dX7_merge_385 rfl ?_
          refine mg_aload_n C dX7_merge_386 rfl ?_
          refine mg_get C inT7 h_w6_om rfl 7 (by decide) kw_25 (Or.inl rfl) rfl dX7_merge_387 ?_
          refine mg_iload_n C dX7_merge_390 rfl ?_
          refine mg_ialdN C h_w6_alo (by omega) (by omega) dX7_merge_391 ?_
          rw [upd_same]
          refine mg_aload_n C dX7_merge_392 rfl ?_
          refine mg_get C inT7 h_w6_om rfl 7 (by decide) kw_25 (Or.inl rfl) rfl dX7_merge_393 ?_
          refine mg_iload_n C dX7_merge_396 rfl ?_
          refine mg_ialdN C h_w6_alo (by omega) (by omega) dX7_merge_397 ?_
          rw [show upd lo s (joR k f2 ln2 (f, ln, tr, er) 31).2.2.2 b = er2 from (upd_ne2 (Ne.symm hab)).trans glo]
          refine mg_iadd C (z := ((joR k f2 ln2 (f, ln, tr, er) 31).2.2.2) + er2) dX7_merge_398 rfl ?_
          refine mg_iastN C h_w6_alo (by omega) (by omega) dX7_merge_399 (fun w7 e_w7 => ?_)
          have h_w7_om : w7 om = some (.inr (6, [.int (nI 0), .int (nI md), .ref aso, .ref asi, .ref ase, .ref ato, .ref amo, .ref alo, .ref aro, .ref asr])) := (congrFun e_w7 _).trans ((mwu_ne (mw_oa h_w6_om h_w6_alo)).trans h_w6_om)
          have h_w7_aso : w7 aso = some (eI cI 8 (lnF so)) := (congrFun e_w7 _).trans ((mwu_ne (tne t_aso t_alo (by decide))).trans h_w6_aso)
          have h_w7_asi : w7 asi = some (eI cI 8 (lnF si)) := (congrFun e_w7 _).trans ((mwu_ne (tne t_asi t_alo (by decide))).trans h_w6_asi)
          have h_w7_ase : w7 ase = some (eI cI 8 (lnF se)) := (congrFun e_w7 _).trans ((mwu_ne (tne t_ase t_alo (by decide))).trans h_w6_ase)
          have h_w7_ato : w7 ato = some (eI cI 8 to) := (congrFun e_w7 _).trans ((mwu_ne (tne t_ato t_alo (by decide))).trans h_w6_ato)
          have h_w7_amo : w7 amo = some (eI cI 8 (lnF mo)) := (congrFun e_w7 _).trans ((mwu_ne (tne t_amo t_alo (by decide))).trans h_w6_amo)
          have h_w7_alo : w7 alo = some (eI cI 8 (upd (upd lo s (joR k f2 ln2 (f, ln, tr, er) 31).2.2.2) s (((joR k f2 ln2 (f, ln, tr, er) 31).2.2.2) + er2))) := (congrFun e_w7 _).trans mwu_eq
          have h_w7_aro : w7 aro = some (eI cI 9600 roy) := (congrFun e_w7 _).trans ((mwu_ne (Ne.symm (tne t_alo t_aro (by decide)))).trans h_w6_aro)
          have h_w7_asr : w7 asr = some (eI cI 1024 sry) := (congrFun e_w7 _).trans ((mwu_ne (Ne.symm (tne t_alo t_asr (by decide)))).trans h_w6_asr)
          have fr_w7 : ∀ zz : Nat, zz ≠ om → zz ≠ aro → zz ≠ asr → zz ≠ alo → w7 zz = w zz := fun zz g0 g1 g2 g3 => (congrFun e_w7 zz).trans ((mwu_ne g3).trans (fr_w6 zz g0 g1 g2 g3))
          rw [upd_upd] at h_w7_alo
          refine mg_aload_n C dX7_merge_400 rfl ?_
          refine mg_get C inT7 h_w7_om rfl 5 (by decide) kw_23 (Or.inl rfl) rfl dX7_merge_401 ?_
          refine mg_iload_n C dX7_merge_404 rfl ?_
          refine mg_aload_n C dX7_merge_405 rfl ?_
          refine mg_get C inT7 h_w7_om rfl 5 (by decide) kw_23 (Or.inl rfl) rfl dX7_merge_406 ?_
          refine mg_iload_n C dX7_merge_409 rfl ?_
          refine mg_ialdN C h_w7_ato (by omega) (by omega) dX7_merge_410 ?_
          rw [hto]
          refine mg_aload_n C dX7_merge_411 rfl ?_
          refine mg_get C inT7 h_w7_om rfl 5 (by decide) kw_23 (Or.inl rfl) rfl dX7_merge_412 ?_
          refine mg_iload_n C dX7_merge_415 rfl ?_
          refine mg_ialdN C h_w7_ato (by omega) (by omega) dX7_merge_416 ?_
          rw [gto]
          refine mg_iadd C (z := tot + tot2) dX7_merge_417 rfl ?_
          refine mg_iastN C h_w7_ato (by omega) (by omega) dX7_merge_418 (fun w8 e_w8 => ?_)
          have h_w8_om : w8 om = some (.inr (6, [.int (nI 0), .int (nI md), .ref aso, .ref asi, .ref ase, .ref ato, .ref amo, .ref alo, .ref aro, .ref asr])) := (congrFun e_w8 _).trans ((mwu_ne (mw_oa h_w7_om h_w7_ato)).trans h_w7_om)
          have h_w8_aso : w8 aso = some (eI cI 8 (lnF so)) := (congrFun e_w8 _).trans ((mwu_ne (tne t_aso t_ato (by decide))).trans h_w7_aso)
          have h_w8_asi : w8 asi = some (eI cI 8 (lnF si)) := (congrFun e_w8 _).trans ((mwu_ne (tne t_asi t_ato (by decide))).trans h_w7_asi)
          have h_w8_ase : w8 ase = some (eI cI 8 (lnF se)) := (congrFun e_w8 _).trans ((mwu_ne (tne t_ase t_ato (by decide))).trans h_w7_ase)
          have h_w8_ato : w8 ato = some (eI cI 8 (upd to s (tot + tot2))) := (congrFun e_w8 _).trans mwu_eq
          have h_w8_amo : w8 amo = some (eI cI 8 (lnF mo)) := (congrFun e_w8 _).trans ((mwu_ne (Ne.symm (tne t_ato t_amo (by decide)))).trans h_w7_amo)
          have h_w8_alo : w8 alo = some (eI cI 8 (upd lo s ((joR k f2 ln2 (f, ln, tr, er) 31).2.2.2 + er2))) := (congrFun e_w8 _).trans ((mwu_ne (Ne.symm (tne t_ato t_alo (by decide)))).trans h_w7_alo)
          have h_w8_aro : w8 aro = some (eI cI 9600 roy) := (congrFun e_w8 _).trans ((mwu_ne (Ne.symm (tne t_ato t_aro (by decide)))).trans h_w7_aro)
          have h_w8_asr : w8 asr = some (eI cI 1024 sry) := (congrFun e_w8 _).trans ((mwu_ne (Ne.symm (tne t_ato t_asr (by decide)))).trans h_w7_asr)
          have fr_w8 : ∀ zz : Nat, zz ≠ om → zz ≠ aro → zz ≠ asr → zz ≠ alo → zz ≠ ato → w8 zz = w zz := fun zz g0 g1 g2 g3 g4 => (congrFun e_w8 zz).trans ((mwu_ne g4).trans (fr_w7 zz g0 g1 g2 g3))
          refine mg_aload_n C dX7_merge_419 rfl ?_
          refine mg_get C inT7 h_w8_om rfl 6 (by decide) kw_24 (Or.inl rfl) rfl dX7_merge_420 ?_
          refine mg_iload_n C dX7_merge_423 rfl ?_
          refine mg_aload_n C dX7_merge_424 rfl ?_
          refine mg_get C inT7 h_w8_om rfl 6 (by decide) kw_24 (Or.inl rfl) rfl dX7_merge_425 ?_
          refine mg_iload_n C dX7_merge_428 rfl ?_
          refine mg_ialdN C h_w8_amo (by omega) (by omega) dX7_merge_429 ?_
          rw [show lnF mo s = nI mv from congrArg nI hmo]
          refine mg_aload_n C dX7_merge_430 rfl ?_
          refine mg_get C inT7 h_w8_om rfl 6 (by decide) kw_24 (Or.inl rfl) rfl dX7_merge_431 ?_
          refine mg_iload_n C dX7_merge_434 rfl ?_
          refine mg_ialdN C h_w8_amo (by omega) (by omega) dX7_merge_435 ?_
          rw [show lnF mo b = nI mv2 from congrArg nI gmo]
          refine mg_iadd C (z := nI (mv + mv2)) dX7_merge_436 (nI_add _ _) ?_
          refine mg_iastN C h_w8_amo (by omega) (by omega) dX7_merge_437 (fun w9 e_w9 => ?_)
          rw [upd_lnF] at e_w9
          have h_w9_om : w9 om = some (.inr (6, [.int (nI 0), .int (nI md), .ref aso, .ref asi, .ref ase, .ref ato, .ref amo, .ref alo, .ref aro, .ref asr])) := (congrFun e_w9 _).trans ((mwu_ne (mw_oa h_w8_om h_w8_amo)).trans h_w8_om)
          have h_w9_aso : w9 aso = some (eI cI 8 (lnF so)) := (congrFun e_w9 _).trans ((mwu_ne (tne t_aso t_amo (by decide))).trans h_w8_aso)
          have h_w9_asi : w9 asi = some (eI cI 8 (lnF si)) := (congrFun e_w9 _).trans ((mwu_ne (tne t_asi t_amo (by decide))).trans h_w8_asi)
          have h_w9_ase : w9 ase = some (eI cI 8 (lnF se)) := (congrFun e_w9 _).trans ((mwu_ne (tne t_ase t_amo (by decide))).trans h_w8_ase)
          have h_w9_ato : w9 ato = some (eI cI 8 (upd to s (tot + tot2))) := (congrFun e_w9 _).trans ((mwu_ne (tne t_ato t_amo (by decide))).trans h_w8_ato)
          have h_w9_amo : w9 amo = some (eI cI 8 (lnF (updN mo s (mv + mv2)))) := (congrFun e_w9 _).trans mwu_eq
          have h_w9_alo : w9 alo = some (eI cI 8 (upd lo s ((joR k f2 ln2 (f, ln, tr, er) 31).2.2.2 + er2))) := (congrFun e_w9 _).trans ((mwu_ne (Ne.symm (tne t_amo t_alo (by decide)))).trans h_w8_alo)
          have h_w9_aro : w9 aro = some (eI cI 9600 roy) := (congrFun e_w9 _).trans ((mwu_ne (Ne.symm (tne t_amo t_aro (by decide)))).trans h_w8_aro)
          have h_w9_asr : w9 asr = some (eI cI 1024 sry) := (congrFun e_w9 _).trans ((mwu_ne (Ne.symm (tne t_amo t_asr (by decide)))).trans h_w8_asr)
          have fr_w9 : ∀ zz : Nat, zz ≠ om → zz ≠ aro → zz ≠ asr → zz ≠ alo → zz ≠ ato → zz ≠ amo → w9 zz = w zz := fun zz g0 g1 g2 g3 g4 g5 => (congrFun e_w9 zz).trans ((mwu_ne g5).trans (fr_w8 zz g0 g1 g2 g3 g4))
          refine mg_aload_n C dX7_merge_438 rfl ?_
          refine mg_get C inT7 h_w9_om rfl 5 (by decide) kw_23 (Or.inl rfl) rfl dX7_merge_439 ?_
          refine mg_iload_n C dX7_merge_442 rfl ?_
          refine mg_ialdN C h_w9_ato (by omega) (by omega) dX7_merge_443 ?_
          rw [upd_same]
          refine mg_ldc C (v := nI 10000000) dX7_merge_444 kw_231 (by decide) ?_
          refine mg_iadd C (z := (tot + tot2) + (nI 10000000)) dX7_merge_446 rfl ?_
          exact hR _ _ _ _ dX7_merge_447 (Or.inr ⟨c_88, rfl, h_w9_om, h_w9_ato, h_w9_amo, ⟨roy, h_w9_aro, hoy, hry, h_w9_alo, ⟨sry, h_w9_asr⟩⟩, fun z q0 q1 q2 q3 q4 q5 => fr_w9 z q0 q1 q2 q3 q4 q5⟩)
        · have hlb := hln2 bz (by omega)
          refine mg_iconst C (v := nI 0) dX7_merge_327 (by decide) ?_
          refine mg_istore C (lv' := [(5, .int (nI 0)), (0, .ref om), (1, .int (nI s)), (2, .int (nI b)), (3, .int (nI (1200 * b + 100))), (4, .int (nI bz))]) dX7_merge_328 (by decide) rfl ?_
          have L330 : ∀ (M330 : Nat) (iz : Nat) (roz : Nat → Int32) (srz : Nat → Int32), ln2 bz - iz < M330 → (iz ≤ ln2 bz) → (RkM roz s k (jiR k bz f2 (joR k f2 ln2 (f, ln, tr, er) bz) iz)) → (outS ro roz s) → ∀ (w10 : mwT), w10 om = some (.inr (6, [.int (nI 0), .int (nI md), .ref aso, .ref asi, .ref ase, .ref ato, .ref amo, .ref alo, .ref aro, .ref asr])) → w10 aso = some (eI cI 8 (lnF so)) → w10 asi = some (eI cI 8 (lnF si)) → w10 ase = some (eI cI 8 (lnF se)) → w10 ato = some (eI cI 8 to) → w10 amo = some (eI cI 8 (lnF mo)) → w10 alo = some (eI cI 8 (upd lo s (jiR k bz f2 (joR k f2 ln2 (f, ln, tr, er) bz) iz).2.2.2)) → w10 aro = some (eI cI 9600 roz) → w10 asr = some (eI cI 1024 srz) → (∀ zz : Nat, zz ≠ om → zz ≠ aro → zz ≠ asr → zz ≠ alo → w10 zz = w zz) → mwG X 0 0 w10 [(0, .ref om), (1, .int (nI s)), (2, .int (nI b)), (3, .int (nI (1200 * b + 100))), (4, .int (nI bz)), (5, .int (nI iz))] [] 330 := by
            intro M330
            induction M330 with
            | zero => intro iz roz srz hm330; exact absurd hm330 (Nat.not_lt_zero _)
            | succ M330 ih330 =>
              intro iz roz srz hm330 hiz hrz hoz w10 h_w10_om h_w10_aso h_w10_asi h_w10_ase h_w10_ato h_w10_amo h_w10_alo h_w10_aro h_w10_asr fr_w10
              refine mg_iload C dX7_merge_330 rfl ?_
              refine mg_aload_n C dX7_merge_332 rfl ?_
              refine mg_get C inT7 h_w10_om rfl 8 (by decide) kw_26 (Or.inl rfl) rfl dX7_merge_333 ?_
              refine mg_sipush C (v := nI 1200) dX7_merge_336 (by decide) ?_
              refine mg_iload_n C dX7_merge_339 rfl ?_
              refine mg_imul C (z := nI (1200 * b)) dX7_merge_340 (pk_mul _ _) ?_
              refine mg_iload C dX7_merge_341 rfl ?_
              refine mg_iadd C (z := nI ((1200 * b) + bz)) dX7_merge_343 (nI_add _ _) ?_
              refine mg_ialdN C h_w10_aro (by omega) (by omega) dX7_merge_344 ?_
              have hr2z := hr2.out hoz hab hk2 hln2
              rw [show roz (1200 * b + bz) = nI (ln2 bz) from hr2z.1 bz (by omega)]
              refine mg_icmpN_ge C (tgt := 375) dX7_merge_345 (by decide) (by omega) (by omega) (fun c_345 => ?_) (fun c_345 => ?_)
              · have ei : iz = ln2 bz := by omega
                rw [ei] at hrz
                rw [ei] at h_w10_alo
                refine mg_iinc C (v := nI (bz + 1)) (lv' := [(4, .int (nI (bz + 1))), (0, .ref om), (1, .int (nI s)), (2, .int (nI b)), (3, .int (nI (1200 * b + 100))), (5, .int (nI iz))]) dX7_merge_375 rfl (ni_inc _) (by decide) rfl ?_
                refine mg_goto C (tgt := 320) dX7_merge_378 (by decide) ?_
                refine mg_sub (lv' := [(0, .ref om), (1, .int (nI s)), (2, .int (nI b)), (3, .int (nI (1200 * b + 100))), (4, .int (nI (bz + 1)))]) [1, 2, 3, 4, 0] rfl ?_
                exact ih320 ((bz + 1)) roz srz (by omega) (by omega) hrz hoz w10 h_w10_om h_w10_aso h_w10_asi h_w10_ase h_w10_ato h_w10_amo h_w10_alo h_w10_aro h_w10_asr (fun zz g0 g1 g2 g3 => fr_w10 zz g0 g1 g2 g3)
              · obtain ⟨hlo1, hwo1⟩ := joR_main (f2 := f2) (ln2 := ln2) hke he hB hok hln bz hbz (Nat.le_trans (Nat.le_trans (Nat.le_add_right _ _) (Nat.le_add_right _ _)) (wt_in hwt (show bz < 31 by omega) c_345))
                have hwo2 : wtS (joR k f2 ln2 (f, ln, tr, er) bz).2.1 31 = wtS ln 31 + wtS ln2 bz := hwo1
                have hwin := wt_in hwt (show bz < 31 by omega) c_345
                obtain ⟨hlz, hwz⟩ := jiR_main (f2 := f2) hke he hB (show bz < 31 by omega) (joR_ok hok bz) hlo1 iz (by rw [hwo2]; exact Nat.le_trans (Nat.le_add_right _ _) hwin)
                have hwz1 : wtS (jiR k bz f2 (joR k f2 ln2 (f, ln, tr, er) bz) iz).2.1 31 + 2 ^ bz ≤ B := by rw [hwz, hwo2]; exact hwin
                refine mg_aload_n C dX7_merge_348 rfl ?_
                refine mg_iload_n C dX7_merge_349 rfl ?_
                refine mg_iload C dX7_merge_350 rfl ?_
                refine mg_aload_n C dX7_merge_352 rfl ?_
                refine mg_get C inT7 h_w10_om rfl 8 (by decide) kw_26 (Or.inl rfl) rfl dX7_merge_353 ?_
                refine mg_aload_n C dX7_merge_356 rfl ?_
                refine mg_iload_n C dX7_merge_357 rfl ?_
                refine mg_iload C dX7_merge_358 rfl ?_
                refine mg_iload C dX7_merge_360 rfl ?_
                refine mg_callV_i C h_w10_om rfl (rest := [.ref aro, .int (nI bz), .int (nI s), .ref om]) (c_X7_keyAt D cI cS w10 om md aso asi ase ato amo alo aro asr (nI 0)  b bz iz h_w10_om ) yq_X7_keyAt kw_371 kw_372 kw_373 ⟨by (dsimp only; omega), by (dsimp only; omega)⟩ ⟨Nat.le_of_ble_eq_true rfl, Nat.le_of_ble_eq_true rfl⟩ (Nat.le_of_ble_eq_true rfl) rfl rfl dX7_merge_362 (fun r11 w12 ⟨e_r11, e_w12⟩ => ?_)
                rw [e_w12, e_r11]
                refine mg_ialdN C h_w10_aro (by omega) (by omega) dX7_merge_365 ?_
                rw [show roz (1200 * b + 100 + 32 * bz + iz) = f2 (bz * k + iz) from hr2z.2.2 bz iz (by omega) c_345]
                refine mg_callS_v C (rest := []) (c_X7_put_all (31 - bz) D cI cS w10 om md aso asi ase ato amo alo aro asr (nI 0) si (upd lo s (jiR k bz f2 (joR k f2 ln2 (f, ln, tr, er) bz) iz).2.2.2) roz srz tg s k e B bz (jiR k bz f2 (joR k f2 ln2 (f, ln, tr, er) bz) iz).1 (jiR k bz f2 (joR k f2 ln2 (f, ln, tr, er) bz) iz).2.1 (jiR k bz f2 (joR k f2 ln2 (f, ln, tr, er) bz) iz).2.2.1 (jiR k bz f2 (joR k f2 ln2 (f, ln, tr, er) bz) iz).2.2.2 (f2 (bz * k + iz)) h_w10_om h_w10_asi h_w10_alo h_w10_aro h_w10_asr hs8 hke he hk2 hB (jiR_ok (joR_ok hok bz) iz) hlz hwz1 hrz (upd_same lo s _) hsi t_asi t_alo t_aro t_asr (by omega)) yq_X7_put kw_368 kw_369 ⟨by (dsimp only; omega), by (dsimp only; omega)⟩ ⟨Nat.le_of_ble_eq_true rfl, Nat.le_of_ble_eq_true rfl⟩ (Nat.le_of_ble_eq_true rfl) rfl rfl dX7_merge_366 (fun w13 ⟨roq, srq, xk13, xq13, xl13, hrq, hoq, hsq, xf13⟩ => ?_)
                rw [upd_upd] at xl13
                have h_w13_om : w13 om = some (.inr (6, [.int (nI 0), .int (nI md), .ref aso, .ref asi, .ref ase, .ref ato, .ref amo, .ref alo, .ref aro, .ref asr])) := (xf13 om (mw_oa h_w10_om h_w10_aro) (mw_oa h_w10_om h_w10_asr) (mw_oa h_w10_om h_w10_alo)).trans h_w10_om
                have h_w13_aso : w13 aso = some (eI cI 8 (lnF so)) := (xf13 aso (tne t_aso t_aro (by decide)) (tne t_aso t_asr (by decide)) (tne t_aso t_alo (by decide))).trans h_w10_aso
                have h_w13_asi : w13 asi = some (eI cI 8 (lnF si)) := (xf13 asi (tne t_asi t_aro (by decide)) (tne t_asi t_asr (by decide)) (tne t_asi t_alo (by decide))).trans h_w10_asi
                have h_w13_ase : w13 ase = some (eI cI 8 (lnF se)) := (xf13 ase (tne t_ase t_aro (by decide)) (tne t_ase t_asr (by decide)) (tne t_ase t_alo (by decide))).trans h_w10_ase
                have h_w13_ato : w13 ato = some (eI cI 8 to) := (xf13 ato (tne t_ato t_aro (by decide)) (tne t_ato t_asr (by decide)) (tne t_ato t_alo (by decide))).trans h_w10_ato
                have h_w13_amo : w13 amo = some (eI cI 8 (lnF mo)) := (xf13 amo (tne t_amo t_aro (by decide)) (tne t_amo t_asr (by decide)) (tne t_amo t_alo (by decide))).trans h_w10_amo
                have fr_w13 : ∀ zz : Nat, zz ≠ om → zz ≠ aro → zz ≠ asr → zz ≠ alo → w13 zz = w zz := fun zz g0 g1 g2 g3 => (xf13 zz g1 g2 g3).trans (fr_w10 zz g0 g1 g2 g3)
                refine mg_iinc C (v := nI (iz + 1)) (lv' := [(5, .int (nI (iz + 1))), (0, .ref om), (1, .int (nI s)), (2, .int (nI b)), (3, .int (nI (1200 * b + 100))), (4, .int (nI bz))]) dX7_merge_369 rfl (ni_inc _) (by decide) rfl ?_
                refine mg_goto C (tgt := 330) dX7_merge_372 (by decide) ?_
                refine mg_sub (lv' := [(0, .ref om), (1, .int (nI s)), (2, .int (nI b)), (3, .int (nI (1200 * b + 100))), (4, .int (nI bz)), (5, .int (nI (iz + 1)))]) [1, 2, 3, 4, 5, 0] rfl ?_
                exact ih330 ((iz + 1)) roq srq (by omega) (by omega) hrq (hoz.tr hoq) w13 h_w13_om h_w13_aso h_w13_asi h_w13_ase h_w13_ato h_w13_amo xl13 xk13 xq13 (fun zz g0 g1 g2 g3 => fr_w13 zz g0 g1 g2 g3)
          refine mg_sub (lv' := [(0, .ref om), (1, .int (nI s)), (2, .int (nI b)), (3, .int (nI (1200 * b + 100))), (4, .int (nI bz)), (5, .int (nI 0))]) [1, 2, 3, 4, 5, 0] rfl ?_
          exact L330 (_ + 1) 0 roy sry (Nat.lt_succ_self _) (Nat.zero_le _) hry hoy w6 h_w6_om h_w6_aso h_w6_asi h_w6_ase h_w6_ato h_w6_amo h_w6_alo h_w6_aro h_w6_asr (fun zz g0 g1 g2 g3 => fr_w6 zz g0 g1 g2 g3)
    refine mg_sub (lv' := [(0, .ref om), (1, .int (nI s)), (2, .int (nI b)), (3, .int (nI ((1200 * b) + 100))), (4, .int (nI 0))]) [2, 3, 4, 1, 0] rfl ?_
    exact L320 (_ + 1) 0 ro sr (Nat.lt_succ_self _) (Nat.zero_le _) hr (outS.rf ro s) w1 h_w1_om h_w1_aso h_w1_asi h_w1_ase h_w1_ato h_w1_amo h8 h_w1_aro h_w1_asr (fun zz g0 g1 g2 g3 => fr_w1 zz g0)
  · refine mg_bipush C (v := (-3 : Int32)) dX7_merge_91 (by decide) ?_
    exact hR _ _ _ _ dX7_merge_93 (Or.inl ⟨c_88, rfl, h_w1_om, fun z q0 => fr_w1 z q0⟩)

set_option maxHeartbeats 4000000 in
set_option maxRecDepth 20000 in
theorem c_X7_init (D : va_G) (cI cS : ClassId) (w : mwT) (om : Nat) (hom : w om = some (.inr (6, [.int 0, .int 0, .null, .null, .null, .null, .null, .null, .null, .null]))) : mMv yX7_init cX7_init 1 none (rmA 1 8 10672) [.ref om] D cI cS w (fun w1 => ∃ q0_ q1_ q2_ q3_ q4_ q5_ q6_ q7_ : Nat, w q0_ = none ∧ w q1_ = none ∧ w q2_ = none ∧ w q3_ = none ∧ w q4_ = none ∧ w q5_ = none ∧ w q6_ = none ∧ w q7_ = none ∧ q0_ ≠ q1_ ∧ q0_ ≠ q2_ ∧ q1_ ≠ q2_ ∧ q0_ ≠ q3_ ∧ q1_ ≠ q3_ ∧ q2_ ≠ q3_ ∧ q0_ ≠ q4_ ∧ q1_ ≠ q4_ ∧ q2_ ≠ q4_ ∧ q3_ ≠ q4_ ∧ q0_ ≠ q5_ ∧ q1_ ≠ q5_ ∧ q2_ ≠ q5_ ∧ q3_ ≠ q5_ ∧ q4_ ≠ q5_ ∧ q0_ ≠ q6_ ∧ q1_ ≠ q6_ ∧ q2_ ≠ q6_ ∧ q3_ ≠ q6_ ∧ q4_ ≠ q6_ ∧ q5_ ≠ q6_ ∧ q0_ ≠ q7_ ∧ q1_ ≠ q7_ ∧ q2_ ≠ q7_ ∧ q3_ ≠ q7_ ∧ q4_ ≠ q7_ ∧ q5_ ≠ q7_ ∧ q6_ ≠ q7_ ∧ w1 om = some (.inr (6, [.int (nI 0), .int 0, .ref q0_, .ref q1_, .ref q2_, .ref q3_, .ref q4_, .ref q5_, .ref q6_, .ref q7_])) ∧ w1 q0_ = some (eI cI 8 (fun _ => 0)) ∧ w1 q1_ = some (eI cI 8 (fun _ => 0)) ∧ w1 q2_ = some (eI cI 8 (fun _ => 0)) ∧ w1 q3_ = some (eI cI 8 (fun _ => 0)) ∧ w1 q4_ = some (eI cI 8 (fun _ => 0)) ∧ w1 q5_ = some (eI cI 8 (fun _ => 0)) ∧ w1 q6_ = some (eI cI 9600 (fun _ => 0)) ∧ w1 q7_ = some (eI cI 1024 (fun _ => 0)) ∧ ∀ z : Nat, z ≠ om → z ≠ q0_ → z ≠ q1_ → z ≠ q2_ → z ≠ q3_ → z ≠ q4_ → z ≠ q5_ → z ≠ q6_ → z ≠ q7_ → w1 z = w z) := by
  refine mMv.of (by decide) (Nat.le_of_ble_eq_true rfl) ?_
  intro X C hN hR
  have fr_w : ∀ zz : Nat, w zz = w zz := fun _ => rfl
  refine mg_sub (lv' := [(0, .ref om)]) [0] rfl ?_
  refine mg_aload_n C dX7_init_0 rfl ?_
  refine mg_objInit C kw_18 ⟨Nat.le_of_ble_eq_true rfl, Nat.le_of_ble_eq_true rfl⟩ dX7_init_1 ?_
  refine mg_aload_n C dX7_init_4 rfl ?_
  refine mg_bipush C (v := nI 8) dX7_init_5 (by decide) ?_
  refine mg_newa C kw_19 (by omega) ⟨by decide, by (show 0 + 8 ≤ 10672; omega)⟩ dX7_init_7 (fun q1 w2 n_q1 e_w2 => ?_)
  refine mg_widen (k := 1) (n := 8) (by decide) (by omega) ?_
  have nd_q1_om : om ≠ q1 := mw_nn hom n_q1
  have nz_q1 : w q1 = none := (fr_w q1 ).symm.trans n_q1
  have h_w2_om : w2 om = some (.inr (6, [.int 0, .int 0, .null, .null, .null, .null, .null, .null, .null, .null])) := (congrFun e_w2 _).trans ((mwu_ne nd_q1_om).trans hom)
  have h_w2_q1 : w2 q1 = some (eI cI 8 (fun _ => 0)) := (congrFun e_w2 _).trans mwu_eq
  have fr_w2 : ∀ zz : Nat, zz ≠ q1 → w2 zz = w zz := fun zz g0 => (congrFun e_w2 zz).trans ((mwu_ne g0).trans (fr_w zz ))
  refine mg_putF C (fs' := [.int 0, .int 0, .ref q1, .null, .null, .null, .null, .null, .null, .null]) inT7 h_w2_om rfl 2 (by decide) kw_20 (Or.inl rfl) tyX7_ok nmX7 rfl hN rfl rfl rfl rfl (Nat.le_of_ble_eq_true rfl) dX7_init_9 (fun w3 e_w3 => ?_)
  have h_w3_om : w3 om = some (.inr (6, [.int 0, .int 0, .ref q1, .null, .null, .null, .null, .null, .null, .null])) := (congrFun e_w3 _).trans mwu_eq
  have h_w3_q1 : w3 q1 = some (eI cI 8 (fun _ => 0)) := (congrFun e_w3 _).trans ((mwu_ne (Ne.symm nd_q1_om)).trans h_w2_q1)
  have fr_w3 : ∀ zz : Nat, zz ≠ q1 → zz ≠ om → w3 zz = w zz := fun zz g0 g1 => (congrFun e_w3 zz).trans ((mwu_ne g1).trans (fr_w2 zz g0))
  refine mg_aload_n C dX7_init_12 rfl ?_
  refine mg_bipush C (v := nI 8) dX7_init_13 (by decide) ?_
  refine mg_newa C kw_19 (by omega) ⟨by decide, by (show 8 + 8 ≤ 10672; omega)⟩ dX7_init_15 (fun q4 w5 n_q4 e_w5 => ?_)
  refine mg_widen (k := 2) (n := 16) (by decide) (by omega) ?_
  have nd_q4_om : om ≠ q4 := mw_nn h_w3_om n_q4
  have nd_q4_q1 : q1 ≠ q4 := mw_nn h_w3_q1 n_q4
  have nz_q4 : w q4 = none := (fr_w3 q4 (Ne.symm nd_q4_q1) (Ne.symm nd_q4_om)).symm.trans n_q4
  have h_w5_om : w5 om = some (.inr (6, [.int 0, .int 0, .ref q1, .null, .null, .null, .null, .null, .null, .null])) := (congrFun e_w5 _).trans ((mwu_ne nd_q4_om).trans h_w3_om)
  have h_w5_q1 : w5 q1 = some (eI cI 8 (fun _ => 0)) := (congrFun e_w5 _).trans ((mwu_ne nd_q4_q1).trans h_w3_q1)
  have h_w5_q4 : w5 q4 = some (eI cI 8 (fun _ => 0)) := (congrFun e_w5 _).trans mwu_eq
  have fr_w5 : ∀ zz : Nat, zz ≠ q1 → zz ≠ om → zz ≠ q4 → w5 zz = w zz := fun zz g0 g1 g2 => (congrFun e_w5 zz).trans ((mwu_ne g2).trans (fr_w3 zz g0 g1))
  refine mg_putF C (fs' := [.int 0, .int 0, .ref q1, .ref q4, .null, .null, .null, .null, .null, .null]) inT7 h_w5_om rfl 3 (by decide) kw_21 (Or.inl rfl) tyX7_ok nmX7 rfl hN rfl rfl rfl rfl (Nat.le_of_ble_eq_true rfl) dX7_init_17 (fun w6 e_w6 => ?_)
  have h_w6_om : w6 om = some (.inr (6, [.int 0, .int 0, .ref q1, .ref q4, .null, .null, .null, .null, .null, .null])) := (congrFun e_w6 _).trans mwu_eq
  have h_w6_q1 : w6 q1 = some (eI cI 8 (fun _ => 0)) := (congrFun e_w6 _).trans ((mwu_ne (Ne.symm nd_q1_om)).trans h_w5_q1)
  have h_w6_q4 : w6 q4 = some (eI cI 8 (fun _ => 0)) := (congrFun e_w6 _).trans ((mwu_ne (Ne.symm nd_q4_om)).trans h_w5_q4)
  have fr_w6 : ∀ zz : Nat, zz ≠ q1 → zz ≠ om → zz ≠ q4 → w6 zz = w zz := fun zz g0 g1 g2 => (congrFun e_w6 zz).trans ((mwu_ne g1).trans (fr_w5 zz g0 g1 g2))
  refine mg_aload_n C dX7_init_20 rfl ?_
  refine mg_bipush C (v := nI 8) dX7_init_21 (by decide) ?_
  refine mg_newa C kw_19 (by omega) ⟨by decide, by (show 16 + 8 ≤ 10672; omega)⟩ dX7_init_23 (fun q7 w8 n_q7 e_w8 => ?_)
  refine mg_widen (k := 3) (n := 24) (by decide) (by omega) ?_
  have nd_q7_om : om ≠ q7 := mw_nn h_w6_om n_q7
  have nd_q7_q1 : q1 ≠ q7 := mw_nn h_w6_q1 n_q7
  have nd_q7_q4 : q4 ≠ q7 := mw_nn h_w6_q4 n_q7
  have nz_q7 : w q7 = none := (fr_w6 q7 (Ne.symm nd_q7_q1) (Ne.symm nd_q7_om) (Ne.symm nd_q7_q4)).symm.trans n_q7
  have h_w8_om : w8 om = some (.inr (6, [.int 0, .int 0, .ref q1, .ref q4, .null, .null, .null, .null, .null, .null])) := (congrFun e_w8 _).trans ((mwu_ne nd_q7_om).trans h_w6_om)
  have h_w8_q1 : w8 q1 = some (eI cI 8 (fun _ => 0)) := (congrFun e_w8 _).trans ((mwu_ne nd_q7_q1).trans h_w6_q1)
  have h_w8_q4 : w8 q4 = some (eI cI 8 (fun _ => 0)) := (congrFun e_w8 _).trans ((mwu_ne nd_q7_q4).trans h_w6_q4)
  have h_w8_q7 : w8 q7 = some (eI cI 8 (fun _ => 0)) := (congrFun e_w8 _).trans mwu_eq
  have fr_w8 : ∀ zz : Nat, zz ≠ q1 → zz ≠ om → zz ≠ q4 → zz ≠ q7 → w8 zz = w zz := fun zz g0 g1 g2 g3 => (congrFun e_w8 zz).trans ((mwu_ne g3).trans (fr_w6 zz g0 g1 g2))
  refine mg_putF C (fs' := [.int 0, .int 0, .ref q1, .ref q4, .ref q7, .null, .null, .null, .null, .null]) inT7 h_w8_om rfl 4 (by decide) kw_22 (Or.inl rfl) tyX7_ok nmX7 rfl hN rfl rfl rfl rfl (Nat.le_of_ble_eq_true rfl) dX7_init_25 (fun w9 e_w9 => ?_)
  have h_w9_om : w9 om = some (.inr (6, [.int 0, .int 0, .ref q1, .ref q4, .ref q7, .null, .null, .null, .null, .null])) := (congrFun e_w9 _).trans mwu_eq
  have h_w9_q1 : w9 q1 = some (eI cI 8 (fun _ => 0)) := (congrFun e_w9 _).trans ((mwu_ne (Ne.symm nd_q1_om)).trans h_w8_q1)
  have h_w9_q4 : w9 q4 = some (eI cI 8 (fun _ => 0)) := (congrFun e_w9 _).trans ((mwu_ne (Ne.symm nd_q4_om)).trans h_w8_q4)
  have h_w9_q7 : w9 q7 = some (eI cI 8 (fun _ => 0)) := (congrFun e_w9 _).trans ((mwu_ne (Ne.symm nd_q7_om)).trans h_w8_q7)
  have fr_w9 : ∀ zz : Nat, zz ≠ q1 → zz ≠ om → zz ≠ q4 → zz ≠ q7 → w9 zz = w zz := fun zz g0 g1 g2 g3 => (congrFun e_w9 zz).trans ((mwu_ne g1).trans (fr_w8 zz g0 g1 g2 g3))
  refine mg_aload_n C dX7_init_28 rfl ?_
  refine mg_bipush C (v := nI 8) dX7_init_29 (by decide) ?_
  refine mg_newa C kw_19 (by omega) ⟨by decide, by (show 24 + 8 ≤ 10672; omega)⟩ dX7_init_31 (fun q10 w11 n_q10 e_w11 => ?_)
  refine mg_widen (k := 4) (n := 32) (by decide) (by omega) ?_
  have nd_q10_om : om ≠ q10 := mw_nn h_w9_om n_q10
  have nd_q10_q1 : q1 ≠ q10 := mw_nn h_w9_q1 n_q10
  have nd_q10_q4 : q4 ≠ q10 := mw_nn h_w9_q4 n_q10
  have nd_q10_q7 : q7 ≠ q10 := mw_nn h_w9_q7 n_q10
  have nz_q10 : w q10 = none := (fr_w9 q10 (Ne.symm nd_q10_q1) (Ne.symm nd_q10_om) (Ne.symm nd_q10_q4) (Ne.symm nd_q10_q7)).symm.trans n_q10
  have h_w11_om : w11 om = some (.inr (6, [.int 0, .int 0, .ref q1, .ref q4, .ref q7, .null, .null, .null, .null, .null])) := (congrFun e_w11 _).trans ((mwu_ne nd_q10_om).trans h_w9_om)
  have h_w11_q1 : w11 q1 = some (eI cI 8 (fun _ => 0)) := (congrFun e_w11 _).trans ((mwu_ne nd_q10_q1).trans h_w9_q1)
  have h_w11_q4 : w11 q4 = some (eI cI 8 (fun _ => 0)) := (congrFun e_w11 _).trans ((mwu_ne nd_q10_q4).trans h_w9_q4)
  have h_w11_q7 : w11 q7 = some (eI cI 8 (fun _ => 0)) := (congrFun e_w11 _).trans ((mwu_ne nd_q10_q7).trans h_w9_q7)
  have h_w11_q10 : w11 q10 = some (eI cI 8 (fun _ => 0)) := (congrFun e_w11 _).trans mwu_eq
  have fr_w11 : ∀ zz : Nat, zz ≠ q1 → zz ≠ om → zz ≠ q4 → zz ≠ q7 → zz ≠ q10 → w11 zz = w zz := fun zz g0 g1 g2 g3 g4 => (congrFun e_w11 zz).trans ((mwu_ne g4).trans (fr_w9 zz g0 g1 g2 g3))
  refine mg_putF C (fs' := [.int 0, .int 0, .ref q1, .ref q4, .ref q7, .ref q10, .null, .null, .null, .null]) inT7 h_w11_om rfl 5 (by decide) kw_23 (Or.inl rfl) tyX7_ok nmX7 rfl hN rfl rfl rfl rfl (Nat.le_of_ble_eq_true rfl) dX7_init_33 (fun w12 e_w12 => ?_)
  have h_w12_om : w12 om = some (.inr (6, [.int 0, .int 0, .ref q1, .ref q4, .ref q7, .ref q10, .null, .null, .null, .null])) := (congrFun e_w12 _).trans mwu_eq
  have h_w12_q1 : w12 q1 = some (eI cI 8 (fun _ => 0)) := (congrFun e_w12 _).trans ((mwu_ne (Ne.symm nd_q1_om)).trans h_w11_q1)
  have h_w12_q4 : w12 q4 = some (eI cI 8 (fun _ => 0)) := (congrFun e_w12 _).trans ((mwu_ne (Ne.symm nd_q4_om)).trans h_w11_q4)
  have h_w12_q7 : w12 q7 = some (eI cI 8 (fun _ => 0)) := (congrFun e_w12 _).trans ((mwu_ne (Ne.symm nd_q7_om)).trans h_w11_q7)
  have h_w12_q10 : w12 q10 = some (eI cI 8 (fun _ => 0)) := (congrFun e_w12 _).trans ((mwu_ne (Ne.symm nd_q10_om)).trans h_w11_q10)
  have fr_w12 : ∀ zz : Nat, zz ≠ q1 → zz ≠ om → zz ≠ q4 → zz ≠ q7 → zz ≠ q10 → w12 zz = w zz := fun zz g0 g1 g2 g3 g4 => (congrFun e_w12 zz).trans ((mwu_ne g1).trans (fr_w11 zz g0 g1 g2 g3 g4))
  refine mg_aload_n C dX7_init_36 rfl ?_
  refine mg_bipush C (v := nI 8) dX7_init_37 (by decide) ?_
  refine mg_newa C kw_19 (by omega) ⟨by decide, by (show 32 + 8 ≤ 10672; omega)⟩ dX7_init_39 (fun q13 w14 n_q13 e_w14 => ?_)
  refine mg_widen (k := 5) (n := 40) (by decide) (by omega) ?_
  have nd_q13_om : om ≠ q13 := mw_nn h_w12_om n_q13
  have nd_q13_q1 : q1 ≠ q13 := mw_nn h_w12_q1 n_q13
  have nd_q13_q4 : q4 ≠ q13 := mw_nn h_w12_q4 n_q13
  have nd_q13_q7 : q7 ≠ q13 := mw_nn h_w12_q7 n_q13
  have nd_q13_q10 : q10 ≠ q13 := mw_nn h_w12_q10 n_q13
  have nz_q13 : w q13 = none := (fr_w12 q13 (Ne.symm nd_q13_q1) (Ne.symm nd_q13_om) (Ne.symm nd_q13_q4) (Ne.symm nd_q13_q7) (Ne.symm nd_q13_q10)).symm.trans n_q13
  have h_w14_om : w14 om = some (.inr (6, [.int 0, .int 0, .ref q1, .ref q4, .ref q7, .ref q10, .null, .null, .null, .null])) := (congrFun e_w14 _).trans ((mwu_ne nd_q13_om).trans h_w12_om)
  have h_w14_q1 : w14 q1 = some (eI cI 8 (fun _ => 0)) := (congrFun e_w14 _).trans ((mwu_ne nd_q13_q1).trans h_w12_q1)
  have h_w14_q4 : w14 q4 = some (eI cI 8 (fun _ => 0)) := (congrFun e_w14 _).trans ((mwu_ne nd_q13_q4).trans h_w12_q4)
  have h_w14_q7 : w14 q7 = some (eI cI 8 (fun _ => 0)) := (congrFun e_w14 _).trans ((mwu_ne nd_q13_q7).trans h_w12_q7)
  have h_w14_q10 : w14 q10 = some (eI cI 8 (fun _ => 0)) := (congrFun e_w14 _).trans ((mwu_ne nd_q13_q10).trans h_w12_q10)
  have h_w14_q13 : w14 q13 = some (eI cI 8 (fun _ => 0)) := (congrFun e_w14 _).trans mwu_eq
  have fr_w14 : ∀ zz : Nat, zz ≠ q1 → zz ≠ om → zz ≠ q4 → zz ≠ q7 → zz ≠ q10 → zz ≠ q13 → w14 zz = w zz := fun zz g0 g1 g2 g3 g4 g5 => (congrFun e_w14 zz).trans ((mwu_ne g5).trans (fr_w12 zz g0 g1 g2 g3 g4))
  refine mg_putF C (fs' := [.int 0, .int 0, .ref q1, .ref q4, .ref q7, .ref q10, .ref q13, .null, .null, .null]) inT7 h_w14_om rfl 6 (by decide) kw_24 (Or.inl rfl) tyX7_ok nmX7 rfl hN rfl rfl rfl rfl (Nat.le_of_ble_eq_true rfl) dX7_init_41 (fun w15 e_w15 => ?_)
  have h_w15_om : w15 om = some (.inr (6, [.int 0, .int 0, .ref q1, .ref q4, .ref q7, .ref q10, .ref q13, .null, .null, .null])) := (congrFun e_w15 _).trans mwu_eq
  have h_w15_q1 : w15 q1 = some (eI cI 8 (fun _ => 0)) := (congrFun e_w15 _).trans ((mwu_ne (Ne.symm nd_q1_om)).trans h_w14_q1)
  have h_w15_q4 : w15 q4 = some (eI cI 8 (fun _ => 0)) := (congrFun e_w15 _).trans ((mwu_ne (Ne.symm nd_q4_om)).trans h_w14_q4)
  have h_w15_q7 : w15 q7 = some (eI cI 8 (fun _ => 0)) := (congrFun e_w15 _).trans ((mwu_ne (Ne.symm nd_q7_om)).trans h_w14_q7)
  have h_w15_q10 : w15 q10 = some (eI cI 8 (fun _ => 0)) := (congrFun e_w15 _).trans ((mwu_ne (Ne.symm nd_q10_om)).trans h_w14_q10)
  have h_w15_q13 : w15 q13 = some (eI cI 8 (fun _ => 0)) := (congrFun e_w15 _).trans ((mwu_ne (Ne.symm nd_q13_om)).trans h_w14_q13)
  have fr_w15 : ∀ zz : Nat, zz ≠ q1 → zz ≠ om → zz ≠ q4 → zz ≠ q7 → zz ≠ q10 → zz ≠ q13 → w15 zz = w zz := fun zz g0 g1 g2 g3 g4 g5 => (congrFun e_w15 zz).trans ((mwu_ne g1).trans (fr_w14 zz g0 g1 g2 g3 g4 g5))
  refine mg_aload_n C dX7_init_44 rfl ?_
  refine mg_bipush C (v := nI 8) dX7_init_45 (by decide) ?_
  refine mg_newa C kw_19 (by omega) ⟨by decide, by (show 40 + 8 ≤ 10672; omega)⟩ dX7_init_47 (fun q16 w17 n_q16 e_w17 => ?_)
  refine mg_widen (k := 6) (n := 48) (by decide) (by omega) ?_
  have nd_q16_om : om ≠ q16 := mw_nn h_w15_om n_q16
  have nd_q16_q1 : q1 ≠ q16 := mw_nn h_w15_q1 n_q16
  have nd_q16_q4 : q4 ≠ q16 := mw_nn h_w15_q4 n_q16
  have nd_q16_q7 : q7 ≠ q16 := mw_nn h_w15_q7 n_q16
  have nd_q16_q10 : q10 ≠ q16 := mw_nn h_w15_q10 n_q16
  have nd_q16_q13 : q13 ≠ q16 := mw_nn h_w15_q13 n_q16
  have nz_q16 : w q16 = none := (fr_w15 q16 (Ne.symm nd_q16_q1) (Ne.symm nd_q16_om) (Ne.symm nd_q16_q4) (Ne.symm nd_q16_q7) (Ne.symm nd_q16_q10) (Ne.symm nd_q16_q13)).symm.trans n_q16
  have h_w17_om : w17 om = some (.inr (6, [.int 0, .int 0, .ref q1, .ref q4, .ref q7, .ref q10, .ref q13, .null, .null, .null])) := (congrFun e_w17 _).trans ((mwu_ne nd_q16_om).trans h_w15_om)
  have h_w17_q1 : w17 q1 = some (eI cI 8 (fun _ => 0)) := (congrFun e_w17 _).trans ((mwu_ne nd_q16_q1).trans h_w15_q1)
  have h_w17_q4 : w17 q4 = some (eI cI 8 (fun _ => 0)) := (congrFun e_w17 _).trans ((mwu_ne nd_q16_q4).trans h_w15_q4)
  have h_w17_q7 : w17 q7 = some (eI cI 8 (fun _ => 0)) := (congrFun e_w17 _).trans ((mwu_ne nd_q16_q7).trans h_w15_q7)
  have h_w17_q10 : w17 q10 = some (eI cI 8 (fun _ => 0)) := (congrFun e_w17 _).trans ((mwu_ne nd_q16_q10).trans h_w15_q10)
  have h_w17_q13 : w17 q13 = some (eI cI 8 (fun _ => 0)) := (congrFun e_w17 _).trans ((mwu_ne nd_q16_q13).trans h_w15_q13)
  have h_w17_q16 : w17 q16 = some (eI cI 8 (fun _ => 0)) := (congrFun e_w17 _).trans mwu_eq
  have fr_w17 : ∀ zz : Nat, zz ≠ q1 → zz ≠ om → zz ≠ q4 → zz ≠ q7 → zz ≠ q10 → zz ≠ q13 → zz ≠ q16 → w17 zz = w zz := fun zz g0 g1 g2 g3 g4 g5 g6 => (congrFun e_w17 zz).trans ((mwu_ne g6).trans (fr_w15 zz g0 g1 g2 g3 g4 g5))
  refine mg_putF C (fs' := [.int 0, .int 0, .ref q1, .ref q4, .ref q7, .ref q10, .ref q13, .ref q16, .null, .null]) inT7 h_w17_om rfl 7 (by decide) kw_25 (Or.inl rfl) tyX7_ok nmX7 rfl hN rfl rfl rfl rfl (Nat.le_of_ble_eq_true rfl) dX7_init_49 (fun w18 e_w18 => ?_)
  have h_w18_om : w18 om = some (.inr (6, [.int 0, .int 0, .ref q1, .ref q4, .ref q7, .ref q10, .ref q13, .ref q16, .null, .null])) := (congrFun e_w18 _).trans mwu_eq
  have h_w18_q1 : w18 q1 = some (eI cI 8 (fun _ => 0)) := (congrFun e_w18 _).trans ((mwu_ne (Ne.symm nd_q1_om)).trans h_w17_q1)
  have h_w18_q4 : w18 q4 = some (eI cI 8 (fun _ => 0)) := (congrFun e_w18 _).trans ((mwu_ne (Ne.symm nd_q4_om)).trans h_w17_q4)
  have h_w18_q7 : w18 q7 = some (eI cI 8 (fun _ => 0)) := (congrFun e_w18 _).trans ((mwu_ne (Ne.symm nd_q7_om)).trans h_w17_q7)
  have h_w18_q10 : w18 q10 = some (eI cI 8 (fun _ => 0)) := (congrFun e_w18 _).trans ((mwu_ne (Ne.symm nd_q10_om)).trans h_w17_q10)
  have h_w18_q13 : w18 q13 = some (eI cI 8 (fun _ => 0)) := (congrFun e_w18 _).trans ((mwu_ne (Ne.symm nd_q13_om)).trans h_w17_q13)
  have h_w18_q16 : w18 q16 = some (eI cI 8 (fun _ => 0)) := (congrFun e_w18 _).trans ((mwu_ne (Ne.symm nd_q16_om)).trans h_w17_q16)
  have fr_w18 : ∀ zz : Nat, zz ≠ q1 → zz ≠ om → zz ≠ q4 → zz ≠ q7 → zz ≠ q10 → zz ≠ q13 → zz ≠ q16 → w18 zz = w zz := fun zz g0 g1 g2 g3 g4 g5 g6 => (congrFun e_w18 zz).trans ((mwu_ne g1).trans (fr_w17 zz g0 g1 g2 g3 g4 g5 g6))
  refine mg_aload_n C dX7_init_52 rfl ?_
  refine mg_sipush C (v := nI 9600) dX7_init_53 (by decide) ?_
  refine mg_newa C kw_19 (by omega) ⟨by decide, by (show 48 + 9600 ≤ 10672; omega)⟩ dX7_init_56 (fun q19 w20 n_q19 e_w20 => ?_)
  refine mg_widen (k := 7) (n := 9648) (by decide) (by omega) ?_
  have nd_q19_om : om ≠ q19 := mw_nn h_w18_om n_q19
  have nd_q19_q1 : q1 ≠ q19 := mw_nn h_w18_q1 n_q19
  have nd_q19_q4 : q4 ≠ q19 := mw_nn h_w18_q4 n_q19
  have nd_q19_q7 : q7 ≠ q19 := mw_nn h_w18_q7 n_q19
  have nd_q19_q10 : q10 ≠ q19 := mw_nn h_w18_q10 n_q19
  have nd_q19_q13 : q13 ≠ q19 := mw_nn h_w18_q13 n_q19
  have nd_q19_q16 : q16 ≠ q19 := mw_nn h_w18_q16 n_q19
  have nz_q19 : w q19 = none := (fr_w18 q19 (Ne.symm nd_q19_q1) (Ne.symm nd_q19_om) (Ne.symm nd_q19_q4) (Ne.symm nd_q19_q7) (Ne.symm nd_q19_q10) (Ne.symm nd_q19_q13) (Ne.symm nd_q19_q16)).symm.trans n_q19
  have h_w20_om : w20 om = some (.inr (6, [.int 0, .int 0, .ref q1, .ref q4, .ref q7, .ref q10, .ref q13, .ref q16, .null, .null])) := (congrFun e_w20 _).trans ((mwu_ne nd_q19_om).trans h_w18_om)
  have h_w20_q1 : w20 q1 = some (eI cI 8 (fun _ => 0)) := (congrFun e_w20 _).trans ((mwu_ne nd_q19_q1).trans h_w18_q1)
  have h_w20_q4 : w20 q4 = some (eI cI 8 (fun _ => 0)) := (congrFun e_w20 _).trans ((mwu_ne nd_q19_q4).trans h_w18_q4)
  have h_w20_q7 : w20 q7 = some (eI cI 8 (fun _ => 0)) := (congrFun e_w20 _).trans ((mwu_ne nd_q19_q7).trans h_w18_q7)
  have h_w20_q10 : w20 q10 = some (eI cI 8 (fun _ => 0)) := (congrFun e_w20 _).trans ((mwu_ne nd_q19_q10).trans h_w18_q10)
  have h_w20_q13 : w20 q13 = some (eI cI 8 (fun _ => 0)) := (congrFun e_w20 _).trans ((mwu_ne nd_q19_q13).trans h_w18_q13)
  have h_w20_q16 : w20 q16 = some (eI cI 8 (fun _ => 0)) := (congrFun e_w20 _).trans ((mwu_ne nd_q19_q16).trans h_w18_q16)
  have h_w20_q19 : w20 q19 = some (eI cI 9600 (fun _ => 0)) := (congrFun e_w20 _).trans mwu_eq
  have fr_w20 : ∀ zz : Nat, zz ≠ q1 → zz ≠ om → zz ≠ q4 → zz ≠ q7 → zz ≠ q10 → zz ≠ q13 → zz ≠ q16 → zz ≠ q19 → w20 zz = w zz := fun zz g0 g1 g2 g3 g4 g5 g6 g7 => (congrFun e_w20 zz).trans ((mwu_ne g7).trans (fr_w18 zz g0 g1 g2 g3 g4 g5 g6))
  refine mg_putF C (fs' := [.int 0, .int 0, .ref q1, .ref q4, .ref q7, .ref q10, .ref q13, .ref q16, .ref q19, .null]) inT7 h_w20_om rfl 8 (by decide) kw_26 (Or.inl rfl) tyX7_ok nmX7 rfl hN rfl rfl rfl rfl (Nat.le_of_ble_eq_true rfl) dX7_init_58 (fun w21 e_w21 => ?_)
  have h_w21_om : w21 om = some (.inr (6, [.int 0, .int 0, .ref q1, .ref q4, .ref q7, .ref q10, .ref q13, .ref q16, .ref q19, .null])) := (congrFun e_w21 _).trans mwu_eq
  have h_w21_q1 : w21 q1 = some (eI cI 8 (fun _ => 0)) := (congrFun e_w21 _).trans ((mwu_ne (Ne.symm nd_q1_om)).trans h_w20_q1)
  have h_w21_q4 : w21 q4 = some (eI cI 8 (fun _ => 0)) := (congrFun e_w21 _).trans ((mwu_ne (Ne.symm nd_q4_om)).trans h_w20_q4)
  have h_w21_q7 : w21 q7 = some (eI cI 8 (fun _ => 0)) := (congrFun e_w21 _).trans ((mwu_ne (Ne.symm nd_q7_om)).trans h_w20_q7)
  have h_w21_q10 : w21 q10 = some (eI cI 8 (fun _ => 0)) := (congrFun e_w21 _).trans ((mwu_ne (Ne.symm nd_q10_om)).trans h_w20_q10)
  have h_w21_q13 : w21 q13 = some (eI cI 8 (fun _ => 0)) := (congrFun e_w21 _).trans ((mwu_ne (Ne.symm nd_q13_om)).trans h_w20_q13)
  have h_w21_q16 : w21 q16 = some (eI cI 8 (fun _ => 0)) := (congrFun e_w21 _).trans ((mwu_ne (Ne.symm nd_q16_om)).trans h_w20_q16)
  have h_w21_q19 : w21 q19 = some (eI cI 9600 (fun _ => 0)) := (congrFun e_w21 _).trans ((mwu_ne (Ne.symm nd_q19_om)).trans h_w20_q19)
  have fr_w21 : ∀ zz : Nat, zz ≠ q1 → zz ≠ om → zz ≠ q4 → zz ≠ q7 → zz ≠ q10 → zz ≠ q13 → zz ≠ q16 → zz ≠ q19 → w21 zz = w zz := fun zz g0 g1 g2 g3 g4 g5 g6 g7 => (congrFun e_w21 zz).trans ((mwu_ne g1).trans (fr_w20 zz g0 g1 g2 g3 g4 g5 g6 g7))
  refine mg_aload_n C dX7_init_61 rfl ?_
  refine mg_sipush C (v := nI 1024) dX7_init_62 (by decide) ?_
  refine mg_newa C kw_19 (by omega) ⟨by decide, by (show 9648 + 1024 ≤ 10672; omega)⟩ dX7_init_65 (fun q22 w23 n_q22 e_w23 => ?_)
  refine mg_widen (k := 8) (n := 10672) (by decide) (by omega) ?_
  have nd_q22_om : om ≠ q22 := mw_nn h_w21_om n_q22
  have nd_q22_q1 : q1 ≠ q22 := mw_nn h_w21_q1 n_q22
  have nd_q22_q4 : q4 ≠ q22 := mw_nn h_w21_q4 n_q22
  have nd_q22_q7 : q7 ≠ q22 := mw_nn h_w21_q7 n_q22
  have nd_q22_q10 : q10 ≠ q22 := mw_nn h_w21_q10 n_q22
  have nd_q22_q13 : q13 ≠ q22 := mw_nn h_w21_q13 n_q22
  have nd_q22_q16 : q16 ≠ q22 := mw_nn h_w21_q16 n_q22
  have nd_q22_q19 : q19 ≠ q22 := mw_nn h_w21_q19 n_q22
  have nz_q22 : w q22 = none := (fr_w21 q22 (Ne.symm nd_q22_q1) (Ne.symm nd_q22_om) (Ne.symm nd_q22_q4) (Ne.symm nd_q22_q7) (Ne.symm nd_q22_q10) (Ne.symm nd_q22_q13) (Ne.symm nd_q22_q16) (Ne.symm nd_q22_q19)).symm.trans n_q22
  have h_w23_om : w23 om = some (.inr (6, [.int 0, .int 0, .ref q1, .ref q4, .ref q7, .ref q10, .ref q13, .ref q16, .ref q19, .null])) := (congrFun e_w23 _).trans ((mwu_ne nd_q22_om).trans h_w21_om)
  have h_w23_q1 : w23 q1 = some (eI cI 8 (fun _ => 0)) := (congrFun e_w23 _).trans ((mwu_ne nd_q22_q1).trans h_w21_q1)
  have h_w23_q4 : w23 q4 = some (eI cI 8 (fun _ => 0)) := (congrFun e_w23 _).trans ((mwu_ne nd_q22_q4).trans h_w21_q4)
  have h_w23_q7 : w23 q7 = some (eI cI 8 (fun _ => 0)) := (congrFun e_w23 _).trans ((mwu_ne nd_q22_q7).trans h_w21_q7)
  have h_w23_q10 : w23 q10 = some (eI cI 8 (fun _ => 0)) := (congrFun e_w23 _).trans ((mwu_ne nd_q22_q10).trans h_w21_q10)
  have h_w23_q13 : w23 q13 = some (eI cI 8 (fun _ => 0)) := (congrFun e_w23 _).trans ((mwu_ne nd_q22_q13).trans h_w21_q13)
  have h_w23_q16 : w23 q16 = some (eI cI 8 (fun _ => 0)) := (congrFun e_w23 _).trans ((mwu_ne nd_q22_q16).trans h_w21_q16)
  have h_w23_q19 : w23 q19 = some (eI cI 9600 (fun _ => 0)) := (congrFun e_w23 _).trans ((mwu_ne nd_q22_q19).trans h_w21_q19)
  have h_w23_q22 : w23 q22 = some (eI cI 1024 (fun _ => 0)) := (congrFun e_w23 _).trans mwu_eq
  have fr_w23 : ∀ zz : Nat, zz ≠ q1 → zz ≠ om → zz ≠ q4 → zz ≠ q7 → zz ≠ q10 → zz ≠ q13 → zz ≠ q16 → zz ≠ q19 → zz ≠ q22 → w23 zz = w zz := fun zz g0 g1 g2 g3 g4 g5 g6 g7 g8 => (congrFun e_w23 zz).trans ((mwu_ne g8).trans (fr_w21 zz g0 g1 g2 g3 g4 g5 g6 g7))
  refine mg_putF C (fs' := [.int 0, .int 0, .ref q1, .ref q4, .ref q7, .ref q10, .ref q13, .ref q16, .ref q19, .ref q22]) inT7 h_w23_om rfl 9 (by decide) kw_27 (Or.inl rfl) tyX7_ok nmX7 rfl hN rfl rfl rfl rfl (Nat.le_of_ble_eq_true rfl) dX7_init_67 (fun w24 e_w24 => ?_)
  have h_w24_om : w24 om = some (.inr (6, [.int 0, .int 0, .ref q1, .ref q4, .ref q7, .ref q10, .ref q13, .ref q16, .ref q19, .ref q22])) := (congrFun e_w24 _).trans mwu_eq
  have h_w24_q1 : w24 q1 = some (eI cI 8 (fun _ => 0)) := (congrFun e_w24 _).trans ((mwu_ne (Ne.symm nd_q1_om)).trans h_w23_q1)
  have h_w24_q4 : w24 q4 = some (eI cI 8 (fun _ => 0)) := (congrFun e_w24 _).trans ((mwu_ne (Ne.symm nd_q4_om)).trans h_w23_q4)
  have h_w24_q7 : w24 q7 = some (eI cI 8 (fun _ => 0)) := (congrFun e_w24 _).trans ((mwu_ne (Ne.symm nd_q7_om)).trans h_w23_q7)
  have h_w24_q10 : w24 q10 = some (eI cI 8 (fun _ => 0)) := (congrFun e_w24 _).trans ((mwu_ne (Ne.symm nd_q10_om)).trans h_w23_q10)
  have h_w24_q13 : w24 q13 = some (eI cI 8 (fun _ => 0)) := (congrFun e_w24 _).trans ((mwu_ne (Ne.symm nd_q13_om)).trans h_w23_q13)
  have h_w24_q16 : w24 q16 = some (eI cI 8 (fun _ => 0)) := (congrFun e_w24 _).trans ((mwu_ne (Ne.symm nd_q16_om)).trans h_w23_q16)
  have h_w24_q19 : w24 q19 = some (eI cI 9600 (fun _ => 0)) := (congrFun e_w24 _).trans ((mwu_ne (Ne.symm nd_q19_om)).trans h_w23_q19)
  have h_w24_q22 : w24 q22 = some (eI cI 1024 (fun _ => 0)) := (congrFun e_w24 _).trans ((mwu_ne (Ne.symm nd_q22_om)).trans h_w23_q22)
  have fr_w24 : ∀ zz : Nat, zz ≠ q1 → zz ≠ om → zz ≠ q4 → zz ≠ q7 → zz ≠ q10 → zz ≠ q13 → zz ≠ q16 → zz ≠ q19 → zz ≠ q22 → w24 zz = w zz := fun zz g0 g1 g2 g3 g4 g5 g6 g7 g8 => (congrFun e_w24 zz).trans ((mwu_ne g1).trans (fr_w23 zz g0 g1 g2 g3 g4 g5 g6 g7 g8))
  refine mg_aload_n C dX7_init_70 rfl ?_
  refine mg_iconst C (v := nI 0) dX7_init_71 (by decide) ?_
  refine mg_put C (fs' := [.int (nI 0), .int 0, .ref q1, .ref q4, .ref q7, .ref q10, .ref q13, .ref q16, .ref q19, .ref q22]) inT7 h_w24_om rfl 0 (by decide) kw_28 (Or.inl rfl) tyX7_ok nmX7 rfl rfl rfl rfl (Nat.le_of_ble_eq_true rfl) dX7_init_72 (fun w25 e_w25 => ?_)
  have h_w25_om : w25 om = some (.inr (6, [.int (nI 0), .int 0, .ref q1, .ref q4, .ref q7, .ref q10, .ref q13, .ref q16, .ref q19, .ref q22])) := (congrFun e_w25 _).trans mwu_eq
  have h_w25_q1 : w25 q1 = some (eI cI 8 (fun _ => 0)) := (congrFun e_w25 _).trans ((mwu_ne (Ne.symm nd_q1_om)).trans h_w24_q1)
  have h_w25_q4 : w25 q4 = some (eI cI 8 (fun _ => 0)) := (congrFun e_w25 _).trans ((mwu_ne (Ne.symm nd_q4_om)).trans h_w24_q4)
  have h_w25_q7 : w25 q7 = some (eI cI 8 (fun _ => 0)) := (congrFun e_w25 _).trans ((mwu_ne (Ne.symm nd_q7_om)).trans h_w24_q7)
  have h_w25_q10 : w25 q10 = some (eI cI 8 (fun _ => 0)) := (congrFun e_w25 _).trans ((mwu_ne (Ne.symm nd_q10_om)).trans h_w24_q10)
  have h_w25_q13 : w25 q13 = some (eI cI 8 (fun _ => 0)) := (congrFun e_w25 _).trans ((mwu_ne (Ne.symm nd_q13_om)).trans h_w24_q13)
  have h_w25_q16 : w25 q16 = some (eI cI 8 (fun _ => 0)) := (congrFun e_w25 _).trans ((mwu_ne (Ne.symm nd_q16_om)).trans h_w24_q16)
  have h_w25_q19 : w25 q19 = some (eI cI 9600 (fun _ => 0)) := (congrFun e_w25 _).trans ((mwu_ne (Ne.symm nd_q19_om)).trans h_w24_q19)
  have h_w25_q22 : w25 q22 = some (eI cI 1024 (fun _ => 0)) := (congrFun e_w25 _).trans ((mwu_ne (Ne.symm nd_q22_om)).trans h_w24_q22)
  have fr_w25 : ∀ zz : Nat, zz ≠ q1 → zz ≠ om → zz ≠ q4 → zz ≠ q7 → zz ≠ q10 → zz ≠ q13 → zz ≠ q16 → zz ≠ q19 → zz ≠ q22 → w25 zz = w zz := fun zz g0 g1 g2 g3 g4 g5 g6 g7 g8 => (congrFun e_w25 zz).trans ((mwu_ne g1).trans (fr_w24 zz g0 g1 g2 g3 g4 g5 g6 g7 g8))
  exact hR _ _ _ dX7_init_75 ⟨q1, q4, q7, q10, q13, q16, q19, q22, nz_q1, nz_q4, nz_q7, nz_q10, nz_q13, nz_q16, nz_q19, nz_q22, nd_q4_q1, nd_q7_q1, nd_q7_q4, nd_q10_q1, nd_q10_q4, nd_q10_q7, nd_q13_q1, nd_q13_q4, nd_q13_q7, nd_q13_q10, nd_q16_q1, nd_q16_q4, nd_q16_q7, nd_q16_q10, nd_q16_q13, nd_q19_q1, nd_q19_q4, nd_q19_q7, nd_q19_q10, nd_q19_q13, nd_q19_q16, nd_q22_q1, nd_q22_q4, nd_q22_q7, nd_q22_q10, nd_q22_q13, nd_q22_q16, nd_q22_q19, h_w25_om, h_w25_q1, h_w25_q4, h_w25_q7, h_w25_q10, h_w25_q13, h_w25_q16, h_w25_q19, h_w25_q22, fun z q0 q1 q2 q3 q4 q5 q6 q7 q8 => fr_w25 z q1 q0 q2 q3 q4 q5 q6 q7 q8⟩
