set_option maxHeartbeats 4000000 in
set_option maxRecDepth 20000 in
theorem c_X7_comeHeavy (D : va_G) (cI cS : ClassId) (w : mwT) (om md aso asi ase ato amo alo aro asr : Nat) (th : Int32) (ro : Nat → Int32) (lo : Nat → Int32) (si : Nat → Nat) (tg : Nat → Nat) (s h k c : Nat) (f : Nat → Int32) (gn : Nat → Nat) (x : Int32) (hom : w om = some (.inr (6, [.int th, .int (nI md), .ref aso, .ref asi, .ref ase, .ref ato, .ref amo, .ref alo, .ref aro, .ref asr]))) (h_aro : w aro = some (eI cI 9600 ro)) (h_alo : w alo = some (eI cI 8 lo)) (h_asi : w asi = some (eI cI 8 (lnF si))) (hs8 : s < 8) (hk1 : 1 ≤ k) (hk2 : k ≤ 20) (hh : h ≤ k) (hc1 : 1 ≤ c) (hc2 : c ≤ 1000) (hv : HvM ro s f (lnF gn) h) (hgn : ∀ i, i < h → 1 ≤ gn i ∧ gn i ≤ 10000000) (hsk : si s = k) (t_aro : tg aro = 7) (t_alo : tg alo = 6) (t_asi : tg asi = 2) : mMv yX7_comeHeavy cX7_comeHeavy 7 none (rmL 4) [.ref om, .int (nI s), .int x, .int (nI c)] D cI cS w (fun w1 => ∃ ro1 : Nat → Int32, w1 aro = some (eI cI 9600 ro1) ∧ HvM ro1 s (comU k x c f gn h (lo s)).1.1 (comU k x c f gn h (lo s)).1.2.1 (comU k x c f gn h (lo s)).1.2.2 ∧ outS ro ro1 s ∧ w1 alo = some (eI cI 8 (upd lo s (comU k x c f gn h (lo s)).2)) ∧ ∀ z : Nat, z ≠ aro → z ≠ alo → w1 z = w z) := by
  refine mMv.of (by decide) (Nat.le_of_ble_eq_true rfl) ?_
  intro X C hN hR
  have fr_w : ∀ zz : Nat, w zz = w zz := fun _ => rfl
  refine mg_sub (lv' := [(0, .ref om), (1, .int (nI s)), (2, .int x), (3, .int (nI c))]) [0, 1, 2, 3] rfl ?_
  refine mg_iload_n C dX7_comeHeavy_0 rfl ?_
  refine mg_istore C (lv' := [(4, .int (nI c)), (0, .ref om), (1, .int (nI s)), (2, .int x), (3, .int (nI c))]) dX7_comeHeavy_1 (by decide) rfl ?_
  refine mg_iload C dX7_comeHeavy_3 rfl ?_
  refine mg_ifN_le C (tgt := 125) dX7_comeHeavy_5 (by decide) (by omega) (fun c_5 => absurd c_5 (by omega)) (fun c_5 => ?_)
  refine mg_aload_n C dX7_comeHeavy_8 rfl ?_
  refine mg_iload_n C dX7_comeHeavy_9 rfl ?_
  refine mg_iload_n C dX7_comeHeavy_10 rfl ?_
  refine mg_callV_i C hom rfl (rest := []) (c_X7_counterOf D cI cS w om md aso asi ase ato amo alo aro asr th ro s h f (lnF gn) x hom h_aro hs8 hv (by omega)) yq_X7_counterOf kw_336 kw_337 kw_338 ⟨by decide, by decide⟩ ⟨Nat.le_of_ble_eq_true rfl, Nat.le_of_ble_eq_true rfl⟩ (Nat.le_of_ble_eq_true rfl) rfl rfl dX7_comeHeavy_11 (fun r1 w1 ⟨xa1, xk1⟩ => ?_)
  rw [xk1]
  rcases xa1 with ⟨hfd, ra1⟩ | ⟨hfd, ra1⟩
  · rw [ra1]
    refine mg_ifN_ge C (tgt := 31) dX7_comeHeavy_14 (by decide) (by omega) ?_
    have hcond : fdU f x h < h ∨ h < k := by omega
    refine mg_aload_n C dX7_comeHeavy_31 rfl ?_
    refine mg_iload_n C dX7_comeHeavy_32 rfl ?_
    refine mg_iload_n C dX7_comeHeavy_33 rfl ?_
    refine mg_iload C dX7_comeHeavy_34 rfl ?_
    refine mg_callV_v C hom rfl (rest := []) (c_X7_add D cI cS w om md aso asi ase ato amo alo aro asr th ro s h f (lnF gn) x (nI c) hom h_aro hs8 hv (by omega)) yq_X7_add kw_348 kw_349 kw_350 ⟨by decide, by decide⟩ ⟨Nat.le_of_ble_eq_true rfl, Nat.le_of_ble_eq_true rfl⟩ (Nat.le_of_ble_eq_true rfl) rfl rfl dX7_comeHeavy_36 (fun w2 ⟨ro2, xk2, xv2, xo2, xf2⟩ => ?_)
    have h_w2_om : w2 om = some (.inr (6, [.int th, .int (nI md), .ref aso, .ref asi, .ref ase, .ref ato, .ref amo, .ref alo, .ref aro, .ref asr])) := (xf2 om (mw_oa hom h_aro)).trans hom
    have h_w2_alo : w2 alo = some (eI cI 8 lo) := (xf2 alo (Ne.symm (tne t_aro t_alo (by decide)))).trans h_alo
    have h_w2_asi : w2 asi = some (eI cI 8 (lnF si)) := (xf2 asi (Ne.symm (tne t_aro t_asi (by decide)))).trans h_asi
    have fr_w2 : ∀ zz : Nat, zz ≠ aro → w2 zz = w zz := fun zz g0 => (xf2 zz g0).trans (fr_w zz )
    refine mg_iconst C (v := nI 0) dX7_comeHeavy_39 (by decide) ?_
    refine mg_istore C (lv' := [(4, .int (nI 0)), (0, .ref om), (1, .int (nI s)), (2, .int x), (3, .int (nI c))]) dX7_comeHeavy_40 (by decide) rfl ?_
    refine mg_goto C (tgt := 3) dX7_comeHeavy_42 (by decide) ?_
    refine mg_iload C dX7_comeHeavy_3 rfl ?_
    refine mg_ifN_le C (tgt := 125) dX7_comeHeavy_5 (by decide) (by decide) (fun c_5 => ?_) (fun c_5 => absurd c_5 (by decide))
    have ec : comU k x c f gn h (lo s) = (addU x (nI c) (f, lnF gn, h), lo s) := if_pos hcond
    exact hR _ _ _ dX7_comeHeavy_125 ⟨ro2, xk2, by rw [ec]; exact xv2, xo2, by rw [ec]; exact h_w2_alo.trans (congrArg (fun q => some (eI cI 8 q)) (upd_self lo s).symm), fun z q0 q1 => fr_w2 z q0⟩
  · rw [ra1]
    refine mg_if_ge C (tgt := 31) dX7_comeHeavy_14 (by decide) (fun c_14 => absurd c_14 (by decide)) (fun c_14 => ?_)
    refine mg_aload_n C dX7_comeHeavy_17 rfl ?_
    refine mg_iload_n C dX7_comeHeavy_18 rfl ?_
    refine mg_callV_i C hom rfl (rest := []) (c_X7_many D cI cS w om md aso asi ase ato amo alo aro asr th ro s h hom h_aro hs8 hv.1) yq_X7_many kw_340 kw_341 kw_342 ⟨by decide, by decide⟩ ⟨Nat.le_of_ble_eq_true rfl, Nat.le_of_ble_eq_true rfl⟩ (Nat.le_of_ble_eq_true rfl) rfl rfl dX7_comeHeavy_19 (fun r3 w4 ⟨e_r3, e_w4⟩ => ?_)
    rw [e_w4, e_r3]
    refine mg_aload_n C dX7_comeHeavy_22 rfl ?_
    refine mg_get C inT7 hom rfl 3 (by decide) kw_21 (Or.inl rfl) rfl dX7_comeHeavy_23 ?_
    refine mg_iload_n C dX7_comeHeavy_26 rfl ?_
    refine mg_ialdN C h_asi hs8 (by omega) dX7_comeHeavy_27 ?_
    rw [show lnF si s = nI k from congrArg nI hsk]
    refine mg_icmpN_ge C (tgt := 45) dX7_comeHeavy_28 (by decide) (by omega) (by omega) (fun c_28 => ?_) (fun c_28 => ?_)
    · have hcond : ¬ (fdU f x h < h ∨ h < k) := by omega
      refine mg_iload C dX7_comeHeavy_45 rfl ?_
      refine mg_istore C (lv' := [(5, .int (nI c)), (4, .int (nI c)), (0, .ref om), (1, .int (nI s)), (2, .int x), (3, .int (nI c))]) dX7_comeHeavy_47 (by decide) rfl ?_
      refine mg_iconst C (v := nI 0) dX7_comeHeavy_49 (by decide) ?_
      refine mg_istore C (lv' := [(6, .int (nI 0)), (5, .int (nI c)), (4, .int (nI c)), (0, .ref om), (1, .int (nI s)), (2, .int x), (3, .int (nI c))]) dX7_comeHeavy_50 (by decide) rfl ?_
      have L52 : ∀ (M52 : Nat) (iz : Nat), h - iz < M52 → (iz ≤ h) → mwG X 0 0 w [(0, .ref om), (1, .int (nI s)), (2, .int x), (3, .int (nI c)), (4, .int (nI c)), (5, .int (nI (mnU gn c iz))), (6, .int (nI iz))] [] 52 := by
        intro M52
        induction M52 with
        | zero => intro iz hm52; exact absurd hm52 (Nat.not_lt_zero _)
        | succ M52 ih52 =>
          intro iz hm52 hiz
          refine mg_iload C dX7_comeHeavy_52 rfl ?_
          refine mg_aload_n C dX7_comeHeavy_54 rfl ?_
          refine mg_iload_n C dX7_comeHeavy_55 rfl ?_
          refine mg_callV_i C hom rfl (rest := [.int (nI iz)]) (c_X7_many D cI cS w om md aso asi ase ato amo alo aro asr th ro s h hom h_aro hs8 hv.1) yq_X7_many kw_340 kw_341 kw_342 ⟨by decide, by decide⟩ ⟨Nat.le_of_ble_eq_true rfl, Nat.le_of_ble_eq_true rfl⟩ (Nat.le_of_ble_eq_true rfl) rfl rfl dX7_comeHeavy_56 (fun r5 w6 ⟨e_r5, e_w6⟩ => ?_)
          rw [e_w6, e_r5]
          refine mg_icmpN_ge C (tgt := 108) dX7_comeHeavy_59 (by decide) (by omega) (by omega) (fun c_59 => ?_) (fun c_59 => ?_)
          · have ei : iz = h := by omega
            rw [ei]
            have hml := mnU_le gn c h
            refine mg_aload_n C dX7_comeHeavy_108 rfl ?_
            refine mg_iload_n C dX7_comeHeavy_109 rfl ?_
            refine mg_iload C dX7_comeHeavy_110 rfl ?_
            refine mg_callV_v C hom rfl (rest := []) (c_X7_lessen D cI cS w om md aso asi ase ato amo alo aro asr th ro lo tg s h f (lnF gn) (nI (mnU gn c h)) hom h_aro h_alo hs8 hv (by omega) t_aro t_alo) yq_X7_lessen kw_352 kw_353 kw_354 ⟨by decide, by decide⟩ ⟨Nat.le_of_ble_eq_true rfl, Nat.le_of_ble_eq_true rfl⟩ (Nat.le_of_ble_eq_true rfl) rfl rfl dX7_comeHeavy_112 (fun w7 ⟨roL, xk7, hv2, ho2, xl7, xf7⟩ => ?_)
            have h_w7_om : w7 om = some (.inr (6, [.int th, .int (nI md), .ref aso, .ref asi, .ref ase, .ref ato, .ref amo, .ref alo, .ref aro, .ref asr])) := (xf7 om (mw_oa hom h_aro) (mw_oa hom h_alo)).trans hom
            have h_w7_asi : w7 asi = some (eI cI 8 (lnF si)) := (xf7 asi (Ne.symm (tne t_aro t_asi (by decide))) (Ne.symm (tne t_alo t_asi (by decide)))).trans h_asi
            have fr_w7 : ∀ zz : Nat, zz ≠ aro → zz ≠ alo → w7 zz = w zz := fun zz g0 g1 => (xf7 zz g0 g1).trans (fr_w zz )
            have hls := lessU_le f (lnF gn) (nI (mnU gn c h)) h
            have hml := mnU_le gn c h
            refine mg_iload C dX7_comeHeavy_115 rfl ?_
            refine mg_iload C dX7_comeHeavy_117 rfl ?_
            refine mg_isub C (z := nI (c - mnU gn c h)) dX7_comeHeavy_119 (ni_sub (by omega)) ?_
            refine mg_istore C (lv' := [(4, .int (nI (c - mnU gn c h))), (0, .ref om), (1, .int (nI s)), (2, .int x), (3, .int (nI c)), (5, .int (nI (mnU gn c h))), (6, .int (nI h))]) dX7_comeHeavy_120 (by decide) rfl ?_
            refine mg_goto C (tgt := 3) dX7_comeHeavy_122 (by decide) ?_
            refine mg_iload C dX7_comeHeavy_3 rfl ?_
            refine mg_ifN_le C (tgt := 125) dX7_comeHeavy_5 (by decide) (by omega) (fun c_5 => ?_) (fun c_5 => ?_)
            · have ec : comU k x c f gn h (lo s) = ((lessU f (lnF gn) (nI (mnU gn c h)) h), lo s + nI (mnU gn c h)) := (if_neg hcond).trans (congrArg (fun q => (q, lo s + nI (mnU gn c h))) (if_pos (by omega)))
              exact hR _ _ _ dX7_comeHeavy_125 ⟨roL, xk7, by rw [ec]; exact hv2, ho2, by rw [ec]; exact xl7, fun z q0 q1 => fr_w7 z q0 q1⟩
            · refine mg_aload_n C dX7_comeHeavy_8 rfl ?_
              refine mg_iload_n C dX7_comeHeavy_9 rfl ?_
              refine mg_iload_n C dX7_comeHeavy_10 rfl ?_
              refine mg_callV_i C h_w7_om rfl (rest := []) (c_X7_counterOf D cI cS w7 om md aso asi ase ato amo alo aro asr th roL s ((lessU f (lnF gn) (nI (mnU gn c h)) h).2.2) ((lessU f (lnF gn) (nI (mnU gn c h)) h).1) ((lessU f (lnF gn) (nI (mnU gn c h)) h).2.1) x h_w7_om xk7 hs8 hv2 (by omega)) yq_X7_counterOf kw_336 kw_337 kw_338 ⟨by decide, by decide⟩ ⟨Nat.le_of_ble_eq_true rfl, Nat.le_of_ble_eq_true rfl⟩ (Nat.le_of_ble_eq_true rfl) rfl rfl dX7_comeHeavy_11 (fun r8 w8 ⟨xa8, xk8⟩ => ?_)
              rw [xk8]
              rcases xa8 with ⟨hfd, ra8⟩ | ⟨hfd, ra8⟩
              · rw [ra8]
                refine mg_ifN_ge C (tgt := 31) dX7_comeHeavy_14 (by decide) (by omega) ?_
                have hleft : ¬ c - mnU gn c h = 0 := by omega
                refine mg_aload_n C dX7_comeHeavy_31 rfl ?_
                refine mg_iload_n C dX7_comeHeavy_32 rfl ?_
                refine mg_iload_n C dX7_comeHeavy_33 rfl ?_
                refine mg_iload C dX7_comeHeavy_34 rfl ?_
                refine mg_callV_v C h_w7_om rfl (rest := []) (c_X7_add D cI cS w7 om md aso asi ase ato amo alo aro asr th roL s ((lessU f (lnF gn) (nI (mnU gn c h)) h).2.2) ((lessU f (lnF gn) (nI (mnU gn c h)) h).1) ((lessU f (lnF gn) (nI (mnU gn c h)) h).2.1) x (nI (c - mnU gn c h)) h_w7_om xk7 hs8 hv2 (by omega)) yq_X7_add kw_348 kw_349 kw_350 ⟨by decide, by decide⟩ ⟨Nat.le_of_ble_eq_true rfl, Nat.le_of_ble_eq_true rfl⟩ (Nat.le_of_ble_eq_true rfl) rfl rfl dX7_comeHeavy_36 (fun w9 ⟨ro9, xk9, xv9, xo9, xf9⟩ => ?_)
                have h_w9_om : w9 om = some (.inr (6, [.int th, .int (nI md), .ref aso, .ref asi, .ref ase, .ref ato, .ref amo, .ref alo, .ref aro, .ref asr])) := (xf9 om (mw_oa h_w7_om xk7)).trans h_w7_om
                have h_w9_alo : w9 alo = some (eI cI 8 (upd lo s (lo s + nI (mnU gn c h)))) := (xf9 alo (Ne.symm (tne t_aro t_alo (by decide)))).trans xl7
                have h_w9_asi : w9 asi = some (eI cI 8 (lnF si)) := (xf9 asi (Ne.symm (tne t_aro t_asi (by decide)))).trans h_w7_asi
                have fr_w9 : ∀ zz : Nat, zz ≠ aro → zz ≠ alo → w9 zz = w zz := fun zz g0 g1 => (xf9 zz g0).trans (fr_w7 zz g0 g1)
                refine mg_iconst C (v := nI 0) dX7_comeHeavy_39 (by decide) ?_
                refine mg_istore C (lv' := [(4, .int (nI 0)), (0, .ref om), (1, .int (nI s)), (2, .int x), (3, .int (nI c)), (5, .int (nI (mnU gn c h))), (6, .int (nI h))]) dX7_comeHeavy_40 (by decide) rfl ?_
                refine mg_goto C (tgt := 3) dX7_comeHeavy_42 (by decide) ?_
                refine mg_iload C dX7_comeHeavy_3 rfl ?_
                refine mg_ifN_le C (tgt := 125) dX7_comeHeavy_5 (by decide) (by decide) (fun c_5 => ?_) (fun c_5 => absurd c_5 (by decide))
                have ec : comU k x c f gn h (lo s) = (addU x (nI (c - mnU gn c h)) (lessU f (lnF gn) (nI (mnU gn c h)) h), lo s + nI (mnU gn c h)) := (if_neg hcond).trans (congrArg (fun q => (q, lo s + nI (mnU gn c h))) (if_neg hleft))
                exact hR _ _ _ dX7_comeHeavy_125 ⟨ro9, xk9, by rw [ec]; exact xv9, ho2.tr xo9, by rw [ec]; exact h_w9_alo, fun z q0 q1 => fr_w9 z q0 q1⟩
              · rw [ra8]
                refine mg_if_ge C (tgt := 31) dX7_comeHeavy_14 (by decide) (fun c_14 => absurd c_14 (by decide)) (fun c_14 => ?_)
                refine mg_aload_n C dX7_comeHeavy_17 rfl ?_
                refine mg_iload_n C dX7_comeHeavy_18 rfl ?_
                refine mg_callV_i C h_w7_om rfl (rest := []) (c_X7_many D cI cS w7 om md aso asi ase ato amo alo aro asr th roL s ((lessU f (lnF gn) (nI (mnU gn c h)) h).2.2) h_w7_om xk7 hs8 hv2.1) yq_X7_many kw_340 kw_341 kw_342 ⟨by decide, by decide⟩ ⟨Nat.le_of_ble_eq_true rfl, Nat.le_of_ble_eq_true rfl⟩ (Nat.le_of_ble_eq_true rfl) rfl rfl dX7_comeHeavy_19 (fun r10 w11 ⟨e_r10, e_w11⟩ => ?_)
                rw [e_w11, e_r10]
                refine mg_aload_n C dX7_comeHeavy_22 rfl ?_
                refine mg_get C inT7 h_w7_om rfl 3 (by decide) kw_21 (Or.inl rfl) rfl dX7_comeHeavy_23 ?_
                refine mg_iload_n C dX7_comeHeavy_26 rfl ?_
                refine mg_ialdN C h_w7_asi hs8 (by omega) dX7_comeHeavy_27 ?_
                rw [show lnF si s = nI k from congrArg nI hsk]
                refine mg_icmpN_ge C (tgt := 45) dX7_comeHeavy_28 (by decide) (by omega) (by omega) (fun c_28 => absurd c_28 (by have := mnU_drop (f := f) (gn := gn) (c := c) (h := h) (by omega); omega)) (fun c_28 => ?_)
                have hleft : ¬ c - mnU gn c h = 0 := by omega
                refine mg_aload_n C dX7_comeHeavy_31 rfl ?_
                refine mg_iload_n C dX7_comeHeavy_32 rfl ?_
                refine mg_iload_n C dX7_comeHeavy_33 rfl ?_
                refine mg_iload C dX7_comeHeavy_34 rfl ?_
                refine mg_callV_v C h_w7_om rfl (rest := []) (c_X7_add D cI cS w7 om md aso asi ase ato amo alo aro asr th roL s ((lessU f (lnF gn) (nI (mnU gn c h)) h).2.2) ((lessU f (lnF gn) (nI (mnU gn c h)) h).1) ((lessU f (lnF gn) (nI (mnU gn c h)) h).2.1) x (nI (c - mnU gn c h)) h_w7_om xk7 hs8 hv2 (by omega)) yq_X7_add kw_348 kw_349 kw_350 ⟨by decide, by decide⟩ ⟨Nat.le_of_ble_eq_true rfl, Nat.le_of_ble_eq_true rfl⟩ (Nat.le_of_ble_eq_true rfl) rfl rfl dX7_comeHeavy_36 (fun w12 ⟨ro12, xk12, xv12, xo12, xf12⟩ => ?_)
                have h_w12_om : w12 om = some (.inr (6, [.int th, .int (nI md), .ref aso, .ref asi, .ref ase, .ref ato, .ref amo, .ref alo, .ref aro, .ref asr])) := (xf12 om (mw_oa h_w7_om xk7)).trans h_w7_om
                have h_w12_alo : w12 alo = some (eI cI 8 (upd lo s (lo s + nI (mnU gn c h)))) := (xf12 alo (Ne.symm (tne t_aro t_alo (by decide)))).trans xl7
                have h_w12_asi : w12 asi = some (eI cI 8 (lnF si)) := (xf12 asi (Ne.symm (tne t_aro t_asi (by decide)))).trans h_w7_asi
                have fr_w12 : ∀ zz : Nat, zz ≠ aro → zz ≠ alo → w12 zz = w zz := fun zz g0 g1 => (xf12 zz g0).trans (fr_w7 zz g0 g1)
                refine mg_iconst C (v := nI 0) dX7_comeHeavy_39 (by decide) ?_
                refine mg_istore C (lv' := [(4, .int (nI 0)), (0, .ref om), (1, .int (nI s)), (2, .int x), (3, .int (nI c)), (5, .int (nI (mnU gn c h))), (6, .int (nI h))]) dX7_comeHeavy_40 (by decide) rfl ?_
                refine mg_goto C (tgt := 3) dX7_comeHeavy_42 (by decide) ?_
                refine mg_iload C dX7_comeHeavy_3 rfl ?_
                refine mg_ifN_le C (tgt := 125) dX7_comeHeavy_5 (by decide) (by decide) (fun c_5 => ?_) (fun c_5 => absurd c_5 (by decide))
                have ec : comU k x c f gn h (lo s) = (addU x (nI (c - mnU gn c h)) (lessU f (lnF gn) (nI (mnU gn c h)) h), lo s + nI (mnU gn c h)) := (if_neg hcond).trans (congrArg (fun q => (q, lo s + nI (mnU gn c h))) (if_neg hleft))
                exact hR _ _ _ dX7_comeHeavy_125 ⟨ro12, xk12, by rw [ec]; exact xv12, ho2.tr xo12, by rw [ec]; exact h_w12_alo, fun z q0 q1 => fr_w12 z q0 q1⟩
          · refine mg_aload_n C dX7_comeHeavy_62 rfl ?_
            refine mg_get C inT7 hom rfl 8 (by decide) kw_26 (Or.inl rfl) rfl dX7_comeHeavy_63 ?_
            refine mg_aload_n C dX7_comeHeavy_66 rfl ?_
            refine mg_iload_n C dX7_comeHeavy_67 rfl ?_
            refine mg_iload C dX7_comeHeavy_68 rfl ?_
            refine mg_callV_i C hom rfl (rest := [.ref aro]) (c_X7_at D cI cS w om md aso asi ase ato amo alo aro asr th s iz hom) yq_X7_at kw_344 kw_345 kw_346 ⟨by decide, by decide⟩ ⟨Nat.le_of_ble_eq_true rfl, Nat.le_of_ble_eq_true rfl⟩ (Nat.le_of_ble_eq_true rfl) rfl rfl dX7_comeHeavy_70 (fun r13 w14 ⟨e_r13, e_w14⟩ => ?_)
            rw [e_w14, e_r13]
            refine mg_iconst C (v := nI 1) dX7_comeHeavy_73 (by decide) ?_
            refine mg_iadd C (z := nI ((1200 * s + 100 + 2 * iz) + 1)) dX7_comeHeavy_74 (nI_add _ _) ?_
            refine mg_ialdN C h_aro (by omega) (by omega) dX7_comeHeavy_75 ?_
            rw [(hv.2 iz (by omega)).2]
            have hgz := hgn iz (by omega)
            have hmz := mnU_le gn c iz
            refine mg_iload C dX7_comeHeavy_76 rfl ?_
            refine mg_icmpN_ge C (tgt := 98) dX7_comeHeavy_78 (by decide) (by omega) (by omega) (fun c_78 => ?_) (fun c_78 => ?_)
            · refine mg_iload C dX7_comeHeavy_98 rfl ?_
              refine mg_istore C (lv' := [(5, .int (nI (mnU gn c iz))), (0, .ref om), (1, .int (nI s)), (2, .int x), (3, .int (nI c)), (4, .int (nI c)), (6, .int (nI iz))]) dX7_comeHeavy_100 (by decide) rfl ?_
              have em : mnU gn c (iz + 1) = mnU gn c iz := if_neg (by omega)
              rw [← em]
              refine mg_iinc C (v := nI (iz + 1)) (lv' := [(6, .int (nI (iz + 1))), (5, .int (nI (mnU gn c (iz + 1)))), (0, .ref om), (1, .int (nI s)), (2, .int x), (3, .int (nI c)), (4, .int (nI c))]) dX7_comeHeavy_102 rfl (ni_inc _) (by decide) rfl ?_
              refine mg_goto C (tgt := 52) dX7_comeHeavy_105 (by decide) ?_
              refine mg_sub (lv' := [(0, .ref om), (1, .int (nI s)), (2, .int x), (3, .int (nI c)), (4, .int (nI c)), (5, .int (nI (mnU gn c (iz + 1)))), (6, .int (nI (iz + 1)))]) [2, 3, 4, 5, 6, 1, 0] rfl ?_
              exact ih52 ((iz + 1)) (by omega) (by omega)
            · refine mg_aload_n C dX7_comeHeavy_81 rfl ?_
              refine mg_get C inT7 hom rfl 8 (by decide) kw_26 (Or.inl rfl) rfl dX7_comeHeavy_82 ?_
              refine mg_aload_n C dX7_comeHeavy_85 rfl ?_
              refine mg_iload_n C dX7_comeHeavy_86 rfl ?_
              refine mg_iload C dX7_comeHeavy_87 rfl ?_
              refine mg_callV_i C hom rfl (rest := [.ref aro]) (c_X7_at D cI cS w om md aso asi ase ato amo alo aro asr th s iz hom) yq_X7_at kw_344 kw_345 kw_346 ⟨by decide, by decide⟩ ⟨Nat.le_of_ble_eq_true rfl, Nat.le_of_ble_eq_true rfl⟩ (Nat.le_of_ble_eq_true rfl) rfl rfl dX7_comeHeavy_89 (fun r15 w16 ⟨e_r15, e_w16⟩ => ?_)
              rw [e_w16, e_r15]
              refine mg_iconst C (v := nI 1) dX7_comeHeavy_92 (by decide) ?_
              refine mg_iadd C (z := nI ((1200 * s + 100 + 2 * iz) + 1)) dX7_comeHeavy_93 (nI_add _ _) ?_
              refine mg_ialdN C h_aro (by omega) (by omega) dX7_comeHeavy_94 ?_
              rw [(hv.2 iz (by omega)).2]
              refine mg_goto C (tgt := 100) dX7_comeHeavy_95 (by decide) ?_
              refine mg_istore C (lv' := [(5, .int (nI (gn iz))), (0, .ref om), (1, .int (nI s)), (2, .int x), (3, .int (nI c)), (4, .int (nI c)), (6, .int (nI iz))]) dX7_comeHeavy_100 (by decide) rfl ?_
              have em : mnU gn c (iz + 1) = gn iz := if_pos c_78
              rw [← em]
              refine mg_iinc C (v := nI (iz + 1)) (lv' := [(6, .int (nI (iz + 1))), (5, .int (nI (mnU gn c (iz + 1)))), (0, .ref om), (1, .int (nI s)), (2, .int x), (3, .int (nI c)), (4, .int (nI c))]) dX7_comeHeavy_102 rfl (ni_inc _) (by decide) rfl ?_
              refine mg_goto C (tgt := 52) dX7_comeHeavy_105 (by decide) ?_
              refine mg_sub (lv' := [(0, .ref om), (1, .int (nI s)), (2, .int x), (3, .int (nI c)), (4, .int (nI c)), (5, .int (nI (mnU gn c (iz + 1)))), (6, .int (nI (iz + 1)))]) [2, 3, 4, 5, 6, 1, 0] rfl ?_
              exact ih52 ((iz + 1)) (by omega) (by omega)
      refine mg_sub (lv' := [(0, .ref om), (1, .int (nI s)), (2, .int x), (3, .int (nI c)), (4, .int (nI c)), (5, .int (nI c)), (6, .int (nI 0))]) [3, 4, 5, 6, 2, 1, 0] rfl ?_
      exact L52 (_ + 1) 0 (Nat.lt_succ_self _) (Nat.zero_le _)
    · have hcond : fdU f x h < h ∨ h < k := by omega
      refine mg_aload_n C dX7_comeHeavy_31 rfl ?_
      refine mg_iload_n C dX7_comeHeavy_32 rfl ?_
      refine mg_iload_n C dX7_comeHeavy_33 rfl ?_
      refine mg_iload C dX7_comeHeavy_34 rfl ?_
      refine mg_callV_v C hom rfl (rest := []) (c_X7_add D cI cS w om md aso asi ase ato amo alo aro asr th ro s h f (lnF gn) x (nI c) hom h_aro hs8 hv (by omega)) yq_X7_add kw_348 kw_349 kw_350 ⟨by decide, by decide⟩ ⟨Nat.le_of_ble_eq_true rfl, Nat.le_of_ble_eq_true rfl⟩ (Nat.le_of_ble_eq_true rfl) rfl rfl dX7_comeHeavy_36 (fun w17 ⟨ro17, xk17, xv17, xo17, xf17⟩ => ?_)
      have h_w17_om : w17 om = some (.inr (6, [.int th, .int (nI md), .ref aso, .ref asi, .ref ase, .ref ato, .ref amo, .ref alo, .ref aro, .ref asr])) := (xf17 om (mw_oa hom h_aro)).trans hom
      have h_w17_alo : w17 alo = some (eI cI 8 lo) := (xf17 alo (Ne.symm (tne t_aro t_alo (by decide)))).trans h_alo
      have h_w17_asi : w17 asi = some (eI cI 8 (lnF si)) := (xf17 asi (Ne.symm (tne t_aro t_asi (by decide)))).trans h_asi
      have fr_w17 : ∀ zz : Nat, zz ≠ aro → w17 zz = w zz := fun zz g0 => (xf17 zz g0).trans (fr_w zz )
      refine mg_iconst C (v := nI 0) dX7_comeHeavy_39 (by decide) ?_
      refine mg_istore C (lv' := [(4, .int (nI 0)), (0, .ref om), (1, .int (nI s)), (2, .int x), (3, .int (nI c))]) dX7_comeHeavy_40 (by decide) rfl ?_
      refine mg_goto C (tgt := 3) dX7_comeHeavy_42 (by decide) ?_
      refine mg_iload C dX7_comeHeavy_3 rfl ?_
      refine mg_ifN_le C (tgt := 125) dX7_comeHeavy_5 (by decide) (by decide) (fun c_5 => ?_) (fun c_5 => absurd c_5 (by decide))
      have ec : comU k x c f gn h (lo s) = (addU x (nI c) (f, lnF gn, h), lo s) := if_pos hcond
      exact hR _ _ _ dX7_comeHeavy_125 ⟨ro17, xk17, by rw [ec]; exact xv17, xo17, by rw [ec]; exact h_w17_alo.trans (congrArg (fun q => some (eI cI 8 q)) (upd_self lo s).symm), fun z q0 q1 => fr_w17 z q0⟩

set_option maxHeartbeats 4000000 in
set_option maxRecDepth 20000 in
theorem c_X7_numberOf (D : va_G) (cI cS : ClassId) (w : mwT) (om md aso asi ase ato amo alo aro asr : Nat) (th : Int32) (ro : Nat → Int32) (s h : Nat) (f g : Nat → Int32) (x : Int32) (hom : w om = some (.inr (6, [.int th, .int (nI md), .ref aso, .ref asi, .ref ase, .ref ato, .ref amo, .ref alo, .ref aro, .ref asr]))) (h_aro : w aro = some (eI cI 9600 ro)) (hs8 : s < 8) (hv : HvM ro s f g h) (hh : h ≤ 40) : mMi yX7_numberOf cX7_numberOf 4 (some .int) (rmL 3) [.ref om, .int (nI s), .int x] D cI cS w (fun r w1 => r = alU f g h x ∧ w1 = w) := by
  refine mMi.of (by decide) (Nat.le_of_ble_eq_true rfl) ?_
  intro X C hN hR
  refine mg_sub (lv' := [(0, .ref om), (1, .int (nI s)), (2, .int x)]) [0, 1, 2] rfl ?_
  refine mg_aload_n C dX7_numberOf_0 rfl ?_
  refine mg_iload_n C dX7_numberOf_1 rfl ?_
  refine mg_iload_n C dX7_numberOf_2 rfl ?_
  refine mg_callV_i C hom rfl (rest := []) (c_X7_counterOf D cI cS w om md aso asi ase ato amo alo aro asr th ro s h f g x hom h_aro hs8 hv hh) yq_X7_counterOf kw_336 kw_337 kw_338 ⟨by decide, by decide⟩ ⟨Nat.le_of_ble_eq_true rfl, Nat.le_of_ble_eq_true rfl⟩ (Nat.le_of_ble_eq_true rfl) rfl rfl dX7_numberOf_3 (fun r1 w1 ⟨xa1, xk1⟩ => ?_)
  rw [xk1]
  rcases xa1 with ⟨hfd, ra1⟩ | ⟨hfd, ra1⟩
  · rw [ra1]
    refine mg_istore_n C (lv' := [(3, .int (nI (fdU f x h))), (0, .ref om), (1, .int (nI s)), (2, .int x)]) dX7_numberOf_6 rfl (by decide) rfl ?_
    refine mg_iload_n C dX7_numberOf_7 rfl ?_
    refine mg_ifN_ge C (tgt := 15) dX7_numberOf_8 (by decide) (by omega) ?_
    refine mg_aload_n C dX7_numberOf_15 rfl ?_
    refine mg_get C inT7 hom rfl 8 (by decide) kw_26 (Or.inl rfl) rfl dX7_numberOf_16 ?_
    refine mg_aload_n C dX7_numberOf_19 rfl ?_
    refine mg_iload_n C dX7_numberOf_20 rfl ?_
    refine mg_iload_n C dX7_numberOf_21 rfl ?_
    refine mg_callV_i C hom rfl (rest := [.ref aro]) (c_X7_at D cI cS w om md aso asi ase ato amo alo aro asr th s (fdU f x h) hom) yq_X7_at kw_344 kw_345 kw_346 ⟨by decide, by decide⟩ ⟨Nat.le_of_ble_eq_true rfl, Nat.le_of_ble_eq_true rfl⟩ (Nat.le_of_ble_eq_true rfl) rfl rfl dX7_numberOf_22 (fun r2 w3 ⟨e_r2, e_w3⟩ => ?_)
    rw [e_w3, e_r2]
    refine mg_iconst C (v := nI 1) dX7_numberOf_25 (by decide) ?_
    refine mg_iadd C (z := nI ((1200 * s + 100 + 2 * (fdU f x h)) + 1)) dX7_numberOf_26 (nI_add _ _) ?_
    refine mg_ialdN C h_aro (by omega) (by omega) dX7_numberOf_27 ?_
    exact hR _ _ _ _ dX7_numberOf_28 ⟨((hv.2 _ hfd).2).trans (if_pos hfd).symm, rfl⟩
  · rw [ra1]
    refine mg_istore_n C (lv' := [(3, .int ((-1 : Int32))), (0, .ref om), (1, .int (nI s)), (2, .int x)]) dX7_numberOf_6 rfl (by decide) rfl ?_
    refine mg_iload_n C dX7_numberOf_7 rfl ?_
    refine mg_if_ge C (tgt := 15) dX7_numberOf_8 (by decide) (fun c_8 => absurd c_8 (by decide)) (fun c_8 => ?_)
    refine mg_iconst C (v := nI 0) dX7_numberOf_11 (by decide) ?_
    refine mg_goto C (tgt := 28) dX7_numberOf_12 (by decide) ?_
    exact hR _ _ _ _ dX7_numberOf_28 ⟨(if_neg (by omega)).symm, rfl⟩

set_option maxHeartbeats 4000000 in
set_option maxRecDepth 20000 in
theorem c_X7_nth (D : va_G) (cI cS : ClassId) (w : mwT) (om md aso asi ase ato amo alo aro asr : Nat) (th : Int32) (ro : Nat → Int32) (s st h : Nat) (f : Nat → Int32) (i : Int32) (hom : w om = some (.inr (6, [.int th, .int (nI md), .ref aso, .ref asi, .ref ase, .ref ato, .ref amo, .ref alo, .ref aro, .ref asr]))) (h_aro : w aro = some (eI cI 9600 ro)) (hs8 : s < 8) (hst : st ≤ 2) (hh : h ≤ 40) (hm : ro (1200 * s) = nI h) (hf : ∀ m, m < h → ro (1200 * s + 100 + st * m) = f m) : mMi yX7_nth cX7_nth 7 (some .int) (rmL 2) [.ref om, .int (nI s), .int (nI st), .int i] D cI cS w (fun r w1 => ((∃ kz : Nat, kz < h ∧ r = nI kz ∧ i = nI (bfU f kz h)) ∨ (r = -1 ∧ ∀ j, j < h → ¬ nI (bfU f j h) = i)) ∧ w1 = w) := by
  refine mMi.of (by decide) (Nat.le_of_ble_eq_true rfl) ?_
  intro X C hN hR
  refine mg_sub (lv' := [(0, .ref om), (1, .int (nI s)), (2, .int (nI st)), (3, .int i)]) [0, 1, 2, 3] rfl ?_
  refine mg_iconst C (v := nI 0) dX7_nth_0 (by decide) ?_
  refine mg_istore C (lv' := [(4, .int (nI 0)), (0, .ref om), (1, .int (nI s)), (2, .int (nI st)), (3, .int i)]) dX7_nth_1 (by decide) rfl ?_
  have L3 : ∀ (M3 : Nat) (kz : Nat), h - kz < M3 → (kz ≤ h) → (∀ j, j < kz → ¬ nI (bfU f j h) = i) → mwG X 0 0 w [(0, .ref om), (1, .int (nI s)), (2, .int (nI st)), (3, .int i), (4, .int (nI kz))] [] 3 := by
    intro M3
    induction M3 with
    | zero => intro kz hm3; exact absurd hm3 (Nat.not_lt_zero _)
    | succ M3 ih3 =>
      intro kz hm3 hkz hnz
      refine mg_iload C dX7_nth_3 rfl ?_
      refine mg_aload_n C dX7_nth_5 rfl ?_
      refine mg_iload_n C dX7_nth_6 rfl ?_
      refine mg_callV_i C hom rfl (rest := [.int (nI kz)]) (c_X7_many D cI cS w om md aso asi ase ato amo alo aro asr th ro s h hom h_aro hs8 hm) yq_X7_many kw_340 kw_341 kw_342 ⟨by decide, by decide⟩ ⟨Nat.le_of_ble_eq_true rfl, Nat.le_of_ble_eq_true rfl⟩ (Nat.le_of_ble_eq_true rfl) rfl rfl dX7_nth_7 (fun r1 w2 ⟨e_r1, e_w2⟩ => ?_)
      rw [e_w2, e_r1]
      refine mg_icmpN_ge C (tgt := 100) dX7_nth_10 (by decide) (by omega) (by omega) (fun c_10 => ?_) (fun c_10 => ?_)
      · refine mg_iconst C (v := (-1 : Int32)) dX7_nth_100 (by decide) ?_
        exact hR _ _ _ _ dX7_nth_101 ⟨Or.inr ⟨rfl, fun j q => hnz j (by omega)⟩, rfl⟩
      · refine mg_iconst C (v := nI 0) dX7_nth_13 (by decide) ?_
        refine mg_istore C (lv' := [(5, .int (nI 0)), (0, .ref om), (1, .int (nI s)), (2, .int (nI st)), (3, .int i), (4, .int (nI kz))]) dX7_nth_14 (by decide) rfl ?_
        refine mg_iconst C (v := nI 0) dX7_nth_16 (by decide) ?_
        refine mg_istore C (lv' := [(6, .int (nI 0)), (5, .int (nI 0)), (0, .ref om), (1, .int (nI s)), (2, .int (nI st)), (3, .int i), (4, .int (nI kz))]) dX7_nth_17 (by decide) rfl ?_
        have L19 : ∀ (M19 : Nat) (mz : Nat), h - mz < M19 → (mz ≤ h) → mwG X 0 0 w [(0, .ref om), (1, .int (nI s)), (2, .int (nI st)), (3, .int i), (4, .int (nI kz)), (5, .int (nI (bfU f kz mz))), (6, .int (nI mz))] [] 19 := by
          intro M19
          induction M19 with
          | zero => intro mz hm19; exact absurd hm19 (Nat.not_lt_zero _)
          | succ M19 ih19 =>
            intro mz hm19 hmz
            refine mg_iload C dX7_nth_19 rfl ?_
            refine mg_aload_n C dX7_nth_21 rfl ?_
            refine mg_iload_n C dX7_nth_22 rfl ?_
            refine mg_callV_i C hom rfl (rest := [.int (nI mz)]) (c_X7_many D cI cS w om md aso asi ase ato amo alo aro asr th ro s h hom h_aro hs8 hm) yq_X7_many kw_340 kw_341 kw_342 ⟨by decide, by decide⟩ ⟨Nat.le_of_ble_eq_true rfl, Nat.le_of_ble_eq_true rfl⟩ (Nat.le_of_ble_eq_true rfl) rfl rfl dX7_nth_23 (fun r3 w4 ⟨e_r3, e_w4⟩ => ?_)
            rw [e_w4, e_r3]
            refine mg_icmpN_ge C (tgt := 85) dX7_nth_26 (by decide) (by omega) (by omega) (fun c_26 => ?_) (fun c_26 => ?_)
            · have em : mz = h := by omega
              rw [em]
              refine mg_iload C dX7_nth_85 rfl ?_
              refine mg_iload_n C dX7_nth_87 rfl ?_
              refine mg_icmp_ne C (tgt := 94) dX7_nth_88 (by decide) (fun c_88 => ?_) (fun c_88 => ?_)
              · refine mg_iinc C (v := nI (kz + 1)) (lv' := [(4, .int (nI (kz + 1))), (0, .ref om), (1, .int (nI s)), (2, .int (nI st)), (3, .int i), (5, .int (nI (bfU f kz h))), (6, .int (nI h))]) dX7_nth_94 rfl (ni_inc _) (by decide) rfl ?_
                refine mg_goto C (tgt := 3) dX7_nth_97 (by decide) ?_
                refine mg_sub (lv' := [(0, .ref om), (1, .int (nI s)), (2, .int (nI st)), (3, .int i), (4, .int (nI (kz + 1)))]) [1, 2, 3, 4, 0] rfl ?_
                exact ih3 ((kz + 1)) (by omega) (by omega) (lt_s hnz c_88)
              · refine mg_iload C dX7_nth_91 rfl ?_
                exact hR _ _ _ _ dX7_nth_93 ⟨Or.inl ⟨kz, by omega, rfl, c_88.symm⟩, rfl⟩
            · refine mg_aload_n C dX7_nth_29 rfl ?_
              refine mg_get C inT7 hom rfl 8 (by decide) kw_26 (Or.inl rfl) rfl dX7_nth_30 ?_
              refine mg_sipush C (v := nI 1200) dX7_nth_33 (by decide) ?_
              refine mg_iload_n C dX7_nth_36 rfl ?_
              refine mg_imul C (z := nI (1200 * s)) dX7_nth_37 (pk_mul _ _) ?_
              refine mg_bipush C (v := nI 100) dX7_nth_38 (by decide) ?_
              refine mg_iadd C (z := nI ((1200 * s) + 100)) dX7_nth_40 (nI_add _ _) ?_
              refine mg_iload_n C dX7_nth_41 rfl ?_
              refine mg_iload C dX7_nth_42 rfl ?_
              refine mg_imul C (z := nI (st * mz)) dX7_nth_44 (pk_mul _ _) ?_
              refine mg_iadd C (z := nI (((1200 * s) + 100) + (st * mz))) dX7_nth_45 (nI_add _ _) ?_
              refine mg_ialdN C h_aro (by have := Nat.mul_le_mul hst (show mz ≤ 40 by omega); omega) (by omega) dX7_nth_46 ?_
              rw [hf mz (by omega)]
              refine mg_aload_n C dX7_nth_47 rfl ?_
              refine mg_get C inT7 hom rfl 8 (by decide) kw_26 (Or.inl rfl) rfl dX7_nth_48 ?_
              refine mg_sipush C (v := nI 1200) dX7_nth_51 (by decide) ?_
              refine mg_iload_n C dX7_nth_54 rfl ?_
              refine mg_imul C (z := nI (1200 * s)) dX7_nth_55 (pk_mul _ _) ?_
              refine mg_bipush C (v := nI 100) dX7_nth_56 (by decide) ?_
              refine mg_iadd C (z := nI ((1200 * s) + 100)) dX7_nth_58 (nI_add _ _) ?_
              refine mg_iload_n C dX7_nth_59 rfl ?_
              refine mg_iload C dX7_nth_60 rfl ?_
              refine mg_imul C (z := nI (st * kz)) dX7_nth_62 (pk_mul _ _) ?_
              refine mg_iadd C (z := nI (((1200 * s) + 100) + (st * kz))) dX7_nth_63 (nI_add _ _) ?_
              refine mg_ialdN C h_aro (by have := Nat.mul_le_mul hst (show kz ≤ 40 by omega); omega) (by omega) dX7_nth_64 ?_
              rw [hf kz (by omega)]
              refine mg_icmp_ge C (tgt := 75) dX7_nth_65 (by decide) (fun c_65 => ?_) (fun c_65 => ?_)
              · refine mg_iload C dX7_nth_75 rfl ?_
                refine mg_istore C (lv' := [(5, .int (nI (bfU f kz mz))), (0, .ref om), (1, .int (nI s)), (2, .int (nI st)), (3, .int i), (4, .int (nI kz)), (6, .int (nI mz))]) dX7_nth_77 (by decide) rfl ?_
                have eb : bfU f kz (mz + 1) = bfU f kz mz := if_neg (Int32.not_lt.mpr c_65)
                rw [← eb]
                refine mg_iinc C (v := nI (mz + 1)) (lv' := [(6, .int (nI (mz + 1))), (5, .int (nI (bfU f kz (mz + 1)))), (0, .ref om), (1, .int (nI s)), (2, .int (nI st)), (3, .int i), (4, .int (nI kz))]) dX7_nth_79 rfl (ni_inc _) (by decide) rfl ?_
                refine mg_goto C (tgt := 19) dX7_nth_82 (by decide) ?_
                refine mg_sub (lv' := [(0, .ref om), (1, .int (nI s)), (2, .int (nI st)), (3, .int i), (4, .int (nI kz)), (5, .int (nI (bfU f kz (mz + 1)))), (6, .int (nI (mz + 1)))]) [2, 3, 4, 5, 6, 1, 0] rfl ?_
                exact ih19 ((mz + 1)) (by omega) (by omega)
              · refine mg_iload C dX7_nth_68 rfl ?_
                refine mg_iconst C (v := nI 1) dX7_nth_70 (by decide) ?_
                refine mg_iadd C (z := nI (bfU f kz mz + 1)) dX7_nth_71 (nI_add _ _) ?_
                refine mg_goto C (tgt := 77) dX7_nth_72 (by decide) ?_
                refine mg_istore C (lv' := [(5, .int (nI (bfU f kz mz + 1))), (0, .ref om), (1, .int (nI s)), (2, .int (nI st)), (3, .int i), (4, .int (nI kz)), (6, .int (nI mz))]) dX7_nth_77 (by decide) rfl ?_
                have eb : bfU f kz (mz + 1) = bfU f kz mz + 1 := if_pos (Int32.not_le.mp c_65)
                rw [← eb]
                refine mg_iinc C (v := nI (mz + 1)) (lv' := [(6, .int (nI (mz + 1))), (5, .int (nI (bfU f kz (mz + 1)))), (0, .ref om), (1, .int (nI s)), (2, .int (nI st)), (3, .int i), (4, .int (nI kz))]) dX7_nth_79 rfl (ni_inc _) (by decide) rfl ?_
                refine mg_goto C (tgt := 19) dX7_nth_82 (by decide) ?_
                refine mg_sub (lv' := [(0, .ref om), (1, .int (nI s)), (2, .int (nI st)), (3, .int i), (4, .int (nI kz)), (5, .int (nI (bfU f kz (mz + 1)))), (6, .int (nI (mz + 1)))]) [2, 3, 4, 5, 6, 1, 0] rfl ?_
                exact ih19 ((mz + 1)) (by omega) (by omega)
        refine mg_sub (lv' := [(0, .ref om), (1, .int (nI s)), (2, .int (nI st)), (3, .int i), (4, .int (nI kz)), (5, .int (nI 0)), (6, .int (nI 0))]) [2, 3, 4, 5, 6, 1, 0] rfl ?_
        exact L19 (_ + 1) 0 (Nat.lt_succ_self _) (Nat.zero_le _)
  refine mg_sub (lv' := [(0, .ref om), (1, .int (nI s)), (2, .int (nI st)), (3, .int i), (4, .int (nI 0))]) [1, 2, 3, 4, 0] rfl ?_
  exact L3 (_ + 1) 0 (Nat.lt_succ_self _) (Nat.zero_le _) (fun j q => absurd q (Nat.not_lt_zero _))

set_option maxHeartbeats 4000000 in
set_option maxRecDepth 20000 in
theorem c_X7_joinHeavy (D : va_G) (cI cS : ClassId) (w : mwT) (om md aso asi ase ato amo alo aro asr : Nat) (th : Int32) (ro : Nat → Int32) (lo : Nat → Int32) (si : Nat → Nat) (tg : Nat → Nat) (s b h h2 k : Nat) (f g f2 g2 : Nat → Int32) (hom : w om = some (.inr (6, [.int th, .int (nI md), .ref aso, .ref asi, .ref ase, .ref ato, .ref amo, .ref alo, .ref aro, .ref asr]))) (h_aro : w aro = some (eI cI 9600 ro)) (h_alo : w alo = some (eI cI 8 lo)) (h_asi : w asi = some (eI cI 8 (lnF si))) (hs8 : s < 8) (hsb : b < 8) (hsb2 : s ≠ b) (hk2 : k ≤ 20) (hh : h ≤ k) (hh2 : h2 ≤ k) (hv : HvM ro s f g h) (hv2 : HvM ro b f2 g2 h2) (hsk : si s = k) (t_aro : tg aro = 7) (t_alo : tg alo = 6) (t_asi : tg asi = 2) : mMv yX7_joinHeavy cX7_joinHeavy 7 none (rmL 4) [.ref om, .int (nI s), .int (nI b)] D cI cS w (fun w1 => ((jnU f2 g2 (f, g, h) h2).2.2 ≤ k ∧ ∃ ro1 : Nat → Int32, w1 aro = some (eI cI 9600 ro1) ∧ HvM ro1 s (jnU f2 g2 (f, g, h) h2).1 (jnU f2 g2 (f, g, h) h2).2.1 (jnU f2 g2 (f, g, h) h2).2.2 ∧ outS ro ro1 s ∧ w1 alo = some (eI cI 8 (upd lo s (lo s + lo b))) ∧ ∀ z : Nat, z ≠ aro → z ≠ alo → w1 z = w z) ∨ (k < (jnU f2 g2 (f, g, h) h2).2.2 ∧ ∃ kz : Nat, kz < (jnU f2 g2 (f, g, h) h2).2.2 ∧ ahU (jnU f2 g2 (f, g, h) h2).2.1 kz (jnU f2 g2 (f, g, h) h2).2.2 = k ∧ ∃ ro1 : Nat → Int32, w1 aro = some (eI cI 9600 ro1) ∧ HvM ro1 s (lessU (jnU f2 g2 (f, g, h) h2).1 (jnU f2 g2 (f, g, h) h2).2.1 ((jnU f2 g2 (f, g, h) h2).2.1 kz) (jnU f2 g2 (f, g, h) h2).2.2).1 (lessU (jnU f2 g2 (f, g, h) h2).1 (jnU f2 g2 (f, g, h) h2).2.1 ((jnU f2 g2 (f, g, h) h2).2.1 kz) (jnU f2 g2 (f, g, h) h2).2.2).2.1 (lessU (jnU f2 g2 (f, g, h) h2).1 (jnU f2 g2 (f, g, h) h2).2.1 ((jnU f2 g2 (f, g, h) h2).2.1 kz) (jnU f2 g2 (f, g, h) h2).2.2).2.2 ∧ outS ro ro1 s ∧ w1 alo = some (eI cI 8 (upd lo s (lo s + lo b + (jnU f2 g2 (f, g, h) h2).2.1 kz))) ∧ ∀ z : Nat, z ≠ aro → z ≠ alo → w1 z = w z) ∨ (k < (jnU f2 g2 (f, g, h) h2).2.2 ∧ (∀ j, j < (jnU f2 g2 (f, g, h) h2).2.2 → ¬ ahU (jnU f2 g2 (f, g, h) h2).2.1 j (jnU f2 g2 (f, g, h) h2).2.2 = k) ∧ ∃ ro1 : Nat → Int32, w1 aro = some (eI cI 9600 ro1) ∧ HvM ro1 s (jnU f2 g2 (f, g, h) h2).1 (jnU f2 g2 (f, g, h) h2).2.1 (jnU f2 g2 (f, g, h) h2).2.2 ∧ outS ro ro1 s ∧ w1 alo = some (eI cI 8 (upd lo s (lo s + lo b))) ∧ ∀ z : Nat, z ≠ aro → z ≠ alo → w1 z = w z)) := by
  refine mMv.of (by decide) (Nat.le_of_ble_eq_true rfl) ?_
  intro X C hN hR
  have fr_w : ∀ zz : Nat, w zz = w zz := fun _ => rfl
  refine mg_sub (lv' := [(0, .ref om), (1, .int (nI s)), (2, .int (nI b))]) [0, 1, 2] rfl ?_
  refine mg_iconst C (v := nI 0) dX7_joinHeavy_0 (by decide) ?_
  refine mg_istore_n C (lv' := [(3, .int (nI 0)), (0, .ref om), (1, .int (nI s)), (2, .int (nI b))]) dX7_joinHeavy_1 rfl (by decide) rfl ?_
  have L2 : ∀ (M2 : Nat) (iz : Nat) (roz : Nat → Int32), h2 - iz < M2 → (iz ≤ h2) → (HvM roz s (jnU f2 g2 (f, g, h) iz).1 (jnU f2 g2 (f, g, h) iz).2.1 (jnU f2 g2 (f, g, h) iz).2.2) → (HvM roz b f2 g2 h2) → (outS ro roz s) → ∀ (w1 : mwT), w1 om = some (.inr (6, [.int th, .int (nI md), .ref aso, .ref asi, .ref ase, .ref ato, .ref amo, .ref alo, .ref aro, .ref asr])) → w1 aro = some (eI cI 9600 roz) → w1 alo = some (eI cI 8 lo) → w1 asi = some (eI cI 8 (lnF si)) → (∀ zz : Nat, zz ≠ aro → w1 zz = w zz) → mwG X 0 0 w1 [(0, .ref om), (1, .int (nI s)), (2, .int (nI b)), (3, .int (nI iz))] [] 2 := by
    intro M2
    induction M2 with
    | zero => intro iz roz hm2; exact absurd hm2 (Nat.not_lt_zero _)
    | succ M2 ih2 =>
      intro iz roz hm2 hiz hvj hvb hoz w1 h_w1_om h_w1_aro h_w1_alo h_w1_asi fr_w1
      refine mg_iload_n C dX7_joinHeavy_2 rfl ?_
      refine mg_aload_n C dX7_joinHeavy_3 rfl ?_
      refine mg_iload_n C dX7_joinHeavy_4 rfl ?_
      refine mg_callV_i C h_w1_om rfl (rest := [.int (nI iz)]) (c_X7_many D cI cS w1 om md aso asi ase ato amo alo aro asr th roz b h2 h_w1_om h_w1_aro hsb hvb.1) yq_X7_many kw_340 kw_341 kw_342 ⟨by decide, by decide⟩ ⟨Nat.le_of_ble_eq_true rfl, Nat.le_of_ble_eq_true rfl⟩ (Nat.le_of_ble_eq_true rfl) rfl rfl dX7_joinHeavy_5 (fun r2 w2 ⟨xe2, xk2⟩ => ?_)
      rw [xk2, xe2]
      refine mg_icmpN_ge C (tgt := 46) dX7_joinHeavy_8 (by decide) (by omega) (by omega) (fun c_8 => ?_) (fun c_8 => ?_)
      · have ei : iz = h2 := by omega
        rw [ei] at hvj
        have hjl := jnU_le f2 g2 (f, g, h) h2
        dsimp only at hjl
        refine mg_aload_n C dX7_joinHeavy_46 rfl ?_
        refine mg_get C inT7 h_w1_om rfl 7 (by decide) kw_25 (Or.inl rfl) rfl dX7_joinHeavy_47 ?_
        refine mg_iload_n C dX7_joinHeavy_50 rfl ?_
        refine mg_aload_n C dX7_joinHeavy_51 rfl ?_
        refine mg_get C inT7 h_w1_om rfl 7 (by decide) kw_25 (Or.inl rfl) rfl dX7_joinHeavy_52 ?_
        refine mg_iload_n C dX7_joinHeavy_55 rfl ?_
        refine mg_ialdN C h_w1_alo hs8 (by omega) dX7_joinHeavy_56 ?_
        refine mg_aload_n C dX7_joinHeavy_57 rfl ?_
        refine mg_get C inT7 h_w1_om rfl 7 (by decide) kw_25 (Or.inl rfl) rfl dX7_joinHeavy_58 ?_
        refine mg_iload_n C dX7_joinHeavy_61 rfl ?_
        refine mg_ialdN C h_w1_alo hsb (by omega) dX7_joinHeavy_62 ?_
        refine mg_iadd C (z := (lo s) + (lo b)) dX7_joinHeavy_63 rfl ?_
        refine mg_iastN C h_w1_alo (by omega) (by omega) dX7_joinHeavy_64 (fun w3 e_w3 => ?_)
        have h_w3_om : w3 om = some (.inr (6, [.int th, .int (nI md), .ref aso, .ref asi, .ref ase, .ref ato, .ref amo, .ref alo, .ref aro, .ref asr])) := (congrFun e_w3 _).trans ((mwu_ne (mw_oa h_w1_om h_w1_alo)).trans h_w1_om)
        have h_w3_aro : w3 aro = some (eI cI 9600 roz) := (congrFun e_w3 _).trans ((mwu_ne (tne t_aro t_alo (by decide))).trans h_w1_aro)
        have h_w3_alo : w3 alo = some (eI cI 8 (upd lo s ((lo s) + (lo b)))) := (congrFun e_w3 _).trans mwu_eq
        have h_w3_asi : w3 asi = some (eI cI 8 (lnF si)) := (congrFun e_w3 _).trans ((mwu_ne (Ne.symm (tne t_alo t_asi (by decide)))).trans h_w1_asi)
        have fr_w3 : ∀ zz : Nat, zz ≠ aro → zz ≠ alo → w3 zz = w zz := fun zz g0 g1 => (congrFun e_w3 zz).trans ((mwu_ne g1).trans (fr_w1 zz g0))
        refine mg_aload_n C dX7_joinHeavy_65 rfl ?_
        refine mg_iload_n C dX7_joinHeavy_66 rfl ?_
        refine mg_callV_i C h_w3_om rfl (rest := []) (c_X7_many D cI cS w3 om md aso asi ase ato amo alo aro asr th roz s ((jnU f2 g2 (f, g, h) h2).2.2) h_w3_om h_w3_aro hs8 hvj.1) yq_X7_many kw_340 kw_341 kw_342 ⟨by decide, by decide⟩ ⟨Nat.le_of_ble_eq_true rfl, Nat.le_of_ble_eq_true rfl⟩ (Nat.le_of_ble_eq_true rfl) rfl rfl dX7_joinHeavy_67 (fun r4 w4 ⟨xe4, xk4⟩ => ?_)
        rw [xk4, xe4]
        refine mg_aload_n C dX7_joinHeavy_70 rfl ?_
        refine mg_get C inT7 h_w3_om rfl 3 (by decide) kw_21 (Or.inl rfl) rfl dX7_joinHeavy_71 ?_
        refine mg_iload_n C dX7_joinHeavy_74 rfl ?_
        refine mg_ialdN C h_w3_asi hs8 (by omega) dX7_joinHeavy_75 ?_
        rw [show lnF si s = nI k from congrArg nI hsk]
        refine mg_icmpN_le C (tgt := 205) dX7_joinHeavy_76 (by decide) (by omega) (by omega) (fun c_76 => ?_) (fun c_76 => ?_)
        · exact hR _ _ _ dX7_joinHeavy_205 (Or.inl ⟨by omega, roz, h_w3_aro, hvj, hoz, h_w3_alo, fun z q0 q1 => fr_w3 z q0 q1⟩)
        · refine mg_iconst C (v := nI 0) dX7_joinHeavy_79 (by decide) ?_
          refine mg_istore_n C (lv' := [(3, .int (nI 0)), (0, .ref om), (1, .int (nI s)), (2, .int (nI b))]) dX7_joinHeavy_80 rfl (by decide) rfl ?_
          have L81 : ∀ (M81 : Nat) (kz : Nat), (jnU f2 g2 (f, g, h) h2).2.2 - kz < M81 → (kz ≤ (jnU f2 g2 (f, g, h) h2).2.2) → (∀ j, j < kz → ¬ ahU (jnU f2 g2 (f, g, h) h2).2.1 j (jnU f2 g2 (f, g, h) h2).2.2 = k) → mwG X 0 0 w3 [(0, .ref om), (1, .int (nI s)), (2, .int (nI b)), (3, .int (nI kz))] [] 81 := by
            intro M81
            induction M81 with
            | zero => intro kz hm81; exact absurd hm81 (Nat.not_lt_zero _)
            | succ M81 ih81 =>
              intro kz hm81 hkz hnz
              refine mg_iload_n C dX7_joinHeavy_81 rfl ?_
              refine mg_aload_n C dX7_joinHeavy_82 rfl ?_
              refine mg_iload_n C dX7_joinHeavy_83 rfl ?_
              refine mg_callV_i C h_w3_om rfl (rest := [.int (nI kz)]) (c_X7_many D cI cS w3 om md aso asi ase ato amo alo aro asr th roz s ((jnU f2 g2 (f, g, h) h2).2.2) h_w3_om h_w3_aro hs8 hvj.1) yq_X7_many kw_340 kw_341 kw_342 ⟨by decide, by decide⟩ ⟨Nat.le_of_ble_eq_true rfl, Nat.le_of_ble_eq_true rfl⟩ (Nat.le_of_ble_eq_true rfl) rfl rfl dX7_joinHeavy_84 (fun r5 w5 ⟨xe5, xk5⟩ => ?_)
              rw [xk5, xe5]
              refine mg_icmpN_ge C (tgt := 205) dX7_joinHeavy_87 (by decide) (by omega) (by omega) (fun c_87 => ?_) (fun c_87 => ?_)
              · exact hR _ _ _ dX7_joinHeavy_205 (Or.inr (Or.inr ⟨by omega, fun j q => hnz j (by omega), roz, h_w3_aro, hvj, hoz, h_w3_alo, fun z q0 q1 => fr_w3 z q0 q1⟩))
              · refine mg_iconst C (v := nI 0) dX7_joinHeavy_90 (by decide) ?_
                refine mg_istore C (lv' := [(4, .int (nI 0)), (0, .ref om), (1, .int (nI s)), (2, .int (nI b)), (3, .int (nI kz))]) dX7_joinHeavy_91 (by decide) rfl ?_
                refine mg_iconst C (v := nI 0) dX7_joinHeavy_93 (by decide) ?_
                refine mg_istore C (lv' := [(5, .int (nI 0)), (4, .int (nI 0)), (0, .ref om), (1, .int (nI s)), (2, .int (nI b)), (3, .int (nI kz))]) dX7_joinHeavy_94 (by decide) rfl ?_
                have L96 : ∀ (M96 : Nat) (mz : Nat), (jnU f2 g2 (f, g, h) h2).2.2 - mz < M96 → (mz ≤ (jnU f2 g2 (f, g, h) h2).2.2) → mwG X 0 0 w3 [(0, .ref om), (1, .int (nI s)), (2, .int (nI b)), (3, .int (nI kz)), (4, .int (nI (ahU (jnU f2 g2 (f, g, h) h2).2.1 kz mz))), (5, .int (nI mz))] [] 96 := by
                  intro M96
                  induction M96 with
                  | zero => intro mz hm96; exact absurd hm96 (Nat.not_lt_zero _)
                  | succ M96 ih96 =>
                    intro mz hm96 hmz
                    refine mg_iload C dX7_joinHeavy_96 rfl ?_
                    refine mg_aload_n C dX7_joinHeavy_98 rfl ?_
                    refine mg_iload_n C dX7_joinHeavy_99 rfl ?_
                    refine mg_callV_i C h_w3_om rfl (rest := [.int (nI mz)]) (c_X7_many D cI cS w3 om md aso asi ase ato amo alo aro asr th roz s ((jnU f2 g2 (f, g, h) h2).2.2) h_w3_om h_w3_aro hs8 hvj.1) yq_X7_many kw_340 kw_341 kw_342 ⟨by decide, by decide⟩ ⟨Nat.le_of_ble_eq_true rfl, Nat.le_of_ble_eq_true rfl⟩ (Nat.le_of_ble_eq_true rfl) rfl rfl dX7_joinHeavy_100 (fun r6 w6 ⟨xe6, xk6⟩ => ?_)
                    rw [xk6, xe6]
                    refine mg_icmpN_ge C (tgt := 169) dX7_joinHeavy_103 (by decide) (by omega) (by omega) (fun c_103 => ?_) (fun c_103 => ?_)
                    · have em : mz = (jnU f2 g2 (f, g, h) h2).2.2 := by omega
                      rw [em]
                      have hal := ahU_le (jnU f2 g2 (f, g, h) h2).2.1 kz (jnU f2 g2 (f, g, h) h2).2.2
                      refine mg_iload C dX7_joinHeavy_169 rfl ?_
                      refine mg_aload_n C dX7_joinHeavy_171 rfl ?_
                      refine mg_get C inT7 h_w3_om rfl 3 (by decide) kw_21 (Or.inl rfl) rfl dX7_joinHeavy_172 ?_
                      refine mg_iload_n C dX7_joinHeavy_175 rfl ?_
                      refine mg_ialdN C h_w3_asi hs8 (by omega) dX7_joinHeavy_176 ?_
                      rw [show lnF si s = nI k from congrArg nI hsk]
                      refine mg_icmpN_ne C (tgt := 199) dX7_joinHeavy_177 (by decide) (by omega) (by omega) (fun c_177 => ?_) (fun c_177 => ?_)
                      · refine mg_iinc C (v := nI (kz + 1)) (lv' := [(3, .int (nI (kz + 1))), (0, .ref om), (1, .int (nI s)), (2, .int (nI b)), (4, .int (nI (ahU (jnU f2 g2 (f, g, h) h2).2.1 kz (jnU f2 g2 (f, g, h) h2).2.2))), (5, .int (nI ((jnU f2 g2 (f, g, h) h2).2.2)))]) dX7_joinHeavy_199 rfl (ni_inc _) (by decide) rfl ?_
                        refine mg_goto C (tgt := 81) dX7_joinHeavy_202 (by decide) ?_
                        refine mg_sub (lv' := [(0, .ref om), (1, .int (nI s)), (2, .int (nI b)), (3, .int (nI (kz + 1)))]) [1, 2, 3, 0] rfl ?_
                        exact ih81 ((kz + 1)) (by omega) (by omega) (lt_s hnz c_177)
                      · refine mg_aload_n C dX7_joinHeavy_180 rfl ?_
                        refine mg_iload_n C dX7_joinHeavy_181 rfl ?_
                        refine mg_aload_n C dX7_joinHeavy_182 rfl ?_
                        refine mg_get C inT7 h_w3_om rfl 8 (by decide) kw_26 (Or.inl rfl) rfl dX7_joinHeavy_183 ?_
                        refine mg_aload_n C dX7_joinHeavy_186 rfl ?_
                        refine mg_iload_n C dX7_joinHeavy_187 rfl ?_
                        refine mg_iload_n C dX7_joinHeavy_188 rfl ?_
                        refine mg_callV_i C h_w3_om rfl (rest := [.ref aro, .int (nI s), .ref om]) (c_X7_at D cI cS w3 om md aso asi ase ato amo alo aro asr th s kz h_w3_om) yq_X7_at kw_344 kw_345 kw_346 ⟨by decide, by decide⟩ ⟨Nat.le_of_ble_eq_true rfl, Nat.le_of_ble_eq_true rfl⟩ (Nat.le_of_ble_eq_true rfl) rfl rfl dX7_joinHeavy_189 (fun r7 w8 ⟨e_r7, e_w8⟩ => ?_)
                        rw [e_w8, e_r7]
                        refine mg_iconst C (v := nI 1) dX7_joinHeavy_192 (by decide) ?_
                        refine mg_iadd C (z := nI ((1200 * s + 100 + 2 * kz) + 1)) dX7_joinHeavy_193 (nI_add _ _) ?_
                        refine mg_ialdN C h_w3_aro (by omega) (by omega) dX7_joinHeavy_194 ?_
                        rw [(hvj.2 kz (by omega)).2]
                        refine mg_callV_v C h_w3_om rfl (rest := []) (c_X7_lessen D cI cS w3 om md aso asi ase ato amo alo aro asr th roz (upd lo s (lo s + lo b)) tg s (jnU f2 g2 (f, g, h) h2).2.2 (jnU f2 g2 (f, g, h) h2).1 (jnU f2 g2 (f, g, h) h2).2.1 ((jnU f2 g2 (f, g, h) h2).2.1 kz) h_w3_om h_w3_aro h_w3_alo hs8 hvj (by omega) t_aro t_alo) yq_X7_lessen kw_352 kw_353 kw_354 ⟨by decide, by decide⟩ ⟨Nat.le_of_ble_eq_true rfl, Nat.le_of_ble_eq_true rfl⟩ (Nat.le_of_ble_eq_true rfl) rfl rfl dX7_joinHeavy_195 (fun w9 ⟨roL, xk9, xv9, xo9, xl9, xf9⟩ => ?_)
                        rw [upd_add] at xl9
                        have h_w9_om : w9 om = some (.inr (6, [.int th, .int (nI md), .ref aso, .ref asi, .ref ase, .ref ato, .ref amo, .ref alo, .ref aro, .ref asr])) := (xf9 om (mw_oa h_w3_om h_w3_aro) (mw_oa h_w3_om h_w3_alo)).trans h_w3_om
                        have h_w9_asi : w9 asi = some (eI cI 8 (lnF si)) := (xf9 asi (Ne.symm (tne t_aro t_asi (by decide))) (Ne.symm (tne t_alo t_asi (by decide)))).trans h_w3_asi
                        have fr_w9 : ∀ zz : Nat, zz ≠ aro → zz ≠ alo → w9 zz = w zz := fun zz g0 g1 => (xf9 zz g0 g1).trans (fr_w3 zz g0 g1)
                        exact hR _ _ _ dX7_joinHeavy_198 (Or.inr (Or.inl ⟨by omega, kz, by omega, c_177, roL, xk9, xv9, hoz.tr xo9, xl9, fun z q0 q1 => fr_w9 z q0 q1⟩))
                    · refine mg_aload_n C dX7_joinHeavy_106 rfl ?_
                      refine mg_get C inT7 h_w3_om rfl 8 (by decide) kw_26 (Or.inl rfl) rfl dX7_joinHeavy_107 ?_
                      refine mg_aload_n C dX7_joinHeavy_110 rfl ?_
                      refine mg_iload_n C dX7_joinHeavy_111 rfl ?_
                      refine mg_iload C dX7_joinHeavy_112 rfl ?_
                      refine mg_callV_i C h_w3_om rfl (rest := [.ref aro]) (c_X7_at D cI cS w3 om md aso asi ase ato amo alo aro asr th s mz h_w3_om) yq_X7_at kw_344 kw_345 kw_346 ⟨by decide, by decide⟩ ⟨Nat.le_of_ble_eq_true rfl, Nat.le_of_ble_eq_true rfl⟩ (Nat.le_of_ble_eq_true rfl) rfl rfl dX7_joinHeavy_114 (fun r10 w11 ⟨e_r10, e_w11⟩ => ?_)
                      rw [e_w11, e_r10]
                      refine mg_iconst C (v := nI 1) dX7_joinHeavy_117 (by decide) ?_
                      refine mg_iadd C (z := nI ((1200 * s + 100 + 2 * mz) + 1)) dX7_joinHeavy_118 (nI_add _ _) ?_
                      refine mg_ialdN C h_w3_aro (by omega) (by omega) dX7_joinHeavy_119 ?_
                      rw [(hvj.2 mz (by omega)).2]
                      refine mg_aload_n C dX7_joinHeavy_120 rfl ?_
                      refine mg_get C inT7 h_w3_om rfl 8 (by decide) kw_26 (Or.inl rfl) rfl dX7_joinHeavy_121 ?_
                      refine mg_aload_n C dX7_joinHeavy_124 rfl ?_
                      refine mg_iload_n C dX7_joinHeavy_125 rfl ?_
                      refine mg_iload_n C dX7_joinHeavy_126 rfl ?_
                      refine mg_callV_i C h_w3_om rfl (rest := [.ref aro, .int ((jnU f2 g2 (f, g, h) h2).2.1 mz)]) (c_X7_at D cI cS w3 om md aso asi ase ato amo alo aro asr th s kz h_w3_om) yq_X7_at kw_344 kw_345 kw_346 ⟨by decide, by decide⟩ ⟨Nat.le_of_ble_eq_true rfl, Nat.le_of_ble_eq_true rfl⟩ (Nat.le_of_ble_eq_true rfl) rfl rfl dX7_joinHeavy_127 (fun r12 w13 ⟨e_r12, e_w13⟩ => ?_)
                      rw [e_w13, e_r12]
                      refine mg_iconst C (v := nI 1) dX7_joinHeavy_130 (by decide) ?_
                      refine mg_iadd C (z := nI ((1200 * s + 100 + 2 * kz) + 1)) dX7_joinHeavy_131 (nI_add _ _) ?_
                      refine mg_ialdN C h_w3_aro (by omega) (by omega) dX7_joinHeavy_132 ?_
                      rw [(hvj.2 kz (by omega)).2]
                      refine mg_isub C (z := ((jnU f2 g2 (f, g, h) h2).2.1 mz) - ((jnU f2 g2 (f, g, h) h2).2.1 kz)) dX7_joinHeavy_133 rfl ?_
                      refine mg_istore C (lv' := [(6, .int (((jnU f2 g2 (f, g, h) h2).2.1 mz) - ((jnU f2 g2 (f, g, h) h2).2.1 kz))), (0, .ref om), (1, .int (nI s)), (2, .int (nI b)), (3, .int (nI kz)), (4, .int (nI (ahU (jnU f2 g2 (f, g, h) h2).2.1 kz mz))), (5, .int (nI mz))]) dX7_joinHeavy_134 (by decide) rfl ?_
                      refine mg_iload C dX7_joinHeavy_136 rfl ?_
                      refine mg_if_gt C (tgt := 152) dX7_joinHeavy_138 (by decide) (fun c_138 => ?_) (fun c_138 => ?_)
                      · refine mg_iload C dX7_joinHeavy_152 rfl ?_
                        refine mg_iconst C (v := nI 1) dX7_joinHeavy_154 (by decide) ?_
                        refine mg_iadd C (z := nI (ahU (jnU f2 g2 (f, g, h) h2).2.1 kz mz + 1)) dX7_joinHeavy_155 (nI_add _ _) ?_
                        refine mg_goto C (tgt := 161) dX7_joinHeavy_156 (by decide) ?_
                        refine mg_istore C (lv' := [(4, .int (nI (ahU (jnU f2 g2 (f, g, h) h2).2.1 kz mz + 1))), (6, .int (((jnU f2 g2 (f, g, h) h2).2.1 mz) - ((jnU f2 g2 (f, g, h) h2).2.1 kz))), (0, .ref om), (1, .int (nI s)), (2, .int (nI b)), (3, .int (nI kz)), (5, .int (nI mz))]) dX7_joinHeavy_161 (by decide) rfl ?_
                        have eb : ahU (jnU f2 g2 (f, g, h) h2).2.1 kz (mz + 1) = ahU (jnU f2 g2 (f, g, h) h2).2.1 kz mz + 1 := if_pos (Or.inl c_138)
                        rw [← eb]
                        refine mg_iinc C (v := nI (mz + 1)) (lv' := [(5, .int (nI (mz + 1))), (4, .int (nI (ahU (jnU f2 g2 (f, g, h) h2).2.1 kz (mz + 1)))), (6, .int (((jnU f2 g2 (f, g, h) h2).2.1 mz) - ((jnU f2 g2 (f, g, h) h2).2.1 kz))), (0, .ref om), (1, .int (nI s)), (2, .int (nI b)), (3, .int (nI kz))]) dX7_joinHeavy_163 rfl (ni_inc _) (by decide) rfl ?_
                        refine mg_goto C (tgt := 96) dX7_joinHeavy_166 (by decide) ?_
                        refine mg_sub (lv' := [(0, .ref om), (1, .int (nI s)), (2, .int (nI b)), (3, .int (nI kz)), (4, .int (nI (ahU (jnU f2 g2 (f, g, h) h2).2.1 kz (mz + 1)))), (5, .int (nI (mz + 1)))]) [3, 4, 5, 6, 1, 0] rfl ?_
                        exact ih96 ((mz + 1)) (by omega) (by omega)
                      · refine mg_iload C dX7_joinHeavy_141 rfl ?_
                        refine mg_if_ne C (tgt := 159) dX7_joinHeavy_143 (by decide) (fun c_143 => ?_) (fun c_143 => ?_)
                        · refine mg_iload C dX7_joinHeavy_159 rfl ?_
                          refine mg_istore C (lv' := [(4, .int (nI (ahU (jnU f2 g2 (f, g, h) h2).2.1 kz mz))), (6, .int (((jnU f2 g2 (f, g, h) h2).2.1 mz) - ((jnU f2 g2 (f, g, h) h2).2.1 kz))), (0, .ref om), (1, .int (nI s)), (2, .int (nI b)), (3, .int (nI kz)), (5, .int (nI mz))]) dX7_joinHeavy_161 (by decide) rfl ?_
                          have eb : ahU (jnU f2 g2 (f, g, h) h2).2.1 kz (mz + 1) = ahU (jnU f2 g2 (f, g, h) h2).2.1 kz mz := if_neg (fun q => q.elim c_138 (fun z => c_143 z.1))
                          rw [← eb]
                          refine mg_iinc C (v := nI (mz + 1)) (lv' := [(5, .int (nI (mz + 1))), (4, .int (nI (ahU (jnU f2 g2 (f, g, h) h2).2.1 kz (mz + 1)))), (6, .int (((jnU f2 g2 (f, g, h) h2).2.1 mz) - ((jnU f2 g2 (f, g, h) h2).2.1 kz))), (0, .ref om), (1, .int (nI s)), (2, .int (nI b)), (3, .int (nI kz))]) dX7_joinHeavy_163 rfl (ni_inc _) (by decide) rfl ?_
                          refine mg_goto C (tgt := 96) dX7_joinHeavy_166 (by decide) ?_
                          refine mg_sub (lv' := [(0, .ref om), (1, .int (nI s)), (2, .int (nI b)), (3, .int (nI kz)), (4, .int (nI (ahU (jnU f2 g2 (f, g, h) h2).2.1 kz (mz + 1)))), (5, .int (nI (mz + 1)))]) [3, 4, 5, 6, 1, 0] rfl ?_
                          exact ih96 ((mz + 1)) (by omega) (by omega)
                        · refine mg_iload C dX7_joinHeavy_146 rfl ?_
                          refine mg_iload_n C dX7_joinHeavy_148 rfl ?_
                          refine mg_icmpN_ge C (tgt := 159) dX7_joinHeavy_149 (by decide) (by omega) (by omega) (fun c_149 => ?_) (fun c_149 => ?_)
                          · refine mg_iload C dX7_joinHeavy_159 rfl ?_
                            refine mg_istore C (lv' := [(4, .int (nI (ahU (jnU f2 g2 (f, g, h) h2).2.1 kz mz))), (6, .int (((jnU f2 g2 (f, g, h) h2).2.1 mz) - ((jnU f2 g2 (f, g, h) h2).2.1 kz))), (0, .ref om), (1, .int (nI s)), (2, .int (nI b)), (3, .int (nI kz)), (5, .int (nI mz))]) dX7_joinHeavy_161 (by decide) rfl ?_
                            have eb : ahU (jnU f2 g2 (f, g, h) h2).2.1 kz (mz + 1) = ahU (jnU f2 g2 (f, g, h) h2).2.1 kz mz := if_neg (fun q => q.elim c_138 (fun z => absurd z.2 (by omega)))
                            rw [← eb]
                            refine mg_iinc C (v := nI (mz + 1)) (lv' := [(5, .int (nI (mz + 1))), (4, .int (nI (ahU (jnU f2 g2 (f, g, h) h2).2.1 kz (mz + 1)))), (6, .int (((jnU f2 g2 (f, g, h) h2).2.1 mz) - ((jnU f2 g2 (f, g, h) h2).2.1 kz))), (0, .ref om), (1, .int (nI s)), (2, .int (nI b)), (3, .int (nI kz))]) dX7_joinHeavy_163 rfl (ni_inc _) (by decide) rfl ?_
                            refine mg_goto C (tgt := 96) dX7_joinHeavy_166 (by decide) ?_
                            refine mg_sub (lv' := [(0, .ref om), (1, .int (nI s)), (2, .int (nI b)), (3, .int (nI kz)), (4, .int (nI (ahU (jnU f2 g2 (f, g, h) h2).2.1 kz (mz + 1)))), (5, .int (nI (mz + 1)))]) [3, 4, 5, 6, 1, 0] rfl ?_
                            exact ih96 ((mz + 1)) (by omega) (by omega)
                          · refine mg_iload C dX7_joinHeavy_152 rfl ?_
                            refine mg_iconst C (v := nI 1) dX7_joinHeavy_154 (by decide) ?_
                            refine mg_iadd C (z := nI (ahU (jnU f2 g2 (f, g, h) h2).2.1 kz mz + 1)) dX7_joinHeavy_155 (nI_add _ _) ?_
                            refine mg_goto C (tgt := 161) dX7_joinHeavy_156 (by decide) ?_
                            refine mg_istore C (lv' := [(4, .int (nI (ahU (jnU f2 g2 (f, g, h) h2).2.1 kz mz + 1))), (6, .int (((jnU f2 g2 (f, g, h) h2).2.1 mz) - ((jnU f2 g2 (f, g, h) h2).2.1 kz))), (0, .ref om), (1, .int (nI s)), (2, .int (nI b)), (3, .int (nI kz)), (5, .int (nI mz))]) dX7_joinHeavy_161 (by decide) rfl ?_
                            have eb : ahU (jnU f2 g2 (f, g, h) h2).2.1 kz (mz + 1) = ahU (jnU f2 g2 (f, g, h) h2).2.1 kz mz + 1 := if_pos (Or.inr ⟨c_143, c_149⟩)
                            rw [← eb]
                            refine mg_iinc C (v := nI (mz + 1)) (lv' := [(5, .int (nI (mz + 1))), (4, .int (nI (ahU (jnU f2 g2 (f, g, h) h2).2.1 kz (mz + 1)))), (6, .int (((jnU f2 g2 (f, g, h) h2).2.1 mz) - ((jnU f2 g2 (f, g, h) h2).2.1 kz))), (0, .ref om), (1, .int (nI s)), (2, .int (nI b)), (3, .int (nI kz))]) dX7_joinHeavy_163 rfl (ni_inc _) (by decide) rfl ?_
                            refine mg_goto C (tgt := 96) dX7_joinHeavy_166 (by decide) ?_
                            refine mg_sub (lv' := [(0, .ref om), (1, .int (nI s)), (2, .int (nI b)), (3, .int (nI kz)), (4, .int (nI (ahU (jnU f2 g2 (f, g, h) h2).2.1 kz (mz + 1)))), (5, .int (nI (mz + 1)))]) [3, 4, 5, 6, 1, 0] rfl ?_
                            exact ih96 ((mz + 1)) (by omega) (by omega)
                refine mg_sub (lv' := [(0, .ref om), (1, .int (nI s)), (2, .int (nI b)), (3, .int (nI kz)), (4, .int (nI 0)), (5, .int (nI 0))]) [2, 3, 4, 5, 1, 0] rfl ?_
                exact L96 (_ + 1) 0 (Nat.lt_succ_self _) (Nat.zero_le _)
          refine mg_sub (lv' := [(0, .ref om), (1, .int (nI s)), (2, .int (nI b)), (3, .int (nI 0))]) [1, 2, 3, 0] rfl ?_
          exact L81 (_ + 1) 0 (Nat.lt_succ_self _) (Nat.zero_le _) (fun j q => absurd q (Nat.not_lt_zero _))
      · refine mg_aload_n C dX7_joinHeavy_11 rfl ?_
        refine mg_iload_n C dX7_joinHeavy_12 rfl ?_
        refine mg_aload_n C dX7_joinHeavy_13 rfl ?_
        refine mg_get C inT7 h_w1_om rfl 8 (by decide) kw_26 (Or.inl rfl) rfl dX7_joinHeavy_14 ?_
        refine mg_aload_n C dX7_joinHeavy_17 rfl ?_
        refine mg_iload_n C dX7_joinHeavy_18 rfl ?_
        refine mg_iload_n C dX7_joinHeavy_19 rfl ?_
        refine mg_callV_i C h_w1_om rfl (rest := [.ref aro, .int (nI s), .ref om]) (c_X7_at D cI cS w1 om md aso asi ase ato amo alo aro asr th b iz h_w1_om) yq_X7_at kw_344 kw_345 kw_346 ⟨by decide, by decide⟩ ⟨Nat.le_of_ble_eq_true rfl, Nat.le_of_ble_eq_true rfl⟩ (Nat.le_of_ble_eq_true rfl) rfl rfl dX7_joinHeavy_20 (fun r14 w15 ⟨e_r14, e_w15⟩ => ?_)
        rw [e_w15, e_r14]
        refine mg_ialdN C h_w1_aro (by omega) (by omega) dX7_joinHeavy_23 ?_
        rw [(hvb.2 iz (by omega)).1]
        refine mg_aload_n C dX7_joinHeavy_24 rfl ?_
        refine mg_get C inT7 h_w1_om rfl 8 (by decide) kw_26 (Or.inl rfl) rfl dX7_joinHeavy_25 ?_
        refine mg_aload_n C dX7_joinHeavy_28 rfl ?_
        refine mg_iload_n C dX7_joinHeavy_29 rfl ?_
        refine mg_iload_n C dX7_joinHeavy_30 rfl ?_
        refine mg_callV_i C h_w1_om rfl (rest := [.ref aro, .int (f2 iz), .int (nI s), .ref om]) (c_X7_at D cI cS w1 om md aso asi ase ato amo alo aro asr th b iz h_w1_om) yq_X7_at kw_344 kw_345 kw_346 ⟨by decide, by decide⟩ ⟨Nat.le_of_ble_eq_true rfl, Nat.le_of_ble_eq_true rfl⟩ (Nat.le_of_ble_eq_true rfl) rfl rfl dX7_joinHeavy_31 (fun r16 w17 ⟨e_r16, e_w17⟩ => ?_)
        rw [e_w17, e_r16]
        refine mg_iconst C (v := nI 1) dX7_joinHeavy_34 (by decide) ?_
        refine mg_iadd C (z := nI ((1200 * b + 100 + 2 * iz) + 1)) dX7_joinHeavy_35 (nI_add _ _) ?_
        refine mg_ialdN C h_w1_aro (by omega) (by omega) dX7_joinHeavy_36 ?_
        rw [(hvb.2 iz (by omega)).2]
        have hjl := jnU_le f2 g2 (f, g, h) iz
        dsimp only at hjl
        refine mg_callV_v C h_w1_om rfl (rest := []) (c_X7_add D cI cS w1 om md aso asi ase ato amo alo aro asr th roz s (jnU f2 g2 (f, g, h) iz).2.2 (jnU f2 g2 (f, g, h) iz).1 (jnU f2 g2 (f, g, h) iz).2.1 (f2 iz) (g2 iz) h_w1_om h_w1_aro hs8 hvj (by omega)) yq_X7_add kw_348 kw_349 kw_350 ⟨by decide, by decide⟩ ⟨Nat.le_of_ble_eq_true rfl, Nat.le_of_ble_eq_true rfl⟩ (Nat.le_of_ble_eq_true rfl) rfl rfl dX7_joinHeavy_37 (fun w18 ⟨ro18, xk18, xv18, xo18, xf18⟩ => ?_)
        have h_w18_om : w18 om = some (.inr (6, [.int th, .int (nI md), .ref aso, .ref asi, .ref ase, .ref ato, .ref amo, .ref alo, .ref aro, .ref asr])) := (xf18 om (mw_oa h_w1_om h_w1_aro)).trans h_w1_om
        have h_w18_alo : w18 alo = some (eI cI 8 lo) := (xf18 alo (Ne.symm (tne t_aro t_alo (by decide)))).trans h_w1_alo
        have h_w18_asi : w18 asi = some (eI cI 8 (lnF si)) := (xf18 asi (Ne.symm (tne t_aro t_asi (by decide)))).trans h_w1_asi
        have fr_w18 : ∀ zz : Nat, zz ≠ aro → w18 zz = w zz := fun zz g0 => (xf18 zz g0).trans (fr_w1 zz g0)
        refine mg_iinc C (v := nI (iz + 1)) (lv' := [(3, .int (nI (iz + 1))), (0, .ref om), (1, .int (nI s)), (2, .int (nI b))]) dX7_joinHeavy_40 rfl (ni_inc _) (by decide) rfl ?_
        refine mg_goto C (tgt := 2) dX7_joinHeavy_43 (by decide) ?_
        refine mg_sub (lv' := [(0, .ref om), (1, .int (nI s)), (2, .int (nI b)), (3, .int (nI (iz + 1)))]) [1, 2, 3, 0] rfl ?_
        exact ih2 ((iz + 1)) ro18 (by omega) (by omega) xv18 (hvb.out xo18 hsb2 (by omega)) (hoz.tr xo18) w18 h_w18_om xk18 h_w18_alo h_w18_asi (fun zz g0 => fr_w18 zz g0)
  refine mg_sub (lv' := [(0, .ref om), (1, .int (nI s)), (2, .int (nI b)), (3, .int (nI 0))]) [1, 2, 3, 0] rfl ?_
  exact L2 (_ + 1) 0 ro (Nat.lt_succ_self _) (Nat.zero_le _) hv hv2 (outS.rf ro s) w hom h_aro h_alo h_asi (fun zz g0 => fr_w zz )
