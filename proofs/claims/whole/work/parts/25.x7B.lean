set_option maxHeartbeats 4000000 in
set_option maxRecDepth 20000 in
theorem c_X7_comeOnce_F (D : va_G) (cI cS : ClassId) (w : mwT) (om md aso asi ase ato amo alo aro asr : Nat) (th : Int32) (so : Nat → Nat) (si : Nat → Nat) (se : Nat → Nat) (ro : Nat → Int32) (tg : Nat → Nat) (s x c sd : Nat) (n : Int32) (f : Nat → Int32) (hom : w om = some (.inr (6, [.int th, .int (nI md), .ref aso, .ref asi, .ref ase, .ref ato, .ref amo, .ref alo, .ref aro, .ref asr]))) (h_aso : w aso = some (eI cI 8 (lnF so))) (h_asi : w asi = some (eI cI 8 (lnF si))) (h_ase : w ase = some (eI cI 8 (lnF se))) (h_aro : w aro = some (eI cI 9600 ro)) (hs8 : s < 8) (hsd : sd ≤ 999) (hx : x ≤ 9999) (hso : so s = 2) (hsi : si s = c) (hse : se s = sd) (hc1 : 16 ≤ c) (hc2 : c ≤ 512) (hv : TbM ro s f c) (t_aso : tg aso = 1) (t_asi : tg asi = 2) (t_ase : tg ase = 3) (t_aro : tg aro = 7) : mMv yX7_comeOnce cX7_comeOnce 5 none (rmL 65) [.ref om, .int (nI s), .int (nI x), .int n] D cI cS w (fun w1 => ∃ ro1 : Nat → Int32, w1 aro = some (eI cI 9600 ro1) ∧ TbM ro1 s (tkF f sd x c 4) (c) ∧ outS ro ro1 s ∧ ∀ z : Nat, z ≠ aro → w1 z = w z) := by
  refine mMv.of (by decide) (Nat.le_of_ble_eq_true rfl) ?_
  intro X C hN hR
  have fr_w : ∀ zz : Nat, w zz = w zz := fun _ => rfl
  refine mg_sub (lv' := [(0, .ref om), (1, .int (nI s)), (2, .int (nI x)), (3, .int n)]) [0, 1, 2, 3] rfl ?_
  refine mg_aload_n C dX7_comeOnce_0 rfl ?_
  refine mg_get C inT7 hom rfl 2 (by decide) kw_20 (Or.inl rfl) rfl dX7_comeOnce_1 ?_
  refine mg_iload_n C dX7_comeOnce_4 rfl ?_
  refine mg_ialdN C h_aso (by omega) (by omega) dX7_comeOnce_5 ?_
  rw [show lnF so s = nI 2 from congrArg nI hso]
  refine mg_tabIn C (tgt := 92) (off := 86) dX7_comeOnce_6 (by decide) (by decide) rfl (by decide) ?_
  refine mg_iconst C (v := nI 0) dX7_comeOnce_92 (by decide) ?_
  refine mg_istore C (lv' := [(4, .int (nI 0)), (0, .ref om), (1, .int (nI s)), (2, .int (nI x)), (3, .int n)]) dX7_comeOnce_93 (by decide) rfl ?_
  have L95 : ∀ (M95 : Nat) (jz : Nat) (roz : Nat → Int32), 4 - jz < M95 → (jz ≤ 4) → (TbM roz s (tkF f sd x c jz) c) → (outS ro roz s) → ∀ (w1 : mwT), w1 om = some (.inr (6, [.int th, .int (nI md), .ref aso, .ref asi, .ref ase, .ref ato, .ref amo, .ref alo, .ref aro, .ref asr])) → w1 aso = some (eI cI 8 (lnF so)) → w1 asi = some (eI cI 8 (lnF si)) → w1 ase = some (eI cI 8 (lnF se)) → w1 aro = some (eI cI 9600 roz) → (∀ zz : Nat, zz ≠ aro → w1 zz = w zz) → mwG X 0 0 w1 [(0, .ref om), (1, .int (nI s)), (2, .int (nI x)), (3, .int n), (4, .int (nI jz))] [] 95 := by
    intro M95
    induction M95 with
    | zero => intro jz roz hm95; exact absurd hm95 (Nat.not_lt_zero _)
    | succ M95 ih95 =>
      intro jz roz hm95 hjz hvz hoz w1 h_w1_om h_w1_aso h_w1_asi h_w1_ase h_w1_aro fr_w1
      refine mg_iload C dX7_comeOnce_95 rfl ?_
      refine mg_iconst C (v := nI 4) dX7_comeOnce_97 (by decide) ?_
      refine mg_icmpN_ge C (tgt := 121) dX7_comeOnce_98 (by decide) (by omega) (by omega) (fun c_98 => ?_) (fun c_98 => ?_)
      · refine mg_goto C (tgt := 165) dX7_comeOnce_121 (by decide) ?_
        have ej : jz = 4 := by omega
        rw [ej] at hvz
        exact hR _ _ _ dX7_comeOnce_165 ⟨roz, h_w1_aro, hvz, hoz, fun z q0 => fr_w1 z q0⟩
      · refine mg_aload_n C dX7_comeOnce_101 rfl ?_
        refine mg_get C inT7 h_w1_om rfl 8 (by decide) kw_26 (Or.inl rfl) rfl dX7_comeOnce_102 ?_
        refine mg_aload_n C dX7_comeOnce_105 rfl ?_
        refine mg_iload_n C dX7_comeOnce_106 rfl ?_
        refine mg_iload C dX7_comeOnce_107 rfl ?_
        refine mg_iload_n C dX7_comeOnce_109 rfl ?_
        refine mg_callV_i C h_w1_om rfl (rest := [.ref aro]) (c_X7_cell_F D cI cS w1 om md aso asi ase ato amo alo aro asr th so si se s jz x c sd h_w1_om h_w1_aso h_w1_asi h_w1_ase hs8 hsd (by omega) hx hse hsi hso hc1 hc2) yq_X7_cell kw_356 kw_357 kw_358 ⟨by decide, by decide⟩ ⟨Nat.le_of_ble_eq_true rfl, Nat.le_of_ble_eq_true rfl⟩ (Nat.le_of_ble_eq_true rfl) rfl rfl dX7_comeOnce_110 (fun r2 w3 ⟨e_r2, e_w3⟩ => ?_)
        rw [e_w3, e_r2]
        have hpl : hsN sd jz x % c < c := Nat.mod_lt _ (by omega)
        refine mg_iconst C (v := nI 1) dX7_comeOnce_113 (by decide) ?_
        refine mg_iastN C h_w1_aro (by omega) (by omega) dX7_comeOnce_114 (fun w4 e_w4 => ?_)
        have h_w4_om : w4 om = some (.inr (6, [.int th, .int (nI md), .ref aso, .ref asi, .ref ase, .ref ato, .ref amo, .ref alo, .ref aro, .ref asr])) := (congrFun e_w4 _).trans ((mwu_ne (mw_oa h_w1_om h_w1_aro)).trans h_w1_om)
        have h_w4_aso : w4 aso = some (eI cI 8 (lnF so)) := (congrFun e_w4 _).trans ((mwu_ne (tne t_aso t_aro (by decide))).trans h_w1_aso)
        have h_w4_asi : w4 asi = some (eI cI 8 (lnF si)) := (congrFun e_w4 _).trans ((mwu_ne (tne t_asi t_aro (by decide))).trans h_w1_asi)
        have h_w4_ase : w4 ase = some (eI cI 8 (lnF se)) := (congrFun e_w4 _).trans ((mwu_ne (tne t_ase t_aro (by decide))).trans h_w1_ase)
        have h_w4_aro : w4 aro = some (eI cI 9600 (upd roz (1200 * s + 100 + hsN sd jz x % c) (nI 1))) := (congrFun e_w4 _).trans mwu_eq
        have fr_w4 : ∀ zz : Nat, zz ≠ aro → w4 zz = w zz := fun zz g0 => (congrFun e_w4 zz).trans ((mwu_ne g0).trans (fr_w1 zz g0))
        have hvn := hvz.up (p := hsN sd jz x % c) (v := nI 1)
        have hon := hoz.up (z := 1200 * s + 100 + hsN sd jz x % c) (v := nI 1) (by omega) (by omega)
        refine mg_iinc C (v := nI (jz + 1)) (lv' := [(4, .int (nI (jz + 1))), (0, .ref om), (1, .int (nI s)), (2, .int (nI x)), (3, .int n)]) dX7_comeOnce_115 rfl (ni_inc _) (by decide) rfl ?_
        refine mg_goto C (tgt := 95) dX7_comeOnce_118 (by decide) ?_
        refine mg_sub (lv' := [(0, .ref om), (1, .int (nI s)), (2, .int (nI x)), (3, .int n), (4, .int (nI (jz + 1)))]) [1, 2, 3, 4, 0] rfl ?_
        exact ih95 ((jz + 1)) (upd roz (1200 * s + 100 + hsN sd jz x % c) (nI 1)) (by omega) (by omega) hvn hon w4 h_w4_om h_w4_aso h_w4_asi h_w4_ase h_w4_aro (fun zz g0 => fr_w4 zz g0)
  refine mg_sub (lv' := [(0, .ref om), (1, .int (nI s)), (2, .int (nI x)), (3, .int n), (4, .int (nI 0))]) [1, 2, 3, 4, 0] rfl ?_
  exact L95 (_ + 1) 0 ro (Nat.lt_succ_self _) (by omega) hv (outS.rf ro s) w hom h_aso h_asi h_ase h_aro (fun zz g0 => fr_w zz )

set_option maxHeartbeats 4000000 in
set_option maxRecDepth 20000 in
theorem c_X7_comeOnce_T (D : va_G) (cI cS : ClassId) (w : mwT) (om md aso asi ase ato amo alo aro asr : Nat) (th : Int32) (so : Nat → Nat) (si : Nat → Nat) (se : Nat → Nat) (ro : Nat → Int32) (tg : Nat → Nat) (s x c sd : Nat) (n : Int32) (f : Nat → Int32) (hom : w om = some (.inr (6, [.int th, .int (nI md), .ref aso, .ref asi, .ref ase, .ref ato, .ref amo, .ref alo, .ref aro, .ref asr]))) (h_aso : w aso = some (eI cI 8 (lnF so))) (h_asi : w asi = some (eI cI 8 (lnF si))) (h_ase : w ase = some (eI cI 8 (lnF se))) (h_aro : w aro = some (eI cI 9600 ro)) (hs8 : s < 8) (hsd : sd ≤ 999) (hx : x ≤ 9999) (hso : so s = 1) (hsi : si s = c) (hse : se s = sd) (hc1 : 4 ≤ c) (hc2 : c ≤ 64) (hv : TbM ro s f (4 * c)) (t_aso : tg aso = 1) (t_asi : tg asi = 2) (t_ase : tg ase = 3) (t_aro : tg aro = 7) : mMv yX7_comeOnce cX7_comeOnce 5 none (rmL 65) [.ref om, .int (nI s), .int (nI x), .int n] D cI cS w (fun w1 => ∃ ro1 : Nat → Int32, w1 aro = some (eI cI 9600 ro1) ∧ TbM ro1 s (tkT f sd x c n 4) (4 * c) ∧ outS ro ro1 s ∧ ∀ z : Nat, z ≠ aro → w1 z = w z) := by
  refine mMv.of (by decide) (Nat.le_of_ble_eq_true rfl) ?_
  intro X C hN hR
  have fr_w : ∀ zz : Nat, w zz = w zz := fun _ => rfl
  refine mg_sub (lv' := [(0, .ref om), (1, .int (nI s)), (2, .int (nI x)), (3, .int n)]) [0, 1, 2, 3] rfl ?_
  refine mg_aload_n C dX7_comeOnce_0 rfl ?_
  refine mg_get C inT7 hom rfl 2 (by decide) kw_20 (Or.inl rfl) rfl dX7_comeOnce_1 ?_
  refine mg_iload_n C dX7_comeOnce_4 rfl ?_
  refine mg_ialdN C h_aso (by omega) (by omega) dX7_comeOnce_5 ?_
  rw [show lnF so s = nI 1 from congrArg nI hso]
  refine mg_tabIn C (tgt := 46) (off := 40) dX7_comeOnce_6 (by decide) (by decide) rfl (by decide) ?_
  refine mg_iconst C (v := nI 0) dX7_comeOnce_46 (by decide) ?_
  refine mg_istore C (lv' := [(4, .int (nI 0)), (0, .ref om), (1, .int (nI s)), (2, .int (nI x)), (3, .int n)]) dX7_comeOnce_47 (by decide) rfl ?_
  have L49 : ∀ (M49 : Nat) (jz : Nat) (roz : Nat → Int32), 4 - jz < M49 → (jz ≤ 4) → (TbM roz s (tkT f sd x c n jz) (4 * c)) → (outS ro roz s) → ∀ (w1 : mwT), w1 om = some (.inr (6, [.int th, .int (nI md), .ref aso, .ref asi, .ref ase, .ref ato, .ref amo, .ref alo, .ref aro, .ref asr])) → w1 aso = some (eI cI 8 (lnF so)) → w1 asi = some (eI cI 8 (lnF si)) → w1 ase = some (eI cI 8 (lnF se)) → w1 aro = some (eI cI 9600 roz) → (∀ zz : Nat, zz ≠ aro → w1 zz = w zz) → mwG X 0 0 w1 [(0, .ref om), (1, .int (nI s)), (2, .int (nI x)), (3, .int n), (4, .int (nI jz))] [] 49 := by
    intro M49
    induction M49 with
    | zero => intro jz roz hm49; exact absurd hm49 (Nat.not_lt_zero _)
    | succ M49 ih49 =>
      intro jz roz hm49 hjz hvz hoz w1 h_w1_om h_w1_aso h_w1_asi h_w1_ase h_w1_aro fr_w1
      refine mg_iload C dX7_comeOnce_49 rfl ?_
      refine mg_iconst C (v := nI 4) dX7_comeOnce_51 (by decide) ?_
      refine mg_icmpN_ge C (tgt := 89) dX7_comeOnce_52 (by decide) (by omega) (by omega) (fun c_52 => ?_) (fun c_52 => ?_)
      · refine mg_goto C (tgt := 165) dX7_comeOnce_89 (by decide) ?_
        have ej : jz = 4 := by omega
        rw [ej] at hvz
        exact hR _ _ _ dX7_comeOnce_165 ⟨roz, h_w1_aro, hvz, hoz, fun z q0 => fr_w1 z q0⟩
      · refine mg_aload_n C dX7_comeOnce_55 rfl ?_
        refine mg_get C inT7 h_w1_om rfl 8 (by decide) kw_26 (Or.inl rfl) rfl dX7_comeOnce_56 ?_
        refine mg_aload_n C dX7_comeOnce_59 rfl ?_
        refine mg_iload_n C dX7_comeOnce_60 rfl ?_
        refine mg_iload C dX7_comeOnce_61 rfl ?_
        refine mg_iload_n C dX7_comeOnce_63 rfl ?_
        refine mg_callV_i C h_w1_om rfl (rest := [.ref aro]) (c_X7_cell_T D cI cS w1 om md aso asi ase ato amo alo aro asr th so si se s jz x c sd h_w1_om h_w1_aso h_w1_asi h_w1_ase hs8 hsd (by omega) hx hse hsi hso hc1 hc2) yq_X7_cell kw_356 kw_357 kw_358 ⟨by decide, by decide⟩ ⟨Nat.le_of_ble_eq_true rfl, Nat.le_of_ble_eq_true rfl⟩ (Nat.le_of_ble_eq_true rfl) rfl rfl dX7_comeOnce_64 (fun r2 w3 ⟨e_r2, e_w3⟩ => ?_)
        rw [e_w3, e_r2]
        have hpl : hsN sd jz x % c < c := Nat.mod_lt _ (by omega)
        have hjc := jc_le (c := c) (show jz < 4 by omega)
        refine mg_aload_n C dX7_comeOnce_67 rfl ?_
        refine mg_get C inT7 h_w1_om rfl 8 (by decide) kw_26 (Or.inl rfl) rfl dX7_comeOnce_68 ?_
        refine mg_aload_n C dX7_comeOnce_71 rfl ?_
        refine mg_iload_n C dX7_comeOnce_72 rfl ?_
        refine mg_iload C dX7_comeOnce_73 rfl ?_
        refine mg_iload_n C dX7_comeOnce_75 rfl ?_
        refine mg_callV_i C h_w1_om rfl (rest := [.ref aro, .int (nI (1200 * s + 100 + (jz * c + hsN sd jz x % c))), .ref aro]) (c_X7_cell_T D cI cS w1 om md aso asi ase ato amo alo aro asr th so si se s jz x c sd h_w1_om h_w1_aso h_w1_asi h_w1_ase hs8 hsd (by omega) hx hse hsi hso hc1 hc2) yq_X7_cell kw_356 kw_357 kw_358 ⟨by decide, by decide⟩ ⟨Nat.le_of_ble_eq_true rfl, Nat.le_of_ble_eq_true rfl⟩ (Nat.le_of_ble_eq_true rfl) rfl rfl dX7_comeOnce_76 (fun r4 w5 ⟨e_r4, e_w5⟩ => ?_)
        rw [e_w5, e_r4]
        have hpl : hsN sd jz x % c < c := Nat.mod_lt _ (by omega)
        have hjc := jc_le (c := c) (show jz < 4 by omega)
        refine mg_ialdN C h_w1_aro (by omega) (by omega) dX7_comeOnce_79 ?_
        rw [hvz (jz * c + hsN sd jz x % c) (by omega)]
        refine mg_iload_n C dX7_comeOnce_80 rfl ?_
        refine mg_iadd C (z := (tkT f sd x c n jz (jz * c + hsN sd jz x % c)) + n) dX7_comeOnce_81 rfl ?_
        refine mg_iastN C h_w1_aro (by omega) (by omega) dX7_comeOnce_82 (fun w6 e_w6 => ?_)
        have h_w6_om : w6 om = some (.inr (6, [.int th, .int (nI md), .ref aso, .ref asi, .ref ase, .ref ato, .ref amo, .ref alo, .ref aro, .ref asr])) := (congrFun e_w6 _).trans ((mwu_ne (mw_oa h_w1_om h_w1_aro)).trans h_w1_om)
        have h_w6_aso : w6 aso = some (eI cI 8 (lnF so)) := (congrFun e_w6 _).trans ((mwu_ne (tne t_aso t_aro (by decide))).trans h_w1_aso)
        have h_w6_asi : w6 asi = some (eI cI 8 (lnF si)) := (congrFun e_w6 _).trans ((mwu_ne (tne t_asi t_aro (by decide))).trans h_w1_asi)
        have h_w6_ase : w6 ase = some (eI cI 8 (lnF se)) := (congrFun e_w6 _).trans ((mwu_ne (tne t_ase t_aro (by decide))).trans h_w1_ase)
        have h_w6_aro : w6 aro = some (eI cI 9600 (upd roz (1200 * s + 100 + (jz * c + hsN sd jz x % c)) ((tkT f sd x c n jz (jz * c + hsN sd jz x % c)) + n))) := (congrFun e_w6 _).trans mwu_eq
        have fr_w6 : ∀ zz : Nat, zz ≠ aro → w6 zz = w zz := fun zz g0 => (congrFun e_w6 zz).trans ((mwu_ne g0).trans (fr_w1 zz g0))
        have hvn := hvz.up (p := (jz * c + hsN sd jz x % c)) (v := tkT f sd x c n jz (jz * c + hsN sd jz x % c) + n)
        have hon := hoz.up (z := 1200 * s + 100 + (jz * c + hsN sd jz x % c)) (v := tkT f sd x c n jz (jz * c + hsN sd jz x % c) + n) (by omega) (by omega)
        refine mg_iinc C (v := nI (jz + 1)) (lv' := [(4, .int (nI (jz + 1))), (0, .ref om), (1, .int (nI s)), (2, .int (nI x)), (3, .int n)]) dX7_comeOnce_83 rfl (ni_inc _) (by decide) rfl ?_
        refine mg_goto C (tgt := 49) dX7_comeOnce_86 (by decide) ?_
        refine mg_sub (lv' := [(0, .ref om), (1, .int (nI s)), (2, .int (nI x)), (3, .int n), (4, .int (nI (jz + 1)))]) [1, 2, 3, 4, 0] rfl ?_
        exact ih49 ((jz + 1)) (upd roz (1200 * s + 100 + (jz * c + hsN sd jz x % c)) ((tkT f sd x c n jz (jz * c + hsN sd jz x % c)) + n)) (by omega) (by omega) hvn hon w6 h_w6_om h_w6_aso h_w6_asi h_w6_ase h_w6_aro (fun zz g0 => fr_w6 zz g0)
  refine mg_sub (lv' := [(0, .ref om), (1, .int (nI s)), (2, .int (nI x)), (3, .int n), (4, .int (nI 0))]) [1, 2, 3, 4, 0] rfl ?_
  exact L49 (_ + 1) 0 ro (Nat.lt_succ_self _) (by omega) hv (outS.rf ro s) w hom h_aso h_asi h_ase h_aro (fun zz g0 => fr_w zz )

set_option maxHeartbeats 4000000 in
set_option maxRecDepth 20000 in
theorem c_X7_comeOnce_L (D : va_G) (cI cS : ClassId) (w : mwT) (om md aso asi ase ato amo alo aro asr : Nat) (th : Int32) (so : Nat → Nat) (si : Nat → Nat) (se : Nat → Nat) (ro : Nat → Int32) (tg : Nat → Nat) (s x k sd h : Nat) (n : Int32) (f : Nat → Int32) (hom : w om = some (.inr (6, [.int th, .int (nI md), .ref aso, .ref asi, .ref ase, .ref ato, .ref amo, .ref alo, .ref aro, .ref asr]))) (h_aso : w aso = some (eI cI 8 (lnF so))) (h_asi : w asi = some (eI cI 8 (lnF si))) (h_ase : w ase = some (eI cI 8 (lnF se))) (h_aro : w aro = some (eI cI 9600 ro)) (hs8 : s < 8) (hsd : sd ≤ 999) (hx : x ≤ 9999) (hso : so s = 3) (hsi : si s = k) (hse : se s = sd) (hk1 : 2 ≤ k) (hk2 : k ≤ 32) (hh : h ≤ k) (hl : LsM ro s f h) (t_aso : tg aso = 1) (t_asi : tg asi = 2) (t_ase : tg ase = 3) (t_aro : tg aro = 7) : mMv yX7_comeOnce cX7_comeOnce 5 none (rmL 65) [.ref om, .int (nI s), .int (nI x), .int n] D cI cS w (fun w1 => ∃ ro1 : Nat → Int32, w1 aro = some (eI cI 9600 ro1) ∧ LsM ro1 s (kpU k (nI (hsN sd 0 x)) (f, h)).1 (kpU k (nI (hsN sd 0 x)) (f, h)).2 ∧ outS ro ro1 s ∧ ∀ z : Nat, z ≠ aro → w1 z = w z) := by
  refine mMv.of (by decide) (Nat.le_of_ble_eq_true rfl) ?_
  intro X C hN hR
  have fr_w : ∀ zz : Nat, w zz = w zz := fun _ => rfl
  refine mg_sub (lv' := [(0, .ref om), (1, .int (nI s)), (2, .int (nI x)), (3, .int n)]) [0, 1, 2, 3] rfl ?_
  refine mg_aload_n C dX7_comeOnce_0 rfl ?_
  refine mg_get C inT7 hom rfl 2 (by decide) kw_20 (Or.inl rfl) rfl dX7_comeOnce_1 ?_
  refine mg_iload_n C dX7_comeOnce_4 rfl ?_
  refine mg_ialdN C h_aso (by omega) (by omega) dX7_comeOnce_5 ?_
  rw [show lnF so s = nI 3 from congrArg nI hso]
  refine mg_tabIn C (tgt := 124) (off := 118) dX7_comeOnce_6 (by decide) (by decide) rfl (by decide) ?_
  refine mg_aload_n C dX7_comeOnce_124 rfl ?_
  refine mg_iload_n C dX7_comeOnce_125 rfl ?_
  refine mg_aload_n C dX7_comeOnce_126 rfl ?_
  refine mg_get C inT7 hom rfl 4 (by decide) kw_22 (Or.inl rfl) rfl dX7_comeOnce_127 ?_
  refine mg_iload_n C dX7_comeOnce_130 rfl ?_
  refine mg_ialdN C h_ase (by omega) (by omega) dX7_comeOnce_131 ?_
  rw [show lnF se s = nI sd from congrArg nI hse]
  refine mg_iconst C (v := nI 0) dX7_comeOnce_132 (by decide) ?_
  refine mg_iload_n C dX7_comeOnce_133 rfl ?_
  refine mg_callS_i C (rest := [.int (nI s), .ref om]) (c_X7_hashOf D cI cS w sd 0 x hsd (by omega) hx) yq_X7_hashOf kw_360 kw_361 ⟨by decide, by decide⟩ ⟨Nat.le_of_ble_eq_true rfl, Nat.le_of_ble_eq_true rfl⟩ (Nat.le_of_ble_eq_true rfl) rfl rfl dX7_comeOnce_134 (fun r1 w2 ⟨e_r1, e_w2⟩ => ?_)
  rw [e_w2, e_r1]
  have hhl := hsN_lt sd 0 x
  refine mg_callV_v C hom rfl (rest := []) (c_X7_keep D cI cS w om md aso asi ase ato amo alo aro asr th ro si tg s h k f (nI (hsN sd 0 x)) hom h_aro h_asi hs8 hk1 hk2 hh hl hsi t_aro t_asi) yq_X7_keep kw_364 kw_365 kw_366 ⟨by decide, by decide⟩ ⟨Nat.le_of_ble_eq_true rfl, Nat.le_of_ble_eq_true rfl⟩ (Nat.le_of_ble_eq_true rfl) rfl rfl dX7_comeOnce_137 (fun w3 ⟨ro1, xk3, hl1, ho1, xf3⟩ => ?_)
  have h_w3_om : w3 om = some (.inr (6, [.int th, .int (nI md), .ref aso, .ref asi, .ref ase, .ref ato, .ref amo, .ref alo, .ref aro, .ref asr])) := (xf3 om (mw_oa hom h_aro)).trans hom
  have h_w3_aso : w3 aso = some (eI cI 8 (lnF so)) := (xf3 aso (tne t_aso t_aro (by decide))).trans h_aso
  have h_w3_asi : w3 asi = some (eI cI 8 (lnF si)) := (xf3 asi (tne t_asi t_aro (by decide))).trans h_asi
  have h_w3_ase : w3 ase = some (eI cI 8 (lnF se)) := (xf3 ase (tne t_ase t_aro (by decide))).trans h_ase
  have fr_w3 : ∀ zz : Nat, zz ≠ aro → w3 zz = w zz := fun zz g0 => (xf3 zz g0).trans (fr_w zz )
  refine mg_goto C (tgt := 165) dX7_comeOnce_140 (by decide) ?_
  exact hR _ _ _ dX7_comeOnce_165 ⟨ro1, xk3, hl1, ho1, fun z q0 => fr_w3 z q0⟩

set_option maxHeartbeats 4000000 in
set_option maxRecDepth 20000 in
theorem c_X7_comeOnce_H (D : va_G) (cI cS : ClassId) (w : mwT) (om md aso asi ase ato amo alo aro asr : Nat) (th : Int32) (so : Nat → Nat) (si : Nat → Nat) (lo : Nat → Int32) (ro : Nat → Int32) (tg : Nat → Nat) (s x k h n : Nat) (f : Nat → Int32) (gn : Nat → Nat) (hom : w om = some (.inr (6, [.int th, .int (nI md), .ref aso, .ref asi, .ref ase, .ref ato, .ref amo, .ref alo, .ref aro, .ref asr]))) (h_aso : w aso = some (eI cI 8 (lnF so))) (h_asi : w asi = some (eI cI 8 (lnF si))) (h_alo : w alo = some (eI cI 8 lo)) (h_aro : w aro = some (eI cI 9600 ro)) (hs8 : s < 8) (hso : so s = 0) (hsi : si s = k) (hk1 : 1 ≤ k) (hk2 : k ≤ 20) (hh : h ≤ k) (hv : HvM ro s f (lnF gn) h) (hgn : ∀ i, i < h → 1 ≤ gn i ∧ gn i ≤ 10000000) (hc1 : 1 ≤ n) (hc2 : n ≤ 1000) (t_aso : tg aso = 1) (t_asi : tg asi = 2) (t_alo : tg alo = 6) (t_aro : tg aro = 7) : mMv yX7_comeOnce cX7_comeOnce 5 none (rmL 65) [.ref om, .int (nI s), .int (nI x), .int (nI n)] D cI cS w (fun w1 => ∃ ro1 : Nat → Int32, w1 aro = some (eI cI 9600 ro1) ∧ HvM ro1 s (comU k (nI x) n f gn h (lo s)).1.1 (comU k (nI x) n f gn h (lo s)).1.2.1 (comU k (nI x) n f gn h (lo s)).1.2.2 ∧ outS ro ro1 s ∧ w1 alo = some (eI cI 8 (upd lo s (comU k (nI x) n f gn h (lo s)).2)) ∧ ∀ z : Nat, z ≠ aro → z ≠ alo → w1 z = w z) := by
  refine mMv.of (by decide) (Nat.le_of_ble_eq_true rfl) ?_
  intro X C hN hR
  have fr_w : ∀ zz : Nat, w zz = w zz := fun _ => rfl
  refine mg_sub (lv' := [(0, .ref om), (1, .int (nI s)), (2, .int (nI x)), (3, .int (nI n))]) [0, 1, 2, 3] rfl ?_
  refine mg_aload_n C dX7_comeOnce_0 rfl ?_
  refine mg_get C inT7 hom rfl 2 (by decide) kw_20 (Or.inl rfl) rfl dX7_comeOnce_1 ?_
  refine mg_iload_n C dX7_comeOnce_4 rfl ?_
  refine mg_ialdN C h_aso (by omega) (by omega) dX7_comeOnce_5 ?_
  rw [show lnF so s = nI 0 from congrArg nI hso]
  refine mg_tabIn C (tgt := 36) (off := 30) dX7_comeOnce_6 (by decide) (by decide) rfl (by decide) ?_
  refine mg_aload_n C dX7_comeOnce_36 rfl ?_
  refine mg_iload_n C dX7_comeOnce_37 rfl ?_
  refine mg_iload_n C dX7_comeOnce_38 rfl ?_
  refine mg_iload_n C dX7_comeOnce_39 rfl ?_
  refine mg_callV_v C hom rfl (rest := []) (c_X7_comeHeavy D cI cS w om md aso asi ase ato amo alo aro asr th ro lo si tg s h k n f gn (nI x) hom h_aro h_alo h_asi hs8 hk1 hk2 hh hc1 hc2 hv hgn hsi t_aro t_alo t_asi) yq_X7_comeHeavy kw_332 kw_333 kw_334 ⟨by decide, by decide⟩ ⟨Nat.le_of_ble_eq_true rfl, Nat.le_of_ble_eq_true rfl⟩ (Nat.le_of_ble_eq_true rfl) rfl rfl dX7_comeOnce_40 (fun w1 ⟨ro1, xk1, hv1, ho1, xl1, xf1⟩ => ?_)
  have h_w1_om : w1 om = some (.inr (6, [.int th, .int (nI md), .ref aso, .ref asi, .ref ase, .ref ato, .ref amo, .ref alo, .ref aro, .ref asr])) := (xf1 om (mw_oa hom h_aro) (mw_oa hom h_alo)).trans hom
  have h_w1_aso : w1 aso = some (eI cI 8 (lnF so)) := (xf1 aso (tne t_aso t_aro (by decide)) (tne t_aso t_alo (by decide))).trans h_aso
  have h_w1_asi : w1 asi = some (eI cI 8 (lnF si)) := (xf1 asi (tne t_asi t_aro (by decide)) (tne t_asi t_alo (by decide))).trans h_asi
  have fr_w1 : ∀ zz : Nat, zz ≠ aro → zz ≠ alo → w1 zz = w zz := fun zz g0 g1 => (xf1 zz g0 g1).trans (fr_w zz )
  refine mg_goto C (tgt := 165) dX7_comeOnce_43 (by decide) ?_
  exact hR _ _ _ dX7_comeOnce_165 ⟨ro1, xk1, hv1, ho1, xl1, fun z q0 q1 => fr_w1 z q0 q1⟩

set_option maxHeartbeats 4000000 in
set_option maxRecDepth 20000 in
theorem c_X7_comeOnce_R (D : va_G) (cI cS : ClassId) (w : mwT) (om md aso asi ase ato amo alo aro asr : Nat) (th : Int32) (so : Nat → Nat) (si : Nat → Nat) (lo : Nat → Int32) (ro : Nat → Int32) (sr : Nat → Int32) (tg : Nat → Nat) (s x k e B n : Nat) (f : Nat → Int32) (ln tr : Nat → Nat) (er : Int32) (hom : w om = some (.inr (6, [.int th, .int (nI md), .ref aso, .ref asi, .ref ase, .ref ato, .ref amo, .ref alo, .ref aro, .ref asr]))) (h_aso : w aso = some (eI cI 8 (lnF so))) (h_asi : w asi = some (eI cI 8 (lnF si))) (h_alo : w alo = some (eI cI 8 lo)) (h_aro : w aro = some (eI cI 9600 ro)) (h_asr : w asr = some (eI cI 1024 sr)) (hs8 : s < 8) (hso : so s = 4) (hsi : si s = k) (hke : k = 2 * e) (he : 2 ≤ e) (hk2 : k ≤ 32) (hB : B < 2 ^ 31) (hok : rkOk k (f, ln, tr, er)) (hln : ∀ c, c < 31 → ln c < k) (hr : RkM ro s k (f, ln, tr, er)) (her : lo s = er) (hwt : wtS ln 31 + n ≤ B) (hn : n ≤ 1000) (t_aso : tg aso = 1) (t_asi : tg asi = 2) (t_alo : tg alo = 6) (t_aro : tg aro = 7) (t_asr : tg asr = 8) : mMv yX7_comeOnce cX7_comeOnce 5 none (rmL 65) [.ref om, .int (nI s), .int (nI x), .int (nI n)] D cI cS w (fun w1 => ∃ ro1 sr1 : Nat → Int32, w1 aro = some (eI cI 9600 ro1) ∧ w1 asr = some (eI cI 1024 sr1) ∧ w1 alo = some (eI cI 8 (upd lo s (tkR k (nI x) (f, ln, tr, er) n).2.2.2)) ∧ RkM ro1 s k (tkR k (nI x) (f, ln, tr, er) n) ∧ outS ro ro1 s ∧ ∀ z : Nat, z ≠ aro → z ≠ asr → z ≠ alo → w1 z = w z) := by
  refine mMv.of (by decide) (Nat.le_of_ble_eq_true rfl) ?_
  intro X C hN hR
  have fr_w : ∀ zz : Nat, w zz = w zz := fun _ => rfl
  refine mg_sub (lv' := [(0, .ref om), (1, .int (nI s)), (2, .int (nI x)), (3, .int (nI n))]) [0, 1, 2, 3] rfl ?_
  refine mg_aload_n C dX7_comeOnce_0 rfl ?_
  refine mg_get C inT7 hom rfl 2 (by decide) kw_20 (Or.inl rfl) rfl dX7_comeOnce_1 ?_
  refine mg_iload_n C dX7_comeOnce_4 rfl ?_
  refine mg_ialdN C h_aso (by omega) (by omega) dX7_comeOnce_5 ?_
  rw [show lnF so s = nI 4 from congrArg nI hso]
  refine mg_tabOut C (tgt := 143) dX7_comeOnce_6 (by decide) (by decide) ?_
  refine mg_iconst C (v := nI 0) dX7_comeOnce_143 (by decide) ?_
  refine mg_istore C (lv' := [(4, .int (nI 0)), (0, .ref om), (1, .int (nI s)), (2, .int (nI x)), (3, .int (nI n))]) dX7_comeOnce_144 (by decide) rfl ?_
  have h8 : w alo = some (eI cI 8 (upd lo s (tkR k (nI x) (f, ln, tr, er) 0).2.2.2)) := by rw [h_alo]; exact congrArg (fun q => some (eI cI 8 q)) (by show lo = upd lo s er; rw [← her, upd_self])
  have L146 : ∀ (M146 : Nat) (nz : Nat) (roz : Nat → Int32) (srz : Nat → Int32), n - nz < M146 → (nz ≤ n) → (RkM roz s k (tkR k (nI x) (f, ln, tr, er) nz)) → (outS ro roz s) → ∀ (w1 : mwT), w1 om = some (.inr (6, [.int th, .int (nI md), .ref aso, .ref asi, .ref ase, .ref ato, .ref amo, .ref alo, .ref aro, .ref asr])) → w1 aso = some (eI cI 8 (lnF so)) → w1 asi = some (eI cI 8 (lnF si)) → w1 alo = some (eI cI 8 (upd lo s (tkR k (nI x) (f, ln, tr, er) nz).2.2.2)) → w1 aro = some (eI cI 9600 roz) → w1 asr = some (eI cI 1024 srz) → (∀ zz : Nat, zz ≠ aro → zz ≠ asr → zz ≠ alo → w1 zz = w zz) → mwG X 0 0 w1 [(0, .ref om), (1, .int (nI s)), (2, .int (nI x)), (3, .int (nI n)), (4, .int (nI nz))] [] 146 := by
    intro M146
    induction M146 with
    | zero => intro nz roz srz hm146; exact absurd hm146 (Nat.not_lt_zero _)
    | succ M146 ih146 =>
      intro nz roz srz hm146 hnz hrz hoz w1 h_w1_om h_w1_aso h_w1_asi h_w1_alo h_w1_aro h_w1_asr fr_w1
      refine mg_iload C dX7_comeOnce_146 rfl ?_
      refine mg_iload_n C dX7_comeOnce_148 rfl ?_
      refine mg_icmpN_ge C (tgt := 165) dX7_comeOnce_149 (by decide) (by omega) (by omega) (fun c_149 => ?_) (fun c_149 => ?_)
      · have en : nz = n := by omega
        rw [en] at hrz
        rw [en] at h_w1_alo
        exact hR _ _ _ dX7_comeOnce_165 ⟨roz, srz, h_w1_aro, h_w1_asr, h_w1_alo, hrz, hoz, fun z q0 q1 q2 => fr_w1 z q0 q1 q2⟩
      · refine mg_aload_n C dX7_comeOnce_152 rfl ?_
        refine mg_iload_n C dX7_comeOnce_153 rfl ?_
        refine mg_iconst C (v := nI 0) dX7_comeOnce_154 (by decide) ?_
        refine mg_iload_n C dX7_comeOnce_155 rfl ?_
        obtain ⟨hlz, hwz⟩ := tkR_main (x := nI x) hke he hB hok hln nz (by show wtS ln 31 + nz ≤ B; omega)
        have hwz1 : wtS (tkR k (nI x) (f, ln, tr, er) nz).2.1 31 + 2 ^ 0 ≤ B := by rw [hwz, Nat.pow_zero]; show wtS ln 31 + nz + 1 ≤ B; omega
        refine mg_callS_v C (rest := []) (c_X7_put_all 31 D cI cS w1 om md aso asi ase ato amo alo aro asr th si (upd lo s (tkR k (nI x) (f, ln, tr, er) nz).2.2.2) roz srz tg s k e B 0 (tkR k (nI x) (f, ln, tr, er) nz).1 (tkR k (nI x) (f, ln, tr, er) nz).2.1 (tkR k (nI x) (f, ln, tr, er) nz).2.2.1 (tkR k (nI x) (f, ln, tr, er) nz).2.2.2 (nI x) h_w1_om h_w1_asi h_w1_alo h_w1_aro h_w1_asr hs8 hke he hk2 hB (tkR_ok hok nz) hlz hwz1 hrz (upd_same lo s _) hsi t_asi t_alo t_aro t_asr rfl) yq_X7_put kw_368 kw_369 ⟨by decide, by decide⟩ ⟨Nat.le_of_ble_eq_true rfl, Nat.le_of_ble_eq_true rfl⟩ (Nat.le_of_ble_eq_true rfl) rfl rfl dX7_comeOnce_156 (fun w2 ⟨roq, srq, xk2, xq2, xl2, hrq, hoq, hsq, xf2⟩ => ?_)
        rw [upd_upd] at xl2
        have h_w2_om : w2 om = some (.inr (6, [.int th, .int (nI md), .ref aso, .ref asi, .ref ase, .ref ato, .ref amo, .ref alo, .ref aro, .ref asr])) := (xf2 om (mw_oa h_w1_om h_w1_aro) (mw_oa h_w1_om h_w1_asr) (mw_oa h_w1_om h_w1_alo)).trans h_w1_om
        have h_w2_aso : w2 aso = some (eI cI 8 (lnF so)) := (xf2 aso (tne t_aso t_aro (by decide)) (tne t_aso t_asr (by decide)) (tne t_aso t_alo (by decide))).trans h_w1_aso
        have h_w2_asi : w2 asi = some (eI cI 8 (lnF si)) := (xf2 asi (tne t_asi t_aro (by decide)) (tne t_asi t_asr (by decide)) (tne t_asi t_alo (by decide))).trans h_w1_asi
        have fr_w2 : ∀ zz : Nat, zz ≠ aro → zz ≠ asr → zz ≠ alo → w2 zz = w zz := fun zz g0 g1 g2 => (xf2 zz g0 g1 g2).trans (fr_w1 zz g0 g1 g2)
        refine mg_iinc C (v := nI (nz + 1)) (lv' := [(4, .int (nI (nz + 1))), (0, .ref om), (1, .int (nI s)), (2, .int (nI x)), (3, .int (nI n))]) dX7_comeOnce_159 rfl (ni_inc _) (by decide) rfl ?_
        refine mg_goto C (tgt := 146) dX7_comeOnce_162 (by decide) ?_
        refine mg_sub (lv' := [(0, .ref om), (1, .int (nI s)), (2, .int (nI x)), (3, .int (nI n)), (4, .int (nI (nz + 1)))]) [1, 2, 3, 4, 0] rfl ?_
        exact ih146 ((nz + 1)) roq srq (by omega) (by omega) hrq (hoz.tr hoq) w2 h_w2_om h_w2_aso h_w2_asi xl2 xk2 xq2 (fun zz g0 g1 g2 => fr_w2 zz g0 g1 g2)
  refine mg_sub (lv' := [(0, .ref om), (1, .int (nI s)), (2, .int (nI x)), (3, .int (nI n)), (4, .int (nI 0))]) [1, 2, 3, 4, 0] rfl ?_
  exact L146 (_ + 1) 0 ro sr (Nat.lt_succ_self _) (Nat.zero_le _) hr (outS.rf ro s) w hom h_aso h_asi h8 h_aro h_asr (fun zz g0 g1 g2 => fr_w zz )

set_option maxHeartbeats 4000000 in
set_option maxRecDepth 20000 in
theorem c_X7_keptOf_H (D : va_G) (cI cS : ClassId) (w : mwT) (om md aso asi ase ato amo alo aro asr : Nat) (th : Int32) (so : Nat → Nat) (ro : Nat → Int32) (s h : Nat) (hom : w om = some (.inr (6, [.int th, .int (nI md), .ref aso, .ref asi, .ref ase, .ref ato, .ref amo, .ref alo, .ref aro, .ref asr]))) (h_aso : w aso = some (eI cI 8 (lnF so))) (h_aro : w aro = some (eI cI 9600 ro)) (hs8 : s < 8) (hso : so s = 0) (hm : ro (1200 * s) = nI h) : mMi yX7_keptOf cX7_keptOf 4 (some .int) (rmL 2) [.ref om, .int (nI s)] D cI cS w (fun r w1 => r = nI h ∧ w1 = w) := by
  refine mMi.of (by decide) (Nat.le_of_ble_eq_true rfl) ?_
  intro X C hN hR
  refine mg_sub (lv' := [(0, .ref om), (1, .int (nI s))]) [0, 1] rfl ?_
  refine mg_iconst C (v := nI 0) dX7_keptOf_0 (by decide) ?_
  refine mg_istore_n C (lv' := [(2, .int (nI 0)), (0, .ref om), (1, .int (nI s))]) dX7_keptOf_1 rfl (by decide) rfl ?_
  refine mg_aload_n C dX7_keptOf_2 rfl ?_
  refine mg_get C inT7 hom rfl 2 (by decide) kw_20 (Or.inl rfl) rfl dX7_keptOf_3 ?_
  refine mg_iload_n C dX7_keptOf_6 rfl ?_
  refine mg_ialdN C h_aso (by omega) (by omega) dX7_keptOf_7 ?_
  rw [show lnF so s = nI 0 from congrArg nI hso]
  refine mg_tabIn C (tgt := 40) (off := 32) dX7_keptOf_8 (by decide) (by decide) rfl (by decide) ?_
  refine mg_aload_n C dX7_keptOf_40 rfl ?_
  refine mg_iload_n C dX7_keptOf_41 rfl ?_
  refine mg_callV_i C hom rfl (rest := []) (c_X7_many D cI cS w om md aso asi ase ato amo alo aro asr th ro s h hom h_aro hs8 hm) yq_X7_many kw_340 kw_341 kw_342 ⟨by decide, by decide⟩ ⟨Nat.le_of_ble_eq_true rfl, Nat.le_of_ble_eq_true rfl⟩ (Nat.le_of_ble_eq_true rfl) rfl rfl dX7_keptOf_42 (fun r1 w2 ⟨e_r1, e_w2⟩ => ?_)
  rw [e_w2, e_r1]
  exact hR _ _ _ _ dX7_keptOf_45 ⟨rfl, rfl⟩

set_option maxHeartbeats 4000000 in
set_option maxRecDepth 20000 in
theorem c_X7_keptOf_L (D : va_G) (cI cS : ClassId) (w : mwT) (om md aso asi ase ato amo alo aro asr : Nat) (th : Int32) (so : Nat → Nat) (ro : Nat → Int32) (s h : Nat) (hom : w om = some (.inr (6, [.int th, .int (nI md), .ref aso, .ref asi, .ref ase, .ref ato, .ref amo, .ref alo, .ref aro, .ref asr]))) (h_aso : w aso = some (eI cI 8 (lnF so))) (h_aro : w aro = some (eI cI 9600 ro)) (hs8 : s < 8) (hso : so s = 3) (hm : ro (1200 * s) = nI h) : mMi yX7_keptOf cX7_keptOf 4 (some .int) (rmL 2) [.ref om, .int (nI s)] D cI cS w (fun r w1 => r = nI h ∧ w1 = w) := by
  refine mMi.of (by decide) (Nat.le_of_ble_eq_true rfl) ?_
  intro X C hN hR
  refine mg_sub (lv' := [(0, .ref om), (1, .int (nI s))]) [0, 1] rfl ?_
  refine mg_iconst C (v := nI 0) dX7_keptOf_0 (by decide) ?_
  refine mg_istore_n C (lv' := [(2, .int (nI 0)), (0, .ref om), (1, .int (nI s))]) dX7_keptOf_1 rfl (by decide) rfl ?_
  refine mg_aload_n C dX7_keptOf_2 rfl ?_
  refine mg_get C inT7 hom rfl 2 (by decide) kw_20 (Or.inl rfl) rfl dX7_keptOf_3 ?_
  refine mg_iload_n C dX7_keptOf_6 rfl ?_
  refine mg_ialdN C h_aso (by omega) (by omega) dX7_keptOf_7 ?_
  rw [show lnF so s = nI 3 from congrArg nI hso]
  refine mg_tabIn C (tgt := 40) (off := 32) dX7_keptOf_8 (by decide) (by decide) rfl (by decide) ?_
  refine mg_aload_n C dX7_keptOf_40 rfl ?_
  refine mg_iload_n C dX7_keptOf_41 rfl ?_
  refine mg_callV_i C hom rfl (rest := []) (c_X7_many D cI cS w om md aso asi ase ato amo alo aro asr th ro s h hom h_aro hs8 hm) yq_X7_many kw_340 kw_341 kw_342 ⟨by decide, by decide⟩ ⟨Nat.le_of_ble_eq_true rfl, Nat.le_of_ble_eq_true rfl⟩ (Nat.le_of_ble_eq_true rfl) rfl rfl dX7_keptOf_42 (fun r1 w2 ⟨e_r1, e_w2⟩ => ?_)
  rw [e_w2, e_r1]
  exact hR _ _ _ _ dX7_keptOf_45 ⟨rfl, rfl⟩

set_option maxHeartbeats 4000000 in
set_option maxRecDepth 20000 in
theorem c_X7_keptOf_F (D : va_G) (cI cS : ClassId) (w : mwT) (om md aso asi ase ato amo alo aro asr : Nat) (th : Int32) (so : Nat → Nat) (si : Nat → Nat) (ro : Nat → Int32) (s c : Nat) (f : Nat → Int32) (hom : w om = some (.inr (6, [.int th, .int (nI md), .ref aso, .ref asi, .ref ase, .ref ato, .ref amo, .ref alo, .ref aro, .ref asr]))) (h_aso : w aso = some (eI cI 8 (lnF so))) (h_asi : w asi = some (eI cI 8 (lnF si))) (h_aro : w aro = some (eI cI 9600 ro)) (hs8 : s < 8) (hso : so s = 2) (hsi : si s = c) (hc1 : 16 ≤ c) (hc2 : c ≤ 512) (hv : TbM ro s f (1 * c)) : mMi yX7_keptOf cX7_keptOf 4 (some .int) (rmL 2) [.ref om, .int (nI s)] D cI cS w (fun r w1 => r = nI (cnz f (1 * c)) ∧ w1 = w) := by
  refine mMi.of (by decide) (Nat.le_of_ble_eq_true rfl) ?_
  intro X C hN hR
  refine mg_sub (lv' := [(0, .ref om), (1, .int (nI s))]) [0, 1] rfl ?_
  refine mg_iconst C (v := nI 0) dX7_keptOf_0 (by decide) ?_
  refine mg_istore_n C (lv' := [(2, .int (nI 0)), (0, .ref om), (1, .int (nI s))]) dX7_keptOf_1 rfl (by decide) rfl ?_
  refine mg_aload_n C dX7_keptOf_2 rfl ?_
  refine mg_get C inT7 hom rfl 2 (by decide) kw_20 (Or.inl rfl) rfl dX7_keptOf_3 ?_
  refine mg_iload_n C dX7_keptOf_6 rfl ?_
  refine mg_ialdN C h_aso (by omega) (by omega) dX7_keptOf_7 ?_
  rw [show lnF so s = nI 2 from congrArg nI hso]
  refine mg_tabIn C (tgt := 46) (off := 38) dX7_keptOf_8 (by decide) (by decide) rfl (by decide) ?_
  refine mg_iconst C (v := nI 0) dX7_keptOf_46 (by decide) ?_
  refine mg_istore_n C (lv' := [(3, .int (nI 0)), (2, .int (nI 0)), (0, .ref om), (1, .int (nI s))]) dX7_keptOf_47 rfl (by decide) rfl ?_
  have L48 : ∀ (M48 : Nat) (nz : Nat), 1 * c - nz < M48 → (nz ≤ 1 * c) → mwG X 0 0 w [(0, .ref om), (1, .int (nI s)), (2, .int (nI (cnz f nz))), (3, .int (nI nz))] [] 48 := by
    intro M48
    induction M48 with
    | zero => intro nz hm48; exact absurd hm48 (Nat.not_lt_zero _)
    | succ M48 ih48 =>
      intro nz hm48 hnz
      refine mg_iload_n C dX7_keptOf_48 rfl ?_
      refine mg_aload_n C dX7_keptOf_49 rfl ?_
      refine mg_get C inT7 hom rfl 2 (by decide) kw_20 (Or.inl rfl) rfl dX7_keptOf_50 ?_
      refine mg_iload_n C dX7_keptOf_53 rfl ?_
      refine mg_ialdN C h_aso (by omega) (by omega) dX7_keptOf_54 ?_
      rw [show lnF so s = nI 2 from congrArg nI hso]
      refine mg_iconst C (v := nI 1) dX7_keptOf_55 (by decide) ?_
      refine mg_icmpN_ne C (tgt := 63) dX7_keptOf_56 (by decide) (by omega) (by omega) (fun c_56 => ?_) (fun c_56 => absurd c_56 (by decide))
      refine mg_iconst C (v := nI 1) dX7_keptOf_63 (by decide) ?_
      refine mg_aload_n C dX7_keptOf_64 rfl ?_
      refine mg_get C inT7 hom rfl 3 (by decide) kw_21 (Or.inl rfl) rfl dX7_keptOf_65 ?_
      refine mg_iload_n C dX7_keptOf_68 rfl ?_
      refine mg_ialdN C h_asi (by omega) (by omega) dX7_keptOf_69 ?_
      rw [show lnF si s = nI c from congrArg nI hsi]
      refine mg_imul C (z := nI (1 * c)) dX7_keptOf_70 (pk_mul _ _) ?_
      refine mg_icmpN_ge C (tgt := 106) dX7_keptOf_71 (by decide) (by omega) (by omega) (fun c_71 => ?_) (fun c_71 => ?_)
      · refine mg_iload_n C dX7_keptOf_106 rfl ?_
        have en : nz = 1 * c := by omega
        exact hR _ _ _ _ dX7_keptOf_107 ⟨by rw [en], rfl⟩
      · refine mg_aload_n C dX7_keptOf_74 rfl ?_
        refine mg_get C inT7 hom rfl 8 (by decide) kw_26 (Or.inl rfl) rfl dX7_keptOf_75 ?_
        refine mg_sipush C (v := nI 1200) dX7_keptOf_78 (by decide) ?_
        refine mg_iload_n C dX7_keptOf_81 rfl ?_
        refine mg_imul C (z := nI (1200 * s)) dX7_keptOf_82 (pk_mul _ _) ?_
        refine mg_bipush C (v := nI 100) dX7_keptOf_83 (by decide) ?_
        refine mg_iadd C (z := nI ((1200 * s) + 100)) dX7_keptOf_85 (nI_add _ _) ?_
        refine mg_iload_n C dX7_keptOf_86 rfl ?_
        refine mg_iadd C (z := nI (((1200 * s) + 100) + nz)) dX7_keptOf_87 (nI_add _ _) ?_
        refine mg_ialdN C h_aro (by omega) (by omega) dX7_keptOf_88 ?_
        rw [hv nz (by omega)]
        refine mg_if_eq C (tgt := 98) dX7_keptOf_89 (by decide) (fun c_89 => ?_) (fun c_89 => ?_)
        · refine mg_iload_n C dX7_keptOf_98 rfl ?_
          refine mg_istore_n C (lv' := [(2, .int (nI (cnz f nz))), (0, .ref om), (1, .int (nI s)), (3, .int (nI nz))]) dX7_keptOf_99 rfl (by decide) rfl ?_
          have ez := cnz_z c_89
          rw [← ez]
          refine mg_iinc C (v := nI (nz + 1)) (lv' := [(3, .int (nI (nz + 1))), (2, .int (nI (cnz f (nz + 1)))), (0, .ref om), (1, .int (nI s))]) dX7_keptOf_100 rfl (ni_inc _) (by decide) rfl ?_
          refine mg_goto C (tgt := 48) dX7_keptOf_103 (by decide) ?_
          refine mg_sub (lv' := [(0, .ref om), (1, .int (nI s)), (2, .int (nI (cnz f (nz + 1)))), (3, .int (nI (nz + 1)))]) [2, 3, 1, 0] rfl ?_
          exact ih48 ((nz + 1)) (by omega) (by omega)
        · refine mg_iload_n C dX7_keptOf_92 rfl ?_
          refine mg_iconst C (v := nI 1) dX7_keptOf_93 (by decide) ?_
          refine mg_iadd C (z := nI (cnz f nz + 1)) dX7_keptOf_94 (nI_add _ _) ?_
          refine mg_goto C (tgt := 99) dX7_keptOf_95 (by decide) ?_
          refine mg_istore_n C (lv' := [(2, .int (nI (cnz f nz + 1))), (0, .ref om), (1, .int (nI s)), (3, .int (nI nz))]) dX7_keptOf_99 rfl (by decide) rfl ?_
          have ez := cnz_s c_89
          rw [← ez]
          refine mg_iinc C (v := nI (nz + 1)) (lv' := [(3, .int (nI (nz + 1))), (2, .int (nI (cnz f (nz + 1)))), (0, .ref om), (1, .int (nI s))]) dX7_keptOf_100 rfl (ni_inc _) (by decide) rfl ?_
          refine mg_goto C (tgt := 48) dX7_keptOf_103 (by decide) ?_
          refine mg_sub (lv' := [(0, .ref om), (1, .int (nI s)), (2, .int (nI (cnz f (nz + 1)))), (3, .int (nI (nz + 1)))]) [2, 3, 1, 0] rfl ?_
          exact ih48 ((nz + 1)) (by omega) (by omega)
  refine mg_sub (lv' := [(0, .ref om), (1, .int (nI s)), (2, .int (nI 0)), (3, .int (nI 0))]) [2, 3, 1, 0] rfl ?_
  exact L48 (_ + 1) 0 (Nat.lt_succ_self _) (Nat.zero_le _)

set_option maxHeartbeats 4000000 in
set_option maxRecDepth 20000 in
theorem c_X7_keptOf_T (D : va_G) (cI cS : ClassId) (w : mwT) (om md aso asi ase ato amo alo aro asr : Nat) (th : Int32) (so : Nat → Nat) (si : Nat → Nat) (ro : Nat → Int32) (s c : Nat) (f : Nat → Int32) (hom : w om = some (.inr (6, [.int th, .int (nI md), .ref aso, .ref asi, .ref ase, .ref ato, .ref amo, .ref alo, .ref aro, .ref asr]))) (h_aso : w aso = some (eI cI 8 (lnF so))) (h_asi : w asi = some (eI cI 8 (lnF si))) (h_aro : w aro = some (eI cI 9600 ro)) (hs8 : s < 8) (hso : so s = 1) (hsi : si s = c) (hc1 : 4 ≤ c) (hc2 : c ≤ 64) (hv : TbM ro s f (4 * c)) : mMi yX7_keptOf cX7_keptOf 4 (some .int) (rmL 2) [.ref om, .int (nI s)] D cI cS w (fun r w1 => r = nI (cnz f (4 * c)) ∧ w1 = w) := by
  refine mMi.of (by decide) (Nat.le_of_ble_eq_true rfl) ?_
  intro X C hN hR
  refine mg_sub (lv' := [(0, .ref om), (1, .int (nI s))]) [0, 1] rfl ?_
  refine mg_iconst C (v := nI 0) dX7_keptOf_0 (by decide) ?_
  refine mg_istore_n C (lv' := [(2, .int (nI 0)), (0, .ref om), (1, .int (nI s))]) dX7_keptOf_1 rfl (by decide) rfl ?_
  refine mg_aload_n C dX7_keptOf_2 rfl ?_
  refine mg_get C inT7 hom rfl 2 (by decide) kw_20 (Or.inl rfl) rfl dX7_keptOf_3 ?_
  refine mg_iload_n C dX7_keptOf_6 rfl ?_
  refine mg_ialdN C h_aso (by omega) (by omega) dX7_keptOf_7 ?_
  rw [show lnF so s = nI 1 from congrArg nI hso]
  refine mg_tabIn C (tgt := 46) (off := 38) dX7_keptOf_8 (by decide) (by decide) rfl (by decide) ?_
  refine mg_iconst C (v := nI 0) dX7_keptOf_46 (by decide) ?_
  refine mg_istore_n C (lv' := [(3, .int (nI 0)), (2, .int (nI 0)), (0, .ref om), (1, .int (nI s))]) dX7_keptOf_47 rfl (by decide) rfl ?_
  have L48 : ∀ (M48 : Nat) (nz : Nat), 4 * c - nz < M48 → (nz ≤ 4 * c) → mwG X 0 0 w [(0, .ref om), (1, .int (nI s)), (2, .int (nI (cnz f nz))), (3, .int (nI nz))] [] 48 := by
    intro M48
    induction M48 with
    | zero => intro nz hm48; exact absurd hm48 (Nat.not_lt_zero _)
    | succ M48 ih48 =>
      intro nz hm48 hnz
      refine mg_iload_n C dX7_keptOf_48 rfl ?_
      refine mg_aload_n C dX7_keptOf_49 rfl ?_
      refine mg_get C inT7 hom rfl 2 (by decide) kw_20 (Or.inl rfl) rfl dX7_keptOf_50 ?_
      refine mg_iload_n C dX7_keptOf_53 rfl ?_
      refine mg_ialdN C h_aso (by omega) (by omega) dX7_keptOf_54 ?_
      rw [show lnF so s = nI 1 from congrArg nI hso]
      refine mg_iconst C (v := nI 1) dX7_keptOf_55 (by decide) ?_
      refine mg_icmpN_ne C (tgt := 63) dX7_keptOf_56 (by decide) (by omega) (by omega) (fun c_56 => absurd rfl c_56) (fun c_56 => ?_)
      refine mg_iconst C (v := nI 4) dX7_keptOf_59 (by decide) ?_
      refine mg_goto C (tgt := 64) dX7_keptOf_60 (by decide) ?_
      refine mg_aload_n C dX7_keptOf_64 rfl ?_
      refine mg_get C inT7 hom rfl 3 (by decide) kw_21 (Or.inl rfl) rfl dX7_keptOf_65 ?_
      refine mg_iload_n C dX7_keptOf_68 rfl ?_
      refine mg_ialdN C h_asi (by omega) (by omega) dX7_keptOf_69 ?_
      rw [show lnF si s = nI c from congrArg nI hsi]
      refine mg_imul C (z := nI (4 * c)) dX7_keptOf_70 (pk_mul _ _) ?_
      refine mg_icmpN_ge C (tgt := 106) dX7_keptOf_71 (by decide) (by omega) (by omega) (fun c_71 => ?_) (fun c_71 => ?_)
      · refine mg_iload_n C dX7_keptOf_106 rfl ?_
        have en : nz = 4 * c := by omega
        exact hR _ _ _ _ dX7_keptOf_107 ⟨by rw [en], rfl⟩
      · refine mg_aload_n C dX7_keptOf_74 rfl ?_
        refine mg_get C inT7 hom rfl 8 (by decide) kw_26 (Or.inl rfl) rfl dX7_keptOf_75 ?_
        refine mg_sipush C (v := nI 1200) dX7_keptOf_78 (by decide) ?_
        refine mg_iload_n C dX7_keptOf_81 rfl ?_
        refine mg_imul C (z := nI (1200 * s)) dX7_keptOf_82 (pk_mul _ _) ?_
        refine mg_bipush C (v := nI 100) dX7_keptOf_83 (by decide) ?_
        refine mg_iadd C (z := nI ((1200 * s) + 100)) dX7_keptOf_85 (nI_add _ _) ?_
        refine mg_iload_n C dX7_keptOf_86 rfl ?_
        refine mg_iadd C (z := nI (((1200 * s) + 100) + nz)) dX7_keptOf_87 (nI_add _ _) ?_
        refine mg_ialdN C h_aro (by omega) (by omega) dX7_keptOf_88 ?_
        rw [hv nz (by omega)]
        refine mg_if_eq C (tgt := 98) dX7_keptOf_89 (by decide) (fun c_89 => ?_) (fun c_89 => ?_)
        · refine mg_iload_n C dX7_keptOf_98 rfl ?_
          refine mg_istore_n C (lv' := [(2, .int (nI (cnz f nz))), (0, .ref om), (1, .int (nI s)), (3, .int (nI nz))]) dX7_keptOf_99 rfl (by decide) rfl ?_
          have ez := cnz_z c_89
          rw [← ez]
          refine mg_iinc C (v := nI (nz + 1)) (lv' := [(3, .int (nI (nz + 1))), (2, .int (nI (cnz f (nz + 1)))), (0, .ref om), (1, .int (nI s))]) dX7_keptOf_100 rfl (ni_inc _) (by decide) rfl ?_
          refine mg_goto C (tgt := 48) dX7_keptOf_103 (by decide) ?_
          refine mg_sub (lv' := [(0, .ref om), (1, .int (nI s)), (2, .int (nI (cnz f (nz + 1)))), (3, .int (nI (nz + 1)))]) [2, 3, 1, 0] rfl ?_
          exact ih48 ((nz + 1)) (by omega) (by omega)
        · refine mg_iload_n C dX7_keptOf_92 rfl ?_
          refine mg_iconst C (v := nI 1) dX7_keptOf_93 (by decide) ?_
          refine mg_iadd C (z := nI (cnz f nz + 1)) dX7_keptOf_94 (nI_add _ _) ?_
          refine mg_goto C (tgt := 99) dX7_keptOf_95 (by decide) ?_
          refine mg_istore_n C (lv' := [(2, .int (nI (cnz f nz + 1))), (0, .ref om), (1, .int (nI s)), (3, .int (nI nz))]) dX7_keptOf_99 rfl (by decide) rfl ?_
          have ez := cnz_s c_89
          rw [← ez]
          refine mg_iinc C (v := nI (nz + 1)) (lv' := [(3, .int (nI (nz + 1))), (2, .int (nI (cnz f (nz + 1)))), (0, .ref om), (1, .int (nI s))]) dX7_keptOf_100 rfl (ni_inc _) (by decide) rfl ?_
          refine mg_goto C (tgt := 48) dX7_keptOf_103 (by decide) ?_
          refine mg_sub (lv' := [(0, .ref om), (1, .int (nI s)), (2, .int (nI (cnz f (nz + 1)))), (3, .int (nI (nz + 1)))]) [2, 3, 1, 0] rfl ?_
          exact ih48 ((nz + 1)) (by omega) (by omega)
  refine mg_sub (lv' := [(0, .ref om), (1, .int (nI s)), (2, .int (nI 0)), (3, .int (nI 0))]) [2, 3, 1, 0] rfl ?_
  exact L48 (_ + 1) 0 (Nat.lt_succ_self _) (Nat.zero_le _)

set_option maxHeartbeats 4000000 in
set_option maxRecDepth 20000 in
theorem c_X7_keptOf_R (D : va_G) (cI cS : ClassId) (w : mwT) (om md aso asi ase ato amo alo aro asr : Nat) (th : Int32) (so : Nat → Nat) (ro : Nat → Int32) (s : Nat) (ln : Nat → Nat) (hom : w om = some (.inr (6, [.int th, .int (nI md), .ref aso, .ref asi, .ref ase, .ref ato, .ref amo, .ref alo, .ref aro, .ref asr]))) (h_aso : w aso = some (eI cI 8 (lnF so))) (h_aro : w aro = some (eI cI 9600 ro)) (hs8 : s < 8) (hso : so s = 4) (hr : ∀ b, b < 31 → ro (1200 * s + b) = nI (ln b)) : mMi yX7_keptOf cX7_keptOf 4 (some .int) (rmL 2) [.ref om, .int (nI s)] D cI cS w (fun r w1 => r = nI (smN ln 31) ∧ w1 = w) := by
  refine mMi.of (by decide) (Nat.le_of_ble_eq_true rfl) ?_
  intro X C hN hR
  refine mg_sub (lv' := [(0, .ref om), (1, .int (nI s))]) [0, 1] rfl ?_
  refine mg_iconst C (v := nI 0) dX7_keptOf_0 (by decide) ?_
  refine mg_istore_n C (lv' := [(2, .int (nI 0)), (0, .ref om), (1, .int (nI s))]) dX7_keptOf_1 rfl (by decide) rfl ?_
  refine mg_aload_n C dX7_keptOf_2 rfl ?_
  refine mg_get C inT7 hom rfl 2 (by decide) kw_20 (Or.inl rfl) rfl dX7_keptOf_3 ?_
  refine mg_iload_n C dX7_keptOf_6 rfl ?_
  refine mg_ialdN C h_aso (by omega) (by omega) dX7_keptOf_7 ?_
  rw [show lnF so s = nI 4 from congrArg nI hso]
  refine mg_tabOut C (tgt := 108) dX7_keptOf_8 (by decide) (by decide) ?_
  refine mg_iconst C (v := nI 0) dX7_keptOf_108 (by decide) ?_
  refine mg_istore_n C (lv' := [(3, .int (nI 0)), (2, .int (nI 0)), (0, .ref om), (1, .int (nI s))]) dX7_keptOf_109 rfl (by decide) rfl ?_
  have L110 : ∀ (M110 : Nat) (bz : Nat), 31 - bz < M110 → (bz ≤ 31) → mwG X 0 0 w [(0, .ref om), (1, .int (nI s)), (2, .int (nI (smN ln bz))), (3, .int (nI bz))] [] 110 := by
    intro M110
    induction M110 with
    | zero => intro bz hm110; exact absurd hm110 (Nat.not_lt_zero _)
    | succ M110 ih110 =>
      intro bz hm110 hbz
      refine mg_iload_n C dX7_keptOf_110 rfl ?_
      refine mg_bipush C (v := nI 31) dX7_keptOf_111 (by decide) ?_
      refine mg_icmpN_ge C (tgt := 137) dX7_keptOf_113 (by decide) (by omega) (by omega) (fun c_113 => ?_) (fun c_113 => ?_)
      · refine mg_iload_n C dX7_keptOf_137 rfl ?_
        have eb : bz = 31 := by omega
        exact hR _ _ _ _ dX7_keptOf_138 ⟨by rw [eb], rfl⟩
      · refine mg_iload_n C dX7_keptOf_116 rfl ?_
        refine mg_aload_n C dX7_keptOf_117 rfl ?_
        refine mg_get C inT7 hom rfl 8 (by decide) kw_26 (Or.inl rfl) rfl dX7_keptOf_118 ?_
        refine mg_sipush C (v := nI 1200) dX7_keptOf_121 (by decide) ?_
        refine mg_iload_n C dX7_keptOf_124 rfl ?_
        refine mg_imul C (z := nI (1200 * s)) dX7_keptOf_125 (pk_mul _ _) ?_
        refine mg_iload_n C dX7_keptOf_126 rfl ?_
        refine mg_iadd C (z := nI ((1200 * s) + bz)) dX7_keptOf_127 (nI_add _ _) ?_
        refine mg_ialdN C h_aro (by omega) (by omega) dX7_keptOf_128 ?_
        rw [show ro (1200 * s + bz) = nI (ln bz) from hr bz (by omega)]
        refine mg_iadd C (z := nI (smN ln bz + (ln bz))) dX7_keptOf_129 (nI_add _ _) ?_
        refine mg_istore_n C (lv' := [(2, .int (nI (smN ln bz + (ln bz)))), (0, .ref om), (1, .int (nI s)), (3, .int (nI bz))]) dX7_keptOf_130 rfl (by decide) rfl ?_
        refine mg_iinc C (v := nI (bz + 1)) (lv' := [(3, .int (nI (bz + 1))), (2, .int (nI (smN ln bz + (ln bz)))), (0, .ref om), (1, .int (nI s))]) dX7_keptOf_131 rfl (ni_inc _) (by decide) rfl ?_
        refine mg_goto C (tgt := 110) dX7_keptOf_134 (by decide) ?_
        refine mg_sub (lv' := [(0, .ref om), (1, .int (nI s)), (2, .int (nI (smN ln bz + (ln bz)))), (3, .int (nI (bz + 1)))]) [2, 3, 1, 0] rfl ?_
        exact ih110 ((bz + 1)) (by omega) (by omega)
  refine mg_sub (lv' := [(0, .ref om), (1, .int (nI s)), (2, .int (nI 0)), (3, .int (nI 0))]) [2, 3, 1, 0] rfl ?_
  exact L110 (_ + 1) 0 (Nat.lt_succ_self _) (Nat.zero_le _)
