set_option maxHeartbeats 4000000 in
set_option maxRecDepth 20000 in
theorem c_X7_keep (D : va_G) (cI cS : ClassId) (w : mwT) (om md aso asi ase ato amo alo aro asr : Nat) (th : Int32) (ro : Nat → Int32) (si : Nat → Nat) (tg : Nat → Nat) (s h k : Nat) (f : Nat → Int32) (v : Int32) (hom : w om = some (.inr (6, [.int th, .int (nI md), .ref aso, .ref asi, .ref ase, .ref ato, .ref amo, .ref alo, .ref aro, .ref asr]))) (h_aro : w aro = some (eI cI 9600 ro)) (h_asi : w asi = some (eI cI 8 (lnF si))) (hs8 : s < 8) (hk1 : 2 ≤ k) (hk2 : k ≤ 32) (hh : h ≤ k) (hl : LsM ro s f h) (hsk : si s = k) (t_aro : tg aro = 7) (t_asi : tg asi = 2) : mMv yX7_keep cX7_keep 6 none (rmL 2) [.ref om, .int (nI s), .int v] D cI cS w (fun w1 => ∃ ro1 : Nat → Int32, w1 aro = some (eI cI 9600 ro1) ∧ LsM ro1 s (kpU k v (f, h)).1 (kpU k v (f, h)).2 ∧ outS ro ro1 s ∧ ∀ z : Nat, z ≠ aro → w1 z = w z) := by
  refine mMv.of (by decide) (Nat.le_of_ble_eq_true rfl) ?_
  intro X C hN hR
  have fr_w : ∀ zz : Nat, w zz = w zz := fun _ => rfl
  refine mg_sub (lv' := [(0, .ref om), (1, .int (nI s)), (2, .int v)]) [0, 1, 2] rfl ?_
  refine mg_iconst C (v := (-1 : Int32)) dX7_keep_0 (by decide) ?_
  refine mg_istore_n C (lv' := [(3, .int ((-1 : Int32))), (0, .ref om), (1, .int (nI s)), (2, .int v)]) dX7_keep_1 rfl (by decide) rfl ?_
  refine mg_iconst C (v := nI 0) dX7_keep_2 (by decide) ?_
  refine mg_istore C (lv' := [(4, .int (nI 0)), (3, .int ((-1 : Int32))), (0, .ref om), (1, .int (nI s)), (2, .int v)]) dX7_keep_3 (by decide) rfl ?_
  refine mg_iload C dX7_keep_5 rfl ?_
  refine mg_aload_n C dX7_keep_7 rfl ?_
  refine mg_iload_n C dX7_keep_8 rfl ?_
  refine mg_callV_i C hom rfl (rest := [.int (nI 0)]) (c_X7_many D cI cS w om md aso asi ase ato amo alo aro asr th ro s h hom h_aro hs8 hl.1) yq_X7_many kw_340 kw_341 kw_342 ⟨by decide, by decide⟩ ⟨Nat.le_of_ble_eq_true rfl, Nat.le_of_ble_eq_true rfl⟩ (Nat.le_of_ble_eq_true rfl) rfl rfl dX7_keep_9 (fun r1 w2 ⟨e_r1, e_w2⟩ => ?_)
  rw [e_w2, e_r1]
  refine mg_icmpN_ge C (tgt := 77) dX7_keep_12 (by decide) (by omega) (by omega) (fun c_12 => ?_) (fun c_12 => ?_)
  · have hfd : fdU f v h = h := by have := fdU_le f v h; omega
    refine mg_aload_n C dX7_keep_77 rfl ?_
    refine mg_iload_n C dX7_keep_78 rfl ?_
    refine mg_callV_i C hom rfl (rest := []) (c_X7_many D cI cS w om md aso asi ase ato amo alo aro asr th ro s h hom h_aro hs8 hl.1) yq_X7_many kw_340 kw_341 kw_342 ⟨by decide, by decide⟩ ⟨Nat.le_of_ble_eq_true rfl, Nat.le_of_ble_eq_true rfl⟩ (Nat.le_of_ble_eq_true rfl) rfl rfl dX7_keep_79 (fun r3 w4 ⟨e_r3, e_w4⟩ => ?_)
    rw [e_w4, e_r3]
    refine mg_aload_n C dX7_keep_82 rfl ?_
    refine mg_get C inT7 hom rfl 3 (by decide) kw_21 (Or.inl rfl) rfl dX7_keep_83 ?_
    refine mg_iload_n C dX7_keep_86 rfl ?_
    refine mg_ialdN C h_asi (by omega) (by omega) dX7_keep_87 ?_
    rw [show lnF si s = nI k from congrArg nI hsk]
    refine mg_icmpN_ge C (tgt := 131) dX7_keep_88 (by decide) (by omega) (by omega) (fun c_88 => absurd c_88 (by omega)) (fun c_88 => ?_)
    refine mg_aload_n C dX7_keep_91 rfl ?_
    refine mg_get C inT7 hom rfl 8 (by decide) kw_26 (Or.inl rfl) rfl dX7_keep_92 ?_
    refine mg_sipush C (v := nI 1200) dX7_keep_95 (by decide) ?_
    refine mg_iload_n C dX7_keep_98 rfl ?_
    refine mg_imul C (z := nI (1200 * s)) dX7_keep_99 (pk_mul _ _) ?_
    refine mg_bipush C (v := nI 100) dX7_keep_100 (by decide) ?_
    refine mg_iadd C (z := nI ((1200 * s) + 100)) dX7_keep_102 (nI_add _ _) ?_
    refine mg_aload_n C dX7_keep_103 rfl ?_
    refine mg_iload_n C dX7_keep_104 rfl ?_
    refine mg_callV_i C hom rfl (rest := [.int (nI ((1200 * s) + 100)), .ref aro]) (c_X7_many D cI cS w om md aso asi ase ato amo alo aro asr th ro s h hom h_aro hs8 hl.1) yq_X7_many kw_340 kw_341 kw_342 ⟨by decide, by decide⟩ ⟨Nat.le_of_ble_eq_true rfl, Nat.le_of_ble_eq_true rfl⟩ (Nat.le_of_ble_eq_true rfl) rfl rfl dX7_keep_105 (fun r5 w6 ⟨e_r5, e_w6⟩ => ?_)
    rw [e_w6, e_r5]
    refine mg_iadd C (z := nI (((1200 * s) + 100) + h)) dX7_keep_108 (nI_add _ _) ?_
    refine mg_iload_n C dX7_keep_109 rfl ?_
    refine mg_iastN C h_aro (by omega) (by omega) dX7_keep_110 (fun w7 e_w7 => ?_)
    have h_w7_om : w7 om = some (.inr (6, [.int th, .int (nI md), .ref aso, .ref asi, .ref ase, .ref ato, .ref amo, .ref alo, .ref aro, .ref asr])) := (congrFun e_w7 _).trans ((mwu_ne (mw_oa hom h_aro)).trans hom)
    have h_w7_aro : w7 aro = some (eI cI 9600 (upd ro (((1200 * s) + 100) + h) v)) := (congrFun e_w7 _).trans mwu_eq
    have h_w7_asi : w7 asi = some (eI cI 8 (lnF si)) := (congrFun e_w7 _).trans ((mwu_ne (Ne.symm (tne t_aro t_asi (by decide)))).trans h_asi)
    have fr_w7 : ∀ zz : Nat, zz ≠ aro → w7 zz = w zz := fun zz g0 => (congrFun e_w7 zz).trans ((mwu_ne g0).trans (fr_w zz ))
    refine mg_aload_n C dX7_keep_111 rfl ?_
    refine mg_get C inT7 h_w7_om rfl 8 (by decide) kw_26 (Or.inl rfl) rfl dX7_keep_112 ?_
    refine mg_sipush C (v := nI 1200) dX7_keep_115 (by decide) ?_
    refine mg_iload_n C dX7_keep_118 rfl ?_
    refine mg_imul C (z := nI (1200 * s)) dX7_keep_119 (pk_mul _ _) ?_
    refine mg_aload_n C dX7_keep_120 rfl ?_
    refine mg_iload_n C dX7_keep_121 rfl ?_
    refine mg_callV_i C h_w7_om rfl (rest := [.int (nI (1200 * s)), .ref aro]) (c_X7_many D cI cS w7 om md aso asi ase ato amo alo aro asr th (upd ro (1200 * s + 100 + h) v) s h h_w7_om h_w7_aro hs8 (by unfold upd; rw [if_neg (by omega)]; exact hl.1)) yq_X7_many kw_340 kw_341 kw_342 ⟨by decide, by decide⟩ ⟨Nat.le_of_ble_eq_true rfl, Nat.le_of_ble_eq_true rfl⟩ (Nat.le_of_ble_eq_true rfl) rfl rfl dX7_keep_122 (fun r8 w9 ⟨e_r8, e_w9⟩ => ?_)
    rw [e_w9, e_r8]
    refine mg_iconst C (v := nI 1) dX7_keep_125 (by decide) ?_
    refine mg_iadd C (z := nI (h + 1)) dX7_keep_126 (nI_add _ _) ?_
    refine mg_iastN C h_w7_aro (by omega) (by omega) dX7_keep_127 (fun w10 e_w10 => ?_)
    have h_w10_om : w10 om = some (.inr (6, [.int th, .int (nI md), .ref aso, .ref asi, .ref ase, .ref ato, .ref amo, .ref alo, .ref aro, .ref asr])) := (congrFun e_w10 _).trans ((mwu_ne (mw_oa h_w7_om h_w7_aro)).trans h_w7_om)
    have h_w10_aro : w10 aro = some (eI cI 9600 (upd (upd ro (((1200 * s) + 100) + h) v) (1200 * s) (nI (h + 1)))) := (congrFun e_w10 _).trans mwu_eq
    have h_w10_asi : w10 asi = some (eI cI 8 (lnF si)) := (congrFun e_w10 _).trans ((mwu_ne (Ne.symm (tne t_aro t_asi (by decide)))).trans h_w7_asi)
    have fr_w10 : ∀ zz : Nat, zz ≠ aro → w10 zz = w zz := fun zz g0 => (congrFun e_w10 zz).trans ((mwu_ne g0).trans (fr_w7 zz g0))
    refine mg_goto C (tgt := 166) dX7_keep_128 (by decide) ?_
    have ek : kpU k v (f, h) = (upd f h v, h + 1) := (if_neg (show ¬ fdU f v h < h by omega)).trans (if_pos (show h < k by omega))
    exact hR _ _ _ dX7_keep_166 ⟨_, h_w10_aro, by rw [ek]; exact hl.new, ((outS.rf ro s).up (by omega) (by omega)).up (by omega) (by omega), fun z q0 => fr_w10 z q0⟩
  · refine mg_aload_n C dX7_keep_15 rfl ?_
    refine mg_get C inT7 hom rfl 8 (by decide) kw_26 (Or.inl rfl) rfl dX7_keep_16 ?_
    refine mg_sipush C (v := nI 1200) dX7_keep_19 (by decide) ?_
    refine mg_iload_n C dX7_keep_22 rfl ?_
    refine mg_imul C (z := nI (1200 * s)) dX7_keep_23 (pk_mul _ _) ?_
    refine mg_bipush C (v := nI 100) dX7_keep_24 (by decide) ?_
    refine mg_iadd C (z := nI ((1200 * s) + 100)) dX7_keep_26 (nI_add _ _) ?_
    refine mg_iload C dX7_keep_27 rfl ?_
    refine mg_iadd C (z := nI (((1200 * s) + 100) + 0)) dX7_keep_29 (nI_add _ _) ?_
    refine mg_ialdN C h_aro (by omega) (by omega) dX7_keep_30 ?_
    rw [hl.2 (0) (by omega)]
    refine mg_istore C (lv' := [(5, .int (f (0))), (4, .int (nI 0)), (3, .int ((-1 : Int32))), (0, .ref om), (1, .int (nI s)), (2, .int v)]) dX7_keep_31 (by decide) rfl ?_
    refine mg_iload C dX7_keep_33 rfl ?_
    refine mg_iload_n C dX7_keep_35 rfl ?_
    refine mg_icmp_ne C (tgt := 40) dX7_keep_36 (by decide) (fun c_36 => ?_) (fun c_36 => ?_)
    · refine mg_iload_n C dX7_keep_40 rfl ?_
      refine mg_if_lt C (tgt := 64) dX7_keep_41 (by decide) (fun c_41 => ?_) (fun c_41 => absurd (show (-1 : Int32) < 0 by decide) c_41)
      refine mg_iload C dX7_keep_64 rfl ?_
      refine mg_goto C (tgt := 70) dX7_keep_66 (by decide) ?_
      refine mg_istore_n C (lv' := [(3, .int (nI 0)), (5, .int (f (0))), (4, .int (nI 0)), (0, .ref om), (1, .int (nI s)), (2, .int v)]) dX7_keep_70 rfl (by decide) rfl ?_
      refine mg_iinc C (v := nI (0 + 1)) (lv' := [(4, .int (nI (0 + 1))), (3, .int (nI 0)), (5, .int (f (0))), (0, .ref om), (1, .int (nI s)), (2, .int v)]) dX7_keep_71 rfl (ni_inc _) (by decide) rfl ?_
      refine mg_goto C (tgt := 5) dX7_keep_74 (by decide) ?_
      have L5 : ∀ (M5 : Nat) (mz : Nat), h - mz < M5 → (mz + 1 ≤ h) → (∀ j, j < mz + 1 → ¬ f j = v) → mwG X 0 0 w [(0, .ref om), (1, .int (nI s)), (2, .int v), (3, .int (nI (gmU f mz))), (4, .int (nI (mz + 1)))] [] 5 := by
        intro M5
        induction M5 with
        | zero => intro mz hm5; exact absurd hm5 (Nat.not_lt_zero _)
        | succ M5 ih5 =>
          intro mz hm5 hmz hnz
          refine mg_iload C dX7_keep_5 rfl ?_
          refine mg_aload_n C dX7_keep_7 rfl ?_
          refine mg_iload_n C dX7_keep_8 rfl ?_
          refine mg_callV_i C hom rfl (rest := [.int (nI (mz + 1))]) (c_X7_many D cI cS w om md aso asi ase ato amo alo aro asr th ro s h hom h_aro hs8 hl.1) yq_X7_many kw_340 kw_341 kw_342 ⟨by decide, by decide⟩ ⟨Nat.le_of_ble_eq_true rfl, Nat.le_of_ble_eq_true rfl⟩ (Nat.le_of_ble_eq_true rfl) rfl rfl dX7_keep_9 (fun r11 w12 ⟨e_r11, e_w12⟩ => ?_)
          rw [e_w12, e_r11]
          refine mg_icmpN_ge C (tgt := 77) dX7_keep_12 (by decide) (by omega) (by omega) (fun c_12 => ?_) (fun c_12 => ?_)
          · have hfd : fdU f v h = h := (fdU_uniq (Nat.le_refl _) (fun j q => hnz j (by omega)) (fun q => absurd q (Nat.lt_irrefl _))).symm
            have hgm := gmU_le f mz
            refine mg_aload_n C dX7_keep_77 rfl ?_
            refine mg_iload_n C dX7_keep_78 rfl ?_
            refine mg_callV_i C hom rfl (rest := []) (c_X7_many D cI cS w om md aso asi ase ato amo alo aro asr th ro s h hom h_aro hs8 hl.1) yq_X7_many kw_340 kw_341 kw_342 ⟨by decide, by decide⟩ ⟨Nat.le_of_ble_eq_true rfl, Nat.le_of_ble_eq_true rfl⟩ (Nat.le_of_ble_eq_true rfl) rfl rfl dX7_keep_79 (fun r13 w14 ⟨e_r13, e_w14⟩ => ?_)
            rw [e_w14, e_r13]
            refine mg_aload_n C dX7_keep_82 rfl ?_
            refine mg_get C inT7 hom rfl 3 (by decide) kw_21 (Or.inl rfl) rfl dX7_keep_83 ?_
            refine mg_iload_n C dX7_keep_86 rfl ?_
            refine mg_ialdN C h_asi (by omega) (by omega) dX7_keep_87 ?_
            rw [show lnF si s = nI k from congrArg nI hsk]
            refine mg_icmpN_ge C (tgt := 131) dX7_keep_88 (by decide) (by omega) (by omega) (fun c_88 => ?_) (fun c_88 => ?_)
            · refine mg_iload_n C dX7_keep_131 rfl ?_
              refine mg_aload_n C dX7_keep_132 rfl ?_
              refine mg_get C inT7 hom rfl 8 (by decide) kw_26 (Or.inl rfl) rfl dX7_keep_133 ?_
              refine mg_sipush C (v := nI 1200) dX7_keep_136 (by decide) ?_
              refine mg_iload_n C dX7_keep_139 rfl ?_
              refine mg_imul C (z := nI (1200 * s)) dX7_keep_140 (pk_mul _ _) ?_
              refine mg_bipush C (v := nI 100) dX7_keep_141 (by decide) ?_
              refine mg_iadd C (z := nI ((1200 * s) + 100)) dX7_keep_143 (nI_add _ _) ?_
              refine mg_iload_n C dX7_keep_144 rfl ?_
              refine mg_iadd C (z := nI (((1200 * s) + 100) + (gmU f mz))) dX7_keep_145 (nI_add _ _) ?_
              refine mg_ialdN C h_aro (by omega) (by omega) dX7_keep_146 ?_
              rw [hl.2 (gmU f mz) (by omega)]
              refine mg_icmp_ge C (tgt := 166) dX7_keep_147 (by decide) (fun c_147 => ?_) (fun c_147 => ?_)
              · have em : mz = h - 1 := by omega
                have ek : kpU k v (f, h) = (f, h) := ((if_neg (show ¬ fdU f v h < h by omega)).trans (if_neg (show ¬ h < k by omega))).trans (if_neg (show ¬ v < f (gmU f (h - 1)) by rw [← em]; exact Int32.not_lt.mpr c_147))
                exact hR _ _ _ dX7_keep_166 ⟨ro, h_aro, by rw [ek]; exact hl, outS.rf ro s, fun z q0 => fr_w z ⟩
              · refine mg_aload_n C dX7_keep_150 rfl ?_
                refine mg_get C inT7 hom rfl 8 (by decide) kw_26 (Or.inl rfl) rfl dX7_keep_151 ?_
                refine mg_sipush C (v := nI 1200) dX7_keep_154 (by decide) ?_
                refine mg_iload_n C dX7_keep_157 rfl ?_
                refine mg_imul C (z := nI (1200 * s)) dX7_keep_158 (pk_mul _ _) ?_
                refine mg_bipush C (v := nI 100) dX7_keep_159 (by decide) ?_
                refine mg_iadd C (z := nI ((1200 * s) + 100)) dX7_keep_161 (nI_add _ _) ?_
                refine mg_iload_n C dX7_keep_162 rfl ?_
                refine mg_iadd C (z := nI (((1200 * s) + 100) + (gmU f mz))) dX7_keep_163 (nI_add _ _) ?_
                refine mg_iload_n C dX7_keep_164 rfl ?_
                refine mg_iastN C h_aro (by omega) (by omega) dX7_keep_165 (fun w15 e_w15 => ?_)
                have h_w15_om : w15 om = some (.inr (6, [.int th, .int (nI md), .ref aso, .ref asi, .ref ase, .ref ato, .ref amo, .ref alo, .ref aro, .ref asr])) := (congrFun e_w15 _).trans ((mwu_ne (mw_oa hom h_aro)).trans hom)
                have h_w15_aro : w15 aro = some (eI cI 9600 (upd ro (((1200 * s) + 100) + (gmU f mz)) v)) := (congrFun e_w15 _).trans mwu_eq
                have h_w15_asi : w15 asi = some (eI cI 8 (lnF si)) := (congrFun e_w15 _).trans ((mwu_ne (Ne.symm (tne t_aro t_asi (by decide)))).trans h_asi)
                have fr_w15 : ∀ zz : Nat, zz ≠ aro → w15 zz = w zz := fun zz g0 => (congrFun e_w15 zz).trans ((mwu_ne g0).trans (fr_w zz ))
                have em : mz = h - 1 := by omega
                have ek : kpU k v (f, h) = (upd f (gmU f mz) v, h) := by
                  rw [em]
                  exact ((if_neg (show ¬ fdU f v h < h by omega)).trans (if_neg (show ¬ h < k by omega))).trans (if_pos (show v < f (gmU f (h - 1)) by rw [← em]; exact Int32.not_le.mp c_147))
                exact hR _ _ _ dX7_keep_166 ⟨_, h_w15_aro, by rw [ek]; exact hl.set, (outS.rf ro s).up (by omega) (by omega), fun z q0 => fr_w15 z q0⟩
            · refine mg_aload_n C dX7_keep_91 rfl ?_
              refine mg_get C inT7 hom rfl 8 (by decide) kw_26 (Or.inl rfl) rfl dX7_keep_92 ?_
              refine mg_sipush C (v := nI 1200) dX7_keep_95 (by decide) ?_
              refine mg_iload_n C dX7_keep_98 rfl ?_
              refine mg_imul C (z := nI (1200 * s)) dX7_keep_99 (pk_mul _ _) ?_
              refine mg_bipush C (v := nI 100) dX7_keep_100 (by decide) ?_
              refine mg_iadd C (z := nI ((1200 * s) + 100)) dX7_keep_102 (nI_add _ _) ?_
              refine mg_aload_n C dX7_keep_103 rfl ?_
              refine mg_iload_n C dX7_keep_104 rfl ?_
              refine mg_callV_i C hom rfl (rest := [.int (nI ((1200 * s) + 100)), .ref aro]) (c_X7_many D cI cS w om md aso asi ase ato amo alo aro asr th ro s h hom h_aro hs8 hl.1) yq_X7_many kw_340 kw_341 kw_342 ⟨by decide, by decide⟩ ⟨Nat.le_of_ble_eq_true rfl, Nat.le_of_ble_eq_true rfl⟩ (Nat.le_of_ble_eq_true rfl) rfl rfl dX7_keep_105 (fun r16 w17 ⟨e_r16, e_w17⟩ => ?_)
              rw [e_w17, e_r16]
              refine mg_iadd C (z := nI (((1200 * s) + 100) + h)) dX7_keep_108 (nI_add _ _) ?_
              refine mg_iload_n C dX7_keep_109 rfl ?_
              refine mg_iastN C h_aro (by omega) (by omega) dX7_keep_110 (fun w18 e_w18 => ?_)
              have h_w18_om : w18 om = some (.inr (6, [.int th, .int (nI md), .ref aso, .ref asi, .ref ase, .ref ato, .ref amo, .ref alo, .ref aro, .ref asr])) := (congrFun e_w18 _).trans ((mwu_ne (mw_oa hom h_aro)).trans hom)
              have h_w18_aro : w18 aro = some (eI cI 9600 (upd ro (((1200 * s) + 100) + h) v)) := (congrFun e_w18 _).trans mwu_eq
              have h_w18_asi : w18 asi = some (eI cI 8 (lnF si)) := (congrFun e_w18 _).trans ((mwu_ne (Ne.symm (tne t_aro t_asi (by decide)))).trans h_asi)
              have fr_w18 : ∀ zz : Nat, zz ≠ aro → w18 zz = w zz := fun zz g0 => (congrFun e_w18 zz).trans ((mwu_ne g0).trans (fr_w zz ))
              refine mg_aload_n C dX7_keep_111 rfl ?_
              refine mg_get C inT7 h_w18_om rfl 8 (by decide) kw_26 (Or.inl rfl) rfl dX7_keep_112 ?_
              refine mg_sipush C (v := nI 1200) dX7_keep_115 (by decide) ?_
              refine mg_iload_n C dX7_keep_118 rfl ?_
              refine mg_imul C (z := nI (1200 * s)) dX7_keep_119 (pk_mul _ _) ?_
              refine mg_aload_n C dX7_keep_120 rfl ?_
              refine mg_iload_n C dX7_keep_121 rfl ?_
              refine mg_callV_i C h_w18_om rfl (rest := [.int (nI (1200 * s)), .ref aro]) (c_X7_many D cI cS w18 om md aso asi ase ato amo alo aro asr th (upd ro (1200 * s + 100 + h) v) s h h_w18_om h_w18_aro hs8 (by unfold upd; rw [if_neg (by omega)]; exact hl.1)) yq_X7_many kw_340 kw_341 kw_342 ⟨by decide, by decide⟩ ⟨Nat.le_of_ble_eq_true rfl, Nat.le_of_ble_eq_true rfl⟩ (Nat.le_of_ble_eq_true rfl) rfl rfl dX7_keep_122 (fun r19 w20 ⟨e_r19, e_w20⟩ => ?_)
              rw [e_w20, e_r19]
              refine mg_iconst C (v := nI 1) dX7_keep_125 (by decide) ?_
              refine mg_iadd C (z := nI (h + 1)) dX7_keep_126 (nI_add _ _) ?_
              refine mg_iastN C h_w18_aro (by omega) (by omega) dX7_keep_127 (fun w21 e_w21 => ?_)
              have h_w21_om : w21 om = some (.inr (6, [.int th, .int (nI md), .ref aso, .ref asi, .ref ase, .ref ato, .ref amo, .ref alo, .ref aro, .ref asr])) := (congrFun e_w21 _).trans ((mwu_ne (mw_oa h_w18_om h_w18_aro)).trans h_w18_om)
              have h_w21_aro : w21 aro = some (eI cI 9600 (upd (upd ro (((1200 * s) + 100) + h) v) (1200 * s) (nI (h + 1)))) := (congrFun e_w21 _).trans mwu_eq
              have h_w21_asi : w21 asi = some (eI cI 8 (lnF si)) := (congrFun e_w21 _).trans ((mwu_ne (Ne.symm (tne t_aro t_asi (by decide)))).trans h_w18_asi)
              have fr_w21 : ∀ zz : Nat, zz ≠ aro → w21 zz = w zz := fun zz g0 => (congrFun e_w21 zz).trans ((mwu_ne g0).trans (fr_w18 zz g0))
              refine mg_goto C (tgt := 166) dX7_keep_128 (by decide) ?_
              have ek : kpU k v (f, h) = (upd f h v, h + 1) := (if_neg (show ¬ fdU f v h < h by omega)).trans (if_pos (show h < k by omega))
              exact hR _ _ _ dX7_keep_166 ⟨_, h_w21_aro, by rw [ek]; exact hl.new, ((outS.rf ro s).up (by omega) (by omega)).up (by omega) (by omega), fun z q0 => fr_w21 z q0⟩
          · refine mg_aload_n C dX7_keep_15 rfl ?_
            refine mg_get C inT7 hom rfl 8 (by decide) kw_26 (Or.inl rfl) rfl dX7_keep_16 ?_
            refine mg_sipush C (v := nI 1200) dX7_keep_19 (by decide) ?_
            refine mg_iload_n C dX7_keep_22 rfl ?_
            refine mg_imul C (z := nI (1200 * s)) dX7_keep_23 (pk_mul _ _) ?_
            refine mg_bipush C (v := nI 100) dX7_keep_24 (by decide) ?_
            refine mg_iadd C (z := nI ((1200 * s) + 100)) dX7_keep_26 (nI_add _ _) ?_
            refine mg_iload C dX7_keep_27 rfl ?_
            refine mg_iadd C (z := nI (((1200 * s) + 100) + (mz + 1))) dX7_keep_29 (nI_add _ _) ?_
            refine mg_ialdN C h_aro (by omega) (by omega) dX7_keep_30 ?_
            rw [hl.2 (mz + 1) (by omega)]
            refine mg_istore C (lv' := [(5, .int (f (mz + 1))), (0, .ref om), (1, .int (nI s)), (2, .int v), (3, .int (nI (gmU f mz))), (4, .int (nI (mz + 1)))]) dX7_keep_31 (by decide) rfl ?_
            refine mg_iload C dX7_keep_33 rfl ?_
            refine mg_iload_n C dX7_keep_35 rfl ?_
            refine mg_icmp_ne C (tgt := 40) dX7_keep_36 (by decide) (fun c_36 => ?_) (fun c_36 => ?_)
            · have hgm := gmU_le f mz
              refine mg_iload_n C dX7_keep_40 rfl ?_
              refine mg_ifN_lt C (tgt := 64) dX7_keep_41 (by decide) (by omega) ?_
              refine mg_iload C dX7_keep_44 rfl ?_
              refine mg_aload_n C dX7_keep_46 rfl ?_
              refine mg_get C inT7 hom rfl 8 (by decide) kw_26 (Or.inl rfl) rfl dX7_keep_47 ?_
              refine mg_sipush C (v := nI 1200) dX7_keep_50 (by decide) ?_
              refine mg_iload_n C dX7_keep_53 rfl ?_
              refine mg_imul C (z := nI (1200 * s)) dX7_keep_54 (pk_mul _ _) ?_
              refine mg_bipush C (v := nI 100) dX7_keep_55 (by decide) ?_
              refine mg_iadd C (z := nI ((1200 * s) + 100)) dX7_keep_57 (nI_add _ _) ?_
              refine mg_iload_n C dX7_keep_58 rfl ?_
              refine mg_iadd C (z := nI (((1200 * s) + 100) + (gmU f mz))) dX7_keep_59 (nI_add _ _) ?_
              refine mg_ialdN C h_aro (by have := gmU_le f mz; omega) (by omega) dX7_keep_60 ?_
              rw [hl.2 (gmU f mz) (by omega)]
              refine mg_icmp_le C (tgt := 69) dX7_keep_61 (by decide) (fun c_61 => ?_) (fun c_61 => ?_)
              · refine mg_iload_n C dX7_keep_69 rfl ?_
                refine mg_istore_n C (lv' := [(3, .int (nI (gmU f mz))), (5, .int (f (mz + 1))), (0, .ref om), (1, .int (nI s)), (2, .int v), (4, .int (nI (mz + 1)))]) dX7_keep_70 rfl (by decide) rfl ?_
                have eg : gmU f (mz + 1) = gmU f mz := if_pos c_61
                refine mg_lv (lv' := [(3, .int (nI (gmU f (mz + 1)))), (5, .int (f (mz + 1))), (0, .ref om), (1, .int (nI s)), (2, .int v), (4, .int (nI (mz + 1)))]) (by rw [eg]) ?_
                refine mg_iinc C (v := nI (mz + 1 + 1)) (lv' := [(4, .int (nI (mz + 1 + 1))), (3, .int (nI (gmU f (mz + 1)))), (5, .int (f (mz + 1))), (0, .ref om), (1, .int (nI s)), (2, .int v)]) dX7_keep_71 rfl (ni_inc _) (by decide) rfl ?_
                refine mg_goto C (tgt := 5) dX7_keep_74 (by decide) ?_
                refine mg_sub (lv' := [(0, .ref om), (1, .int (nI s)), (2, .int v), (3, .int (nI (gmU f (mz + 1)))), (4, .int (nI (mz + 1 + 1)))]) [3, 4, 5, 1, 0] rfl ?_
                exact ih5 ((mz + 1)) (by omega) (by omega) (lt_s hnz c_36)
              · refine mg_iload C dX7_keep_64 rfl ?_
                refine mg_goto C (tgt := 70) dX7_keep_66 (by decide) ?_
                refine mg_istore_n C (lv' := [(3, .int (nI (mz + 1))), (5, .int (f (mz + 1))), (0, .ref om), (1, .int (nI s)), (2, .int v), (4, .int (nI (mz + 1)))]) dX7_keep_70 rfl (by decide) rfl ?_
                have eg : gmU f (mz + 1) = mz + 1 := if_neg c_61
                refine mg_lv (lv' := [(3, .int (nI (gmU f (mz + 1)))), (5, .int (f (mz + 1))), (0, .ref om), (1, .int (nI s)), (2, .int v), (4, .int (nI (mz + 1)))]) (by rw [eg]) ?_
                refine mg_iinc C (v := nI (mz + 1 + 1)) (lv' := [(4, .int (nI (mz + 1 + 1))), (3, .int (nI (gmU f (mz + 1)))), (5, .int (f (mz + 1))), (0, .ref om), (1, .int (nI s)), (2, .int v)]) dX7_keep_71 rfl (ni_inc _) (by decide) rfl ?_
                refine mg_goto C (tgt := 5) dX7_keep_74 (by decide) ?_
                refine mg_sub (lv' := [(0, .ref om), (1, .int (nI s)), (2, .int v), (3, .int (nI (gmU f (mz + 1)))), (4, .int (nI (mz + 1 + 1)))]) [3, 4, 5, 1, 0] rfl ?_
                exact ih5 ((mz + 1)) (by omega) (by omega) (lt_s hnz c_36)
            · have ef : mz + 1 = fdU f v h := fdU_uniq (by omega) hnz (fun _ => c_36)
              have ek : kpU k v (f, h) = (f, h) := if_pos (show fdU f v h < h by omega)
              exact hR _ _ _ dX7_keep_39 ⟨ro, h_aro, by rw [ek]; exact hl, outS.rf ro s, fun z q0 => fr_w z ⟩
      refine mg_sub (lv' := [(0, .ref om), (1, .int (nI s)), (2, .int v), (3, .int (nI 0)), (4, .int (nI (0 + 1)))]) [3, 4, 5, 1, 0] rfl ?_
      exact L5 (_ + 1) 0 (Nat.lt_succ_self _) (by omega) (lt_s (fun j q => absurd q (Nat.not_lt_zero _)) c_36)
    · have ef : 0 = fdU f v h := fdU_uniq (by omega) (fun j q => absurd q (Nat.not_lt_zero _)) (fun _ => c_36)
      have ek : kpU k v (f, h) = (f, h) := if_pos (show fdU f v h < h by omega)
      exact hR _ _ _ dX7_keep_39 ⟨ro, h_aro, by rw [ek]; exact hl, outS.rf ro s, fun z q0 => fr_w z ⟩

set_option maxHeartbeats 4000000 in
set_option maxRecDepth 20000 in
theorem c_X7_cell_T (D : va_G) (cI cS : ClassId) (w : mwT) (om md aso asi ase ato amo alo aro asr : Nat) (th : Int32) (so : Nat → Nat) (si : Nat → Nat) (se : Nat → Nat) (s j x c sd : Nat) (hom : w om = some (.inr (6, [.int th, .int (nI md), .ref aso, .ref asi, .ref ase, .ref ato, .ref amo, .ref alo, .ref aro, .ref asr]))) (h_aso : w aso = some (eI cI 8 (lnF so))) (h_asi : w asi = some (eI cI 8 (lnF si))) (h_ase : w ase = some (eI cI 8 (lnF se))) (hs8 : s < 8) (hsd : sd ≤ 999) (hj : j < 4) (hx : x ≤ 9999) (hse : se s = sd) (hsi : si s = c) (hso : so s = 1) (hc1 : 4 ≤ c) (hc2 : c ≤ 64) : mMi yX7_cell cX7_cell 5 (some .int) (rmL 2) [.ref om, .int (nI s), .int (nI j), .int (nI x)] D cI cS w (fun r w1 => r = nI (1200 * s + 100 + (j * c + hsN sd j x % c)) ∧ w1 = w) := by
  refine mMi.of (by decide) (Nat.le_of_ble_eq_true rfl) ?_
  intro X C hN hR
  refine mg_sub (lv' := [(0, .ref om), (1, .int (nI s)), (2, .int (nI j)), (3, .int (nI x))]) [0, 1, 2, 3] rfl ?_
  refine mg_aload_n C dX7_cell_0 rfl ?_
  refine mg_get C inT7 hom rfl 4 (by decide) kw_22 (Or.inl rfl) rfl dX7_cell_1 ?_
  refine mg_iload_n C dX7_cell_4 rfl ?_
  refine mg_ialdN C h_ase (by omega) (by omega) dX7_cell_5 ?_
  rw [show lnF se s = nI sd from congrArg nI hse]
  refine mg_iload_n C dX7_cell_6 rfl ?_
  refine mg_iload_n C dX7_cell_7 rfl ?_
  refine mg_callS_i C (rest := []) (c_X7_hashOf D cI cS w sd j x hsd (by omega) hx) yq_X7_hashOf kw_360 kw_361 ⟨by decide, by decide⟩ ⟨Nat.le_of_ble_eq_true rfl, Nat.le_of_ble_eq_true rfl⟩ (Nat.le_of_ble_eq_true rfl) rfl rfl dX7_cell_8 (fun r1 w2 ⟨e_r1, e_w2⟩ => ?_)
  rw [e_w2, e_r1]
  have hhl := hsN_lt sd j x
  refine mg_aload_n C dX7_cell_11 rfl ?_
  refine mg_get C inT7 hom rfl 3 (by decide) kw_21 (Or.inl rfl) rfl dX7_cell_12 ?_
  refine mg_iload_n C dX7_cell_15 rfl ?_
  refine mg_ialdN C h_asi (by omega) (by omega) dX7_cell_16 ?_
  rw [show lnF si s = nI c from congrArg nI hsi]
  refine mg_irem C (z := nI ((hsN sd j x) % c)) dX7_cell_17 (nI_ne0 (by omega) (by omega)) (pk_rem (by omega) (by omega) (by omega)) ?_
  refine mg_istore C (lv' := [(4, .int (nI ((hsN sd j x) % c))), (0, .ref om), (1, .int (nI s)), (2, .int (nI j)), (3, .int (nI x))]) dX7_cell_18 (by decide) rfl ?_
  refine mg_sipush C (v := nI 1200) dX7_cell_20 (by decide) ?_
  refine mg_iload_n C dX7_cell_23 rfl ?_
  refine mg_imul C (z := nI (1200 * s)) dX7_cell_24 (pk_mul _ _) ?_
  refine mg_bipush C (v := nI 100) dX7_cell_25 (by decide) ?_
  refine mg_iadd C (z := nI ((1200 * s) + 100)) dX7_cell_27 (nI_add _ _) ?_
  refine mg_aload_n C dX7_cell_28 rfl ?_
  refine mg_get C inT7 hom rfl 2 (by decide) kw_20 (Or.inl rfl) rfl dX7_cell_29 ?_
  refine mg_iload_n C dX7_cell_32 rfl ?_
  refine mg_ialdN C h_aso (by omega) (by omega) dX7_cell_33 ?_
  rw [show lnF so s = nI 1 from congrArg nI hso]
  refine mg_iconst C (v := nI 1) dX7_cell_34 (by decide) ?_
  refine mg_icmpN_ne C (tgt := 52) dX7_cell_35 (by decide) (by omega) (by omega) (fun c_35 => absurd rfl c_35) (fun c_35 => ?_)
  refine mg_aload_n C dX7_cell_38 rfl ?_
  refine mg_get C inT7 hom rfl 3 (by decide) kw_21 (Or.inl rfl) rfl dX7_cell_39 ?_
  refine mg_iload_n C dX7_cell_42 rfl ?_
  refine mg_ialdN C h_asi (by omega) (by omega) dX7_cell_43 ?_
  rw [show lnF si s = nI c from congrArg nI hsi]
  refine mg_iload_n C dX7_cell_44 rfl ?_
  refine mg_imul C (z := nI (c * j)) dX7_cell_45 (pk_mul _ _) ?_
  refine mg_iload C dX7_cell_46 rfl ?_
  refine mg_iadd C (z := nI ((c * j) + ((hsN sd j x) % c))) dX7_cell_48 (nI_add _ _) ?_
  refine mg_goto C (tgt := 54) dX7_cell_49 (by decide) ?_
  refine mg_iadd C (z := nI (((1200 * s) + 100) + ((c * j) + ((hsN sd j x) % c)))) dX7_cell_54 (nI_add _ _) ?_
  exact hR _ _ _ _ dX7_cell_55 ⟨congrArg nI (by rw [Nat.mul_comm c j]), rfl⟩

set_option maxHeartbeats 4000000 in
set_option maxRecDepth 20000 in
theorem c_X7_cell_F (D : va_G) (cI cS : ClassId) (w : mwT) (om md aso asi ase ato amo alo aro asr : Nat) (th : Int32) (so : Nat → Nat) (si : Nat → Nat) (se : Nat → Nat) (s j x c sd : Nat) (hom : w om = some (.inr (6, [.int th, .int (nI md), .ref aso, .ref asi, .ref ase, .ref ato, .ref amo, .ref alo, .ref aro, .ref asr]))) (h_aso : w aso = some (eI cI 8 (lnF so))) (h_asi : w asi = some (eI cI 8 (lnF si))) (h_ase : w ase = some (eI cI 8 (lnF se))) (hs8 : s < 8) (hsd : sd ≤ 999) (hj : j < 4) (hx : x ≤ 9999) (hse : se s = sd) (hsi : si s = c) (hso : so s = 2) (hc1 : 16 ≤ c) (hc2 : c ≤ 512) : mMi yX7_cell cX7_cell 5 (some .int) (rmL 2) [.ref om, .int (nI s), .int (nI j), .int (nI x)] D cI cS w (fun r w1 => r = nI (1200 * s + 100 + hsN sd j x % c) ∧ w1 = w) := by
  refine mMi.of (by decide) (Nat.le_of_ble_eq_true rfl) ?_
  intro X C hN hR
  refine mg_sub (lv' := [(0, .ref om), (1, .int (nI s)), (2, .int (nI j)), (3, .int (nI x))]) [0, 1, 2, 3] rfl ?_
  refine mg_aload_n C dX7_cell_0 rfl ?_
  refine mg_get C inT7 hom rfl 4 (by decide) kw_22 (Or.inl rfl) rfl dX7_cell_1 ?_
  refine mg_iload_n C dX7_cell_4 rfl ?_
  refine mg_ialdN C h_ase (by omega) (by omega) dX7_cell_5 ?_
  rw [show lnF se s = nI sd from congrArg nI hse]
  refine mg_iload_n C dX7_cell_6 rfl ?_
  refine mg_iload_n C dX7_cell_7 rfl ?_
  refine mg_callS_i C (rest := []) (c_X7_hashOf D cI cS w sd j x hsd (by omega) hx) yq_X7_hashOf kw_360 kw_361 ⟨by decide, by decide⟩ ⟨Nat.le_of_ble_eq_true rfl, Nat.le_of_ble_eq_true rfl⟩ (Nat.le_of_ble_eq_true rfl) rfl rfl dX7_cell_8 (fun r1 w2 ⟨e_r1, e_w2⟩ => ?_)
  rw [e_w2, e_r1]
  have hhl := hsN_lt sd j x
  refine mg_aload_n C dX7_cell_11 rfl ?_
  refine mg_get C inT7 hom rfl 3 (by decide) kw_21 (Or.inl rfl) rfl dX7_cell_12 ?_
  refine mg_iload_n C dX7_cell_15 rfl ?_
  refine mg_ialdN C h_asi (by omega) (by omega) dX7_cell_16 ?_
  rw [show lnF si s = nI c from congrArg nI hsi]
  refine mg_irem C (z := nI ((hsN sd j x) % c)) dX7_cell_17 (nI_ne0 (by omega) (by omega)) (pk_rem (by omega) (by omega) (by omega)) ?_
  refine mg_istore C (lv' := [(4, .int (nI ((hsN sd j x) % c))), (0, .ref om), (1, .int (nI s)), (2, .int (nI j)), (3, .int (nI x))]) dX7_cell_18 (by decide) rfl ?_
  refine mg_sipush C (v := nI 1200) dX7_cell_20 (by decide) ?_
  refine mg_iload_n C dX7_cell_23 rfl ?_
  refine mg_imul C (z := nI (1200 * s)) dX7_cell_24 (pk_mul _ _) ?_
  refine mg_bipush C (v := nI 100) dX7_cell_25 (by decide) ?_
  refine mg_iadd C (z := nI ((1200 * s) + 100)) dX7_cell_27 (nI_add _ _) ?_
  refine mg_aload_n C dX7_cell_28 rfl ?_
  refine mg_get C inT7 hom rfl 2 (by decide) kw_20 (Or.inl rfl) rfl dX7_cell_29 ?_
  refine mg_iload_n C dX7_cell_32 rfl ?_
  refine mg_ialdN C h_aso (by omega) (by omega) dX7_cell_33 ?_
  rw [show lnF so s = nI 2 from congrArg nI hso]
  refine mg_iconst C (v := nI 1) dX7_cell_34 (by decide) ?_
  refine mg_icmpN_ne C (tgt := 52) dX7_cell_35 (by decide) (by omega) (by omega) (fun c_35 => ?_) (fun c_35 => absurd c_35 (by decide))
  refine mg_iload C dX7_cell_52 rfl ?_
  refine mg_iadd C (z := nI (((1200 * s) + 100) + ((hsN sd j x) % c))) dX7_cell_54 (nI_add _ _) ?_
  exact hR _ _ _ _ dX7_cell_55 ⟨rfl, rfl⟩
