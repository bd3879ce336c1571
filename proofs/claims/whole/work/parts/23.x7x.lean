def P_put (d : Nat) : Prop := ∀ (D : va_G) (cI cS : ClassId) (w : mwT) (om md aso asi ase ato amo alo aro asr : Nat) (th : Int32) (si : Nat → Nat) (lo : Nat → Int32) (ro : Nat → Int32) (sr : Nat → Int32) (tg : Nat → Nat) (s k e B b : Nat) (f : Nat → Int32) (ln tr : Nat → Nat) (er x : Int32), w om = some (.inr (6, [.int th, .int (nI md), .ref aso, .ref asi, .ref ase, .ref ato, .ref amo, .ref alo, .ref aro, .ref asr])) → w asi = some (eI cI 8 (lnF si)) → w alo = some (eI cI 8 lo) → w aro = some (eI cI 9600 ro) → w asr = some (eI cI 1024 sr) → (s < 8) → (k = 2 * e) → (2 ≤ e) → (k ≤ 32) → (B < 2 ^ 31) → (rkOk k (f, ln, tr, er)) → (∀ c, c < 31 → ln c < k) → (wtS ln 31 + 2 ^ b ≤ B) → (RkM ro s k (f, ln, tr, er)) → (lo s = er) → (si s = k) → tg asi = 2 → tg alo = 6 → tg aro = 7 → tg asr = 8 → b + d = 31 → mMv yX7_put cX7_put 9 none (rmL (2 * d + 2)) [.ref om, .int (nI s), .int (nI b), .int x] D cI cS w (fun w1 => ∃ ro1 sr1 : Nat → Int32, w1 aro = some (eI cI 9600 ro1) ∧ w1 asr = some (eI cI 1024 sr1) ∧ w1 alo = some (eI cI 8 (upd lo s (psh k d b x (f, ln, tr, er)).2.2.2)) ∧ RkM ro1 s k (psh k d b x (f, ln, tr, er)) ∧ outS ro ro1 s ∧ (∀ z, z < 32 * b → sr1 z = sr z) ∧ ∀ z : Nat, z ≠ aro → z ≠ asr → z ≠ alo → w1 z = w z)

theorem c_X7_put_0 : P_put 0 := by
  intro D cI cS w om md aso asi ase ato amo alo aro asr th si lo ro sr tg s k e B b f ln tr er x _ _ _ _ _ _ _ _ _ hB _ _ hwt _ _ _ _ _ _ _ _ hb
  have hb2 : b = 31 := by omega
  rw [← hb2] at hB
  exact absurd (Nat.lt_of_le_of_lt hwt hB) (Nat.not_lt.mpr (Nat.le_add_left _ _))

set_option maxHeartbeats 4000000 in
set_option maxRecDepth 20000 in
theorem c_X7_put_s (d : Nat) (hput : P_put d) (D : va_G) (cI cS : ClassId) (w : mwT) (om md aso asi ase ato amo alo aro asr : Nat) (th : Int32) (si : Nat → Nat) (lo : Nat → Int32) (ro : Nat → Int32) (sr : Nat → Int32) (tg : Nat → Nat) (s k e B b : Nat) (f : Nat → Int32) (ln tr : Nat → Nat) (er x : Int32) (hom : w om = some (.inr (6, [.int th, .int (nI md), .ref aso, .ref asi, .ref ase, .ref ato, .ref amo, .ref alo, .ref aro, .ref asr]))) (h_asi : w asi = some (eI cI 8 (lnF si))) (h_alo : w alo = some (eI cI 8 lo)) (h_aro : w aro = some (eI cI 9600 ro)) (h_asr : w asr = some (eI cI 1024 sr)) (hs8 : s < 8) (hke : k = 2 * e) (he : 2 ≤ e) (hk2 : k ≤ 32) (hB : B < 2 ^ 31) (hok : rkOk k (f, ln, tr, er)) (hln : ∀ c, c < 31 → ln c < k) (hwt : wtS ln 31 + 2 ^ b ≤ B) (hr : RkM ro s k (f, ln, tr, er)) (her : lo s = er) (hsk : si s = k) (t_asi : tg asi = 2) (t_alo : tg alo = 6) (t_aro : tg aro = 7) (t_asr : tg asr = 8) (hbd : b + (d + 1) = 31) : mMv yX7_put cX7_put 9 none (rmL (2 * (d + 1) + 2)) [.ref om, .int (nI s), .int (nI b), .int x] D cI cS w (fun w1 => ∃ ro1 sr1 : Nat → Int32, w1 aro = some (eI cI 9600 ro1) ∧ w1 asr = some (eI cI 1024 sr1) ∧ w1 alo = some (eI cI 8 (upd lo s (psh k (d + 1) b x (f, ln, tr, er)).2.2.2)) ∧ RkM ro1 s k (psh k (d + 1) b x (f, ln, tr, er)) ∧ outS ro ro1 s ∧ (∀ z, z < 32 * b → sr1 z = sr z) ∧ ∀ z : Nat, z ≠ aro → z ≠ asr → z ≠ alo → w1 z = w z) := by
  refine mMv.of (by decide) (Nat.le_of_ble_eq_true rfl) ?_
  intro X C hN hR
  have fr_w : ∀ zz : Nat, w zz = w zz := fun _ => rfl
  refine mg_sub (lv' := [(0, .ref om), (1, .int (nI s)), (2, .int (nI b)), (3, .int x)]) [0, 1, 2, 3] rfl ?_
  have hb : b < 31 := by omega
  have hlb := hln b hb
  refine mg_sipush C (v := nI 1200) dX7_put_0 (by decide) ?_
  refine mg_iload_n C dX7_put_3 rfl ?_
  refine mg_imul C (z := nI (1200 * s)) dX7_put_4 (pk_mul _ _) ?_
  refine mg_istore C (lv' := [(4, .int (nI (1200 * s))), (0, .ref om), (1, .int (nI s)), (2, .int (nI b)), (3, .int x)]) dX7_put_5 (by decide) rfl ?_
  refine mg_aload_n C dX7_put_7 rfl ?_
  refine mg_get C inT7 hom rfl 8 (by decide) kw_26 (Or.inl rfl) rfl dX7_put_8 ?_
  refine mg_iload C dX7_put_11 rfl ?_
  refine mg_iload_n C dX7_put_13 rfl ?_
  refine mg_iadd C (z := nI ((1200 * s) + b)) dX7_put_14 (nI_add _ _) ?_
  refine mg_ialdN C h_aro (by omega) (by omega) dX7_put_15 ?_
  rw [hr.1 b hb]
  refine mg_istore C (lv' := [(5, .int (nI (ln b))), (4, .int (nI (1200 * s))), (0, .ref om), (1, .int (nI s)), (2, .int (nI b)), (3, .int x)]) dX7_put_16 (by decide) rfl ?_
  refine mg_aload_n C dX7_put_18 rfl ?_
  refine mg_get C inT7 hom rfl 8 (by decide) kw_26 (Or.inl rfl) rfl dX7_put_19 ?_
  refine mg_aload_n C dX7_put_22 rfl ?_
  refine mg_iload_n C dX7_put_23 rfl ?_
  refine mg_iload_n C dX7_put_24 rfl ?_
  refine mg_iload C dX7_put_25 rfl ?_
  refine mg_callV_i C hom rfl (rest := [.ref aro]) (c_X7_keyAt D cI cS w om md aso asi ase ato amo alo aro asr th s b (ln b) hom) yq_X7_keyAt kw_371 kw_372 kw_373 ⟨by (dsimp only; omega), by (dsimp only; omega)⟩ ⟨Nat.le_of_ble_eq_true rfl, Nat.le_of_ble_eq_true rfl⟩ (Nat.le_of_ble_eq_true rfl) rfl rfl dX7_put_27 (fun r1 w2 ⟨e_r1, e_w2⟩ => ?_)
  rw [e_w2, e_r1]
  refine mg_iload_n C dX7_put_30 rfl ?_
  refine mg_iastN C h_aro (by omega) (by omega) dX7_put_31 (fun w3 e_w3 => ?_)
  have h_w3_om : w3 om = some (.inr (6, [.int th, .int (nI md), .ref aso, .ref asi, .ref ase, .ref ato, .ref amo, .ref alo, .ref aro, .ref asr])) := (congrFun e_w3 _).trans ((mwu_ne (mw_oa hom h_aro)).trans hom)
  have h_w3_asi : w3 asi = some (eI cI 8 (lnF si)) := (congrFun e_w3 _).trans ((mwu_ne (tne t_asi t_aro (by decide))).trans h_asi)
  have h_w3_alo : w3 alo = some (eI cI 8 lo) := (congrFun e_w3 _).trans ((mwu_ne (tne t_alo t_aro (by decide))).trans h_alo)
  have h_w3_aro : w3 aro = some (eI cI 9600 (upd ro (1200 * s + 100 + 32 * b + (ln b)) x)) := (congrFun e_w3 _).trans mwu_eq
  have h_w3_asr : w3 asr = some (eI cI 1024 sr) := (congrFun e_w3 _).trans ((mwu_ne (Ne.symm (tne t_aro t_asr (by decide)))).trans h_asr)
  have fr_w3 : ∀ zz : Nat, zz ≠ aro → w3 zz = w zz := fun zz g0 => (congrFun e_w3 zz).trans ((mwu_ne g0).trans (fr_w zz ))
  refine mg_aload_n C dX7_put_32 rfl ?_
  refine mg_get C inT7 h_w3_om rfl 8 (by decide) kw_26 (Or.inl rfl) rfl dX7_put_33 ?_
  refine mg_iload C dX7_put_36 rfl ?_
  refine mg_iload_n C dX7_put_38 rfl ?_
  refine mg_iadd C (z := nI ((1200 * s) + b)) dX7_put_39 (nI_add _ _) ?_
  refine mg_iload C dX7_put_40 rfl ?_
  refine mg_iconst C (v := nI 1) dX7_put_42 (by decide) ?_
  refine mg_iadd C (z := nI (ln b + 1)) dX7_put_43 (nI_add _ _) ?_
  refine mg_iastN C h_w3_aro (by omega) (by omega) dX7_put_44 (fun w4 e_w4 => ?_)
  have h_w4_om : w4 om = some (.inr (6, [.int th, .int (nI md), .ref aso, .ref asi, .ref ase, .ref ato, .ref amo, .ref alo, .ref aro, .ref asr])) := (congrFun e_w4 _).trans ((mwu_ne (mw_oa h_w3_om h_w3_aro)).trans h_w3_om)
  have h_w4_asi : w4 asi = some (eI cI 8 (lnF si)) := (congrFun e_w4 _).trans ((mwu_ne (tne t_asi t_aro (by decide))).trans h_w3_asi)
  have h_w4_alo : w4 alo = some (eI cI 8 lo) := (congrFun e_w4 _).trans ((mwu_ne (tne t_alo t_aro (by decide))).trans h_w3_alo)
  have h_w4_aro : w4 aro = some (eI cI 9600 (upd (upd ro (1200 * s + 100 + 32 * b + (ln b)) x) ((1200 * s) + b) (nI (ln b + 1)))) := (congrFun e_w4 _).trans mwu_eq
  have h_w4_asr : w4 asr = some (eI cI 1024 sr) := (congrFun e_w4 _).trans ((mwu_ne (Ne.symm (tne t_aro t_asr (by decide)))).trans h_w3_asr)
  have fr_w4 : ∀ zz : Nat, zz ≠ aro → w4 zz = w zz := fun zz g0 => (congrFun e_w4 zz).trans ((mwu_ne g0).trans (fr_w3 zz g0))
  have hr1 := hr.push (x := x) hb hk2 hln
  have ho1 : outS ro (upd (upd ro (1200 * s + 100 + 32 * b + ln b) x) (1200 * s + b) (nI (ln b + 1))) s := ((outS.rf ro s).up (by omega) (by omega)).up (by omega) (by omega)
  generalize hro1 : upd (upd ro (1200 * s + 100 + 32 * b + ln b) x) (1200 * s + b) (nI (ln b + 1)) = ro1 at hr1 ho1 h_w4_aro
  generalize hf1 : upd f (b * k + ln b) x = f1 at hr1
  refine mg_iload C dX7_put_45 rfl ?_
  refine mg_iconst C (v := nI 1) dX7_put_47 (by decide) ?_
  refine mg_iadd C (z := nI (ln b + 1)) dX7_put_48 (nI_add _ _) ?_
  refine mg_aload_n C dX7_put_49 rfl ?_
  refine mg_get C inT7 h_w4_om rfl 3 (by decide) kw_21 (Or.inl rfl) rfl dX7_put_50 ?_
  refine mg_iload_n C dX7_put_53 rfl ?_
  refine mg_ialdN C h_w4_asi (by omega) (by omega) dX7_put_54 ?_
  rw [show lnF si s = nI k from congrArg nI hsk]
  refine mg_icmpN_ge C (tgt := 59) dX7_put_55 (by decide) (by omega) (by omega) (fun c_55 => ?_) (fun c_55 => ?_)
  · have hlk : ln b + 1 = k := by omega
    have hl1 : updN ln b (ln b + 1) b = k := by rw [updN_eq]; exact hlk
    refine mg_iconst C (v := nI 0) dX7_put_59 (by decide) ?_
    refine mg_istore C (lv' := [(6, .int (nI 0)), (5, .int (nI (ln b))), (4, .int (nI (1200 * s))), (0, .ref om), (1, .int (nI s)), (2, .int (nI b)), (3, .int x)]) dX7_put_60 (by decide) rfl ?_
    refine mg_iload C dX7_put_62 rfl ?_
    refine mg_iload C dX7_put_64 rfl ?_
    refine mg_icmpN_gt C (tgt := 164) dX7_put_66 (by decide) (by omega) (by omega) (fun c_66 => absurd c_66 (by omega)) (fun c_66 => ?_)
    refine mg_aload_n C dX7_put_69 rfl ?_
    refine mg_get C inT7 h_w4_om rfl 8 (by decide) kw_26 (Or.inl rfl) rfl dX7_put_70 ?_
    refine mg_aload_n C dX7_put_73 rfl ?_
    refine mg_iload_n C dX7_put_74 rfl ?_
    refine mg_iload_n C dX7_put_75 rfl ?_
    refine mg_iload C dX7_put_76 rfl ?_
    refine mg_callV_i C h_w4_om rfl (rest := [.ref aro]) (c_X7_keyAt D cI cS w4 om md aso asi ase ato amo alo aro asr th s b 0 h_w4_om) yq_X7_keyAt kw_371 kw_372 kw_373 ⟨by (dsimp only; omega), by (dsimp only; omega)⟩ ⟨Nat.le_of_ble_eq_true rfl, Nat.le_of_ble_eq_true rfl⟩ (Nat.le_of_ble_eq_true rfl) rfl rfl dX7_put_78 (fun r5 w6 ⟨e_r5, e_w6⟩ => ?_)
    rw [e_w6, e_r5]
    refine mg_ialdN C h_w4_aro (by omega) (by omega) dX7_put_81 ?_
    rw [hr1.2.2 b (0) hb (show 0 < updN ln b (ln b + 1) b by rw [updN_eq]; omega)]
    refine mg_istore C (lv' := [(7, .int (f1 (b * k + 0))), (6, .int (nI 0)), (5, .int (nI (ln b))), (4, .int (nI (1200 * s))), (0, .ref om), (1, .int (nI s)), (2, .int (nI b)), (3, .int x)]) dX7_put_82 (by decide) rfl ?_
    refine mg_iload C dX7_put_84 rfl ?_
    refine mg_istore C (lv' := [(8, .int (nI 0)), (7, .int (f1 (b * k + 0))), (6, .int (nI 0)), (5, .int (nI (ln b))), (4, .int (nI (1200 * s))), (0, .ref om), (1, .int (nI s)), (2, .int (nI b)), (3, .int x)]) dX7_put_86 (by decide) rfl ?_
    refine mg_iload C dX7_put_88 rfl ?_
    refine mg_ifN_le C (tgt := 144) dX7_put_90 (by decide) (by decide) (fun c_90 => ?_) (fun c_90 => absurd c_90 (by decide))
    refine mg_aload_n C dX7_put_144 rfl ?_
    refine mg_get C inT7 h_w4_om rfl 9 (by decide) kw_27 (Or.inl rfl) rfl dX7_put_145 ?_
    refine mg_bipush C (v := nI 32) dX7_put_148 (by decide) ?_
    refine mg_iload_n C dX7_put_150 rfl ?_
    refine mg_imul C (z := nI (32 * b)) dX7_put_151 (pk_mul _ _) ?_
    refine mg_iload C dX7_put_152 rfl ?_
    refine mg_iadd C (z := nI ((32 * b) + 0)) dX7_put_154 (nI_add _ _) ?_
    refine mg_iload C dX7_put_155 rfl ?_
    refine mg_iastN C h_w4_asr (by omega) (by omega) dX7_put_157 (fun w7 e_w7 => ?_)
    have h_w7_om : w7 om = some (.inr (6, [.int th, .int (nI md), .ref aso, .ref asi, .ref ase, .ref ato, .ref amo, .ref alo, .ref aro, .ref asr])) := (congrFun e_w7 _).trans ((mwu_ne (mw_oa h_w4_om h_w4_asr)).trans h_w4_om)
    have h_w7_asi : w7 asi = some (eI cI 8 (lnF si)) := (congrFun e_w7 _).trans ((mwu_ne (tne t_asi t_asr (by decide))).trans h_w4_asi)
    have h_w7_alo : w7 alo = some (eI cI 8 lo) := (congrFun e_w7 _).trans ((mwu_ne (tne t_alo t_asr (by decide))).trans h_w4_alo)
    have h_w7_aro : w7 aro = some (eI cI 9600 ro1) := (congrFun e_w7 _).trans ((mwu_ne (tne t_aro t_asr (by decide))).trans h_w4_aro)
    have h_w7_asr : w7 asr = some (eI cI 1024 (upd sr ((32 * b) + 0) (f1 (b * k + 0)))) := (congrFun e_w7 _).trans mwu_eq
    have fr_w7 : ∀ zz : Nat, zz ≠ aro → zz ≠ asr → w7 zz = w zz := fun zz g0 g1 => (congrFun e_w7 zz).trans ((mwu_ne g1).trans (fr_w4 zz g0))
    refine mg_iinc C (v := nI (0 + 1)) (lv' := [(6, .int (nI (0 + 1))), (8, .int (nI 0)), (7, .int (f1 (b * k + 0))), (5, .int (nI (ln b))), (4, .int (nI (1200 * s))), (0, .ref om), (1, .int (nI s)), (2, .int (nI b)), (3, .int x)]) dX7_put_158 rfl (ni_inc _) (by decide) rfl ?_
    refine mg_goto C (tgt := 62) dX7_put_161 (by decide) ?_
    have hs0 : ∀ i, i < 0 + 1 → (upd sr ((32 * b) + 0) (f1 (b * k + 0))) (32 * b + i) = srtO f1 (b * k) 0 (b * k + i) := by
      intro i q1
      have ei : i = 0 := by omega
      subst ei
      unfold upd
      rw [if_pos rfl]
      rfl
    have hl0 : ∀ z, z < 32 * b → (upd sr ((32 * b) + 0) (f1 (b * k + 0))) z = sr z := by
      intro z q1
      unfold upd
      rw [if_neg (by omega)]
    have L62 : ∀ (M62 : Nat) (mz : Nat) (srz : Nat → Int32), ln b + 1 - mz < M62 → (mz ≤ ln b) → (∀ i, i < mz + 1 → srz (32 * b + i) = srtO f1 (b * k) mz (b * k + i)) → (∀ z, z < 32 * b → srz z = sr z) → ∀ (w8 : mwT), w8 om = some (.inr (6, [.int th, .int (nI md), .ref aso, .ref asi, .ref ase, .ref ato, .ref amo, .ref alo, .ref aro, .ref asr])) → w8 asi = some (eI cI 8 (lnF si)) → w8 alo = some (eI cI 8 lo) → w8 aro = some (eI cI 9600 ro1) → w8 asr = some (eI cI 1024 srz) → (∀ zz : Nat, zz ≠ aro → zz ≠ asr → w8 zz = w zz) → mwG X 0 0 w8 [(0, .ref om), (1, .int (nI s)), (2, .int (nI b)), (3, .int x), (4, .int (nI (1200 * s))), (5, .int (nI (ln b))), (6, .int (nI (mz + 1)))] [] 62 := by
      intro M62
      induction M62 with
      | zero => intro mz srz hm62; exact absurd hm62 (Nat.not_lt_zero _)
      | succ M62 ih62 =>
        intro mz srz hm62 hmz hsz hlz0 w8 h_w8_om h_w8_asi h_w8_alo h_w8_aro h_w8_asr fr_w8
        refine mg_iload C dX7_put_62 rfl ?_
        refine mg_iload C dX7_put_64 rfl ?_
        refine mg_icmpN_gt C (tgt := 164) dX7_put_66 (by decide) (by omega) (by omega) (fun c_66 => ?_) (fun c_66 => ?_)
        · have emz : mz = k - 1 := by omega
          have hss0 : ∀ i, i < k → srz (32 * b + i) = srtO f1 (b * k) (k - 1) (b * k + i) := by
            intro i q1
            rw [← emz]
            exact hsz i (by omega)
          have htb : tr b ≤ 1 := hok.1 b
          refine mg_aload_n C dX7_put_164 rfl ?_
          refine mg_get C inT7 h_w8_om rfl 8 (by decide) kw_26 (Or.inl rfl) rfl dX7_put_165 ?_
          refine mg_iload C dX7_put_168 rfl ?_
          refine mg_iload_n C dX7_put_170 rfl ?_
          refine mg_iadd C (z := nI ((1200 * s) + b)) dX7_put_171 (nI_add _ _) ?_
          refine mg_iconst C (v := nI 0) dX7_put_172 (by decide) ?_
          refine mg_iastN C h_w8_aro (by omega) (by omega) dX7_put_173 (fun w9 e_w9 => ?_)
          have h_w9_om : w9 om = some (.inr (6, [.int th, .int (nI md), .ref aso, .ref asi, .ref ase, .ref ato, .ref amo, .ref alo, .ref aro, .ref asr])) := (congrFun e_w9 _).trans ((mwu_ne (mw_oa h_w8_om h_w8_aro)).trans h_w8_om)
          have h_w9_asi : w9 asi = some (eI cI 8 (lnF si)) := (congrFun e_w9 _).trans ((mwu_ne (tne t_asi t_aro (by decide))).trans h_w8_asi)
          have h_w9_alo : w9 alo = some (eI cI 8 lo) := (congrFun e_w9 _).trans ((mwu_ne (tne t_alo t_aro (by decide))).trans h_w8_alo)
          have h_w9_aro : w9 aro = some (eI cI 9600 (upd ro1 ((1200 * s) + b) (nI 0))) := (congrFun e_w9 _).trans mwu_eq
          have h_w9_asr : w9 asr = some (eI cI 1024 srz) := (congrFun e_w9 _).trans ((mwu_ne (Ne.symm (tne t_aro t_asr (by decide)))).trans h_w8_asr)
          have fr_w9 : ∀ zz : Nat, zz ≠ aro → zz ≠ asr → w9 zz = w zz := fun zz g0 g1 => (congrFun e_w9 zz).trans ((mwu_ne g0).trans (fr_w8 zz g0 g1))
          refine mg_aload_n C dX7_put_174 rfl ?_
          refine mg_get C inT7 h_w9_om rfl 8 (by decide) kw_26 (Or.inl rfl) rfl dX7_put_175 ?_
          refine mg_iload C dX7_put_178 rfl ?_
          refine mg_bipush C (v := nI 40) dX7_put_180 (by decide) ?_
          refine mg_iadd C (z := nI ((1200 * s) + 40)) dX7_put_182 (nI_add _ _) ?_
          refine mg_iload_n C dX7_put_183 rfl ?_
          refine mg_iadd C (z := nI (((1200 * s) + 40) + b)) dX7_put_184 (nI_add _ _) ?_
          refine mg_ialdN C h_w9_aro (by omega) (by omega) dX7_put_185 ?_
          rw [show upd ro1 (1200 * s + b) (nI 0) (1200 * s + 40 + b) = nI (tr b) from by unfold upd; rw [if_neg (by omega)]; exact hr1.2.1 b hb]
          refine mg_istore C (lv' := [(6, .int (nI (tr b))), (0, .ref om), (1, .int (nI s)), (2, .int (nI b)), (3, .int x), (4, .int (nI (1200 * s))), (5, .int (nI (ln b)))]) dX7_put_186 (by decide) rfl ?_
          refine mg_aload_n C dX7_put_188 rfl ?_
          refine mg_get C inT7 h_w9_om rfl 8 (by decide) kw_26 (Or.inl rfl) rfl dX7_put_189 ?_
          refine mg_iload C dX7_put_192 rfl ?_
          refine mg_bipush C (v := nI 40) dX7_put_194 (by decide) ?_
          refine mg_iadd C (z := nI ((1200 * s) + 40)) dX7_put_196 (nI_add _ _) ?_
          refine mg_iload_n C dX7_put_197 rfl ?_
          refine mg_iadd C (z := nI (((1200 * s) + 40) + b)) dX7_put_198 (nI_add _ _) ?_
          refine mg_iconst C (v := nI 1) dX7_put_199 (by decide) ?_
          refine mg_iload C dX7_put_200 rfl ?_
          refine mg_isub C (z := nI (1 - (tr b))) dX7_put_202 (ni_sub (by omega)) ?_
          refine mg_iastN C h_w9_aro (by omega) (by omega) dX7_put_203 (fun w10 e_w10 => ?_)
          have h_w10_om : w10 om = some (.inr (6, [.int th, .int (nI md), .ref aso, .ref asi, .ref ase, .ref ato, .ref amo, .ref alo, .ref aro, .ref asr])) := (congrFun e_w10 _).trans ((mwu_ne (mw_oa h_w9_om h_w9_aro)).trans h_w9_om)
          have h_w10_asi : w10 asi = some (eI cI 8 (lnF si)) := (congrFun e_w10 _).trans ((mwu_ne (tne t_asi t_aro (by decide))).trans h_w9_asi)
          have h_w10_alo : w10 alo = some (eI cI 8 lo) := (congrFun e_w10 _).trans ((mwu_ne (tne t_alo t_aro (by decide))).trans h_w9_alo)
          have h_w10_aro : w10 aro = some (eI cI 9600 (upd (upd ro1 ((1200 * s) + b) (nI 0)) (((1200 * s) + 40) + b) (nI (1 - (tr b))))) := (congrFun e_w10 _).trans mwu_eq
          have h_w10_asr : w10 asr = some (eI cI 1024 srz) := (congrFun e_w10 _).trans ((mwu_ne (Ne.symm (tne t_aro t_asr (by decide)))).trans h_w9_asr)
          have fr_w10 : ∀ zz : Nat, zz ≠ aro → zz ≠ asr → w10 zz = w zz := fun zz g0 g1 => (congrFun e_w10 zz).trans ((mwu_ne g0).trans (fr_w9 zz g0 g1))
          refine mg_aload_n C dX7_put_204 rfl ?_
          refine mg_get C inT7 h_w10_om rfl 7 (by decide) kw_25 (Or.inl rfl) rfl dX7_put_205 ?_
          refine mg_iload_n C dX7_put_208 rfl ?_
          refine mg_aload_n C dX7_put_209 rfl ?_
          refine mg_get C inT7 h_w10_om rfl 7 (by decide) kw_25 (Or.inl rfl) rfl dX7_put_210 ?_
          refine mg_iload_n C dX7_put_213 rfl ?_
          refine mg_ialdN C h_w10_alo (by omega) (by omega) dX7_put_214 ?_
          refine mg_iconst C (v := nI 1) dX7_put_215 (by decide) ?_
          refine mg_iload_n C dX7_put_216 rfl ?_
          refine mg_ishl C (z := sh1 b) dX7_put_217 rfl ?_
          refine mg_iadd C (z := (lo s) + (sh1 b)) dX7_put_218 rfl ?_
          refine mg_iastN C h_w10_alo (by omega) (by omega) dX7_put_219 (fun w11 e_w11 => ?_)
          have h_w11_om : w11 om = some (.inr (6, [.int th, .int (nI md), .ref aso, .ref asi, .ref ase, .ref ato, .ref amo, .ref alo, .ref aro, .ref asr])) := (congrFun e_w11 _).trans ((mwu_ne (mw_oa h_w10_om h_w10_alo)).trans h_w10_om)
          have h_w11_asi : w11 asi = some (eI cI 8 (lnF si)) := (congrFun e_w11 _).trans ((mwu_ne (tne t_asi t_alo (by decide))).trans h_w10_asi)
          have h_w11_alo : w11 alo = some (eI cI 8 (upd lo s ((lo s) + (sh1 b)))) := (congrFun e_w11 _).trans mwu_eq
          have h_w11_aro : w11 aro = some (eI cI 9600 (upd (upd ro1 ((1200 * s) + b) (nI 0)) (((1200 * s) + 40) + b) (nI (1 - (tr b))))) := (congrFun e_w11 _).trans ((mwu_ne (Ne.symm (tne t_alo t_aro (by decide)))).trans h_w10_aro)
          have h_w11_asr : w11 asr = some (eI cI 1024 srz) := (congrFun e_w11 _).trans ((mwu_ne (Ne.symm (tne t_alo t_asr (by decide)))).trans h_w10_asr)
          have fr_w11 : ∀ zz : Nat, zz ≠ aro → zz ≠ asr → zz ≠ alo → w11 zz = w zz := fun zz g0 g1 g2 => (congrFun e_w11 zz).trans ((mwu_ne g2).trans (fr_w10 zz g0 g1))
          refine mg_iload C dX7_put_220 rfl ?_
          refine mg_istore C (lv' := [(7, .int (nI (tr b))), (6, .int (nI (tr b))), (0, .ref om), (1, .int (nI s)), (2, .int (nI b)), (3, .int x), (4, .int (nI (1200 * s))), (5, .int (nI (ln b)))]) dX7_put_222 (by decide) rfl ?_
          have hlE : ∀ c, c < 31 → updN (updN ln b (ln b + 1)) b 0 c < k := by
            intro c hc
            by_cases ec : c = b
            · rw [ec, updN_eq]; omega
            · rw [updN_ne ec, updN_ne ec]; exact hln c hc
          have hrE := hr1.col (f1 := srtO f1 (b * k) (k - 1)) (e1 := er + sh1 b) hb (fun c hc ec => by show updN ln b (ln b + 1) c < k; rw [updN_ne ec]; exact hln c hc) (fun z hz => srtO_out f1 (b * k) (k - 1) z (by omega))
          rw [her] at h_w11_alo
          have L224 : ∀ (M224 : Nat) (my : Nat) (iz : Nat) (Sz : rkT) (roz : Nat → Int32) (sry : Nat → Int32), k + 1 - iz < M224 → (lpP k b (psh k d (b + 1)) my iz Sz = (colP k b (psh k d (b + 1)) (f1, (updN ln b (ln b + 1)), tr, er))) → (k ≤ iz + my) → (iz ≤ k + 1) → (rkOk k Sz) → (∀ c, c < 31 → Sz.2.1 c < k) → (wtS Sz.2.1 31 + ((k - iz + 1) / 2) * 2 ^ (b + 1) ≤ B) → (∀ z, z < (b + 1) * k → Sz.1 z = srtO f1 (b * k) (k - 1) z) → (RkM roz s k Sz) → (outS ro roz s) → (∀ i, i < k → sry (32 * b + i) = srtO f1 (b * k) (k - 1) (b * k + i)) → (∀ z, z < 32 * b → sry z = sr z) → ∀ (w12 : mwT), w12 om = some (.inr (6, [.int th, .int (nI md), .ref aso, .ref asi, .ref ase, .ref ato, .ref amo, .ref alo, .ref aro, .ref asr])) → w12 asi = some (eI cI 8 (lnF si)) → w12 alo = some (eI cI 8 (upd lo s Sz.2.2.2)) → w12 aro = some (eI cI 9600 roz) → w12 asr = some (eI cI 1024 sry) → (∀ zz : Nat, zz ≠ aro → zz ≠ asr → zz ≠ alo → w12 zz = w zz) → mwG X 0 0 w12 [(0, .ref om), (1, .int (nI s)), (2, .int (nI b)), (3, .int x), (4, .int (nI (1200 * s))), (5, .int (nI (ln b))), (6, .int (nI (tr b))), (7, .int (nI iz))] [] 224 := by
            intro M224
            induction M224 with
            | zero => intro my iz Sz roz sry hm224; exact absurd hm224 (Nat.not_lt_zero _)
            | succ M224 ih224 =>
              intro my iz Sz roz sry hm224 hlp hfu hib hoz hlz hwz hfz hrz hoo hss hl3 w12 h_w12_om h_w12_asi h_w12_alo h_w12_aro h_w12_asr fr_w12
              refine mg_iload C dX7_put_224 rfl ?_
              refine mg_iload C dX7_put_226 rfl ?_
              refine mg_icmpN_gt C (tgt := 257) dX7_put_228 (by decide) (by omega) (by omega) (fun c_228 => ?_) (fun c_228 => ?_)
              · have hz : Sz = (colP k b (psh k d (b + 1)) (f1, (updN ln b (ln b + 1)), tr, er)) := by
                  rw [← hlp]
                  cases my with
                  | zero => rfl
                  | succ m1 => exact (if_neg (show ¬ iz < k by omega)).symm
                have ep : psh k (d + 1) b x (f, ln, tr, er) = Sz := by
                  rw [hz, ← hf1]
                  exact (if_neg (Nat.not_le.mpr (hln b hb))).trans (if_neg (show ¬ ln b + 1 < k by omega))
                exact hR _ _ _ dX7_put_257 ⟨roz, sry, h_w12_aro, h_w12_asr, by rw [ep]; exact h_w12_alo, by rw [ep]; exact hrz, hoo, hl3, fun z q0 q1 q2 => fr_w12 z q0 q1 q2⟩
              · have hwz1 : wtS Sz.2.1 31 + 2 ^ (b + 1) ≤ B := by
                  rw [show (k - iz + 1) / 2 = (k - (iz + 2) + 1) / 2 + 1 by omega, Nat.succ_mul] at hwz
                  omega
                have hpm := psh_main hke he hB d (b + 1) (Sz.1 (b * k + iz)) Sz (by omega) hoz hlz hwz1
                refine mg_aload_n C dX7_put_231 rfl ?_
                refine mg_iload_n C dX7_put_232 rfl ?_
                refine mg_iload_n C dX7_put_233 rfl ?_
                refine mg_iconst C (v := nI 1) dX7_put_234 (by decide) ?_
                refine mg_iadd C (z := nI (b + 1)) dX7_put_235 (nI_add _ _) ?_
                refine mg_aload_n C dX7_put_236 rfl ?_
                refine mg_get C inT7 h_w12_om rfl 9 (by decide) kw_27 (Or.inl rfl) rfl dX7_put_237 ?_
                refine mg_bipush C (v := nI 32) dX7_put_240 (by decide) ?_
                refine mg_iload_n C dX7_put_242 rfl ?_
                refine mg_imul C (z := nI (32 * b)) dX7_put_243 (pk_mul _ _) ?_
                refine mg_iload C dX7_put_244 rfl ?_
                refine mg_iadd C (z := nI ((32 * b) + iz)) dX7_put_246 (nI_add _ _) ?_
                refine mg_ialdN C h_w12_asr (by omega) (by omega) dX7_put_247 ?_
                rw [hss iz (by omega), ← hfz (b * k + iz) (by rw [Nat.succ_mul]; omega)]
                refine mg_callS_v C (rest := []) (hput D cI cS w12 om md aso asi ase ato amo alo aro asr th si (upd lo s Sz.2.2.2) roz sry tg s k e B (b + 1) Sz.1 Sz.2.1 Sz.2.2.1 Sz.2.2.2 (Sz.1 (b * k + iz)) h_w12_om h_w12_asi h_w12_alo h_w12_aro h_w12_asr hs8 hke he hk2 hB hoz hlz hwz1 hrz (upd_same lo s _) hsk t_asi t_alo t_aro t_asr (by omega)) yq_X7_put kw_368 kw_369 ⟨by (dsimp only; omega), by (dsimp only; omega)⟩ ⟨Nat.le_of_ble_eq_true rfl, Nat.le_of_ble_eq_true rfl⟩ (Nat.le_of_ble_eq_true rfl) rfl rfl dX7_put_248 (fun w13 ⟨roq, srq, xk13, xq13, xl13, hrq, hoq, hsq, xf13⟩ => ?_)
                rw [upd_upd] at xl13
                have h_w13_om : w13 om = some (.inr (6, [.int th, .int (nI md), .ref aso, .ref asi, .ref ase, .ref ato, .ref amo, .ref alo, .ref aro, .ref asr])) := (xf13 om (mw_oa h_w12_om h_w12_aro) (mw_oa h_w12_om h_w12_asr) (mw_oa h_w12_om h_w12_alo)).trans h_w12_om
                have h_w13_asi : w13 asi = some (eI cI 8 (lnF si)) := (xf13 asi (tne t_asi t_aro (by decide)) (tne t_asi t_asr (by decide)) (tne t_asi t_alo (by decide))).trans h_w12_asi
                have fr_w13 : ∀ zz : Nat, zz ≠ aro → zz ≠ asr → zz ≠ alo → w13 zz = w zz := fun zz g0 g1 g2 => (xf13 zz g0 g1 g2).trans (fr_w12 zz g0 g1 g2)
                refine mg_iinc C (v := nI (iz + 2)) (lv' := [(7, .int (nI (iz + 2))), (0, .ref om), (1, .int (nI s)), (2, .int (nI b)), (3, .int x), (4, .int (nI (1200 * s))), (5, .int (nI (ln b))), (6, .int (nI (tr b)))]) dX7_put_251 rfl (ni_inc2 _) (by decide) rfl ?_
                refine mg_goto C (tgt := 224) dX7_put_254 (by decide) ?_
                have hl2 : lpP k b (psh k d (b + 1)) (my - 1) (iz + 2) (psh k d (b + 1) (Sz.1 (b * k + iz)) Sz) = (colP k b (psh k d (b + 1)) (f1, (updN ln b (ln b + 1)), tr, er)) := by
                  rw [← hlp]
                  obtain ⟨m1, rfl⟩ : ∃ m1, my = m1 + 1 := ⟨my - 1, by omega⟩
                  exact (if_pos (show iz < k by omega)).symm
                have hw2 : wtS (psh k d (b + 1) (Sz.1 (b * k + iz)) Sz).2.1 31 + ((k - (iz + 2) + 1) / 2) * 2 ^ (b + 1) ≤ B := by
                  rw [hpm.2.1]
                  rw [show (k - iz + 1) / 2 = (k - (iz + 2) + 1) / 2 + 1 by omega, Nat.succ_mul] at hwz
                  omega
                refine mg_sub (lv' := [(0, .ref om), (1, .int (nI s)), (2, .int (nI b)), (3, .int x), (4, .int (nI (1200 * s))), (5, .int (nI (ln b))), (6, .int (nI (tr b))), (7, .int (nI (iz + 2)))]) [1, 2, 3, 4, 5, 6, 7, 0] rfl ?_
                exact ih224 ((my - 1)) ((iz + 2)) ((psh k d (b + 1) (Sz.1 (b * k + iz)) Sz)) roq srq (by omega) hl2 (by omega) (by omega) (psh_ok k d (b + 1) _ Sz hoz) hpm.1 hw2 (fun z q => (hpm.2.2 z q).trans (hfz z q)) hrq (hoo.tr hoq) (fun i q => (hsq _ (by omega)).trans (hss i q)) (fun z q => (hsq z (by omega)).trans (hl3 z q)) w13 h_w13_om h_w13_asi xl13 xk13 xq13 (fun zz g0 g1 g2 => fr_w13 zz g0 g1 g2)
          refine mg_sub (lv' := [(0, .ref om), (1, .int (nI s)), (2, .int (nI b)), (3, .int x), (4, .int (nI (1200 * s))), (5, .int (nI (ln b))), (6, .int (nI (tr b))), (7, .int (nI (tr b)))]) [2, 3, 4, 5, 6, 7, 1, 0] rfl ?_
          exact L224 (_ + 1) k ((tr b)) ((srtO f1 (b * k) (k - 1), updN (updN ln b (ln b + 1)) b 0, updN tr b (1 - tr b), er + sh1 b)) (upd (upd ro1 ((1200 * s) + b) (nI 0)) (((1200 * s) + 40) + b) (nI (1 - (tr b)))) srz (Nat.lt_succ_self _) rfl (by omega) (by omega) (col0_ok (S := (f1, (updN ln b (ln b + 1)), tr, er)) ⟨hok.1, updN_le (by omega) hok.2⟩) hlE (wt_col hb hke htb he hlk hwt) (fun _ _ => rfl) hrE ((ho1.up (by omega) (by omega)).up (by omega) (by omega)) hss0 hlz0 w11 h_w11_om h_w11_asi h_w11_alo h_w11_aro h_w11_asr (fun zz g0 g1 g2 => fr_w11 zz g0 g1 g2)
        · refine mg_aload_n C dX7_put_69 rfl ?_
          refine mg_get C inT7 h_w8_om rfl 8 (by decide) kw_26 (Or.inl rfl) rfl dX7_put_70 ?_
          refine mg_aload_n C dX7_put_73 rfl ?_
          refine mg_iload_n C dX7_put_74 rfl ?_
          refine mg_iload_n C dX7_put_75 rfl ?_
          refine mg_iload C dX7_put_76 rfl ?_
          refine mg_callV_i C h_w8_om rfl (rest := [.ref aro]) (c_X7_keyAt D cI cS w8 om md aso asi ase ato amo alo aro asr th s b (mz + 1) h_w8_om) yq_X7_keyAt kw_371 kw_372 kw_373 ⟨by (dsimp only; omega), by (dsimp only; omega)⟩ ⟨Nat.le_of_ble_eq_true rfl, Nat.le_of_ble_eq_true rfl⟩ (Nat.le_of_ble_eq_true rfl) rfl rfl dX7_put_78 (fun r14 w15 ⟨e_r14, e_w15⟩ => ?_)
          rw [e_w15, e_r14]
          refine mg_ialdN C h_w8_aro (by omega) (by omega) dX7_put_81 ?_
          have hkey : srtO f1 (b * k) mz (b * k + mz + 1) = f1 (b * k + (mz + 1)) := srtO_out f1 (b * k) mz _ (by omega)
          rw [show ro1 (1200 * s + 100 + 32 * b + (mz + 1)) = srtO f1 (b * k) mz (b * k + mz + 1) from (hr1.2.2 b (mz + 1) hb (show mz + 1 < updN ln b (ln b + 1) b by rw [updN_eq]; omega)).trans hkey.symm]
          refine mg_istore C (lv' := [(7, .int (srtO f1 (b * k) mz (b * k + mz + 1))), (0, .ref om), (1, .int (nI s)), (2, .int (nI b)), (3, .int x), (4, .int (nI (1200 * s))), (5, .int (nI (ln b))), (6, .int (nI (mz + 1)))]) dX7_put_82 (by decide) rfl ?_
          refine mg_iload C dX7_put_84 rfl ?_
          refine mg_istore C (lv' := [(8, .int (nI (mz + 1))), (7, .int (srtO f1 (b * k) mz (b * k + mz + 1))), (0, .ref om), (1, .int (nI s)), (2, .int (nI b)), (3, .int x), (4, .int (nI (1200 * s))), (5, .int (nI (ln b))), (6, .int (nI (mz + 1)))]) dX7_put_86 (by decide) rfl ?_
          have L88 : ∀ (M88 : Nat) (nz : Nat) (fcz : Nat → Int32) (srw : Nat → Int32), nz < M88 → (nz ≤ mz + 1) → (srtI (b * k) (srtO f1 (b * k) mz (b * k + mz + 1)) nz fcz = (srtI (b * k) (srtO f1 (b * k) mz (b * k + mz + 1)) (mz + 1) (srtO f1 (b * k) mz))) → (∀ i, i ≤ mz + 1 → i ≠ nz → srw (32 * b + i) = fcz (b * k + i)) → (∀ z, z < 32 * b → srw z = sr z) → ∀ (w16 : mwT), w16 om = some (.inr (6, [.int th, .int (nI md), .ref aso, .ref asi, .ref ase, .ref ato, .ref amo, .ref alo, .ref aro, .ref asr])) → w16 asi = some (eI cI 8 (lnF si)) → w16 alo = some (eI cI 8 lo) → w16 aro = some (eI cI 9600 ro1) → w16 asr = some (eI cI 1024 srw) → (∀ zz : Nat, zz ≠ aro → zz ≠ asr → w16 zz = w zz) → mwG X 0 0 w16 [(0, .ref om), (1, .int (nI s)), (2, .int (nI b)), (3, .int x), (4, .int (nI (1200 * s))), (5, .int (nI (ln b))), (6, .int (nI (mz + 1))), (7, .int (srtO f1 (b * k) mz (b * k + mz + 1))), (8, .int (nI nz))] [] 88 := by
            intro M88
            induction M88 with
            | zero => intro nz fcz srw hm88; exact absurd hm88 (Nat.not_lt_zero _)
            | succ M88 ih88 =>
              intro nz fcz srw hm88 hnz hri hrel hlw w16 h_w16_om h_w16_asi h_w16_alo h_w16_aro h_w16_asr fr_w16
              refine mg_iload C dX7_put_88 rfl ?_
              refine mg_ifN_le C (tgt := 144) dX7_put_90 (by decide) (by omega) (fun c_90 => ?_) (fun c_90 => ?_)
              · have hres : (srtI (b * k) (srtO f1 (b * k) mz (b * k + mz + 1)) (mz + 1) (srtO f1 (b * k) mz)) = (fcz, nz) := by rw [← hri, c_90]; rfl
                refine mg_aload_n C dX7_put_144 rfl ?_
                refine mg_get C inT7 h_w16_om rfl 9 (by decide) kw_27 (Or.inl rfl) rfl dX7_put_145 ?_
                refine mg_bipush C (v := nI 32) dX7_put_148 (by decide) ?_
                refine mg_iload_n C dX7_put_150 rfl ?_
                refine mg_imul C (z := nI (32 * b)) dX7_put_151 (pk_mul _ _) ?_
                refine mg_iload C dX7_put_152 rfl ?_
                refine mg_iadd C (z := nI ((32 * b) + nz)) dX7_put_154 (nI_add _ _) ?_
                refine mg_iload C dX7_put_155 rfl ?_
                refine mg_iastN C h_w16_asr (by omega) (by omega) dX7_put_157 (fun w17 e_w17 => ?_)
                have h_w17_om : w17 om = some (.inr (6, [.int th, .int (nI md), .ref aso, .ref asi, .ref ase, .ref ato, .ref amo, .ref alo, .ref aro, .ref asr])) := (congrFun e_w17 _).trans ((mwu_ne (mw_oa h_w16_om h_w16_asr)).trans h_w16_om)
                have h_w17_asi : w17 asi = some (eI cI 8 (lnF si)) := (congrFun e_w17 _).trans ((mwu_ne (tne t_asi t_asr (by decide))).trans h_w16_asi)
                have h_w17_alo : w17 alo = some (eI cI 8 lo) := (congrFun e_w17 _).trans ((mwu_ne (tne t_alo t_asr (by decide))).trans h_w16_alo)
                have h_w17_aro : w17 aro = some (eI cI 9600 ro1) := (congrFun e_w17 _).trans ((mwu_ne (tne t_aro t_asr (by decide))).trans h_w16_aro)
                have h_w17_asr : w17 asr = some (eI cI 1024 (upd srw ((32 * b) + nz) (srtO f1 (b * k) mz (b * k + mz + 1)))) := (congrFun e_w17 _).trans mwu_eq
                have fr_w17 : ∀ zz : Nat, zz ≠ aro → zz ≠ asr → w17 zz = w zz := fun zz g0 g1 => (congrFun e_w17 zz).trans ((mwu_ne g1).trans (fr_w16 zz g0 g1))
                refine mg_iinc C (v := nI (mz + 1 + 1)) (lv' := [(6, .int (nI (mz + 1 + 1))), (0, .ref om), (1, .int (nI s)), (2, .int (nI b)), (3, .int x), (4, .int (nI (1200 * s))), (5, .int (nI (ln b))), (7, .int (srtO f1 (b * k) mz (b * k + mz + 1))), (8, .int (nI nz))]) dX7_put_158 rfl (ni_inc _) (by decide) rfl ?_
                refine mg_goto C (tgt := 62) dX7_put_161 (by decide) ?_
                have hsn : ∀ i, i < mz + 1 + 1 → (upd srw ((32 * b) + nz) (srtO f1 (b * k) mz (b * k + mz + 1))) (32 * b + i) = srtO f1 (b * k) (mz + 1) (b * k + i) := by
                  intro i q1
                  show _ = upd (srtI (b * k) (srtO f1 (b * k) mz (b * k + mz + 1)) (mz + 1) (srtO f1 (b * k) mz)).1 (b * k + (srtI (b * k) (srtO f1 (b * k) mz (b * k + mz + 1)) (mz + 1) (srtO f1 (b * k) mz)).2) (srtO f1 (b * k) mz (b * k + mz + 1)) (b * k + i)
                  rw [hres]
                  unfold upd
                  by_cases ei : i = nz
                  · rw [if_pos (by omega), if_pos (by rw [ei])]
                  · rw [if_neg (by omega), if_neg (by omega)]; exact hrel i (by omega) ei
                have hln2 : ∀ z, z < 32 * b → (upd srw ((32 * b) + nz) (srtO f1 (b * k) mz (b * k + mz + 1))) z = sr z := by
                  intro z q1
                  unfold upd
                  rw [if_neg (by omega)]
                  exact hlw z q1
                refine mg_sub (lv' := [(0, .ref om), (1, .int (nI s)), (2, .int (nI b)), (3, .int x), (4, .int (nI (1200 * s))), (5, .int (nI (ln b))), (6, .int (nI (mz + 1 + 1)))]) [1, 2, 3, 4, 5, 6, 0] rfl ?_
                exact ih62 ((mz + 1)) (upd srw ((32 * b) + nz) (srtO f1 (b * k) mz (b * k + mz + 1))) (by omega) (by omega) hsn hln2 w17 h_w17_om h_w17_asi h_w17_alo h_w17_aro h_w17_asr (fun zz g0 g1 => fr_w17 zz g0 g1)
              · refine mg_aload_n C dX7_put_93 rfl ?_
                refine mg_get C inT7 h_w16_om rfl 9 (by decide) kw_27 (Or.inl rfl) rfl dX7_put_94 ?_
                refine mg_bipush C (v := nI 32) dX7_put_97 (by decide) ?_
                refine mg_iload_n C dX7_put_99 rfl ?_
                refine mg_imul C (z := nI (32 * b)) dX7_put_100 (pk_mul _ _) ?_
                refine mg_iload C dX7_put_101 rfl ?_
                refine mg_iadd C (z := nI ((32 * b) + nz)) dX7_put_103 (nI_add _ _) ?_
                refine mg_iconst C (v := nI 1) dX7_put_104 (by decide) ?_
                refine mg_isub C (z := nI (((32 * b) + nz) - 1)) dX7_put_105 (ni_sub (by omega)) ?_
                refine mg_ialdN C h_w16_asr (by omega) (by omega) dX7_put_106 ?_
                rw [show 32 * b + nz - 1 = 32 * b + (nz - 1) by omega, hrel (nz - 1) (by omega) (by omega)]
                refine mg_iload C dX7_put_107 rfl ?_
                refine mg_icmp_le C (tgt := 144) dX7_put_109 (by decide) (fun c_109 => ?_) (fun c_109 => ?_)
                · have hres : (srtI (b * k) (srtO f1 (b * k) mz (b * k + mz + 1)) (mz + 1) (srtO f1 (b * k) mz)) = (fcz, nz) := by
                    rw [← hri]
                    obtain ⟨n1, rfl⟩ : ∃ n1, nz = n1 + 1 := ⟨nz - 1, by omega⟩
                    exact if_pos c_109
                  refine mg_aload_n C dX7_put_144 rfl ?_
                  refine mg_get C inT7 h_w16_om rfl 9 (by decide) kw_27 (Or.inl rfl) rfl dX7_put_145 ?_
                  refine mg_bipush C (v := nI 32) dX7_put_148 (by decide) ?_
                  refine mg_iload_n C dX7_put_150 rfl ?_
                  refine mg_imul C (z := nI (32 * b)) dX7_put_151 (pk_mul _ _) ?_
                  refine mg_iload C dX7_put_152 rfl ?_
                  refine mg_iadd C (z := nI ((32 * b) + nz)) dX7_put_154 (nI_add _ _) ?_
                  refine mg_iload C dX7_put_155 rfl ?_
                  refine mg_iastN C h_w16_asr (by omega) (by omega) dX7_put_157 (fun w18 e_w18 => ?_)
                  have h_w18_om : w18 om = some (.inr (6, [.int th, .int (nI md), .ref aso, .ref asi, .ref ase, .ref ato, .ref amo, .ref alo, .ref aro, .ref asr])) := (congrFun e_w18 _).trans ((mwu_ne (mw_oa h_w16_om h_w16_asr)).trans h_w16_om)
                  have h_w18_asi : w18 asi = some (eI cI 8 (lnF si)) := (congrFun e_w18 _).trans ((mwu_ne (tne t_asi t_asr (by decide))).trans h_w16_asi)
                  have h_w18_alo : w18 alo = some (eI cI 8 lo) := (congrFun e_w18 _).trans ((mwu_ne (tne t_alo t_asr (by decide))).trans h_w16_alo)
                  have h_w18_aro : w18 aro = some (eI cI 9600 ro1) := (congrFun e_w18 _).trans ((mwu_ne (tne t_aro t_asr (by decide))).trans h_w16_aro)
                  have h_w18_asr : w18 asr = some (eI cI 1024 (upd srw ((32 * b) + nz) (srtO f1 (b * k) mz (b * k + mz + 1)))) := (congrFun e_w18 _).trans mwu_eq
                  have fr_w18 : ∀ zz : Nat, zz ≠ aro → zz ≠ asr → w18 zz = w zz := fun zz g0 g1 => (congrFun e_w18 zz).trans ((mwu_ne g1).trans (fr_w16 zz g0 g1))
                  refine mg_iinc C (v := nI (mz + 1 + 1)) (lv' := [(6, .int (nI (mz + 1 + 1))), (0, .ref om), (1, .int (nI s)), (2, .int (nI b)), (3, .int x), (4, .int (nI (1200 * s))), (5, .int (nI (ln b))), (7, .int (srtO f1 (b * k) mz (b * k + mz + 1))), (8, .int (nI nz))]) dX7_put_158 rfl (ni_inc _) (by decide) rfl ?_
                  refine mg_goto C (tgt := 62) dX7_put_161 (by decide) ?_
                  have hsn : ∀ i, i < mz + 1 + 1 → (upd srw ((32 * b) + nz) (srtO f1 (b * k) mz (b * k + mz + 1))) (32 * b + i) = srtO f1 (b * k) (mz + 1) (b * k + i) := by
                    intro i q1
                    show _ = upd (srtI (b * k) (srtO f1 (b * k) mz (b * k + mz + 1)) (mz + 1) (srtO f1 (b * k) mz)).1 (b * k + (srtI (b * k) (srtO f1 (b * k) mz (b * k + mz + 1)) (mz + 1) (srtO f1 (b * k) mz)).2) (srtO f1 (b * k) mz (b * k + mz + 1)) (b * k + i)
                    rw [hres]
                    unfold upd
                    by_cases ei : i = nz
                    · rw [if_pos (by omega), if_pos (by rw [ei])]
                    · rw [if_neg (by omega), if_neg (by omega)]; exact hrel i (by omega) ei
                  have hln2 : ∀ z, z < 32 * b → (upd srw ((32 * b) + nz) (srtO f1 (b * k) mz (b * k + mz + 1))) z = sr z := by
                    intro z q1
                    unfold upd
                    rw [if_neg (by omega)]
                    exact hlw z q1
                  refine mg_sub (lv' := [(0, .ref om), (1, .int (nI s)), (2, .int (nI b)), (3, .int x), (4, .int (nI (1200 * s))), (5, .int (nI (ln b))), (6, .int (nI (mz + 1 + 1)))]) [1, 2, 3, 4, 5, 6, 0] rfl ?_
                  exact ih62 ((mz + 1)) (upd srw ((32 * b) + nz) (srtO f1 (b * k) mz (b * k + mz + 1))) (by omega) (by omega) hsn hln2 w18 h_w18_om h_w18_asi h_w18_alo h_w18_aro h_w18_asr (fun zz g0 g1 => fr_w18 zz g0 g1)
                · refine mg_aload_n C dX7_put_112 rfl ?_
                  refine mg_get C inT7 h_w16_om rfl 9 (by decide) kw_27 (Or.inl rfl) rfl dX7_put_113 ?_
                  refine mg_bipush C (v := nI 32) dX7_put_116 (by decide) ?_
                  refine mg_iload_n C dX7_put_118 rfl ?_
                  refine mg_imul C (z := nI (32 * b)) dX7_put_119 (pk_mul _ _) ?_
                  refine mg_iload C dX7_put_120 rfl ?_
                  refine mg_iadd C (z := nI ((32 * b) + nz)) dX7_put_122 (nI_add _ _) ?_
                  refine mg_aload_n C dX7_put_123 rfl ?_
                  refine mg_get C inT7 h_w16_om rfl 9 (by decide) kw_27 (Or.inl rfl) rfl dX7_put_124 ?_
                  refine mg_bipush C (v := nI 32) dX7_put_127 (by decide) ?_
                  refine mg_iload_n C dX7_put_129 rfl ?_
                  refine mg_imul C (z := nI (32 * b)) dX7_put_130 (pk_mul _ _) ?_
                  refine mg_iload C dX7_put_131 rfl ?_
                  refine mg_iadd C (z := nI ((32 * b) + nz)) dX7_put_133 (nI_add _ _) ?_
                  refine mg_iconst C (v := nI 1) dX7_put_134 (by decide) ?_
                  refine mg_isub C (z := nI (((32 * b) + nz) - 1)) dX7_put_135 (ni_sub (by omega)) ?_
                  refine mg_ialdN C h_w16_asr (by omega) (by omega) dX7_put_136 ?_
                  rw [show 32 * b + nz - 1 = 32 * b + (nz - 1) by omega, hrel (nz - 1) (by omega) (by omega)]
                  refine mg_iastN C h_w16_asr (by omega) (by omega) dX7_put_137 (fun w19 e_w19 => ?_)
                  have h_w19_om : w19 om = some (.inr (6, [.int th, .int (nI md), .ref aso, .ref asi, .ref ase, .ref ato, .ref amo, .ref alo, .ref aro, .ref asr])) := (congrFun e_w19 _).trans ((mwu_ne (mw_oa h_w16_om h_w16_asr)).trans h_w16_om)
                  have h_w19_asi : w19 asi = some (eI cI 8 (lnF si)) := (congrFun e_w19 _).trans ((mwu_ne (tne t_asi t_asr (by decide))).trans h_w16_asi)
                  have h_w19_alo : w19 alo = some (eI cI 8 lo) := (congrFun e_w19 _).trans ((mwu_ne (tne t_alo t_asr (by decide))).trans h_w16_alo)
                  have h_w19_aro : w19 aro = some (eI cI 9600 ro1) := (congrFun e_w19 _).trans ((mwu_ne (tne t_aro t_asr (by decide))).trans h_w16_aro)
                  have h_w19_asr : w19 asr = some (eI cI 1024 (upd srw ((32 * b) + nz) (fcz (b * k + (nz - 1))))) := (congrFun e_w19 _).trans mwu_eq
                  have fr_w19 : ∀ zz : Nat, zz ≠ aro → zz ≠ asr → w19 zz = w zz := fun zz g0 g1 => (congrFun e_w19 zz).trans ((mwu_ne g1).trans (fr_w16 zz g0 g1))
                  refine mg_iinc C (v := nI (nz - 1)) (lv' := [(8, .int (nI (nz - 1))), (0, .ref om), (1, .int (nI s)), (2, .int (nI b)), (3, .int x), (4, .int (nI (1200 * s))), (5, .int (nI (ln b))), (6, .int (nI (mz + 1))), (7, .int (srtO f1 (b * k) mz (b * k + mz + 1)))]) dX7_put_138 rfl (ni_dec (by omega)) (by decide) rfl ?_
                  refine mg_goto C (tgt := 88) dX7_put_141 (by decide) ?_
                  have hrn : srtI (b * k) (srtO f1 (b * k) mz (b * k + mz + 1)) (nz - 1) (upd fcz (b * k + (nz - 1) + 1) (fcz (b * k + (nz - 1)))) = (srtI (b * k) (srtO f1 (b * k) mz (b * k + mz + 1)) (mz + 1) (srtO f1 (b * k) mz)) := by
                    rw [← hri]
                    obtain ⟨n1, rfl⟩ : ∃ n1, nz = n1 + 1 := ⟨nz - 1, by omega⟩
                    exact (if_neg c_109).symm
                  have hrl : ∀ i, i ≤ mz + 1 → i ≠ nz - 1 → (upd srw ((32 * b) + nz) (fcz (b * k + (nz - 1)))) (32 * b + i) = (upd fcz (b * k + (nz - 1) + 1) (fcz (b * k + (nz - 1)))) (b * k + i) := by
                    intro i q1 q2
                    unfold upd
                    by_cases ei : i = nz
                    · rw [if_pos (by omega), if_pos (by omega)]
                    · rw [if_neg (by omega), if_neg (by omega)]; exact hrel i q1 ei
                  have hlv : ∀ z, z < 32 * b → (upd srw ((32 * b) + nz) (fcz (b * k + (nz - 1)))) z = sr z := by
                    intro z q1
                    unfold upd
                    rw [if_neg (by omega)]
                    exact hlw z q1
                  refine mg_sub (lv' := [(0, .ref om), (1, .int (nI s)), (2, .int (nI b)), (3, .int x), (4, .int (nI (1200 * s))), (5, .int (nI (ln b))), (6, .int (nI (mz + 1))), (7, .int (srtO f1 (b * k) mz (b * k + mz + 1))), (8, .int (nI (nz - 1)))]) [1, 2, 3, 4, 5, 6, 7, 8, 0] rfl ?_
                  exact ih88 ((nz - 1)) ((upd fcz (b * k + (nz - 1) + 1) (fcz (b * k + (nz - 1))))) (upd srw ((32 * b) + nz) (fcz (b * k + (nz - 1)))) (by omega) (by omega) hrn hrl hlv w19 h_w19_om h_w19_asi h_w19_alo h_w19_aro h_w19_asr (fun zz g0 g1 => fr_w19 zz g0 g1)
          refine mg_sub (lv' := [(0, .ref om), (1, .int (nI s)), (2, .int (nI b)), (3, .int x), (4, .int (nI (1200 * s))), (5, .int (nI (ln b))), (6, .int (nI (mz + 1))), (7, .int (srtO f1 (b * k) mz (b * k + mz + 1))), (8, .int (nI (mz + 1)))]) [2, 3, 4, 5, 6, 7, 8, 1, 0] rfl ?_
          exact L88 (_ + 1) ((mz + 1)) ((srtO f1 (b * k) mz)) srz (Nat.lt_succ_self _) (Nat.le_refl _) rfl (fun i q1 q2 => hsz i (by omega)) hlz0 w8 h_w8_om h_w8_asi h_w8_alo h_w8_aro h_w8_asr (fun zz g0 g1 => fr_w8 zz g0 g1)
    refine mg_sub (lv' := [(0, .ref om), (1, .int (nI s)), (2, .int (nI b)), (3, .int x), (4, .int (nI (1200 * s))), (5, .int (nI (ln b))), (6, .int (nI (0 + 1)))]) [5, 6, 7, 8, 4, 3, 0] rfl ?_
    exact L62 (_ + 1) 0 (upd sr ((32 * b) + 0) (f1 (b * k + 0))) (Nat.lt_succ_self _) (Nat.zero_le _) hs0 hl0 w7 h_w7_om h_w7_asi h_w7_alo h_w7_aro h_w7_asr (fun zz g0 g1 => fr_w7 zz g0 g1)
  · have ep : psh k (d + 1) b x (f, ln, tr, er) = (f1, (updN ln b (ln b + 1)), tr, er) := by
      rw [← hf1]
      exact (if_neg (Nat.not_le.mpr (hln b hb))).trans (if_pos c_55)
    exact hR _ _ _ dX7_put_58 ⟨ro1, sr, h_w4_aro, h_w4_asr, by rw [ep, ← her]; exact h_w4_alo.trans (congrArg (fun q => some (eI cI 8 q)) (upd_self lo s).symm), by rw [ep]; exact hr1, ho1, fun _ _ => rfl, fun z q0 _ _ => fr_w4 z q0⟩

theorem c_X7_put_all : ∀ d, P_put d
  | 0 => c_X7_put_0
  | d + 1 => c_X7_put_s d (c_X7_put_all d)
