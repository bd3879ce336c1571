set_option maxHeartbeats 4000000 in
set_option maxRecDepth 20000 in
theorem c_X7_merge_full (D : va_G) (cI cS : ClassId) (w : mwT) (om md aso asi ase ato amo alo aro asr : Nat) (th : Int32) (so : Nat → Nat) (si : Nat → Nat) (se : Nat → Nat) (mo : Nat → Nat) (s b : Nat) (hom : w om = some (.inr (6, [.int th, .int (nI md), .ref aso, .ref asi, .ref ase, .ref ato, .ref amo, .ref alo, .ref aro, .ref asr]))) (h_aso : w aso = some (eI cI 8 (lnF so))) (h_asi : w asi = some (eI cI 8 (lnF si))) (h_ase : w ase = some (eI cI 8 (lnF se))) (h_amo : w amo = some (eI cI 8 (lnF mo))) (hmd : md ≤ 8) (hs : s < md) (hb : b < md) (hab : s ≠ b) (hl : so s = so b ∧ si s = si b ∧ se s = se b) (hq1 : so s < 1000 ∧ so b < 1000) (hq2 : si s < 1000 ∧ si b < 1000) (hq3 : se s < 1000 ∧ se b < 1000) (hq4 : mo s ≤ 10000000 ∧ mo b ≤ 10000000) (hm : 10000000 < mo s + mo b) : mMi yX7_merge cX7_merge 6 (some .int) (rmL 98) [.ref om, .int (nI s), .int (nI b)] D cI cS w (fun r w1 => r = -3 ∧ w1 om = some (.inr (6, [.int (nI 0), .int (nI md), .ref aso, .ref asi, .ref ase, .ref ato, .ref amo, .ref alo, .ref aro, .ref asr])) ∧ ∀ z : Nat, z ≠ om → w1 z = w z) := by
  refine mMi.of (by decide) (Nat.le_of_ble_eq_true rfl) ?_
  intro X C hN hR
  have fr_w : ∀ zz : Nat, w zz = w zz := fun _ => rfl
  refine mg_sub (lv' := [(0, .ref om), (1, .int (nI s)), (2, .int (nI b))]) [0, 1, 2] rfl ?_
  refine mg_aload_n C dX7_merge_0 rfl ?_
  refine mg_iconst C (v := nI 0) dX7_merge_1 (by decide) ?_
  refine mg_put C (fs' := [.int (nI 0), .int (nI md), .ref aso, .ref asi, .ref ase, .ref ato, .ref amo, .ref alo, .ref aro, .ref asr]) inT7 hom rfl 0 (by decide) kw_28 (Or.inl rfl) tyX7_ok nmX7 rfl rfl rfl rfl (Nat.le_of_ble_eq_true rfl) dX7_merge_2 (fun w1 e_w1 => ?_)
  have h_w1_om : w1 om = some (.inr (6, [.int (nI 0), .int (nI md), .ref aso, .ref asi, .ref ase, .ref ato, .ref amo, .ref alo, .ref aro, .ref asr])) := (congrFun e_w1 _).trans mwu_eq
  have h_w1_aso : w1 aso = some (eI cI 8 (lnF so)) := (congrFun e_w1 _).trans ((mwu_ne (mw_ao h_aso hom)).trans h_aso)
  have h_w1_asi : w1 asi = some (eI cI 8 (lnF si)) := (congrFun e_w1 _).trans ((mwu_ne (mw_ao h_asi hom)).trans h_asi)
  have h_w1_ase : w1 ase = some (eI cI 8 (lnF se)) := (congrFun e_w1 _).trans ((mwu_ne (mw_ao h_ase hom)).trans h_ase)
  have h_w1_amo : w1 amo = some (eI cI 8 (lnF mo)) := (congrFun e_w1 _).trans ((mwu_ne (mw_ao h_amo hom)).trans h_amo)
  have fr_w1 : ∀ zz : Nat, zz ≠ om → w1 zz = w zz := fun zz g0 => (congrFun e_w1 zz).trans ((mwu_ne g0).trans (fr_w zz ))
  refine mg_aload_n C dX7_merge_5 rfl ?_
  refine mg_iload_n C dX7_merge_6 rfl ?_
  refine mg_callV_i C h_w1_om rfl (rest := []) (c_X7_none_in D cI cS w1 om md aso asi ase ato amo alo aro asr (nI 0)  s h_w1_om hmd hs) yq_X7_none kw_197 kw_198 kw_199 ⟨by decide, by decide⟩ ⟨Nat.le_of_ble_eq_true rfl, Nat.le_of_ble_eq_true rfl⟩ (Nat.le_of_ble_eq_true rfl) rfl rfl dX7_merge_7 (fun r2 w3 ⟨e_r2, e_w3⟩ => ?_)
  rw [e_w3, e_r2]
  refine mg_ifN_ne C (tgt := 71) dX7_merge_10 (by decide) (by decide) (fun c_10 => absurd c_10 (by decide)) (fun c_10 => ?_)
  refine mg_aload_n C dX7_merge_13 rfl ?_
  refine mg_iload_n C dX7_merge_14 rfl ?_
  refine mg_callV_i C h_w1_om rfl (rest := []) (c_X7_none_in D cI cS w1 om md aso asi ase ato amo alo aro asr (nI 0)  b h_w1_om hmd hb) yq_X7_none kw_197 kw_198 kw_199 ⟨by decide, by decide⟩ ⟨Nat.le_of_ble_eq_true rfl, Nat.le_of_ble_eq_true rfl⟩ (Nat.le_of_ble_eq_true rfl) rfl rfl dX7_merge_15 (fun r4 w5 ⟨e_r4, e_w5⟩ => ?_)
  rw [e_w5, e_r4]
  refine mg_ifN_ne C (tgt := 71) dX7_merge_18 (by decide) (by decide) (fun c_18 => absurd c_18 (by decide)) (fun c_18 => ?_)
  refine mg_iload_n C dX7_merge_21 rfl ?_
  refine mg_iload_n C dX7_merge_22 rfl ?_
  refine mg_icmpN_eq C (tgt := 71) dX7_merge_23 (by decide) (by omega) (by omega) (fun c_23 => absurd c_23 hab) (fun c_23 => ?_)
  refine mg_aload_n C dX7_merge_26 rfl ?_
  refine mg_get C inT7 h_w1_om rfl 2 (by decide) kw_20 (Or.inl rfl) rfl dX7_merge_27 ?_
  refine mg_iload_n C dX7_merge_30 rfl ?_
  refine mg_ialdN C h_w1_aso (by omega) (by omega) dX7_merge_31 ?_
  refine mg_aload_n C dX7_merge_32 rfl ?_
  refine mg_get C inT7 h_w1_om rfl 2 (by decide) kw_20 (Or.inl rfl) rfl dX7_merge_33 ?_
  refine mg_iload_n C dX7_merge_36 rfl ?_
  refine mg_ialdN C h_w1_aso (by omega) (by omega) dX7_merge_37 ?_
  refine mg_icmpN_ne C (tgt := 71) dX7_merge_38 (by decide) (by omega) (by omega) (fun c_38 => absurd hl.1 c_38) (fun c_38 => ?_)
  refine mg_aload_n C dX7_merge_41 rfl ?_
  refine mg_get C inT7 h_w1_om rfl 3 (by decide) kw_21 (Or.inl rfl) rfl dX7_merge_42 ?_
  refine mg_iload_n C dX7_merge_45 rfl ?_
  refine mg_ialdN C h_w1_asi (by omega) (by omega) dX7_merge_46 ?_
  refine mg_aload_n C dX7_merge_47 rfl ?_
  refine mg_get C inT7 h_w1_om rfl 3 (by decide) kw_21 (Or.inl rfl) rfl dX7_merge_48 ?_
  refine mg_iload_n C dX7_merge_51 rfl ?_
  refine mg_ialdN C h_w1_asi (by omega) (by omega) dX7_merge_52 ?_
  refine mg_icmpN_ne C (tgt := 71) dX7_merge_53 (by decide) (by omega) (by omega) (fun c_53 => absurd hl.2.1 c_53) (fun c_53 => ?_)
  refine mg_aload_n C dX7_merge_56 rfl ?_
  refine mg_get C inT7 h_w1_om rfl 4 (by decide) kw_22 (Or.inl rfl) rfl dX7_merge_57 ?_
  refine mg_iload_n C dX7_merge_60 rfl ?_
  refine mg_ialdN C h_w1_ase (by omega) (by omega) dX7_merge_61 ?_
  refine mg_aload_n C dX7_merge_62 rfl ?_
  refine mg_get C inT7 h_w1_om rfl 4 (by decide) kw_22 (Or.inl rfl) rfl dX7_merge_63 ?_
  refine mg_iload_n C dX7_merge_66 rfl ?_
  refine mg_ialdN C h_w1_ase (by omega) (by omega) dX7_merge_67 ?_
  refine mg_icmpN_eq C (tgt := 73) dX7_merge_68 (by decide) (by omega) (by omega) (fun c_68 => ?_) (fun c_68 => absurd hl.2.2 c_68)
  refine mg_aload_n C dX7_merge_73 rfl ?_
  refine mg_get C inT7 h_w1_om rfl 6 (by decide) kw_24 (Or.inl rfl) rfl dX7_merge_74 ?_
  refine mg_iload_n C dX7_merge_77 rfl ?_
  refine mg_ialdN C h_w1_amo (by omega) (by omega) dX7_merge_78 ?_
  refine mg_aload_n C dX7_merge_79 rfl ?_
  refine mg_get C inT7 h_w1_om rfl 6 (by decide) kw_24 (Or.inl rfl) rfl dX7_merge_80 ?_
  refine mg_iload_n C dX7_merge_83 rfl ?_
  refine mg_ialdN C h_w1_amo (by omega) (by omega) dX7_merge_84 ?_
  refine mg_iadd C (z := nI (mo s + (mo b))) dX7_merge_85 (nI_add _ _) ?_
  refine mg_ldc C (v := nI 10000000) dX7_merge_86 kw_231 (by decide) ?_
  refine mg_icmpN_le C (tgt := 94) dX7_merge_88 (by decide) (by omega) (by omega) (fun c_88 => absurd c_88 (by omega)) (fun c_88 => ?_)
  refine mg_bipush C (v := (-3 : Int32)) dX7_merge_91 (by decide) ?_
  exact hR _ _ _ _ dX7_merge_93 ⟨rfl, h_w1_om, fun z q0 => fr_w1 z q0⟩

theorem RkM.er {ro : Nat → Int32} {s k : Nat} {S : rkT} {e : Int32} (H : RkM ro s k S) : RkM ro s k (S.1, S.2.1, S.2.2.1, e) := ⟨H.1, H.2.1, H.2.2⟩
theorem rkOk.er {k : Nat} {S : rkT} {e : Int32} (H : rkOk k S) : rkOk k (S.1, S.2.1, S.2.2.1, e) := ⟨H.1, H.2⟩

set_option maxHeartbeats 4000000 in
theorem O_merge (D : va_G) (cI cS : ClassId) (w : mwT) (ox om : Nat) (s s2 : Int32) (hI : INV cI cS ox om w) : mMi yX6_merge cX6_merge 5 (some .int) (rmL 98) [.ref ox, .int s, .int s2] D cI cS w (fun r w1 => ((∃ vs : List Value, w1 om = some (.inr (6, vs))) ∧ mMi yX7_merge cX7_merge 6 (some .int) (rmL 98) [.ref om, .int s, .int s2] D cI cS w1 (fun r2 w2 => r2 = r ∧ INV cI cS ox om w2))) := by
  obtain ⟨as, md, aso, asi, ase, ato, amo, alo, aro, asr, th, g0, so, si, se, mo, to, lo, ro, sr, tg, hIN⟩ := hI
  have hIN0 := hIN
  obtain ⟨hmd, hox, has, hom, h_aso, h_asi, h_ase, h_ato, h_amo, h_alo, h_aro, h_asr, t_ox, t_as, t_om, t_aso, t_asi, t_ase, t_ato, t_amo, t_alo, t_aro, t_asr, hS⟩ := hIN
  by_cases hs : ixN md s
  · by_cases hs2 : ixN md s2
    · obtain ⟨a, ha, rfl⟩ := hs
      obtain ⟨b2, hb, rfl⟩ := hs2
      obtain ⟨h0, hg, hk⟩ := hS a ha
      obtain ⟨h1, hg1, hkk⟩ := hS b2 hb
      by_cases hab : a = b2
      · subst hab
        refine (c_X6_merge_same D cI cS w ox as md g0 a h0 hox has hmd ha hg).mono (fun r w1 z1 => ?_)
        obtain ⟨q1, rfl⟩ := z1
        refine ⟨⟨_, by assumption⟩, (c_X7_merge_same D cI cS w1 om md aso asi ase ato amo alo aro asr th a hom hmd ha).mono (fun r2 w2 z2 => ?_)⟩
        obtain ⟨q2, y1, y2⟩ := z2
        exact ⟨q2.trans q1.symm, hIN0.rd y1 y2⟩
      · obtain ⟨cb, fb, g1, g2, g3, g4, g5, g6⟩ := hkk.gen
        obtain ⟨ca, fa, k1, k2, k3, k4, k5, k6⟩ := hk.gen
        by_cases hlk : so a = so b2 ∧ si a = si b2 ∧ se a = se b2
        · rcases hk with H | H | H | H | H
          · obtain ⟨ak, an, k, sd, h, mv, tot, f, g, u, vn, hh, h_ak, h_an, t_h0, t_ak, t_an, hs0, hk1, hk2, hmv, hso, hsi, hse, hto, hmo, hh2, hv, hvn, hR⟩ := H
            rcases hkk with G | G | G | G | G
            · obtain ⟨ak2, an2, k2, sd2, h2, mv2, tot2, f2, g2, u2, vn2, hh1, h_ak2, h_an2, t_h1, t_ak2, t_an2, gs0, gk1, gk2, gmv, gso, gsi, gse, gto, gmo, gh2, gv, gvn, gR⟩ := G
              have ek : k = k2 := by omega
              have es : sd = sd2 := by omega
              subst ek
              subst es
              by_cases hm : mv + mv2 ≤ 10000000
              · refine (c_X6_merge_H D cI cS w ox as md a g0 b2 h0 ak an k sd h mv tot (lo a) f g h1 ak2 an2 h2 mv2 tot2 (lo b2) f2 g2 hox has hh h_ak h_an hh1 h_ak2 h_an2 hmd ha hg hs0 hk1 hk2 hh2 (tne t_ak t_an (by omega)) hmv gmv hb hg1 hab gh2 (tne t_ak t_ak2 (by omega)) (tne t_ak t_an2 (by omega)) (tne t_an t_ak2 (by omega)) (tne t_an t_an2 (by omega)) (tne t_h0 t_h1 (by omega)) (tne t_ak2 t_an2 (by omega))).mono (fun r w1 z1 => ?_)
                rcases z1 with ⟨a7, a8, a9⟩ | ⟨a7, a8, c_h0, c_ak, c_an, xf1⟩
                · omega
                · have h_w1_ox : w1 ox = some (.inr (5, [.ref as, .int (nI md)])) := (xf1 ox (tne t_ox t_h0 (by omega)) (tne t_ox t_ak (by omega)) (tne t_ox t_an (by omega))).trans hox
                  have h_w1_as : w1 as = some (eR cS 8 g0) := (xf1 as (tne t_as t_h0 (by omega)) (tne t_as t_ak (by omega)) (tne t_as t_an (by omega))).trans has
                  have h_w1_om : w1 om = some (.inr (6, [.int th, .int (nI md), .ref aso, .ref asi, .ref ase, .ref ato, .ref amo, .ref alo, .ref aro, .ref asr])) := (xf1 om (tne t_om t_h0 (by omega)) (tne t_om t_ak (by omega)) (tne t_om t_an (by omega))).trans hom
                  have h_w1_aso : w1 aso = some (eI cI 8 (lnF so)) := (xf1 aso (tne t_aso t_h0 (by omega)) (tne t_aso t_ak (by omega)) (tne t_aso t_an (by omega))).trans h_aso
                  have h_w1_asi : w1 asi = some (eI cI 8 (lnF si)) := (xf1 asi (tne t_asi t_h0 (by omega)) (tne t_asi t_ak (by omega)) (tne t_asi t_an (by omega))).trans h_asi
                  have h_w1_ase : w1 ase = some (eI cI 8 (lnF se)) := (xf1 ase (tne t_ase t_h0 (by omega)) (tne t_ase t_ak (by omega)) (tne t_ase t_an (by omega))).trans h_ase
                  have h_w1_ato : w1 ato = some (eI cI 8 to) := (xf1 ato (tne t_ato t_h0 (by omega)) (tne t_ato t_ak (by omega)) (tne t_ato t_an (by omega))).trans h_ato
                  have h_w1_amo : w1 amo = some (eI cI 8 (lnF mo)) := (xf1 amo (tne t_amo t_h0 (by omega)) (tne t_amo t_ak (by omega)) (tne t_amo t_an (by omega))).trans h_amo
                  have h_w1_alo : w1 alo = some (eI cI 8 lo) := (xf1 alo (tne t_alo t_h0 (by omega)) (tne t_alo t_ak (by omega)) (tne t_alo t_an (by omega))).trans h_alo
                  have h_w1_aro : w1 aro = some (eI cI 9600 ro) := (xf1 aro (tne t_aro t_h0 (by omega)) (tne t_aro t_ak (by omega)) (tne t_aro t_an (by omega))).trans h_aro
                  have h_w1_asr : w1 asr = some (eI cI 1024 sr) := (xf1 asr (tne t_asr t_h0 (by omega)) (tne t_asr t_ak (by omega)) (tne t_asr t_an (by omega))).trans h_asr
                  refine ⟨⟨_, by assumption⟩, (c_X7_merge_H D cI cS w1 om md aso asi ase ato amo alo aro asr th so si se to mo lo ro sr tg a h k sd mv tot u (lnF vn) b2 h2 mv2 tot2 u2 (lnF vn2) h_w1_om h_w1_aso h_w1_asi h_w1_ase h_w1_ato h_w1_amo h_w1_alo h_w1_aro h_w1_asr hmd ha hs0 hso hsi hse hto hmo hk1 hk2 hh2 hv hb hab gso gsi gse gto gmo hmv gmv gv gh2 (fun q => ahU_ex (HvR.jbd hR gR hm) q) t_aso t_asi t_ase t_ato t_amo t_alo t_aro t_asr).mono (fun r2 w2 z2 => ?_)⟩
                  rcases z2 with ⟨b7, b8, b9⟩ | ⟨b7, b8, y_om, y_ato, y_amo, ⟨ro1, y_aro, ho1, hv1⟩, xf2⟩
                  · omega
                  · rcases hv1 with ⟨d1, d2, y_alo⟩ | ⟨d1, kz, d2, d3, d4, y_alo⟩
                    · obtain ⟨hR1, hE1, hE2⟩ := HvR.merge1 (k := k) (lo := lo a) (lo2 := lo b2) hR gR hm d1
                      have hE3 : (mgH k f2 g2 h2 (lo b2) (f, g, h) (lo a)).1.2.2 ≤ k := by rw [hE1]; exact d1
                      rw [← hE1] at d2
                      have h_w2_ox : w2 ox = some (.inr (5, [.ref as, .int (nI md)])) := (xf2 ox (tne t_ox t_om (by omega)) (tne t_ox t_aro (by omega)) (tne t_ox t_alo (by omega)) (tne t_ox t_ato (by omega)) (tne t_ox t_amo (by omega))).trans h_w1_ox
                      have h_w2_as : w2 as = some (eR cS 8 g0) := (xf2 as (tne t_as t_om (by omega)) (tne t_as t_aro (by omega)) (tne t_as t_alo (by omega)) (tne t_as t_ato (by omega)) (tne t_as t_amo (by omega))).trans h_w1_as
                      have h_w2_aso : w2 aso = some (eI cI 8 (lnF so)) := (xf2 aso (tne t_aso t_om (by omega)) (tne t_aso t_aro (by omega)) (tne t_aso t_alo (by omega)) (tne t_aso t_ato (by omega)) (tne t_aso t_amo (by omega))).trans h_w1_aso
                      have h_w2_asi : w2 asi = some (eI cI 8 (lnF si)) := (xf2 asi (tne t_asi t_om (by omega)) (tne t_asi t_aro (by omega)) (tne t_asi t_alo (by omega)) (tne t_asi t_ato (by omega)) (tne t_asi t_amo (by omega))).trans h_w1_asi
                      have h_w2_ase : w2 ase = some (eI cI 8 (lnF se)) := (xf2 ase (tne t_ase t_om (by omega)) (tne t_ase t_aro (by omega)) (tne t_ase t_alo (by omega)) (tne t_ase t_ato (by omega)) (tne t_ase t_amo (by omega))).trans h_w1_ase
                      have h_w2_asr : w2 asr = some (eI cI 1024 sr) := (xf2 asr (tne t_asr t_om (by omega)) (tne t_asr t_aro (by omega)) (tne t_asr t_alo (by omega)) (tne t_asr t_ato (by omega)) (tne t_asr t_amo (by omega))).trans h_w1_asr
                      have h_w2_h0 : w2 h0 = some (.inr (1, [.int (nI 0), .int (nI k), .int (nI sd), .int (tot + tot2), .int (nI (mv + mv2)), .ref ak, .ref an, .int (nI ((mgH k f2 g2 h2 (lo b2) (f, g, h) (lo a)).1.2.2)), .int ((mgH k f2 g2 h2 (lo b2) (f, g, h) (lo a)).2)])) := (xf2 h0 (tne t_h0 t_om (by omega)) (tne t_h0 t_aro (by omega)) (tne t_h0 t_alo (by omega)) (tne t_h0 t_ato (by omega)) (tne t_h0 t_amo (by omega))).trans c_h0
                      have h_w2_ak : w2 ak = some (eI cI (2 * k) ((mgH k f2 g2 h2 (lo b2) (f, g, h) (lo a)).1.1)) := (xf2 ak (tne t_ak t_om (by omega)) (tne t_ak t_aro (by omega)) (tne t_ak t_alo (by omega)) (tne t_ak t_ato (by omega)) (tne t_ak t_amo (by omega))).trans c_ak
                      have h_w2_an : w2 an = some (eI cI (2 * k) ((mgH k f2 g2 h2 (lo b2) (f, g, h) (lo a)).1.2.1)) := (xf2 an (tne t_an t_om (by omega)) (tne t_an t_aro (by omega)) (tne t_an t_alo (by omega)) (tne t_an t_ato (by omega)) (tne t_an t_amo (by omega))).trans c_an
                      refine ⟨b8.trans a8.symm, hIN0.ch h_w2_ox h_w2_as y_om h_w2_aso h_w2_asi h_w2_ase y_ato y_amo y_alo y_aro h_w2_asr ha hg (Or.inl ⟨ak, an, k, sd, (mgH k f2 g2 h2 (lo b2) (f, g, h) (lo a)).1.2.2, (mv + mv2), (tot + tot2), (mgH k f2 g2 h2 (lo b2) (f, g, h) (lo a)).1.1, (mgH k f2 g2 h2 (lo b2) (f, g, h) (lo a)).1.2.1, (jnU u2 (lnF vn2) (u, lnF vn, h) h2).1, gnOf (jnU u2 (lnF vn2) (u, lnF vn, h) h2).2.1, by rw [upd_same, ← hE2]; exact h_w2_h0, h_w2_ak, h_w2_an, t_h0, t_ak, t_an, hs0, hk1, hk2, hm, hso, hsi, hse, upd_same _ _ _, updN_eq _ _ _, hE3, d2.gn (hR1.2.2.2.bd hR1.2.1), hR1.hvn, hR1.gn⟩) (fun z hz h1 h2 => (xf2 z (fun e => by rw [e, t_om] at h1 h2; omega) (fun e => by rw [e, t_aro] at h1 h2; omega) (fun e => by rw [e, t_alo] at h1 h2; omega) (fun e => by rw [e, t_ato] at h1 h2; omega) (fun e => by rw [e, t_amo] at h1 h2; omega)).trans (xf1 z (fun e => by rw [e, t_h0] at h1 h2; omega) (fun e => by rw [e, t_ak] at h1 h2; omega) (fun e => by rw [e, t_an] at h1 h2; omega))) (fun j hj => updN_ne hj) (fun j hj => upd_ne2 hj) (fun j hj => upd_ne2 hj) ho1⟩
                    · obtain ⟨hR1, hE1, hE2, hE3⟩ := HvR.merge2 (k := k) (lo := lo a) (lo2 := lo b2) hR gR hm d1 d2 d3
                      rw [← hE1] at d4
                      have h_w2_ox : w2 ox = some (.inr (5, [.ref as, .int (nI md)])) := (xf2 ox (tne t_ox t_om (by omega)) (tne t_ox t_aro (by omega)) (tne t_ox t_alo (by omega)) (tne t_ox t_ato (by omega)) (tne t_ox t_amo (by omega))).trans h_w1_ox
                      have h_w2_as : w2 as = some (eR cS 8 g0) := (xf2 as (tne t_as t_om (by omega)) (tne t_as t_aro (by omega)) (tne t_as t_alo (by omega)) (tne t_as t_ato (by omega)) (tne t_as t_amo (by omega))).trans h_w1_as
                      have h_w2_aso : w2 aso = some (eI cI 8 (lnF so)) := (xf2 aso (tne t_aso t_om (by omega)) (tne t_aso t_aro (by omega)) (tne t_aso t_alo (by omega)) (tne t_aso t_ato (by omega)) (tne t_aso t_amo (by omega))).trans h_w1_aso
                      have h_w2_asi : w2 asi = some (eI cI 8 (lnF si)) := (xf2 asi (tne t_asi t_om (by omega)) (tne t_asi t_aro (by omega)) (tne t_asi t_alo (by omega)) (tne t_asi t_ato (by omega)) (tne t_asi t_amo (by omega))).trans h_w1_asi
                      have h_w2_ase : w2 ase = some (eI cI 8 (lnF se)) := (xf2 ase (tne t_ase t_om (by omega)) (tne t_ase t_aro (by omega)) (tne t_ase t_alo (by omega)) (tne t_ase t_ato (by omega)) (tne t_ase t_amo (by omega))).trans h_w1_ase
                      have h_w2_asr : w2 asr = some (eI cI 1024 sr) := (xf2 asr (tne t_asr t_om (by omega)) (tne t_asr t_aro (by omega)) (tne t_asr t_alo (by omega)) (tne t_asr t_ato (by omega)) (tne t_asr t_amo (by omega))).trans h_w1_asr
                      have h_w2_h0 : w2 h0 = some (.inr (1, [.int (nI 0), .int (nI k), .int (nI sd), .int (tot + tot2), .int (nI (mv + mv2)), .ref ak, .ref an, .int (nI ((mgH k f2 g2 h2 (lo b2) (f, g, h) (lo a)).1.2.2)), .int ((mgH k f2 g2 h2 (lo b2) (f, g, h) (lo a)).2)])) := (xf2 h0 (tne t_h0 t_om (by omega)) (tne t_h0 t_aro (by omega)) (tne t_h0 t_alo (by omega)) (tne t_h0 t_ato (by omega)) (tne t_h0 t_amo (by omega))).trans c_h0
                      have h_w2_ak : w2 ak = some (eI cI (2 * k) ((mgH k f2 g2 h2 (lo b2) (f, g, h) (lo a)).1.1)) := (xf2 ak (tne t_ak t_om (by omega)) (tne t_ak t_aro (by omega)) (tne t_ak t_alo (by omega)) (tne t_ak t_ato (by omega)) (tne t_ak t_amo (by omega))).trans c_ak
                      have h_w2_an : w2 an = some (eI cI (2 * k) ((mgH k f2 g2 h2 (lo b2) (f, g, h) (lo a)).1.2.1)) := (xf2 an (tne t_an t_om (by omega)) (tne t_an t_aro (by omega)) (tne t_an t_alo (by omega)) (tne t_an t_ato (by omega)) (tne t_an t_amo (by omega))).trans c_an
                      refine ⟨b8.trans a8.symm, hIN0.ch h_w2_ox h_w2_as y_om h_w2_aso h_w2_asi h_w2_ase y_ato y_amo y_alo y_aro h_w2_asr ha hg (Or.inl ⟨ak, an, k, sd, (mgH k f2 g2 h2 (lo b2) (f, g, h) (lo a)).1.2.2, (mv + mv2), (tot + tot2), (mgH k f2 g2 h2 (lo b2) (f, g, h) (lo a)).1.1, (mgH k f2 g2 h2 (lo b2) (f, g, h) (lo a)).1.2.1, (lessU (jnU u2 (lnF vn2) (u, lnF vn, h) h2).1 (jnU u2 (lnF vn2) (u, lnF vn, h) h2).2.1 ((jnU u2 (lnF vn2) (u, lnF vn, h) h2).2.1 kz) (jnU u2 (lnF vn2) (u, lnF vn, h) h2).2.2).1, gnOf (lessU (jnU u2 (lnF vn2) (u, lnF vn, h) h2).1 (jnU u2 (lnF vn2) (u, lnF vn, h) h2).2.1 ((jnU u2 (lnF vn2) (u, lnF vn, h) h2).2.1 kz) (jnU u2 (lnF vn2) (u, lnF vn, h) h2).2.2).2.1, by rw [upd_same, ← hE2]; exact h_w2_h0, h_w2_ak, h_w2_an, t_h0, t_ak, t_an, hs0, hk1, hk2, hm, hso, hsi, hse, upd_same _ _ _, updN_eq _ _ _, hE3, d4.gn (hR1.2.2.2.bd hR1.2.1), hR1.hvn, hR1.gn⟩) (fun z hz h1 h2 => (xf2 z (fun e => by rw [e, t_om] at h1 h2; omega) (fun e => by rw [e, t_aro] at h1 h2; omega) (fun e => by rw [e, t_alo] at h1 h2; omega) (fun e => by rw [e, t_ato] at h1 h2; omega) (fun e => by rw [e, t_amo] at h1 h2; omega)).trans (xf1 z (fun e => by rw [e, t_h0] at h1 h2; omega) (fun e => by rw [e, t_ak] at h1 h2; omega) (fun e => by rw [e, t_an] at h1 h2; omega))) (fun j hj => updN_ne hj) (fun j hj => upd_ne2 hj) (fun j hj => upd_ne2 hj) ho1⟩
              · refine (c_X6_merge_H D cI cS w ox as md a g0 b2 h0 ak an k sd h mv tot (lo a) f g h1 ak2 an2 h2 mv2 tot2 (lo b2) f2 g2 hox has hh h_ak h_an hh1 h_ak2 h_an2 hmd ha hg hs0 hk1 hk2 hh2 (tne t_ak t_an (by omega)) hmv gmv hb hg1 hab gh2 (tne t_ak t_ak2 (by omega)) (tne t_ak t_an2 (by omega)) (tne t_an t_ak2 (by omega)) (tne t_an t_an2 (by omega)) (tne t_h0 t_h1 (by omega)) (tne t_ak2 t_an2 (by omega))).mono (fun r w1 z1 => ?_)
                rcases z1 with ⟨a7, a8, rfl⟩ | ⟨a7, a8⟩
                · refine ⟨⟨_, by assumption⟩, (c_X7_merge_full D cI cS w1 om md aso asi ase ato amo alo aro asr th so si se mo a b2 hom h_aso h_asi h_ase h_amo hmd ha hb hab hlk (by omega) (by omega) (by omega) (by omega) (by omega)).mono (fun r2 w2 z2 => ?_)⟩
                  obtain ⟨q2, y1, y2⟩ := z2
                  exact ⟨q2.trans a8.symm, hIN0.rd y1 y2⟩
                · omega
            · obtain ⟨_, _, _, _, _, _, _, _, _, _, _, _, _, _, gso, _, _, _, _, _, _, _⟩ := G
              omega
            · obtain ⟨_, _, _, _, _, _, _, _, _, _, _, _, _, _, gso, _, _, _, _, _, _⟩ := G
              omega
            · obtain ⟨_, _, _, _, _, _, _, _, _, _, _, _, _, _, _, _, gso, _, _, _, _, _, _, _, _⟩ := G
              omega
            · obtain ⟨_, _, _, _, _, _, _, _, _, _, _, _, _, _, _, _, _, _, _, _, _, _, _, _, _, gso, _, _, _, _, _, _, _, _, _⟩ := G
              omega
          · obtain ⟨ab, c, sd, mv, tot, f, hh, h_ab, t_h0, t_ab, hs0, hc1, hc2, hmv, hso, hsi, hse, hto, hmo, hlo, hv, hB⟩ := H
            rcases hkk with G | G | G | G | G
            · obtain ⟨_, _, _, _, _, _, _, _, _, _, _, _, _, _, _, _, _, _, _, _, _, gso, _, _, _, _, _, _, _, _⟩ := G
              omega
            · obtain ⟨ab2, c2, sd2, mv2, tot2, f2, hh1, h_ab2, t_h1, t_ab2, gs0, gc1, gc2, gmv, gso, gsi, gse, gto, gmo, glo, gv, gB⟩ := G
              have ek : c = c2 := by omega
              have es : sd = sd2 := by omega
              subst ek
              subst es
              by_cases hm : mv + mv2 ≤ 10000000
              · refine (c_X6_merge_T D cI cS w ox as md a g0 b2 h0 ab c sd mv tot f h1 ab2 mv2 tot2 f2 hox has hh h_ab hh1 h_ab2 hmd ha hg hs0 hc1 hc2 hmv gmv hb hg1 hab (tne t_ab t_ab2 (by omega)) (tne t_h0 t_h1 (by omega)) ).mono (fun r w1 z1 => ?_)
                rcases z1 with ⟨a7, a8, a9⟩ | ⟨a7, a8, c_h0, c_ab, xf1⟩
                · omega
                · have h_w1_ox : w1 ox = some (.inr (5, [.ref as, .int (nI md)])) := (xf1 ox (tne t_ox t_h0 (by omega)) (tne t_ox t_ab (by omega))).trans hox
                  have h_w1_as : w1 as = some (eR cS 8 g0) := (xf1 as (tne t_as t_h0 (by omega)) (tne t_as t_ab (by omega))).trans has
                  have h_w1_om : w1 om = some (.inr (6, [.int th, .int (nI md), .ref aso, .ref asi, .ref ase, .ref ato, .ref amo, .ref alo, .ref aro, .ref asr])) := (xf1 om (tne t_om t_h0 (by omega)) (tne t_om t_ab (by omega))).trans hom
                  have h_w1_aso : w1 aso = some (eI cI 8 (lnF so)) := (xf1 aso (tne t_aso t_h0 (by omega)) (tne t_aso t_ab (by omega))).trans h_aso
                  have h_w1_asi : w1 asi = some (eI cI 8 (lnF si)) := (xf1 asi (tne t_asi t_h0 (by omega)) (tne t_asi t_ab (by omega))).trans h_asi
                  have h_w1_ase : w1 ase = some (eI cI 8 (lnF se)) := (xf1 ase (tne t_ase t_h0 (by omega)) (tne t_ase t_ab (by omega))).trans h_ase
                  have h_w1_ato : w1 ato = some (eI cI 8 to) := (xf1 ato (tne t_ato t_h0 (by omega)) (tne t_ato t_ab (by omega))).trans h_ato
                  have h_w1_amo : w1 amo = some (eI cI 8 (lnF mo)) := (xf1 amo (tne t_amo t_h0 (by omega)) (tne t_amo t_ab (by omega))).trans h_amo
                  have h_w1_alo : w1 alo = some (eI cI 8 lo) := (xf1 alo (tne t_alo t_h0 (by omega)) (tne t_alo t_ab (by omega))).trans h_alo
                  have h_w1_aro : w1 aro = some (eI cI 9600 ro) := (xf1 aro (tne t_aro t_h0 (by omega)) (tne t_aro t_ab (by omega))).trans h_aro
                  have h_w1_asr : w1 asr = some (eI cI 1024 sr) := (xf1 asr (tne t_asr t_h0 (by omega)) (tne t_asr t_ab (by omega))).trans h_asr
                  refine ⟨⟨_, by assumption⟩, (c_X7_merge_T D cI cS w1 om md aso asi ase ato amo alo aro asr th so si se to mo lo ro sr tg a c sd mv tot f b2 mv2 tot2 f2 h_w1_om h_w1_aso h_w1_asi h_w1_ase h_w1_ato h_w1_amo h_w1_alo h_w1_aro h_w1_asr hmd ha hs0 hso hsi hse hto hmo hc1 hc2 hv hlo hb hab gso gsi gse gto gmo hmv gmv gv t_aso t_asi t_ase t_ato t_amo t_alo t_aro t_asr).mono (fun r2 w2 z2 => ?_)⟩
                  rcases z2 with ⟨b7, b8, b9⟩ | ⟨b7, b8, y_om, y_ato, y_amo, ⟨ro1, y_aro, ho1, hv1⟩, xf2⟩
                  · omega
                  · have h_w2_ox : w2 ox = some (.inr (5, [.ref as, .int (nI md)])) := (xf2 ox (tne t_ox t_om (by omega)) (tne t_ox t_aro (by omega)) (tne t_ox t_ato (by omega)) (tne t_ox t_amo (by omega))).trans h_w1_ox
                    have h_w2_as : w2 as = some (eR cS 8 g0) := (xf2 as (tne t_as t_om (by omega)) (tne t_as t_aro (by omega)) (tne t_as t_ato (by omega)) (tne t_as t_amo (by omega))).trans h_w1_as
                    have h_w2_aso : w2 aso = some (eI cI 8 (lnF so)) := (xf2 aso (tne t_aso t_om (by omega)) (tne t_aso t_aro (by omega)) (tne t_aso t_ato (by omega)) (tne t_aso t_amo (by omega))).trans h_w1_aso
                    have h_w2_asi : w2 asi = some (eI cI 8 (lnF si)) := (xf2 asi (tne t_asi t_om (by omega)) (tne t_asi t_aro (by omega)) (tne t_asi t_ato (by omega)) (tne t_asi t_amo (by omega))).trans h_w1_asi
                    have h_w2_ase : w2 ase = some (eI cI 8 (lnF se)) := (xf2 ase (tne t_ase t_om (by omega)) (tne t_ase t_aro (by omega)) (tne t_ase t_ato (by omega)) (tne t_ase t_amo (by omega))).trans h_w1_ase
                    have h_w2_alo : w2 alo = some (eI cI 8 lo) := (xf2 alo (tne t_alo t_om (by omega)) (tne t_alo t_aro (by omega)) (tne t_alo t_ato (by omega)) (tne t_alo t_amo (by omega))).trans h_w1_alo
                    have h_w2_asr : w2 asr = some (eI cI 1024 sr) := (xf2 asr (tne t_asr t_om (by omega)) (tne t_asr t_aro (by omega)) (tne t_asr t_ato (by omega)) (tne t_asr t_amo (by omega))).trans h_w1_asr
                    have h_w2_h0 : w2 h0 = some (.inr (4, [.int (nI 1), .int (nI c), .int (nI sd), .int (tot + tot2), .int (nI (mv + mv2)), .ref ab])) := (xf2 h0 (tne t_h0 t_om (by omega)) (tne t_h0 t_aro (by omega)) (tne t_h0 t_ato (by omega)) (tne t_h0 t_amo (by omega))).trans c_h0
                    have h_w2_ab : w2 ab = some (eI cI (4 * c) (jnA f f2 (4 * c))) := (xf2 ab (tne t_ab t_om (by omega)) (tne t_ab t_aro (by omega)) (tne t_ab t_ato (by omega)) (tne t_ab t_amo (by omega))).trans c_ab
                    refine ⟨b8.trans a8.symm, hIN0.ch h_w2_ox h_w2_as y_om h_w2_aso h_w2_asi h_w2_ase y_ato y_amo h_w2_alo y_aro h_w2_asr ha hg (Or.inr (Or.inl ⟨ab, c, sd, (mv + mv2), (tot + tot2), jnA f f2 (4 * c), h_w2_h0, h_w2_ab, t_h0, t_ab, hs0, hc1, hc2, hm, hso, hsi, hse, upd_same _ _ _, updN_eq _ _ _, hlo, hv1, hB.join gB hm⟩)) (fun z hz h1 h2 => (xf2 z (fun e => by rw [e, t_om] at h1 h2; omega) (fun e => by rw [e, t_aro] at h1 h2; omega) (fun e => by rw [e, t_ato] at h1 h2; omega) (fun e => by rw [e, t_amo] at h1 h2; omega)).trans (xf1 z (fun e => by rw [e, t_h0] at h1 h2; omega) (fun e => by rw [e, t_ab] at h1 h2; omega))) (fun j hj => updN_ne hj) (fun j hj => upd_ne2 hj) (fun j hj => rfl) ho1⟩
              · refine (c_X6_merge_T D cI cS w ox as md a g0 b2 h0 ab c sd mv tot f h1 ab2 mv2 tot2 f2 hox has hh h_ab hh1 h_ab2 hmd ha hg hs0 hc1 hc2 hmv gmv hb hg1 hab (tne t_ab t_ab2 (by omega)) (tne t_h0 t_h1 (by omega)) ).mono (fun r w1 z1 => ?_)
                rcases z1 with ⟨a7, a8, rfl⟩ | ⟨a7, a8⟩
                · refine ⟨⟨_, by assumption⟩, (c_X7_merge_full D cI cS w1 om md aso asi ase ato amo alo aro asr th so si se mo a b2 hom h_aso h_asi h_ase h_amo hmd ha hb hab hlk (by omega) (by omega) (by omega) (by omega) (by omega)).mono (fun r2 w2 z2 => ?_)⟩
                  obtain ⟨q2, y1, y2⟩ := z2
                  exact ⟨q2.trans a8.symm, hIN0.rd y1 y2⟩
                · omega
            · obtain ⟨_, _, _, _, _, _, _, _, _, _, _, _, _, _, gso, _, _, _, _, _, _⟩ := G
              omega
            · obtain ⟨_, _, _, _, _, _, _, _, _, _, _, _, _, _, _, _, gso, _, _, _, _, _, _, _, _⟩ := G
              omega
            · obtain ⟨_, _, _, _, _, _, _, _, _, _, _, _, _, _, _, _, _, _, _, _, _, _, _, _, _, gso, _, _, _, _, _, _, _, _, _⟩ := G
              omega
          · obtain ⟨ab, b, sd, mv, tot, f, hh, h_ab, t_h0, t_ab, hs0, hb1, hb2, hmv, hso, hsi, hse, hto, hmo, hlo, hv⟩ := H
            rcases hkk with G | G | G | G | G
            · obtain ⟨_, _, _, _, _, _, _, _, _, _, _, _, _, _, _, _, _, _, _, _, _, gso, _, _, _, _, _, _, _, _⟩ := G
              omega
            · obtain ⟨_, _, _, _, _, _, _, _, _, _, _, _, _, _, gso, _, _, _, _, _, _, _⟩ := G
              omega
            · obtain ⟨ab2, b22, sd2, mv2, tot2, f2, hh1, h_ab2, t_h1, t_ab2, gs0, gb1, gb2, gmv, gso, gsi, gse, gto, gmo, glo, gv⟩ := G
              have ek : b = b22 := by omega
              have es : sd = sd2 := by omega
              subst ek
              subst es
              by_cases hm : mv + mv2 ≤ 10000000
              · refine (c_X6_merge_F D cI cS w ox as md a g0 b2 h0 ab b sd mv tot f h1 ab2 mv2 tot2 f2 hox has hh h_ab hh1 h_ab2 hmd ha hg hs0 hb1 hb2 hmv gmv hb hg1 hab (tne t_ab t_ab2 (by omega)) (tne t_h0 t_h1 (by omega)) ).mono (fun r w1 z1 => ?_)
                rcases z1 with ⟨a7, a8, a9⟩ | ⟨a7, a8, c_h0, c_ab, xf1⟩
                · omega
                · have h_w1_ox : w1 ox = some (.inr (5, [.ref as, .int (nI md)])) := (xf1 ox (tne t_ox t_h0 (by omega)) (tne t_ox t_ab (by omega))).trans hox
                  have h_w1_as : w1 as = some (eR cS 8 g0) := (xf1 as (tne t_as t_h0 (by omega)) (tne t_as t_ab (by omega))).trans has
                  have h_w1_om : w1 om = some (.inr (6, [.int th, .int (nI md), .ref aso, .ref asi, .ref ase, .ref ato, .ref amo, .ref alo, .ref aro, .ref asr])) := (xf1 om (tne t_om t_h0 (by omega)) (tne t_om t_ab (by omega))).trans hom
                  have h_w1_aso : w1 aso = some (eI cI 8 (lnF so)) := (xf1 aso (tne t_aso t_h0 (by omega)) (tne t_aso t_ab (by omega))).trans h_aso
                  have h_w1_asi : w1 asi = some (eI cI 8 (lnF si)) := (xf1 asi (tne t_asi t_h0 (by omega)) (tne t_asi t_ab (by omega))).trans h_asi
                  have h_w1_ase : w1 ase = some (eI cI 8 (lnF se)) := (xf1 ase (tne t_ase t_h0 (by omega)) (tne t_ase t_ab (by omega))).trans h_ase
                  have h_w1_ato : w1 ato = some (eI cI 8 to) := (xf1 ato (tne t_ato t_h0 (by omega)) (tne t_ato t_ab (by omega))).trans h_ato
                  have h_w1_amo : w1 amo = some (eI cI 8 (lnF mo)) := (xf1 amo (tne t_amo t_h0 (by omega)) (tne t_amo t_ab (by omega))).trans h_amo
                  have h_w1_alo : w1 alo = some (eI cI 8 lo) := (xf1 alo (tne t_alo t_h0 (by omega)) (tne t_alo t_ab (by omega))).trans h_alo
                  have h_w1_aro : w1 aro = some (eI cI 9600 ro) := (xf1 aro (tne t_aro t_h0 (by omega)) (tne t_aro t_ab (by omega))).trans h_aro
                  have h_w1_asr : w1 asr = some (eI cI 1024 sr) := (xf1 asr (tne t_asr t_h0 (by omega)) (tne t_asr t_ab (by omega))).trans h_asr
                  refine ⟨⟨_, by assumption⟩, (c_X7_merge_F D cI cS w1 om md aso asi ase ato amo alo aro asr th so si se to mo lo ro sr tg a b sd mv tot f b2 mv2 tot2 f2 h_w1_om h_w1_aso h_w1_asi h_w1_ase h_w1_ato h_w1_amo h_w1_alo h_w1_aro h_w1_asr hmd ha hs0 hso hsi hse hto hmo hb1 hb2 hv hlo hb hab gso gsi gse gto gmo hmv gmv gv t_aso t_asi t_ase t_ato t_amo t_alo t_aro t_asr).mono (fun r2 w2 z2 => ?_)⟩
                  rcases z2 with ⟨b7, b8, b9⟩ | ⟨b7, b8, y_om, y_ato, y_amo, ⟨ro1, y_aro, ho1, hv1⟩, xf2⟩
                  · omega
                  · have h_w2_ox : w2 ox = some (.inr (5, [.ref as, .int (nI md)])) := (xf2 ox (tne t_ox t_om (by omega)) (tne t_ox t_aro (by omega)) (tne t_ox t_ato (by omega)) (tne t_ox t_amo (by omega))).trans h_w1_ox
                    have h_w2_as : w2 as = some (eR cS 8 g0) := (xf2 as (tne t_as t_om (by omega)) (tne t_as t_aro (by omega)) (tne t_as t_ato (by omega)) (tne t_as t_amo (by omega))).trans h_w1_as
                    have h_w2_aso : w2 aso = some (eI cI 8 (lnF so)) := (xf2 aso (tne t_aso t_om (by omega)) (tne t_aso t_aro (by omega)) (tne t_aso t_ato (by omega)) (tne t_aso t_amo (by omega))).trans h_w1_aso
                    have h_w2_asi : w2 asi = some (eI cI 8 (lnF si)) := (xf2 asi (tne t_asi t_om (by omega)) (tne t_asi t_aro (by omega)) (tne t_asi t_ato (by omega)) (tne t_asi t_amo (by omega))).trans h_w1_asi
                    have h_w2_ase : w2 ase = some (eI cI 8 (lnF se)) := (xf2 ase (tne t_ase t_om (by omega)) (tne t_ase t_aro (by omega)) (tne t_ase t_ato (by omega)) (tne t_ase t_amo (by omega))).trans h_w1_ase
                    have h_w2_alo : w2 alo = some (eI cI 8 lo) := (xf2 alo (tne t_alo t_om (by omega)) (tne t_alo t_aro (by omega)) (tne t_alo t_ato (by omega)) (tne t_alo t_amo (by omega))).trans h_w1_alo
                    have h_w2_asr : w2 asr = some (eI cI 1024 sr) := (xf2 asr (tne t_asr t_om (by omega)) (tne t_asr t_aro (by omega)) (tne t_asr t_ato (by omega)) (tne t_asr t_amo (by omega))).trans h_w1_asr
                    have h_w2_h0 : w2 h0 = some (.inr (0, [.int (nI 2), .int (nI b), .int (nI sd), .int (tot + tot2), .int (nI (mv + mv2)), .ref ab])) := (xf2 h0 (tne t_h0 t_om (by omega)) (tne t_h0 t_aro (by omega)) (tne t_h0 t_ato (by omega)) (tne t_h0 t_amo (by omega))).trans c_h0
                    have h_w2_ab : w2 ab = some (eI cI b (jnO f f2 b)) := (xf2 ab (tne t_ab t_om (by omega)) (tne t_ab t_aro (by omega)) (tne t_ab t_ato (by omega)) (tne t_ab t_amo (by omega))).trans c_ab
                    refine ⟨b8.trans a8.symm, hIN0.ch h_w2_ox h_w2_as y_om h_w2_aso h_w2_asi h_w2_ase y_ato y_amo h_w2_alo y_aro h_w2_asr ha hg (Or.inr (Or.inr (Or.inl ⟨ab, b, sd, (mv + mv2), (tot + tot2), jnO f f2 b, h_w2_h0, h_w2_ab, t_h0, t_ab, hs0, hb1, hb2, hm, hso, hsi, hse, upd_same _ _ _, updN_eq _ _ _, hlo, hv1⟩))) (fun z hz h1 h2 => (xf2 z (fun e => by rw [e, t_om] at h1 h2; omega) (fun e => by rw [e, t_aro] at h1 h2; omega) (fun e => by rw [e, t_ato] at h1 h2; omega) (fun e => by rw [e, t_amo] at h1 h2; omega)).trans (xf1 z (fun e => by rw [e, t_h0] at h1 h2; omega) (fun e => by rw [e, t_ab] at h1 h2; omega))) (fun j hj => updN_ne hj) (fun j hj => upd_ne2 hj) (fun j hj => rfl) ho1⟩
              · refine (c_X6_merge_F D cI cS w ox as md a g0 b2 h0 ab b sd mv tot f h1 ab2 mv2 tot2 f2 hox has hh h_ab hh1 h_ab2 hmd ha hg hs0 hb1 hb2 hmv gmv hb hg1 hab (tne t_ab t_ab2 (by omega)) (tne t_h0 t_h1 (by omega)) ).mono (fun r w1 z1 => ?_)
                rcases z1 with ⟨a7, a8, rfl⟩ | ⟨a7, a8⟩
                · refine ⟨⟨_, by assumption⟩, (c_X7_merge_full D cI cS w1 om md aso asi ase ato amo alo aro asr th so si se mo a b2 hom h_aso h_asi h_ase h_amo hmd ha hb hab hlk (by omega) (by omega) (by omega) (by omega) (by omega)).mono (fun r2 w2 z2 => ?_)⟩
                  obtain ⟨q2, y1, y2⟩ := z2
                  exact ⟨q2.trans a8.symm, hIN0.rd y1 y2⟩
                · omega
            · obtain ⟨_, _, _, _, _, _, _, _, _, _, _, _, _, _, _, _, gso, _, _, _, _, _, _, _, _⟩ := G
              omega
            · obtain ⟨_, _, _, _, _, _, _, _, _, _, _, _, _, _, _, _, _, _, _, _, _, _, _, _, _, gso, _, _, _, _, _, _, _, _, _⟩ := G
              omega
          · obtain ⟨ab, k, sd, h, mv, tot, f, u, hh, h_ab, t_h0, t_ab, hs0, hk1, hk2, hmv, hso, hsi, hse, hto, hmo, hlo, hh2, hl, hR⟩ := H
            rcases hkk with G | G | G | G | G
            · obtain ⟨_, _, _, _, _, _, _, _, _, _, _, _, _, _, _, _, _, _, _, _, _, gso, _, _, _, _, _, _, _, _⟩ := G
              omega
            · obtain ⟨_, _, _, _, _, _, _, _, _, _, _, _, _, _, gso, _, _, _, _, _, _, _⟩ := G
              omega
            · obtain ⟨_, _, _, _, _, _, _, _, _, _, _, _, _, _, gso, _, _, _, _, _, _⟩ := G
              omega
            · obtain ⟨ab2, k2, sd2, h2, mv2, tot2, f2, u2, hh1, h_ab2, t_h1, t_ab2, gs0, gk1, gk2, gmv, gso, gsi, gse, gto, gmo, glo, gh2, gl, gR⟩ := G
              have ek : k = k2 := by omega
              have es : sd = sd2 := by omega
              subst ek
              subst es
              by_cases hm : mv + mv2 ≤ 10000000
              · refine (c_X6_merge_L D cI cS w ox as md a g0 b2 h0 ab k sd h mv tot f h1 ab2 h2 mv2 tot2 f2 hox has hh h_ab hh1 h_ab2 hmd ha hg hs0 hk1 hk2 hh2 hmv gmv hb hg1 hab gh2 (tne t_ab t_ab2 (by omega)) (tne t_h0 t_h1 (by omega)) ).mono (fun r w1 z1 => ?_)
                rcases z1 with ⟨a7, a8, a9⟩ | ⟨a7, a8, c_h0, c_ab, xf1⟩
                · omega
                · have h_w1_ox : w1 ox = some (.inr (5, [.ref as, .int (nI md)])) := (xf1 ox (tne t_ox t_h0 (by omega)) (tne t_ox t_ab (by omega))).trans hox
                  have h_w1_as : w1 as = some (eR cS 8 g0) := (xf1 as (tne t_as t_h0 (by omega)) (tne t_as t_ab (by omega))).trans has
                  have h_w1_om : w1 om = some (.inr (6, [.int th, .int (nI md), .ref aso, .ref asi, .ref ase, .ref ato, .ref amo, .ref alo, .ref aro, .ref asr])) := (xf1 om (tne t_om t_h0 (by omega)) (tne t_om t_ab (by omega))).trans hom
                  have h_w1_aso : w1 aso = some (eI cI 8 (lnF so)) := (xf1 aso (tne t_aso t_h0 (by omega)) (tne t_aso t_ab (by omega))).trans h_aso
                  have h_w1_asi : w1 asi = some (eI cI 8 (lnF si)) := (xf1 asi (tne t_asi t_h0 (by omega)) (tne t_asi t_ab (by omega))).trans h_asi
                  have h_w1_ase : w1 ase = some (eI cI 8 (lnF se)) := (xf1 ase (tne t_ase t_h0 (by omega)) (tne t_ase t_ab (by omega))).trans h_ase
                  have h_w1_ato : w1 ato = some (eI cI 8 to) := (xf1 ato (tne t_ato t_h0 (by omega)) (tne t_ato t_ab (by omega))).trans h_ato
                  have h_w1_amo : w1 amo = some (eI cI 8 (lnF mo)) := (xf1 amo (tne t_amo t_h0 (by omega)) (tne t_amo t_ab (by omega))).trans h_amo
                  have h_w1_alo : w1 alo = some (eI cI 8 lo) := (xf1 alo (tne t_alo t_h0 (by omega)) (tne t_alo t_ab (by omega))).trans h_alo
                  have h_w1_aro : w1 aro = some (eI cI 9600 ro) := (xf1 aro (tne t_aro t_h0 (by omega)) (tne t_aro t_ab (by omega))).trans h_aro
                  have h_w1_asr : w1 asr = some (eI cI 1024 sr) := (xf1 asr (tne t_asr t_h0 (by omega)) (tne t_asr t_ab (by omega))).trans h_asr
                  refine ⟨⟨_, by assumption⟩, (c_X7_merge_L D cI cS w1 om md aso asi ase ato amo alo aro asr th so si se to mo lo ro sr tg a h k sd mv tot u b2 h2 mv2 tot2 u2 h_w1_om h_w1_aso h_w1_asi h_w1_ase h_w1_ato h_w1_amo h_w1_alo h_w1_aro h_w1_asr hmd ha hs0 hso hsi hse hto hmo hk1 hk2 hh2 hl hlo hb hab gso gsi gse gto gmo hmv gmv gl gh2 t_aso t_asi t_ase t_ato t_amo t_alo t_aro t_asr).mono (fun r2 w2 z2 => ?_)⟩
                  rcases z2 with ⟨b7, b8, b9⟩ | ⟨b7, b8, y_om, y_ato, y_amo, ⟨ro1, y_aro, ho1, hv1⟩, xf2⟩
                  · omega
                  · obtain ⟨hR1, hE1⟩ := LsR.join (k := k) (by omega) hh2 hR gR
                    have h_w2_ox : w2 ox = some (.inr (5, [.ref as, .int (nI md)])) := (xf2 ox (tne t_ox t_om (by omega)) (tne t_ox t_aro (by omega)) (tne t_ox t_ato (by omega)) (tne t_ox t_amo (by omega))).trans h_w1_ox
                    have h_w2_as : w2 as = some (eR cS 8 g0) := (xf2 as (tne t_as t_om (by omega)) (tne t_as t_aro (by omega)) (tne t_as t_ato (by omega)) (tne t_as t_amo (by omega))).trans h_w1_as
                    have h_w2_aso : w2 aso = some (eI cI 8 (lnF so)) := (xf2 aso (tne t_aso t_om (by omega)) (tne t_aso t_aro (by omega)) (tne t_aso t_ato (by omega)) (tne t_aso t_amo (by omega))).trans h_w1_aso
                    have h_w2_asi : w2 asi = some (eI cI 8 (lnF si)) := (xf2 asi (tne t_asi t_om (by omega)) (tne t_asi t_aro (by omega)) (tne t_asi t_ato (by omega)) (tne t_asi t_amo (by omega))).trans h_w1_asi
                    have h_w2_ase : w2 ase = some (eI cI 8 (lnF se)) := (xf2 ase (tne t_ase t_om (by omega)) (tne t_ase t_aro (by omega)) (tne t_ase t_ato (by omega)) (tne t_ase t_amo (by omega))).trans h_w1_ase
                    have h_w2_alo : w2 alo = some (eI cI 8 lo) := (xf2 alo (tne t_alo t_om (by omega)) (tne t_alo t_aro (by omega)) (tne t_alo t_ato (by omega)) (tne t_alo t_amo (by omega))).trans h_w1_alo
                    have h_w2_asr : w2 asr = some (eI cI 1024 sr) := (xf2 asr (tne t_asr t_om (by omega)) (tne t_asr t_aro (by omega)) (tne t_asr t_ato (by omega)) (tne t_asr t_amo (by omega))).trans h_w1_asr
                    have h_w2_h0 : w2 h0 = some (.inr (2, [.int (nI 3), .int (nI k), .int (nI sd), .int (tot + tot2), .int (nI (mv + mv2)), .ref ab, .int (nI ((jnL k f2 (f, h) h2).2))])) := (xf2 h0 (tne t_h0 t_om (by omega)) (tne t_h0 t_aro (by omega)) (tne t_h0 t_ato (by omega)) (tne t_h0 t_amo (by omega))).trans c_h0
                    have h_w2_ab : w2 ab = some (eI cI k ((jnL k f2 (f, h) h2).1)) := (xf2 ab (tne t_ab t_om (by omega)) (tne t_ab t_aro (by omega)) (tne t_ab t_ato (by omega)) (tne t_ab t_amo (by omega))).trans c_ab
                    refine ⟨b8.trans a8.symm, hIN0.ch h_w2_ox h_w2_as y_om h_w2_aso h_w2_asi h_w2_ase y_ato y_amo h_w2_alo y_aro h_w2_asr ha hg (Or.inr (Or.inr (Or.inr (Or.inl ⟨ab, k, sd, (jnL k f2 (f, h) h2).2, (mv + mv2), (tot + tot2), (jnL k f2 (f, h) h2).1, (jkU k u2 (u, h) h2).1, h_w2_h0, h_w2_ab, t_h0, t_ab, hs0, hk1, hk2, hm, hso, hsi, hse, upd_same _ _ _, updN_eq _ _ _, hlo, jnL_le hh2 h2, by rw [hE1]; exact hv1, hR1⟩)))) (fun z hz h1 h2 => (xf2 z (fun e => by rw [e, t_om] at h1 h2; omega) (fun e => by rw [e, t_aro] at h1 h2; omega) (fun e => by rw [e, t_ato] at h1 h2; omega) (fun e => by rw [e, t_amo] at h1 h2; omega)).trans (xf1 z (fun e => by rw [e, t_h0] at h1 h2; omega) (fun e => by rw [e, t_ab] at h1 h2; omega))) (fun j hj => updN_ne hj) (fun j hj => upd_ne2 hj) (fun j hj => rfl) ho1⟩
              · refine (c_X6_merge_L D cI cS w ox as md a g0 b2 h0 ab k sd h mv tot f h1 ab2 h2 mv2 tot2 f2 hox has hh h_ab hh1 h_ab2 hmd ha hg hs0 hk1 hk2 hh2 hmv gmv hb hg1 hab gh2 (tne t_ab t_ab2 (by omega)) (tne t_h0 t_h1 (by omega)) ).mono (fun r w1 z1 => ?_)
                rcases z1 with ⟨a7, a8, rfl⟩ | ⟨a7, a8⟩
                · refine ⟨⟨_, by assumption⟩, (c_X7_merge_full D cI cS w1 om md aso asi ase ato amo alo aro asr th so si se mo a b2 hom h_aso h_asi h_ase h_amo hmd ha hb hab hlk (by omega) (by omega) (by omega) (by omega) (by omega)).mono (fun r2 w2 z2 => ?_)⟩
                  obtain ⟨q2, y1, y2⟩ := z2
                  exact ⟨q2.trans a8.symm, hIN0.rd y1 y2⟩
                · omega
            · obtain ⟨_, _, _, _, _, _, _, _, _, _, _, _, _, _, _, _, _, _, _, _, _, _, _, _, _, gso, _, _, _, _, _, _, _, _, _⟩ := G
              omega
          · obtain ⟨ak, al, aw, k, sd, mv, e, tot, er, f, ln, tr, hh, h_ak, h_al, h_aw, t_h0, t_ak, t_al, t_aw, hs0, hke, he, hk2, hmv, hso, hsi, hse, hto, hmo, hlo, hok, hln, hr, hwt⟩ := H
            rcases hkk with G | G | G | G | G
            · obtain ⟨_, _, _, _, _, _, _, _, _, _, _, _, _, _, _, _, _, _, _, _, _, gso, _, _, _, _, _, _, _, _⟩ := G
              omega
            · obtain ⟨_, _, _, _, _, _, _, _, _, _, _, _, _, _, gso, _, _, _, _, _, _, _⟩ := G
              omega
            · obtain ⟨_, _, _, _, _, _, _, _, _, _, _, _, _, _, gso, _, _, _, _, _, _⟩ := G
              omega
            · obtain ⟨_, _, _, _, _, _, _, _, _, _, _, _, _, _, _, _, gso, _, _, _, _, _, _, _, _⟩ := G
              omega
            · obtain ⟨ak2, al2, aw2, k2, sd2, mv2, e2, tot2, er2, f2, ln2, tr2, hh1, h_ak2, h_al2, h_aw2, t_h1, t_ak2, t_al2, t_aw2, gs0, gke, ge, gk2, gmv, gso, gsi, gse, gto, gmo, glo, gok, gln, gr, gwt⟩ := G
              have ek : k = k2 := by omega
              have es : sd = sd2 := by omega
              subst ek
              subst es
              by_cases hm : mv + mv2 ≤ 10000000
              · refine (c_X6_merge_R D cI cS w ox as md a g0 b2 h0 ak al aw k sd mv tot er f ln tr h1 ak2 al2 aw2 mv2 tot2 er2 f2 ln2 tr2 hox has hh h_ak h_al h_aw hh1 h_ak2 h_al2 h_aw2 hmd ha hg hs0 (by omega) hk2 (tne t_ak t_al (by omega)) (tne t_ak t_aw (by omega)) (tne t_al t_aw (by omega)) hok hmv gmv hb hg1 hab gok (tne t_ak t_ak2 (by omega)) (tne t_ak t_al2 (by omega)) (tne t_ak t_aw2 (by omega)) (tne t_al t_ak2 (by omega)) (tne t_al t_al2 (by omega)) (tne t_al t_aw2 (by omega)) (tne t_aw t_ak2 (by omega)) (tne t_aw t_al2 (by omega)) (tne t_aw t_aw2 (by omega)) (tne t_h0 t_h1 (by omega)) (tne t_ak2 t_al2 (by omega)) (tne t_ak2 t_aw2 (by omega)) (tne t_al2 t_aw2 (by omega))).mono (fun r w1 z1 => ?_)
                rcases z1 with ⟨a7, a8, a9⟩ | ⟨a7, a8, c_h0, c_ak, c_al, c_aw, xf1⟩
                · omega
                · have h_w1_ox : w1 ox = some (.inr (5, [.ref as, .int (nI md)])) := (xf1 ox (tne t_ox t_h0 (by omega)) (tne t_ox t_ak (by omega)) (tne t_ox t_al (by omega)) (tne t_ox t_aw (by omega))).trans hox
                  have h_w1_as : w1 as = some (eR cS 8 g0) := (xf1 as (tne t_as t_h0 (by omega)) (tne t_as t_ak (by omega)) (tne t_as t_al (by omega)) (tne t_as t_aw (by omega))).trans has
                  have h_w1_om : w1 om = some (.inr (6, [.int th, .int (nI md), .ref aso, .ref asi, .ref ase, .ref ato, .ref amo, .ref alo, .ref aro, .ref asr])) := (xf1 om (tne t_om t_h0 (by omega)) (tne t_om t_ak (by omega)) (tne t_om t_al (by omega)) (tne t_om t_aw (by omega))).trans hom
                  have h_w1_aso : w1 aso = some (eI cI 8 (lnF so)) := (xf1 aso (tne t_aso t_h0 (by omega)) (tne t_aso t_ak (by omega)) (tne t_aso t_al (by omega)) (tne t_aso t_aw (by omega))).trans h_aso
                  have h_w1_asi : w1 asi = some (eI cI 8 (lnF si)) := (xf1 asi (tne t_asi t_h0 (by omega)) (tne t_asi t_ak (by omega)) (tne t_asi t_al (by omega)) (tne t_asi t_aw (by omega))).trans h_asi
                  have h_w1_ase : w1 ase = some (eI cI 8 (lnF se)) := (xf1 ase (tne t_ase t_h0 (by omega)) (tne t_ase t_ak (by omega)) (tne t_ase t_al (by omega)) (tne t_ase t_aw (by omega))).trans h_ase
                  have h_w1_ato : w1 ato = some (eI cI 8 to) := (xf1 ato (tne t_ato t_h0 (by omega)) (tne t_ato t_ak (by omega)) (tne t_ato t_al (by omega)) (tne t_ato t_aw (by omega))).trans h_ato
                  have h_w1_amo : w1 amo = some (eI cI 8 (lnF mo)) := (xf1 amo (tne t_amo t_h0 (by omega)) (tne t_amo t_ak (by omega)) (tne t_amo t_al (by omega)) (tne t_amo t_aw (by omega))).trans h_amo
                  have h_w1_alo : w1 alo = some (eI cI 8 lo) := (xf1 alo (tne t_alo t_h0 (by omega)) (tne t_alo t_ak (by omega)) (tne t_alo t_al (by omega)) (tne t_alo t_aw (by omega))).trans h_alo
                  have h_w1_aro : w1 aro = some (eI cI 9600 ro) := (xf1 aro (tne t_aro t_h0 (by omega)) (tne t_aro t_ak (by omega)) (tne t_aro t_al (by omega)) (tne t_aro t_aw (by omega))).trans h_aro
                  have h_w1_asr : w1 asr = some (eI cI 1024 sr) := (xf1 asr (tne t_asr t_h0 (by omega)) (tne t_asr t_ak (by omega)) (tne t_asr t_al (by omega)) (tne t_asr t_aw (by omega))).trans h_asr
                  refine ⟨⟨_, by assumption⟩, (c_X7_merge_R D cI cS w1 om md aso asi ase ato amo alo aro asr th so si se to mo lo ro sr tg a k sd mv tot er f ln tr b2 mv2 e 20000000 tot2 er2 f2 ln2 tr2 h_w1_om h_w1_aso h_w1_asi h_w1_ase h_w1_ato h_w1_amo h_w1_alo h_w1_aro h_w1_asr hmd ha hs0 hso hsi hse hto hmo (by omega) hk2 hln hr hlo hb hab gso gsi gse gto gmo hmv gmv hke he (by decide) hok gln gr glo (by omega) t_aso t_asi t_ase t_ato t_amo t_alo t_aro t_asr).mono (fun r2 w2 z2 => ?_)⟩
                  rcases z2 with ⟨b7, b8, b9⟩ | ⟨b7, b8, y_om, y_ato, y_amo, ⟨ro1, y_aro, ho1, hv1, y_alo, ⟨sr1, y_asr⟩⟩, xf2⟩
                  · omega
                  · obtain ⟨hl1, hw1⟩ := joR_main (f2 := f2) (ln2 := ln2) (B := 20000000) hke he (by decide) hok hln 31 (Nat.le_refl _) (by show wtS ln 31 + wtS ln2 31 ≤ _; omega)
                    have hw2 : wtS (joR k f2 ln2 (f, ln, tr, er) 31).2.1 31 = wtS ln 31 + wtS ln2 31 := hw1
                    have h_w2_ox : w2 ox = some (.inr (5, [.ref as, .int (nI md)])) := (xf2 ox (tne t_ox t_om (by omega)) (tne t_ox t_aro (by omega)) (tne t_ox t_asr (by omega)) (tne t_ox t_alo (by omega)) (tne t_ox t_ato (by omega)) (tne t_ox t_amo (by omega))).trans h_w1_ox
                    have h_w2_as : w2 as = some (eR cS 8 g0) := (xf2 as (tne t_as t_om (by omega)) (tne t_as t_aro (by omega)) (tne t_as t_asr (by omega)) (tne t_as t_alo (by omega)) (tne t_as t_ato (by omega)) (tne t_as t_amo (by omega))).trans h_w1_as
                    have h_w2_aso : w2 aso = some (eI cI 8 (lnF so)) := (xf2 aso (tne t_aso t_om (by omega)) (tne t_aso t_aro (by omega)) (tne t_aso t_asr (by omega)) (tne t_aso t_alo (by omega)) (tne t_aso t_ato (by omega)) (tne t_aso t_amo (by omega))).trans h_w1_aso
                    have h_w2_asi : w2 asi = some (eI cI 8 (lnF si)) := (xf2 asi (tne t_asi t_om (by omega)) (tne t_asi t_aro (by omega)) (tne t_asi t_asr (by omega)) (tne t_asi t_alo (by omega)) (tne t_asi t_ato (by omega)) (tne t_asi t_amo (by omega))).trans h_w1_asi
                    have h_w2_ase : w2 ase = some (eI cI 8 (lnF se)) := (xf2 ase (tne t_ase t_om (by omega)) (tne t_ase t_aro (by omega)) (tne t_ase t_asr (by omega)) (tne t_ase t_alo (by omega)) (tne t_ase t_ato (by omega)) (tne t_ase t_amo (by omega))).trans h_w1_ase
                    have h_w2_h0 : w2 h0 = some (.inr (3, [.int (nI 4), .int (nI k), .int (nI sd), .int (tot + tot2), .int (nI (mv + mv2)), .ref ak, .ref al, .ref aw, .int ((joR k f2 ln2 (f, ln, tr, er) 31).2.2.2 + er2)])) := (xf2 h0 (tne t_h0 t_om (by omega)) (tne t_h0 t_aro (by omega)) (tne t_h0 t_asr (by omega)) (tne t_h0 t_alo (by omega)) (tne t_h0 t_ato (by omega)) (tne t_h0 t_amo (by omega))).trans c_h0
                    have h_w2_ak : w2 ak = some (eI cI (31 * k) ((joR k f2 ln2 (f, ln, tr, er) 31).1)) := (xf2 ak (tne t_ak t_om (by omega)) (tne t_ak t_aro (by omega)) (tne t_ak t_asr (by omega)) (tne t_ak t_alo (by omega)) (tne t_ak t_ato (by omega)) (tne t_ak t_amo (by omega))).trans c_ak
                    have h_w2_al : w2 al = some (eI cI 31 (lnF (joR k f2 ln2 (f, ln, tr, er) 31).2.1)) := (xf2 al (tne t_al t_om (by omega)) (tne t_al t_aro (by omega)) (tne t_al t_asr (by omega)) (tne t_al t_alo (by omega)) (tne t_al t_ato (by omega)) (tne t_al t_amo (by omega))).trans c_al
                    have h_w2_aw : w2 aw = some (eI cI 31 (lnF (joR k f2 ln2 (f, ln, tr, er) 31).2.2.1)) := (xf2 aw (tne t_aw t_om (by omega)) (tne t_aw t_aro (by omega)) (tne t_aw t_asr (by omega)) (tne t_aw t_alo (by omega)) (tne t_aw t_ato (by omega)) (tne t_aw t_amo (by omega))).trans c_aw
                    refine ⟨b8.trans a8.symm, hIN0.ch h_w2_ox h_w2_as y_om h_w2_aso h_w2_asi h_w2_ase y_ato y_amo y_alo y_aro y_asr ha hg (Or.inr (Or.inr (Or.inr (Or.inr (⟨ak, al, aw, k, sd, (mv + mv2), e, (tot + tot2), (joR k f2 ln2 (f, ln, tr, er) 31).2.2.2 + er2, (joR k f2 ln2 (f, ln, tr, er) 31).1, (joR k f2 ln2 (f, ln, tr, er) 31).2.1, (joR k f2 ln2 (f, ln, tr, er) 31).2.2.1, h_w2_h0, h_w2_ak, h_w2_al, h_w2_aw, t_h0, t_ak, t_al, t_aw, hs0, hke, he, hk2, hm, hso, hsi, hse, upd_same _ _ _, updN_eq _ _ _, upd_same _ _ _, (joR_ok hok 31).er, hl1, hv1.er, by rw [hw2]; omega⟩))))) (fun z hz h1 h2 => (xf2 z (fun e => by rw [e, t_om] at h1 h2; omega) (fun e => by rw [e, t_aro] at h1 h2; omega) (fun e => by rw [e, t_asr] at h1 h2; omega) (fun e => by rw [e, t_alo] at h1 h2; omega) (fun e => by rw [e, t_ato] at h1 h2; omega) (fun e => by rw [e, t_amo] at h1 h2; omega)).trans (xf1 z (fun e => by rw [e, t_h0] at h1 h2; omega) (fun e => by rw [e, t_ak] at h1 h2; omega) (fun e => by rw [e, t_al] at h1 h2; omega) (fun e => by rw [e, t_aw] at h1 h2; omega))) (fun j hj => updN_ne hj) (fun j hj => upd_ne2 hj) (fun j hj => upd_ne2 hj) ho1⟩
              · refine (c_X6_merge_R D cI cS w ox as md a g0 b2 h0 ak al aw k sd mv tot er f ln tr h1 ak2 al2 aw2 mv2 tot2 er2 f2 ln2 tr2 hox has hh h_ak h_al h_aw hh1 h_ak2 h_al2 h_aw2 hmd ha hg hs0 (by omega) hk2 (tne t_ak t_al (by omega)) (tne t_ak t_aw (by omega)) (tne t_al t_aw (by omega)) hok hmv gmv hb hg1 hab gok (tne t_ak t_ak2 (by omega)) (tne t_ak t_al2 (by omega)) (tne t_ak t_aw2 (by omega)) (tne t_al t_ak2 (by omega)) (tne t_al t_al2 (by omega)) (tne t_al t_aw2 (by omega)) (tne t_aw t_ak2 (by omega)) (tne t_aw t_al2 (by omega)) (tne t_aw t_aw2 (by omega)) (tne t_h0 t_h1 (by omega)) (tne t_ak2 t_al2 (by omega)) (tne t_ak2 t_aw2 (by omega)) (tne t_al2 t_aw2 (by omega))).mono (fun r w1 z1 => ?_)
                rcases z1 with ⟨a7, a8, rfl⟩ | ⟨a7, a8⟩
                · refine ⟨⟨_, by assumption⟩, (c_X7_merge_full D cI cS w1 om md aso asi ase ato amo alo aro asr th so si se mo a b2 hom h_aso h_asi h_ase h_amo hmd ha hb hab hlk (by omega) (by omega) (by omega) (by omega) (by omega)).mono (fun r2 w2 z2 => ?_)⟩
                  obtain ⟨q2, y1, y2⟩ := z2
                  exact ⟨q2.trans a8.symm, hIN0.rd y1 y2⟩
                · omega
        · have hnl2 : ¬ (nI (so a) = nI (so b2) ∧ nI (si a) = nI (si b2) ∧ nI (se a) = nI (se b2)) := fun q => hlk ⟨(nI_eq (by omega) (by omega)).mp q.1, (nI_eq (by omega) (by omega)).mp q.2.1, (nI_eq (by omega) (by omega)).mp q.2.2⟩
          have hun : ∀ w1 : mwT, w1 = w → ∀ r : Int32, r = -1 → ((∃ vs : List Value, w1 om = some (.inr (6, vs))) ∧ mMi yX7_merge cX7_merge 6 (some .int) (rmL 98) [.ref om, .int (nI a), .int (nI b2)] D cI cS w1 (fun r2 w2 => r2 = r ∧ INV cI cS ox om w2)) := by
            intro w1 e r hr
            subst e
            refine ⟨⟨_, by assumption⟩, (c_X7_merge_un D cI cS w1 om md aso asi ase ato amo alo aro asr th so si se a b2 hom h_aso h_asi h_ase hmd ha hb hab hlk (by omega) (by omega) (by omega)).mono (fun r2 w2 z2 => ?_)⟩
            obtain ⟨q2, y1, y2⟩ := z2
            exact ⟨q2.trans hr.symm, hIN0.rd y1 y2⟩
          rcases hk with H | H | H | H | H
          · obtain ⟨ak, an, k, sd, h, mv, tot, f, g, u, vn, hh, h_ak, h_an, t_h0, t_ak, t_an, hs0, hk1, hk2, hmv, hso, hsi, hse, hto, hmo, hh2, hv, hvn, hR⟩ := H
            rw [hso, hsi, hse] at hnl2
            exact (c_X6_merge_un_H D cI cS w ox as md a g0 h0 ak an k sd h mv b2 h1 cb tot (lo a) f g _ _ _ fb hox has hh g2 hmd ha hg hb hg1 g1 hab hnl2).mono (fun r w1 z1 => hun w1 z1.2 r z1.1)
          · obtain ⟨ab, c, sd, mv, tot, f, hh, h_ab, t_h0, t_ab, hs0, hc1, hc2, hmv, hso, hsi, hse, hto, hmo, hlo, hv, hB⟩ := H
            rw [hso, hsi, hse] at hnl2
            exact (c_X6_merge_un_T D cI cS w ox as md a g0 h0 ab c sd mv b2 h1 cb tot f _ _ _ fb hox has hh g2 hmd ha hg hb hg1 g1 hab hnl2).mono (fun r w1 z1 => hun w1 z1.2 r z1.1)
          · obtain ⟨ab, b, sd, mv, tot, f, hh, h_ab, t_h0, t_ab, hs0, hb1, hb2, hmv, hso, hsi, hse, hto, hmo, hlo, hv⟩ := H
            rw [hso, hsi, hse] at hnl2
            exact (c_X6_merge_un_F D cI cS w ox as md a g0 h0 ab b sd mv b2 h1 cb tot f _ _ _ fb hox has hh g2 hmd ha hg hb hg1 g1 hab hnl2).mono (fun r w1 z1 => hun w1 z1.2 r z1.1)
          · obtain ⟨ab, k, sd, h, mv, tot, f, u, hh, h_ab, t_h0, t_ab, hs0, hk1, hk2, hmv, hso, hsi, hse, hto, hmo, hlo, hh2, hl, hR⟩ := H
            rw [hso, hsi, hse] at hnl2
            exact (c_X6_merge_un_L D cI cS w ox as md a g0 h0 ab k sd h mv b2 h1 cb tot f _ _ _ fb hox has hh g2 hmd ha hg hb hg1 g1 hab hnl2).mono (fun r w1 z1 => hun w1 z1.2 r z1.1)
          · obtain ⟨ak, al, aw, k, sd, mv, e, tot, er, f, ln, tr, hh, h_ak, h_al, h_aw, t_h0, t_ak, t_al, t_aw, hs0, hke, he, hk2, hmv, hso, hsi, hse, hto, hmo, hlo, hok, hln, hr, hwt⟩ := H
            rw [hso, hsi, hse] at hnl2
            exact (c_X6_merge_un_R D cI cS w ox as md a g0 h0 ak al aw k sd mv b2 h1 cb tot er f ln tr _ _ _ fb hox has hh g2 hmd ha hg hb hg1 g1 hab hnl2).mono (fun r w1 z1 => hun w1 z1.2 r z1.1)
    · obtain ⟨a, ha, rfl⟩ := hs
      obtain ⟨h0, hg, hk⟩ := hS a ha
      refine (c_X6_merge_in D cI cS w ox as md g0 s2 a h0 hox has hmd ha hg hs2).mono (fun r w1 z1 => ?_)
      obtain ⟨q1, rfl⟩ := z1
      refine ⟨⟨_, by assumption⟩, (c_X7_merge_in D cI cS w1 om md aso asi ase ato amo alo aro asr th a s2 hom hmd ha hs2).mono (fun r2 w2 z2 => ?_)⟩
      obtain ⟨q2, y1, y2⟩ := z2
      exact ⟨q2.trans q1.symm, hIN0.rd y1 y2⟩
  · have hno : ∀ w1 : mwT, w1 = w → ∀ r : Int32, r = -1 → ((∃ vs : List Value, w1 om = some (.inr (6, vs))) ∧ mMi yX7_merge cX7_merge 6 (some .int) (rmL 98) [.ref om, .int s, .int s2] D cI cS w1 (fun r2 w2 => r2 = r ∧ INV cI cS ox om w2)) := by
      intro w1 e r hr
      subst e
      refine ⟨⟨_, by assumption⟩, (c_X7_merge_no D cI cS w1 om md aso asi ase ato amo alo aro asr th s s2 hom hmd hs).mono (fun r2 w2 z2 => ?_)⟩
      obtain ⟨q2, y1, y2⟩ := z2
      exact ⟨q2.trans hr.symm, hIN0.rd y1 y2⟩
    by_cases hs2 : ixN md s2
    · obtain ⟨b2, hb, rfl⟩ := hs2
      obtain ⟨h1, hg1, hkk⟩ := hS b2 hb
      exact (c_X6_merge_ni D cI cS w ox as md g0 s b2 h1 hox has hmd hs hb hg1).mono (fun r w1 z1 => hno w1 z1.2 r z1.1)
    · exact (c_X6_merge_nn D cI cS w ox as md g0 s s2 hox has hmd hs hs2).mono (fun r w1 z1 => hno w1 z1.2 r z1.1)
