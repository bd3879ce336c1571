theorem wtS_z {ln : Nat → Nat} (n : Nat) (h : ∀ b, b < n → ln b = 0) : wtS ln n = 0 := by
  induction n with
  | zero => rfl
  | succ n ih => rw [wtS, ih (fun b hb => h b (by omega)), h n (by omega), Nat.zero_mul]
theorem clN_z {l : Nat → Nat} {b : Nat} (h : b < 31) : clN l b = 0 := if_pos h
theorem clN_le {l : Nat → Nat} {m : Nat} (h : ∀ b, l b ≤ m) (b : Nat) : clN l b ≤ m := by
  unfold clN
  split
  · exact Nat.zero_le _
  · exact h b
theorem cpz {f : Nat → Int32} {n i : Nat} (h : i < n) : cpy0 (fun _ => 0) f n i = 0 := if_pos h
theorem TbB.z {f : Nat → Int32} {n mv : Nat} (h : ∀ i, i < n → f i = 0) : TbB mv f n := fun i hi => by
  rw [h i hi, Int32.toInt_zero]
  omega
theorem LsR.z (f u : Nat → Int32) : LsR f 0 u := ⟨fun i j _ hj => absurd hj (Nat.not_lt_zero _), fun i hi => absurd hi (Nat.not_lt_zero _), fun _ => rfl⟩
theorem HvR.z (f g u v : Nat → Int32) (mv : Nat) : HvR mv f g 0 u v := ⟨fun i j _ hj => absurd hj (Nat.not_lt_zero _), fun i hi => absurd hi (Nat.not_lt_zero _), Nat.zero_le _, fun _ => rfl⟩
theorem rp_abs {n : Int32} {hi c : Nat} (hh : hi ≤ 1000) (h : rp 1 hi n) (e : absI n = nI c) (hc : c ≤ 1000) : n = nI c := by
  obtain ⟨a, a1, a2, rfl⟩ := h
  rw [abs_nI (by omega)] at e
  exact e
theorem HvR.gn {mv : Nat} {f g u v : Nat → Int32} {h : Nat} (H : HvR mv f g h u v) : HvR mv f g h u (lnF (gnOf v)) := by
  refine ⟨H.1, H.2.1, H.2.2.1, fun Q => (H.2.2.2 Q).trans (sw_congr h (fun i hi => ?_))⟩
  show Q (u i) (v i) = Q (u i) (nI (gnOf v i))
  rw [← ((gnOf_ok (H.2.2.2.bd H.2.1)) i hi).1]
theorem HvM.gn {ro : Nat → Int32} {s : Nat} {u v : Nat → Int32} {h : Nat} (M : HvM ro s u v h) (B : HvB v h) : HvM ro s u (lnF (gnOf v)) h := ⟨M.1, fun i hi => ⟨(M.2 i hi).1, (M.2 i hi).2.trans ((gnOf_ok B) i hi).1⟩⟩
theorem HvR.hvn {mv : Nat} {f g u v : Nat → Int32} {h : Nat} (H : HvR mv f g h u v) (i : Nat) (hi : i < h) : 1 ≤ gnOf v i ∧ gnOf v i ≤ 10000000 := ((gnOf_ok (H.2.2.2.bd H.2.1)) i hi).2
theorem HvR.jbd {mv mv2 : Nat} {f g u v f2 g2 u2 v2 : Nat → Int32} {h h2 : Nat} (H : HvR mv f g h u v) (H2 : HvR mv2 f2 g2 h2 u2 v2) (hm : mv + mv2 ≤ 10000000) : HvB (jnU u2 v2 (u, v, h) h2).2.1 (jnU u2 v2 (u, v, h) h2).2.2 := by
  obtain ⟨a1, a2⟩ := HvR.join H H2 hm
  rw [← a2]
  exact a1.2.2.2.bd a1.2.1
theorem SkA.gen {cI : ClassId} {tg so si se mo : Nat → Nat} {to lo ro : Nat → Int32} {w : mwT} {a h0 : Nat} (H : SkA cI tg so si se mo to lo ro w a h0) : ∃ (cb : Nat) (fb : List Value), cb < 5 ∧ w h0 = some (.inr (cb, .int (nI (so a)) :: .int (nI (si a)) :: .int (nI (se a)) :: fb)) ∧ so a ≤ 4 ∧ si a ≤ 512 ∧ se a ≤ 999 ∧ tg h0 = 4 * a + 12 := by
  rcases H with H | H | H | H | H
  · obtain ⟨ak, an, k, sd, h, mv, tot, f, g, u, vn, hh, h_ak, h_an, t_h0, t_ak, t_an, hs0, hk1, hk2, hmv, hso, hsi, hse, hto, hmo, hh2, hv, hvn, hR⟩ := H
    exact ⟨1, _, by decide, by rw [hso, hsi, hse]; exact hh, by omega, by omega, by omega, t_h0⟩
  · obtain ⟨ab, c, sd, mv, tot, f, hh, h_ab, t_h0, t_ab, hs0, hc1, hc2, hmv, hso, hsi, hse, hto, hmo, hlo, hv, hB⟩ := H
    exact ⟨4, _, by decide, by rw [hso, hsi, hse]; exact hh, by omega, by omega, by omega, t_h0⟩
  · obtain ⟨ab, b, sd, mv, tot, f, hh, h_ab, t_h0, t_ab, hs0, hb1, hb2, hmv, hso, hsi, hse, hto, hmo, hlo, hv⟩ := H
    exact ⟨0, _, by decide, by rw [hso, hsi, hse]; exact hh, by omega, by omega, by omega, t_h0⟩
  · obtain ⟨ab, k, sd, h, mv, tot, f, u, hh, h_ab, t_h0, t_ab, hs0, hk1, hk2, hmv, hso, hsi, hse, hto, hmo, hlo, hh2, hl, hR⟩ := H
    exact ⟨2, _, by decide, by rw [hso, hsi, hse]; exact hh, by omega, by omega, by omega, t_h0⟩
  · obtain ⟨ak, al, aw, k, sd, mv, e, tot, er, f, ln, tr, hh, h_ak, h_al, h_aw, t_h0, t_ak, t_al, t_aw, hs0, hke, he, hk2, hmv, hso, hsi, hse, hto, hmo, hlo, hok, hln, hr, hwt⟩ := H
    exact ⟨3, _, by decide, by rw [hso, hsi, hse]; exact hh, by omega, by omega, by omega, t_h0⟩

set_option maxHeartbeats 4000000 in
set_option maxRecDepth 20000 in
theorem c_X6_come_nn (D : va_G) (cI cS : ClassId) (w : mwT) (ox as md : Nat) (g0 : Nat → Option Nat) (s u v : Int32) (hox : w ox = some (.inr (5, [.ref as, .int (nI md)]))) (has : w as = some (eR cS 8 g0)) (hmd : md ≤ 8) (hno : ¬ ixN md s) : mMi yX6_come cX6_come 5 (some .int) (rmL 98) [.ref ox, .int s, .int u, .int v] D cI cS w (fun r w1 => r = -1 ∧ w1 = w) := by
  refine mMi.of (by decide) (Nat.le_of_ble_eq_true rfl) ?_
  intro X C hN hR
  refine mg_sub (lv' := [(0, .ref ox), (1, .int s), (2, .int u), (3, .int v)]) [0, 1, 2, 3] rfl ?_
  refine mg_aload_n C dX6_come_0 rfl ?_
  refine mg_iload_n C dX6_come_1 rfl ?_
  refine mg_callV_q C hox rfl (rest := []) (c_X6_find_no D cI cS w ox as md g0 s hox has hmd hno) yq_X6_find kw_123 kw_124 kw_125 ⟨by decide, by decide⟩ ⟨Nat.le_of_ble_eq_true rfl, Nat.le_of_ble_eq_true rfl⟩ (Nat.le_of_ble_eq_true rfl) rfl rfl dX6_come_2 (fun r1 w1 ⟨xe1, xk1⟩ => ?_)
  rw [xk1, xe1]
  refine mg_astoreN C (lv' := [(4, .null), (0, .ref ox), (1, .int s), (2, .int u), (3, .int v)]) dX6_come_5 (by decide) rfl ?_
  refine mg_aloadN C dX6_come_7 rfl ?_
  refine mg_ifnullN C (tgt := 28) dX6_come_9 (by decide) ?_
  refine mg_iconst C (v := (-1 : Int32)) dX6_come_28 (by decide) ?_
  exact hR _ _ _ _ dX6_come_29 ⟨rfl, rfl⟩

set_option maxHeartbeats 4000000 in
set_option maxRecDepth 20000 in
theorem c_X7_come_nn (D : va_G) (cI cS : ClassId) (w : mwT) (om md aso asi ase ato amo alo aro asr : Nat) (th : Int32)  (s u v : Int32) (hom : w om = some (.inr (6, [.int th, .int (nI md), .ref aso, .ref asi, .ref ase, .ref ato, .ref amo, .ref alo, .ref aro, .ref asr]))) (hmd : md ≤ 8) (hno : ¬ ixN md s) : mMi yX7_come cX7_come 6 (some .int) (rmL 98) [.ref om, .int s, .int u, .int v] D cI cS w (fun r w1 => r = -1 ∧ w1 om = some (.inr (6, [.int (nI 0), .int (nI md), .ref aso, .ref asi, .ref ase, .ref ato, .ref amo, .ref alo, .ref aro, .ref asr])) ∧ ∀ z : Nat, z ≠ om → w1 z = w z) := by
  refine mMi.of (by decide) (Nat.le_of_ble_eq_true rfl) ?_
  intro X C hN hR
  have fr_w : ∀ zz : Nat, w zz = w zz := fun _ => rfl
  refine mg_sub (lv' := [(0, .ref om), (1, .int s), (2, .int u), (3, .int v)]) [0, 1, 2, 3] rfl ?_
  refine mg_aload_n C dX7_come_0 rfl ?_
  refine mg_iconst C (v := nI 0) dX7_come_1 (by decide) ?_
  refine mg_put C (fs' := [.int (nI 0), .int (nI md), .ref aso, .ref asi, .ref ase, .ref ato, .ref amo, .ref alo, .ref aro, .ref asr]) inT7 hom rfl 0 (by decide) kw_28 (Or.inl rfl) tyX7_ok nmX7 rfl rfl rfl rfl (Nat.le_of_ble_eq_true rfl) dX7_come_2 (fun w1 e_w1 => ?_)
  have h_w1_om : w1 om = some (.inr (6, [.int (nI 0), .int (nI md), .ref aso, .ref asi, .ref ase, .ref ato, .ref amo, .ref alo, .ref aro, .ref asr])) := (congrFun e_w1 _).trans mwu_eq
  have fr_w1 : ∀ zz : Nat, zz ≠ om → w1 zz = w zz := fun zz g0 => (congrFun e_w1 zz).trans ((mwu_ne g0).trans (fr_w zz ))
  refine mg_aload_n C dX7_come_5 rfl ?_
  refine mg_iload_n C dX7_come_6 rfl ?_
  refine mg_callV_i C h_w1_om rfl (rest := []) (c_X7_none_no D cI cS w1 om md aso asi ase ato amo alo aro asr (nI 0)  s h_w1_om hmd hno) yq_X7_none kw_197 kw_198 kw_199 ⟨by decide, by decide⟩ ⟨Nat.le_of_ble_eq_true rfl, Nat.le_of_ble_eq_true rfl⟩ (Nat.le_of_ble_eq_true rfl) rfl rfl dX7_come_7 (fun r2 w3 ⟨e_r2, e_w3⟩ => ?_)
  rw [e_w3, e_r2]
  refine mg_ifN_ne C (tgt := 24) dX7_come_10 (by decide) (by decide) (fun c_10 => ?_) (fun c_10 => absurd c_10 (by decide))
  refine mg_iconst C (v := (-1 : Int32)) dX7_come_24 (by decide) ?_
  exact hR _ _ _ _ dX7_come_25 ⟨rfl, h_w1_om, fun z q0 => fr_w1 z q0⟩

set_option maxHeartbeats 4000000 in
theorem O_clear (D : va_G) (cI cS : ClassId) (w : mwT) (ox om : Nat) (s : Int32) (hI : INV cI cS ox om w) : mMi yX6_clear cX6_clear 4 (some .int) (rmL 8) [.ref ox, .int s] D cI cS w (fun r w1 => ((∃ vs : List Value, w1 om = some (.inr (6, vs))) ∧ mMi yX7_clear cX7_clear 3 (some .int) (rmL 8) [.ref om, .int s] D cI cS w1 (fun r2 w2 => r2 = r ∧ INV cI cS ox om w2))) := by
  obtain ⟨as, md, aso, asi, ase, ato, amo, alo, aro, asr, th, g0, so, si, se, mo, to, lo, ro, sr, tg, hIN⟩ := hI
  have hIN0 := hIN
  obtain ⟨hmd, hox, has, hom, h_aso, h_asi, h_ase, h_ato, h_amo, h_alo, h_aro, h_asr, t_ox, t_as, t_om, t_aso, t_asi, t_ase, t_ato, t_amo, t_alo, t_aro, t_asr, hS⟩ := hIN
  by_cases hs : ixN md s
  · obtain ⟨a, ha, rfl⟩ := hs
    obtain ⟨h0, hg, hk⟩ := hS a ha
    rcases hk with H | H | H | H | H
    · obtain ⟨ak, an, k, sd, h, mv, tot, f, g, u, vn, hh, h_ak, h_an, t_h0, t_ak, t_an, hs0, hk1, hk2, hmv, hso, hsi, hse, hto, hmo, hh2, hv, hvn, hR⟩ := H
      refine (c_X6_clear_H D cI cS w ox as md a g0 h0 ak an k sd h mv tot (lo a) f g  hox has hh h_ak h_an hmd ha hg hs0 hk1 hk2 hh2 (tne t_ak t_an (by omega))).mono (fun r w1 z1 => ?_)
      obtain ⟨q1, c_h0, xf1⟩ := z1
      have h_w1_ox : w1 ox = some (.inr (5, [.ref as, .int (nI md)])) := (xf1 ox (tne t_ox t_h0 (by omega))).trans hox
      have h_w1_as : w1 as = some (eR cS 8 g0) := (xf1 as (tne t_as t_h0 (by omega))).trans has
      have h_w1_om : w1 om = some (.inr (6, [.int th, .int (nI md), .ref aso, .ref asi, .ref ase, .ref ato, .ref amo, .ref alo, .ref aro, .ref asr])) := (xf1 om (tne t_om t_h0 (by omega))).trans hom
      have h_w1_aso : w1 aso = some (eI cI 8 (lnF so)) := (xf1 aso (tne t_aso t_h0 (by omega))).trans h_aso
      have h_w1_asi : w1 asi = some (eI cI 8 (lnF si)) := (xf1 asi (tne t_asi t_h0 (by omega))).trans h_asi
      have h_w1_ase : w1 ase = some (eI cI 8 (lnF se)) := (xf1 ase (tne t_ase t_h0 (by omega))).trans h_ase
      have h_w1_ato : w1 ato = some (eI cI 8 to) := (xf1 ato (tne t_ato t_h0 (by omega))).trans h_ato
      have h_w1_amo : w1 amo = some (eI cI 8 (lnF mo)) := (xf1 amo (tne t_amo t_h0 (by omega))).trans h_amo
      have h_w1_alo : w1 alo = some (eI cI 8 lo) := (xf1 alo (tne t_alo t_h0 (by omega))).trans h_alo
      have h_w1_aro : w1 aro = some (eI cI 9600 ro) := (xf1 aro (tne t_aro t_h0 (by omega))).trans h_aro
      have h_w1_asr : w1 asr = some (eI cI 1024 sr) := (xf1 asr (tne t_asr t_h0 (by omega))).trans h_asr
      have h_w1_ak : w1 ak = some (eI cI (2 * k) f) := (xf1 ak (tne t_ak t_h0 (by omega))).trans h_ak
      have h_w1_an : w1 an = some (eI cI (2 * k) g) := (xf1 an (tne t_an t_h0 (by omega))).trans h_an
      refine ⟨⟨_, by assumption⟩, (c_X7_clear D cI cS w1 om md aso asi ase ato amo alo aro asr th to mo lo ro tg a h_w1_om h_w1_ato h_w1_amo h_w1_alo h_w1_aro hmd ha t_ato t_amo t_alo t_aro).mono (fun r2 w2 z2 => ?_)⟩
      obtain ⟨q2, y_om, y_ato, y_amo, y_alo, y_aro, xf2⟩ := z2
      have h_w2_ox : w2 ox = some (.inr (5, [.ref as, .int (nI md)])) := (xf2 ox (tne t_ox t_om (by omega)) (tne t_ox t_ato (by omega)) (tne t_ox t_amo (by omega)) (tne t_ox t_alo (by omega)) (tne t_ox t_aro (by omega))).trans h_w1_ox
      have h_w2_as : w2 as = some (eR cS 8 g0) := (xf2 as (tne t_as t_om (by omega)) (tne t_as t_ato (by omega)) (tne t_as t_amo (by omega)) (tne t_as t_alo (by omega)) (tne t_as t_aro (by omega))).trans h_w1_as
      have h_w2_aso : w2 aso = some (eI cI 8 (lnF so)) := (xf2 aso (tne t_aso t_om (by omega)) (tne t_aso t_ato (by omega)) (tne t_aso t_amo (by omega)) (tne t_aso t_alo (by omega)) (tne t_aso t_aro (by omega))).trans h_w1_aso
      have h_w2_asi : w2 asi = some (eI cI 8 (lnF si)) := (xf2 asi (tne t_asi t_om (by omega)) (tne t_asi t_ato (by omega)) (tne t_asi t_amo (by omega)) (tne t_asi t_alo (by omega)) (tne t_asi t_aro (by omega))).trans h_w1_asi
      have h_w2_ase : w2 ase = some (eI cI 8 (lnF se)) := (xf2 ase (tne t_ase t_om (by omega)) (tne t_ase t_ato (by omega)) (tne t_ase t_amo (by omega)) (tne t_ase t_alo (by omega)) (tne t_ase t_aro (by omega))).trans h_w1_ase
      have h_w2_asr : w2 asr = some (eI cI 1024 sr) := (xf2 asr (tne t_asr t_om (by omega)) (tne t_asr t_ato (by omega)) (tne t_asr t_amo (by omega)) (tne t_asr t_alo (by omega)) (tne t_asr t_aro (by omega))).trans h_w1_asr
      have h_w2_h0 : w2 h0 = some (.inr (1, [.int (nI 0), .int (nI k), .int (nI sd), .int (nI 0), .int (nI 0), .ref ak, .ref an, .int (nI 0), .int (nI 0)])) := (xf2 h0 (tne t_h0 t_om (by omega)) (tne t_h0 t_ato (by omega)) (tne t_h0 t_amo (by omega)) (tne t_h0 t_alo (by omega)) (tne t_h0 t_aro (by omega))).trans c_h0
      have h_w2_ak : w2 ak = some (eI cI (2 * k) f) := (xf2 ak (tne t_ak t_om (by omega)) (tne t_ak t_ato (by omega)) (tne t_ak t_amo (by omega)) (tne t_ak t_alo (by omega)) (tne t_ak t_aro (by omega))).trans h_w1_ak
      have h_w2_an : w2 an = some (eI cI (2 * k) g) := (xf2 an (tne t_an t_om (by omega)) (tne t_an t_ato (by omega)) (tne t_an t_amo (by omega)) (tne t_an t_alo (by omega)) (tne t_an t_aro (by omega))).trans h_w1_an
      refine ⟨by rw [q2, q1, hto], hIN0.ch h_w2_ox h_w2_as y_om h_w2_aso h_w2_asi h_w2_ase y_ato y_amo y_alo y_aro h_w2_asr ha hg (Or.inl ⟨ak, an, k, sd, 0, 0, nI 0, f, g, u, vn, by rw [upd_same]; exact h_w2_h0, h_w2_ak, h_w2_an, t_h0, t_ak, t_an, hs0, hk1, hk2, Nat.zero_le _, hso, hsi, hse, upd_same _ _ _, updN_eq _ _ _, Nat.zero_le _, HvM.zr, fun i hi => absurd hi (Nat.not_lt_zero _), HvR.z f g u _ 0⟩) (fun z hz h1 h2 => (xf2 z (fun e => by rw [e, t_om] at h1 h2; omega) (fun e => by rw [e, t_ato] at h1 h2; omega) (fun e => by rw [e, t_amo] at h1 h2; omega) (fun e => by rw [e, t_alo] at h1 h2; omega) (fun e => by rw [e, t_aro] at h1 h2; omega)).trans (xf1 z (fun e => by rw [e, t_h0] at h1 h2; omega))) (fun j hj => updN_ne hj) (fun j hj => upd_ne2 hj) (fun j hj => upd_ne2 hj) (zrM_out ro a)⟩
    · obtain ⟨ab, c, sd, mv, tot, f, hh, h_ab, t_h0, t_ab, hs0, hc1, hc2, hmv, hso, hsi, hse, hto, hmo, hlo, hv, hB⟩ := H
      refine (c_X6_clear_T D cI cS w ox as md a g0 h0 ab c sd mv tot f  hox has hh h_ab hmd ha hg hs0 hc1 hc2).mono (fun r w1 z1 => ?_)
      obtain ⟨q1, c_h0, c_ab, xf1⟩ := z1
      have h_w1_ox : w1 ox = some (.inr (5, [.ref as, .int (nI md)])) := (xf1 ox (tne t_ox t_h0 (by omega)) (tne t_ox t_ab (by omega))).trans hox
      have h_w1_as : w1 as = some (eR cS 8 g0) := (xf1 as (tne t_as t_h0 (by omega)) (tne t_as t_ab (by omega))).trans has
      have h_w1_om : w1 om = some (.inr (6, [.int th, .int (nI md), .ref aso, .ref asi, .ref ase, .ref ato, .ref amo, .ref alo, .ref aro, .ref asr])) := (xf1 om (tne t_om t_h0 (by omega)) (tne t_om t_ab (by omega))).trans hom
      have h_w1_aso : w1 aso = some (eI cI 8 (lnF so)) := (xf1 aso (tne t_aso t_h0 (by omega)) (tne t_aso t_ab (by omega))).trans h_aso
      have h_w1_asi : w1 asi = some (eI cI 8 (lnF si)) := (xf1 asi (tne t_asi t_h0 (by omega)) (tne t_asi t_ab (by omega))).trans h_asi
      have h_w1_ase : w1 ase = some (eI cI 8 (lnF se)) := (xf1 ase (tne t_ase t_h0 (by omega)) (tne t_ase t_ab (by omega))).trans h_ase
      have h_w1_ato : w1 ato = some (eI cI 8 to) := (xf1 ato (tne t_ato t_h0 (by omega)) (tne t_ato t_ab (by omega))).trans h_ato
      have h_w1_amo : w1 amo = some (eI cI 8 (lnF mo)) := (xf1 amo (tne t_amo t_h0 (by omega)) (tne t_amo t_ab (by omega))).trans h_amo
      have h_w1_alo : w1 alo = some (eI cI 8 lo) := (xf1 alo (tne t_alo t_h0 (by omega)) (tne t_alo t_ab (by omega))).trans h_alo
      have h_w1_aro : w1 aro = some (eI cI 9600 ro) := (xf1 aro (tne t_aro t_h0 (by omega)) (tne t_aro t_ab (by omega))).trans h_aro
      have h_w1_asr : w1 asr = some (eI cI 1024 sr) := (xf1 asr (tne t_asr t_h0 (by omega)) (tne t_asr t_ab (by omega))).trans h_asr
      refine ⟨⟨_, by assumption⟩, (c_X7_clear D cI cS w1 om md aso asi ase ato amo alo aro asr th to mo lo ro tg a h_w1_om h_w1_ato h_w1_amo h_w1_alo h_w1_aro hmd ha t_ato t_amo t_alo t_aro).mono (fun r2 w2 z2 => ?_)⟩
      obtain ⟨q2, y_om, y_ato, y_amo, y_alo, y_aro, xf2⟩ := z2
      have h_w2_ox : w2 ox = some (.inr (5, [.ref as, .int (nI md)])) := (xf2 ox (tne t_ox t_om (by omega)) (tne t_ox t_ato (by omega)) (tne t_ox t_amo (by omega)) (tne t_ox t_alo (by omega)) (tne t_ox t_aro (by omega))).trans h_w1_ox
      have h_w2_as : w2 as = some (eR cS 8 g0) := (xf2 as (tne t_as t_om (by omega)) (tne t_as t_ato (by omega)) (tne t_as t_amo (by omega)) (tne t_as t_alo (by omega)) (tne t_as t_aro (by omega))).trans h_w1_as
      have h_w2_aso : w2 aso = some (eI cI 8 (lnF so)) := (xf2 aso (tne t_aso t_om (by omega)) (tne t_aso t_ato (by omega)) (tne t_aso t_amo (by omega)) (tne t_aso t_alo (by omega)) (tne t_aso t_aro (by omega))).trans h_w1_aso
      have h_w2_asi : w2 asi = some (eI cI 8 (lnF si)) := (xf2 asi (tne t_asi t_om (by omega)) (tne t_asi t_ato (by omega)) (tne t_asi t_amo (by omega)) (tne t_asi t_alo (by omega)) (tne t_asi t_aro (by omega))).trans h_w1_asi
      have h_w2_ase : w2 ase = some (eI cI 8 (lnF se)) := (xf2 ase (tne t_ase t_om (by omega)) (tne t_ase t_ato (by omega)) (tne t_ase t_amo (by omega)) (tne t_ase t_alo (by omega)) (tne t_ase t_aro (by omega))).trans h_w1_ase
      have h_w2_asr : w2 asr = some (eI cI 1024 sr) := (xf2 asr (tne t_asr t_om (by omega)) (tne t_asr t_ato (by omega)) (tne t_asr t_amo (by omega)) (tne t_asr t_alo (by omega)) (tne t_asr t_aro (by omega))).trans h_w1_asr
      have h_w2_h0 : w2 h0 = some (.inr (4, [.int (nI 1), .int (nI c), .int (nI sd), .int (nI 0), .int (nI 0), .ref ab])) := (xf2 h0 (tne t_h0 t_om (by omega)) (tne t_h0 t_ato (by omega)) (tne t_h0 t_amo (by omega)) (tne t_h0 t_alo (by omega)) (tne t_h0 t_aro (by omega))).trans c_h0
      have h_w2_ab : w2 ab = some (eI cI (4 * c) (cpy0 (fun _ => 0) f (4 * c))) := (xf2 ab (tne t_ab t_om (by omega)) (tne t_ab t_ato (by omega)) (tne t_ab t_amo (by omega)) (tne t_ab t_alo (by omega)) (tne t_ab t_aro (by omega))).trans c_ab
      refine ⟨by rw [q2, q1, hto], hIN0.ch h_w2_ox h_w2_as y_om h_w2_aso h_w2_asi h_w2_ase y_ato y_amo y_alo y_aro h_w2_asr ha hg (Or.inr (Or.inl ⟨ab, c, sd, 0, nI 0, cpy0 (fun _ => 0) f (4 * c), h_w2_h0, h_w2_ab, t_h0, t_ab, hs0, hc1, hc2, Nat.zero_le _, hso, hsi, hse, upd_same _ _ _, updN_eq _ _ _, upd_same _ _ _, TbM.zr (fun i hi => cpz hi) (by omega), TbB.z (fun i hi => cpz hi)⟩)) (fun z hz h1 h2 => (xf2 z (fun e => by rw [e, t_om] at h1 h2; omega) (fun e => by rw [e, t_ato] at h1 h2; omega) (fun e => by rw [e, t_amo] at h1 h2; omega) (fun e => by rw [e, t_alo] at h1 h2; omega) (fun e => by rw [e, t_aro] at h1 h2; omega)).trans (xf1 z (fun e => by rw [e, t_h0] at h1 h2; omega) (fun e => by rw [e, t_ab] at h1 h2; omega))) (fun j hj => updN_ne hj) (fun j hj => upd_ne2 hj) (fun j hj => upd_ne2 hj) (zrM_out ro a)⟩
    · obtain ⟨ab, b, sd, mv, tot, f, hh, h_ab, t_h0, t_ab, hs0, hb1, hb2, hmv, hso, hsi, hse, hto, hmo, hlo, hv⟩ := H
      refine (c_X6_clear_F D cI cS w ox as md a g0 h0 ab b sd mv tot f  hox has hh h_ab hmd ha hg hs0 hb1 hb2).mono (fun r w1 z1 => ?_)
      obtain ⟨q1, c_h0, c_ab, xf1⟩ := z1
      have h_w1_ox : w1 ox = some (.inr (5, [.ref as, .int (nI md)])) := (xf1 ox (tne t_ox t_h0 (by omega)) (tne t_ox t_ab (by omega))).trans hox
      have h_w1_as : w1 as = some (eR cS 8 g0) := (xf1 as (tne t_as t_h0 (by omega)) (tne t_as t_ab (by omega))).trans has
      have h_w1_om : w1 om = some (.inr (6, [.int th, .int (nI md), .ref aso, .ref asi, .ref ase, .ref ato, .ref amo, .ref alo, .ref aro, .ref asr])) := (xf1 om (tne t_om t_h0 (by omega)) (tne t_om t_ab (by omega))).trans hom
      have h_w1_aso : w1 aso = some (eI cI 8 (lnF so)) := (xf1 aso (tne t_aso t_h0 (by omega)) (tne t_aso t_ab (by omega))).trans h_aso
      have h_w1_asi : w1 asi = some (eI cI 8 (lnF si)) := (xf1 asi (tne t_asi t_h0 (by omega)) (tne t_asi t_ab (by omega))).trans h_asi
      have h_w1_ase : w1 ase = some (eI cI 8 (lnF se)) := (xf1 ase (tne t_ase t_h0 (by omega)) (tne t_ase t_ab (by omega))).trans h_ase
      have h_w1_ato : w1 ato = some (eI cI 8 to) := (xf1 ato (tne t_ato t_h0 (by omega)) (tne t_ato t_ab (by omega))).trans h_ato
      have h_w1_amo : w1 amo = some (eI cI 8 (lnF mo)) := (xf1 amo (tne t_amo t_h0 (by omega)) (tne t_amo t_ab (by omega))).trans h_amo
      have h_w1_alo : w1 alo = some (eI cI 8 lo) := (xf1 alo (tne t_alo t_h0 (by omega)) (tne t_alo t_ab (by omega))).trans h_alo
      have h_w1_aro : w1 aro = some (eI cI 9600 ro) := (xf1 aro (tne t_aro t_h0 (by omega)) (tne t_aro t_ab (by omega))).trans h_aro
      have h_w1_asr : w1 asr = some (eI cI 1024 sr) := (xf1 asr (tne t_asr t_h0 (by omega)) (tne t_asr t_ab (by omega))).trans h_asr
      refine ⟨⟨_, by assumption⟩, (c_X7_clear D cI cS w1 om md aso asi ase ato amo alo aro asr th to mo lo ro tg a h_w1_om h_w1_ato h_w1_amo h_w1_alo h_w1_aro hmd ha t_ato t_amo t_alo t_aro).mono (fun r2 w2 z2 => ?_)⟩
      obtain ⟨q2, y_om, y_ato, y_amo, y_alo, y_aro, xf2⟩ := z2
      have h_w2_ox : w2 ox = some (.inr (5, [.ref as, .int (nI md)])) := (xf2 ox (tne t_ox t_om (by omega)) (tne t_ox t_ato (by omega)) (tne t_ox t_amo (by omega)) (tne t_ox t_alo (by omega)) (tne t_ox t_aro (by omega))).trans h_w1_ox
      have h_w2_as : w2 as = some (eR cS 8 g0) := (xf2 as (tne t_as t_om (by omega)) (tne t_as t_ato (by omega)) (tne t_as t_amo (by omega)) (tne t_as t_alo (by omega)) (tne t_as t_aro (by omega))).trans h_w1_as
      have h_w2_aso : w2 aso = some (eI cI 8 (lnF so)) := (xf2 aso (tne t_aso t_om (by omega)) (tne t_aso t_ato (by omega)) (tne t_aso t_amo (by omega)) (tne t_aso t_alo (by omega)) (tne t_aso t_aro (by omega))).trans h_w1_aso
      have h_w2_asi : w2 asi = some (eI cI 8 (lnF si)) := (xf2 asi (tne t_asi t_om (by omega)) (tne t_asi t_ato (by omega)) (tne t_asi t_amo (by omega)) (tne t_asi t_alo (by omega)) (tne t_asi t_aro (by omega))).trans h_w1_asi
      have h_w2_ase : w2 ase = some (eI cI 8 (lnF se)) := (xf2 ase (tne t_ase t_om (by omega)) (tne t_ase t_ato (by omega)) (tne t_ase t_amo (by omega)) (tne t_ase t_alo (by omega)) (tne t_ase t_aro (by omega))).trans h_w1_ase
      have h_w2_asr : w2 asr = some (eI cI 1024 sr) := (xf2 asr (tne t_asr t_om (by omega)) (tne t_asr t_ato (by omega)) (tne t_asr t_amo (by omega)) (tne t_asr t_alo (by omega)) (tne t_asr t_aro (by omega))).trans h_w1_asr
      have h_w2_h0 : w2 h0 = some (.inr (0, [.int (nI 2), .int (nI b), .int (nI sd), .int (nI 0), .int (nI 0), .ref ab])) := (xf2 h0 (tne t_h0 t_om (by omega)) (tne t_h0 t_ato (by omega)) (tne t_h0 t_amo (by omega)) (tne t_h0 t_alo (by omega)) (tne t_h0 t_aro (by omega))).trans c_h0
      have h_w2_ab : w2 ab = some (eI cI b (cpy0 (fun _ => 0) f b)) := (xf2 ab (tne t_ab t_om (by omega)) (tne t_ab t_ato (by omega)) (tne t_ab t_amo (by omega)) (tne t_ab t_alo (by omega)) (tne t_ab t_aro (by omega))).trans c_ab
      refine ⟨by rw [q2, q1, hto], hIN0.ch h_w2_ox h_w2_as y_om h_w2_aso h_w2_asi h_w2_ase y_ato y_amo y_alo y_aro h_w2_asr ha hg (Or.inr (Or.inr (Or.inl ⟨ab, b, sd, 0, nI 0, cpy0 (fun _ => 0) f (b), h_w2_h0, h_w2_ab, t_h0, t_ab, hs0, hb1, hb2, Nat.zero_le _, hso, hsi, hse, upd_same _ _ _, updN_eq _ _ _, upd_same _ _ _, TbM.zr (fun i hi => cpz hi) (by omega)⟩))) (fun z hz h1 h2 => (xf2 z (fun e => by rw [e, t_om] at h1 h2; omega) (fun e => by rw [e, t_ato] at h1 h2; omega) (fun e => by rw [e, t_amo] at h1 h2; omega) (fun e => by rw [e, t_alo] at h1 h2; omega) (fun e => by rw [e, t_aro] at h1 h2; omega)).trans (xf1 z (fun e => by rw [e, t_h0] at h1 h2; omega) (fun e => by rw [e, t_ab] at h1 h2; omega))) (fun j hj => updN_ne hj) (fun j hj => upd_ne2 hj) (fun j hj => upd_ne2 hj) (zrM_out ro a)⟩
    · obtain ⟨ab, k, sd, h, mv, tot, f, u, hh, h_ab, t_h0, t_ab, hs0, hk1, hk2, hmv, hso, hsi, hse, hto, hmo, hlo, hh2, hl, hR⟩ := H
      refine (c_X6_clear_L D cI cS w ox as md a g0 h0 ab k sd h mv tot f  hox has hh h_ab hmd ha hg hs0 hk1 hk2 hh2).mono (fun r w1 z1 => ?_)
      obtain ⟨q1, c_h0, xf1⟩ := z1
      have h_w1_ox : w1 ox = some (.inr (5, [.ref as, .int (nI md)])) := (xf1 ox (tne t_ox t_h0 (by omega))).trans hox
      have h_w1_as : w1 as = some (eR cS 8 g0) := (xf1 as (tne t_as t_h0 (by omega))).trans has
      have h_w1_om : w1 om = some (.inr (6, [.int th, .int (nI md), .ref aso, .ref asi, .ref ase, .ref ato, .ref amo, .ref alo, .ref aro, .ref asr])) := (xf1 om (tne t_om t_h0 (by omega))).trans hom
      have h_w1_aso : w1 aso = some (eI cI 8 (lnF so)) := (xf1 aso (tne t_aso t_h0 (by omega))).trans h_aso
      have h_w1_asi : w1 asi = some (eI cI 8 (lnF si)) := (xf1 asi (tne t_asi t_h0 (by omega))).trans h_asi
      have h_w1_ase : w1 ase = some (eI cI 8 (lnF se)) := (xf1 ase (tne t_ase t_h0 (by omega))).trans h_ase
      have h_w1_ato : w1 ato = some (eI cI 8 to) := (xf1 ato (tne t_ato t_h0 (by omega))).trans h_ato
      have h_w1_amo : w1 amo = some (eI cI 8 (lnF mo)) := (xf1 amo (tne t_amo t_h0 (by omega))).trans h_amo
      have h_w1_alo : w1 alo = some (eI cI 8 lo) := (xf1 alo (tne t_alo t_h0 (by omega))).trans h_alo
      have h_w1_aro : w1 aro = some (eI cI 9600 ro) := (xf1 aro (tne t_aro t_h0 (by omega))).trans h_aro
      have h_w1_asr : w1 asr = some (eI cI 1024 sr) := (xf1 asr (tne t_asr t_h0 (by omega))).trans h_asr
      have h_w1_ab : w1 ab = some (eI cI k f) := (xf1 ab (tne t_ab t_h0 (by omega))).trans h_ab
      refine ⟨⟨_, by assumption⟩, (c_X7_clear D cI cS w1 om md aso asi ase ato amo alo aro asr th to mo lo ro tg a h_w1_om h_w1_ato h_w1_amo h_w1_alo h_w1_aro hmd ha t_ato t_amo t_alo t_aro).mono (fun r2 w2 z2 => ?_)⟩
      obtain ⟨q2, y_om, y_ato, y_amo, y_alo, y_aro, xf2⟩ := z2
      have h_w2_ox : w2 ox = some (.inr (5, [.ref as, .int (nI md)])) := (xf2 ox (tne t_ox t_om (by omega)) (tne t_ox t_ato (by omega)) (tne t_ox t_amo (by omega)) (tne t_ox t_alo (by omega)) (tne t_ox t_aro (by omega))).trans h_w1_ox
      have h_w2_as : w2 as = some (eR cS 8 g0) := (xf2 as (tne t_as t_om (by omega)) (tne t_as t_ato (by omega)) (tne t_as t_amo (by omega)) (tne t_as t_alo (by omega)) (tne t_as t_aro (by omega))).trans h_w1_as
      have h_w2_aso : w2 aso = some (eI cI 8 (lnF so)) := (xf2 aso (tne t_aso t_om (by omega)) (tne t_aso t_ato (by omega)) (tne t_aso t_amo (by omega)) (tne t_aso t_alo (by omega)) (tne t_aso t_aro (by omega))).trans h_w1_aso
      have h_w2_asi : w2 asi = some (eI cI 8 (lnF si)) := (xf2 asi (tne t_asi t_om (by omega)) (tne t_asi t_ato (by omega)) (tne t_asi t_amo (by omega)) (tne t_asi t_alo (by omega)) (tne t_asi t_aro (by omega))).trans h_w1_asi
      have h_w2_ase : w2 ase = some (eI cI 8 (lnF se)) := (xf2 ase (tne t_ase t_om (by omega)) (tne t_ase t_ato (by omega)) (tne t_ase t_amo (by omega)) (tne t_ase t_alo (by omega)) (tne t_ase t_aro (by omega))).trans h_w1_ase
      have h_w2_asr : w2 asr = some (eI cI 1024 sr) := (xf2 asr (tne t_asr t_om (by omega)) (tne t_asr t_ato (by omega)) (tne t_asr t_amo (by omega)) (tne t_asr t_alo (by omega)) (tne t_asr t_aro (by omega))).trans h_w1_asr
      have h_w2_h0 : w2 h0 = some (.inr (2, [.int (nI 3), .int (nI k), .int (nI sd), .int (nI 0), .int (nI 0), .ref ab, .int (nI 0)])) := (xf2 h0 (tne t_h0 t_om (by omega)) (tne t_h0 t_ato (by omega)) (tne t_h0 t_amo (by omega)) (tne t_h0 t_alo (by omega)) (tne t_h0 t_aro (by omega))).trans c_h0
      have h_w2_ab : w2 ab = some (eI cI k f) := (xf2 ab (tne t_ab t_om (by omega)) (tne t_ab t_ato (by omega)) (tne t_ab t_amo (by omega)) (tne t_ab t_alo (by omega)) (tne t_ab t_aro (by omega))).trans h_w1_ab
      refine ⟨by rw [q2, q1, hto], hIN0.ch h_w2_ox h_w2_as y_om h_w2_aso h_w2_asi h_w2_ase y_ato y_amo y_alo y_aro h_w2_asr ha hg (Or.inr (Or.inr (Or.inr (Or.inl ⟨ab, k, sd, 0, 0, nI 0, f, u, h_w2_h0, h_w2_ab, t_h0, t_ab, hs0, hk1, hk2, Nat.zero_le _, hso, hsi, hse, upd_same _ _ _, updN_eq _ _ _, upd_same _ _ _, Nat.zero_le _, LsM.zr, LsR.z f u⟩)))) (fun z hz h1 h2 => (xf2 z (fun e => by rw [e, t_om] at h1 h2; omega) (fun e => by rw [e, t_ato] at h1 h2; omega) (fun e => by rw [e, t_amo] at h1 h2; omega) (fun e => by rw [e, t_alo] at h1 h2; omega) (fun e => by rw [e, t_aro] at h1 h2; omega)).trans (xf1 z (fun e => by rw [e, t_h0] at h1 h2; omega))) (fun j hj => updN_ne hj) (fun j hj => upd_ne2 hj) (fun j hj => upd_ne2 hj) (zrM_out ro a)⟩
    · obtain ⟨ak, al, aw, k, sd, mv, e, tot, er, f, ln, tr, hh, h_ak, h_al, h_aw, t_h0, t_ak, t_al, t_aw, hs0, hke, he, hk2, hmv, hso, hsi, hse, hto, hmo, hlo, hok, hln, hr, hwt⟩ := H
      refine (c_X6_clear_R D cI cS w ox as md a g0 h0 ak al aw k sd mv tot er f ln tr  hox has hh h_ak h_al h_aw hmd ha hg hs0 (by omega) hk2 (tne t_ak t_al (by omega)) (tne t_ak t_aw (by omega)) (tne t_al t_aw (by omega)) hok).mono (fun r w1 z1 => ?_)
      obtain ⟨q1, c_h0, c_al, c_aw, xf1⟩ := z1
      have h_w1_ox : w1 ox = some (.inr (5, [.ref as, .int (nI md)])) := (xf1 ox (tne t_ox t_h0 (by omega)) (tne t_ox t_al (by omega)) (tne t_ox t_aw (by omega))).trans hox
      have h_w1_as : w1 as = some (eR cS 8 g0) := (xf1 as (tne t_as t_h0 (by omega)) (tne t_as t_al (by omega)) (tne t_as t_aw (by omega))).trans has
      have h_w1_om : w1 om = some (.inr (6, [.int th, .int (nI md), .ref aso, .ref asi, .ref ase, .ref ato, .ref amo, .ref alo, .ref aro, .ref asr])) := (xf1 om (tne t_om t_h0 (by omega)) (tne t_om t_al (by omega)) (tne t_om t_aw (by omega))).trans hom
      have h_w1_aso : w1 aso = some (eI cI 8 (lnF so)) := (xf1 aso (tne t_aso t_h0 (by omega)) (tne t_aso t_al (by omega)) (tne t_aso t_aw (by omega))).trans h_aso
      have h_w1_asi : w1 asi = some (eI cI 8 (lnF si)) := (xf1 asi (tne t_asi t_h0 (by omega)) (tne t_asi t_al (by omega)) (tne t_asi t_aw (by omega))).trans h_asi
      have h_w1_ase : w1 ase = some (eI cI 8 (lnF se)) := (xf1 ase (tne t_ase t_h0 (by omega)) (tne t_ase t_al (by omega)) (tne t_ase t_aw (by omega))).trans h_ase
      have h_w1_ato : w1 ato = some (eI cI 8 to) := (xf1 ato (tne t_ato t_h0 (by omega)) (tne t_ato t_al (by omega)) (tne t_ato t_aw (by omega))).trans h_ato
      have h_w1_amo : w1 amo = some (eI cI 8 (lnF mo)) := (xf1 amo (tne t_amo t_h0 (by omega)) (tne t_amo t_al (by omega)) (tne t_amo t_aw (by omega))).trans h_amo
      have h_w1_alo : w1 alo = some (eI cI 8 lo) := (xf1 alo (tne t_alo t_h0 (by omega)) (tne t_alo t_al (by omega)) (tne t_alo t_aw (by omega))).trans h_alo
      have h_w1_aro : w1 aro = some (eI cI 9600 ro) := (xf1 aro (tne t_aro t_h0 (by omega)) (tne t_aro t_al (by omega)) (tne t_aro t_aw (by omega))).trans h_aro
      have h_w1_asr : w1 asr = some (eI cI 1024 sr) := (xf1 asr (tne t_asr t_h0 (by omega)) (tne t_asr t_al (by omega)) (tne t_asr t_aw (by omega))).trans h_asr
      have h_w1_ak : w1 ak = some (eI cI (31 * k) f) := (xf1 ak (tne t_ak t_h0 (by omega)) (tne t_ak t_al (by omega)) (tne t_ak t_aw (by omega))).trans h_ak
      refine ⟨⟨_, by assumption⟩, (c_X7_clear D cI cS w1 om md aso asi ase ato amo alo aro asr th to mo lo ro tg a h_w1_om h_w1_ato h_w1_amo h_w1_alo h_w1_aro hmd ha t_ato t_amo t_alo t_aro).mono (fun r2 w2 z2 => ?_)⟩
      obtain ⟨q2, y_om, y_ato, y_amo, y_alo, y_aro, xf2⟩ := z2
      have h_w2_ox : w2 ox = some (.inr (5, [.ref as, .int (nI md)])) := (xf2 ox (tne t_ox t_om (by omega)) (tne t_ox t_ato (by omega)) (tne t_ox t_amo (by omega)) (tne t_ox t_alo (by omega)) (tne t_ox t_aro (by omega))).trans h_w1_ox
      have h_w2_as : w2 as = some (eR cS 8 g0) := (xf2 as (tne t_as t_om (by omega)) (tne t_as t_ato (by omega)) (tne t_as t_amo (by omega)) (tne t_as t_alo (by omega)) (tne t_as t_aro (by omega))).trans h_w1_as
      have h_w2_aso : w2 aso = some (eI cI 8 (lnF so)) := (xf2 aso (tne t_aso t_om (by omega)) (tne t_aso t_ato (by omega)) (tne t_aso t_amo (by omega)) (tne t_aso t_alo (by omega)) (tne t_aso t_aro (by omega))).trans h_w1_aso
      have h_w2_asi : w2 asi = some (eI cI 8 (lnF si)) := (xf2 asi (tne t_asi t_om (by omega)) (tne t_asi t_ato (by omega)) (tne t_asi t_amo (by omega)) (tne t_asi t_alo (by omega)) (tne t_asi t_aro (by omega))).trans h_w1_asi
      have h_w2_ase : w2 ase = some (eI cI 8 (lnF se)) := (xf2 ase (tne t_ase t_om (by omega)) (tne t_ase t_ato (by omega)) (tne t_ase t_amo (by omega)) (tne t_ase t_alo (by omega)) (tne t_ase t_aro (by omega))).trans h_w1_ase
      have h_w2_asr : w2 asr = some (eI cI 1024 sr) := (xf2 asr (tne t_asr t_om (by omega)) (tne t_asr t_ato (by omega)) (tne t_asr t_amo (by omega)) (tne t_asr t_alo (by omega)) (tne t_asr t_aro (by omega))).trans h_w1_asr
      have h_w2_h0 : w2 h0 = some (.inr (3, [.int (nI 4), .int (nI k), .int (nI sd), .int (nI 0), .int (nI 0), .ref ak, .ref al, .ref aw, .int (nI 0)])) := (xf2 h0 (tne t_h0 t_om (by omega)) (tne t_h0 t_ato (by omega)) (tne t_h0 t_amo (by omega)) (tne t_h0 t_alo (by omega)) (tne t_h0 t_aro (by omega))).trans c_h0
      have h_w2_ak : w2 ak = some (eI cI (31 * k) f) := (xf2 ak (tne t_ak t_om (by omega)) (tne t_ak t_ato (by omega)) (tne t_ak t_amo (by omega)) (tne t_ak t_alo (by omega)) (tne t_ak t_aro (by omega))).trans h_w1_ak
      have h_w2_al : w2 al = some (eI cI 31 (lnF (clN ln))) := (xf2 al (tne t_al t_om (by omega)) (tne t_al t_ato (by omega)) (tne t_al t_amo (by omega)) (tne t_al t_alo (by omega)) (tne t_al t_aro (by omega))).trans c_al
      have h_w2_aw : w2 aw = some (eI cI 31 (lnF (clN tr))) := (xf2 aw (tne t_aw t_om (by omega)) (tne t_aw t_ato (by omega)) (tne t_aw t_amo (by omega)) (tne t_aw t_alo (by omega)) (tne t_aw t_aro (by omega))).trans c_aw
      refine ⟨by rw [q2, q1, hto], hIN0.ch h_w2_ox h_w2_as y_om h_w2_aso h_w2_asi h_w2_ase y_ato y_amo y_alo y_aro h_w2_asr ha hg (Or.inr (Or.inr (Or.inr (Or.inr (⟨ak, al, aw, k, sd, 0, e, nI 0, nI 0, f, clN ln, clN tr, h_w2_h0, h_w2_ak, h_w2_al, h_w2_aw, t_h0, t_ak, t_al, t_aw, hs0, hke, he, hk2, Nat.zero_le _, hso, hsi, hse, upd_same _ _ _, updN_eq _ _ _, upd_same _ _ _, ⟨clN_le hok.1, clN_le hok.2⟩, fun c hc => by rw [clN_z hc]; omega, RkM.zr (fun b hb => clN_z hb) (fun b hb => clN_z hb), Nat.le_of_eq (wtS_z 31 (fun b hb => clN_z hb))⟩))))) (fun z hz h1 h2 => (xf2 z (fun e => by rw [e, t_om] at h1 h2; omega) (fun e => by rw [e, t_ato] at h1 h2; omega) (fun e => by rw [e, t_amo] at h1 h2; omega) (fun e => by rw [e, t_alo] at h1 h2; omega) (fun e => by rw [e, t_aro] at h1 h2; omega)).trans (xf1 z (fun e => by rw [e, t_h0] at h1 h2; omega) (fun e => by rw [e, t_al] at h1 h2; omega) (fun e => by rw [e, t_aw] at h1 h2; omega))) (fun j hj => updN_ne hj) (fun j hj => upd_ne2 hj) (fun j hj => upd_ne2 hj) (zrM_out ro a)⟩
  · refine (c_X6_clear_no D cI cS w ox as md g0 s hox has hmd hs).mono (fun r w1 z1 => ?_)
    obtain ⟨q1, rfl⟩ := z1
    refine ⟨⟨_, by assumption⟩, (c_X7_clear_no D cI cS w1 om md aso asi ase ato amo alo aro asr th so s hom h_aso hmd hs).mono (fun r2 w2 z2 => ?_)⟩
    obtain ⟨q2, y1, y2⟩ := z2
    exact ⟨q2.trans q1.symm, hIN0.rd y1 y2⟩

set_option maxHeartbeats 4000000 in
theorem O_come (D : va_G) (cI cS : ClassId) (w : mwT) (ox om : Nat) (s x n : Int32) (hI : INV cI cS ox om w) : mMi yX6_come cX6_come 5 (some .int) (rmL 98) [.ref ox, .int s, .int x, .int n] D cI cS w (fun r w1 => ((∃ vs : List Value, w1 om = some (.inr (6, vs))) ∧ mMi yX7_come cX7_come 6 (some .int) (rmL 98) [.ref om, .int s, .int x, .int n] D cI cS w1 (fun r2 w2 => r2 = r ∧ INV cI cS ox om w2))) := by
  obtain ⟨as, md, aso, asi, ase, ato, amo, alo, aro, asr, th, g0, so, si, se, mo, to, lo, ro, sr, tg, hIN⟩ := hI
  have hIN0 := hIN
  obtain ⟨hmd, hox, has, hom, h_aso, h_asi, h_ase, h_ato, h_amo, h_alo, h_aro, h_asr, t_ox, t_as, t_om, t_aso, t_asi, t_ase, t_ato, t_amo, t_alo, t_aro, t_asr, hS⟩ := hIN
  by_cases hs : ixN md s
  · obtain ⟨a, ha, rfl⟩ := hs
    obtain ⟨h0, hg, hk⟩ := hS a ha
    rcases hk with H | H | H | H | H
    · obtain ⟨ak, an, k, sd, h, mv, tot, f, g, u, vn, hh, h_ak, h_an, t_h0, t_ak, t_an, hs0, hk1, hk2, hmv, hso, hsi, hse, hto, hmo, hh2, hv, hvn, hR⟩ := H
      refine (c_X6_come_H D cI cS w ox as md a g0 h0 ak an k sd h mv tot (lo a) f g x n hox has hh h_ak h_an hmd ha hg hs0 hk1 hk2 hh2 (tne t_ak t_an (by omega)) hmv).mono (fun r w1 z1 => ?_)
      rcases z1 with ⟨a1, a2, rfl⟩ | ⟨xa, cn, a1, a2, a3, a4, a5, a6, a7⟩
      · refine ⟨⟨_, by assumption⟩, (c_X7_come_H D cI cS w1 om md aso asi ase ato amo alo aro asr th so si se to mo lo ro sr tg a h k sd mv tot u vn x n hom h_aso h_asi h_ase h_ato h_amo h_alo h_aro h_asr hmd ha hs0 hso hsi hse hto hmo hk1 hk2 hh2 hv hvn hmv t_aso t_asi t_ase t_ato t_amo t_alo t_aro t_asr).mono (fun r2 w2 z2 => ?_)⟩
        rcases z2 with ⟨b1, b2, y1, y2⟩ | ⟨xb, cb, b1, b2, b3, b4, b5, b6, b7⟩
        · exact ⟨b2.trans a2.symm, hIN0.rd y1 y2⟩
        · exact absurd ⟨⟨xb, b1, b2⟩, b3⟩ a1
      · rcases a7 with ⟨a7, a8, rfl⟩ | ⟨a7, a8, c_h0, c_ak, c_an, xf1⟩
        · refine ⟨⟨_, by assumption⟩, (c_X7_come_H D cI cS w1 om md aso asi ase ato amo alo aro asr th so si se to mo lo ro sr tg a h k sd mv tot u vn x n hom h_aso h_asi h_ase h_ato h_amo h_alo h_aro h_asr hmd ha hs0 hso hsi hse hto hmo hk1 hk2 hh2 hv hvn hmv t_aso t_asi t_ase t_ato t_amo t_alo t_aro t_asr).mono (fun r2 w2 z2 => ?_)⟩
          rcases z2 with ⟨b1, b2, y1, y2⟩ | ⟨xb, cb, b1, b2, b3, b4, b5, b6, b7⟩
          · exact absurd ⟨⟨xa, a1, a2⟩, a3⟩ b1
          · have ec := (nI_eq (by omega) (by omega)).mp (a4.symm.trans b4)
            rcases b7 with ⟨b7, b8, y1, y2⟩ | ⟨b7, b8⟩
            · exact ⟨b8.trans a8.symm, hIN0.rd y1 y2⟩
            · omega
        · have h_w1_ox : w1 ox = some (.inr (5, [.ref as, .int (nI md)])) := (xf1 ox (tne t_ox t_h0 (by omega)) (tne t_ox t_ak (by omega)) (tne t_ox t_an (by omega))).trans hox
          have h_w1_as : w1 as = some (eR cS 8 g0) := (xf1 as (tne t_as t_h0 (by omega)) (tne t_as t_ak (by omega)) (tne t_as t_an (by omega))).trans has
          have h_w1_om : w1 om = some (.inr (6, [.int th, .int (nI md), .ref aso, .ref asi, .ref ase, .ref ato, .ref amo, .ref alo, .ref aro, .ref asr])) := (xf1 om (tne t_om t_h0 (by omega)) (tne t_om t_ak (by omega)) (tne t_om t_an (by omega))).trans hom
          have h_w1_aso : w1 aso = some (eI cI 8 (lnF so)) := (xf1 aso (tne t_aso t_h0 (by omega)) (tne t_aso t_ak (by omega)) (tne t_aso t_an (by omega))).trans h_aso
          have h_w1_asi : w1 asi = some (eI cI 8 (lnF si)) := (xf1 asi (tne t_asi t_h0 (by omega)) (tne t_asi t_ak (by omega)) (tne t_asi t_an (by omega))).trans h_asi
          have h_w1_ase : w1 ase = some (eI cI 8 (lnF se)) := (xf1 ase (tne t_ase t_h0 (by omega)) (tne t_ase t_ak (by omega)) (tne t_ase t_an (by omega))).trans h_ase
          have h_w1_ato : w1 ato = some (eI cI 8 to) := (xf1 ato (tne t_ato t_h0 (by omega)) (tne t_ato t_ak (by omega)) (tne t_ato t_an (by omega))).trans h_ato
          have h_w1_amo : w1 amo = some (eI cI 8 (lnF mo)) := (xf1 amo (tne t_amo t_h0 (by omega)) (tne t_amo t_ak (by omega)) (tne t_amo t_an (by omega))).trans h_amo
          have h_w1_alo : w1 alo = some (eI cI 8 lo) := (xf1 alo (tne t_alo t_h0 (by omega)) (tne t_alo t_ak (by omega)) (tne t_alo t_an (by omega))).trans h_alo
          have h_w1_aro : w1 aro = some (eI cI 9600 ro) := (xf1 aro (tne t_aro t_h0 (by omega)) (tne t_aro t_ak (by omega)) (tne t_aro t_an (by omega))).trans h_aro
          have h_w1_asr : w1 asr = some (eI cI 1024 sr) := (xf1 asr (tne t_asr t_h0 (by omega)) (tne t_asr t_ak (by omega)) (tne t_asr t_an (by omega))).trans h_asr
          refine ⟨⟨_, by assumption⟩, (c_X7_come_H D cI cS w1 om md aso asi ase ato amo alo aro asr th so si se to mo lo ro sr tg a h k sd mv tot u vn x n h_w1_om h_w1_aso h_w1_asi h_w1_ase h_w1_ato h_w1_amo h_w1_alo h_w1_aro h_w1_asr hmd ha hs0 hso hsi hse hto hmo hk1 hk2 hh2 hv hvn hmv t_aso t_asi t_ase t_ato t_amo t_alo t_aro t_asr).mono (fun r2 w2 z2 => ?_)⟩
          rcases z2 with ⟨b1, b2, y1, y2⟩ | ⟨xb, cb, b1, b2, b3, b4, b5, b6, b7⟩
          · exact absurd ⟨⟨xa, a1, a2⟩, a3⟩ b1
          · have ec := (nI_eq (by omega) (by omega)).mp (a4.symm.trans b4)
            have ex := (nI_eq (by omega) (by omega)).mp (a2.symm.trans b2)
            subst ec
            subst ex
            rcases b7 with ⟨b7, b8, y1, y2⟩ | ⟨b7, b8, y_om, y_ato, y_amo, ⟨ro1, y_aro, ho1, hv1, y_alo⟩, xf2⟩
            · omega
            · have h_w2_ox : w2 ox = some (.inr (5, [.ref as, .int (nI md)])) := (xf2 ox (tne t_ox t_om (by omega)) (tne t_ox t_aro (by omega)) (tne t_ox t_alo (by omega)) (tne t_ox t_ato (by omega)) (tne t_ox t_amo (by omega))).trans h_w1_ox
              have h_w2_as : w2 as = some (eR cS 8 g0) := (xf2 as (tne t_as t_om (by omega)) (tne t_as t_aro (by omega)) (tne t_as t_alo (by omega)) (tne t_as t_ato (by omega)) (tne t_as t_amo (by omega))).trans h_w1_as
              have h_w2_aso : w2 aso = some (eI cI 8 (lnF so)) := (xf2 aso (tne t_aso t_om (by omega)) (tne t_aso t_aro (by omega)) (tne t_aso t_alo (by omega)) (tne t_aso t_ato (by omega)) (tne t_aso t_amo (by omega))).trans h_w1_aso
              have h_w2_asi : w2 asi = some (eI cI 8 (lnF si)) := (xf2 asi (tne t_asi t_om (by omega)) (tne t_asi t_aro (by omega)) (tne t_asi t_alo (by omega)) (tne t_asi t_ato (by omega)) (tne t_asi t_amo (by omega))).trans h_w1_asi
              have h_w2_ase : w2 ase = some (eI cI 8 (lnF se)) := (xf2 ase (tne t_ase t_om (by omega)) (tne t_ase t_aro (by omega)) (tne t_ase t_alo (by omega)) (tne t_ase t_ato (by omega)) (tne t_ase t_amo (by omega))).trans h_w1_ase
              have h_w2_asr : w2 asr = some (eI cI 1024 sr) := (xf2 asr (tne t_asr t_om (by omega)) (tne t_asr t_aro (by omega)) (tne t_asr t_alo (by omega)) (tne t_asr t_ato (by omega)) (tne t_asr t_amo (by omega))).trans h_w1_asr
              have h_w2_h0 : w2 h0 = some (.inr (1, [.int (nI 0), .int (nI k), .int (nI sd), .int (tot + n), .int (nI (mv + cn)), .ref ak, .ref an, .int (nI ((tkH k (nI xa) n (f, g, h) (lo a)).1.2.2)), .int ((tkH k (nI xa) n (f, g, h) (lo a)).2)])) := (xf2 h0 (tne t_h0 t_om (by omega)) (tne t_h0 t_aro (by omega)) (tne t_h0 t_alo (by omega)) (tne t_h0 t_ato (by omega)) (tne t_h0 t_amo (by omega))).trans c_h0
              have h_w2_ak : w2 ak = some (eI cI (2 * k) ((tkH k (nI xa) n (f, g, h) (lo a)).1.1)) := (xf2 ak (tne t_ak t_om (by omega)) (tne t_ak t_aro (by omega)) (tne t_ak t_alo (by omega)) (tne t_ak t_ato (by omega)) (tne t_ak t_amo (by omega))).trans c_ak
              have h_w2_an : w2 an = some (eI cI (2 * k) ((tkH k (nI xa) n (f, g, h) (lo a)).1.2.1)) := (xf2 an (tne t_an t_om (by omega)) (tne t_an t_aro (by omega)) (tne t_an t_alo (by omega)) (tne t_an t_ato (by omega)) (tne t_an t_amo (by omega))).trans c_an
              have en : n = nI cn := rp_abs (by omega) a3 a4 a6
              obtain ⟨hR1, hE1, hE2, hE3⟩ := HvR.come (x := nI xa) (lo := lo a) hR hh2 hvn a5 a6 b7
              rw [← en] at hR1 hE1 hE2 hE3
              rw [← hE1] at hv1
              refine ⟨b8.trans a8.symm, hIN0.ch h_w2_ox h_w2_as y_om h_w2_aso h_w2_asi h_w2_ase y_ato y_amo y_alo y_aro h_w2_asr ha hg (Or.inl ⟨ak, an, k, sd, (tkH k (nI xa) n (f, g, h) (lo a)).1.2.2, (mv + cn), (tot + n), (tkH k (nI xa) n (f, g, h) (lo a)).1.1, (tkH k (nI xa) n (f, g, h) (lo a)).1.2.1, (comU k (nI xa) cn u vn h (lo a)).1.1, gnOf (comU k (nI xa) cn u vn h (lo a)).1.2.1, by rw [upd_same, ← hE2]; exact h_w2_h0, h_w2_ak, h_w2_an, t_h0, t_ak, t_an, hs0, hk1, hk2, b7, hso, hsi, hse, upd_same _ _ _, updN_eq _ _ _, hE3, hv1.gn (hR1.2.2.2.bd hR1.2.1), hR1.hvn, hR1.gn⟩) (fun z hz h1 h2 => (xf2 z (fun e => by rw [e, t_om] at h1 h2; omega) (fun e => by rw [e, t_aro] at h1 h2; omega) (fun e => by rw [e, t_alo] at h1 h2; omega) (fun e => by rw [e, t_ato] at h1 h2; omega) (fun e => by rw [e, t_amo] at h1 h2; omega)).trans (xf1 z (fun e => by rw [e, t_h0] at h1 h2; omega) (fun e => by rw [e, t_ak] at h1 h2; omega) (fun e => by rw [e, t_an] at h1 h2; omega))) (fun j hj => updN_ne hj) (fun j hj => upd_ne2 hj) (fun j hj => upd_ne2 hj) ho1⟩
    · obtain ⟨ab, c, sd, mv, tot, f, hh, h_ab, t_h0, t_ab, hs0, hc1, hc2, hmv, hso, hsi, hse, hto, hmo, hlo, hv, hB⟩ := H
      refine (c_X6_come_T D cI cS w ox as md a g0 h0 ab c sd mv tot f x n hox has hh h_ab hmd ha hg hs0 hc1 hc2 hmv).mono (fun r w1 z1 => ?_)
      rcases z1 with ⟨a1, a2, rfl⟩ | ⟨xa, cn, a1, a2, a3, a4, a5, a6, a7⟩
      · refine ⟨⟨_, by assumption⟩, (c_X7_come_T D cI cS w1 om md aso asi ase ato amo alo aro asr th so si se to mo lo ro sr tg a c sd mv tot f x n hom h_aso h_asi h_ase h_ato h_amo h_alo h_aro h_asr hmd ha hs0 hso hsi hse hto hmo hc1 hc2 hv hlo hmv t_aso t_asi t_ase t_ato t_amo t_alo t_aro t_asr).mono (fun r2 w2 z2 => ?_)⟩
        rcases z2 with ⟨b1, b2, y1, y2⟩ | ⟨xb, cb, b1, b2, b3, b4, b5, b6, b7⟩
        · exact ⟨b2.trans a2.symm, hIN0.rd y1 y2⟩
        · exact absurd ⟨⟨xb, b1, b2⟩, b3⟩ a1
      · rcases a7 with ⟨a7, a8, rfl⟩ | ⟨a7, a8, c_h0, c_ab, xf1⟩
        · refine ⟨⟨_, by assumption⟩, (c_X7_come_T D cI cS w1 om md aso asi ase ato amo alo aro asr th so si se to mo lo ro sr tg a c sd mv tot f x n hom h_aso h_asi h_ase h_ato h_amo h_alo h_aro h_asr hmd ha hs0 hso hsi hse hto hmo hc1 hc2 hv hlo hmv t_aso t_asi t_ase t_ato t_amo t_alo t_aro t_asr).mono (fun r2 w2 z2 => ?_)⟩
          rcases z2 with ⟨b1, b2, y1, y2⟩ | ⟨xb, cb, b1, b2, b3, b4, b5, b6, b7⟩
          · exact absurd ⟨⟨xa, a1, a2⟩, a3⟩ b1
          · have ec := (nI_eq (by omega) (by omega)).mp (a4.symm.trans b4)
            rcases b7 with ⟨b7, b8, y1, y2⟩ | ⟨b7, b8⟩
            · exact ⟨b8.trans a8.symm, hIN0.rd y1 y2⟩
            · omega
        · have h_w1_ox : w1 ox = some (.inr (5, [.ref as, .int (nI md)])) := (xf1 ox (tne t_ox t_h0 (by omega)) (tne t_ox t_ab (by omega))).trans hox
          have h_w1_as : w1 as = some (eR cS 8 g0) := (xf1 as (tne t_as t_h0 (by omega)) (tne t_as t_ab (by omega))).trans has
          have h_w1_om : w1 om = some (.inr (6, [.int th, .int (nI md), .ref aso, .ref asi, .ref ase, .ref ato, .ref amo, .ref alo, .ref aro, .ref asr])) := (xf1 om (tne t_om t_h0 (by omega)) (tne t_om t_ab (by omega))).trans hom
          have h_w1_aso : w1 aso = some (eI cI 8 (lnF so)) := (xf1 aso (tne t_aso t_h0 (by omega)) (tne t_aso t_ab (by omega))).trans h_aso
          have h_w1_asi : w1 asi = some (eI cI 8 (lnF si)) := (xf1 asi (tne t_asi t_h0 (by omega)) (tne t_asi t_ab (by omega))).trans h_asi
          have h_w1_ase : w1 ase = some (eI cI 8 (lnF se)) := (xf1 ase (tne t_ase t_h0 (by omega)) (tne t_ase t_ab (by omega))).trans h_ase
          have h_w1_ato : w1 ato = some (eI cI 8 to) := (xf1 ato (tne t_ato t_h0 (by omega)) (tne t_ato t_ab (by omega))).trans h_ato
          have h_w1_amo : w1 amo = some (eI cI 8 (lnF mo)) := (xf1 amo (tne t_amo t_h0 (by omega)) (tne t_amo t_ab (by omega))).trans h_amo
          have h_w1_alo : w1 alo = some (eI cI 8 lo) := (xf1 alo (tne t_alo t_h0 (by omega)) (tne t_alo t_ab (by omega))).trans h_alo
          have h_w1_aro : w1 aro = some (eI cI 9600 ro) := (xf1 aro (tne t_aro t_h0 (by omega)) (tne t_aro t_ab (by omega))).trans h_aro
          have h_w1_asr : w1 asr = some (eI cI 1024 sr) := (xf1 asr (tne t_asr t_h0 (by omega)) (tne t_asr t_ab (by omega))).trans h_asr
          refine ⟨⟨_, by assumption⟩, (c_X7_come_T D cI cS w1 om md aso asi ase ato amo alo aro asr th so si se to mo lo ro sr tg a c sd mv tot f x n h_w1_om h_w1_aso h_w1_asi h_w1_ase h_w1_ato h_w1_amo h_w1_alo h_w1_aro h_w1_asr hmd ha hs0 hso hsi hse hto hmo hc1 hc2 hv hlo hmv t_aso t_asi t_ase t_ato t_amo t_alo t_aro t_asr).mono (fun r2 w2 z2 => ?_)⟩
          rcases z2 with ⟨b1, b2, y1, y2⟩ | ⟨xb, cb, b1, b2, b3, b4, b5, b6, b7⟩
          · exact absurd ⟨⟨xa, a1, a2⟩, a3⟩ b1
          · have ec := (nI_eq (by omega) (by omega)).mp (a4.symm.trans b4)
            have ex := (nI_eq (by omega) (by omega)).mp (a2.symm.trans b2)
            subst ec
            subst ex
            rcases b7 with ⟨b7, b8, y1, y2⟩ | ⟨b7, b8, y_om, y_ato, y_amo, ⟨ro1, y_aro, ho1, hv1⟩, xf2⟩
            · omega
            · have h_w2_ox : w2 ox = some (.inr (5, [.ref as, .int (nI md)])) := (xf2 ox (tne t_ox t_om (by omega)) (tne t_ox t_aro (by omega)) (tne t_ox t_ato (by omega)) (tne t_ox t_amo (by omega))).trans h_w1_ox
              have h_w2_as : w2 as = some (eR cS 8 g0) := (xf2 as (tne t_as t_om (by omega)) (tne t_as t_aro (by omega)) (tne t_as t_ato (by omega)) (tne t_as t_amo (by omega))).trans h_w1_as
              have h_w2_aso : w2 aso = some (eI cI 8 (lnF so)) := (xf2 aso (tne t_aso t_om (by omega)) (tne t_aso t_aro (by omega)) (tne t_aso t_ato (by omega)) (tne t_aso t_amo (by omega))).trans h_w1_aso
              have h_w2_asi : w2 asi = some (eI cI 8 (lnF si)) := (xf2 asi (tne t_asi t_om (by omega)) (tne t_asi t_aro (by omega)) (tne t_asi t_ato (by omega)) (tne t_asi t_amo (by omega))).trans h_w1_asi
              have h_w2_ase : w2 ase = some (eI cI 8 (lnF se)) := (xf2 ase (tne t_ase t_om (by omega)) (tne t_ase t_aro (by omega)) (tne t_ase t_ato (by omega)) (tne t_ase t_amo (by omega))).trans h_w1_ase
              have h_w2_alo : w2 alo = some (eI cI 8 lo) := (xf2 alo (tne t_alo t_om (by omega)) (tne t_alo t_aro (by omega)) (tne t_alo t_ato (by omega)) (tne t_alo t_amo (by omega))).trans h_w1_alo
              have h_w2_asr : w2 asr = some (eI cI 1024 sr) := (xf2 asr (tne t_asr t_om (by omega)) (tne t_asr t_aro (by omega)) (tne t_asr t_ato (by omega)) (tne t_asr t_amo (by omega))).trans h_w1_asr
              have h_w2_h0 : w2 h0 = some (.inr (4, [.int (nI 1), .int (nI c), .int (nI sd), .int (tot + n), .int (nI (mv + cn)), .ref ab])) := (xf2 h0 (tne t_h0 t_om (by omega)) (tne t_h0 t_aro (by omega)) (tne t_h0 t_ato (by omega)) (tne t_h0 t_amo (by omega))).trans c_h0
              have h_w2_ab : w2 ab = some (eI cI (4 * c) (tkT f sd xa c n 4)) := (xf2 ab (tne t_ab t_om (by omega)) (tne t_ab t_aro (by omega)) (tne t_ab t_ato (by omega)) (tne t_ab t_amo (by omega))).trans c_ab
              refine ⟨b8.trans a8.symm, hIN0.ch h_w2_ox h_w2_as y_om h_w2_aso h_w2_asi h_w2_ase y_ato y_amo h_w2_alo y_aro h_w2_asr ha hg (Or.inr (Or.inl ⟨ab, c, sd, (mv + cn), (tot + n), tkT f sd xa c n 4, h_w2_h0, h_w2_ab, t_h0, t_ab, hs0, hc1, hc2, b7, hso, hsi, hse, upd_same _ _ _, updN_eq _ _ _, hlo, hv1, hB.come (by omega) a4 a6 b7⟩)) (fun z hz h1 h2 => (xf2 z (fun e => by rw [e, t_om] at h1 h2; omega) (fun e => by rw [e, t_aro] at h1 h2; omega) (fun e => by rw [e, t_ato] at h1 h2; omega) (fun e => by rw [e, t_amo] at h1 h2; omega)).trans (xf1 z (fun e => by rw [e, t_h0] at h1 h2; omega) (fun e => by rw [e, t_ab] at h1 h2; omega))) (fun j hj => updN_ne hj) (fun j hj => upd_ne2 hj) (fun j hj => rfl) ho1⟩
    · obtain ⟨ab, b, sd, mv, tot, f, hh, h_ab, t_h0, t_ab, hs0, hb1, hb2, hmv, hso, hsi, hse, hto, hmo, hlo, hv⟩ := H
      refine (c_X6_come_F D cI cS w ox as md a g0 h0 ab b sd mv tot f x n hox has hh h_ab hmd ha hg hs0 hb1 hb2 hmv).mono (fun r w1 z1 => ?_)
      rcases z1 with ⟨a1, a2, rfl⟩ | ⟨xa, cn, a1, a2, a3, a4, a5, a6, a7⟩
      · refine ⟨⟨_, by assumption⟩, (c_X7_come_F D cI cS w1 om md aso asi ase ato amo alo aro asr th so si se to mo lo ro sr tg a b sd mv tot f x n hom h_aso h_asi h_ase h_ato h_amo h_alo h_aro h_asr hmd ha hs0 hso hsi hse hto hmo hb1 hb2 hv hlo hmv t_aso t_asi t_ase t_ato t_amo t_alo t_aro t_asr).mono (fun r2 w2 z2 => ?_)⟩
        rcases z2 with ⟨b1, b2, y1, y2⟩ | ⟨xb, cb, b1, b2, b3, b4, b5, b6, b7⟩
        · exact ⟨b2.trans a2.symm, hIN0.rd y1 y2⟩
        · exact absurd ⟨⟨xb, b1, b2⟩, b3⟩ a1
      · rcases a7 with ⟨a7, a8, rfl⟩ | ⟨a7, a8, c_h0, c_ab, xf1⟩
        · refine ⟨⟨_, by assumption⟩, (c_X7_come_F D cI cS w1 om md aso asi ase ato amo alo aro asr th so si se to mo lo ro sr tg a b sd mv tot f x n hom h_aso h_asi h_ase h_ato h_amo h_alo h_aro h_asr hmd ha hs0 hso hsi hse hto hmo hb1 hb2 hv hlo hmv t_aso t_asi t_ase t_ato t_amo t_alo t_aro t_asr).mono (fun r2 w2 z2 => ?_)⟩
          rcases z2 with ⟨b1, b2, y1, y2⟩ | ⟨xb, cb, b1, b2, b3, b4, b5, b6, b7⟩
          · exact absurd ⟨⟨xa, a1, a2⟩, a3⟩ b1
          · have ec := (nI_eq (by omega) (by omega)).mp (a4.symm.trans b4)
            rcases b7 with ⟨b7, b8, y1, y2⟩ | ⟨b7, b8⟩
            · exact ⟨b8.trans a8.symm, hIN0.rd y1 y2⟩
            · omega
        · have h_w1_ox : w1 ox = some (.inr (5, [.ref as, .int (nI md)])) := (xf1 ox (tne t_ox t_h0 (by omega)) (tne t_ox t_ab (by omega))).trans hox
          have h_w1_as : w1 as = some (eR cS 8 g0) := (xf1 as (tne t_as t_h0 (by omega)) (tne t_as t_ab (by omega))).trans has
          have h_w1_om : w1 om = some (.inr (6, [.int th, .int (nI md), .ref aso, .ref asi, .ref ase, .ref ato, .ref amo, .ref alo, .ref aro, .ref asr])) := (xf1 om (tne t_om t_h0 (by omega)) (tne t_om t_ab (by omega))).trans hom
          have h_w1_aso : w1 aso = some (eI cI 8 (lnF so)) := (xf1 aso (tne t_aso t_h0 (by omega)) (tne t_aso t_ab (by omega))).trans h_aso
          have h_w1_asi : w1 asi = some (eI cI 8 (lnF si)) := (xf1 asi (tne t_asi t_h0 (by omega)) (tne t_asi t_ab (by omega))).trans h_asi
          have h_w1_ase : w1 ase = some (eI cI 8 (lnF se)) := (xf1 ase (tne t_ase t_h0 (by omega)) (tne t_ase t_ab (by omega))).trans h_ase
          have h_w1_ato : w1 ato = some (eI cI 8 to) := (xf1 ato (tne t_ato t_h0 (by omega)) (tne t_ato t_ab (by omega))).trans h_ato
          have h_w1_amo : w1 amo = some (eI cI 8 (lnF mo)) := (xf1 amo (tne t_amo t_h0 (by omega)) (tne t_amo t_ab (by omega))).trans h_amo
          have h_w1_alo : w1 alo = some (eI cI 8 lo) := (xf1 alo (tne t_alo t_h0 (by omega)) (tne t_alo t_ab (by omega))).trans h_alo
          have h_w1_aro : w1 aro = some (eI cI 9600 ro) := (xf1 aro (tne t_aro t_h0 (by omega)) (tne t_aro t_ab (by omega))).trans h_aro
          have h_w1_asr : w1 asr = some (eI cI 1024 sr) := (xf1 asr (tne t_asr t_h0 (by omega)) (tne t_asr t_ab (by omega))).trans h_asr
          refine ⟨⟨_, by assumption⟩, (c_X7_come_F D cI cS w1 om md aso asi ase ato amo alo aro asr th so si se to mo lo ro sr tg a b sd mv tot f x n h_w1_om h_w1_aso h_w1_asi h_w1_ase h_w1_ato h_w1_amo h_w1_alo h_w1_aro h_w1_asr hmd ha hs0 hso hsi hse hto hmo hb1 hb2 hv hlo hmv t_aso t_asi t_ase t_ato t_amo t_alo t_aro t_asr).mono (fun r2 w2 z2 => ?_)⟩
          rcases z2 with ⟨b1, b2, y1, y2⟩ | ⟨xb, cb, b1, b2, b3, b4, b5, b6, b7⟩
          · exact absurd ⟨⟨xa, a1, a2⟩, a3⟩ b1
          · have ec := (nI_eq (by omega) (by omega)).mp (a4.symm.trans b4)
            have ex := (nI_eq (by omega) (by omega)).mp (a2.symm.trans b2)
            subst ec
            subst ex
            rcases b7 with ⟨b7, b8, y1, y2⟩ | ⟨b7, b8, y_om, y_ato, y_amo, ⟨ro1, y_aro, ho1, hv1⟩, xf2⟩
            · omega
            · have h_w2_ox : w2 ox = some (.inr (5, [.ref as, .int (nI md)])) := (xf2 ox (tne t_ox t_om (by omega)) (tne t_ox t_aro (by omega)) (tne t_ox t_ato (by omega)) (tne t_ox t_amo (by omega))).trans h_w1_ox
              have h_w2_as : w2 as = some (eR cS 8 g0) := (xf2 as (tne t_as t_om (by omega)) (tne t_as t_aro (by omega)) (tne t_as t_ato (by omega)) (tne t_as t_amo (by omega))).trans h_w1_as
              have h_w2_aso : w2 aso = some (eI cI 8 (lnF so)) := (xf2 aso (tne t_aso t_om (by omega)) (tne t_aso t_aro (by omega)) (tne t_aso t_ato (by omega)) (tne t_aso t_amo (by omega))).trans h_w1_aso
              have h_w2_asi : w2 asi = some (eI cI 8 (lnF si)) := (xf2 asi (tne t_asi t_om (by omega)) (tne t_asi t_aro (by omega)) (tne t_asi t_ato (by omega)) (tne t_asi t_amo (by omega))).trans h_w1_asi
              have h_w2_ase : w2 ase = some (eI cI 8 (lnF se)) := (xf2 ase (tne t_ase t_om (by omega)) (tne t_ase t_aro (by omega)) (tne t_ase t_ato (by omega)) (tne t_ase t_amo (by omega))).trans h_w1_ase
              have h_w2_alo : w2 alo = some (eI cI 8 lo) := (xf2 alo (tne t_alo t_om (by omega)) (tne t_alo t_aro (by omega)) (tne t_alo t_ato (by omega)) (tne t_alo t_amo (by omega))).trans h_w1_alo
              have h_w2_asr : w2 asr = some (eI cI 1024 sr) := (xf2 asr (tne t_asr t_om (by omega)) (tne t_asr t_aro (by omega)) (tne t_asr t_ato (by omega)) (tne t_asr t_amo (by omega))).trans h_w1_asr
              have h_w2_h0 : w2 h0 = some (.inr (0, [.int (nI 2), .int (nI b), .int (nI sd), .int (tot + n), .int (nI (mv + cn)), .ref ab])) := (xf2 h0 (tne t_h0 t_om (by omega)) (tne t_h0 t_aro (by omega)) (tne t_h0 t_ato (by omega)) (tne t_h0 t_amo (by omega))).trans c_h0
              have h_w2_ab : w2 ab = some (eI cI b (tkF f sd xa b 4)) := (xf2 ab (tne t_ab t_om (by omega)) (tne t_ab t_aro (by omega)) (tne t_ab t_ato (by omega)) (tne t_ab t_amo (by omega))).trans c_ab
              refine ⟨b8.trans a8.symm, hIN0.ch h_w2_ox h_w2_as y_om h_w2_aso h_w2_asi h_w2_ase y_ato y_amo h_w2_alo y_aro h_w2_asr ha hg (Or.inr (Or.inr (Or.inl ⟨ab, b, sd, (mv + cn), (tot + n), tkF f sd xa b 4, h_w2_h0, h_w2_ab, t_h0, t_ab, hs0, hb1, hb2, b7, hso, hsi, hse, upd_same _ _ _, updN_eq _ _ _, hlo, hv1⟩))) (fun z hz h1 h2 => (xf2 z (fun e => by rw [e, t_om] at h1 h2; omega) (fun e => by rw [e, t_aro] at h1 h2; omega) (fun e => by rw [e, t_ato] at h1 h2; omega) (fun e => by rw [e, t_amo] at h1 h2; omega)).trans (xf1 z (fun e => by rw [e, t_h0] at h1 h2; omega) (fun e => by rw [e, t_ab] at h1 h2; omega))) (fun j hj => updN_ne hj) (fun j hj => upd_ne2 hj) (fun j hj => rfl) ho1⟩
    · obtain ⟨ab, k, sd, h, mv, tot, f, u, hh, h_ab, t_h0, t_ab, hs0, hk1, hk2, hmv, hso, hsi, hse, hto, hmo, hlo, hh2, hl, hR⟩ := H
      refine (c_X6_come_L D cI cS w ox as md a g0 h0 ab k sd h mv tot f x n hox has hh h_ab hmd ha hg hs0 hk1 hk2 hh2 hmv).mono (fun r w1 z1 => ?_)
      rcases z1 with ⟨a1, a2, rfl⟩ | ⟨xa, cn, a1, a2, a3, a4, a5, a6, a7⟩
      · refine ⟨⟨_, by assumption⟩, (c_X7_come_L D cI cS w1 om md aso asi ase ato amo alo aro asr th so si se to mo lo ro sr tg a h k sd mv tot u x n hom h_aso h_asi h_ase h_ato h_amo h_alo h_aro h_asr hmd ha hs0 hso hsi hse hto hmo hk1 hk2 hh2 hl hlo hmv t_aso t_asi t_ase t_ato t_amo t_alo t_aro t_asr).mono (fun r2 w2 z2 => ?_)⟩
        rcases z2 with ⟨b1, b2, y1, y2⟩ | ⟨xb, cb, b1, b2, b3, b4, b5, b6, b7⟩
        · exact ⟨b2.trans a2.symm, hIN0.rd y1 y2⟩
        · exact absurd ⟨⟨xb, b1, b2⟩, b3⟩ a1
      · rcases a7 with ⟨a7, a8, rfl⟩ | ⟨a7, a8, c_h0, c_ab, xf1⟩
        · refine ⟨⟨_, by assumption⟩, (c_X7_come_L D cI cS w1 om md aso asi ase ato amo alo aro asr th so si se to mo lo ro sr tg a h k sd mv tot u x n hom h_aso h_asi h_ase h_ato h_amo h_alo h_aro h_asr hmd ha hs0 hso hsi hse hto hmo hk1 hk2 hh2 hl hlo hmv t_aso t_asi t_ase t_ato t_amo t_alo t_aro t_asr).mono (fun r2 w2 z2 => ?_)⟩
          rcases z2 with ⟨b1, b2, y1, y2⟩ | ⟨xb, cb, b1, b2, b3, b4, b5, b6, b7⟩
          · exact absurd ⟨⟨xa, a1, a2⟩, a3⟩ b1
          · have ec := (nI_eq (by omega) (by omega)).mp (a4.symm.trans b4)
            rcases b7 with ⟨b7, b8, y1, y2⟩ | ⟨b7, b8⟩
            · exact ⟨b8.trans a8.symm, hIN0.rd y1 y2⟩
            · omega
        · have h_w1_ox : w1 ox = some (.inr (5, [.ref as, .int (nI md)])) := (xf1 ox (tne t_ox t_h0 (by omega)) (tne t_ox t_ab (by omega))).trans hox
          have h_w1_as : w1 as = some (eR cS 8 g0) := (xf1 as (tne t_as t_h0 (by omega)) (tne t_as t_ab (by omega))).trans has
          have h_w1_om : w1 om = some (.inr (6, [.int th, .int (nI md), .ref aso, .ref asi, .ref ase, .ref ato, .ref amo, .ref alo, .ref aro, .ref asr])) := (xf1 om (tne t_om t_h0 (by omega)) (tne t_om t_ab (by omega))).trans hom
          have h_w1_aso : w1 aso = some (eI cI 8 (lnF so)) := (xf1 aso (tne t_aso t_h0 (by omega)) (tne t_aso t_ab (by omega))).trans h_aso
          have h_w1_asi : w1 asi = some (eI cI 8 (lnF si)) := (xf1 asi (tne t_asi t_h0 (by omega)) (tne t_asi t_ab (by omega))).trans h_asi
          have h_w1_ase : w1 ase = some (eI cI 8 (lnF se)) := (xf1 ase (tne t_ase t_h0 (by omega)) (tne t_ase t_ab (by omega))).trans h_ase
          have h_w1_ato : w1 ato = some (eI cI 8 to) := (xf1 ato (tne t_ato t_h0 (by omega)) (tne t_ato t_ab (by omega))).trans h_ato
          have h_w1_amo : w1 amo = some (eI cI 8 (lnF mo)) := (xf1 amo (tne t_amo t_h0 (by omega)) (tne t_amo t_ab (by omega))).trans h_amo
          have h_w1_alo : w1 alo = some (eI cI 8 lo) := (xf1 alo (tne t_alo t_h0 (by omega)) (tne t_alo t_ab (by omega))).trans h_alo
          have h_w1_aro : w1 aro = some (eI cI 9600 ro) := (xf1 aro (tne t_aro t_h0 (by omega)) (tne t_aro t_ab (by omega))).trans h_aro
          have h_w1_asr : w1 asr = some (eI cI 1024 sr) := (xf1 asr (tne t_asr t_h0 (by omega)) (tne t_asr t_ab (by omega))).trans h_asr
          refine ⟨⟨_, by assumption⟩, (c_X7_come_L D cI cS w1 om md aso asi ase ato amo alo aro asr th so si se to mo lo ro sr tg a h k sd mv tot u x n h_w1_om h_w1_aso h_w1_asi h_w1_ase h_w1_ato h_w1_amo h_w1_alo h_w1_aro h_w1_asr hmd ha hs0 hso hsi hse hto hmo hk1 hk2 hh2 hl hlo hmv t_aso t_asi t_ase t_ato t_amo t_alo t_aro t_asr).mono (fun r2 w2 z2 => ?_)⟩
          rcases z2 with ⟨b1, b2, y1, y2⟩ | ⟨xb, cb, b1, b2, b3, b4, b5, b6, b7⟩
          · exact absurd ⟨⟨xa, a1, a2⟩, a3⟩ b1
          · have ec := (nI_eq (by omega) (by omega)).mp (a4.symm.trans b4)
            have ex := (nI_eq (by omega) (by omega)).mp (a2.symm.trans b2)
            subst ec
            subst ex
            rcases b7 with ⟨b7, b8, y1, y2⟩ | ⟨b7, b8, y_om, y_ato, y_amo, ⟨ro1, y_aro, ho1, hv1⟩, xf2⟩
            · omega
            · have h_w2_ox : w2 ox = some (.inr (5, [.ref as, .int (nI md)])) := (xf2 ox (tne t_ox t_om (by omega)) (tne t_ox t_aro (by omega)) (tne t_ox t_ato (by omega)) (tne t_ox t_amo (by omega))).trans h_w1_ox
              have h_w2_as : w2 as = some (eR cS 8 g0) := (xf2 as (tne t_as t_om (by omega)) (tne t_as t_aro (by omega)) (tne t_as t_ato (by omega)) (tne t_as t_amo (by omega))).trans h_w1_as
              have h_w2_aso : w2 aso = some (eI cI 8 (lnF so)) := (xf2 aso (tne t_aso t_om (by omega)) (tne t_aso t_aro (by omega)) (tne t_aso t_ato (by omega)) (tne t_aso t_amo (by omega))).trans h_w1_aso
              have h_w2_asi : w2 asi = some (eI cI 8 (lnF si)) := (xf2 asi (tne t_asi t_om (by omega)) (tne t_asi t_aro (by omega)) (tne t_asi t_ato (by omega)) (tne t_asi t_amo (by omega))).trans h_w1_asi
              have h_w2_ase : w2 ase = some (eI cI 8 (lnF se)) := (xf2 ase (tne t_ase t_om (by omega)) (tne t_ase t_aro (by omega)) (tne t_ase t_ato (by omega)) (tne t_ase t_amo (by omega))).trans h_w1_ase
              have h_w2_alo : w2 alo = some (eI cI 8 lo) := (xf2 alo (tne t_alo t_om (by omega)) (tne t_alo t_aro (by omega)) (tne t_alo t_ato (by omega)) (tne t_alo t_amo (by omega))).trans h_w1_alo
              have h_w2_asr : w2 asr = some (eI cI 1024 sr) := (xf2 asr (tne t_asr t_om (by omega)) (tne t_asr t_aro (by omega)) (tne t_asr t_ato (by omega)) (tne t_asr t_amo (by omega))).trans h_w1_asr
              have h_w2_h0 : w2 h0 = some (.inr (2, [.int (nI 3), .int (nI k), .int (nI sd), .int (tot + n), .int (nI (mv + cn)), .ref ab, .int (nI ((adL k (nI (hsN sd 0 xa)) (f, h)).2))])) := (xf2 h0 (tne t_h0 t_om (by omega)) (tne t_h0 t_aro (by omega)) (tne t_h0 t_ato (by omega)) (tne t_h0 t_amo (by omega))).trans c_h0
              have h_w2_ab : w2 ab = some (eI cI k ((adL k (nI (hsN sd 0 xa)) (f, h)).1)) := (xf2 ab (tne t_ab t_om (by omega)) (tne t_ab t_aro (by omega)) (tne t_ab t_ato (by omega)) (tne t_ab t_amo (by omega))).trans c_ab
              have hhl := hsN_lt sd 0 xa
              obtain ⟨hR1, hE1⟩ := LsR.add (k := k) (a := hsN sd 0 xa) (by omega) hh2 hhl hR
              refine ⟨b8.trans a8.symm, hIN0.ch h_w2_ox h_w2_as y_om h_w2_aso h_w2_asi h_w2_ase y_ato y_amo h_w2_alo y_aro h_w2_asr ha hg (Or.inr (Or.inr (Or.inr (Or.inl ⟨ab, k, sd, (adL k (nI (hsN sd 0 xa)) (f, h)).2, (mv + cn), (tot + n), (adL k (nI (hsN sd 0 xa)) (f, h)).1, (kpU k (nI (hsN sd 0 xa)) (u, h)).1, h_w2_h0, h_w2_ab, t_h0, t_ab, hs0, hk1, hk2, b7, hso, hsi, hse, upd_same _ _ _, updN_eq _ _ _, hlo, adL_le hh2, by rw [hE1]; exact hv1, hR1⟩)))) (fun z hz h1 h2 => (xf2 z (fun e => by rw [e, t_om] at h1 h2; omega) (fun e => by rw [e, t_aro] at h1 h2; omega) (fun e => by rw [e, t_ato] at h1 h2; omega) (fun e => by rw [e, t_amo] at h1 h2; omega)).trans (xf1 z (fun e => by rw [e, t_h0] at h1 h2; omega) (fun e => by rw [e, t_ab] at h1 h2; omega))) (fun j hj => updN_ne hj) (fun j hj => upd_ne2 hj) (fun j hj => rfl) ho1⟩
    · obtain ⟨ak, al, aw, k, sd, mv, e, tot, er, f, ln, tr, hh, h_ak, h_al, h_aw, t_h0, t_ak, t_al, t_aw, hs0, hke, he, hk2, hmv, hso, hsi, hse, hto, hmo, hlo, hok, hln, hr, hwt⟩ := H
      refine (c_X6_come_R D cI cS w ox as md a g0 h0 ak al aw k sd mv tot er f ln tr x n hox has hh h_ak h_al h_aw hmd ha hg hs0 (by omega) hk2 (tne t_ak t_al (by omega)) (tne t_ak t_aw (by omega)) (tne t_al t_aw (by omega)) hok hmv).mono (fun r w1 z1 => ?_)
      rcases z1 with ⟨a1, a2, rfl⟩ | ⟨xa, cn, a1, a2, a3, a4, a5, a6, a7⟩
      · refine ⟨⟨_, by assumption⟩, (c_X7_come_R D cI cS w1 om md aso asi ase ato amo alo aro asr th so si se to mo lo ro sr tg a k sd mv e 10001000 tot er f ln tr x n hom h_aso h_asi h_ase h_ato h_amo h_alo h_aro h_asr hmd ha hs0 hso hsi hse hto hmo (by omega) hk2 hln hr hlo hke he (by decide) hok (by omega) hmv t_aso t_asi t_ase t_ato t_amo t_alo t_aro t_asr).mono (fun r2 w2 z2 => ?_)⟩
        rcases z2 with ⟨b1, b2, y1, y2⟩ | ⟨xb, cb, b1, b2, b3, b4, b5, b6, b7⟩
        · exact ⟨b2.trans a2.symm, hIN0.rd y1 y2⟩
        · exact absurd ⟨⟨xb, b1, b2⟩, b3⟩ a1
      · rcases a7 with ⟨a7, a8, rfl⟩ | ⟨a7, a8, c_h0, c_ak, c_al, c_aw, xf1⟩
        · refine ⟨⟨_, by assumption⟩, (c_X7_come_R D cI cS w1 om md aso asi ase ato amo alo aro asr th so si se to mo lo ro sr tg a k sd mv e 10001000 tot er f ln tr x n hom h_aso h_asi h_ase h_ato h_amo h_alo h_aro h_asr hmd ha hs0 hso hsi hse hto hmo (by omega) hk2 hln hr hlo hke he (by decide) hok (by omega) hmv t_aso t_asi t_ase t_ato t_amo t_alo t_aro t_asr).mono (fun r2 w2 z2 => ?_)⟩
          rcases z2 with ⟨b1, b2, y1, y2⟩ | ⟨xb, cb, b1, b2, b3, b4, b5, b6, b7⟩
          · exact absurd ⟨⟨xa, a1, a2⟩, a3⟩ b1
          · have ec := (nI_eq (by omega) (by omega)).mp (a4.symm.trans b4)
            rcases b7 with ⟨b7, b8, y1, y2⟩ | ⟨b7, b8⟩
            · exact ⟨b8.trans a8.symm, hIN0.rd y1 y2⟩
            · omega
        · have h_w1_ox : w1 ox = some (.inr (5, [.ref as, .int (nI md)])) := (xf1 ox (tne t_ox t_h0 (by omega)) (tne t_ox t_ak (by omega)) (tne t_ox t_al (by omega)) (tne t_ox t_aw (by omega))).trans hox
          have h_w1_as : w1 as = some (eR cS 8 g0) := (xf1 as (tne t_as t_h0 (by omega)) (tne t_as t_ak (by omega)) (tne t_as t_al (by omega)) (tne t_as t_aw (by omega))).trans has
          have h_w1_om : w1 om = some (.inr (6, [.int th, .int (nI md), .ref aso, .ref asi, .ref ase, .ref ato, .ref amo, .ref alo, .ref aro, .ref asr])) := (xf1 om (tne t_om t_h0 (by omega)) (tne t_om t_ak (by omega)) (tne t_om t_al (by omega)) (tne t_om t_aw (by omega))).trans hom
          have h_w1_aso : w1 aso = some (eI cI 8 (lnF so)) := (xf1 aso (tne t_aso t_h0 (by omega)) (tne t_aso t_ak (by omega)) (tne t_aso t_al (by omega)) (tne t_aso t_aw (by omega))).trans h_aso
          have h_w1_asi : w1 asi = some (eI cI 8 (lnF si)) := (xf1 asi (tne t_asi t_h0 (by omega)) (tne t_asi t_ak (by omega)) (tne t_asi t_al (by omega)) (tne t_asi t_aw (by omega))).trans h_asi
          have h_w1_ase : w1 ase = some (eI cI 8 (lnF se)) := (xf1 ase (tne t_ase t_h0 (by omega)) (tne t_ase t_ak (by omega)) (tne t_ase t_al (by omega)) (tne t_ase t_aw (by omega))).trans h_ase
          have h_w1_ato : w1 ato = some (eI cI 8 to) := (xf1 ato (tne t_ato t_h0 (by omega)) (tne t_ato t_ak (by omega)) (tne t_ato t_al (by omega)) (tne t_ato t_aw (by omega))).trans h_ato
          have h_w1_amo : w1 amo = some (eI cI 8 (lnF mo)) := (xf1 amo (tne t_amo t_h0 (by omega)) (tne t_amo t_ak (by omega)) (tne t_amo t_al (by omega)) (tne t_amo t_aw (by omega))).trans h_amo
          have h_w1_alo : w1 alo = some (eI cI 8 lo) := (xf1 alo (tne t_alo t_h0 (by omega)) (tne t_alo t_ak (by omega)) (tne t_alo t_al (by omega)) (tne t_alo t_aw (by omega))).trans h_alo
          have h_w1_aro : w1 aro = some (eI cI 9600 ro) := (xf1 aro (tne t_aro t_h0 (by omega)) (tne t_aro t_ak (by omega)) (tne t_aro t_al (by omega)) (tne t_aro t_aw (by omega))).trans h_aro
          have h_w1_asr : w1 asr = some (eI cI 1024 sr) := (xf1 asr (tne t_asr t_h0 (by omega)) (tne t_asr t_ak (by omega)) (tne t_asr t_al (by omega)) (tne t_asr t_aw (by omega))).trans h_asr
          refine ⟨⟨_, by assumption⟩, (c_X7_come_R D cI cS w1 om md aso asi ase ato amo alo aro asr th so si se to mo lo ro sr tg a k sd mv e 10001000 tot er f ln tr x n h_w1_om h_w1_aso h_w1_asi h_w1_ase h_w1_ato h_w1_amo h_w1_alo h_w1_aro h_w1_asr hmd ha hs0 hso hsi hse hto hmo (by omega) hk2 hln hr hlo hke he (by decide) hok (by omega) hmv t_aso t_asi t_ase t_ato t_amo t_alo t_aro t_asr).mono (fun r2 w2 z2 => ?_)⟩
          rcases z2 with ⟨b1, b2, y1, y2⟩ | ⟨xb, cb, b1, b2, b3, b4, b5, b6, b7⟩
          · exact absurd ⟨⟨xa, a1, a2⟩, a3⟩ b1
          · have ec := (nI_eq (by omega) (by omega)).mp (a4.symm.trans b4)
            have ex := (nI_eq (by omega) (by omega)).mp (a2.symm.trans b2)
            subst ec
            subst ex
            rcases b7 with ⟨b7, b8, y1, y2⟩ | ⟨b7, b8, y_om, y_ato, y_amo, ⟨ro1, y_aro, ho1, hv1, y_alo, ⟨sr1, y_asr⟩⟩, xf2⟩
            · omega
            · have h_w2_ox : w2 ox = some (.inr (5, [.ref as, .int (nI md)])) := (xf2 ox (tne t_ox t_om (by omega)) (tne t_ox t_aro (by omega)) (tne t_ox t_asr (by omega)) (tne t_ox t_alo (by omega)) (tne t_ox t_ato (by omega)) (tne t_ox t_amo (by omega))).trans h_w1_ox
              have h_w2_as : w2 as = some (eR cS 8 g0) := (xf2 as (tne t_as t_om (by omega)) (tne t_as t_aro (by omega)) (tne t_as t_asr (by omega)) (tne t_as t_alo (by omega)) (tne t_as t_ato (by omega)) (tne t_as t_amo (by omega))).trans h_w1_as
              have h_w2_aso : w2 aso = some (eI cI 8 (lnF so)) := (xf2 aso (tne t_aso t_om (by omega)) (tne t_aso t_aro (by omega)) (tne t_aso t_asr (by omega)) (tne t_aso t_alo (by omega)) (tne t_aso t_ato (by omega)) (tne t_aso t_amo (by omega))).trans h_w1_aso
              have h_w2_asi : w2 asi = some (eI cI 8 (lnF si)) := (xf2 asi (tne t_asi t_om (by omega)) (tne t_asi t_aro (by omega)) (tne t_asi t_asr (by omega)) (tne t_asi t_alo (by omega)) (tne t_asi t_ato (by omega)) (tne t_asi t_amo (by omega))).trans h_w1_asi
              have h_w2_ase : w2 ase = some (eI cI 8 (lnF se)) := (xf2 ase (tne t_ase t_om (by omega)) (tne t_ase t_aro (by omega)) (tne t_ase t_asr (by omega)) (tne t_ase t_alo (by omega)) (tne t_ase t_ato (by omega)) (tne t_ase t_amo (by omega))).trans h_w1_ase
              have h_w2_h0 : w2 h0 = some (.inr (3, [.int (nI 4), .int (nI k), .int (nI sd), .int (tot + n), .int (nI (mv + cn)), .ref ak, .ref al, .ref aw, .int ((tkR k (nI xa) (f, ln, tr, er) cn).2.2.2)])) := (xf2 h0 (tne t_h0 t_om (by omega)) (tne t_h0 t_aro (by omega)) (tne t_h0 t_asr (by omega)) (tne t_h0 t_alo (by omega)) (tne t_h0 t_ato (by omega)) (tne t_h0 t_amo (by omega))).trans c_h0
              have h_w2_ak : w2 ak = some (eI cI (31 * k) ((tkR k (nI xa) (f, ln, tr, er) cn).1)) := (xf2 ak (tne t_ak t_om (by omega)) (tne t_ak t_aro (by omega)) (tne t_ak t_asr (by omega)) (tne t_ak t_alo (by omega)) (tne t_ak t_ato (by omega)) (tne t_ak t_amo (by omega))).trans c_ak
              have h_w2_al : w2 al = some (eI cI 31 (lnF (tkR k (nI xa) (f, ln, tr, er) cn).2.1)) := (xf2 al (tne t_al t_om (by omega)) (tne t_al t_aro (by omega)) (tne t_al t_asr (by omega)) (tne t_al t_alo (by omega)) (tne t_al t_ato (by omega)) (tne t_al t_amo (by omega))).trans c_al
              have h_w2_aw : w2 aw = some (eI cI 31 (lnF (tkR k (nI xa) (f, ln, tr, er) cn).2.2.1)) := (xf2 aw (tne t_aw t_om (by omega)) (tne t_aw t_aro (by omega)) (tne t_aw t_asr (by omega)) (tne t_aw t_alo (by omega)) (tne t_aw t_ato (by omega)) (tne t_aw t_amo (by omega))).trans c_aw
              obtain ⟨hl1, hw1⟩ := tkR_main (x := nI xa) (B := 10001000) hke he (by decide) hok hln cn (by show wtS ln 31 + cn ≤ _; omega)
              have hw2 : wtS (tkR k (nI xa) (f, ln, tr, er) cn).2.1 31 = wtS ln 31 + cn := hw1
              refine ⟨b8.trans a8.symm, hIN0.ch h_w2_ox h_w2_as y_om h_w2_aso h_w2_asi h_w2_ase y_ato y_amo y_alo y_aro y_asr ha hg (Or.inr (Or.inr (Or.inr (Or.inr (⟨ak, al, aw, k, sd, (mv + cn), e, (tot + n), (tkR k (nI xa) (f, ln, tr, er) cn).2.2.2, (tkR k (nI xa) (f, ln, tr, er) cn).1, (tkR k (nI xa) (f, ln, tr, er) cn).2.1, (tkR k (nI xa) (f, ln, tr, er) cn).2.2.1, h_w2_h0, h_w2_ak, h_w2_al, h_w2_aw, t_h0, t_ak, t_al, t_aw, hs0, hke, he, hk2, b7, hso, hsi, hse, upd_same _ _ _, updN_eq _ _ _, upd_same _ _ _, tkR_ok hok cn, hl1, hv1, by rw [hw2]; omega⟩))))) (fun z hz h1 h2 => (xf2 z (fun e => by rw [e, t_om] at h1 h2; omega) (fun e => by rw [e, t_aro] at h1 h2; omega) (fun e => by rw [e, t_asr] at h1 h2; omega) (fun e => by rw [e, t_alo] at h1 h2; omega) (fun e => by rw [e, t_ato] at h1 h2; omega) (fun e => by rw [e, t_amo] at h1 h2; omega)).trans (xf1 z (fun e => by rw [e, t_h0] at h1 h2; omega) (fun e => by rw [e, t_ak] at h1 h2; omega) (fun e => by rw [e, t_al] at h1 h2; omega) (fun e => by rw [e, t_aw] at h1 h2; omega))) (fun j hj => updN_ne hj) (fun j hj => upd_ne2 hj) (fun j hj => upd_ne2 hj) ho1⟩
  · refine (c_X6_come_nn D cI cS w ox as md g0 s x n hox has hmd hs).mono (fun r w1 z1 => ?_)
    obtain ⟨q1, rfl⟩ := z1
    refine ⟨⟨_, by assumption⟩, (c_X7_come_nn D cI cS w1 om md aso asi ase ato amo alo aro asr th s x n hom hmd hs).mono (fun r2 w2 z2 => ?_)⟩
    obtain ⟨q2, y1, y2⟩ := z2
    exact ⟨q2.trans q1.symm, hIN0.rd y1 y2⟩
