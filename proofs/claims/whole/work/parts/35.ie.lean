theorem tgn_0 {tg : Nat → Nat} {md q qa qb qc : Nat} : tgn tg md q qa qb qc q = 4 * md + 12 := by unfold tgn; rw [if_pos rfl]
theorem tgn_1 {tg : Nat → Nat} {md q qa qb qc : Nat} (h : q ≠ qa) : tgn tg md q qa qb qc qa = 4 * md + 13 := by unfold tgn; rw [if_neg (Ne.symm h), if_pos rfl]
theorem tgn_2 {tg : Nat → Nat} {md q qa qb qc : Nat} (h : q ≠ qb) (h2 : qa ≠ qb) : tgn tg md q qa qb qc qb = 4 * md + 14 := by unfold tgn; rw [if_neg (Ne.symm h), if_neg (Ne.symm h2), if_pos rfl]
theorem tgn_3 {tg : Nat → Nat} {md q qa qb qc : Nat} (h : q ≠ qc) (h2 : qa ≠ qc) (h3 : qb ≠ qc) : tgn tg md q qa qb qc qc = 4 * md + 15 := by unfold tgn; rw [if_neg (Ne.symm h), if_neg (Ne.symm h2), if_neg (Ne.symm h3), if_pos rfl]
def cpN (l : Nat → Nat) : Nat → Nat := fun i => if i < 31 then l i else 0
theorem cpN_in {l : Nat → Nat} {b : Nat} (h : b < 31) : cpN l b = l b := if_pos h
theorem cpN_le {l : Nat → Nat} {m : Nat} (h : ∀ b, l b ≤ m) (b : Nat) : cpN l b ≤ m := by
  unfold cpN
  split
  · exact h b
  · exact Nat.zero_le _
theorem cpN_ln (l : Nat → Nat) : cpy0 (lnF l) (fun _ => 0) 31 = lnF (cpN l) := by
  funext i
  show (if i < 31 then nI (l i) else 0) = nI (if i < 31 then l i else 0)
  split
  · rfl
  · exact nI_0.symm
theorem lnF_0 : lnF (fun _ => 0) = (fun _ => (0 : Int32)) := funext (fun _ => nI_0)
theorem cpf {f g : Nat → Int32} {n i : Nat} (h : i < n) : f i = cpy0 f g n i := (if_pos h).symm
theorem TbB.cp {f g : Nat → Int32} {n mv : Nat} (H : TbB mv f n) : TbB mv (cpy0 f g n) n := fun i hi => by rw [← cpf hi]; exact H i hi
theorem wtS_cg {l l2 : Nat → Nat} (n : Nat) (h : ∀ b, b < n → l b = l2 b) : wtS l n = wtS l2 n := by
  induction n with
  | zero => rfl
  | succ n ih => rw [wtS, wtS, ih (fun b hb => h b (by omega)), h n (by omega)]
theorem bk_lt {b k i m : Nat} (hb : b < m) (hi : i < k) : b * k + i < m * k := by
  have h1 : (b + 1) * k ≤ m * k := Nat.mul_le_mul_right k hb
  rw [Nat.succ_mul] at h1
  omega

set_option maxHeartbeats 4000000 in
theorem O_copy (D : va_G) (cI cS : ClassId) (w : mwT) (ox om : Nat) (s : Int32) (hI : INV cI cS ox om w) : ∃ c sl : Nat, c ≤ 4 ∧ sl ≤ 1063 ∧ mMi yX6_copy cX6_copy 3 (some .int) (rmA 8 c sl) [.ref ox, .int s] D cI cS w (fun r w1 => ((∃ vs : List Value, w1 om = some (.inr (6, vs))) ∧ mMi yX7_copy cX7_copy 4 (some .int) (rmL 8) [.ref om, .int s] D cI cS w1 (fun r2 w2 => r2 = r ∧ INV cI cS ox om w2))) := by
  obtain ⟨as, md, aso, asi, ase, ato, amo, alo, aro, asr, th, g0, so, si, se, mo, to, lo, ro, sr, tg, hIN⟩ := hI
  have hIN0 := hIN
  obtain ⟨hmd, hox, has, hom, h_aso, h_asi, h_ase, h_ato, h_amo, h_alo, h_aro, h_asr, t_ox, t_as, t_om, t_aso, t_asi, t_ase, t_ato, t_amo, t_alo, t_aro, t_asr, hS⟩ := hIN
  by_cases hs : ixN md s
  · obtain ⟨a, ha, rfl⟩ := hs
    obtain ⟨h0, hg, hk⟩ := hS a ha
    rcases hk with H | H | H | H | H
    · obtain ⟨ak, an, k, sd, h, mv, tot, f, g, u, vn, hh, h_ak, h_an, t_h0, t_ak, t_an, hs0, hk1, hk2, hmv, hso, hsi, hse, hto, hmo, hh2, hv, hvn, hR⟩ := H
      refine ⟨3, 89, by omega, by omega, (c_X6_copy_H D cI cS w ox as md a g0 h0 ak an k sd h mv tot (lo a) f g  hox has hh h_ak h_an hmd ha hg hs0 hk1 hk2 hh2 (tne t_ak t_an (by omega))).mono (fun r w1 z1 => ?_)⟩
      rcases z1 with ⟨a7, a8, rfl⟩ | ⟨hm8, q, qa, qb, q1, n_q, n_qa, n_qb, d_qa, d_qb, d_ab, c_ox, c_as, c_q, c_qa, c_qb, xf1⟩
      · refine ⟨⟨_, by assumption⟩, (c_X7_copy_full D cI cS w1 om md aso asi ase ato amo alo aro asr th so si se to mo lo ro tg a hom h_aso h_asi h_ase h_ato h_amo h_alo h_aro hmd ha (by omega)).mono (fun r2 w2 z2 => ?_)⟩
        obtain ⟨q2, y1, y2⟩ := z2
        exact ⟨q2.trans a8.symm, hIN0.rd y1 y2⟩
      · have k_om := (xf1 om (mw_nn hom n_q) (mw_nn hom n_qa) (mw_nn hom n_qb) (tne t_om t_ox (by decide)) (tne t_om t_as (by decide))).trans hom
        have k_aso := (xf1 aso (mw_nn h_aso n_q) (mw_nn h_aso n_qa) (mw_nn h_aso n_qb) (tne t_aso t_ox (by decide)) (tne t_aso t_as (by decide))).trans h_aso
        have k_asi := (xf1 asi (mw_nn h_asi n_q) (mw_nn h_asi n_qa) (mw_nn h_asi n_qb) (tne t_asi t_ox (by decide)) (tne t_asi t_as (by decide))).trans h_asi
        have k_ase := (xf1 ase (mw_nn h_ase n_q) (mw_nn h_ase n_qa) (mw_nn h_ase n_qb) (tne t_ase t_ox (by decide)) (tne t_ase t_as (by decide))).trans h_ase
        have k_ato := (xf1 ato (mw_nn h_ato n_q) (mw_nn h_ato n_qa) (mw_nn h_ato n_qb) (tne t_ato t_ox (by decide)) (tne t_ato t_as (by decide))).trans h_ato
        have k_amo := (xf1 amo (mw_nn h_amo n_q) (mw_nn h_amo n_qa) (mw_nn h_amo n_qb) (tne t_amo t_ox (by decide)) (tne t_amo t_as (by decide))).trans h_amo
        have k_alo := (xf1 alo (mw_nn h_alo n_q) (mw_nn h_alo n_qa) (mw_nn h_alo n_qb) (tne t_alo t_ox (by decide)) (tne t_alo t_as (by decide))).trans h_alo
        have k_aro := (xf1 aro (mw_nn h_aro n_q) (mw_nn h_aro n_qa) (mw_nn h_aro n_qb) (tne t_aro t_ox (by decide)) (tne t_aro t_as (by decide))).trans h_aro
        have k_asr := (xf1 asr (mw_nn h_asr n_q) (mw_nn h_asr n_qa) (mw_nn h_asr n_qb) (tne t_asr t_ox (by decide)) (tne t_asr t_as (by decide))).trans h_asr
        refine ⟨⟨_, by assumption⟩, (c_X7_copy D cI cS w1 om md aso asi ase ato amo alo aro asr th so si se to mo lo ro tg a k_om k_aso k_asi k_ase k_ato k_amo k_alo k_aro hmd ha hm8 t_aso t_asi t_ase t_ato t_amo t_alo t_aro).mono (fun r2 w2 z2 => ?_)⟩
        obtain ⟨q2, y_om, y_aso, y_asi, y_ase, y_ato, y_amo, y_alo, y_aro, xf2⟩ := z2
        have m_ox := (xf2 ox (tne t_ox t_om (by decide)) (tne t_ox t_aso (by decide)) (tne t_ox t_asi (by decide)) (tne t_ox t_ase (by decide)) (tne t_ox t_ato (by decide)) (tne t_ox t_amo (by decide)) (tne t_ox t_alo (by decide)) (tne t_ox t_aro (by decide))).trans c_ox
        have m_as := (xf2 as (tne t_as t_om (by decide)) (tne t_as t_aso (by decide)) (tne t_as t_asi (by decide)) (tne t_as t_ase (by decide)) (tne t_as t_ato (by decide)) (tne t_as t_amo (by decide)) (tne t_as t_alo (by decide)) (tne t_as t_aro (by decide))).trans c_as
        have m_asr := (xf2 asr (tne t_asr t_om (by decide)) (tne t_asr t_aso (by decide)) (tne t_asr t_asi (by decide)) (tne t_asr t_ase (by decide)) (tne t_asr t_ato (by decide)) (tne t_asr t_amo (by decide)) (tne t_asr t_alo (by decide)) (tne t_asr t_aro (by decide))).trans k_asr
        have m_q := (xf2 q (Ne.symm (mw_nn hom n_q)) (Ne.symm (mw_nn h_aso n_q)) (Ne.symm (mw_nn h_asi n_q)) (Ne.symm (mw_nn h_ase n_q)) (Ne.symm (mw_nn h_ato n_q)) (Ne.symm (mw_nn h_amo n_q)) (Ne.symm (mw_nn h_alo n_q)) (Ne.symm (mw_nn h_aro n_q))).trans c_q
        have m_qa := (xf2 qa (Ne.symm (mw_nn hom n_qa)) (Ne.symm (mw_nn h_aso n_qa)) (Ne.symm (mw_nn h_asi n_qa)) (Ne.symm (mw_nn h_ase n_qa)) (Ne.symm (mw_nn h_ato n_qa)) (Ne.symm (mw_nn h_amo n_qa)) (Ne.symm (mw_nn h_alo n_qa)) (Ne.symm (mw_nn h_aro n_qa))).trans c_qa
        have m_qb := (xf2 qb (Ne.symm (mw_nn hom n_qb)) (Ne.symm (mw_nn h_aso n_qb)) (Ne.symm (mw_nn h_asi n_qb)) (Ne.symm (mw_nn h_ase n_qb)) (Ne.symm (mw_nn h_ato n_qb)) (Ne.symm (mw_nn h_amo n_qb)) (Ne.symm (mw_nn h_alo n_qb)) (Ne.symm (mw_nn h_aro n_qb))).trans c_qb
        exact ⟨q2.trans q1.symm, hIN0.nw (q := q) (qa := qa) (qb := qb) (qc := qb) m_ox m_as y_om y_aso y_asi y_ase y_ato y_amo y_alo y_aro m_asr hm8 n_q n_qa n_qb n_qb (Or.inl ⟨qa, qb, k, sd, h, mv, tot, cpy0 f (fun _ => 0) (2 * k), cpy0 g (fun _ => 0) (2 * k), u, vn, by rw [upd_same]; exact m_q, m_qa, m_qb, tgn_0, tgn_1 d_qa, tgn_2 d_qb d_ab, hs0, hk1, hk2, hmv, (updN_eq _ _ _).trans hso, (updN_eq _ _ _).trans hsi, (updN_eq _ _ _).trans hse, (upd_same _ _ _).trans hto, (updN_eq _ _ _).trans hmo, hh2, hv.cp (by omega), hvn, hR.ext (fun i hi => cpf (by omega)) (fun i hi => cpf (by omega))⟩) (fun z hz h1 => (xf2 z (fun e => by rw [e, t_om] at h1; omega) (fun e => by rw [e, t_aso] at h1; omega) (fun e => by rw [e, t_asi] at h1; omega) (fun e => by rw [e, t_ase] at h1; omega) (fun e => by rw [e, t_ato] at h1; omega) (fun e => by rw [e, t_amo] at h1; omega) (fun e => by rw [e, t_alo] at h1; omega) (fun e => by rw [e, t_aro] at h1; omega)).trans (xf1 z (fun e => hz (by rw [e]; exact n_q)) (fun e => hz (by rw [e]; exact n_qa)) (fun e => hz (by rw [e]; exact n_qb)) (fun e => by rw [e, t_ox] at h1; omega) (fun e => by rw [e, t_as] at h1; omega))) (fun j hj => updN_ne hj) (fun j hj => updN_ne hj) (fun j hj => updN_ne hj) (fun j hj => updN_ne hj) (fun j hj => upd_ne2 hj) (fun j hj => upd_ne2 hj) (cpM_out ro a md)⟩
    · obtain ⟨ab, c, sd, mv, tot, f, hh, h_ab, t_h0, t_ab, hs0, hc1, hc2, hmv, hso, hsi, hse, hto, hmo, hlo, hv, hB⟩ := H
      refine ⟨2, 262, by omega, by omega, (c_X6_copy_T D cI cS w ox as md a g0 h0 ab c sd mv tot f  hox has hh h_ab hmd ha hg hs0 hc1 hc2).mono (fun r w1 z1 => ?_)⟩
      rcases z1 with ⟨a7, a8, rfl⟩ | ⟨hm8, q, qa, q1, n_q, n_qa, d_qa, c_ox, c_as, c_q, c_qa, xf1⟩
      · refine ⟨⟨_, by assumption⟩, (c_X7_copy_full D cI cS w1 om md aso asi ase ato amo alo aro asr th so si se to mo lo ro tg a hom h_aso h_asi h_ase h_ato h_amo h_alo h_aro hmd ha (by omega)).mono (fun r2 w2 z2 => ?_)⟩
        obtain ⟨q2, y1, y2⟩ := z2
        exact ⟨q2.trans a8.symm, hIN0.rd y1 y2⟩
      · have k_om := (xf1 om (mw_nn hom n_q) (mw_nn hom n_qa) (tne t_om t_ox (by decide)) (tne t_om t_as (by decide))).trans hom
        have k_aso := (xf1 aso (mw_nn h_aso n_q) (mw_nn h_aso n_qa) (tne t_aso t_ox (by decide)) (tne t_aso t_as (by decide))).trans h_aso
        have k_asi := (xf1 asi (mw_nn h_asi n_q) (mw_nn h_asi n_qa) (tne t_asi t_ox (by decide)) (tne t_asi t_as (by decide))).trans h_asi
        have k_ase := (xf1 ase (mw_nn h_ase n_q) (mw_nn h_ase n_qa) (tne t_ase t_ox (by decide)) (tne t_ase t_as (by decide))).trans h_ase
        have k_ato := (xf1 ato (mw_nn h_ato n_q) (mw_nn h_ato n_qa) (tne t_ato t_ox (by decide)) (tne t_ato t_as (by decide))).trans h_ato
        have k_amo := (xf1 amo (mw_nn h_amo n_q) (mw_nn h_amo n_qa) (tne t_amo t_ox (by decide)) (tne t_amo t_as (by decide))).trans h_amo
        have k_alo := (xf1 alo (mw_nn h_alo n_q) (mw_nn h_alo n_qa) (tne t_alo t_ox (by decide)) (tne t_alo t_as (by decide))).trans h_alo
        have k_aro := (xf1 aro (mw_nn h_aro n_q) (mw_nn h_aro n_qa) (tne t_aro t_ox (by decide)) (tne t_aro t_as (by decide))).trans h_aro
        have k_asr := (xf1 asr (mw_nn h_asr n_q) (mw_nn h_asr n_qa) (tne t_asr t_ox (by decide)) (tne t_asr t_as (by decide))).trans h_asr
        refine ⟨⟨_, by assumption⟩, (c_X7_copy D cI cS w1 om md aso asi ase ato amo alo aro asr th so si se to mo lo ro tg a k_om k_aso k_asi k_ase k_ato k_amo k_alo k_aro hmd ha hm8 t_aso t_asi t_ase t_ato t_amo t_alo t_aro).mono (fun r2 w2 z2 => ?_)⟩
        obtain ⟨q2, y_om, y_aso, y_asi, y_ase, y_ato, y_amo, y_alo, y_aro, xf2⟩ := z2
        have m_ox := (xf2 ox (tne t_ox t_om (by decide)) (tne t_ox t_aso (by decide)) (tne t_ox t_asi (by decide)) (tne t_ox t_ase (by decide)) (tne t_ox t_ato (by decide)) (tne t_ox t_amo (by decide)) (tne t_ox t_alo (by decide)) (tne t_ox t_aro (by decide))).trans c_ox
        have m_as := (xf2 as (tne t_as t_om (by decide)) (tne t_as t_aso (by decide)) (tne t_as t_asi (by decide)) (tne t_as t_ase (by decide)) (tne t_as t_ato (by decide)) (tne t_as t_amo (by decide)) (tne t_as t_alo (by decide)) (tne t_as t_aro (by decide))).trans c_as
        have m_asr := (xf2 asr (tne t_asr t_om (by decide)) (tne t_asr t_aso (by decide)) (tne t_asr t_asi (by decide)) (tne t_asr t_ase (by decide)) (tne t_asr t_ato (by decide)) (tne t_asr t_amo (by decide)) (tne t_asr t_alo (by decide)) (tne t_asr t_aro (by decide))).trans k_asr
        have m_q := (xf2 q (Ne.symm (mw_nn hom n_q)) (Ne.symm (mw_nn h_aso n_q)) (Ne.symm (mw_nn h_asi n_q)) (Ne.symm (mw_nn h_ase n_q)) (Ne.symm (mw_nn h_ato n_q)) (Ne.symm (mw_nn h_amo n_q)) (Ne.symm (mw_nn h_alo n_q)) (Ne.symm (mw_nn h_aro n_q))).trans c_q
        have m_qa := (xf2 qa (Ne.symm (mw_nn hom n_qa)) (Ne.symm (mw_nn h_aso n_qa)) (Ne.symm (mw_nn h_asi n_qa)) (Ne.symm (mw_nn h_ase n_qa)) (Ne.symm (mw_nn h_ato n_qa)) (Ne.symm (mw_nn h_amo n_qa)) (Ne.symm (mw_nn h_alo n_qa)) (Ne.symm (mw_nn h_aro n_qa))).trans c_qa
        exact ⟨q2.trans q1.symm, hIN0.nw (q := q) (qa := qa) (qb := qa) (qc := qa) m_ox m_as y_om y_aso y_asi y_ase y_ato y_amo y_alo y_aro m_asr hm8 n_q n_qa n_qa n_qa (Or.inr (Or.inl ⟨qa, c, sd, mv, tot, cpy0 f (fun _ => 0) (4 * c), m_q, m_qa, tgn_0, tgn_1 d_qa, hs0, hc1, hc2, hmv, (updN_eq _ _ _).trans hso, (updN_eq _ _ _).trans hsi, (updN_eq _ _ _).trans hse, (upd_same _ _ _).trans hto, (updN_eq _ _ _).trans hmo, (upd_same _ _ _).trans hlo, (hv.cp (by omega)).ext (fun i hi => cpf hi), hB.cp⟩)) (fun z hz h1 => (xf2 z (fun e => by rw [e, t_om] at h1; omega) (fun e => by rw [e, t_aso] at h1; omega) (fun e => by rw [e, t_asi] at h1; omega) (fun e => by rw [e, t_ase] at h1; omega) (fun e => by rw [e, t_ato] at h1; omega) (fun e => by rw [e, t_amo] at h1; omega) (fun e => by rw [e, t_alo] at h1; omega) (fun e => by rw [e, t_aro] at h1; omega)).trans (xf1 z (fun e => hz (by rw [e]; exact n_q)) (fun e => hz (by rw [e]; exact n_qa)) (fun e => by rw [e, t_ox] at h1; omega) (fun e => by rw [e, t_as] at h1; omega))) (fun j hj => updN_ne hj) (fun j hj => updN_ne hj) (fun j hj => updN_ne hj) (fun j hj => updN_ne hj) (fun j hj => upd_ne2 hj) (fun j hj => upd_ne2 hj) (cpM_out ro a md)⟩
    · obtain ⟨ab, b, sd, mv, tot, f, hh, h_ab, t_h0, t_ab, hs0, hb1, hb2, hmv, hso, hsi, hse, hto, hmo, hlo, hv⟩ := H
      refine ⟨2, 518, by omega, by omega, (c_X6_copy_F D cI cS w ox as md a g0 h0 ab b sd mv tot f  hox has hh h_ab hmd ha hg hs0 hb1 hb2).mono (fun r w1 z1 => ?_)⟩
      rcases z1 with ⟨a7, a8, rfl⟩ | ⟨hm8, q, qa, q1, n_q, n_qa, d_qa, c_ox, c_as, c_q, c_qa, xf1⟩
      · refine ⟨⟨_, by assumption⟩, (c_X7_copy_full D cI cS w1 om md aso asi ase ato amo alo aro asr th so si se to mo lo ro tg a hom h_aso h_asi h_ase h_ato h_amo h_alo h_aro hmd ha (by omega)).mono (fun r2 w2 z2 => ?_)⟩
        obtain ⟨q2, y1, y2⟩ := z2
        exact ⟨q2.trans a8.symm, hIN0.rd y1 y2⟩
      · have k_om := (xf1 om (mw_nn hom n_q) (mw_nn hom n_qa) (tne t_om t_ox (by decide)) (tne t_om t_as (by decide))).trans hom
        have k_aso := (xf1 aso (mw_nn h_aso n_q) (mw_nn h_aso n_qa) (tne t_aso t_ox (by decide)) (tne t_aso t_as (by decide))).trans h_aso
        have k_asi := (xf1 asi (mw_nn h_asi n_q) (mw_nn h_asi n_qa) (tne t_asi t_ox (by decide)) (tne t_asi t_as (by decide))).trans h_asi
        have k_ase := (xf1 ase (mw_nn h_ase n_q) (mw_nn h_ase n_qa) (tne t_ase t_ox (by decide)) (tne t_ase t_as (by decide))).trans h_ase
        have k_ato := (xf1 ato (mw_nn h_ato n_q) (mw_nn h_ato n_qa) (tne t_ato t_ox (by decide)) (tne t_ato t_as (by decide))).trans h_ato
        have k_amo := (xf1 amo (mw_nn h_amo n_q) (mw_nn h_amo n_qa) (tne t_amo t_ox (by decide)) (tne t_amo t_as (by decide))).trans h_amo
        have k_alo := (xf1 alo (mw_nn h_alo n_q) (mw_nn h_alo n_qa) (tne t_alo t_ox (by decide)) (tne t_alo t_as (by decide))).trans h_alo
        have k_aro := (xf1 aro (mw_nn h_aro n_q) (mw_nn h_aro n_qa) (tne t_aro t_ox (by decide)) (tne t_aro t_as (by decide))).trans h_aro
        have k_asr := (xf1 asr (mw_nn h_asr n_q) (mw_nn h_asr n_qa) (tne t_asr t_ox (by decide)) (tne t_asr t_as (by decide))).trans h_asr
        refine ⟨⟨_, by assumption⟩, (c_X7_copy D cI cS w1 om md aso asi ase ato amo alo aro asr th so si se to mo lo ro tg a k_om k_aso k_asi k_ase k_ato k_amo k_alo k_aro hmd ha hm8 t_aso t_asi t_ase t_ato t_amo t_alo t_aro).mono (fun r2 w2 z2 => ?_)⟩
        obtain ⟨q2, y_om, y_aso, y_asi, y_ase, y_ato, y_amo, y_alo, y_aro, xf2⟩ := z2
        have m_ox := (xf2 ox (tne t_ox t_om (by decide)) (tne t_ox t_aso (by decide)) (tne t_ox t_asi (by decide)) (tne t_ox t_ase (by decide)) (tne t_ox t_ato (by decide)) (tne t_ox t_amo (by decide)) (tne t_ox t_alo (by decide)) (tne t_ox t_aro (by decide))).trans c_ox
        have m_as := (xf2 as (tne t_as t_om (by decide)) (tne t_as t_aso (by decide)) (tne t_as t_asi (by decide)) (tne t_as t_ase (by decide)) (tne t_as t_ato (by decide)) (tne t_as t_amo (by decide)) (tne t_as t_alo (by decide)) (tne t_as t_aro (by decide))).trans c_as
        have m_asr := (xf2 asr (tne t_asr t_om (by decide)) (tne t_asr t_aso (by decide)) (tne t_asr t_asi (by decide)) (tne t_asr t_ase (by decide)) (tne t_asr t_ato (by decide)) (tne t_asr t_amo (by decide)) (tne t_asr t_alo (by decide)) (tne t_asr t_aro (by decide))).trans k_asr
        have m_q := (xf2 q (Ne.symm (mw_nn hom n_q)) (Ne.symm (mw_nn h_aso n_q)) (Ne.symm (mw_nn h_asi n_q)) (Ne.symm (mw_nn h_ase n_q)) (Ne.symm (mw_nn h_ato n_q)) (Ne.symm (mw_nn h_amo n_q)) (Ne.symm (mw_nn h_alo n_q)) (Ne.symm (mw_nn h_aro n_q))).trans c_q
        have m_qa := (xf2 qa (Ne.symm (mw_nn hom n_qa)) (Ne.symm (mw_nn h_aso n_qa)) (Ne.symm (mw_nn h_asi n_qa)) (Ne.symm (mw_nn h_ase n_qa)) (Ne.symm (mw_nn h_ato n_qa)) (Ne.symm (mw_nn h_amo n_qa)) (Ne.symm (mw_nn h_alo n_qa)) (Ne.symm (mw_nn h_aro n_qa))).trans c_qa
        exact ⟨q2.trans q1.symm, hIN0.nw (q := q) (qa := qa) (qb := qa) (qc := qa) m_ox m_as y_om y_aso y_asi y_ase y_ato y_amo y_alo y_aro m_asr hm8 n_q n_qa n_qa n_qa (Or.inr (Or.inr (Or.inl ⟨qa, b, sd, mv, tot, cpy0 f (fun _ => 0) (b), m_q, m_qa, tgn_0, tgn_1 d_qa, hs0, hb1, hb2, hmv, (updN_eq _ _ _).trans hso, (updN_eq _ _ _).trans hsi, (updN_eq _ _ _).trans hse, (upd_same _ _ _).trans hto, (updN_eq _ _ _).trans hmo, (upd_same _ _ _).trans hlo, (hv.cp (by omega)).ext (fun i hi => cpf hi)⟩))) (fun z hz h1 => (xf2 z (fun e => by rw [e, t_om] at h1; omega) (fun e => by rw [e, t_aso] at h1; omega) (fun e => by rw [e, t_asi] at h1; omega) (fun e => by rw [e, t_ase] at h1; omega) (fun e => by rw [e, t_ato] at h1; omega) (fun e => by rw [e, t_amo] at h1; omega) (fun e => by rw [e, t_alo] at h1; omega) (fun e => by rw [e, t_aro] at h1; omega)).trans (xf1 z (fun e => hz (by rw [e]; exact n_q)) (fun e => hz (by rw [e]; exact n_qa)) (fun e => by rw [e, t_ox] at h1; omega) (fun e => by rw [e, t_as] at h1; omega))) (fun j hj => updN_ne hj) (fun j hj => updN_ne hj) (fun j hj => updN_ne hj) (fun j hj => updN_ne hj) (fun j hj => upd_ne2 hj) (fun j hj => upd_ne2 hj) (cpM_out ro a md)⟩
    · obtain ⟨ab, k, sd, h, mv, tot, f, u, hh, h_ab, t_h0, t_ab, hs0, hk1, hk2, hmv, hso, hsi, hse, hto, hmo, hlo, hh2, hl, hR⟩ := H
      refine ⟨2, 39, by omega, by omega, (c_X6_copy_L D cI cS w ox as md a g0 h0 ab k sd h mv tot f  hox has hh h_ab hmd ha hg hs0 hk1 hk2 hh2).mono (fun r w1 z1 => ?_)⟩
      rcases z1 with ⟨a7, a8, rfl⟩ | ⟨hm8, q, qa, q1, n_q, n_qa, d_qa, c_ox, c_as, c_q, c_qa, xf1⟩
      · refine ⟨⟨_, by assumption⟩, (c_X7_copy_full D cI cS w1 om md aso asi ase ato amo alo aro asr th so si se to mo lo ro tg a hom h_aso h_asi h_ase h_ato h_amo h_alo h_aro hmd ha (by omega)).mono (fun r2 w2 z2 => ?_)⟩
        obtain ⟨q2, y1, y2⟩ := z2
        exact ⟨q2.trans a8.symm, hIN0.rd y1 y2⟩
      · have k_om := (xf1 om (mw_nn hom n_q) (mw_nn hom n_qa) (tne t_om t_ox (by decide)) (tne t_om t_as (by decide))).trans hom
        have k_aso := (xf1 aso (mw_nn h_aso n_q) (mw_nn h_aso n_qa) (tne t_aso t_ox (by decide)) (tne t_aso t_as (by decide))).trans h_aso
        have k_asi := (xf1 asi (mw_nn h_asi n_q) (mw_nn h_asi n_qa) (tne t_asi t_ox (by decide)) (tne t_asi t_as (by decide))).trans h_asi
        have k_ase := (xf1 ase (mw_nn h_ase n_q) (mw_nn h_ase n_qa) (tne t_ase t_ox (by decide)) (tne t_ase t_as (by decide))).trans h_ase
        have k_ato := (xf1 ato (mw_nn h_ato n_q) (mw_nn h_ato n_qa) (tne t_ato t_ox (by decide)) (tne t_ato t_as (by decide))).trans h_ato
        have k_amo := (xf1 amo (mw_nn h_amo n_q) (mw_nn h_amo n_qa) (tne t_amo t_ox (by decide)) (tne t_amo t_as (by decide))).trans h_amo
        have k_alo := (xf1 alo (mw_nn h_alo n_q) (mw_nn h_alo n_qa) (tne t_alo t_ox (by decide)) (tne t_alo t_as (by decide))).trans h_alo
        have k_aro := (xf1 aro (mw_nn h_aro n_q) (mw_nn h_aro n_qa) (tne t_aro t_ox (by decide)) (tne t_aro t_as (by decide))).trans h_aro
        have k_asr := (xf1 asr (mw_nn h_asr n_q) (mw_nn h_asr n_qa) (tne t_asr t_ox (by decide)) (tne t_asr t_as (by decide))).trans h_asr
        refine ⟨⟨_, by assumption⟩, (c_X7_copy D cI cS w1 om md aso asi ase ato amo alo aro asr th so si se to mo lo ro tg a k_om k_aso k_asi k_ase k_ato k_amo k_alo k_aro hmd ha hm8 t_aso t_asi t_ase t_ato t_amo t_alo t_aro).mono (fun r2 w2 z2 => ?_)⟩
        obtain ⟨q2, y_om, y_aso, y_asi, y_ase, y_ato, y_amo, y_alo, y_aro, xf2⟩ := z2
        have m_ox := (xf2 ox (tne t_ox t_om (by decide)) (tne t_ox t_aso (by decide)) (tne t_ox t_asi (by decide)) (tne t_ox t_ase (by decide)) (tne t_ox t_ato (by decide)) (tne t_ox t_amo (by decide)) (tne t_ox t_alo (by decide)) (tne t_ox t_aro (by decide))).trans c_ox
        have m_as := (xf2 as (tne t_as t_om (by decide)) (tne t_as t_aso (by decide)) (tne t_as t_asi (by decide)) (tne t_as t_ase (by decide)) (tne t_as t_ato (by decide)) (tne t_as t_amo (by decide)) (tne t_as t_alo (by decide)) (tne t_as t_aro (by decide))).trans c_as
        have m_asr := (xf2 asr (tne t_asr t_om (by decide)) (tne t_asr t_aso (by decide)) (tne t_asr t_asi (by decide)) (tne t_asr t_ase (by decide)) (tne t_asr t_ato (by decide)) (tne t_asr t_amo (by decide)) (tne t_asr t_alo (by decide)) (tne t_asr t_aro (by decide))).trans k_asr
        have m_q := (xf2 q (Ne.symm (mw_nn hom n_q)) (Ne.symm (mw_nn h_aso n_q)) (Ne.symm (mw_nn h_asi n_q)) (Ne.symm (mw_nn h_ase n_q)) (Ne.symm (mw_nn h_ato n_q)) (Ne.symm (mw_nn h_amo n_q)) (Ne.symm (mw_nn h_alo n_q)) (Ne.symm (mw_nn h_aro n_q))).trans c_q
        have m_qa := (xf2 qa (Ne.symm (mw_nn hom n_qa)) (Ne.symm (mw_nn h_aso n_qa)) (Ne.symm (mw_nn h_asi n_qa)) (Ne.symm (mw_nn h_ase n_qa)) (Ne.symm (mw_nn h_ato n_qa)) (Ne.symm (mw_nn h_amo n_qa)) (Ne.symm (mw_nn h_alo n_qa)) (Ne.symm (mw_nn h_aro n_qa))).trans c_qa
        exact ⟨q2.trans q1.symm, hIN0.nw (q := q) (qa := qa) (qb := qa) (qc := qa) m_ox m_as y_om y_aso y_asi y_ase y_ato y_amo y_alo y_aro m_asr hm8 n_q n_qa n_qa n_qa (Or.inr (Or.inr (Or.inr (Or.inl ⟨qa, k, sd, h, mv, tot, cpy0 f (fun _ => 0) k, u, m_q, m_qa, tgn_0, tgn_1 d_qa, hs0, hk1, hk2, hmv, (updN_eq _ _ _).trans hso, (updN_eq _ _ _).trans hsi, (updN_eq _ _ _).trans hse, (upd_same _ _ _).trans hto, (updN_eq _ _ _).trans hmo, (upd_same _ _ _).trans hlo, hh2, hl.cp (by omega), hR.ext (fun i hi => cpf (by omega))⟩)))) (fun z hz h1 => (xf2 z (fun e => by rw [e, t_om] at h1; omega) (fun e => by rw [e, t_aso] at h1; omega) (fun e => by rw [e, t_asi] at h1; omega) (fun e => by rw [e, t_ase] at h1; omega) (fun e => by rw [e, t_ato] at h1; omega) (fun e => by rw [e, t_amo] at h1; omega) (fun e => by rw [e, t_alo] at h1; omega) (fun e => by rw [e, t_aro] at h1; omega)).trans (xf1 z (fun e => hz (by rw [e]; exact n_q)) (fun e => hz (by rw [e]; exact n_qa)) (fun e => by rw [e, t_ox] at h1; omega) (fun e => by rw [e, t_as] at h1; omega))) (fun j hj => updN_ne hj) (fun j hj => updN_ne hj) (fun j hj => updN_ne hj) (fun j hj => updN_ne hj) (fun j hj => upd_ne2 hj) (fun j hj => upd_ne2 hj) (cpM_out ro a md)⟩
    · obtain ⟨ak, al, aw, k, sd, mv, e, tot, er, f, ln, tr, hh, h_ak, h_al, h_aw, t_h0, t_ak, t_al, t_aw, hs0, hke, he, hk2, hmv, hso, hsi, hse, hto, hmo, hlo, hok, hln, hr, hwt⟩ := H
      refine ⟨4, 1063, by omega, by omega, (c_X6_copy_R D cI cS w ox as md a g0 h0 ak al aw k sd mv tot er f ln tr  hox has hh h_ak h_al h_aw hmd ha hg hs0 (by omega) hk2 (tne t_ak t_al (by omega)) (tne t_ak t_aw (by omega)) (tne t_al t_aw (by omega)) hok).mono (fun r w1 z1 => ?_)⟩
      rcases z1 with ⟨a7, a8, rfl⟩ | ⟨hm8, q, qa, qb, qc, q1, n_q, n_qa, n_qb, n_qc, d_qa, d_qb, d_qc, d_ab, d_ac, d_bc, c_ox, c_as, c_q, c_qa, c_qb, c_qc, xf1⟩
      · refine ⟨⟨_, by assumption⟩, (c_X7_copy_full D cI cS w1 om md aso asi ase ato amo alo aro asr th so si se to mo lo ro tg a hom h_aso h_asi h_ase h_ato h_amo h_alo h_aro hmd ha (by omega)).mono (fun r2 w2 z2 => ?_)⟩
        obtain ⟨q2, y1, y2⟩ := z2
        exact ⟨q2.trans a8.symm, hIN0.rd y1 y2⟩
      · have k_om := (xf1 om (mw_nn hom n_q) (mw_nn hom n_qa) (mw_nn hom n_qb) (mw_nn hom n_qc) (tne t_om t_ox (by decide)) (tne t_om t_as (by decide))).trans hom
        have k_aso := (xf1 aso (mw_nn h_aso n_q) (mw_nn h_aso n_qa) (mw_nn h_aso n_qb) (mw_nn h_aso n_qc) (tne t_aso t_ox (by decide)) (tne t_aso t_as (by decide))).trans h_aso
        have k_asi := (xf1 asi (mw_nn h_asi n_q) (mw_nn h_asi n_qa) (mw_nn h_asi n_qb) (mw_nn h_asi n_qc) (tne t_asi t_ox (by decide)) (tne t_asi t_as (by decide))).trans h_asi
        have k_ase := (xf1 ase (mw_nn h_ase n_q) (mw_nn h_ase n_qa) (mw_nn h_ase n_qb) (mw_nn h_ase n_qc) (tne t_ase t_ox (by decide)) (tne t_ase t_as (by decide))).trans h_ase
        have k_ato := (xf1 ato (mw_nn h_ato n_q) (mw_nn h_ato n_qa) (mw_nn h_ato n_qb) (mw_nn h_ato n_qc) (tne t_ato t_ox (by decide)) (tne t_ato t_as (by decide))).trans h_ato
        have k_amo := (xf1 amo (mw_nn h_amo n_q) (mw_nn h_amo n_qa) (mw_nn h_amo n_qb) (mw_nn h_amo n_qc) (tne t_amo t_ox (by decide)) (tne t_amo t_as (by decide))).trans h_amo
        have k_alo := (xf1 alo (mw_nn h_alo n_q) (mw_nn h_alo n_qa) (mw_nn h_alo n_qb) (mw_nn h_alo n_qc) (tne t_alo t_ox (by decide)) (tne t_alo t_as (by decide))).trans h_alo
        have k_aro := (xf1 aro (mw_nn h_aro n_q) (mw_nn h_aro n_qa) (mw_nn h_aro n_qb) (mw_nn h_aro n_qc) (tne t_aro t_ox (by decide)) (tne t_aro t_as (by decide))).trans h_aro
        have k_asr := (xf1 asr (mw_nn h_asr n_q) (mw_nn h_asr n_qa) (mw_nn h_asr n_qb) (mw_nn h_asr n_qc) (tne t_asr t_ox (by decide)) (tne t_asr t_as (by decide))).trans h_asr
        refine ⟨⟨_, by assumption⟩, (c_X7_copy D cI cS w1 om md aso asi ase ato amo alo aro asr th so si se to mo lo ro tg a k_om k_aso k_asi k_ase k_ato k_amo k_alo k_aro hmd ha hm8 t_aso t_asi t_ase t_ato t_amo t_alo t_aro).mono (fun r2 w2 z2 => ?_)⟩
        obtain ⟨q2, y_om, y_aso, y_asi, y_ase, y_ato, y_amo, y_alo, y_aro, xf2⟩ := z2
        have m_ox := (xf2 ox (tne t_ox t_om (by decide)) (tne t_ox t_aso (by decide)) (tne t_ox t_asi (by decide)) (tne t_ox t_ase (by decide)) (tne t_ox t_ato (by decide)) (tne t_ox t_amo (by decide)) (tne t_ox t_alo (by decide)) (tne t_ox t_aro (by decide))).trans c_ox
        have m_as := (xf2 as (tne t_as t_om (by decide)) (tne t_as t_aso (by decide)) (tne t_as t_asi (by decide)) (tne t_as t_ase (by decide)) (tne t_as t_ato (by decide)) (tne t_as t_amo (by decide)) (tne t_as t_alo (by decide)) (tne t_as t_aro (by decide))).trans c_as
        have m_asr := (xf2 asr (tne t_asr t_om (by decide)) (tne t_asr t_aso (by decide)) (tne t_asr t_asi (by decide)) (tne t_asr t_ase (by decide)) (tne t_asr t_ato (by decide)) (tne t_asr t_amo (by decide)) (tne t_asr t_alo (by decide)) (tne t_asr t_aro (by decide))).trans k_asr
        have m_q := (xf2 q (Ne.symm (mw_nn hom n_q)) (Ne.symm (mw_nn h_aso n_q)) (Ne.symm (mw_nn h_asi n_q)) (Ne.symm (mw_nn h_ase n_q)) (Ne.symm (mw_nn h_ato n_q)) (Ne.symm (mw_nn h_amo n_q)) (Ne.symm (mw_nn h_alo n_q)) (Ne.symm (mw_nn h_aro n_q))).trans c_q
        have m_qa := (xf2 qa (Ne.symm (mw_nn hom n_qa)) (Ne.symm (mw_nn h_aso n_qa)) (Ne.symm (mw_nn h_asi n_qa)) (Ne.symm (mw_nn h_ase n_qa)) (Ne.symm (mw_nn h_ato n_qa)) (Ne.symm (mw_nn h_amo n_qa)) (Ne.symm (mw_nn h_alo n_qa)) (Ne.symm (mw_nn h_aro n_qa))).trans c_qa
        have m_qb := (xf2 qb (Ne.symm (mw_nn hom n_qb)) (Ne.symm (mw_nn h_aso n_qb)) (Ne.symm (mw_nn h_asi n_qb)) (Ne.symm (mw_nn h_ase n_qb)) (Ne.symm (mw_nn h_ato n_qb)) (Ne.symm (mw_nn h_amo n_qb)) (Ne.symm (mw_nn h_alo n_qb)) (Ne.symm (mw_nn h_aro n_qb))).trans c_qb
        have m_qc := (xf2 qc (Ne.symm (mw_nn hom n_qc)) (Ne.symm (mw_nn h_aso n_qc)) (Ne.symm (mw_nn h_asi n_qc)) (Ne.symm (mw_nn h_ase n_qc)) (Ne.symm (mw_nn h_ato n_qc)) (Ne.symm (mw_nn h_amo n_qc)) (Ne.symm (mw_nn h_alo n_qc)) (Ne.symm (mw_nn h_aro n_qc))).trans c_qc
        exact ⟨q2.trans q1.symm, hIN0.nw (q := q) (qa := qa) (qb := qb) (qc := qc) m_ox m_as y_om y_aso y_asi y_ase y_ato y_amo y_alo y_aro m_asr hm8 n_q n_qa n_qb n_qc (Or.inr (Or.inr (Or.inr (Or.inr (⟨qa, qb, qc, k, sd, mv, e, tot, er, cpy0 f (fun _ => 0) (31 * k), cpN ln, cpN tr, m_q, m_qa, by rw [← cpN_ln]; exact m_qb, by rw [← cpN_ln]; exact m_qc, tgn_0, tgn_1 d_qa, tgn_2 d_qb d_ab, tgn_3 d_qc d_ac d_bc, hs0, hke, he, hk2, hmv, (updN_eq _ _ _).trans hso, (updN_eq _ _ _).trans hsi, (updN_eq _ _ _).trans hse, (upd_same _ _ _).trans hto, (updN_eq _ _ _).trans hmo, (upd_same _ _ _).trans hlo, ⟨cpN_le hok.1, cpN_le hok.2⟩, fun c hc => by rw [cpN_in hc]; exact hln c hc, (hr.cp hk2 hln).ext (fun b hb => (cpN_in hb).symm) (fun b hb => (cpN_in hb).symm) (fun b i hb hi => cpf (bk_lt hb (Nat.lt_trans hi (hln b hb)))), by rw [wtS_cg 31 (fun b hb => cpN_in hb)]; exact hwt⟩))))) (fun z hz h1 => (xf2 z (fun e => by rw [e, t_om] at h1; omega) (fun e => by rw [e, t_aso] at h1; omega) (fun e => by rw [e, t_asi] at h1; omega) (fun e => by rw [e, t_ase] at h1; omega) (fun e => by rw [e, t_ato] at h1; omega) (fun e => by rw [e, t_amo] at h1; omega) (fun e => by rw [e, t_alo] at h1; omega) (fun e => by rw [e, t_aro] at h1; omega)).trans (xf1 z (fun e => hz (by rw [e]; exact n_q)) (fun e => hz (by rw [e]; exact n_qa)) (fun e => hz (by rw [e]; exact n_qb)) (fun e => hz (by rw [e]; exact n_qc)) (fun e => by rw [e, t_ox] at h1; omega) (fun e => by rw [e, t_as] at h1; omega))) (fun j hj => updN_ne hj) (fun j hj => updN_ne hj) (fun j hj => updN_ne hj) (fun j hj => updN_ne hj) (fun j hj => upd_ne2 hj) (fun j hj => upd_ne2 hj) (cpM_out ro a md)⟩
  · refine ⟨0, 0, by omega, by omega, (c_X6_copy_no D cI cS w ox as md g0 s hox has hmd hs).mono (fun r w1 z1 => ?_)⟩
    obtain ⟨q1, rfl⟩ := z1
    refine ⟨⟨_, by assumption⟩, (c_X7_copy_no D cI cS w1 om md aso asi ase ato amo alo aro asr th so s hom h_aso hmd hs).mono (fun r2 w2 z2 => ?_)⟩
    obtain ⟨q2, y1, y2⟩ := z2
    exact ⟨q2.trans q1.symm, hIN0.rd y1 y2⟩

set_option maxHeartbeats 4000000 in
theorem O_sketch (D : va_G) (cI cS : ClassId) (w : mwT) (ox om : Nat) (kd zz dd : Int32) (hI : INV cI cS ox om w) : mMiZ yX6_sketch cX6_sketch 4 (some .int) (rmA 8 4 1063) [.ref ox, .int kd, .int zz, .int dd] D cI cS w (fun r w1 => ((∃ vs : List Value, w1 om = some (.inr (6, vs))) ∧ mMi yX7_sketch cX7_sketch 5 (some .int) (rmL 8) [.ref om, .int kd, .int zz, .int dd] D cI cS w1 (fun r2 w2 => r2 = r ∧ INV cI cS ox om w2))) := by
  obtain ⟨as, md, aso, asi, ase, ato, amo, alo, aro, asr, th, g0, so, si, se, mo, to, lo, ro, sr, tg, hIN⟩ := hI
  have hIN0 := hIN
  obtain ⟨hmd, hox, has, hom, h_aso, h_asi, h_ase, h_ato, h_amo, h_alo, h_aro, h_asr, t_ox, t_as, t_om, t_aso, t_asi, t_ase, t_ato, t_amo, t_alo, t_aro, t_asr, hS⟩ := hIN
  refine (c_X6_sketch D cI cS w ox as md g0 kd zz dd hox has hmd).mono (fun r w1 z1 => ?_)
  rcases z1 with ⟨a7, a8, rfl⟩ | ⟨ka, za, da, hk4, hd9, rfl, rfl, rfl, hz, ⟨a7, a8, rfl⟩ | ⟨hm8, q1, hc⟩⟩
  · refine ⟨⟨_, by assumption⟩, (c_X7_sketch D cI cS w1 om md aso asi ase ato amo alo aro asr th so si se to mo lo ro tg kd zz dd hom h_aso h_asi h_ase h_ato h_amo h_alo h_aro hmd t_aso t_asi t_ase t_ato t_amo t_alo t_aro).mono (fun r2 w2 z2 => ?_)⟩
    rcases z2 with ⟨b7, b8, y1, y2⟩ | ⟨ka, za, da, x1, x2, x3, x4, x5, x6, x7⟩
    · exact ⟨b8.trans a8.symm, hIN0.rd y1 y2⟩
    · exact absurd ⟨ka, za, da, x3, x4, x5, x2, x6⟩ a7
  · refine ⟨⟨_, by assumption⟩, (c_X7_sketch D cI cS w1 om md aso asi ase ato amo alo aro asr th so si se to mo lo ro tg (nI ka) (nI za) (nI da) hom h_aso h_asi h_ase h_ato h_amo h_alo h_aro hmd t_aso t_asi t_ase t_ato t_amo t_alo t_aro).mono (fun r2 w2 z2 => ?_)⟩
    rcases z2 with ⟨b7, b8, y1, y2⟩ | ⟨ka2, za2, da2, x1, x2, x3, x4, x5, x6, ⟨b7, b8, y1, y2⟩ | ⟨b7, b8⟩⟩
    · exact absurd ⟨ka, za, da, rfl, rfl, rfl, hd9, hz⟩ b7
    · exact ⟨b8.trans a8.symm, hIN0.rd y1 y2⟩
    · omega
  · have hzb := szN_bd hz
    rcases hc with ⟨rfl, hc⟩ | ⟨rfl, hc⟩ | ⟨rfl, hc⟩ | ⟨rfl, hc⟩ | ⟨rfl, hc⟩
    · obtain ⟨q, qa, qb, n_q, n_qa, n_qb, d_qa, d_qb, d_ab, c_ox, c_as, c_q, c_qa, c_qb, xf1⟩ := hc
      have k_om := (xf1 om (mw_nn hom n_q) (mw_nn hom n_qa) (mw_nn hom n_qb) (tne t_om t_ox (by decide)) (tne t_om t_as (by decide))).trans hom
      have k_aso := (xf1 aso (mw_nn h_aso n_q) (mw_nn h_aso n_qa) (mw_nn h_aso n_qb) (tne t_aso t_ox (by decide)) (tne t_aso t_as (by decide))).trans h_aso
      have k_asi := (xf1 asi (mw_nn h_asi n_q) (mw_nn h_asi n_qa) (mw_nn h_asi n_qb) (tne t_asi t_ox (by decide)) (tne t_asi t_as (by decide))).trans h_asi
      have k_ase := (xf1 ase (mw_nn h_ase n_q) (mw_nn h_ase n_qa) (mw_nn h_ase n_qb) (tne t_ase t_ox (by decide)) (tne t_ase t_as (by decide))).trans h_ase
      have k_ato := (xf1 ato (mw_nn h_ato n_q) (mw_nn h_ato n_qa) (mw_nn h_ato n_qb) (tne t_ato t_ox (by decide)) (tne t_ato t_as (by decide))).trans h_ato
      have k_amo := (xf1 amo (mw_nn h_amo n_q) (mw_nn h_amo n_qa) (mw_nn h_amo n_qb) (tne t_amo t_ox (by decide)) (tne t_amo t_as (by decide))).trans h_amo
      have k_alo := (xf1 alo (mw_nn h_alo n_q) (mw_nn h_alo n_qa) (mw_nn h_alo n_qb) (tne t_alo t_ox (by decide)) (tne t_alo t_as (by decide))).trans h_alo
      have k_aro := (xf1 aro (mw_nn h_aro n_q) (mw_nn h_aro n_qa) (mw_nn h_aro n_qb) (tne t_aro t_ox (by decide)) (tne t_aro t_as (by decide))).trans h_aro
      have k_asr := (xf1 asr (mw_nn h_asr n_q) (mw_nn h_asr n_qa) (mw_nn h_asr n_qb) (tne t_asr t_ox (by decide)) (tne t_asr t_as (by decide))).trans h_asr
      refine ⟨⟨_, by assumption⟩, (c_X7_sketch D cI cS w1 om md aso asi ase ato amo alo aro asr th so si se to mo lo ro tg (nI 0) (nI za) (nI da) k_om k_aso k_asi k_ase k_ato k_amo k_alo k_aro hmd t_aso t_asi t_ase t_ato t_amo t_alo t_aro).mono (fun r2 w2 z2 => ?_)⟩
      rcases z2 with ⟨b7, b8, y1, y2⟩ | ⟨ka2, za2, da2, x1, x2, x3, x4, x5, x6, ⟨b7, b8, y1, y2⟩ | ⟨b7, q2, y_om, y_aso, y_asi, y_ase, y_ato, y_amo, y_alo, y_aro, xf2⟩⟩
      · exact absurd ⟨0, za, da, rfl, rfl, rfl, hd9, hz⟩ b7
      · omega
      · have hzb2 := szN_bd x6
        have e1 := (nI_eq (by omega) (by omega)).mp x3
        have e2 := (nI_eq (by omega) (by omega)).mp x4
        have e3 := (nI_eq (by omega) (by omega)).mp x5
        subst e1
        subst e2
        subst e3
        have hz2 := hz
        unfold szN at hz2
        have m_ox := (xf2 ox (tne t_ox t_om (by decide)) (tne t_ox t_aso (by decide)) (tne t_ox t_asi (by decide)) (tne t_ox t_ase (by decide)) (tne t_ox t_ato (by decide)) (tne t_ox t_amo (by decide)) (tne t_ox t_alo (by decide)) (tne t_ox t_aro (by decide))).trans c_ox
        have m_as := (xf2 as (tne t_as t_om (by decide)) (tne t_as t_aso (by decide)) (tne t_as t_asi (by decide)) (tne t_as t_ase (by decide)) (tne t_as t_ato (by decide)) (tne t_as t_amo (by decide)) (tne t_as t_alo (by decide)) (tne t_as t_aro (by decide))).trans c_as
        have m_asr := (xf2 asr (tne t_asr t_om (by decide)) (tne t_asr t_aso (by decide)) (tne t_asr t_asi (by decide)) (tne t_asr t_ase (by decide)) (tne t_asr t_ato (by decide)) (tne t_asr t_amo (by decide)) (tne t_asr t_alo (by decide)) (tne t_asr t_aro (by decide))).trans k_asr
        have m_q := (xf2 q (Ne.symm (mw_nn hom n_q)) (Ne.symm (mw_nn h_aso n_q)) (Ne.symm (mw_nn h_asi n_q)) (Ne.symm (mw_nn h_ase n_q)) (Ne.symm (mw_nn h_ato n_q)) (Ne.symm (mw_nn h_amo n_q)) (Ne.symm (mw_nn h_alo n_q)) (Ne.symm (mw_nn h_aro n_q))).trans c_q
        have m_qa := (xf2 qa (Ne.symm (mw_nn hom n_qa)) (Ne.symm (mw_nn h_aso n_qa)) (Ne.symm (mw_nn h_asi n_qa)) (Ne.symm (mw_nn h_ase n_qa)) (Ne.symm (mw_nn h_ato n_qa)) (Ne.symm (mw_nn h_amo n_qa)) (Ne.symm (mw_nn h_alo n_qa)) (Ne.symm (mw_nn h_aro n_qa))).trans c_qa
        have m_qb := (xf2 qb (Ne.symm (mw_nn hom n_qb)) (Ne.symm (mw_nn h_aso n_qb)) (Ne.symm (mw_nn h_asi n_qb)) (Ne.symm (mw_nn h_ase n_qb)) (Ne.symm (mw_nn h_ato n_qb)) (Ne.symm (mw_nn h_amo n_qb)) (Ne.symm (mw_nn h_alo n_qb)) (Ne.symm (mw_nn h_aro n_qb))).trans c_qb
        exact ⟨q2.trans q1.symm, hIN0.nw (q := q) (qa := qa) (qb := qb) (qc := qb) m_ox m_as y_om y_aso y_asi y_ase y_ato y_amo y_alo y_aro m_asr hm8 n_q n_qa n_qb n_qb (Or.inl ⟨qa, qb, za, da, 0, 0, nI 0, fun _ => 0, fun _ => 0, fun _ => 0, fun _ => 0, by rw [upd_same]; exact m_q, m_qa, m_qb, tgn_0, tgn_1 d_qa, tgn_2 d_qb d_ab, hd9, by omega, by omega, Nat.zero_le _, updN_eq _ _ _, updN_eq _ _ _, updN_eq _ _ _, upd_same _ _ _, updN_eq _ _ _, Nat.zero_le _, HvM.zr, fun i hi => absurd hi (Nat.not_lt_zero _), HvR.z _ _ _ _ 0⟩) (fun z hz h1 => (xf2 z (fun e => by rw [e, t_om] at h1; omega) (fun e => by rw [e, t_aso] at h1; omega) (fun e => by rw [e, t_asi] at h1; omega) (fun e => by rw [e, t_ase] at h1; omega) (fun e => by rw [e, t_ato] at h1; omega) (fun e => by rw [e, t_amo] at h1; omega) (fun e => by rw [e, t_alo] at h1; omega) (fun e => by rw [e, t_aro] at h1; omega)).trans (xf1 z (fun e => hz (by rw [e]; exact n_q)) (fun e => hz (by rw [e]; exact n_qa)) (fun e => hz (by rw [e]; exact n_qb)) (fun e => by rw [e, t_ox] at h1; omega) (fun e => by rw [e, t_as] at h1; omega))) (fun j hj => updN_ne hj) (fun j hj => updN_ne hj) (fun j hj => updN_ne hj) (fun j hj => updN_ne hj) (fun j hj => upd_ne2 hj) (fun j hj => upd_ne2 hj) (zrM_out ro md)⟩
    · obtain ⟨q, qa, n_q, n_qa, d_qa, c_ox, c_as, c_q, c_qa, xf1⟩ := hc
      have k_om := (xf1 om (mw_nn hom n_q) (mw_nn hom n_qa) (tne t_om t_ox (by decide)) (tne t_om t_as (by decide))).trans hom
      have k_aso := (xf1 aso (mw_nn h_aso n_q) (mw_nn h_aso n_qa) (tne t_aso t_ox (by decide)) (tne t_aso t_as (by decide))).trans h_aso
      have k_asi := (xf1 asi (mw_nn h_asi n_q) (mw_nn h_asi n_qa) (tne t_asi t_ox (by decide)) (tne t_asi t_as (by decide))).trans h_asi
      have k_ase := (xf1 ase (mw_nn h_ase n_q) (mw_nn h_ase n_qa) (tne t_ase t_ox (by decide)) (tne t_ase t_as (by decide))).trans h_ase
      have k_ato := (xf1 ato (mw_nn h_ato n_q) (mw_nn h_ato n_qa) (tne t_ato t_ox (by decide)) (tne t_ato t_as (by decide))).trans h_ato
      have k_amo := (xf1 amo (mw_nn h_amo n_q) (mw_nn h_amo n_qa) (tne t_amo t_ox (by decide)) (tne t_amo t_as (by decide))).trans h_amo
      have k_alo := (xf1 alo (mw_nn h_alo n_q) (mw_nn h_alo n_qa) (tne t_alo t_ox (by decide)) (tne t_alo t_as (by decide))).trans h_alo
      have k_aro := (xf1 aro (mw_nn h_aro n_q) (mw_nn h_aro n_qa) (tne t_aro t_ox (by decide)) (tne t_aro t_as (by decide))).trans h_aro
      have k_asr := (xf1 asr (mw_nn h_asr n_q) (mw_nn h_asr n_qa) (tne t_asr t_ox (by decide)) (tne t_asr t_as (by decide))).trans h_asr
      refine ⟨⟨_, by assumption⟩, (c_X7_sketch D cI cS w1 om md aso asi ase ato amo alo aro asr th so si se to mo lo ro tg (nI 1) (nI za) (nI da) k_om k_aso k_asi k_ase k_ato k_amo k_alo k_aro hmd t_aso t_asi t_ase t_ato t_amo t_alo t_aro).mono (fun r2 w2 z2 => ?_)⟩
      rcases z2 with ⟨b7, b8, y1, y2⟩ | ⟨ka2, za2, da2, x1, x2, x3, x4, x5, x6, ⟨b7, b8, y1, y2⟩ | ⟨b7, q2, y_om, y_aso, y_asi, y_ase, y_ato, y_amo, y_alo, y_aro, xf2⟩⟩
      · exact absurd ⟨1, za, da, rfl, rfl, rfl, hd9, hz⟩ b7
      · omega
      · have hzb2 := szN_bd x6
        have e1 := (nI_eq (by omega) (by omega)).mp x3
        have e2 := (nI_eq (by omega) (by omega)).mp x4
        have e3 := (nI_eq (by omega) (by omega)).mp x5
        subst e1
        subst e2
        subst e3
        have hz2 := hz
        unfold szN at hz2
        have m_ox := (xf2 ox (tne t_ox t_om (by decide)) (tne t_ox t_aso (by decide)) (tne t_ox t_asi (by decide)) (tne t_ox t_ase (by decide)) (tne t_ox t_ato (by decide)) (tne t_ox t_amo (by decide)) (tne t_ox t_alo (by decide)) (tne t_ox t_aro (by decide))).trans c_ox
        have m_as := (xf2 as (tne t_as t_om (by decide)) (tne t_as t_aso (by decide)) (tne t_as t_asi (by decide)) (tne t_as t_ase (by decide)) (tne t_as t_ato (by decide)) (tne t_as t_amo (by decide)) (tne t_as t_alo (by decide)) (tne t_as t_aro (by decide))).trans c_as
        have m_asr := (xf2 asr (tne t_asr t_om (by decide)) (tne t_asr t_aso (by decide)) (tne t_asr t_asi (by decide)) (tne t_asr t_ase (by decide)) (tne t_asr t_ato (by decide)) (tne t_asr t_amo (by decide)) (tne t_asr t_alo (by decide)) (tne t_asr t_aro (by decide))).trans k_asr
        have m_q := (xf2 q (Ne.symm (mw_nn hom n_q)) (Ne.symm (mw_nn h_aso n_q)) (Ne.symm (mw_nn h_asi n_q)) (Ne.symm (mw_nn h_ase n_q)) (Ne.symm (mw_nn h_ato n_q)) (Ne.symm (mw_nn h_amo n_q)) (Ne.symm (mw_nn h_alo n_q)) (Ne.symm (mw_nn h_aro n_q))).trans c_q
        have m_qa := (xf2 qa (Ne.symm (mw_nn hom n_qa)) (Ne.symm (mw_nn h_aso n_qa)) (Ne.symm (mw_nn h_asi n_qa)) (Ne.symm (mw_nn h_ase n_qa)) (Ne.symm (mw_nn h_ato n_qa)) (Ne.symm (mw_nn h_amo n_qa)) (Ne.symm (mw_nn h_alo n_qa)) (Ne.symm (mw_nn h_aro n_qa))).trans c_qa
        exact ⟨q2.trans q1.symm, hIN0.nw (q := q) (qa := qa) (qb := qa) (qc := qa) m_ox m_as y_om y_aso y_asi y_ase y_ato y_amo y_alo y_aro m_asr hm8 n_q n_qa n_qa n_qa (Or.inr (Or.inl ⟨qa, za, da, 0, nI 0, fun _ => 0, m_q, m_qa, tgn_0, tgn_1 d_qa, hd9, by omega, by omega, Nat.zero_le _, updN_eq _ _ _, updN_eq _ _ _, updN_eq _ _ _, upd_same _ _ _, updN_eq _ _ _, upd_same _ _ _, TbM.zr (fun _ _ => rfl) (by omega), TbB.z (fun _ _ => rfl)⟩)) (fun z hz h1 => (xf2 z (fun e => by rw [e, t_om] at h1; omega) (fun e => by rw [e, t_aso] at h1; omega) (fun e => by rw [e, t_asi] at h1; omega) (fun e => by rw [e, t_ase] at h1; omega) (fun e => by rw [e, t_ato] at h1; omega) (fun e => by rw [e, t_amo] at h1; omega) (fun e => by rw [e, t_alo] at h1; omega) (fun e => by rw [e, t_aro] at h1; omega)).trans (xf1 z (fun e => hz (by rw [e]; exact n_q)) (fun e => hz (by rw [e]; exact n_qa)) (fun e => by rw [e, t_ox] at h1; omega) (fun e => by rw [e, t_as] at h1; omega))) (fun j hj => updN_ne hj) (fun j hj => updN_ne hj) (fun j hj => updN_ne hj) (fun j hj => updN_ne hj) (fun j hj => upd_ne2 hj) (fun j hj => upd_ne2 hj) (zrM_out ro md)⟩
    · obtain ⟨q, qa, n_q, n_qa, d_qa, c_ox, c_as, c_q, c_qa, xf1⟩ := hc
      have k_om := (xf1 om (mw_nn hom n_q) (mw_nn hom n_qa) (tne t_om t_ox (by decide)) (tne t_om t_as (by decide))).trans hom
      have k_aso := (xf1 aso (mw_nn h_aso n_q) (mw_nn h_aso n_qa) (tne t_aso t_ox (by decide)) (tne t_aso t_as (by decide))).trans h_aso
      have k_asi := (xf1 asi (mw_nn h_asi n_q) (mw_nn h_asi n_qa) (tne t_asi t_ox (by decide)) (tne t_asi t_as (by decide))).trans h_asi
      have k_ase := (xf1 ase (mw_nn h_ase n_q) (mw_nn h_ase n_qa) (tne t_ase t_ox (by decide)) (tne t_ase t_as (by decide))).trans h_ase
      have k_ato := (xf1 ato (mw_nn h_ato n_q) (mw_nn h_ato n_qa) (tne t_ato t_ox (by decide)) (tne t_ato t_as (by decide))).trans h_ato
      have k_amo := (xf1 amo (mw_nn h_amo n_q) (mw_nn h_amo n_qa) (tne t_amo t_ox (by decide)) (tne t_amo t_as (by decide))).trans h_amo
      have k_alo := (xf1 alo (mw_nn h_alo n_q) (mw_nn h_alo n_qa) (tne t_alo t_ox (by decide)) (tne t_alo t_as (by decide))).trans h_alo
      have k_aro := (xf1 aro (mw_nn h_aro n_q) (mw_nn h_aro n_qa) (tne t_aro t_ox (by decide)) (tne t_aro t_as (by decide))).trans h_aro
      have k_asr := (xf1 asr (mw_nn h_asr n_q) (mw_nn h_asr n_qa) (tne t_asr t_ox (by decide)) (tne t_asr t_as (by decide))).trans h_asr
      refine ⟨⟨_, by assumption⟩, (c_X7_sketch D cI cS w1 om md aso asi ase ato amo alo aro asr th so si se to mo lo ro tg (nI 2) (nI za) (nI da) k_om k_aso k_asi k_ase k_ato k_amo k_alo k_aro hmd t_aso t_asi t_ase t_ato t_amo t_alo t_aro).mono (fun r2 w2 z2 => ?_)⟩
      rcases z2 with ⟨b7, b8, y1, y2⟩ | ⟨ka2, za2, da2, x1, x2, x3, x4, x5, x6, ⟨b7, b8, y1, y2⟩ | ⟨b7, q2, y_om, y_aso, y_asi, y_ase, y_ato, y_amo, y_alo, y_aro, xf2⟩⟩
      · exact absurd ⟨2, za, da, rfl, rfl, rfl, hd9, hz⟩ b7
      · omega
      · have hzb2 := szN_bd x6
        have e1 := (nI_eq (by omega) (by omega)).mp x3
        have e2 := (nI_eq (by omega) (by omega)).mp x4
        have e3 := (nI_eq (by omega) (by omega)).mp x5
        subst e1
        subst e2
        subst e3
        have hz2 := hz
        unfold szN at hz2
        have m_ox := (xf2 ox (tne t_ox t_om (by decide)) (tne t_ox t_aso (by decide)) (tne t_ox t_asi (by decide)) (tne t_ox t_ase (by decide)) (tne t_ox t_ato (by decide)) (tne t_ox t_amo (by decide)) (tne t_ox t_alo (by decide)) (tne t_ox t_aro (by decide))).trans c_ox
        have m_as := (xf2 as (tne t_as t_om (by decide)) (tne t_as t_aso (by decide)) (tne t_as t_asi (by decide)) (tne t_as t_ase (by decide)) (tne t_as t_ato (by decide)) (tne t_as t_amo (by decide)) (tne t_as t_alo (by decide)) (tne t_as t_aro (by decide))).trans c_as
        have m_asr := (xf2 asr (tne t_asr t_om (by decide)) (tne t_asr t_aso (by decide)) (tne t_asr t_asi (by decide)) (tne t_asr t_ase (by decide)) (tne t_asr t_ato (by decide)) (tne t_asr t_amo (by decide)) (tne t_asr t_alo (by decide)) (tne t_asr t_aro (by decide))).trans k_asr
        have m_q := (xf2 q (Ne.symm (mw_nn hom n_q)) (Ne.symm (mw_nn h_aso n_q)) (Ne.symm (mw_nn h_asi n_q)) (Ne.symm (mw_nn h_ase n_q)) (Ne.symm (mw_nn h_ato n_q)) (Ne.symm (mw_nn h_amo n_q)) (Ne.symm (mw_nn h_alo n_q)) (Ne.symm (mw_nn h_aro n_q))).trans c_q
        have m_qa := (xf2 qa (Ne.symm (mw_nn hom n_qa)) (Ne.symm (mw_nn h_aso n_qa)) (Ne.symm (mw_nn h_asi n_qa)) (Ne.symm (mw_nn h_ase n_qa)) (Ne.symm (mw_nn h_ato n_qa)) (Ne.symm (mw_nn h_amo n_qa)) (Ne.symm (mw_nn h_alo n_qa)) (Ne.symm (mw_nn h_aro n_qa))).trans c_qa
        exact ⟨q2.trans q1.symm, hIN0.nw (q := q) (qa := qa) (qb := qa) (qc := qa) m_ox m_as y_om y_aso y_asi y_ase y_ato y_amo y_alo y_aro m_asr hm8 n_q n_qa n_qa n_qa (Or.inr (Or.inr (Or.inl ⟨qa, za, da, 0, nI 0, fun _ => 0, m_q, m_qa, tgn_0, tgn_1 d_qa, hd9, by omega, by omega, Nat.zero_le _, updN_eq _ _ _, updN_eq _ _ _, updN_eq _ _ _, upd_same _ _ _, updN_eq _ _ _, upd_same _ _ _, TbM.zr (fun _ _ => rfl) (by omega)⟩))) (fun z hz h1 => (xf2 z (fun e => by rw [e, t_om] at h1; omega) (fun e => by rw [e, t_aso] at h1; omega) (fun e => by rw [e, t_asi] at h1; omega) (fun e => by rw [e, t_ase] at h1; omega) (fun e => by rw [e, t_ato] at h1; omega) (fun e => by rw [e, t_amo] at h1; omega) (fun e => by rw [e, t_alo] at h1; omega) (fun e => by rw [e, t_aro] at h1; omega)).trans (xf1 z (fun e => hz (by rw [e]; exact n_q)) (fun e => hz (by rw [e]; exact n_qa)) (fun e => by rw [e, t_ox] at h1; omega) (fun e => by rw [e, t_as] at h1; omega))) (fun j hj => updN_ne hj) (fun j hj => updN_ne hj) (fun j hj => updN_ne hj) (fun j hj => updN_ne hj) (fun j hj => upd_ne2 hj) (fun j hj => upd_ne2 hj) (zrM_out ro md)⟩
    · obtain ⟨q, qa, n_q, n_qa, d_qa, c_ox, c_as, c_q, c_qa, xf1⟩ := hc
      have k_om := (xf1 om (mw_nn hom n_q) (mw_nn hom n_qa) (tne t_om t_ox (by decide)) (tne t_om t_as (by decide))).trans hom
      have k_aso := (xf1 aso (mw_nn h_aso n_q) (mw_nn h_aso n_qa) (tne t_aso t_ox (by decide)) (tne t_aso t_as (by decide))).trans h_aso
      have k_asi := (xf1 asi (mw_nn h_asi n_q) (mw_nn h_asi n_qa) (tne t_asi t_ox (by decide)) (tne t_asi t_as (by decide))).trans h_asi
      have k_ase := (xf1 ase (mw_nn h_ase n_q) (mw_nn h_ase n_qa) (tne t_ase t_ox (by decide)) (tne t_ase t_as (by decide))).trans h_ase
      have k_ato := (xf1 ato (mw_nn h_ato n_q) (mw_nn h_ato n_qa) (tne t_ato t_ox (by decide)) (tne t_ato t_as (by decide))).trans h_ato
      have k_amo := (xf1 amo (mw_nn h_amo n_q) (mw_nn h_amo n_qa) (tne t_amo t_ox (by decide)) (tne t_amo t_as (by decide))).trans h_amo
      have k_alo := (xf1 alo (mw_nn h_alo n_q) (mw_nn h_alo n_qa) (tne t_alo t_ox (by decide)) (tne t_alo t_as (by decide))).trans h_alo
      have k_aro := (xf1 aro (mw_nn h_aro n_q) (mw_nn h_aro n_qa) (tne t_aro t_ox (by decide)) (tne t_aro t_as (by decide))).trans h_aro
      have k_asr := (xf1 asr (mw_nn h_asr n_q) (mw_nn h_asr n_qa) (tne t_asr t_ox (by decide)) (tne t_asr t_as (by decide))).trans h_asr
      refine ⟨⟨_, by assumption⟩, (c_X7_sketch D cI cS w1 om md aso asi ase ato amo alo aro asr th so si se to mo lo ro tg (nI 3) (nI za) (nI da) k_om k_aso k_asi k_ase k_ato k_amo k_alo k_aro hmd t_aso t_asi t_ase t_ato t_amo t_alo t_aro).mono (fun r2 w2 z2 => ?_)⟩
      rcases z2 with ⟨b7, b8, y1, y2⟩ | ⟨ka2, za2, da2, x1, x2, x3, x4, x5, x6, ⟨b7, b8, y1, y2⟩ | ⟨b7, q2, y_om, y_aso, y_asi, y_ase, y_ato, y_amo, y_alo, y_aro, xf2⟩⟩
      · exact absurd ⟨3, za, da, rfl, rfl, rfl, hd9, hz⟩ b7
      · omega
      · have hzb2 := szN_bd x6
        have e1 := (nI_eq (by omega) (by omega)).mp x3
        have e2 := (nI_eq (by omega) (by omega)).mp x4
        have e3 := (nI_eq (by omega) (by omega)).mp x5
        subst e1
        subst e2
        subst e3
        have hz2 := hz
        unfold szN at hz2
        have m_ox := (xf2 ox (tne t_ox t_om (by decide)) (tne t_ox t_aso (by decide)) (tne t_ox t_asi (by decide)) (tne t_ox t_ase (by decide)) (tne t_ox t_ato (by decide)) (tne t_ox t_amo (by decide)) (tne t_ox t_alo (by decide)) (tne t_ox t_aro (by decide))).trans c_ox
        have m_as := (xf2 as (tne t_as t_om (by decide)) (tne t_as t_aso (by decide)) (tne t_as t_asi (by decide)) (tne t_as t_ase (by decide)) (tne t_as t_ato (by decide)) (tne t_as t_amo (by decide)) (tne t_as t_alo (by decide)) (tne t_as t_aro (by decide))).trans c_as
        have m_asr := (xf2 asr (tne t_asr t_om (by decide)) (tne t_asr t_aso (by decide)) (tne t_asr t_asi (by decide)) (tne t_asr t_ase (by decide)) (tne t_asr t_ato (by decide)) (tne t_asr t_amo (by decide)) (tne t_asr t_alo (by decide)) (tne t_asr t_aro (by decide))).trans k_asr
        have m_q := (xf2 q (Ne.symm (mw_nn hom n_q)) (Ne.symm (mw_nn h_aso n_q)) (Ne.symm (mw_nn h_asi n_q)) (Ne.symm (mw_nn h_ase n_q)) (Ne.symm (mw_nn h_ato n_q)) (Ne.symm (mw_nn h_amo n_q)) (Ne.symm (mw_nn h_alo n_q)) (Ne.symm (mw_nn h_aro n_q))).trans c_q
        have m_qa := (xf2 qa (Ne.symm (mw_nn hom n_qa)) (Ne.symm (mw_nn h_aso n_qa)) (Ne.symm (mw_nn h_asi n_qa)) (Ne.symm (mw_nn h_ase n_qa)) (Ne.symm (mw_nn h_ato n_qa)) (Ne.symm (mw_nn h_amo n_qa)) (Ne.symm (mw_nn h_alo n_qa)) (Ne.symm (mw_nn h_aro n_qa))).trans c_qa
        exact ⟨q2.trans q1.symm, hIN0.nw (q := q) (qa := qa) (qb := qa) (qc := qa) m_ox m_as y_om y_aso y_asi y_ase y_ato y_amo y_alo y_aro m_asr hm8 n_q n_qa n_qa n_qa (Or.inr (Or.inr (Or.inr (Or.inl ⟨qa, za, da, 0, 0, nI 0, fun _ => 0, fun _ => 0, m_q, m_qa, tgn_0, tgn_1 d_qa, hd9, by omega, by omega, Nat.zero_le _, updN_eq _ _ _, updN_eq _ _ _, updN_eq _ _ _, upd_same _ _ _, updN_eq _ _ _, upd_same _ _ _, Nat.zero_le _, LsM.zr, LsR.z _ _⟩)))) (fun z hz h1 => (xf2 z (fun e => by rw [e, t_om] at h1; omega) (fun e => by rw [e, t_aso] at h1; omega) (fun e => by rw [e, t_asi] at h1; omega) (fun e => by rw [e, t_ase] at h1; omega) (fun e => by rw [e, t_ato] at h1; omega) (fun e => by rw [e, t_amo] at h1; omega) (fun e => by rw [e, t_alo] at h1; omega) (fun e => by rw [e, t_aro] at h1; omega)).trans (xf1 z (fun e => hz (by rw [e]; exact n_q)) (fun e => hz (by rw [e]; exact n_qa)) (fun e => by rw [e, t_ox] at h1; omega) (fun e => by rw [e, t_as] at h1; omega))) (fun j hj => updN_ne hj) (fun j hj => updN_ne hj) (fun j hj => updN_ne hj) (fun j hj => updN_ne hj) (fun j hj => upd_ne2 hj) (fun j hj => upd_ne2 hj) (zrM_out ro md)⟩
    · obtain ⟨q, qa, qb, qc, n_q, n_qa, n_qb, n_qc, d_qa, d_qb, d_qc, d_ab, d_ac, d_bc, c_ox, c_as, c_q, c_qa, c_qb, c_qc, xf1⟩ := hc
      have k_om := (xf1 om (mw_nn hom n_q) (mw_nn hom n_qa) (mw_nn hom n_qb) (mw_nn hom n_qc) (tne t_om t_ox (by decide)) (tne t_om t_as (by decide))).trans hom
      have k_aso := (xf1 aso (mw_nn h_aso n_q) (mw_nn h_aso n_qa) (mw_nn h_aso n_qb) (mw_nn h_aso n_qc) (tne t_aso t_ox (by decide)) (tne t_aso t_as (by decide))).trans h_aso
      have k_asi := (xf1 asi (mw_nn h_asi n_q) (mw_nn h_asi n_qa) (mw_nn h_asi n_qb) (mw_nn h_asi n_qc) (tne t_asi t_ox (by decide)) (tne t_asi t_as (by decide))).trans h_asi
      have k_ase := (xf1 ase (mw_nn h_ase n_q) (mw_nn h_ase n_qa) (mw_nn h_ase n_qb) (mw_nn h_ase n_qc) (tne t_ase t_ox (by decide)) (tne t_ase t_as (by decide))).trans h_ase
      have k_ato := (xf1 ato (mw_nn h_ato n_q) (mw_nn h_ato n_qa) (mw_nn h_ato n_qb) (mw_nn h_ato n_qc) (tne t_ato t_ox (by decide)) (tne t_ato t_as (by decide))).trans h_ato
      have k_amo := (xf1 amo (mw_nn h_amo n_q) (mw_nn h_amo n_qa) (mw_nn h_amo n_qb) (mw_nn h_amo n_qc) (tne t_amo t_ox (by decide)) (tne t_amo t_as (by decide))).trans h_amo
      have k_alo := (xf1 alo (mw_nn h_alo n_q) (mw_nn h_alo n_qa) (mw_nn h_alo n_qb) (mw_nn h_alo n_qc) (tne t_alo t_ox (by decide)) (tne t_alo t_as (by decide))).trans h_alo
      have k_aro := (xf1 aro (mw_nn h_aro n_q) (mw_nn h_aro n_qa) (mw_nn h_aro n_qb) (mw_nn h_aro n_qc) (tne t_aro t_ox (by decide)) (tne t_aro t_as (by decide))).trans h_aro
      have k_asr := (xf1 asr (mw_nn h_asr n_q) (mw_nn h_asr n_qa) (mw_nn h_asr n_qb) (mw_nn h_asr n_qc) (tne t_asr t_ox (by decide)) (tne t_asr t_as (by decide))).trans h_asr
      refine ⟨⟨_, by assumption⟩, (c_X7_sketch D cI cS w1 om md aso asi ase ato amo alo aro asr th so si se to mo lo ro tg (nI 4) (nI za) (nI da) k_om k_aso k_asi k_ase k_ato k_amo k_alo k_aro hmd t_aso t_asi t_ase t_ato t_amo t_alo t_aro).mono (fun r2 w2 z2 => ?_)⟩
      rcases z2 with ⟨b7, b8, y1, y2⟩ | ⟨ka2, za2, da2, x1, x2, x3, x4, x5, x6, ⟨b7, b8, y1, y2⟩ | ⟨b7, q2, y_om, y_aso, y_asi, y_ase, y_ato, y_amo, y_alo, y_aro, xf2⟩⟩
      · exact absurd ⟨4, za, da, rfl, rfl, rfl, hd9, hz⟩ b7
      · omega
      · have hzb2 := szN_bd x6
        have e1 := (nI_eq (by omega) (by omega)).mp x3
        have e2 := (nI_eq (by omega) (by omega)).mp x4
        have e3 := (nI_eq (by omega) (by omega)).mp x5
        subst e1
        subst e2
        subst e3
        have hz2 := hz
        unfold szN at hz2
        have m_ox := (xf2 ox (tne t_ox t_om (by decide)) (tne t_ox t_aso (by decide)) (tne t_ox t_asi (by decide)) (tne t_ox t_ase (by decide)) (tne t_ox t_ato (by decide)) (tne t_ox t_amo (by decide)) (tne t_ox t_alo (by decide)) (tne t_ox t_aro (by decide))).trans c_ox
        have m_as := (xf2 as (tne t_as t_om (by decide)) (tne t_as t_aso (by decide)) (tne t_as t_asi (by decide)) (tne t_as t_ase (by decide)) (tne t_as t_ato (by decide)) (tne t_as t_amo (by decide)) (tne t_as t_alo (by decide)) (tne t_as t_aro (by decide))).trans c_as
        have m_asr := (xf2 asr (tne t_asr t_om (by decide)) (tne t_asr t_aso (by decide)) (tne t_asr t_asi (by decide)) (tne t_asr t_ase (by decide)) (tne t_asr t_ato (by decide)) (tne t_asr t_amo (by decide)) (tne t_asr t_alo (by decide)) (tne t_asr t_aro (by decide))).trans k_asr
        have m_q := (xf2 q (Ne.symm (mw_nn hom n_q)) (Ne.symm (mw_nn h_aso n_q)) (Ne.symm (mw_nn h_asi n_q)) (Ne.symm (mw_nn h_ase n_q)) (Ne.symm (mw_nn h_ato n_q)) (Ne.symm (mw_nn h_amo n_q)) (Ne.symm (mw_nn h_alo n_q)) (Ne.symm (mw_nn h_aro n_q))).trans c_q
        have m_qa := (xf2 qa (Ne.symm (mw_nn hom n_qa)) (Ne.symm (mw_nn h_aso n_qa)) (Ne.symm (mw_nn h_asi n_qa)) (Ne.symm (mw_nn h_ase n_qa)) (Ne.symm (mw_nn h_ato n_qa)) (Ne.symm (mw_nn h_amo n_qa)) (Ne.symm (mw_nn h_alo n_qa)) (Ne.symm (mw_nn h_aro n_qa))).trans c_qa
        have m_qb := (xf2 qb (Ne.symm (mw_nn hom n_qb)) (Ne.symm (mw_nn h_aso n_qb)) (Ne.symm (mw_nn h_asi n_qb)) (Ne.symm (mw_nn h_ase n_qb)) (Ne.symm (mw_nn h_ato n_qb)) (Ne.symm (mw_nn h_amo n_qb)) (Ne.symm (mw_nn h_alo n_qb)) (Ne.symm (mw_nn h_aro n_qb))).trans c_qb
        have m_qc := (xf2 qc (Ne.symm (mw_nn hom n_qc)) (Ne.symm (mw_nn h_aso n_qc)) (Ne.symm (mw_nn h_asi n_qc)) (Ne.symm (mw_nn h_ase n_qc)) (Ne.symm (mw_nn h_ato n_qc)) (Ne.symm (mw_nn h_amo n_qc)) (Ne.symm (mw_nn h_alo n_qc)) (Ne.symm (mw_nn h_aro n_qc))).trans c_qc
        exact ⟨q2.trans q1.symm, hIN0.nw (q := q) (qa := qa) (qb := qb) (qc := qc) m_ox m_as y_om y_aso y_asi y_ase y_ato y_amo y_alo y_aro m_asr hm8 n_q n_qa n_qb n_qc (Or.inr (Or.inr (Or.inr (Or.inr (⟨qa, qb, qc, za, da, 0, za / 2, nI 0, nI 0, fun _ => 0, fun _ => 0, fun _ => 0, m_q, m_qa, by rw [lnF_0]; exact m_qb, by rw [lnF_0]; exact m_qc, tgn_0, tgn_1 d_qa, tgn_2 d_qb d_ab, tgn_3 d_qc d_ac d_bc, hd9, by omega, by omega, by omega, Nat.zero_le _, updN_eq _ _ _, updN_eq _ _ _, updN_eq _ _ _, upd_same _ _ _, updN_eq _ _ _, upd_same _ _ _, ⟨fun _ => Nat.zero_le _, fun _ => Nat.zero_le _⟩, fun c hc => by show 0 < za; omega, RkM.zr (fun _ _ => rfl) (fun _ _ => rfl), Nat.le_of_eq (wtS_z 31 (fun _ _ => rfl))⟩))))) (fun z hz h1 => (xf2 z (fun e => by rw [e, t_om] at h1; omega) (fun e => by rw [e, t_aso] at h1; omega) (fun e => by rw [e, t_asi] at h1; omega) (fun e => by rw [e, t_ase] at h1; omega) (fun e => by rw [e, t_ato] at h1; omega) (fun e => by rw [e, t_amo] at h1; omega) (fun e => by rw [e, t_alo] at h1; omega) (fun e => by rw [e, t_aro] at h1; omega)).trans (xf1 z (fun e => hz (by rw [e]; exact n_q)) (fun e => hz (by rw [e]; exact n_qa)) (fun e => hz (by rw [e]; exact n_qb)) (fun e => hz (by rw [e]; exact n_qc)) (fun e => by rw [e, t_ox] at h1; omega) (fun e => by rw [e, t_as] at h1; omega))) (fun j hj => updN_ne hj) (fun j hj => updN_ne hj) (fun j hj => updN_ne hj) (fun j hj => updN_ne hj) (fun j hj => upd_ne2 hj) (fun j hj => upd_ne2 hj) (zrM_out ro md)⟩
