/-! ===== what holds between class and reference ===== -/
def SkH (cI : ClassId) (tg : Nat → Nat) (so si se mo : Nat → Nat) (to lo ro : Nat → Int32) (w : mwT) (a h0 : Nat) : Prop := ∃ (ak an k sd h mv : Nat) (tot : Int32) (f g u : Nat → Int32) (vn : Nat → Nat), w h0 = some (.inr (1, [.int (nI 0), .int (nI k), .int (nI sd), .int tot, .int (nI mv), .ref ak, .ref an, .int (nI h), .int (lo a)])) ∧ w ak = some (eI cI (2 * k) f) ∧ w an = some (eI cI (2 * k) g) ∧ tg h0 = 4 * a + 12 ∧ tg ak = 4 * a + 13 ∧ tg an = 4 * a + 14 ∧ sd ≤ 999 ∧ 1 ≤ k ∧ k ≤ 20 ∧ mv ≤ 10000000 ∧ so a = 0 ∧ si a = k ∧ se a = sd ∧ to a = tot ∧ mo a = mv ∧ h ≤ k ∧ HvM ro a u (lnF vn) h ∧ (∀ i, i < h → 1 ≤ vn i ∧ vn i ≤ 10000000) ∧ HvR mv f g h u (lnF vn)
def SkT (cI : ClassId) (tg : Nat → Nat) (so si se mo : Nat → Nat) (to lo ro : Nat → Int32) (w : mwT) (a h0 : Nat) : Prop := ∃ (ab c sd mv : Nat) (tot : Int32) (f : Nat → Int32), w h0 = some (.inr (4, [.int (nI 1), .int (nI c), .int (nI sd), .int tot, .int (nI mv), .ref ab])) ∧ w ab = some (eI cI (4 * c) f) ∧ tg h0 = 4 * a + 12 ∧ tg ab = 4 * a + 13 ∧ sd ≤ 999 ∧ 4 ≤ c ∧ c ≤ 64 ∧ mv ≤ 10000000 ∧ so a = 1 ∧ si a = c ∧ se a = sd ∧ to a = tot ∧ mo a = mv ∧ lo a = nI 0 ∧ TbM ro a f (4 * c) ∧ TbB mv f (4 * c)
def SkF (cI : ClassId) (tg : Nat → Nat) (so si se mo : Nat → Nat) (to lo ro : Nat → Int32) (w : mwT) (a h0 : Nat) : Prop := ∃ (ab b sd mv : Nat) (tot : Int32) (f : Nat → Int32), w h0 = some (.inr (0, [.int (nI 2), .int (nI b), .int (nI sd), .int tot, .int (nI mv), .ref ab])) ∧ w ab = some (eI cI b f) ∧ tg h0 = 4 * a + 12 ∧ tg ab = 4 * a + 13 ∧ sd ≤ 999 ∧ 16 ≤ b ∧ b ≤ 512 ∧ mv ≤ 10000000 ∧ so a = 2 ∧ si a = b ∧ se a = sd ∧ to a = tot ∧ mo a = mv ∧ lo a = nI 0 ∧ TbM ro a f b
def SkL (cI : ClassId) (tg : Nat → Nat) (so si se mo : Nat → Nat) (to lo ro : Nat → Int32) (w : mwT) (a h0 : Nat) : Prop := ∃ (ab k sd h mv : Nat) (tot : Int32) (f u : Nat → Int32), w h0 = some (.inr (2, [.int (nI 3), .int (nI k), .int (nI sd), .int tot, .int (nI mv), .ref ab, .int (nI h)])) ∧ w ab = some (eI cI k f) ∧ tg h0 = 4 * a + 12 ∧ tg ab = 4 * a + 13 ∧ sd ≤ 999 ∧ 2 ≤ k ∧ k ≤ 32 ∧ mv ≤ 10000000 ∧ so a = 3 ∧ si a = k ∧ se a = sd ∧ to a = tot ∧ mo a = mv ∧ lo a = nI 0 ∧ h ≤ k ∧ LsM ro a u h ∧ LsR f h u
def SkR (cI : ClassId) (tg : Nat → Nat) (so si se mo : Nat → Nat) (to lo ro : Nat → Int32) (w : mwT) (a h0 : Nat) : Prop := ∃ (ak al aw k sd mv e : Nat) (tot er : Int32) (f : Nat → Int32) (ln tr : Nat → Nat), w h0 = some (.inr (3, [.int (nI 4), .int (nI k), .int (nI sd), .int tot, .int (nI mv), .ref ak, .ref al, .ref aw, .int er])) ∧ w ak = some (eI cI (31 * k) f) ∧ w al = some (eI cI 31 (lnF ln)) ∧ w aw = some (eI cI 31 (lnF tr)) ∧ tg h0 = 4 * a + 12 ∧ tg ak = 4 * a + 13 ∧ tg al = 4 * a + 14 ∧ tg aw = 4 * a + 15 ∧ sd ≤ 999 ∧ k = 2 * e ∧ 2 ≤ e ∧ k ≤ 32 ∧ mv ≤ 10000000 ∧ so a = 4 ∧ si a = k ∧ se a = sd ∧ to a = tot ∧ mo a = mv ∧ lo a = er ∧ rkOk k (f, ln, tr, er) ∧ (∀ c, c < 31 → ln c < k) ∧ RkM ro a k (f, ln, tr, er) ∧ wtS ln 31 ≤ mv
def SkA (cI : ClassId) (tg : Nat → Nat) (so si se mo : Nat → Nat) (to lo ro : Nat → Int32) (w : mwT) (a h0 : Nat) : Prop := SkH cI tg so si se mo to lo ro w a h0 ∨ SkT cI tg so si se mo to lo ro w a h0 ∨ SkF cI tg so si se mo to lo ro w a h0 ∨ SkL cI tg so si se mo to lo ro w a h0 ∨ SkR cI tg so si se mo to lo ro w a h0
def agS (ro ro1 : Nat → Int32) (a : Nat) : Prop := ∀ z, z < 1200 → ro1 (1200 * a + z) = ro (1200 * a + z)
theorem outS.ag {ro ro1 : Nat → Int32} {s a : Nat} (h : outS ro ro1 s) (hne : s ≠ a) : agS ro ro1 a := fun z hz => h _ (by omega)
theorem TbM.ag {ro ro1 : Nat → Int32} {s n : Nat} {f : Nat → Int32} (H : TbM ro s f n) (h : agS ro ro1 s) (hn : n ≤ 1000) : TbM ro1 s f n := fun i hi => by
  rw [Nat.add_assoc, h _ (by omega), ← Nat.add_assoc]
  exact H i hi
theorem ag0 {ro ro1 : Nat → Int32} {s : Nat} (h : agS ro ro1 s) : ro1 (1200 * s) = ro (1200 * s) := by
  have := h 0 (by omega)
  rw [Nat.add_zero] at this
  exact this
theorem LsM.ag {ro ro1 : Nat → Int32} {s n : Nat} {f : Nat → Int32} (H : LsM ro s f n) (h : agS ro ro1 s) (hn : n ≤ 1000) : LsM ro1 s f n := by
  refine ⟨(ag0 h).trans H.1, fun i hi => ?_⟩
  rw [Nat.add_assoc, h _ (by omega), ← Nat.add_assoc]
  exact H.2 i hi
theorem HvM.ag {ro ro1 : Nat → Int32} {s n : Nat} {f g : Nat → Int32} (H : HvM ro s f g n) (h : agS ro ro1 s) (hn : n ≤ 500) : HvM ro1 s f g n := by
  refine ⟨(ag0 h).trans H.1, fun i hi => ⟨?_, ?_⟩⟩
  · rw [Nat.add_assoc, h _ (by omega), ← Nat.add_assoc]
    exact (H.2 i hi).1
  · rw [Nat.add_assoc, Nat.add_assoc, h _ (by omega), ← Nat.add_assoc, ← Nat.add_assoc]
    exact (H.2 i hi).2
theorem RkM.ag {ro ro1 : Nat → Int32} {s k : Nat} {S : rkT} (H : RkM ro s k S) (h : agS ro ro1 s) (hk : k ≤ 32) (hl : ∀ c, c < 31 → S.2.1 c < k) : RkM ro1 s k S := by
  refine ⟨fun b hb => ?_, fun b hb => ?_, fun b i hb hi => ?_⟩
  · rw [h _ (by omega)]; exact H.1 b hb
  · rw [Nat.add_assoc, h _ (by omega), ← Nat.add_assoc]; exact H.2.1 b hb
  · have := hl b hb
    rw [Nat.add_assoc, Nat.add_assoc, h _ (by omega), ← Nat.add_assoc, ← Nat.add_assoc]; exact H.2.2 b i hb hi

theorem SkH.fr {cI : ClassId} {tg tg1 : Nat → Nat} {so si se mo : Nat → Nat} {to lo ro : Nat → Int32} {so1 si1 se1 mo1 : Nat → Nat} {to1 lo1 ro1 : Nat → Int32} {w w1 : mwT} {a h0 : Nat} (H : SkH cI tg so si se mo to lo ro w a h0) (hf : ∀ z, 4 * a + 12 ≤ tg z → tg z < 4 * a + 16 → w z ≠ none → w1 z = w z ∧ tg1 z = tg z) (e1 : so1 a = so a) (e2 : si1 a = si a) (e3 : se1 a = se a) (e4 : mo1 a = mo a) (e5 : to1 a = to a) (e6 : lo1 a = lo a) (hro : agS ro ro1 a) : SkH cI tg1 so1 si1 se1 mo1 to1 lo1 ro1 w1 a h0 := by
  obtain ⟨ak, an, k, sd, h, mv, tot, f, g, u, vn, hh, h_ak, h_an, t_h0, t_ak, t_an, hs0, hk1, hk2, hmv, hso, hsi, hse, hto, hmo, hh2, hv, hvn, hR⟩ := H
  have f_h0 := hf h0 (by omega) (by omega) (by rw [hh]; exact fun q => by cases q)
  have f_ak := hf ak (by omega) (by omega) (by rw [h_ak]; exact fun q => by cases q)
  have f_an := hf an (by omega) (by omega) (by rw [h_an]; exact fun q => by cases q)
  exact ⟨ak, an, k, sd, h, mv, tot, f, g, u, vn, by rw [f_h0.1, e6]; exact hh, f_ak.1.trans h_ak, f_an.1.trans h_an, f_h0.2.trans t_h0, f_ak.2.trans t_ak, f_an.2.trans t_an, hs0, hk1, hk2, hmv, e1.trans hso, e2.trans hsi, e3.trans hse, e5.trans hto, e4.trans hmo, hh2, (hv.ag hro (by omega)), hvn, hR⟩

theorem SkT.fr {cI : ClassId} {tg tg1 : Nat → Nat} {so si se mo : Nat → Nat} {to lo ro : Nat → Int32} {so1 si1 se1 mo1 : Nat → Nat} {to1 lo1 ro1 : Nat → Int32} {w w1 : mwT} {a h0 : Nat} (H : SkT cI tg so si se mo to lo ro w a h0) (hf : ∀ z, 4 * a + 12 ≤ tg z → tg z < 4 * a + 16 → w z ≠ none → w1 z = w z ∧ tg1 z = tg z) (e1 : so1 a = so a) (e2 : si1 a = si a) (e3 : se1 a = se a) (e4 : mo1 a = mo a) (e5 : to1 a = to a) (e6 : lo1 a = lo a) (hro : agS ro ro1 a) : SkT cI tg1 so1 si1 se1 mo1 to1 lo1 ro1 w1 a h0 := by
  obtain ⟨ab, c, sd, mv, tot, f, hh, h_ab, t_h0, t_ab, hs0, hc1, hc2, hmv, hso, hsi, hse, hto, hmo, hlo, hv, hB⟩ := H
  have f_h0 := hf h0 (by omega) (by omega) (by rw [hh]; exact fun q => by cases q)
  have f_ab := hf ab (by omega) (by omega) (by rw [h_ab]; exact fun q => by cases q)
  exact ⟨ab, c, sd, mv, tot, f, f_h0.1.trans hh, f_ab.1.trans h_ab, f_h0.2.trans t_h0, f_ab.2.trans t_ab, hs0, hc1, hc2, hmv, e1.trans hso, e2.trans hsi, e3.trans hse, e5.trans hto, e4.trans hmo, e6.trans hlo, (hv.ag hro (by omega)), hB⟩

theorem SkF.fr {cI : ClassId} {tg tg1 : Nat → Nat} {so si se mo : Nat → Nat} {to lo ro : Nat → Int32} {so1 si1 se1 mo1 : Nat → Nat} {to1 lo1 ro1 : Nat → Int32} {w w1 : mwT} {a h0 : Nat} (H : SkF cI tg so si se mo to lo ro w a h0) (hf : ∀ z, 4 * a + 12 ≤ tg z → tg z < 4 * a + 16 → w z ≠ none → w1 z = w z ∧ tg1 z = tg z) (e1 : so1 a = so a) (e2 : si1 a = si a) (e3 : se1 a = se a) (e4 : mo1 a = mo a) (e5 : to1 a = to a) (e6 : lo1 a = lo a) (hro : agS ro ro1 a) : SkF cI tg1 so1 si1 se1 mo1 to1 lo1 ro1 w1 a h0 := by
  obtain ⟨ab, b, sd, mv, tot, f, hh, h_ab, t_h0, t_ab, hs0, hb1, hb2, hmv, hso, hsi, hse, hto, hmo, hlo, hv⟩ := H
  have f_h0 := hf h0 (by omega) (by omega) (by rw [hh]; exact fun q => by cases q)
  have f_ab := hf ab (by omega) (by omega) (by rw [h_ab]; exact fun q => by cases q)
  exact ⟨ab, b, sd, mv, tot, f, f_h0.1.trans hh, f_ab.1.trans h_ab, f_h0.2.trans t_h0, f_ab.2.trans t_ab, hs0, hb1, hb2, hmv, e1.trans hso, e2.trans hsi, e3.trans hse, e5.trans hto, e4.trans hmo, e6.trans hlo, (hv.ag hro (by omega))⟩

theorem SkL.fr {cI : ClassId} {tg tg1 : Nat → Nat} {so si se mo : Nat → Nat} {to lo ro : Nat → Int32} {so1 si1 se1 mo1 : Nat → Nat} {to1 lo1 ro1 : Nat → Int32} {w w1 : mwT} {a h0 : Nat} (H : SkL cI tg so si se mo to lo ro w a h0) (hf : ∀ z, 4 * a + 12 ≤ tg z → tg z < 4 * a + 16 → w z ≠ none → w1 z = w z ∧ tg1 z = tg z) (e1 : so1 a = so a) (e2 : si1 a = si a) (e3 : se1 a = se a) (e4 : mo1 a = mo a) (e5 : to1 a = to a) (e6 : lo1 a = lo a) (hro : agS ro ro1 a) : SkL cI tg1 so1 si1 se1 mo1 to1 lo1 ro1 w1 a h0 := by
  obtain ⟨ab, k, sd, h, mv, tot, f, u, hh, h_ab, t_h0, t_ab, hs0, hk1, hk2, hmv, hso, hsi, hse, hto, hmo, hlo, hh2, hl, hR⟩ := H
  have f_h0 := hf h0 (by omega) (by omega) (by rw [hh]; exact fun q => by cases q)
  have f_ab := hf ab (by omega) (by omega) (by rw [h_ab]; exact fun q => by cases q)
  exact ⟨ab, k, sd, h, mv, tot, f, u, f_h0.1.trans hh, f_ab.1.trans h_ab, f_h0.2.trans t_h0, f_ab.2.trans t_ab, hs0, hk1, hk2, hmv, e1.trans hso, e2.trans hsi, e3.trans hse, e5.trans hto, e4.trans hmo, e6.trans hlo, hh2, (hl.ag hro (by omega)), hR⟩

theorem SkR.fr {cI : ClassId} {tg tg1 : Nat → Nat} {so si se mo : Nat → Nat} {to lo ro : Nat → Int32} {so1 si1 se1 mo1 : Nat → Nat} {to1 lo1 ro1 : Nat → Int32} {w w1 : mwT} {a h0 : Nat} (H : SkR cI tg so si se mo to lo ro w a h0) (hf : ∀ z, 4 * a + 12 ≤ tg z → tg z < 4 * a + 16 → w z ≠ none → w1 z = w z ∧ tg1 z = tg z) (e1 : so1 a = so a) (e2 : si1 a = si a) (e3 : se1 a = se a) (e4 : mo1 a = mo a) (e5 : to1 a = to a) (e6 : lo1 a = lo a) (hro : agS ro ro1 a) : SkR cI tg1 so1 si1 se1 mo1 to1 lo1 ro1 w1 a h0 := by
  obtain ⟨ak, al, aw, k, sd, mv, e, tot, er, f, ln, tr, hh, h_ak, h_al, h_aw, t_h0, t_ak, t_al, t_aw, hs0, hke, he, hk2, hmv, hso, hsi, hse, hto, hmo, hlo, hok, hln, hr, hwt⟩ := H
  have f_h0 := hf h0 (by omega) (by omega) (by rw [hh]; exact fun q => by cases q)
  have f_ak := hf ak (by omega) (by omega) (by rw [h_ak]; exact fun q => by cases q)
  have f_al := hf al (by omega) (by omega) (by rw [h_al]; exact fun q => by cases q)
  have f_aw := hf aw (by omega) (by omega) (by rw [h_aw]; exact fun q => by cases q)
  exact ⟨ak, al, aw, k, sd, mv, e, tot, er, f, ln, tr, f_h0.1.trans hh, f_ak.1.trans h_ak, f_al.1.trans h_al, f_aw.1.trans h_aw, f_h0.2.trans t_h0, f_ak.2.trans t_ak, f_al.2.trans t_al, f_aw.2.trans t_aw, hs0, hke, he, hk2, hmv, e1.trans hso, e2.trans hsi, e3.trans hse, e5.trans hto, e4.trans hmo, e6.trans hlo, hok, hln, (hr.ag hro hk2 hln), hwt⟩

theorem SkA.fr {cI : ClassId} {tg tg1 : Nat → Nat} {so si se mo : Nat → Nat} {to lo ro : Nat → Int32} {so1 si1 se1 mo1 : Nat → Nat} {to1 lo1 ro1 : Nat → Int32} {w w1 : mwT} {a h0 : Nat} (H : SkA cI tg so si se mo to lo ro w a h0) (hf : ∀ z, 4 * a + 12 ≤ tg z → tg z < 4 * a + 16 → w z ≠ none → w1 z = w z ∧ tg1 z = tg z) (e1 : so1 a = so a) (e2 : si1 a = si a) (e3 : se1 a = se a) (e4 : mo1 a = mo a) (e5 : to1 a = to a) (e6 : lo1 a = lo a) (hro : agS ro ro1 a) : SkA cI tg1 so1 si1 se1 mo1 to1 lo1 ro1 w1 a h0 := by
  rcases H with H | H | H | H | H
  · exact Or.inl (H.fr hf e1 e2 e3 e4 e5 e6 hro)
  · exact Or.inr (Or.inl (H.fr hf e1 e2 e3 e4 e5 e6 hro))
  · exact Or.inr (Or.inr (Or.inl (H.fr hf e1 e2 e3 e4 e5 e6 hro)))
  · exact Or.inr (Or.inr (Or.inr (Or.inl (H.fr hf e1 e2 e3 e4 e5 e6 hro))))
  · exact Or.inr (Or.inr (Or.inr (Or.inr (H.fr hf e1 e2 e3 e4 e5 e6 hro))))

def IN (cI cS : ClassId) (w : mwT) (ox om as md aso asi ase ato amo alo aro asr : Nat) (th : Int32) (g0 : Nat → Option Nat) (so si se mo : Nat → Nat) (to lo ro sr : Nat → Int32) (tg : Nat → Nat) : Prop := md ≤ 8 ∧ w ox = some (.inr (5, [.ref as, .int (nI md)])) ∧ w as = some (eR cS 8 g0) ∧ w om = some (.inr (6, [.int th, .int (nI md), .ref aso, .ref asi, .ref ase, .ref ato, .ref amo, .ref alo, .ref aro, .ref asr])) ∧ w aso = some (eI cI 8 (lnF so)) ∧ w asi = some (eI cI 8 (lnF si)) ∧ w ase = some (eI cI 8 (lnF se)) ∧ w ato = some (eI cI 8 to) ∧ w amo = some (eI cI 8 (lnF mo)) ∧ w alo = some (eI cI 8 lo) ∧ w aro = some (eI cI 9600 ro) ∧ w asr = some (eI cI 1024 sr) ∧ tg ox = 9 ∧ tg as = 10 ∧ tg om = 11 ∧ tg aso = 1 ∧ tg asi = 2 ∧ tg ase = 3 ∧ tg ato = 4 ∧ tg amo = 5 ∧ tg alo = 6 ∧ tg aro = 7 ∧ tg asr = 8 ∧ (∀ a : Nat, a < md → ∃ h0 : Nat, g0 a = some h0 ∧ SkA cI tg so si se mo to lo ro w a h0)
def INV (cI cS : ClassId) (ox om : Nat) (w : mwT) : Prop := ∃ (as md aso asi ase ato amo alo aro asr : Nat) (th : Int32) (g0 : Nat → Option Nat) (so si se mo : Nat → Nat) (to lo ro sr : Nat → Int32) (tg : Nat → Nat), IN cI cS w ox om as md aso asi ase ato amo alo aro asr th g0 so si se mo to lo ro sr tg
theorem IN.rd {cI cS : ClassId} {w w1 : mwT} {ox om as md aso asi ase ato amo alo aro asr : Nat} {th th1 : Int32} {g0 : Nat → Option Nat} {so si se mo : Nat → Nat} {to lo ro sr : Nat → Int32} {tg : Nat → Nat} (H : IN cI cS w ox om as md aso asi ase ato amo alo aro asr th g0 so si se mo to lo ro sr tg) (h : w1 om = some (.inr (6, [.int th1, .int (nI md), .ref aso, .ref asi, .ref ase, .ref ato, .ref amo, .ref alo, .ref aro, .ref asr]))) (hf : ∀ z : Nat, z ≠ om → w1 z = w z) : INV cI cS ox om w1 := by
  obtain ⟨hmd, hox, has, hom, h_aso, h_asi, h_ase, h_ato, h_amo, h_alo, h_aro, h_asr, t_ox, t_as, t_om, t_aso, t_asi, t_ase, t_ato, t_amo, t_alo, t_aro, t_asr, hS⟩ := H
  refine ⟨as, md, aso, asi, ase, ato, amo, alo, aro, asr, th1, g0, so, si, se, mo, to, lo, ro, sr, tg, hmd, (hf ox (tne t_ox t_om (by decide))).trans hox, (hf as (tne t_as t_om (by decide))).trans has, h, (hf aso (tne t_aso t_om (by decide))).trans h_aso, (hf asi (tne t_asi t_om (by decide))).trans h_asi, (hf ase (tne t_ase t_om (by decide))).trans h_ase, (hf ato (tne t_ato t_om (by decide))).trans h_ato, (hf amo (tne t_amo t_om (by decide))).trans h_amo, (hf alo (tne t_alo t_om (by decide))).trans h_alo, (hf aro (tne t_aro t_om (by decide))).trans h_aro, (hf asr (tne t_asr t_om (by decide))).trans h_asr, t_ox, t_as, t_om, t_aso, t_asi, t_ase, t_ato, t_amo, t_alo, t_aro, t_asr, fun a ha => ?_⟩
  obtain ⟨h0, hg, hk⟩ := hS a ha
  exact ⟨h0, hg, hk.fr (fun z h1 _ _ => ⟨hf z (fun e => by rw [e, t_om] at h1; omega), rfl⟩) rfl rfl rfl rfl rfl rfl (fun _ _ => rfl)⟩

theorem IN.ch {cI cS : ClassId} {w w1 : mwT} {ox om as md aso asi ase ato amo alo aro asr a0 h0 : Nat} {th th1 : Int32} {g0 : Nat → Option Nat} {so si se mo mo1 : Nat → Nat} {to lo ro sr to1 lo1 ro1 sr1 : Nat → Int32} {tg : Nat → Nat} (H : IN cI cS w ox om as md aso asi ase ato amo alo aro asr th g0 so si se mo to lo ro sr tg) (n_ox : w1 ox = some (.inr (5, [.ref as, .int (nI md)]))) (n_as : w1 as = some (eR cS 8 g0)) (n_om : w1 om = some (.inr (6, [.int th1, .int (nI md), .ref aso, .ref asi, .ref ase, .ref ato, .ref amo, .ref alo, .ref aro, .ref asr]))) (n_aso : w1 aso = some (eI cI 8 (lnF so))) (n_asi : w1 asi = some (eI cI 8 (lnF si))) (n_ase : w1 ase = some (eI cI 8 (lnF se))) (n_ato : w1 ato = some (eI cI 8 to1)) (n_amo : w1 amo = some (eI cI 8 (lnF mo1))) (n_alo : w1 alo = some (eI cI 8 lo1)) (n_aro : w1 aro = some (eI cI 9600 ro1)) (n_asr : w1 asr = some (eI cI 1024 sr1)) (ha : a0 < md) (hg : g0 a0 = some h0) (hsk : SkA cI tg so si se mo1 to1 lo1 ro1 w1 a0 h0) (hf : ∀ z : Nat, w z ≠ none → 12 ≤ tg z → (tg z < 4 * a0 + 12 ∨ 4 * a0 + 16 ≤ tg z) → w1 z = w z) (e4 : ∀ j, j ≠ a0 → mo1 j = mo j) (e5 : ∀ j, j ≠ a0 → to1 j = to j) (e6 : ∀ j, j ≠ a0 → lo1 j = lo j) (hro : outS ro ro1 a0) : INV cI cS ox om w1 := by
  obtain ⟨hmd, hox, has, hom, h_aso, h_asi, h_ase, h_ato, h_amo, h_alo, h_aro, h_asr, t_ox, t_as, t_om, t_aso, t_asi, t_ase, t_ato, t_amo, t_alo, t_aro, t_asr, hS⟩ := H
  refine ⟨as, md, aso, asi, ase, ato, amo, alo, aro, asr, th1, g0, so, si, se, mo1, to1, lo1, ro1, sr1, tg, hmd, n_ox, n_as, n_om, n_aso, n_asi, n_ase, n_ato, n_amo, n_alo, n_aro, n_asr, t_ox, t_as, t_om, t_aso, t_asi, t_ase, t_ato, t_amo, t_alo, t_aro, t_asr, fun a ha2 => ?_⟩
  by_cases e : a = a0
  · subst e
    exact ⟨h0, hg, hsk⟩
  · obtain ⟨h2, hg2, hk⟩ := hS a ha2
    exact ⟨h2, hg2, hk.fr (fun z h1 h3 h4 => ⟨hf z h4 (by omega) (by omega), rfl⟩) rfl rfl rfl (e4 a e) (e5 a e) (e6 a e) (hro.ag (Ne.symm e))⟩

def tgn (tg : Nat → Nat) (md q qa qb qc : Nat) : Nat → Nat := fun z => if z = q then 4 * md + 12 else if z = qa then 4 * md + 13 else if z = qb then 4 * md + 14 else if z = qc then 4 * md + 15 else tg z
theorem tgn_old {tg : Nat → Nat} {md q qa qb qc z : Nat} {w : mwT} (hz : w z ≠ none) (h0 : w q = none) (h1 : w qa = none) (h2 : w qb = none) (h3 : w qc = none) : tgn tg md q qa qb qc z = tg z := by
  unfold tgn
  have n0 : z ≠ q := fun e => hz (by rw [e]; exact h0)
  have n1 : z ≠ qa := fun e => hz (by rw [e]; exact h1)
  have n2 : z ≠ qb := fun e => hz (by rw [e]; exact h2)
  have n3 : z ≠ qc := fun e => hz (by rw [e]; exact h3)
  rw [if_neg n0, if_neg n1, if_neg n2, if_neg n3]
theorem some_nn {w : mwT} {a : Nat} {x : va_E} (h : w a = some x) : w a ≠ none := by rw [h]; exact fun q => by cases q

theorem IN.nw {cI cS : ClassId} {w w1 : mwT} {ox om as md aso asi ase ato amo alo aro asr q qa qb qc : Nat} {th th1 : Int32} {g0 : Nat → Option Nat} {so si se mo so1 si1 se1 mo1 : Nat → Nat} {to lo ro sr to1 lo1 ro1 sr1 : Nat → Int32} {tg : Nat → Nat} (H : IN cI cS w ox om as md aso asi ase ato amo alo aro asr th g0 so si se mo to lo ro sr tg) (n_ox : w1 ox = some (.inr (5, [.ref as, .int (nI (md + 1))]))) (n_as : w1 as = some (eR cS 8 (va_up g0 md (some q)))) (n_om : w1 om = some (.inr (6, [.int th1, .int (nI (md + 1)), .ref aso, .ref asi, .ref ase, .ref ato, .ref amo, .ref alo, .ref aro, .ref asr]))) (n_aso : w1 aso = some (eI cI 8 (lnF so1))) (n_asi : w1 asi = some (eI cI 8 (lnF si1))) (n_ase : w1 ase = some (eI cI 8 (lnF se1))) (n_ato : w1 ato = some (eI cI 8 to1)) (n_amo : w1 amo = some (eI cI 8 (lnF mo1))) (n_alo : w1 alo = some (eI cI 8 lo1)) (n_aro : w1 aro = some (eI cI 9600 ro1)) (n_asr : w1 asr = some (eI cI 1024 sr1)) (hm8 : md < 8) (hq0 : w q = none) (hq1 : w qa = none) (hq2 : w qb = none) (hq3 : w qc = none) (hsk : SkA cI (tgn tg md q qa qb qc) so1 si1 se1 mo1 to1 lo1 ro1 w1 md q) (hf : ∀ z : Nat, w z ≠ none → 12 ≤ tg z → w1 z = w z) (e1 : ∀ j, j ≠ md → so1 j = so j) (e2 : ∀ j, j ≠ md → si1 j = si j) (e3 : ∀ j, j ≠ md → se1 j = se j) (e4 : ∀ j, j ≠ md → mo1 j = mo j) (e5 : ∀ j, j ≠ md → to1 j = to j) (e6 : ∀ j, j ≠ md → lo1 j = lo j) (hro : outS ro ro1 md) : INV cI cS ox om w1 := by
  obtain ⟨hmd, hox, has, hom, h_aso, h_asi, h_ase, h_ato, h_amo, h_alo, h_aro, h_asr, t_ox, t_as, t_om, t_aso, t_asi, t_ase, t_ato, t_amo, t_alo, t_aro, t_asr, hS⟩ := H
  have ht : ∀ z, w z ≠ none → tgn tg md q qa qb qc z = tg z := fun z hz => tgn_old hz hq0 hq1 hq2 hq3
  refine ⟨as, md + 1, aso, asi, ase, ato, amo, alo, aro, asr, th1, va_up g0 md (some q), so1, si1, se1, mo1, to1, lo1, ro1, sr1, tgn tg md q qa qb qc, hm8, n_ox, n_as, n_om, n_aso, n_asi, n_ase, n_ato, n_amo, n_alo, n_aro, n_asr, (ht _ (some_nn hox)).trans t_ox, (ht _ (some_nn has)).trans t_as, (ht _ (some_nn hom)).trans t_om, (ht _ (some_nn h_aso)).trans t_aso, (ht _ (some_nn h_asi)).trans t_asi, (ht _ (some_nn h_ase)).trans t_ase, (ht _ (some_nn h_ato)).trans t_ato, (ht _ (some_nn h_amo)).trans t_amo, (ht _ (some_nn h_alo)).trans t_alo, (ht _ (some_nn h_aro)).trans t_aro, (ht _ (some_nn h_asr)).trans t_asr, fun a ha2 => ?_⟩
  by_cases e : a = md
  · subst e
    exact ⟨q, by unfold va_up; rw [if_pos rfl], hsk⟩
  · obtain ⟨h2, hg2, hk⟩ := hS a (by omega)
    exact ⟨h2, by unfold va_up; rw [if_neg e]; exact hg2, hk.fr (fun z h1 h3 h4 => ⟨hf z h4 (by omega), ht z h4⟩) (e1 a e) (e2 a e) (e3 a e) (e4 a e) (e5 a e) (e6 a e) (hro.ag (Ne.symm e))⟩
