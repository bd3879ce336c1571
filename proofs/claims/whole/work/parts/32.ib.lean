theorem key_eq {x r r2 : Int32} {A B : Nat → Int32} (h1 : (¬ rg 9999 x ∧ r = -1) ∨ ∃ xa : Nat, xa ≤ 9999 ∧ x = nI xa ∧ r = A xa) (h2 : (¬ rg 9999 x ∧ r2 = -1) ∨ ∃ xa : Nat, xa ≤ 9999 ∧ x = nI xa ∧ r2 = B xa) (h : ∀ xa, xa ≤ 9999 → A xa = B xa) : r2 = r := by
  rcases h1 with ⟨a1, a2⟩ | ⟨xa, a1, a2, a3⟩
  · rcases h2 with ⟨b1, b2⟩ | ⟨xb, b1, b2, b3⟩
    · rw [a2, b2]
    · exact absurd ⟨xb, b1, b2⟩ a1
  · rcases h2 with ⟨b1, b2⟩ | ⟨xb, b1, b2, b3⟩
    · exact absurd ⟨xa, a1, a2⟩ b1
    · have e := (nI_eq (by omega) (by omega)).mp (a2.symm.trans b2)
      subst e
      rw [a3, b3, h xa a1]
theorem key_m1 {x r r2 : Int32} (h1 : (¬ rg 9999 x ∧ r = -1) ∨ ∃ xa : Nat, xa ≤ 9999 ∧ x = nI xa ∧ r = -1) (h2 : r2 = -1) : r2 = r := by
  rcases h1 with ⟨_, a2⟩ | ⟨_, _, _, a2⟩ <;> rw [a2, h2]
theorem key_has {x r r2 : Int32} {sd h : Nat} {f u : Nat → Int32} (H : LsR f h u) (h1 : (¬ rg 9999 x ∧ r = -1) ∨ ∃ xa : Nat, xa ≤ 9999 ∧ x = nI xa ∧ ((r = nI 1 ∧ stL f h (nI (hsN sd 0 xa))) ∨ (r = nI 0 ∧ ¬ stL f h (nI (hsN sd 0 xa))))) (h2 : (¬ rg 9999 x ∧ r2 = -1) ∨ ∃ xa : Nat, xa ≤ 9999 ∧ x = nI xa ∧ r2 = nI (hsU u (nI (hsN sd 0 xa)) h)) : r2 = r := by
  rcases h1 with ⟨a1, a2⟩ | ⟨xa, a1, a2, a3⟩
  · rcases h2 with ⟨b1, b2⟩ | ⟨xb, b1, b2, b3⟩
    · rw [a2, b2]
    · exact absurd ⟨xb, b1, b2⟩ a1
  · rcases h2 with ⟨b1, b2⟩ | ⟨xb, b1, b2, b3⟩
    · exact absurd ⟨xa, a1, a2⟩ b1
    · have e := (nI_eq (by omega) (by omega)).mp (a2.symm.trans b2)
      subst e
      have hh := LsR.has H (nI (hsN sd 0 xa))
      rcases a3 with ⟨c1, c2⟩ | ⟨c1, c2⟩
      · rw [b3, c1, hh.1 c2]
      · rw [b3, c1, hh.2 c2]
theorem told_eq {q r r2 v0 v1 v2 v3 v4 v5 v6 : Int32} (h1 : (¬ rg 6 q ∧ r = -1) ∨ (q = nI 0 ∧ r = v0) ∨ (q = nI 1 ∧ r = v1) ∨ (q = nI 2 ∧ r = v2) ∨ (q = nI 3 ∧ r = v3) ∨ (q = nI 4 ∧ r = v4) ∨ (q = nI 5 ∧ r = v5) ∨ (q = nI 6 ∧ r = v6)) (h2 : (¬ rg 6 q ∧ r2 = -1) ∨ (q = nI 0 ∧ r2 = v0) ∨ (q = nI 1 ∧ r2 = v1) ∨ (q = nI 2 ∧ r2 = v2) ∨ (q = nI 3 ∧ r2 = v3) ∨ (q = nI 4 ∧ r2 = v4) ∨ (q = nI 5 ∧ r2 = v5) ∨ (q = nI 6 ∧ r2 = v6)) : r2 = r := by
  have key : ∀ (j : Nat), j ≤ 6 → q = nI j → rg 6 q := fun j hj e => ⟨j, hj, e⟩
  rcases h1 with ⟨a1, a2⟩ | ⟨a1, a2⟩ | ⟨a1, a2⟩ | ⟨a1, a2⟩ | ⟨a1, a2⟩ | ⟨a1, a2⟩ | ⟨a1, a2⟩ | ⟨a1, a2⟩ <;>
  rcases h2 with ⟨b1, b2⟩ | ⟨b1, b2⟩ | ⟨b1, b2⟩ | ⟨b1, b2⟩ | ⟨b1, b2⟩ | ⟨b1, b2⟩ | ⟨b1, b2⟩ | ⟨b1, b2⟩ <;>
  first
    | exact b2.trans a2.symm
    | exact absurd (key _ (by decide) b1) a1
    | exact absurd (key _ (by decide) a1) b1
    | exact absurd (a1.symm.trans b1) (by decide)
theorem qu_eq {r r2 v : Int32} {A B C : Prop} (hA : A → ¬ (B ∧ C)) (h1 : (r = -1 ∧ A) ∨ (B ∧ C ∧ r = v)) (h2 : (r2 = -1 ∧ A) ∨ (B ∧ C ∧ r2 = v)) : r2 = r := by
  rcases h1 with ⟨a1, a2⟩ | ⟨a1, a2, a3⟩
  · rcases h2 with ⟨b1, b2⟩ | ⟨b1, b2, b3⟩
    · rw [a1, b1]
    · exact absurd ⟨b1, b2⟩ (hA a2)
  · rcases h2 with ⟨b1, b2⟩ | ⟨b1, b2, b3⟩
    · exact absurd ⟨a1, a2⟩ (hA b2)
    · rw [a3, b3]
theorem ktF_eq {i pt r r2 : Int32} {n : Nat} (hn : n ≤ 100000) {V : Nat → Int32} (h1 : (∃ c : Nat, c < n ∧ i = nI c ∧ pt = 0 ∧ r = V c) ∨ (r = -1 ∧ ¬ (ixN n i ∧ pt = 0))) (h2 : (∃ c : Nat, c < n ∧ i = nI c ∧ pt = 0 ∧ r2 = V c) ∨ (r2 = -1 ∧ ¬ (ixN n i ∧ pt = 0))) : r2 = r := by
  rcases h1 with ⟨c, a1, a2, a3, a4⟩ | ⟨a1, a2⟩
  · rcases h2 with ⟨d, b1, b2, b3, b4⟩ | ⟨b1, b2⟩
    · have e := (nI_eq (by omega) (by omega)).mp (a2.symm.trans b2)
      subst e
      rw [a4, b4]
    · exact absurd ⟨⟨c, a1, a2⟩, a3⟩ b2
  · rcases h2 with ⟨d, b1, b2, b3, b4⟩ | ⟨b1, b2⟩
    · exact absurd ⟨⟨d, b1, b2⟩, b3⟩ a2
    · rw [a1, b1]
theorem ktL_eq {i pt r r2 : Int32} {h : Nat} {f u : Nat → Int32} (hn : h ≤ 100000) (H : LsR f h u) (h1 : (∃ c : Nat, c < h ∧ i = nI c ∧ pt = 0 ∧ r = f c) ∨ (r = -1 ∧ ¬ (ixN h i ∧ pt = 0))) (h2 : (∃ kz : Nat, kz < h ∧ i = nI (bfU u kz h) ∧ pt = 0 ∧ r2 = u kz) ∨ (r2 = -1 ∧ ¬ ((∃ j : Nat, j < h ∧ nI (bfU u j h) = i) ∧ pt = 0))) : r2 = r := by
  rcases h1 with ⟨c, a1, a2, a3, a4⟩ | ⟨a1, a2⟩
  · rcases h2 with ⟨d, b1, b2, b3, b4⟩ | ⟨b1, b2⟩
    · obtain ⟨j, hj, e1, e2, _⟩ := rank_ce H.1 H.2.2 b1
      rw [e1] at b2
      have e := (nI_eq (by omega) (by omega)).mp (a2.symm.trans b2)
      subst e
      rw [a4, b4, e2]
    · obtain ⟨kz, hk, e1, _⟩ := rank_ex H.1 H.2.2 a1
      exact absurd ⟨⟨kz, hk, by rw [e1, a2]⟩, a3⟩ b2
  · rcases h2 with ⟨d, b1, b2, b3, b4⟩ | ⟨b1, b2⟩
    · obtain ⟨j, hj, e1, e2, _⟩ := rank_ce H.1 H.2.2 b1
      exact absurd ⟨⟨j, hj, by rw [b2, e1]⟩, b3⟩ a2
    · rw [a1, b1]
theorem ktH_eq {i pt r r2 : Int32} {h mv : Nat} {f g u v : Nat → Int32} (hn : h ≤ 100000) (H : HvR mv f g h u v) (h1 : (∃ c : Nat, c < h ∧ i = nI c ∧ ((pt = 0 ∧ r = f c) ∨ (pt = 1 ∧ r = g c))) ∨ (r = -1 ∧ ¬ (ixN h i ∧ (pt = 0 ∨ pt = 1)))) (h2 : (∃ kz : Nat, kz < h ∧ i = nI (bfU u kz h) ∧ ((pt = 0 ∧ r2 = u kz) ∨ (pt = 1 ∧ r2 = v kz))) ∨ (r2 = -1 ∧ ¬ ((∃ j : Nat, j < h ∧ nI (bfU u j h) = i) ∧ (pt = 0 ∨ pt = 1)))) : r2 = r := by
  have hor : ∀ {A B : Prop} {p : Int32}, (p = 0 ∧ A) ∨ (p = 1 ∧ B) → (p = 0 ∨ p = 1) := fun q => q.elim (fun z => Or.inl z.1) (fun z => Or.inr z.1)
  rcases h1 with ⟨c, a1, a2, a3⟩ | ⟨a1, a2⟩
  · rcases h2 with ⟨d, b1, b2, b3⟩ | ⟨b1, b2⟩
    · obtain ⟨j, hj, e1, e2, e3⟩ := rank_ce H.1 H.2.2.2 b1
      rw [e1] at b2
      have e := (nI_eq (by omega) (by omega)).mp (a2.symm.trans b2)
      subst e
      rcases a3 with ⟨p1, p2⟩ | ⟨p1, p2⟩ <;> rcases b3 with ⟨q1, q2⟩ | ⟨q1, q2⟩
      · rw [p2, q2, e2]
      · exact absurd (p1.symm.trans q1) (by decide)
      · exact absurd (q1.symm.trans p1) (by decide)
      · rw [p2, q2, e3]
    · obtain ⟨kz, hk, e1, _⟩ := rank_ex H.1 H.2.2.2 a1
      exact absurd ⟨⟨kz, hk, by rw [e1, a2]⟩, hor a3⟩ b2
  · rcases h2 with ⟨d, b1, b2, b3⟩ | ⟨b1, b2⟩
    · obtain ⟨j, hj, e1, e2, _⟩ := rank_ce H.1 H.2.2.2 b1
      exact absurd ⟨⟨j, hj, by rw [b2, e1]⟩, hor b3⟩ a2
    · rw [a1, b1]
theorem ktR_eq {i pt r r2 : Int32} {ln : Nat → Nat} {k : Nat} {f : Nat → Int32} (hl : ∀ b, b < 31 → ln b ≤ 100000) (h1 : (r = -1 ∧ ¬ ixN 31 pt) ∨ (∃ b : Nat, b < 31 ∧ pt = nI b ∧ ((r = -1 ∧ ¬ (i = -1 ∨ ixN (ln b) i)) ∨ (i = -1 ∧ r = nI (ln b)) ∨ ∃ c : Nat, c < ln b ∧ i = nI c ∧ r = f (b * k + c)))) (h2 : (r2 = -1 ∧ ¬ ixN 31 pt) ∨ (∃ b : Nat, b < 31 ∧ pt = nI b ∧ ((r2 = -1 ∧ ¬ (i = -1 ∨ ixN (ln b) i)) ∨ (i = -1 ∧ r2 = nI (ln b)) ∨ ∃ c : Nat, c < ln b ∧ i = nI c ∧ r2 = f (b * k + c)))) : r2 = r := by
  have hm : ∀ c : Nat, c < 100000 → ¬ nI c = -1 := fun c hc q => by
    have := congrArg Int32.toInt q
    rw [nI_toInt (by omega), show (-1 : Int32).toInt = -1 from by decide] at this
    omega
  rcases h1 with ⟨a1, a2⟩ | ⟨b, hb, a1, a2⟩
  · rcases h2 with ⟨b1, b2⟩ | ⟨c, hc, b1, b2⟩
    · rw [a1, b1]
    · exact absurd ⟨c, hc, b1⟩ a2
  · rcases h2 with ⟨b1, b2⟩ | ⟨c, hc, b1, b2⟩
    · exact absurd ⟨b, hb, a1⟩ b2
    · have e := (nI_eq (by omega) (by omega)).mp (a1.symm.trans b1)
      subst e
      have hlb := hl b hb
      rcases a2 with ⟨p1, p2⟩ | ⟨p1, p2⟩ | ⟨x, p1, p2, p3⟩ <;> rcases b2 with ⟨q1, q2⟩ | ⟨q1, q2⟩ | ⟨y, q1, q2, q3⟩
      · rw [p1, q1]
      · exact absurd (Or.inl q1) p2
      · exact absurd (Or.inr ⟨y, q1, q2⟩) p2
      · exact absurd (Or.inl p1) q2
      · rw [p2, q2]
      · exact absurd (q2.symm.trans p1) (hm y (by omega))
      · exact absurd (Or.inr ⟨x, p1, p2⟩) q2
      · exact absurd (p2.symm.trans q1) (hm x (by omega))
      · have e := (nI_eq (by omega) (by omega)).mp (p2.symm.trans q2)
        subst e
        rw [p3, q3]
theorem dk_eq {r r2 : Int32} {h k : Nat} {f u : Nat → Int32} (hk : 2 ≤ k) (hh : h ≤ k) (H : LsR f h u) (h1 : r = dkL f h k) (h2 : r2 = (if h < k then nI h else nI ((k - 1) * 65537) / mxU u h)) : r2 = r := by
  rw [h1, h2]
  unfold dkL
  by_cases q : h < k
  · rw [if_pos q, if_pos q]
  · have hm := LsR.mx H (by omega)
    rw [if_neg q, if_neg q, if_pos hm.2, hm.1]
theorem mx_ne {h k : Nat} {f u : Nat → Int32} (hk : 2 ≤ k) (H : LsR f h u) (e : h = k) : ¬ mxU u h = 0 := by
  have hm := LsR.mx H (by omega)
  rw [hm.1]
  intro z
  rw [z] at hm
  exact absurd hm.2 (by decide)

theorem hash_eq {se j x r r2 : Int32} (h1 : (r = -1 ∧ ¬ (rg 999 se ∧ ixN 4 j ∧ rg 9999 x)) ∨ (∃ sa ja xa : Nat, sa ≤ 999 ∧ ja < 4 ∧ xa ≤ 9999 ∧ se = nI sa ∧ j = nI ja ∧ x = nI xa ∧ r = nI (hsN sa ja xa))) (h2 : (r2 = -1 ∧ ¬ (rg 999 se ∧ ixN 4 j ∧ rg 9999 x)) ∨ (∃ sa ja xa : Nat, sa ≤ 999 ∧ ja < 4 ∧ xa ≤ 9999 ∧ se = nI sa ∧ j = nI ja ∧ x = nI xa ∧ r2 = nI (hsN sa ja xa))) : r2 = r := by
  rcases h1 with ⟨a1, a2⟩ | ⟨sa, ja, xa, a1, a2, a3, a4, a5, a6, a7⟩
  · rcases h2 with ⟨b1, b2⟩ | ⟨sb, jb, xb, b1, b2, b3, b4, b5, b6, b7⟩
    · rw [a1, b1]
    · exact absurd ⟨⟨sb, b1, b4⟩, ⟨jb, b2, b5⟩, ⟨xb, b3, b6⟩⟩ a2
  · rcases h2 with ⟨b1, b2⟩ | ⟨sb, jb, xb, b1, b2, b3, b4, b5, b6, b7⟩
    · exact absurd ⟨⟨sa, a1, a4⟩, ⟨ja, a2, a5⟩, ⟨xa, a3, a6⟩⟩ b2
    · have e1 := (nI_eq (by omega) (by omega)).mp (a4.symm.trans b4)
      have e2 := (nI_eq (by omega) (by omega)).mp (a5.symm.trans b5)
      have e3 := (nI_eq (by omega) (by omega)).mp (a6.symm.trans b6)
      subst e1 e2 e3
      rw [a7, b7]

set_option maxHeartbeats 2000000 in
theorem O_low (D : va_G) (cI cS : ClassId) (w : mwT) (ox om : Nat) (s x : Int32) (hI : INV cI cS ox om w) : mMi yX6_low cX6_low 4 (some .int) (rmL 8) [.ref ox, .int s, .int x] D cI cS w (fun r w1 => ((∃ vs : List Value, w1 om = some (.inr (6, vs))) ∧ mMi yX7_low cX7_low 4 (some .int) (rmL 8) [.ref om, .int s, .int x] D cI cS w1 (fun r2 w2 => r2 = r ∧ INV cI cS ox om w2))) := by
  obtain ⟨as, md, aso, asi, ase, ato, amo, alo, aro, asr, th, g0, so, si, se, mo, to, lo, ro, sr, tg, hIN⟩ := hI
  have hIN0 := hIN
  obtain ⟨hmd, hox, has, hom, h_aso, h_asi, h_ase, h_ato, h_amo, h_alo, h_aro, h_asr, t_ox, t_as, t_om, t_aso, t_asi, t_ase, t_ato, t_amo, t_alo, t_aro, t_asr, hS⟩ := hIN
  by_cases hs : ixN md s
  · obtain ⟨a, ha, rfl⟩ := hs
    obtain ⟨h0, hg, hk⟩ := hS a ha
    rcases hk with H | H | H | H | H
    · obtain ⟨ak, an, k, sd, h, mv, tot, f, g, u, vn, hh, h_ak, h_an, t_h0, t_ak, t_an, hs0, hk1, hk2, hmv, hso, hsi, hse, hto, hmo, hh2, hv, hvn, hR⟩ := H
      refine (c_X6_low_H D cI cS w ox as md a g0 h0 ak an k sd h mv tot (lo a) f g x hox has hh h_ak h_an hmd ha hg hs0 hk1 hk2 hh2 (tne t_ak t_an (by omega))).mono (fun r w1 z1 => ?_)
      obtain ⟨q1, rfl⟩ := z1
      refine ⟨⟨_, by assumption⟩, (c_X7_low_H D cI cS w1 om md aso asi ase ato amo alo aro asr th so si se to mo lo ro a h k sd mv tot u (lnF vn) x hom h_aso h_asi h_ase h_ato h_amo h_alo h_aro hmd ha hs0 hso hsi hse hto hmo hk1 hk2 hh2 hv).mono (fun r2 w2 z2 => ?_)⟩
      obtain ⟨q2, y1, y2⟩ := z2
      exact ⟨key_eq q1 q2 (fun xa _ => HvR.al hR (nI xa)), hIN0.rd y1 y2⟩
    · obtain ⟨ab, c, sd, mv, tot, f, hh, h_ab, t_h0, t_ab, hs0, hc1, hc2, hmv, hso, hsi, hse, hto, hmo, hlo, hv, hB⟩ := H
      refine (c_X6_low_T D cI cS w ox as md a g0 h0 ab c sd mv tot f x hox has hh h_ab hmd ha hg hs0 hc1 hc2).mono (fun r w1 z1 => ?_)
      obtain ⟨q1, rfl⟩ := z1
      refine ⟨⟨_, by assumption⟩, (c_X7_low_T D cI cS w1 om md aso asi ase ato amo alo aro asr th so si se to mo lo ro a c sd mv tot f x hom h_aso h_asi h_ase h_ato h_amo h_alo h_aro hmd ha hs0 hso hsi hse hto hmo hc1 hc2 hv hlo).mono (fun r2 w2 z2 => ?_)⟩
      obtain ⟨q2, y1, y2⟩ := z2
      exact ⟨key_m1 q1 q2, hIN0.rd y1 y2⟩
    · obtain ⟨ab, b, sd, mv, tot, f, hh, h_ab, t_h0, t_ab, hs0, hb1, hb2, hmv, hso, hsi, hse, hto, hmo, hlo, hv⟩ := H
      refine (c_X6_low_F D cI cS w ox as md a g0 h0 ab b sd mv tot f x hox has hh h_ab hmd ha hg hs0 hb1 hb2).mono (fun r w1 z1 => ?_)
      obtain ⟨q1, rfl⟩ := z1
      refine ⟨⟨_, by assumption⟩, (c_X7_low_F D cI cS w1 om md aso asi ase ato amo alo aro asr th so si se to mo lo ro a b sd mv tot f x hom h_aso h_asi h_ase h_ato h_amo h_alo h_aro hmd ha hs0 hso hsi hse hto hmo hb1 hb2 hv hlo).mono (fun r2 w2 z2 => ?_)⟩
      obtain ⟨q2, y1, y2⟩ := z2
      exact ⟨key_m1 q1 q2, hIN0.rd y1 y2⟩
    · obtain ⟨ab, k, sd, h, mv, tot, f, u, hh, h_ab, t_h0, t_ab, hs0, hk1, hk2, hmv, hso, hsi, hse, hto, hmo, hlo, hh2, hl, hR⟩ := H
      refine (c_X6_low_L D cI cS w ox as md a g0 h0 ab k sd h mv tot f x hox has hh h_ab hmd ha hg hs0 hk1 hk2 hh2).mono (fun r w1 z1 => ?_)
      obtain ⟨q1, rfl⟩ := z1
      refine ⟨⟨_, by assumption⟩, (c_X7_low_L D cI cS w1 om md aso asi ase ato amo alo aro asr th so si se to mo lo ro a h k sd mv tot u x hom h_aso h_asi h_ase h_ato h_amo h_alo h_aro hmd ha hs0 hso hsi hse hto hmo hk1 hk2 hh2 hl hlo).mono (fun r2 w2 z2 => ?_)⟩
      obtain ⟨q2, y1, y2⟩ := z2
      exact ⟨key_m1 q1 q2, hIN0.rd y1 y2⟩
    · obtain ⟨ak, al, aw, k, sd, mv, e, tot, er, f, ln, tr, hh, h_ak, h_al, h_aw, t_h0, t_ak, t_al, t_aw, hs0, hke, he, hk2, hmv, hso, hsi, hse, hto, hmo, hlo, hok, hln, hr, hwt⟩ := H
      refine (c_X6_low_R D cI cS w ox as md a g0 h0 ak al aw k sd mv tot er f ln tr x hox has hh h_ak h_al h_aw hmd ha hg hs0 (by omega) hk2 (tne t_ak t_al (by omega)) (tne t_ak t_aw (by omega)) (tne t_al t_aw (by omega)) hok).mono (fun r w1 z1 => ?_)
      obtain ⟨q1, rfl⟩ := z1
      refine ⟨⟨_, by assumption⟩, (c_X7_low_R D cI cS w1 om md aso asi ase ato amo alo aro asr th so si se to mo lo ro a k sd mv tot er f ln tr x hom h_aso h_asi h_ase h_ato h_amo h_alo h_aro hmd ha hs0 hso hsi hse hto hmo (by omega) hk2 hln hr hlo).mono (fun r2 w2 z2 => ?_)⟩
      obtain ⟨q2, y1, y2⟩ := z2
      exact ⟨key_eq q1 q2 (fun xa _ => lo_same _), hIN0.rd y1 y2⟩
  · refine (c_X6_low_no D cI cS w ox as md g0 s x hox has hmd hs).mono (fun r w1 z1 => ?_)
    obtain ⟨q1, rfl⟩ := z1
    refine ⟨⟨_, by assumption⟩, (c_X7_low_no D cI cS w1 om md aso asi ase ato amo alo aro asr th so s x hom h_aso hmd hs).mono (fun r2 w2 z2 => ?_)⟩
    obtain ⟨q2, y1, y2⟩ := z2
    exact ⟨q2.trans q1.symm, hIN0.rd y1 y2⟩

set_option maxHeartbeats 2000000 in
theorem O_high (D : va_G) (cI cS : ClassId) (w : mwT) (ox om : Nat) (s x : Int32) (hI : INV cI cS ox om w) : mMi yX6_high cX6_high 4 (some .int) (rmL 8) [.ref ox, .int s, .int x] D cI cS w (fun r w1 => ((∃ vs : List Value, w1 om = some (.inr (6, vs))) ∧ mMi yX7_high cX7_high 5 (some .int) (rmL 8) [.ref om, .int s, .int x] D cI cS w1 (fun r2 w2 => r2 = r ∧ INV cI cS ox om w2))) := by
  obtain ⟨as, md, aso, asi, ase, ato, amo, alo, aro, asr, th, g0, so, si, se, mo, to, lo, ro, sr, tg, hIN⟩ := hI
  have hIN0 := hIN
  obtain ⟨hmd, hox, has, hom, h_aso, h_asi, h_ase, h_ato, h_amo, h_alo, h_aro, h_asr, t_ox, t_as, t_om, t_aso, t_asi, t_ase, t_ato, t_amo, t_alo, t_aro, t_asr, hS⟩ := hIN
  by_cases hs : ixN md s
  · obtain ⟨a, ha, rfl⟩ := hs
    obtain ⟨h0, hg, hk⟩ := hS a ha
    rcases hk with H | H | H | H | H
    · obtain ⟨ak, an, k, sd, h, mv, tot, f, g, u, vn, hh, h_ak, h_an, t_h0, t_ak, t_an, hs0, hk1, hk2, hmv, hso, hsi, hse, hto, hmo, hh2, hv, hvn, hR⟩ := H
      refine (c_X6_high_H D cI cS w ox as md a g0 h0 ak an k sd h mv tot (lo a) f g x hox has hh h_ak h_an hmd ha hg hs0 hk1 hk2 hh2 (tne t_ak t_an (by omega))).mono (fun r w1 z1 => ?_)
      obtain ⟨q1, rfl⟩ := z1
      refine ⟨⟨_, by assumption⟩, (c_X7_high_H D cI cS w1 om md aso asi ase ato amo alo aro asr th so si se to mo lo ro a h k sd mv tot u (lnF vn) x hom h_aso h_asi h_ase h_ato h_amo h_alo h_aro hmd ha hs0 hso hsi hse hto hmo hk1 hk2 hh2 hv).mono (fun r2 w2 z2 => ?_)⟩
      obtain ⟨q2, y1, y2⟩ := z2
      exact ⟨key_eq q1 q2 (fun xa _ => by rw [HvR.al hR (nI xa)]), hIN0.rd y1 y2⟩
    · obtain ⟨ab, c, sd, mv, tot, f, hh, h_ab, t_h0, t_ab, hs0, hc1, hc2, hmv, hso, hsi, hse, hto, hmo, hlo, hv, hB⟩ := H
      refine (c_X6_high_T D cI cS w ox as md a g0 h0 ab c sd mv tot f x hox has hh h_ab hmd ha hg hs0 hc1 hc2).mono (fun r w1 z1 => ?_)
      obtain ⟨q1, rfl⟩ := z1
      refine ⟨⟨_, by assumption⟩, (c_X7_high_T D cI cS w1 om md aso asi ase ato amo alo aro asr th so si se to mo lo ro a c sd mv tot f x hom h_aso h_asi h_ase h_ato h_amo h_alo h_aro hmd ha hs0 hso hsi hse hto hmo hc1 hc2 hv hlo).mono (fun r2 w2 z2 => ?_)⟩
      obtain ⟨q2, y1, y2⟩ := z2
      exact ⟨key_eq q1 q2 (fun xa _ => mnT_1 (by omega) hmv hB 3 (by omega)), hIN0.rd y1 y2⟩
    · obtain ⟨ab, b, sd, mv, tot, f, hh, h_ab, t_h0, t_ab, hs0, hb1, hb2, hmv, hso, hsi, hse, hto, hmo, hlo, hv⟩ := H
      refine (c_X6_high_F D cI cS w ox as md a g0 h0 ab b sd mv tot f x hox has hh h_ab hmd ha hg hs0 hb1 hb2).mono (fun r w1 z1 => ?_)
      obtain ⟨q1, rfl⟩ := z1
      refine ⟨⟨_, by assumption⟩, (c_X7_high_F D cI cS w1 om md aso asi ase ato amo alo aro asr th so si se to mo lo ro a b sd mv tot f x hom h_aso h_asi h_ase h_ato h_amo h_alo h_aro hmd ha hs0 hso hsi hse hto hmo hb1 hb2 hv hlo).mono (fun r2 w2 z2 => ?_)⟩
      obtain ⟨q2, y1, y2⟩ := z2
      exact ⟨key_m1 q1 q2, hIN0.rd y1 y2⟩
    · obtain ⟨ab, k, sd, h, mv, tot, f, u, hh, h_ab, t_h0, t_ab, hs0, hk1, hk2, hmv, hso, hsi, hse, hto, hmo, hlo, hh2, hl, hR⟩ := H
      refine (c_X6_high_L D cI cS w ox as md a g0 h0 ab k sd h mv tot f x hox has hh h_ab hmd ha hg hs0 hk1 hk2 hh2).mono (fun r w1 z1 => ?_)
      obtain ⟨q1, rfl⟩ := z1
      refine ⟨⟨_, by assumption⟩, (c_X7_high_L D cI cS w1 om md aso asi ase ato amo alo aro asr th so si se to mo lo ro a h k sd mv tot u x hom h_aso h_asi h_ase h_ato h_amo h_alo h_aro hmd ha hs0 hso hsi hse hto hmo hk1 hk2 hh2 hl hlo).mono (fun r2 w2 z2 => ?_)⟩
      obtain ⟨q2, y1, y2⟩ := z2
      exact ⟨key_m1 q1 q2, hIN0.rd y1 y2⟩
    · obtain ⟨ak, al, aw, k, sd, mv, e, tot, er, f, ln, tr, hh, h_ak, h_al, h_aw, t_h0, t_ak, t_al, t_aw, hs0, hke, he, hk2, hmv, hso, hsi, hse, hto, hmo, hlo, hok, hln, hr, hwt⟩ := H
      refine (c_X6_high_R D cI cS w ox as md a g0 h0 ak al aw k sd mv tot er f ln tr x hox has hh h_ak h_al h_aw hmd ha hg hs0 (by omega) hk2 (tne t_ak t_al (by omega)) (tne t_ak t_aw (by omega)) (tne t_al t_aw (by omega)) hok).mono (fun r w1 z1 => ?_)
      obtain ⟨q1, rfl⟩ := z1
      refine ⟨⟨_, by assumption⟩, (c_X7_high_R D cI cS w1 om md aso asi ase ato amo alo aro asr th so si se to mo lo ro a k sd mv tot er f ln tr x hom h_aso h_asi h_ase h_ato h_amo h_alo h_aro hmd ha hs0 hso hsi hse hto hmo (by omega) hk2 hln hr hlo).mono (fun r2 w2 z2 => ?_)⟩
      obtain ⟨q2, y1, y2⟩ := z2
      exact ⟨key_eq q1 q2 (fun xa _ => hi_same _ _), hIN0.rd y1 y2⟩
  · refine (c_X6_high_no D cI cS w ox as md g0 s x hox has hmd hs).mono (fun r w1 z1 => ?_)
    obtain ⟨q1, rfl⟩ := z1
    refine ⟨⟨_, by assumption⟩, (c_X7_high_no D cI cS w1 om md aso asi ase ato amo alo aro asr th so s x hom h_aso hmd hs).mono (fun r2 w2 z2 => ?_)⟩
    obtain ⟨q2, y1, y2⟩ := z2
    exact ⟨q2.trans q1.symm, hIN0.rd y1 y2⟩

set_option maxHeartbeats 2000000 in
theorem O_has (D : va_G) (cI cS : ClassId) (w : mwT) (ox om : Nat) (s x : Int32) (hI : INV cI cS ox om w) : mMi yX6_has cX6_has 4 (some .int) (rmL 8) [.ref ox, .int s, .int x] D cI cS w (fun r w1 => ((∃ vs : List Value, w1 om = some (.inr (6, vs))) ∧ mMi yX7_has cX7_has 6 (some .int) (rmL 8) [.ref om, .int s, .int x] D cI cS w1 (fun r2 w2 => r2 = r ∧ INV cI cS ox om w2))) := by
  obtain ⟨as, md, aso, asi, ase, ato, amo, alo, aro, asr, th, g0, so, si, se, mo, to, lo, ro, sr, tg, hIN⟩ := hI
  have hIN0 := hIN
  obtain ⟨hmd, hox, has, hom, h_aso, h_asi, h_ase, h_ato, h_amo, h_alo, h_aro, h_asr, t_ox, t_as, t_om, t_aso, t_asi, t_ase, t_ato, t_amo, t_alo, t_aro, t_asr, hS⟩ := hIN
  by_cases hs : ixN md s
  · obtain ⟨a, ha, rfl⟩ := hs
    obtain ⟨h0, hg, hk⟩ := hS a ha
    rcases hk with H | H | H | H | H
    · obtain ⟨ak, an, k, sd, h, mv, tot, f, g, u, vn, hh, h_ak, h_an, t_h0, t_ak, t_an, hs0, hk1, hk2, hmv, hso, hsi, hse, hto, hmo, hh2, hv, hvn, hR⟩ := H
      refine (c_X6_has_H D cI cS w ox as md a g0 h0 ak an k sd h mv tot (lo a) f g x hox has hh h_ak h_an hmd ha hg hs0 hk1 hk2 hh2 (tne t_ak t_an (by omega))).mono (fun r w1 z1 => ?_)
      obtain ⟨q1, rfl⟩ := z1
      refine ⟨⟨_, by assumption⟩, (c_X7_has_H D cI cS w1 om md aso asi ase ato amo alo aro asr th so si se to mo lo ro a h k sd mv tot u (lnF vn) x hom h_aso h_asi h_ase h_ato h_amo h_alo h_aro hmd ha hs0 hso hsi hse hto hmo hk1 hk2 hh2 hv).mono (fun r2 w2 z2 => ?_)⟩
      obtain ⟨q2, y1, y2⟩ := z2
      exact ⟨key_m1 q1 q2, hIN0.rd y1 y2⟩
    · obtain ⟨ab, c, sd, mv, tot, f, hh, h_ab, t_h0, t_ab, hs0, hc1, hc2, hmv, hso, hsi, hse, hto, hmo, hlo, hv, hB⟩ := H
      refine (c_X6_has_T D cI cS w ox as md a g0 h0 ab c sd mv tot f x hox has hh h_ab hmd ha hg hs0 hc1 hc2).mono (fun r w1 z1 => ?_)
      obtain ⟨q1, rfl⟩ := z1
      refine ⟨⟨_, by assumption⟩, (c_X7_has_T D cI cS w1 om md aso asi ase ato amo alo aro asr th so si se to mo lo ro a c sd mv tot f x hom h_aso h_asi h_ase h_ato h_amo h_alo h_aro hmd ha hs0 hso hsi hse hto hmo hc1 hc2 hv hlo).mono (fun r2 w2 z2 => ?_)⟩
      obtain ⟨q2, y1, y2⟩ := z2
      exact ⟨key_m1 q1 q2, hIN0.rd y1 y2⟩
    · obtain ⟨ab, b, sd, mv, tot, f, hh, h_ab, t_h0, t_ab, hs0, hb1, hb2, hmv, hso, hsi, hse, hto, hmo, hlo, hv⟩ := H
      refine (c_X6_has_F D cI cS w ox as md a g0 h0 ab b sd mv tot f x hox has hh h_ab hmd ha hg hs0 hb1 hb2).mono (fun r w1 z1 => ?_)
      obtain ⟨q1, rfl⟩ := z1
      refine ⟨⟨_, by assumption⟩, (c_X7_has_F D cI cS w1 om md aso asi ase ato amo alo aro asr th so si se to mo lo ro a b sd mv tot f x hom h_aso h_asi h_ase h_ato h_amo h_alo h_aro hmd ha hs0 hso hsi hse hto hmo hb1 hb2 hv hlo).mono (fun r2 w2 z2 => ?_)⟩
      obtain ⟨q2, y1, y2⟩ := z2
      exact ⟨key_eq q1 q2 (fun xa _ => rfl), hIN0.rd y1 y2⟩
    · obtain ⟨ab, k, sd, h, mv, tot, f, u, hh, h_ab, t_h0, t_ab, hs0, hk1, hk2, hmv, hso, hsi, hse, hto, hmo, hlo, hh2, hl, hR⟩ := H
      refine (c_X6_has_L D cI cS w ox as md a g0 h0 ab k sd h mv tot f x hox has hh h_ab hmd ha hg hs0 hk1 hk2 hh2).mono (fun r w1 z1 => ?_)
      obtain ⟨q1, rfl⟩ := z1
      refine ⟨⟨_, by assumption⟩, (c_X7_has_L D cI cS w1 om md aso asi ase ato amo alo aro asr th so si se to mo lo ro a h k sd mv tot u x hom h_aso h_asi h_ase h_ato h_amo h_alo h_aro hmd ha hs0 hso hsi hse hto hmo hk1 hk2 hh2 hl hlo).mono (fun r2 w2 z2 => ?_)⟩
      obtain ⟨q2, y1, y2⟩ := z2
      exact ⟨key_has hR q1 q2, hIN0.rd y1 y2⟩
    · obtain ⟨ak, al, aw, k, sd, mv, e, tot, er, f, ln, tr, hh, h_ak, h_al, h_aw, t_h0, t_ak, t_al, t_aw, hs0, hke, he, hk2, hmv, hso, hsi, hse, hto, hmo, hlo, hok, hln, hr, hwt⟩ := H
      refine (c_X6_has_R D cI cS w ox as md a g0 h0 ak al aw k sd mv tot er f ln tr x hox has hh h_ak h_al h_aw hmd ha hg hs0 (by omega) hk2 (tne t_ak t_al (by omega)) (tne t_ak t_aw (by omega)) (tne t_al t_aw (by omega)) hok).mono (fun r w1 z1 => ?_)
      obtain ⟨q1, rfl⟩ := z1
      refine ⟨⟨_, by assumption⟩, (c_X7_has_R D cI cS w1 om md aso asi ase ato amo alo aro asr th so si se to mo lo ro a k sd mv tot er f ln tr x hom h_aso h_asi h_ase h_ato h_amo h_alo h_aro hmd ha hs0 hso hsi hse hto hmo (by omega) hk2 hln hr hlo).mono (fun r2 w2 z2 => ?_)⟩
      obtain ⟨q2, y1, y2⟩ := z2
      exact ⟨key_m1 q1 q2, hIN0.rd y1 y2⟩
  · refine (c_X6_has_no D cI cS w ox as md g0 s x hox has hmd hs).mono (fun r w1 z1 => ?_)
    obtain ⟨q1, rfl⟩ := z1
    refine ⟨⟨_, by assumption⟩, (c_X7_has_no D cI cS w1 om md aso asi ase ato amo alo aro asr th so s x hom h_aso hmd hs).mono (fun r2 w2 z2 => ?_)⟩
    obtain ⟨q2, y1, y2⟩ := z2
    exact ⟨q2.trans q1.symm, hIN0.rd y1 y2⟩

set_option maxHeartbeats 2000000 in
theorem O_distinct (D : va_G) (cI cS : ClassId) (w : mwT) (ox om : Nat) (s : Int32) (hI : INV cI cS ox om w) : mMi yX6_distinct cX6_distinct 3 (some .int) (rmL 8) [.ref ox, .int s] D cI cS w (fun r w1 => ((∃ vs : List Value, w1 om = some (.inr (6, vs))) ∧ mMi yX7_distinct cX7_distinct 4 (some .int) (rmL 8) [.ref om, .int s] D cI cS w1 (fun r2 w2 => r2 = r ∧ INV cI cS ox om w2))) := by
  obtain ⟨as, md, aso, asi, ase, ato, amo, alo, aro, asr, th, g0, so, si, se, mo, to, lo, ro, sr, tg, hIN⟩ := hI
  have hIN0 := hIN
  obtain ⟨hmd, hox, has, hom, h_aso, h_asi, h_ase, h_ato, h_amo, h_alo, h_aro, h_asr, t_ox, t_as, t_om, t_aso, t_asi, t_ase, t_ato, t_amo, t_alo, t_aro, t_asr, hS⟩ := hIN
  by_cases hs : ixN md s
  · obtain ⟨a, ha, rfl⟩ := hs
    obtain ⟨h0, hg, hk⟩ := hS a ha
    rcases hk with H | H | H | H | H
    · obtain ⟨ak, an, k, sd, h, mv, tot, f, g, u, vn, hh, h_ak, h_an, t_h0, t_ak, t_an, hs0, hk1, hk2, hmv, hso, hsi, hse, hto, hmo, hh2, hv, hvn, hR⟩ := H
      refine (c_X6_distinct_H D cI cS w ox as md a g0 h0 ak an k sd h mv tot (lo a) f g  hox has hh h_ak h_an hmd ha hg hs0 hk1 hk2 hh2 (tne t_ak t_an (by omega))).mono (fun r w1 z1 => ?_)
      obtain ⟨q1, rfl⟩ := z1
      refine ⟨⟨_, by assumption⟩, (c_X7_distinct_H D cI cS w1 om md aso asi ase ato amo alo aro asr th so si se to mo lo ro a h k sd mv tot u (lnF vn)  hom h_aso h_asi h_ase h_ato h_amo h_alo h_aro hmd ha hs0 hso hsi hse hto hmo hk1 hk2 hh2 hv).mono (fun r2 w2 z2 => ?_)⟩
      obtain ⟨q2, y1, y2⟩ := z2
      exact ⟨q2.trans q1.symm, hIN0.rd y1 y2⟩
    · obtain ⟨ab, c, sd, mv, tot, f, hh, h_ab, t_h0, t_ab, hs0, hc1, hc2, hmv, hso, hsi, hse, hto, hmo, hlo, hv, hB⟩ := H
      refine (c_X6_distinct_T D cI cS w ox as md a g0 h0 ab c sd mv tot f  hox has hh h_ab hmd ha hg hs0 hc1 hc2).mono (fun r w1 z1 => ?_)
      obtain ⟨q1, rfl⟩ := z1
      refine ⟨⟨_, by assumption⟩, (c_X7_distinct_T D cI cS w1 om md aso asi ase ato amo alo aro asr th so si se to mo lo ro a c sd mv tot f  hom h_aso h_asi h_ase h_ato h_amo h_alo h_aro hmd ha hs0 hso hsi hse hto hmo hc1 hc2 hv hlo).mono (fun r2 w2 z2 => ?_)⟩
      obtain ⟨q2, y1, y2⟩ := z2
      exact ⟨q2.trans q1.symm, hIN0.rd y1 y2⟩
    · obtain ⟨ab, b, sd, mv, tot, f, hh, h_ab, t_h0, t_ab, hs0, hb1, hb2, hmv, hso, hsi, hse, hto, hmo, hlo, hv⟩ := H
      refine (c_X6_distinct_F D cI cS w ox as md a g0 h0 ab b sd mv tot f  hox has hh h_ab hmd ha hg hs0 hb1 hb2).mono (fun r w1 z1 => ?_)
      obtain ⟨q1, rfl⟩ := z1
      refine ⟨⟨_, by assumption⟩, (c_X7_distinct_F D cI cS w1 om md aso asi ase ato amo alo aro asr th so si se to mo lo ro a b sd mv tot f  hom h_aso h_asi h_ase h_ato h_amo h_alo h_aro hmd ha hs0 hso hsi hse hto hmo hb1 hb2 hv hlo).mono (fun r2 w2 z2 => ?_)⟩
      obtain ⟨q2, y1, y2⟩ := z2
      exact ⟨q2.trans q1.symm, hIN0.rd y1 y2⟩
    · obtain ⟨ab, k, sd, h, mv, tot, f, u, hh, h_ab, t_h0, t_ab, hs0, hk1, hk2, hmv, hso, hsi, hse, hto, hmo, hlo, hh2, hl, hR⟩ := H
      refine (c_X6_distinct_L D cI cS w ox as md a g0 h0 ab k sd h mv tot f  hox has hh h_ab hmd ha hg hs0 hk1 hk2 hh2).mono (fun r w1 z1 => ?_)
      obtain ⟨q1, rfl⟩ := z1
      refine ⟨⟨_, by assumption⟩, (c_X7_distinct_L D cI cS w1 om md aso asi ase ato amo alo aro asr th so si se to mo lo ro a h k sd mv tot u  hom h_aso h_asi h_ase h_ato h_amo h_alo h_aro hmd ha hs0 hso hsi hse hto hmo hk1 hk2 hh2 hl hlo (mx_ne hk1 hR)).mono (fun r2 w2 z2 => ?_)⟩
      obtain ⟨q2, y1, y2⟩ := z2
      exact ⟨dk_eq hk1 hh2 hR q1 q2, hIN0.rd y1 y2⟩
    · obtain ⟨ak, al, aw, k, sd, mv, e, tot, er, f, ln, tr, hh, h_ak, h_al, h_aw, t_h0, t_ak, t_al, t_aw, hs0, hke, he, hk2, hmv, hso, hsi, hse, hto, hmo, hlo, hok, hln, hr, hwt⟩ := H
      refine (c_X6_distinct_R D cI cS w ox as md a g0 h0 ak al aw k sd mv tot er f ln tr  hox has hh h_ak h_al h_aw hmd ha hg hs0 (by omega) hk2 (tne t_ak t_al (by omega)) (tne t_ak t_aw (by omega)) (tne t_al t_aw (by omega)) hok).mono (fun r w1 z1 => ?_)
      obtain ⟨q1, rfl⟩ := z1
      refine ⟨⟨_, by assumption⟩, (c_X7_distinct_R D cI cS w1 om md aso asi ase ato amo alo aro asr th so si se to mo lo ro a k sd mv tot er f ln tr  hom h_aso h_asi h_ase h_ato h_amo h_alo h_aro hmd ha hs0 hso hsi hse hto hmo (by omega) hk2 hln hr hlo).mono (fun r2 w2 z2 => ?_)⟩
      obtain ⟨q2, y1, y2⟩ := z2
      exact ⟨q2.trans q1.symm, hIN0.rd y1 y2⟩
  · refine (c_X6_distinct_no D cI cS w ox as md g0 s  hox has hmd hs).mono (fun r w1 z1 => ?_)
    obtain ⟨q1, rfl⟩ := z1
    refine ⟨⟨_, by assumption⟩, (c_X7_distinct_no D cI cS w1 om md aso asi ase ato amo alo aro asr th so s  hom h_aso hmd hs).mono (fun r2 w2 z2 => ?_)⟩
    obtain ⟨q2, y1, y2⟩ := z2
    exact ⟨q2.trans q1.symm, hIN0.rd y1 y2⟩

set_option maxHeartbeats 2000000 in
theorem O_quantile (D : va_G) (cI cS : ClassId) (w : mwT) (ox om : Nat) (s q : Int32) (hI : INV cI cS ox om w) : mMi yX6_quantile cX6_quantile 4 (some .int) (rmL 8) [.ref ox, .int s, .int q] D cI cS w (fun r w1 => ((∃ vs : List Value, w1 om = some (.inr (6, vs))) ∧ mMi yX7_quantile cX7_quantile 6 (some .int) (rmL 8) [.ref om, .int s, .int q] D cI cS w1 (fun r2 w2 => r2 = r ∧ INV cI cS ox om w2))) := by
  obtain ⟨as, md, aso, asi, ase, ato, amo, alo, aro, asr, th, g0, so, si, se, mo, to, lo, ro, sr, tg, hIN⟩ := hI
  have hIN0 := hIN
  obtain ⟨hmd, hox, has, hom, h_aso, h_asi, h_ase, h_ato, h_amo, h_alo, h_aro, h_asr, t_ox, t_as, t_om, t_aso, t_asi, t_ase, t_ato, t_amo, t_alo, t_aro, t_asr, hS⟩ := hIN
  by_cases hs : ixN md s
  · obtain ⟨a, ha, rfl⟩ := hs
    obtain ⟨h0, hg, hk⟩ := hS a ha
    rcases hk with H | H | H | H | H
    · obtain ⟨ak, an, k, sd, h, mv, tot, f, g, u, vn, hh, h_ak, h_an, t_h0, t_ak, t_an, hs0, hk1, hk2, hmv, hso, hsi, hse, hto, hmo, hh2, hv, hvn, hR⟩ := H
      refine (c_X6_quantile_H D cI cS w ox as md a g0 h0 ak an k sd h mv tot (lo a) f g q hox has hh h_ak h_an hmd ha hg hs0 hk1 hk2 hh2 (tne t_ak t_an (by omega))).mono (fun r w1 z1 => ?_)
      obtain ⟨q1, rfl⟩ := z1
      refine ⟨⟨_, by assumption⟩, (c_X7_quantile_H D cI cS w1 om md aso asi ase ato amo alo aro asr th so si se to mo lo ro a h k sd mv tot u (lnF vn) q hom h_aso h_asi h_ase h_ato h_amo h_alo h_aro hmd ha hs0 hso hsi hse hto hmo hk1 hk2 hh2 hv).mono (fun r2 w2 z2 => ?_)⟩
      obtain ⟨q2, y1, y2⟩ := z2
      exact ⟨q2.trans q1.symm, hIN0.rd y1 y2⟩
    · obtain ⟨ab, c, sd, mv, tot, f, hh, h_ab, t_h0, t_ab, hs0, hc1, hc2, hmv, hso, hsi, hse, hto, hmo, hlo, hv, hB⟩ := H
      refine (c_X6_quantile_T D cI cS w ox as md a g0 h0 ab c sd mv tot f q hox has hh h_ab hmd ha hg hs0 hc1 hc2).mono (fun r w1 z1 => ?_)
      obtain ⟨q1, rfl⟩ := z1
      refine ⟨⟨_, by assumption⟩, (c_X7_quantile_T D cI cS w1 om md aso asi ase ato amo alo aro asr th so si se to mo lo ro a c sd mv tot f q hom h_aso h_asi h_ase h_ato h_amo h_alo h_aro hmd ha hs0 hso hsi hse hto hmo hc1 hc2 hv hlo).mono (fun r2 w2 z2 => ?_)⟩
      obtain ⟨q2, y1, y2⟩ := z2
      exact ⟨q2.trans q1.symm, hIN0.rd y1 y2⟩
    · obtain ⟨ab, b, sd, mv, tot, f, hh, h_ab, t_h0, t_ab, hs0, hb1, hb2, hmv, hso, hsi, hse, hto, hmo, hlo, hv⟩ := H
      refine (c_X6_quantile_F D cI cS w ox as md a g0 h0 ab b sd mv tot f q hox has hh h_ab hmd ha hg hs0 hb1 hb2).mono (fun r w1 z1 => ?_)
      obtain ⟨q1, rfl⟩ := z1
      refine ⟨⟨_, by assumption⟩, (c_X7_quantile_F D cI cS w1 om md aso asi ase ato amo alo aro asr th so si se to mo lo ro a b sd mv tot f q hom h_aso h_asi h_ase h_ato h_amo h_alo h_aro hmd ha hs0 hso hsi hse hto hmo hb1 hb2 hv hlo).mono (fun r2 w2 z2 => ?_)⟩
      obtain ⟨q2, y1, y2⟩ := z2
      exact ⟨q2.trans q1.symm, hIN0.rd y1 y2⟩
    · obtain ⟨ab, k, sd, h, mv, tot, f, u, hh, h_ab, t_h0, t_ab, hs0, hk1, hk2, hmv, hso, hsi, hse, hto, hmo, hlo, hh2, hl, hR⟩ := H
      refine (c_X6_quantile_L D cI cS w ox as md a g0 h0 ab k sd h mv tot f q hox has hh h_ab hmd ha hg hs0 hk1 hk2 hh2).mono (fun r w1 z1 => ?_)
      obtain ⟨q1, rfl⟩ := z1
      refine ⟨⟨_, by assumption⟩, (c_X7_quantile_L D cI cS w1 om md aso asi ase ato amo alo aro asr th so si se to mo lo ro a h k sd mv tot u q hom h_aso h_asi h_ase h_ato h_amo h_alo h_aro hmd ha hs0 hso hsi hse hto hmo hk1 hk2 hh2 hl hlo).mono (fun r2 w2 z2 => ?_)⟩
      obtain ⟨q2, y1, y2⟩ := z2
      exact ⟨q2.trans q1.symm, hIN0.rd y1 y2⟩
    · obtain ⟨ak, al, aw, k, sd, mv, e, tot, er, f, ln, tr, hh, h_ak, h_al, h_aw, t_h0, t_ak, t_al, t_aw, hs0, hke, he, hk2, hmv, hso, hsi, hse, hto, hmo, hlo, hok, hln, hr, hwt⟩ := H
      refine (c_X6_quantile_R D cI cS w ox as md a g0 h0 ak al aw k sd mv tot er f ln tr q hox has hh h_ak h_al h_aw hmd ha hg hs0 (by omega) hk2 (tne t_ak t_al (by omega)) (tne t_ak t_aw (by omega)) (tne t_al t_aw (by omega)) hok).mono (fun r w1 z1 => ?_)
      obtain ⟨q1, rfl⟩ := z1
      refine ⟨⟨_, by assumption⟩, (c_X7_quantile_R D cI cS w1 om md aso asi ase ato amo alo aro asr th so si se to mo lo ro a k sd mv tot er f ln tr q hom h_aso h_asi h_ase h_ato h_amo h_alo h_aro hmd ha hs0 hso hsi hse hto hmo (by omega) hk2 hln hr hlo).mono (fun r2 w2 z2 => ?_)⟩
      obtain ⟨q2, y1, y2⟩ := z2
      exact ⟨qu_eq (fun z y => z.elim (fun z => y.1 z) (fun z => z y.2)) q1 q2, hIN0.rd y1 y2⟩
  · refine (c_X6_quantile_no D cI cS w ox as md g0 s q hox has hmd hs).mono (fun r w1 z1 => ?_)
    obtain ⟨q1, rfl⟩ := z1
    refine ⟨⟨_, by assumption⟩, (c_X7_quantile_no D cI cS w1 om md aso asi ase ato amo alo aro asr th so s q hom h_aso hmd hs).mono (fun r2 w2 z2 => ?_)⟩
    obtain ⟨q2, y1, y2⟩ := z2
    exact ⟨q2.trans q1.symm, hIN0.rd y1 y2⟩

set_option maxHeartbeats 2000000 in
theorem O_told (D : va_G) (cI cS : ClassId) (w : mwT) (ox om : Nat) (s q : Int32) (hI : INV cI cS ox om w) : mMi yX6_told cX6_told 4 (some .int) (rmL 8) [.ref ox, .int s, .int q] D cI cS w (fun r w1 => ((∃ vs : List Value, w1 om = some (.inr (6, vs))) ∧ mMi yX7_told cX7_told 3 (some .int) (rmL 8) [.ref om, .int s, .int q] D cI cS w1 (fun r2 w2 => r2 = r ∧ INV cI cS ox om w2))) := by
  obtain ⟨as, md, aso, asi, ase, ato, amo, alo, aro, asr, th, g0, so, si, se, mo, to, lo, ro, sr, tg, hIN⟩ := hI
  have hIN0 := hIN
  obtain ⟨hmd, hox, has, hom, h_aso, h_asi, h_ase, h_ato, h_amo, h_alo, h_aro, h_asr, t_ox, t_as, t_om, t_aso, t_asi, t_ase, t_ato, t_amo, t_alo, t_aro, t_asr, hS⟩ := hIN
  by_cases hs : ixN md s
  · obtain ⟨a, ha, rfl⟩ := hs
    obtain ⟨h0, hg, hk⟩ := hS a ha
    rcases hk with H | H | H | H | H
    · obtain ⟨ak, an, k, sd, h, mv, tot, f, g, u, vn, hh, h_ak, h_an, t_h0, t_ak, t_an, hs0, hk1, hk2, hmv, hso, hsi, hse, hto, hmo, hh2, hv, hvn, hR⟩ := H
      refine (c_X6_told_H D cI cS w ox as md a g0 h0 ak an k sd h mv tot (lo a) f g q hox has hh h_ak h_an hmd ha hg hs0 hk1 hk2 hh2 (tne t_ak t_an (by omega))).mono (fun r w1 z1 => ?_)
      obtain ⟨q1, rfl⟩ := z1
      refine ⟨⟨_, by assumption⟩, (c_X7_told_H D cI cS w1 om md aso asi ase ato amo alo aro asr th so si se to mo lo ro a h k sd mv tot u (lnF vn) q hom h_aso h_asi h_ase h_ato h_amo h_alo h_aro hmd ha hs0 hso hsi hse hto hmo hk1 hk2 hh2 hv).mono (fun r2 w2 z2 => ?_)⟩
      obtain ⟨q2, y1, y2⟩ := z2
      exact ⟨told_eq q1 q2, hIN0.rd y1 y2⟩
    · obtain ⟨ab, c, sd, mv, tot, f, hh, h_ab, t_h0, t_ab, hs0, hc1, hc2, hmv, hso, hsi, hse, hto, hmo, hlo, hv, hB⟩ := H
      refine (c_X6_told_T D cI cS w ox as md a g0 h0 ab c sd mv tot f q hox has hh h_ab hmd ha hg hs0 hc1 hc2).mono (fun r w1 z1 => ?_)
      obtain ⟨q1, rfl⟩ := z1
      refine ⟨⟨_, by assumption⟩, (c_X7_told_T D cI cS w1 om md aso asi ase ato amo alo aro asr th so si se to mo lo ro a c sd mv tot f q hom h_aso h_asi h_ase h_ato h_amo h_alo h_aro hmd ha hs0 hso hsi hse hto hmo hc1 hc2 hv hlo).mono (fun r2 w2 z2 => ?_)⟩
      obtain ⟨q2, y1, y2⟩ := z2
      exact ⟨told_eq q1 q2, hIN0.rd y1 y2⟩
    · obtain ⟨ab, b, sd, mv, tot, f, hh, h_ab, t_h0, t_ab, hs0, hb1, hb2, hmv, hso, hsi, hse, hto, hmo, hlo, hv⟩ := H
      refine (c_X6_told_F D cI cS w ox as md a g0 h0 ab b sd mv tot f q hox has hh h_ab hmd ha hg hs0 hb1 hb2).mono (fun r w1 z1 => ?_)
      obtain ⟨q1, rfl⟩ := z1
      refine ⟨⟨_, by assumption⟩, (c_X7_told_F D cI cS w1 om md aso asi ase ato amo alo aro asr th so si se to mo lo ro a b sd mv tot f q hom h_aso h_asi h_ase h_ato h_amo h_alo h_aro hmd ha hs0 hso hsi hse hto hmo hb1 hb2 hv hlo).mono (fun r2 w2 z2 => ?_)⟩
      obtain ⟨q2, y1, y2⟩ := z2
      exact ⟨told_eq q1 q2, hIN0.rd y1 y2⟩
    · obtain ⟨ab, k, sd, h, mv, tot, f, u, hh, h_ab, t_h0, t_ab, hs0, hk1, hk2, hmv, hso, hsi, hse, hto, hmo, hlo, hh2, hl, hR⟩ := H
      refine (c_X6_told_L D cI cS w ox as md a g0 h0 ab k sd h mv tot f q hox has hh h_ab hmd ha hg hs0 hk1 hk2 hh2).mono (fun r w1 z1 => ?_)
      obtain ⟨q1, rfl⟩ := z1
      refine ⟨⟨_, by assumption⟩, (c_X7_told_L D cI cS w1 om md aso asi ase ato amo alo aro asr th so si se to mo lo ro a h k sd mv tot u q hom h_aso h_asi h_ase h_ato h_amo h_alo h_aro hmd ha hs0 hso hsi hse hto hmo hk1 hk2 hh2 hl hlo).mono (fun r2 w2 z2 => ?_)⟩
      obtain ⟨q2, y1, y2⟩ := z2
      exact ⟨told_eq q1 q2, hIN0.rd y1 y2⟩
    · obtain ⟨ak, al, aw, k, sd, mv, e, tot, er, f, ln, tr, hh, h_ak, h_al, h_aw, t_h0, t_ak, t_al, t_aw, hs0, hke, he, hk2, hmv, hso, hsi, hse, hto, hmo, hlo, hok, hln, hr, hwt⟩ := H
      refine (c_X6_told_R D cI cS w ox as md a g0 h0 ak al aw k sd mv tot er f ln tr q hox has hh h_ak h_al h_aw hmd ha hg hs0 (by omega) hk2 (tne t_ak t_al (by omega)) (tne t_ak t_aw (by omega)) (tne t_al t_aw (by omega)) hok).mono (fun r w1 z1 => ?_)
      obtain ⟨q1, rfl⟩ := z1
      refine ⟨⟨_, by assumption⟩, (c_X7_told_R D cI cS w1 om md aso asi ase ato amo alo aro asr th so si se to mo lo ro a k sd mv tot er f ln tr q hom h_aso h_asi h_ase h_ato h_amo h_alo h_aro hmd ha hs0 hso hsi hse hto hmo (by omega) hk2 hln hr hlo).mono (fun r2 w2 z2 => ?_)⟩
      obtain ⟨q2, y1, y2⟩ := z2
      exact ⟨told_eq q1 q2, hIN0.rd y1 y2⟩
  · refine (c_X6_told_no D cI cS w ox as md g0 s q hox has hmd hs).mono (fun r w1 z1 => ?_)
    obtain ⟨q1, rfl⟩ := z1
    refine ⟨⟨_, by assumption⟩, (c_X7_told_no D cI cS w1 om md aso asi ase ato amo alo aro asr th so s q hom h_aso hmd hs).mono (fun r2 w2 z2 => ?_)⟩
    obtain ⟨q2, y1, y2⟩ := z2
    exact ⟨q2.trans q1.symm, hIN0.rd y1 y2⟩

set_option maxHeartbeats 2000000 in
theorem O_kept (D : va_G) (cI cS : ClassId) (w : mwT) (ox om : Nat) (s i pt : Int32) (hI : INV cI cS ox om w) : mMi yX6_kept cX6_kept 5 (some .int) (rmL 8) [.ref ox, .int s, .int i, .int pt] D cI cS w (fun r w1 => ((∃ vs : List Value, w1 om = some (.inr (6, vs))) ∧ mMi yX7_kept cX7_kept 5 (some .int) (rmL 8) [.ref om, .int s, .int i, .int pt] D cI cS w1 (fun r2 w2 => r2 = r ∧ INV cI cS ox om w2))) := by
  obtain ⟨as, md, aso, asi, ase, ato, amo, alo, aro, asr, th, g0, so, si, se, mo, to, lo, ro, sr, tg, hIN⟩ := hI
  have hIN0 := hIN
  obtain ⟨hmd, hox, has, hom, h_aso, h_asi, h_ase, h_ato, h_amo, h_alo, h_aro, h_asr, t_ox, t_as, t_om, t_aso, t_asi, t_ase, t_ato, t_amo, t_alo, t_aro, t_asr, hS⟩ := hIN
  by_cases hs : ixN md s
  · obtain ⟨a, ha, rfl⟩ := hs
    obtain ⟨h0, hg, hk⟩ := hS a ha
    rcases hk with H | H | H | H | H
    · obtain ⟨ak, an, k, sd, h, mv, tot, f, g, u, vn, hh, h_ak, h_an, t_h0, t_ak, t_an, hs0, hk1, hk2, hmv, hso, hsi, hse, hto, hmo, hh2, hv, hvn, hR⟩ := H
      refine (c_X6_kept_H D cI cS w ox as md a g0 h0 ak an k sd h mv tot (lo a) f g i pt hox has hh h_ak h_an hmd ha hg hs0 hk1 hk2 hh2 (tne t_ak t_an (by omega))).mono (fun r w1 z1 => ?_)
      obtain ⟨q1, rfl⟩ := z1
      refine ⟨⟨_, by assumption⟩, (c_X7_kept_H D cI cS w1 om md aso asi ase ato amo alo aro asr th so si se to mo lo ro a h k sd mv tot u (lnF vn) i pt hom h_aso h_asi h_ase h_ato h_amo h_alo h_aro hmd ha hs0 hso hsi hse hto hmo hk1 hk2 hh2 hv).mono (fun r2 w2 z2 => ?_)⟩
      obtain ⟨q2, y1, y2⟩ := z2
      exact ⟨ktH_eq (by omega) hR q1 q2, hIN0.rd y1 y2⟩
    · obtain ⟨ab, c, sd, mv, tot, f, hh, h_ab, t_h0, t_ab, hs0, hc1, hc2, hmv, hso, hsi, hse, hto, hmo, hlo, hv, hB⟩ := H
      refine (c_X6_kept_T D cI cS w ox as md a g0 h0 ab c sd mv tot f i pt hox has hh h_ab hmd ha hg hs0 hc1 hc2).mono (fun r w1 z1 => ?_)
      obtain ⟨q1, rfl⟩ := z1
      refine ⟨⟨_, by assumption⟩, (c_X7_kept_T D cI cS w1 om md aso asi ase ato amo alo aro asr th so si se to mo lo ro a c sd mv tot f i pt hom h_aso h_asi h_ase h_ato h_amo h_alo h_aro hmd ha hs0 hso hsi hse hto hmo hc1 hc2 hv hlo).mono (fun r2 w2 z2 => ?_)⟩
      obtain ⟨q2, y1, y2⟩ := z2
      exact ⟨ktF_eq (V := fun e => f e + nI 10000000) (by omega) q1 q2, hIN0.rd y1 y2⟩
    · obtain ⟨ab, b, sd, mv, tot, f, hh, h_ab, t_h0, t_ab, hs0, hb1, hb2, hmv, hso, hsi, hse, hto, hmo, hlo, hv⟩ := H
      refine (c_X6_kept_F D cI cS w ox as md a g0 h0 ab b sd mv tot f i pt hox has hh h_ab hmd ha hg hs0 hb1 hb2).mono (fun r w1 z1 => ?_)
      obtain ⟨q1, rfl⟩ := z1
      refine ⟨⟨_, by assumption⟩, (c_X7_kept_F D cI cS w1 om md aso asi ase ato amo alo aro asr th so si se to mo lo ro a b sd mv tot f i pt hom h_aso h_asi h_ase h_ato h_amo h_alo h_aro hmd ha hs0 hso hsi hse hto hmo hb1 hb2 hv hlo).mono (fun r2 w2 z2 => ?_)⟩
      obtain ⟨q2, y1, y2⟩ := z2
      exact ⟨ktF_eq (V := f) (by omega) q1 q2, hIN0.rd y1 y2⟩
    · obtain ⟨ab, k, sd, h, mv, tot, f, u, hh, h_ab, t_h0, t_ab, hs0, hk1, hk2, hmv, hso, hsi, hse, hto, hmo, hlo, hh2, hl, hR⟩ := H
      refine (c_X6_kept_L D cI cS w ox as md a g0 h0 ab k sd h mv tot f i pt hox has hh h_ab hmd ha hg hs0 hk1 hk2 hh2).mono (fun r w1 z1 => ?_)
      obtain ⟨q1, rfl⟩ := z1
      refine ⟨⟨_, by assumption⟩, (c_X7_kept_L D cI cS w1 om md aso asi ase ato amo alo aro asr th so si se to mo lo ro a h k sd mv tot u i pt hom h_aso h_asi h_ase h_ato h_amo h_alo h_aro hmd ha hs0 hso hsi hse hto hmo hk1 hk2 hh2 hl hlo).mono (fun r2 w2 z2 => ?_)⟩
      obtain ⟨q2, y1, y2⟩ := z2
      exact ⟨ktL_eq (by omega) hR q1 q2, hIN0.rd y1 y2⟩
    · obtain ⟨ak, al, aw, k, sd, mv, e, tot, er, f, ln, tr, hh, h_ak, h_al, h_aw, t_h0, t_ak, t_al, t_aw, hs0, hke, he, hk2, hmv, hso, hsi, hse, hto, hmo, hlo, hok, hln, hr, hwt⟩ := H
      refine (c_X6_kept_R D cI cS w ox as md a g0 h0 ak al aw k sd mv tot er f ln tr i pt hox has hh h_ak h_al h_aw hmd ha hg hs0 (by omega) hk2 (tne t_ak t_al (by omega)) (tne t_ak t_aw (by omega)) (tne t_al t_aw (by omega)) hok).mono (fun r w1 z1 => ?_)
      obtain ⟨q1, rfl⟩ := z1
      refine ⟨⟨_, by assumption⟩, (c_X7_kept_R D cI cS w1 om md aso asi ase ato amo alo aro asr th so si se to mo lo ro a k sd mv tot er f ln tr i pt hom h_aso h_asi h_ase h_ato h_amo h_alo h_aro hmd ha hs0 hso hsi hse hto hmo (by omega) hk2 hln hr hlo).mono (fun r2 w2 z2 => ?_)⟩
      obtain ⟨q2, y1, y2⟩ := z2
      exact ⟨ktR_eq (fun b hb => by have := hln b hb; omega) q1 q2, hIN0.rd y1 y2⟩
  · refine (c_X6_kept_no D cI cS w ox as md g0 s i pt hox has hmd hs).mono (fun r w1 z1 => ?_)
    obtain ⟨q1, rfl⟩ := z1
    refine ⟨⟨_, by assumption⟩, (c_X7_kept_no D cI cS w1 om md aso asi ase ato amo alo aro asr th so s i pt hom h_aso hmd hs).mono (fun r2 w2 z2 => ?_)⟩
    obtain ⟨q2, y1, y2⟩ := z2
    exact ⟨q2.trans q1.symm, hIN0.rd y1 y2⟩

theorem O_count (D : va_G) (cI cS : ClassId) (w : mwT) (ox om : Nat) (hI : INV cI cS ox om w) : mMi yX6_count cX6_count 1 (some .int) (rmL 1) [.ref ox] D cI cS w (fun r w1 => ((∃ vs : List Value, w1 om = some (.inr (6, vs))) ∧ mMi yX7_count cX7_count 1 (some .int) (rmL 8) [.ref om] D cI cS w1 (fun r2 w2 => r2 = r ∧ INV cI cS ox om w2))) := by
  obtain ⟨as, md, aso, asi, ase, ato, amo, alo, aro, asr, th, g0, so, si, se, mo, to, lo, ro, sr, tg, hIN⟩ := hI
  have hIN0 := hIN
  obtain ⟨hmd, hox, has, hom, h_aso, h_asi, h_ase, h_ato, h_amo, h_alo, h_aro, h_asr, t_ox, t_as, t_om, t_aso, t_asi, t_ase, t_ato, t_amo, t_alo, t_aro, t_asr, hS⟩ := hIN
  refine (c_X6_count D cI cS w ox as md g0  hox has).mono (fun r w1 z1 => ?_)
  obtain ⟨q1, rfl⟩ := z1
  refine ⟨⟨_, by assumption⟩, (c_X7_count D cI cS w1 om md aso asi ase ato amo alo aro asr th  hom hmd).mono (fun r2 w2 z2 => ?_)⟩
  obtain ⟨q2, y1, y2⟩ := z2
  exact ⟨q2.trans q1.symm, hIN0.rd y1 y2⟩

theorem O_hash (D : va_G) (cI cS : ClassId) (w : mwT) (ox om : Nat) (se2 j x : Int32) (hI : INV cI cS ox om w) : mMi yX6_hash cX6_hash 4 (some .int) (rmL 4) [.ref ox, .int se2, .int j, .int x] D cI cS w (fun r w1 => ((∃ vs : List Value, w1 om = some (.inr (6, vs))) ∧ mMi yX7_hash cX7_hash 4 (some .int) (rmL 8) [.ref om, .int se2, .int j, .int x] D cI cS w1 (fun r2 w2 => r2 = r ∧ INV cI cS ox om w2))) := by
  obtain ⟨as, md, aso, asi, ase, ato, amo, alo, aro, asr, th, g0, so, si, se, mo, to, lo, ro, sr, tg, hIN⟩ := hI
  have hIN0 := hIN
  obtain ⟨hmd, hox, has, hom, h_aso, h_asi, h_ase, h_ato, h_amo, h_alo, h_aro, h_asr, t_ox, t_as, t_om, t_aso, t_asi, t_ase, t_ato, t_amo, t_alo, t_aro, t_asr, hS⟩ := hIN
  refine (c_X6_hash D cI cS w ox as md g0 se2 j x hox has).mono (fun r w1 z1 => ?_)
  obtain ⟨q1, rfl⟩ := z1
  refine ⟨⟨_, by assumption⟩, (c_X7_hash D cI cS w1 om md aso asi ase ato amo alo aro asr th se2 j x hom).mono (fun r2 w2 z2 => ?_)⟩
  obtain ⟨q2, y1, y2⟩ := z2
  exact ⟨hash_eq q1 q2, hIN0.rd y1 y2⟩
