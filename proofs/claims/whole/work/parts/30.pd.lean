/-! HEAVY: a KEY comes -/
theorem lsN_spec (g : Nat → Int32) (lim : Int32) (n : Nat) : lsN g lim n ≤ lim ∧ (∀ i, i < n → lsN g lim n ≤ g i) ∧ (lsN g lim n = lim ∨ ∃ i, i < n ∧ g i = lsN g lim n) := by
  induction n with
  | zero => exact ⟨Int32.le_refl _, fun i hi => absurd hi (Nat.not_lt_zero _), Or.inl rfl⟩
  | succ n ih =>
    obtain ⟨a1, a2, a3⟩ := ih
    rw [lsN]
    by_cases q : g n < lsN g lim n
    · rw [if_pos q]
      refine ⟨?_, fun i hi => ?_, Or.inr ⟨n, by omega, rfl⟩⟩
      · rw [i_lt] at q; rw [i_le] at *; omega
      · by_cases e : i = n
        · rw [e]; exact Int32.le_refl _
        · have := a2 i (by omega)
          rw [i_lt] at q; rw [i_le] at *; omega
    · rw [if_neg q]
      refine ⟨a1, fun i hi => ?_, ?_⟩
      · by_cases e : i = n
        · rw [e]; exact Int32.not_lt.mp q
        · exact a2 i (by omega)
      · rcases a3 with z | ⟨i, hi, e⟩
        · exact Or.inl z
        · exact Or.inr ⟨i, by omega, e⟩
theorem mnU_spec (gn : Nat → Nat) (lf n : Nat) : (∀ i, i < n → mnU gn lf n ≤ gn i) ∧ (mnU gn lf n = lf ∨ ∃ i, i < n ∧ gn i = mnU gn lf n) := by
  induction n with
  | zero => exact ⟨fun i hi => absurd hi (Nat.not_lt_zero _), Or.inl rfl⟩
  | succ n ih =>
    obtain ⟨a2, a3⟩ := ih
    rw [mnU]
    by_cases q : gn n < mnU gn lf n
    · rw [if_pos q]
      refine ⟨fun i hi => ?_, Or.inr ⟨n, by omega, rfl⟩⟩
      by_cases e : i = n
      · rw [e]; exact Nat.le_refl _
      · have := a2 i (by omega)
        omega
    · rw [if_neg q]
      refine ⟨fun i hi => ?_, ?_⟩
      · by_cases e : i = n
        · rw [e]; omega
        · exact a2 i (by omega)
      · rcases a3 with z | ⟨i, hi, e⟩
        · exact Or.inl z
        · exact Or.inr ⟨i, by omega, e⟩
theorem mn_same {f g u : Nat → Int32} {vn : Nat → Nat} {h c : Nat} (C : CE f g h u (lnF vn) h) (B : ∀ i, i < h → 1 ≤ vn i ∧ vn i ≤ 10000000) (hc : c ≤ 1000) : lsN g (nI c) h = nI (mnU vn c h) := by
  obtain ⟨a1, a2, a3⟩ := lsN_spec g (nI c) h
  obtain ⟨b2, b3⟩ := mnU_spec vn c h
  have b1 := mnU_le vn c h
  have up : lsN g (nI c) h ≤ nI (mnU vn c h) := by
    rcases b3 with z | ⟨j, hj, e⟩
    · rw [z]; exact a1
    · obtain ⟨i, hi, _, e2⟩ := C.symm.to hj
      have := a2 i hi
      rw [e2] at this
      rw [← e]
      exact this
  have dn : nI (mnU vn c h) ≤ lsN g (nI c) h := by
    rcases a3 with z | ⟨i, hi, e⟩
    · rw [z, nI_leI (by omega) (by omega)]; exact b1
    · obtain ⟨j, hj, _, e2⟩ := C.to hi
      rw [← e, ← e2]
      have hb := B j hj
      show _ ≤ nI (vn j)
      rw [nI_leI (by omega) (by omega)]
      exact b2 j hj
  rw [i_le] at up dn
  rw [i_eq]
  omega
theorem HvR.come {mv k c : Nat} {x lo : Int32} {f g u : Nat → Int32} {vn : Nat → Nat} {h : Nat} (H : HvR mv f g h u (lnF vn)) (hk : h ≤ k) (hvn : ∀ i, i < h → 1 ≤ vn i ∧ vn i ≤ 10000000) (hc1 : 1 ≤ c) (hc2 : c ≤ 1000) (hm : mv + c ≤ 10000000) :
    HvR (mv + c) (tkH k x (nI c) (f, g, h) lo).1.1 (tkH k x (nI c) (f, g, h) lo).1.2.1 (tkH k x (nI c) (f, g, h) lo).1.2.2 (comU k x c u vn h lo).1.1 (comU k x c u vn h lo).1.2.1 ∧ (tkH k x (nI c) (f, g, h) lo).1.2.2 = (comU k x c u vn h lo).1.2.2 ∧ (tkH k x (nI c) (f, g, h) lo).2 = (comU k x c u vn h lo).2 ∧ (tkH k x (nI c) (f, g, h) lo).1.2.2 ≤ k := by
  have hin := (plc_in H.1 (x := x)).trans ((ce_in H.2.2.2).trans fdU_in.symm)
  have hmn := mn_same H.2.2.2 hvn hc2
  have hc0 : ¬ nI c ≤ 0 := by
    rw [← nI_0, nI_leI (by omega) (by omega)]
    omega
  by_cases q : k ≤ h ∧ ¬ (plc f x h < h ∧ f (plc f x h) = x)
  · have q2 : ¬ (fdU u x h < h ∨ h < k) := fun z => z.elim (fun z => q.2 (hin.mpr z)) (fun z => absurd q.1 (by omega))
    have hM := mnU_le vn c h
    obtain ⟨L1, L2⟩ := HvR.low (D := mnU vn c h) H (by omega)
    have eT : tkH k x (nI c) (f, g, h) lo = (if nI c - nI (mnU vn c h) ≤ 0 then lwH f g (nI (mnU vn c h)) h else adH x (nI c - nI (mnU vn c h)) (lwH f g (nI (mnU vn c h)) h), lo + nI (mnU vn c h)) := by
      rw [← hmn]
      exact if_pos q
    have eV : comU k x c u vn h lo = (if c - mnU vn c h = 0 then lessU u (lnF vn) (nI (mnU vn c h)) h else addU x (nI (c - mnU vn c h)) (lessU u (lnF vn) (nI (mnU vn c h)) h), lo + nI (mnU vn c h)) := if_neg q2
    rw [eT, eV, ni_sub hM]
    by_cases z : c - mnU vn c h = 0
    · rw [if_pos z, if_pos (by rw [z, nI_0]; exact Int32.le_refl _)]
      refine ⟨⟨L1.1, L1.2.1, Nat.le_trans L1.2.2.1 (by omega), L1.2.2.2⟩, L2, rfl, ?_⟩
      have := lwH_le f g (nI (mnU vn c h)) h
      show (lwH f g (nI (mnU vn c h)) h).2.2 ≤ k
      omega
    · have zc : ¬ nI (c - mnU vn c h) ≤ 0 := by
        rw [← nI_0, nI_leI (by omega) (by omega)]
        omega
      rw [if_neg z, if_neg zc]
      have hdr := mnU_drop (f := u) (gn := vn) (c := c) (h := h) (by omega)
      generalize hS : lwH f g (nI (mnU vn c h)) h = S at L1 L2 ⊢
      generalize hT : lessU u (lnF vn) (nI (mnU vn c h)) h = T at L1 L2 hdr ⊢
      obtain ⟨s1, s2, s3⟩ := S
      obtain ⟨t1, t2, t3⟩ := T
      dsimp only at L1 L2 hdr
      subst L2
      obtain ⟨M1, M2⟩ := HvR.add (x := x) L1 (c := c - mnU vn c h) (by omega) (by omega)
      refine ⟨⟨M1.1, M1.2.1, Nat.le_trans M1.2.2.1 (by omega), M1.2.2.2⟩, M2, rfl, ?_⟩
      have hle9 : (adH x (nI (c - mnU vn c h)) (s1, s2, s3)).2.2 ≤ s3 + 1 := adH_le x (nI (c - mnU vn c h)) (s1, s2, s3)
      show (adH x (nI (c - mnU vn c h)) (s1, s2, s3)).2.2 ≤ k
      omega
  · have q2 : fdU u x h < h ∨ h < k := by
      by_cases z : k ≤ h
      · exact Or.inl (hin.mp (Classical.byContradiction fun y => q ⟨z, y⟩))
      · exact Or.inr (by omega)
    have eT : tkH k x (nI c) (f, g, h) lo = (adH x (nI c) (f, g, h), lo) := (if_neg q).trans (congrArg (fun z => (z, lo)) (if_neg hc0))
    have eV : comU k x c u vn h lo = (addU x (nI c) (u, lnF vn, h), lo) := if_pos q2
    rw [eT, eV]
    obtain ⟨M1, M2⟩ := HvR.add (x := x) H hc1 hm
    refine ⟨M1, M2, rfl, ?_⟩
    by_cases z : plc f x h < h ∧ f (plc f x h) = x
    · show (adH x (nI c) (f, g, h)).2.2 ≤ k
      rw [adH_yes z]; exact hk
    · have hle9 : (adH x (nI c) (f, g, h)).2.2 ≤ h + 1 := adH_le x (nI c) (f, g, h)
      have hlt : h < k := by
        by_cases y : k ≤ h
        · exact absurd ⟨y, z⟩ q
        · omega
      show (adH x (nI c) (f, g, h)).2.2 ≤ k
      omega
/-! HEAVY: two made one -/
theorem HvR.joinS {mv : Nat} {f g u v X Y : Nat → Int32} {h : Nat} (H : HvR mv f g h u v) (n : Nat) (hY : ∀ j, j < n → okN (Y j)) (hm : mv + sw (fun j => cw (Y j)) n ≤ 10000000) :
    HvR (mv + sw (fun j => cw (Y j)) n) (jnH X Y (f, g, h) n).1 (jnH X Y (f, g, h) n).2.1 (jnH X Y (f, g, h) n).2.2 (jnU X Y (u, v, h) n).1 (jnU X Y (u, v, h) n).2.1 ∧ (jnH X Y (f, g, h) n).2.2 = (jnU X Y (u, v, h) n).2.2 := by
  induction n with
  | zero => exact ⟨H, rfl⟩
  | succ n ih =>
    rw [sw] at hm ⊢
    obtain ⟨i1, i2⟩ := ih (fun j hj => hY j (by omega)) (by omega)
    obtain ⟨c, c1, c2, c3⟩ := hY n (by omega)
    rw [c3, cw_nI (by omega)] at hm ⊢
    show HvR _ (adH (X n) (Y n) (jnH X Y (f, g, h) n)).1 (adH (X n) (Y n) (jnH X Y (f, g, h) n)).2.1 (adH (X n) (Y n) (jnH X Y (f, g, h) n)).2.2 (addU (X n) (Y n) (jnU X Y (u, v, h) n)).1 (addU (X n) (Y n) (jnU X Y (u, v, h) n)).2.1 ∧ (adH (X n) (Y n) (jnH X Y (f, g, h) n)).2.2 = (addU (X n) (Y n) (jnU X Y (u, v, h) n)).2.2
    rw [c3]
    generalize jnH X Y (f, g, h) n = S at i1 i2 ⊢
    generalize jnU X Y (u, v, h) n = T at i1 i2 ⊢
    obtain ⟨s1, s2, s3⟩ := S
    obtain ⟨t1, t2, t3⟩ := T
    dsimp only at i1 i2
    subst i2
    obtain ⟨M1, M2⟩ := HvR.add (x := X n) i1 c1 (by omega)
    exact ⟨by rw [← Nat.add_assoc]; exact M1, M2⟩
def aw (f g : Nat → Int32) (h : Nat) (y : Int32) : Nat := sw (fun i => if f i = y then cw (g i) else 0) h
theorem aw_add {x y : Int32} {c : Nat} {f g : Nat → Int32} {h : Nat} (B : HvB g h) (hc : c ≤ 10000000) : aw (adH x (nI c) (f, g, h)).1 (adH x (nI c) (f, g, h)).2.1 (adH x (nI c) (f, g, h)).2.2 y = aw f g h y + (if x = y then c else 0) := by
  unfold aw
  by_cases q : plc f x h < h ∧ f (plc f x h) = x
  · have a := adH_sw1 (n := nI c) (g := g) (fun a b => if a = y then cw b else 0) q
    obtain ⟨a0, a1, a2, a3⟩ := B _ q.1
    rw [a3, nI_add, cw_nI (by omega), cw_nI (by omega)] at a
    by_cases e : x = y
    · rw [if_pos e, if_pos e] at a; rw [if_pos e]; omega
    · rw [if_neg e, if_neg e] at a; rw [if_neg e]; omega
  · have a := adH_sw2 (n := nI c) (g := g) (fun a b => if a = y then cw b else 0) q
    rw [cw_nI (by omega)] at a
    exact a
theorem aw_join {mv : Nat} {f g u v X Y : Nat → Int32} {h : Nat} {y : Int32} (H : HvR mv f g h u v) (n : Nat) (hY : ∀ j, j < n → okN (Y j)) (hm : mv + sw (fun j => cw (Y j)) n ≤ 10000000) : aw (jnH X Y (f, g, h) n).1 (jnH X Y (f, g, h) n).2.1 (jnH X Y (f, g, h) n).2.2 y = aw f g h y + aw X Y n y := by
  induction n with
  | zero => rfl
  | succ n ih =>
    have hm2 := hm
    rw [sw] at hm
    have i0 := ih (fun j hj => hY j (by omega)) (by omega)
    obtain ⟨i1, _⟩ := HvR.joinS (X := X) H n (fun j hj => hY j (by omega)) (by omega)
    obtain ⟨c, c1, c2, c3⟩ := hY n (by omega)
    show aw (adH (X n) (Y n) (jnH X Y (f, g, h) n)).1 (adH (X n) (Y n) (jnH X Y (f, g, h) n)).2.1 (adH (X n) (Y n) (jnH X Y (f, g, h) n)).2.2 y = _
    have e0 : aw X Y (n + 1) y = aw X Y n y + (if X n = y then cw (Y n) else 0) := rfl
    rw [e0, c3, cw_nI (by omega)]
    have a := aw_add (x := X n) (y := y) (c := c) (f := (jnH X Y (f, g, h) n).1) i1.2.1 c2
    rw [← Nat.add_assoc, ← i0]
    exact a
theorem aw_at {f g : Nat → Int32} {h i : Nat} (H : upR f h) (hi : i < h) : aw f g h (f i) = cw (g i) := by
  unfold aw
  have a := sw_upd (p := fun _ => 0) (q := fun j => if f j = f i then cw (g j) else 0) h i hi (fun j hj hji => if_neg (fun e => hji (H.inj hj hi e)))
  rw [sw_zero h (fun _ _ => rfl), if_pos rfl] at a
  omega
theorem aw_pos {f g : Nat → Int32} {h : Nat} {y : Int32} (B : HvB g h) : (∃ i, i < h ∧ f i = y) ↔ 0 < aw f g h y := by
  constructor
  · rintro ⟨i, hi, e⟩
    have := sw_at (p := fun j => if f j = y then cw (g j) else 0) h i hi
    obtain ⟨a, a1, a2, a3⟩ := B i hi
    rw [if_pos e, a3, cw_nI (by omega)] at this
    exact Nat.lt_of_lt_of_le a1 this
  · intro q
    obtain ⟨i, hi, z⟩ := sw_ex h q
    by_cases e : f i = y
    · exact ⟨i, hi, e⟩
    · rw [if_neg e] at z; exact absurd z (Nat.lt_irrefl _)
theorem rows_eq {f1 g1 f2 g2 : Nat → Int32} {h1 h2 : Nat} (U1 : upR f1 h1) (B1 : HvB g1 h1) (U2 : upR f2 h2) (B2 : HvB g2 h2) (e : ∀ y, aw f1 g1 h1 y = aw f2 g2 h2 y) : h1 = h2 ∧ (∀ i, i < h1 → f1 i = f2 i) ∧ ∀ i, i < h1 → g1 i = g2 i := by
  have A := JL.self (k := h1 + h2) U1 (by omega)
  have Bq := JL.self (k := h1 + h2) U2 (by omega)
  have A2 := JL.ext A (V := fun x => ∃ i, i < h2 ∧ f2 i = x) (fun x => by rw [aw_pos B1, aw_pos B2, e x])
  obtain ⟨c1, c2⟩ := JL.same A2 Bq
  refine ⟨c1, c2, fun i hi => ?_⟩
  have d1 := aw_at (g := g1) U1 hi
  have d2 := aw_at (g := g2) U2 (show i < h2 by omega)
  rw [e, c2 i hi, d2] at d1
  obtain ⟨a, a1, a2, a3⟩ := B1 i hi
  obtain ⟨b, b1, b2, b3⟩ := B2 i (by omega)
  rw [a3, b3, cw_nI (by omega), cw_nI (by omega)] at d1
  rw [a3, b3, d1]
theorem HvR.ext {mv : Nat} {f g f2 g2 u v : Nat → Int32} {h : Nat} (H : HvR mv f g h u v) (e1 : ∀ i, i < h → f i = f2 i) (e2 : ∀ i, i < h → g i = g2 i) : HvR mv f2 g2 h u v := by
  obtain ⟨h1, h2, h3, h4⟩ := H
  refine ⟨fun i j hi hj => ?_, fun i hi => ?_, ?_, fun Q => ?_⟩
  · rw [← e1 i (by omega), ← e1 j hj]; exact h1 i j hi hj
  · rw [← e2 i hi]; exact h2 i hi
  · rw [← sw_congr (p := fun i => cw (g i)) h (fun i hi => by show cw (g i) = cw (g2 i); rw [e2 i hi])]; exact h3
  · rw [← h4 Q]
    exact sw_congr h (fun i hi => by show Q (f2 i) (g2 i) = Q (f i) (g i); rw [e1 i hi, e2 i hi])
theorem HvR.join {mv mv2 : Nat} {f g u v f2 g2 u2 v2 : Nat → Int32} {h h2 : Nat} (H : HvR mv f g h u v) (H2 : HvR mv2 f2 g2 h2 u2 v2) (hm : mv + mv2 ≤ 10000000) :
    HvR (mv + mv2) (jnH f2 g2 (f, g, h) h2).1 (jnH f2 g2 (f, g, h) h2).2.1 (jnH f2 g2 (f, g, h) h2).2.2 (jnU u2 v2 (u, v, h) h2).1 (jnU u2 v2 (u, v, h) h2).2.1 ∧ (jnH f2 g2 (f, g, h) h2).2.2 = (jnU u2 v2 (u, v, h) h2).2.2 := by
  have hs := H2.2.2.2 (fun _ b => cw b)
  have hb2 := H2.2.2.1
  have hB2 := H2.2.2.2.bd H2.2.1
  have ew : sw (fun j => cw (v2 j)) h2 = sw (fun j => cw (g2 j)) h2 := hs.symm
  obtain ⟨a1, a2⟩ := HvR.joinS (X := u2) (Y := v2) H h2 hB2 (by omega)
  obtain ⟨b1, b2⟩ := HvR.joinS (X := f2) (Y := g2) H h2 H2.2.1 (by omega)
  obtain ⟨c1, c2, c3⟩ := rows_eq a1.1 a1.2.1 b1.1 b1.2.1 (fun y => by
    rw [aw_join (X := u2) (Y := v2) H h2 hB2 (by omega), aw_join (X := f2) (Y := g2) H h2 H2.2.1 (by omega)]
    congr 1
    exact (H2.2.2.2 (fun a b => if a = y then cw b else 0)).symm)
  have d := HvR.ext a1 c2 c3
  rw [c1] at d
  exact ⟨⟨d.1, d.2.1, Nat.le_trans d.2.2.1 (by omega), d.2.2.2⟩, c1.symm.trans a2⟩
