/-! ===== LEAST: the rising row and the reference's row ===== -/
def LsR (f : Nat → Int32) (h : Nat) (u : Nat → Int32) : Prop := upR f h ∧ (∀ i, i < h → ∃ a : Nat, a < 65537 ∧ f i = nI a) ∧ CE f f h u u h
theorem ce_in {f u : Nat → Int32} {h h2 : Nat} {g v : Nat → Int32} (H : CE f g h u v h2) {x : Int32} : (∃ i, i < h ∧ f i = x) ↔ ∃ j, j < h2 ∧ u j = x := by
  constructor
  · rintro ⟨i, hi, e⟩
    obtain ⟨j, h1, h3, _⟩ := H.to hi
    exact ⟨j, h1, h3.trans e⟩
  · rintro ⟨i, hi, e⟩
    obtain ⟨j, h1, h3, _⟩ := H.symm.to hi
    exact ⟨j, h1, h3.trans e⟩
theorem gmU_max (u : Nat → Int32) (n : Nat) : ∀ j, j ≤ n → u j ≤ u (gmU u n) := by
  induction n with
  | zero => intro j hj; rw [show j = 0 by omega]; exact Int32.le_refl _
  | succ n ih =>
    intro j hj
    rw [gmU]
    by_cases q : u (n + 1) ≤ u (gmU u n)
    · rw [if_pos q]
      by_cases e : j = n + 1
      · rw [e]; exact q
      · exact ih j (by omega)
    · rw [if_neg q]
      by_cases e : j = n + 1
      · rw [e]; exact Int32.le_refl _
      · have := ih j (by omega)
        rw [i_le] at *
        omega
theorem L_max {f u : Nat → Int32} {h : Nat} (h1 : 1 ≤ h) (H : upR f h) (C : CE f f h u u h) : u (gmU u (h - 1)) = f (h - 1) := by
  have hg := gmU_le u (h - 1)
  obtain ⟨j, hj, e1, _⟩ := C.symm.to (show gmU u (h - 1) < h by omega)
  obtain ⟨j2, hj2, e2, _⟩ := C.to (show h - 1 < h by omega)
  have a1 := gmU_max u (h - 1) j2 (by omega)
  have a2 : f j ≤ f (h - 1) := by
    by_cases e : j = h - 1
    · rw [e]; exact Int32.le_refl _
    · have := H j (h - 1) (by omega) (by omega)
      rw [i_lt] at this
      rw [i_le]
      omega
  rw [e1] at a2
  rw [e2] at a1
  rw [i_le] at a1 a2
  rw [i_eq]
  omega
theorem LsR.add {k : Nat} {f u : Nat → Int32} {h a : Nat} (hk : 1 ≤ k) (hh : h ≤ k) (ha : a < 65537) (H : LsR f h u) : LsR (adL k (nI a) (f, h)).1 (adL k (nI a) (f, h)).2 (kpU k (nI a) (u, h)).1 ∧ (adL k (nI a) (f, h)).2 = (kpU k (nI a) (u, h)).2 := by
  obtain ⟨h1, h2, h3⟩ := H
  generalize hv : nI a = v
  have hin := ce_in h3 (x := v)
  by_cases q : plc f v h < h ∧ f (plc f v h) = v
  · have e1 : adL k v (f, h) = (f, h) := adL_same q
    have e2 : kpU k v (u, h) = (u, h) := if_pos (fdU_in.mpr (hin.mp ((plc_in h1).mp q)))
    rw [e1, e2]
    exact ⟨⟨h1, h2, h3⟩, rfl⟩
  · have q2 : ¬ fdU u v h < h := fun z => q ((plc_in h1).mpr (hin.mpr (fdU_in.mp z)))
    have hp := plc_le f v h
    have hlo := plc_below f v h
    have hhi := plc_gt h1 q
    have hbd : ∀ (m : Nat), m ≤ h + 1 → ∀ i, i < m → ∃ a : Nat, a < 65537 ∧ insA f (plc f v h) m v i = nI a := by
      intro m hm i hi
      unfold insA
      by_cases z1 : i < plc f v h
      · rw [if_pos z1]; exact h2 i (by omega)
      · rw [if_neg z1]
        by_cases z2 : i = plc f v h
        · rw [if_pos z2]; exact ⟨a, ha, hv.symm⟩
        · rw [if_neg z2, if_pos hi]; exact h2 (i - 1) (by omega)
    by_cases hlt : h < k
    · have e1 : adL k v (f, h) = (insA f (plc f v h) (h + 1) v, h + 1) := by
        rw [adL_yes (by omega) q, Nat.min_eq_left (by omega)]
      have e2 : kpU k v (u, h) = (upd u h v, h + 1) := (if_neg q2).trans (if_pos hlt)
      rw [e1, e2]
      refine ⟨⟨ins_up h1 hp hlo hhi (Nat.le_refl _), hbd _ (Nat.le_refl _), fun Q => ?_⟩, rfl⟩
      have a1 := sw_ins (p := fun i => Q (f i) (f i)) (q := fun i => Q (insA f (plc f v h) (h + 1) v i) (insA f (plc f v h) (h + 1) v i)) h (plc f v h) hp (fun i hi => by
        show Q (insA f (plc f v h) (h + 1) v i) _ = _
        unfold insA; rw [if_pos hi]) (fun i hi hi2 => by
        show Q (insA f (plc f v h) (h + 1) v i) _ = _
        unfold insA; rw [if_neg (by omega), if_neg (by omega), if_pos (by omega)])
      have a2 : insA f (plc f v h) (h + 1) v (plc f v h) = v := by unfold insA; rw [if_neg (Nat.lt_irrefl _), if_pos rfl]
      have a3 : sw (fun i => Q (upd u h v i) (upd u h v i)) (h + 1) = sw (fun i => Q (u i) (u i)) h + Q v v := by
        rw [sw]
        rw [sw_congr (p := fun i => Q (upd u h v i) (upd u h v i)) (q := fun i => Q (u i) (u i)) h (fun i hi => by show Q (upd u h v i) _ = _; rw [upd_ne2 (by omega)])]
        rw [upd_same]
      show sw (fun i => Q (insA f (plc f v h) (h + 1) v i) (insA f (plc f v h) (h + 1) v i)) (h + 1) = sw (fun i => Q (upd u h v i) (upd u h v i)) (h + 1)
      rw [a1, a3]
      show _ + Q (insA f (plc f v h) (h + 1) v (plc f v h)) (insA f (plc f v h) (h + 1) v (plc f v h)) = _
      rw [a2, h3 Q]
    · have hhk : h = k := by omega
      subst hhk
      have hmx := L_max (u := u) hk h1 h3
      by_cases hpk : plc f v h < h
      · have e1 : adL h v (f, h) = (insA f (plc f v h) h v, h) := by
          rw [adL_yes hpk q, Nat.min_eq_right (by omega)]
        have hvm : v < f (h - 1) := hhi (h - 1) (by omega) (by omega)
        have e2 : kpU h v (u, h) = (upd u (gmU u (h - 1)) v, h) := ((if_neg q2).trans (if_neg (Nat.lt_irrefl _))).trans (if_pos (show v < u (gmU u (h - 1)) by rw [hmx]; exact hvm))
        rw [e1, e2]
        refine ⟨⟨ins_up h1 hp hlo hhi (Nat.le_succ _), hbd _ (Nat.le_succ _), fun Q => ?_⟩, rfl⟩
        obtain ⟨n, rfl⟩ : ∃ n, h = n + 1 := ⟨h - 1, by omega⟩
        have a1 := sw_ins (p := fun i => Q (f i) (f i)) (q := fun i => Q (insA f (plc f v (n + 1)) (n + 1) v i) (insA f (plc f v (n + 1)) (n + 1) v i)) n (plc f v (n + 1)) (by omega) (fun i hi => by
          show Q (insA f (plc f v (n + 1)) (n + 1) v i) _ = _
          unfold insA; rw [if_pos hi]) (fun i hi hi2 => by
          show Q (insA f (plc f v (n + 1)) (n + 1) v i) _ = _
          unfold insA; rw [if_neg (by omega), if_neg (by omega), if_pos (by omega)])
        have a2 : insA f (plc f v (n + 1)) (n + 1) v (plc f v (n + 1)) = v := by unfold insA; rw [if_neg (Nat.lt_irrefl _), if_pos rfl]
        have hg := gmU_le u (n + 1 - 1)
        have a3 := sw_upd (p := fun i => Q (u i) (u i)) (q := fun i => Q (upd u (gmU u (n + 1 - 1)) v i) (upd u (gmU u (n + 1 - 1)) v i)) (n + 1) (gmU u (n + 1 - 1)) (by omega) (fun i hi hi2 => by show Q (upd u (gmU u (n + 1 - 1)) v i) _ = _; rw [upd_ne2 hi2])
        have a4 := h3 Q
        have a5 : sw (fun i => Q (f i) (f i)) (n + 1) = sw (fun i => Q (f i) (f i)) n + Q (f n) (f n) := rfl
        rw [a5] at a4
        rw [upd_same, hmx, Nat.add_sub_cancel] at a3
        rw [a2] at a1
        show sw (fun i => Q (insA f (plc f v (n + 1)) (n + 1) v i) (insA f (plc f v (n + 1)) (n + 1) v i)) (n + 1) = sw (fun i => Q (upd u (gmU u (n + 1 - 1)) v i) (upd u (gmU u (n + 1 - 1)) v i)) (n + 1)
        rw [Nat.add_sub_cancel]
        omega
      · have e1 : adL h v (f, h) = (f, h) := adL_full (by omega)
        have hpe : plc f v h = h := by omega
        have hvm : ¬ v < u (gmU u (h - 1)) := by
          rw [hmx]
          have := hlo (h - 1) (by omega)
          rw [i_lt] at *
          omega
        have e2 : kpU h v (u, h) = (u, h) := ((if_neg q2).trans (if_neg (Nat.lt_irrefl _))).trans (if_neg hvm)
        rw [e1, e2]
        exact ⟨⟨h1, h2, h3⟩, rfl⟩
/-! the k least of U, in any order of coming -/
def JL (k : Nat) (U : Int32 → Prop) (f : Nat → Int32) (h : Nat) : Prop := upR f h ∧ h ≤ k ∧ (∀ i, i < h → U (f i)) ∧ ∀ x, U x → (∃ i, i < h ∧ f i = x) ∨ (h = k ∧ ∀ i, i < h → f i < x)
theorem JL.pre {k : Nat} {U : Int32 → Prop} {f1 f2 : Nat → Int32} {h1 h2 : Nat} (A : JL k U f1 h1) (B : JL k U f2 h2) {i : Nat} (hi1 : i < h1) (hi2 : i < h2) (ih : ∀ j, j < i → f1 j = f2 j) : ¬ f1 i < f2 i := by
  intro q
  rcases B.2.2.2 (f1 i) (A.2.2.1 i hi1) with ⟨j, hj, e⟩ | ⟨_, z⟩
  · rcases Nat.lt_trichotomy j i with y | y | y
    · have h3 := A.1 j i y hi1
      rw [ih j y, e] at h3
      exact i_irr h3
    · subst y
      rw [e] at q
      exact i_irr q
    · have h3 := B.1 i j y hj
      rw [e] at h3
      exact i_irr (i_ltt q h3)
  · exact i_irr (i_ltt q (z i hi2))
theorem JL.eqv {k : Nat} {U : Int32 → Prop} {f1 f2 : Nat → Int32} {h1 h2 : Nat} (A : JL k U f1 h1) (B : JL k U f2 h2) (i : Nat) : i < h1 → i < h2 → f1 i = f2 i := by
  induction i using Nat.strongRecOn with
  | _ i ih =>
    intro hi1 hi2
    have a := JL.pre A B hi1 hi2 (fun j hj => ih j hj (by omega) (by omega))
    have b := JL.pre B A hi2 hi1 (fun j hj => (ih j hj (by omega) (by omega)).symm)
    rw [i_lt] at a b
    rw [i_eq]
    omega
theorem JL.len {k : Nat} {U : Int32 → Prop} {f1 f2 : Nat → Int32} {h1 h2 : Nat} (A : JL k U f1 h1) (B : JL k U f2 h2) : ¬ h1 < h2 := by
  intro q
  rcases A.2.2.2 (f2 h1) (B.2.2.1 h1 q) with ⟨j, hj, e⟩ | ⟨z, _⟩
  · have h3 := B.1 j h1 hj q
    rw [← JL.eqv A B j hj (by omega), e] at h3
    exact i_irr h3
  · have := B.2.1
    omega
theorem JL.same {k : Nat} {U : Int32 → Prop} {f1 f2 : Nat → Int32} {h1 h2 : Nat} (A : JL k U f1 h1) (B : JL k U f2 h2) : h1 = h2 ∧ ∀ i, i < h1 → f1 i = f2 i := by
  have e : h1 = h2 := by
    have := JL.len A B
    have := JL.len B A
    omega
  exact ⟨e, fun i hi => JL.eqv A B i hi (by omega)⟩
theorem JL.add {k : Nat} {U : Int32 → Prop} {f : Nat → Int32} {h : Nat} (v : Int32) (hk : 1 ≤ k) (A : JL k U f h) : JL k (fun x => U x ∨ x = v) (adL k v (f, h)).1 (adL k v (f, h)).2 := by
  obtain ⟨h1, h2, h3, h4⟩ := A
  by_cases q : plc f v h < h ∧ f (plc f v h) = v
  · rw [adL_same q]
    refine ⟨h1, h2, fun i hi => Or.inl (h3 i hi), fun x hx => ?_⟩
    rcases hx with hx | rfl
    · exact h4 x hx
    · exact Or.inl ⟨_, q.1, q.2⟩
  · have hp := plc_le f v h
    have hlo := plc_below f v h
    have hhi := plc_gt h1 q
    have hat : ∀ m, plc f v h < m → insA f (plc f v h) m v (plc f v h) = v := fun m _ => by unfold insA; rw [if_neg (Nat.lt_irrefl _), if_pos rfl]
    have hU : ∀ m, m ≤ h + 1 → ∀ i, i < m → U (insA f (plc f v h) m v i) ∨ insA f (plc f v h) m v i = v := by
      intro m hm i hi
      unfold insA
      by_cases z1 : i < plc f v h
      · rw [if_pos z1]; exact Or.inl (h3 i (by omega))
      · rw [if_neg z1]
        by_cases z2 : i = plc f v h
        · rw [if_pos z2]; exact Or.inr rfl
        · rw [if_neg z2, if_pos hi]; exact Or.inl (h3 (i - 1) (by omega))
    have hold : ∀ m, plc f v h < m → ∀ i, i < h → i + 1 < m ∨ i < plc f v h → ∃ j, j < m ∧ insA f (plc f v h) m v j = f i := by
      intro m hm i hi hc
      by_cases z1 : i < plc f v h
      · refine ⟨i, by omega, ?_⟩
        unfold insA; rw [if_pos z1]
      · refine ⟨i + 1, by omega, ?_⟩
        unfold insA; rw [if_neg (by omega), if_neg (by omega), if_pos (by omega), Nat.add_sub_cancel]
    by_cases hlt : h < k
    · rw [adL_yes (by omega) q, Nat.min_eq_left (by omega)]
      refine ⟨ins_up h1 hp hlo hhi (Nat.le_refl _), hlt, hU _ (Nat.le_refl _), fun x hx => ?_⟩
      rcases hx with hx | rfl
      · rcases h4 x hx with ⟨i, hi, e⟩ | ⟨z, _⟩
        · obtain ⟨j, hj, e2⟩ := hold (h + 1) (by omega) i hi (Or.inl (by omega))
          exact Or.inl ⟨j, hj, e2.trans e⟩
        · omega
      · exact Or.inl ⟨_, by show plc f x h < h + 1; omega, hat _ (by omega)⟩
    · have hhk : h = k := by omega
      subst hhk
      by_cases hpk : plc f v h < h
      · rw [adL_yes hpk q, Nat.min_eq_right (by omega)]
        have hup := ins_up (m := h) h1 hp hlo hhi (Nat.le_succ _)
        have hvm : v < f (h - 1) := hhi (h - 1) (by omega) (by omega)
        have hall : ∀ i, i < h → insA f (plc f v h) h v i < f (h - 1) := by
          intro i hi
          unfold insA
          by_cases z1 : i < plc f v h
          · rw [if_pos z1]; exact i_ltt (hlo i z1) hvm
          · rw [if_neg z1]
            by_cases z2 : i = plc f v h
            · rw [if_pos z2]; exact hvm
            · rw [if_neg z2, if_pos hi]; exact h1 (i - 1) (h - 1) (by omega) (by omega)
        refine ⟨hup, Nat.le_refl _, hU _ (Nat.le_succ _), fun x hx => ?_⟩
        rcases hx with hx | rfl
        · rcases h4 x hx with ⟨i, hi, e⟩ | ⟨_, z⟩
          · by_cases hc : i + 1 < h ∨ i < plc f v h
            · obtain ⟨j, hj, e2⟩ := hold h hpk i hi hc
              exact Or.inl ⟨j, hj, e2.trans e⟩
            · have ei : i = h - 1 := by omega
              subst ei
              exact Or.inr ⟨rfl, fun j hj => by rw [← e]; exact hall j hj⟩
          · exact Or.inr ⟨rfl, fun j hj => i_ltt (hall j hj) (z (h - 1) (by omega))⟩
        · exact Or.inl ⟨_, hpk, hat _ hpk⟩
      · have hpe : plc f v h = h := by omega
        rw [adL_full (by omega)]
        refine ⟨h1, h2, fun i hi => Or.inl (h3 i hi), fun x hx => ?_⟩
        rcases hx with hx | rfl
        · exact h4 x hx
        · exact Or.inr ⟨rfl, fun i hi => hlo i (by omega)⟩
theorem JL.ext {k : Nat} {U V : Int32 → Prop} {f : Nat → Int32} {h : Nat} (A : JL k U f h) (e : ∀ x, U x ↔ V x) : JL k V f h :=
  ⟨A.1, A.2.1, fun i hi => (e _).mp (A.2.2.1 i hi), fun x hx => A.2.2.2 x ((e x).mpr hx)⟩
theorem JL.join {k : Nat} {U : Int32 → Prop} {g : Nat → Int32} {S : (Nat → Int32) × Nat} (hk : 1 ≤ k) (A : JL k U S.1 S.2) (n : Nat) : JL k (fun x => U x ∨ ∃ j, j < n ∧ g j = x) (jnL k g S n).1 (jnL k g S n).2 := by
  induction n with
  | zero => exact JL.ext A (fun x => ⟨Or.inl, fun q => q.elim id (fun ⟨j, hj, _⟩ => absurd hj (Nat.not_lt_zero _))⟩)
  | succ n ih =>
    refine JL.ext (JL.add (g n) hk ih) (fun x => ?_)
    constructor
    · rintro ((q | ⟨j, hj, e⟩) | rfl)
      · exact Or.inl q
      · exact Or.inr ⟨j, by omega, e⟩
      · exact Or.inr ⟨n, by omega, rfl⟩
    · rintro (q | ⟨j, hj, e⟩)
      · exact Or.inl (Or.inl q)
      · by_cases z : j = n
        · subst z; exact Or.inr e.symm
        · exact Or.inl (Or.inr ⟨j, by omega, e⟩)
theorem JL.self {k : Nat} {f : Nat → Int32} {h : Nat} (h1 : upR f h) (hk : h ≤ k) : JL k (fun x => ∃ i, i < h ∧ f i = x) f h := ⟨h1, hk, fun i hi => ⟨i, hi, rfl⟩, fun _ hx => Or.inl hx⟩
/-- LEAST: two made one, each by its own order -/
theorem LsR.joinS {k : Nat} {f u g : Nat → Int32} {h n : Nat} (hk : 1 ≤ k) (hh : h ≤ k) (H : LsR f h u) (hg : ∀ j, j < n → ∃ a : Nat, a < 65537 ∧ g j = nI a) : LsR (jnL k g (f, h) n).1 (jnL k g (f, h) n).2 (jkU k g (u, h) n).1 ∧ (jnL k g (f, h) n).2 = (jkU k g (u, h) n).2 := by
  induction n with
  | zero => exact ⟨H, rfl⟩
  | succ n ih =>
    obtain ⟨i1, i2⟩ := ih (fun j hj => hg j (by omega))
    obtain ⟨a, ha, e⟩ := hg n (by omega)
    have hl := jnL_le (k := k) (g := g) (S := (f, h)) hh n
    show LsR (adL k (g n) (jnL k g (f, h) n)).1 (adL k (g n) (jnL k g (f, h) n)).2 (kpU k (g n) (jkU k g (u, h) n)).1 ∧ (adL k (g n) (jnL k g (f, h) n)).2 = (kpU k (g n) (jkU k g (u, h) n)).2
    have ej : jkU k g (u, h) n = ((jkU k g (u, h) n).1, (jnL k g (f, h) n).2) := by rw [i2]
    rw [ej, e]
    exact LsR.add hk hl ha i1
theorem LsR.ext {f f2 u : Nat → Int32} {h : Nat} (H : LsR f h u) (e : ∀ i, i < h → f i = f2 i) : LsR f2 h u := by
  refine ⟨fun i j hi hj => ?_, fun i hi => ?_, fun Q => ?_⟩
  · rw [← e i (by omega), ← e j hj]; exact H.1 i j hi hj
  · rw [← e i hi]; exact H.2.1 i hi
  · rw [← H.2.2 Q]
    exact sw_congr h (fun i hi => by show Q (f2 i) (f2 i) = Q (f i) (f i); rw [e i hi])
theorem LsR.join {k : Nat} {f u f2 u2 : Nat → Int32} {h h2 : Nat} (hk : 1 ≤ k) (hh : h ≤ k) (H : LsR f h u) (H2 : LsR f2 h2 u2) : LsR (jnL k f2 (f, h) h2).1 (jnL k f2 (f, h) h2).2 (jkU k u2 (u, h) h2).1 ∧ (jnL k f2 (f, h) h2).2 = (jkU k u2 (u, h) h2).2 := by
  have hb : ∀ j, j < h2 → ∃ a : Nat, a < 65537 ∧ u2 j = nI a := by
    intro j hj
    obtain ⟨i, hi, e, _⟩ := H2.2.2.symm.to hj
    obtain ⟨a, ha, e2⟩ := H2.2.1 i hi
    exact ⟨a, ha, e.symm.trans e2⟩
  obtain ⟨a1, a2⟩ := LsR.joinS (g := u2) hk hh H hb
  have b1 := JL.join (g := f2) (S := (f, h)) hk (JL.self H.1 hh) h2
  have b2 := JL.join (g := u2) (S := (f, h)) hk (JL.self H.1 hh) h2
  have b3 := JL.ext b2 (V := fun x => (∃ i, i < h ∧ f i = x) ∨ ∃ j, j < h2 ∧ f2 j = x) (fun x => by rw [ce_in H2.2.2])
  obtain ⟨c1, c2⟩ := JL.same b3 b1
  refine ⟨?_, c1.symm.trans a2⟩
  rw [← c1]
  exact LsR.ext a1 c2
/-! what is told of it -/
theorem LsR.has {f u : Nat → Int32} {h : Nat} (H : LsR f h u) (v : Int32) : (stL f h v → hsU u v h = 1) ∧ (¬ stL f h v → hsU u v h = 0) := by
  have hs : ∀ n, hsU u v n = if ∃ j, j < n ∧ u j = v then 1 else 0 := by
    intro n
    induction n with
    | zero => rw [if_neg (fun ⟨j, hj, _⟩ => absurd hj (Nat.not_lt_zero _))]; rfl
    | succ n ih =>
      rw [hsU]
      by_cases e : u n = v
      · rw [if_pos e, if_pos ⟨n, by omega, e⟩]
      · rw [if_neg e, ih]
        by_cases z : ∃ j, j < n ∧ u j = v
        · obtain ⟨j, hj, ej⟩ := z
          rw [if_pos ⟨j, hj, ej⟩, if_pos ⟨j, by omega, ej⟩]
        · rw [if_neg z, if_neg]
          rintro ⟨j, hj, ej⟩
          by_cases y : j = n
          · subst y; exact e ej
          · exact z ⟨j, by omega, ej⟩
  have hin : stL f h v ↔ ∃ j, j < h ∧ u j = v := (plc_in H.1).trans (ce_in H.2.2)
  rw [hs h]
  exact ⟨fun q => if_pos (hin.mp q), fun q => if_neg (fun z => q (hin.mpr z))⟩
theorem bf_up {f : Nat → Int32} {h i : Nat} (H : upR f h) (hi : i < h) : ∀ n, n ≤ h → sw (fun m => if f m < f i then 1 else 0) n = min n i := by
  intro n
  induction n with
  | zero => intro _; rw [Nat.zero_min]; rfl
  | succ n ih =>
    intro hn
    rw [sw, ih (by omega)]
    by_cases q : n < i
    · rw [if_pos (H n i q hi)]; omega
    · have : ¬ f n < f i := by
        by_cases e : n = i
        · rw [e]; exact fun z => i_irr z
        · exact fun z => i_irr (i_ltt z (H i n (by omega) (by omega)))
      rw [if_neg this]; omega
theorem bfU_sw (u : Nat → Int32) (k n : Nat) : bfU u k n = sw (fun m => if u m < u k then 1 else 0) n := by
  induction n with
  | zero => rfl
  | succ n ih =>
    rw [bfU, sw, ← ih]
    split <;> rfl
/-- the place of a KEY in the rising row is how many the reference finds below it -/
theorem rank_ce {f g u v : Nat → Int32} {h kz : Nat} (H : upR f h) (C : CE f g h u v h) (hk : kz < h) : ∃ i, i < h ∧ bfU u kz h = i ∧ f i = u kz ∧ g i = v kz := by
  obtain ⟨i, hi, e, e2⟩ := C.symm.to hk
  refine ⟨i, hi, ?_, e, e2⟩
  rw [bfU_sw, ← C (fun a _ => if a < u kz then 1 else 0), ← e, bf_up H hi h (Nat.le_refl _)]
  omega
theorem rank_ex {f g u v : Nat → Int32} {h i : Nat} (H : upR f h) (C : CE f g h u v h) (hi : i < h) : ∃ kz, kz < h ∧ bfU u kz h = i ∧ f i = u kz ∧ g i = v kz := by
  obtain ⟨kz, hk, e, e2⟩ := C.to hi
  obtain ⟨j, hj, e3, e4, e5⟩ := rank_ce H C hk
  have : j = i := H.inj hj hi (by rw [e4, e])
  subst this
  exact ⟨kz, hk, e3, e4, e5⟩
theorem mxU_ge (u : Nat → Int32) : ∀ n j, j < n → u j ≤ mxU u n := by
  intro n
  induction n with
  | zero => intro j hj; exact absurd hj (Nat.not_lt_zero _)
  | succ n ih =>
    intro j hj
    rw [mxU]
    by_cases q : u n ≤ mxU u n
    · rw [if_pos q]
      by_cases e : j = n
      · rw [e]; exact q
      · exact ih j (by omega)
    · rw [if_neg q]
      by_cases e : j = n
      · rw [e]; exact Int32.le_refl _
      · have := ih j (by omega)
        rw [i_le] at *
        omega
theorem mxU_at (u : Nat → Int32) : ∀ n, mxU u n = nI 0 ∨ ∃ j, j < n ∧ u j = mxU u n := by
  intro n
  induction n with
  | zero => exact Or.inl rfl
  | succ n ih =>
    rw [mxU]
    by_cases q : u n ≤ mxU u n
    · rw [if_pos q]
      rcases ih with z | ⟨j, hj, e⟩
      · exact Or.inl z
      · exact Or.inr ⟨j, by omega, e⟩
    · rw [if_neg q]
      exact Or.inr ⟨n, by omega, rfl⟩
theorem LsR.mx {f u : Nat → Int32} {h : Nat} (H : LsR f h u) (h2 : 2 ≤ h) : mxU u h = f (h - 1) ∧ nI 1 ≤ f (h - 1) := by
  obtain ⟨a, ha, ea⟩ := H.2.1 0 (by omega)
  obtain ⟨b, hb, eb⟩ := H.2.1 (h - 1) (by omega)
  have h3 := H.1 0 (h - 1) (by omega) (by omega)
  rw [ea, eb, nI_ltI (by omega) (by omega)] at h3
  obtain ⟨j, hj, e, _⟩ := H.2.2.to (show h - 1 < h by omega)
  have h4 := mxU_ge u h j hj
  rw [e] at h4
  constructor
  · rcases mxU_at u h with z | ⟨j2, hj2, e2⟩
    · rw [z, eb, nI_leI (by omega) (by omega)] at h4
      omega
    · obtain ⟨i, hi, e3, _⟩ := H.2.2.symm.to hj2
      have h5 : f i ≤ f (h - 1) := by
        by_cases z : i = h - 1
        · rw [z]; exact Int32.le_refl _
        · have := H.1 i (h - 1) (by omega) (by omega)
          rw [i_lt] at this
          rw [i_le]
          omega
      rw [e3, e2] at h5
      rw [i_le] at h4 h5
      rw [i_eq]
      omega
  · rw [eb, nI_leI (by omega) (by omega)]
    omega
