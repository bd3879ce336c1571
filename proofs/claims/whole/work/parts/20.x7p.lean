/-! ===== the reference's rows, as plain words ===== -/
theorem tne {tg : Nat → Nat} {a b i j : Nat} (ha : tg a = i) (hb : tg b = j) (h : i ≠ j) : a ≠ b := by
  intro e
  subst e
  exact h (ha.symm.trans hb)
theorem in_rg {x : Int32} {n : Nat} (hn : n < 2147483647) : (nI 0 ≤ x ∧ x ≤ nI n) ↔ rg n x := by
  constructor
  · rintro ⟨h1, h2⟩
    exact rg_in hn (Int32.not_lt.mpr (by rw [← nI_0]; exact h1)) (Int32.not_lt.mpr h2)
  · rintro ⟨a, ha, rfl⟩
    exact ⟨(nI_leI (by omega) (by omega)).mpr (Nat.zero_le _), (nI_leI (by omega) (by omega)).mpr ha⟩
theorem in_rp {x : Int32} {lo hi : Nat} (hn : lo < 2147483647 ∧ hi < 2147483647) : (nI lo ≤ x ∧ x ≤ nI hi) ↔ rp lo hi x := by
  constructor
  · rintro ⟨h1, h2⟩
    exact rp_in hn (Int32.not_lt.mpr h1) (Int32.not_lt.mpr h2)
  · rintro ⟨a, h1, h2, rfl⟩
    exact ⟨(nI_leI (by omega) (by omega)).mpr h1, (nI_leI (by omega) (by omega)).mpr h2⟩
theorem in_ix {s : Int32} {md : Nat} (hmd : md ≤ 100000) : (nI 0 ≤ s ∧ s ≤ nI md - nI 1) ↔ ixN md s := by
  constructor
  · rintro ⟨h1, h2⟩
    have h0 : ¬ s < 0 := Int32.not_lt.mpr (by rw [← nI_0]; exact h1)
    obtain ⟨a, ha, rfl⟩ := nI_of h0
    refine ⟨a, ?_, rfl⟩
    rw [Int32.le_iff_toInt_le, pk_sub_toInt (by omega) (by omega), nI_toInt ha] at h2
    omega
  · rintro ⟨a, ha, rfl⟩
    refine ⟨(nI_leI (by omega) (by omega)).mpr (Nat.zero_le _), ?_⟩
    rw [Int32.le_iff_toInt_le, pk_sub_toInt (by omega) (by omega), nI_toInt (by omega)]
    omega
/-- nothing but the part of SKETCH s has changed -/
def outS (ro ro1 : Nat → Int32) (s : Nat) : Prop := ∀ z, (z < 1200 * s ∨ 1200 * s + 1200 ≤ z) → ro1 z = ro z
theorem outS.rf (ro : Nat → Int32) (s : Nat) : outS ro ro s := fun _ _ => rfl
theorem outS.tr {a b c : Nat → Int32} {s : Nat} (h1 : outS a b s) (h2 : outS b c s) : outS a c s := fun z hz => (h2 z hz).trans (h1 z hz)
theorem outS.up {ro ro1 : Nat → Int32} {s z : Nat} {v : Int32} (h : outS ro ro1 s) (h1 : 1200 * s ≤ z) (h2 : z < 1200 * s + 1200) : outS ro (upd ro1 z v) s := by
  intro y hy
  unfold upd
  rw [if_neg (by omega)]
  exact h y hy
/-- HEAVY: h COUNTERS, their KEYS f, their NUMBERS g -/
def HvM (ro : Nat → Int32) (s : Nat) (f g : Nat → Int32) (h : Nat) : Prop := ro (1200 * s) = nI h ∧ ∀ i, i < h → ro (1200 * s + 100 + 2 * i) = f i ∧ ro (1200 * s + 100 + 2 * i + 1) = g i
/-- LEAST: h HASHES -/
def LsM (ro : Nat → Int32) (s : Nat) (f : Nat → Int32) (h : Nat) : Prop := ro (1200 * s) = nI h ∧ ∀ i, i < h → ro (1200 * s + 100 + i) = f i
/-- TABLE, FILTER: n places -/
def TbM (ro : Nat → Int32) (s : Nat) (f : Nat → Int32) (n : Nat) : Prop := ∀ i, i < n → ro (1200 * s + 100 + i) = f i
theorem TbM.up {ro : Nat → Int32} {s n p : Nat} {f : Nat → Int32} {v : Int32} (h : TbM ro s f n) : TbM (upd ro (1200 * s + 100 + p) v) s (upd f p v) n := by
  intro i hi
  unfold upd
  by_cases e : i = p
  · rw [if_pos (by omega), if_pos e]
  · rw [if_neg (by omega), if_neg e]
    exact h i hi
/-- the first place of x among n, or n -/
def fdU (f : Nat → Int32) (x : Int32) : Nat → Nat
  | 0 => 0
  | n + 1 => if fdU f x n = n ∧ ¬ f n = x then n + 1 else fdU f x n
theorem fdU_le (f : Nat → Int32) (x : Int32) : ∀ n, fdU f x n ≤ n
  | 0 => Nat.le_refl _
  | n + 1 => by
    have := fdU_le f x n
    unfold fdU
    split <;> omega
theorem fdU_ne (f : Nat → Int32) (x : Int32) : ∀ n j, j < fdU f x n → ¬ f j = x
  | 0, j, h => absurd h (Nat.not_lt_zero _)
  | n + 1, j, h => by
    unfold fdU at h
    split at h
    · rename_i q
      by_cases hj : j = n
      · rw [hj]; exact q.2
      · exact fdU_ne f x n j (by omega)
    · exact fdU_ne f x n j h
theorem fdU_at (f : Nat → Int32) (x : Int32) : ∀ n, fdU f x n < n → f (fdU f x n) = x
  | 0, h => absurd h (Nat.not_lt_zero _)
  | n + 1, h => by
    by_cases q : fdU f x n = n ∧ ¬ f n = x
    · have e : fdU f x (n + 1) = n + 1 := by rw [fdU, if_pos q]
      omega
    · have e : fdU f x (n + 1) = fdU f x n := by rw [fdU, if_neg q]
      rw [e]
      by_cases hn : fdU f x n < n
      · exact fdU_at f x n hn
      · have hle := fdU_le f x n
        have hp : fdU f x n = n := by omega
        rw [hp]
        exact Classical.byContradiction fun z => q ⟨hp, z⟩
theorem fdU_uniq {f : Nat → Int32} {x : Int32} {n p : Nat} (h1 : p ≤ n) (h2 : ∀ j, j < p → ¬ f j = x) (h3 : p < n → f p = x) : p = fdU f x n := by
  have a1 := fdU_le f x n
  have a2 := fdU_ne f x n
  have a3 := fdU_at f x n
  rcases Nat.lt_trichotomy p (fdU f x n) with h | h | h
  · exact absurd (h3 (by omega)) (a2 p h)
  · exact h
  · exact absurd (a3 (by omega)) (h2 _ h)
def addU (x n : Int32) (S : hvT) : hvT :=
  if fdU S.1 x S.2.2 < S.2.2 then (S.1, upd S.2.1 (fdU S.1 x S.2.2) (S.2.1 (fdU S.1 x S.2.2) + n), S.2.2) else (upd S.1 S.2.2 x, upd S.2.1 S.2.2 (nI 0 + n), S.2.2 + 1)
theorem addU_le (x n : Int32) (S : hvT) : (addU x n S).2.2 ≤ S.2.2 + 1 := by
  unfold addU
  split
  · exact Nat.le_succ _
  · exact Nat.le_refl _
theorem HvM.add {ro : Nat → Int32} {s : Nat} {f g : Nat → Int32} {h p : Nat} {v : Int32} (H : HvM ro s f g h) (hp : p < h) : HvM (upd ro (1200 * s + 100 + 2 * p + 1) v) s f (upd g p v) h := by
  refine ⟨?_, fun i hi => ⟨?_, ?_⟩⟩
  · unfold upd; rw [if_neg (by omega)]; exact H.1
  · unfold upd; rw [if_neg (by omega)]; exact (H.2 i hi).1
  · unfold upd
    by_cases e : i = p
    · rw [if_pos (by omega), if_pos e]
    · rw [if_neg (by omega), if_neg e]; exact (H.2 i hi).2
theorem HvM.new {ro : Nat → Int32} {s : Nat} {f g : Nat → Int32} {h : Nat} {x u v : Int32} (H : HvM ro s f g h) : HvM (upd (upd (upd (upd ro (1200 * s + 100 + 2 * h) x) (1200 * s + 100 + 2 * h + 1) u) (1200 * s) (nI (h + 1))) (1200 * s + 100 + 2 * h + 1) v) s (upd f h x) (upd g h v) (h + 1) := by
  refine ⟨?_, fun i hi => ?_⟩
  · unfold upd; rw [if_neg (by omega), if_pos rfl]
  · by_cases e : i = h
    · subst e
      constructor
      · unfold upd; rw [if_neg (by omega), if_neg (by omega), if_neg (by omega), if_pos rfl, if_pos rfl]
      · unfold upd; rw [if_pos rfl, if_pos rfl]
    · constructor
      · unfold upd; rw [if_neg (by omega), if_neg (by omega), if_neg (by omega), if_neg (by omega), if_neg e]; exact (H.2 i (by omega)).1
      · unfold upd; rw [if_neg (by omega), if_neg (by omega), if_neg (by omega), if_neg (by omega), if_neg e]; exact (H.2 i (by omega)).2
def lessU (f g : Nat → Int32) (d : Int32) : Nat → hvT
  | 0 => (f, g, 0)
  | i + 1 => if (lessU f g d i).2.1 i - d ≤ 0 then lessU f g d i else (upd (lessU f g d i).1 (lessU f g d i).2.2 ((lessU f g d i).1 i), upd (lessU f g d i).2.1 (lessU f g d i).2.2 ((lessU f g d i).2.1 i - d), (lessU f g d i).2.2 + 1)
theorem lessU_skip {f g : Nat → Int32} {d : Int32} {i : Nat} (h : (lessU f g d i).2.1 i - d ≤ 0) : lessU f g d (i + 1) = lessU f g d i := by rw [lessU, if_pos h]
theorem lessU_keep {f g : Nat → Int32} {d : Int32} {i : Nat} (h : ¬ (lessU f g d i).2.1 i - d ≤ 0) : lessU f g d (i + 1) = (upd (lessU f g d i).1 (lessU f g d i).2.2 ((lessU f g d i).1 i), upd (lessU f g d i).2.1 (lessU f g d i).2.2 ((lessU f g d i).2.1 i - d), (lessU f g d i).2.2 + 1) := by rw [lessU, if_neg h]
theorem lessU_le (f g : Nat → Int32) (d : Int32) : ∀ i, (lessU f g d i).2.2 ≤ i
  | 0 => Nat.le_refl _
  | i + 1 => by
    have := lessU_le f g d i
    by_cases h : (lessU f g d i).2.1 i - d ≤ 0
    · rw [lessU_skip h]; omega
    · rw [lessU_keep h]; show (lessU f g d i).2.2 + 1 ≤ i + 1; omega
theorem HvM.mv {ro : Nat → Int32} {s : Nat} {f g : Nat → Int32} {h p : Nat} {u v : Int32} (H : HvM ro s f g h) (hp : p < h) : HvM (upd (upd ro (1200 * s + 100 + 2 * p) u) (1200 * s + 100 + 2 * p + 1) v) s (upd f p u) (upd g p v) h := by
  refine ⟨?_, fun i hi => ?_⟩
  · unfold upd; rw [if_neg (by omega), if_neg (by omega)]; exact H.1
  · by_cases e : i = p
    · subst e
      constructor
      · unfold upd; rw [if_neg (by omega), if_pos rfl, if_pos rfl]
      · unfold upd; rw [if_pos rfl, if_pos rfl]
    · constructor
      · unfold upd; rw [if_neg (by omega), if_neg (by omega), if_neg e]; exact (H.2 i hi).1
      · unfold upd; rw [if_neg (by omega), if_neg (by omega), if_neg e]; exact (H.2 i hi).2
theorem HvM.cut {ro : Nat → Int32} {s : Nat} {f g : Nat → Int32} {h q : Nat} (H : HvM ro s f g h) (hq : q ≤ h) : HvM (upd ro (1200 * s) (nI q)) s f g q := by
  refine ⟨by unfold upd; rw [if_pos rfl], fun i hi => ?_⟩
  unfold upd
  rw [if_neg (by omega), if_neg (by omega)]
  exact H.2 i (by omega)
/-- what stands in the part of another SKETCH stays -/
theorem HvM.out {ro ro1 : Nat → Int32} {a b : Nat} {f g : Nat → Int32} {h : Nat} (H : HvM ro b f g h) (ho : outS ro ro1 a) (hab : a ≠ b) (hh : h ≤ 500) : HvM ro1 b f g h := by
  refine ⟨(ho _ (by omega)).trans H.1, fun i hi => ⟨(ho _ (by omega)).trans (H.2 i hi).1, (ho _ (by omega)).trans (H.2 i hi).2⟩⟩
