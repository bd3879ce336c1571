/-! ===== LEAST: rising rows ===== -/
/-- the length of the longest beginning of the first n that is below v -/
def plc (f : Nat → Int32) (v : Int32) : Nat → Nat
  | 0 => 0
  | n + 1 => if plc f v n = n ∧ f n < v then n + 1 else plc f v n
theorem plc_le (f : Nat → Int32) (v : Int32) : ∀ n, plc f v n ≤ n
  | 0 => Nat.le_refl _
  | n + 1 => by
    have := plc_le f v n
    unfold plc
    split <;> omega
theorem plc_below (f : Nat → Int32) (v : Int32) : ∀ n j, j < plc f v n → f j < v
  | 0, j, h => absurd h (Nat.not_lt_zero _)
  | n + 1, j, h => by
    unfold plc at h
    split at h
    · rename_i q
      by_cases hj : j = n
      · rw [hj]; exact q.2
      · exact plc_below f v n j (by omega)
    · exact plc_below f v n j h
theorem plc_stop (f : Nat → Int32) (v : Int32) : ∀ n, plc f v n < n → ¬ f (plc f v n) < v
  | 0, h => absurd h (Nat.not_lt_zero _)
  | n + 1, h => by
    by_cases q : plc f v n = n ∧ f n < v
    · have e : plc f v (n + 1) = n + 1 := by rw [plc, if_pos q]
      omega
    · have e : plc f v (n + 1) = plc f v n := by rw [plc, if_neg q]
      rw [e]
      by_cases hn : plc f v n < n
      · exact plc_stop f v n hn
      · have hle := plc_le f v n
        have hp : plc f v n = n := by omega
        intro hq
        exact q ⟨hp, by rw [hp] at hq; exact hq⟩
theorem plc_uniq {f : Nat → Int32} {v : Int32} {n p : Nat} (h1 : p ≤ n) (h2 : ∀ j, j < p → f j < v) (h3 : p < n → ¬ f p < v) : p = plc f v n := by
  have a1 := plc_le f v n
  have a2 := plc_below f v n
  have a3 := plc_stop f v n
  rcases Nat.lt_trichotomy p (plc f v n) with h | h | h
  · exact absurd (a2 p h) (h3 (by omega))
  · exact h
  · exact absurd (h2 _ h) (a3 (by omega))
theorem mn_nI {a b : Nat} (ha : a < 2147483648) (hb : b < 2147483648) : (if nI b < nI a then nI b else nI a) = nI (min a b) := by
  by_cases h : b < a
  · rw [if_pos ((nI_ltI hb ha).mpr h), Nat.min_eq_right (Nat.le_of_lt h)]
  · rw [if_neg (fun q => h ((nI_ltI hb ha).mp q)), Nat.min_eq_left (by omega)]
/-- v comes to place p, those from p on go one up, below m -/
def insA (f : Nat → Int32) (p m : Nat) (v : Int32) : Nat → Int32 := fun i => if i < p then f i else if i = p then v else if i < m then f (i - 1) else f i
def shD (f : Nat → Int32) (m i : Nat) : Nat → Int32 := fun z => if i < z ∧ z < m then f (z - 1) else f z
theorem shD_0 (f : Nat → Int32) {m i : Nat} (h : m ≤ i + 1) : shD f m i = f := by
  funext z
  unfold shD
  rw [if_neg (by omega)]
theorem shD_s (f : Nat → Int32) {m i : Nat} (h0 : 0 < i) (h : i < m) : upd (shD f m i) i (shD f m i (i - 1)) = shD f m (i - 1) := by
  funext z
  unfold upd
  by_cases hz : z = i
  · subst hz
    rw [if_pos rfl]
    unfold shD
    rw [if_neg (by omega), if_pos ⟨by omega, h⟩]
  · rw [if_neg hz]
    unfold shD
    by_cases h1 : i < z ∧ z < m
    · rw [if_pos h1, if_pos ⟨by omega, h1.2⟩]
    · rw [if_neg h1, if_neg (by omega)]
theorem shD_e (f : Nat → Int32) (p m : Nat) (v : Int32) : upd (shD f m p) p v = insA f p m v := by
  funext z
  unfold upd insA shD
  by_cases h1 : z = p
  · subst h1; simp
  · by_cases h2 : z < p
    · rw [if_neg h1, if_pos h2, if_neg (by omega)]
    · rw [if_neg h1, if_neg h2, if_neg h1]
      by_cases h3 : z < m
      · rw [if_pos ⟨by omega, h3⟩, if_pos h3]
      · rw [if_neg (by omega), if_neg h3]
/-- LEAST: a HASH comes -/
def adL (k : Nat) (v : Int32) (S : (Nat → Int32) × Nat) : (Nat → Int32) × Nat :=
  if plc S.1 v S.2 < k ∧ ¬ (plc S.1 v S.2 < S.2 ∧ S.1 (plc S.1 v S.2) = v) then (insA S.1 (plc S.1 v S.2) (min (S.2 + 1) k) v, min (S.2 + 1) k) else S
theorem adL_yes {k : Nat} {v : Int32} {f : Nat → Int32} {h : Nat} (h1 : plc f v h < k) (h2 : ¬ (plc f v h < h ∧ f (plc f v h) = v)) : adL k v (f, h) = (insA f (plc f v h) (min (h + 1) k) v, min (h + 1) k) := by
  unfold adL
  exact if_pos ⟨h1, h2⟩
theorem adL_full {k : Nat} {v : Int32} {f : Nat → Int32} {h : Nat} (h1 : k ≤ plc f v h) : adL k v (f, h) = (f, h) := by
  unfold adL
  exact if_neg (fun q => absurd q.1 (Nat.not_lt.mpr h1))
theorem adL_same {k : Nat} {v : Int32} {f : Nat → Int32} {h : Nat} (h2 : plc f v h < h ∧ f (plc f v h) = v) : adL k v (f, h) = (f, h) := by
  unfold adL
  exact if_neg (fun q => q.2 h2)
theorem adL_le {k : Nat} {v : Int32} {S : (Nat → Int32) × Nat} (h : S.2 ≤ k) : (adL k v S).2 ≤ k := by
  unfold adL
  split
  · exact Nat.min_le_right _ _
  · exact h
def jnL (k : Nat) (g : Nat → Int32) (S : (Nat → Int32) × Nat) : Nat → (Nat → Int32) × Nat
  | 0 => S
  | i + 1 => adL k (g i) (jnL k g S i)
theorem jnL_le {k : Nat} {g : Nat → Int32} {S : (Nat → Int32) × Nat} (h : S.2 ≤ k) : ∀ i, (jnL k g S i).2 ≤ k
  | 0 => h
  | i + 1 => adL_le (jnL_le h i)
def stL (f : Nat → Int32) (h : Nat) (v : Int32) : Prop := plc f v h < h ∧ f (plc f v h) = v
def dkL (f : Nat → Int32) (h k : Nat) : Int32 := if h < k then nI h else if nI 1 ≤ f (h - 1) then nI ((k - 1) * 65537) / f (h - 1) else nI h
