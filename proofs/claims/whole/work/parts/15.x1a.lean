/-! ===== HEAVY: COUNTERS in two rows ===== -/
abbrev hvT : Type := (Nat → Int32) × (Nat → Int32) × Nat
def adH (x n : Int32) (S : hvT) : hvT :=
  if plc S.1 x S.2.2 < S.2.2 ∧ S.1 (plc S.1 x S.2.2) = x then (S.1, upd S.2.1 (plc S.1 x S.2.2) (S.2.1 (plc S.1 x S.2.2) + n), S.2.2) else (insA S.1 (plc S.1 x S.2.2) (S.2.2 + 1) x, insA S.2.1 (plc S.1 x S.2.2) (S.2.2 + 1) n, S.2.2 + 1)
theorem adH_yes {x n : Int32} {f g : Nat → Int32} {h : Nat} (q : plc f x h < h ∧ f (plc f x h) = x) : adH x n (f, g, h) = (f, upd g (plc f x h) (g (plc f x h) + n), h) := by
  unfold adH
  exact if_pos q
theorem adH_no {x n : Int32} {f g : Nat → Int32} {h : Nat} (q : ¬ (plc f x h < h ∧ f (plc f x h) = x)) : adH x n (f, g, h) = (insA f (plc f x h) (h + 1) x, insA g (plc f x h) (h + 1) n, h + 1) := by
  unfold adH
  exact if_neg q
theorem adH_le (x n : Int32) (S : hvT) : (adH x n S).2.2 ≤ S.2.2 + 1 := by
  unfold adH
  split
  · exact Nat.le_succ _
  · exact Nat.le_refl _
def lsN (g : Nat → Int32) (lim : Int32) : Nat → Int32
  | 0 => lim
  | i + 1 => if g i < lsN g lim i then g i else lsN g lim i
def lwH (f g : Nat → Int32) (d : Int32) : Nat → hvT
  | 0 => (f, g, 0)
  | i + 1 => if (lwH f g d i).2.1 i ≤ d then lwH f g d i else (upd (lwH f g d i).1 (lwH f g d i).2.2 ((lwH f g d i).1 i), upd (lwH f g d i).2.1 (lwH f g d i).2.2 ((lwH f g d i).2.1 i - d), (lwH f g d i).2.2 + 1)
theorem lwH_skip {f g : Nat → Int32} {d : Int32} {i : Nat} (h : (lwH f g d i).2.1 i ≤ d) : lwH f g d (i + 1) = lwH f g d i := by rw [lwH, if_pos h]
theorem lwH_keep {f g : Nat → Int32} {d : Int32} {i : Nat} (h : ¬ (lwH f g d i).2.1 i ≤ d) : lwH f g d (i + 1) = (upd (lwH f g d i).1 (lwH f g d i).2.2 ((lwH f g d i).1 i), upd (lwH f g d i).2.1 (lwH f g d i).2.2 ((lwH f g d i).2.1 i - d), (lwH f g d i).2.2 + 1) := by rw [lwH, if_neg h]
theorem lwH_le (f g : Nat → Int32) (d : Int32) : ∀ i, (lwH f g d i).2.2 ≤ i
  | 0 => Nat.le_refl _
  | i + 1 => by
    have := lwH_le f g d i
    by_cases h : (lwH f g d i).2.1 i ≤ d
    · rw [lwH_skip h]; omega
    · rw [lwH_keep h]; show (lwH f g d i).2.2 + 1 ≤ i + 1; omega
def hnB (g : Nat → Int32) (v : Int32) : Nat → Nat
  | 0 => 0
  | i + 1 => if g i < v then hnB g v i else hnB g v i + 1
theorem hnB_le (g : Nat → Int32) (v : Int32) : ∀ n, hnB g v n ≤ n
  | 0 => Nat.le_refl _
  | n + 1 => by
    have := hnB_le g v n
    unfold hnB
    split <;> omega
theorem hnB_z {g : Nat → Int32} {v : Int32} {n : Nat} (h : g n < v) : hnB g v (n + 1) = hnB g v n := by simp [hnB, h]
theorem hnB_s {g : Nat → Int32} {v : Int32} {n : Nat} (h : ¬ g n < v) : hnB g v (n + 1) = hnB g v n + 1 := by simp [hnB, h]
def fnH (g : Nat → Int32) (k h : Nat) : Nat → Int32
  | 0 => nI 0
  | i + 1 => if ¬ g i ≤ fnH g k h i ∧ k < hnB g (g i) h then g i else fnH g k h i
def jnH (f2 g2 : Nat → Int32) (S : hvT) : Nat → hvT
  | 0 => S
  | i + 1 => adH (f2 i) (g2 i) (jnH f2 g2 S i)
theorem jnH_le (f2 g2 : Nat → Int32) (S : hvT) : ∀ i, (jnH f2 g2 S i).2.2 ≤ S.2.2 + i
  | 0 => Nat.le_refl _
  | i + 1 => by
    have h1 := jnH_le f2 g2 S i
    have h2 := adH_le (f2 i) (g2 i) (jnH f2 g2 S i)
    show (adH (f2 i) (g2 i) (jnH f2 g2 S i)).2.2 ≤ _
    omega
def alH (f g : Nat → Int32) (h : Nat) (x : Int32) : Int32 := if plc f x h < h ∧ f (plc f x h) = x then g (plc f x h) else nI 0
/-- x comes n times -/
def tkH (k : Nat) (x n : Int32) (S : hvT) (lo : Int32) : hvT × Int32 :=
  if k ≤ S.2.2 ∧ ¬ (plc S.1 x S.2.2 < S.2.2 ∧ S.1 (plc S.1 x S.2.2) = x) then
    (if n - lsN S.2.1 n S.2.2 ≤ 0 then lwH S.1 S.2.1 (lsN S.2.1 n S.2.2) S.2.2 else adH x (n - lsN S.2.1 n S.2.2) (lwH S.1 S.2.1 (lsN S.2.1 n S.2.2) S.2.2), lo + lsN S.2.1 n S.2.2)
  else (if n ≤ 0 then S else adH x n S, lo)
/-- two made one -/
def mgH (k : Nat) (f2 g2 : Nat → Int32) (h2 : Nat) (lo2 : Int32) (S : hvT) (lo : Int32) : hvT × Int32 :=
  if k < (jnH f2 g2 S h2).2.2 then
    (lwH (jnH f2 g2 S h2).1 (jnH f2 g2 S h2).2.1 (fnH (jnH f2 g2 S h2).2.1 k (jnH f2 g2 S h2).2.2 (jnH f2 g2 S h2).2.2) (jnH f2 g2 S h2).2.2, lo + lo2 + fnH (jnH f2 g2 S h2).2.1 k (jnH f2 g2 S h2).2.2 (jnH f2 g2 S h2).2.2)
  else (jnH f2 g2 S h2, lo + lo2)
theorem pt01 {x : Int32} (h0 : ¬ x < 0) (h1 : x ≤ nI 1) (h2 : ¬ x = 0) : x = 1 := by
  obtain ⟨a, ha, rfl⟩ := nI_of h0
  have := (nI_leI (by omega) (by omega)).mp h1
  rcases (show a = 0 ∨ a = 1 by omega) with rfl | rfl
  · exact absurd nI_0 h2
  · decide
theorem pt_gt {x : Int32} (h : ¬ x ≤ nI 1) : ¬ (x = 0 ∨ x = 1) := by
  rintro (rfl | rfl) <;> exact h (by decide)
theorem pt_lt {x : Int32} (h : x < 0) : ¬ (x = 0 ∨ x = 1) := by
  rintro (rfl | rfl) <;> exact absurd h (by decide)
