/-! ===== the reference's readers, as plain words ===== -/
def mxU (f : Nat → Int32) : Nat → Int32
  | 0 => nI 0
  | i + 1 => if f i ≤ mxU f i then mxU f i else f i
def mn1 (f : Nat → Int32) (sd x c : Nat) : Nat → Int32
  | 0 => f (0 * c + hsN sd 0 x % c)
  | j + 1 => if f ((j + 1) * c + hsN sd (j + 1) x % c) < mn1 f sd x c j then f ((j + 1) * c + hsN sd (j + 1) x % c) else mn1 f sd x c j
/-- the part of SKETCH s is 0 up to n -/
def zrM (ro : Nat → Int32) (s n : Nat) : Nat → Int32 := fun z => if 1200 * s ≤ z ∧ z < 1200 * s + n then 0 else ro z
theorem zrM_0 (ro : Nat → Int32) (s : Nat) : zrM ro s 0 = ro := by
  funext z
  unfold zrM
  rw [if_neg (by omega)]
theorem zrM_s (ro : Nat → Int32) (s n : Nat) : upd (zrM ro s n) (1200 * s + n) (nI 0) = zrM ro s (n + 1) := by
  funext z
  unfold upd zrM
  by_cases h : z = 1200 * s + n
  · rw [if_pos h, if_pos (by omega), nI_0]
  · rw [if_neg h]
    by_cases h2 : 1200 * s ≤ z ∧ z < 1200 * s + n
    · rw [if_pos h2, if_pos (by omega)]
    · rw [if_neg h2, if_neg (by omega)]
theorem zrM_out (ro : Nat → Int32) (s : Nat) : outS ro (zrM ro s 1200) s := by
  intro z hz
  unfold zrM
  rw [if_neg (by omega)]
/-- the part of SKETCH s stands in that of t too, up to n -/
def cpM (ro : Nat → Int32) (s t n : Nat) : Nat → Int32 := fun z => if 1200 * t ≤ z ∧ z < 1200 * t + n then ro (1200 * s + (z - 1200 * t)) else ro z
theorem cpM_0 (ro : Nat → Int32) (s t : Nat) : cpM ro s t 0 = ro := by
  funext z
  unfold cpM
  rw [if_neg (by omega)]
theorem cpM_s (ro : Nat → Int32) {s t n : Nat} (hn : n < 1200) (hst : s ≠ t) : upd (cpM ro s t n) (1200 * t + n) (cpM ro s t n (1200 * s + n)) = cpM ro s t (n + 1) := by
  have e : cpM ro s t n (1200 * s + n) = ro (1200 * s + n) := by unfold cpM; rw [if_neg (by omega)]
  rw [e]
  funext z
  unfold upd cpM
  by_cases h : z = 1200 * t + n
  · rw [if_pos h, if_pos (by omega)]
    congr 1
    omega
  · rw [if_neg h]
    by_cases h2 : 1200 * t ≤ z ∧ z < 1200 * t + n
    · rw [if_pos h2, if_pos (by omega)]
    · rw [if_neg h2, if_neg (by omega)]
theorem cpM_out (ro : Nat → Int32) (s t : Nat) : outS ro (cpM ro s t 1200) t := by
  intro z hz
  unfold cpM
  rw [if_neg (by omega)]
