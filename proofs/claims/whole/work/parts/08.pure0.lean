/-! ===== plain words for what the methods answer ===== -/
/-- HASH j of KEY x by SEED s -/
def hsN (s j x : Nat) : Nat := ((1 + 31 * s + 977 * j) * (x + 1) + 4391 * j + 7 * s) % 65537
theorem hsN_lt (s j x : Nat) : hsN s j x < 65537 := Nat.mod_lt _ (by decide)
theorem hs_bd {s j x : Nat} (hs : s ≤ 999) (hj : j ≤ 3) (hx : x ≤ 9999) : (1 + 31 * s + 977 * j) * (x + 1) + 4391 * j + 7 * s < 400000000 := by
  have h1 : 1 + 31 * s + 977 * j ≤ 33901 := by omega
  have h2 : x + 1 ≤ 10000 := by omega
  have h3 := Nat.mul_le_mul h1 h2
  omega
/-- x is one of 0 .. n -/
def rg (n : Nat) (x : Int32) : Prop := ∃ a : Nat, a ≤ n ∧ x = nI a
theorem rg_lt {x : Int32} {n : Nat} (hn : n < 2147483647) (h : x < 0) : ¬ rg n x := by
  rintro ⟨a, ha, rfl⟩
  exact nI_pos (by omega) h
theorem rg_gt {x : Int32} {n : Nat} (hn : n < 2147483647) (h : nI n < x) : ¬ rg n x := by
  rintro ⟨a, ha, rfl⟩
  have := (nI_ltI (by omega) (by omega)).mp h
  omega
theorem rg_ge {x : Int32} {n : Nat} (hn : n < 2147483647) (h : nI (n + 1) ≤ x) : ¬ rg n x := by
  rintro ⟨a, ha, rfl⟩
  have := (nI_leI (by omega) (by omega)).mp h
  omega
theorem rg_in {x : Int32} {n : Nat} (hn : n < 2147483647) (h0 : ¬ x < 0) (h : ¬ nI n < x) : rg n x := by
  obtain ⟨a, ha, rfl⟩ := nI_of h0
  exact ⟨a, Nat.not_lt.mp fun q => h ((nI_ltI (by omega) (by omega)).mpr q), rfl⟩
theorem rg_in' {x : Int32} {n : Nat} (hn : n < 2147483647) (h0 : ¬ x < 0) (h : ¬ nI (n + 1) ≤ x) : rg n x := by
  obtain ⟨a, ha, rfl⟩ := nI_of h0
  refine ⟨a, Nat.not_lt.mp fun q => h ((nI_leI (by omega) (by omega)).mpr q), rfl⟩
/-- how many of the first n aren't 0 -/
def cnz (f : Nat → Int32) : Nat → Nat
  | 0 => 0
  | n + 1 => if f n = 0 then cnz f n else cnz f n + 1
theorem cnz_le (f : Nat → Int32) : ∀ n, cnz f n ≤ n
  | 0 => Nat.le_refl _
  | n + 1 => by
    have := cnz_le f n
    unfold cnz
    split <;> omega
theorem cnz_z {f : Nat → Int32} {n : Nat} (h : f n = 0) : cnz f (n + 1) = cnz f n := by simp [cnz, h]
theorem cnz_s {f : Nat → Int32} {n : Nat} (h : ¬ f n = 0) : cnz f (n + 1) = cnz f n + 1 := by simp [cnz, h]
/-- the first n of f, the rest of g -/
def cpy0 (f g : Nat → Int32) (n : Nat) : Nat → Int32 := fun i => if i < n then f i else g i
theorem cpy0_0 (f g : Nat → Int32) : cpy0 f g 0 = g := by funext i; simp [cpy0]
theorem cpy0_s (f g : Nat → Int32) (n : Nat) : upd (cpy0 f g n) n (f n) = cpy0 f g (n + 1) := by
  funext i
  unfold upd cpy0
  by_cases h : i = n
  · subst h; simp
  · by_cases h2 : i < n
    · simp [h, h2, Nat.lt_succ_of_lt h2]
    · have : ¬ i < n + 1 := by omega
      simp [h, h2, this]
/-- x is one of lo .. hi -/
def rp (lo hi : Nat) (x : Int32) : Prop := ∃ a : Nat, lo ≤ a ∧ a ≤ hi ∧ x = nI a
theorem rp_lt {x : Int32} {lo hi : Nat} (hn : lo < 2147483647 ∧ hi < 2147483647) (h : x < nI lo) : ¬ rp lo hi x := by
  rintro ⟨a, h1, h2, rfl⟩
  have := (nI_ltI (by omega) (by omega)).mp h
  omega
theorem rp_gt {x : Int32} {lo hi : Nat} (hn : lo < 2147483647 ∧ hi < 2147483647) (h : nI hi < x) : ¬ rp lo hi x := by
  rintro ⟨a, h1, h2, rfl⟩
  have := (nI_ltI (by omega) (by omega)).mp h
  omega
theorem rp_in {x : Int32} {lo hi : Nat} (hn : lo < 2147483647 ∧ hi < 2147483647) (h0 : ¬ x < nI lo) (h : ¬ nI hi < x) : rp lo hi x := by
  have hx : ¬ x < 0 := by
    intro q
    rw [Int32.lt_iff_toInt_lt, nI_toInt (by omega)] at h0
    rw [Int32.lt_iff_toInt_lt, Int32.toInt_zero] at q
    omega
  obtain ⟨a, ha, rfl⟩ := nI_of hx
  exact ⟨a, Nat.not_lt.mp fun q => h0 ((nI_ltI (by omega) (by omega)).mpr q), Nat.not_lt.mp fun q => h ((nI_ltI (by omega) (by omega)).mpr q), rfl⟩
/-- i is one of 0 .. n - 1 -/
def ixN (n : Nat) (i : Int32) : Prop := ∃ a : Nat, a < n ∧ i = nI a
theorem ix_of {i : Int32} {n : Nat} (hn : n < 2147483648) (h0 : ¬ i < 0) (h : ¬ nI n ≤ i) : ixN n i := by
  obtain ⟨a, ha, rfl⟩ := nI_of h0
  exact ⟨a, Nat.not_le.mp fun q => h ((nI_leI (by omega) (by omega)).mpr q), rfl⟩
theorem ix_lt {i : Int32} {n : Nat} (hn : n < 2147483648) (h : i < 0) : ¬ ixN n i := by
  rintro ⟨a, ha, rfl⟩
  exact nI_pos (by omega) h
theorem ix_ge {i : Int32} {n : Nat} (hn : n < 2147483648) (h : nI n ≤ i) : ¬ ixN n i := by
  rintro ⟨a, ha, rfl⟩
  have := (nI_leI (by omega) (by omega)).mp h
  omega
/-- FILTER: the BITS behind the first j of a KEY's four -/
def tkF (f : Nat → Int32) (sd x b : Nat) : Nat → Nat → Int32
  | 0 => f
  | j + 1 => upd (tkF f sd x b j) (hsN sd j x % b) (nI 1)
def hlF (f : Nat → Int32) (sd x b : Nat) : Nat → Int32
  | 0 => nI 1
  | j + 1 => hlF f sd x b j &&& f (hsN sd j x % b)
def jnO (f g : Nat → Int32) : Nat → Nat → Int32
  | 0 => f
  | i + 1 => upd (jnO f g i) i (jnO f g i i ||| g i)
/-- TABLE: the CELLS behind the first j rows -/
def tkT (f : Nat → Int32) (sd x c : Nat) (n : Int32) : Nat → Nat → Int32
  | 0 => f
  | j + 1 => upd (tkT f sd x c n j) (j * c + hsN sd j x % c) (tkT f sd x c n j (j * c + hsN sd j x % c) + n)
def mnT (f : Nat → Int32) (sd x c : Nat) : Nat → Int32
  | 0 => nI 10000000
  | j + 1 => if f (j * c + hsN sd j x % c) < mnT f sd x c j then f (j * c + hsN sd j x % c) else mnT f sd x c j
def jnA (f g : Nat → Int32) : Nat → Nat → Int32
  | 0 => f
  | i + 1 => upd (jnA f g i) i (jnA f g i i + g i)
/-- TABLE: a number that may come -/
def tkOk (x : Int32) : Prop := ¬ x < -1000 ∧ ¬ nI 1000 < x ∧ ¬ x = 0
theorem jc_le {j c : Nat} (h : j < 4) : j * c + c ≤ 4 * c := by
  have := Nat.mul_le_mul_right c (show j + 1 ≤ 4 by omega)
  rw [Nat.succ_mul] at this
  exact this
