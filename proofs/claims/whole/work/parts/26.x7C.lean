/-! ===== the reference's readers, more words ===== -/
def hsU (f : Nat → Int32) (v : Int32) : Nat → Nat
  | 0 => 0
  | i + 1 => if f i = v then 1 else hsU f v i
theorem in_m1 {i : Int32} {m : Nat} (hm : m ≤ 100000) : ((-1 : Int32) ≤ i ∧ i ≤ nI m - nI 1) ↔ (i = -1 ∨ ixN m i) := by
  have e1 : (-1 : Int32).toInt = -1 := by decide
  constructor
  · rintro ⟨h1, h2⟩
    rw [Int32.le_iff_toInt_le, e1] at h1
    rw [Int32.le_iff_toInt_le, pk_sub_toInt (by omega) (by omega)] at h2
    by_cases hi : i.toInt = -1
    · exact Or.inl (Int32.toInt_inj.mp (by rw [hi, e1]))
    · have h0 : ¬ i < 0 := by rw [Int32.lt_iff_toInt_lt, Int32.toInt_zero]; omega
      obtain ⟨a, ha, rfl⟩ := nI_of h0
      rw [nI_toInt ha] at h2
      exact Or.inr ⟨a, by omega, rfl⟩
  · rintro (rfl | ⟨a, ha, rfl⟩)
    · refine ⟨Int32.le_refl _, ?_⟩
      rw [Int32.le_iff_toInt_le, pk_sub_toInt (by omega) (by omega), e1]
      omega
    · constructor
      · rw [Int32.le_iff_toInt_le, nI_toInt (by omega), e1]; omega
      · rw [Int32.le_iff_toInt_le, pk_sub_toInt (by omega) (by omega), nI_toInt (by omega)]; omega
theorem rg_ix {n : Nat} {i : Int32} (hn : 1 ≤ n) : rg (n - 1) i ↔ ixN n i := by
  constructor
  · rintro ⟨a, ha, rfl⟩; exact ⟨a, by omega, rfl⟩
  · rintro ⟨a, ha, rfl⟩; exact ⟨a, by omega, rfl⟩
theorem rg1_or {i : Int32} : rg 1 i ↔ (i = 0 ∨ i = 1) := by
  constructor
  · rintro ⟨a, ha, rfl⟩
    rcases (show a = 0 ∨ a = 1 by omega) with rfl | rfl
    · exact Or.inl nI_0
    · exact Or.inr (by decide)
  · rintro (rfl | rfl)
    · exact ⟨0, by omega, nI_0.symm⟩
    · exact ⟨1, by omega, by decide⟩
