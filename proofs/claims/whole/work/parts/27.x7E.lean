/-! ===== a good SORT, SIZE, SEED; and small rows ===== -/
def szN (k z : Nat) : Prop := (k = 0 ∧ 1 ≤ z ∧ z ≤ 20) ∨ (k = 1 ∧ 4 ≤ z ∧ z ≤ 64) ∨ (k = 2 ∧ 16 ≤ z ∧ z ≤ 512) ∨ (k = 3 ∧ 2 ≤ z ∧ z ≤ 32) ∨ (k = 4 ∧ 4 ≤ z ∧ z ≤ 32 ∧ z % 2 = 0)
def skGood (kd sz sd : Int32) : Prop := ∃ ka za da : Nat, kd = nI ka ∧ sz = nI za ∧ sd = nI da ∧ da ≤ 999 ∧ szN ka za
theorem szN_bd {k z : Nat} (h : szN k z) : k ≤ 4 ∧ 1 ≤ z ∧ z ≤ 512 := by
  unfold szN at h
  omega
theorem sk_no1 {kd sz sd : Int32} (h : ¬ rg 4 kd) : ¬ skGood kd sz sd := by
  rintro ⟨ka, za, da, rfl, rfl, rfl, h1, h2⟩
  exact h ⟨ka, (szN_bd h2).1, rfl⟩
theorem sk_no2 {kd sz sd : Int32} (h : ¬ rg 999 sd) : ¬ skGood kd sz sd := by
  rintro ⟨ka, za, da, rfl, rfl, rfl, h1, h2⟩
  exact h ⟨da, h1, rfl⟩
theorem sk_no3 {ka : Nat} {sz sd : Int32} (hk : ka ≤ 4) (h : ∀ za : Nat, sz = nI za → szN ka za → False) : ¬ skGood (nI ka) sz sd := by
  rintro ⟨ka2, za, da, h0, rfl, rfl, h1, h2⟩
  have hb := szN_bd h2
  have e := (nI_eq (by omega) (by omega)).mp h0
  subst e
  exact h za rfl h2
theorem sk_noR {ka lo hi : Nat} {sz sd : Int32} (hk : ka ≤ 4) (hr : ¬ rp lo hi sz) (hs : ∀ z, szN ka z → lo ≤ z ∧ z ≤ hi) : ¬ skGood (nI ka) sz sd :=
  sk_no3 hk (fun za e h => hr ⟨za, (hs za h).1, (hs za h).2, e⟩)
theorem sk_yes {ka za da : Nat} (hd : da ≤ 999) (h : szN ka za) : skGood (nI ka) (nI za) (nI da) := ⟨ka, za, da, rfl, rfl, rfl, hd, h⟩
theorem wtS_mono (ln : Nat → Nat) {m n : Nat} (h : m ≤ n) : wtS ln m ≤ wtS ln n := by
  induction n with
  | zero => rw [show m = 0 by omega]; exact Nat.le_refl _
  | succ n ih =>
    by_cases e : m = n + 1
    · rw [e]; exact Nat.le_refl _
    · rw [wtS]
      have := ih (by omega)
      omega
theorem in_tk {n : Int32} : ((-1000 : Int32) ≤ n ∧ n ≤ nI 1000 ∧ ¬ n = 0) ↔ tkOk n := by
  unfold tkOk
  rw [Int32.not_lt, Int32.not_lt]
theorem wt_in {ln2 : Nat → Nat} {a B bz iz : Nat} (h : a + wtS ln2 31 ≤ B) (hb : bz < 31) (hi : iz < ln2 bz) : a + wtS ln2 bz + iz * 2 ^ bz + 2 ^ bz ≤ B := by
  have h1 := wtS_mono ln2 (show bz + 1 ≤ 31 by omega)
  rw [show wtS ln2 (bz + 1) = wtS ln2 bz + ln2 bz * 2 ^ bz by rw [wtS]] at h1
  have h2 := Nat.mul_le_mul_right (2 ^ bz) (show iz + 1 ≤ ln2 bz by omega)
  rw [Nat.succ_mul] at h2
  omega
