/-! ===== RANKS: what many that come change ===== -/
theorem tkR_main {k e B : Nat} (hk : k = 2 * e) (he : 2 ≤ e) (hB : B < 2 ^ 31) {x : Int32} {S : rkT} (hok : rkOk k S) (hl : ∀ c, c < 31 → S.2.1 c < k) (n : Nat) : wtS S.2.1 31 + n ≤ B → (∀ c, c < 31 → (tkR k x S n).2.1 c < k) ∧ wtS (tkR k x S n).2.1 31 = wtS S.2.1 31 + n := by
  induction n with
  | zero =>
    intro _
    refine ⟨hl, ?_⟩
    rw [Nat.add_zero, tkR]
  | succ n ih =>
    intro h
    obtain ⟨h1, h2⟩ := ih (by omega)
    obtain ⟨a1, a2, _⟩ := psh_main hk he hB 31 0 x (tkR k x S n) (by omega) (tkR_ok hok n) h1 (by rw [h2, Nat.pow_zero]; omega)
    rw [h2, Nat.pow_zero] at a2
    rw [tkR]
    exact ⟨a1, a2.trans (Nat.add_assoc _ _ _)⟩
theorem jiR_main {k e B b : Nat} (hk : k = 2 * e) (he : 2 ≤ e) (hB : B < 2 ^ 31) (hb : b < 31) {f2 : Nat → Int32} {S : rkT} (hok : rkOk k S) (hl : ∀ c, c < 31 → S.2.1 c < k) (n : Nat) : wtS S.2.1 31 + n * 2 ^ b ≤ B → (∀ c, c < 31 → (jiR k b f2 S n).2.1 c < k) ∧ wtS (jiR k b f2 S n).2.1 31 = wtS S.2.1 31 + n * 2 ^ b := by
  generalize hp : 2 ^ b = p
  induction n with
  | zero =>
    intro _
    refine ⟨hl, ?_⟩
    rw [Nat.zero_mul, Nat.add_zero, jiR]
  | succ n ih =>
    intro h
    rw [Nat.succ_mul] at h
    obtain ⟨h1, h2⟩ := ih (by omega)
    obtain ⟨a1, a2, _⟩ := psh_main hk he hB (31 - b) b (f2 (b * k + n)) (jiR k b f2 S n) (by omega) (jiR_ok hok n) h1 (by rw [h2, hp]; omega)
    rw [h2, hp] at a2
    rw [jiR, Nat.succ_mul]
    exact ⟨a1, a2.trans (Nat.add_assoc _ _ _)⟩
theorem joR_main {k e B : Nat} (hk : k = 2 * e) (he : 2 ≤ e) (hB : B < 2 ^ 31) {f2 : Nat → Int32} {ln2 : Nat → Nat} {S : rkT} (hok : rkOk k S) (hl : ∀ c, c < 31 → S.2.1 c < k) (n : Nat) : n ≤ 31 → wtS S.2.1 31 + wtS ln2 n ≤ B → (∀ c, c < 31 → (joR k f2 ln2 S n).2.1 c < k) ∧ wtS (joR k f2 ln2 S n).2.1 31 = wtS S.2.1 31 + wtS ln2 n := by
  induction n with
  | zero =>
    intro _ _
    refine ⟨hl, ?_⟩
    rw [joR, show wtS ln2 0 = 0 from rfl, Nat.add_zero]
  | succ n ih =>
    intro hn h
    have e1 : wtS ln2 (n + 1) = wtS ln2 n + ln2 n * 2 ^ n := by rw [wtS]
    rw [e1] at h ⊢
    obtain ⟨h1, h2⟩ := ih (by omega) (by omega)
    obtain ⟨a1, a2⟩ := jiR_main (f2 := f2) hk he hB (show n < 31 by omega) (joR_ok hok n) h1 (ln2 n) (by rw [h2]; omega)
    rw [h2] at a2
    rw [joR]
    exact ⟨a1, a2.trans (Nat.add_assoc _ _ _)⟩
