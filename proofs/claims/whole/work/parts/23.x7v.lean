/-! ===== RANKS: weights, and what a KEY that comes changes ===== -/
def wtS (ln : Nat → Nat) : Nat → Nat
  | 0 => 0
  | b + 1 => wtS ln b + ln b * 2 ^ b
theorem wtS_hi {ln : Nat → Nat} {b v : Nat} : ∀ n, n ≤ b → wtS (updN ln b v) n = wtS ln n
  | 0, _ => rfl
  | n + 1, h => by
    show wtS (updN ln b v) n + updN ln b v n * 2 ^ n = wtS ln n + ln n * 2 ^ n
    rw [wtS_hi (ln := ln) (b := b) (v := v) n (by omega), updN_ne (by omega)]
theorem wtS_upd {ln : Nat → Nat} {b v : Nat} : ∀ n, b < n → wtS (updN ln b v) n + ln b * 2 ^ b = wtS ln n + v * 2 ^ b
  | 0, h => absurd h (Nat.not_lt_zero _)
  | n + 1, h => by
    show wtS (updN ln b v) n + updN ln b v n * 2 ^ n + _ = wtS ln n + ln n * 2 ^ n + _
    by_cases e : b = n
    · subst e
      rw [wtS_hi b (Nat.le_refl _), updN_eq]
      omega
    · have ih := wtS_upd (ln := ln) (b := b) (v := v) n (by omega)
      rw [updN_ne (by omega)]
      omega
theorem wtS_ge {ln : Nat → Nat} : ∀ n b, b < n → ln b * 2 ^ b ≤ wtS ln n
  | 0, _, h => absurd h (Nat.not_lt_zero _)
  | n + 1, b, h => by
    show _ ≤ wtS ln n + ln n * 2 ^ n
    by_cases e : b = n
    · subst e; omega
    · have := wtS_ge (ln := ln) n b (by omega)
      omega
theorem srtI_out (fst : Nat) (key : Int32) : ∀ n f z, (z < fst ∨ fst + n < z) → (srtI fst key n f).1 z = f z
  | 0, _, _, _ => rfl
  | n + 1, f, z, h => by
    unfold srtI
    split
    · rfl
    · rw [srtI_out fst key n _ z (by omega)]
      unfold upd
      rw [if_neg (by omega)]
theorem srtO_out (f : Nat → Int32) (fst : Nat) : ∀ m z, (z < fst ∨ fst + m < z) → srtO f fst m z = f z
  | 0, _, _ => rfl
  | m + 1, z, h => by
    have h1 := srtI_le fst (srtO f fst m (fst + m + 1)) (m + 1) (srtO f fst m)
    show upd _ _ _ z = f z
    unfold upd
    rw [if_neg (by omega), srtI_out _ _ _ _ z (by omega)]
    exact srtO_out f fst m z (by omega)
def pshOk (k b : Nat) (S S1 : rkT) : Prop := (∀ c, c < 31 → S1.2.1 c < k) ∧ wtS S1.2.1 31 = wtS S.2.1 31 + 2 ^ b ∧ ∀ z, z < b * k → S1.1 z = S.1 z
theorem pow_succ2 (b : Nat) : 2 ^ (b + 1) = 2 ^ b + 2 ^ b := by rw [Nat.pow_succ]; omega
theorem half_pow {k e b : Nat} (hk : k = 2 * e) : k * 2 ^ b = e * 2 ^ (b + 1) := by rw [hk, Nat.pow_succ, Nat.mul_comm 2 e, Nat.mul_assoc, Nat.mul_comm 2 (2 ^ b)]
theorem psh_main {k e B : Nat} (hk : k = 2 * e) (he : 2 ≤ e) (hB : B < 2 ^ 31) : ∀ d b x S, b + d = 31 → rkOk k S → (∀ c, c < 31 → S.2.1 c < k) → wtS S.2.1 31 + 2 ^ b ≤ B → pshOk k b S (psh k d b x S) := by
  intro d
  induction d with
  | zero =>
    intro b x S h1 _ _ h3
    have hb : b = 31 := by omega
    rw [← hb] at hB
    exact absurd (Nat.lt_of_le_of_lt h3 hB) (Nat.not_lt.mpr (Nat.le_add_left _ _))
  | succ d ihd =>
    intro b x S h1 hok h2 h3
    have hn := h2 b (by omega)
    have hw1 := wtS_upd (ln := S.2.1) (b := b) (v := S.2.1 b + 1) 31 (by omega)
    rw [Nat.succ_mul] at hw1
    unfold psh
    rw [if_neg (by omega)]
    by_cases hc : S.2.1 b + 1 < k
    · rw [if_pos hc]
      refine ⟨fun c hc2 => ?_, ?_, fun z hz => ?_⟩
      · show updN S.2.1 b (S.2.1 b + 1) c < k
        unfold updN
        split
        · exact hc
        · exact h2 c hc2
      · show wtS (updN S.2.1 b (S.2.1 b + 1)) 31 = _
        omega
      · show upd S.1 _ _ z = _
        unfold upd
        rw [if_neg (by omega)]
    · rw [if_neg hc]
      have hk1 : S.2.1 b + 1 = k := by omega
      have hw2 := wtS_upd (ln := updN S.2.1 b (S.2.1 b + 1)) (b := b) (v := 0) 31 (by omega)
      rw [updN_eq, hk1, Nat.zero_mul] at hw2
      rw [hk1] at hw1
      have ht := hok.1 b
      have eq2 : (k - S.2.2.1 b + 1) / 2 = e := by omega
      have hkp := half_pow (b := b) hk
      unfold colP
      have hokc : ∀ x T, (∀ c, c < 31 → T.2.1 c < k) → wtS T.2.1 31 + 2 ^ (b + 1) ≤ B → rkOk k T → pshOk k (b + 1) T (psh k d (b + 1) x T) := fun x T a1 a2 a3 => ihd (b + 1) x T (by omega) a3 a1 a2
      -- the loop, with the TURNS kept in range
      have key : ∀ m i T, rkOk k T → (∀ c, c < 31 → T.2.1 c < k) → k ≤ i + m → wtS T.2.1 31 + ((k - i + 1) / 2) * 2 ^ (b + 1) ≤ B →
          (∀ c, c < 31 → (lpP k b (psh k d (b + 1)) m i T).2.1 c < k) ∧ wtS (lpP k b (psh k d (b + 1)) m i T).2.1 31 = wtS T.2.1 31 + ((k - i + 1) / 2) * 2 ^ (b + 1) ∧ ∀ z, z < (b + 1) * k → (lpP k b (psh k d (b + 1)) m i T).1 z = T.1 z := by
        intro m
        induction m with
        | zero =>
          intro i T _ a1 a2 a3
          have e0 : (k - i + 1) / 2 = 0 := by omega
          refine ⟨a1, ?_, fun _ _ => rfl⟩
          rw [e0, Nat.zero_mul]
          exact (Nat.add_zero (wtS T.2.1 31)).symm
        | succ m ih =>
          intro i T a0 a1 a2 a3
          unfold lpP
          by_cases hi : i < k
          · rw [if_pos hi]
            have e0 : (k - i + 1) / 2 = (k - (i + 2) + 1) / 2 + 1 := by omega
            rw [e0, Nat.succ_mul] at a3 ⊢
            obtain ⟨b1, b2, b3⟩ := hokc (T.1 (b * k + i)) T a1 (by omega) a0
            obtain ⟨c1, c2, c3⟩ := ih (i + 2) (psh k d (b + 1) (T.1 (b * k + i)) T) (psh_ok k d (b + 1) _ T a0) b1 (by omega) (by omega)
            exact ⟨c1, by rw [c2, b2]; omega, fun z hz => (c3 z hz).trans (b3 z hz)⟩
          · rw [if_neg hi]
            have e0 : (k - i + 1) / 2 = 0 := by omega
            refine ⟨a1, ?_, fun _ _ => rfl⟩
            rw [e0, Nat.zero_mul, Nat.add_zero]
      have hS1 : rkOk k (upd S.1 (b * k + S.2.1 b) x, updN S.2.1 b (S.2.1 b + 1), S.2.2.1, S.2.2.2) := ⟨hok.1, updN_le (by omega) hok.2⟩
      obtain ⟨c1, c2, c3⟩ := key k (S.2.2.1 b) (srtO (upd S.1 (b * k + S.2.1 b) x) (b * k) (k - 1), updN (updN S.2.1 b (S.2.1 b + 1)) b 0, updN S.2.2.1 b (1 - S.2.2.1 b), S.2.2.2 + sh1 b) (col0_ok (S := (upd S.1 (b * k + S.2.1 b) x, updN S.2.1 b (S.2.1 b + 1), S.2.2.1, S.2.2.2)) hS1) (fun c hc2 => by
        show updN (updN S.2.1 b (S.2.1 b + 1)) b 0 c < k
        by_cases ec : c = b
        · rw [ec, updN_eq]; omega
        · rw [updN_ne ec, updN_ne ec]; exact h2 c hc2) (by omega) (by
        show wtS (updN (updN S.2.1 b (S.2.1 b + 1)) b 0) 31 + _ ≤ _
        rw [eq2, ← hkp, hk1]
        omega)
      refine ⟨c1, ?_, fun z hz => ?_⟩
      · rw [c2, eq2, ← hkp]
        show wtS (updN (updN S.2.1 b (S.2.1 b + 1)) b 0) 31 + _ = _
        rw [hk1]
        omega
      · have hz1 : z < (b + 1) * k := by rw [Nat.succ_mul]; omega
        rw [c3 z hz1]
        show srtO (upd S.1 (b * k + S.2.1 b) x) (b * k) (k - 1) z = S.1 z
        rw [srtO_out _ _ _ _ (Or.inl hz)]
        unfold upd
        rw [if_neg (by omega)]
/-- RANKS in the reference's row -/
def RkM (ro : Nat → Int32) (s k : Nat) (S : rkT) : Prop := (∀ b, b < 31 → ro (1200 * s + b) = nI (S.2.1 b)) ∧ (∀ b, b < 31 → ro (1200 * s + 40 + b) = nI (S.2.2.1 b)) ∧ ∀ b i, b < 31 → i < S.2.1 b → ro (1200 * s + 100 + 32 * b + i) = S.1 (b * k + i)
theorem bk_ne {b c k i j : Nat} (h : b ≠ c) (hi : i < k) (hj : j < k) : b * k + i ≠ c * k + j := by
  rcases Nat.lt_or_gt_of_ne h with q | q
  · have := Nat.mul_le_mul_right k (show b + 1 ≤ c by omega)
    rw [Nat.succ_mul] at this
    omega
  · have := Nat.mul_le_mul_right k (show c + 1 ≤ b by omega)
    rw [Nat.succ_mul] at this
    omega
theorem RkM.push {ro : Nat → Int32} {s k b : Nat} {f : Nat → Int32} {ln tr : Nat → Nat} {er x : Int32} (H : RkM ro s k (f, ln, tr, er)) (hb : b < 31) (hk : k ≤ 32) (hl : ∀ c, c < 31 → ln c < k) : RkM (upd (upd ro (1200 * s + 100 + 32 * b + ln b) x) (1200 * s + b) (nI (ln b + 1))) s k (upd f (b * k + ln b) x, updN ln b (ln b + 1), tr, er) := by
  obtain ⟨h1, h2, h3⟩ := H
  have hn := hl b hb
  refine ⟨fun c hc => ?_, fun c hc => ?_, fun c i hc hi => ?_⟩
  · show upd _ _ _ _ = nI (updN ln b (ln b + 1) c)
    by_cases e : c = b
    · subst e; rw [updN_eq]; unfold upd; rw [if_pos rfl]
    · rw [updN_ne e]; unfold upd; rw [if_neg (by omega), if_neg (by omega)]; exact h1 c hc
  · show upd _ _ _ _ = _
    unfold upd; rw [if_neg (by omega), if_neg (by omega)]; exact h2 c hc
  · show upd _ _ _ _ = upd f (b * k + ln b) x (c * k + i)
    have hi2 : i < updN ln b (ln b + 1) c := hi
    by_cases e : c = b
    · subst e
      rw [updN_eq] at hi2
      by_cases e2 : i = ln c
      · subst e2; unfold upd; rw [if_neg (by omega), if_pos rfl, if_pos rfl]
      · unfold upd; rw [if_neg (by omega), if_neg (by omega), if_neg (by omega)]; exact h3 c i hc (show i < ln c by omega)
    · rw [updN_ne e] at hi2
      have hic := hl c hc
      unfold upd
      rw [if_neg (by omega), if_neg (by omega), if_neg (bk_ne e (by omega) hn)]
      exact h3 c i hc hi2
theorem RkM.col {ro : Nat → Int32} {s k b : Nat} {f f1 : Nat → Int32} {ln tr : Nat → Nat} {er e1 : Int32} (H : RkM ro s k (f, ln, tr, er)) (hb : b < 31) (hl : ∀ c, c < 31 → c ≠ b → ln c < k) (hf : ∀ z, (z < b * k ∨ b * k + k ≤ z) → f1 z = f z) : RkM (upd (upd ro (1200 * s + b) (nI 0)) (1200 * s + 40 + b) (nI (1 - tr b))) s k (f1, updN ln b 0, updN tr b (1 - tr b), e1) := by
  obtain ⟨h1, h2, h3⟩ := H
  refine ⟨fun c hc => ?_, fun c hc => ?_, fun c i hc hi => ?_⟩
  · show upd _ _ _ _ = nI (updN ln b 0 c)
    by_cases e : c = b
    · subst e; rw [updN_eq]; unfold upd; rw [if_neg (by omega), if_pos rfl]
    · rw [updN_ne e]; unfold upd; rw [if_neg (by omega), if_neg (by omega)]; exact h1 c hc
  · show upd _ _ _ _ = nI (updN tr b (1 - tr b) c)
    by_cases e : c = b
    · subst e; rw [updN_eq]; unfold upd; rw [if_pos rfl]
    · rw [updN_ne e]; unfold upd; rw [if_neg (by omega), if_neg (by omega)]; exact h2 c hc
  · have hi2 : i < updN ln b 0 c := hi
    by_cases e : c = b
    · subst e; rw [updN_eq] at hi2; exact absurd hi2 (Nat.not_lt_zero _)
    · rw [updN_ne e] at hi2
      show upd _ _ _ _ = f1 (c * k + i)
      have hic := hl c hc e
      have hz : c * k + i < b * k ∨ b * k + k ≤ c * k + i := by
        rcases Nat.lt_or_gt_of_ne e with q | q
        · have := Nat.mul_le_mul_right k (show c + 1 ≤ b by omega)
          rw [Nat.succ_mul] at this
          omega
        · have := Nat.mul_le_mul_right k (show b + 1 ≤ c by omega)
          rw [Nat.succ_mul] at this
          omega
      rw [hf _ hz]
      unfold upd
      rw [if_neg (by omega), if_neg (by omega)]
      exact h3 c i hc hi2
theorem RkM.out {ro ro1 : Nat → Int32} {a b k : Nat} {S : rkT} (H : RkM ro b k S) (ho : outS ro ro1 a) (hab : a ≠ b) (hk : k ≤ 32) (hl : ∀ c, c < 31 → S.2.1 c < k) : RkM ro1 b k S :=
  ⟨fun c hc => (ho _ (by omega)).trans (H.1 c hc), fun c hc => (ho _ (by omega)).trans (H.2.1 c hc), fun c i hc hi => by
    have := hl c hc
    exact (ho _ (by omega)).trans (H.2.2 c i hc hi)⟩
