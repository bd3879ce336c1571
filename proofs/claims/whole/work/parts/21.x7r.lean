/-! ===== HEAVY of the reference, on ===== -/
theorem upd_self (f : Nat → Int32) (k : Nat) : upd f k (f k) = f := by
  funext j
  unfold upd
  split
  · rename_i h; rw [h]
  · rfl
theorem upd_upd (f : Nat → Int32) (k : Nat) (u v : Int32) : upd (upd f k u) k v = upd f k v := by
  funext j
  unfold upd
  split <;> rfl
theorem upd_same (f : Nat → Int32) (k : Nat) (u : Int32) : upd f k u k = u := by simp [upd]
theorem upd_add (f : Nat → Int32) (k : Nat) (u d : Int32) : upd (upd f k u) k (upd f k u k + d) = upd f k (u + d) := by rw [upd_upd, upd_same]
theorem lessU_orig (f g : Nat → Int32) (d : Int32) : ∀ i j, i ≤ j → (lessU f g d i).1 j = f j ∧ (lessU f g d i).2.1 j = g j
  | 0, _, _ => ⟨rfl, rfl⟩
  | i + 1, j, h => by
    have ih := lessU_orig f g d i j (by omega)
    have hle := lessU_le f g d i
    by_cases q : (lessU f g d i).2.1 i - d ≤ 0
    · rw [lessU_skip q]; exact ih
    · rw [lessU_keep q]
      refine ⟨?_, ?_⟩
      · show upd (lessU f g d i).1 _ _ j = _
        unfold upd; rw [if_neg (by omega)]; exact ih.1
      · show upd (lessU f g d i).2.1 _ _ j = _
        unfold upd; rw [if_neg (by omega)]; exact ih.2
theorem lessU_lt (f g : Nat → Int32) (d : Int32) : ∀ n i, i < n → g i - d ≤ 0 → (lessU f g d n).2.2 < n
  | 0, i, h, _ => absurd h (Nat.not_lt_zero _)
  | n + 1, i, h, q => by
    have hle := lessU_le f g d n
    by_cases e : i = n
    · subst e
      rw [lessU_skip (by rw [(lessU_orig f g d i i (Nat.le_refl _)).2]; exact q)]
      omega
    · have ih := lessU_lt f g d n i (by omega) q
      by_cases z : (lessU f g d n).2.1 n - d ≤ 0
      · rw [lessU_skip z]; omega
      · rw [lessU_keep z]; show (lessU f g d n).2.2 + 1 < n + 1; omega
def mnU (gn : Nat → Nat) (lf : Nat) : Nat → Nat
  | 0 => lf
  | i + 1 => if gn i < mnU gn lf i then gn i else mnU gn lf i
theorem mnU_le (gn : Nat → Nat) (lf : Nat) : ∀ n, mnU gn lf n ≤ lf
  | 0 => Nat.le_refl _
  | n + 1 => by
    have := mnU_le gn lf n
    unfold mnU
    split <;> omega
theorem mnU_pos {gn : Nat → Nat} {lf : Nat} (hl : 1 ≤ lf) : ∀ n, (∀ i, i < n → 1 ≤ gn i) → 1 ≤ mnU gn lf n
  | 0, _ => hl
  | n + 1, h => by
    have := mnU_pos hl n (fun i hi => h i (by omega))
    have := h n (by omega)
    unfold mnU
    split <;> omega
theorem mnU_at (gn : Nat → Nat) (lf : Nat) : ∀ n, mnU gn lf n < lf → ∃ i, i < n ∧ gn i = mnU gn lf n
  | 0, h => absurd h (Nat.lt_irrefl _)
  | n + 1, h => by
    by_cases q : gn n < mnU gn lf n
    · exact ⟨n, by omega, by rw [mnU, if_pos q]⟩
    · have e : mnU gn lf (n + 1) = mnU gn lf n := by rw [mnU, if_neg q]
      rw [e] at h ⊢
      obtain ⟨i, h1, h2⟩ := mnU_at gn lf n h
      exact ⟨i, by omega, h2⟩
theorem sub_self32 (x : Int32) : x - x ≤ 0 := by rw [Int32.sub_self]; decide
theorem mnU_drop {f : Nat → Int32} {gn : Nat → Nat} {c h : Nat} (hd : mnU gn c h < c) : (lessU f (lnF gn) (nI (mnU gn c h)) h).2.2 < h := by
  obtain ⟨i, h1, h2⟩ := mnU_at gn c h hd
  exact lessU_lt f (lnF gn) _ h i h1 (by show nI (gn i) - _ ≤ 0; rw [h2]; exact sub_self32 _)
def comU (k : Nat) (x : Int32) (c : Nat) (f : Nat → Int32) (gn : Nat → Nat) (h : Nat) (lo : Int32) : hvT × Int32 :=
  if fdU f x h < h ∨ h < k then (addU x (nI c) (f, lnF gn, h), lo)
  else (if c - mnU gn c h = 0 then lessU f (lnF gn) (nI (mnU gn c h)) h else addU x (nI (c - mnU gn c h)) (lessU f (lnF gn) (nI (mnU gn c h)) h), lo + nI (mnU gn c h))
def jnU (f2 g2 : Nat → Int32) (S : hvT) : Nat → hvT
  | 0 => S
  | i + 1 => addU (f2 i) (g2 i) (jnU f2 g2 S i)
theorem jnU_le (f2 g2 : Nat → Int32) (S : hvT) : ∀ i, (jnU f2 g2 S i).2.2 ≤ S.2.2 + i
  | 0 => Nat.le_refl _
  | i + 1 => by
    have h1 := jnU_le f2 g2 S i
    have h2 := addU_le (f2 i) (g2 i) (jnU f2 g2 S i)
    show (addU (f2 i) (g2 i) (jnU f2 g2 S i)).2.2 ≤ _
    omega
def ahU (g : Nat → Int32) (k : Nat) : Nat → Nat
  | 0 => 0
  | m + 1 => if 0 < g m - g k ∨ (g m - g k = 0 ∧ m < k) then ahU g k m + 1 else ahU g k m
theorem ahU_le (g : Nat → Int32) (k : Nat) : ∀ n, ahU g k n ≤ n
  | 0 => Nat.le_refl _
  | n + 1 => by
    have := ahU_le g k n
    unfold ahU
    split <;> omega
def alU (f g : Nat → Int32) (h : Nat) (x : Int32) : Int32 := if fdU f x h < h then g (fdU f x h) else nI 0
def bfU (f : Nat → Int32) (k : Nat) : Nat → Nat
  | 0 => 0
  | m + 1 => if f m < f k then bfU f k m + 1 else bfU f k m
theorem bfU_le (f : Nat → Int32) (k : Nat) : ∀ n, bfU f k n ≤ n
  | 0 => Nat.le_refl _
  | n + 1 => by
    have := bfU_le f k n
    unfold bfU
    split <;> omega
