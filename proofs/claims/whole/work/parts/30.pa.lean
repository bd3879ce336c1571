/-! ===== sums over a row; two rows with the same things in them ===== -/
def sw (q : Nat → Nat) : Nat → Nat
  | 0 => 0
  | n + 1 => sw q n + q n
theorem sw_congr {p q : Nat → Nat} : ∀ n, (∀ i, i < n → p i = q i) → sw p n = sw q n
  | 0, _ => rfl
  | n + 1, h => by
    rw [sw, sw, sw_congr n (fun i hi => h i (by omega)), h n (by omega)]
theorem sw_mono {p q : Nat → Nat} : ∀ n, (∀ i, i < n → p i ≤ q i) → sw p n ≤ sw q n
  | 0, _ => Nat.le_refl _
  | n + 1, h => by
    rw [sw, sw]
    have h1 := sw_mono n (fun i hi => h i (by omega))
    have h2 := h n (by omega)
    omega
theorem sw_at {p : Nat → Nat} : ∀ n j, j < n → p j ≤ sw p n
  | 0, _, h => absurd h (Nat.not_lt_zero _)
  | n + 1, j, h => by
    rw [sw]
    by_cases e : j = n
    · rw [e]; omega
    · have := sw_at (p := p) n j (by omega)
      omega
theorem sw_lt {p q : Nat → Nat} (n j : Nat) (hj : j < n) (h : ∀ i, i < n → p i ≤ q i) (h2 : p j < q j) : sw p n < sw q n := by
  induction n with
  | zero => exact absurd hj (Nat.not_lt_zero _)
  | succ n ih =>
    rw [sw, sw]
    have h3 := h n (by omega)
    by_cases e : j = n
    · subst e
      have h1 := sw_mono j (fun i hi => h i (by omega))
      omega
    · have h1 := ih (by omega) (fun i hi => h i (by omega))
      omega
theorem sw_upd {p q : Nat → Nat} (n j : Nat) (hj : j < n) (h : ∀ i, i < n → i ≠ j → q i = p i) : sw q n + p j = sw p n + q j := by
  induction n with
  | zero => exact absurd hj (Nat.not_lt_zero _)
  | succ n ih =>
    rw [sw, sw]
    by_cases e : j = n
    · subst e
      rw [sw_congr (p := q) (q := p) j (fun i hi => h i (by omega) (by omega))]
      omega
    · have h1 := ih (by omega) (fun i hi => h i (by omega))
      have h2 := h n (by omega) (by omega)
      omega
theorem sw_ins {p q : Nat → Nat} (n j : Nat) (hj : j ≤ n) (h1 : ∀ i, i < j → q i = p i) (h2 : ∀ i, j < i → i ≤ n → q i = p (i - 1)) : sw q (n + 1) = sw p n + q j := by
  induction n with
  | zero =>
    have e : j = 0 := by omega
    subst e
    rfl
  | succ n ih =>
    by_cases e : j = n + 1
    · subst e
      rw [sw, sw_congr (n + 1) (fun i hi => h1 i hi)]
    · rw [sw, ih (by omega) (fun i hi hi2 => h2 i hi (by omega)), h2 (n + 1) (by omega) (by omega), Nat.add_sub_cancel]
      show _ = sw p n + p n + _
      omega
theorem sw_zero {p : Nat → Nat} (n : Nat) (h : ∀ i, i < n → p i = 0) : sw p n = 0 := by
  induction n with
  | zero => rfl
  | succ n ih => rw [sw, ih (fun i hi => h i (by omega)), h n (by omega)]
theorem sw_ex {p : Nat → Nat} : ∀ n, 0 < sw p n → ∃ i, i < n ∧ 0 < p i
  | 0, h => absurd h (Nat.lt_irrefl _)
  | n + 1, h => by
    rw [sw] at h
    by_cases e : 0 < p n
    · exact ⟨n, by omega, e⟩
    · obtain ⟨i, h1, h2⟩ := sw_ex n (show 0 < sw p n by omega)
      exact ⟨i, by omega, h2⟩
theorem sw_one (n : Nat) : sw (fun _ => 1) n = n := by
  induction n with
  | zero => rfl
  | succ n ih => rw [sw, ih]
def CE (f g : Nat → Int32) (h : Nat) (u v : Nat → Int32) (h2 : Nat) : Prop := ∀ Q : Int32 → Int32 → Nat, sw (fun i => Q (f i) (g i)) h = sw (fun i => Q (u i) (v i)) h2
theorem CE.len {f g u v : Nat → Int32} {h h2 : Nat} (H : CE f g h u v h2) : h = h2 := by
  have := H (fun _ _ => 1)
  rw [sw_one, sw_one] at this
  exact this
theorem CE.symm {f g u v : Nat → Int32} {h h2 : Nat} (H : CE f g h u v h2) : CE u v h2 f g h := fun Q => (H Q).symm
theorem CE.to {f g u v : Nat → Int32} {h h2 i : Nat} (H : CE f g h u v h2) (hi : i < h) : ∃ j, j < h2 ∧ u j = f i ∧ v j = g i := by
  classical
  have e := H (fun a b => if a = f i ∧ b = g i then 1 else 0)
  have h0 := sw_at (p := fun j => (if f j = f i ∧ g j = g i then 1 else 0 : Nat)) h i hi
  rw [if_pos ⟨rfl, rfl⟩] at h0
  obtain ⟨j, h1, h3⟩ := sw_ex (p := fun j => (if u j = f i ∧ v j = g i then 1 else 0 : Nat)) h2 (by rw [← e]; omega)
  by_cases q : u j = f i ∧ v j = g i
  · exact ⟨j, h1, q⟩
  · rw [if_neg q] at h3
    exact absurd h3 (Nat.lt_irrefl _)
/-! Int32's order -/
theorem i_lt {a b : Int32} : a < b ↔ a.toInt < b.toInt := Int32.lt_iff_toInt_lt
theorem i_le {a b : Int32} : a ≤ b ↔ a.toInt ≤ b.toInt := Int32.le_iff_toInt_le
theorem i_eq {a b : Int32} : a = b ↔ a.toInt = b.toInt := Int32.toInt_inj.symm
theorem i_ltt {a b c : Int32} (h1 : a < b) (h2 : b < c) : a < c := by rw [i_lt] at *; omega
theorem i_lel {a b c : Int32} (h1 : a ≤ b) (h2 : b < c) : a < c := by rw [i_lt, i_le] at *; omega
theorem i_lle {a b c : Int32} (h1 : a < b) (h2 : b ≤ c) : a < c := by rw [i_lt, i_le] at *; omega
theorem i_irr {a : Int32} (h : a < a) : False := by rw [i_lt] at h; omega
theorem i_nlt {a b : Int32} (h : ¬ a < b) (h2 : ¬ a = b) : b < a := by rw [i_lt] at *; rw [i_eq] at h2; omega
def upR (f : Nat → Int32) (h : Nat) : Prop := ∀ i j, i < j → j < h → f i < f j
theorem upR.inj {f : Nat → Int32} {h i j : Nat} (H : upR f h) (hi : i < h) (hj : j < h) (e : f i = f j) : i = j := by
  rcases Nat.lt_trichotomy i j with q | q | q
  · have := H i j q hj; rw [e] at this; exact (i_irr this).elim
  · exact q
  · have := H j i q hi; rw [e] at this; exact (i_irr this).elim
theorem plc_at {f : Nat → Int32} {h i : Nat} {x : Int32} (H : upR f h) (hi : i < h) (e : f i = x) : plc f x h = i := by
  refine (plc_uniq (Nat.le_of_lt hi) (fun j hj => ?_) (fun _ => ?_)).symm
  · rw [← e]; exact H j i hj hi
  · rw [e]; exact fun q => i_irr q
/-- x stands in a rising row: just where its place is -/
theorem plc_in {f : Nat → Int32} {h : Nat} {x : Int32} (H : upR f h) : (plc f x h < h ∧ f (plc f x h) = x) ↔ ∃ i, i < h ∧ f i = x := by
  constructor
  · exact fun q => ⟨_, q.1, q.2⟩
  · rintro ⟨i, hi, e⟩
    rw [plc_at H hi e]
    exact ⟨hi, e⟩
theorem plc_gt {f : Nat → Int32} {h : Nat} {x : Int32} (H : upR f h) (hn : ¬ (plc f x h < h ∧ f (plc f x h) = x)) (i : Nat) (h1 : plc f x h ≤ i) (h2 : i < h) : x < f i := by
  have hp : plc f x h < h := by omega
  have h3 := plc_stop f x h hp
  have h4 : x < f (plc f x h) := i_nlt h3 (fun e => hn ⟨hp, e⟩)
  by_cases e : plc f x h = i
  · rw [← e]; exact h4
  · exact i_ltt h4 (H _ i (by omega) h2)
theorem ins_up {f : Nat → Int32} {h m p : Nat} {x : Int32} (H : upR f h) (hp : p ≤ h) (hlo : ∀ i, i < p → f i < x) (hhi : ∀ i, p ≤ i → i < h → x < f i) (hm : m ≤ h + 1) : upR (insA f p m x) m := by
  intro i j hij hj
  unfold insA
  by_cases h1 : j < p
  · rw [if_pos (by omega), if_pos h1]; exact H i j hij (by omega)
  · rw [if_neg h1]
    by_cases h2 : j = p
    · rw [if_pos h2, if_pos (by omega)]; exact hlo i (by omega)
    · rw [if_neg h2, if_pos hj]
      by_cases h3 : i < p
      · rw [if_pos h3]; exact H i (j - 1) (by omega) (by omega)
      · rw [if_neg h3]
        by_cases h4 : i = p
        · rw [if_pos h4]; exact hhi (j - 1) (by omega) (by omega)
        · rw [if_neg h4, if_pos (by omega)]; exact H (i - 1) (j - 1) (by omega) (by omega)
theorem fdU_in {u : Nat → Int32} {h : Nat} {x : Int32} : fdU u x h < h ↔ ∃ i, i < h ∧ u i = x := by
  constructor
  · exact fun q => ⟨_, q, fdU_at u x h q⟩
  · rintro ⟨i, hi, e⟩
    have h1 := fdU_le u x h
    have h2 := fdU_ne u x h i
    by_cases q : i < fdU u x h
    · exact absurd e (h2 q)
    · omega
