/-! HEAVY: the first NUMBER too many -/
def ahN (gn : Nat → Nat) (k n : Nat) : Nat := sw (fun m => if gn k < gn m ∨ (gn m = gn k ∧ m < k) then 1 else 0) n
theorem ah_ex (gn : Nat → Nat) (h : Nat) : ∀ t, t < h → ∃ k, k < h ∧ ahN gn k h = t := by
  induction h with
  | zero => intro t ht; exact absurd ht (Nat.not_lt_zero _)
  | succ h ih =>
    intro t ht
    have e1 : ∀ k, ahN gn k (h + 1) = ahN gn k h + (if gn k < gn h ∨ (gn h = gn k ∧ h < k) then 1 else 0) := fun _ => rfl
    have er : ahN gn h h = sw (fun m => if gn h ≤ gn m then 1 else 0) h := sw_congr h (fun m hm => by
      show (if gn h < gn m ∨ (gn m = gn h ∧ m < h) then 1 else 0) = _
      by_cases q : gn h ≤ gn m
      · rw [if_pos q, if_pos (by omega)]
      · rw [if_neg q, if_neg (by omega)])
    have hr : ahN gn h (h + 1) = sw (fun m => if gn h ≤ gn m then 1 else 0) h := by
      rw [e1, if_neg (by omega), er, Nat.add_zero]
    have hrl : sw (fun m => if gn h ≤ gn m then 1 else 0) h ≤ h := by
      have := sw_mono (p := fun m => if gn h ≤ gn m then 1 else 0) (q := fun _ => 1) h (fun m _ => by show (if gn h ≤ gn m then 1 else 0) ≤ 1; split <;> omega)
      rw [sw_one] at this
      exact this
    rcases Nat.lt_trichotomy t (ahN gn h (h + 1)) with q | q | q
    · rw [hr] at q
      obtain ⟨k, hk, e⟩ := ih t (by omega)
      refine ⟨k, by omega, ?_⟩
      have hg : ¬ gn k < gn h := by
        intro z
        have := sw_mono (p := fun m => if gn h ≤ gn m then 1 else 0) (q := fun m => if gn k < gn m ∨ (gn m = gn k ∧ m < k) then 1 else 0) h (fun m _ => by
          show (if gn h ≤ gn m then 1 else 0) ≤ (if gn k < gn m ∨ (gn m = gn k ∧ m < k) then 1 else 0)
          by_cases y : gn h ≤ gn m
          · rw [if_pos y, if_pos (by omega)]; exact Nat.le_refl _
          · rw [if_neg y]; exact Nat.zero_le _)
        have e3 : sw (fun m => if gn k < gn m ∨ (gn m = gn k ∧ m < k) then 1 else 0) h = t := e
        omega
      rw [e1, if_neg (by omega), e, Nat.add_zero]
    · exact ⟨h, by omega, q.symm⟩
    · rw [hr] at q
      obtain ⟨k, hk, e⟩ := ih (t - 1) (by omega)
      refine ⟨k, by omega, ?_⟩
      have hg : gn k < gn h := by
        refine Nat.not_le.mp fun z => ?_
        have := sw_lt (p := fun m => if gn k < gn m ∨ (gn m = gn k ∧ m < k) then 1 else 0) (q := fun m => if gn h ≤ gn m then 1 else 0) h k hk (fun m _ => by
          show (if gn k < gn m ∨ (gn m = gn k ∧ m < k) then 1 else 0) ≤ (if gn h ≤ gn m then 1 else 0)
          by_cases y : gn k < gn m ∨ (gn m = gn k ∧ m < k)
          · rw [if_pos y, if_pos (by omega)]; exact Nat.le_refl _
          · rw [if_neg y]; exact Nat.zero_le _) (by
          show (if gn k < gn k ∨ (gn k = gn k ∧ k < k) then 1 else 0) < (if gn h ≤ gn k then 1 else 0)
          rw [if_neg (by omega), if_pos z]; omega)
        have e3 : sw (fun m => if gn k < gn m ∨ (gn m = gn k ∧ m < k) then 1 else 0) h = t - 1 := e
        omega
      rw [e1, if_pos (Or.inl hg), e]
      omega
theorem ahU_N {v : Nat → Int32} {gn : Nat → Nat} {h k : Nat} (B : ∀ i, i < h → v i = nI (gn i) ∧ gn i ≤ 10000000) (hk : k < h) : ∀ n, n ≤ h → ahU v k n = ahN gn k n := by
  intro n
  induction n with
  | zero => intro _; rfl
  | succ n ih =>
    intro hn
    have e1 : ahN gn k (n + 1) = ahN gn k n + (if gn k < gn n ∨ (gn n = gn k ∧ n < k) then 1 else 0) := rfl
    obtain ⟨b1, b2⟩ := B n (by omega)
    obtain ⟨b3, b4⟩ := B k hk
    have c1 : 0 < v n - v k ↔ gn k < gn n := by
      rw [b1, b3, i_lt, pk_sub_toInt (by omega) (by omega), Int32.toInt_zero]; omega
    have c2 : v n - v k = 0 ↔ gn n = gn k := by
      rw [b1, b3, i_eq, pk_sub_toInt (by omega) (by omega), Int32.toInt_zero]; omega
    rw [ahU, e1, ← ih (by omega)]
    by_cases q : gn k < gn n ∨ (gn n = gn k ∧ n < k)
    · rw [if_pos q, if_pos (q.elim (fun z => Or.inl (c1.mpr z)) (fun z => Or.inr ⟨c2.mpr z.1, z.2⟩))]
    · rw [if_neg q, if_neg (fun z => q (z.elim (fun y => Or.inl (c1.mp y)) (fun y => Or.inr ⟨c2.mp y.1, y.2⟩)))]
      rfl
def gnOf (v : Nat → Int32) (i : Nat) : Nat := cw (v i)
theorem gnOf_ok {v : Nat → Int32} {h : Nat} (B : HvB v h) (i : Nat) (hi : i < h) : v i = nI (gnOf v i) ∧ 1 ≤ gnOf v i ∧ gnOf v i ≤ 10000000 := by
  obtain ⟨a, a1, a2, a3⟩ := B i hi
  unfold gnOf
  rw [a3, cw_nI (by omega)]
  exact ⟨rfl, a1, a2⟩
theorem ahU_ex {v : Nat → Int32} {h k : Nat} (B : HvB v h) (hk : k < h) : ∃ j, j < h ∧ ahU v j h = k := by
  obtain ⟨j, hj, e⟩ := ah_ex (gnOf v) h k hk
  exact ⟨j, hj, (ahU_N (fun i hi => ⟨(gnOf_ok B i hi).1, (gnOf_ok B i hi).2.2⟩) hj h (Nat.le_refl _)).trans e⟩
theorem hnB_sw (g : Nat → Int32) (w : Int32) (n : Nat) : hnB g w n = sw (fun i => if g i < w then 0 else 1) n := by
  induction n with
  | zero => rfl
  | succ n ih =>
    rw [hnB, sw, ← ih]
    split <;> rfl
theorem fnH_spec (g : Nat → Int32) (k h n : Nat) : (∀ i, i < n → k < hnB g (g i) h → g i ≤ fnH g k h n) ∧ (fnH g k h n = nI 0 ∨ ∃ i, i < n ∧ g i = fnH g k h n ∧ k < hnB g (fnH g k h n) h) := by
  induction n with
  | zero => exact ⟨fun i hi => absurd hi (Nat.not_lt_zero _), Or.inl rfl⟩
  | succ n ih =>
    obtain ⟨a1, a2⟩ := ih
    rw [fnH]
    by_cases q : ¬ g n ≤ fnH g k h n ∧ k < hnB g (g n) h
    · rw [if_pos q]
      refine ⟨fun i hi hz => ?_, Or.inr ⟨n, by omega, rfl, q.2⟩⟩
      by_cases e : i = n
      · rw [e]; exact Int32.le_refl _
      · have := a1 i (by omega) hz
        have := q.1
        rw [i_le] at *
        omega
    · rw [if_neg q]
      refine ⟨fun i hi hz => ?_, ?_⟩
      · by_cases e : i = n
        · subst e
          exact Classical.byContradiction fun z => q ⟨z, hz⟩
        · exact a1 i (by omega) hz
      · rcases a2 with z | ⟨i, hi, e, e2⟩
        · exact Or.inl z
        · exact Or.inr ⟨i, by omega, e, e2⟩
theorem fnH_eq {mv k kz : Nat} {f g u v : Nat → Int32} {h : Nat} (H : HvR mv f g h u v) (hkz : kz < h) (hr : ahU v kz h = k) : fnH g k h h = v kz ∧ sw (fun i => if g i ≤ v kz then 0 else 1) h ≤ k := by
  have B := H.2.2.2.bd H.2.1
  have Bn : ∀ i, i < h → v i = nI (gnOf v i) ∧ gnOf v i ≤ 10000000 := fun i hi => ⟨(gnOf_ok B i hi).1, (gnOf_ok B i hi).2.2⟩
  have hr2 : ahN (gnOf v) kz h = k := (ahU_N Bn hkz h (Nat.le_refl _)).symm.trans hr
  have hr3 : sw (fun m => if gnOf v kz < gnOf v m ∨ (gnOf v m = gnOf v kz ∧ m < kz) then 1 else 0) h = k := hr2
  have hn : ∀ w, hnB g w h = sw (fun i => if v i < w then 0 else 1) h := fun w => by rw [hnB_sw]; exact H.2.2.2 (fun _ b => if b < w then 0 else 1)
  have k1 : k < hnB g (v kz) h := by
    rw [hn, ← hr3]
    refine sw_lt h kz hkz (fun m hm => ?_) ?_
    · obtain ⟨b1, b2⟩ := Bn m hm
      obtain ⟨b3, b4⟩ := Bn kz hkz
      by_cases y : gnOf v kz < gnOf v m ∨ (gnOf v m = gnOf v kz ∧ m < kz)
      · rw [if_pos y, if_neg]
        · exact Nat.le_refl _
        · rw [b1, b3, nI_ltI (by omega) (by omega)]; omega
      · rw [if_neg y]; exact Nat.zero_le _
    · rw [if_neg (by omega), if_neg (fun z => i_irr z)]; omega
  have k2 : ∀ b : Nat, b ≤ 10000000 → gnOf v kz < b → hnB g (nI b) h ≤ k := by
    intro b hb hlt
    rw [hn, ← hr3]
    refine sw_mono h (fun m hm => ?_)
    obtain ⟨b1, b2⟩ := Bn m hm
    by_cases y : v m < nI b
    · rw [if_pos y]; exact Nat.zero_le _
    · rw [if_neg y, if_pos]
      · exact Nat.le_refl _
      · rw [b1, nI_ltI (by omega) (by omega)] at y; omega
  obtain ⟨b3, b4⟩ := Bn kz hkz
  have b5 := (gnOf_ok B kz hkz).2.1
  obtain ⟨i0, hi0, _, e0⟩ := H.2.2.2.symm.to hkz
  obtain ⟨s1, s2⟩ := fnH_spec g k h h
  have s3 := s1 i0 hi0 (by rw [e0]; exact k1)
  rw [e0] at s3
  refine ⟨?_, ?_⟩
  · rcases s2 with z | ⟨i, hi, e, e2⟩
    · rw [z, b3, nI_leI (by omega) (by omega)] at s3
      omega
    · obtain ⟨a, a1, a2, a3⟩ := H.2.1 i hi
      have ea : fnH g k h h = nI a := e.symm.trans a3
      rw [ea] at e2 s3 ⊢
      rw [b3, nI_leI (by omega) (by omega)] at s3
      by_cases z : gnOf v kz < a
      · have := k2 a a2 z
        omega
      · rw [b3]
        congr 1
        omega
  · have e := H.2.2.2 (fun _ b => if b ≤ v kz then 0 else 1)
    refine Nat.le_trans (Nat.le_of_eq e) ?_
    rw [← hr3]
    refine sw_mono h (fun m hm => ?_)
    obtain ⟨b1, b2⟩ := Bn m hm
    by_cases y : v m ≤ v kz
    · rw [if_pos y]; exact Nat.zero_le _
    · rw [if_neg y, if_pos]
      · exact Nat.le_refl _
      · rw [b1, b3, nI_leI (by omega) (by omega)] at y; omega
/-- HEAVY: two made one, the class's row and the reference's -/
theorem HvR.merge1 {mv mv2 k : Nat} {lo lo2 : Int32} {f g u v f2 g2 u2 v2 : Nat → Int32} {h h2 : Nat} (H : HvR mv f g h u v) (H2 : HvR mv2 f2 g2 h2 u2 v2) (hm : mv + mv2 ≤ 10000000) (hk : (jnU u2 v2 (u, v, h) h2).2.2 ≤ k) :
    HvR (mv + mv2) (mgH k f2 g2 h2 lo2 (f, g, h) lo).1.1 (mgH k f2 g2 h2 lo2 (f, g, h) lo).1.2.1 (mgH k f2 g2 h2 lo2 (f, g, h) lo).1.2.2 (jnU u2 v2 (u, v, h) h2).1 (jnU u2 v2 (u, v, h) h2).2.1 ∧ (mgH k f2 g2 h2 lo2 (f, g, h) lo).1.2.2 = (jnU u2 v2 (u, v, h) h2).2.2 ∧ (mgH k f2 g2 h2 lo2 (f, g, h) lo).2 = lo + lo2 := by
  obtain ⟨a1, a2⟩ := HvR.join H H2 hm
  have e : mgH k f2 g2 h2 lo2 (f, g, h) lo = (jnH f2 g2 (f, g, h) h2, lo + lo2) := if_neg (by rw [a2]; omega)
  rw [e]
  exact ⟨a1, a2, rfl⟩
theorem HvR.merge2 {mv mv2 k kz : Nat} {lo lo2 : Int32} {f g u v f2 g2 u2 v2 : Nat → Int32} {h h2 : Nat} (H : HvR mv f g h u v) (H2 : HvR mv2 f2 g2 h2 u2 v2) (hm : mv + mv2 ≤ 10000000) (hk : k < (jnU u2 v2 (u, v, h) h2).2.2) (hkz : kz < (jnU u2 v2 (u, v, h) h2).2.2) (hr : ahU (jnU u2 v2 (u, v, h) h2).2.1 kz (jnU u2 v2 (u, v, h) h2).2.2 = k) :
    HvR (mv + mv2) (mgH k f2 g2 h2 lo2 (f, g, h) lo).1.1 (mgH k f2 g2 h2 lo2 (f, g, h) lo).1.2.1 (mgH k f2 g2 h2 lo2 (f, g, h) lo).1.2.2 (lessU (jnU u2 v2 (u, v, h) h2).1 (jnU u2 v2 (u, v, h) h2).2.1 ((jnU u2 v2 (u, v, h) h2).2.1 kz) (jnU u2 v2 (u, v, h) h2).2.2).1 (lessU (jnU u2 v2 (u, v, h) h2).1 (jnU u2 v2 (u, v, h) h2).2.1 ((jnU u2 v2 (u, v, h) h2).2.1 kz) (jnU u2 v2 (u, v, h) h2).2.2).2.1
    ∧ (mgH k f2 g2 h2 lo2 (f, g, h) lo).1.2.2 = (lessU (jnU u2 v2 (u, v, h) h2).1 (jnU u2 v2 (u, v, h) h2).2.1 ((jnU u2 v2 (u, v, h) h2).2.1 kz) (jnU u2 v2 (u, v, h) h2).2.2).2.2 ∧ (mgH k f2 g2 h2 lo2 (f, g, h) lo).2 = lo + lo2 + (jnU u2 v2 (u, v, h) h2).2.1 kz ∧ (mgH k f2 g2 h2 lo2 (f, g, h) lo).1.2.2 ≤ k := by
  obtain ⟨a1, a2⟩ := HvR.join H H2 hm
  have e : mgH k f2 g2 h2 lo2 (f, g, h) lo = (lwH (jnH f2 g2 (f, g, h) h2).1 (jnH f2 g2 (f, g, h) h2).2.1 (fnH (jnH f2 g2 (f, g, h) h2).2.1 k (jnH f2 g2 (f, g, h) h2).2.2 (jnH f2 g2 (f, g, h) h2).2.2) (jnH f2 g2 (f, g, h) h2).2.2, lo + lo2 + fnH (jnH f2 g2 (f, g, h) h2).2.1 k (jnH f2 g2 (f, g, h) h2).2.2 (jnH f2 g2 (f, g, h) h2).2.2) := if_pos (by rw [a2]; exact hk)
  rw [e]
  clear e
  generalize jnH f2 g2 (f, g, h) h2 = S at a1 a2 ⊢
  generalize jnU u2 v2 (u, v, h) h2 = T at a1 a2 hk hkz hr ⊢
  obtain ⟨s1, s2, s3⟩ := S
  obtain ⟨t1, t2, t3⟩ := T
  dsimp only at a1 a2 hk hkz hr
  subst a2
  obtain ⟨b1, b2⟩ := fnH_eq a1 hkz hr
  obtain ⟨a, c1, c2, c3⟩ := (a1.2.2.2.bd a1.2.1) kz hkz
  dsimp only
  rw [b1, c3]
  rw [c3] at b2
  obtain ⟨d1, d2⟩ := HvR.low a1 c2
  refine ⟨d1, d2, rfl, ?_⟩
  have e1 := lwH_sw (fun _ _ => 1) s1 s2 (nI a) s3
  rw [sw_one] at e1
  rw [e1]
  exact b2
/-! HEAVY: what is told -/
theorem HvR.al {mv : Nat} {f g u v : Nat → Int32} {h : Nat} (H : HvR mv f g h u v) (x : Int32) : alH f g h x = alU u v h x := by
  have hin := (plc_in H.1 (x := x)).trans ((ce_in H.2.2.2).trans fdU_in.symm)
  unfold alH alU
  by_cases q : plc f x h < h ∧ f (plc f x h) = x
  · rw [if_pos q, if_pos (hin.mp q)]
    have q2 := hin.mp q
    obtain ⟨i, hi, e3, e4⟩ := H.2.2.2.symm.to q2
    rw [plc_at H.1 hi (e3.trans (fdU_at u x h q2))]
    exact e4
  · rw [if_neg q, if_neg (fun z => q (hin.mpr z))]
