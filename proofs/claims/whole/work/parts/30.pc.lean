/-! ===== HEAVY: the rising row of COUNTERS and the reference's ===== -/
def cw (x : Int32) : Nat := x.toNatClampNeg
theorem cw_nI {a : Nat} (h : a < 2147483648) : cw (nI a) = a := nI_clamp h
def okN (b : Int32) : Prop := ∃ a : Nat, 1 ≤ a ∧ a ≤ 10000000 ∧ b = nI a
def HvB (g : Nat → Int32) (h : Nat) : Prop := ∀ i, i < h → okN (g i)
def HvR (mv : Nat) (f g : Nat → Int32) (h : Nat) (u v : Nat → Int32) : Prop := upR f h ∧ HvB g h ∧ sw (fun i => cw (g i)) h ≤ mv ∧ CE f g h u v h
theorem CE.bd {f g u v : Nat → Int32} {h : Nat} (C : CE f g h u v h) (B : HvB g h) : HvB v h := by
  intro j hj
  obtain ⟨i, hi, _, e⟩ := C.symm.to hj
  rw [← e]
  exact B i hi
theorem adH_up {x n : Int32} {f g : Nat → Int32} {h : Nat} (H : upR f h) : upR (adH x n (f, g, h)).1 (adH x n (f, g, h)).2.2 := by
  by_cases q : plc f x h < h ∧ f (plc f x h) = x
  · rw [adH_yes q]; exact H
  · rw [adH_no q]
    exact ins_up H (plc_le f x h) (plc_below f x h) (plc_gt H q) (Nat.le_refl _)
theorem adH_sw1 {x n : Int32} {f g : Nat → Int32} {h : Nat} (Q : Int32 → Int32 → Nat) (q : plc f x h < h ∧ f (plc f x h) = x) : sw (fun i => Q ((adH x n (f, g, h)).1 i) ((adH x n (f, g, h)).2.1 i)) (adH x n (f, g, h)).2.2 + Q x (g (plc f x h)) = sw (fun i => Q (f i) (g i)) h + Q x (g (plc f x h) + n) := by
  rw [adH_yes q]
  have a := sw_upd (p := fun i => Q (f i) (g i)) (q := fun i => Q (f i) (upd g (plc f x h) (g (plc f x h) + n) i)) h (plc f x h) q.1 (fun i hi hi2 => by show Q (f i) (upd g (plc f x h) _ i) = _; rw [upd_ne2 hi2])
  rw [upd_same, q.2] at a
  exact a
theorem adH_sw2 {x n : Int32} {f g : Nat → Int32} {h : Nat} (Q : Int32 → Int32 → Nat) (q : ¬ (plc f x h < h ∧ f (plc f x h) = x)) : sw (fun i => Q ((adH x n (f, g, h)).1 i) ((adH x n (f, g, h)).2.1 i)) (adH x n (f, g, h)).2.2 = sw (fun i => Q (f i) (g i)) h + Q x n := by
  rw [adH_no q]
  have hat : ∀ (F : Nat → Int32) (y : Int32), insA F (plc f x h) (h + 1) y (plc f x h) = y := fun F y => by unfold insA; rw [if_neg (Nat.lt_irrefl _), if_pos rfl]
  have a := sw_ins (p := fun i => Q (f i) (g i)) (q := fun i => Q (insA f (plc f x h) (h + 1) x i) (insA g (plc f x h) (h + 1) n i)) h (plc f x h) (plc_le f x h) (fun i hi => by
    show Q (insA f (plc f x h) (h + 1) x i) (insA g (plc f x h) (h + 1) n i) = _
    unfold insA; rw [if_pos hi, if_pos hi]) (fun i hi hi2 => by
    show Q (insA f (plc f x h) (h + 1) x i) (insA g (plc f x h) (h + 1) n i) = _
    unfold insA; rw [if_neg (by omega), if_neg (by omega), if_pos (by omega), if_neg (by omega), if_neg (by omega), if_pos (by omega)])
  rw [hat, hat] at a
  exact a
theorem CE_add {x n : Int32} {f g u v : Nat → Int32} {h : Nat} (H : upR f h) (C : CE f g h u v h) : CE (adH x n (f, g, h)).1 (adH x n (f, g, h)).2.1 (adH x n (f, g, h)).2.2 (addU x n (u, v, h)).1 (addU x n (u, v, h)).2.1 (addU x n (u, v, h)).2.2 := by
  intro Q
  have hin := ce_in C (x := x)
  by_cases q : plc f x h < h ∧ f (plc f x h) = x
  · have q2 : fdU u x h < h := fdU_in.mpr (hin.mp ((plc_in H).mp q))
    have e2 : addU x n (u, v, h) = (u, upd v (fdU u x h) (v (fdU u x h) + n), h) := if_pos q2
    have hu := fdU_at u x h q2
    obtain ⟨i, hi, e3, e4⟩ := C.symm.to q2
    have hip : plc f x h = i := plc_at H hi (e3.trans hu)
    have hg : v (fdU u x h) = g (plc f x h) := by rw [hip]; exact e4.symm
    have a := adH_sw1 (n := n) (g := g) Q q
    have b := sw_upd (p := fun i => Q (u i) (v i)) (q := fun i => Q (u i) (upd v (fdU u x h) (v (fdU u x h) + n) i)) h (fdU u x h) q2 (fun i hi hi2 => by show Q (u i) (upd v (fdU u x h) _ i) = _; rw [upd_ne2 hi2])
    rw [upd_same, hu] at b
    rw [e2]
    show _ = sw (fun i => Q (u i) (upd v (fdU u x h) (v (fdU u x h) + n) i)) h
    have c := C Q
    rw [hg] at b ⊢
    omega
  · have q2 : ¬ fdU u x h < h := fun z => q ((plc_in H).mpr (hin.mpr (fdU_in.mp z)))
    have e2 : addU x n (u, v, h) = (upd u h x, upd v h (nI 0 + n), h + 1) := if_neg q2
    have e3 : nI 0 + n = n := by rw [nI_0, Int32.zero_add]
    rw [adH_sw2 Q q, e2, e3, C Q]
    show _ = sw (fun i => Q (upd u h x i) (upd v h n i)) h + Q (upd u h x h) (upd v h n h)
    rw [upd_same, upd_same, sw_congr (p := fun i => Q (upd u h x i) (upd v h n i)) (q := fun i => Q (u i) (v i)) h (fun i hi => by show Q (upd u h x i) (upd v h n i) = _; rw [upd_ne2 (by omega), upd_ne2 (by omega)])]
theorem HvR.add {mv : Nat} {x : Int32} {c : Nat} {f g u v : Nat → Int32} {h : Nat} (H : HvR mv f g h u v) (hc : 1 ≤ c) (hm : mv + c ≤ 10000000) : HvR (mv + c) (adH x (nI c) (f, g, h)).1 (adH x (nI c) (f, g, h)).2.1 (adH x (nI c) (f, g, h)).2.2 (addU x (nI c) (u, v, h)).1 (addU x (nI c) (u, v, h)).2.1 ∧ (adH x (nI c) (f, g, h)).2.2 = (addU x (nI c) (u, v, h)).2.2 := by
  obtain ⟨h1, h2, h3, h4⟩ := H
  have hC := CE_add (x := x) (n := nI c) h1 h4
  have hl := hC.len
  refine ⟨⟨adH_up h1, ?_, ?_, by rw [← hl] at hC; exact hC⟩, hl⟩
  · by_cases q : plc f x h < h ∧ f (plc f x h) = x
    · rw [adH_yes q]
      intro i hi
      show okN (upd g (plc f x h) (g (plc f x h) + nI c) i)
      by_cases e : i = plc f x h
      · rw [e, upd_same]
        obtain ⟨a, a1, a2, a3⟩ := h2 _ q.1
        have h5 := sw_at (p := fun i => cw (g i)) h _ q.1
        rw [a3, cw_nI (by omega)] at h5
        rw [a3, nI_add]
        exact ⟨a + c, by omega, by omega, rfl⟩
      · rw [upd_ne2 e]; exact h2 i hi
    · rw [adH_no q]
      intro i hi
      show okN (insA g (plc f x h) (h + 1) (nI c) i)
      have hp := plc_le f x h
      have hi2 : i < h + 1 := hi
      unfold insA
      by_cases z1 : i < plc f x h
      · rw [if_pos z1]; exact h2 i (by omega)
      · rw [if_neg z1]
        by_cases z2 : i = plc f x h
        · rw [if_pos z2]; exact ⟨c, hc, by omega, rfl⟩
        · rw [if_neg z2, if_pos hi2]; exact h2 (i - 1) (by omega)
  · by_cases q : plc f x h < h ∧ f (plc f x h) = x
    · have a := adH_sw1 (n := nI c) (g := g) (fun _ b => cw b) q
      obtain ⟨a0, a1, a2, a3⟩ := h2 _ q.1
      have h5 := sw_at (p := fun i => cw (g i)) h _ q.1
      rw [a3, cw_nI (by omega)] at h5
      rw [a3, nI_add, cw_nI (by omega), cw_nI (by omega)] at a
      omega
    · have a := adH_sw2 (n := nI c) (g := g) (fun _ b => cw b) q
      rw [cw_nI (by omega)] at a
      omega
/-! lowering -/
theorem lwH_orig (f g : Nat → Int32) (d : Int32) : ∀ i j, i ≤ j → (lwH f g d i).1 j = f j ∧ (lwH f g d i).2.1 j = g j
  | 0, _, _ => ⟨rfl, rfl⟩
  | i + 1, j, h => by
    have ih := lwH_orig f g d i j (by omega)
    have hle := lwH_le f g d i
    by_cases q : (lwH f g d i).2.1 i ≤ d
    · rw [lwH_skip q]; exact ih
    · rw [lwH_keep q]
      refine ⟨?_, ?_⟩
      · show upd (lwH f g d i).1 _ _ j = _
        rw [upd_ne2 (by omega)]; exact ih.1
      · show upd (lwH f g d i).2.1 _ _ j = _
        rw [upd_ne2 (by omega)]; exact ih.2
theorem lwH_sw (Q : Int32 → Int32 → Nat) (f g : Nat → Int32) (d : Int32) (n : Nat) : sw (fun i => Q ((lwH f g d n).1 i) ((lwH f g d n).2.1 i)) (lwH f g d n).2.2 = sw (fun i => if g i ≤ d then 0 else Q (f i) (g i - d)) n := by
  induction n with
  | zero => rfl
  | succ n ih =>
    have ho := lwH_orig f g d n n (Nat.le_refl _)
    rw [sw, ← ih]
    by_cases q : (lwH f g d n).2.1 n ≤ d
    · rw [lwH_skip q, if_pos (by rw [← ho.2]; exact q)]
      rfl
    · rw [lwH_keep q, if_neg (by rw [← ho.2]; exact q)]
      show sw (fun i => Q (upd (lwH f g d n).1 (lwH f g d n).2.2 ((lwH f g d n).1 n) i) (upd (lwH f g d n).2.1 (lwH f g d n).2.2 ((lwH f g d n).2.1 n - d) i)) ((lwH f g d n).2.2 + 1) = _
      rw [sw, upd_same, upd_same, ho.1, ho.2]
      congr 1
      exact sw_congr _ (fun i hi => by
        show Q (upd _ _ _ i) (upd _ _ _ i) = _
        rw [upd_ne2 (by omega), upd_ne2 (by omega)])
theorem lessU_sw (Q : Int32 → Int32 → Nat) (f g : Nat → Int32) (d : Int32) (n : Nat) : sw (fun i => Q ((lessU f g d n).1 i) ((lessU f g d n).2.1 i)) (lessU f g d n).2.2 = sw (fun i => if g i - d ≤ 0 then 0 else Q (f i) (g i - d)) n := by
  induction n with
  | zero => rfl
  | succ n ih =>
    have ho := lessU_orig f g d n n (Nat.le_refl _)
    rw [sw, ← ih]
    by_cases q : (lessU f g d n).2.1 n - d ≤ 0
    · rw [lessU_skip q, if_pos (by rw [← ho.2]; exact q)]
      rfl
    · rw [lessU_keep q, if_neg (by rw [← ho.2]; exact q)]
      show sw (fun i => Q (upd (lessU f g d n).1 (lessU f g d n).2.2 ((lessU f g d n).1 n) i) (upd (lessU f g d n).2.1 (lessU f g d n).2.2 ((lessU f g d n).2.1 n - d) i)) ((lessU f g d n).2.2 + 1) = _
      rw [sw, upd_same, upd_same, ho.1, ho.2]
      congr 1
      exact sw_congr _ (fun i hi => by
        show Q (upd _ _ _ i) (upd _ _ _ i) = _
        rw [upd_ne2 (by omega), upd_ne2 (by omega)])
theorem sub_le0 {a b : Nat} (ha : a ≤ 100000000) (hb : b ≤ 100000000) : nI a - nI b ≤ 0 ↔ nI a ≤ nI b := by
  rw [i_le, pk_sub_toInt (by omega) (by omega), Int32.toInt_zero, nI_leI (by omega) (by omega)]
  omega
theorem CE_low {f g u v : Nat → Int32} {h D : Nat} (C : CE f g h u v h) (B : HvB g h) (hD : D ≤ 10000000) : CE (lwH f g (nI D) h).1 (lwH f g (nI D) h).2.1 (lwH f g (nI D) h).2.2 (lessU u v (nI D) h).1 (lessU u v (nI D) h).2.1 (lessU u v (nI D) h).2.2 := by
  intro Q
  rw [lwH_sw, lessU_sw, C (fun a b => if b ≤ nI D then 0 else Q a (b - nI D))]
  refine sw_congr h (fun i hi => ?_)
  obtain ⟨a, a1, a2, a3⟩ := C.bd B i hi
  show (if v i ≤ nI D then 0 else Q (u i) (v i - nI D)) = _
  rw [a3]
  by_cases q : nI a ≤ nI D
  · rw [if_pos q, if_pos ((sub_le0 (by omega) (by omega)).mpr q)]
  · rw [if_neg q, if_neg (fun z => q ((sub_le0 (by omega) (by omega)).mp z))]
theorem lwH_up {f g : Nat → Int32} {d : Int32} {h : Nat} (H : upR f h) : ∀ n, n ≤ h → upR (lwH f g d n).1 (lwH f g d n).2.2 ∧ ∀ i m, i < (lwH f g d n).2.2 → n ≤ m → m < h → (lwH f g d n).1 i < f m := by
  intro n
  induction n with
  | zero => intro _; exact ⟨fun i j _ hj => absurd hj (Nat.not_lt_zero _), fun i m hi _ _ => absurd hi (Nat.not_lt_zero _)⟩
  | succ n ih =>
    intro hn
    obtain ⟨a1, a2⟩ := ih (by omega)
    have ho := lwH_orig f g d n n (Nat.le_refl _)
    by_cases q : (lwH f g d n).2.1 n ≤ d
    · rw [lwH_skip q]; exact ⟨a1, fun i m hi hm hm2 => a2 i m hi (by omega) hm2⟩
    · rw [lwH_keep q]
      refine ⟨fun i j hij hj => ?_, fun i m hi hm hm2 => ?_⟩
      · have hj2 : j < (lwH f g d n).2.2 + 1 := hj
        show upd (lwH f g d n).1 (lwH f g d n).2.2 ((lwH f g d n).1 n) i < upd (lwH f g d n).1 (lwH f g d n).2.2 ((lwH f g d n).1 n) j
        rw [upd_ne2 (show i ≠ (lwH f g d n).2.2 by omega)]
        by_cases e : j = (lwH f g d n).2.2
        · rw [e, upd_same, ho.1]; exact a2 i n (by omega) (Nat.le_refl _) (by omega)
        · rw [upd_ne2 e]; exact a1 i j hij (by omega)
      · have hi2 : i < (lwH f g d n).2.2 + 1 := hi
        show upd (lwH f g d n).1 (lwH f g d n).2.2 ((lwH f g d n).1 n) i < f m
        by_cases e : i = (lwH f g d n).2.2
        · rw [e, upd_same, ho.1]; exact H n m (by omega) hm2
        · rw [upd_ne2 e]; exact a2 i m (by omega) (by omega) hm2
theorem sw_no {p : Nat → Prop} [∀ i, Decidable (p i)] {n : Nat} (h : sw (fun i => if p i then 0 else 1) n = 0) (i : Nat) (hi : i < n) : p i := by
  have := sw_at (p := fun i => (if p i then 0 else 1 : Nat)) n i hi
  rw [h] at this
  by_cases q : p i
  · exact q
  · rw [if_neg q] at this
    omega
theorem lwH_bd {f g : Nat → Int32} {D h : Nat} (B : HvB g h) (hD : D ≤ 10000000) : HvB (lwH f g (nI D) h).2.1 (lwH f g (nI D) h).2.2 := by
  classical
  intro i hi
  refine sw_no (p := fun i => okN ((lwH f g (nI D) h).2.1 i)) (n := (lwH f g (nI D) h).2.2) ?_ i hi
  have e := lwH_sw (fun _ b => if okN b then 0 else 1) f g (nI D) h
  rw [e]
  refine sw_zero h (fun j hj => ?_)
  obtain ⟨a, a1, a2, a3⟩ := B j hj
  by_cases q : g j ≤ nI D
  · rw [if_pos q]
  · rw [if_neg q]
    refine if_pos ?_
    rw [a3] at q ⊢
    rw [nI_leI (by omega) (by omega)] at q
    rw [ni_sub (by omega)]
    exact ⟨a - D, by omega, by omega, rfl⟩
theorem HvR.low {mv D : Nat} {f g u v : Nat → Int32} {h : Nat} (H : HvR mv f g h u v) (hD : D ≤ 10000000) : HvR mv (lwH f g (nI D) h).1 (lwH f g (nI D) h).2.1 (lwH f g (nI D) h).2.2 (lessU u v (nI D) h).1 (lessU u v (nI D) h).2.1 ∧ (lwH f g (nI D) h).2.2 = (lessU u v (nI D) h).2.2 := by
  obtain ⟨h1, h2, h3, h4⟩ := H
  have hC := CE_low h4 h2 hD
  have hl := hC.len
  refine ⟨⟨(lwH_up h1 h (Nat.le_refl _)).1, lwH_bd h2 hD, ?_, by rw [← hl] at hC; exact hC⟩, hl⟩
  have e := lwH_sw (fun _ b => cw b) f g (nI D) h
  rw [e]
  refine Nat.le_trans (sw_mono h (fun i hi => ?_)) h3
  obtain ⟨a, a1, a2, a3⟩ := h2 i hi
  by_cases q : g i ≤ nI D
  · rw [if_pos q]; exact Nat.zero_le _
  · rw [if_neg q]
    rw [a3] at q ⊢
    rw [nI_leI (by omega) (by omega)] at q
    rw [ni_sub (by omega), cw_nI (by omega), cw_nI (by omega)]
    omega
