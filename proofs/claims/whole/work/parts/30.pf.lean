/-! ===== TABLE: bounds on the CELLS ===== -/
def TbB (mv : Nat) (f : Nat → Int32) (n : Nat) : Prop := ∀ i, i < n → -(mv : Int) ≤ (f i).toInt ∧ (f i).toInt ≤ (mv : Int)
theorem toInt_add_small {a b : Int32} {m n : Nat} (ha : -(m : Int) ≤ a.toInt ∧ a.toInt ≤ (m : Int)) (hb : -(n : Int) ≤ b.toInt ∧ b.toInt ≤ (n : Int)) (h : m + n ≤ 10000000) : (a + b).toInt = a.toInt + b.toInt := by
  rw [Int32.toInt_add, Int.bmod_def]
  omega
theorem abs_bd {n : Int32} {c : Nat} (hc : c ≤ 1000) (h : absI n = nI c) : -(c : Int) ≤ n.toInt ∧ n.toInt ≤ (c : Int) := by
  unfold absI at h
  by_cases q : 0 ≤ n
  · rw [if_pos q] at h
    rw [h, nI_toInt (by omega)]
    omega
  · rw [if_neg q] at h
    have h2 := congrArg Int32.toInt h
    rw [nI_toInt (by omega), Int32.toInt_sub, Int32.toInt_zero, Int.bmod_def] at h2
    rw [i_le, Int32.toInt_zero] at q
    have h3 := Int32.le_toInt n
    have h4 := Int32.toInt_lt n
    omega
theorem tkT_row {f : Nat → Int32} {sd x c : Nat} {n : Int32} (hc : 1 ≤ c) : ∀ j, j ≤ 4 → ∀ i, (j * c ≤ i → tkT f sd x c n j i = f i) ∧ (tkT f sd x c n j i = f i ∨ tkT f sd x c n j i = f i + n) := by
  intro j
  induction j with
  | zero => intro _ i; exact ⟨fun _ => rfl, Or.inl rfl⟩
  | succ j ih =>
    intro hj i
    have hpl : hsN sd j x % c < c := Nat.mod_lt _ (by omega)
    show (_ → upd (tkT f sd x c n j) (j * c + hsN sd j x % c) (tkT f sd x c n j (j * c + hsN sd j x % c) + n) i = f i) ∧ (upd (tkT f sd x c n j) (j * c + hsN sd j x % c) (tkT f sd x c n j (j * c + hsN sd j x % c) + n) i = f i ∨ upd (tkT f sd x c n j) (j * c + hsN sd j x % c) (tkT f sd x c n j (j * c + hsN sd j x % c) + n) i = f i + n)
    by_cases e : i = j * c + hsN sd j x % c
    · subst e
      rw [upd_same, (ih (by omega) _).1 (by omega)]
      refine ⟨fun z => ?_, Or.inr rfl⟩
      rw [Nat.succ_mul] at z
      omega
    · rw [upd_ne2 e]
      refine ⟨fun z => (ih (by omega) i).1 ?_, (ih (by omega) i).2⟩
      rw [Nat.succ_mul] at z
      omega
theorem TbB.come {mv c cn sd x N : Nat} {n : Int32} {f : Nat → Int32} (H : TbB mv f N) (hc : 1 ≤ c) (hn : absI n = nI cn) (hcn : cn ≤ 1000) (hm : mv + cn ≤ 10000000) : TbB (mv + cn) (tkT f sd x c n 4) N := by
  intro i hi
  have h1 := H i hi
  have h2 := abs_bd hcn hn
  rcases (tkT_row (f := f) (sd := sd) (x := x) (n := n) hc 4 (by omega) i).2 with e | e
  · rw [e]; omega
  · rw [e, toInt_add_small h1 h2 hm]; omega
theorem jnA_at {f g : Nat → Int32} : ∀ n i, jnA f g n i = if i < n then f i + g i else f i := by
  intro n
  induction n with
  | zero => intro i; rw [if_neg (Nat.not_lt_zero _)]; rfl
  | succ n ih =>
    intro i
    show upd (jnA f g n) n (jnA f g n n + g n) i = _
    by_cases e : i = n
    · subst e
      rw [upd_same, ih, if_neg (Nat.lt_irrefl _), if_pos (Nat.lt_succ_self _)]
    · rw [upd_ne2 e, ih]
      by_cases q : i < n
      · rw [if_pos q, if_pos (by omega)]
      · rw [if_neg q, if_neg (by omega)]
theorem TbB.join {mv mv2 N : Nat} {f g : Nat → Int32} (H : TbB mv f N) (H2 : TbB mv2 g N) (hm : mv + mv2 ≤ 10000000) : TbB (mv + mv2) (jnA f g N) N := by
  intro i hi
  rw [jnA_at, if_pos hi, toInt_add_small (H i hi) (H2 i hi) hm]
  have h1 := H i hi
  have h2 := H2 i hi
  omega
theorem mnT_1 {mv c : Nat} {sd x : Nat} {f : Nat → Int32} (hc : 1 ≤ c) (hm : mv ≤ 10000000) (H : TbB mv f (4 * c)) : ∀ j, j < 4 → mnT f sd x c (j + 1) = mn1 f sd x c j := by
  intro j
  induction j with
  | zero =>
    intro _
    have hpl : hsN sd 0 x % c < c := Nat.mod_lt _ (by omega)
    have h1 := H (0 * c + hsN sd 0 x % c) (by omega)
    show (if f (0 * c + hsN sd 0 x % c) < nI 10000000 then f (0 * c + hsN sd 0 x % c) else nI 10000000) = f (0 * c + hsN sd 0 x % c)
    by_cases q : f (0 * c + hsN sd 0 x % c) < nI 10000000
    · rw [if_pos q]
    · rw [if_neg q]
      rw [i_lt, nI_toInt (by decide)] at q
      rw [i_eq, nI_toInt (by decide)]
      omega
  | succ j ih =>
    intro hj
    rw [mnT, mn1, ih (by omega)]
theorem TbM.ext {ro : Nat → Int32} {s n : Nat} {f g : Nat → Int32} (H : TbM ro s f n) (e : ∀ i, i < n → f i = g i) : TbM ro s g n := fun i hi => (H i hi).trans (e i hi)
/-! RANKS: two ways to say the least and the most -/
theorem lo_same (a : Int32) : (if nI 0 < a then a else nI 0) = (if a < 0 then nI 0 else a) := by
  rw [nI_0]
  by_cases q : a < 0
  · rw [if_pos q, if_neg]
    rw [i_lt] at *
    omega
  · rw [if_neg q]
    by_cases z : (0 : Int32) < a
    · rw [if_pos z]
    · rw [if_neg z, i_eq]
      rw [i_lt] at *
      omega
theorem hi_same (a t : Int32) : (if a < t then a else t) = (if t < a then t else a) := by
  by_cases q : a < t
  · rw [if_pos q, if_neg]
    rw [i_lt] at *
    omega
  · rw [if_neg q]
    by_cases z : t < a
    · rw [if_pos z]
    · rw [if_neg z, i_eq]
      rw [i_lt] at *
      omega
/-! what stands in a row that was copied, or emptied -/
theorem RkM.ext {ro : Nat → Int32} {s k : Nat} {f f2 : Nat → Int32} {ln tr ln2 tr2 : Nat → Nat} {er er2 : Int32} (H : RkM ro s k (f, ln, tr, er)) (e1 : ∀ b, b < 31 → ln b = ln2 b) (e2 : ∀ b, b < 31 → tr b = tr2 b) (e3 : ∀ b i, b < 31 → i < ln b → f (b * k + i) = f2 (b * k + i)) : RkM ro s k (f2, ln2, tr2, er2) :=
  ⟨fun b hb => (H.1 b hb).trans (by show nI (ln b) = nI (ln2 b); rw [e1 b hb]), fun b hb => (H.2.1 b hb).trans (by show nI (tr b) = nI (tr2 b); rw [e2 b hb]), fun b i hb hi => by
    have hi2 : i < ln b := by rw [e1 b hb]; exact hi
    exact (H.2.2 b i hb hi2).trans (e3 b i hb hi2)⟩
theorem cp_at {ro : Nat → Int32} {s t z : Nat} (hz : z < 1200) : cpM ro s t 1200 (1200 * t + z) = ro (1200 * s + z) := by
  unfold cpM
  rw [if_pos (by omega)]
  congr 1
  omega
theorem zr_at {ro : Nat → Int32} {s z : Nat} (hz : z < 1200) : zrM ro s 1200 (1200 * s + z) = 0 := by
  unfold zrM
  rw [if_pos (by omega)]
theorem TbM.cp {ro : Nat → Int32} {s t n : Nat} {f : Nat → Int32} (H : TbM ro s f n) (hn : n ≤ 1000) : TbM (cpM ro s t 1200) t f n := fun i hi => by
  rw [Nat.add_assoc, cp_at (by omega), ← Nat.add_assoc]
  exact H i hi
theorem LsM.cp {ro : Nat → Int32} {s t n : Nat} {f : Nat → Int32} (H : LsM ro s f n) (hn : n ≤ 1000) : LsM (cpM ro s t 1200) t f n := by
  refine ⟨?_, fun i hi => ?_⟩
  · have := cp_at (ro := ro) (s := s) (t := t) (z := 0) (by omega)
    rw [Nat.add_zero, Nat.add_zero] at this
    rw [this]; exact H.1
  · rw [Nat.add_assoc, cp_at (by omega), ← Nat.add_assoc]
    exact H.2 i hi
theorem HvM.cp {ro : Nat → Int32} {s t n : Nat} {f g : Nat → Int32} (H : HvM ro s f g n) (hn : n ≤ 500) : HvM (cpM ro s t 1200) t f g n := by
  refine ⟨?_, fun i hi => ⟨?_, ?_⟩⟩
  · have := cp_at (ro := ro) (s := s) (t := t) (z := 0) (by omega)
    rw [Nat.add_zero, Nat.add_zero] at this
    rw [this]; exact H.1
  · rw [Nat.add_assoc, cp_at (by omega), ← Nat.add_assoc]
    exact (H.2 i hi).1
  · rw [Nat.add_assoc, Nat.add_assoc, cp_at (by omega), ← Nat.add_assoc, ← Nat.add_assoc]
    exact (H.2 i hi).2
theorem RkM.cp {ro : Nat → Int32} {s t k : Nat} {S : rkT} (H : RkM ro s k S) (hk : k ≤ 32) (hl : ∀ c, c < 31 → S.2.1 c < k) : RkM (cpM ro s t 1200) t k S := by
  refine ⟨fun b hb => ?_, fun b hb => ?_, fun b i hb hi => ?_⟩
  · rw [cp_at (by omega)]; exact H.1 b hb
  · rw [Nat.add_assoc, cp_at (by omega), ← Nat.add_assoc]; exact H.2.1 b hb
  · have := hl b hb
    rw [Nat.add_assoc, Nat.add_assoc, cp_at (by omega), ← Nat.add_assoc, ← Nat.add_assoc]; exact H.2.2 b i hb hi
theorem TbM.zr {ro : Nat → Int32} {s n : Nat} {f : Nat → Int32} (hf : ∀ i, i < n → f i = 0) (hn : n ≤ 1000) : TbM (zrM ro s 1200) s f n := fun i hi => by
  rw [Nat.add_assoc, zr_at (by omega), hf i hi]
theorem LsM.zr {ro : Nat → Int32} {s : Nat} {f : Nat → Int32} : LsM (zrM ro s 1200) s f 0 := by
  refine ⟨?_, fun i hi => absurd hi (Nat.not_lt_zero _)⟩
  have := zr_at (ro := ro) (s := s) (z := 0) (by omega)
  rw [Nat.add_zero] at this
  rw [this, nI_0]
theorem HvM.zr {ro : Nat → Int32} {s : Nat} {f g : Nat → Int32} : HvM (zrM ro s 1200) s f g 0 := by
  refine ⟨?_, fun i hi => absurd hi (Nat.not_lt_zero _)⟩
  have := zr_at (ro := ro) (s := s) (z := 0) (by omega)
  rw [Nat.add_zero] at this
  rw [this, nI_0]
theorem RkM.zr {ro : Nat → Int32} {s k : Nat} {f : Nat → Int32} {ln tr : Nat → Nat} {er : Int32} (h1 : ∀ b, b < 31 → ln b = 0) (h2 : ∀ b, b < 31 → tr b = 0) : RkM (zrM ro s 1200) s k (f, ln, tr, er) := by
  refine ⟨fun b hb => ?_, fun b hb => ?_, fun b i hb hi => ?_⟩
  · rw [zr_at (by omega)]; show _ = nI (ln b); rw [h1 b hb, nI_0]
  · rw [Nat.add_assoc, zr_at (by omega)]; show _ = nI (tr b); rw [h2 b hb, nI_0]
  · have hi2 : i < ln b := hi
    rw [h1 b hb] at hi2
    exact absurd hi2 (Nat.not_lt_zero _)
