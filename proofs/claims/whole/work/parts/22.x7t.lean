/-! ===== LEAST of the reference ===== -/
def gmU (f : Nat → Int32) : Nat → Nat
  | 0 => 0
  | n + 1 => if f (n + 1) ≤ f (gmU f n) then gmU f n else n + 1
theorem gmU_le (f : Nat → Int32) : ∀ n, gmU f n ≤ n
  | 0 => Nat.le_refl _
  | n + 1 => by
    have := gmU_le f n
    unfold gmU
    split <;> omega
def kpU (k : Nat) (v : Int32) (S : (Nat → Int32) × Nat) : (Nat → Int32) × Nat :=
  if fdU S.1 v S.2 < S.2 then S else if S.2 < k then (upd S.1 S.2 v, S.2 + 1) else if v < S.1 (gmU S.1 (S.2 - 1)) then (upd S.1 (gmU S.1 (S.2 - 1)) v, S.2) else S
theorem kpU_le {k : Nat} {v : Int32} {S : (Nat → Int32) × Nat} (h : S.2 ≤ k) : (kpU k v S).2 ≤ k := by
  unfold kpU
  split
  · exact h
  · split
    · show S.2 + 1 ≤ k; omega
    · split <;> exact h
theorem LsM.new {ro : Nat → Int32} {s h : Nat} {f : Nat → Int32} {v : Int32} (H : LsM ro s f h) : LsM (upd (upd ro (1200 * s + 100 + h) v) (1200 * s) (nI (h + 1))) s (upd f h v) (h + 1) := by
  refine ⟨by unfold upd; rw [if_pos rfl], fun i hi => ?_⟩
  unfold upd
  by_cases e : i = h
  · rw [if_neg (by omega), if_pos (by omega), if_pos e]
  · rw [if_neg (by omega), if_neg (by omega), if_neg e]; exact H.2 i (by omega)
theorem LsM.set {ro : Nat → Int32} {s h p : Nat} {f : Nat → Int32} {v : Int32} (H : LsM ro s f h) : LsM (upd ro (1200 * s + 100 + p) v) s (upd f p v) h := by
  refine ⟨by unfold upd; rw [if_neg (by omega)]; exact H.1, fun i hi => ?_⟩
  unfold upd
  by_cases e : i = p
  · rw [if_pos (by omega), if_pos e]
  · rw [if_neg (by omega), if_neg e]; exact H.2 i hi
theorem LsM.out {ro ro1 : Nat → Int32} {a b : Nat} {f : Nat → Int32} {h : Nat} (H : LsM ro b f h) (ho : outS ro ro1 a) (hab : a ≠ b) (hh : h ≤ 1000) : LsM ro1 b f h :=
  ⟨(ho _ (by omega)).trans H.1, fun i hi => (ho _ (by omega)).trans (H.2 i hi)⟩
theorem TbM.out {ro ro1 : Nat → Int32} {a b : Nat} {f : Nat → Int32} {n : Nat} (H : TbM ro b f n) (ho : outS ro ro1 a) (hab : a ≠ b) (hh : n ≤ 1000) : TbM ro1 b f n := fun i hi => (ho _ (by omega)).trans (H i hi)
def jkU (k : Nat) (g : Nat → Int32) (S : (Nat → Int32) × Nat) : Nat → (Nat → Int32) × Nat
  | 0 => S
  | i + 1 => kpU k (g i) (jkU k g S i)
theorem jkU_le {k : Nat} {g : Nat → Int32} {S : (Nat → Int32) × Nat} (h : S.2 ≤ k) : ∀ i, (jkU k g S i).2 ≤ k
  | 0 => h
  | i + 1 => kpU_le (jkU_le h i)
theorem mg_lv {X : mwX} {cells slots : Nat} {w : mwT} {lv lv' : List (Nat × Value)} {st : List Value} {pc : Nat} (h : lv = lv') (kk : mwG X cells slots w lv' st pc) : mwG X cells slots w lv st pc := h ▸ kk
theorem mg_st {X : mwX} {cells slots : Nat} {w : mwT} {lv : List (Nat × Value)} {st st' : List Value} {pc : Nat} (h : st = st') (kk : mwG X cells slots w lv st' pc) : mwG X cells slots w lv st pc := h ▸ kk
