/-! ===== RANKS: BUFFERS in one row, their lengths, TURNS, ERROR ===== -/
def lnF (l : Nat → Nat) : Nat → Int32 := fun i => nI (l i)
def updN (l : Nat → Nat) (k v : Nat) : Nat → Nat := fun j => if j = k then v else l j
theorem updN_eq (l : Nat → Nat) (k v : Nat) : updN l k v k = v := by simp [updN]
theorem updN_ne {l : Nat → Nat} {k v j : Nat} (h : j ≠ k) : updN l k v j = l j := by simp [updN, h]
theorem upd_lnF {l : Nat → Nat} {k v : Nat} : upd (lnF l) k (nI v) = lnF (updN l k v) := by
  funext j
  unfold upd lnF updN
  split <;> rfl
def sh1 (b : Nat) : Int32 := nI 1 <<< (nI b &&& 31)
/-- v goes down from place fst + n + 1, or stays -/
def srtI (fst : Nat) (key : Int32) : Nat → (Nat → Int32) → (Nat → Int32) × Nat
  | 0, f => (f, 0)
  | n + 1, f => if f (fst + n) ≤ key then (f, n + 1) else srtI fst key n (upd f (fst + n + 1) (f (fst + n)))
def srtO (f : Nat → Int32) (fst : Nat) : Nat → Nat → Int32
  | 0 => f
  | m + 1 => upd (srtI fst (srtO f fst m (fst + m + 1)) (m + 1) (srtO f fst m)).1 (fst + (srtI fst (srtO f fst m (fst + m + 1)) (m + 1) (srtO f fst m)).2) (srtO f fst m (fst + m + 1))
theorem srtI_le (fst : Nat) (key : Int32) : ∀ n f, (srtI fst key n f).2 ≤ n
  | 0, _ => Nat.le_refl _
  | n + 1, f => by
    unfold srtI
    split
    · exact Nat.le_refl _
    · exact Nat.le_succ_of_le (srtI_le fst key n _)
abbrev rkT : Type := (Nat → Int32) × (Nat → Nat) × (Nat → Nat) × Int32
def lpP (k b : Nat) (p : Int32 → rkT → rkT) : Nat → Nat → rkT → rkT
  | 0, _, S => S
  | m + 1, i, S => if i < k then lpP k b p m (i + 2) (p (S.1 (b * k + i)) S) else S
def colP (k b : Nat) (p : Int32 → rkT → rkT) (S : rkT) : rkT :=
  lpP k b p k (S.2.2.1 b) (srtO S.1 (b * k) (k - 1), updN S.2.1 b 0, updN S.2.2.1 b (1 - S.2.2.1 b), S.2.2.2 + sh1 b)
def psh (k : Nat) : Nat → Nat → Int32 → rkT → rkT
  | 0, _, _, S => S
  | d + 1, b, x, S => if k ≤ S.2.1 b then S else if S.2.1 b + 1 < k then (upd S.1 (b * k + S.2.1 b) x, updN S.2.1 b (S.2.1 b + 1), S.2.2.1, S.2.2.2)
    else colP k b (psh k d (b + 1)) (upd S.1 (b * k + S.2.1 b) x, updN S.2.1 b (S.2.1 b + 1), S.2.2.1, S.2.2.2)
def rkOk (k : Nat) (S : rkT) : Prop := (∀ b, S.2.2.1 b ≤ 1) ∧ ∀ b, S.2.1 b ≤ k
theorem updN_le {l : Nat → Nat} {b v m : Nat} (hv : v ≤ m) (h : ∀ c, l c ≤ m) (c : Nat) : updN l b v c ≤ m := by
  unfold updN
  split
  · exact hv
  · exact h c
theorem lpP_ok {k b : Nat} {p : Int32 → rkT → rkT} (hp : ∀ x S, rkOk k S → rkOk k (p x S)) : ∀ m i S, rkOk k S → rkOk k (lpP k b p m i S)
  | 0, _, _, h => h
  | m + 1, i, S, h => by
    unfold lpP
    split
    · exact lpP_ok hp m (i + 2) _ (hp _ _ h)
    · exact h
theorem col0_ok {k b : Nat} {S : rkT} {f : Nat → Int32} {e : Int32} (h : rkOk k S) : rkOk k (f, updN S.2.1 b 0, updN S.2.2.1 b (1 - S.2.2.1 b), e) := ⟨updN_le (by omega) h.1, updN_le (Nat.zero_le _) h.2⟩
theorem colP_ok {k b : Nat} {p : Int32 → rkT → rkT} (hp : ∀ x S, rkOk k S → rkOk k (p x S)) {S : rkT} (h : rkOk k S) : rkOk k (colP k b p S) := by
  unfold colP
  exact lpP_ok hp _ _ _ (col0_ok h)
theorem psh_ok (k : Nat) : ∀ d b x S, rkOk k S → rkOk k (psh k d b x S)
  | 0, _, _, _, h => h
  | d + 1, b, x, S, h => by
    unfold psh
    split
    · exact h
    · rename_i hb
      have h1 : rkOk k (upd S.1 (b * k + S.2.1 b) x, updN S.2.1 b (S.2.1 b + 1), S.2.2.1, S.2.2.2) := ⟨h.1, updN_le (by omega) h.2⟩
      split
      · exact h1
      · exact colP_ok (fun x S h => psh_ok k d (b + 1) x S h) h1
theorem bk_le {b k : Nat} (h : b < 31) : b * k + k ≤ 31 * k := by
  have := Nat.mul_le_mul_right k (show b + 1 ≤ 31 by omega)
  rw [Nat.succ_mul] at this
  exact this
/-- WEIGHTS -/
def wI (f : Nat → Int32) (k b : Nat) (x : Int32) (acc : Int32) : Nat → Int32
  | 0 => acc
  | i + 1 => if x < f (b * k + i) then wI f k b x acc i else wI f k b x acc i + sh1 b
def wO (f : Nat → Int32) (ln : Nat → Nat) (k : Nat) (x : Int32) : Nat → Int32
  | 0 => nI 0
  | b + 1 => wI f k b x (wO f ln k x b) (ln b)
def smN (ln : Nat → Nat) : Nat → Nat
  | 0 => 0
  | b + 1 => smN ln b + ln b
/-- the halving -/
def bsR (V : Nat → Int32) (q : Int32) : Nat → Nat → Nat → Nat
  | 0, lo, _ => lo
  | n + 1, lo, hi => if lo < hi then (if V ((lo + hi) / 2) < q then bsR V q n ((lo + hi) / 2 + 1) hi else bsR V q n lo ((lo + hi) / 2)) else lo
def tkR (k : Nat) (x : Int32) (S : rkT) : Nat → rkT
  | 0 => S
  | n + 1 => psh k 31 0 x (tkR k x S n)
theorem tkR_ok {k : Nat} {x : Int32} {S : rkT} (h : rkOk k S) : ∀ n, rkOk k (tkR k x S n)
  | 0 => h
  | n + 1 => psh_ok k 31 0 x _ (tkR_ok h n)
def jiR (k b : Nat) (f2 : Nat → Int32) (S : rkT) : Nat → rkT
  | 0 => S
  | i + 1 => psh k (31 - b) b (f2 (b * k + i)) (jiR k b f2 S i)
theorem jiR_ok {k b : Nat} {f2 : Nat → Int32} {S : rkT} (h : rkOk k S) : ∀ n, rkOk k (jiR k b f2 S n)
  | 0 => h
  | n + 1 => psh_ok k (31 - b) b _ _ (jiR_ok h n)
def joR (k : Nat) (f2 : Nat → Int32) (ln2 : Nat → Nat) (S : rkT) : Nat → rkT
  | 0 => S
  | b + 1 => jiR k b f2 (joR k f2 ln2 S b) (ln2 b)
theorem joR_ok {k : Nat} {f2 : Nat → Int32} {ln2 : Nat → Nat} {S : rkT} (h : rkOk k S) : ∀ n, rkOk k (joR k f2 ln2 S n)
  | 0 => h
  | n + 1 => jiR_ok (joR_ok h n) _
