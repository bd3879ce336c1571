/-! ===== small rows for the class's own calls ===== -/
theorem rg_out {x : Int32} {n : Nat} (hn : n < 2147483647) (h : ¬ rg n x) : x.toInt < 0 ∨ (n : Int) < x.toInt := by
  rcases Int.lt_or_le x.toInt 0 with q | q
  · exact Or.inl q
  · refine Or.inr (Int.not_le.mp fun z => h ?_)
    have h0 : ¬ x < 0 := by rw [Int32.lt_iff_toInt_lt, Int32.toInt_zero]; omega
    obtain ⟨a, ha, rfl⟩ := nI_of h0
    rw [nI_toInt ha] at z
    exact ⟨a, by omega, rfl⟩
def absI (n : Int32) : Int32 := if 0 ≤ n then n else 0 - n
theorem abs_nI {c : Nat} (h : c < 2147483648) : absI (nI c) = nI c := if_pos (nI_pos' h)
theorem tkOk_abs {n : Int32} (h : tkOk n) : ∃ c : Nat, 1 ≤ c ∧ c ≤ 1000 ∧ absI n = nI c := by
  obtain ⟨h1, h2, h3⟩ := h
  rw [Int32.lt_iff_toInt_lt, show (-1000 : Int32).toInt = -1000 from by decide] at h1
  rw [Int32.lt_iff_toInt_lt, nI_toInt (by decide)] at h2
  have h4 : n.toInt ≠ 0 := fun e => h3 (Int32.toInt_inj.mp (by rw [e]; rfl))
  unfold absI
  by_cases hp : 0 ≤ n
  · rw [if_pos hp]
    have h0 : ¬ n < 0 := Int32.not_lt.mpr hp
    obtain ⟨a, ha, rfl⟩ := nI_of h0
    rw [nI_toInt ha] at *
    exact ⟨a, by omega, by omega, rfl⟩
  · rw [if_neg hp]
    have hn : n < 0 := Int32.not_le.mp hp
    rw [Int32.lt_iff_toInt_lt, Int32.toInt_zero] at hn
    refine ⟨(-n.toInt).toNat, by omega, by omega, ?_⟩
    apply Int32.toInt_inj.mp
    rw [nI_toInt (by omega), Int32.toInt_sub, Int32.toInt_zero, Int.bmod_def]
    omega
section MWR4
variable {X : mwX} {cc : ByteArray} {nL : Nat} {own : String} {D : va_G} {cI cS : ClassId} {rm : Room} {cells slots : Nat} {w : mwT} {lv : List (Nat × Value)} {st : List Value} {pc : Nat}
theorem mg_astoreN (C : mwC X cc nL own D cI cS rm) {i : Nat} {lv' : List (Nat × Value)} (hd : decode cc pc = .ok (.astore i, 2)) (hn : i < nL) (hl' : (i, Value.null) :: lv.filter (fun q => !(q.1 == i) && !(q.1 + 1 == i && q.2.category == 2)) = lv') (kk : mwG X cells slots w lv' st (pc + 2)) : mwG X cells slots w lv (.null :: st) pc := by
  obtain ⟨p, l, e, R, s, m, args, below, meth, c, D', A, Q, n⟩ := X
  obtain ⟨⟨hx, hb, hml, hown, hts⟩, hK, hA, rfl, rfl, rfl⟩ := C
  intro H locs ls hP hI hS hl
  exact lv_astoreN hx hb hd hl hn hl' (fun ls' hl2 => kk H locs ls' hP hI hS hl2)
theorem mg_aloadN (C : mwC X cc nL own D cI cS rm) {i : Nat} (hd : decode cc pc = .ok (.aload i, 2)) (hv : lvg lv i = some .null) (kk : mwG X cells slots w lv (.null :: st) (pc + 2)) : mwG X cells slots w lv st pc := by
  obtain ⟨p, l, e, R, s, m, args, below, meth, c, D', A, Q, n⟩ := X
  obtain ⟨⟨hx, hb, hml, hown, hts⟩, hK, hA, rfl, rfl, rfl⟩ := C
  intro H locs ls hP hI hS hl
  exact lv_aloadN hx hb hd (lvg_at hl hv) (kk H locs ls hP hI hS hl)
end MWR4
theorem mw_ri {w : mwT} {a b : Nat} {cI cS : ClassId} {n m : Nat} {g : Nat → Option Nat} {f : Nat → Int32} (h1 : w a = some (eR cS n g)) (h2 : w b = some (eI cI m f)) : a ≠ b := by
  intro h
  subst h
  rw [h1] at h2
  cases h2
theorem mw_ir {w : mwT} {a b : Nat} {cI cS : ClassId} {n m : Nat} {g : Nat → Option Nat} {f : Nat → Int32} (h1 : w a = some (eI cI m f)) (h2 : w b = some (eR cS n g)) : a ≠ b := fun h => mw_ri h2 h1 h.symm
