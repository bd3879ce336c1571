section MWR3
variable {X : mwX} {cc : ByteArray} {nL : Nat} {own : String} {D : va_G} {cI cS : ClassId} {rm : Room} {cells slots : Nat} {w : mwT} {lv : List (Nat × Value)} {st : List Value} {pc : Nat}
theorem mg_dup2 (C : mwC X cc nL own D cI cS rm) {va vb : Value} (hd : decode cc pc = .ok (.dup2, 1)) (ha : va.category = 1) (hb0 : vb.category = 1) (kk : mwG X cells slots w lv (va :: vb :: va :: vb :: st) (pc + 1)) : mwG X cells slots w lv (va :: vb :: st) pc := by
  obtain ⟨p, l, e, R, s, m, args, below, meth, c, D', A, Q, n⟩ := X
  obtain ⟨⟨hx, hb, hml, hown, hts⟩, hK, hA, rfl, rfl, rfl⟩ := C
  intro H locs ls hP hI hS hl
  exact lv_dup2_11 hx hb hd ha hb0 (kk H locs ls hP hI hS hl)
theorem mg_null (C : mwC X cc nL own D cI cS rm) (hd : decode cc pc = .ok (.aconst_null, 1)) (kk : mwG X cells slots w lv (.null :: st) (pc + 1)) : mwG X cells slots w lv st pc := by
  obtain ⟨p, l, e, R, s, m, args, below, meth, c, D', A, Q, n⟩ := X
  obtain ⟨⟨hx, hb, hml, hown, hts⟩, hK, hA, rfl, rfl, rfl⟩ := C
  intro H locs ls hP hI hS hl
  exact lv_null hx hb hd (kk H locs ls hP hI hS hl)
theorem mg_getS (C : mwC X cc nL own D cI cS rm) {ci idx a : Nat} {fs : List Value} (hci : ci < 5) (he : w a = some (.inr (ci, fs))) (k : Nat) (hk : k < 5) (hlink : Cond.fieldLink own idx "SketchSpans$Sketch" (TX0 k).2.1 (TX0 k).2.2.1 ∈ TT) {v : Value} (hv : fs[k]? = some v) (hd : decode cc pc = .ok (.getfield idx, 3)) (kk : mwG X cells slots w lv (v :: st) (pc + 3)) : mwG X cells slots w lv (.ref a :: st) pc := by
  rcases (show ci = 0 ∨ ci = 1 ∨ ci = 2 ∨ ci = 3 ∨ ci = 4 by omega) with rfl | rfl | rfl | rfl | rfl
  · rcases (show k = 0 ∨ k = 1 ∨ k = 2 ∨ k = 3 ∨ k = 4 by omega) with rfl | rfl | rfl | rfl | rfl <;> exact mg_get C inT0 he rfl _ (by decide) hlink (Or.inl rfl) hv hd kk
  · rcases (show k = 0 ∨ k = 1 ∨ k = 2 ∨ k = 3 ∨ k = 4 by omega) with rfl | rfl | rfl | rfl | rfl <;> exact mg_get C inT1 he rfl _ (by decide) hlink (Or.inl rfl) hv hd kk
  · rcases (show k = 0 ∨ k = 1 ∨ k = 2 ∨ k = 3 ∨ k = 4 by omega) with rfl | rfl | rfl | rfl | rfl <;> exact mg_get C inT2 he rfl _ (by decide) hlink (Or.inl rfl) hv hd kk
  · rcases (show k = 0 ∨ k = 1 ∨ k = 2 ∨ k = 3 ∨ k = 4 by omega) with rfl | rfl | rfl | rfl | rfl <;> exact mg_get C inT3 he rfl _ (by decide) hlink (Or.inl rfl) hv hd kk
  · rcases (show k = 0 ∨ k = 1 ∨ k = 2 ∨ k = 3 ∨ k = 4 by omega) with rfl | rfl | rfl | rfl | rfl <;> exact mg_get C inT5 he rfl _ (by decide) hlink (Or.inl rfl) hv hd kk
end MWR3
theorem df_X0 : ∀ j, j < 6 → defaultValue (tyX0 j) = vp_V [.int 0, .int 0, .int 0, .int 0, .int 0, .null] j := by
  intro j hj
  rcases (show j = 0 ∨ j = 1 ∨ j = 2 ∨ j = 3 ∨ j = 4 ∨ j = 5 by omega) with rfl | rfl | rfl | rfl | rfl | rfl <;> rfl
theorem df_X1 : ∀ j, j < 9 → defaultValue (tyX1 j) = vp_V [.int 0, .int 0, .int 0, .int 0, .int 0, .null, .null, .int 0, .int 0] j := by
  intro j hj
  rcases (show j = 0 ∨ j = 1 ∨ j = 2 ∨ j = 3 ∨ j = 4 ∨ j = 5 ∨ j = 6 ∨ j = 7 ∨ j = 8 by omega) with rfl | rfl | rfl | rfl | rfl | rfl | rfl | rfl | rfl <;> rfl
theorem df_X2 : ∀ j, j < 7 → defaultValue (tyX2 j) = vp_V [.int 0, .int 0, .int 0, .int 0, .int 0, .null, .int 0] j := by
  intro j hj
  rcases (show j = 0 ∨ j = 1 ∨ j = 2 ∨ j = 3 ∨ j = 4 ∨ j = 5 ∨ j = 6 by omega) with rfl | rfl | rfl | rfl | rfl | rfl | rfl <;> rfl
theorem df_X3 : ∀ j, j < 9 → defaultValue (tyX3 j) = vp_V [.int 0, .int 0, .int 0, .int 0, .int 0, .null, .null, .null, .int 0] j := by
  intro j hj
  rcases (show j = 0 ∨ j = 1 ∨ j = 2 ∨ j = 3 ∨ j = 4 ∨ j = 5 ∨ j = 6 ∨ j = 7 ∨ j = 8 by omega) with rfl | rfl | rfl | rfl | rfl | rfl | rfl | rfl | rfl <;> rfl
theorem df_X5 : ∀ j, j < 6 → defaultValue (tyX5 j) = vp_V [.int 0, .int 0, .int 0, .int 0, .int 0, .null] j := by
  intro j hj
  rcases (show j = 0 ∨ j = 1 ∨ j = 2 ∨ j = 3 ∨ j = 4 ∨ j = 5 by omega) with rfl | rfl | rfl | rfl | rfl | rfl <;> rfl
theorem df_X6 : ∀ j, j < 2 → defaultValue (tyX6 j) = vp_V [.null, .int 0] j := by
  intro j hj
  rcases (show j = 0 ∨ j = 1 by omega) with rfl | rfl <;> rfl
theorem df_X7 : ∀ j, j < 10 → defaultValue (tyX7 j) = vp_V [.int 0, .int 0, .null, .null, .null, .null, .null, .null, .null, .null] j := by
  intro j hj
  rcases (show j = 0 ∨ j = 1 ∨ j = 2 ∨ j = 3 ∨ j = 4 ∨ j = 5 ∨ j = 6 ∨ j = 7 ∨ j = 8 ∨ j = 9 by omega) with rfl | rfl | rfl | rfl | rfl | rfl | rfl | rfl | rfl | rfl <;> rfl
