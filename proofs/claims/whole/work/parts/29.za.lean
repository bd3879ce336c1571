/-! ===== the two rows of sizes, which nobody writes ===== -/
def loZ (j : Nat) : Nat := if j = 0 then 1 else if j = 1 then 4 else if j = 2 then 16 else if j = 3 then 2 else 4
def hiZ (j : Nat) : Nat := if j = 0 then 20 else if j = 1 then 64 else if j = 2 then 512 else 32
theorem loZ_lt (j : Nat) : loZ j < 1000 := by unfold loZ; split <;> (try split) <;> (try split) <;> (try split) <;> omega
theorem hiZ_lt (j : Nat) : hiZ j < 1000 := by unfold hiZ; split <;> (try split) <;> (try split) <;> omega
def mwZ1 (t : Nat) (A : Nat → Prop) (U : State) (H : Heap) : Prop := va_Z "SketchSpans" "SMALLEST_SIZES" "[I" (.ref t) A U H ∧ va_T .int t 5 (fun j => .int (nI (loZ j))) A U H
def mwZ2 (t : Nat) (A : Nat → Prop) (U : State) (H : Heap) : Prop := va_Z "SketchSpans" "LARGEST_SIZES" "[I" (.ref t) A U H ∧ va_T .int t 5 (fun j => .int (nI (hiZ j))) A U H
def mwZ (A : Nat → Prop) (U : State) (H : Heap) : Prop := ∃ t1 t2 : Nat, mwZ1 t1 A U H ∧ mwZ2 t2 A U H
theorem mwZ.to {A B : Nat → Prop} {s U : State} {H H1 : Heap} (h : mwZ A s H) (hvm : s.vm.Alike U.vm) (hq : ∀ a : Nat, a < H.size → ¬ A a → H1[a]? = H[a]?) (hAB : ∀ q, B q → A q) : mwZ B U H1 := by
  obtain ⟨t1, t2, ⟨h1, h2⟩, h3, h4⟩ := h
  exact ⟨t1, t2, ⟨((h1.moved hvm).kept hq).narrow hAB, ((h2.moved hvm).kept hq).narrow hAB⟩, ((h3.moved hvm).kept hq).narrow hAB, ((h4.moved hvm).kept hq).narrow hAB⟩
def mwCZ : mwX → Prop
  | (_, _, _, _, s, _, _, _, _, _, _, A, _, _) => mwZ A s s.heap
def mwS1 : mwX → Nat → Prop
  | (_, _, _, _, s, _, _, _, _, _, _, A, _, _), t => mwZ1 t A s s.heap
def mwS2 : mwX → Nat → Prop
  | (_, _, _, _, s, _, _, _, _, _, _, A, _, _), t => mwZ2 t A s s.heap
theorem mwCZ.two {X : mwX} (h : mwCZ X) : ∃ t1 t2 : Nat, mwS1 X t1 ∧ mwS2 X t2 := h
def mMiZ (y : MethodName) (cc : ByteArray) (n : Nat) (ret : Option FieldType) (rm : Room) (av : List Value) (D : va_G) (cI cS : ClassId) (w : mwT) (post : Int32 → mwT → Prop) : Prop :=
  ∀ (l : Launch) (sz : Nat), Met l y (Cond.code y cc n ret :: TT) rm (va_Pc av (fun U => mwPre D cI cS w sz U ∧ mwZ (mwA w sz) U U.heap)) (va_Qi post (mwB D w sz) (mwA w sz)) rm.cells rm.slots (mwA w sz)
theorem mw_blindZ (av : List Value) (D : va_G) (cI cS : ClassId) (w : mwT) (sz : Nat) : FrameBlind (va_Pc av (fun U => mwPre D cI cS w sz U ∧ mwZ (mwA w sz) U U.heap)) := fun a U g mk q => ⟨q.1, ⟨q.2.1.1, q.2.1.2.1, mwK.same (s := U) (U := U.calling g mk a) rfl q.2.1.2.2⟩, mwZ.to (U := U.calling g mk a) q.2.2 (Vm.Alike.refl _) (fun _ _ _ => rfl) (fun _ h => h)⟩
theorem mMiZ.of {y : MethodName} {cc : ByteArray} {n : Nat} {rm : Room} {av : List Value} {D : va_G} {cI cS : ClassId} {w : mwT} {post : Int32 → mwT → Prop} (hy : plainName y.cls = true) (hz : (lg_sl av).length ≤ n)
    (body : ∀ X : mwX, mwC X cc n y.cls D cI cS rm → mwN X y.name → mwRi X cc rm.cells rm.slots post → mwCZ X → mwG X 0 0 w (lv_args 0 av) [] 0) : mMiZ y cc n (some .int) rm av D cI cS w post := by
  intro l sz
  refine Met.ofW (cc := cc) (maxL := n) (ret := (some .int)) hy rfl ?_
  intro p e s m args below meth c s₁ B hml hv
  obtain ⟨rfl, ⟨hsz, hP, hK⟩, hZ⟩ := hv
  have hts0 := atoms_spec (ws := Cond.code y cc n (some .int) :: TT) B.pre
  have hts : ∀ q ∈ TT, q.before av.toArray s = true := fun q h => hts0 q (List.mem_cons_of_mem _ h)
  have hr := B.returns
  have hlocks := B.notSynchronized
  subst hsz
  have hl := lv_entry av (n := n) hz
  rw [lg_entry_eq]
  refine body (p, l, e, rm, s, m, av.toArray, below, meth, c, D, mwA w s.heap.size, _, n) ⟨⟨B.exec, B.bytes, hml, findClass_of_methodNamed B.named, hts⟩, hK, fun q h => Or.inr h, rfl, rfl, rfl⟩ (name_of_methodNamed B.named B.method).1 ?_ hZ s.heap [] _ hP (mwI.self w _) va_S.rf hl
  intro v w1 lv pc hd hp H locs ls hP1 hI1 hS1 hl1
  exact W.iret B.exec B.bytes hr (fun t ht _ => ⟨⟨v, w1, rfl, hp, by rw [ht]; exact hP1, hI1⟩, hS1.F ht⟩) hS1.2.2 hd hlocks
theorem mMzZ.of {y : MethodName} {cc : ByteArray} {n : Nat} {rm : Room} {av : List Value} {D : va_G} {cI cS : ClassId} {w : mwT} {post : Int32 → mwT → Prop} (hy : plainName y.cls = true) (hz : (lg_sl av).length ≤ n)
    (body : ∀ X : mwX, mwC X cc n y.cls D cI cS rm → mwN X y.name → mwRz X cc rm.cells rm.slots post → mwCZ X → mwG X 0 0 w (lv_args 0 av) [] 0) : mMiZ y cc n (some .boolean) rm av D cI cS w post := by
  intro l sz
  refine Met.ofW (cc := cc) (maxL := n) (ret := (some .boolean)) hy rfl ?_
  intro p e s m args below meth c s₁ B hml hv
  obtain ⟨rfl, ⟨hsz, hP, hK⟩, hZ⟩ := hv
  have hts0 := atoms_spec (ws := Cond.code y cc n (some .boolean) :: TT) B.pre
  have hts : ∀ q ∈ TT, q.before av.toArray s = true := fun q h => hts0 q (List.mem_cons_of_mem _ h)
  have hr := B.returns
  have hlocks := B.notSynchronized
  subst hsz
  have hl := lv_entry av (n := n) hz
  rw [lg_entry_eq]
  refine body (p, l, e, rm, s, m, av.toArray, below, meth, c, D, mwA w s.heap.size, _, n) ⟨⟨B.exec, B.bytes, hml, findClass_of_methodNamed B.named, hts⟩, hK, fun q h => Or.inr h, rfl, rfl, rfl⟩ (name_of_methodNamed B.named B.method).1 ?_ hZ s.heap [] _ hP (mwI.self w _) va_S.rf hl
  intro v w1 lv pc hd h01 hp H locs ls hP1 hI1 hS1 hl1
  exact W.zret B.exec B.bytes hr (by rcases h01 with rfl | rfl <;> decide) (fun t ht _ => ⟨⟨v, w1, rfl, hp, by rw [ht]; exact hP1, hI1⟩, hS1.F ht⟩) hS1.2.2 hd hlocks
section MWRZ
variable {X : mwX} {cc : ByteArray} {nL : Nat} {own : String} {D : va_G} {cI cS : ClassId} {rm : Room} {cells slots : Nat} {w : mwT} {lv : List (Nat × Value)} {st : List Value} {pc : Nat}
theorem mg_gets1 (C : mwC X cc nL own D cI cS rm) {t idx : Nat} (hs : mwS1 X t) (hlk : Cond.fieldLink own idx "SketchSpans" "SMALLEST_SIZES" "[I" ∈ TT) (hd : decode cc pc = .ok (.getstatic idx, 3)) (kk : mwG X cells slots w lv (.ref t :: st) (pc + 3)) : mwG X cells slots w lv st pc := by
  obtain ⟨p, l, e, R, s, m, args, below, meth, c, D', A, Q, n⟩ := X
  obtain ⟨⟨hx, hb, hml, hown, hts⟩, hK, hA, rfl, rfl, rfl⟩ := C
  intro H locs ls hP hI hS hl
  exact va_gets hx hb hs.1 hS hown (hts _ hlk) (fun x h => h) hd (kk H locs ls hP hI hS hl)
theorem mg_gets2 (C : mwC X cc nL own D cI cS rm) {t idx : Nat} (hs : mwS2 X t) (hlk : Cond.fieldLink own idx "SketchSpans" "LARGEST_SIZES" "[I" ∈ TT) (hd : decode cc pc = .ok (.getstatic idx, 3)) (kk : mwG X cells slots w lv (.ref t :: st) (pc + 3)) : mwG X cells slots w lv st pc := by
  obtain ⟨p, l, e, R, s, m, args, below, meth, c, D', A, Q, n⟩ := X
  obtain ⟨⟨hx, hb, hml, hown, hts⟩, hK, hA, rfl, rfl, rfl⟩ := C
  intro H locs ls hP hI hS hl
  exact va_gets hx hb hs.1 hS hown (hts _ hlk) (fun x h => h) hd (kk H locs ls hP hI hS hl)
theorem mg_slen1 (C : mwC X cc nL own D cI cS rm) {t : Nat} (hs : mwS1 X t) (hd : decode cc pc = .ok (.arraylength, 1)) (kk : mwG X cells slots w lv (.int (nI 5) :: st) (pc + 1)) : mwG X cells slots w lv (.ref t :: st) pc := by
  obtain ⟨p, l, e, R, s, m, args, below, meth, c, D', A, Q, n⟩ := X
  obtain ⟨⟨hx, hb, hml, hown, hts⟩, hK, hA, rfl, rfl, rfl⟩ := C
  intro H locs ls hP hI hS hl
  exact va_tlen hx hb hs.2 hS rfl hd (kk H locs ls hP hI hS hl)
theorem mg_slen2 (C : mwC X cc nL own D cI cS rm) {t : Nat} (hs : mwS2 X t) (hd : decode cc pc = .ok (.arraylength, 1)) (kk : mwG X cells slots w lv (.int (nI 5) :: st) (pc + 1)) : mwG X cells slots w lv (.ref t :: st) pc := by
  obtain ⟨p, l, e, R, s, m, args, below, meth, c, D', A, Q, n⟩ := X
  obtain ⟨⟨hx, hb, hml, hown, hts⟩, hK, hA, rfl, rfl, rfl⟩ := C
  intro H locs ls hP hI hS hl
  exact va_tlen hx hb hs.2 hS rfl hd (kk H locs ls hP hI hS hl)
theorem mg_sald1 (C : mwC X cc nL own D cI cS rm) {t j : Nat} (hs : mwS1 X t) (hj : j < 5) (hd : decode cc pc = .ok (.iaload, 1)) (kk : mwG X cells slots w lv (.int (nI (loZ j)) :: st) (pc + 1)) : mwG X cells slots w lv (.int (nI j) :: .ref t :: st) pc := by
  obtain ⟨p, l, e, R, s, m, args, below, meth, c, D', A, Q, n⟩ := X
  obtain ⟨⟨hx, hb, hml, hown, hts⟩, hK, hA, rfl, rfl, rfl⟩ := C
  intro H locs ls hP hI hS hl
  exact va_ti hx hb hs.2 hS (vp_in_nI hj (by decide)) (by rw [nI_clamp (by omega)]) hd (kk H locs ls hP hI hS hl)
theorem mg_sald2 (C : mwC X cc nL own D cI cS rm) {t j : Nat} (hs : mwS2 X t) (hj : j < 5) (hd : decode cc pc = .ok (.iaload, 1)) (kk : mwG X cells slots w lv (.int (nI (hiZ j)) :: st) (pc + 1)) : mwG X cells slots w lv (.int (nI j) :: .ref t :: st) pc := by
  obtain ⟨p, l, e, R, s, m, args, below, meth, c, D', A, Q, n⟩ := X
  obtain ⟨⟨hx, hb, hml, hown, hts⟩, hK, hA, rfl, rfl, rfl⟩ := C
  intro H locs ls hP hI hS hl
  exact va_ti hx hb hs.2 hS (vp_in_nI hj (by decide)) (by rw [nI_clamp (by omega)]) hd (kk H locs ls hP hI hS hl)
theorem mg_callS_iZ (C : mwC X cc nL own D cI cS rm) (hZ : mwCZ X) {y : MethodName} {cc' : ByteArray} {n' np : Nat} {ret : Option FieldType} {rm' : Room} {av : List Value} {post : Int32 → mwT → Prop} {idx : Nat} {rest : List Value} (M : mMiZ y cc' n' ret rm' av D cI cS w post) (hY : mwY y cc' n' ret np) (hlk : Cond.methodLink own idx y ∈ TT) (hsm : Cond.static y ∈ TT) (hR : rm'.frames + 1 ≤ rm.frames ∧ 8 + (n' + 11) + rm'.locals ≤ rm.locals) (hcs : cells + rm'.cells ≤ rm.cells ∧ slots + rm'.slots ≤ rm.slots) (hrest : (rest.map fun v => v.category).sum ≤ 8) (hnp : av.length = np) (hst : st = av.reverse ++ rest) (hd : decode cc pc = .ok (.invokestatic idx, 3)) (kk : ∀ (r : Int32) (w1 : mwT), post r w1 → mwG X (cells + rm'.cells) (slots + rm'.slots) w1 lv (.int r :: rest) (pc + 3)) : mwG X cells slots w lv st pc := by
  obtain ⟨p, l, e, R, s, m, args, below, meth, c, D', A, Q, n⟩ := X
  obtain ⟨⟨hx, hb, hml, hown, hts⟩, hK, hA, rfl, rfl, rfl⟩ := C
  intro H locs ls hP hI hS hl
  subst hst
  have hF : ∀ q, mwA w H.size q → A q := fun q h => h.elim (fun ⟨x, hx0⟩ => hI q x hx0) (fun h => hA q (Nat.le_trans hS.1 h))
  have hG := tt_call hY.1
  refine va_calli (va_runS (As := av) (rest := rest) (g := F0 m pc ls (av.reverse ++ rest)) ⟨hx, hb, hml, hown, hts⟩ (M l H.size) ⟨callB_of np hts hG rfl rfl rfl (hts _ hY.2.1) (hts _ hlk) hY.2.2 hR, hts _ hsm⟩ ⟨mw_blindZ _ _ _ _ _ _, fun U hU hW => ⟨rfl, ⟨by rw [hU], by rw [hU]; exact hP, hK.warm hW⟩, mwZ.to hZ hW.alike (fun a h1 h2 => by rw [hU]; exact hS.2.1 a h1 h2) hF⟩⟩ rfl hnp hl.1 rfl (lv_room hrest) hd hcs) hS (fun q _ h => hF q h) hF (fun r u t H1 locs1 ht hvm hp hB hz1 hk1 hS1 => ?_)
  exact kk r u hp H1 locs1 ls (by rw [← ht]; exact hB.1) (fun a x h => hF a (hB.2 a x h)) hS1 hl
theorem mg_callV_iZ (C : mwC X cc nL own D cI cS rm) (hZ : mwCZ X) {b ci : Nat} {q : vw_C} {vs : List Value} (he : w b = some (.inr (ci, vs))) (hc : vwCl[ci]? = some q) {y : MethodName} {cc' : ByteArray} {n' np : Nat} {ret : Option FieldType} {rm' : Room} {av : List Value} {post : Int32 → mwT → Prop} {idx : Nat} {rest : List Value} (M : mMiZ y cc' n' ret rm' (.ref b :: av) D cI cS w post) (hY : mwY y cc' n' ret np) (hlk : Cond.methodLink own idx y ∈ TT) (hins : Cond.instanceMethod y ∈ TT) (hsel : Cond.selects q.1 y y ∈ TT) (hR : rm'.frames + 1 ≤ rm.frames ∧ 8 + (n' + 11) + rm'.locals ≤ rm.locals) (hcs : cells + rm'.cells ≤ rm.cells ∧ slots + rm'.slots ≤ rm.slots) (hrest : (rest.map fun v => v.category).sum ≤ 8) (hnp : av.length = np) (hst : st = av.reverse ++ .ref b :: rest) (hd : decode cc pc = .ok (.invokevirtual idx, 3)) (kk : ∀ (r : Int32) (w1 : mwT), post r w1 → mwG X (cells + rm'.cells) (slots + rm'.slots) w1 lv (.int r :: rest) (pc + 3)) : mwG X cells slots w lv st pc := by
  obtain ⟨p, l, e, R, s, m, args, below, meth, c, D', A, Q, n⟩ := X
  obtain ⟨⟨hx, hb, hml, hown, hts⟩, hK, hA, rfl, rfl, rfl⟩ := C
  intro H locs ls hP hI hS hl
  subst hst
  have hF : ∀ q, mwA w H.size q → A q := fun q h => h.elim (fun ⟨x, hx0⟩ => hI q x hx0) (fun h => hA q (Nat.le_trans hS.1 h))
  have hG := tt_call hY.1
  refine va_calli (va_runV (C := q.1) (As := av) (rest := rest) (g := F0 m pc ls (av.reverse ++ .ref b :: rest)) ⟨hx, hb, hml, hown, hts⟩ (M l H.size) ⟨callB_of np hts hG rfl rfl rfl (hts _ hY.2.1) (hts _ hlk) hY.2.2 hR, hts _ hins, hts _ hsel⟩ ⟨mw_blindZ _ _ _ _ _ _, va_recv hK.1 (hP.one he) hc (q0 := 0) rfl, fun U hU hW => ⟨rfl, ⟨by rw [hU], by rw [hU]; exact hP, hK.warm hW⟩, mwZ.to hZ hW.alike (fun a h1 h2 => by rw [hU]; exact hS.2.1 a h1 h2) hF⟩⟩ rfl hnp hl.1 rfl (lv_room hrest) hd hcs) hS (fun q _ h => hF q h) hF (fun r u t H1 locs1 ht hvm hp hB hz1 hk1 hS1 => ?_)
  exact kk r u hp H1 locs1 ls (by rw [← ht]; exact hB.1) (fun a x h => hF a (hB.2 a x h)) hS1 hl
end MWRZ
/-- posts may be weakened -/
theorem mMi.mono {y : MethodName} {cc : ByteArray} {n : Nat} {ret : Option FieldType} {rm : Room} {av : List Value} {D : va_G} {cI cS : ClassId} {w : mwT} {post post2 : Int32 → mwT → Prop} (h : mMi y cc n ret rm av D cI cS w post) (hp : ∀ r w1, post r w1 → post2 r w1) : mMi y cc n ret rm av D cI cS w post2 := by
  intro l sz
  refine MetFree.mono (h l sz) (fun _ _ q => q) (fun _ _ _ _ _ q => q) (fun a s o t _ q => ?_)
  obtain ⟨⟨⟨v, u, e1, hp1, hB⟩, hF⟩, hL⟩ := q
  exact ⟨⟨⟨v, u, e1, hp _ _ hp1, hB⟩, hF⟩, hL⟩
theorem mMiZ.mono {y : MethodName} {cc : ByteArray} {n : Nat} {ret : Option FieldType} {rm : Room} {av : List Value} {D : va_G} {cI cS : ClassId} {w : mwT} {post post2 : Int32 → mwT → Prop} (h : mMiZ y cc n ret rm av D cI cS w post) (hp : ∀ r w1, post r w1 → post2 r w1) : mMiZ y cc n ret rm av D cI cS w post2 := by
  intro l sz
  refine MetFree.mono (h l sz) (fun _ _ q => q) (fun _ _ _ _ _ q => q) (fun a s o t _ q => ?_)
  obtain ⟨⟨⟨v, u, e1, hp1, hB⟩, hF⟩, hL⟩ := q
  exact ⟨⟨⟨v, u, e1, hp _ _ hp1, hB⟩, hF⟩, hL⟩
