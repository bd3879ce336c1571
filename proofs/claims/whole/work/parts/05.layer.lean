theorem kM_abs_static : Cond.static Lib.Math.abs.name ∈ TT := kw_237
theorem kM_abs_code : Cond.code Lib.Math.abs.name Lib.Math.abs.code 1 (some .int) ∈ TT := kw_239
theorem kM_max_static : Cond.static Lib.Math.max.name ∈ TT := kw_452
theorem kM_max_code : Cond.code Lib.Math.max.name Lib.Math.max.code 2 (some .int) ∈ TT := kw_453
theorem kM_min_static : Cond.static Lib.Math.min.name ∈ TT := kw_280
theorem kM_min_code : Cond.code Lib.Math.min.name Lib.Math.min.code 2 (some .int) ∈ TT := kw_281
theorem kM_init : Cond.initialized "java/lang/Math" ∈ TT := kw_238
/-! ===== worlds as maps from addresses to cells; X: all that stays the same within one method's walk ===== -/
abbrev mwT : Type := Nat → Option va_E
def mwP (D : va_G) (w : mwT) (H : Heap) : Prop := ∀ (a : Nat) (x : va_E), w a = some x → va_at D vwCl (a, x) H
def mwI (A : Nat → Prop) (w : mwT) : Prop := ∀ (a : Nat) (x : va_E), w a = some x → A a
def mwu (w : mwT) (a : Nat) (x : va_E) : mwT := fun b => if b = a then some x else w b
def mwA (w : mwT) (sz : Nat) : Nat → Prop := fun q => (∃ x : va_E, w q = some x) ∨ sz ≤ q
abbrev eI (cI : ClassId) (n : Nat) (f : Nat → Int32) : va_E := .inl (cI, n, .inl f)
abbrev eR (cS : ClassId) (n : Nat) (f : Nat → Option Nat) : va_E := .inl (cS, n, .inr (.inr (.inr (.inr f))))
theorem mwu_eq {w : mwT} {a : Nat} {x : va_E} : mwu w a x a = some x := by simp [mwu]
theorem mwu_ne {w : mwT} {a b : Nat} {x : va_E} (h : b ≠ a) : mwu w a x b = w b := by simp [mwu, h]
theorem mw_oa {w : mwT} {a b : Nat} {x : Nat × List Value} {y : ClassId × vp_A} (h1 : w a = some (.inr x)) (h2 : w b = some (.inl y)) : a ≠ b := by
  intro h
  subst h
  rw [h1] at h2
  cases h2
theorem mw_ao {w : mwT} {a b : Nat} {x : Nat × List Value} {y : ClassId × vp_A} (h1 : w a = some (.inl y)) (h2 : w b = some (.inr x)) : a ≠ b := fun h => mw_oa h2 h1 h.symm
theorem mw_ci {w : mwT} {a b i j : Nat} {x y : List Value} (h1 : w a = some (.inr (i, x))) (h2 : w b = some (.inr (j, y))) (hij : i ≠ j) : a ≠ b := by
  intro h
  subst h
  rw [h1] at h2
  cases h2
  exact hij rfl
theorem mw_nn {w : mwT} {a b : Nat} {x : va_E} (h1 : w a = some x) (h2 : w b = none) : a ≠ b := by
  intro h
  subst h
  rw [h1] at h2
  cases h2
theorem mwP.one {D : va_G} {w : mwT} {H : Heap} {a : Nat} {x : va_E} (h : mwP D w H) (hx : w a = some x) : va_P D vwCl [(a, x)] H := by
  intro k q hk
  cases k with
  | zero => cases hk; exact h a x hx
  | succ k => simp at hk
theorem mwP.set {D : va_G} {w : mwT} {a : Nat} {x : va_E} {H H1 : Heap} (h : mwP D w H) (hx : va_at D vwCl (a, x) H1) (oq : ∀ q : Nat, q ≠ a → H1[q]? = H[q]?) : mwP D (mwu w a x) H1 := by
  intro b y hb
  by_cases hba : b = a
  · subst hba
    rw [mwu_eq] at hb
    cases hb
    exact hx
  · rw [mwu_ne hba] at hb
    exact (h b y hb).kept (oq b hba)
theorem mwP.push {D : va_G} {w : mwT} {x : va_E} {H H1 : Heap} (h : mwP D w H) (hx : va_at D vwCl (H.size, x) H1) (oq : ∀ q : Nat, q < H.size → H1[q]? = H[q]?) : mwP D (mwu w H.size x) H1 := by
  intro b y hb
  by_cases hba : b = H.size
  · subst hba
    rw [mwu_eq] at hb
    cases hb
    exact hx
  · rw [mwu_ne hba] at hb
    exact (h b y hb).kept (oq b (h b y hb).lt)
theorem mwP.fresh {D : va_G} {w : mwT} {H : Heap} (h : mwP D w H) : w H.size = none := by
  cases hw : w H.size with
  | none => rfl
  | some y => exact absurd (h _ y hw).lt (Nat.lt_irrefl _)
theorem mwI.set {A : Nat → Prop} {w : mwT} {a : Nat} {x : va_E} (h : mwI A w) (ha : A a) : mwI A (mwu w a x) := by
  intro b y hb
  by_cases hba : b = a
  · subst hba; exact ha
  · rw [mwu_ne hba] at hb
    exact h b y hb
theorem mwI.self (w : mwT) (sz : Nat) : mwI (mwA w sz) w := fun _ x h => Or.inl ⟨x, h⟩
/-! what the tables say, as the walks need it -/
abbrev mwTy (cI cS : ClassId) : List (ClassId × FieldType) := [(cI, .int), (cS, .object "SketchSpans$Sketch")]
def mwK (D : va_G) (cI cS : ClassId) (U : State) : Prop := va_K D vwCl (mwTy cI cS) U ∧ (∀ w ∈ NT, va_Nw w U) ∧ va_AO "SketchSpans$Sketch" U
theorem nt_on {w : Cond} (h : w ∈ NT) : w.onTables = true := by
  have h2 := (List.mem_filter.mp h).2
  cases w <;> first | rfl | (simp [ntW] at h2; done)
theorem nt_warm {w : Cond} (h : w ∈ NT) {s U : State} (hW : s.WarmedH U.vm) (hZ : va_Nw w s) : va_Nw w U := by
  have h2 := (List.mem_filter.mp h).2
  cases w <;> first | exact va_Nw.warmM hW hZ | exact va_Nw.warmD hW hZ | exact va_Nw.warmC hW hZ | (simp [ntW] at h2; done)
theorem mwK.warm {D : va_G} {cI cS : ClassId} {s U : State} (hW : s.WarmedH U.vm) (h : mwK D cI cS s) : mwK D cI cS U := ⟨va_K.moved hW.alike h.1, fun w hw => nt_warm hw hW (h.2.1 w hw), va_AO.moved hW.alike h.2.2⟩
theorem mwK.same {D : va_G} {cI cS : ClassId} {s U : State} (hv : s.vm = U.vm) (h : mwK D cI cS s) : mwK D cI cS U := ⟨va_K.moved (by rw [hv]; exact Vm.Alike.refl _) h.1, fun w hw => (h.2.1 w hw).same (nt_on hw) hv, va_AO.moved (by rw [hv]; exact Vm.Alike.refl _) h.2.2⟩
abbrev mwX : Type := Program × Launch × Env × Room × State × MethodId × Array Value × List Frame × Method × Code × va_G × (Nat → Prop) × (State → Prop) × Nat
def mwG : mwX → Nat → Nat → mwT → List (Nat × Value) → List Value → Nat → Prop
  | (p, l, e, R, s, m, args, below, meth, c, D, A, Q, n), cells, slots, w, lv, st, pc => ∀ (H : Heap) (locs : List Loc) (ls : Array Slot), mwP D w H → mwI A w → va_S A s.heap H locs → lv_has ls n lv → W p l e R s m args below meth c H locs cells slots Q (F0 m pc ls st)
def mwC : mwX → ByteArray → Nat → String → va_G → ClassId → ClassId → Room → Prop
  | (p, _, _, R, s, m, args, _, _, c, D', A, _, n), cc, nL, own, D, cI, cS, rm => CallFix p m c cc nL s args TT own ∧ mwK D cI cS s ∧ (∀ q : Nat, s.heap.size ≤ q → A q) ∧ D' = D ∧ n = nL ∧ R = rm
def mwN : mwX → String → Prop
  | (_, _, _, _, _, _, _, _, meth, _, _, _, _, _), nm => meth.name = nm
def mwPre (D : va_G) (cI cS : ClassId) (w : mwT) (sz : Nat) (U : State) : Prop := U.heap.size = sz ∧ mwP D w U.heap ∧ mwK D cI cS U
def mwB (D : va_G) (w : mwT) (sz : Nat) (w1 : mwT) (t : State) : Prop := mwP D w1 t.heap ∧ mwI (mwA w sz) w1
/-! contracts: an int (or boolean) answer, none, a reference or null -/
def mMi (y : MethodName) (cc : ByteArray) (n : Nat) (ret : Option FieldType) (rm : Room) (av : List Value) (D : va_G) (cI cS : ClassId) (w : mwT) (post : Int32 → mwT → Prop) : Prop :=
  ∀ (l : Launch) (sz : Nat), Met l y (Cond.code y cc n ret :: TT) rm (va_Pc av (mwPre D cI cS w sz)) (va_Qi post (mwB D w sz) (mwA w sz)) rm.cells rm.slots (mwA w sz)
def mMv (y : MethodName) (cc : ByteArray) (n : Nat) (ret : Option FieldType) (rm : Room) (av : List Value) (D : va_G) (cI cS : ClassId) (w : mwT) (post : mwT → Prop) : Prop :=
  ∀ (l : Launch) (sz : Nat), Met l y (Cond.code y cc n ret :: TT) rm (va_Pc av (mwPre D cI cS w sz)) (va_Qv post (mwB D w sz) (mwA w sz)) rm.cells rm.slots (mwA w sz)
def mMq (y : MethodName) (cc : ByteArray) (n : Nat) (ret : Option FieldType) (rm : Room) (av : List Value) (D : va_G) (cI cS : ClassId) (w : mwT) (post : Option Nat → mwT → Prop) : Prop :=
  ∀ (l : Launch) (sz : Nat), Met l y (Cond.code y cc n ret :: TT) rm (va_Pc av (mwPre D cI cS w sz)) (va_Qq post (mwB D w sz) (mwA w sz)) rm.cells rm.slots (mwA w sz)
def mwRi (X : mwX) (cc : ByteArray) (mc ms : Nat) (post : Int32 → mwT → Prop) : Prop := ∀ (v : Int32) (w1 : mwT) (lv : List (Nat × Value)) (pc : Nat), decode cc pc = .ok (.ireturn, 1) → post v w1 → mwG X mc ms w1 lv [.int v] pc
def mwRz (X : mwX) (cc : ByteArray) (mc ms : Nat) (post : Int32 → mwT → Prop) : Prop := ∀ (v : Int32) (w1 : mwT) (lv : List (Nat × Value)) (pc : Nat), decode cc pc = .ok (.ireturn, 1) → (v = 0 ∨ v = 1) → post v w1 → mwG X mc ms w1 lv [.int v] pc
def mwRv (X : mwX) (cc : ByteArray) (mc ms : Nat) (post : mwT → Prop) : Prop := ∀ (w1 : mwT) (lv : List (Nat × Value)) (pc : Nat), decode cc pc = .ok (.return_, 1) → post w1 → mwG X mc ms w1 lv [] pc
def mwRq (X : mwX) (cc : ByteArray) (mc ms : Nat) (post : Option Nat → mwT → Prop) : Prop := ∀ (r : Option Nat) (w1 : mwT) (lv : List (Nat × Value)) (pc : Nat), decode cc pc = .ok (.areturn, 1) → post r w1 → mwG X mc ms w1 lv [va_rf r] pc
theorem mw_blind (av : List Value) (D : va_G) (cI cS : ClassId) (w : mwT) (sz : Nat) : FrameBlind (va_Pc av (mwPre D cI cS w sz)) := fun a U g mk q => ⟨q.1, q.2.1, q.2.2.1, mwK.same (s := U) (U := U.calling g mk a) rfl q.2.2.2⟩

theorem mMi.of {y : MethodName} {cc : ByteArray} {n : Nat} {rm : Room} {av : List Value} {D : va_G} {cI cS : ClassId} {w : mwT} {post : Int32 → mwT → Prop} (hy : plainName y.cls = true) (hz : (lg_sl av).length ≤ n)
    (body : ∀ X : mwX, mwC X cc n y.cls D cI cS rm → mwN X y.name → mwRi X cc rm.cells rm.slots post → mwG X 0 0 w (lv_args 0 av) [] 0) : mMi y cc n (some .int) rm av D cI cS w post := by
  intro l sz
  refine Met.ofW (cc := cc) (maxL := n) (ret := (some .int)) hy rfl ?_
  intro p e s m args below meth c s₁ B hml hv
  obtain ⟨rfl, hsz, hP, hK⟩ := hv
  have hts0 := atoms_spec (ws := Cond.code y cc n (some .int) :: TT) B.pre
  have hts : ∀ q ∈ TT, q.before av.toArray s = true := fun q h => hts0 q (List.mem_cons_of_mem _ h)
  have hr := B.returns
  have hlocks := B.notSynchronized
  subst hsz
  have hl := lv_entry av (n := n) hz
  rw [lg_entry_eq]
  refine body (p, l, e, rm, s, m, av.toArray, below, meth, c, D, mwA w s.heap.size, _, n) ⟨⟨B.exec, B.bytes, hml, findClass_of_methodNamed B.named, hts⟩, hK, fun q h => Or.inr h, rfl, rfl, rfl⟩ (name_of_methodNamed B.named B.method).1 ?_ s.heap [] _ hP (mwI.self w _) va_S.rf hl
  intro v w1 lv pc hd hp H locs ls hP1 hI1 hS1 hl1
  exact W.iret B.exec B.bytes hr (fun t ht _ => ⟨⟨v, w1, rfl, hp, by rw [ht]; exact hP1, hI1⟩, hS1.F ht⟩) hS1.2.2 hd hlocks
theorem mMz.of {y : MethodName} {cc : ByteArray} {n : Nat} {rm : Room} {av : List Value} {D : va_G} {cI cS : ClassId} {w : mwT} {post : Int32 → mwT → Prop} (hy : plainName y.cls = true) (hz : (lg_sl av).length ≤ n)
    (body : ∀ X : mwX, mwC X cc n y.cls D cI cS rm → mwN X y.name → mwRz X cc rm.cells rm.slots post → mwG X 0 0 w (lv_args 0 av) [] 0) : mMi y cc n (some .boolean) rm av D cI cS w post := by
  intro l sz
  refine Met.ofW (cc := cc) (maxL := n) (ret := (some .boolean)) hy rfl ?_
  intro p e s m args below meth c s₁ B hml hv
  obtain ⟨rfl, hsz, hP, hK⟩ := hv
  have hts0 := atoms_spec (ws := Cond.code y cc n (some .boolean) :: TT) B.pre
  have hts : ∀ q ∈ TT, q.before av.toArray s = true := fun q h => hts0 q (List.mem_cons_of_mem _ h)
  have hr := B.returns
  have hlocks := B.notSynchronized
  subst hsz
  have hl := lv_entry av (n := n) hz
  rw [lg_entry_eq]
  refine body (p, l, e, rm, s, m, av.toArray, below, meth, c, D, mwA w s.heap.size, _, n) ⟨⟨B.exec, B.bytes, hml, findClass_of_methodNamed B.named, hts⟩, hK, fun q h => Or.inr h, rfl, rfl, rfl⟩ (name_of_methodNamed B.named B.method).1 ?_ s.heap [] _ hP (mwI.self w _) va_S.rf hl
  intro v w1 lv pc hd h01 hp H locs ls hP1 hI1 hS1 hl1
  exact W.zret B.exec B.bytes hr (by rcases h01 with rfl | rfl <;> decide) (fun t ht _ => ⟨⟨v, w1, rfl, hp, by rw [ht]; exact hP1, hI1⟩, hS1.F ht⟩) hS1.2.2 hd hlocks
theorem mMv.of {y : MethodName} {cc : ByteArray} {n : Nat} {rm : Room} {av : List Value} {D : va_G} {cI cS : ClassId} {w : mwT} {post : mwT → Prop} (hy : plainName y.cls = true) (hz : (lg_sl av).length ≤ n)
    (body : ∀ X : mwX, mwC X cc n y.cls D cI cS rm → mwN X y.name → mwRv X cc rm.cells rm.slots post → mwG X 0 0 w (lv_args 0 av) [] 0) : mMv y cc n none rm av D cI cS w post := by
  intro l sz
  refine Met.ofW (cc := cc) (maxL := n) (ret := none) hy rfl ?_
  intro p e s m args below meth c s₁ B hml hv
  obtain ⟨rfl, hsz, hP, hK⟩ := hv
  have hts0 := atoms_spec (ws := Cond.code y cc n none :: TT) B.pre
  have hts : ∀ q ∈ TT, q.before av.toArray s = true := fun q h => hts0 q (List.mem_cons_of_mem _ h)
  have hr := B.returns
  have hlocks := B.notSynchronized
  subst hsz
  have hl := lv_entry av (n := n) hz
  rw [lg_entry_eq]
  refine body (p, l, e, rm, s, m, av.toArray, below, meth, c, D, mwA w s.heap.size, _, n) ⟨⟨B.exec, B.bytes, hml, findClass_of_methodNamed B.named, hts⟩, hK, fun q h => Or.inr h, rfl, rfl, rfl⟩ (name_of_methodNamed B.named B.method).1 ?_ s.heap [] _ hP (mwI.self w _) va_S.rf hl
  intro w1 lv pc hd hp H locs ls hP1 hI1 hS1 hl1
  exact W.vret B.exec B.bytes hr (fun t ht _ => ⟨⟨w1, rfl, hp, by rw [ht]; exact hP1, hI1⟩, hS1.F ht⟩) hS1.2.2 hd hlocks
theorem mMq.of {y : MethodName} {cc : ByteArray} {n : Nat} {rm : Room} {av : List Value} {D : va_G} {cI cS : ClassId} {w : mwT} {post : Option Nat → mwT → Prop} {C0 : String} (hy : plainName y.cls = true) (hz : (lg_sl av).length ≤ n)
    (body : ∀ X : mwX, mwC X cc n y.cls D cI cS rm → mwN X y.name → mwRq X cc rm.cells rm.slots post → mwG X 0 0 w (lv_args 0 av) [] 0) : mMq y cc n (some (.object C0)) rm av D cI cS w post := by
  intro l sz
  refine Met.ofW (cc := cc) (maxL := n) (ret := (some (.object C0))) hy rfl ?_
  intro p e s m args below meth c s₁ B hml hv
  obtain ⟨rfl, hsz, hP, hK⟩ := hv
  have hts0 := atoms_spec (ws := Cond.code y cc n (some (.object C0)) :: TT) B.pre
  have hts : ∀ q ∈ TT, q.before av.toArray s = true := fun q h => hts0 q (List.mem_cons_of_mem _ h)
  have hr := B.returns
  have hlocks := B.notSynchronized
  subst hsz
  have hl := lv_entry av (n := n) hz
  rw [lg_entry_eq]
  refine body (p, l, e, rm, s, m, av.toArray, below, meth, c, D, mwA w s.heap.size, _, n) ⟨⟨B.exec, B.bytes, hml, findClass_of_methodNamed B.named, hts⟩, hK, fun q h => Or.inr h, rfl, rfl, rfl⟩ (name_of_methodNamed B.named B.method).1 ?_ s.heap [] _ hP (mwI.self w _) va_S.rf hl
  intro r w1 lv pc hd hp H locs ls hP1 hI1 hS1 hl1
  exact W.aret B.exec B.bytes hr (Or.inl ⟨C0, rfl⟩) (by cases r with | none => exact Or.inl rfl | some a => exact Or.inr ⟨a, rfl⟩) (fun t ht _ => ⟨⟨r, w1, rfl, hp, by rw [ht]; exact hP1, hI1⟩, hS1.F ht⟩) hS1.2.2 hd hlocks
def lvg : List (Nat × Value) → Nat → Option Value
  | [], _ => none
  | (j, v) :: l, i => if j = i then some v else lvg l i
theorem lvg_mem : ∀ {l : List (Nat × Value)} {i : Nat} {v : Value}, lvg l i = some v → (i, v) ∈ l
  | (j, u) :: l, i, v, h => by
    unfold lvg at h
    by_cases hj : j = i
    · rw [if_pos hj] at h
      cases h
      subst hj
      exact List.mem_cons_self
    · rw [if_neg hj] at h
      exact List.mem_cons_of_mem _ (lvg_mem h)
theorem lvg_at {ls : Array Slot} {n : Nat} {l : List (Nat × Value)} {i : Nat} {v : Value} (h : lv_has ls n l) (hv : lvg l i = some v) : ls[i]? = some (.val v) := h.2.2 _ (lvg_mem hv)
theorem mg_sub {X : mwX} {cells slots : Nat} {w : mwT} {lv lv' : List (Nat × Value)} {st : List Value} {pc : Nat} (ks : List Nat) (hl : lv_pick lv ks = lv') (kk : mwG X cells slots w lv' st pc) : mwG X cells slots w lv st pc := by
  obtain ⟨p, l, e, R, s, m, args, below, meth, c, D, A, Q, n⟩ := X
  intro H locs ls hP hI hS h
  exact kk H locs ls hP hI hS (lv_sub h ks hl)
theorem mg_widen {X : mwX} {cells slots k n : Nat} {w : mwT} {lv : List (Nat × Value)} {st : List Value} {pc : Nat} (h1 : cells ≤ k) (h2 : slots ≤ n) (kk : mwG X k n w lv st pc) : mwG X cells slots w lv st pc := by
  obtain ⟨p, l, e, R, s, m, args, below, meth, c, D, A, Q, n0⟩ := X
  intro H locs ls hP hI hS h
  exact W.widen h1 h2 (kk H locs ls hP hI hS h)
section MWR
variable {X : mwX} {cc : ByteArray} {nL : Nat} {own : String} {D : va_G} {cI cS : ClassId} {rm : Room} {cells slots : Nat} {w : mwT} {lv : List (Nat × Value)} {st : List Value} {pc : Nat}
theorem mg_iload_n (C : mwC X cc nL own D cI cS rm) {k : Fin 4} {x : Int32} (hd : decode cc pc = .ok (.iload_n k, 1)) (hv : lvg lv k.val = some (.int x)) (kk : mwG X cells slots w lv (.int x :: st) (pc + 1)) : mwG X cells slots w lv st pc := by
  obtain ⟨p, l, e, R, s, m, args, below, meth, c, D', A, Q, n⟩ := X
  obtain ⟨⟨hx, hb, hml, hown, hts⟩, hK, hA, rfl, rfl, rfl⟩ := C
  intro H locs ls hP hI hS hl
  exact lv_iload_n hx hb hd rfl (lvg_at hl hv) (kk H locs ls hP hI hS hl)
theorem mg_iload (C : mwC X cc nL own D cI cS rm) {i : Nat} {x : Int32} (hd : decode cc pc = .ok (.iload i, 2)) (hv : lvg lv i = some (.int x)) (kk : mwG X cells slots w lv (.int x :: st) (pc + 2)) : mwG X cells slots w lv st pc := by
  obtain ⟨p, l, e, R, s, m, args, below, meth, c, D', A, Q, n⟩ := X
  obtain ⟨⟨hx, hb, hml, hown, hts⟩, hK, hA, rfl, rfl, rfl⟩ := C
  intro H locs ls hP hI hS hl
  exact lv_iload hx hb hd (lvg_at hl hv) (kk H locs ls hP hI hS hl)
theorem mg_aload_n (C : mwC X cc nL own D cI cS rm) {k : Fin 4} {x : Nat} (hd : decode cc pc = .ok (.aload_n k, 1)) (hv : lvg lv k.val = some (.ref x)) (kk : mwG X cells slots w lv (.ref x :: st) (pc + 1)) : mwG X cells slots w lv st pc := by
  obtain ⟨p, l, e, R, s, m, args, below, meth, c, D', A, Q, n⟩ := X
  obtain ⟨⟨hx, hb, hml, hown, hts⟩, hK, hA, rfl, rfl, rfl⟩ := C
  intro H locs ls hP hI hS hl
  exact lv_aload_n hx hb hd rfl (lvg_at hl hv) (kk H locs ls hP hI hS hl)
theorem mg_aload (C : mwC X cc nL own D cI cS rm) {i : Nat} {x : Nat} (hd : decode cc pc = .ok (.aload i, 2)) (hv : lvg lv i = some (.ref x)) (kk : mwG X cells slots w lv (.ref x :: st) (pc + 2)) : mwG X cells slots w lv st pc := by
  obtain ⟨p, l, e, R, s, m, args, below, meth, c, D', A, Q, n⟩ := X
  obtain ⟨⟨hx, hb, hml, hown, hts⟩, hK, hA, rfl, rfl, rfl⟩ := C
  intro H locs ls hP hI hS hl
  exact lv_aload hx hb hd (lvg_at hl hv) (kk H locs ls hP hI hS hl)
theorem mg_aload_nN (C : mwC X cc nL own D cI cS rm) {k : Fin 4} (hd : decode cc pc = .ok (.aload_n k, 1)) (hv : lvg lv k.val = some .null) (kk : mwG X cells slots w lv (.null :: st) (pc + 1)) : mwG X cells slots w lv st pc := by
  obtain ⟨p, l, e, R, s, m, args, below, meth, c, D', A, Q, n⟩ := X
  obtain ⟨⟨hx, hb, hml, hown, hts⟩, hK, hA, rfl, rfl, rfl⟩ := C
  intro H locs ls hP hI hS hl
  exact lv_aload_nN hx hb hd rfl (lvg_at hl hv) (kk H locs ls hP hI hS hl)
theorem mg_iconst (C : mwC X cc nL own D cI cS rm) {k : Int} {v : Int32} (hd : decode cc pc = .ok (.iconst k, 1)) (hv : Int32.ofInt k = v) (kk : mwG X cells slots w lv (.int v :: st) (pc + 1)) : mwG X cells slots w lv st pc := by
  obtain ⟨p, l, e, R, s, m, args, below, meth, c, D', A, Q, n⟩ := X
  obtain ⟨⟨hx, hb, hml, hown, hts⟩, hK, hA, rfl, rfl, rfl⟩ := C
  intro H locs ls hP hI hS hl
  exact lv_iconst hx hb hd hv (kk H locs ls hP hI hS hl)
theorem mg_bipush (C : mwC X cc nL own D cI cS rm) {k : Int} {v : Int32} (hd : decode cc pc = .ok (.bipush k, 2)) (hv : (Int8.ofInt k).toInt32 = v) (kk : mwG X cells slots w lv (.int v :: st) (pc + 2)) : mwG X cells slots w lv st pc := by
  obtain ⟨p, l, e, R, s, m, args, below, meth, c, D', A, Q, n⟩ := X
  obtain ⟨⟨hx, hb, hml, hown, hts⟩, hK, hA, rfl, rfl, rfl⟩ := C
  intro H locs ls hP hI hS hl
  exact lv_bipush hx hb hd hv (kk H locs ls hP hI hS hl)
theorem mg_sipush (C : mwC X cc nL own D cI cS rm) {k : Int} {v : Int32} (hd : decode cc pc = .ok (.sipush k, 3)) (hv : (Int16.ofInt k).toInt32 = v) (kk : mwG X cells slots w lv (.int v :: st) (pc + 3)) : mwG X cells slots w lv st pc := by
  obtain ⟨p, l, e, R, s, m, args, below, meth, c, D', A, Q, n⟩ := X
  obtain ⟨⟨hx, hb, hml, hown, hts⟩, hK, hA, rfl, rfl, rfl⟩ := C
  intro H locs ls hP hI hS hl
  exact lv_sipush hx hb hd hv (kk H locs ls hP hI hS hl)
theorem mg_ldc (C : mwC X cc nL own D cI cS rm) {idx : Nat} {v v0 : Int32} (hd : decode cc pc = .ok (.ldc idx, 2)) (hw : Cond.constant own idx v0 ∈ TT) (hv : v0 = v) (kk : mwG X cells slots w lv (.int v :: st) (pc + 2)) : mwG X cells slots w lv st pc := by
  obtain ⟨p, l, e, R, s, m, args, below, meth, c, D', A, Q, n⟩ := X
  obtain ⟨⟨hx, hb, hml, hown, hts⟩, hK, hA, rfl, rfl, rfl⟩ := C
  intro H locs ls hP hI hS hl
  subst hv
  exact lv_ldc hx hb hown (hts _ hw) hd (kk H locs ls hP hI hS hl)
theorem mg_dup (C : mwC X cc nL own D cI cS rm) {v : Value} (hd : decode cc pc = .ok (.dup, 1)) (hv : v.category = 1) (kk : mwG X cells slots w lv (v :: v :: st) (pc + 1)) : mwG X cells slots w lv (v :: st) pc := by
  obtain ⟨p, l, e, R, s, m, args, below, meth, c, D', A, Q, n⟩ := X
  obtain ⟨⟨hx, hb, hml, hown, hts⟩, hK, hA, rfl, rfl, rfl⟩ := C
  intro H locs ls hP hI hS hl
  exact lv_dup hx hb hd hv (kk H locs ls hP hI hS hl)
theorem mg_iadd (C : mwC X cc nL own D cI cS rm) {x y z : Int32} (hd : decode cc pc = .ok (.iadd, 1)) (hz : x + y = z) (kk : mwG X cells slots w lv (.int z :: st) (pc + 1)) : mwG X cells slots w lv (.int y :: .int x :: st) pc := by
  obtain ⟨p, l, e, R, s, m, args, below, meth, c, D', A, Q, n⟩ := X
  obtain ⟨⟨hx, hb, hml, hown, hts⟩, hK, hA, rfl, rfl, rfl⟩ := C
  intro H locs ls hP hI hS hl
  subst hz
  exact lv_iadd hx hb hd (kk H locs ls hP hI hS hl)
theorem mg_isub (C : mwC X cc nL own D cI cS rm) {x y z : Int32} (hd : decode cc pc = .ok (.isub, 1)) (hz : x - y = z) (kk : mwG X cells slots w lv (.int z :: st) (pc + 1)) : mwG X cells slots w lv (.int y :: .int x :: st) pc := by
  obtain ⟨p, l, e, R, s, m, args, below, meth, c, D', A, Q, n⟩ := X
  obtain ⟨⟨hx, hb, hml, hown, hts⟩, hK, hA, rfl, rfl, rfl⟩ := C
  intro H locs ls hP hI hS hl
  subst hz
  exact lv_isub hx hb hd (kk H locs ls hP hI hS hl)
theorem mg_imul (C : mwC X cc nL own D cI cS rm) {x y z : Int32} (hd : decode cc pc = .ok (.imul, 1)) (hz : x * y = z) (kk : mwG X cells slots w lv (.int z :: st) (pc + 1)) : mwG X cells slots w lv (.int y :: .int x :: st) pc := by
  obtain ⟨p, l, e, R, s, m, args, below, meth, c, D', A, Q, n⟩ := X
  obtain ⟨⟨hx, hb, hml, hown, hts⟩, hK, hA, rfl, rfl, rfl⟩ := C
  intro H locs ls hP hI hS hl
  subst hz
  exact lv_imul hx hb hd (kk H locs ls hP hI hS hl)
theorem mg_iand (C : mwC X cc nL own D cI cS rm) {x y z : Int32} (hd : decode cc pc = .ok (.iand, 1)) (hz : x &&& y = z) (kk : mwG X cells slots w lv (.int z :: st) (pc + 1)) : mwG X cells slots w lv (.int y :: .int x :: st) pc := by
  obtain ⟨p, l, e, R, s, m, args, below, meth, c, D', A, Q, n⟩ := X
  obtain ⟨⟨hx, hb, hml, hown, hts⟩, hK, hA, rfl, rfl, rfl⟩ := C
  intro H locs ls hP hI hS hl
  subst hz
  exact lv_iand hx hb hd (kk H locs ls hP hI hS hl)
theorem mg_ior (C : mwC X cc nL own D cI cS rm) {x y z : Int32} (hd : decode cc pc = .ok (.ior, 1)) (hz : x ||| y = z) (kk : mwG X cells slots w lv (.int z :: st) (pc + 1)) : mwG X cells slots w lv (.int y :: .int x :: st) pc := by
  obtain ⟨p, l, e, R, s, m, args, below, meth, c, D', A, Q, n⟩ := X
  obtain ⟨⟨hx, hb, hml, hown, hts⟩, hK, hA, rfl, rfl, rfl⟩ := C
  intro H locs ls hP hI hS hl
  subst hz
  exact lv_ior hx hb hd (kk H locs ls hP hI hS hl)
theorem mg_ishl (C : mwC X cc nL own D cI cS rm) {x y z : Int32} (hd : decode cc pc = .ok (.ishl, 1)) (hz : x <<< (y &&& 31) = z) (kk : mwG X cells slots w lv (.int z :: st) (pc + 1)) : mwG X cells slots w lv (.int y :: .int x :: st) pc := by
  obtain ⟨p, l, e, R, s, m, args, below, meth, c, D', A, Q, n⟩ := X
  obtain ⟨⟨hx, hb, hml, hown, hts⟩, hK, hA, rfl, rfl, rfl⟩ := C
  intro H locs ls hP hI hS hl
  subst hz
  exact lv_ishl hx hb hd (kk H locs ls hP hI hS hl)
theorem mg_idiv (C : mwC X cc nL own D cI cS rm) {x y z : Int32} (hd : decode cc pc = .ok (.idiv, 1)) (hne : ¬ y = 0) (hz : x / y = z) (kk : mwG X cells slots w lv (.int z :: st) (pc + 1)) : mwG X cells slots w lv (.int y :: .int x :: st) pc := by
  obtain ⟨p, l, e, R, s, m, args, below, meth, c, D', A, Q, n⟩ := X
  obtain ⟨⟨hx, hb, hml, hown, hts⟩, hK, hA, rfl, rfl, rfl⟩ := C
  intro H locs ls hP hI hS hl
  subst hz
  exact lv_idiv hx hb hd hne (kk H locs ls hP hI hS hl)
theorem mg_irem (C : mwC X cc nL own D cI cS rm) {x y z : Int32} (hd : decode cc pc = .ok (.irem, 1)) (hne : ¬ y = 0) (hz : x - x / y * y = z) (kk : mwG X cells slots w lv (.int z :: st) (pc + 1)) : mwG X cells slots w lv (.int y :: .int x :: st) pc := by
  obtain ⟨p, l, e, R, s, m, args, below, meth, c, D', A, Q, n⟩ := X
  obtain ⟨⟨hx, hb, hml, hown, hts⟩, hK, hA, rfl, rfl, rfl⟩ := C
  intro H locs ls hP hI hS hl
  subst hz
  exact lv_irem hx hb hd hne (kk H locs ls hP hI hS hl)
theorem mg_ineg (C : mwC X cc nL own D cI cS rm) {x z : Int32} (hd : decode cc pc = .ok (.ineg, 1)) (hz : 0 - x = z) (kk : mwG X cells slots w lv (.int z :: st) (pc + 1)) : mwG X cells slots w lv (.int x :: st) pc := by
  obtain ⟨p, l, e, R, s, m, args, below, meth, c, D', A, Q, n⟩ := X
  obtain ⟨⟨hx, hb, hml, hown, hts⟩, hK, hA, rfl, rfl, rfl⟩ := C
  intro H locs ls hP hI hS hl
  subst hz
  exact lv_ineg hx hb hd (kk H locs ls hP hI hS hl)
theorem mg_istore (C : mwC X cc nL own D cI cS rm) {i : Nat} {x : Int32} {lv' : List (Nat × Value)} (hd : decode cc pc = .ok (.istore i, 2)) (hn : i < nL) (hl' : (i, Value.int x) :: lv.filter (fun q => !(q.1 == i) && !(q.1 + 1 == i && q.2.category == 2)) = lv') (kk : mwG X cells slots w lv' st (pc + 2)) : mwG X cells slots w lv (.int x :: st) pc := by
  obtain ⟨p, l, e, R, s, m, args, below, meth, c, D', A, Q, n⟩ := X
  obtain ⟨⟨hx, hb, hml, hown, hts⟩, hK, hA, rfl, rfl, rfl⟩ := C
  intro H locs ls hP hI hS hl
  exact lv_istore hx hb hd hl hn hl' (fun ls' hl2 => kk H locs ls' hP hI hS hl2)
theorem mg_istore_n (C : mwC X cc nL own D cI cS rm) {k : Fin 4} {i : Nat} {x : Int32} {lv' : List (Nat × Value)} (hd : decode cc pc = .ok (.istore_n k, 1)) (hi : k.val = i) (hn : i < nL) (hl' : (i, Value.int x) :: lv.filter (fun q => !(q.1 == i) && !(q.1 + 1 == i && q.2.category == 2)) = lv') (kk : mwG X cells slots w lv' st (pc + 1)) : mwG X cells slots w lv (.int x :: st) pc := by
  obtain ⟨p, l, e, R, s, m, args, below, meth, c, D', A, Q, n⟩ := X
  obtain ⟨⟨hx, hb, hml, hown, hts⟩, hK, hA, rfl, rfl, rfl⟩ := C
  intro H locs ls hP hI hS hl
  exact lv_istore_n hx hb hd hi hl hn hl' (fun ls' hl2 => kk H locs ls' hP hI hS hl2)
theorem mg_astore (C : mwC X cc nL own D cI cS rm) {i : Nat} {x : Nat} {lv' : List (Nat × Value)} (hd : decode cc pc = .ok (.astore i, 2)) (hn : i < nL) (hl' : (i, Value.ref x) :: lv.filter (fun q => !(q.1 == i) && !(q.1 + 1 == i && q.2.category == 2)) = lv') (kk : mwG X cells slots w lv' st (pc + 2)) : mwG X cells slots w lv (.ref x :: st) pc := by
  obtain ⟨p, l, e, R, s, m, args, below, meth, c, D', A, Q, n⟩ := X
  obtain ⟨⟨hx, hb, hml, hown, hts⟩, hK, hA, rfl, rfl, rfl⟩ := C
  intro H locs ls hP hI hS hl
  exact lv_astore hx hb hd hl hn hl' (fun ls' hl2 => kk H locs ls' hP hI hS hl2)
theorem mg_astore_n (C : mwC X cc nL own D cI cS rm) {k : Fin 4} {i : Nat} {x : Nat} {lv' : List (Nat × Value)} (hd : decode cc pc = .ok (.astore_n k, 1)) (hi : k.val = i) (hn : i < nL) (hl' : (i, Value.ref x) :: lv.filter (fun q => !(q.1 == i) && !(q.1 + 1 == i && q.2.category == 2)) = lv') (kk : mwG X cells slots w lv' st (pc + 1)) : mwG X cells slots w lv (.ref x :: st) pc := by
  obtain ⟨p, l, e, R, s, m, args, below, meth, c, D', A, Q, n⟩ := X
  obtain ⟨⟨hx, hb, hml, hown, hts⟩, hK, hA, rfl, rfl, rfl⟩ := C
  intro H locs ls hP hI hS hl
  exact lv_astore_n hx hb hd hi hl hn hl' (fun ls' hl2 => kk H locs ls' hP hI hS hl2)
theorem mg_astore_nN (C : mwC X cc nL own D cI cS rm) {k : Fin 4} {i : Nat} {lv' : List (Nat × Value)} (hd : decode cc pc = .ok (.astore_n k, 1)) (hi : k.val = i) (hn : i < nL) (hl' : (i, Value.null) :: lv.filter (fun q => !(q.1 == i) && !(q.1 + 1 == i && q.2.category == 2)) = lv') (kk : mwG X cells slots w lv' st (pc + 1)) : mwG X cells slots w lv (.null :: st) pc := by
  obtain ⟨p, l, e, R, s, m, args, below, meth, c, D', A, Q, n⟩ := X
  obtain ⟨⟨hx, hb, hml, hown, hts⟩, hK, hA, rfl, rfl, rfl⟩ := C
  intro H locs ls hP hI hS hl
  exact lv_astore_nN hx hb hd hi hl hn hl' (fun ls' hl2 => kk H locs ls' hP hI hS hl2)
theorem mg_iinc (C : mwC X cc nL own D cI cS rm) {i : Nat} {k : Int} {x v : Int32} {lv' : List (Nat × Value)} (hd : decode cc pc = .ok (.iinc i k, 3)) (hx0 : lvg lv i = some (.int x)) (hv : x + Int32.ofInt k = v) (hn : i < nL) (hl' : (i, Value.int v) :: lv.filter (fun q => !(q.1 == i) && !(q.1 + 1 == i && q.2.category == 2)) = lv') (kk : mwG X cells slots w lv' st (pc + 3)) : mwG X cells slots w lv st pc := by
  obtain ⟨p, l, e, R, s, m, args, below, meth, c, D', A, Q, n⟩ := X
  obtain ⟨⟨hx, hb, hml, hown, hts⟩, hK, hA, rfl, rfl, rfl⟩ := C
  intro H locs ls hP hI hS hl
  obtain ⟨j, hj⟩ := List.getElem?_of_mem (lvg_mem hx0)
  exact lv_iinc hx hb hd hl hj hv hn hl' (fun ls' hl2 => kk H locs ls' hP hI hS hl2)
theorem mg_goto (C : mwC X cc nL own D cI cS rm) {off : Int} {tgt : Nat} (hd : decode cc pc = .ok (.goto off, 3)) (ht : (pc : Int) + off = (tgt : Int)) (kk : mwG X cells slots w lv st tgt) : mwG X cells slots w lv st pc := by
  obtain ⟨p, l, e, R, s, m, args, below, meth, c, D', A, Q, n⟩ := X
  obtain ⟨⟨hx, hb, hml, hown, hts⟩, hK, hA, rfl, rfl, rfl⟩ := C
  intro H locs ls hP hI hS hl
  exact lv_goto hx hb hd ht (kk H locs ls hP hI hS hl)
theorem mg_icmp_eq (C : mwC X cc nL own D cI cS rm) {x y : Int32} {off : Int} {tgt : Nat} (hd : decode cc pc = .ok (.if_icmp .eq off, 3)) (ht : (pc : Int) + off = (tgt : Int)) (kt : x = y → mwG X cells slots w lv st tgt) (kf : ¬ x = y → mwG X cells slots w lv st (pc + 3)) : mwG X cells slots w lv (.int y :: .int x :: st) pc := by
  obtain ⟨p, l, e, R, s, m, args, below, meth, c, D', A, Q, n⟩ := X
  obtain ⟨⟨hx, hb, hml, hown, hts⟩, hK, hA, rfl, rfl, rfl⟩ := C
  intro H locs ls hP hI hS hl
  exact lv_icmp_eq hx hb hd ht (fun h => kt h H locs ls hP hI hS hl) (fun h => kf h H locs ls hP hI hS hl)
theorem mg_if_eq (C : mwC X cc nL own D cI cS rm) {x : Int32} {off : Int} {tgt : Nat} (hd : decode cc pc = .ok (.ifCond .eq off, 3)) (ht : (pc : Int) + off = (tgt : Int)) (kt : x = 0 → mwG X cells slots w lv st tgt) (kf : ¬ x = 0 → mwG X cells slots w lv st (pc + 3)) : mwG X cells slots w lv (.int x :: st) pc := by
  obtain ⟨p, l, e, R, s, m, args, below, meth, c, D', A, Q, n⟩ := X
  obtain ⟨⟨hx, hb, hml, hown, hts⟩, hK, hA, rfl, rfl, rfl⟩ := C
  intro H locs ls hP hI hS hl
  exact lv_if_eq hx hb hd ht (fun h => kt h H locs ls hP hI hS hl) (fun h => kf h H locs ls hP hI hS hl)
theorem mg_icmp_ne (C : mwC X cc nL own D cI cS rm) {x y : Int32} {off : Int} {tgt : Nat} (hd : decode cc pc = .ok (.if_icmp .ne off, 3)) (ht : (pc : Int) + off = (tgt : Int)) (kt : ¬ x = y → mwG X cells slots w lv st tgt) (kf : x = y → mwG X cells slots w lv st (pc + 3)) : mwG X cells slots w lv (.int y :: .int x :: st) pc := by
  obtain ⟨p, l, e, R, s, m, args, below, meth, c, D', A, Q, n⟩ := X
  obtain ⟨⟨hx, hb, hml, hown, hts⟩, hK, hA, rfl, rfl, rfl⟩ := C
  intro H locs ls hP hI hS hl
  exact lv_icmp_ne hx hb hd ht (fun h => kt h H locs ls hP hI hS hl) (fun h => kf h H locs ls hP hI hS hl)
theorem mg_if_ne (C : mwC X cc nL own D cI cS rm) {x : Int32} {off : Int} {tgt : Nat} (hd : decode cc pc = .ok (.ifCond .ne off, 3)) (ht : (pc : Int) + off = (tgt : Int)) (kt : ¬ x = 0 → mwG X cells slots w lv st tgt) (kf : x = 0 → mwG X cells slots w lv st (pc + 3)) : mwG X cells slots w lv (.int x :: st) pc := by
  obtain ⟨p, l, e, R, s, m, args, below, meth, c, D', A, Q, n⟩ := X
  obtain ⟨⟨hx, hb, hml, hown, hts⟩, hK, hA, rfl, rfl, rfl⟩ := C
  intro H locs ls hP hI hS hl
  exact lv_if_ne hx hb hd ht (fun h => kt h H locs ls hP hI hS hl) (fun h => kf h H locs ls hP hI hS hl)
theorem mg_icmp_lt (C : mwC X cc nL own D cI cS rm) {x y : Int32} {off : Int} {tgt : Nat} (hd : decode cc pc = .ok (.if_icmp .lt off, 3)) (ht : (pc : Int) + off = (tgt : Int)) (kt : x < y → mwG X cells slots w lv st tgt) (kf : ¬ x < y → mwG X cells slots w lv st (pc + 3)) : mwG X cells slots w lv (.int y :: .int x :: st) pc := by
  obtain ⟨p, l, e, R, s, m, args, below, meth, c, D', A, Q, n⟩ := X
  obtain ⟨⟨hx, hb, hml, hown, hts⟩, hK, hA, rfl, rfl, rfl⟩ := C
  intro H locs ls hP hI hS hl
  exact lv_icmp_lt hx hb hd ht (fun h => kt h H locs ls hP hI hS hl) (fun h => kf h H locs ls hP hI hS hl)
theorem mg_if_lt (C : mwC X cc nL own D cI cS rm) {x : Int32} {off : Int} {tgt : Nat} (hd : decode cc pc = .ok (.ifCond .lt off, 3)) (ht : (pc : Int) + off = (tgt : Int)) (kt : x < 0 → mwG X cells slots w lv st tgt) (kf : ¬ x < 0 → mwG X cells slots w lv st (pc + 3)) : mwG X cells slots w lv (.int x :: st) pc := by
  obtain ⟨p, l, e, R, s, m, args, below, meth, c, D', A, Q, n⟩ := X
  obtain ⟨⟨hx, hb, hml, hown, hts⟩, hK, hA, rfl, rfl, rfl⟩ := C
  intro H locs ls hP hI hS hl
  exact lv_if_lt hx hb hd ht (fun h => kt h H locs ls hP hI hS hl) (fun h => kf h H locs ls hP hI hS hl)
theorem mg_icmp_ge (C : mwC X cc nL own D cI cS rm) {x y : Int32} {off : Int} {tgt : Nat} (hd : decode cc pc = .ok (.if_icmp .ge off, 3)) (ht : (pc : Int) + off = (tgt : Int)) (kt : y ≤ x → mwG X cells slots w lv st tgt) (kf : ¬ y ≤ x → mwG X cells slots w lv st (pc + 3)) : mwG X cells slots w lv (.int y :: .int x :: st) pc := by
  obtain ⟨p, l, e, R, s, m, args, below, meth, c, D', A, Q, n⟩ := X
  obtain ⟨⟨hx, hb, hml, hown, hts⟩, hK, hA, rfl, rfl, rfl⟩ := C
  intro H locs ls hP hI hS hl
  exact lv_icmp_ge hx hb hd ht (fun h => kt h H locs ls hP hI hS hl) (fun h => kf h H locs ls hP hI hS hl)
theorem mg_if_ge (C : mwC X cc nL own D cI cS rm) {x : Int32} {off : Int} {tgt : Nat} (hd : decode cc pc = .ok (.ifCond .ge off, 3)) (ht : (pc : Int) + off = (tgt : Int)) (kt : 0 ≤ x → mwG X cells slots w lv st tgt) (kf : ¬ 0 ≤ x → mwG X cells slots w lv st (pc + 3)) : mwG X cells slots w lv (.int x :: st) pc := by
  obtain ⟨p, l, e, R, s, m, args, below, meth, c, D', A, Q, n⟩ := X
  obtain ⟨⟨hx, hb, hml, hown, hts⟩, hK, hA, rfl, rfl, rfl⟩ := C
  intro H locs ls hP hI hS hl
  exact lv_if_ge hx hb hd ht (fun h => kt h H locs ls hP hI hS hl) (fun h => kf h H locs ls hP hI hS hl)
theorem mg_icmp_gt (C : mwC X cc nL own D cI cS rm) {x y : Int32} {off : Int} {tgt : Nat} (hd : decode cc pc = .ok (.if_icmp .gt off, 3)) (ht : (pc : Int) + off = (tgt : Int)) (kt : y < x → mwG X cells slots w lv st tgt) (kf : ¬ y < x → mwG X cells slots w lv st (pc + 3)) : mwG X cells slots w lv (.int y :: .int x :: st) pc := by
  obtain ⟨p, l, e, R, s, m, args, below, meth, c, D', A, Q, n⟩ := X
  obtain ⟨⟨hx, hb, hml, hown, hts⟩, hK, hA, rfl, rfl, rfl⟩ := C
  intro H locs ls hP hI hS hl
  exact lv_icmp_gt hx hb hd ht (fun h => kt h H locs ls hP hI hS hl) (fun h => kf h H locs ls hP hI hS hl)
theorem mg_if_gt (C : mwC X cc nL own D cI cS rm) {x : Int32} {off : Int} {tgt : Nat} (hd : decode cc pc = .ok (.ifCond .gt off, 3)) (ht : (pc : Int) + off = (tgt : Int)) (kt : 0 < x → mwG X cells slots w lv st tgt) (kf : ¬ 0 < x → mwG X cells slots w lv st (pc + 3)) : mwG X cells slots w lv (.int x :: st) pc := by
  obtain ⟨p, l, e, R, s, m, args, below, meth, c, D', A, Q, n⟩ := X
  obtain ⟨⟨hx, hb, hml, hown, hts⟩, hK, hA, rfl, rfl, rfl⟩ := C
  intro H locs ls hP hI hS hl
  exact lv_if_gt hx hb hd ht (fun h => kt h H locs ls hP hI hS hl) (fun h => kf h H locs ls hP hI hS hl)
theorem mg_icmp_le (C : mwC X cc nL own D cI cS rm) {x y : Int32} {off : Int} {tgt : Nat} (hd : decode cc pc = .ok (.if_icmp .le off, 3)) (ht : (pc : Int) + off = (tgt : Int)) (kt : x ≤ y → mwG X cells slots w lv st tgt) (kf : ¬ x ≤ y → mwG X cells slots w lv st (pc + 3)) : mwG X cells slots w lv (.int y :: .int x :: st) pc := by
  obtain ⟨p, l, e, R, s, m, args, below, meth, c, D', A, Q, n⟩ := X
  obtain ⟨⟨hx, hb, hml, hown, hts⟩, hK, hA, rfl, rfl, rfl⟩ := C
  intro H locs ls hP hI hS hl
  exact lv_icmp_le hx hb hd ht (fun h => kt h H locs ls hP hI hS hl) (fun h => kf h H locs ls hP hI hS hl)
theorem mg_if_le (C : mwC X cc nL own D cI cS rm) {x : Int32} {off : Int} {tgt : Nat} (hd : decode cc pc = .ok (.ifCond .le off, 3)) (ht : (pc : Int) + off = (tgt : Int)) (kt : x ≤ 0 → mwG X cells slots w lv st tgt) (kf : ¬ x ≤ 0 → mwG X cells slots w lv st (pc + 3)) : mwG X cells slots w lv (.int x :: st) pc := by
  obtain ⟨p, l, e, R, s, m, args, below, meth, c, D', A, Q, n⟩ := X
  obtain ⟨⟨hx, hb, hml, hown, hts⟩, hK, hA, rfl, rfl, rfl⟩ := C
  intro H locs ls hP hI hS hl
  exact lv_if_le hx hb hd ht (fun h => kt h H locs ls hP hI hS hl) (fun h => kf h H locs ls hP hI hS hl)
theorem mg_ifnull (C : mwC X cc nL own D cI cS rm) {x : Nat} {off : Int} (hd : decode cc pc = .ok (.ifnull off, 3)) (kk : mwG X cells slots w lv st (pc + 3)) : mwG X cells slots w lv (.ref x :: st) pc := by
  obtain ⟨p, l, e, R, s, m, args, below, meth, c, D', A, Q, n⟩ := X
  obtain ⟨⟨hx, hb, hml, hown, hts⟩, hK, hA, rfl, rfl, rfl⟩ := C
  intro H locs ls hP hI hS hl
  exact lv_ifnull hx hb hd (kk H locs ls hP hI hS hl)
theorem mg_ifnullN (C : mwC X cc nL own D cI cS rm) {off : Int} {tgt : Nat} (hd : decode cc pc = .ok (.ifnull off, 3)) (ht : (pc : Int) + off = (tgt : Int)) (kk : mwG X cells slots w lv st tgt) : mwG X cells slots w lv (.null :: st) pc := by
  obtain ⟨p, l, e, R, s, m, args, below, meth, c, D', A, Q, n⟩ := X
  obtain ⟨⟨hx, hb, hml, hown, hts⟩, hK, hA, rfl, rfl, rfl⟩ := C
  intro H locs ls hP hI hS hl
  exact lv_ifnullN hx hb hd ht (kk H locs ls hP hI hS hl)
theorem mg_ifnonnull (C : mwC X cc nL own D cI cS rm) {x : Nat} {off : Int} {tgt : Nat} (hd : decode cc pc = .ok (.ifnonnull off, 3)) (ht : (pc : Int) + off = (tgt : Int)) (kk : mwG X cells slots w lv st tgt) : mwG X cells slots w lv (.ref x :: st) pc := by
  obtain ⟨p, l, e, R, s, m, args, below, meth, c, D', A, Q, n⟩ := X
  obtain ⟨⟨hx, hb, hml, hown, hts⟩, hK, hA, rfl, rfl, rfl⟩ := C
  intro H locs ls hP hI hS hl
  exact lv_ifnonnull hx hb hd ht (kk H locs ls hP hI hS hl)
theorem mg_ifnonnullN (C : mwC X cc nL own D cI cS rm) {off : Int} (hd : decode cc pc = .ok (.ifnonnull off, 3)) (kk : mwG X cells slots w lv st (pc + 3)) : mwG X cells slots w lv (.null :: st) pc := by
  obtain ⟨p, l, e, R, s, m, args, below, meth, c, D', A, Q, n⟩ := X
  obtain ⟨⟨hx, hb, hml, hown, hts⟩, hK, hA, rfl, rfl, rfl⟩ := C
  intro H locs ls hP hI hS hl
  exact lv_ifnonnullN hx hb hd (kk H locs ls hP hI hS hl)
theorem mg_tabIn (C : mwC X cc nL own D cI cS rm) {dflt lo hi : Int} {offs : Array Int} {len : Nat} {x : Int32} {off : Int} {tgt : Nat} (hd : decode cc pc = .ok (.tableswitch dflt lo hi offs, len)) (h1 : ¬ x.toInt < lo) (h2 : ¬ hi < x.toInt) (ho : offs[(x.toInt - lo).toNat]? = some off) (ht : (pc : Int) + off = (tgt : Int)) (kk : mwG X cells slots w lv st tgt) : mwG X cells slots w lv (.int x :: st) pc := by
  obtain ⟨p, l, e, R, s, m, args, below, meth, c, D', A, Q, n⟩ := X
  obtain ⟨⟨hx, hb, hml, hown, hts⟩, hK, hA, rfl, rfl, rfl⟩ := C
  intro H locs ls hP hI hS hl
  exact lv_tableIn hx hb hd h1 h2 ho ht (kk H locs ls hP hI hS hl)
theorem mg_tabOut (C : mwC X cc nL own D cI cS rm) {dflt lo hi : Int} {offs : Array Int} {len : Nat} {x : Int32} {tgt : Nat} (hd : decode cc pc = .ok (.tableswitch dflt lo hi offs, len)) (h1 : x.toInt < lo ∨ hi < x.toInt) (ht : (pc : Int) + dflt = (tgt : Int)) (kk : mwG X cells slots w lv st tgt) : mwG X cells slots w lv (.int x :: st) pc := by
  obtain ⟨p, l, e, R, s, m, args, below, meth, c, D', A, Q, n⟩ := X
  obtain ⟨⟨hx, hb, hml, hown, hts⟩, hK, hA, rfl, rfl, rfl⟩ := C
  intro H locs ls hP hI hS hl
  exact lv_tableOut hx hb hd h1 ht (kk H locs ls hP hI hS hl)
theorem mg_mmax (C : mwC X cc nL own D cI cS rm) {x y z : Int32} {idx : Nat} (hd : decode cc pc = .ok (.invokestatic idx, 3)) (hw : Cond.methodLink own idx Lib.Math.max.name ∈ TT) (hR : 1 ≤ rm.frames ∧ (st.map fun v => v.category).sum + 13 ≤ rm.locals) (hcs : cells ≤ rm.cells ∧ slots ≤ rm.slots) (hz : (if x < y then y else x) = z) (kk : mwG X cells slots w lv (.int z :: st) (pc + 3)) : mwG X cells slots w lv (.int y :: .int x :: st) pc := by
  obtain ⟨p, l, e, R, s, m, args, below, meth, c, D', A, Q, n⟩ := X
  obtain ⟨⟨hx, hb, hml, hown, hts⟩, hK, hA, rfl, rfl, rfl⟩ := C
  intro H locs ls hP hI hS hl
  subst hz
  exact va_mmax hx hb (hml.trans hl.1.symm) hown (hts _ hw) (hts _ kM_max_static) (hts _ kM_init) (hts _ kM_max_code) hR.1 hR.2 hcs.1 hcs.2 hd (kk H locs ls hP hI hS hl)
theorem mg_mmin (C : mwC X cc nL own D cI cS rm) {x y z : Int32} {idx : Nat} (hd : decode cc pc = .ok (.invokestatic idx, 3)) (hw : Cond.methodLink own idx Lib.Math.min.name ∈ TT) (hR : 1 ≤ rm.frames ∧ (st.map fun v => v.category).sum + 13 ≤ rm.locals) (hcs : cells ≤ rm.cells ∧ slots ≤ rm.slots) (hz : (if y < x then y else x) = z) (kk : mwG X cells slots w lv (.int z :: st) (pc + 3)) : mwG X cells slots w lv (.int y :: .int x :: st) pc := by
  obtain ⟨p, l, e, R, s, m, args, below, meth, c, D', A, Q, n⟩ := X
  obtain ⟨⟨hx, hb, hml, hown, hts⟩, hK, hA, rfl, rfl, rfl⟩ := C
  intro H locs ls hP hI hS hl
  subst hz
  exact va_mmin hx hb (hml.trans hl.1.symm) hown (hts _ hw) (hts _ kM_min_static) (hts _ kM_init) (hts _ kM_min_code) hR.1 hR.2 hcs.1 hcs.2 hd (kk H locs ls hP hI hS hl)
theorem mg_mabs (C : mwC X cc nL own D cI cS rm) {x z : Int32} {idx : Nat} (hd : decode cc pc = .ok (.invokestatic idx, 3)) (hw : Cond.methodLink own idx Lib.Math.abs.name ∈ TT) (hR : 1 ≤ rm.frames ∧ (st.map fun v => v.category).sum + 13 ≤ rm.locals) (hcs : cells ≤ rm.cells ∧ slots ≤ rm.slots) (hz : (if 0 ≤ x then x else 0 - x) = z) (kk : mwG X cells slots w lv (.int z :: st) (pc + 3)) : mwG X cells slots w lv (.int x :: st) pc := by
  obtain ⟨p, l, e, R, s, m, args, below, meth, c, D', A, Q, n⟩ := X
  obtain ⟨⟨hx, hb, hml, hown, hts⟩, hK, hA, rfl, rfl, rfl⟩ := C
  intro H locs ls hP hI hS hl
  subst hz
  exact va_mabs hx hb (hml.trans hl.1.symm) hown (hts _ hw) (hts _ kM_abs_static) (hts _ kM_init) (hts _ kM_abs_code) hR.1 hR.2 hcs.1 hcs.2 hd (kk H locs ls hP hI hS hl)
theorem mg_get (C : mwC X cc nL own D cI cS rm) {ref C : String} {T : u_T} {N ci idx a : Nat} {fs : List Value} (hin : ∀ q ∈ u_ws C T N, q ∈ TT) (he : w a = some (.inr (ci, fs))) (hc : vwCl[ci]? = some (C, T, N)) (k : Nat) (hk : k < N) (hlink : Cond.fieldLink own idx ref (T k).2.1 (T k).2.2.1 ∈ TT) (hsame : (T k).1 = ref ∨ Cond.sameField ref (T k).1 (T k).2.1 (T k).2.2.1 ∈ TT) {v : Value} (hv : fs[k]? = some v) (hd : decode cc pc = .ok (.getfield idx, 3)) (kk : mwG X cells slots w lv (v :: st) (pc + 3)) : mwG X cells slots w lv (.ref a :: st) pc := by
  obtain ⟨p, l, e, R, s, m, args, below, meth, c, D', A, Q, n⟩ := X
  obtain ⟨⟨hx, hb, hml, hown, hts⟩, hK, hA, rfl, rfl, rfl⟩ := C
  intro H locs ls hP hI hS hl
  refine va_get (ci := ci) (C := C) (T := T) (N := N) hx hb hts hin hown hK.1 (hP.one he) 0 rfl hc k hk (hts _ hlink) (fun y h9 => ?_) hv hd (kk H locs ls hP hI hS hl)
  rcases hsame with e1 | e1
  · rw [← e1]; exact h9
  · exact u_same (hts _ e1) y h9
theorem mg_put (C : mwC X cc nL own D cI cS rm) {ref C : String} {T : u_T} {N ci idx a : Nat} {fs : List Value} (hin : ∀ q ∈ u_ws C T N, q ∈ TT) (he : w a = some (.inr (ci, fs))) (hc : vwCl[ci]? = some (C, T, N)) (k : Nat) (hk : k < N) (hlink : Cond.fieldLink own idx ref (T k).2.1 (T k).2.2.1 ∈ TT) (hsame : (T k).1 = ref ∨ Cond.sameField ref (T k).1 (T k).2.1 (T k).2.2.1 ∈ TT) {ty0 : Nat → FieldType} (hty : ∀ k, k < N → parseFieldDescriptor (T k).2.2.1 = some (ty0 k)) (hnm : ∀ a, a < N → ∀ b, b < N → a ≠ b → (T a).2.1 ≠ (T b).2.1) (hfin : (T k).2.2.2 = false) {v : Value} (hn : narrow (ty0 k) v = v) (hfit : fits (ty0 k) v = true) {fs' : List Value} (hfs : fs.set k v = fs') (hl0 : k < fs.length) (hd : decode cc pc = .ok (.putfield idx, 3)) (kk : ∀ w1 : mwT, w1 = mwu w a (.inr (ci, fs')) → mwG X cells slots w1 lv st (pc + 3)) : mwG X cells slots w lv (v :: .ref a :: st) pc := by
  obtain ⟨p, l, e, R, s, m, args, below, meth, c, D', A, Q, n⟩ := X
  obtain ⟨⟨hx, hb, hml, hown, hts⟩, hK, hA, rfl, rfl, rfl⟩ := C
  intro H locs ls hP hI hS hl
  subst hfs
  have hap := va_apart (own := own) hts hin ty0 hty hnm hK.1 hc
  obtain ⟨r, h1, cell, q1, q2, q3, q4⟩ := hP a _ he
  have hr : r = (C, T, N) := Option.some.inj (h1.symm.trans hc)
  subst hr
  obtain ⟨hSl, hfc, kC, hkC, hkind⟩ := hK.1.1 ci _ hc
  obtain ⟨cf, kf, fi, f, hi, hsl⟩ := hSl k hk
  have hlay := hts _ (hin _ (u_in_lay hk))
  unfold u_lay at hlay
  rw [if_neg (by rw [hfin]; decide)] at hlay
  have hst := (u_facts hfc hkC (u_lays hts hin hk) hi).1
  have h6 := u_store hfc hkC hkind hlay hi (hty k hk) hn hfit
  have hsm : s.fieldFound? ref (T k).2.1 (T k).2.2.1 = some (cf, kf, fi, f) := by
    rcases hsame with e1 | e1
    · rw [← e1]; exact hi
    · exact u_same (hts _ e1) _ hi
  refine W.putK hx hb (f := f) ⟨hown, hts _ hlink, ⟨_, _, _, hsm⟩, hst⟩ (by rw [q2]; exact h6) q1 q3 (by rw [hsl]; exact k2_hasslot (q4 k hk)) rfl rfl hd fun H1 e1 e2 e3 => ?_
  rw [hsl] at e1 ⊢
  exact kk _ rfl H1 _ ls (hP.set ⟨_, hc, t_OB.to (V := updV (vp_V fs) k v) ⟨_, e1, q2, q3, t_set q4 hap hk v⟩ (fun j _ => vp_updV_set hl0 v j)⟩ e3) (hI.set (hI a _ he)) (hS.put e2 e3 (hI a _ he)) hl
theorem mg_putF (C : mwC X cc nL own D cI cS rm) {ref C : String} {T : u_T} {N ci idx a : Nat} {fs : List Value} (hin : ∀ q ∈ u_ws C T N, q ∈ TT) (he : w a = some (.inr (ci, fs))) (hc : vwCl[ci]? = some (C, T, N)) (k : Nat) (hk : k < N) (hlink : Cond.fieldLink own idx ref (T k).2.1 (T k).2.2.1 ∈ TT) (hsame : (T k).1 = ref ∨ Cond.sameField ref (T k).1 (T k).2.1 (T k).2.2.1 ∈ TT) {ty0 : Nat → FieldType} (hty : ∀ k, k < N → parseFieldDescriptor (T k).2.2.1 = some (ty0 k)) (hnm : ∀ a, a < N → ∀ b, b < N → a ≠ b → (T a).2.1 ≠ (T b).2.1) (hfin : (T k).2.2.2 = true) (hN : mwN X "<init>") (hdecl : (T k).1 = own) {v : Value} (hn : narrow (ty0 k) v = v) (hfit : fits (ty0 k) v = true) {fs' : List Value} (hfs : fs.set k v = fs') (hl0 : k < fs.length) (hd : decode cc pc = .ok (.putfield idx, 3)) (kk : ∀ w1 : mwT, w1 = mwu w a (.inr (ci, fs')) → mwG X cells slots w1 lv st (pc + 3)) : mwG X cells slots w lv (v :: .ref a :: st) pc := by
  obtain ⟨p, l, e, R, s, m, args, below, meth, c, D', A, Q, n⟩ := X
  obtain ⟨⟨hx, hb, hml, hown, hts⟩, hK, hA, rfl, rfl, rfl⟩ := C
  intro H locs ls hP hI hS hl
  subst hfs
  have hap := va_apart (own := own) hts hin ty0 hty hnm hK.1 hc
  obtain ⟨r, h1, cell, q1, q2, q3, q4⟩ := hP a _ he
  have hr : r = (C, T, N) := Option.some.inj (h1.symm.trans hc)
  subst hr
  obtain ⟨hSl, hfc, kC, hkC, hkind⟩ := hK.1.1 ci _ hc
  obtain ⟨cf, kf, fi, f, hi, hsl⟩ := hSl k hk
  have hlay := hts _ (hin _ (u_in_lay hk))
  unfold u_lay at hlay
  rw [if_pos hfin] at hlay
  have hst := (u_facts hfc hkC (u_lays hts hin hk) hi).1
  have hcf : m.cls = cf := by
    obtain ⟨_, _, c', _, _, _, -, -, hf', -, -, -, hown2, -⟩ := Cond.laysFinal_spec hlay
    have e1 : c' = cf := by have := hi.symm.trans hf'; simp at this; exact this.1.symm
    rw [hdecl] at hown2
    rw [← e1]; exact Option.some.inj (hown.symm.trans hown2)
  have h6 := u_fits hfc hkC hkind (Or.inr hlay) hi (hty k hk) hn hfit
  have hsm : s.fieldFound? ref (T k).2.1 (T k).2.2.1 = some (cf, kf, fi, f) := by
    rcases hsame with e1 | e1
    · rw [← e1]; exact hi
    · exact u_same (hts _ e1) _ hi
  refine W.putFinK hx hb hown (hts _ hlink) hsm hst hcf hN (by rw [q2]; exact h6) q1 q3 (by rw [hsl]; exact k2_hasslot (q4 k hk)) rfl rfl hd fun H1 e1 e2 e3 => ?_
  rw [hsl] at e1 ⊢
  exact kk _ rfl H1 _ ls (hP.set ⟨_, hc, t_OB.to (V := updV (vp_V fs) k v) ⟨_, e1, q2, q3, t_set q4 hap hk v⟩ (fun j _ => vp_updV_set hl0 v j)⟩ e3) (hI.set (hI a _ he)) (hS.put e2 e3 (hI a _ he)) hl
theorem mg_iald (C : mwC X cc nL own D cI cS rm) {a k : Nat} {f : Nat → Int32} {i : Int32} (he : w a = some (eI cI k f)) (hin : vp_in i k) (hd : decode cc pc = .ok (.iaload, 1)) (kk : mwG X cells slots w lv (.int (f i.toNatClampNeg) :: st) (pc + 1)) : mwG X cells slots w lv (.int i :: .ref a :: st) pc := by
  obtain ⟨p, l, e, R, s, m, args, below, meth, c, D', A, Q, n⟩ := X
  obtain ⟨⟨hx, hb, hml, hown, hts⟩, hK, hA, rfl, rfl, rfl⟩ := C
  intro H locs ls hP hI hS hl
  exact va_iald hx hb hK.1 (hP.one he) 0 0 rfl rfl hin hd (kk H locs ls hP hI hS hl)
theorem mg_alen (C : mwC X cc nL own D cI cS rm) {a k : Nat} {f : Nat → Int32} (he : w a = some (eI cI k f)) (hd : decode cc pc = .ok (.arraylength, 1)) (kk : mwG X cells slots w lv (.int (nI k) :: st) (pc + 1)) : mwG X cells slots w lv (.ref a :: st) pc := by
  obtain ⟨p, l, e, R, s, m, args, below, meth, c, D', A, Q, n⟩ := X
  obtain ⟨⟨hx, hb, hml, hown, hts⟩, hK, hA, rfl, rfl, rfl⟩ := C
  intro H locs ls hP hI hS hl
  exact va_alen hx hb hK.1 (hP.one he) 0 0 rfl rfl rfl hd (kk H locs ls hP hI hS hl)
theorem mg_alenR (C : mwC X cc nL own D cI cS rm) {a k : Nat} {f : Nat → Option Nat} (he : w a = some (eR cS k f)) (hd : decode cc pc = .ok (.arraylength, 1)) (kk : mwG X cells slots w lv (.int (nI k) :: st) (pc + 1)) : mwG X cells slots w lv (.ref a :: st) pc := by
  obtain ⟨p, l, e, R, s, m, args, below, meth, c, D', A, Q, n⟩ := X
  obtain ⟨⟨hx, hb, hml, hown, hts⟩, hK, hA, rfl, rfl, rfl⟩ := C
  intro H locs ls hP hI hS hl
  exact va_alen hx hb hK.1 (hP.one he) 0 1 rfl rfl rfl hd (kk H locs ls hP hI hS hl)
theorem mg_aald (C : mwC X cc nL own D cI cS rm) {a k : Nat} {f : Nat → Option Nat} {i : Int32} (he : w a = some (eR cS k f)) (hin : vp_in i k) (hd : decode cc pc = .ok (.aaload, 1)) (kk : mwG X cells slots w lv (va_rf (f i.toNatClampNeg) :: st) (pc + 1)) : mwG X cells slots w lv (.int i :: .ref a :: st) pc := by
  obtain ⟨p, l, e, R, s, m, args, below, meth, c, D', A, Q, n⟩ := X
  obtain ⟨⟨hx, hb, hml, hown, hts⟩, hK, hA, rfl, rfl, rfl⟩ := C
  intro H locs ls hP hI hS hl
  exact va_aldq hx hb hK.1 (hP.one he) 0 1 rfl rfl hin hd (kk H locs ls hP hI hS hl)
theorem mg_iast (C : mwC X cc nL own D cI cS rm) {a k : Nat} {f : Nat → Int32} {i x : Int32} (he : w a = some (eI cI k f)) (hin : vp_in i k) (hd : decode cc pc = .ok (.iastore, 1)) (kk : ∀ w1 : mwT, w1 = mwu w a (eI cI k (upd f i.toNatClampNeg x)) → mwG X cells slots w1 lv st (pc + 1)) : mwG X cells slots w lv (.int x :: .int i :: .ref a :: st) pc := by
  obtain ⟨p, l, e, R, s, m, args, below, meth, c, D', A, Q, n⟩ := X
  obtain ⟨⟨hx, hb, hml, hown, hts⟩, hK, hA, rfl, rfl, rfl⟩ := C
  intro H locs ls hP hI hS hl
  refine W.iast hx hb (hP a _ he) ((hK.1.2 0 _ rfl).1 k (fun j => .int (f j))) (fun q => by cases q) (by show ¬ (i < 0 ∨ (arrV _ _ _).slots.size ≤ _); rw [arrV_size]; exact hin) rfl rfl hd fun H1 e1 z oq => ?_
  refine kk _ rfl H1 _ ls (hP.set ?_ oq) (hI.set (hI a _ he)) (hS.put z oq (hI a _ he)) hl
  show H1[a]? = some (vp_cell _ _)
  rw [e1]
  rw [vp_cell_i, vp_cell_i, arrV_store]
  congr 2
  funext q
  by_cases hq : q = i.toNatClampNeg
  · subst hq
    simp [updV, upd]
  · simp [updV, upd, hq]
end MWR
