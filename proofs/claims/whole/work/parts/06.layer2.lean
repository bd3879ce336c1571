theorem kO_inst : Cond.instanceMethod objectInit ∈ TT := kw_10
theorem kO_code : Cond.code objectInit ⟨#[0xb1]⟩ 1 none ∈ TT := kw_11
theorem tt_call {y : MethodName} {b : ByteArray} {k : Nat} {r : Option FieldType} (h : Cond.code y b k r ∈ TT) : GoodIn TT (Cond.code y b k r :: TT) := by
  intro w hw
  rcases List.mem_cons.mp hw with rfl | hw
  · exact ⟨h, (tt_good _ h).2⟩
  · exact ⟨hw, (tt_good _ hw).2⟩
def mwY (y : MethodName) (cc : ByteArray) (n : Nat) (ret : Option FieldType) (np : Nat) : Prop := Cond.code y cc n ret ∈ TT ∧ Cond.initialized y.cls ∈ TT ∧ (y.cls ≠ "java/lang/invoke/MethodHandle" ∧ y.cls ≠ "java/lang/invoke/VarHandle" ∧ (parseMethodDescriptor y.desc).map (fun d => d.parameters.length) = some np)
theorem ni_inc (i : Nat) : nI i + Int32.ofInt 1 = nI (i + 1) := by rw [show Int32.ofInt 1 = 1 from by decide]; exact nI_1 i
theorem ni_inc2 (i : Nat) : nI i + Int32.ofInt 2 = nI (i + 2) := by rw [show Int32.ofInt 2 = nI 2 from by decide]; exact nI_add i 2
theorem ni_dec {i : Nat} (h : 0 < i) : nI i + Int32.ofInt (-1) = nI (i - 1) := by rw [show Int32.ofInt (-1) = -1 from by decide]; exact sb_m1 h
theorem ni_sub {a b : Nat} (h : b ≤ a) : nI a - nI b = nI (a - b) := pk_sub h
section MWR2
variable {X : mwX} {cc : ByteArray} {nL : Nat} {own : String} {D : va_G} {cI cS : ClassId} {rm : Room} {cells slots : Nat} {w : mwT} {lv : List (Nat × Value)} {st : List Value} {pc : Nat}
theorem mg_icmpN_eq (C : mwC X cc nL own D cI cS rm) {a b : Nat} {off : Int} {tgt : Nat} (hd : decode cc pc = .ok (.if_icmp .eq off, 3)) (ht : (pc : Int) + off = (tgt : Int)) (ha : a < 2147483648) (hb : b < 2147483648) (kt : a = b → mwG X cells slots w lv st tgt) (kf : a ≠ b → mwG X cells slots w lv st (pc + 3)) : mwG X cells slots w lv (.int (nI b) :: .int (nI a) :: st) pc := by
  exact mg_icmp_eq C hd ht (fun h => kt ((nI_eq ha hb).mp h)) (fun h => kf (fun e => h ((nI_eq ha hb).mpr e)))
theorem mg_icmpN_ne (C : mwC X cc nL own D cI cS rm) {a b : Nat} {off : Int} {tgt : Nat} (hd : decode cc pc = .ok (.if_icmp .ne off, 3)) (ht : (pc : Int) + off = (tgt : Int)) (ha : a < 2147483648) (hb : b < 2147483648) (kt : a ≠ b → mwG X cells slots w lv st tgt) (kf : a = b → mwG X cells slots w lv st (pc + 3)) : mwG X cells slots w lv (.int (nI b) :: .int (nI a) :: st) pc := by
  exact mg_icmp_ne C hd ht (fun h => kt (fun e => h ((nI_eq ha hb).mpr e))) (fun h => kf ((nI_eq ha hb).mp h))
theorem mg_icmpN_lt (C : mwC X cc nL own D cI cS rm) {a b : Nat} {off : Int} {tgt : Nat} (hd : decode cc pc = .ok (.if_icmp .lt off, 3)) (ht : (pc : Int) + off = (tgt : Int)) (ha : a < 2147483648) (hb : b < 2147483648) (kt : a < b → mwG X cells slots w lv st tgt) (kf : b ≤ a → mwG X cells slots w lv st (pc + 3)) : mwG X cells slots w lv (.int (nI b) :: .int (nI a) :: st) pc := by
  exact mg_icmp_lt C hd ht (fun h => kt ((nI_ltI ha hb).mp h)) (fun h => kf (Nat.not_lt.mp fun e => h ((nI_ltI ha hb).mpr e)))
theorem mg_icmpN_ge (C : mwC X cc nL own D cI cS rm) {a b : Nat} {off : Int} {tgt : Nat} (hd : decode cc pc = .ok (.if_icmp .ge off, 3)) (ht : (pc : Int) + off = (tgt : Int)) (ha : a < 2147483648) (hb : b < 2147483648) (kt : b ≤ a → mwG X cells slots w lv st tgt) (kf : a < b → mwG X cells slots w lv st (pc + 3)) : mwG X cells slots w lv (.int (nI b) :: .int (nI a) :: st) pc := by
  exact mg_icmp_ge C hd ht (fun h => kt ((nI_leI hb ha).mp h)) (fun h => kf (Nat.not_le.mp fun e => h ((nI_leI hb ha).mpr e)))
theorem mg_icmpN_gt (C : mwC X cc nL own D cI cS rm) {a b : Nat} {off : Int} {tgt : Nat} (hd : decode cc pc = .ok (.if_icmp .gt off, 3)) (ht : (pc : Int) + off = (tgt : Int)) (ha : a < 2147483648) (hb : b < 2147483648) (kt : b < a → mwG X cells slots w lv st tgt) (kf : a ≤ b → mwG X cells slots w lv st (pc + 3)) : mwG X cells slots w lv (.int (nI b) :: .int (nI a) :: st) pc := by
  exact mg_icmp_gt C hd ht (fun h => kt ((nI_ltI hb ha).mp h)) (fun h => kf (Nat.not_lt.mp fun e => h ((nI_ltI hb ha).mpr e)))
theorem mg_icmpN_le (C : mwC X cc nL own D cI cS rm) {a b : Nat} {off : Int} {tgt : Nat} (hd : decode cc pc = .ok (.if_icmp .le off, 3)) (ht : (pc : Int) + off = (tgt : Int)) (ha : a < 2147483648) (hb : b < 2147483648) (kt : a ≤ b → mwG X cells slots w lv st tgt) (kf : b < a → mwG X cells slots w lv st (pc + 3)) : mwG X cells slots w lv (.int (nI b) :: .int (nI a) :: st) pc := by
  exact mg_icmp_le C hd ht (fun h => kt ((nI_leI ha hb).mp h)) (fun h => kf (Nat.not_le.mp fun e => h ((nI_leI ha hb).mpr e)))
theorem mg_ifN_eq (C : mwC X cc nL own D cI cS rm) {a : Nat} {off : Int} {tgt : Nat} (hd : decode cc pc = .ok (.ifCond .eq off, 3)) (ht : (pc : Int) + off = (tgt : Int)) (ha : a < 2147483648) (kt : a = 0 → mwG X cells slots w lv st tgt) (kf : 0 < a → mwG X cells slots w lv st (pc + 3)) : mwG X cells slots w lv (.int (nI a) :: st) pc := by
  exact mg_if_eq C hd ht (fun h => kt ((nI_eq ha (by decide)).mp (by rw [nI_0]; exact h))) (fun h => kf (Nat.pos_of_ne_zero fun e => h (by rw [e, nI_0])))
theorem mg_ifN_ne (C : mwC X cc nL own D cI cS rm) {a : Nat} {off : Int} {tgt : Nat} (hd : decode cc pc = .ok (.ifCond .ne off, 3)) (ht : (pc : Int) + off = (tgt : Int)) (ha : a < 2147483648) (kt : 0 < a → mwG X cells slots w lv st tgt) (kf : a = 0 → mwG X cells slots w lv st (pc + 3)) : mwG X cells slots w lv (.int (nI a) :: st) pc := by
  exact mg_if_ne C hd ht (fun h => kt (Nat.pos_of_ne_zero fun e => h (by rw [e, nI_0]))) (fun h => kf ((nI_eq ha (by decide)).mp (by rw [nI_0]; exact h)))
theorem mg_ifN_gt (C : mwC X cc nL own D cI cS rm) {a : Nat} {off : Int} {tgt : Nat} (hd : decode cc pc = .ok (.ifCond .gt off, 3)) (ht : (pc : Int) + off = (tgt : Int)) (ha : a < 2147483648) (kt : 0 < a → mwG X cells slots w lv st tgt) (kf : a = 0 → mwG X cells slots w lv st (pc + 3)) : mwG X cells slots w lv (.int (nI a) :: st) pc := by
  exact mg_if_gt C hd ht (fun h => kt (Nat.pos_of_ne_zero fun e => by rw [e, nI_0] at h; exact absurd h (by decide))) (fun h => kf (Nat.eq_zero_of_not_pos fun e => h (by rw [← nI_0]; exact nI_lt e ha)))
theorem mg_ifN_le (C : mwC X cc nL own D cI cS rm) {a : Nat} {off : Int} {tgt : Nat} (hd : decode cc pc = .ok (.ifCond .le off, 3)) (ht : (pc : Int) + off = (tgt : Int)) (ha : a < 2147483648) (kt : a = 0 → mwG X cells slots w lv st tgt) (kf : 0 < a → mwG X cells slots w lv st (pc + 3)) : mwG X cells slots w lv (.int (nI a) :: st) pc := by
  exact mg_if_le C hd ht (fun h => kt (Nat.eq_zero_of_not_pos fun e => nI_nle e ha h)) (fun h => kf (Nat.pos_of_ne_zero fun e => h (by rw [e, nI_0]; decide)))
theorem mg_ifN_lt (C : mwC X cc nL own D cI cS rm) {a : Nat} {off : Int} {tgt : Nat} (hd : decode cc pc = .ok (.ifCond .lt off, 3)) (ht : (pc : Int) + off = (tgt : Int)) (ha : a < 2147483648) (kf : mwG X cells slots w lv st (pc + 3)) : mwG X cells slots w lv (.int (nI a) :: st) pc := by
  exact mg_if_lt C hd ht (fun h => absurd h (nI_pos ha)) (fun _ => kf)
theorem mg_ifN_ge (C : mwC X cc nL own D cI cS rm) {a : Nat} {off : Int} {tgt : Nat} (hd : decode cc pc = .ok (.ifCond .ge off, 3)) (ht : (pc : Int) + off = (tgt : Int)) (ha : a < 2147483648) (kt : mwG X cells slots w lv st tgt) : mwG X cells slots w lv (.int (nI a) :: st) pc := by
  exact mg_if_ge C hd ht (fun _ => kt) (fun h => absurd (nI_pos' ha) h)
theorem mg_ialdN (C : mwC X cc nL own D cI cS rm) {a k i : Nat} {f : Nat → Int32} (he : w a = some (eI cI k f)) (hi : i < k) (hk : k < 2147483648) (hd : decode cc pc = .ok (.iaload, 1)) (kk : mwG X cells slots w lv (.int (f i) :: st) (pc + 1)) : mwG X cells slots w lv (.int (nI i) :: .ref a :: st) pc := by
  exact mg_iald C he (vp_in_nI hi hk) hd (by rw [nI_clamp (Nat.lt_trans hi hk)]; exact kk)
theorem mg_aaldN (C : mwC X cc nL own D cI cS rm) {a k i : Nat} {f : Nat → Option Nat} (he : w a = some (eR cS k f)) (hi : i < k) (hk : k < 2147483648) (hd : decode cc pc = .ok (.aaload, 1)) (kk : mwG X cells slots w lv (va_rf (f i) :: st) (pc + 1)) : mwG X cells slots w lv (.int (nI i) :: .ref a :: st) pc := by
  exact mg_aald C he (vp_in_nI hi hk) hd (by rw [nI_clamp (Nat.lt_trans hi hk)]; exact kk)
theorem mg_iastN (C : mwC X cc nL own D cI cS rm) {a k i : Nat} {f : Nat → Int32} {x : Int32} (he : w a = some (eI cI k f)) (hi : i < k) (hk : k < 2147483648) (hd : decode cc pc = .ok (.iastore, 1)) (kk : ∀ w1 : mwT, w1 = mwu w a (eI cI k (upd f i x)) → mwG X cells slots w1 lv st (pc + 1)) : mwG X cells slots w lv (.int x :: .int (nI i) :: .ref a :: st) pc := by
  exact mg_iast C he (vp_in_nI hi hk) hd (by rw [nI_clamp (Nat.lt_trans hi hk)]; exact kk)
theorem mg_new (C : mwC X cc nL own D cI cS rm) {K : String} {T : u_T} {N ci idx : Nat} (hin : ∀ q ∈ u_ws K T N, q ∈ TT) {ty : Nat → FieldType} (hty : ∀ k, k < N → parseFieldDescriptor (T k).2.2.1 = some (ty k)) (hcl : Cond.classLink own idx K ∈ TT) (hinst : Cond.instantiable K N ∈ TT) (hini : Cond.initialized K ∈ TT) (hc : vwCl[ci]? = some (K, T, N)) {fs : List Value} (hfs : ∀ j, j < N → defaultValue (ty j) = vp_V fs j) (hcs : cells + 1 ≤ rm.cells ∧ slots + N ≤ rm.slots) (hd : decode cc pc = .ok (.new idx, 3)) (kk : ∀ (q : Nat) (w1 : mwT), w q = none → w1 = mwu w q (.inr (ci, fs)) → mwG X (cells + 1) (slots + N) w1 lv (.ref q :: st) (pc + 3)) : mwG X cells slots w lv st pc := by
  obtain ⟨p, l, e, R, s, m, args, below, meth, c, D', A, Q, n⟩ := X
  obtain ⟨⟨hx, hb, hml, hown, hts⟩, hK, hA, rfl, rfl, rfl⟩ := C
  intro H locs ls hP hI hS hl
  have hKn := hK.1.1 ci _ hc
  refine W.newcK hx hb hown (hts _ hcl) (hts _ hinst) (hts _ hini) rfl hd hcs.1 hcs.2 hKn.2.1 rfl fun H1 kC hkC e1 z1 o1 => ?_
  refine kk H.size _ hP.fresh rfl H1 locs ls (hP.push ⟨_, hc, (u_born ty hts hin hKn hkC e1 hty).to hfs⟩ o1) (hI.set (hA _ hS.1)) ⟨Nat.le_trans hS.1 (by omega), fun x h1 h2 => (o1 x (Nat.lt_of_lt_of_le h1 hS.1)).trans (hS.2.1 x h1 h2), hS.2.2⟩ hl
theorem mg_newa (C : mwC X cc nL own D cI cS rm) {k : Nat} (harr : Cond.arrayClass .int ∈ TT) (hk : k < 100000) (hcs : cells + 1 ≤ rm.cells ∧ slots + k ≤ rm.slots) (hd : decode cc pc = .ok (.newarray .int, 2)) (kk : ∀ (q : Nat) (w1 : mwT), w q = none → w1 = mwu w q (eI cI k (fun _ => 0)) → mwG X (cells + 1) (slots + k) w1 lv (.ref q :: st) (pc + 2)) : mwG X cells slots w lv (.int (nI k) :: st) pc := by
  obtain ⟨p, l, e, R, s, m, args, below, meth, c, D', A, Q, n⟩ := X
  obtain ⟨⟨hx, hb, hml, hown, hts⟩, hK, hA, rfl, rfl, rfl⟩ := C
  intro H locs ls hP hI hS hl
  refine va_newaK (atype := .int) hx hb (hts _ harr) rfl hd rfl (nI_pos (by omega)) (nI_clamp (by omega)) (by show k * 4 ≤ 536870912; omega) hcs.1 hcs.2 rfl fun H1 cA e1 z1 o1 hAr hNm => ?_
  have hcA : cA = cI := Option.some.inj (hNm.symm.trans (hK.1.2 0 _ rfl).2)
  subst hcA
  exact kk H.size _ hP.fresh rfl H1 locs ls (hP.push (by show H1[H.size]? = some (vp_cell _ _); rw [e1]; rfl) o1) (hI.set (hA _ hS.1)) ⟨Nat.le_trans hS.1 (by omega), fun x h1 h2 => (o1 x (Nat.lt_of_lt_of_le h1 hS.1)).trans (hS.2.1 x h1 h2), hS.2.2⟩ hl
theorem mg_newq (C : mwC X cc nL own D cI cS rm) {k idx : Nat} (hcl : Cond.classLink own idx "SketchSpans$Sketch" ∈ TT) (hk : k < 100000) (hcs : cells + 1 ≤ rm.cells ∧ slots + k ≤ rm.slots) (hd : decode cc pc = .ok (.anewarray idx, 3)) (kk : ∀ (q : Nat) (w1 : mwT), w q = none → w1 = mwu w q (eR cS k (fun _ => none)) → mwG X (cells + 1) (slots + k) w1 lv (.ref q :: st) (pc + 3)) : mwG X cells slots w lv (.int (nI k) :: st) pc := by
  obtain ⟨p, l, e, R, s, m, args, below, meth, c, D', A, Q, n⟩ := X
  obtain ⟨⟨hx, hb, hml, hown, hts⟩, hK, hA, rfl, rfl, rfl⟩ := C
  intro H locs ls hP hI hS hl
  refine W.anew hx hb hown (hts _ hcl) (va_AO.use hK.2.2) rfl hd rfl (nI_pos (by omega)) (by rw [nI_clamp (by omega)]; omega) hcs.1 (by rw [nI_clamp (by omega)]; exact hcs.2) fun cA kA comp f1 f2 f3 f4 => ?_
  rw [nI_clamp (by omega)]
  obtain ⟨kA', comp', g1, g2, g3, g4⟩ := (hK.1.2 1 _ rfl).2
  have hcA : cA = cS := Option.some.inj (f1.symm.trans g4)
  subst hcA
  generalize hH1 : H.push ({ cls := cA, slots := Array.replicate k .null, vm := .none } : Cell) = H1
  have z1 : H1.size = H.size + 1 := by rw [← hH1, Array.size_push]
  have e1 : H1[H.size]? = some (arrV cA k (fun _ => .null)) := by rw [← hH1, Array.getElem?_push_size, ← arrV_new]
  have o1 : ∀ q : Nat, q < H.size → H1[q]? = H[q]? := fun q hq => by rw [← hH1, Array.getElem?_push, if_neg (Nat.ne_of_lt hq)]
  exact kk H.size _ hP.fresh rfl H1 locs ls (hP.push (by show H1[H.size]? = some (vp_cell _ _); rw [vp_cell_q]; exact e1) o1) (hI.set (hA _ hS.1)) ⟨Nat.le_trans hS.1 (by omega), fun x h1 h2 => (o1 x (Nat.lt_of_lt_of_le h1 hS.1)).trans (hS.2.1 x h1 h2), hS.2.2⟩ hl
theorem mg_aast (C : mwC X cc nL own D cI cS rm) {a k i v ci : Nat} {r : vw_C} {vs : List Value} {f : Nat → Option Nat} (he : w a = some (eR cS k f)) (hv : w v = some (.inr (ci, vs))) (hc : vwCl[ci]? = some r) (hca : Cond.castable r.1 "SketchSpans$Sketch" ∈ NT) (hi : i < k) (hk : k < 2147483648) (hd : decode cc pc = .ok (.aastore, 1)) (kk : ∀ w1 : mwT, w1 = mwu w a (eR cS k (va_up f i (some v))) → mwG X cells slots w1 lv st (pc + 1)) : mwG X cells slots w lv (.ref v :: .int (nI i) :: .ref a :: st) pc := by
  obtain ⟨p, l, e, R, s, m, args, below, meth, c, D', A, Q, n⟩ := X
  obtain ⟨⟨hx, hb, hml, hown, hts⟩, hK, hA, rfl, rfl, rfl⟩ := C
  intro H locs ls hP hI hS hl
  obtain ⟨r', hr', cellV, g1, g2, g3, -⟩ := hP v _ hv
  have hcls := (hK.1.1 ci r hc).2
  obtain ⟨kA, comp, k1, k2, k3, -⟩ := (hK.1.2 1 _ rfl).2
  obtain ⟨kE, hkE, -⟩ := Vm.findClass_spec k3
  obtain ⟨c0, t1, f1, f2, f3⟩ := Cond.castable_spec (va_Nw.use (A := args) rfl (hK.2.1 _ hca))
  cases hcls.1.symm.trans f1
  cases k3.symm.trans f2
  obtain ⟨kC, hkC, -⟩ := hcls.2
  have hcl0 := nI_clamp (Nat.lt_trans hi hk)
  refine W.aast hx hb (hP a _ he) (fun q h => by cases h) (fun h => by cases h) k1 k2 rfl hkE ⟨nI_pos (Nat.lt_trans hi hk), by show _ < (arrV _ _ _).slots.size; rw [arrV_size, hcl0]; exact hi⟩ g1 (fun q h => by rw [g3] at h; cases h) (by rw [g2]; exact hkC) (by rw [g2]; exact f3) rfl rfl hd fun H1 e1 z oq => ?_
  refine kk _ rfl H1 _ ls (hP.set ?_ oq) (hI.set (hI a _ he)) (hS.put z oq (hI a _ he)) hl
  show H1[a]? = some (vp_cell _ _)
  rw [e1, hcl0]
  rw [vp_cell_q, vp_cell_q, arrV_store]
  congr 2
  funext q
  by_cases hq : q = i
  · subst hq
    simp [updV, va_up, va_rf]
  · simp [updV, va_up, hq]
theorem mg_inst (C : mwC X cc nL own D cI cS rm) {a ci idx : Nat} {r : vw_C} {vs : List Value} (he : w a = some (.inr (ci, vs))) (hc : vwCl[ci]? = some r) (hcl : Cond.classLink own idx r.1 ∈ TT) (hd : decode cc pc = .ok (.instanceof idx, 3)) (kk : mwG X cells slots w lv (.int (nI 1) :: st) (pc + 3)) : mwG X cells slots w lv (.ref a :: st) pc := by
  obtain ⟨p, l, e, R, s, m, args, below, meth, c, D', A, Q, n⟩ := X
  obtain ⟨⟨hx, hb, hml, hown, hts⟩, hK, hA, rfl, rfl, rfl⟩ := C
  intro H locs ls hP hI hS hl
  exact va_instS hx hb hown (hts _ hcl) (hK.1.1 ci r hc).2 (va_recv hK.1 (hP.one he) hc (q0 := 0) rfl) hd (kk H locs ls hP hI hS hl)
theorem mg_cast (C : mwC X cc nL own D cI cS rm) {a ci idx : Nat} {r : vw_C} {vs : List Value} (he : w a = some (.inr (ci, vs))) (hc : vwCl[ci]? = some r) (hcl : Cond.classLink own idx r.1 ∈ TT) (hd : decode cc pc = .ok (.checkcast idx, 3)) (kk : mwG X cells slots w lv (.ref a :: st) (pc + 3)) : mwG X cells slots w lv (.ref a :: st) pc := by
  obtain ⟨p, l, e, R, s, m, args, below, meth, c, D', A, Q, n⟩ := X
  obtain ⟨⟨hx, hb, hml, hown, hts⟩, hK, hA, rfl, rfl, rfl⟩ := C
  intro H locs ls hP hI hS hl
  exact va_castS hx hb hown (hts _ hcl) (hK.1.1 ci r hc).2 (va_recv hK.1 (hP.one he) hc (q0 := 0) rfl) hd (kk H locs ls hP hI hS hl)
theorem mg_objInit (C : mwC X cc nL own D cI cS rm) {a idx : Nat} (hlk : Cond.methodLink own idx objectInit ∈ TT) (hR : 1 ≤ rm.frames ∧ (st.map fun v => v.category).sum + 12 ≤ rm.locals) (hd : decode cc pc = .ok (.invokespecial idx, 3)) (kk : mwG X cells slots w lv st (pc + 3)) : mwG X cells slots w lv (.ref a :: st) pc := by
  obtain ⟨p, l, e, R, s, m, args, below, meth, c, D', A, Q, n⟩ := X
  obtain ⟨⟨hx, hb, hml, hown, hts⟩, hK, hA, rfl, rfl, rfl⟩ := C
  intro H locs ls hP hI hS hl
  exact W.objInit hx hb hown (hts _ hlk) (hts _ kO_inst) (hts _ kO_code) rfl (by rw [hml]; exact hl.1) rfl hd hR.1 (by show 2 * 0 + _ + 12 ≤ _; omega) (kk H locs ls hP hI hS hl)
theorem mg_callS_i (C : mwC X cc nL own D cI cS rm) {y : MethodName} {cc' : ByteArray} {n' np : Nat} {ret : Option FieldType} {rm' : Room} {av : List Value} {post : Int32 → mwT → Prop} {idx : Nat} {rest : List Value} (M : mMi y cc' n' ret rm' av D cI cS w post) (hY : mwY y cc' n' ret np) (hlk : Cond.methodLink own idx y ∈ TT) (hsm : Cond.static y ∈ TT) (hR : rm'.frames + 1 ≤ rm.frames ∧ 8 + (n' + 11) + rm'.locals ≤ rm.locals) (hcs : cells + rm'.cells ≤ rm.cells ∧ slots + rm'.slots ≤ rm.slots) (hrest : (rest.map fun v => v.category).sum ≤ 8) (hnp : av.length = np) (hst : st = av.reverse ++ rest) (hd : decode cc pc = .ok (.invokestatic idx, 3)) (kk : ∀ (r : Int32) (w1 : mwT), post r w1 → mwG X (cells + rm'.cells) (slots + rm'.slots) w1 lv (.int r :: rest) (pc + 3)) : mwG X cells slots w lv st pc := by
  obtain ⟨p, l, e, R, s, m, args, below, meth, c, D', A, Q, n⟩ := X
  obtain ⟨⟨hx, hb, hml, hown, hts⟩, hK, hA, rfl, rfl, rfl⟩ := C
  intro H locs ls hP hI hS hl
  subst hst
  have hF : ∀ q, mwA w H.size q → A q := fun q h => h.elim (fun ⟨x, hx0⟩ => hI q x hx0) (fun h => hA q (Nat.le_trans hS.1 h))
  have hG := tt_call hY.1
  refine va_calli (va_runS (As := av) (rest := rest) (g := F0 m pc ls (av.reverse ++ rest)) ⟨hx, hb, hml, hown, hts⟩ (M l H.size) ⟨callB_of np hts hG rfl rfl rfl (hts _ hY.2.1) (hts _ hlk) hY.2.2 hR, hts _ hsm⟩ ⟨mw_blind _ _ _ _ _ _, fun U hU hW => ⟨rfl, by rw [hU], by rw [hU]; exact hP, hK.warm hW⟩⟩ rfl hnp hl.1 rfl (lv_room hrest) hd hcs) hS (fun q _ h => hF q h) hF (fun r u t H1 locs1 ht hvm hp hB hz1 hk1 hS1 => ?_)
  exact kk r u hp H1 locs1 ls (by rw [← ht]; exact hB.1) (fun a x h => hF a (hB.2 a x h)) hS1 hl
theorem mg_callN_i (C : mwC X cc nL own D cI cS rm) {y : MethodName} {cc' : ByteArray} {n' np : Nat} {ret : Option FieldType} {rm' : Room} {av : List Value} {post : Int32 → mwT → Prop} {idx : Nat} {rest : List Value} (M : mMi y cc' n' ret rm' av D cI cS w post) (hY : mwY y cc' n' ret np) {host : String} (hlk : Cond.methodLinkNest own idx y host ∈ NT) (hsm : Cond.static y ∈ TT) (hR : rm'.frames + 1 ≤ rm.frames ∧ 8 + (n' + 11) + rm'.locals ≤ rm.locals) (hcs : cells + rm'.cells ≤ rm.cells ∧ slots + rm'.slots ≤ rm.slots) (hrest : (rest.map fun v => v.category).sum ≤ 8) (hnp : av.length = np) (hst : st = av.reverse ++ rest) (hd : decode cc pc = .ok (.invokestatic idx, 3)) (kk : ∀ (r : Int32) (w1 : mwT), post r w1 → mwG X (cells + rm'.cells) (slots + rm'.slots) w1 lv (.int r :: rest) (pc + 3)) : mwG X cells slots w lv st pc := by
  obtain ⟨p, l, e, R, s, m, args, below, meth, c, D', A, Q, n⟩ := X
  obtain ⟨⟨hx, hb, hml, hown, hts⟩, hK, hA, rfl, rfl, rfl⟩ := C
  intro H locs ls hP hI hS hl
  subst hst
  have hF : ∀ q, mwA w H.size q → A q := fun q h => h.elim (fun ⟨x, hx0⟩ => hI q x hx0) (fun h => hA q (Nat.le_trans hS.1 h))
  have hG := tt_call hY.1
  refine va_calli (va_runSN (As := av) (rest := rest) (g := F0 m pc ls (av.reverse ++ rest)) ⟨hx, hb, hml, hown, hts⟩ (M l H.size) ⟨va_cnB np hts hG rfl rfl rfl (hK.2.1 _ hlk) (hts _ hY.2.1) hY.2.2 hR, hts _ hsm, trivial⟩ ⟨mw_blind _ _ _ _ _ _, fun U hU hW => ⟨rfl, by rw [hU], by rw [hU]; exact hP, hK.warm hW⟩⟩ rfl hnp hl.1 rfl (lv_room hrest) hd hcs) hS (fun q _ h => hF q h) hF (fun r u t H1 locs1 ht hvm hp hB hz1 hk1 hS1 => ?_)
  exact kk r u hp H1 locs1 ls (by rw [← ht]; exact hB.1) (fun a x h => hF a (hB.2 a x h)) hS1 hl
theorem mg_callV_i (C : mwC X cc nL own D cI cS rm)  {b ci : Nat} {q : vw_C} {vs : List Value} (he : w b = some (.inr (ci, vs))) (hc : vwCl[ci]? = some q) {y : MethodName} {cc' : ByteArray} {n' np : Nat} {ret : Option FieldType} {rm' : Room} {av : List Value} {post : Int32 → mwT → Prop} {idx : Nat} {rest : List Value} (M : mMi y cc' n' ret rm' (.ref b :: av) D cI cS w post) (hY : mwY y cc' n' ret np) (hlk : Cond.methodLink own idx y ∈ TT) (hins : Cond.instanceMethod y ∈ TT) (hsel : Cond.selects q.1 y y ∈ TT) (hR : rm'.frames + 1 ≤ rm.frames ∧ 8 + (n' + 11) + rm'.locals ≤ rm.locals) (hcs : cells + rm'.cells ≤ rm.cells ∧ slots + rm'.slots ≤ rm.slots) (hrest : (rest.map fun v => v.category).sum ≤ 8) (hnp : av.length = np) (hst : st = av.reverse ++ .ref b :: rest) (hd : decode cc pc = .ok (.invokevirtual idx, 3)) (kk : ∀ (r : Int32) (w1 : mwT), post r w1 → mwG X (cells + rm'.cells) (slots + rm'.slots) w1 lv (.int r :: rest) (pc + 3)) : mwG X cells slots w lv st pc := by
  obtain ⟨p, l, e, R, s, m, args, below, meth, c, D', A, Q, n⟩ := X
  obtain ⟨⟨hx, hb, hml, hown, hts⟩, hK, hA, rfl, rfl, rfl⟩ := C
  intro H locs ls hP hI hS hl
  subst hst
  have hF : ∀ q, mwA w H.size q → A q := fun q h => h.elim (fun ⟨x, hx0⟩ => hI q x hx0) (fun h => hA q (Nat.le_trans hS.1 h))
  have hG := tt_call hY.1
  refine va_calli (va_runV (C := q.1) (As := av) (rest := rest) (g := F0 m pc ls (av.reverse ++ .ref b :: rest)) ⟨hx, hb, hml, hown, hts⟩ (M l H.size) ⟨callB_of np hts hG rfl rfl rfl (hts _ hY.2.1) (hts _ hlk) hY.2.2 hR, hts _ hins, hts _ hsel⟩ ⟨mw_blind _ _ _ _ _ _, va_recv hK.1 (hP.one he) hc (q0 := 0) rfl, fun U hU hW => ⟨rfl, by rw [hU], by rw [hU]; exact hP, hK.warm hW⟩⟩ rfl hnp hl.1 rfl (lv_room hrest) hd hcs) hS (fun q _ h => hF q h) hF (fun r u t H1 locs1 ht hvm hp hB hz1 hk1 hS1 => ?_)
  exact kk r u hp H1 locs1 ls (by rw [← ht]; exact hB.1) (fun a x h => hF a (hB.2 a x h)) hS1 hl
theorem mg_callU_i (C : mwC X cc nL own D cI cS rm)  {b ci : Nat} {q : vw_C} {vs : List Value} (he : w b = some (.inr (ci, vs))) (hc : vwCl[ci]? = some q) {y : MethodName} {cc' : ByteArray} {n' np : Nat} {ret : Option FieldType} {rm' : Room} {av : List Value} {post : Int32 → mwT → Prop} {idx : Nat} {rest : List Value} (M : mMi y cc' n' ret rm' (.ref b :: av) D cI cS w post) (hY : mwY y cc' n' ret np) {x : MethodName} {owner : String} (hlk : Cond.methodLink own idx x ∈ TT) (hsame : Cond.sameMethod x.cls owner x.name x.desc ∈ TT) (hdecl : ∀ (s : State) (args : Array Value), (∀ w ∈ TT, w.before args s = true) → (∀ w ∈ NT, va_Nw w s) → va_Decl s ⟨owner, x.name, x.desc⟩) (hxd : owner ≠ "java/lang/invoke/MethodHandle" ∧ owner ≠ "java/lang/invoke/VarHandle" ∧ (parseMethodDescriptor x.desc).map (fun d => d.parameters.length) = some np) (hins : Cond.instanceMethod y ∈ TT) (hsel : Cond.selects q.1 x y ∈ TT) (hR : rm'.frames + 1 ≤ rm.frames ∧ 8 + (n' + 11) + rm'.locals ≤ rm.locals) (hcs : cells + rm'.cells ≤ rm.cells ∧ slots + rm'.slots ≤ rm.slots) (hrest : (rest.map fun v => v.category).sum ≤ 8) (hnp : av.length = np) (hst : st = av.reverse ++ .ref b :: rest) (hd : decode cc pc = .ok (.invokevirtual idx, 3)) (kk : ∀ (r : Int32) (w1 : mwT), post r w1 → mwG X (cells + rm'.cells) (slots + rm'.slots) w1 lv (.int r :: rest) (pc + 3)) : mwG X cells slots w lv st pc := by
  obtain ⟨p, l, e, R, s, m, args, below, meth, c, D', A, Q, n⟩ := X
  obtain ⟨⟨hx, hb, hml, hown, hts⟩, hK, hA, rfl, rfl, rfl⟩ := C
  intro H locs ls hP hI hS hl
  subst hst
  have hF : ∀ q, mwA w H.size q → A q := fun q h => h.elim (fun ⟨x, hx0⟩ => hI q x hx0) (fun h => hA q (Nat.le_trans hS.1 h))
  have hG := tt_call hY.1
  have hlen : ∀ sig, parseMethodDescriptor x.desc = some sig → np = sig.parameters.length := fun sig h => by
    have h2 := hxd.2.2
    rw [h] at h2
    exact (Option.some.inj h2).symm
  refine va_calli (va_runU (C := q.1) (owner := owner) (x := x) (As := av) (rest := rest) (g := F0 m pc ls (av.reverse ++ .ref b :: rest)) ⟨hx, hb, hml, hown, hts⟩ (M l H.size) ⟨⟨rfl, rfl, hR.1, hR.2, pay_in hts hG, List.mem_cons_self⟩, hts _ hY.1, hts _ hY.2.1, ⟨hxd.1, hxd.2.1⟩, hlen, hts _ hlk, hts _ hsame, hdecl s args hts hK.2.1, hts _ hsel, hts _ hins⟩ ⟨mw_blind _ _ _ _ _ _, va_recv hK.1 (hP.one he) hc (q0 := 0) rfl, fun U hU hW => ⟨rfl, by rw [hU], by rw [hU]; exact hP, hK.warm hW⟩⟩ rfl hnp hl.1 rfl (lv_room hrest) hd hcs) hS (fun q _ h => hF q h) hF (fun r u t H1 locs1 ht hvm hp hB hz1 hk1 hS1 => ?_)
  exact kk r u hp H1 locs1 ls (by rw [← ht]; exact hB.1) (fun a x h => hF a (hB.2 a x h)) hS1 hl
theorem mg_callS_v (C : mwC X cc nL own D cI cS rm) {y : MethodName} {cc' : ByteArray} {n' np : Nat} {ret : Option FieldType} {rm' : Room} {av : List Value} {post : mwT → Prop} {idx : Nat} {rest : List Value} (M : mMv y cc' n' ret rm' av D cI cS w post) (hY : mwY y cc' n' ret np) (hlk : Cond.methodLink own idx y ∈ TT) (hsm : Cond.static y ∈ TT) (hR : rm'.frames + 1 ≤ rm.frames ∧ 8 + (n' + 11) + rm'.locals ≤ rm.locals) (hcs : cells + rm'.cells ≤ rm.cells ∧ slots + rm'.slots ≤ rm.slots) (hrest : (rest.map fun v => v.category).sum ≤ 8) (hnp : av.length = np) (hst : st = av.reverse ++ rest) (hd : decode cc pc = .ok (.invokestatic idx, 3)) (kk : ∀ (w1 : mwT), post w1 → mwG X (cells + rm'.cells) (slots + rm'.slots) w1 lv rest (pc + 3)) : mwG X cells slots w lv st pc := by
  obtain ⟨p, l, e, R, s, m, args, below, meth, c, D', A, Q, n⟩ := X
  obtain ⟨⟨hx, hb, hml, hown, hts⟩, hK, hA, rfl, rfl, rfl⟩ := C
  intro H locs ls hP hI hS hl
  subst hst
  have hF : ∀ q, mwA w H.size q → A q := fun q h => h.elim (fun ⟨x, hx0⟩ => hI q x hx0) (fun h => hA q (Nat.le_trans hS.1 h))
  have hG := tt_call hY.1
  refine va_callv (va_runS (As := av) (rest := rest) (g := F0 m pc ls (av.reverse ++ rest)) ⟨hx, hb, hml, hown, hts⟩ (M l H.size) ⟨callB_of np hts hG rfl rfl rfl (hts _ hY.2.1) (hts _ hlk) hY.2.2 hR, hts _ hsm⟩ ⟨mw_blind _ _ _ _ _ _, fun U hU hW => ⟨rfl, by rw [hU], by rw [hU]; exact hP, hK.warm hW⟩⟩ rfl hnp hl.1 rfl (lv_room hrest) hd hcs) hS (fun q _ h => hF q h) hF (fun u t H1 locs1 ht hvm hp hB hz1 hk1 hS1 => ?_)
  exact kk u hp H1 locs1 ls (by rw [← ht]; exact hB.1) (fun a x h => hF a (hB.2 a x h)) hS1 hl
theorem mg_callN_v (C : mwC X cc nL own D cI cS rm) {y : MethodName} {cc' : ByteArray} {n' np : Nat} {ret : Option FieldType} {rm' : Room} {av : List Value} {post : mwT → Prop} {idx : Nat} {rest : List Value} (M : mMv y cc' n' ret rm' av D cI cS w post) (hY : mwY y cc' n' ret np) {host : String} (hlk : Cond.methodLinkNest own idx y host ∈ NT) (hsm : Cond.static y ∈ TT) (hR : rm'.frames + 1 ≤ rm.frames ∧ 8 + (n' + 11) + rm'.locals ≤ rm.locals) (hcs : cells + rm'.cells ≤ rm.cells ∧ slots + rm'.slots ≤ rm.slots) (hrest : (rest.map fun v => v.category).sum ≤ 8) (hnp : av.length = np) (hst : st = av.reverse ++ rest) (hd : decode cc pc = .ok (.invokestatic idx, 3)) (kk : ∀ (w1 : mwT), post w1 → mwG X (cells + rm'.cells) (slots + rm'.slots) w1 lv rest (pc + 3)) : mwG X cells slots w lv st pc := by
  obtain ⟨p, l, e, R, s, m, args, below, meth, c, D', A, Q, n⟩ := X
  obtain ⟨⟨hx, hb, hml, hown, hts⟩, hK, hA, rfl, rfl, rfl⟩ := C
  intro H locs ls hP hI hS hl
  subst hst
  have hF : ∀ q, mwA w H.size q → A q := fun q h => h.elim (fun ⟨x, hx0⟩ => hI q x hx0) (fun h => hA q (Nat.le_trans hS.1 h))
  have hG := tt_call hY.1
  refine va_callv (va_runSN (As := av) (rest := rest) (g := F0 m pc ls (av.reverse ++ rest)) ⟨hx, hb, hml, hown, hts⟩ (M l H.size) ⟨va_cnB np hts hG rfl rfl rfl (hK.2.1 _ hlk) (hts _ hY.2.1) hY.2.2 hR, hts _ hsm, trivial⟩ ⟨mw_blind _ _ _ _ _ _, fun U hU hW => ⟨rfl, by rw [hU], by rw [hU]; exact hP, hK.warm hW⟩⟩ rfl hnp hl.1 rfl (lv_room hrest) hd hcs) hS (fun q _ h => hF q h) hF (fun u t H1 locs1 ht hvm hp hB hz1 hk1 hS1 => ?_)
  exact kk u hp H1 locs1 ls (by rw [← ht]; exact hB.1) (fun a x h => hF a (hB.2 a x h)) hS1 hl
theorem mg_callV_v (C : mwC X cc nL own D cI cS rm)  {b ci : Nat} {q : vw_C} {vs : List Value} (he : w b = some (.inr (ci, vs))) (hc : vwCl[ci]? = some q) {y : MethodName} {cc' : ByteArray} {n' np : Nat} {ret : Option FieldType} {rm' : Room} {av : List Value} {post : mwT → Prop} {idx : Nat} {rest : List Value} (M : mMv y cc' n' ret rm' (.ref b :: av) D cI cS w post) (hY : mwY y cc' n' ret np) (hlk : Cond.methodLink own idx y ∈ TT) (hins : Cond.instanceMethod y ∈ TT) (hsel : Cond.selects q.1 y y ∈ TT) (hR : rm'.frames + 1 ≤ rm.frames ∧ 8 + (n' + 11) + rm'.locals ≤ rm.locals) (hcs : cells + rm'.cells ≤ rm.cells ∧ slots + rm'.slots ≤ rm.slots) (hrest : (rest.map fun v => v.category).sum ≤ 8) (hnp : av.length = np) (hst : st = av.reverse ++ .ref b :: rest) (hd : decode cc pc = .ok (.invokevirtual idx, 3)) (kk : ∀ (w1 : mwT), post w1 → mwG X (cells + rm'.cells) (slots + rm'.slots) w1 lv rest (pc + 3)) : mwG X cells slots w lv st pc := by
  obtain ⟨p, l, e, R, s, m, args, below, meth, c, D', A, Q, n⟩ := X
  obtain ⟨⟨hx, hb, hml, hown, hts⟩, hK, hA, rfl, rfl, rfl⟩ := C
  intro H locs ls hP hI hS hl
  subst hst
  have hF : ∀ q, mwA w H.size q → A q := fun q h => h.elim (fun ⟨x, hx0⟩ => hI q x hx0) (fun h => hA q (Nat.le_trans hS.1 h))
  have hG := tt_call hY.1
  refine va_callv (va_runV (C := q.1) (As := av) (rest := rest) (g := F0 m pc ls (av.reverse ++ .ref b :: rest)) ⟨hx, hb, hml, hown, hts⟩ (M l H.size) ⟨callB_of np hts hG rfl rfl rfl (hts _ hY.2.1) (hts _ hlk) hY.2.2 hR, hts _ hins, hts _ hsel⟩ ⟨mw_blind _ _ _ _ _ _, va_recv hK.1 (hP.one he) hc (q0 := 0) rfl, fun U hU hW => ⟨rfl, by rw [hU], by rw [hU]; exact hP, hK.warm hW⟩⟩ rfl hnp hl.1 rfl (lv_room hrest) hd hcs) hS (fun q _ h => hF q h) hF (fun u t H1 locs1 ht hvm hp hB hz1 hk1 hS1 => ?_)
  exact kk u hp H1 locs1 ls (by rw [← ht]; exact hB.1) (fun a x h => hF a (hB.2 a x h)) hS1 hl
theorem mg_callU_v (C : mwC X cc nL own D cI cS rm)  {b ci : Nat} {q : vw_C} {vs : List Value} (he : w b = some (.inr (ci, vs))) (hc : vwCl[ci]? = some q) {y : MethodName} {cc' : ByteArray} {n' np : Nat} {ret : Option FieldType} {rm' : Room} {av : List Value} {post : mwT → Prop} {idx : Nat} {rest : List Value} (M : mMv y cc' n' ret rm' (.ref b :: av) D cI cS w post) (hY : mwY y cc' n' ret np) {x : MethodName} {owner : String} (hlk : Cond.methodLink own idx x ∈ TT) (hsame : Cond.sameMethod x.cls owner x.name x.desc ∈ TT) (hdecl : ∀ (s : State) (args : Array Value), (∀ w ∈ TT, w.before args s = true) → (∀ w ∈ NT, va_Nw w s) → va_Decl s ⟨owner, x.name, x.desc⟩) (hxd : owner ≠ "java/lang/invoke/MethodHandle" ∧ owner ≠ "java/lang/invoke/VarHandle" ∧ (parseMethodDescriptor x.desc).map (fun d => d.parameters.length) = some np) (hins : Cond.instanceMethod y ∈ TT) (hsel : Cond.selects q.1 x y ∈ TT) (hR : rm'.frames + 1 ≤ rm.frames ∧ 8 + (n' + 11) + rm'.locals ≤ rm.locals) (hcs : cells + rm'.cells ≤ rm.cells ∧ slots + rm'.slots ≤ rm.slots) (hrest : (rest.map fun v => v.category).sum ≤ 8) (hnp : av.length = np) (hst : st = av.reverse ++ .ref b :: rest) (hd : decode cc pc = .ok (.invokevirtual idx, 3)) (kk : ∀ (w1 : mwT), post w1 → mwG X (cells + rm'.cells) (slots + rm'.slots) w1 lv rest (pc + 3)) : mwG X cells slots w lv st pc := by
  obtain ⟨p, l, e, R, s, m, args, below, meth, c, D', A, Q, n⟩ := X
  obtain ⟨⟨hx, hb, hml, hown, hts⟩, hK, hA, rfl, rfl, rfl⟩ := C
  intro H locs ls hP hI hS hl
  subst hst
  have hF : ∀ q, mwA w H.size q → A q := fun q h => h.elim (fun ⟨x, hx0⟩ => hI q x hx0) (fun h => hA q (Nat.le_trans hS.1 h))
  have hG := tt_call hY.1
  have hlen : ∀ sig, parseMethodDescriptor x.desc = some sig → np = sig.parameters.length := fun sig h => by
    have h2 := hxd.2.2
    rw [h] at h2
    exact (Option.some.inj h2).symm
  refine va_callv (va_runU (C := q.1) (owner := owner) (x := x) (As := av) (rest := rest) (g := F0 m pc ls (av.reverse ++ .ref b :: rest)) ⟨hx, hb, hml, hown, hts⟩ (M l H.size) ⟨⟨rfl, rfl, hR.1, hR.2, pay_in hts hG, List.mem_cons_self⟩, hts _ hY.1, hts _ hY.2.1, ⟨hxd.1, hxd.2.1⟩, hlen, hts _ hlk, hts _ hsame, hdecl s args hts hK.2.1, hts _ hsel, hts _ hins⟩ ⟨mw_blind _ _ _ _ _ _, va_recv hK.1 (hP.one he) hc (q0 := 0) rfl, fun U hU hW => ⟨rfl, by rw [hU], by rw [hU]; exact hP, hK.warm hW⟩⟩ rfl hnp hl.1 rfl (lv_room hrest) hd hcs) hS (fun q _ h => hF q h) hF (fun u t H1 locs1 ht hvm hp hB hz1 hk1 hS1 => ?_)
  exact kk u hp H1 locs1 ls (by rw [← ht]; exact hB.1) (fun a x h => hF a (hB.2 a x h)) hS1 hl
theorem mg_callI_v (C : mwC X cc nL own D cI cS rm) {b : Nat} {y : MethodName} {cc' : ByteArray} {n' np : Nat} {rm' : Room} {av : List Value} {post : mwT → Prop} {idx : Nat} {rest : List Value} (M : mMv y cc' n' none rm' (.ref b :: av) D cI cS w post) (hY : mwY y cc' n' none np) (hlk : Cond.methodLink own idx y ∈ TT) (hins : Cond.instanceMethod y ∈ TT) (hini : y.name = "<init>") (hR : rm'.frames + 1 ≤ rm.frames ∧ 8 + (n' + 11) + rm'.locals ≤ rm.locals) (hcs : cells + rm'.cells ≤ rm.cells ∧ slots + rm'.slots ≤ rm.slots) (hrest : (rest.map fun v => v.category).sum ≤ 8) (hnp : av.length = np) (hst : st = av.reverse ++ .ref b :: rest) (hd : decode cc pc = .ok (.invokespecial idx, 3)) (kk : ∀ (w1 : mwT), post w1 → mwG X (cells + rm'.cells) (slots + rm'.slots) w1 lv rest (pc + 3)) : mwG X cells slots w lv st pc := by
  obtain ⟨p, l, e, R, s, m, args, below, meth, c, D', A, Q, n⟩ := X
  obtain ⟨⟨hx, hb, hml, hown, hts⟩, hK, hA, rfl, rfl, rfl⟩ := C
  intro H locs ls hP hI hS hl
  subst hst
  have hF : ∀ q, mwA w H.size q → A q := fun q h => h.elim (fun ⟨x, hx0⟩ => hI q x hx0) (fun h => hA q (Nat.le_trans hS.1 h))
  have hG := tt_call hY.1
  refine va_callv (va_runI (b := b) (As := av) (rest := rest) (g := F0 m pc ls (av.reverse ++ .ref b :: rest)) ⟨hx, hb, hml, hown, hts⟩ (M l H.size) ⟨callB_of np hts hG rfl rfl rfl (hts _ hY.2.1) (hts _ hlk) hY.2.2 hR, hini, hts _ hins⟩ ⟨mw_blind _ _ _ _ _ _, fun U hU hW => ⟨rfl, by rw [hU], by rw [hU]; exact hP, hK.warm hW⟩⟩ rfl hnp hl.1 rfl (lv_room hrest) hd hcs) hS (fun q _ h => hF q h) hF (fun u t H1 locs1 ht hvm hp hB hz1 hk1 hS1 => ?_)
  exact kk u hp H1 locs1 ls (by rw [← ht]; exact hB.1) (fun a x h => hF a (hB.2 a x h)) hS1 hl
theorem mg_callS_q (C : mwC X cc nL own D cI cS rm) {y : MethodName} {cc' : ByteArray} {n' np : Nat} {ret : Option FieldType} {rm' : Room} {av : List Value} {post : Option Nat → mwT → Prop} {idx : Nat} {rest : List Value} (M : mMq y cc' n' ret rm' av D cI cS w post) (hY : mwY y cc' n' ret np) (hlk : Cond.methodLink own idx y ∈ TT) (hsm : Cond.static y ∈ TT) (hR : rm'.frames + 1 ≤ rm.frames ∧ 8 + (n' + 11) + rm'.locals ≤ rm.locals) (hcs : cells + rm'.cells ≤ rm.cells ∧ slots + rm'.slots ≤ rm.slots) (hrest : (rest.map fun v => v.category).sum ≤ 8) (hnp : av.length = np) (hst : st = av.reverse ++ rest) (hd : decode cc pc = .ok (.invokestatic idx, 3)) (kk : ∀ (r : Option Nat) (w1 : mwT), post r w1 → mwG X (cells + rm'.cells) (slots + rm'.slots) w1 lv (va_rf r :: rest) (pc + 3)) : mwG X cells slots w lv st pc := by
  obtain ⟨p, l, e, R, s, m, args, below, meth, c, D', A, Q, n⟩ := X
  obtain ⟨⟨hx, hb, hml, hown, hts⟩, hK, hA, rfl, rfl, rfl⟩ := C
  intro H locs ls hP hI hS hl
  subst hst
  have hF : ∀ q, mwA w H.size q → A q := fun q h => h.elim (fun ⟨x, hx0⟩ => hI q x hx0) (fun h => hA q (Nat.le_trans hS.1 h))
  have hG := tt_call hY.1
  refine va_callq (va_runS (As := av) (rest := rest) (g := F0 m pc ls (av.reverse ++ rest)) ⟨hx, hb, hml, hown, hts⟩ (M l H.size) ⟨callB_of np hts hG rfl rfl rfl (hts _ hY.2.1) (hts _ hlk) hY.2.2 hR, hts _ hsm⟩ ⟨mw_blind _ _ _ _ _ _, fun U hU hW => ⟨rfl, by rw [hU], by rw [hU]; exact hP, hK.warm hW⟩⟩ rfl hnp hl.1 rfl (lv_room hrest) hd hcs) hS (fun q _ h => hF q h) hF (fun r u t H1 locs1 ht hvm hp hB hz1 hk1 hS1 => ?_)
  exact kk r u hp H1 locs1 ls (by rw [← ht]; exact hB.1) (fun a x h => hF a (hB.2 a x h)) hS1 hl
theorem mg_callN_q (C : mwC X cc nL own D cI cS rm) {y : MethodName} {cc' : ByteArray} {n' np : Nat} {ret : Option FieldType} {rm' : Room} {av : List Value} {post : Option Nat → mwT → Prop} {idx : Nat} {rest : List Value} (M : mMq y cc' n' ret rm' av D cI cS w post) (hY : mwY y cc' n' ret np) {host : String} (hlk : Cond.methodLinkNest own idx y host ∈ NT) (hsm : Cond.static y ∈ TT) (hR : rm'.frames + 1 ≤ rm.frames ∧ 8 + (n' + 11) + rm'.locals ≤ rm.locals) (hcs : cells + rm'.cells ≤ rm.cells ∧ slots + rm'.slots ≤ rm.slots) (hrest : (rest.map fun v => v.category).sum ≤ 8) (hnp : av.length = np) (hst : st = av.reverse ++ rest) (hd : decode cc pc = .ok (.invokestatic idx, 3)) (kk : ∀ (r : Option Nat) (w1 : mwT), post r w1 → mwG X (cells + rm'.cells) (slots + rm'.slots) w1 lv (va_rf r :: rest) (pc + 3)) : mwG X cells slots w lv st pc := by
  obtain ⟨p, l, e, R, s, m, args, below, meth, c, D', A, Q, n⟩ := X
  obtain ⟨⟨hx, hb, hml, hown, hts⟩, hK, hA, rfl, rfl, rfl⟩ := C
  intro H locs ls hP hI hS hl
  subst hst
  have hF : ∀ q, mwA w H.size q → A q := fun q h => h.elim (fun ⟨x, hx0⟩ => hI q x hx0) (fun h => hA q (Nat.le_trans hS.1 h))
  have hG := tt_call hY.1
  refine va_callq (va_runSN (As := av) (rest := rest) (g := F0 m pc ls (av.reverse ++ rest)) ⟨hx, hb, hml, hown, hts⟩ (M l H.size) ⟨va_cnB np hts hG rfl rfl rfl (hK.2.1 _ hlk) (hts _ hY.2.1) hY.2.2 hR, hts _ hsm, trivial⟩ ⟨mw_blind _ _ _ _ _ _, fun U hU hW => ⟨rfl, by rw [hU], by rw [hU]; exact hP, hK.warm hW⟩⟩ rfl hnp hl.1 rfl (lv_room hrest) hd hcs) hS (fun q _ h => hF q h) hF (fun r u t H1 locs1 ht hvm hp hB hz1 hk1 hS1 => ?_)
  exact kk r u hp H1 locs1 ls (by rw [← ht]; exact hB.1) (fun a x h => hF a (hB.2 a x h)) hS1 hl
theorem mg_callV_q (C : mwC X cc nL own D cI cS rm)  {b ci : Nat} {q : vw_C} {vs : List Value} (he : w b = some (.inr (ci, vs))) (hc : vwCl[ci]? = some q) {y : MethodName} {cc' : ByteArray} {n' np : Nat} {ret : Option FieldType} {rm' : Room} {av : List Value} {post : Option Nat → mwT → Prop} {idx : Nat} {rest : List Value} (M : mMq y cc' n' ret rm' (.ref b :: av) D cI cS w post) (hY : mwY y cc' n' ret np) (hlk : Cond.methodLink own idx y ∈ TT) (hins : Cond.instanceMethod y ∈ TT) (hsel : Cond.selects q.1 y y ∈ TT) (hR : rm'.frames + 1 ≤ rm.frames ∧ 8 + (n' + 11) + rm'.locals ≤ rm.locals) (hcs : cells + rm'.cells ≤ rm.cells ∧ slots + rm'.slots ≤ rm.slots) (hrest : (rest.map fun v => v.category).sum ≤ 8) (hnp : av.length = np) (hst : st = av.reverse ++ .ref b :: rest) (hd : decode cc pc = .ok (.invokevirtual idx, 3)) (kk : ∀ (r : Option Nat) (w1 : mwT), post r w1 → mwG X (cells + rm'.cells) (slots + rm'.slots) w1 lv (va_rf r :: rest) (pc + 3)) : mwG X cells slots w lv st pc := by
  obtain ⟨p, l, e, R, s, m, args, below, meth, c, D', A, Q, n⟩ := X
  obtain ⟨⟨hx, hb, hml, hown, hts⟩, hK, hA, rfl, rfl, rfl⟩ := C
  intro H locs ls hP hI hS hl
  subst hst
  have hF : ∀ q, mwA w H.size q → A q := fun q h => h.elim (fun ⟨x, hx0⟩ => hI q x hx0) (fun h => hA q (Nat.le_trans hS.1 h))
  have hG := tt_call hY.1
  refine va_callq (va_runV (C := q.1) (As := av) (rest := rest) (g := F0 m pc ls (av.reverse ++ .ref b :: rest)) ⟨hx, hb, hml, hown, hts⟩ (M l H.size) ⟨callB_of np hts hG rfl rfl rfl (hts _ hY.2.1) (hts _ hlk) hY.2.2 hR, hts _ hins, hts _ hsel⟩ ⟨mw_blind _ _ _ _ _ _, va_recv hK.1 (hP.one he) hc (q0 := 0) rfl, fun U hU hW => ⟨rfl, by rw [hU], by rw [hU]; exact hP, hK.warm hW⟩⟩ rfl hnp hl.1 rfl (lv_room hrest) hd hcs) hS (fun q _ h => hF q h) hF (fun r u t H1 locs1 ht hvm hp hB hz1 hk1 hS1 => ?_)
  exact kk r u hp H1 locs1 ls (by rw [← ht]; exact hB.1) (fun a x h => hF a (hB.2 a x h)) hS1 hl
theorem mg_callU_q (C : mwC X cc nL own D cI cS rm)  {b ci : Nat} {q : vw_C} {vs : List Value} (he : w b = some (.inr (ci, vs))) (hc : vwCl[ci]? = some q) {y : MethodName} {cc' : ByteArray} {n' np : Nat} {ret : Option FieldType} {rm' : Room} {av : List Value} {post : Option Nat → mwT → Prop} {idx : Nat} {rest : List Value} (M : mMq y cc' n' ret rm' (.ref b :: av) D cI cS w post) (hY : mwY y cc' n' ret np) {x : MethodName} {owner : String} (hlk : Cond.methodLink own idx x ∈ TT) (hsame : Cond.sameMethod x.cls owner x.name x.desc ∈ TT) (hdecl : ∀ (s : State) (args : Array Value), (∀ w ∈ TT, w.before args s = true) → (∀ w ∈ NT, va_Nw w s) → va_Decl s ⟨owner, x.name, x.desc⟩) (hxd : owner ≠ "java/lang/invoke/MethodHandle" ∧ owner ≠ "java/lang/invoke/VarHandle" ∧ (parseMethodDescriptor x.desc).map (fun d => d.parameters.length) = some np) (hins : Cond.instanceMethod y ∈ TT) (hsel : Cond.selects q.1 x y ∈ TT) (hR : rm'.frames + 1 ≤ rm.frames ∧ 8 + (n' + 11) + rm'.locals ≤ rm.locals) (hcs : cells + rm'.cells ≤ rm.cells ∧ slots + rm'.slots ≤ rm.slots) (hrest : (rest.map fun v => v.category).sum ≤ 8) (hnp : av.length = np) (hst : st = av.reverse ++ .ref b :: rest) (hd : decode cc pc = .ok (.invokevirtual idx, 3)) (kk : ∀ (r : Option Nat) (w1 : mwT), post r w1 → mwG X (cells + rm'.cells) (slots + rm'.slots) w1 lv (va_rf r :: rest) (pc + 3)) : mwG X cells slots w lv st pc := by
  obtain ⟨p, l, e, R, s, m, args, below, meth, c, D', A, Q, n⟩ := X
  obtain ⟨⟨hx, hb, hml, hown, hts⟩, hK, hA, rfl, rfl, rfl⟩ := C
  intro H locs ls hP hI hS hl
  subst hst
  have hF : ∀ q, mwA w H.size q → A q := fun q h => h.elim (fun ⟨x, hx0⟩ => hI q x hx0) (fun h => hA q (Nat.le_trans hS.1 h))
  have hG := tt_call hY.1
  have hlen : ∀ sig, parseMethodDescriptor x.desc = some sig → np = sig.parameters.length := fun sig h => by
    have h2 := hxd.2.2
    rw [h] at h2
    exact (Option.some.inj h2).symm
  refine va_callq (va_runU (C := q.1) (owner := owner) (x := x) (As := av) (rest := rest) (g := F0 m pc ls (av.reverse ++ .ref b :: rest)) ⟨hx, hb, hml, hown, hts⟩ (M l H.size) ⟨⟨rfl, rfl, hR.1, hR.2, pay_in hts hG, List.mem_cons_self⟩, hts _ hY.1, hts _ hY.2.1, ⟨hxd.1, hxd.2.1⟩, hlen, hts _ hlk, hts _ hsame, hdecl s args hts hK.2.1, hts _ hsel, hts _ hins⟩ ⟨mw_blind _ _ _ _ _ _, va_recv hK.1 (hP.one he) hc (q0 := 0) rfl, fun U hU hW => ⟨rfl, by rw [hU], by rw [hU]; exact hP, hK.warm hW⟩⟩ rfl hnp hl.1 rfl (lv_room hrest) hd hcs) hS (fun q _ h => hF q h) hF (fun r u t H1 locs1 ht hvm hp hB hz1 hk1 hS1 => ?_)
  exact kk r u hp H1 locs1 ls (by rw [← ht]; exact hB.1) (fun a x h => hF a (hB.2 a x h)) hS1 hl
end MWR2
