section
-- ===== PART A: goes FIRST, ahead of the names: the tables' words, and 'selects' of the private methods out of them =====
/-- a private method of a class that the tables say can be made, by its rows of tables_1 -/
def lw_okq (q : MethodName × Nat) : Prop := (q.1.cls ≠ "java/lang/invoke/MethodHandle" ∧ q.1.cls ≠ "java/lang/invoke/VarHandle") ∧ Cond.instantiable q.1.cls q.2 ∈ tables_1 ∧ Cond.privateMethod q.1 ∈ tables_1 ∧ Cond.instanceMethod q.1 ∈ tables_1
theorem lw_p0 : lw_okq (⟨"SketchSpans", "keep", "(LSketchSpans$Sketch;)I"⟩, 2) := ⟨⟨by decide +kernel, by decide +kernel⟩, List.mem_of_getElem? (i := 11) (by decide +kernel), List.mem_of_getElem? (i := 185) (by decide +kernel), List.mem_of_getElem? (i := 186) (by decide +kernel)⟩
theorem lw_p1 : lw_okq (⟨"SketchSpans", "find", "(I)LSketchSpans$Sketch;"⟩, 2) := ⟨⟨by decide +kernel, by decide +kernel⟩, List.mem_of_getElem? (i := 11) (by decide +kernel), List.mem_of_getElem? (i := 193) (by decide +kernel), List.mem_of_getElem? (i := 194) (by decide +kernel)⟩
theorem lw_p2 : lw_okq (⟨"SketchSpans$Heavy", "leastNumber", "(I)I"⟩, 9) := ⟨⟨by decide +kernel, by decide +kernel⟩, List.mem_of_getElem? (i := 48) (by decide +kernel), List.mem_of_getElem? (i := 323) (by decide +kernel), List.mem_of_getElem? (i := 324) (by decide +kernel)⟩
theorem lw_p3 : lw_okq (⟨"SketchSpans$Heavy", "lower", "(I)V"⟩, 9) := ⟨⟨by decide +kernel, by decide +kernel⟩, List.mem_of_getElem? (i := 48) (by decide +kernel), List.mem_of_getElem? (i := 330) (by decide +kernel), List.mem_of_getElem? (i := 331) (by decide +kernel)⟩
theorem lw_p4 : lw_okq (⟨"SketchSpans$Heavy", "add", "(II)V"⟩, 9) := ⟨⟨by decide +kernel, by decide +kernel⟩, List.mem_of_getElem? (i := 48) (by decide +kernel), List.mem_of_getElem? (i := 334) (by decide +kernel), List.mem_of_getElem? (i := 335) (by decide +kernel)⟩
theorem lw_p5 : lw_okq (⟨"SketchSpans$Least", "add", "(I)V"⟩, 7) := ⟨⟨by decide +kernel, by decide +kernel⟩, List.mem_of_getElem? (i := 143) (by decide +kernel), List.mem_of_getElem? (i := 342) (by decide +kernel), List.mem_of_getElem? (i := 343) (by decide +kernel)⟩
theorem lw_p6 : lw_okq (⟨"SketchSpans$Ranks", "push", "(II)V"⟩, 9) := ⟨⟨by decide +kernel, by decide +kernel⟩, List.mem_of_getElem? (i := 161) (by decide +kernel), List.mem_of_getElem? (i := 352) (by decide +kernel), List.mem_of_getElem? (i := 353) (by decide +kernel)⟩
theorem lw_p7 : lw_okq (⟨"SketchSpans$Ranks", "collapse", "(I)V"⟩, 9) := ⟨⟨by decide +kernel, by decide +kernel⟩, List.mem_of_getElem? (i := 161) (by decide +kernel), List.mem_of_getElem? (i := 356) (by decide +kernel), List.mem_of_getElem? (i := 357) (by decide +kernel)⟩
theorem lw_p8 : lw_okq (⟨"SketchSpans$Ranks", "sortBuffer", "(I)V"⟩, 9) := ⟨⟨by decide +kernel, by decide +kernel⟩, List.mem_of_getElem? (i := 161) (by decide +kernel), List.mem_of_getElem? (i := 360) (by decide +kernel), List.mem_of_getElem? (i := 361) (by decide +kernel)⟩
theorem lw_p9 : lw_okq (⟨"SketchSpans$Ranks", "keyAt", "(II)I"⟩, 9) := ⟨⟨by decide +kernel, by decide +kernel⟩, List.mem_of_getElem? (i := 161) (by decide +kernel), List.mem_of_getElem? (i := 364) (by decide +kernel), List.mem_of_getElem? (i := 365) (by decide +kernel)⟩
theorem lw_p10 : lw_okq (⟨"SketchSpans$Table", "placeIn", "(II)I"⟩, 6) := ⟨⟨by decide +kernel, by decide +kernel⟩, List.mem_of_getElem? (i := 113) (by decide +kernel), List.mem_of_getElem? (i := 371) (by decide +kernel), List.mem_of_getElem? (i := 372) (by decide +kernel)⟩
theorem lw_p11 : lw_okq (⟨"SketchSpans$Heavy", "firstNumberTooMany", "()I"⟩, 9) := ⟨⟨by decide +kernel, by decide +kernel⟩, List.mem_of_getElem? (i := 48) (by decide +kernel), List.mem_of_getElem? (i := 398) (by decide +kernel), List.mem_of_getElem? (i := 399) (by decide +kernel)⟩
theorem lw_p12 : lw_okq (⟨"SketchSpans$Heavy", "howManyNotBelow", "(I)I"⟩, 9) := ⟨⟨by decide +kernel, by decide +kernel⟩, List.mem_of_getElem? (i := 48) (by decide +kernel), List.mem_of_getElem? (i := 402) (by decide +kernel), List.mem_of_getElem? (i := 403) (by decide +kernel)⟩
theorem lw_p13 : lw_okq (⟨"SketchSpans$Ranks", "weightUpTo", "(I)I"⟩, 9) := ⟨⟨by decide +kernel, by decide +kernel⟩, List.mem_of_getElem? (i := 161) (by decide +kernel), List.mem_of_getElem? (i := 434) (by decide +kernel), List.mem_of_getElem? (i := 435) (by decide +kernel)⟩
theorem lw_p14 : lw_okq (⟨"SketchSpansModel", "empty", "(I)V"⟩, 10) := ⟨⟨by decide +kernel, by decide +kernel⟩, List.mem_of_getElem? (i := 579) (by decide +kernel), List.mem_of_getElem? (i := 623) (by decide +kernel), List.mem_of_getElem? (i := 624) (by decide +kernel)⟩
theorem lw_p15 : lw_okq (⟨"SketchSpansModel", "none", "(I)Z"⟩, 10) := ⟨⟨by decide +kernel, by decide +kernel⟩, List.mem_of_getElem? (i := 579) (by decide +kernel), List.mem_of_getElem? (i := 631) (by decide +kernel), List.mem_of_getElem? (i := 632) (by decide +kernel)⟩
def lw_privs_1 : List (MethodName × Nat) := [(⟨"SketchSpans", "keep", "(LSketchSpans$Sketch;)I"⟩, 2), (⟨"SketchSpans", "find", "(I)LSketchSpans$Sketch;"⟩, 2), (⟨"SketchSpans$Heavy", "leastNumber", "(I)I"⟩, 9), (⟨"SketchSpans$Heavy", "lower", "(I)V"⟩, 9), (⟨"SketchSpans$Heavy", "add", "(II)V"⟩, 9), (⟨"SketchSpans$Least", "add", "(I)V"⟩, 7), (⟨"SketchSpans$Ranks", "push", "(II)V"⟩, 9), (⟨"SketchSpans$Ranks", "collapse", "(I)V"⟩, 9), (⟨"SketchSpans$Ranks", "sortBuffer", "(I)V"⟩, 9), (⟨"SketchSpans$Ranks", "keyAt", "(II)I"⟩, 9), (⟨"SketchSpans$Table", "placeIn", "(II)I"⟩, 6), (⟨"SketchSpans$Heavy", "firstNumberTooMany", "()I"⟩, 9), (⟨"SketchSpans$Heavy", "howManyNotBelow", "(I)I"⟩, 9), (⟨"SketchSpans$Ranks", "weightUpTo", "(I)I"⟩, 9), (⟨"SketchSpansModel", "empty", "(I)V"⟩, 10), (⟨"SketchSpansModel", "none", "(I)Z"⟩, 10)]
theorem lw_r1 : ∀ q ∈ lw_privs_1, lw_okq q := List.forall_mem_cons.mpr ⟨lw_p0, List.forall_mem_cons.mpr ⟨lw_p1, List.forall_mem_cons.mpr ⟨lw_p2, List.forall_mem_cons.mpr ⟨lw_p3, List.forall_mem_cons.mpr ⟨lw_p4, List.forall_mem_cons.mpr ⟨lw_p5, List.forall_mem_cons.mpr ⟨lw_p6, List.forall_mem_cons.mpr ⟨lw_p7, List.forall_mem_cons.mpr ⟨lw_p8, List.forall_mem_cons.mpr ⟨lw_p9, List.forall_mem_cons.mpr ⟨lw_p10, List.forall_mem_cons.mpr ⟨lw_p11, List.forall_mem_cons.mpr ⟨lw_p12, List.forall_mem_cons.mpr ⟨lw_p13, List.forall_mem_cons.mpr ⟨lw_p14, List.forall_mem_cons.mpr ⟨lw_p15, fun _ h => absurd h List.not_mem_nil⟩⟩⟩⟩⟩⟩⟩⟩⟩⟩⟩⟩⟩⟩⟩⟩
theorem lw_p16 : lw_okq (⟨"SketchSpansModel", "comeOnce", "(III)V"⟩, 10) := ⟨⟨by decide +kernel, by decide +kernel⟩, List.mem_of_getElem? (i := 579) (by decide +kernel), List.mem_of_getElem? (i := 644) (by decide +kernel), List.mem_of_getElem? (i := 645) (by decide +kernel)⟩
theorem lw_p17 : lw_okq (⟨"SketchSpansModel", "comeHeavy", "(III)V"⟩, 10) := ⟨⟨by decide +kernel, by decide +kernel⟩, List.mem_of_getElem? (i := 579) (by decide +kernel), List.mem_of_getElem? (i := 648) (by decide +kernel), List.mem_of_getElem? (i := 649) (by decide +kernel)⟩
theorem lw_p18 : lw_okq (⟨"SketchSpansModel", "counterOf", "(II)I"⟩, 10) := ⟨⟨by decide +kernel, by decide +kernel⟩, List.mem_of_getElem? (i := 579) (by decide +kernel), List.mem_of_getElem? (i := 652) (by decide +kernel), List.mem_of_getElem? (i := 653) (by decide +kernel)⟩
theorem lw_p19 : lw_okq (⟨"SketchSpansModel", "many", "(I)I"⟩, 10) := ⟨⟨by decide +kernel, by decide +kernel⟩, List.mem_of_getElem? (i := 579) (by decide +kernel), List.mem_of_getElem? (i := 656) (by decide +kernel), List.mem_of_getElem? (i := 657) (by decide +kernel)⟩
theorem lw_p20 : lw_okq (⟨"SketchSpansModel", "at", "(II)I"⟩, 10) := ⟨⟨by decide +kernel, by decide +kernel⟩, List.mem_of_getElem? (i := 579) (by decide +kernel), List.mem_of_getElem? (i := 660) (by decide +kernel), List.mem_of_getElem? (i := 661) (by decide +kernel)⟩
theorem lw_p21 : lw_okq (⟨"SketchSpansModel", "add", "(III)V"⟩, 10) := ⟨⟨by decide +kernel, by decide +kernel⟩, List.mem_of_getElem? (i := 579) (by decide +kernel), List.mem_of_getElem? (i := 664) (by decide +kernel), List.mem_of_getElem? (i := 665) (by decide +kernel)⟩
theorem lw_p22 : lw_okq (⟨"SketchSpansModel", "lessen", "(II)V"⟩, 10) := ⟨⟨by decide +kernel, by decide +kernel⟩, List.mem_of_getElem? (i := 579) (by decide +kernel), List.mem_of_getElem? (i := 668) (by decide +kernel), List.mem_of_getElem? (i := 669) (by decide +kernel)⟩
theorem lw_p23 : lw_okq (⟨"SketchSpansModel", "cell", "(III)I"⟩, 10) := ⟨⟨by decide +kernel, by decide +kernel⟩, List.mem_of_getElem? (i := 579) (by decide +kernel), List.mem_of_getElem? (i := 672) (by decide +kernel), List.mem_of_getElem? (i := 673) (by decide +kernel)⟩
theorem lw_p24 : lw_okq (⟨"SketchSpansModel", "keep", "(II)V"⟩, 10) := ⟨⟨by decide +kernel, by decide +kernel⟩, List.mem_of_getElem? (i := 579) (by decide +kernel), List.mem_of_getElem? (i := 680) (by decide +kernel), List.mem_of_getElem? (i := 681) (by decide +kernel)⟩
theorem lw_p25 : lw_okq (⟨"SketchSpansModel", "keyAt", "(III)I"⟩, 10) := ⟨⟨by decide +kernel, by decide +kernel⟩, List.mem_of_getElem? (i := 579) (by decide +kernel), List.mem_of_getElem? (i := 687) (by decide +kernel), List.mem_of_getElem? (i := 688) (by decide +kernel)⟩
theorem lw_p26 : lw_okq (⟨"SketchSpansModel", "joinHeavy", "(II)V"⟩, 10) := ⟨⟨by decide +kernel, by decide +kernel⟩, List.mem_of_getElem? (i := 579) (by decide +kernel), List.mem_of_getElem? (i := 695) (by decide +kernel), List.mem_of_getElem? (i := 696) (by decide +kernel)⟩
theorem lw_p27 : lw_okq (⟨"SketchSpansModel", "isOf", "(III)Z"⟩, 10) := ⟨⟨by decide +kernel, by decide +kernel⟩, List.mem_of_getElem? (i := 579) (by decide +kernel), List.mem_of_getElem? (i := 707) (by decide +kernel), List.mem_of_getElem? (i := 708) (by decide +kernel)⟩
theorem lw_p28 : lw_okq (⟨"SketchSpansModel", "isBad", "(IIZ)Z"⟩, 10) := ⟨⟨by decide +kernel, by decide +kernel⟩, List.mem_of_getElem? (i := 579) (by decide +kernel), List.mem_of_getElem? (i := 711) (by decide +kernel), List.mem_of_getElem? (i := 712) (by decide +kernel)⟩
theorem lw_p29 : lw_okq (⟨"SketchSpansModel", "numberOf", "(II)I"⟩, 10) := ⟨⟨by decide +kernel, by decide +kernel⟩, List.mem_of_getElem? (i := 579) (by decide +kernel), List.mem_of_getElem? (i := 715) (by decide +kernel), List.mem_of_getElem? (i := 716) (by decide +kernel)⟩
theorem lw_p30 : lw_okq (⟨"SketchSpansModel", "weightTo", "(II)I"⟩, 10) := ⟨⟨by decide +kernel, by decide +kernel⟩, List.mem_of_getElem? (i := 579) (by decide +kernel), List.mem_of_getElem? (i := 719) (by decide +kernel), List.mem_of_getElem? (i := 720) (by decide +kernel)⟩
theorem lw_p31 : lw_okq (⟨"SketchSpansModel", "keptOf", "(I)I"⟩, 10) := ⟨⟨by decide +kernel, by decide +kernel⟩, List.mem_of_getElem? (i := 579) (by decide +kernel), List.mem_of_getElem? (i := 743) (by decide +kernel), List.mem_of_getElem? (i := 744) (by decide +kernel)⟩
def lw_privs_2 : List (MethodName × Nat) := [(⟨"SketchSpansModel", "comeOnce", "(III)V"⟩, 10), (⟨"SketchSpansModel", "comeHeavy", "(III)V"⟩, 10), (⟨"SketchSpansModel", "counterOf", "(II)I"⟩, 10), (⟨"SketchSpansModel", "many", "(I)I"⟩, 10), (⟨"SketchSpansModel", "at", "(II)I"⟩, 10), (⟨"SketchSpansModel", "add", "(III)V"⟩, 10), (⟨"SketchSpansModel", "lessen", "(II)V"⟩, 10), (⟨"SketchSpansModel", "cell", "(III)I"⟩, 10), (⟨"SketchSpansModel", "keep", "(II)V"⟩, 10), (⟨"SketchSpansModel", "keyAt", "(III)I"⟩, 10), (⟨"SketchSpansModel", "joinHeavy", "(II)V"⟩, 10), (⟨"SketchSpansModel", "isOf", "(III)Z"⟩, 10), (⟨"SketchSpansModel", "isBad", "(IIZ)Z"⟩, 10), (⟨"SketchSpansModel", "numberOf", "(II)I"⟩, 10), (⟨"SketchSpansModel", "weightTo", "(II)I"⟩, 10), (⟨"SketchSpansModel", "keptOf", "(I)I"⟩, 10)]
theorem lw_r2 : ∀ q ∈ lw_privs_2, lw_okq q := List.forall_mem_cons.mpr ⟨lw_p16, List.forall_mem_cons.mpr ⟨lw_p17, List.forall_mem_cons.mpr ⟨lw_p18, List.forall_mem_cons.mpr ⟨lw_p19, List.forall_mem_cons.mpr ⟨lw_p20, List.forall_mem_cons.mpr ⟨lw_p21, List.forall_mem_cons.mpr ⟨lw_p22, List.forall_mem_cons.mpr ⟨lw_p23, List.forall_mem_cons.mpr ⟨lw_p24, List.forall_mem_cons.mpr ⟨lw_p25, List.forall_mem_cons.mpr ⟨lw_p26, List.forall_mem_cons.mpr ⟨lw_p27, List.forall_mem_cons.mpr ⟨lw_p28, List.forall_mem_cons.mpr ⟨lw_p29, List.forall_mem_cons.mpr ⟨lw_p30, List.forall_mem_cons.mpr ⟨lw_p31, fun _ h => absurd h List.not_mem_nil⟩⟩⟩⟩⟩⟩⟩⟩⟩⟩⟩⟩⟩⟩⟩⟩
theorem lw_p32 : lw_okq (⟨"SketchSpansModel", "nth", "(III)I"⟩, 10) := ⟨⟨by decide +kernel, by decide +kernel⟩, List.mem_of_getElem? (i := 579) (by decide +kernel), List.mem_of_getElem? (i := 751) (by decide +kernel), List.mem_of_getElem? (i := 752) (by decide +kernel)⟩
def lw_privs_3 : List (MethodName × Nat) := [(⟨"SketchSpansModel", "nth", "(III)I"⟩, 10)]
theorem lw_r3 : ∀ q ∈ lw_privs_3, lw_okq q := List.forall_mem_cons.mpr ⟨lw_p32, fun _ h => absurd h List.not_mem_nil⟩
def lw_privs : List (MethodName × Nat) := lw_privs_1 ++ (lw_privs_2 ++ (lw_privs_3))
def lw_tbl : List Cond := k2_sels lw_privs ++ tables_1
theorem lw_privs_ok : ∀ q ∈ lw_privs, lw_okq q := by
  show ∀ q ∈ lw_privs_1 ++ (lw_privs_2 ++ (lw_privs_3)), lw_okq q
  exact List.forall_mem_append.mpr ⟨lw_r1, List.forall_mem_append.mpr ⟨lw_r2, lw_r3⟩⟩
end
section
def RX0 : String := "SketchSpans$Filter"
def TX0 : u_T := fun k => match k with
  | 0 => ("SketchSpans$Sketch", "sort", "I", true)
  | 1 => ("SketchSpans$Sketch", "size", "I", true)
  | 2 => ("SketchSpans$Sketch", "seed", "I", true)
  | 3 => ("SketchSpans$Sketch", "total", "I", false)
  | 4 => ("SketchSpans$Sketch", "moved", "I", false)
  | _ => ("SketchSpans$Filter", "bits", "[I", true)
def tyX0 : Nat → FieldType := fun k => match k with
  | 0 => .int
  | 1 => .int
  | 2 => .int
  | 3 => .int
  | 4 => .int
  | _ => .array .int
abbrev wsX00 : List Cond := u_ws RX0 TX0 6
theorem nmX0 : ∀ a, a < 6 → ∀ b, b < 6 → a ≠ b → (TX0 a).2.1 ≠ (TX0 b).2.1 := by decide +kernel
theorem tyX0_ok : ∀ k, k < 6 → parseFieldDescriptor (TX0 k).2.2.1 = some (tyX0 k) := by decide +kernel
abbrev cX0_init : ByteArray := prog_2_method_1_code
def yX0_init : MethodName := ⟨RX0, "<init>", "(II)V"⟩
abbrev cX0_twin : ByteArray := prog_2_method_2_code
def yX0_twin : MethodName := ⟨RX0, "twin", "()LSketchSpans$Sketch;"⟩
abbrev cX0_forget : ByteArray := prog_2_method_3_code
def yX0_forget : MethodName := ⟨RX0, "forget", "()V"⟩
abbrev cX0_take : ByteArray := prog_2_method_4_code
def yX0_take : MethodName := ⟨RX0, "take", "(II)V"⟩
abbrev cX0_join : ByteArray := prog_2_method_5_code
def yX0_join : MethodName := ⟨RX0, "join", "(LSketchSpans$Sketch;)V"⟩
abbrev cX0_howManyKept : ByteArray := prog_2_method_6_code
def yX0_howManyKept : MethodName := ⟨RX0, "howManyKept", "()I"⟩
abbrev cX0_keptAt : ByteArray := prog_2_method_7_code
def yX0_keptAt : MethodName := ⟨RX0, "keptAt", "(II)I"⟩
abbrev cX0_holds : ByteArray := prog_2_method_8_code
def yX0_holds : MethodName := ⟨RX0, "holds", "(I)I"⟩
def RX1 : String := "SketchSpans$Heavy"
def TX1 : u_T := fun k => match k with
  | 0 => ("SketchSpans$Sketch", "sort", "I", true)
  | 1 => ("SketchSpans$Sketch", "size", "I", true)
  | 2 => ("SketchSpans$Sketch", "seed", "I", true)
  | 3 => ("SketchSpans$Sketch", "total", "I", false)
  | 4 => ("SketchSpans$Sketch", "moved", "I", false)
  | 5 => ("SketchSpans$Heavy", "keys", "[I", true)
  | 6 => ("SketchSpans$Heavy", "numbers", "[I", true)
  | 7 => ("SketchSpans$Heavy", "held", "I", false)
  | _ => ("SketchSpans$Heavy", "lost", "I", false)
def tyX1 : Nat → FieldType := fun k => match k with
  | 0 => .int
  | 1 => .int
  | 2 => .int
  | 3 => .int
  | 4 => .int
  | 5 => .array .int
  | 6 => .array .int
  | 7 => .int
  | _ => .int
abbrev wsX10 : List Cond := u_ws RX1 TX1 9
theorem nmX1 : ∀ a, a < 9 → ∀ b, b < 9 → a ≠ b → (TX1 a).2.1 ≠ (TX1 b).2.1 := by decide +kernel
theorem tyX1_ok : ∀ k, k < 9 → parseFieldDescriptor (TX1 k).2.2.1 = some (tyX1 k) := by decide +kernel
abbrev cX1_init : ByteArray := prog_3_method_1_code
def yX1_init : MethodName := ⟨RX1, "<init>", "(II)V"⟩
abbrev cX1_twin : ByteArray := prog_3_method_2_code
def yX1_twin : MethodName := ⟨RX1, "twin", "()LSketchSpans$Sketch;"⟩
abbrev cX1_forget : ByteArray := prog_3_method_3_code
def yX1_forget : MethodName := ⟨RX1, "forget", "()V"⟩
abbrev cX1_take : ByteArray := prog_3_method_4_code
def yX1_take : MethodName := ⟨RX1, "take", "(II)V"⟩
abbrev cX1_join : ByteArray := prog_3_method_5_code
def yX1_join : MethodName := ⟨RX1, "join", "(LSketchSpans$Sketch;)V"⟩
abbrev cX1_howManyKept : ByteArray := prog_3_method_6_code
def yX1_howManyKept : MethodName := ⟨RX1, "howManyKept", "()I"⟩
abbrev cX1_keptAt : ByteArray := prog_3_method_7_code
def yX1_keptAt : MethodName := ⟨RX1, "keptAt", "(II)I"⟩
abbrev cX1_mayLack : ByteArray := prog_3_method_8_code
def yX1_mayLack : MethodName := ⟨RX1, "mayLack", "()I"⟩
abbrev cX1_atLeast : ByteArray := prog_3_method_9_code
def yX1_atLeast : MethodName := ⟨RX1, "atLeast", "(I)I"⟩
abbrev cX1_atMost : ByteArray := prog_3_method_10_code
def yX1_atMost : MethodName := ⟨RX1, "atMost", "(I)I"⟩
abbrev cX1_add : ByteArray := prog_3_method_11_code
def yX1_add : MethodName := ⟨RX1, "add", "(II)V"⟩
abbrev cX1_leastNumber : ByteArray := prog_3_method_12_code
def yX1_leastNumber : MethodName := ⟨RX1, "leastNumber", "(I)I"⟩
abbrev cX1_lower : ByteArray := prog_3_method_13_code
def yX1_lower : MethodName := ⟨RX1, "lower", "(I)V"⟩
abbrev cX1_firstNumberTooMany : ByteArray := prog_3_method_14_code
def yX1_firstNumberTooMany : MethodName := ⟨RX1, "firstNumberTooMany", "()I"⟩
abbrev cX1_howManyNotBelow : ByteArray := prog_3_method_15_code
def yX1_howManyNotBelow : MethodName := ⟨RX1, "howManyNotBelow", "(I)I"⟩
def RX2 : String := "SketchSpans$Least"
def TX2 : u_T := fun k => match k with
  | 0 => ("SketchSpans$Sketch", "sort", "I", true)
  | 1 => ("SketchSpans$Sketch", "size", "I", true)
  | 2 => ("SketchSpans$Sketch", "seed", "I", true)
  | 3 => ("SketchSpans$Sketch", "total", "I", false)
  | 4 => ("SketchSpans$Sketch", "moved", "I", false)
  | 5 => ("SketchSpans$Least", "hashes", "[I", true)
  | _ => ("SketchSpans$Least", "held", "I", false)
def tyX2 : Nat → FieldType := fun k => match k with
  | 0 => .int
  | 1 => .int
  | 2 => .int
  | 3 => .int
  | 4 => .int
  | 5 => .array .int
  | _ => .int
abbrev wsX20 : List Cond := u_ws RX2 TX2 7
theorem nmX2 : ∀ a, a < 7 → ∀ b, b < 7 → a ≠ b → (TX2 a).2.1 ≠ (TX2 b).2.1 := by decide +kernel
theorem tyX2_ok : ∀ k, k < 7 → parseFieldDescriptor (TX2 k).2.2.1 = some (tyX2 k) := by decide +kernel
abbrev cX2_init : ByteArray := prog_4_method_1_code
def yX2_init : MethodName := ⟨RX2, "<init>", "(II)V"⟩
abbrev cX2_twin : ByteArray := prog_4_method_2_code
def yX2_twin : MethodName := ⟨RX2, "twin", "()LSketchSpans$Sketch;"⟩
abbrev cX2_forget : ByteArray := prog_4_method_3_code
def yX2_forget : MethodName := ⟨RX2, "forget", "()V"⟩
abbrev cX2_take : ByteArray := prog_4_method_4_code
def yX2_take : MethodName := ⟨RX2, "take", "(II)V"⟩
abbrev cX2_join : ByteArray := prog_4_method_5_code
def yX2_join : MethodName := ⟨RX2, "join", "(LSketchSpans$Sketch;)V"⟩
abbrev cX2_howManyKept : ByteArray := prog_4_method_6_code
def yX2_howManyKept : MethodName := ⟨RX2, "howManyKept", "()I"⟩
abbrev cX2_keptAt : ByteArray := prog_4_method_7_code
def yX2_keptAt : MethodName := ⟨RX2, "keptAt", "(II)I"⟩
abbrev cX2_holds : ByteArray := prog_4_method_8_code
def yX2_holds : MethodName := ⟨RX2, "holds", "(I)I"⟩
abbrev cX2_differentKeys : ByteArray := prog_4_method_9_code
def yX2_differentKeys : MethodName := ⟨RX2, "differentKeys", "()I"⟩
abbrev cX2_add : ByteArray := prog_4_method_10_code
def yX2_add : MethodName := ⟨RX2, "add", "(I)V"⟩
def RX3 : String := "SketchSpans$Ranks"
def TX3 : u_T := fun k => match k with
  | 0 => ("SketchSpans$Sketch", "sort", "I", true)
  | 1 => ("SketchSpans$Sketch", "size", "I", true)
  | 2 => ("SketchSpans$Sketch", "seed", "I", true)
  | 3 => ("SketchSpans$Sketch", "total", "I", false)
  | 4 => ("SketchSpans$Sketch", "moved", "I", false)
  | 5 => ("SketchSpans$Ranks", "keys", "[I", true)
  | 6 => ("SketchSpans$Ranks", "lengths", "[I", true)
  | 7 => ("SketchSpans$Ranks", "turns", "[I", true)
  | _ => ("SketchSpans$Ranks", "error", "I", false)
def tyX3 : Nat → FieldType := fun k => match k with
  | 0 => .int
  | 1 => .int
  | 2 => .int
  | 3 => .int
  | 4 => .int
  | 5 => .array .int
  | 6 => .array .int
  | 7 => .array .int
  | _ => .int
abbrev wsX30 : List Cond := u_ws RX3 TX3 9
theorem nmX3 : ∀ a, a < 9 → ∀ b, b < 9 → a ≠ b → (TX3 a).2.1 ≠ (TX3 b).2.1 := by decide +kernel
theorem tyX3_ok : ∀ k, k < 9 → parseFieldDescriptor (TX3 k).2.2.1 = some (tyX3 k) := by decide +kernel
abbrev cX3_init : ByteArray := prog_5_method_1_code
def yX3_init : MethodName := ⟨RX3, "<init>", "(II)V"⟩
abbrev cX3_twin : ByteArray := prog_5_method_2_code
def yX3_twin : MethodName := ⟨RX3, "twin", "()LSketchSpans$Sketch;"⟩
abbrev cX3_forget : ByteArray := prog_5_method_3_code
def yX3_forget : MethodName := ⟨RX3, "forget", "()V"⟩
abbrev cX3_mayTake : ByteArray := prog_5_method_4_code
def yX3_mayTake : MethodName := ⟨RX3, "mayTake", "(I)Z"⟩
abbrev cX3_take : ByteArray := prog_5_method_5_code
def yX3_take : MethodName := ⟨RX3, "take", "(II)V"⟩
abbrev cX3_join : ByteArray := prog_5_method_6_code
def yX3_join : MethodName := ⟨RX3, "join", "(LSketchSpans$Sketch;)V"⟩
abbrev cX3_howManyKept : ByteArray := prog_5_method_7_code
def yX3_howManyKept : MethodName := ⟨RX3, "howManyKept", "()I"⟩
abbrev cX3_keptAt : ByteArray := prog_5_method_8_code
def yX3_keptAt : MethodName := ⟨RX3, "keptAt", "(II)I"⟩
abbrev cX3_mayLack : ByteArray := prog_5_method_9_code
def yX3_mayLack : MethodName := ⟨RX3, "mayLack", "()I"⟩
abbrev cX3_atLeast : ByteArray := prog_5_method_10_code
def yX3_atLeast : MethodName := ⟨RX3, "atLeast", "(I)I"⟩
abbrev cX3_atMost : ByteArray := prog_5_method_11_code
def yX3_atMost : MethodName := ⟨RX3, "atMost", "(I)I"⟩
abbrev cX3_keyAtRank : ByteArray := prog_5_method_12_code
def yX3_keyAtRank : MethodName := ⟨RX3, "keyAtRank", "(I)I"⟩
abbrev cX3_keyAt : ByteArray := prog_5_method_13_code
def yX3_keyAt : MethodName := ⟨RX3, "keyAt", "(II)I"⟩
abbrev cX3_weightUpTo : ByteArray := prog_5_method_14_code
def yX3_weightUpTo : MethodName := ⟨RX3, "weightUpTo", "(I)I"⟩
abbrev cX3_push : ByteArray := prog_5_method_15_code
def yX3_push : MethodName := ⟨RX3, "push", "(II)V"⟩
abbrev cX3_collapse : ByteArray := prog_5_method_16_code
def yX3_collapse : MethodName := ⟨RX3, "collapse", "(I)V"⟩
abbrev cX3_sortBuffer : ByteArray := prog_5_method_17_code
def yX3_sortBuffer : MethodName := ⟨RX3, "sortBuffer", "(I)V"⟩
def RX4 : String := "SketchSpans$Sketch"
def TX4 : u_T := fun k => match k with
  | _ => ("", "", "", false)
def tyX4 : Nat → FieldType := fun k => match k with
  | _ => .int
abbrev wsX40 : List Cond := u_ws RX4 TX4 0
theorem nmX4 : ∀ a, a < 0 → ∀ b, b < 0 → a ≠ b → (TX4 a).2.1 ≠ (TX4 b).2.1 := by decide +kernel
theorem tyX4_ok : ∀ k, k < 0 → parseFieldDescriptor (TX4 k).2.2.1 = some (tyX4 k) := by decide +kernel
abbrev cX4_init : ByteArray := prog_6_method_1_code
def yX4_init : MethodName := ⟨RX4, "<init>", "(III)V"⟩
abbrev cX4_mayTake : ByteArray := prog_6_method_8_code
def yX4_mayTake : MethodName := ⟨RX4, "mayTake", "(I)Z"⟩
abbrev cX4_mayLack : ByteArray := prog_6_method_9_code
def yX4_mayLack : MethodName := ⟨RX4, "mayLack", "()I"⟩
abbrev cX4_atLeast : ByteArray := prog_6_method_10_code
def yX4_atLeast : MethodName := ⟨RX4, "atLeast", "(I)I"⟩
abbrev cX4_atMost : ByteArray := prog_6_method_11_code
def yX4_atMost : MethodName := ⟨RX4, "atMost", "(I)I"⟩
abbrev cX4_holds : ByteArray := prog_6_method_12_code
def yX4_holds : MethodName := ⟨RX4, "holds", "(I)I"⟩
abbrev cX4_differentKeys : ByteArray := prog_6_method_13_code
def yX4_differentKeys : MethodName := ⟨RX4, "differentKeys", "()I"⟩
abbrev cX4_keyAtRank : ByteArray := prog_6_method_14_code
def yX4_keyAtRank : MethodName := ⟨RX4, "keyAtRank", "(I)I"⟩
abbrev cX4_isLike : ByteArray := prog_6_method_15_code
def yX4_isLike : MethodName := ⟨RX4, "isLike", "(LSketchSpans$Sketch;)Z"⟩
abbrev cX4_copyTotals : ByteArray := prog_6_method_16_code
def yX4_copyTotals : MethodName := ⟨RX4, "copyTotals", "(LSketchSpans$Sketch;)V"⟩
def RX5 : String := "SketchSpans$Table"
def TX5 : u_T := fun k => match k with
  | 0 => ("SketchSpans$Sketch", "sort", "I", true)
  | 1 => ("SketchSpans$Sketch", "size", "I", true)
  | 2 => ("SketchSpans$Sketch", "seed", "I", true)
  | 3 => ("SketchSpans$Sketch", "total", "I", false)
  | 4 => ("SketchSpans$Sketch", "moved", "I", false)
  | _ => ("SketchSpans$Table", "cells", "[I", true)
def tyX5 : Nat → FieldType := fun k => match k with
  | 0 => .int
  | 1 => .int
  | 2 => .int
  | 3 => .int
  | 4 => .int
  | _ => .array .int
abbrev wsX50 : List Cond := u_ws RX5 TX5 6
theorem nmX5 : ∀ a, a < 6 → ∀ b, b < 6 → a ≠ b → (TX5 a).2.1 ≠ (TX5 b).2.1 := by decide +kernel
theorem tyX5_ok : ∀ k, k < 6 → parseFieldDescriptor (TX5 k).2.2.1 = some (tyX5 k) := by decide +kernel
abbrev cX5_init : ByteArray := prog_7_method_1_code
def yX5_init : MethodName := ⟨RX5, "<init>", "(II)V"⟩
abbrev cX5_twin : ByteArray := prog_7_method_2_code
def yX5_twin : MethodName := ⟨RX5, "twin", "()LSketchSpans$Sketch;"⟩
abbrev cX5_forget : ByteArray := prog_7_method_3_code
def yX5_forget : MethodName := ⟨RX5, "forget", "()V"⟩
abbrev cX5_mayTake : ByteArray := prog_7_method_4_code
def yX5_mayTake : MethodName := ⟨RX5, "mayTake", "(I)Z"⟩
abbrev cX5_take : ByteArray := prog_7_method_5_code
def yX5_take : MethodName := ⟨RX5, "take", "(II)V"⟩
abbrev cX5_join : ByteArray := prog_7_method_6_code
def yX5_join : MethodName := ⟨RX5, "join", "(LSketchSpans$Sketch;)V"⟩
abbrev cX5_howManyKept : ByteArray := prog_7_method_7_code
def yX5_howManyKept : MethodName := ⟨RX5, "howManyKept", "()I"⟩
abbrev cX5_keptAt : ByteArray := prog_7_method_8_code
def yX5_keptAt : MethodName := ⟨RX5, "keptAt", "(II)I"⟩
abbrev cX5_atMost : ByteArray := prog_7_method_9_code
def yX5_atMost : MethodName := ⟨RX5, "atMost", "(I)I"⟩
abbrev cX5_placeIn : ByteArray := prog_7_method_10_code
def yX5_placeIn : MethodName := ⟨RX5, "placeIn", "(II)I"⟩
def RX6 : String := "SketchSpans"
def TX6 : u_T := fun k => match k with
  | 0 => ("SketchSpans", "sketches", "[LSketchSpans$Sketch;", true)
  | _ => ("SketchSpans", "made", "I", false)
def tyX6 : Nat → FieldType := fun k => match k with
  | 0 => .array (.object "SketchSpans$Sketch")
  | _ => .int
abbrev wsX60 : List Cond := u_ws RX6 TX6 2
theorem nmX6 : ∀ a, a < 2 → ∀ b, b < 2 → a ≠ b → (TX6 a).2.1 ≠ (TX6 b).2.1 := by decide +kernel
theorem tyX6_ok : ∀ k, k < 2 → parseFieldDescriptor (TX6 k).2.2.1 = some (tyX6 k) := by decide +kernel
abbrev cX6_init : ByteArray := prog_1_method_1_code
def yX6_init : MethodName := ⟨RX6, "<init>", "()V"⟩
abbrev cX6_sketch : ByteArray := prog_1_method_2_code
def yX6_sketch : MethodName := ⟨RX6, "sketch", "(III)I"⟩
abbrev cX6_copy : ByteArray := prog_1_method_3_code
def yX6_copy : MethodName := ⟨RX6, "copy", "(I)I"⟩
abbrev cX6_clear : ByteArray := prog_1_method_4_code
def yX6_clear : MethodName := ⟨RX6, "clear", "(I)I"⟩
abbrev cX6_come : ByteArray := prog_1_method_5_code
def yX6_come : MethodName := ⟨RX6, "come", "(III)I"⟩
abbrev cX6_merge : ByteArray := prog_1_method_6_code
def yX6_merge : MethodName := ⟨RX6, "merge", "(II)I"⟩
abbrev cX6_hash : ByteArray := prog_1_method_7_code
def yX6_hash : MethodName := ⟨RX6, "hash", "(III)I"⟩
abbrev cX6_low : ByteArray := prog_1_method_8_code
def yX6_low : MethodName := ⟨RX6, "low", "(II)I"⟩
abbrev cX6_high : ByteArray := prog_1_method_9_code
def yX6_high : MethodName := ⟨RX6, "high", "(II)I"⟩
abbrev cX6_has : ByteArray := prog_1_method_10_code
def yX6_has : MethodName := ⟨RX6, "has", "(II)I"⟩
abbrev cX6_distinct : ByteArray := prog_1_method_11_code
def yX6_distinct : MethodName := ⟨RX6, "distinct", "(I)I"⟩
abbrev cX6_quantile : ByteArray := prog_1_method_12_code
def yX6_quantile : MethodName := ⟨RX6, "quantile", "(II)I"⟩
abbrev cX6_told : ByteArray := prog_1_method_13_code
def yX6_told : MethodName := ⟨RX6, "told", "(II)I"⟩
abbrev cX6_kept : ByteArray := prog_1_method_14_code
def yX6_kept : MethodName := ⟨RX6, "kept", "(III)I"⟩
abbrev cX6_count : ByteArray := prog_1_method_15_code
def yX6_count : MethodName := ⟨RX6, "count", "()I"⟩
abbrev cX6_find : ByteArray := prog_1_method_16_code
def yX6_find : MethodName := ⟨RX6, "find", "(I)LSketchSpans$Sketch;"⟩
abbrev cX6_keep : ByteArray := prog_1_method_17_code
def yX6_keep : MethodName := ⟨RX6, "keep", "(LSketchSpans$Sketch;)I"⟩
abbrev cX6_isSort : ByteArray := prog_1_method_18_code
def yX6_isSort : MethodName := ⟨RX6, "isSort", "(I)Z"⟩
abbrev cX6_isSize : ByteArray := prog_1_method_19_code
def yX6_isSize : MethodName := ⟨RX6, "isSize", "(II)Z"⟩
abbrev cX6_isSeed : ByteArray := prog_1_method_20_code
def yX6_isSeed : MethodName := ⟨RX6, "isSeed", "(I)Z"⟩
abbrev cX6_isKey : ByteArray := prog_1_method_21_code
def yX6_isKey : MethodName := ⟨RX6, "isKey", "(I)Z"⟩
abbrev cX6_newSketch : ByteArray := prog_1_method_22_code
def yX6_newSketch : MethodName := ⟨RX6, "newSketch", "(III)LSketchSpans$Sketch;"⟩
abbrev cX6_hashOf : ByteArray := prog_1_method_23_code
def yX6_hashOf : MethodName := ⟨RX6, "hashOf", "(III)I"⟩
abbrev cX6_placeOf : ByteArray := prog_1_method_24_code
def yX6_placeOf : MethodName := ⟨RX6, "placeOf", "(IIII)I"⟩
abbrev cX6_copyRow : ByteArray := prog_1_method_25_code
def yX6_copyRow : MethodName := ⟨RX6, "copyRow", "([I[I)V"⟩
abbrev cX6_clearRow : ByteArray := prog_1_method_26_code
def yX6_clearRow : MethodName := ⟨RX6, "clearRow", "([I)V"⟩
abbrev cX6_countNotZero : ByteArray := prog_1_method_27_code
def yX6_countNotZero : MethodName := ⟨RX6, "countNotZero", "([I)I"⟩
abbrev cX6_placeFor : ByteArray := prog_1_method_28_code
def yX6_placeFor : MethodName := ⟨RX6, "placeFor", "(I[II)I"⟩
abbrev cX6_standsAt : ByteArray := prog_1_method_29_code
def yX6_standsAt : MethodName := ⟨RX6, "standsAt", "(II[II)Z"⟩
def RX7 : String := "SketchSpansModel"
def TX7 : u_T := fun k => match k with
  | 0 => ("SketchSpansModel", "thrown", "I", false)
  | 1 => ("SketchSpansModel", "sketches", "I", false)
  | 2 => ("SketchSpansModel", "sort", "[I", true)
  | 3 => ("SketchSpansModel", "size", "[I", true)
  | 4 => ("SketchSpansModel", "seed", "[I", true)
  | 5 => ("SketchSpansModel", "total", "[I", true)
  | 6 => ("SketchSpansModel", "moved", "[I", true)
  | 7 => ("SketchSpansModel", "lost", "[I", true)
  | 8 => ("SketchSpansModel", "row", "[I", true)
  | _ => ("SketchSpansModel", "sorted", "[I", true)
def tyX7 : Nat → FieldType := fun k => match k with
  | 0 => .int
  | 1 => .int
  | 2 => .array .int
  | 3 => .array .int
  | 4 => .array .int
  | 5 => .array .int
  | 6 => .array .int
  | 7 => .array .int
  | 8 => .array .int
  | _ => .array .int
abbrev wsX70 : List Cond := u_ws RX7 TX7 10
theorem nmX7 : ∀ a, a < 10 → ∀ b, b < 10 → a ≠ b → (TX7 a).2.1 ≠ (TX7 b).2.1 := by decide +kernel
theorem tyX7_ok : ∀ k, k < 10 → parseFieldDescriptor (TX7 k).2.2.1 = some (tyX7 k) := by decide +kernel
abbrev cX7_in : ByteArray := prog_9_method_2_code
def yX7_in : MethodName := ⟨RX7, "in", "(III)Z"⟩
abbrev cX7_init : ByteArray := prog_9_method_3_code
def yX7_init : MethodName := ⟨RX7, "<init>", "()V"⟩
abbrev cX7_none : ByteArray := prog_9_method_4_code
def yX7_none : MethodName := ⟨RX7, "none", "(I)Z"⟩
abbrev cX7_hashOf : ByteArray := prog_9_method_5_code
def yX7_hashOf : MethodName := ⟨RX7, "hashOf", "(III)I"⟩
abbrev cX7_sketch : ByteArray := prog_9_method_6_code
def yX7_sketch : MethodName := ⟨RX7, "sketch", "(III)I"⟩
abbrev cX7_empty : ByteArray := prog_9_method_7_code
def yX7_empty : MethodName := ⟨RX7, "empty", "(I)V"⟩
abbrev cX7_copy : ByteArray := prog_9_method_8_code
def yX7_copy : MethodName := ⟨RX7, "copy", "(I)I"⟩
abbrev cX7_clear : ByteArray := prog_9_method_9_code
def yX7_clear : MethodName := ⟨RX7, "clear", "(I)I"⟩
abbrev cX7_many : ByteArray := prog_9_method_10_code
def yX7_many : MethodName := ⟨RX7, "many", "(I)I"⟩
abbrev cX7_at : ByteArray := prog_9_method_11_code
def yX7_at : MethodName := ⟨RX7, "at", "(II)I"⟩
abbrev cX7_counterOf : ByteArray := prog_9_method_12_code
def yX7_counterOf : MethodName := ⟨RX7, "counterOf", "(II)I"⟩
abbrev cX7_add : ByteArray := prog_9_method_13_code
def yX7_add : MethodName := ⟨RX7, "add", "(III)V"⟩
abbrev cX7_lessen : ByteArray := prog_9_method_14_code
def yX7_lessen : MethodName := ⟨RX7, "lessen", "(II)V"⟩
abbrev cX7_comeHeavy : ByteArray := prog_9_method_15_code
def yX7_comeHeavy : MethodName := ⟨RX7, "comeHeavy", "(III)V"⟩
abbrev cX7_joinHeavy : ByteArray := prog_9_method_16_code
def yX7_joinHeavy : MethodName := ⟨RX7, "joinHeavy", "(II)V"⟩
abbrev cX7_cell : ByteArray := prog_9_method_17_code
def yX7_cell : MethodName := ⟨RX7, "cell", "(III)I"⟩
abbrev cX7_keep : ByteArray := prog_9_method_18_code
def yX7_keep : MethodName := ⟨RX7, "keep", "(II)V"⟩
abbrev cX7_keyAt : ByteArray := prog_9_method_19_code
def yX7_keyAt : MethodName := ⟨RX7, "keyAt", "(III)I"⟩
abbrev cX7_put : ByteArray := prog_9_method_20_code
def yX7_put : MethodName := ⟨RX7, "put", "(LSketchSpansModel;III)V"⟩
abbrev cX7_weightTo : ByteArray := prog_9_method_21_code
def yX7_weightTo : MethodName := ⟨RX7, "weightTo", "(II)I"⟩
abbrev cX7_comeOnce : ByteArray := prog_9_method_22_code
def yX7_comeOnce : MethodName := ⟨RX7, "comeOnce", "(III)V"⟩
abbrev cX7_come : ByteArray := prog_9_method_23_code
def yX7_come : MethodName := ⟨RX7, "come", "(III)I"⟩
abbrev cX7_merge : ByteArray := prog_9_method_24_code
def yX7_merge : MethodName := ⟨RX7, "merge", "(II)I"⟩
abbrev cX7_hash : ByteArray := prog_9_method_25_code
def yX7_hash : MethodName := ⟨RX7, "hash", "(III)I"⟩
abbrev cX7_isBad : ByteArray := prog_9_method_26_code
def yX7_isBad : MethodName := ⟨RX7, "isBad", "(IIZ)Z"⟩
abbrev cX7_isOf : ByteArray := prog_9_method_27_code
def yX7_isOf : MethodName := ⟨RX7, "isOf", "(III)Z"⟩
abbrev cX7_numberOf : ByteArray := prog_9_method_28_code
def yX7_numberOf : MethodName := ⟨RX7, "numberOf", "(II)I"⟩
abbrev cX7_low : ByteArray := prog_9_method_29_code
def yX7_low : MethodName := ⟨RX7, "low", "(II)I"⟩
abbrev cX7_high : ByteArray := prog_9_method_30_code
def yX7_high : MethodName := ⟨RX7, "high", "(II)I"⟩
abbrev cX7_has : ByteArray := prog_9_method_31_code
def yX7_has : MethodName := ⟨RX7, "has", "(II)I"⟩
abbrev cX7_distinct : ByteArray := prog_9_method_32_code
def yX7_distinct : MethodName := ⟨RX7, "distinct", "(I)I"⟩
abbrev cX7_quantile : ByteArray := prog_9_method_33_code
def yX7_quantile : MethodName := ⟨RX7, "quantile", "(II)I"⟩
abbrev cX7_keptOf : ByteArray := prog_9_method_34_code
def yX7_keptOf : MethodName := ⟨RX7, "keptOf", "(I)I"⟩
abbrev cX7_told : ByteArray := prog_9_method_35_code
def yX7_told : MethodName := ⟨RX7, "told", "(II)I"⟩
abbrev cX7_nth : ByteArray := prog_9_method_36_code
def yX7_nth : MethodName := ⟨RX7, "nth", "(III)I"⟩
abbrev cX7_kept : ByteArray := prog_9_method_37_code
def yX7_kept : MethodName := ⟨RX7, "kept", "(III)I"⟩
abbrev cX7_count : ByteArray := prog_9_method_38_code
def yX7_count : MethodName := ⟨RX7, "count", "()I"⟩
def RJ9 : String := "java/lang/Math"
def TJ9 : u_T := fun k => match k with
  | _ => ("", "", "", false)
def tyJ9 : Nat → FieldType := fun k => match k with
  | _ => .int
abbrev wsJ90 : List Cond := u_ws RJ9 TJ9 0
theorem nmJ9 : ∀ a, a < 0 → ∀ b, b < 0 → a ≠ b → (TJ9 a).2.1 ≠ (TJ9 b).2.1 := by decide +kernel
theorem tyJ9_ok : ∀ k, k < 0 → parseFieldDescriptor (TJ9 k).2.2.1 = some (tyJ9 k) := by decide +kernel
abbrev cJ9_abs_0f7a4 : ByteArray := prog_10_method_59_code
def yJ9_abs_0f7a4 : MethodName := ⟨RJ9, "abs", "(I)I"⟩
abbrev cJ9_max_7cf53 : ByteArray := prog_10_method_65_code
def yJ9_max_7cf53 : MethodName := ⟨RJ9, "max", "(II)I"⟩
abbrev cJ9_min_7cf53 : ByteArray := prog_10_method_69_code
def yJ9_min_7cf53 : MethodName := ⟨RJ9, "min", "(II)I"⟩
def RL : String := "SketchSpansLaw"
abbrev cL_law : ByteArray := code
def yL_law : MethodName := ⟨RL, "law", "([I)Z"⟩
abbrev vwCl : List vw_C := [(RX0, TX0, 6), (RX1, TX1, 9), (RX2, TX2, 7), (RX3, TX3, 9), (RX5, TX5, 6), (RX6, TX6, 2), (RX7, TX7, 10)]
end
section
-- the words that a method's steps use: all good words of the tables
def TT : List Cond := lw_tbl.filter goodWord
theorem tt_of {w : Cond} (h1 : w ∈ lw_tbl) (h2 : goodWord w = true) : w ∈ TT := List.mem_filter.mpr ⟨h1, h2⟩
theorem tt_good : GoodIn lw_tbl TT := fun w h => ⟨(List.mem_filter.mp h).1, good_of_word (List.mem_filter.mp h).2⟩
theorem tt_t {w : Cond} (h1 : w ∈ tables_1) (h2 : goodWord w = true) : w ∈ TT := tt_of (List.mem_append_right _ h1) h2
theorem tt_1 {w : Cond} (h1 : w ∈ tables_1_1) (h2 : goodWord w = true) : w ∈ TT := tt_t (List.mem_append_left _ h1) h2
theorem tt_2 {w : Cond} (h1 : w ∈ tables_1_2) (h2 : goodWord w = true) : w ∈ TT := tt_t (List.mem_append_right _ (List.mem_append_left _ h1)) h2
theorem tt_3 {w : Cond} (h1 : w ∈ tables_1_3) (h2 : goodWord w = true) : w ∈ TT := tt_t (List.mem_append_right _ (List.mem_append_right _ (List.mem_append_left _ h1))) h2
theorem tt_4 {w : Cond} (h1 : w ∈ tables_1_4) (h2 : goodWord w = true) : w ∈ TT := tt_t (List.mem_append_right _ (List.mem_append_right _ (List.mem_append_right _ h1))) h2
theorem tt_s {w : Cond} (h1 : w ∈ k2_sels lw_privs) (h2 : goodWord w = true) : w ∈ TT := tt_of (List.mem_append_left _ h1) h2
theorem kw_0 : (Cond.classLink RL 7 RX6) ∈ TT := tt_1 (List.mem_of_getElem? (i := 10) (by decide +kernel)) rfl
theorem kw_1 : (Cond.instantiable RX6 2) ∈ TT := tt_1 (List.mem_of_getElem? (i := 11) (by decide +kernel)) rfl
theorem kw_2 : (Cond.initialized RX6) ∈ TT := tt_1 (List.mem_of_getElem? (i := 1) (by decide +kernel)) rfl
theorem kw_3 : (Cond.classLink RL 10 RX7) ∈ TT := tt_3 (List.mem_of_getElem? (i := 98) (by decide +kernel)) rfl
theorem kw_4 : (Cond.instantiable RX7 10) ∈ TT := tt_3 (List.mem_of_getElem? (i := 99) (by decide +kernel)) rfl
theorem kw_5 : (Cond.initialized RX7) ∈ TT := tt_1 (List.mem_of_getElem? (i := 2) (by decide +kernel)) rfl
theorem kw_6 : (Cond.methodLink RL 9 yX6_init) ∈ TT := tt_1 (List.mem_of_getElem? (i := 12) (by decide +kernel)) rfl
theorem kw_7 : (Cond.instanceMethod yX6_init) ∈ TT := tt_1 (List.mem_of_getElem? (i := 13) (by decide +kernel)) rfl
set_option maxRecDepth 20000 in
theorem kw_8 : (Cond.code yX6_init cX6_init 1 none) ∈ TT := tt_1 (List.mem_of_getElem? (i := 14) rfl) rfl
theorem kw_9 : (Cond.methodLink RX6 1 objectInit) ∈ TT := tt_1 (List.mem_of_getElem? (i := 15) (by decide +kernel)) rfl
theorem kw_10 : (Cond.instanceMethod objectInit) ∈ TT := tt_1 (List.mem_of_getElem? (i := 16) (by decide +kernel)) rfl
set_option maxRecDepth 20000 in
theorem kw_11 : (Cond.code objectInit ⟨#[0xb1]⟩ 1 none) ∈ TT := tt_1 (List.mem_of_getElem? (i := 17) rfl) rfl
theorem kw_12 : (Cond.classLink RX6 9 RX4) ∈ TT := tt_1 (List.mem_of_getElem? (i := 18) (by decide +kernel)) rfl
theorem kw_13 : (Cond.fieldLink RX6 11 "SketchSpans" "sketches" "[LSketchSpans$Sketch;") ∈ TT := tt_1 (List.mem_of_getElem? (i := 20) (by decide +kernel)) rfl
theorem kw_14 : (Cond.fieldLink RX6 15 "SketchSpans" "made" "I") ∈ TT := tt_1 (List.mem_of_getElem? (i := 21) (by decide +kernel)) rfl
theorem kw_15 : (Cond.methodLink RL 12 yX7_init) ∈ TT := tt_3 (List.mem_of_getElem? (i := 100) (by decide +kernel)) rfl
theorem kw_16 : (Cond.instanceMethod yX7_init) ∈ TT := tt_3 (List.mem_of_getElem? (i := 101) (by decide +kernel)) rfl
set_option maxRecDepth 20000 in
theorem kw_17 : (Cond.code yX7_init cX7_init 1 none) ∈ TT := tt_3 (List.mem_of_getElem? (i := 102) rfl) rfl
theorem kw_18 : (Cond.methodLink RX7 7 objectInit) ∈ TT := tt_3 (List.mem_of_getElem? (i := 103) (by decide +kernel)) rfl
theorem kw_19 : (Cond.arrayClass .int) ∈ TT := tt_1 (List.mem_of_getElem? (i := 111) (by decide +kernel)) rfl
theorem kw_20 : (Cond.fieldLink RX7 13 "SketchSpansModel" "sort" "[I") ∈ TT := tt_3 (List.mem_of_getElem? (i := 106) (by decide +kernel)) rfl
theorem kw_21 : (Cond.fieldLink RX7 17 "SketchSpansModel" "size" "[I") ∈ TT := tt_3 (List.mem_of_getElem? (i := 107) (by decide +kernel)) rfl
theorem kw_22 : (Cond.fieldLink RX7 20 "SketchSpansModel" "seed" "[I") ∈ TT := tt_3 (List.mem_of_getElem? (i := 108) (by decide +kernel)) rfl
theorem kw_23 : (Cond.fieldLink RX7 23 "SketchSpansModel" "total" "[I") ∈ TT := tt_3 (List.mem_of_getElem? (i := 109) (by decide +kernel)) rfl
theorem kw_24 : (Cond.fieldLink RX7 26 "SketchSpansModel" "moved" "[I") ∈ TT := tt_3 (List.mem_of_getElem? (i := 110) (by decide +kernel)) rfl
theorem kw_25 : (Cond.fieldLink RX7 29 "SketchSpansModel" "lost" "[I") ∈ TT := tt_3 (List.mem_of_getElem? (i := 111) (by decide +kernel)) rfl
theorem kw_26 : (Cond.fieldLink RX7 32 "SketchSpansModel" "row" "[I") ∈ TT := tt_3 (List.mem_of_getElem? (i := 112) (by decide +kernel)) rfl
theorem kw_27 : (Cond.fieldLink RX7 35 "SketchSpansModel" "sorted" "[I") ∈ TT := tt_3 (List.mem_of_getElem? (i := 113) (by decide +kernel)) rfl
theorem kw_28 : (Cond.fieldLink RX7 1 "SketchSpansModel" "thrown" "I") ∈ TT := tt_3 (List.mem_of_getElem? (i := 104) (by decide +kernel)) rfl
theorem kw_29 : (Cond.methodLink RL 13 yX6_sketch) ∈ TT := tt_1 (List.mem_of_getElem? (i := 27) (by decide +kernel)) rfl
theorem kw_30 : (Cond.instanceMethod yX6_sketch) ∈ TT := tt_1 (List.mem_of_getElem? (i := 28) (by decide +kernel)) rfl
theorem kw_31 : (Cond.selects RX6 yX6_sketch yX6_sketch) ∈ TT := tt_1 (List.mem_of_getElem? (i := 29) (by decide +kernel)) rfl
set_option maxRecDepth 20000 in
theorem kw_32 : (Cond.code yX6_sketch cX6_sketch 4 (some .int)) ∈ TT := tt_1 (List.mem_of_getElem? (i := 30) rfl) rfl
theorem kw_33 : (Cond.methodLink RX6 19 yX6_isSort) ∈ TT := tt_1 (List.mem_of_getElem? (i := 31) (by decide +kernel)) rfl
theorem kw_34 : (Cond.static yX6_isSort) ∈ TT := tt_1 (List.mem_of_getElem? (i := 32) (by decide +kernel)) rfl
set_option maxRecDepth 20000 in
theorem kw_35 : (Cond.code yX6_isSort cX6_isSort 1 (some .boolean)) ∈ TT := tt_1 (List.mem_of_getElem? (i := 33) rfl) rfl
theorem kw_36 : (Cond.methodLink RX6 23 yX6_isSize) ∈ TT := tt_1 (List.mem_of_getElem? (i := 34) (by decide +kernel)) rfl
theorem kw_37 : (Cond.static yX6_isSize) ∈ TT := tt_1 (List.mem_of_getElem? (i := 35) (by decide +kernel)) rfl
set_option maxRecDepth 20000 in
theorem kw_38 : (Cond.code yX6_isSize cX6_isSize 2 (some .boolean)) ∈ TT := tt_1 (List.mem_of_getElem? (i := 36) rfl) rfl
theorem kw_39 : (Cond.fieldLink RX6 119 "SketchSpans" "SMALLEST_SIZES" "[I") ∈ TT := tt_1 (List.mem_of_getElem? (i := 37) (by decide +kernel)) rfl
theorem kw_40 : (Cond.fieldLink RX6 123 "SketchSpans" "LARGEST_SIZES" "[I") ∈ TT := tt_1 (List.mem_of_getElem? (i := 39) (by decide +kernel)) rfl
theorem kw_41 : (Cond.methodLink RX6 27 yX6_isSeed) ∈ TT := tt_1 (List.mem_of_getElem? (i := 41) (by decide +kernel)) rfl
theorem kw_42 : (Cond.static yX6_isSeed) ∈ TT := tt_1 (List.mem_of_getElem? (i := 42) (by decide +kernel)) rfl
set_option maxRecDepth 20000 in
theorem kw_43 : (Cond.code yX6_isSeed cX6_isSeed 1 (some .boolean)) ∈ TT := tt_1 (List.mem_of_getElem? (i := 43) rfl) rfl
theorem kw_44 : (Cond.methodLink RX6 30 yX6_newSketch) ∈ TT := tt_1 (List.mem_of_getElem? (i := 44) (by decide +kernel)) rfl
theorem kw_45 : (Cond.static yX6_newSketch) ∈ TT := tt_1 (List.mem_of_getElem? (i := 45) (by decide +kernel)) rfl
set_option maxRecDepth 20000 in
theorem kw_46 : (Cond.code yX6_newSketch cX6_newSketch 3 (some (.object "SketchSpans$Sketch"))) ∈ TT := tt_1 (List.mem_of_getElem? (i := 46) rfl) rfl
theorem kw_47 : (Cond.classLink RX6 126 RX1) ∈ TT := tt_1 (List.mem_of_getElem? (i := 47) (by decide +kernel)) rfl
theorem kw_48 : (Cond.instantiable RX1 9) ∈ TT := tt_1 (List.mem_of_getElem? (i := 48) (by decide +kernel)) rfl
theorem kw_49 : (Cond.initialized RX1) ∈ TT := tt_1 (List.mem_of_getElem? (i := 4) (by decide +kernel)) rfl
theorem kw_50 : (Cond.classLink RX6 130 RX5) ∈ TT := tt_1 (List.mem_of_getElem? (i := 112) (by decide +kernel)) rfl
theorem kw_51 : (Cond.instantiable RX5 6) ∈ TT := tt_1 (List.mem_of_getElem? (i := 113) (by decide +kernel)) rfl
theorem kw_52 : (Cond.initialized RX5) ∈ TT := tt_1 (List.mem_of_getElem? (i := 5) (by decide +kernel)) rfl
theorem kw_53 : (Cond.classLink RX6 133 RX0) ∈ TT := tt_1 (List.mem_of_getElem? (i := 127) (by decide +kernel)) rfl
theorem kw_54 : (Cond.instantiable RX0 6) ∈ TT := tt_1 (List.mem_of_getElem? (i := 128) (by decide +kernel)) rfl
theorem kw_55 : (Cond.initialized RX0) ∈ TT := tt_1 (List.mem_of_getElem? (i := 6) (by decide +kernel)) rfl
theorem kw_56 : (Cond.classLink RX6 136 RX2) ∈ TT := tt_1 (List.mem_of_getElem? (i := 142) (by decide +kernel)) rfl
theorem kw_57 : (Cond.instantiable RX2 7) ∈ TT := tt_1 (List.mem_of_getElem? (i := 143) (by decide +kernel)) rfl
theorem kw_58 : (Cond.initialized RX2) ∈ TT := tt_1 (List.mem_of_getElem? (i := 7) (by decide +kernel)) rfl
theorem kw_59 : (Cond.classLink RX6 139 RX3) ∈ TT := tt_1 (List.mem_of_getElem? (i := 160) (by decide +kernel)) rfl
theorem kw_60 : (Cond.instantiable RX3 9) ∈ TT := tt_1 (List.mem_of_getElem? (i := 161) (by decide +kernel)) rfl
theorem kw_61 : (Cond.initialized RX3) ∈ TT := tt_1 (List.mem_of_getElem? (i := 8) (by decide +kernel)) rfl
theorem kw_62 : (Cond.methodLink RX6 128 yX1_init) ∈ TT := tt_1 (List.mem_of_getElem? (i := 49) (by decide +kernel)) rfl
theorem kw_63 : (Cond.instanceMethod yX1_init) ∈ TT := tt_1 (List.mem_of_getElem? (i := 50) (by decide +kernel)) rfl
set_option maxRecDepth 20000 in
theorem kw_64 : (Cond.code yX1_init cX1_init 3 none) ∈ TT := tt_1 (List.mem_of_getElem? (i := 51) rfl) rfl
theorem kw_65 : (Cond.fieldLink RX1 9 "SketchSpans$Heavy" "keys" "[I") ∈ TT := tt_1 (List.mem_of_getElem? (i := 56) (by decide +kernel)) rfl
theorem kw_66 : (Cond.fieldLink RX1 15 "SketchSpans$Heavy" "numbers" "[I") ∈ TT := tt_1 (List.mem_of_getElem? (i := 57) (by decide +kernel)) rfl
theorem kw_67 : (Cond.fieldLink RX1 18 "SketchSpans$Heavy" "held" "I") ∈ TT := tt_1 (List.mem_of_getElem? (i := 58) (by decide +kernel)) rfl
theorem kw_68 : (Cond.fieldLink RX1 22 "SketchSpans$Heavy" "lost" "I") ∈ TT := tt_1 (List.mem_of_getElem? (i := 59) (by decide +kernel)) rfl
theorem kw_69 : (Cond.methodLink RX1 3 yX4_init) ∈ TT := tt_1 (List.mem_of_getElem? (i := 52) (by decide +kernel)) rfl
theorem kw_70 : (Cond.instanceMethod yX4_init) ∈ TT := tt_1 (List.mem_of_getElem? (i := 53) (by decide +kernel)) rfl
theorem kw_71 : (Cond.initialized RX4) ∈ TT := tt_1 (List.mem_of_getElem? (i := 3) (by decide +kernel)) rfl
set_option maxRecDepth 20000 in
theorem kw_72 : (Cond.code yX4_init cX4_init 4 none) ∈ TT := tt_1 (List.mem_of_getElem? (i := 54) rfl) rfl
theorem kw_73 : (Cond.methodLink RX4 3 objectInit) ∈ TT := tt_1 (List.mem_of_getElem? (i := 55) (by decide +kernel)) rfl
theorem kw_74 : (Cond.fieldLink RX4 9 "SketchSpans$Sketch" "sort" "I") ∈ TT := tt_1 (List.mem_of_getElem? (i := 60) (by decide +kernel)) rfl
theorem kw_75 : (Cond.fieldLink RX4 15 "SketchSpans$Sketch" "size" "I") ∈ TT := tt_1 (List.mem_of_getElem? (i := 62) (by decide +kernel)) rfl
theorem kw_76 : (Cond.fieldLink RX4 18 "SketchSpans$Sketch" "seed" "I") ∈ TT := tt_1 (List.mem_of_getElem? (i := 74) (by decide +kernel)) rfl
theorem kw_77 : (Cond.fieldLink RX4 21 "SketchSpans$Sketch" "total" "I") ∈ TT := tt_1 (List.mem_of_getElem? (i := 86) (by decide +kernel)) rfl
theorem kw_78 : (Cond.fieldLink RX4 24 "SketchSpans$Sketch" "moved" "I") ∈ TT := tt_1 (List.mem_of_getElem? (i := 90) (by decide +kernel)) rfl
theorem kw_79 : (Cond.methodLink RX6 132 yX5_init) ∈ TT := tt_1 (List.mem_of_getElem? (i := 114) (by decide +kernel)) rfl
theorem kw_80 : (Cond.instanceMethod yX5_init) ∈ TT := tt_1 (List.mem_of_getElem? (i := 115) (by decide +kernel)) rfl
set_option maxRecDepth 20000 in
theorem kw_81 : (Cond.code yX5_init cX5_init 3 none) ∈ TT := tt_1 (List.mem_of_getElem? (i := 116) rfl) rfl
theorem kw_82 : (Cond.fieldLink RX5 9 "SketchSpans$Table" "cells" "[I") ∈ TT := tt_1 (List.mem_of_getElem? (i := 118) (by decide +kernel)) rfl
theorem kw_83 : (Cond.methodLink RX5 3 yX4_init) ∈ TT := tt_1 (List.mem_of_getElem? (i := 117) (by decide +kernel)) rfl
theorem kw_84 : (Cond.methodLink RX6 135 yX0_init) ∈ TT := tt_1 (List.mem_of_getElem? (i := 129) (by decide +kernel)) rfl
theorem kw_85 : (Cond.instanceMethod yX0_init) ∈ TT := tt_1 (List.mem_of_getElem? (i := 130) (by decide +kernel)) rfl
set_option maxRecDepth 20000 in
theorem kw_86 : (Cond.code yX0_init cX0_init 3 none) ∈ TT := tt_1 (List.mem_of_getElem? (i := 131) rfl) rfl
theorem kw_87 : (Cond.fieldLink RX0 9 "SketchSpans$Filter" "bits" "[I") ∈ TT := tt_1 (List.mem_of_getElem? (i := 133) (by decide +kernel)) rfl
theorem kw_88 : (Cond.methodLink RX0 3 yX4_init) ∈ TT := tt_1 (List.mem_of_getElem? (i := 132) (by decide +kernel)) rfl
theorem kw_89 : (Cond.methodLink RX6 138 yX2_init) ∈ TT := tt_1 (List.mem_of_getElem? (i := 144) (by decide +kernel)) rfl
theorem kw_90 : (Cond.instanceMethod yX2_init) ∈ TT := tt_1 (List.mem_of_getElem? (i := 145) (by decide +kernel)) rfl
set_option maxRecDepth 20000 in
theorem kw_91 : (Cond.code yX2_init cX2_init 3 none) ∈ TT := tt_1 (List.mem_of_getElem? (i := 146) rfl) rfl
theorem kw_92 : (Cond.fieldLink RX2 9 "SketchSpans$Least" "hashes" "[I") ∈ TT := tt_1 (List.mem_of_getElem? (i := 148) (by decide +kernel)) rfl
theorem kw_93 : (Cond.fieldLink RX2 15 "SketchSpans$Least" "held" "I") ∈ TT := tt_1 (List.mem_of_getElem? (i := 149) (by decide +kernel)) rfl
theorem kw_94 : (Cond.methodLink RX2 3 yX4_init) ∈ TT := tt_1 (List.mem_of_getElem? (i := 147) (by decide +kernel)) rfl
theorem kw_95 : (Cond.methodLink RX6 141 yX3_init) ∈ TT := tt_1 (List.mem_of_getElem? (i := 162) (by decide +kernel)) rfl
theorem kw_96 : (Cond.instanceMethod yX3_init) ∈ TT := tt_1 (List.mem_of_getElem? (i := 163) (by decide +kernel)) rfl
set_option maxRecDepth 20000 in
theorem kw_97 : (Cond.code yX3_init cX3_init 3 none) ∈ TT := tt_1 (List.mem_of_getElem? (i := 164) rfl) rfl
theorem kw_98 : (Cond.fieldLink RX3 11 "SketchSpans$Ranks" "keys" "[I") ∈ TT := tt_1 (List.mem_of_getElem? (i := 166) (by decide +kernel)) rfl
theorem kw_99 : (Cond.fieldLink RX3 15 "SketchSpans$Ranks" "lengths" "[I") ∈ TT := tt_1 (List.mem_of_getElem? (i := 167) (by decide +kernel)) rfl
theorem kw_100 : (Cond.fieldLink RX3 18 "SketchSpans$Ranks" "turns" "[I") ∈ TT := tt_1 (List.mem_of_getElem? (i := 168) (by decide +kernel)) rfl
theorem kw_101 : (Cond.fieldLink RX3 21 "SketchSpans$Ranks" "error" "I") ∈ TT := tt_1 (List.mem_of_getElem? (i := 169) (by decide +kernel)) rfl
theorem kw_102 : (Cond.methodLink RX3 3 yX4_init) ∈ TT := tt_1 (List.mem_of_getElem? (i := 165) (by decide +kernel)) rfl
theorem kw_103 : (Cond.methodLink RX6 34 yX6_keep) ∈ TT := tt_1 (List.mem_of_getElem? (i := 184) (by decide +kernel)) rfl
theorem kw_104 : (Cond.instanceMethod yX6_keep) ∈ TT := tt_1 (List.mem_of_getElem? (i := 186) (by decide +kernel)) rfl
theorem kw_105 : (Cond.selects RX6 yX6_keep yX6_keep) ∈ TT := tt_s (List.mem_of_getElem? (i := 0) (by decide +kernel)) rfl
set_option maxRecDepth 20000 in
theorem kw_106 : (Cond.code yX6_keep cX6_keep 2 (some .int)) ∈ TT := tt_1 (List.mem_of_getElem? (i := 187) rfl) rfl
theorem kw_107 : (Cond.methodLink RL 17 yX7_sketch) ∈ TT := tt_3 (List.mem_of_getElem? (i := 135) (by decide +kernel)) rfl
theorem kw_108 : (Cond.instanceMethod yX7_sketch) ∈ TT := tt_3 (List.mem_of_getElem? (i := 136) (by decide +kernel)) rfl
theorem kw_109 : (Cond.selects RX7 yX7_sketch yX7_sketch) ∈ TT := tt_3 (List.mem_of_getElem? (i := 137) (by decide +kernel)) rfl
set_option maxRecDepth 20000 in
theorem kw_110 : (Cond.code yX7_sketch cX7_sketch 5 (some .int)) ∈ TT := tt_3 (List.mem_of_getElem? (i := 138) rfl) rfl
theorem kw_111 : (Cond.fieldLink RX7 38 "SketchSpansModel" "sketches" "I") ∈ TT := tt_3 (List.mem_of_getElem? (i := 105) (by decide +kernel)) rfl
theorem kw_112 : (Cond.methodLink RX7 41 yX7_in) ∈ TT := tt_3 (List.mem_of_getElem? (i := 139) (by decide +kernel)) rfl
theorem kw_113 : (Cond.static yX7_in) ∈ TT := tt_3 (List.mem_of_getElem? (i := 140) (by decide +kernel)) rfl
set_option maxRecDepth 20000 in
theorem kw_114 : (Cond.code yX7_in cX7_in 3 (some .boolean)) ∈ TT := tt_3 (List.mem_of_getElem? (i := 141) rfl) rfl
theorem kw_115 : (Cond.methodLink RX7 46 yX7_empty) ∈ TT := tt_3 (List.mem_of_getElem? (i := 142) (by decide +kernel)) rfl
theorem kw_116 : (Cond.instanceMethod yX7_empty) ∈ TT := tt_3 (List.mem_of_getElem? (i := 144) (by decide +kernel)) rfl
theorem kw_117 : (Cond.selects RX7 yX7_empty yX7_empty) ∈ TT := tt_s (List.mem_of_getElem? (i := 14) (by decide +kernel)) rfl
set_option maxRecDepth 20000 in
theorem kw_118 : (Cond.code yX7_empty cX7_empty 3 none) ∈ TT := tt_3 (List.mem_of_getElem? (i := 145) rfl) rfl
theorem kw_119 : (Cond.methodLink RL 18 yX6_copy) ∈ TT := tt_1 (List.mem_of_getElem? (i := 188) (by decide +kernel)) rfl
theorem kw_120 : (Cond.instanceMethod yX6_copy) ∈ TT := tt_1 (List.mem_of_getElem? (i := 189) (by decide +kernel)) rfl
theorem kw_121 : (Cond.selects RX6 yX6_copy yX6_copy) ∈ TT := tt_1 (List.mem_of_getElem? (i := 190) (by decide +kernel)) rfl
set_option maxRecDepth 20000 in
theorem kw_122 : (Cond.code yX6_copy cX6_copy 3 (some .int)) ∈ TT := tt_1 (List.mem_of_getElem? (i := 191) rfl) rfl
theorem kw_123 : (Cond.methodLink RX6 38 yX6_find) ∈ TT := tt_1 (List.mem_of_getElem? (i := 192) (by decide +kernel)) rfl
theorem kw_124 : (Cond.instanceMethod yX6_find) ∈ TT := tt_1 (List.mem_of_getElem? (i := 194) (by decide +kernel)) rfl
theorem kw_125 : (Cond.selects RX6 yX6_find yX6_find) ∈ TT := tt_s (List.mem_of_getElem? (i := 1) (by decide +kernel)) rfl
set_option maxRecDepth 20000 in
theorem kw_126 : (Cond.code yX6_find cX6_find 2 (some (.object "SketchSpans$Sketch"))) ∈ TT := tt_1 (List.mem_of_getElem? (i := 195) rfl) rfl
theorem kw_127 : (Cond.methodLink RX6 42 ⟨"SketchSpans$Sketch", "twin", "()LSketchSpans$Sketch;"⟩) ∈ TT := tt_1 (List.mem_of_getElem? (i := 196) (by decide +kernel)) rfl
theorem kw_128 : (Cond.sameMethod "SketchSpans$Sketch" "SketchSpans$Sketch" "twin" "()LSketchSpans$Sketch;") ∈ TT := tt_1 (List.mem_of_getElem? (i := 198) (by decide +kernel)) rfl
theorem kw_129 : (Cond.selects RX0 ⟨"SketchSpans$Sketch", "twin", "()LSketchSpans$Sketch;"⟩ yX0_twin) ∈ TT := tt_1 (List.mem_of_getElem? (i := 199) (by decide +kernel)) rfl
theorem kw_130 : (Cond.instanceMethod yX0_twin) ∈ TT := tt_1 (List.mem_of_getElem? (i := 200) (by decide +kernel)) rfl
set_option maxRecDepth 20000 in
theorem kw_131 : (Cond.code yX0_twin cX0_twin 2 (some (.object "SketchSpans$Sketch"))) ∈ TT := tt_1 (List.mem_of_getElem? (i := 201) rfl) rfl
theorem kw_132 : (Cond.classLink RX0 10 RX0) ∈ TT := tt_1 (List.mem_of_getElem? (i := 202) (by decide +kernel)) rfl
theorem kw_133 : (Cond.fieldLink RX0 15 "SketchSpans$Filter" "size" "I") ∈ TT := tt_1 (List.mem_of_getElem? (i := 63) (by decide +kernel)) rfl
theorem kw_134 : (Cond.sameField "SketchSpans$Filter" "SketchSpans$Sketch" "size" "I") ∈ TT := tt_1 (List.mem_of_getElem? (i := 64) (by decide +kernel)) rfl
theorem kw_135 : (Cond.fieldLink RX0 19 "SketchSpans$Filter" "seed" "I") ∈ TT := tt_1 (List.mem_of_getElem? (i := 75) (by decide +kernel)) rfl
theorem kw_136 : (Cond.sameField "SketchSpans$Filter" "SketchSpans$Sketch" "seed" "I") ∈ TT := tt_1 (List.mem_of_getElem? (i := 76) (by decide +kernel)) rfl
theorem kw_137 : (Cond.methodLink RX0 22 yX0_init) ∈ TT := tt_1 (List.mem_of_getElem? (i := 203) (by decide +kernel)) rfl
theorem kw_138 : (Cond.methodLink RX0 25 ⟨"SketchSpans$Filter", "copyTotals", "(LSketchSpans$Sketch;)V"⟩) ∈ TT := tt_1 (List.mem_of_getElem? (i := 204) (by decide +kernel)) rfl
theorem kw_139 : (Cond.sameMethod "SketchSpans$Filter" "SketchSpans$Sketch" "copyTotals" "(LSketchSpans$Sketch;)V") ∈ TT := tt_1 (List.mem_of_getElem? (i := 205) (by decide +kernel)) rfl
theorem kw_140 : (Cond.selects RX0 ⟨"SketchSpans$Filter", "copyTotals", "(LSketchSpans$Sketch;)V"⟩ yX4_copyTotals) ∈ TT := tt_1 (List.mem_of_getElem? (i := 207) (by decide +kernel)) rfl
theorem kw_141 : (Cond.instanceMethod yX4_copyTotals) ∈ TT := tt_1 (List.mem_of_getElem? (i := 208) (by decide +kernel)) rfl
set_option maxRecDepth 20000 in
theorem kw_142 : (Cond.code yX4_copyTotals cX4_copyTotals 2 none) ∈ TT := tt_1 (List.mem_of_getElem? (i := 209) rfl) rfl
theorem kw_143 : (Cond.static yX6_copyRow) ∈ TT := tt_1 (List.mem_of_getElem? (i := 211) (by decide +kernel)) rfl
set_option maxRecDepth 20000 in
theorem kw_144 : (Cond.code yX6_copyRow cX6_copyRow 3 none) ∈ TT := tt_1 (List.mem_of_getElem? (i := 212) rfl) rfl
theorem kw_145 : (Cond.selects RX1 ⟨"SketchSpans$Sketch", "twin", "()LSketchSpans$Sketch;"⟩ yX1_twin) ∈ TT := tt_1 (List.mem_of_getElem? (i := 213) (by decide +kernel)) rfl
theorem kw_146 : (Cond.instanceMethod yX1_twin) ∈ TT := tt_1 (List.mem_of_getElem? (i := 214) (by decide +kernel)) rfl
set_option maxRecDepth 20000 in
theorem kw_147 : (Cond.code yX1_twin cX1_twin 2 (some (.object "SketchSpans$Sketch"))) ∈ TT := tt_1 (List.mem_of_getElem? (i := 215) rfl) rfl
theorem kw_148 : (Cond.classLink RX1 10 RX1) ∈ TT := tt_1 (List.mem_of_getElem? (i := 216) (by decide +kernel)) rfl
theorem kw_149 : (Cond.fieldLink RX1 25 "SketchSpans$Heavy" "size" "I") ∈ TT := tt_1 (List.mem_of_getElem? (i := 65) (by decide +kernel)) rfl
theorem kw_150 : (Cond.sameField "SketchSpans$Heavy" "SketchSpans$Sketch" "size" "I") ∈ TT := tt_1 (List.mem_of_getElem? (i := 66) (by decide +kernel)) rfl
theorem kw_151 : (Cond.fieldLink RX1 28 "SketchSpans$Heavy" "seed" "I") ∈ TT := tt_1 (List.mem_of_getElem? (i := 77) (by decide +kernel)) rfl
theorem kw_152 : (Cond.sameField "SketchSpans$Heavy" "SketchSpans$Sketch" "seed" "I") ∈ TT := tt_1 (List.mem_of_getElem? (i := 78) (by decide +kernel)) rfl
theorem kw_153 : (Cond.methodLink RX1 31 yX1_init) ∈ TT := tt_1 (List.mem_of_getElem? (i := 217) (by decide +kernel)) rfl
theorem kw_154 : (Cond.methodLink RX1 34 ⟨"SketchSpans$Heavy", "copyTotals", "(LSketchSpans$Sketch;)V"⟩) ∈ TT := tt_1 (List.mem_of_getElem? (i := 218) (by decide +kernel)) rfl
theorem kw_155 : (Cond.sameMethod "SketchSpans$Heavy" "SketchSpans$Sketch" "copyTotals" "(LSketchSpans$Sketch;)V") ∈ TT := tt_1 (List.mem_of_getElem? (i := 219) (by decide +kernel)) rfl
theorem kw_156 : (Cond.selects RX1 ⟨"SketchSpans$Heavy", "copyTotals", "(LSketchSpans$Sketch;)V"⟩ yX4_copyTotals) ∈ TT := tt_1 (List.mem_of_getElem? (i := 220) (by decide +kernel)) rfl
theorem kw_157 : (Cond.selects RX2 ⟨"SketchSpans$Sketch", "twin", "()LSketchSpans$Sketch;"⟩ yX2_twin) ∈ TT := tt_1 (List.mem_of_getElem? (i := 222) (by decide +kernel)) rfl
theorem kw_158 : (Cond.instanceMethod yX2_twin) ∈ TT := tt_1 (List.mem_of_getElem? (i := 223) (by decide +kernel)) rfl
set_option maxRecDepth 20000 in
theorem kw_159 : (Cond.code yX2_twin cX2_twin 2 (some (.object "SketchSpans$Sketch"))) ∈ TT := tt_1 (List.mem_of_getElem? (i := 224) rfl) rfl
theorem kw_160 : (Cond.classLink RX2 10 RX2) ∈ TT := tt_1 (List.mem_of_getElem? (i := 225) (by decide +kernel)) rfl
theorem kw_161 : (Cond.fieldLink RX2 19 "SketchSpans$Least" "size" "I") ∈ TT := tt_1 (List.mem_of_getElem? (i := 67) (by decide +kernel)) rfl
theorem kw_162 : (Cond.sameField "SketchSpans$Least" "SketchSpans$Sketch" "size" "I") ∈ TT := tt_1 (List.mem_of_getElem? (i := 68) (by decide +kernel)) rfl
theorem kw_163 : (Cond.fieldLink RX2 22 "SketchSpans$Least" "seed" "I") ∈ TT := tt_1 (List.mem_of_getElem? (i := 79) (by decide +kernel)) rfl
theorem kw_164 : (Cond.sameField "SketchSpans$Least" "SketchSpans$Sketch" "seed" "I") ∈ TT := tt_1 (List.mem_of_getElem? (i := 80) (by decide +kernel)) rfl
theorem kw_165 : (Cond.methodLink RX2 25 yX2_init) ∈ TT := tt_1 (List.mem_of_getElem? (i := 226) (by decide +kernel)) rfl
theorem kw_166 : (Cond.methodLink RX2 28 ⟨"SketchSpans$Least", "copyTotals", "(LSketchSpans$Sketch;)V"⟩) ∈ TT := tt_1 (List.mem_of_getElem? (i := 227) (by decide +kernel)) rfl
theorem kw_167 : (Cond.sameMethod "SketchSpans$Least" "SketchSpans$Sketch" "copyTotals" "(LSketchSpans$Sketch;)V") ∈ TT := tt_1 (List.mem_of_getElem? (i := 228) (by decide +kernel)) rfl
theorem kw_168 : (Cond.selects RX2 ⟨"SketchSpans$Least", "copyTotals", "(LSketchSpans$Sketch;)V"⟩ yX4_copyTotals) ∈ TT := tt_1 (List.mem_of_getElem? (i := 229) (by decide +kernel)) rfl
theorem kw_169 : (Cond.selects RX3 ⟨"SketchSpans$Sketch", "twin", "()LSketchSpans$Sketch;"⟩ yX3_twin) ∈ TT := tt_1 (List.mem_of_getElem? (i := 231) (by decide +kernel)) rfl
theorem kw_170 : (Cond.instanceMethod yX3_twin) ∈ TT := tt_1 (List.mem_of_getElem? (i := 232) (by decide +kernel)) rfl
set_option maxRecDepth 20000 in
theorem kw_171 : (Cond.code yX3_twin cX3_twin 2 (some (.object "SketchSpans$Sketch"))) ∈ TT := tt_1 (List.mem_of_getElem? (i := 233) rfl) rfl
theorem kw_172 : (Cond.classLink RX3 9 RX3) ∈ TT := tt_1 (List.mem_of_getElem? (i := 234) (by decide +kernel)) rfl
theorem kw_173 : (Cond.fieldLink RX3 25 "SketchSpans$Ranks" "size" "I") ∈ TT := tt_1 (List.mem_of_getElem? (i := 69) (by decide +kernel)) rfl
theorem kw_174 : (Cond.sameField "SketchSpans$Ranks" "SketchSpans$Sketch" "size" "I") ∈ TT := tt_1 (List.mem_of_getElem? (i := 70) (by decide +kernel)) rfl
theorem kw_175 : (Cond.fieldLink RX3 28 "SketchSpans$Ranks" "seed" "I") ∈ TT := tt_1 (List.mem_of_getElem? (i := 81) (by decide +kernel)) rfl
theorem kw_176 : (Cond.sameField "SketchSpans$Ranks" "SketchSpans$Sketch" "seed" "I") ∈ TT := tt_1 (List.mem_of_getElem? (i := 82) (by decide +kernel)) rfl
theorem kw_177 : (Cond.methodLink RX3 31 yX3_init) ∈ TT := tt_1 (List.mem_of_getElem? (i := 235) (by decide +kernel)) rfl
theorem kw_178 : (Cond.methodLink RX3 34 ⟨"SketchSpans$Ranks", "copyTotals", "(LSketchSpans$Sketch;)V"⟩) ∈ TT := tt_1 (List.mem_of_getElem? (i := 236) (by decide +kernel)) rfl
theorem kw_179 : (Cond.sameMethod "SketchSpans$Ranks" "SketchSpans$Sketch" "copyTotals" "(LSketchSpans$Sketch;)V") ∈ TT := tt_1 (List.mem_of_getElem? (i := 237) (by decide +kernel)) rfl
theorem kw_180 : (Cond.selects RX3 ⟨"SketchSpans$Ranks", "copyTotals", "(LSketchSpans$Sketch;)V"⟩ yX4_copyTotals) ∈ TT := tt_1 (List.mem_of_getElem? (i := 238) (by decide +kernel)) rfl
theorem kw_181 : (Cond.selects RX5 ⟨"SketchSpans$Sketch", "twin", "()LSketchSpans$Sketch;"⟩ yX5_twin) ∈ TT := tt_2 (List.mem_of_getElem? (i := 0) (by decide +kernel)) rfl
theorem kw_182 : (Cond.instanceMethod yX5_twin) ∈ TT := tt_2 (List.mem_of_getElem? (i := 1) (by decide +kernel)) rfl
set_option maxRecDepth 20000 in
theorem kw_183 : (Cond.code yX5_twin cX5_twin 2 (some (.object "SketchSpans$Sketch"))) ∈ TT := tt_2 (List.mem_of_getElem? (i := 2) rfl) rfl
theorem kw_184 : (Cond.classLink RX5 10 RX5) ∈ TT := tt_2 (List.mem_of_getElem? (i := 3) (by decide +kernel)) rfl
theorem kw_185 : (Cond.fieldLink RX5 15 "SketchSpans$Table" "size" "I") ∈ TT := tt_1 (List.mem_of_getElem? (i := 71) (by decide +kernel)) rfl
theorem kw_186 : (Cond.sameField "SketchSpans$Table" "SketchSpans$Sketch" "size" "I") ∈ TT := tt_1 (List.mem_of_getElem? (i := 72) (by decide +kernel)) rfl
theorem kw_187 : (Cond.fieldLink RX5 19 "SketchSpans$Table" "seed" "I") ∈ TT := tt_1 (List.mem_of_getElem? (i := 83) (by decide +kernel)) rfl
theorem kw_188 : (Cond.sameField "SketchSpans$Table" "SketchSpans$Sketch" "seed" "I") ∈ TT := tt_1 (List.mem_of_getElem? (i := 84) (by decide +kernel)) rfl
theorem kw_189 : (Cond.methodLink RX5 22 yX5_init) ∈ TT := tt_2 (List.mem_of_getElem? (i := 4) (by decide +kernel)) rfl
theorem kw_190 : (Cond.methodLink RX5 25 ⟨"SketchSpans$Table", "copyTotals", "(LSketchSpans$Sketch;)V"⟩) ∈ TT := tt_2 (List.mem_of_getElem? (i := 5) (by decide +kernel)) rfl
theorem kw_191 : (Cond.sameMethod "SketchSpans$Table" "SketchSpans$Sketch" "copyTotals" "(LSketchSpans$Sketch;)V") ∈ TT := tt_2 (List.mem_of_getElem? (i := 6) (by decide +kernel)) rfl
theorem kw_192 : (Cond.selects RX5 ⟨"SketchSpans$Table", "copyTotals", "(LSketchSpans$Sketch;)V"⟩ yX4_copyTotals) ∈ TT := tt_2 (List.mem_of_getElem? (i := 7) (by decide +kernel)) rfl
theorem kw_193 : (Cond.methodLink RL 22 yX7_copy) ∈ TT := tt_3 (List.mem_of_getElem? (i := 146) (by decide +kernel)) rfl
theorem kw_194 : (Cond.instanceMethod yX7_copy) ∈ TT := tt_3 (List.mem_of_getElem? (i := 147) (by decide +kernel)) rfl
theorem kw_195 : (Cond.selects RX7 yX7_copy yX7_copy) ∈ TT := tt_3 (List.mem_of_getElem? (i := 148) (by decide +kernel)) rfl
set_option maxRecDepth 20000 in
theorem kw_196 : (Cond.code yX7_copy cX7_copy 4 (some .int)) ∈ TT := tt_3 (List.mem_of_getElem? (i := 149) rfl) rfl
theorem kw_197 : (Cond.methodLink RX7 50 yX7_none) ∈ TT := tt_3 (List.mem_of_getElem? (i := 150) (by decide +kernel)) rfl
theorem kw_198 : (Cond.instanceMethod yX7_none) ∈ TT := tt_3 (List.mem_of_getElem? (i := 152) (by decide +kernel)) rfl
theorem kw_199 : (Cond.selects RX7 yX7_none yX7_none) ∈ TT := tt_s (List.mem_of_getElem? (i := 15) (by decide +kernel)) rfl
set_option maxRecDepth 20000 in
theorem kw_200 : (Cond.code yX7_none cX7_none 2 (some .boolean)) ∈ TT := tt_3 (List.mem_of_getElem? (i := 153) rfl) rfl
theorem kw_201 : (Cond.methodLink RL 23 yX6_clear) ∈ TT := tt_2 (List.mem_of_getElem? (i := 9) (by decide +kernel)) rfl
theorem kw_202 : (Cond.instanceMethod yX6_clear) ∈ TT := tt_2 (List.mem_of_getElem? (i := 10) (by decide +kernel)) rfl
theorem kw_203 : (Cond.selects RX6 yX6_clear yX6_clear) ∈ TT := tt_2 (List.mem_of_getElem? (i := 11) (by decide +kernel)) rfl
set_option maxRecDepth 20000 in
theorem kw_204 : (Cond.code yX6_clear cX6_clear 4 (some .int)) ∈ TT := tt_2 (List.mem_of_getElem? (i := 12) rfl) rfl
theorem kw_205 : (Cond.fieldLink RX6 46 "SketchSpans$Sketch" "total" "I") ∈ TT := tt_1 (List.mem_of_getElem? (i := 87) (by decide +kernel)) rfl
theorem kw_206 : (Cond.fieldLink RX6 49 "SketchSpans$Sketch" "moved" "I") ∈ TT := tt_1 (List.mem_of_getElem? (i := 91) (by decide +kernel)) rfl
theorem kw_207 : (Cond.constant RX6 55 (10000000)) ∈ TT := tt_2 (List.mem_of_getElem? (i := 36) (by decide +kernel)) rfl
theorem kw_208 : (Cond.methodLink RX6 52 ⟨"SketchSpans$Sketch", "forget", "()V"⟩) ∈ TT := tt_2 (List.mem_of_getElem? (i := 13) (by decide +kernel)) rfl
theorem kw_209 : (Cond.sameMethod "SketchSpans$Sketch" "SketchSpans$Sketch" "forget" "()V") ∈ TT := tt_2 (List.mem_of_getElem? (i := 15) (by decide +kernel)) rfl
theorem kw_210 : (Cond.selects RX0 ⟨"SketchSpans$Sketch", "forget", "()V"⟩ yX0_forget) ∈ TT := tt_2 (List.mem_of_getElem? (i := 16) (by decide +kernel)) rfl
theorem kw_211 : (Cond.instanceMethod yX0_forget) ∈ TT := tt_2 (List.mem_of_getElem? (i := 17) (by decide +kernel)) rfl
set_option maxRecDepth 20000 in
theorem kw_212 : (Cond.code yX0_forget cX0_forget 1 none) ∈ TT := tt_2 (List.mem_of_getElem? (i := 18) rfl) rfl
theorem kw_213 : (Cond.static yX6_clearRow) ∈ TT := tt_2 (List.mem_of_getElem? (i := 20) (by decide +kernel)) rfl
set_option maxRecDepth 20000 in
theorem kw_214 : (Cond.code yX6_clearRow cX6_clearRow 2 none) ∈ TT := tt_2 (List.mem_of_getElem? (i := 21) rfl) rfl
theorem kw_215 : (Cond.selects RX1 ⟨"SketchSpans$Sketch", "forget", "()V"⟩ yX1_forget) ∈ TT := tt_2 (List.mem_of_getElem? (i := 22) (by decide +kernel)) rfl
theorem kw_216 : (Cond.instanceMethod yX1_forget) ∈ TT := tt_2 (List.mem_of_getElem? (i := 23) (by decide +kernel)) rfl
set_option maxRecDepth 20000 in
theorem kw_217 : (Cond.code yX1_forget cX1_forget 1 none) ∈ TT := tt_2 (List.mem_of_getElem? (i := 24) rfl) rfl
theorem kw_218 : (Cond.selects RX2 ⟨"SketchSpans$Sketch", "forget", "()V"⟩ yX2_forget) ∈ TT := tt_2 (List.mem_of_getElem? (i := 25) (by decide +kernel)) rfl
theorem kw_219 : (Cond.instanceMethod yX2_forget) ∈ TT := tt_2 (List.mem_of_getElem? (i := 26) (by decide +kernel)) rfl
set_option maxRecDepth 20000 in
theorem kw_220 : (Cond.code yX2_forget cX2_forget 1 none) ∈ TT := tt_2 (List.mem_of_getElem? (i := 27) rfl) rfl
theorem kw_221 : (Cond.selects RX3 ⟨"SketchSpans$Sketch", "forget", "()V"⟩ yX3_forget) ∈ TT := tt_2 (List.mem_of_getElem? (i := 28) (by decide +kernel)) rfl
theorem kw_222 : (Cond.instanceMethod yX3_forget) ∈ TT := tt_2 (List.mem_of_getElem? (i := 29) (by decide +kernel)) rfl
set_option maxRecDepth 20000 in
theorem kw_223 : (Cond.code yX3_forget cX3_forget 1 none) ∈ TT := tt_2 (List.mem_of_getElem? (i := 30) rfl) rfl
theorem kw_224 : (Cond.selects RX5 ⟨"SketchSpans$Sketch", "forget", "()V"⟩ yX5_forget) ∈ TT := tt_2 (List.mem_of_getElem? (i := 32) (by decide +kernel)) rfl
theorem kw_225 : (Cond.instanceMethod yX5_forget) ∈ TT := tt_2 (List.mem_of_getElem? (i := 33) (by decide +kernel)) rfl
set_option maxRecDepth 20000 in
theorem kw_226 : (Cond.code yX5_forget cX5_forget 1 none) ∈ TT := tt_2 (List.mem_of_getElem? (i := 34) rfl) rfl
theorem kw_227 : (Cond.methodLink RL 26 yX7_clear) ∈ TT := tt_3 (List.mem_of_getElem? (i := 154) (by decide +kernel)) rfl
theorem kw_228 : (Cond.instanceMethod yX7_clear) ∈ TT := tt_3 (List.mem_of_getElem? (i := 155) (by decide +kernel)) rfl
theorem kw_229 : (Cond.selects RX7 yX7_clear yX7_clear) ∈ TT := tt_3 (List.mem_of_getElem? (i := 156) (by decide +kernel)) rfl
set_option maxRecDepth 20000 in
theorem kw_230 : (Cond.code yX7_clear cX7_clear 3 (some .int)) ∈ TT := tt_3 (List.mem_of_getElem? (i := 157) rfl) rfl
theorem kw_231 : (Cond.constant RX7 54 (10000000)) ∈ TT := tt_3 (List.mem_of_getElem? (i := 158) (by decide +kernel)) rfl
theorem kw_232 : (Cond.methodLink RL 27 yX6_come) ∈ TT := tt_2 (List.mem_of_getElem? (i := 37) (by decide +kernel)) rfl
theorem kw_233 : (Cond.instanceMethod yX6_come) ∈ TT := tt_2 (List.mem_of_getElem? (i := 38) (by decide +kernel)) rfl
theorem kw_234 : (Cond.selects RX6 yX6_come yX6_come) ∈ TT := tt_2 (List.mem_of_getElem? (i := 39) (by decide +kernel)) rfl
set_option maxRecDepth 20000 in
theorem kw_235 : (Cond.code yX6_come cX6_come 5 (some .int)) ∈ TT := tt_2 (List.mem_of_getElem? (i := 40) rfl) rfl
theorem kw_236 : (Cond.methodLink RX6 62 Lib.Math.abs.name) ∈ TT := tt_2 (List.mem_of_getElem? (i := 57) (by decide +kernel)) rfl
theorem kw_237 : (Cond.static Lib.Math.abs.name) ∈ TT := tt_2 (List.mem_of_getElem? (i := 58) (by decide +kernel)) rfl
theorem kw_238 : (Cond.initialized "java/lang/Math") ∈ TT := tt_1 (List.mem_of_getElem? (i := 9) (by decide +kernel)) rfl
set_option maxRecDepth 20000 in
theorem kw_239 : (Cond.code Lib.Math.abs.name Lib.Math.abs.code 1 (some .int)) ∈ TT := tt_2 (List.mem_of_getElem? (i := 59) rfl) rfl
theorem kw_240 : (Cond.methodLink RX6 56 yX6_isKey) ∈ TT := tt_2 (List.mem_of_getElem? (i := 41) (by decide +kernel)) rfl
theorem kw_241 : (Cond.static yX6_isKey) ∈ TT := tt_2 (List.mem_of_getElem? (i := 42) (by decide +kernel)) rfl
set_option maxRecDepth 20000 in
theorem kw_242 : (Cond.code yX6_isKey cX6_isKey 1 (some .boolean)) ∈ TT := tt_2 (List.mem_of_getElem? (i := 43) rfl) rfl
theorem kw_243 : (Cond.methodLink RX6 59 ⟨"SketchSpans$Sketch", "mayTake", "(I)Z"⟩) ∈ TT := tt_2 (List.mem_of_getElem? (i := 44) (by decide +kernel)) rfl
theorem kw_244 : (Cond.sameMethod "SketchSpans$Sketch" "SketchSpans$Sketch" "mayTake" "(I)Z") ∈ TT := tt_2 (List.mem_of_getElem? (i := 46) (by decide +kernel)) rfl
theorem kw_245 : (Cond.selects RX0 ⟨"SketchSpans$Sketch", "mayTake", "(I)Z"⟩ yX4_mayTake) ∈ TT := tt_2 (List.mem_of_getElem? (i := 47) (by decide +kernel)) rfl
theorem kw_246 : (Cond.instanceMethod yX4_mayTake) ∈ TT := tt_2 (List.mem_of_getElem? (i := 45) (by decide +kernel)) rfl
set_option maxRecDepth 20000 in
theorem kw_247 : (Cond.code yX4_mayTake cX4_mayTake 2 (some .boolean)) ∈ TT := tt_2 (List.mem_of_getElem? (i := 56) rfl) rfl
theorem kw_248 : (Cond.selects RX1 ⟨"SketchSpans$Sketch", "mayTake", "(I)Z"⟩ yX4_mayTake) ∈ TT := tt_2 (List.mem_of_getElem? (i := 48) (by decide +kernel)) rfl
theorem kw_249 : (Cond.selects RX2 ⟨"SketchSpans$Sketch", "mayTake", "(I)Z"⟩ yX4_mayTake) ∈ TT := tt_2 (List.mem_of_getElem? (i := 49) (by decide +kernel)) rfl
theorem kw_250 : (Cond.instanceMethod ⟨"SketchSpans$Sketch", "mayTake", "(I)Z"⟩) ∈ TT := tt_2 (List.mem_of_getElem? (i := 45) (by decide +kernel)) rfl
theorem kw_251 : (Cond.selects RX3 ⟨"SketchSpans$Sketch", "mayTake", "(I)Z"⟩ yX3_mayTake) ∈ TT := tt_2 (List.mem_of_getElem? (i := 50) (by decide +kernel)) rfl
theorem kw_252 : (Cond.instanceMethod yX3_mayTake) ∈ TT := tt_2 (List.mem_of_getElem? (i := 51) (by decide +kernel)) rfl
set_option maxRecDepth 20000 in
theorem kw_253 : (Cond.code yX3_mayTake cX3_mayTake 2 (some .boolean)) ∈ TT := tt_2 (List.mem_of_getElem? (i := 52) rfl) rfl
theorem kw_254 : (Cond.selects RX5 ⟨"SketchSpans$Sketch", "mayTake", "(I)Z"⟩ yX5_mayTake) ∈ TT := tt_2 (List.mem_of_getElem? (i := 53) (by decide +kernel)) rfl
theorem kw_255 : (Cond.instanceMethod yX5_mayTake) ∈ TT := tt_2 (List.mem_of_getElem? (i := 54) (by decide +kernel)) rfl
set_option maxRecDepth 20000 in
theorem kw_256 : (Cond.code yX5_mayTake cX5_mayTake 2 (some .boolean)) ∈ TT := tt_2 (List.mem_of_getElem? (i := 55) rfl) rfl
theorem kw_257 : (Cond.methodLink RX6 68 ⟨"SketchSpans$Sketch", "take", "(II)V"⟩) ∈ TT := tt_2 (List.mem_of_getElem? (i := 60) (by decide +kernel)) rfl
theorem kw_258 : (Cond.sameMethod "SketchSpans$Sketch" "SketchSpans$Sketch" "take" "(II)V") ∈ TT := tt_2 (List.mem_of_getElem? (i := 62) (by decide +kernel)) rfl
theorem kw_259 : (Cond.selects RX0 ⟨"SketchSpans$Sketch", "take", "(II)V"⟩ yX0_take) ∈ TT := tt_2 (List.mem_of_getElem? (i := 63) (by decide +kernel)) rfl
theorem kw_260 : (Cond.instanceMethod yX0_take) ∈ TT := tt_2 (List.mem_of_getElem? (i := 64) (by decide +kernel)) rfl
set_option maxRecDepth 20000 in
theorem kw_261 : (Cond.code yX0_take cX0_take 5 none) ∈ TT := tt_2 (List.mem_of_getElem? (i := 65) rfl) rfl
theorem kw_262 : (Cond.static yX6_placeOf) ∈ TT := tt_2 (List.mem_of_getElem? (i := 67) (by decide +kernel)) rfl
set_option maxRecDepth 20000 in
theorem kw_263 : (Cond.code yX6_placeOf cX6_placeOf 4 (some .int)) ∈ TT := tt_2 (List.mem_of_getElem? (i := 68) rfl) rfl
theorem kw_264 : (Cond.methodLink RX6 80 yX6_hashOf) ∈ TT := tt_2 (List.mem_of_getElem? (i := 69) (by decide +kernel)) rfl
theorem kw_265 : (Cond.static yX6_hashOf) ∈ TT := tt_2 (List.mem_of_getElem? (i := 70) (by decide +kernel)) rfl
set_option maxRecDepth 20000 in
theorem kw_266 : (Cond.code yX6_hashOf cX6_hashOf 3 (some .int)) ∈ TT := tt_2 (List.mem_of_getElem? (i := 71) rfl) rfl
theorem kw_267 : (Cond.constant RX6 142 (65537)) ∈ TT := tt_2 (List.mem_of_getElem? (i := 72) (by decide +kernel)) rfl
theorem kw_268 : (Cond.selects RX1 ⟨"SketchSpans$Sketch", "take", "(II)V"⟩ yX1_take) ∈ TT := tt_2 (List.mem_of_getElem? (i := 73) (by decide +kernel)) rfl
theorem kw_269 : (Cond.instanceMethod yX1_take) ∈ TT := tt_2 (List.mem_of_getElem? (i := 74) (by decide +kernel)) rfl
set_option maxRecDepth 20000 in
theorem kw_270 : (Cond.code yX1_take cX1_take 5 none) ∈ TT := tt_2 (List.mem_of_getElem? (i := 75) rfl) rfl
theorem kw_271 : (Cond.static yX6_placeFor) ∈ TT := tt_2 (List.mem_of_getElem? (i := 77) (by decide +kernel)) rfl
set_option maxRecDepth 20000 in
theorem kw_272 : (Cond.code yX6_placeFor cX6_placeFor 4 (some .int)) ∈ TT := tt_2 (List.mem_of_getElem? (i := 78) rfl) rfl
theorem kw_273 : (Cond.static yX6_standsAt) ∈ TT := tt_2 (List.mem_of_getElem? (i := 80) (by decide +kernel)) rfl
set_option maxRecDepth 20000 in
theorem kw_274 : (Cond.code yX6_standsAt cX6_standsAt 4 (some .boolean)) ∈ TT := tt_2 (List.mem_of_getElem? (i := 81) rfl) rfl
theorem kw_275 : (Cond.methodLink RX1 50 yX1_leastNumber) ∈ TT := tt_2 (List.mem_of_getElem? (i := 82) (by decide +kernel)) rfl
theorem kw_276 : (Cond.instanceMethod yX1_leastNumber) ∈ TT := tt_2 (List.mem_of_getElem? (i := 84) (by decide +kernel)) rfl
theorem kw_277 : (Cond.selects RX1 yX1_leastNumber yX1_leastNumber) ∈ TT := tt_s (List.mem_of_getElem? (i := 2) (by decide +kernel)) rfl
set_option maxRecDepth 20000 in
theorem kw_278 : (Cond.code yX1_leastNumber cX1_leastNumber 4 (some .int)) ∈ TT := tt_2 (List.mem_of_getElem? (i := 85) rfl) rfl
theorem kw_279 : (Cond.methodLink RX1 68 Lib.Math.min.name) ∈ TT := tt_2 (List.mem_of_getElem? (i := 86) (by decide +kernel)) rfl
theorem kw_280 : (Cond.static Lib.Math.min.name) ∈ TT := tt_2 (List.mem_of_getElem? (i := 87) (by decide +kernel)) rfl
set_option maxRecDepth 20000 in
theorem kw_281 : (Cond.code Lib.Math.min.name Lib.Math.min.code 2 (some .int)) ∈ TT := tt_2 (List.mem_of_getElem? (i := 88) rfl) rfl
theorem kw_282 : (Cond.methodLink RX1 54 yX1_lower) ∈ TT := tt_2 (List.mem_of_getElem? (i := 89) (by decide +kernel)) rfl
theorem kw_283 : (Cond.instanceMethod yX1_lower) ∈ TT := tt_2 (List.mem_of_getElem? (i := 91) (by decide +kernel)) rfl
theorem kw_284 : (Cond.selects RX1 yX1_lower yX1_lower) ∈ TT := tt_s (List.mem_of_getElem? (i := 3) (by decide +kernel)) rfl
set_option maxRecDepth 20000 in
theorem kw_285 : (Cond.code yX1_lower cX1_lower 4 none) ∈ TT := tt_2 (List.mem_of_getElem? (i := 92) rfl) rfl
theorem kw_286 : (Cond.methodLink RX1 58 yX1_add) ∈ TT := tt_2 (List.mem_of_getElem? (i := 93) (by decide +kernel)) rfl
theorem kw_287 : (Cond.instanceMethod yX1_add) ∈ TT := tt_2 (List.mem_of_getElem? (i := 95) (by decide +kernel)) rfl
theorem kw_288 : (Cond.selects RX1 yX1_add yX1_add) ∈ TT := tt_s (List.mem_of_getElem? (i := 4) (by decide +kernel)) rfl
set_option maxRecDepth 20000 in
theorem kw_289 : (Cond.code yX1_add cX1_add 5 none) ∈ TT := tt_2 (List.mem_of_getElem? (i := 96) rfl) rfl
theorem kw_290 : (Cond.selects RX2 ⟨"SketchSpans$Sketch", "take", "(II)V"⟩ yX2_take) ∈ TT := tt_2 (List.mem_of_getElem? (i := 97) (by decide +kernel)) rfl
theorem kw_291 : (Cond.instanceMethod yX2_take) ∈ TT := tt_2 (List.mem_of_getElem? (i := 98) (by decide +kernel)) rfl
set_option maxRecDepth 20000 in
theorem kw_292 : (Cond.code yX2_take cX2_take 3 none) ∈ TT := tt_2 (List.mem_of_getElem? (i := 99) rfl) rfl
theorem kw_293 : (Cond.methodLink RX2 40 yX2_add) ∈ TT := tt_2 (List.mem_of_getElem? (i := 101) (by decide +kernel)) rfl
theorem kw_294 : (Cond.instanceMethod yX2_add) ∈ TT := tt_2 (List.mem_of_getElem? (i := 103) (by decide +kernel)) rfl
theorem kw_295 : (Cond.selects RX2 yX2_add yX2_add) ∈ TT := tt_s (List.mem_of_getElem? (i := 5) (by decide +kernel)) rfl
set_option maxRecDepth 20000 in
theorem kw_296 : (Cond.code yX2_add cX2_add 4 none) ∈ TT := tt_2 (List.mem_of_getElem? (i := 104) rfl) rfl
theorem kw_297 : (Cond.methodLink RX2 53 Lib.Math.min.name) ∈ TT := tt_2 (List.mem_of_getElem? (i := 107) (by decide +kernel)) rfl
theorem kw_298 : (Cond.selects RX3 ⟨"SketchSpans$Sketch", "take", "(II)V"⟩ yX3_take) ∈ TT := tt_2 (List.mem_of_getElem? (i := 108) (by decide +kernel)) rfl
theorem kw_299 : (Cond.instanceMethod yX3_take) ∈ TT := tt_2 (List.mem_of_getElem? (i := 109) (by decide +kernel)) rfl
set_option maxRecDepth 20000 in
theorem kw_300 : (Cond.code yX3_take cX3_take 4 none) ∈ TT := tt_2 (List.mem_of_getElem? (i := 110) rfl) rfl
theorem kw_301 : (Cond.methodLink RX3 46 yX3_push) ∈ TT := tt_2 (List.mem_of_getElem? (i := 111) (by decide +kernel)) rfl
theorem kw_302 : (Cond.instanceMethod yX3_push) ∈ TT := tt_2 (List.mem_of_getElem? (i := 113) (by decide +kernel)) rfl
theorem kw_303 : (Cond.selects RX3 yX3_push yX3_push) ∈ TT := tt_s (List.mem_of_getElem? (i := 6) (by decide +kernel)) rfl
set_option maxRecDepth 20000 in
theorem kw_304 : (Cond.code yX3_push cX3_push 3 none) ∈ TT := tt_2 (List.mem_of_getElem? (i := 114) rfl) rfl
theorem kw_305 : (Cond.methodLink RX3 68 yX3_collapse) ∈ TT := tt_2 (List.mem_of_getElem? (i := 115) (by decide +kernel)) rfl
theorem kw_306 : (Cond.instanceMethod yX3_collapse) ∈ TT := tt_2 (List.mem_of_getElem? (i := 117) (by decide +kernel)) rfl
theorem kw_307 : (Cond.selects RX3 yX3_collapse yX3_collapse) ∈ TT := tt_s (List.mem_of_getElem? (i := 7) (by decide +kernel)) rfl
set_option maxRecDepth 20000 in
theorem kw_308 : (Cond.code yX3_collapse cX3_collapse 4 none) ∈ TT := tt_2 (List.mem_of_getElem? (i := 118) rfl) rfl
theorem kw_309 : (Cond.methodLink RX3 72 yX3_sortBuffer) ∈ TT := tt_2 (List.mem_of_getElem? (i := 119) (by decide +kernel)) rfl
theorem kw_310 : (Cond.instanceMethod yX3_sortBuffer) ∈ TT := tt_2 (List.mem_of_getElem? (i := 121) (by decide +kernel)) rfl
theorem kw_311 : (Cond.selects RX3 yX3_sortBuffer yX3_sortBuffer) ∈ TT := tt_s (List.mem_of_getElem? (i := 8) (by decide +kernel)) rfl
set_option maxRecDepth 20000 in
theorem kw_312 : (Cond.code yX3_sortBuffer cX3_sortBuffer 6 none) ∈ TT := tt_2 (List.mem_of_getElem? (i := 122) rfl) rfl
theorem kw_313 : (Cond.methodLink RX3 49 yX3_keyAt) ∈ TT := tt_2 (List.mem_of_getElem? (i := 123) (by decide +kernel)) rfl
theorem kw_314 : (Cond.instanceMethod yX3_keyAt) ∈ TT := tt_2 (List.mem_of_getElem? (i := 125) (by decide +kernel)) rfl
theorem kw_315 : (Cond.selects RX3 yX3_keyAt yX3_keyAt) ∈ TT := tt_s (List.mem_of_getElem? (i := 9) (by decide +kernel)) rfl
set_option maxRecDepth 20000 in
theorem kw_316 : (Cond.code yX3_keyAt cX3_keyAt 4 (some .int)) ∈ TT := tt_2 (List.mem_of_getElem? (i := 126) rfl) rfl
theorem kw_317 : (Cond.selects RX5 ⟨"SketchSpans$Sketch", "take", "(II)V"⟩ yX5_take) ∈ TT := tt_2 (List.mem_of_getElem? (i := 127) (by decide +kernel)) rfl
theorem kw_318 : (Cond.instanceMethod yX5_take) ∈ TT := tt_2 (List.mem_of_getElem? (i := 128) (by decide +kernel)) rfl
set_option maxRecDepth 20000 in
theorem kw_319 : (Cond.code yX5_take cX5_take 5 none) ∈ TT := tt_2 (List.mem_of_getElem? (i := 129) rfl) rfl
theorem kw_320 : (Cond.methodLink RX5 37 yX5_placeIn) ∈ TT := tt_2 (List.mem_of_getElem? (i := 130) (by decide +kernel)) rfl
theorem kw_321 : (Cond.instanceMethod yX5_placeIn) ∈ TT := tt_2 (List.mem_of_getElem? (i := 132) (by decide +kernel)) rfl
theorem kw_322 : (Cond.selects RX5 yX5_placeIn yX5_placeIn) ∈ TT := tt_s (List.mem_of_getElem? (i := 10) (by decide +kernel)) rfl
set_option maxRecDepth 20000 in
theorem kw_323 : (Cond.code yX5_placeIn cX5_placeIn 3 (some .int)) ∈ TT := tt_2 (List.mem_of_getElem? (i := 133) rfl) rfl
theorem kw_324 : (Cond.methodLink RL 30 yX7_come) ∈ TT := tt_3 (List.mem_of_getElem? (i := 159) (by decide +kernel)) rfl
theorem kw_325 : (Cond.instanceMethod yX7_come) ∈ TT := tt_3 (List.mem_of_getElem? (i := 160) (by decide +kernel)) rfl
theorem kw_326 : (Cond.selects RX7 yX7_come yX7_come) ∈ TT := tt_3 (List.mem_of_getElem? (i := 161) (by decide +kernel)) rfl
set_option maxRecDepth 20000 in
theorem kw_327 : (Cond.code yX7_come cX7_come 6 (some .int)) ∈ TT := tt_3 (List.mem_of_getElem? (i := 162) rfl) rfl
theorem kw_328 : (Cond.methodLink RX7 94 yX7_comeOnce) ∈ TT := tt_3 (List.mem_of_getElem? (i := 163) (by decide +kernel)) rfl
theorem kw_329 : (Cond.instanceMethod yX7_comeOnce) ∈ TT := tt_3 (List.mem_of_getElem? (i := 165) (by decide +kernel)) rfl
theorem kw_330 : (Cond.selects RX7 yX7_comeOnce yX7_comeOnce) ∈ TT := tt_s (List.mem_of_getElem? (i := 16) (by decide +kernel)) rfl
set_option maxRecDepth 20000 in
theorem kw_331 : (Cond.code yX7_comeOnce cX7_comeOnce 5 none) ∈ TT := tt_3 (List.mem_of_getElem? (i := 166) rfl) rfl
theorem kw_332 : (Cond.methodLink RX7 85 yX7_comeHeavy) ∈ TT := tt_3 (List.mem_of_getElem? (i := 167) (by decide +kernel)) rfl
theorem kw_333 : (Cond.instanceMethod yX7_comeHeavy) ∈ TT := tt_3 (List.mem_of_getElem? (i := 169) (by decide +kernel)) rfl
theorem kw_334 : (Cond.selects RX7 yX7_comeHeavy yX7_comeHeavy) ∈ TT := tt_s (List.mem_of_getElem? (i := 17) (by decide +kernel)) rfl
set_option maxRecDepth 20000 in
theorem kw_335 : (Cond.code yX7_comeHeavy cX7_comeHeavy 7 none) ∈ TT := tt_3 (List.mem_of_getElem? (i := 170) rfl) rfl
theorem kw_336 : (Cond.methodLink RX7 63 yX7_counterOf) ∈ TT := tt_3 (List.mem_of_getElem? (i := 171) (by decide +kernel)) rfl
theorem kw_337 : (Cond.instanceMethod yX7_counterOf) ∈ TT := tt_3 (List.mem_of_getElem? (i := 173) (by decide +kernel)) rfl
theorem kw_338 : (Cond.selects RX7 yX7_counterOf yX7_counterOf) ∈ TT := tt_s (List.mem_of_getElem? (i := 18) (by decide +kernel)) rfl
set_option maxRecDepth 20000 in
theorem kw_339 : (Cond.code yX7_counterOf cX7_counterOf 4 (some .int)) ∈ TT := tt_3 (List.mem_of_getElem? (i := 174) rfl) rfl
theorem kw_340 : (Cond.methodLink RX7 55 yX7_many) ∈ TT := tt_3 (List.mem_of_getElem? (i := 175) (by decide +kernel)) rfl
theorem kw_341 : (Cond.instanceMethod yX7_many) ∈ TT := tt_3 (List.mem_of_getElem? (i := 177) (by decide +kernel)) rfl
theorem kw_342 : (Cond.selects RX7 yX7_many yX7_many) ∈ TT := tt_s (List.mem_of_getElem? (i := 19) (by decide +kernel)) rfl
set_option maxRecDepth 20000 in
theorem kw_343 : (Cond.code yX7_many cX7_many 2 (some .int)) ∈ TT := tt_3 (List.mem_of_getElem? (i := 178) rfl) rfl
theorem kw_344 : (Cond.methodLink RX7 59 yX7_at) ∈ TT := tt_3 (List.mem_of_getElem? (i := 179) (by decide +kernel)) rfl
theorem kw_345 : (Cond.instanceMethod yX7_at) ∈ TT := tt_3 (List.mem_of_getElem? (i := 181) (by decide +kernel)) rfl
theorem kw_346 : (Cond.selects RX7 yX7_at yX7_at) ∈ TT := tt_s (List.mem_of_getElem? (i := 20) (by decide +kernel)) rfl
set_option maxRecDepth 20000 in
theorem kw_347 : (Cond.code yX7_at cX7_at 3 (some .int)) ∈ TT := tt_3 (List.mem_of_getElem? (i := 182) rfl) rfl
theorem kw_348 : (Cond.methodLink RX7 66 yX7_add) ∈ TT := tt_3 (List.mem_of_getElem? (i := 183) (by decide +kernel)) rfl
theorem kw_349 : (Cond.instanceMethod yX7_add) ∈ TT := tt_3 (List.mem_of_getElem? (i := 185) (by decide +kernel)) rfl
theorem kw_350 : (Cond.selects RX7 yX7_add yX7_add) ∈ TT := tt_s (List.mem_of_getElem? (i := 21) (by decide +kernel)) rfl
set_option maxRecDepth 20000 in
theorem kw_351 : (Cond.code yX7_add cX7_add 5 none) ∈ TT := tt_3 (List.mem_of_getElem? (i := 186) rfl) rfl
theorem kw_352 : (Cond.methodLink RX7 70 yX7_lessen) ∈ TT := tt_3 (List.mem_of_getElem? (i := 187) (by decide +kernel)) rfl
theorem kw_353 : (Cond.instanceMethod yX7_lessen) ∈ TT := tt_3 (List.mem_of_getElem? (i := 189) (by decide +kernel)) rfl
theorem kw_354 : (Cond.selects RX7 yX7_lessen yX7_lessen) ∈ TT := tt_s (List.mem_of_getElem? (i := 22) (by decide +kernel)) rfl
set_option maxRecDepth 20000 in
theorem kw_355 : (Cond.code yX7_lessen cX7_lessen 6 none) ∈ TT := tt_3 (List.mem_of_getElem? (i := 190) rfl) rfl
theorem kw_356 : (Cond.methodLink RX7 88 yX7_cell) ∈ TT := tt_3 (List.mem_of_getElem? (i := 191) (by decide +kernel)) rfl
theorem kw_357 : (Cond.instanceMethod yX7_cell) ∈ TT := tt_3 (List.mem_of_getElem? (i := 193) (by decide +kernel)) rfl
theorem kw_358 : (Cond.selects RX7 yX7_cell yX7_cell) ∈ TT := tt_s (List.mem_of_getElem? (i := 23) (by decide +kernel)) rfl
set_option maxRecDepth 20000 in
theorem kw_359 : (Cond.code yX7_cell cX7_cell 5 (some .int)) ∈ TT := tt_3 (List.mem_of_getElem? (i := 194) rfl) rfl
theorem kw_360 : (Cond.methodLink RX7 74 yX7_hashOf) ∈ TT := tt_3 (List.mem_of_getElem? (i := 195) (by decide +kernel)) rfl
theorem kw_361 : (Cond.static yX7_hashOf) ∈ TT := tt_3 (List.mem_of_getElem? (i := 196) (by decide +kernel)) rfl
set_option maxRecDepth 20000 in
theorem kw_362 : (Cond.code yX7_hashOf cX7_hashOf 3 (some .int)) ∈ TT := tt_3 (List.mem_of_getElem? (i := 197) rfl) rfl
theorem kw_363 : (Cond.constant RX7 45 (65537)) ∈ TT := tt_3 (List.mem_of_getElem? (i := 198) (by decide +kernel)) rfl
theorem kw_364 : (Cond.methodLink RX7 91 yX7_keep) ∈ TT := tt_3 (List.mem_of_getElem? (i := 199) (by decide +kernel)) rfl
theorem kw_365 : (Cond.instanceMethod yX7_keep) ∈ TT := tt_3 (List.mem_of_getElem? (i := 201) (by decide +kernel)) rfl
theorem kw_366 : (Cond.selects RX7 yX7_keep yX7_keep) ∈ TT := tt_s (List.mem_of_getElem? (i := 24) (by decide +kernel)) rfl
set_option maxRecDepth 20000 in
theorem kw_367 : (Cond.code yX7_keep cX7_keep 6 none) ∈ TT := tt_3 (List.mem_of_getElem? (i := 202) rfl) rfl
theorem kw_368 : (Cond.methodLink RX7 81 yX7_put) ∈ TT := tt_3 (List.mem_of_getElem? (i := 203) (by decide +kernel)) rfl
theorem kw_369 : (Cond.static yX7_put) ∈ TT := tt_3 (List.mem_of_getElem? (i := 204) (by decide +kernel)) rfl
set_option maxRecDepth 20000 in
theorem kw_370 : (Cond.code yX7_put cX7_put 9 none) ∈ TT := tt_3 (List.mem_of_getElem? (i := 205) rfl) rfl
theorem kw_371 : (Cond.methodLink RX7 78 yX7_keyAt) ∈ TT := tt_3 (List.mem_of_getElem? (i := 206) (by decide +kernel)) rfl
theorem kw_372 : (Cond.instanceMethod yX7_keyAt) ∈ TT := tt_3 (List.mem_of_getElem? (i := 208) (by decide +kernel)) rfl
theorem kw_373 : (Cond.selects RX7 yX7_keyAt yX7_keyAt) ∈ TT := tt_s (List.mem_of_getElem? (i := 25) (by decide +kernel)) rfl
set_option maxRecDepth 20000 in
theorem kw_374 : (Cond.code yX7_keyAt cX7_keyAt 4 (some .int)) ∈ TT := tt_3 (List.mem_of_getElem? (i := 209) rfl) rfl
theorem kw_375 : (Cond.methodLink RL 31 yX6_merge) ∈ TT := tt_2 (List.mem_of_getElem? (i := 135) (by decide +kernel)) rfl
theorem kw_376 : (Cond.instanceMethod yX6_merge) ∈ TT := tt_2 (List.mem_of_getElem? (i := 136) (by decide +kernel)) rfl
theorem kw_377 : (Cond.selects RX6 yX6_merge yX6_merge) ∈ TT := tt_2 (List.mem_of_getElem? (i := 137) (by decide +kernel)) rfl
set_option maxRecDepth 20000 in
theorem kw_378 : (Cond.code yX6_merge cX6_merge 5 (some .int)) ∈ TT := tt_2 (List.mem_of_getElem? (i := 138) rfl) rfl
theorem kw_379 : (Cond.methodLink RX6 72 ⟨"SketchSpans$Sketch", "isLike", "(LSketchSpans$Sketch;)Z"⟩) ∈ TT := tt_2 (List.mem_of_getElem? (i := 139) (by decide +kernel)) rfl
theorem kw_380 : (Cond.sameMethod "SketchSpans$Sketch" "SketchSpans$Sketch" "isLike" "(LSketchSpans$Sketch;)Z") ∈ TT := tt_2 (List.mem_of_getElem? (i := 141) (by decide +kernel)) rfl
theorem kw_381 : (Cond.selects RX0 ⟨"SketchSpans$Sketch", "isLike", "(LSketchSpans$Sketch;)Z"⟩ yX4_isLike) ∈ TT := tt_2 (List.mem_of_getElem? (i := 142) (by decide +kernel)) rfl
theorem kw_382 : (Cond.instanceMethod yX4_isLike) ∈ TT := tt_2 (List.mem_of_getElem? (i := 140) (by decide +kernel)) rfl
set_option maxRecDepth 20000 in
theorem kw_383 : (Cond.code yX4_isLike cX4_isLike 2 (some .boolean)) ∈ TT := tt_2 (List.mem_of_getElem? (i := 147) rfl) rfl
theorem kw_384 : (Cond.selects RX1 ⟨"SketchSpans$Sketch", "isLike", "(LSketchSpans$Sketch;)Z"⟩ yX4_isLike) ∈ TT := tt_2 (List.mem_of_getElem? (i := 143) (by decide +kernel)) rfl
theorem kw_385 : (Cond.selects RX2 ⟨"SketchSpans$Sketch", "isLike", "(LSketchSpans$Sketch;)Z"⟩ yX4_isLike) ∈ TT := tt_2 (List.mem_of_getElem? (i := 144) (by decide +kernel)) rfl
theorem kw_386 : (Cond.selects RX3 ⟨"SketchSpans$Sketch", "isLike", "(LSketchSpans$Sketch;)Z"⟩ yX4_isLike) ∈ TT := tt_2 (List.mem_of_getElem? (i := 145) (by decide +kernel)) rfl
theorem kw_387 : (Cond.selects RX5 ⟨"SketchSpans$Sketch", "isLike", "(LSketchSpans$Sketch;)Z"⟩ yX4_isLike) ∈ TT := tt_2 (List.mem_of_getElem? (i := 146) (by decide +kernel)) rfl
theorem kw_388 : (Cond.methodLink RX6 76 ⟨"SketchSpans$Sketch", "join", "(LSketchSpans$Sketch;)V"⟩) ∈ TT := tt_2 (List.mem_of_getElem? (i := 148) (by decide +kernel)) rfl
theorem kw_389 : (Cond.sameMethod "SketchSpans$Sketch" "SketchSpans$Sketch" "join" "(LSketchSpans$Sketch;)V") ∈ TT := tt_2 (List.mem_of_getElem? (i := 150) (by decide +kernel)) rfl
theorem kw_390 : (Cond.selects RX0 ⟨"SketchSpans$Sketch", "join", "(LSketchSpans$Sketch;)V"⟩ yX0_join) ∈ TT := tt_2 (List.mem_of_getElem? (i := 151) (by decide +kernel)) rfl
theorem kw_391 : (Cond.instanceMethod yX0_join) ∈ TT := tt_2 (List.mem_of_getElem? (i := 152) (by decide +kernel)) rfl
set_option maxRecDepth 20000 in
theorem kw_392 : (Cond.code yX0_join cX0_join 4 none) ∈ TT := tt_2 (List.mem_of_getElem? (i := 153) rfl) rfl
theorem kw_393 : (Cond.classLink RX0 10 "SketchSpans$Filter") ∈ TT := tt_1 (List.mem_of_getElem? (i := 202) (by decide +kernel)) rfl
theorem kw_394 : (Cond.selects RX1 ⟨"SketchSpans$Sketch", "join", "(LSketchSpans$Sketch;)V"⟩ yX1_join) ∈ TT := tt_2 (List.mem_of_getElem? (i := 154) (by decide +kernel)) rfl
theorem kw_395 : (Cond.instanceMethod yX1_join) ∈ TT := tt_2 (List.mem_of_getElem? (i := 155) (by decide +kernel)) rfl
set_option maxRecDepth 20000 in
theorem kw_396 : (Cond.code yX1_join cX1_join 4 none) ∈ TT := tt_2 (List.mem_of_getElem? (i := 156) rfl) rfl
theorem kw_397 : (Cond.classLink RX1 10 "SketchSpans$Heavy") ∈ TT := tt_1 (List.mem_of_getElem? (i := 216) (by decide +kernel)) rfl
theorem kw_398 : (Cond.methodLink RX1 61 yX1_firstNumberTooMany) ∈ TT := tt_2 (List.mem_of_getElem? (i := 157) (by decide +kernel)) rfl
theorem kw_399 : (Cond.instanceMethod yX1_firstNumberTooMany) ∈ TT := tt_2 (List.mem_of_getElem? (i := 159) (by decide +kernel)) rfl
theorem kw_400 : (Cond.selects RX1 yX1_firstNumberTooMany yX1_firstNumberTooMany) ∈ TT := tt_s (List.mem_of_getElem? (i := 11) (by decide +kernel)) rfl
set_option maxRecDepth 20000 in
theorem kw_401 : (Cond.code yX1_firstNumberTooMany cX1_firstNumberTooMany 3 (some .int)) ∈ TT := tt_2 (List.mem_of_getElem? (i := 160) rfl) rfl
theorem kw_402 : (Cond.methodLink RX1 74 yX1_howManyNotBelow) ∈ TT := tt_2 (List.mem_of_getElem? (i := 161) (by decide +kernel)) rfl
theorem kw_403 : (Cond.instanceMethod yX1_howManyNotBelow) ∈ TT := tt_2 (List.mem_of_getElem? (i := 163) (by decide +kernel)) rfl
theorem kw_404 : (Cond.selects RX1 yX1_howManyNotBelow yX1_howManyNotBelow) ∈ TT := tt_s (List.mem_of_getElem? (i := 12) (by decide +kernel)) rfl
set_option maxRecDepth 20000 in
theorem kw_405 : (Cond.code yX1_howManyNotBelow cX1_howManyNotBelow 4 (some .int)) ∈ TT := tt_2 (List.mem_of_getElem? (i := 164) rfl) rfl
theorem kw_406 : (Cond.selects RX2 ⟨"SketchSpans$Sketch", "join", "(LSketchSpans$Sketch;)V"⟩ yX2_join) ∈ TT := tt_2 (List.mem_of_getElem? (i := 165) (by decide +kernel)) rfl
theorem kw_407 : (Cond.instanceMethod yX2_join) ∈ TT := tt_2 (List.mem_of_getElem? (i := 166) (by decide +kernel)) rfl
set_option maxRecDepth 20000 in
theorem kw_408 : (Cond.code yX2_join cX2_join 4 none) ∈ TT := tt_2 (List.mem_of_getElem? (i := 167) rfl) rfl
theorem kw_409 : (Cond.classLink RX2 10 "SketchSpans$Least") ∈ TT := tt_1 (List.mem_of_getElem? (i := 225) (by decide +kernel)) rfl
theorem kw_410 : (Cond.selects RX3 ⟨"SketchSpans$Sketch", "join", "(LSketchSpans$Sketch;)V"⟩ yX3_join) ∈ TT := tt_2 (List.mem_of_getElem? (i := 168) (by decide +kernel)) rfl
theorem kw_411 : (Cond.instanceMethod yX3_join) ∈ TT := tt_2 (List.mem_of_getElem? (i := 169) (by decide +kernel)) rfl
set_option maxRecDepth 20000 in
theorem kw_412 : (Cond.code yX3_join cX3_join 5 none) ∈ TT := tt_2 (List.mem_of_getElem? (i := 170) rfl) rfl
theorem kw_413 : (Cond.classLink RX3 9 "SketchSpans$Ranks") ∈ TT := tt_1 (List.mem_of_getElem? (i := 234) (by decide +kernel)) rfl
theorem kw_414 : (Cond.selects RX5 ⟨"SketchSpans$Sketch", "join", "(LSketchSpans$Sketch;)V"⟩ yX5_join) ∈ TT := tt_2 (List.mem_of_getElem? (i := 171) (by decide +kernel)) rfl
theorem kw_415 : (Cond.instanceMethod yX5_join) ∈ TT := tt_2 (List.mem_of_getElem? (i := 172) (by decide +kernel)) rfl
set_option maxRecDepth 20000 in
theorem kw_416 : (Cond.code yX5_join cX5_join 4 none) ∈ TT := tt_2 (List.mem_of_getElem? (i := 173) rfl) rfl
theorem kw_417 : (Cond.classLink RX5 10 "SketchSpans$Table") ∈ TT := tt_2 (List.mem_of_getElem? (i := 3) (by decide +kernel)) rfl
theorem kw_418 : (Cond.methodLink RL 35 yX7_merge) ∈ TT := tt_3 (List.mem_of_getElem? (i := 210) (by decide +kernel)) rfl
theorem kw_419 : (Cond.instanceMethod yX7_merge) ∈ TT := tt_3 (List.mem_of_getElem? (i := 211) (by decide +kernel)) rfl
theorem kw_420 : (Cond.selects RX7 yX7_merge yX7_merge) ∈ TT := tt_3 (List.mem_of_getElem? (i := 212) (by decide +kernel)) rfl
set_option maxRecDepth 20000 in
theorem kw_421 : (Cond.code yX7_merge cX7_merge 6 (some .int)) ∈ TT := tt_3 (List.mem_of_getElem? (i := 213) rfl) rfl
theorem kw_422 : (Cond.methodLink RX7 97 yX7_joinHeavy) ∈ TT := tt_3 (List.mem_of_getElem? (i := 214) (by decide +kernel)) rfl
theorem kw_423 : (Cond.instanceMethod yX7_joinHeavy) ∈ TT := tt_3 (List.mem_of_getElem? (i := 216) (by decide +kernel)) rfl
theorem kw_424 : (Cond.selects RX7 yX7_joinHeavy yX7_joinHeavy) ∈ TT := tt_s (List.mem_of_getElem? (i := 26) (by decide +kernel)) rfl
set_option maxRecDepth 20000 in
theorem kw_425 : (Cond.code yX7_joinHeavy cX7_joinHeavy 7 none) ∈ TT := tt_3 (List.mem_of_getElem? (i := 217) rfl) rfl
theorem kw_426 : (Cond.methodLink RL 36 yX6_hash) ∈ TT := tt_2 (List.mem_of_getElem? (i := 174) (by decide +kernel)) rfl
theorem kw_427 : (Cond.instanceMethod yX6_hash) ∈ TT := tt_2 (List.mem_of_getElem? (i := 175) (by decide +kernel)) rfl
theorem kw_428 : (Cond.selects RX6 yX6_hash yX6_hash) ∈ TT := tt_2 (List.mem_of_getElem? (i := 176) (by decide +kernel)) rfl
set_option maxRecDepth 20000 in
theorem kw_429 : (Cond.code yX6_hash cX6_hash 4 (some .int)) ∈ TT := tt_2 (List.mem_of_getElem? (i := 177) rfl) rfl
theorem kw_430 : (Cond.methodLink RL 39 yX7_hash) ∈ TT := tt_3 (List.mem_of_getElem? (i := 218) (by decide +kernel)) rfl
theorem kw_431 : (Cond.instanceMethod yX7_hash) ∈ TT := tt_3 (List.mem_of_getElem? (i := 219) (by decide +kernel)) rfl
theorem kw_432 : (Cond.selects RX7 yX7_hash yX7_hash) ∈ TT := tt_3 (List.mem_of_getElem? (i := 220) (by decide +kernel)) rfl
set_option maxRecDepth 20000 in
theorem kw_433 : (Cond.code yX7_hash cX7_hash 4 (some .int)) ∈ TT := tt_3 (List.mem_of_getElem? (i := 221) rfl) rfl
theorem kw_434 : (Cond.methodLink RL 40 yX6_low) ∈ TT := tt_2 (List.mem_of_getElem? (i := 178) (by decide +kernel)) rfl
theorem kw_435 : (Cond.instanceMethod yX6_low) ∈ TT := tt_2 (List.mem_of_getElem? (i := 179) (by decide +kernel)) rfl
theorem kw_436 : (Cond.selects RX6 yX6_low yX6_low) ∈ TT := tt_2 (List.mem_of_getElem? (i := 180) (by decide +kernel)) rfl
set_option maxRecDepth 20000 in
theorem kw_437 : (Cond.code yX6_low cX6_low 4 (some .int)) ∈ TT := tt_2 (List.mem_of_getElem? (i := 181) rfl) rfl
theorem kw_438 : (Cond.methodLink RX6 84 ⟨"SketchSpans$Sketch", "atLeast", "(I)I"⟩) ∈ TT := tt_2 (List.mem_of_getElem? (i := 182) (by decide +kernel)) rfl
theorem kw_439 : (Cond.sameMethod "SketchSpans$Sketch" "SketchSpans$Sketch" "atLeast" "(I)I") ∈ TT := tt_2 (List.mem_of_getElem? (i := 184) (by decide +kernel)) rfl
theorem kw_440 : (Cond.selects RX0 ⟨"SketchSpans$Sketch", "atLeast", "(I)I"⟩ yX4_atLeast) ∈ TT := tt_2 (List.mem_of_getElem? (i := 185) (by decide +kernel)) rfl
theorem kw_441 : (Cond.instanceMethod yX4_atLeast) ∈ TT := tt_2 (List.mem_of_getElem? (i := 183) (by decide +kernel)) rfl
set_option maxRecDepth 20000 in
theorem kw_442 : (Cond.code yX4_atLeast cX4_atLeast 2 (some .int)) ∈ TT := tt_2 (List.mem_of_getElem? (i := 201) rfl) rfl
theorem kw_443 : (Cond.instanceMethod ⟨"SketchSpans$Sketch", "atLeast", "(I)I"⟩) ∈ TT := tt_2 (List.mem_of_getElem? (i := 183) (by decide +kernel)) rfl
theorem kw_444 : (Cond.selects RX1 ⟨"SketchSpans$Sketch", "atLeast", "(I)I"⟩ yX1_atLeast) ∈ TT := tt_2 (List.mem_of_getElem? (i := 186) (by decide +kernel)) rfl
theorem kw_445 : (Cond.instanceMethod yX1_atLeast) ∈ TT := tt_2 (List.mem_of_getElem? (i := 187) (by decide +kernel)) rfl
set_option maxRecDepth 20000 in
theorem kw_446 : (Cond.code yX1_atLeast cX1_atLeast 3 (some .int)) ∈ TT := tt_2 (List.mem_of_getElem? (i := 188) rfl) rfl
theorem kw_447 : (Cond.selects RX2 ⟨"SketchSpans$Sketch", "atLeast", "(I)I"⟩ yX4_atLeast) ∈ TT := tt_2 (List.mem_of_getElem? (i := 189) (by decide +kernel)) rfl
theorem kw_448 : (Cond.selects RX3 ⟨"SketchSpans$Sketch", "atLeast", "(I)I"⟩ yX3_atLeast) ∈ TT := tt_2 (List.mem_of_getElem? (i := 190) (by decide +kernel)) rfl
theorem kw_449 : (Cond.instanceMethod yX3_atLeast) ∈ TT := tt_2 (List.mem_of_getElem? (i := 191) (by decide +kernel)) rfl
set_option maxRecDepth 20000 in
theorem kw_450 : (Cond.code yX3_atLeast cX3_atLeast 2 (some .int)) ∈ TT := tt_2 (List.mem_of_getElem? (i := 192) rfl) rfl
theorem kw_451 : (Cond.methodLink RX3 57 Lib.Math.max.name) ∈ TT := tt_2 (List.mem_of_getElem? (i := 197) (by decide +kernel)) rfl
theorem kw_452 : (Cond.static Lib.Math.max.name) ∈ TT := tt_2 (List.mem_of_getElem? (i := 198) (by decide +kernel)) rfl
set_option maxRecDepth 20000 in
theorem kw_453 : (Cond.code Lib.Math.max.name Lib.Math.max.code 2 (some .int)) ∈ TT := tt_2 (List.mem_of_getElem? (i := 199) rfl) rfl
theorem kw_454 : (Cond.methodLink RX3 53 yX3_weightUpTo) ∈ TT := tt_2 (List.mem_of_getElem? (i := 193) (by decide +kernel)) rfl
theorem kw_455 : (Cond.instanceMethod yX3_weightUpTo) ∈ TT := tt_2 (List.mem_of_getElem? (i := 195) (by decide +kernel)) rfl
theorem kw_456 : (Cond.selects RX3 yX3_weightUpTo yX3_weightUpTo) ∈ TT := tt_s (List.mem_of_getElem? (i := 13) (by decide +kernel)) rfl
set_option maxRecDepth 20000 in
theorem kw_457 : (Cond.code yX3_weightUpTo cX3_weightUpTo 5 (some .int)) ∈ TT := tt_2 (List.mem_of_getElem? (i := 196) rfl) rfl
theorem kw_458 : (Cond.selects RX5 ⟨"SketchSpans$Sketch", "atLeast", "(I)I"⟩ yX4_atLeast) ∈ TT := tt_2 (List.mem_of_getElem? (i := 200) (by decide +kernel)) rfl
theorem kw_459 : (Cond.methodLink RL 43 yX7_low) ∈ TT := tt_3 (List.mem_of_getElem? (i := 222) (by decide +kernel)) rfl
theorem kw_460 : (Cond.instanceMethod yX7_low) ∈ TT := tt_3 (List.mem_of_getElem? (i := 223) (by decide +kernel)) rfl
theorem kw_461 : (Cond.selects RX7 yX7_low yX7_low) ∈ TT := tt_3 (List.mem_of_getElem? (i := 224) (by decide +kernel)) rfl
set_option maxRecDepth 20000 in
theorem kw_462 : (Cond.code yX7_low cX7_low 4 (some .int)) ∈ TT := tt_3 (List.mem_of_getElem? (i := 225) rfl) rfl
theorem kw_463 : (Cond.methodLink RX7 100 yX7_isOf) ∈ TT := tt_3 (List.mem_of_getElem? (i := 226) (by decide +kernel)) rfl
theorem kw_464 : (Cond.instanceMethod yX7_isOf) ∈ TT := tt_3 (List.mem_of_getElem? (i := 228) (by decide +kernel)) rfl
theorem kw_465 : (Cond.selects RX7 yX7_isOf yX7_isOf) ∈ TT := tt_s (List.mem_of_getElem? (i := 27) (by decide +kernel)) rfl
set_option maxRecDepth 20000 in
theorem kw_466 : (Cond.code yX7_isOf cX7_isOf 4 (some .boolean)) ∈ TT := tt_3 (List.mem_of_getElem? (i := 229) rfl) rfl
theorem kw_467 : (Cond.methodLink RX7 103 yX7_isBad) ∈ TT := tt_3 (List.mem_of_getElem? (i := 230) (by decide +kernel)) rfl
theorem kw_468 : (Cond.instanceMethod yX7_isBad) ∈ TT := tt_3 (List.mem_of_getElem? (i := 232) (by decide +kernel)) rfl
theorem kw_469 : (Cond.selects RX7 yX7_isBad yX7_isBad) ∈ TT := tt_s (List.mem_of_getElem? (i := 28) (by decide +kernel)) rfl
set_option maxRecDepth 20000 in
theorem kw_470 : (Cond.code yX7_isBad cX7_isBad 4 (some .boolean)) ∈ TT := tt_3 (List.mem_of_getElem? (i := 233) rfl) rfl
theorem kw_471 : (Cond.methodLink RX7 107 yX7_numberOf) ∈ TT := tt_3 (List.mem_of_getElem? (i := 234) (by decide +kernel)) rfl
theorem kw_472 : (Cond.instanceMethod yX7_numberOf) ∈ TT := tt_3 (List.mem_of_getElem? (i := 236) (by decide +kernel)) rfl
theorem kw_473 : (Cond.selects RX7 yX7_numberOf yX7_numberOf) ∈ TT := tt_s (List.mem_of_getElem? (i := 29) (by decide +kernel)) rfl
set_option maxRecDepth 20000 in
theorem kw_474 : (Cond.code yX7_numberOf cX7_numberOf 4 (some .int)) ∈ TT := tt_3 (List.mem_of_getElem? (i := 237) rfl) rfl
theorem kw_475 : (Cond.methodLink RX7 110 yX7_weightTo) ∈ TT := tt_3 (List.mem_of_getElem? (i := 238) (by decide +kernel)) rfl
theorem kw_476 : (Cond.instanceMethod yX7_weightTo) ∈ TT := tt_4 (List.mem_of_getElem? (i := 0) (by decide +kernel)) rfl
theorem kw_477 : (Cond.selects RX7 yX7_weightTo yX7_weightTo) ∈ TT := tt_s (List.mem_of_getElem? (i := 30) (by decide +kernel)) rfl
set_option maxRecDepth 20000 in
theorem kw_478 : (Cond.code yX7_weightTo cX7_weightTo 6 (some .int)) ∈ TT := tt_4 (List.mem_of_getElem? (i := 1) rfl) rfl
theorem kw_479 : (Cond.methodLink RL 44 yX6_high) ∈ TT := tt_2 (List.mem_of_getElem? (i := 202) (by decide +kernel)) rfl
theorem kw_480 : (Cond.instanceMethod yX6_high) ∈ TT := tt_2 (List.mem_of_getElem? (i := 203) (by decide +kernel)) rfl
theorem kw_481 : (Cond.selects RX6 yX6_high yX6_high) ∈ TT := tt_2 (List.mem_of_getElem? (i := 204) (by decide +kernel)) rfl
set_option maxRecDepth 20000 in
theorem kw_482 : (Cond.code yX6_high cX6_high 4 (some .int)) ∈ TT := tt_2 (List.mem_of_getElem? (i := 205) rfl) rfl
theorem kw_483 : (Cond.methodLink RX6 87 ⟨"SketchSpans$Sketch", "atMost", "(I)I"⟩) ∈ TT := tt_2 (List.mem_of_getElem? (i := 206) (by decide +kernel)) rfl
theorem kw_484 : (Cond.sameMethod "SketchSpans$Sketch" "SketchSpans$Sketch" "atMost" "(I)I") ∈ TT := tt_2 (List.mem_of_getElem? (i := 208) (by decide +kernel)) rfl
theorem kw_485 : (Cond.selects RX0 ⟨"SketchSpans$Sketch", "atMost", "(I)I"⟩ yX4_atMost) ∈ TT := tt_2 (List.mem_of_getElem? (i := 209) (by decide +kernel)) rfl
theorem kw_486 : (Cond.instanceMethod yX4_atMost) ∈ TT := tt_2 (List.mem_of_getElem? (i := 207) (by decide +kernel)) rfl
set_option maxRecDepth 20000 in
theorem kw_487 : (Cond.code yX4_atMost cX4_atMost 2 (some .int)) ∈ TT := tt_2 (List.mem_of_getElem? (i := 224) rfl) rfl
theorem kw_488 : (Cond.instanceMethod ⟨"SketchSpans$Sketch", "atMost", "(I)I"⟩) ∈ TT := tt_2 (List.mem_of_getElem? (i := 207) (by decide +kernel)) rfl
theorem kw_489 : (Cond.selects RX1 ⟨"SketchSpans$Sketch", "atMost", "(I)I"⟩ yX1_atMost) ∈ TT := tt_2 (List.mem_of_getElem? (i := 210) (by decide +kernel)) rfl
theorem kw_490 : (Cond.instanceMethod yX1_atMost) ∈ TT := tt_2 (List.mem_of_getElem? (i := 211) (by decide +kernel)) rfl
set_option maxRecDepth 20000 in
theorem kw_491 : (Cond.code yX1_atMost cX1_atMost 2 (some .int)) ∈ TT := tt_2 (List.mem_of_getElem? (i := 212) rfl) rfl
theorem kw_492 : (Cond.methodLink RX1 65 yX1_atLeast) ∈ TT := tt_2 (List.mem_of_getElem? (i := 213) (by decide +kernel)) rfl
theorem kw_493 : (Cond.selects RX1 yX1_atLeast yX1_atLeast) ∈ TT := tt_4 (List.mem_of_getElem? (i := 38) (by decide +kernel)) rfl
theorem kw_494 : (Cond.selects RX2 ⟨"SketchSpans$Sketch", "atMost", "(I)I"⟩ yX4_atMost) ∈ TT := tt_2 (List.mem_of_getElem? (i := 214) (by decide +kernel)) rfl
theorem kw_495 : (Cond.selects RX3 ⟨"SketchSpans$Sketch", "atMost", "(I)I"⟩ yX3_atMost) ∈ TT := tt_2 (List.mem_of_getElem? (i := 215) (by decide +kernel)) rfl
theorem kw_496 : (Cond.instanceMethod yX3_atMost) ∈ TT := tt_2 (List.mem_of_getElem? (i := 216) (by decide +kernel)) rfl
set_option maxRecDepth 20000 in
theorem kw_497 : (Cond.code yX3_atMost cX3_atMost 2 (some .int)) ∈ TT := tt_2 (List.mem_of_getElem? (i := 217) rfl) rfl
theorem kw_498 : (Cond.fieldLink RX3 62 "SketchSpans$Ranks" "total" "I") ∈ TT := tt_1 (List.mem_of_getElem? (i := 88) (by decide +kernel)) rfl
theorem kw_499 : (Cond.sameField "SketchSpans$Ranks" "SketchSpans$Sketch" "total" "I") ∈ TT := tt_1 (List.mem_of_getElem? (i := 89) (by decide +kernel)) rfl
theorem kw_500 : (Cond.methodLink RX3 65 Lib.Math.min.name) ∈ TT := tt_2 (List.mem_of_getElem? (i := 218) (by decide +kernel)) rfl
theorem kw_501 : (Cond.selects RX5 ⟨"SketchSpans$Sketch", "atMost", "(I)I"⟩ yX5_atMost) ∈ TT := tt_2 (List.mem_of_getElem? (i := 219) (by decide +kernel)) rfl
theorem kw_502 : (Cond.instanceMethod yX5_atMost) ∈ TT := tt_2 (List.mem_of_getElem? (i := 220) (by decide +kernel)) rfl
set_option maxRecDepth 20000 in
theorem kw_503 : (Cond.code yX5_atMost cX5_atMost 5 (some .int)) ∈ TT := tt_2 (List.mem_of_getElem? (i := 221) rfl) rfl
theorem kw_504 : (Cond.constant RX5 45 (10000000)) ∈ TT := tt_2 (List.mem_of_getElem? (i := 222) (by decide +kernel)) rfl
theorem kw_505 : (Cond.methodLink RX5 46 Lib.Math.min.name) ∈ TT := tt_2 (List.mem_of_getElem? (i := 223) (by decide +kernel)) rfl
theorem kw_506 : (Cond.methodLink RL 47 yX7_high) ∈ TT := tt_4 (List.mem_of_getElem? (i := 2) (by decide +kernel)) rfl
theorem kw_507 : (Cond.instanceMethod yX7_high) ∈ TT := tt_4 (List.mem_of_getElem? (i := 3) (by decide +kernel)) rfl
theorem kw_508 : (Cond.selects RX7 yX7_high yX7_high) ∈ TT := tt_4 (List.mem_of_getElem? (i := 4) (by decide +kernel)) rfl
set_option maxRecDepth 20000 in
theorem kw_509 : (Cond.code yX7_high cX7_high 5 (some .int)) ∈ TT := tt_4 (List.mem_of_getElem? (i := 5) rfl) rfl
theorem kw_510 : (Cond.methodLink RL 48 yX6_has) ∈ TT := tt_2 (List.mem_of_getElem? (i := 225) (by decide +kernel)) rfl
theorem kw_511 : (Cond.instanceMethod yX6_has) ∈ TT := tt_2 (List.mem_of_getElem? (i := 226) (by decide +kernel)) rfl
theorem kw_512 : (Cond.selects RX6 yX6_has yX6_has) ∈ TT := tt_2 (List.mem_of_getElem? (i := 227) (by decide +kernel)) rfl
set_option maxRecDepth 20000 in
theorem kw_513 : (Cond.code yX6_has cX6_has 4 (some .int)) ∈ TT := tt_2 (List.mem_of_getElem? (i := 228) rfl) rfl
theorem kw_514 : (Cond.methodLink RX6 90 ⟨"SketchSpans$Sketch", "holds", "(I)I"⟩) ∈ TT := tt_2 (List.mem_of_getElem? (i := 229) (by decide +kernel)) rfl
theorem kw_515 : (Cond.sameMethod "SketchSpans$Sketch" "SketchSpans$Sketch" "holds" "(I)I") ∈ TT := tt_2 (List.mem_of_getElem? (i := 231) (by decide +kernel)) rfl
theorem kw_516 : (Cond.instanceMethod ⟨"SketchSpans$Sketch", "holds", "(I)I"⟩) ∈ TT := tt_2 (List.mem_of_getElem? (i := 230) (by decide +kernel)) rfl
theorem kw_517 : (Cond.selects RX0 ⟨"SketchSpans$Sketch", "holds", "(I)I"⟩ yX0_holds) ∈ TT := tt_2 (List.mem_of_getElem? (i := 232) (by decide +kernel)) rfl
theorem kw_518 : (Cond.instanceMethod yX0_holds) ∈ TT := tt_2 (List.mem_of_getElem? (i := 233) (by decide +kernel)) rfl
set_option maxRecDepth 20000 in
theorem kw_519 : (Cond.code yX0_holds cX0_holds 5 (some .int)) ∈ TT := tt_2 (List.mem_of_getElem? (i := 234) rfl) rfl
set_option maxRecDepth 20000 in
theorem kw_520 : (Cond.code yX4_holds cX4_holds 2 (some .int)) ∈ TT := tt_3 (List.mem_of_getElem? (i := 1) rfl) rfl
theorem kw_521 : (Cond.selects RX1 ⟨"SketchSpans$Sketch", "holds", "(I)I"⟩ yX4_holds) ∈ TT := tt_2 (List.mem_of_getElem? (i := 235) (by decide +kernel)) rfl
theorem kw_522 : (Cond.instanceMethod yX4_holds) ∈ TT := tt_2 (List.mem_of_getElem? (i := 230) (by decide +kernel)) rfl
theorem kw_523 : (Cond.selects RX2 ⟨"SketchSpans$Sketch", "holds", "(I)I"⟩ yX2_holds) ∈ TT := tt_2 (List.mem_of_getElem? (i := 236) (by decide +kernel)) rfl
theorem kw_524 : (Cond.instanceMethod yX2_holds) ∈ TT := tt_2 (List.mem_of_getElem? (i := 237) (by decide +kernel)) rfl
set_option maxRecDepth 20000 in
theorem kw_525 : (Cond.code yX2_holds cX2_holds 3 (some .int)) ∈ TT := tt_2 (List.mem_of_getElem? (i := 238) rfl) rfl
theorem kw_526 : (Cond.selects RX3 ⟨"SketchSpans$Sketch", "holds", "(I)I"⟩ yX4_holds) ∈ TT := tt_2 (List.mem_of_getElem? (i := 239) (by decide +kernel)) rfl
theorem kw_527 : (Cond.selects RX5 ⟨"SketchSpans$Sketch", "holds", "(I)I"⟩ yX4_holds) ∈ TT := tt_3 (List.mem_of_getElem? (i := 0) (by decide +kernel)) rfl
theorem kw_528 : (Cond.methodLink RL 51 yX7_has) ∈ TT := tt_4 (List.mem_of_getElem? (i := 6) (by decide +kernel)) rfl
theorem kw_529 : (Cond.instanceMethod yX7_has) ∈ TT := tt_4 (List.mem_of_getElem? (i := 7) (by decide +kernel)) rfl
theorem kw_530 : (Cond.selects RX7 yX7_has yX7_has) ∈ TT := tt_4 (List.mem_of_getElem? (i := 8) (by decide +kernel)) rfl
set_option maxRecDepth 20000 in
theorem kw_531 : (Cond.code yX7_has cX7_has 6 (some .int)) ∈ TT := tt_4 (List.mem_of_getElem? (i := 9) rfl) rfl
theorem kw_532 : (Cond.methodLink RL 52 yX6_distinct) ∈ TT := tt_3 (List.mem_of_getElem? (i := 2) (by decide +kernel)) rfl
theorem kw_533 : (Cond.instanceMethod yX6_distinct) ∈ TT := tt_3 (List.mem_of_getElem? (i := 3) (by decide +kernel)) rfl
theorem kw_534 : (Cond.selects RX6 yX6_distinct yX6_distinct) ∈ TT := tt_3 (List.mem_of_getElem? (i := 4) (by decide +kernel)) rfl
set_option maxRecDepth 20000 in
theorem kw_535 : (Cond.code yX6_distinct cX6_distinct 3 (some .int)) ∈ TT := tt_3 (List.mem_of_getElem? (i := 5) rfl) rfl
theorem kw_536 : (Cond.methodLink RX6 93 ⟨"SketchSpans$Sketch", "differentKeys", "()I"⟩) ∈ TT := tt_3 (List.mem_of_getElem? (i := 6) (by decide +kernel)) rfl
theorem kw_537 : (Cond.sameMethod "SketchSpans$Sketch" "SketchSpans$Sketch" "differentKeys" "()I") ∈ TT := tt_3 (List.mem_of_getElem? (i := 8) (by decide +kernel)) rfl
theorem kw_538 : (Cond.selects RX0 ⟨"SketchSpans$Sketch", "differentKeys", "()I"⟩ yX4_differentKeys) ∈ TT := tt_3 (List.mem_of_getElem? (i := 9) (by decide +kernel)) rfl
theorem kw_539 : (Cond.instanceMethod yX4_differentKeys) ∈ TT := tt_3 (List.mem_of_getElem? (i := 7) (by decide +kernel)) rfl
set_option maxRecDepth 20000 in
theorem kw_540 : (Cond.code yX4_differentKeys cX4_differentKeys 1 (some .int)) ∈ TT := tt_3 (List.mem_of_getElem? (i := 17) rfl) rfl
theorem kw_541 : (Cond.selects RX1 ⟨"SketchSpans$Sketch", "differentKeys", "()I"⟩ yX4_differentKeys) ∈ TT := tt_3 (List.mem_of_getElem? (i := 10) (by decide +kernel)) rfl
theorem kw_542 : (Cond.instanceMethod ⟨"SketchSpans$Sketch", "differentKeys", "()I"⟩) ∈ TT := tt_3 (List.mem_of_getElem? (i := 7) (by decide +kernel)) rfl
theorem kw_543 : (Cond.selects RX2 ⟨"SketchSpans$Sketch", "differentKeys", "()I"⟩ yX2_differentKeys) ∈ TT := tt_3 (List.mem_of_getElem? (i := 11) (by decide +kernel)) rfl
theorem kw_544 : (Cond.instanceMethod yX2_differentKeys) ∈ TT := tt_3 (List.mem_of_getElem? (i := 12) (by decide +kernel)) rfl
set_option maxRecDepth 20000 in
theorem kw_545 : (Cond.code yX2_differentKeys cX2_differentKeys 2 (some .int)) ∈ TT := tt_3 (List.mem_of_getElem? (i := 13) rfl) rfl
theorem kw_546 : (Cond.constant RX2 52 (65537)) ∈ TT := tt_3 (List.mem_of_getElem? (i := 14) (by decide +kernel)) rfl
theorem kw_547 : (Cond.selects RX3 ⟨"SketchSpans$Sketch", "differentKeys", "()I"⟩ yX4_differentKeys) ∈ TT := tt_3 (List.mem_of_getElem? (i := 15) (by decide +kernel)) rfl
theorem kw_548 : (Cond.selects RX5 ⟨"SketchSpans$Sketch", "differentKeys", "()I"⟩ yX4_differentKeys) ∈ TT := tt_3 (List.mem_of_getElem? (i := 16) (by decide +kernel)) rfl
theorem kw_549 : (Cond.methodLink RL 55 yX7_distinct) ∈ TT := tt_4 (List.mem_of_getElem? (i := 10) (by decide +kernel)) rfl
theorem kw_550 : (Cond.instanceMethod yX7_distinct) ∈ TT := tt_4 (List.mem_of_getElem? (i := 11) (by decide +kernel)) rfl
theorem kw_551 : (Cond.selects RX7 yX7_distinct yX7_distinct) ∈ TT := tt_4 (List.mem_of_getElem? (i := 12) (by decide +kernel)) rfl
set_option maxRecDepth 20000 in
theorem kw_552 : (Cond.code yX7_distinct cX7_distinct 4 (some .int)) ∈ TT := tt_4 (List.mem_of_getElem? (i := 13) rfl) rfl
theorem kw_553 : (Cond.methodLink RL 56 yX6_quantile) ∈ TT := tt_3 (List.mem_of_getElem? (i := 18) (by decide +kernel)) rfl
theorem kw_554 : (Cond.instanceMethod yX6_quantile) ∈ TT := tt_3 (List.mem_of_getElem? (i := 19) (by decide +kernel)) rfl
theorem kw_555 : (Cond.selects RX6 yX6_quantile yX6_quantile) ∈ TT := tt_3 (List.mem_of_getElem? (i := 20) (by decide +kernel)) rfl
set_option maxRecDepth 20000 in
theorem kw_556 : (Cond.code yX6_quantile cX6_quantile 4 (some .int)) ∈ TT := tt_3 (List.mem_of_getElem? (i := 21) rfl) rfl
theorem kw_557 : (Cond.methodLink RX6 97 ⟨"SketchSpans$Sketch", "keyAtRank", "(I)I"⟩) ∈ TT := tt_3 (List.mem_of_getElem? (i := 22) (by decide +kernel)) rfl
theorem kw_558 : (Cond.sameMethod "SketchSpans$Sketch" "SketchSpans$Sketch" "keyAtRank" "(I)I") ∈ TT := tt_3 (List.mem_of_getElem? (i := 24) (by decide +kernel)) rfl
theorem kw_559 : (Cond.selects RX0 ⟨"SketchSpans$Sketch", "keyAtRank", "(I)I"⟩ yX4_keyAtRank) ∈ TT := tt_3 (List.mem_of_getElem? (i := 25) (by decide +kernel)) rfl
theorem kw_560 : (Cond.instanceMethod yX4_keyAtRank) ∈ TT := tt_3 (List.mem_of_getElem? (i := 23) (by decide +kernel)) rfl
set_option maxRecDepth 20000 in
theorem kw_561 : (Cond.code yX4_keyAtRank cX4_keyAtRank 2 (some .int)) ∈ TT := tt_3 (List.mem_of_getElem? (i := 32) rfl) rfl
theorem kw_562 : (Cond.selects RX1 ⟨"SketchSpans$Sketch", "keyAtRank", "(I)I"⟩ yX4_keyAtRank) ∈ TT := tt_3 (List.mem_of_getElem? (i := 26) (by decide +kernel)) rfl
theorem kw_563 : (Cond.selects RX2 ⟨"SketchSpans$Sketch", "keyAtRank", "(I)I"⟩ yX4_keyAtRank) ∈ TT := tt_3 (List.mem_of_getElem? (i := 27) (by decide +kernel)) rfl
theorem kw_564 : (Cond.instanceMethod ⟨"SketchSpans$Sketch", "keyAtRank", "(I)I"⟩) ∈ TT := tt_3 (List.mem_of_getElem? (i := 23) (by decide +kernel)) rfl
theorem kw_565 : (Cond.selects RX3 ⟨"SketchSpans$Sketch", "keyAtRank", "(I)I"⟩ yX3_keyAtRank) ∈ TT := tt_3 (List.mem_of_getElem? (i := 28) (by decide +kernel)) rfl
theorem kw_566 : (Cond.instanceMethod yX3_keyAtRank) ∈ TT := tt_3 (List.mem_of_getElem? (i := 29) (by decide +kernel)) rfl
set_option maxRecDepth 20000 in
theorem kw_567 : (Cond.code yX3_keyAtRank cX3_keyAtRank 6 (some .int)) ∈ TT := tt_3 (List.mem_of_getElem? (i := 30) rfl) rfl
theorem kw_568 : (Cond.selects RX5 ⟨"SketchSpans$Sketch", "keyAtRank", "(I)I"⟩ yX4_keyAtRank) ∈ TT := tt_3 (List.mem_of_getElem? (i := 31) (by decide +kernel)) rfl
theorem kw_569 : (Cond.methodLink RL 59 yX7_quantile) ∈ TT := tt_4 (List.mem_of_getElem? (i := 14) (by decide +kernel)) rfl
theorem kw_570 : (Cond.instanceMethod yX7_quantile) ∈ TT := tt_4 (List.mem_of_getElem? (i := 15) (by decide +kernel)) rfl
theorem kw_571 : (Cond.selects RX7 yX7_quantile yX7_quantile) ∈ TT := tt_4 (List.mem_of_getElem? (i := 16) (by decide +kernel)) rfl
set_option maxRecDepth 20000 in
theorem kw_572 : (Cond.code yX7_quantile cX7_quantile 6 (some .int)) ∈ TT := tt_4 (List.mem_of_getElem? (i := 17) rfl) rfl
theorem kw_573 : (Cond.methodLink RL 60 yX6_told) ∈ TT := tt_3 (List.mem_of_getElem? (i := 33) (by decide +kernel)) rfl
theorem kw_574 : (Cond.instanceMethod yX6_told) ∈ TT := tt_3 (List.mem_of_getElem? (i := 34) (by decide +kernel)) rfl
theorem kw_575 : (Cond.selects RX6 yX6_told yX6_told) ∈ TT := tt_3 (List.mem_of_getElem? (i := 35) (by decide +kernel)) rfl
set_option maxRecDepth 20000 in
theorem kw_576 : (Cond.code yX6_told cX6_told 4 (some .int)) ∈ TT := tt_3 (List.mem_of_getElem? (i := 36) rfl) rfl
theorem kw_577 : (Cond.fieldLink RX6 100 "SketchSpans$Sketch" "sort" "I") ∈ TT := tt_1 (List.mem_of_getElem? (i := 61) (by decide +kernel)) rfl
theorem kw_578 : (Cond.fieldLink RX6 103 "SketchSpans$Sketch" "size" "I") ∈ TT := tt_1 (List.mem_of_getElem? (i := 73) (by decide +kernel)) rfl
theorem kw_579 : (Cond.fieldLink RX6 106 "SketchSpans$Sketch" "seed" "I") ∈ TT := tt_1 (List.mem_of_getElem? (i := 85) (by decide +kernel)) rfl
theorem kw_580 : (Cond.methodLink RX6 109 ⟨"SketchSpans$Sketch", "mayLack", "()I"⟩) ∈ TT := tt_3 (List.mem_of_getElem? (i := 37) (by decide +kernel)) rfl
theorem kw_581 : (Cond.sameMethod "SketchSpans$Sketch" "SketchSpans$Sketch" "mayLack" "()I") ∈ TT := tt_3 (List.mem_of_getElem? (i := 39) (by decide +kernel)) rfl
theorem kw_582 : (Cond.selects RX0 ⟨"SketchSpans$Sketch", "mayLack", "()I"⟩ yX4_mayLack) ∈ TT := tt_3 (List.mem_of_getElem? (i := 40) (by decide +kernel)) rfl
theorem kw_583 : (Cond.instanceMethod yX4_mayLack) ∈ TT := tt_3 (List.mem_of_getElem? (i := 38) (by decide +kernel)) rfl
set_option maxRecDepth 20000 in
theorem kw_584 : (Cond.code yX4_mayLack cX4_mayLack 1 (some .int)) ∈ TT := tt_3 (List.mem_of_getElem? (i := 49) rfl) rfl
theorem kw_585 : (Cond.instanceMethod ⟨"SketchSpans$Sketch", "mayLack", "()I"⟩) ∈ TT := tt_3 (List.mem_of_getElem? (i := 38) (by decide +kernel)) rfl
theorem kw_586 : (Cond.selects RX1 ⟨"SketchSpans$Sketch", "mayLack", "()I"⟩ yX1_mayLack) ∈ TT := tt_3 (List.mem_of_getElem? (i := 41) (by decide +kernel)) rfl
theorem kw_587 : (Cond.instanceMethod yX1_mayLack) ∈ TT := tt_3 (List.mem_of_getElem? (i := 42) (by decide +kernel)) rfl
set_option maxRecDepth 20000 in
theorem kw_588 : (Cond.code yX1_mayLack cX1_mayLack 1 (some .int)) ∈ TT := tt_3 (List.mem_of_getElem? (i := 43) rfl) rfl
theorem kw_589 : (Cond.selects RX2 ⟨"SketchSpans$Sketch", "mayLack", "()I"⟩ yX4_mayLack) ∈ TT := tt_3 (List.mem_of_getElem? (i := 44) (by decide +kernel)) rfl
theorem kw_590 : (Cond.selects RX3 ⟨"SketchSpans$Sketch", "mayLack", "()I"⟩ yX3_mayLack) ∈ TT := tt_3 (List.mem_of_getElem? (i := 45) (by decide +kernel)) rfl
theorem kw_591 : (Cond.instanceMethod yX3_mayLack) ∈ TT := tt_3 (List.mem_of_getElem? (i := 46) (by decide +kernel)) rfl
set_option maxRecDepth 20000 in
theorem kw_592 : (Cond.code yX3_mayLack cX3_mayLack 1 (some .int)) ∈ TT := tt_3 (List.mem_of_getElem? (i := 47) rfl) rfl
theorem kw_593 : (Cond.selects RX5 ⟨"SketchSpans$Sketch", "mayLack", "()I"⟩ yX4_mayLack) ∈ TT := tt_3 (List.mem_of_getElem? (i := 48) (by decide +kernel)) rfl
theorem kw_594 : (Cond.methodLink RX6 112 ⟨"SketchSpans$Sketch", "howManyKept", "()I"⟩) ∈ TT := tt_3 (List.mem_of_getElem? (i := 50) (by decide +kernel)) rfl
theorem kw_595 : (Cond.sameMethod "SketchSpans$Sketch" "SketchSpans$Sketch" "howManyKept" "()I") ∈ TT := tt_3 (List.mem_of_getElem? (i := 52) (by decide +kernel)) rfl
theorem kw_596 : (Cond.selects RX0 ⟨"SketchSpans$Sketch", "howManyKept", "()I"⟩ yX0_howManyKept) ∈ TT := tt_3 (List.mem_of_getElem? (i := 53) (by decide +kernel)) rfl
theorem kw_597 : (Cond.instanceMethod yX0_howManyKept) ∈ TT := tt_3 (List.mem_of_getElem? (i := 54) (by decide +kernel)) rfl
set_option maxRecDepth 20000 in
theorem kw_598 : (Cond.code yX0_howManyKept cX0_howManyKept 1 (some .int)) ∈ TT := tt_3 (List.mem_of_getElem? (i := 55) rfl) rfl
theorem kw_599 : (Cond.static yX6_countNotZero) ∈ TT := tt_3 (List.mem_of_getElem? (i := 57) (by decide +kernel)) rfl
set_option maxRecDepth 20000 in
theorem kw_600 : (Cond.code yX6_countNotZero cX6_countNotZero 3 (some .int)) ∈ TT := tt_3 (List.mem_of_getElem? (i := 58) rfl) rfl
theorem kw_601 : (Cond.selects RX1 ⟨"SketchSpans$Sketch", "howManyKept", "()I"⟩ yX1_howManyKept) ∈ TT := tt_3 (List.mem_of_getElem? (i := 59) (by decide +kernel)) rfl
theorem kw_602 : (Cond.instanceMethod yX1_howManyKept) ∈ TT := tt_3 (List.mem_of_getElem? (i := 60) (by decide +kernel)) rfl
set_option maxRecDepth 20000 in
theorem kw_603 : (Cond.code yX1_howManyKept cX1_howManyKept 1 (some .int)) ∈ TT := tt_3 (List.mem_of_getElem? (i := 61) rfl) rfl
theorem kw_604 : (Cond.selects RX2 ⟨"SketchSpans$Sketch", "howManyKept", "()I"⟩ yX2_howManyKept) ∈ TT := tt_3 (List.mem_of_getElem? (i := 62) (by decide +kernel)) rfl
theorem kw_605 : (Cond.instanceMethod yX2_howManyKept) ∈ TT := tt_3 (List.mem_of_getElem? (i := 63) (by decide +kernel)) rfl
set_option maxRecDepth 20000 in
theorem kw_606 : (Cond.code yX2_howManyKept cX2_howManyKept 1 (some .int)) ∈ TT := tt_3 (List.mem_of_getElem? (i := 64) rfl) rfl
theorem kw_607 : (Cond.selects RX3 ⟨"SketchSpans$Sketch", "howManyKept", "()I"⟩ yX3_howManyKept) ∈ TT := tt_3 (List.mem_of_getElem? (i := 65) (by decide +kernel)) rfl
theorem kw_608 : (Cond.instanceMethod yX3_howManyKept) ∈ TT := tt_3 (List.mem_of_getElem? (i := 66) (by decide +kernel)) rfl
set_option maxRecDepth 20000 in
theorem kw_609 : (Cond.code yX3_howManyKept cX3_howManyKept 3 (some .int)) ∈ TT := tt_3 (List.mem_of_getElem? (i := 67) rfl) rfl
theorem kw_610 : (Cond.selects RX5 ⟨"SketchSpans$Sketch", "howManyKept", "()I"⟩ yX5_howManyKept) ∈ TT := tt_3 (List.mem_of_getElem? (i := 68) (by decide +kernel)) rfl
theorem kw_611 : (Cond.instanceMethod yX5_howManyKept) ∈ TT := tt_3 (List.mem_of_getElem? (i := 69) (by decide +kernel)) rfl
set_option maxRecDepth 20000 in
theorem kw_612 : (Cond.code yX5_howManyKept cX5_howManyKept 1 (some .int)) ∈ TT := tt_3 (List.mem_of_getElem? (i := 70) rfl) rfl
theorem kw_613 : (Cond.methodLink RL 63 yX7_told) ∈ TT := tt_4 (List.mem_of_getElem? (i := 18) (by decide +kernel)) rfl
theorem kw_614 : (Cond.instanceMethod yX7_told) ∈ TT := tt_4 (List.mem_of_getElem? (i := 19) (by decide +kernel)) rfl
theorem kw_615 : (Cond.selects RX7 yX7_told yX7_told) ∈ TT := tt_4 (List.mem_of_getElem? (i := 20) (by decide +kernel)) rfl
set_option maxRecDepth 20000 in
theorem kw_616 : (Cond.code yX7_told cX7_told 3 (some .int)) ∈ TT := tt_4 (List.mem_of_getElem? (i := 21) rfl) rfl
theorem kw_617 : (Cond.methodLink RX7 113 yX7_keptOf) ∈ TT := tt_4 (List.mem_of_getElem? (i := 22) (by decide +kernel)) rfl
theorem kw_618 : (Cond.instanceMethod yX7_keptOf) ∈ TT := tt_4 (List.mem_of_getElem? (i := 24) (by decide +kernel)) rfl
theorem kw_619 : (Cond.selects RX7 yX7_keptOf yX7_keptOf) ∈ TT := tt_s (List.mem_of_getElem? (i := 31) (by decide +kernel)) rfl
set_option maxRecDepth 20000 in
theorem kw_620 : (Cond.code yX7_keptOf cX7_keptOf 4 (some .int)) ∈ TT := tt_4 (List.mem_of_getElem? (i := 25) rfl) rfl
theorem kw_621 : (Cond.methodLink RL 64 yX6_kept) ∈ TT := tt_3 (List.mem_of_getElem? (i := 72) (by decide +kernel)) rfl
theorem kw_622 : (Cond.instanceMethod yX6_kept) ∈ TT := tt_3 (List.mem_of_getElem? (i := 73) (by decide +kernel)) rfl
theorem kw_623 : (Cond.selects RX6 yX6_kept yX6_kept) ∈ TT := tt_3 (List.mem_of_getElem? (i := 74) (by decide +kernel)) rfl
set_option maxRecDepth 20000 in
theorem kw_624 : (Cond.code yX6_kept cX6_kept 5 (some .int)) ∈ TT := tt_3 (List.mem_of_getElem? (i := 75) rfl) rfl
theorem kw_625 : (Cond.methodLink RX6 115 ⟨"SketchSpans$Sketch", "keptAt", "(II)I"⟩) ∈ TT := tt_3 (List.mem_of_getElem? (i := 76) (by decide +kernel)) rfl
theorem kw_626 : (Cond.sameMethod "SketchSpans$Sketch" "SketchSpans$Sketch" "keptAt" "(II)I") ∈ TT := tt_3 (List.mem_of_getElem? (i := 78) (by decide +kernel)) rfl
theorem kw_627 : (Cond.selects RX0 ⟨"SketchSpans$Sketch", "keptAt", "(II)I"⟩ yX0_keptAt) ∈ TT := tt_3 (List.mem_of_getElem? (i := 79) (by decide +kernel)) rfl
theorem kw_628 : (Cond.instanceMethod yX0_keptAt) ∈ TT := tt_3 (List.mem_of_getElem? (i := 80) (by decide +kernel)) rfl
set_option maxRecDepth 20000 in
theorem kw_629 : (Cond.code yX0_keptAt cX0_keptAt 3 (some .int)) ∈ TT := tt_3 (List.mem_of_getElem? (i := 81) rfl) rfl
theorem kw_630 : (Cond.selects RX1 ⟨"SketchSpans$Sketch", "keptAt", "(II)I"⟩ yX1_keptAt) ∈ TT := tt_3 (List.mem_of_getElem? (i := 82) (by decide +kernel)) rfl
theorem kw_631 : (Cond.instanceMethod yX1_keptAt) ∈ TT := tt_3 (List.mem_of_getElem? (i := 83) (by decide +kernel)) rfl
set_option maxRecDepth 20000 in
theorem kw_632 : (Cond.code yX1_keptAt cX1_keptAt 3 (some .int)) ∈ TT := tt_3 (List.mem_of_getElem? (i := 84) rfl) rfl
theorem kw_633 : (Cond.selects RX2 ⟨"SketchSpans$Sketch", "keptAt", "(II)I"⟩ yX2_keptAt) ∈ TT := tt_3 (List.mem_of_getElem? (i := 85) (by decide +kernel)) rfl
theorem kw_634 : (Cond.instanceMethod yX2_keptAt) ∈ TT := tt_3 (List.mem_of_getElem? (i := 86) (by decide +kernel)) rfl
set_option maxRecDepth 20000 in
theorem kw_635 : (Cond.code yX2_keptAt cX2_keptAt 3 (some .int)) ∈ TT := tt_3 (List.mem_of_getElem? (i := 87) rfl) rfl
theorem kw_636 : (Cond.selects RX3 ⟨"SketchSpans$Sketch", "keptAt", "(II)I"⟩ yX3_keptAt) ∈ TT := tt_3 (List.mem_of_getElem? (i := 88) (by decide +kernel)) rfl
theorem kw_637 : (Cond.instanceMethod yX3_keptAt) ∈ TT := tt_3 (List.mem_of_getElem? (i := 89) (by decide +kernel)) rfl
set_option maxRecDepth 20000 in
theorem kw_638 : (Cond.code yX3_keptAt cX3_keptAt 3 (some .int)) ∈ TT := tt_3 (List.mem_of_getElem? (i := 90) rfl) rfl
theorem kw_639 : (Cond.selects RX5 ⟨"SketchSpans$Sketch", "keptAt", "(II)I"⟩ yX5_keptAt) ∈ TT := tt_3 (List.mem_of_getElem? (i := 91) (by decide +kernel)) rfl
theorem kw_640 : (Cond.instanceMethod yX5_keptAt) ∈ TT := tt_3 (List.mem_of_getElem? (i := 92) (by decide +kernel)) rfl
set_option maxRecDepth 20000 in
theorem kw_641 : (Cond.code yX5_keptAt cX5_keptAt 3 (some .int)) ∈ TT := tt_3 (List.mem_of_getElem? (i := 93) rfl) rfl
theorem kw_642 : (Cond.methodLink RL 67 yX7_kept) ∈ TT := tt_4 (List.mem_of_getElem? (i := 26) (by decide +kernel)) rfl
theorem kw_643 : (Cond.instanceMethod yX7_kept) ∈ TT := tt_4 (List.mem_of_getElem? (i := 27) (by decide +kernel)) rfl
theorem kw_644 : (Cond.selects RX7 yX7_kept yX7_kept) ∈ TT := tt_4 (List.mem_of_getElem? (i := 28) (by decide +kernel)) rfl
set_option maxRecDepth 20000 in
theorem kw_645 : (Cond.code yX7_kept cX7_kept 5 (some .int)) ∈ TT := tt_4 (List.mem_of_getElem? (i := 29) rfl) rfl
theorem kw_646 : (Cond.methodLink RX7 116 yX7_nth) ∈ TT := tt_4 (List.mem_of_getElem? (i := 30) (by decide +kernel)) rfl
theorem kw_647 : (Cond.instanceMethod yX7_nth) ∈ TT := tt_4 (List.mem_of_getElem? (i := 32) (by decide +kernel)) rfl
theorem kw_648 : (Cond.selects RX7 yX7_nth yX7_nth) ∈ TT := tt_s (List.mem_of_getElem? (i := 32) (by decide +kernel)) rfl
set_option maxRecDepth 20000 in
theorem kw_649 : (Cond.code yX7_nth cX7_nth 7 (some .int)) ∈ TT := tt_4 (List.mem_of_getElem? (i := 33) rfl) rfl
theorem kw_650 : (Cond.methodLink RL 68 yX6_count) ∈ TT := tt_3 (List.mem_of_getElem? (i := 94) (by decide +kernel)) rfl
theorem kw_651 : (Cond.instanceMethod yX6_count) ∈ TT := tt_3 (List.mem_of_getElem? (i := 95) (by decide +kernel)) rfl
theorem kw_652 : (Cond.selects RX6 yX6_count yX6_count) ∈ TT := tt_3 (List.mem_of_getElem? (i := 96) (by decide +kernel)) rfl
set_option maxRecDepth 20000 in
theorem kw_653 : (Cond.code yX6_count cX6_count 1 (some .int)) ∈ TT := tt_3 (List.mem_of_getElem? (i := 97) rfl) rfl
theorem kw_654 : (Cond.methodLink RL 72 yX7_count) ∈ TT := tt_4 (List.mem_of_getElem? (i := 34) (by decide +kernel)) rfl
theorem kw_655 : (Cond.instanceMethod yX7_count) ∈ TT := tt_4 (List.mem_of_getElem? (i := 35) (by decide +kernel)) rfl
theorem kw_656 : (Cond.selects RX7 yX7_count yX7_count) ∈ TT := tt_4 (List.mem_of_getElem? (i := 36) (by decide +kernel)) rfl
set_option maxRecDepth 20000 in
theorem kw_657 : (Cond.code yX7_count cX7_count 1 (some .int)) ∈ TT := tt_4 (List.mem_of_getElem? (i := 37) rfl) rfl
theorem inU0 : ∀ w ∈ wsX00, w ∈ tables_1 ∧ goodWord w = true := by decide +kernel
theorem inT0 : ∀ w ∈ wsX00, w ∈ TT := fun w h => tt_t (inU0 w h).1 (inU0 w h).2
theorem inU1 : ∀ w ∈ wsX10, w ∈ tables_1 ∧ goodWord w = true := by decide +kernel
theorem inT1 : ∀ w ∈ wsX10, w ∈ TT := fun w h => tt_t (inU1 w h).1 (inU1 w h).2
theorem inU2 : ∀ w ∈ wsX20, w ∈ tables_1 ∧ goodWord w = true := by decide +kernel
theorem inT2 : ∀ w ∈ wsX20, w ∈ TT := fun w h => tt_t (inU2 w h).1 (inU2 w h).2
theorem inU3 : ∀ w ∈ wsX30, w ∈ tables_1 ∧ goodWord w = true := by decide +kernel
theorem inT3 : ∀ w ∈ wsX30, w ∈ TT := fun w h => tt_t (inU3 w h).1 (inU3 w h).2
theorem inU5 : ∀ w ∈ wsX50, w ∈ tables_1 ∧ goodWord w = true := by decide +kernel
theorem inT5 : ∀ w ∈ wsX50, w ∈ TT := fun w h => tt_t (inU5 w h).1 (inU5 w h).2
theorem inU6 : ∀ w ∈ wsX60, w ∈ tables_1 ∧ goodWord w = true := by decide +kernel
theorem inT6 : ∀ w ∈ wsX60, w ∈ TT := fun w h => tt_t (inU6 w h).1 (inU6 w h).2
theorem inU7 : ∀ w ∈ wsX70, w ∈ tables_1 ∧ goodWord w = true := by decide +kernel
theorem inT7 : ∀ w ∈ wsX70, w ∈ TT := fun w h => tt_t (inU7 w h).1 (inU7 w h).2
def ntW : Cond → Bool
  | .methodLinkNest .. => true
  | .declares .. => true
  | .castable .. => true
  | _ => false
def NT : List Cond := tables_1.filter ntW
theorem nt_1 {w : Cond} (h1 : w ∈ tables_1_1) (h2 : ntW w = true) : w ∈ NT := List.mem_filter.mpr ⟨List.mem_append_left _ h1, h2⟩
theorem nt_2 {w : Cond} (h1 : w ∈ tables_1_2) (h2 : ntW w = true) : w ∈ NT := List.mem_filter.mpr ⟨List.mem_append_right _ (List.mem_append_left _ h1), h2⟩
theorem nt_3 {w : Cond} (h1 : w ∈ tables_1_3) (h2 : ntW w = true) : w ∈ NT := List.mem_filter.mpr ⟨List.mem_append_right _ (List.mem_append_right _ (List.mem_append_left _ h1)), h2⟩
theorem nt_4 {w : Cond} (h1 : w ∈ tables_1_4) (h2 : ntW w = true) : w ∈ NT := List.mem_filter.mpr ⟨List.mem_append_right _ (List.mem_append_right _ (List.mem_append_right _ h1)), h2⟩
theorem kn_0 : (Cond.declares ⟨"SketchSpans$Sketch", "twin", "()LSketchSpans$Sketch;"⟩) ∈ NT := nt_1 (List.mem_of_getElem? (i := 197) (by decide +kernel)) rfl
theorem kn_1 : (Cond.declares yX4_copyTotals) ∈ NT := nt_1 (List.mem_of_getElem? (i := 206) (by decide +kernel)) rfl
theorem kn_2 : (Cond.methodLinkNest RX0 29 yX6_copyRow RX6) ∈ NT := nt_1 (List.mem_of_getElem? (i := 210) (by decide +kernel)) rfl
theorem kn_3 : (Cond.methodLinkNest RX1 38 yX6_copyRow RX6) ∈ NT := nt_1 (List.mem_of_getElem? (i := 221) (by decide +kernel)) rfl
theorem kn_4 : (Cond.methodLinkNest RX2 32 yX6_copyRow RX6) ∈ NT := nt_1 (List.mem_of_getElem? (i := 230) (by decide +kernel)) rfl
theorem kn_5 : (Cond.methodLinkNest RX3 38 yX6_copyRow RX6) ∈ NT := nt_1 (List.mem_of_getElem? (i := 239) (by decide +kernel)) rfl
theorem kn_6 : (Cond.methodLinkNest RX5 29 yX6_copyRow RX6) ∈ NT := nt_2 (List.mem_of_getElem? (i := 8) (by decide +kernel)) rfl
theorem kn_7 : (Cond.declares ⟨"SketchSpans$Sketch", "forget", "()V"⟩) ∈ NT := nt_2 (List.mem_of_getElem? (i := 14) (by decide +kernel)) rfl
theorem kn_8 : (Cond.methodLinkNest RX0 33 yX6_clearRow RX6) ∈ NT := nt_2 (List.mem_of_getElem? (i := 19) (by decide +kernel)) rfl
theorem kn_9 : (Cond.methodLinkNest RX3 42 yX6_clearRow RX6) ∈ NT := nt_2 (List.mem_of_getElem? (i := 31) (by decide +kernel)) rfl
theorem kn_10 : (Cond.methodLinkNest RX5 33 yX6_clearRow RX6) ∈ NT := nt_2 (List.mem_of_getElem? (i := 35) (by decide +kernel)) rfl
theorem kn_11 : (Cond.declares ⟨"SketchSpans$Sketch", "take", "(II)V"⟩) ∈ NT := nt_2 (List.mem_of_getElem? (i := 61) (by decide +kernel)) rfl
theorem kn_12 : (Cond.methodLinkNest RX0 37 yX6_placeOf RX6) ∈ NT := nt_2 (List.mem_of_getElem? (i := 66) (by decide +kernel)) rfl
theorem kn_13 : (Cond.methodLinkNest RX1 42 yX6_placeFor RX6) ∈ NT := nt_2 (List.mem_of_getElem? (i := 76) (by decide +kernel)) rfl
theorem kn_14 : (Cond.methodLinkNest RX1 46 yX6_standsAt RX6) ∈ NT := nt_2 (List.mem_of_getElem? (i := 79) (by decide +kernel)) rfl
theorem kn_15 : (Cond.methodLinkNest RX2 36 yX6_hashOf RX6) ∈ NT := nt_2 (List.mem_of_getElem? (i := 100) (by decide +kernel)) rfl
theorem kn_16 : (Cond.methodLinkNest RX2 44 yX6_placeFor RX6) ∈ NT := nt_2 (List.mem_of_getElem? (i := 105) (by decide +kernel)) rfl
theorem kn_17 : (Cond.methodLinkNest RX2 48 yX6_standsAt RX6) ∈ NT := nt_2 (List.mem_of_getElem? (i := 106) (by decide +kernel)) rfl
theorem kn_18 : (Cond.methodLinkNest RX5 51 yX6_placeOf RX6) ∈ NT := nt_2 (List.mem_of_getElem? (i := 134) (by decide +kernel)) rfl
theorem kn_19 : (Cond.declares ⟨"SketchSpans$Sketch", "join", "(LSketchSpans$Sketch;)V"⟩) ∈ NT := nt_2 (List.mem_of_getElem? (i := 149) (by decide +kernel)) rfl
theorem kn_20 : (Cond.declares ⟨"SketchSpans$Sketch", "howManyKept", "()I"⟩) ∈ NT := nt_3 (List.mem_of_getElem? (i := 51) (by decide +kernel)) rfl
theorem kn_21 : (Cond.methodLinkNest RX0 41 yX6_countNotZero RX6) ∈ NT := nt_3 (List.mem_of_getElem? (i := 56) (by decide +kernel)) rfl
theorem kn_22 : (Cond.methodLinkNest RX5 41 yX6_countNotZero RX6) ∈ NT := nt_3 (List.mem_of_getElem? (i := 71) (by decide +kernel)) rfl
theorem kn_23 : (Cond.declares ⟨"SketchSpans$Sketch", "keptAt", "(II)I"⟩) ∈ NT := nt_3 (List.mem_of_getElem? (i := 77) (by decide +kernel)) rfl
theorem kn_24 : (Cond.castable RX0 RX0) ∈ NT := nt_4 (List.mem_of_getElem? (i := 39) (by decide +kernel)) rfl
theorem kn_25 : (Cond.castable RX1 RX1) ∈ NT := nt_4 (List.mem_of_getElem? (i := 40) (by decide +kernel)) rfl
theorem kn_26 : (Cond.castable RX2 RX2) ∈ NT := nt_4 (List.mem_of_getElem? (i := 41) (by decide +kernel)) rfl
theorem kn_27 : (Cond.castable RX3 RX3) ∈ NT := nt_4 (List.mem_of_getElem? (i := 42) (by decide +kernel)) rfl
theorem kn_28 : (Cond.castable RX5 RX5) ∈ NT := nt_4 (List.mem_of_getElem? (i := 43) (by decide +kernel)) rfl
theorem kn_29 : (Cond.castable RX0 RX4) ∈ NT := nt_4 (List.mem_of_getElem? (i := 44) (by decide +kernel)) rfl
theorem kn_30 : (Cond.castable RX1 RX4) ∈ NT := nt_4 (List.mem_of_getElem? (i := 45) (by decide +kernel)) rfl
theorem kn_31 : (Cond.castable RX2 RX4) ∈ NT := nt_4 (List.mem_of_getElem? (i := 46) (by decide +kernel)) rfl
theorem kn_32 : (Cond.castable RX3 RX4) ∈ NT := nt_4 (List.mem_of_getElem? (i := 47) (by decide +kernel)) rfl
theorem kn_33 : (Cond.castable RX5 RX4) ∈ NT := nt_4 (List.mem_of_getElem? (i := 48) (by decide +kernel)) rfl
end
section
theorem dX0_init_0 : decode cX0_init 0 = .ok (.aload_n 0, 1) := by decide +kernel
theorem dX0_init_1 : decode cX0_init 1 = .ok (.iconst 2, 1) := by decide +kernel
theorem dX0_init_2 : decode cX0_init 2 = .ok (.iload_n 1, 1) := by decide +kernel
theorem dX0_init_3 : decode cX0_init 3 = .ok (.iload_n 2, 1) := by decide +kernel
theorem dX0_init_4 : decode cX0_init 4 = .ok (.invokespecial 3, 3) := by decide +kernel
theorem dX0_init_7 : decode cX0_init 7 = .ok (.aload_n 0, 1) := by decide +kernel
theorem dX0_init_8 : decode cX0_init 8 = .ok (.iload_n 1, 1) := by decide +kernel
theorem dX0_init_9 : decode cX0_init 9 = .ok (.newarray .int, 2) := by decide +kernel
theorem dX0_init_11 : decode cX0_init 11 = .ok (.putfield 9, 3) := by decide +kernel
theorem dX0_init_14 : decode cX0_init 14 = .ok (.return_, 1) := by decide +kernel
theorem dX0_twin_0 : decode cX0_twin 0 = .ok (.new 10, 3) := by decide +kernel
theorem dX0_twin_3 : decode cX0_twin 3 = .ok (.dup, 1) := by decide +kernel
theorem dX0_twin_4 : decode cX0_twin 4 = .ok (.aload_n 0, 1) := by decide +kernel
theorem dX0_twin_5 : decode cX0_twin 5 = .ok (.getfield 15, 3) := by decide +kernel
theorem dX0_twin_8 : decode cX0_twin 8 = .ok (.aload_n 0, 1) := by decide +kernel
theorem dX0_twin_9 : decode cX0_twin 9 = .ok (.getfield 19, 3) := by decide +kernel
theorem dX0_twin_12 : decode cX0_twin 12 = .ok (.invokespecial 22, 3) := by decide +kernel
theorem dX0_twin_15 : decode cX0_twin 15 = .ok (.astore_n 1, 1) := by decide +kernel
theorem dX0_twin_16 : decode cX0_twin 16 = .ok (.aload_n 1, 1) := by decide +kernel
theorem dX0_twin_17 : decode cX0_twin 17 = .ok (.aload_n 0, 1) := by decide +kernel
theorem dX0_twin_18 : decode cX0_twin 18 = .ok (.invokevirtual 25, 3) := by decide +kernel
theorem dX0_twin_21 : decode cX0_twin 21 = .ok (.aload_n 0, 1) := by decide +kernel
theorem dX0_twin_22 : decode cX0_twin 22 = .ok (.getfield 9, 3) := by decide +kernel
theorem dX0_twin_25 : decode cX0_twin 25 = .ok (.aload_n 1, 1) := by decide +kernel
theorem dX0_twin_26 : decode cX0_twin 26 = .ok (.getfield 9, 3) := by decide +kernel
theorem dX0_twin_29 : decode cX0_twin 29 = .ok (.invokestatic 29, 3) := by decide +kernel
theorem dX0_twin_32 : decode cX0_twin 32 = .ok (.aload_n 1, 1) := by decide +kernel
theorem dX0_twin_33 : decode cX0_twin 33 = .ok (.areturn, 1) := by decide +kernel
theorem dX0_forget_0 : decode cX0_forget 0 = .ok (.aload_n 0, 1) := by decide +kernel
theorem dX0_forget_1 : decode cX0_forget 1 = .ok (.getfield 9, 3) := by decide +kernel
theorem dX0_forget_4 : decode cX0_forget 4 = .ok (.invokestatic 33, 3) := by decide +kernel
theorem dX0_forget_7 : decode cX0_forget 7 = .ok (.return_, 1) := by decide +kernel
theorem dX0_take_0 : decode cX0_take 0 = .ok (.iconst 0, 1) := by decide +kernel
theorem dX0_take_1 : decode cX0_take 1 = .ok (.istore_n 3, 1) := by decide +kernel
theorem dX0_take_2 : decode cX0_take 2 = .ok (.iload_n 3, 1) := by decide +kernel
theorem dX0_take_3 : decode cX0_take 3 = .ok (.iconst 4, 1) := by decide +kernel
theorem dX0_take_4 : decode cX0_take 4 = .ok (.if_icmp .ge 42, 3) := by decide +kernel
theorem dX0_take_7 : decode cX0_take 7 = .ok (.aload_n 0, 1) := by decide +kernel
theorem dX0_take_8 : decode cX0_take 8 = .ok (.getfield 19, 3) := by decide +kernel
theorem dX0_take_11 : decode cX0_take 11 = .ok (.iload_n 3, 1) := by decide +kernel
theorem dX0_take_12 : decode cX0_take 12 = .ok (.iload_n 1, 1) := by decide +kernel
theorem dX0_take_13 : decode cX0_take 13 = .ok (.aload_n 0, 1) := by decide +kernel
theorem dX0_take_14 : decode cX0_take 14 = .ok (.getfield 15, 3) := by decide +kernel
theorem dX0_take_17 : decode cX0_take 17 = .ok (.invokestatic 37, 3) := by decide +kernel
theorem dX0_take_20 : decode cX0_take 20 = .ok (.istore 4, 2) := by decide +kernel
theorem dX0_take_22 : decode cX0_take 22 = .ok (.iload 4, 2) := by decide +kernel
theorem dX0_take_24 : decode cX0_take 24 = .ok (.aload_n 0, 1) := by decide +kernel
theorem dX0_take_25 : decode cX0_take 25 = .ok (.getfield 9, 3) := by decide +kernel
theorem dX0_take_28 : decode cX0_take 28 = .ok (.arraylength, 1) := by decide +kernel
theorem dX0_take_29 : decode cX0_take 29 = .ok (.if_icmp .ge 11, 3) := by decide +kernel
theorem dX0_take_32 : decode cX0_take 32 = .ok (.aload_n 0, 1) := by decide +kernel
theorem dX0_take_33 : decode cX0_take 33 = .ok (.getfield 9, 3) := by decide +kernel
theorem dX0_take_36 : decode cX0_take 36 = .ok (.iload 4, 2) := by decide +kernel
theorem dX0_take_38 : decode cX0_take 38 = .ok (.iconst 1, 1) := by decide +kernel
theorem dX0_take_39 : decode cX0_take 39 = .ok (.iastore, 1) := by decide +kernel
theorem dX0_take_40 : decode cX0_take 40 = .ok (.iinc 3 1, 3) := by decide +kernel
theorem dX0_take_43 : decode cX0_take 43 = .ok (.goto (-41), 3) := by decide +kernel
theorem dX0_take_46 : decode cX0_take 46 = .ok (.return_, 1) := by decide +kernel
theorem dX0_join_0 : decode cX0_join 0 = .ok (.aload_n 1, 1) := by decide +kernel
theorem dX0_join_1 : decode cX0_join 1 = .ok (.instanceof 10, 3) := by decide +kernel
theorem dX0_join_4 : decode cX0_join 4 = .ok (.ifCond .eq 49, 3) := by decide +kernel
theorem dX0_join_7 : decode cX0_join 7 = .ok (.aload_n 1, 1) := by decide +kernel
theorem dX0_join_8 : decode cX0_join 8 = .ok (.checkcast 10, 3) := by decide +kernel
theorem dX0_join_11 : decode cX0_join 11 = .ok (.astore_n 2, 1) := by decide +kernel
theorem dX0_join_12 : decode cX0_join 12 = .ok (.iconst 0, 1) := by decide +kernel
theorem dX0_join_13 : decode cX0_join 13 = .ok (.istore_n 3, 1) := by decide +kernel
theorem dX0_join_14 : decode cX0_join 14 = .ok (.iload_n 3, 1) := by decide +kernel
theorem dX0_join_15 : decode cX0_join 15 = .ok (.aload_n 0, 1) := by decide +kernel
theorem dX0_join_16 : decode cX0_join 16 = .ok (.getfield 9, 3) := by decide +kernel
theorem dX0_join_19 : decode cX0_join 19 = .ok (.arraylength, 1) := by decide +kernel
theorem dX0_join_20 : decode cX0_join 20 = .ok (.if_icmp .ge 33, 3) := by decide +kernel
theorem dX0_join_23 : decode cX0_join 23 = .ok (.iload_n 3, 1) := by decide +kernel
theorem dX0_join_24 : decode cX0_join 24 = .ok (.aload_n 2, 1) := by decide +kernel
theorem dX0_join_25 : decode cX0_join 25 = .ok (.getfield 9, 3) := by decide +kernel
theorem dX0_join_28 : decode cX0_join 28 = .ok (.arraylength, 1) := by decide +kernel
theorem dX0_join_29 : decode cX0_join 29 = .ok (.if_icmp .ge 24, 3) := by decide +kernel
theorem dX0_join_32 : decode cX0_join 32 = .ok (.aload_n 0, 1) := by decide +kernel
theorem dX0_join_33 : decode cX0_join 33 = .ok (.getfield 9, 3) := by decide +kernel
theorem dX0_join_36 : decode cX0_join 36 = .ok (.iload_n 3, 1) := by decide +kernel
theorem dX0_join_37 : decode cX0_join 37 = .ok (.dup2, 1) := by decide +kernel
theorem dX0_join_38 : decode cX0_join 38 = .ok (.iaload, 1) := by decide +kernel
theorem dX0_join_39 : decode cX0_join 39 = .ok (.aload_n 2, 1) := by decide +kernel
theorem dX0_join_40 : decode cX0_join 40 = .ok (.getfield 9, 3) := by decide +kernel
theorem dX0_join_43 : decode cX0_join 43 = .ok (.iload_n 3, 1) := by decide +kernel
theorem dX0_join_44 : decode cX0_join 44 = .ok (.iaload, 1) := by decide +kernel
theorem dX0_join_45 : decode cX0_join 45 = .ok (.ior, 1) := by decide +kernel
theorem dX0_join_46 : decode cX0_join 46 = .ok (.iastore, 1) := by decide +kernel
theorem dX0_join_47 : decode cX0_join 47 = .ok (.iinc 3 1, 3) := by decide +kernel
theorem dX0_join_50 : decode cX0_join 50 = .ok (.goto (-36), 3) := by decide +kernel
theorem dX0_join_53 : decode cX0_join 53 = .ok (.return_, 1) := by decide +kernel
theorem dX0_howManyKept_0 : decode cX0_howManyKept 0 = .ok (.aload_n 0, 1) := by decide +kernel
theorem dX0_howManyKept_1 : decode cX0_howManyKept 1 = .ok (.getfield 9, 3) := by decide +kernel
theorem dX0_howManyKept_4 : decode cX0_howManyKept 4 = .ok (.invokestatic 41, 3) := by decide +kernel
theorem dX0_howManyKept_7 : decode cX0_howManyKept 7 = .ok (.ireturn, 1) := by decide +kernel
theorem dX0_keptAt_0 : decode cX0_keptAt 0 = .ok (.iload_n 1, 1) := by decide +kernel
theorem dX0_keptAt_1 : decode cX0_keptAt 1 = .ok (.ifCond .lt 16, 3) := by decide +kernel
theorem dX0_keptAt_4 : decode cX0_keptAt 4 = .ok (.iload_n 1, 1) := by decide +kernel
theorem dX0_keptAt_5 : decode cX0_keptAt 5 = .ok (.aload_n 0, 1) := by decide +kernel
theorem dX0_keptAt_6 : decode cX0_keptAt 6 = .ok (.getfield 9, 3) := by decide +kernel
theorem dX0_keptAt_9 : decode cX0_keptAt 9 = .ok (.arraylength, 1) := by decide +kernel
theorem dX0_keptAt_10 : decode cX0_keptAt 10 = .ok (.if_icmp .ge 7, 3) := by decide +kernel
theorem dX0_keptAt_13 : decode cX0_keptAt 13 = .ok (.iload_n 2, 1) := by decide +kernel
theorem dX0_keptAt_14 : decode cX0_keptAt 14 = .ok (.ifCond .eq 7, 3) := by decide +kernel
theorem dX0_keptAt_17 : decode cX0_keptAt 17 = .ok (.iconst (-1), 1) := by decide +kernel
theorem dX0_keptAt_18 : decode cX0_keptAt 18 = .ok (.goto 9, 3) := by decide +kernel
theorem dX0_keptAt_21 : decode cX0_keptAt 21 = .ok (.aload_n 0, 1) := by decide +kernel
theorem dX0_keptAt_22 : decode cX0_keptAt 22 = .ok (.getfield 9, 3) := by decide +kernel
theorem dX0_keptAt_25 : decode cX0_keptAt 25 = .ok (.iload_n 1, 1) := by decide +kernel
theorem dX0_keptAt_26 : decode cX0_keptAt 26 = .ok (.iaload, 1) := by decide +kernel
theorem dX0_keptAt_27 : decode cX0_keptAt 27 = .ok (.ireturn, 1) := by decide +kernel
theorem dX0_holds_0 : decode cX0_holds 0 = .ok (.iconst 1, 1) := by decide +kernel
theorem dX0_holds_1 : decode cX0_holds 1 = .ok (.istore_n 2, 1) := by decide +kernel
theorem dX0_holds_2 : decode cX0_holds 2 = .ok (.iconst 0, 1) := by decide +kernel
theorem dX0_holds_3 : decode cX0_holds 3 = .ok (.istore_n 3, 1) := by decide +kernel
theorem dX0_holds_4 : decode cX0_holds 4 = .ok (.iload_n 3, 1) := by decide +kernel
theorem dX0_holds_5 : decode cX0_holds 5 = .ok (.iconst 4, 1) := by decide +kernel
theorem dX0_holds_6 : decode cX0_holds 6 = .ok (.if_icmp .ge 44, 3) := by decide +kernel
theorem dX0_holds_9 : decode cX0_holds 9 = .ok (.aload_n 0, 1) := by decide +kernel
theorem dX0_holds_10 : decode cX0_holds 10 = .ok (.getfield 19, 3) := by decide +kernel
theorem dX0_holds_13 : decode cX0_holds 13 = .ok (.iload_n 3, 1) := by decide +kernel
theorem dX0_holds_14 : decode cX0_holds 14 = .ok (.iload_n 1, 1) := by decide +kernel
theorem dX0_holds_15 : decode cX0_holds 15 = .ok (.aload_n 0, 1) := by decide +kernel
theorem dX0_holds_16 : decode cX0_holds 16 = .ok (.getfield 15, 3) := by decide +kernel
theorem dX0_holds_19 : decode cX0_holds 19 = .ok (.invokestatic 37, 3) := by decide +kernel
theorem dX0_holds_22 : decode cX0_holds 22 = .ok (.istore 4, 2) := by decide +kernel
theorem dX0_holds_24 : decode cX0_holds 24 = .ok (.iload 4, 2) := by decide +kernel
theorem dX0_holds_26 : decode cX0_holds 26 = .ok (.aload_n 0, 1) := by decide +kernel
theorem dX0_holds_27 : decode cX0_holds 27 = .ok (.getfield 9, 3) := by decide +kernel
theorem dX0_holds_30 : decode cX0_holds 30 = .ok (.arraylength, 1) := by decide +kernel
theorem dX0_holds_31 : decode cX0_holds 31 = .ok (.if_icmp .ge 13, 3) := by decide +kernel
theorem dX0_holds_34 : decode cX0_holds 34 = .ok (.iload_n 2, 1) := by decide +kernel
theorem dX0_holds_35 : decode cX0_holds 35 = .ok (.aload_n 0, 1) := by decide +kernel
theorem dX0_holds_36 : decode cX0_holds 36 = .ok (.getfield 9, 3) := by decide +kernel
theorem dX0_holds_39 : decode cX0_holds 39 = .ok (.iload 4, 2) := by decide +kernel
theorem dX0_holds_41 : decode cX0_holds 41 = .ok (.iaload, 1) := by decide +kernel
theorem dX0_holds_42 : decode cX0_holds 42 = .ok (.iand, 1) := by decide +kernel
theorem dX0_holds_43 : decode cX0_holds 43 = .ok (.istore_n 2, 1) := by decide +kernel
theorem dX0_holds_44 : decode cX0_holds 44 = .ok (.iinc 3 1, 3) := by decide +kernel
theorem dX0_holds_47 : decode cX0_holds 47 = .ok (.goto (-43), 3) := by decide +kernel
theorem dX0_holds_50 : decode cX0_holds 50 = .ok (.iload_n 2, 1) := by decide +kernel
theorem dX0_holds_51 : decode cX0_holds 51 = .ok (.ireturn, 1) := by decide +kernel
theorem dX1_init_0 : decode cX1_init 0 = .ok (.aload_n 0, 1) := by decide +kernel
theorem dX1_init_1 : decode cX1_init 1 = .ok (.iconst 0, 1) := by decide +kernel
theorem dX1_init_2 : decode cX1_init 2 = .ok (.iload_n 1, 1) := by decide +kernel
theorem dX1_init_3 : decode cX1_init 3 = .ok (.iload_n 2, 1) := by decide +kernel
theorem dX1_init_4 : decode cX1_init 4 = .ok (.invokespecial 3, 3) := by decide +kernel
theorem dX1_init_7 : decode cX1_init 7 = .ok (.aload_n 0, 1) := by decide +kernel
theorem dX1_init_8 : decode cX1_init 8 = .ok (.iconst 2, 1) := by decide +kernel
theorem dX1_init_9 : decode cX1_init 9 = .ok (.iload_n 1, 1) := by decide +kernel
theorem dX1_init_10 : decode cX1_init 10 = .ok (.imul, 1) := by decide +kernel
theorem dX1_init_11 : decode cX1_init 11 = .ok (.newarray .int, 2) := by decide +kernel
theorem dX1_init_13 : decode cX1_init 13 = .ok (.putfield 9, 3) := by decide +kernel
theorem dX1_init_16 : decode cX1_init 16 = .ok (.aload_n 0, 1) := by decide +kernel
theorem dX1_init_17 : decode cX1_init 17 = .ok (.iconst 2, 1) := by decide +kernel
theorem dX1_init_18 : decode cX1_init 18 = .ok (.iload_n 1, 1) := by decide +kernel
theorem dX1_init_19 : decode cX1_init 19 = .ok (.imul, 1) := by decide +kernel
theorem dX1_init_20 : decode cX1_init 20 = .ok (.newarray .int, 2) := by decide +kernel
theorem dX1_init_22 : decode cX1_init 22 = .ok (.putfield 15, 3) := by decide +kernel
theorem dX1_init_25 : decode cX1_init 25 = .ok (.aload_n 0, 1) := by decide +kernel
theorem dX1_init_26 : decode cX1_init 26 = .ok (.iconst 0, 1) := by decide +kernel
theorem dX1_init_27 : decode cX1_init 27 = .ok (.putfield 18, 3) := by decide +kernel
theorem dX1_init_30 : decode cX1_init 30 = .ok (.aload_n 0, 1) := by decide +kernel
theorem dX1_init_31 : decode cX1_init 31 = .ok (.iconst 0, 1) := by decide +kernel
theorem dX1_init_32 : decode cX1_init 32 = .ok (.putfield 22, 3) := by decide +kernel
theorem dX1_init_35 : decode cX1_init 35 = .ok (.return_, 1) := by decide +kernel
theorem dX1_twin_0 : decode cX1_twin 0 = .ok (.new 10, 3) := by decide +kernel
theorem dX1_twin_3 : decode cX1_twin 3 = .ok (.dup, 1) := by decide +kernel
theorem dX1_twin_4 : decode cX1_twin 4 = .ok (.aload_n 0, 1) := by decide +kernel
theorem dX1_twin_5 : decode cX1_twin 5 = .ok (.getfield 25, 3) := by decide +kernel
theorem dX1_twin_8 : decode cX1_twin 8 = .ok (.aload_n 0, 1) := by decide +kernel
theorem dX1_twin_9 : decode cX1_twin 9 = .ok (.getfield 28, 3) := by decide +kernel
theorem dX1_twin_12 : decode cX1_twin 12 = .ok (.invokespecial 31, 3) := by decide +kernel
theorem dX1_twin_15 : decode cX1_twin 15 = .ok (.astore_n 1, 1) := by decide +kernel
theorem dX1_twin_16 : decode cX1_twin 16 = .ok (.aload_n 1, 1) := by decide +kernel
theorem dX1_twin_17 : decode cX1_twin 17 = .ok (.aload_n 0, 1) := by decide +kernel
theorem dX1_twin_18 : decode cX1_twin 18 = .ok (.invokevirtual 34, 3) := by decide +kernel
theorem dX1_twin_21 : decode cX1_twin 21 = .ok (.aload_n 0, 1) := by decide +kernel
theorem dX1_twin_22 : decode cX1_twin 22 = .ok (.getfield 9, 3) := by decide +kernel
theorem dX1_twin_25 : decode cX1_twin 25 = .ok (.aload_n 1, 1) := by decide +kernel
theorem dX1_twin_26 : decode cX1_twin 26 = .ok (.getfield 9, 3) := by decide +kernel
theorem dX1_twin_29 : decode cX1_twin 29 = .ok (.invokestatic 38, 3) := by decide +kernel
theorem dX1_twin_32 : decode cX1_twin 32 = .ok (.aload_n 0, 1) := by decide +kernel
theorem dX1_twin_33 : decode cX1_twin 33 = .ok (.getfield 15, 3) := by decide +kernel
theorem dX1_twin_36 : decode cX1_twin 36 = .ok (.aload_n 1, 1) := by decide +kernel
theorem dX1_twin_37 : decode cX1_twin 37 = .ok (.getfield 15, 3) := by decide +kernel
theorem dX1_twin_40 : decode cX1_twin 40 = .ok (.invokestatic 38, 3) := by decide +kernel
theorem dX1_twin_43 : decode cX1_twin 43 = .ok (.aload_n 1, 1) := by decide +kernel
theorem dX1_twin_44 : decode cX1_twin 44 = .ok (.aload_n 0, 1) := by decide +kernel
theorem dX1_twin_45 : decode cX1_twin 45 = .ok (.getfield 18, 3) := by decide +kernel
theorem dX1_twin_48 : decode cX1_twin 48 = .ok (.putfield 18, 3) := by decide +kernel
theorem dX1_twin_51 : decode cX1_twin 51 = .ok (.aload_n 1, 1) := by decide +kernel
theorem dX1_twin_52 : decode cX1_twin 52 = .ok (.aload_n 0, 1) := by decide +kernel
theorem dX1_twin_53 : decode cX1_twin 53 = .ok (.getfield 22, 3) := by decide +kernel
theorem dX1_twin_56 : decode cX1_twin 56 = .ok (.putfield 22, 3) := by decide +kernel
theorem dX1_twin_59 : decode cX1_twin 59 = .ok (.aload_n 1, 1) := by decide +kernel
theorem dX1_twin_60 : decode cX1_twin 60 = .ok (.areturn, 1) := by decide +kernel
theorem dX1_forget_0 : decode cX1_forget 0 = .ok (.aload_n 0, 1) := by decide +kernel
theorem dX1_forget_1 : decode cX1_forget 1 = .ok (.iconst 0, 1) := by decide +kernel
theorem dX1_forget_2 : decode cX1_forget 2 = .ok (.putfield 18, 3) := by decide +kernel
theorem dX1_forget_5 : decode cX1_forget 5 = .ok (.aload_n 0, 1) := by decide +kernel
theorem dX1_forget_6 : decode cX1_forget 6 = .ok (.iconst 0, 1) := by decide +kernel
theorem dX1_forget_7 : decode cX1_forget 7 = .ok (.putfield 22, 3) := by decide +kernel
theorem dX1_forget_10 : decode cX1_forget 10 = .ok (.return_, 1) := by decide +kernel
theorem dX1_take_0 : decode cX1_take 0 = .ok (.iload_n 2, 1) := by decide +kernel
theorem dX1_take_1 : decode cX1_take 1 = .ok (.istore_n 3, 1) := by decide +kernel
theorem dX1_take_2 : decode cX1_take 2 = .ok (.aload_n 0, 1) := by decide +kernel
theorem dX1_take_3 : decode cX1_take 3 = .ok (.getfield 18, 3) := by decide +kernel
theorem dX1_take_6 : decode cX1_take 6 = .ok (.aload_n 0, 1) := by decide +kernel
theorem dX1_take_7 : decode cX1_take 7 = .ok (.getfield 25, 3) := by decide +kernel
theorem dX1_take_10 : decode cX1_take 10 = .ok (.if_icmp .lt 48, 3) := by decide +kernel
theorem dX1_take_13 : decode cX1_take 13 = .ok (.iload_n 1, 1) := by decide +kernel
theorem dX1_take_14 : decode cX1_take 14 = .ok (.aload_n 0, 1) := by decide +kernel
theorem dX1_take_15 : decode cX1_take 15 = .ok (.getfield 9, 3) := by decide +kernel
theorem dX1_take_18 : decode cX1_take 18 = .ok (.aload_n 0, 1) := by decide +kernel
theorem dX1_take_19 : decode cX1_take 19 = .ok (.getfield 18, 3) := by decide +kernel
theorem dX1_take_22 : decode cX1_take 22 = .ok (.invokestatic 42, 3) := by decide +kernel
theorem dX1_take_25 : decode cX1_take 25 = .ok (.iload_n 1, 1) := by decide +kernel
theorem dX1_take_26 : decode cX1_take 26 = .ok (.aload_n 0, 1) := by decide +kernel
theorem dX1_take_27 : decode cX1_take 27 = .ok (.getfield 9, 3) := by decide +kernel
theorem dX1_take_30 : decode cX1_take 30 = .ok (.aload_n 0, 1) := by decide +kernel
theorem dX1_take_31 : decode cX1_take 31 = .ok (.getfield 18, 3) := by decide +kernel
theorem dX1_take_34 : decode cX1_take 34 = .ok (.invokestatic 46, 3) := by decide +kernel
theorem dX1_take_37 : decode cX1_take 37 = .ok (.ifCond .ne 21, 3) := by decide +kernel
theorem dX1_take_40 : decode cX1_take 40 = .ok (.aload_n 0, 1) := by decide +kernel
theorem dX1_take_41 : decode cX1_take 41 = .ok (.iload_n 3, 1) := by decide +kernel
theorem dX1_take_42 : decode cX1_take 42 = .ok (.invokevirtual 50, 3) := by decide +kernel
theorem dX1_take_45 : decode cX1_take 45 = .ok (.istore 4, 2) := by decide +kernel
theorem dX1_take_47 : decode cX1_take 47 = .ok (.iload_n 3, 1) := by decide +kernel
theorem dX1_take_48 : decode cX1_take 48 = .ok (.iload 4, 2) := by decide +kernel
theorem dX1_take_50 : decode cX1_take 50 = .ok (.isub, 1) := by decide +kernel
theorem dX1_take_51 : decode cX1_take 51 = .ok (.istore_n 3, 1) := by decide +kernel
theorem dX1_take_52 : decode cX1_take 52 = .ok (.aload_n 0, 1) := by decide +kernel
theorem dX1_take_53 : decode cX1_take 53 = .ok (.iload 4, 2) := by decide +kernel
theorem dX1_take_55 : decode cX1_take 55 = .ok (.invokevirtual 54, 3) := by decide +kernel
theorem dX1_take_58 : decode cX1_take 58 = .ok (.iload_n 3, 1) := by decide +kernel
theorem dX1_take_59 : decode cX1_take 59 = .ok (.ifCond .le 9, 3) := by decide +kernel
theorem dX1_take_62 : decode cX1_take 62 = .ok (.aload_n 0, 1) := by decide +kernel
theorem dX1_take_63 : decode cX1_take 63 = .ok (.iload_n 1, 1) := by decide +kernel
theorem dX1_take_64 : decode cX1_take 64 = .ok (.iload_n 3, 1) := by decide +kernel
theorem dX1_take_65 : decode cX1_take 65 = .ok (.invokevirtual 58, 3) := by decide +kernel
theorem dX1_take_68 : decode cX1_take 68 = .ok (.return_, 1) := by decide +kernel
theorem dX1_join_0 : decode cX1_join 0 = .ok (.aload_n 1, 1) := by decide +kernel
theorem dX1_join_1 : decode cX1_join 1 = .ok (.instanceof 10, 3) := by decide +kernel
theorem dX1_join_4 : decode cX1_join 4 = .ok (.ifCond .eq 81, 3) := by decide +kernel
theorem dX1_join_7 : decode cX1_join 7 = .ok (.aload_n 1, 1) := by decide +kernel
theorem dX1_join_8 : decode cX1_join 8 = .ok (.checkcast 10, 3) := by decide +kernel
theorem dX1_join_11 : decode cX1_join 11 = .ok (.astore_n 2, 1) := by decide +kernel
theorem dX1_join_12 : decode cX1_join 12 = .ok (.iconst 0, 1) := by decide +kernel
theorem dX1_join_13 : decode cX1_join 13 = .ok (.istore_n 3, 1) := by decide +kernel
theorem dX1_join_14 : decode cX1_join 14 = .ok (.iload_n 3, 1) := by decide +kernel
theorem dX1_join_15 : decode cX1_join 15 = .ok (.aload_n 2, 1) := by decide +kernel
theorem dX1_join_16 : decode cX1_join 16 = .ok (.getfield 18, 3) := by decide +kernel
theorem dX1_join_19 : decode cX1_join 19 = .ok (.if_icmp .ge 34, 3) := by decide +kernel
theorem dX1_join_22 : decode cX1_join 22 = .ok (.iload_n 3, 1) := by decide +kernel
theorem dX1_join_23 : decode cX1_join 23 = .ok (.aload_n 2, 1) := by decide +kernel
theorem dX1_join_24 : decode cX1_join 24 = .ok (.getfield 9, 3) := by decide +kernel
theorem dX1_join_27 : decode cX1_join 27 = .ok (.arraylength, 1) := by decide +kernel
theorem dX1_join_28 : decode cX1_join 28 = .ok (.if_icmp .ge 25, 3) := by decide +kernel
theorem dX1_join_31 : decode cX1_join 31 = .ok (.aload_n 0, 1) := by decide +kernel
theorem dX1_join_32 : decode cX1_join 32 = .ok (.aload_n 2, 1) := by decide +kernel
theorem dX1_join_33 : decode cX1_join 33 = .ok (.getfield 9, 3) := by decide +kernel
theorem dX1_join_36 : decode cX1_join 36 = .ok (.iload_n 3, 1) := by decide +kernel
theorem dX1_join_37 : decode cX1_join 37 = .ok (.iaload, 1) := by decide +kernel
theorem dX1_join_38 : decode cX1_join 38 = .ok (.aload_n 2, 1) := by decide +kernel
theorem dX1_join_39 : decode cX1_join 39 = .ok (.getfield 15, 3) := by decide +kernel
theorem dX1_join_42 : decode cX1_join 42 = .ok (.iload_n 3, 1) := by decide +kernel
theorem dX1_join_43 : decode cX1_join 43 = .ok (.iaload, 1) := by decide +kernel
theorem dX1_join_44 : decode cX1_join 44 = .ok (.invokevirtual 58, 3) := by decide +kernel
theorem dX1_join_47 : decode cX1_join 47 = .ok (.iinc 3 1, 3) := by decide +kernel
theorem dX1_join_50 : decode cX1_join 50 = .ok (.goto (-36), 3) := by decide +kernel
theorem dX1_join_53 : decode cX1_join 53 = .ok (.aload_n 0, 1) := by decide +kernel
theorem dX1_join_54 : decode cX1_join 54 = .ok (.dup, 1) := by decide +kernel
theorem dX1_join_55 : decode cX1_join 55 = .ok (.getfield 22, 3) := by decide +kernel
theorem dX1_join_58 : decode cX1_join 58 = .ok (.aload_n 2, 1) := by decide +kernel
theorem dX1_join_59 : decode cX1_join 59 = .ok (.getfield 22, 3) := by decide +kernel
theorem dX1_join_62 : decode cX1_join 62 = .ok (.iadd, 1) := by decide +kernel
theorem dX1_join_63 : decode cX1_join 63 = .ok (.putfield 22, 3) := by decide +kernel
theorem dX1_join_66 : decode cX1_join 66 = .ok (.aload_n 0, 1) := by decide +kernel
theorem dX1_join_67 : decode cX1_join 67 = .ok (.getfield 18, 3) := by decide +kernel
theorem dX1_join_70 : decode cX1_join 70 = .ok (.aload_n 0, 1) := by decide +kernel
theorem dX1_join_71 : decode cX1_join 71 = .ok (.getfield 25, 3) := by decide +kernel
theorem dX1_join_74 : decode cX1_join 74 = .ok (.if_icmp .le 11, 3) := by decide +kernel
theorem dX1_join_77 : decode cX1_join 77 = .ok (.aload_n 0, 1) := by decide +kernel
theorem dX1_join_78 : decode cX1_join 78 = .ok (.aload_n 0, 1) := by decide +kernel
theorem dX1_join_79 : decode cX1_join 79 = .ok (.invokevirtual 61, 3) := by decide +kernel
theorem dX1_join_82 : decode cX1_join 82 = .ok (.invokevirtual 54, 3) := by decide +kernel
theorem dX1_join_85 : decode cX1_join 85 = .ok (.return_, 1) := by decide +kernel
theorem dX1_howManyKept_0 : decode cX1_howManyKept 0 = .ok (.aload_n 0, 1) := by decide +kernel
theorem dX1_howManyKept_1 : decode cX1_howManyKept 1 = .ok (.getfield 18, 3) := by decide +kernel
theorem dX1_howManyKept_4 : decode cX1_howManyKept 4 = .ok (.ireturn, 1) := by decide +kernel
theorem dX1_keptAt_0 : decode cX1_keptAt 0 = .ok (.iload_n 1, 1) := by decide +kernel
theorem dX1_keptAt_1 : decode cX1_keptAt 1 = .ok (.ifCond .lt 29, 3) := by decide +kernel
theorem dX1_keptAt_4 : decode cX1_keptAt 4 = .ok (.iload_n 1, 1) := by decide +kernel
theorem dX1_keptAt_5 : decode cX1_keptAt 5 = .ok (.aload_n 0, 1) := by decide +kernel
theorem dX1_keptAt_6 : decode cX1_keptAt 6 = .ok (.getfield 18, 3) := by decide +kernel
theorem dX1_keptAt_9 : decode cX1_keptAt 9 = .ok (.if_icmp .ge 21, 3) := by decide +kernel
theorem dX1_keptAt_12 : decode cX1_keptAt 12 = .ok (.iload_n 1, 1) := by decide +kernel
theorem dX1_keptAt_13 : decode cX1_keptAt 13 = .ok (.aload_n 0, 1) := by decide +kernel
theorem dX1_keptAt_14 : decode cX1_keptAt 14 = .ok (.getfield 9, 3) := by decide +kernel
theorem dX1_keptAt_17 : decode cX1_keptAt 17 = .ok (.arraylength, 1) := by decide +kernel
theorem dX1_keptAt_18 : decode cX1_keptAt 18 = .ok (.if_icmp .ge 12, 3) := by decide +kernel
theorem dX1_keptAt_21 : decode cX1_keptAt 21 = .ok (.iload_n 2, 1) := by decide +kernel
theorem dX1_keptAt_22 : decode cX1_keptAt 22 = .ok (.ifCond .lt 8, 3) := by decide +kernel
theorem dX1_keptAt_25 : decode cX1_keptAt 25 = .ok (.iload_n 2, 1) := by decide +kernel
theorem dX1_keptAt_26 : decode cX1_keptAt 26 = .ok (.iconst 1, 1) := by decide +kernel
theorem dX1_keptAt_27 : decode cX1_keptAt 27 = .ok (.if_icmp .le 5, 3) := by decide +kernel
theorem dX1_keptAt_30 : decode cX1_keptAt 30 = .ok (.iconst (-1), 1) := by decide +kernel
theorem dX1_keptAt_31 : decode cX1_keptAt 31 = .ok (.ireturn, 1) := by decide +kernel
theorem dX1_keptAt_32 : decode cX1_keptAt 32 = .ok (.iload_n 2, 1) := by decide +kernel
theorem dX1_keptAt_33 : decode cX1_keptAt 33 = .ok (.ifCond .ne 12, 3) := by decide +kernel
theorem dX1_keptAt_36 : decode cX1_keptAt 36 = .ok (.aload_n 0, 1) := by decide +kernel
theorem dX1_keptAt_37 : decode cX1_keptAt 37 = .ok (.getfield 9, 3) := by decide +kernel
theorem dX1_keptAt_40 : decode cX1_keptAt 40 = .ok (.iload_n 1, 1) := by decide +kernel
theorem dX1_keptAt_41 : decode cX1_keptAt 41 = .ok (.iaload, 1) := by decide +kernel
theorem dX1_keptAt_42 : decode cX1_keptAt 42 = .ok (.goto 9, 3) := by decide +kernel
theorem dX1_keptAt_45 : decode cX1_keptAt 45 = .ok (.aload_n 0, 1) := by decide +kernel
theorem dX1_keptAt_46 : decode cX1_keptAt 46 = .ok (.getfield 15, 3) := by decide +kernel
theorem dX1_keptAt_49 : decode cX1_keptAt 49 = .ok (.iload_n 1, 1) := by decide +kernel
theorem dX1_keptAt_50 : decode cX1_keptAt 50 = .ok (.iaload, 1) := by decide +kernel
theorem dX1_keptAt_51 : decode cX1_keptAt 51 = .ok (.ireturn, 1) := by decide +kernel
theorem dX1_mayLack_0 : decode cX1_mayLack 0 = .ok (.aload_n 0, 1) := by decide +kernel
theorem dX1_mayLack_1 : decode cX1_mayLack 1 = .ok (.getfield 22, 3) := by decide +kernel
theorem dX1_mayLack_4 : decode cX1_mayLack 4 = .ok (.ireturn, 1) := by decide +kernel
theorem dX1_atLeast_0 : decode cX1_atLeast 0 = .ok (.iload_n 1, 1) := by decide +kernel
theorem dX1_atLeast_1 : decode cX1_atLeast 1 = .ok (.aload_n 0, 1) := by decide +kernel
theorem dX1_atLeast_2 : decode cX1_atLeast 2 = .ok (.getfield 9, 3) := by decide +kernel
theorem dX1_atLeast_5 : decode cX1_atLeast 5 = .ok (.aload_n 0, 1) := by decide +kernel
theorem dX1_atLeast_6 : decode cX1_atLeast 6 = .ok (.getfield 18, 3) := by decide +kernel
theorem dX1_atLeast_9 : decode cX1_atLeast 9 = .ok (.invokestatic 42, 3) := by decide +kernel
theorem dX1_atLeast_12 : decode cX1_atLeast 12 = .ok (.istore_n 2, 1) := by decide +kernel
theorem dX1_atLeast_13 : decode cX1_atLeast 13 = .ok (.iload_n 2, 1) := by decide +kernel
theorem dX1_atLeast_14 : decode cX1_atLeast 14 = .ok (.iload_n 1, 1) := by decide +kernel
theorem dX1_atLeast_15 : decode cX1_atLeast 15 = .ok (.aload_n 0, 1) := by decide +kernel
theorem dX1_atLeast_16 : decode cX1_atLeast 16 = .ok (.getfield 9, 3) := by decide +kernel
theorem dX1_atLeast_19 : decode cX1_atLeast 19 = .ok (.aload_n 0, 1) := by decide +kernel
theorem dX1_atLeast_20 : decode cX1_atLeast 20 = .ok (.getfield 18, 3) := by decide +kernel
theorem dX1_atLeast_23 : decode cX1_atLeast 23 = .ok (.invokestatic 46, 3) := by decide +kernel
theorem dX1_atLeast_26 : decode cX1_atLeast 26 = .ok (.ifCond .eq 12, 3) := by decide +kernel
theorem dX1_atLeast_29 : decode cX1_atLeast 29 = .ok (.aload_n 0, 1) := by decide +kernel
theorem dX1_atLeast_30 : decode cX1_atLeast 30 = .ok (.getfield 15, 3) := by decide +kernel
theorem dX1_atLeast_33 : decode cX1_atLeast 33 = .ok (.iload_n 2, 1) := by decide +kernel
theorem dX1_atLeast_34 : decode cX1_atLeast 34 = .ok (.iaload, 1) := by decide +kernel
theorem dX1_atLeast_35 : decode cX1_atLeast 35 = .ok (.goto 4, 3) := by decide +kernel
theorem dX1_atLeast_38 : decode cX1_atLeast 38 = .ok (.iconst 0, 1) := by decide +kernel
theorem dX1_atLeast_39 : decode cX1_atLeast 39 = .ok (.ireturn, 1) := by decide +kernel
theorem dX1_atMost_0 : decode cX1_atMost 0 = .ok (.aload_n 0, 1) := by decide +kernel
theorem dX1_atMost_1 : decode cX1_atMost 1 = .ok (.iload_n 1, 1) := by decide +kernel
theorem dX1_atMost_2 : decode cX1_atMost 2 = .ok (.invokevirtual 65, 3) := by decide +kernel
theorem dX1_atMost_5 : decode cX1_atMost 5 = .ok (.aload_n 0, 1) := by decide +kernel
theorem dX1_atMost_6 : decode cX1_atMost 6 = .ok (.getfield 22, 3) := by decide +kernel
theorem dX1_atMost_9 : decode cX1_atMost 9 = .ok (.iadd, 1) := by decide +kernel
theorem dX1_atMost_10 : decode cX1_atMost 10 = .ok (.ireturn, 1) := by decide +kernel
theorem dX1_add_0 : decode cX1_add 0 = .ok (.iload_n 1, 1) := by decide +kernel
theorem dX1_add_1 : decode cX1_add 1 = .ok (.aload_n 0, 1) := by decide +kernel
theorem dX1_add_2 : decode cX1_add 2 = .ok (.getfield 9, 3) := by decide +kernel
theorem dX1_add_5 : decode cX1_add 5 = .ok (.aload_n 0, 1) := by decide +kernel
theorem dX1_add_6 : decode cX1_add 6 = .ok (.getfield 18, 3) := by decide +kernel
theorem dX1_add_9 : decode cX1_add 9 = .ok (.invokestatic 42, 3) := by decide +kernel
theorem dX1_add_12 : decode cX1_add 12 = .ok (.istore_n 3, 1) := by decide +kernel
theorem dX1_add_13 : decode cX1_add 13 = .ok (.iload_n 3, 1) := by decide +kernel
theorem dX1_add_14 : decode cX1_add 14 = .ok (.iload_n 1, 1) := by decide +kernel
theorem dX1_add_15 : decode cX1_add 15 = .ok (.aload_n 0, 1) := by decide +kernel
theorem dX1_add_16 : decode cX1_add 16 = .ok (.getfield 9, 3) := by decide +kernel
theorem dX1_add_19 : decode cX1_add 19 = .ok (.aload_n 0, 1) := by decide +kernel
theorem dX1_add_20 : decode cX1_add 20 = .ok (.getfield 18, 3) := by decide +kernel
theorem dX1_add_23 : decode cX1_add 23 = .ok (.invokestatic 46, 3) := by decide +kernel
theorem dX1_add_26 : decode cX1_add 26 = .ok (.ifCond .eq 16, 3) := by decide +kernel
theorem dX1_add_29 : decode cX1_add 29 = .ok (.aload_n 0, 1) := by decide +kernel
theorem dX1_add_30 : decode cX1_add 30 = .ok (.getfield 15, 3) := by decide +kernel
theorem dX1_add_33 : decode cX1_add 33 = .ok (.iload_n 3, 1) := by decide +kernel
theorem dX1_add_34 : decode cX1_add 34 = .ok (.dup2, 1) := by decide +kernel
theorem dX1_add_35 : decode cX1_add 35 = .ok (.iaload, 1) := by decide +kernel
theorem dX1_add_36 : decode cX1_add 36 = .ok (.iload_n 2, 1) := by decide +kernel
theorem dX1_add_37 : decode cX1_add 37 = .ok (.iadd, 1) := by decide +kernel
theorem dX1_add_38 : decode cX1_add 38 = .ok (.iastore, 1) := by decide +kernel
theorem dX1_add_39 : decode cX1_add 39 = .ok (.goto 89, 3) := by decide +kernel
theorem dX1_add_42 : decode cX1_add 42 = .ok (.aload_n 0, 1) := by decide +kernel
theorem dX1_add_43 : decode cX1_add 43 = .ok (.getfield 18, 3) := by decide +kernel
theorem dX1_add_46 : decode cX1_add 46 = .ok (.aload_n 0, 1) := by decide +kernel
theorem dX1_add_47 : decode cX1_add 47 = .ok (.getfield 9, 3) := by decide +kernel
theorem dX1_add_50 : decode cX1_add 50 = .ok (.arraylength, 1) := by decide +kernel
theorem dX1_add_51 : decode cX1_add 51 = .ok (.if_icmp .ge 77, 3) := by decide +kernel
theorem dX1_add_54 : decode cX1_add 54 = .ok (.aload_n 0, 1) := by decide +kernel
theorem dX1_add_55 : decode cX1_add 55 = .ok (.getfield 18, 3) := by decide +kernel
theorem dX1_add_58 : decode cX1_add 58 = .ok (.istore 4, 2) := by decide +kernel
theorem dX1_add_60 : decode cX1_add 60 = .ok (.iload 4, 2) := by decide +kernel
theorem dX1_add_62 : decode cX1_add 62 = .ok (.iload_n 3, 1) := by decide +kernel
theorem dX1_add_63 : decode cX1_add 63 = .ok (.if_icmp .le 41, 3) := by decide +kernel
theorem dX1_add_66 : decode cX1_add 66 = .ok (.aload_n 0, 1) := by decide +kernel
theorem dX1_add_67 : decode cX1_add 67 = .ok (.getfield 9, 3) := by decide +kernel
theorem dX1_add_70 : decode cX1_add 70 = .ok (.iload 4, 2) := by decide +kernel
theorem dX1_add_72 : decode cX1_add 72 = .ok (.aload_n 0, 1) := by decide +kernel
theorem dX1_add_73 : decode cX1_add 73 = .ok (.getfield 9, 3) := by decide +kernel
theorem dX1_add_76 : decode cX1_add 76 = .ok (.iload 4, 2) := by decide +kernel
theorem dX1_add_78 : decode cX1_add 78 = .ok (.iconst 1, 1) := by decide +kernel
theorem dX1_add_79 : decode cX1_add 79 = .ok (.isub, 1) := by decide +kernel
theorem dX1_add_80 : decode cX1_add 80 = .ok (.iaload, 1) := by decide +kernel
theorem dX1_add_81 : decode cX1_add 81 = .ok (.iastore, 1) := by decide +kernel
theorem dX1_add_82 : decode cX1_add 82 = .ok (.aload_n 0, 1) := by decide +kernel
theorem dX1_add_83 : decode cX1_add 83 = .ok (.getfield 15, 3) := by decide +kernel
theorem dX1_add_86 : decode cX1_add 86 = .ok (.iload 4, 2) := by decide +kernel
theorem dX1_add_88 : decode cX1_add 88 = .ok (.aload_n 0, 1) := by decide +kernel
theorem dX1_add_89 : decode cX1_add 89 = .ok (.getfield 15, 3) := by decide +kernel
theorem dX1_add_92 : decode cX1_add 92 = .ok (.iload 4, 2) := by decide +kernel
theorem dX1_add_94 : decode cX1_add 94 = .ok (.iconst 1, 1) := by decide +kernel
theorem dX1_add_95 : decode cX1_add 95 = .ok (.isub, 1) := by decide +kernel
theorem dX1_add_96 : decode cX1_add 96 = .ok (.iaload, 1) := by decide +kernel
theorem dX1_add_97 : decode cX1_add 97 = .ok (.iastore, 1) := by decide +kernel
theorem dX1_add_98 : decode cX1_add 98 = .ok (.iinc 4 (-1), 3) := by decide +kernel
theorem dX1_add_101 : decode cX1_add 101 = .ok (.goto (-41), 3) := by decide +kernel
theorem dX1_add_104 : decode cX1_add 104 = .ok (.aload_n 0, 1) := by decide +kernel
theorem dX1_add_105 : decode cX1_add 105 = .ok (.getfield 9, 3) := by decide +kernel
theorem dX1_add_108 : decode cX1_add 108 = .ok (.iload_n 3, 1) := by decide +kernel
theorem dX1_add_109 : decode cX1_add 109 = .ok (.iload_n 1, 1) := by decide +kernel
theorem dX1_add_110 : decode cX1_add 110 = .ok (.iastore, 1) := by decide +kernel
theorem dX1_add_111 : decode cX1_add 111 = .ok (.aload_n 0, 1) := by decide +kernel
theorem dX1_add_112 : decode cX1_add 112 = .ok (.getfield 15, 3) := by decide +kernel
theorem dX1_add_115 : decode cX1_add 115 = .ok (.iload_n 3, 1) := by decide +kernel
theorem dX1_add_116 : decode cX1_add 116 = .ok (.iload_n 2, 1) := by decide +kernel
theorem dX1_add_117 : decode cX1_add 117 = .ok (.iastore, 1) := by decide +kernel
theorem dX1_add_118 : decode cX1_add 118 = .ok (.aload_n 0, 1) := by decide +kernel
theorem dX1_add_119 : decode cX1_add 119 = .ok (.dup, 1) := by decide +kernel
theorem dX1_add_120 : decode cX1_add 120 = .ok (.getfield 18, 3) := by decide +kernel
theorem dX1_add_123 : decode cX1_add 123 = .ok (.iconst 1, 1) := by decide +kernel
theorem dX1_add_124 : decode cX1_add 124 = .ok (.iadd, 1) := by decide +kernel
theorem dX1_add_125 : decode cX1_add 125 = .ok (.putfield 18, 3) := by decide +kernel
theorem dX1_add_128 : decode cX1_add 128 = .ok (.return_, 1) := by decide +kernel
theorem dX1_leastNumber_0 : decode cX1_leastNumber 0 = .ok (.iload_n 1, 1) := by decide +kernel
theorem dX1_leastNumber_1 : decode cX1_leastNumber 1 = .ok (.istore_n 2, 1) := by decide +kernel
theorem dX1_leastNumber_2 : decode cX1_leastNumber 2 = .ok (.iconst 0, 1) := by decide +kernel
theorem dX1_leastNumber_3 : decode cX1_leastNumber 3 = .ok (.istore_n 3, 1) := by decide +kernel
theorem dX1_leastNumber_4 : decode cX1_leastNumber 4 = .ok (.iload_n 3, 1) := by decide +kernel
theorem dX1_leastNumber_5 : decode cX1_leastNumber 5 = .ok (.aload_n 0, 1) := by decide +kernel
theorem dX1_leastNumber_6 : decode cX1_leastNumber 6 = .ok (.getfield 18, 3) := by decide +kernel
theorem dX1_leastNumber_9 : decode cX1_leastNumber 9 = .ok (.if_icmp .ge 29, 3) := by decide +kernel
theorem dX1_leastNumber_12 : decode cX1_leastNumber 12 = .ok (.iload_n 3, 1) := by decide +kernel
theorem dX1_leastNumber_13 : decode cX1_leastNumber 13 = .ok (.aload_n 0, 1) := by decide +kernel
theorem dX1_leastNumber_14 : decode cX1_leastNumber 14 = .ok (.getfield 15, 3) := by decide +kernel
theorem dX1_leastNumber_17 : decode cX1_leastNumber 17 = .ok (.arraylength, 1) := by decide +kernel
theorem dX1_leastNumber_18 : decode cX1_leastNumber 18 = .ok (.if_icmp .ge 20, 3) := by decide +kernel
theorem dX1_leastNumber_21 : decode cX1_leastNumber 21 = .ok (.iload_n 2, 1) := by decide +kernel
theorem dX1_leastNumber_22 : decode cX1_leastNumber 22 = .ok (.aload_n 0, 1) := by decide +kernel
theorem dX1_leastNumber_23 : decode cX1_leastNumber 23 = .ok (.getfield 15, 3) := by decide +kernel
theorem dX1_leastNumber_26 : decode cX1_leastNumber 26 = .ok (.iload_n 3, 1) := by decide +kernel
theorem dX1_leastNumber_27 : decode cX1_leastNumber 27 = .ok (.iaload, 1) := by decide +kernel
theorem dX1_leastNumber_28 : decode cX1_leastNumber 28 = .ok (.invokestatic 68, 3) := by decide +kernel
theorem dX1_leastNumber_31 : decode cX1_leastNumber 31 = .ok (.istore_n 2, 1) := by decide +kernel
theorem dX1_leastNumber_32 : decode cX1_leastNumber 32 = .ok (.iinc 3 1, 3) := by decide +kernel
theorem dX1_leastNumber_35 : decode cX1_leastNumber 35 = .ok (.goto (-31), 3) := by decide +kernel
theorem dX1_leastNumber_38 : decode cX1_leastNumber 38 = .ok (.iload_n 2, 1) := by decide +kernel
theorem dX1_leastNumber_39 : decode cX1_leastNumber 39 = .ok (.ireturn, 1) := by decide +kernel
theorem dX1_lower_0 : decode cX1_lower 0 = .ok (.aload_n 0, 1) := by decide +kernel
theorem dX1_lower_1 : decode cX1_lower 1 = .ok (.dup, 1) := by decide +kernel
theorem dX1_lower_2 : decode cX1_lower 2 = .ok (.getfield 22, 3) := by decide +kernel
theorem dX1_lower_5 : decode cX1_lower 5 = .ok (.iload_n 1, 1) := by decide +kernel
theorem dX1_lower_6 : decode cX1_lower 6 = .ok (.iadd, 1) := by decide +kernel
theorem dX1_lower_7 : decode cX1_lower 7 = .ok (.putfield 22, 3) := by decide +kernel
theorem dX1_lower_10 : decode cX1_lower 10 = .ok (.iconst 0, 1) := by decide +kernel
theorem dX1_lower_11 : decode cX1_lower 11 = .ok (.istore_n 2, 1) := by decide +kernel
theorem dX1_lower_12 : decode cX1_lower 12 = .ok (.iconst 0, 1) := by decide +kernel
theorem dX1_lower_13 : decode cX1_lower 13 = .ok (.istore_n 3, 1) := by decide +kernel
theorem dX1_lower_14 : decode cX1_lower 14 = .ok (.iload_n 3, 1) := by decide +kernel
theorem dX1_lower_15 : decode cX1_lower 15 = .ok (.aload_n 0, 1) := by decide +kernel
theorem dX1_lower_16 : decode cX1_lower 16 = .ok (.getfield 18, 3) := by decide +kernel
theorem dX1_lower_19 : decode cX1_lower 19 = .ok (.if_icmp .ge 57, 3) := by decide +kernel
theorem dX1_lower_22 : decode cX1_lower 22 = .ok (.iload_n 3, 1) := by decide +kernel
theorem dX1_lower_23 : decode cX1_lower 23 = .ok (.aload_n 0, 1) := by decide +kernel
theorem dX1_lower_24 : decode cX1_lower 24 = .ok (.getfield 9, 3) := by decide +kernel
theorem dX1_lower_27 : decode cX1_lower 27 = .ok (.arraylength, 1) := by decide +kernel
theorem dX1_lower_28 : decode cX1_lower 28 = .ok (.if_icmp .ge 48, 3) := by decide +kernel
theorem dX1_lower_31 : decode cX1_lower 31 = .ok (.aload_n 0, 1) := by decide +kernel
theorem dX1_lower_32 : decode cX1_lower 32 = .ok (.getfield 15, 3) := by decide +kernel
theorem dX1_lower_35 : decode cX1_lower 35 = .ok (.iload_n 3, 1) := by decide +kernel
theorem dX1_lower_36 : decode cX1_lower 36 = .ok (.iaload, 1) := by decide +kernel
theorem dX1_lower_37 : decode cX1_lower 37 = .ok (.iload_n 1, 1) := by decide +kernel
theorem dX1_lower_38 : decode cX1_lower 38 = .ok (.if_icmp .le 32, 3) := by decide +kernel
theorem dX1_lower_41 : decode cX1_lower 41 = .ok (.aload_n 0, 1) := by decide +kernel
theorem dX1_lower_42 : decode cX1_lower 42 = .ok (.getfield 9, 3) := by decide +kernel
theorem dX1_lower_45 : decode cX1_lower 45 = .ok (.iload_n 2, 1) := by decide +kernel
theorem dX1_lower_46 : decode cX1_lower 46 = .ok (.aload_n 0, 1) := by decide +kernel
theorem dX1_lower_47 : decode cX1_lower 47 = .ok (.getfield 9, 3) := by decide +kernel
theorem dX1_lower_50 : decode cX1_lower 50 = .ok (.iload_n 3, 1) := by decide +kernel
theorem dX1_lower_51 : decode cX1_lower 51 = .ok (.iaload, 1) := by decide +kernel
theorem dX1_lower_52 : decode cX1_lower 52 = .ok (.iastore, 1) := by decide +kernel
theorem dX1_lower_53 : decode cX1_lower 53 = .ok (.aload_n 0, 1) := by decide +kernel
theorem dX1_lower_54 : decode cX1_lower 54 = .ok (.getfield 15, 3) := by decide +kernel
theorem dX1_lower_57 : decode cX1_lower 57 = .ok (.iload_n 2, 1) := by decide +kernel
theorem dX1_lower_58 : decode cX1_lower 58 = .ok (.aload_n 0, 1) := by decide +kernel
theorem dX1_lower_59 : decode cX1_lower 59 = .ok (.getfield 15, 3) := by decide +kernel
theorem dX1_lower_62 : decode cX1_lower 62 = .ok (.iload_n 3, 1) := by decide +kernel
theorem dX1_lower_63 : decode cX1_lower 63 = .ok (.iaload, 1) := by decide +kernel
theorem dX1_lower_64 : decode cX1_lower 64 = .ok (.iload_n 1, 1) := by decide +kernel
theorem dX1_lower_65 : decode cX1_lower 65 = .ok (.isub, 1) := by decide +kernel
theorem dX1_lower_66 : decode cX1_lower 66 = .ok (.iastore, 1) := by decide +kernel
theorem dX1_lower_67 : decode cX1_lower 67 = .ok (.iinc 2 1, 3) := by decide +kernel
theorem dX1_lower_70 : decode cX1_lower 70 = .ok (.iinc 3 1, 3) := by decide +kernel
theorem dX1_lower_73 : decode cX1_lower 73 = .ok (.goto (-59), 3) := by decide +kernel
theorem dX1_lower_76 : decode cX1_lower 76 = .ok (.aload_n 0, 1) := by decide +kernel
theorem dX1_lower_77 : decode cX1_lower 77 = .ok (.iload_n 2, 1) := by decide +kernel
theorem dX1_lower_78 : decode cX1_lower 78 = .ok (.putfield 18, 3) := by decide +kernel
theorem dX1_lower_81 : decode cX1_lower 81 = .ok (.return_, 1) := by decide +kernel
theorem dX1_firstNumberTooMany_0 : decode cX1_firstNumberTooMany 0 = .ok (.iconst 0, 1) := by decide +kernel
theorem dX1_firstNumberTooMany_1 : decode cX1_firstNumberTooMany 1 = .ok (.istore_n 1, 1) := by decide +kernel
theorem dX1_firstNumberTooMany_2 : decode cX1_firstNumberTooMany 2 = .ok (.iconst 0, 1) := by decide +kernel
theorem dX1_firstNumberTooMany_3 : decode cX1_firstNumberTooMany 3 = .ok (.istore_n 2, 1) := by decide +kernel
theorem dX1_firstNumberTooMany_4 : decode cX1_firstNumberTooMany 4 = .ok (.iload_n 2, 1) := by decide +kernel
theorem dX1_firstNumberTooMany_5 : decode cX1_firstNumberTooMany 5 = .ok (.aload_n 0, 1) := by decide +kernel
theorem dX1_firstNumberTooMany_6 : decode cX1_firstNumberTooMany 6 = .ok (.getfield 18, 3) := by decide +kernel
theorem dX1_firstNumberTooMany_9 : decode cX1_firstNumberTooMany 9 = .ok (.if_icmp .ge 52, 3) := by decide +kernel
theorem dX1_firstNumberTooMany_12 : decode cX1_firstNumberTooMany 12 = .ok (.iload_n 2, 1) := by decide +kernel
theorem dX1_firstNumberTooMany_13 : decode cX1_firstNumberTooMany 13 = .ok (.aload_n 0, 1) := by decide +kernel
theorem dX1_firstNumberTooMany_14 : decode cX1_firstNumberTooMany 14 = .ok (.getfield 15, 3) := by decide +kernel
theorem dX1_firstNumberTooMany_17 : decode cX1_firstNumberTooMany 17 = .ok (.arraylength, 1) := by decide +kernel
theorem dX1_firstNumberTooMany_18 : decode cX1_firstNumberTooMany 18 = .ok (.if_icmp .ge 43, 3) := by decide +kernel
theorem dX1_firstNumberTooMany_21 : decode cX1_firstNumberTooMany 21 = .ok (.aload_n 0, 1) := by decide +kernel
theorem dX1_firstNumberTooMany_22 : decode cX1_firstNumberTooMany 22 = .ok (.getfield 15, 3) := by decide +kernel
theorem dX1_firstNumberTooMany_25 : decode cX1_firstNumberTooMany 25 = .ok (.iload_n 2, 1) := by decide +kernel
theorem dX1_firstNumberTooMany_26 : decode cX1_firstNumberTooMany 26 = .ok (.iaload, 1) := by decide +kernel
theorem dX1_firstNumberTooMany_27 : decode cX1_firstNumberTooMany 27 = .ok (.iload_n 1, 1) := by decide +kernel
theorem dX1_firstNumberTooMany_28 : decode cX1_firstNumberTooMany 28 = .ok (.if_icmp .le 27, 3) := by decide +kernel
theorem dX1_firstNumberTooMany_31 : decode cX1_firstNumberTooMany 31 = .ok (.aload_n 0, 1) := by decide +kernel
theorem dX1_firstNumberTooMany_32 : decode cX1_firstNumberTooMany 32 = .ok (.aload_n 0, 1) := by decide +kernel
theorem dX1_firstNumberTooMany_33 : decode cX1_firstNumberTooMany 33 = .ok (.getfield 15, 3) := by decide +kernel
theorem dX1_firstNumberTooMany_36 : decode cX1_firstNumberTooMany 36 = .ok (.iload_n 2, 1) := by decide +kernel
theorem dX1_firstNumberTooMany_37 : decode cX1_firstNumberTooMany 37 = .ok (.iaload, 1) := by decide +kernel
theorem dX1_firstNumberTooMany_38 : decode cX1_firstNumberTooMany 38 = .ok (.invokevirtual 74, 3) := by decide +kernel
theorem dX1_firstNumberTooMany_41 : decode cX1_firstNumberTooMany 41 = .ok (.aload_n 0, 1) := by decide +kernel
theorem dX1_firstNumberTooMany_42 : decode cX1_firstNumberTooMany 42 = .ok (.getfield 25, 3) := by decide +kernel
theorem dX1_firstNumberTooMany_45 : decode cX1_firstNumberTooMany 45 = .ok (.if_icmp .le 10, 3) := by decide +kernel
theorem dX1_firstNumberTooMany_48 : decode cX1_firstNumberTooMany 48 = .ok (.aload_n 0, 1) := by decide +kernel
theorem dX1_firstNumberTooMany_49 : decode cX1_firstNumberTooMany 49 = .ok (.getfield 15, 3) := by decide +kernel
theorem dX1_firstNumberTooMany_52 : decode cX1_firstNumberTooMany 52 = .ok (.iload_n 2, 1) := by decide +kernel
theorem dX1_firstNumberTooMany_53 : decode cX1_firstNumberTooMany 53 = .ok (.iaload, 1) := by decide +kernel
theorem dX1_firstNumberTooMany_54 : decode cX1_firstNumberTooMany 54 = .ok (.istore_n 1, 1) := by decide +kernel
theorem dX1_firstNumberTooMany_55 : decode cX1_firstNumberTooMany 55 = .ok (.iinc 2 1, 3) := by decide +kernel
theorem dX1_firstNumberTooMany_58 : decode cX1_firstNumberTooMany 58 = .ok (.goto (-54), 3) := by decide +kernel
theorem dX1_firstNumberTooMany_61 : decode cX1_firstNumberTooMany 61 = .ok (.iload_n 1, 1) := by decide +kernel
theorem dX1_firstNumberTooMany_62 : decode cX1_firstNumberTooMany 62 = .ok (.ireturn, 1) := by decide +kernel
theorem dX1_howManyNotBelow_0 : decode cX1_howManyNotBelow 0 = .ok (.iconst 0, 1) := by decide +kernel
theorem dX1_howManyNotBelow_1 : decode cX1_howManyNotBelow 1 = .ok (.istore_n 2, 1) := by decide +kernel
theorem dX1_howManyNotBelow_2 : decode cX1_howManyNotBelow 2 = .ok (.iconst 0, 1) := by decide +kernel
theorem dX1_howManyNotBelow_3 : decode cX1_howManyNotBelow 3 = .ok (.istore_n 3, 1) := by decide +kernel
theorem dX1_howManyNotBelow_4 : decode cX1_howManyNotBelow 4 = .ok (.iload_n 3, 1) := by decide +kernel
theorem dX1_howManyNotBelow_5 : decode cX1_howManyNotBelow 5 = .ok (.aload_n 0, 1) := by decide +kernel
theorem dX1_howManyNotBelow_6 : decode cX1_howManyNotBelow 6 = .ok (.getfield 18, 3) := by decide +kernel
theorem dX1_howManyNotBelow_9 : decode cX1_howManyNotBelow 9 = .ok (.if_icmp .ge 31, 3) := by decide +kernel
theorem dX1_howManyNotBelow_12 : decode cX1_howManyNotBelow 12 = .ok (.iload_n 3, 1) := by decide +kernel
theorem dX1_howManyNotBelow_13 : decode cX1_howManyNotBelow 13 = .ok (.aload_n 0, 1) := by decide +kernel
theorem dX1_howManyNotBelow_14 : decode cX1_howManyNotBelow 14 = .ok (.getfield 15, 3) := by decide +kernel
theorem dX1_howManyNotBelow_17 : decode cX1_howManyNotBelow 17 = .ok (.arraylength, 1) := by decide +kernel
theorem dX1_howManyNotBelow_18 : decode cX1_howManyNotBelow 18 = .ok (.if_icmp .ge 22, 3) := by decide +kernel
theorem dX1_howManyNotBelow_21 : decode cX1_howManyNotBelow 21 = .ok (.aload_n 0, 1) := by decide +kernel
theorem dX1_howManyNotBelow_22 : decode cX1_howManyNotBelow 22 = .ok (.getfield 15, 3) := by decide +kernel
theorem dX1_howManyNotBelow_25 : decode cX1_howManyNotBelow 25 = .ok (.iload_n 3, 1) := by decide +kernel
theorem dX1_howManyNotBelow_26 : decode cX1_howManyNotBelow 26 = .ok (.iaload, 1) := by decide +kernel
theorem dX1_howManyNotBelow_27 : decode cX1_howManyNotBelow 27 = .ok (.iload_n 1, 1) := by decide +kernel
theorem dX1_howManyNotBelow_28 : decode cX1_howManyNotBelow 28 = .ok (.if_icmp .lt 6, 3) := by decide +kernel
theorem dX1_howManyNotBelow_31 : decode cX1_howManyNotBelow 31 = .ok (.iinc 2 1, 3) := by decide +kernel
theorem dX1_howManyNotBelow_34 : decode cX1_howManyNotBelow 34 = .ok (.iinc 3 1, 3) := by decide +kernel
theorem dX1_howManyNotBelow_37 : decode cX1_howManyNotBelow 37 = .ok (.goto (-33), 3) := by decide +kernel
theorem dX1_howManyNotBelow_40 : decode cX1_howManyNotBelow 40 = .ok (.iload_n 2, 1) := by decide +kernel
theorem dX1_howManyNotBelow_41 : decode cX1_howManyNotBelow 41 = .ok (.ireturn, 1) := by decide +kernel
theorem dX2_init_0 : decode cX2_init 0 = .ok (.aload_n 0, 1) := by decide +kernel
theorem dX2_init_1 : decode cX2_init 1 = .ok (.iconst 3, 1) := by decide +kernel
theorem dX2_init_2 : decode cX2_init 2 = .ok (.iload_n 1, 1) := by decide +kernel
theorem dX2_init_3 : decode cX2_init 3 = .ok (.iload_n 2, 1) := by decide +kernel
theorem dX2_init_4 : decode cX2_init 4 = .ok (.invokespecial 3, 3) := by decide +kernel
theorem dX2_init_7 : decode cX2_init 7 = .ok (.aload_n 0, 1) := by decide +kernel
theorem dX2_init_8 : decode cX2_init 8 = .ok (.iload_n 1, 1) := by decide +kernel
theorem dX2_init_9 : decode cX2_init 9 = .ok (.newarray .int, 2) := by decide +kernel
theorem dX2_init_11 : decode cX2_init 11 = .ok (.putfield 9, 3) := by decide +kernel
theorem dX2_init_14 : decode cX2_init 14 = .ok (.aload_n 0, 1) := by decide +kernel
theorem dX2_init_15 : decode cX2_init 15 = .ok (.iconst 0, 1) := by decide +kernel
theorem dX2_init_16 : decode cX2_init 16 = .ok (.putfield 15, 3) := by decide +kernel
theorem dX2_init_19 : decode cX2_init 19 = .ok (.return_, 1) := by decide +kernel
theorem dX2_twin_0 : decode cX2_twin 0 = .ok (.new 10, 3) := by decide +kernel
theorem dX2_twin_3 : decode cX2_twin 3 = .ok (.dup, 1) := by decide +kernel
theorem dX2_twin_4 : decode cX2_twin 4 = .ok (.aload_n 0, 1) := by decide +kernel
theorem dX2_twin_5 : decode cX2_twin 5 = .ok (.getfield 19, 3) := by decide +kernel
theorem dX2_twin_8 : decode cX2_twin 8 = .ok (.aload_n 0, 1) := by decide +kernel
theorem dX2_twin_9 : decode cX2_twin 9 = .ok (.getfield 22, 3) := by decide +kernel
theorem dX2_twin_12 : decode cX2_twin 12 = .ok (.invokespecial 25, 3) := by decide +kernel
theorem dX2_twin_15 : decode cX2_twin 15 = .ok (.astore_n 1, 1) := by decide +kernel
theorem dX2_twin_16 : decode cX2_twin 16 = .ok (.aload_n 1, 1) := by decide +kernel
theorem dX2_twin_17 : decode cX2_twin 17 = .ok (.aload_n 0, 1) := by decide +kernel
theorem dX2_twin_18 : decode cX2_twin 18 = .ok (.invokevirtual 28, 3) := by decide +kernel
theorem dX2_twin_21 : decode cX2_twin 21 = .ok (.aload_n 0, 1) := by decide +kernel
theorem dX2_twin_22 : decode cX2_twin 22 = .ok (.getfield 9, 3) := by decide +kernel
theorem dX2_twin_25 : decode cX2_twin 25 = .ok (.aload_n 1, 1) := by decide +kernel
theorem dX2_twin_26 : decode cX2_twin 26 = .ok (.getfield 9, 3) := by decide +kernel
theorem dX2_twin_29 : decode cX2_twin 29 = .ok (.invokestatic 32, 3) := by decide +kernel
theorem dX2_twin_32 : decode cX2_twin 32 = .ok (.aload_n 1, 1) := by decide +kernel
theorem dX2_twin_33 : decode cX2_twin 33 = .ok (.aload_n 0, 1) := by decide +kernel
theorem dX2_twin_34 : decode cX2_twin 34 = .ok (.getfield 15, 3) := by decide +kernel
theorem dX2_twin_37 : decode cX2_twin 37 = .ok (.putfield 15, 3) := by decide +kernel
theorem dX2_twin_40 : decode cX2_twin 40 = .ok (.aload_n 1, 1) := by decide +kernel
theorem dX2_twin_41 : decode cX2_twin 41 = .ok (.areturn, 1) := by decide +kernel
theorem dX2_forget_0 : decode cX2_forget 0 = .ok (.aload_n 0, 1) := by decide +kernel
theorem dX2_forget_1 : decode cX2_forget 1 = .ok (.iconst 0, 1) := by decide +kernel
theorem dX2_forget_2 : decode cX2_forget 2 = .ok (.putfield 15, 3) := by decide +kernel
theorem dX2_forget_5 : decode cX2_forget 5 = .ok (.return_, 1) := by decide +kernel
theorem dX2_take_0 : decode cX2_take 0 = .ok (.aload_n 0, 1) := by decide +kernel
theorem dX2_take_1 : decode cX2_take 1 = .ok (.aload_n 0, 1) := by decide +kernel
theorem dX2_take_2 : decode cX2_take 2 = .ok (.getfield 22, 3) := by decide +kernel
theorem dX2_take_5 : decode cX2_take 5 = .ok (.iconst 0, 1) := by decide +kernel
theorem dX2_take_6 : decode cX2_take 6 = .ok (.iload_n 1, 1) := by decide +kernel
theorem dX2_take_7 : decode cX2_take 7 = .ok (.invokestatic 36, 3) := by decide +kernel
theorem dX2_take_10 : decode cX2_take 10 = .ok (.invokevirtual 40, 3) := by decide +kernel
theorem dX2_take_13 : decode cX2_take 13 = .ok (.return_, 1) := by decide +kernel
theorem dX2_join_0 : decode cX2_join 0 = .ok (.aload_n 1, 1) := by decide +kernel
theorem dX2_join_1 : decode cX2_join 1 = .ok (.instanceof 10, 3) := by decide +kernel
theorem dX2_join_4 : decode cX2_join 4 = .ok (.ifCond .eq 43, 3) := by decide +kernel
theorem dX2_join_7 : decode cX2_join 7 = .ok (.aload_n 1, 1) := by decide +kernel
theorem dX2_join_8 : decode cX2_join 8 = .ok (.checkcast 10, 3) := by decide +kernel
theorem dX2_join_11 : decode cX2_join 11 = .ok (.astore_n 2, 1) := by decide +kernel
theorem dX2_join_12 : decode cX2_join 12 = .ok (.iconst 0, 1) := by decide +kernel
theorem dX2_join_13 : decode cX2_join 13 = .ok (.istore_n 3, 1) := by decide +kernel
theorem dX2_join_14 : decode cX2_join 14 = .ok (.iload_n 3, 1) := by decide +kernel
theorem dX2_join_15 : decode cX2_join 15 = .ok (.aload_n 2, 1) := by decide +kernel
theorem dX2_join_16 : decode cX2_join 16 = .ok (.getfield 15, 3) := by decide +kernel
theorem dX2_join_19 : decode cX2_join 19 = .ok (.if_icmp .ge 28, 3) := by decide +kernel
theorem dX2_join_22 : decode cX2_join 22 = .ok (.iload_n 3, 1) := by decide +kernel
theorem dX2_join_23 : decode cX2_join 23 = .ok (.aload_n 2, 1) := by decide +kernel
theorem dX2_join_24 : decode cX2_join 24 = .ok (.getfield 9, 3) := by decide +kernel
theorem dX2_join_27 : decode cX2_join 27 = .ok (.arraylength, 1) := by decide +kernel
theorem dX2_join_28 : decode cX2_join 28 = .ok (.if_icmp .ge 19, 3) := by decide +kernel
theorem dX2_join_31 : decode cX2_join 31 = .ok (.aload_n 0, 1) := by decide +kernel
theorem dX2_join_32 : decode cX2_join 32 = .ok (.aload_n 2, 1) := by decide +kernel
theorem dX2_join_33 : decode cX2_join 33 = .ok (.getfield 9, 3) := by decide +kernel
theorem dX2_join_36 : decode cX2_join 36 = .ok (.iload_n 3, 1) := by decide +kernel
theorem dX2_join_37 : decode cX2_join 37 = .ok (.iaload, 1) := by decide +kernel
theorem dX2_join_38 : decode cX2_join 38 = .ok (.invokevirtual 40, 3) := by decide +kernel
theorem dX2_join_41 : decode cX2_join 41 = .ok (.iinc 3 1, 3) := by decide +kernel
theorem dX2_join_44 : decode cX2_join 44 = .ok (.goto (-30), 3) := by decide +kernel
theorem dX2_join_47 : decode cX2_join 47 = .ok (.return_, 1) := by decide +kernel
theorem dX2_howManyKept_0 : decode cX2_howManyKept 0 = .ok (.aload_n 0, 1) := by decide +kernel
theorem dX2_howManyKept_1 : decode cX2_howManyKept 1 = .ok (.getfield 15, 3) := by decide +kernel
theorem dX2_howManyKept_4 : decode cX2_howManyKept 4 = .ok (.ireturn, 1) := by decide +kernel
theorem dX2_keptAt_0 : decode cX2_keptAt 0 = .ok (.iload_n 1, 1) := by decide +kernel
theorem dX2_keptAt_1 : decode cX2_keptAt 1 = .ok (.ifCond .lt 24, 3) := by decide +kernel
theorem dX2_keptAt_4 : decode cX2_keptAt 4 = .ok (.iload_n 1, 1) := by decide +kernel
theorem dX2_keptAt_5 : decode cX2_keptAt 5 = .ok (.aload_n 0, 1) := by decide +kernel
theorem dX2_keptAt_6 : decode cX2_keptAt 6 = .ok (.getfield 15, 3) := by decide +kernel
theorem dX2_keptAt_9 : decode cX2_keptAt 9 = .ok (.if_icmp .ge 16, 3) := by decide +kernel
theorem dX2_keptAt_12 : decode cX2_keptAt 12 = .ok (.iload_n 1, 1) := by decide +kernel
theorem dX2_keptAt_13 : decode cX2_keptAt 13 = .ok (.aload_n 0, 1) := by decide +kernel
theorem dX2_keptAt_14 : decode cX2_keptAt 14 = .ok (.getfield 9, 3) := by decide +kernel
theorem dX2_keptAt_17 : decode cX2_keptAt 17 = .ok (.arraylength, 1) := by decide +kernel
theorem dX2_keptAt_18 : decode cX2_keptAt 18 = .ok (.if_icmp .ge 7, 3) := by decide +kernel
theorem dX2_keptAt_21 : decode cX2_keptAt 21 = .ok (.iload_n 2, 1) := by decide +kernel
theorem dX2_keptAt_22 : decode cX2_keptAt 22 = .ok (.ifCond .eq 7, 3) := by decide +kernel
theorem dX2_keptAt_25 : decode cX2_keptAt 25 = .ok (.iconst (-1), 1) := by decide +kernel
theorem dX2_keptAt_26 : decode cX2_keptAt 26 = .ok (.goto 9, 3) := by decide +kernel
theorem dX2_keptAt_29 : decode cX2_keptAt 29 = .ok (.aload_n 0, 1) := by decide +kernel
theorem dX2_keptAt_30 : decode cX2_keptAt 30 = .ok (.getfield 9, 3) := by decide +kernel
theorem dX2_keptAt_33 : decode cX2_keptAt 33 = .ok (.iload_n 1, 1) := by decide +kernel
theorem dX2_keptAt_34 : decode cX2_keptAt 34 = .ok (.iaload, 1) := by decide +kernel
theorem dX2_keptAt_35 : decode cX2_keptAt 35 = .ok (.ireturn, 1) := by decide +kernel
theorem dX2_holds_0 : decode cX2_holds 0 = .ok (.aload_n 0, 1) := by decide +kernel
theorem dX2_holds_1 : decode cX2_holds 1 = .ok (.getfield 22, 3) := by decide +kernel
theorem dX2_holds_4 : decode cX2_holds 4 = .ok (.iconst 0, 1) := by decide +kernel
theorem dX2_holds_5 : decode cX2_holds 5 = .ok (.iload_n 1, 1) := by decide +kernel
theorem dX2_holds_6 : decode cX2_holds 6 = .ok (.invokestatic 36, 3) := by decide +kernel
theorem dX2_holds_9 : decode cX2_holds 9 = .ok (.istore_n 2, 1) := by decide +kernel
theorem dX2_holds_10 : decode cX2_holds 10 = .ok (.iload_n 2, 1) := by decide +kernel
theorem dX2_holds_11 : decode cX2_holds 11 = .ok (.aload_n 0, 1) := by decide +kernel
theorem dX2_holds_12 : decode cX2_holds 12 = .ok (.getfield 9, 3) := by decide +kernel
theorem dX2_holds_15 : decode cX2_holds 15 = .ok (.aload_n 0, 1) := by decide +kernel
theorem dX2_holds_16 : decode cX2_holds 16 = .ok (.getfield 15, 3) := by decide +kernel
theorem dX2_holds_19 : decode cX2_holds 19 = .ok (.invokestatic 44, 3) := by decide +kernel
theorem dX2_holds_22 : decode cX2_holds 22 = .ok (.iload_n 2, 1) := by decide +kernel
theorem dX2_holds_23 : decode cX2_holds 23 = .ok (.aload_n 0, 1) := by decide +kernel
theorem dX2_holds_24 : decode cX2_holds 24 = .ok (.getfield 9, 3) := by decide +kernel
theorem dX2_holds_27 : decode cX2_holds 27 = .ok (.aload_n 0, 1) := by decide +kernel
theorem dX2_holds_28 : decode cX2_holds 28 = .ok (.getfield 15, 3) := by decide +kernel
theorem dX2_holds_31 : decode cX2_holds 31 = .ok (.invokestatic 48, 3) := by decide +kernel
theorem dX2_holds_34 : decode cX2_holds 34 = .ok (.ifCond .eq 7, 3) := by decide +kernel
theorem dX2_holds_37 : decode cX2_holds 37 = .ok (.iconst 1, 1) := by decide +kernel
theorem dX2_holds_38 : decode cX2_holds 38 = .ok (.goto 4, 3) := by decide +kernel
theorem dX2_holds_41 : decode cX2_holds 41 = .ok (.iconst 0, 1) := by decide +kernel
theorem dX2_holds_42 : decode cX2_holds 42 = .ok (.ireturn, 1) := by decide +kernel
theorem dX2_differentKeys_0 : decode cX2_differentKeys 0 = .ok (.aload_n 0, 1) := by decide +kernel
theorem dX2_differentKeys_1 : decode cX2_differentKeys 1 = .ok (.getfield 15, 3) := by decide +kernel
theorem dX2_differentKeys_4 : decode cX2_differentKeys 4 = .ok (.aload_n 0, 1) := by decide +kernel
theorem dX2_differentKeys_5 : decode cX2_differentKeys 5 = .ok (.getfield 19, 3) := by decide +kernel
theorem dX2_differentKeys_8 : decode cX2_differentKeys 8 = .ok (.if_icmp .lt 23, 3) := by decide +kernel
theorem dX2_differentKeys_11 : decode cX2_differentKeys 11 = .ok (.aload_n 0, 1) := by decide +kernel
theorem dX2_differentKeys_12 : decode cX2_differentKeys 12 = .ok (.getfield 15, 3) := by decide +kernel
theorem dX2_differentKeys_15 : decode cX2_differentKeys 15 = .ok (.iconst 1, 1) := by decide +kernel
theorem dX2_differentKeys_16 : decode cX2_differentKeys 16 = .ok (.if_icmp .lt 15, 3) := by decide +kernel
theorem dX2_differentKeys_19 : decode cX2_differentKeys 19 = .ok (.aload_n 0, 1) := by decide +kernel
theorem dX2_differentKeys_20 : decode cX2_differentKeys 20 = .ok (.getfield 15, 3) := by decide +kernel
theorem dX2_differentKeys_23 : decode cX2_differentKeys 23 = .ok (.aload_n 0, 1) := by decide +kernel
theorem dX2_differentKeys_24 : decode cX2_differentKeys 24 = .ok (.getfield 9, 3) := by decide +kernel
theorem dX2_differentKeys_27 : decode cX2_differentKeys 27 = .ok (.arraylength, 1) := by decide +kernel
theorem dX2_differentKeys_28 : decode cX2_differentKeys 28 = .ok (.if_icmp .le 8, 3) := by decide +kernel
theorem dX2_differentKeys_31 : decode cX2_differentKeys 31 = .ok (.aload_n 0, 1) := by decide +kernel
theorem dX2_differentKeys_32 : decode cX2_differentKeys 32 = .ok (.getfield 15, 3) := by decide +kernel
theorem dX2_differentKeys_35 : decode cX2_differentKeys 35 = .ok (.ireturn, 1) := by decide +kernel
theorem dX2_differentKeys_36 : decode cX2_differentKeys 36 = .ok (.aload_n 0, 1) := by decide +kernel
theorem dX2_differentKeys_37 : decode cX2_differentKeys 37 = .ok (.getfield 9, 3) := by decide +kernel
theorem dX2_differentKeys_40 : decode cX2_differentKeys 40 = .ok (.aload_n 0, 1) := by decide +kernel
theorem dX2_differentKeys_41 : decode cX2_differentKeys 41 = .ok (.getfield 15, 3) := by decide +kernel
theorem dX2_differentKeys_44 : decode cX2_differentKeys 44 = .ok (.iconst 1, 1) := by decide +kernel
theorem dX2_differentKeys_45 : decode cX2_differentKeys 45 = .ok (.isub, 1) := by decide +kernel
theorem dX2_differentKeys_46 : decode cX2_differentKeys 46 = .ok (.iaload, 1) := by decide +kernel
theorem dX2_differentKeys_47 : decode cX2_differentKeys 47 = .ok (.istore_n 1, 1) := by decide +kernel
theorem dX2_differentKeys_48 : decode cX2_differentKeys 48 = .ok (.iload_n 1, 1) := by decide +kernel
theorem dX2_differentKeys_49 : decode cX2_differentKeys 49 = .ok (.iconst 1, 1) := by decide +kernel
theorem dX2_differentKeys_50 : decode cX2_differentKeys 50 = .ok (.if_icmp .ge 10, 3) := by decide +kernel
theorem dX2_differentKeys_53 : decode cX2_differentKeys 53 = .ok (.aload_n 0, 1) := by decide +kernel
theorem dX2_differentKeys_54 : decode cX2_differentKeys 54 = .ok (.getfield 15, 3) := by decide +kernel
theorem dX2_differentKeys_57 : decode cX2_differentKeys 57 = .ok (.goto 14, 3) := by decide +kernel
theorem dX2_differentKeys_60 : decode cX2_differentKeys 60 = .ok (.aload_n 0, 1) := by decide +kernel
theorem dX2_differentKeys_61 : decode cX2_differentKeys 61 = .ok (.getfield 19, 3) := by decide +kernel
theorem dX2_differentKeys_64 : decode cX2_differentKeys 64 = .ok (.iconst 1, 1) := by decide +kernel
theorem dX2_differentKeys_65 : decode cX2_differentKeys 65 = .ok (.isub, 1) := by decide +kernel
theorem dX2_differentKeys_66 : decode cX2_differentKeys 66 = .ok (.ldc 52, 2) := by decide +kernel
theorem dX2_differentKeys_68 : decode cX2_differentKeys 68 = .ok (.imul, 1) := by decide +kernel
theorem dX2_differentKeys_69 : decode cX2_differentKeys 69 = .ok (.iload_n 1, 1) := by decide +kernel
theorem dX2_differentKeys_70 : decode cX2_differentKeys 70 = .ok (.idiv, 1) := by decide +kernel
theorem dX2_differentKeys_71 : decode cX2_differentKeys 71 = .ok (.ireturn, 1) := by decide +kernel
theorem dX2_add_0 : decode cX2_add 0 = .ok (.iload_n 1, 1) := by decide +kernel
theorem dX2_add_1 : decode cX2_add 1 = .ok (.aload_n 0, 1) := by decide +kernel
theorem dX2_add_2 : decode cX2_add 2 = .ok (.getfield 9, 3) := by decide +kernel
theorem dX2_add_5 : decode cX2_add 5 = .ok (.aload_n 0, 1) := by decide +kernel
theorem dX2_add_6 : decode cX2_add 6 = .ok (.getfield 15, 3) := by decide +kernel
theorem dX2_add_9 : decode cX2_add 9 = .ok (.invokestatic 44, 3) := by decide +kernel
theorem dX2_add_12 : decode cX2_add 12 = .ok (.istore_n 2, 1) := by decide +kernel
theorem dX2_add_13 : decode cX2_add 13 = .ok (.iload_n 2, 1) := by decide +kernel
theorem dX2_add_14 : decode cX2_add 14 = .ok (.aload_n 0, 1) := by decide +kernel
theorem dX2_add_15 : decode cX2_add 15 = .ok (.getfield 9, 3) := by decide +kernel
theorem dX2_add_18 : decode cX2_add 18 = .ok (.arraylength, 1) := by decide +kernel
theorem dX2_add_19 : decode cX2_add 19 = .ok (.if_icmp .ge 19, 3) := by decide +kernel
theorem dX2_add_22 : decode cX2_add 22 = .ok (.iload_n 2, 1) := by decide +kernel
theorem dX2_add_23 : decode cX2_add 23 = .ok (.iload_n 1, 1) := by decide +kernel
theorem dX2_add_24 : decode cX2_add 24 = .ok (.aload_n 0, 1) := by decide +kernel
theorem dX2_add_25 : decode cX2_add 25 = .ok (.getfield 9, 3) := by decide +kernel
theorem dX2_add_28 : decode cX2_add 28 = .ok (.aload_n 0, 1) := by decide +kernel
theorem dX2_add_29 : decode cX2_add 29 = .ok (.getfield 15, 3) := by decide +kernel
theorem dX2_add_32 : decode cX2_add 32 = .ok (.invokestatic 48, 3) := by decide +kernel
theorem dX2_add_35 : decode cX2_add 35 = .ok (.ifCond .eq 4, 3) := by decide +kernel
theorem dX2_add_38 : decode cX2_add 38 = .ok (.return_, 1) := by decide +kernel
theorem dX2_add_39 : decode cX2_add 39 = .ok (.aload_n 0, 1) := by decide +kernel
theorem dX2_add_40 : decode cX2_add 40 = .ok (.aload_n 0, 1) := by decide +kernel
theorem dX2_add_41 : decode cX2_add 41 = .ok (.getfield 15, 3) := by decide +kernel
theorem dX2_add_44 : decode cX2_add 44 = .ok (.iconst 1, 1) := by decide +kernel
theorem dX2_add_45 : decode cX2_add 45 = .ok (.iadd, 1) := by decide +kernel
theorem dX2_add_46 : decode cX2_add 46 = .ok (.aload_n 0, 1) := by decide +kernel
theorem dX2_add_47 : decode cX2_add 47 = .ok (.getfield 9, 3) := by decide +kernel
theorem dX2_add_50 : decode cX2_add 50 = .ok (.arraylength, 1) := by decide +kernel
theorem dX2_add_51 : decode cX2_add 51 = .ok (.invokestatic 53, 3) := by decide +kernel
theorem dX2_add_54 : decode cX2_add 54 = .ok (.putfield 15, 3) := by decide +kernel
theorem dX2_add_57 : decode cX2_add 57 = .ok (.aload_n 0, 1) := by decide +kernel
theorem dX2_add_58 : decode cX2_add 58 = .ok (.getfield 15, 3) := by decide +kernel
theorem dX2_add_61 : decode cX2_add 61 = .ok (.iconst 1, 1) := by decide +kernel
theorem dX2_add_62 : decode cX2_add 62 = .ok (.isub, 1) := by decide +kernel
theorem dX2_add_63 : decode cX2_add 63 = .ok (.istore_n 3, 1) := by decide +kernel
theorem dX2_add_64 : decode cX2_add 64 = .ok (.iload_n 3, 1) := by decide +kernel
theorem dX2_add_65 : decode cX2_add 65 = .ok (.iload_n 2, 1) := by decide +kernel
theorem dX2_add_66 : decode cX2_add 66 = .ok (.if_icmp .le 23, 3) := by decide +kernel
theorem dX2_add_69 : decode cX2_add 69 = .ok (.aload_n 0, 1) := by decide +kernel
theorem dX2_add_70 : decode cX2_add 70 = .ok (.getfield 9, 3) := by decide +kernel
theorem dX2_add_73 : decode cX2_add 73 = .ok (.iload_n 3, 1) := by decide +kernel
theorem dX2_add_74 : decode cX2_add 74 = .ok (.aload_n 0, 1) := by decide +kernel
theorem dX2_add_75 : decode cX2_add 75 = .ok (.getfield 9, 3) := by decide +kernel
theorem dX2_add_78 : decode cX2_add 78 = .ok (.iload_n 3, 1) := by decide +kernel
theorem dX2_add_79 : decode cX2_add 79 = .ok (.iconst 1, 1) := by decide +kernel
theorem dX2_add_80 : decode cX2_add 80 = .ok (.isub, 1) := by decide +kernel
theorem dX2_add_81 : decode cX2_add 81 = .ok (.iaload, 1) := by decide +kernel
theorem dX2_add_82 : decode cX2_add 82 = .ok (.iastore, 1) := by decide +kernel
theorem dX2_add_83 : decode cX2_add 83 = .ok (.iinc 3 (-1), 3) := by decide +kernel
theorem dX2_add_86 : decode cX2_add 86 = .ok (.goto (-22), 3) := by decide +kernel
theorem dX2_add_89 : decode cX2_add 89 = .ok (.aload_n 0, 1) := by decide +kernel
theorem dX2_add_90 : decode cX2_add 90 = .ok (.getfield 9, 3) := by decide +kernel
theorem dX2_add_93 : decode cX2_add 93 = .ok (.iload_n 2, 1) := by decide +kernel
theorem dX2_add_94 : decode cX2_add 94 = .ok (.iload_n 1, 1) := by decide +kernel
theorem dX2_add_95 : decode cX2_add 95 = .ok (.iastore, 1) := by decide +kernel
theorem dX2_add_96 : decode cX2_add 96 = .ok (.return_, 1) := by decide +kernel
theorem dX3_init_0 : decode cX3_init 0 = .ok (.aload_n 0, 1) := by decide +kernel
theorem dX3_init_1 : decode cX3_init 1 = .ok (.iconst 4, 1) := by decide +kernel
theorem dX3_init_2 : decode cX3_init 2 = .ok (.iload_n 1, 1) := by decide +kernel
theorem dX3_init_3 : decode cX3_init 3 = .ok (.iload_n 2, 1) := by decide +kernel
theorem dX3_init_4 : decode cX3_init 4 = .ok (.invokespecial 3, 3) := by decide +kernel
theorem dX3_init_7 : decode cX3_init 7 = .ok (.aload_n 0, 1) := by decide +kernel
theorem dX3_init_8 : decode cX3_init 8 = .ok (.bipush 31, 2) := by decide +kernel
theorem dX3_init_10 : decode cX3_init 10 = .ok (.iload_n 1, 1) := by decide +kernel
theorem dX3_init_11 : decode cX3_init 11 = .ok (.imul, 1) := by decide +kernel
theorem dX3_init_12 : decode cX3_init 12 = .ok (.newarray .int, 2) := by decide +kernel
theorem dX3_init_14 : decode cX3_init 14 = .ok (.putfield 11, 3) := by decide +kernel
theorem dX3_init_17 : decode cX3_init 17 = .ok (.aload_n 0, 1) := by decide +kernel
theorem dX3_init_18 : decode cX3_init 18 = .ok (.bipush 31, 2) := by decide +kernel
theorem dX3_init_20 : decode cX3_init 20 = .ok (.newarray .int, 2) := by decide +kernel
theorem dX3_init_22 : decode cX3_init 22 = .ok (.putfield 15, 3) := by decide +kernel
theorem dX3_init_25 : decode cX3_init 25 = .ok (.aload_n 0, 1) := by decide +kernel
theorem dX3_init_26 : decode cX3_init 26 = .ok (.bipush 31, 2) := by decide +kernel
theorem dX3_init_28 : decode cX3_init 28 = .ok (.newarray .int, 2) := by decide +kernel
theorem dX3_init_30 : decode cX3_init 30 = .ok (.putfield 18, 3) := by decide +kernel
theorem dX3_init_33 : decode cX3_init 33 = .ok (.aload_n 0, 1) := by decide +kernel
theorem dX3_init_34 : decode cX3_init 34 = .ok (.iconst 0, 1) := by decide +kernel
end
section
theorem dX3_init_35 : decode cX3_init 35 = .ok (.putfield 21, 3) := by decide +kernel
theorem dX3_init_38 : decode cX3_init 38 = .ok (.return_, 1) := by decide +kernel
theorem dX3_twin_0 : decode cX3_twin 0 = .ok (.new 9, 3) := by decide +kernel
theorem dX3_twin_3 : decode cX3_twin 3 = .ok (.dup, 1) := by decide +kernel
theorem dX3_twin_4 : decode cX3_twin 4 = .ok (.aload_n 0, 1) := by decide +kernel
theorem dX3_twin_5 : decode cX3_twin 5 = .ok (.getfield 25, 3) := by decide +kernel
theorem dX3_twin_8 : decode cX3_twin 8 = .ok (.aload_n 0, 1) := by decide +kernel
theorem dX3_twin_9 : decode cX3_twin 9 = .ok (.getfield 28, 3) := by decide +kernel
theorem dX3_twin_12 : decode cX3_twin 12 = .ok (.invokespecial 31, 3) := by decide +kernel
theorem dX3_twin_15 : decode cX3_twin 15 = .ok (.astore_n 1, 1) := by decide +kernel
theorem dX3_twin_16 : decode cX3_twin 16 = .ok (.aload_n 1, 1) := by decide +kernel
theorem dX3_twin_17 : decode cX3_twin 17 = .ok (.aload_n 0, 1) := by decide +kernel
theorem dX3_twin_18 : decode cX3_twin 18 = .ok (.invokevirtual 34, 3) := by decide +kernel
theorem dX3_twin_21 : decode cX3_twin 21 = .ok (.aload_n 0, 1) := by decide +kernel
theorem dX3_twin_22 : decode cX3_twin 22 = .ok (.getfield 11, 3) := by decide +kernel
theorem dX3_twin_25 : decode cX3_twin 25 = .ok (.aload_n 1, 1) := by decide +kernel
theorem dX3_twin_26 : decode cX3_twin 26 = .ok (.getfield 11, 3) := by decide +kernel
theorem dX3_twin_29 : decode cX3_twin 29 = .ok (.invokestatic 38, 3) := by decide +kernel
theorem dX3_twin_32 : decode cX3_twin 32 = .ok (.aload_n 0, 1) := by decide +kernel
theorem dX3_twin_33 : decode cX3_twin 33 = .ok (.getfield 15, 3) := by decide +kernel
theorem dX3_twin_36 : decode cX3_twin 36 = .ok (.aload_n 1, 1) := by decide +kernel
theorem dX3_twin_37 : decode cX3_twin 37 = .ok (.getfield 15, 3) := by decide +kernel
theorem dX3_twin_40 : decode cX3_twin 40 = .ok (.invokestatic 38, 3) := by decide +kernel
theorem dX3_twin_43 : decode cX3_twin 43 = .ok (.aload_n 0, 1) := by decide +kernel
theorem dX3_twin_44 : decode cX3_twin 44 = .ok (.getfield 18, 3) := by decide +kernel
theorem dX3_twin_47 : decode cX3_twin 47 = .ok (.aload_n 1, 1) := by decide +kernel
theorem dX3_twin_48 : decode cX3_twin 48 = .ok (.getfield 18, 3) := by decide +kernel
theorem dX3_twin_51 : decode cX3_twin 51 = .ok (.invokestatic 38, 3) := by decide +kernel
theorem dX3_twin_54 : decode cX3_twin 54 = .ok (.aload_n 1, 1) := by decide +kernel
theorem dX3_twin_55 : decode cX3_twin 55 = .ok (.aload_n 0, 1) := by decide +kernel
theorem dX3_twin_56 : decode cX3_twin 56 = .ok (.getfield 21, 3) := by decide +kernel
theorem dX3_twin_59 : decode cX3_twin 59 = .ok (.putfield 21, 3) := by decide +kernel
theorem dX3_twin_62 : decode cX3_twin 62 = .ok (.aload_n 1, 1) := by decide +kernel
theorem dX3_twin_63 : decode cX3_twin 63 = .ok (.areturn, 1) := by decide +kernel
theorem dX3_forget_0 : decode cX3_forget 0 = .ok (.aload_n 0, 1) := by decide +kernel
theorem dX3_forget_1 : decode cX3_forget 1 = .ok (.getfield 15, 3) := by decide +kernel
theorem dX3_forget_4 : decode cX3_forget 4 = .ok (.invokestatic 42, 3) := by decide +kernel
theorem dX3_forget_7 : decode cX3_forget 7 = .ok (.aload_n 0, 1) := by decide +kernel
theorem dX3_forget_8 : decode cX3_forget 8 = .ok (.getfield 18, 3) := by decide +kernel
theorem dX3_forget_11 : decode cX3_forget 11 = .ok (.invokestatic 42, 3) := by decide +kernel
theorem dX3_forget_14 : decode cX3_forget 14 = .ok (.aload_n 0, 1) := by decide +kernel
theorem dX3_forget_15 : decode cX3_forget 15 = .ok (.iconst 0, 1) := by decide +kernel
theorem dX3_forget_16 : decode cX3_forget 16 = .ok (.putfield 21, 3) := by decide +kernel
theorem dX3_forget_19 : decode cX3_forget 19 = .ok (.return_, 1) := by decide +kernel
theorem dX3_mayTake_0 : decode cX3_mayTake 0 = .ok (.iload_n 1, 1) := by decide +kernel
theorem dX3_mayTake_1 : decode cX3_mayTake 1 = .ok (.iconst 1, 1) := by decide +kernel
theorem dX3_mayTake_2 : decode cX3_mayTake 2 = .ok (.if_icmp .lt 13, 3) := by decide +kernel
theorem dX3_mayTake_5 : decode cX3_mayTake 5 = .ok (.iload_n 1, 1) := by decide +kernel
theorem dX3_mayTake_6 : decode cX3_mayTake 6 = .ok (.bipush 100, 2) := by decide +kernel
theorem dX3_mayTake_8 : decode cX3_mayTake 8 = .ok (.if_icmp .gt 7, 3) := by decide +kernel
theorem dX3_mayTake_11 : decode cX3_mayTake 11 = .ok (.iconst 1, 1) := by decide +kernel
theorem dX3_mayTake_12 : decode cX3_mayTake 12 = .ok (.goto 4, 3) := by decide +kernel
theorem dX3_mayTake_15 : decode cX3_mayTake 15 = .ok (.iconst 0, 1) := by decide +kernel
theorem dX3_mayTake_16 : decode cX3_mayTake 16 = .ok (.ireturn, 1) := by decide +kernel
theorem dX3_take_0 : decode cX3_take 0 = .ok (.iconst 0, 1) := by decide +kernel
theorem dX3_take_1 : decode cX3_take 1 = .ok (.istore_n 3, 1) := by decide +kernel
theorem dX3_take_2 : decode cX3_take 2 = .ok (.iload_n 3, 1) := by decide +kernel
theorem dX3_take_3 : decode cX3_take 3 = .ok (.iload_n 2, 1) := by decide +kernel
theorem dX3_take_4 : decode cX3_take 4 = .ok (.if_icmp .ge 15, 3) := by decide +kernel
theorem dX3_take_7 : decode cX3_take 7 = .ok (.aload_n 0, 1) := by decide +kernel
theorem dX3_take_8 : decode cX3_take 8 = .ok (.iconst 0, 1) := by decide +kernel
theorem dX3_take_9 : decode cX3_take 9 = .ok (.iload_n 1, 1) := by decide +kernel
theorem dX3_take_10 : decode cX3_take 10 = .ok (.invokevirtual 46, 3) := by decide +kernel
theorem dX3_take_13 : decode cX3_take 13 = .ok (.iinc 3 1, 3) := by decide +kernel
theorem dX3_take_16 : decode cX3_take 16 = .ok (.goto (-14), 3) := by decide +kernel
theorem dX3_take_19 : decode cX3_take 19 = .ok (.return_, 1) := by decide +kernel
theorem dX3_join_0 : decode cX3_join 0 = .ok (.aload_n 1, 1) := by decide +kernel
theorem dX3_join_1 : decode cX3_join 1 = .ok (.instanceof 9, 3) := by decide +kernel
theorem dX3_join_4 : decode cX3_join 4 = .ok (.ifCond .eq 76, 3) := by decide +kernel
theorem dX3_join_7 : decode cX3_join 7 = .ok (.aload_n 1, 1) := by decide +kernel
theorem dX3_join_8 : decode cX3_join 8 = .ok (.checkcast 9, 3) := by decide +kernel
theorem dX3_join_11 : decode cX3_join 11 = .ok (.astore_n 2, 1) := by decide +kernel
theorem dX3_join_12 : decode cX3_join 12 = .ok (.iconst 0, 1) := by decide +kernel
theorem dX3_join_13 : decode cX3_join 13 = .ok (.istore_n 3, 1) := by decide +kernel
theorem dX3_join_14 : decode cX3_join 14 = .ok (.iload_n 3, 1) := by decide +kernel
theorem dX3_join_15 : decode cX3_join 15 = .ok (.bipush 31, 2) := by decide +kernel
theorem dX3_join_17 : decode cX3_join 17 = .ok (.if_icmp .ge 50, 3) := by decide +kernel
theorem dX3_join_20 : decode cX3_join 20 = .ok (.iconst 0, 1) := by decide +kernel
theorem dX3_join_21 : decode cX3_join 21 = .ok (.istore 4, 2) := by decide +kernel
theorem dX3_join_23 : decode cX3_join 23 = .ok (.iload 4, 2) := by decide +kernel
theorem dX3_join_25 : decode cX3_join 25 = .ok (.aload_n 2, 1) := by decide +kernel
theorem dX3_join_26 : decode cX3_join 26 = .ok (.getfield 15, 3) := by decide +kernel
theorem dX3_join_29 : decode cX3_join 29 = .ok (.iload_n 3, 1) := by decide +kernel
theorem dX3_join_30 : decode cX3_join 30 = .ok (.iaload, 1) := by decide +kernel
theorem dX3_join_31 : decode cX3_join 31 = .ok (.if_icmp .ge 30, 3) := by decide +kernel
theorem dX3_join_34 : decode cX3_join 34 = .ok (.iload 4, 2) := by decide +kernel
theorem dX3_join_36 : decode cX3_join 36 = .ok (.aload_n 0, 1) := by decide +kernel
theorem dX3_join_37 : decode cX3_join 37 = .ok (.getfield 25, 3) := by decide +kernel
theorem dX3_join_40 : decode cX3_join 40 = .ok (.if_icmp .ge 21, 3) := by decide +kernel
theorem dX3_join_43 : decode cX3_join 43 = .ok (.aload_n 0, 1) := by decide +kernel
theorem dX3_join_44 : decode cX3_join 44 = .ok (.iload_n 3, 1) := by decide +kernel
theorem dX3_join_45 : decode cX3_join 45 = .ok (.aload_n 2, 1) := by decide +kernel
theorem dX3_join_46 : decode cX3_join 46 = .ok (.iload_n 3, 1) := by decide +kernel
theorem dX3_join_47 : decode cX3_join 47 = .ok (.iload 4, 2) := by decide +kernel
theorem dX3_join_49 : decode cX3_join 49 = .ok (.invokevirtual 49, 3) := by decide +kernel
theorem dX3_join_52 : decode cX3_join 52 = .ok (.invokevirtual 46, 3) := by decide +kernel
theorem dX3_join_55 : decode cX3_join 55 = .ok (.iinc 4 1, 3) := by decide +kernel
theorem dX3_join_58 : decode cX3_join 58 = .ok (.goto (-35), 3) := by decide +kernel
theorem dX3_join_61 : decode cX3_join 61 = .ok (.iinc 3 1, 3) := by decide +kernel
theorem dX3_join_64 : decode cX3_join 64 = .ok (.goto (-50), 3) := by decide +kernel
theorem dX3_join_67 : decode cX3_join 67 = .ok (.aload_n 0, 1) := by decide +kernel
theorem dX3_join_68 : decode cX3_join 68 = .ok (.dup, 1) := by decide +kernel
theorem dX3_join_69 : decode cX3_join 69 = .ok (.getfield 21, 3) := by decide +kernel
theorem dX3_join_72 : decode cX3_join 72 = .ok (.aload_n 2, 1) := by decide +kernel
theorem dX3_join_73 : decode cX3_join 73 = .ok (.getfield 21, 3) := by decide +kernel
theorem dX3_join_76 : decode cX3_join 76 = .ok (.iadd, 1) := by decide +kernel
theorem dX3_join_77 : decode cX3_join 77 = .ok (.putfield 21, 3) := by decide +kernel
theorem dX3_join_80 : decode cX3_join 80 = .ok (.return_, 1) := by decide +kernel
theorem dX3_howManyKept_0 : decode cX3_howManyKept 0 = .ok (.iconst 0, 1) := by decide +kernel
theorem dX3_howManyKept_1 : decode cX3_howManyKept 1 = .ok (.istore_n 1, 1) := by decide +kernel
theorem dX3_howManyKept_2 : decode cX3_howManyKept 2 = .ok (.iconst 0, 1) := by decide +kernel
theorem dX3_howManyKept_3 : decode cX3_howManyKept 3 = .ok (.istore_n 2, 1) := by decide +kernel
theorem dX3_howManyKept_4 : decode cX3_howManyKept 4 = .ok (.iload_n 2, 1) := by decide +kernel
theorem dX3_howManyKept_5 : decode cX3_howManyKept 5 = .ok (.bipush 31, 2) := by decide +kernel
theorem dX3_howManyKept_7 : decode cX3_howManyKept 7 = .ok (.if_icmp .ge 18, 3) := by decide +kernel
theorem dX3_howManyKept_10 : decode cX3_howManyKept 10 = .ok (.iload_n 1, 1) := by decide +kernel
theorem dX3_howManyKept_11 : decode cX3_howManyKept 11 = .ok (.aload_n 0, 1) := by decide +kernel
theorem dX3_howManyKept_12 : decode cX3_howManyKept 12 = .ok (.getfield 15, 3) := by decide +kernel
theorem dX3_howManyKept_15 : decode cX3_howManyKept 15 = .ok (.iload_n 2, 1) := by decide +kernel
theorem dX3_howManyKept_16 : decode cX3_howManyKept 16 = .ok (.iaload, 1) := by decide +kernel
theorem dX3_howManyKept_17 : decode cX3_howManyKept 17 = .ok (.iadd, 1) := by decide +kernel
theorem dX3_howManyKept_18 : decode cX3_howManyKept 18 = .ok (.istore_n 1, 1) := by decide +kernel
theorem dX3_howManyKept_19 : decode cX3_howManyKept 19 = .ok (.iinc 2 1, 3) := by decide +kernel
theorem dX3_howManyKept_22 : decode cX3_howManyKept 22 = .ok (.goto (-18), 3) := by decide +kernel
theorem dX3_howManyKept_25 : decode cX3_howManyKept 25 = .ok (.iload_n 1, 1) := by decide +kernel
theorem dX3_howManyKept_26 : decode cX3_howManyKept 26 = .ok (.ireturn, 1) := by decide +kernel
theorem dX3_keptAt_0 : decode cX3_keptAt 0 = .ok (.iload_n 2, 1) := by decide +kernel
theorem dX3_keptAt_1 : decode cX3_keptAt 1 = .ok (.ifCond .lt 24, 3) := by decide +kernel
theorem dX3_keptAt_4 : decode cX3_keptAt 4 = .ok (.iload_n 2, 1) := by decide +kernel
theorem dX3_keptAt_5 : decode cX3_keptAt 5 = .ok (.bipush 31, 2) := by decide +kernel
theorem dX3_keptAt_7 : decode cX3_keptAt 7 = .ok (.if_icmp .ge 18, 3) := by decide +kernel
theorem dX3_keptAt_10 : decode cX3_keptAt 10 = .ok (.iload_n 1, 1) := by decide +kernel
theorem dX3_keptAt_11 : decode cX3_keptAt 11 = .ok (.iconst (-1), 1) := by decide +kernel
theorem dX3_keptAt_12 : decode cX3_keptAt 12 = .ok (.if_icmp .lt 13, 3) := by decide +kernel
theorem dX3_keptAt_15 : decode cX3_keptAt 15 = .ok (.iload_n 1, 1) := by decide +kernel
theorem dX3_keptAt_16 : decode cX3_keptAt 16 = .ok (.aload_n 0, 1) := by decide +kernel
theorem dX3_keptAt_17 : decode cX3_keptAt 17 = .ok (.getfield 15, 3) := by decide +kernel
theorem dX3_keptAt_20 : decode cX3_keptAt 20 = .ok (.iload_n 2, 1) := by decide +kernel
theorem dX3_keptAt_21 : decode cX3_keptAt 21 = .ok (.iaload, 1) := by decide +kernel
theorem dX3_keptAt_22 : decode cX3_keptAt 22 = .ok (.if_icmp .lt 5, 3) := by decide +kernel
theorem dX3_keptAt_25 : decode cX3_keptAt 25 = .ok (.iconst (-1), 1) := by decide +kernel
theorem dX3_keptAt_26 : decode cX3_keptAt 26 = .ok (.ireturn, 1) := by decide +kernel
theorem dX3_keptAt_27 : decode cX3_keptAt 27 = .ok (.iload_n 1, 1) := by decide +kernel
theorem dX3_keptAt_28 : decode cX3_keptAt 28 = .ok (.iconst (-1), 1) := by decide +kernel
theorem dX3_keptAt_29 : decode cX3_keptAt 29 = .ok (.if_icmp .ne 12, 3) := by decide +kernel
theorem dX3_keptAt_32 : decode cX3_keptAt 32 = .ok (.aload_n 0, 1) := by decide +kernel
theorem dX3_keptAt_33 : decode cX3_keptAt 33 = .ok (.getfield 15, 3) := by decide +kernel
theorem dX3_keptAt_36 : decode cX3_keptAt 36 = .ok (.iload_n 2, 1) := by decide +kernel
theorem dX3_keptAt_37 : decode cX3_keptAt 37 = .ok (.iaload, 1) := by decide +kernel
theorem dX3_keptAt_38 : decode cX3_keptAt 38 = .ok (.goto 9, 3) := by decide +kernel
theorem dX3_keptAt_41 : decode cX3_keptAt 41 = .ok (.aload_n 0, 1) := by decide +kernel
theorem dX3_keptAt_42 : decode cX3_keptAt 42 = .ok (.iload_n 2, 1) := by decide +kernel
theorem dX3_keptAt_43 : decode cX3_keptAt 43 = .ok (.iload_n 1, 1) := by decide +kernel
theorem dX3_keptAt_44 : decode cX3_keptAt 44 = .ok (.invokevirtual 49, 3) := by decide +kernel
theorem dX3_keptAt_47 : decode cX3_keptAt 47 = .ok (.ireturn, 1) := by decide +kernel
theorem dX3_mayLack_0 : decode cX3_mayLack 0 = .ok (.aload_n 0, 1) := by decide +kernel
theorem dX3_mayLack_1 : decode cX3_mayLack 1 = .ok (.getfield 21, 3) := by decide +kernel
theorem dX3_mayLack_4 : decode cX3_mayLack 4 = .ok (.ireturn, 1) := by decide +kernel
theorem dX3_atLeast_0 : decode cX3_atLeast 0 = .ok (.iconst 0, 1) := by decide +kernel
theorem dX3_atLeast_1 : decode cX3_atLeast 1 = .ok (.aload_n 0, 1) := by decide +kernel
theorem dX3_atLeast_2 : decode cX3_atLeast 2 = .ok (.iload_n 1, 1) := by decide +kernel
theorem dX3_atLeast_3 : decode cX3_atLeast 3 = .ok (.invokevirtual 53, 3) := by decide +kernel
theorem dX3_atLeast_6 : decode cX3_atLeast 6 = .ok (.aload_n 0, 1) := by decide +kernel
theorem dX3_atLeast_7 : decode cX3_atLeast 7 = .ok (.getfield 21, 3) := by decide +kernel
theorem dX3_atLeast_10 : decode cX3_atLeast 10 = .ok (.isub, 1) := by decide +kernel
theorem dX3_atLeast_11 : decode cX3_atLeast 11 = .ok (.invokestatic 57, 3) := by decide +kernel
theorem dX3_atLeast_14 : decode cX3_atLeast 14 = .ok (.ireturn, 1) := by decide +kernel
theorem dX3_atMost_0 : decode cX3_atMost 0 = .ok (.aload_n 0, 1) := by decide +kernel
theorem dX3_atMost_1 : decode cX3_atMost 1 = .ok (.getfield 62, 3) := by decide +kernel
theorem dX3_atMost_4 : decode cX3_atMost 4 = .ok (.aload_n 0, 1) := by decide +kernel
theorem dX3_atMost_5 : decode cX3_atMost 5 = .ok (.iload_n 1, 1) := by decide +kernel
theorem dX3_atMost_6 : decode cX3_atMost 6 = .ok (.invokevirtual 53, 3) := by decide +kernel
theorem dX3_atMost_9 : decode cX3_atMost 9 = .ok (.aload_n 0, 1) := by decide +kernel
theorem dX3_atMost_10 : decode cX3_atMost 10 = .ok (.getfield 21, 3) := by decide +kernel
theorem dX3_atMost_13 : decode cX3_atMost 13 = .ok (.iadd, 1) := by decide +kernel
theorem dX3_atMost_14 : decode cX3_atMost 14 = .ok (.invokestatic 65, 3) := by decide +kernel
theorem dX3_atMost_17 : decode cX3_atMost 17 = .ok (.ireturn, 1) := by decide +kernel
theorem dX3_keyAtRank_0 : decode cX3_keyAtRank 0 = .ok (.iload_n 1, 1) := by decide +kernel
theorem dX3_keyAtRank_1 : decode cX3_keyAtRank 1 = .ok (.iconst 1, 1) := by decide +kernel
theorem dX3_keyAtRank_2 : decode cX3_keyAtRank 2 = .ok (.if_icmp .lt 11, 3) := by decide +kernel
theorem dX3_keyAtRank_5 : decode cX3_keyAtRank 5 = .ok (.iload_n 1, 1) := by decide +kernel
theorem dX3_keyAtRank_6 : decode cX3_keyAtRank 6 = .ok (.aload_n 0, 1) := by decide +kernel
theorem dX3_keyAtRank_7 : decode cX3_keyAtRank 7 = .ok (.getfield 62, 3) := by decide +kernel
theorem dX3_keyAtRank_10 : decode cX3_keyAtRank 10 = .ok (.if_icmp .le 5, 3) := by decide +kernel
theorem dX3_keyAtRank_13 : decode cX3_keyAtRank 13 = .ok (.iconst (-1), 1) := by decide +kernel
theorem dX3_keyAtRank_14 : decode cX3_keyAtRank 14 = .ok (.ireturn, 1) := by decide +kernel
theorem dX3_keyAtRank_15 : decode cX3_keyAtRank 15 = .ok (.iconst 0, 1) := by decide +kernel
theorem dX3_keyAtRank_16 : decode cX3_keyAtRank 16 = .ok (.istore_n 2, 1) := by decide +kernel
theorem dX3_keyAtRank_17 : decode cX3_keyAtRank 17 = .ok (.sipush 9999, 3) := by decide +kernel
theorem dX3_keyAtRank_20 : decode cX3_keyAtRank 20 = .ok (.istore_n 3, 1) := by decide +kernel
theorem dX3_keyAtRank_21 : decode cX3_keyAtRank 21 = .ok (.iconst 0, 1) := by decide +kernel
theorem dX3_keyAtRank_22 : decode cX3_keyAtRank 22 = .ok (.istore 4, 2) := by decide +kernel
theorem dX3_keyAtRank_24 : decode cX3_keyAtRank 24 = .ok (.iload 4, 2) := by decide +kernel
theorem dX3_keyAtRank_26 : decode cX3_keyAtRank 26 = .ok (.bipush 14, 2) := by decide +kernel
theorem dX3_keyAtRank_28 : decode cX3_keyAtRank 28 = .ok (.if_icmp .ge 42, 3) := by decide +kernel
theorem dX3_keyAtRank_31 : decode cX3_keyAtRank 31 = .ok (.iload_n 2, 1) := by decide +kernel
theorem dX3_keyAtRank_32 : decode cX3_keyAtRank 32 = .ok (.iload_n 3, 1) := by decide +kernel
theorem dX3_keyAtRank_33 : decode cX3_keyAtRank 33 = .ok (.if_icmp .ge 37, 3) := by decide +kernel
theorem dX3_keyAtRank_36 : decode cX3_keyAtRank 36 = .ok (.iload_n 2, 1) := by decide +kernel
theorem dX3_keyAtRank_37 : decode cX3_keyAtRank 37 = .ok (.iload_n 3, 1) := by decide +kernel
theorem dX3_keyAtRank_38 : decode cX3_keyAtRank 38 = .ok (.iadd, 1) := by decide +kernel
theorem dX3_keyAtRank_39 : decode cX3_keyAtRank 39 = .ok (.iconst 2, 1) := by decide +kernel
theorem dX3_keyAtRank_40 : decode cX3_keyAtRank 40 = .ok (.idiv, 1) := by decide +kernel
theorem dX3_keyAtRank_41 : decode cX3_keyAtRank 41 = .ok (.istore 5, 2) := by decide +kernel
theorem dX3_keyAtRank_43 : decode cX3_keyAtRank 43 = .ok (.aload_n 0, 1) := by decide +kernel
theorem dX3_keyAtRank_44 : decode cX3_keyAtRank 44 = .ok (.iload 5, 2) := by decide +kernel
theorem dX3_keyAtRank_46 : decode cX3_keyAtRank 46 = .ok (.invokevirtual 53, 3) := by decide +kernel
theorem dX3_keyAtRank_49 : decode cX3_keyAtRank 49 = .ok (.iload_n 1, 1) := by decide +kernel
theorem dX3_keyAtRank_50 : decode cX3_keyAtRank 50 = .ok (.if_icmp .lt 9, 3) := by decide +kernel
theorem dX3_keyAtRank_53 : decode cX3_keyAtRank 53 = .ok (.iload 5, 2) := by decide +kernel
theorem dX3_keyAtRank_55 : decode cX3_keyAtRank 55 = .ok (.istore_n 3, 1) := by decide +kernel
theorem dX3_keyAtRank_56 : decode cX3_keyAtRank 56 = .ok (.goto 8, 3) := by decide +kernel
theorem dX3_keyAtRank_59 : decode cX3_keyAtRank 59 = .ok (.iload 5, 2) := by decide +kernel
theorem dX3_keyAtRank_61 : decode cX3_keyAtRank 61 = .ok (.iconst 1, 1) := by decide +kernel
theorem dX3_keyAtRank_62 : decode cX3_keyAtRank 62 = .ok (.iadd, 1) := by decide +kernel
theorem dX3_keyAtRank_63 : decode cX3_keyAtRank 63 = .ok (.istore_n 2, 1) := by decide +kernel
theorem dX3_keyAtRank_64 : decode cX3_keyAtRank 64 = .ok (.iinc 4 1, 3) := by decide +kernel
theorem dX3_keyAtRank_67 : decode cX3_keyAtRank 67 = .ok (.goto (-43), 3) := by decide +kernel
theorem dX3_keyAtRank_70 : decode cX3_keyAtRank 70 = .ok (.iload_n 2, 1) := by decide +kernel
theorem dX3_keyAtRank_71 : decode cX3_keyAtRank 71 = .ok (.ireturn, 1) := by decide +kernel
theorem dX3_keyAt_0 : decode cX3_keyAt 0 = .ok (.iload_n 1, 1) := by decide +kernel
theorem dX3_keyAt_1 : decode cX3_keyAt 1 = .ok (.aload_n 0, 1) := by decide +kernel
theorem dX3_keyAt_2 : decode cX3_keyAt 2 = .ok (.getfield 25, 3) := by decide +kernel
theorem dX3_keyAt_5 : decode cX3_keyAt 5 = .ok (.imul, 1) := by decide +kernel
theorem dX3_keyAt_6 : decode cX3_keyAt 6 = .ok (.iload_n 2, 1) := by decide +kernel
theorem dX3_keyAt_7 : decode cX3_keyAt 7 = .ok (.iadd, 1) := by decide +kernel
theorem dX3_keyAt_8 : decode cX3_keyAt 8 = .ok (.istore_n 3, 1) := by decide +kernel
theorem dX3_keyAt_9 : decode cX3_keyAt 9 = .ok (.iload_n 3, 1) := by decide +kernel
theorem dX3_keyAt_10 : decode cX3_keyAt 10 = .ok (.ifCond .lt 12, 3) := by decide +kernel
theorem dX3_keyAt_13 : decode cX3_keyAt 13 = .ok (.iload_n 3, 1) := by decide +kernel
theorem dX3_keyAt_14 : decode cX3_keyAt 14 = .ok (.aload_n 0, 1) := by decide +kernel
theorem dX3_keyAt_15 : decode cX3_keyAt 15 = .ok (.getfield 11, 3) := by decide +kernel
theorem dX3_keyAt_18 : decode cX3_keyAt 18 = .ok (.arraylength, 1) := by decide +kernel
theorem dX3_keyAt_19 : decode cX3_keyAt 19 = .ok (.if_icmp .lt 7, 3) := by decide +kernel
theorem dX3_keyAt_22 : decode cX3_keyAt 22 = .ok (.iconst 0, 1) := by decide +kernel
theorem dX3_keyAt_23 : decode cX3_keyAt 23 = .ok (.goto 9, 3) := by decide +kernel
theorem dX3_keyAt_26 : decode cX3_keyAt 26 = .ok (.aload_n 0, 1) := by decide +kernel
theorem dX3_keyAt_27 : decode cX3_keyAt 27 = .ok (.getfield 11, 3) := by decide +kernel
theorem dX3_keyAt_30 : decode cX3_keyAt 30 = .ok (.iload_n 3, 1) := by decide +kernel
theorem dX3_keyAt_31 : decode cX3_keyAt 31 = .ok (.iaload, 1) := by decide +kernel
theorem dX3_keyAt_32 : decode cX3_keyAt 32 = .ok (.ireturn, 1) := by decide +kernel
theorem dX3_weightUpTo_0 : decode cX3_weightUpTo 0 = .ok (.iconst 0, 1) := by decide +kernel
theorem dX3_weightUpTo_1 : decode cX3_weightUpTo 1 = .ok (.istore_n 2, 1) := by decide +kernel
theorem dX3_weightUpTo_2 : decode cX3_weightUpTo 2 = .ok (.iconst 0, 1) := by decide +kernel
theorem dX3_weightUpTo_3 : decode cX3_weightUpTo 3 = .ok (.istore_n 3, 1) := by decide +kernel
theorem dX3_weightUpTo_4 : decode cX3_weightUpTo 4 = .ok (.iload_n 3, 1) := by decide +kernel
theorem dX3_weightUpTo_5 : decode cX3_weightUpTo 5 = .ok (.bipush 31, 2) := by decide +kernel
theorem dX3_weightUpTo_7 : decode cX3_weightUpTo 7 = .ok (.if_icmp .ge 46, 3) := by decide +kernel
theorem dX3_weightUpTo_10 : decode cX3_weightUpTo 10 = .ok (.iconst 0, 1) := by decide +kernel
theorem dX3_weightUpTo_11 : decode cX3_weightUpTo 11 = .ok (.istore 4, 2) := by decide +kernel
theorem dX3_weightUpTo_13 : decode cX3_weightUpTo 13 = .ok (.iload 4, 2) := by decide +kernel
theorem dX3_weightUpTo_15 : decode cX3_weightUpTo 15 = .ok (.aload_n 0, 1) := by decide +kernel
theorem dX3_weightUpTo_16 : decode cX3_weightUpTo 16 = .ok (.getfield 15, 3) := by decide +kernel
theorem dX3_weightUpTo_19 : decode cX3_weightUpTo 19 = .ok (.iload_n 3, 1) := by decide +kernel
theorem dX3_weightUpTo_20 : decode cX3_weightUpTo 20 = .ok (.iaload, 1) := by decide +kernel
theorem dX3_weightUpTo_21 : decode cX3_weightUpTo 21 = .ok (.if_icmp .ge 26, 3) := by decide +kernel
theorem dX3_weightUpTo_24 : decode cX3_weightUpTo 24 = .ok (.aload_n 0, 1) := by decide +kernel
theorem dX3_weightUpTo_25 : decode cX3_weightUpTo 25 = .ok (.iload_n 3, 1) := by decide +kernel
theorem dX3_weightUpTo_26 : decode cX3_weightUpTo 26 = .ok (.iload 4, 2) := by decide +kernel
theorem dX3_weightUpTo_28 : decode cX3_weightUpTo 28 = .ok (.invokevirtual 49, 3) := by decide +kernel
theorem dX3_weightUpTo_31 : decode cX3_weightUpTo 31 = .ok (.iload_n 1, 1) := by decide +kernel
theorem dX3_weightUpTo_32 : decode cX3_weightUpTo 32 = .ok (.if_icmp .gt 9, 3) := by decide +kernel
theorem dX3_weightUpTo_35 : decode cX3_weightUpTo 35 = .ok (.iload_n 2, 1) := by decide +kernel
theorem dX3_weightUpTo_36 : decode cX3_weightUpTo 36 = .ok (.iconst 1, 1) := by decide +kernel
theorem dX3_weightUpTo_37 : decode cX3_weightUpTo 37 = .ok (.iload_n 3, 1) := by decide +kernel
theorem dX3_weightUpTo_38 : decode cX3_weightUpTo 38 = .ok (.ishl, 1) := by decide +kernel
theorem dX3_weightUpTo_39 : decode cX3_weightUpTo 39 = .ok (.iadd, 1) := by decide +kernel
theorem dX3_weightUpTo_40 : decode cX3_weightUpTo 40 = .ok (.istore_n 2, 1) := by decide +kernel
theorem dX3_weightUpTo_41 : decode cX3_weightUpTo 41 = .ok (.iinc 4 1, 3) := by decide +kernel
theorem dX3_weightUpTo_44 : decode cX3_weightUpTo 44 = .ok (.goto (-31), 3) := by decide +kernel
theorem dX3_weightUpTo_47 : decode cX3_weightUpTo 47 = .ok (.iinc 3 1, 3) := by decide +kernel
theorem dX3_weightUpTo_50 : decode cX3_weightUpTo 50 = .ok (.goto (-46), 3) := by decide +kernel
theorem dX3_weightUpTo_53 : decode cX3_weightUpTo 53 = .ok (.iload_n 2, 1) := by decide +kernel
theorem dX3_weightUpTo_54 : decode cX3_weightUpTo 54 = .ok (.ireturn, 1) := by decide +kernel
theorem dX3_push_0 : decode cX3_push 0 = .ok (.iload_n 1, 1) := by decide +kernel
theorem dX3_push_1 : decode cX3_push 1 = .ok (.ifCond .lt 22, 3) := by decide +kernel
theorem dX3_push_4 : decode cX3_push 4 = .ok (.iload_n 1, 1) := by decide +kernel
theorem dX3_push_5 : decode cX3_push 5 = .ok (.bipush 31, 2) := by decide +kernel
theorem dX3_push_7 : decode cX3_push 7 = .ok (.if_icmp .ge 16, 3) := by decide +kernel
theorem dX3_push_10 : decode cX3_push 10 = .ok (.aload_n 0, 1) := by decide +kernel
theorem dX3_push_11 : decode cX3_push 11 = .ok (.getfield 15, 3) := by decide +kernel
theorem dX3_push_14 : decode cX3_push 14 = .ok (.iload_n 1, 1) := by decide +kernel
theorem dX3_push_15 : decode cX3_push 15 = .ok (.iaload, 1) := by decide +kernel
theorem dX3_push_16 : decode cX3_push 16 = .ok (.aload_n 0, 1) := by decide +kernel
theorem dX3_push_17 : decode cX3_push 17 = .ok (.getfield 25, 3) := by decide +kernel
theorem dX3_push_20 : decode cX3_push 20 = .ok (.if_icmp .lt 4, 3) := by decide +kernel
theorem dX3_push_23 : decode cX3_push 23 = .ok (.return_, 1) := by decide +kernel
theorem dX3_push_24 : decode cX3_push 24 = .ok (.aload_n 0, 1) := by decide +kernel
theorem dX3_push_25 : decode cX3_push 25 = .ok (.getfield 11, 3) := by decide +kernel
theorem dX3_push_28 : decode cX3_push 28 = .ok (.iload_n 1, 1) := by decide +kernel
theorem dX3_push_29 : decode cX3_push 29 = .ok (.aload_n 0, 1) := by decide +kernel
theorem dX3_push_30 : decode cX3_push 30 = .ok (.getfield 25, 3) := by decide +kernel
theorem dX3_push_33 : decode cX3_push 33 = .ok (.imul, 1) := by decide +kernel
theorem dX3_push_34 : decode cX3_push 34 = .ok (.aload_n 0, 1) := by decide +kernel
theorem dX3_push_35 : decode cX3_push 35 = .ok (.getfield 15, 3) := by decide +kernel
theorem dX3_push_38 : decode cX3_push 38 = .ok (.iload_n 1, 1) := by decide +kernel
theorem dX3_push_39 : decode cX3_push 39 = .ok (.iaload, 1) := by decide +kernel
theorem dX3_push_40 : decode cX3_push 40 = .ok (.iadd, 1) := by decide +kernel
theorem dX3_push_41 : decode cX3_push 41 = .ok (.iload_n 2, 1) := by decide +kernel
theorem dX3_push_42 : decode cX3_push 42 = .ok (.iastore, 1) := by decide +kernel
theorem dX3_push_43 : decode cX3_push 43 = .ok (.aload_n 0, 1) := by decide +kernel
theorem dX3_push_44 : decode cX3_push 44 = .ok (.getfield 15, 3) := by decide +kernel
theorem dX3_push_47 : decode cX3_push 47 = .ok (.iload_n 1, 1) := by decide +kernel
theorem dX3_push_48 : decode cX3_push 48 = .ok (.dup2, 1) := by decide +kernel
theorem dX3_push_49 : decode cX3_push 49 = .ok (.iaload, 1) := by decide +kernel
theorem dX3_push_50 : decode cX3_push 50 = .ok (.iconst 1, 1) := by decide +kernel
theorem dX3_push_51 : decode cX3_push 51 = .ok (.iadd, 1) := by decide +kernel
theorem dX3_push_52 : decode cX3_push 52 = .ok (.iastore, 1) := by decide +kernel
theorem dX3_push_53 : decode cX3_push 53 = .ok (.aload_n 0, 1) := by decide +kernel
theorem dX3_push_54 : decode cX3_push 54 = .ok (.getfield 15, 3) := by decide +kernel
theorem dX3_push_57 : decode cX3_push 57 = .ok (.iload_n 1, 1) := by decide +kernel
theorem dX3_push_58 : decode cX3_push 58 = .ok (.iaload, 1) := by decide +kernel
theorem dX3_push_59 : decode cX3_push 59 = .ok (.aload_n 0, 1) := by decide +kernel
theorem dX3_push_60 : decode cX3_push 60 = .ok (.getfield 25, 3) := by decide +kernel
theorem dX3_push_63 : decode cX3_push 63 = .ok (.if_icmp .lt 8, 3) := by decide +kernel
theorem dX3_push_66 : decode cX3_push 66 = .ok (.aload_n 0, 1) := by decide +kernel
theorem dX3_push_67 : decode cX3_push 67 = .ok (.iload_n 1, 1) := by decide +kernel
theorem dX3_push_68 : decode cX3_push 68 = .ok (.invokevirtual 68, 3) := by decide +kernel
theorem dX3_push_71 : decode cX3_push 71 = .ok (.return_, 1) := by decide +kernel
theorem dX3_collapse_0 : decode cX3_collapse 0 = .ok (.aload_n 0, 1) := by decide +kernel
theorem dX3_collapse_1 : decode cX3_collapse 1 = .ok (.iload_n 1, 1) := by decide +kernel
theorem dX3_collapse_2 : decode cX3_collapse 2 = .ok (.invokevirtual 72, 3) := by decide +kernel
theorem dX3_collapse_5 : decode cX3_collapse 5 = .ok (.aload_n 0, 1) := by decide +kernel
theorem dX3_collapse_6 : decode cX3_collapse 6 = .ok (.getfield 18, 3) := by decide +kernel
theorem dX3_collapse_9 : decode cX3_collapse 9 = .ok (.iload_n 1, 1) := by decide +kernel
theorem dX3_collapse_10 : decode cX3_collapse 10 = .ok (.iaload, 1) := by decide +kernel
theorem dX3_collapse_11 : decode cX3_collapse 11 = .ok (.istore_n 2, 1) := by decide +kernel
theorem dX3_collapse_12 : decode cX3_collapse 12 = .ok (.aload_n 0, 1) := by decide +kernel
theorem dX3_collapse_13 : decode cX3_collapse 13 = .ok (.getfield 18, 3) := by decide +kernel
theorem dX3_collapse_16 : decode cX3_collapse 16 = .ok (.iload_n 1, 1) := by decide +kernel
theorem dX3_collapse_17 : decode cX3_collapse 17 = .ok (.iconst 1, 1) := by decide +kernel
theorem dX3_collapse_18 : decode cX3_collapse 18 = .ok (.iload_n 2, 1) := by decide +kernel
theorem dX3_collapse_19 : decode cX3_collapse 19 = .ok (.isub, 1) := by decide +kernel
theorem dX3_collapse_20 : decode cX3_collapse 20 = .ok (.iastore, 1) := by decide +kernel
theorem dX3_collapse_21 : decode cX3_collapse 21 = .ok (.aload_n 0, 1) := by decide +kernel
theorem dX3_collapse_22 : decode cX3_collapse 22 = .ok (.dup, 1) := by decide +kernel
theorem dX3_collapse_23 : decode cX3_collapse 23 = .ok (.getfield 21, 3) := by decide +kernel
theorem dX3_collapse_26 : decode cX3_collapse 26 = .ok (.iconst 1, 1) := by decide +kernel
theorem dX3_collapse_27 : decode cX3_collapse 27 = .ok (.iload_n 1, 1) := by decide +kernel
theorem dX3_collapse_28 : decode cX3_collapse 28 = .ok (.ishl, 1) := by decide +kernel
theorem dX3_collapse_29 : decode cX3_collapse 29 = .ok (.iadd, 1) := by decide +kernel
theorem dX3_collapse_30 : decode cX3_collapse 30 = .ok (.putfield 21, 3) := by decide +kernel
theorem dX3_collapse_33 : decode cX3_collapse 33 = .ok (.aload_n 0, 1) := by decide +kernel
theorem dX3_collapse_34 : decode cX3_collapse 34 = .ok (.getfield 15, 3) := by decide +kernel
theorem dX3_collapse_37 : decode cX3_collapse 37 = .ok (.iload_n 1, 1) := by decide +kernel
theorem dX3_collapse_38 : decode cX3_collapse 38 = .ok (.iconst 0, 1) := by decide +kernel
theorem dX3_collapse_39 : decode cX3_collapse 39 = .ok (.iastore, 1) := by decide +kernel
theorem dX3_collapse_40 : decode cX3_collapse 40 = .ok (.iload_n 2, 1) := by decide +kernel
theorem dX3_collapse_41 : decode cX3_collapse 41 = .ok (.istore_n 3, 1) := by decide +kernel
theorem dX3_collapse_42 : decode cX3_collapse 42 = .ok (.iload_n 3, 1) := by decide +kernel
theorem dX3_collapse_43 : decode cX3_collapse 43 = .ok (.aload_n 0, 1) := by decide +kernel
theorem dX3_collapse_44 : decode cX3_collapse 44 = .ok (.getfield 25, 3) := by decide +kernel
theorem dX3_collapse_47 : decode cX3_collapse 47 = .ok (.if_icmp .ge 22, 3) := by decide +kernel
theorem dX3_collapse_50 : decode cX3_collapse 50 = .ok (.aload_n 0, 1) := by decide +kernel
theorem dX3_collapse_51 : decode cX3_collapse 51 = .ok (.iload_n 1, 1) := by decide +kernel
theorem dX3_collapse_52 : decode cX3_collapse 52 = .ok (.iconst 1, 1) := by decide +kernel
theorem dX3_collapse_53 : decode cX3_collapse 53 = .ok (.iadd, 1) := by decide +kernel
theorem dX3_collapse_54 : decode cX3_collapse 54 = .ok (.aload_n 0, 1) := by decide +kernel
theorem dX3_collapse_55 : decode cX3_collapse 55 = .ok (.iload_n 1, 1) := by decide +kernel
theorem dX3_collapse_56 : decode cX3_collapse 56 = .ok (.iload_n 3, 1) := by decide +kernel
theorem dX3_collapse_57 : decode cX3_collapse 57 = .ok (.invokevirtual 49, 3) := by decide +kernel
theorem dX3_collapse_60 : decode cX3_collapse 60 = .ok (.invokevirtual 46, 3) := by decide +kernel
theorem dX3_collapse_63 : decode cX3_collapse 63 = .ok (.iinc 3 2, 3) := by decide +kernel
theorem dX3_collapse_66 : decode cX3_collapse 66 = .ok (.goto (-24), 3) := by decide +kernel
theorem dX3_collapse_69 : decode cX3_collapse 69 = .ok (.return_, 1) := by decide +kernel
theorem dX3_sortBuffer_0 : decode cX3_sortBuffer 0 = .ok (.iload_n 1, 1) := by decide +kernel
theorem dX3_sortBuffer_1 : decode cX3_sortBuffer 1 = .ok (.aload_n 0, 1) := by decide +kernel
theorem dX3_sortBuffer_2 : decode cX3_sortBuffer 2 = .ok (.getfield 25, 3) := by decide +kernel
theorem dX3_sortBuffer_5 : decode cX3_sortBuffer 5 = .ok (.imul, 1) := by decide +kernel
theorem dX3_sortBuffer_6 : decode cX3_sortBuffer 6 = .ok (.istore_n 2, 1) := by decide +kernel
theorem dX3_sortBuffer_7 : decode cX3_sortBuffer 7 = .ok (.iload_n 2, 1) := by decide +kernel
theorem dX3_sortBuffer_8 : decode cX3_sortBuffer 8 = .ok (.iconst 1, 1) := by decide +kernel
theorem dX3_sortBuffer_9 : decode cX3_sortBuffer 9 = .ok (.iadd, 1) := by decide +kernel
theorem dX3_sortBuffer_10 : decode cX3_sortBuffer 10 = .ok (.istore_n 3, 1) := by decide +kernel
theorem dX3_sortBuffer_11 : decode cX3_sortBuffer 11 = .ok (.iload_n 3, 1) := by decide +kernel
theorem dX3_sortBuffer_12 : decode cX3_sortBuffer 12 = .ok (.iload_n 2, 1) := by decide +kernel
theorem dX3_sortBuffer_13 : decode cX3_sortBuffer 13 = .ok (.aload_n 0, 1) := by decide +kernel
theorem dX3_sortBuffer_14 : decode cX3_sortBuffer 14 = .ok (.getfield 25, 3) := by decide +kernel
theorem dX3_sortBuffer_17 : decode cX3_sortBuffer 17 = .ok (.iadd, 1) := by decide +kernel
theorem dX3_sortBuffer_18 : decode cX3_sortBuffer 18 = .ok (.if_icmp .ge 80, 3) := by decide +kernel
theorem dX3_sortBuffer_21 : decode cX3_sortBuffer 21 = .ok (.iload_n 3, 1) := by decide +kernel
theorem dX3_sortBuffer_22 : decode cX3_sortBuffer 22 = .ok (.aload_n 0, 1) := by decide +kernel
theorem dX3_sortBuffer_23 : decode cX3_sortBuffer 23 = .ok (.getfield 11, 3) := by decide +kernel
theorem dX3_sortBuffer_26 : decode cX3_sortBuffer 26 = .ok (.arraylength, 1) := by decide +kernel
theorem dX3_sortBuffer_27 : decode cX3_sortBuffer 27 = .ok (.if_icmp .ge 71, 3) := by decide +kernel
theorem dX3_sortBuffer_30 : decode cX3_sortBuffer 30 = .ok (.aload_n 0, 1) := by decide +kernel
theorem dX3_sortBuffer_31 : decode cX3_sortBuffer 31 = .ok (.getfield 11, 3) := by decide +kernel
theorem dX3_sortBuffer_34 : decode cX3_sortBuffer 34 = .ok (.iload_n 3, 1) := by decide +kernel
theorem dX3_sortBuffer_35 : decode cX3_sortBuffer 35 = .ok (.iaload, 1) := by decide +kernel
theorem dX3_sortBuffer_36 : decode cX3_sortBuffer 36 = .ok (.istore 4, 2) := by decide +kernel
theorem dX3_sortBuffer_38 : decode cX3_sortBuffer 38 = .ok (.iload_n 3, 1) := by decide +kernel
theorem dX3_sortBuffer_39 : decode cX3_sortBuffer 39 = .ok (.istore 5, 2) := by decide +kernel
theorem dX3_sortBuffer_41 : decode cX3_sortBuffer 41 = .ok (.iload 5, 2) := by decide +kernel
theorem dX3_sortBuffer_43 : decode cX3_sortBuffer 43 = .ok (.iload_n 2, 1) := by decide +kernel
theorem dX3_sortBuffer_44 : decode cX3_sortBuffer 44 = .ok (.if_icmp .le 39, 3) := by decide +kernel
theorem dX3_sortBuffer_47 : decode cX3_sortBuffer 47 = .ok (.aload_n 0, 1) := by decide +kernel
theorem dX3_sortBuffer_48 : decode cX3_sortBuffer 48 = .ok (.getfield 11, 3) := by decide +kernel
theorem dX3_sortBuffer_51 : decode cX3_sortBuffer 51 = .ok (.iload 5, 2) := by decide +kernel
theorem dX3_sortBuffer_53 : decode cX3_sortBuffer 53 = .ok (.iconst 1, 1) := by decide +kernel
theorem dX3_sortBuffer_54 : decode cX3_sortBuffer 54 = .ok (.isub, 1) := by decide +kernel
theorem dX3_sortBuffer_55 : decode cX3_sortBuffer 55 = .ok (.iaload, 1) := by decide +kernel
theorem dX3_sortBuffer_56 : decode cX3_sortBuffer 56 = .ok (.iload 4, 2) := by decide +kernel
theorem dX3_sortBuffer_58 : decode cX3_sortBuffer 58 = .ok (.if_icmp .le 25, 3) := by decide +kernel
theorem dX3_sortBuffer_61 : decode cX3_sortBuffer 61 = .ok (.aload_n 0, 1) := by decide +kernel
theorem dX3_sortBuffer_62 : decode cX3_sortBuffer 62 = .ok (.getfield 11, 3) := by decide +kernel
theorem dX3_sortBuffer_65 : decode cX3_sortBuffer 65 = .ok (.iload 5, 2) := by decide +kernel
theorem dX3_sortBuffer_67 : decode cX3_sortBuffer 67 = .ok (.aload_n 0, 1) := by decide +kernel
theorem dX3_sortBuffer_68 : decode cX3_sortBuffer 68 = .ok (.getfield 11, 3) := by decide +kernel
theorem dX3_sortBuffer_71 : decode cX3_sortBuffer 71 = .ok (.iload 5, 2) := by decide +kernel
theorem dX3_sortBuffer_73 : decode cX3_sortBuffer 73 = .ok (.iconst 1, 1) := by decide +kernel
theorem dX3_sortBuffer_74 : decode cX3_sortBuffer 74 = .ok (.isub, 1) := by decide +kernel
theorem dX3_sortBuffer_75 : decode cX3_sortBuffer 75 = .ok (.iaload, 1) := by decide +kernel
theorem dX3_sortBuffer_76 : decode cX3_sortBuffer 76 = .ok (.iastore, 1) := by decide +kernel
theorem dX3_sortBuffer_77 : decode cX3_sortBuffer 77 = .ok (.iinc 5 (-1), 3) := by decide +kernel
theorem dX3_sortBuffer_80 : decode cX3_sortBuffer 80 = .ok (.goto (-39), 3) := by decide +kernel
theorem dX3_sortBuffer_83 : decode cX3_sortBuffer 83 = .ok (.aload_n 0, 1) := by decide +kernel
theorem dX3_sortBuffer_84 : decode cX3_sortBuffer 84 = .ok (.getfield 11, 3) := by decide +kernel
theorem dX3_sortBuffer_87 : decode cX3_sortBuffer 87 = .ok (.iload 5, 2) := by decide +kernel
theorem dX3_sortBuffer_89 : decode cX3_sortBuffer 89 = .ok (.iload 4, 2) := by decide +kernel
theorem dX3_sortBuffer_91 : decode cX3_sortBuffer 91 = .ok (.iastore, 1) := by decide +kernel
theorem dX3_sortBuffer_92 : decode cX3_sortBuffer 92 = .ok (.iinc 3 1, 3) := by decide +kernel
theorem dX3_sortBuffer_95 : decode cX3_sortBuffer 95 = .ok (.goto (-84), 3) := by decide +kernel
theorem dX3_sortBuffer_98 : decode cX3_sortBuffer 98 = .ok (.return_, 1) := by decide +kernel
theorem dX4_init_0 : decode cX4_init 0 = .ok (.aload_n 0, 1) := by decide +kernel
theorem dX4_init_1 : decode cX4_init 1 = .ok (.invokespecial 3, 3) := by decide +kernel
theorem dX4_init_4 : decode cX4_init 4 = .ok (.aload_n 0, 1) := by decide +kernel
theorem dX4_init_5 : decode cX4_init 5 = .ok (.iload_n 1, 1) := by decide +kernel
theorem dX4_init_6 : decode cX4_init 6 = .ok (.putfield 9, 3) := by decide +kernel
theorem dX4_init_9 : decode cX4_init 9 = .ok (.aload_n 0, 1) := by decide +kernel
theorem dX4_init_10 : decode cX4_init 10 = .ok (.iload_n 2, 1) := by decide +kernel
theorem dX4_init_11 : decode cX4_init 11 = .ok (.putfield 15, 3) := by decide +kernel
theorem dX4_init_14 : decode cX4_init 14 = .ok (.aload_n 0, 1) := by decide +kernel
theorem dX4_init_15 : decode cX4_init 15 = .ok (.iload_n 3, 1) := by decide +kernel
theorem dX4_init_16 : decode cX4_init 16 = .ok (.putfield 18, 3) := by decide +kernel
theorem dX4_init_19 : decode cX4_init 19 = .ok (.aload_n 0, 1) := by decide +kernel
theorem dX4_init_20 : decode cX4_init 20 = .ok (.iconst 0, 1) := by decide +kernel
theorem dX4_init_21 : decode cX4_init 21 = .ok (.putfield 21, 3) := by decide +kernel
theorem dX4_init_24 : decode cX4_init 24 = .ok (.aload_n 0, 1) := by decide +kernel
theorem dX4_init_25 : decode cX4_init 25 = .ok (.iconst 0, 1) := by decide +kernel
theorem dX4_init_26 : decode cX4_init 26 = .ok (.putfield 24, 3) := by decide +kernel
theorem dX4_init_29 : decode cX4_init 29 = .ok (.return_, 1) := by decide +kernel
theorem dX4_mayTake_0 : decode cX4_mayTake 0 = .ok (.iload_n 1, 1) := by decide +kernel
theorem dX4_mayTake_1 : decode cX4_mayTake 1 = .ok (.iconst 1, 1) := by decide +kernel
theorem dX4_mayTake_2 : decode cX4_mayTake 2 = .ok (.if_icmp .lt 14, 3) := by decide +kernel
theorem dX4_mayTake_5 : decode cX4_mayTake 5 = .ok (.iload_n 1, 1) := by decide +kernel
theorem dX4_mayTake_6 : decode cX4_mayTake 6 = .ok (.sipush 1000, 3) := by decide +kernel
theorem dX4_mayTake_9 : decode cX4_mayTake 9 = .ok (.if_icmp .gt 7, 3) := by decide +kernel
theorem dX4_mayTake_12 : decode cX4_mayTake 12 = .ok (.iconst 1, 1) := by decide +kernel
theorem dX4_mayTake_13 : decode cX4_mayTake 13 = .ok (.goto 4, 3) := by decide +kernel
theorem dX4_mayTake_16 : decode cX4_mayTake 16 = .ok (.iconst 0, 1) := by decide +kernel
theorem dX4_mayTake_17 : decode cX4_mayTake 17 = .ok (.ireturn, 1) := by decide +kernel
theorem dX4_mayLack_0 : decode cX4_mayLack 0 = .ok (.iconst 0, 1) := by decide +kernel
theorem dX4_mayLack_1 : decode cX4_mayLack 1 = .ok (.ireturn, 1) := by decide +kernel
theorem dX4_atLeast_0 : decode cX4_atLeast 0 = .ok (.iconst (-1), 1) := by decide +kernel
theorem dX4_atLeast_1 : decode cX4_atLeast 1 = .ok (.ireturn, 1) := by decide +kernel
theorem dX4_atMost_0 : decode cX4_atMost 0 = .ok (.iconst (-1), 1) := by decide +kernel
theorem dX4_atMost_1 : decode cX4_atMost 1 = .ok (.ireturn, 1) := by decide +kernel
theorem dX4_holds_0 : decode cX4_holds 0 = .ok (.iconst (-1), 1) := by decide +kernel
theorem dX4_holds_1 : decode cX4_holds 1 = .ok (.ireturn, 1) := by decide +kernel
theorem dX4_differentKeys_0 : decode cX4_differentKeys 0 = .ok (.iconst (-1), 1) := by decide +kernel
theorem dX4_differentKeys_1 : decode cX4_differentKeys 1 = .ok (.ireturn, 1) := by decide +kernel
theorem dX4_keyAtRank_0 : decode cX4_keyAtRank 0 = .ok (.iconst (-1), 1) := by decide +kernel
theorem dX4_keyAtRank_1 : decode cX4_keyAtRank 1 = .ok (.ireturn, 1) := by decide +kernel
theorem dX4_isLike_0 : decode cX4_isLike 0 = .ok (.aload_n 1, 1) := by decide +kernel
theorem dX4_isLike_1 : decode cX4_isLike 1 = .ok (.ifnull 40, 3) := by decide +kernel
theorem dX4_isLike_4 : decode cX4_isLike 4 = .ok (.aload_n 0, 1) := by decide +kernel
theorem dX4_isLike_5 : decode cX4_isLike 5 = .ok (.getfield 9, 3) := by decide +kernel
theorem dX4_isLike_8 : decode cX4_isLike 8 = .ok (.aload_n 1, 1) := by decide +kernel
theorem dX4_isLike_9 : decode cX4_isLike 9 = .ok (.getfield 9, 3) := by decide +kernel
theorem dX4_isLike_12 : decode cX4_isLike 12 = .ok (.if_icmp .ne 29, 3) := by decide +kernel
theorem dX4_isLike_15 : decode cX4_isLike 15 = .ok (.aload_n 0, 1) := by decide +kernel
theorem dX4_isLike_16 : decode cX4_isLike 16 = .ok (.getfield 15, 3) := by decide +kernel
theorem dX4_isLike_19 : decode cX4_isLike 19 = .ok (.aload_n 1, 1) := by decide +kernel
theorem dX4_isLike_20 : decode cX4_isLike 20 = .ok (.getfield 15, 3) := by decide +kernel
theorem dX4_isLike_23 : decode cX4_isLike 23 = .ok (.if_icmp .ne 18, 3) := by decide +kernel
theorem dX4_isLike_26 : decode cX4_isLike 26 = .ok (.aload_n 0, 1) := by decide +kernel
theorem dX4_isLike_27 : decode cX4_isLike 27 = .ok (.getfield 18, 3) := by decide +kernel
theorem dX4_isLike_30 : decode cX4_isLike 30 = .ok (.aload_n 1, 1) := by decide +kernel
theorem dX4_isLike_31 : decode cX4_isLike 31 = .ok (.getfield 18, 3) := by decide +kernel
theorem dX4_isLike_34 : decode cX4_isLike 34 = .ok (.if_icmp .ne 7, 3) := by decide +kernel
theorem dX4_isLike_37 : decode cX4_isLike 37 = .ok (.iconst 1, 1) := by decide +kernel
theorem dX4_isLike_38 : decode cX4_isLike 38 = .ok (.goto 4, 3) := by decide +kernel
theorem dX4_isLike_41 : decode cX4_isLike 41 = .ok (.iconst 0, 1) := by decide +kernel
theorem dX4_isLike_42 : decode cX4_isLike 42 = .ok (.ireturn, 1) := by decide +kernel
theorem dX4_copyTotals_0 : decode cX4_copyTotals 0 = .ok (.aload_n 0, 1) := by decide +kernel
theorem dX4_copyTotals_1 : decode cX4_copyTotals 1 = .ok (.aload_n 1, 1) := by decide +kernel
theorem dX4_copyTotals_2 : decode cX4_copyTotals 2 = .ok (.getfield 21, 3) := by decide +kernel
theorem dX4_copyTotals_5 : decode cX4_copyTotals 5 = .ok (.putfield 21, 3) := by decide +kernel
theorem dX4_copyTotals_8 : decode cX4_copyTotals 8 = .ok (.aload_n 0, 1) := by decide +kernel
theorem dX4_copyTotals_9 : decode cX4_copyTotals 9 = .ok (.aload_n 1, 1) := by decide +kernel
theorem dX4_copyTotals_10 : decode cX4_copyTotals 10 = .ok (.getfield 24, 3) := by decide +kernel
theorem dX4_copyTotals_13 : decode cX4_copyTotals 13 = .ok (.putfield 24, 3) := by decide +kernel
theorem dX4_copyTotals_16 : decode cX4_copyTotals 16 = .ok (.return_, 1) := by decide +kernel
theorem dX5_init_0 : decode cX5_init 0 = .ok (.aload_n 0, 1) := by decide +kernel
theorem dX5_init_1 : decode cX5_init 1 = .ok (.iconst 1, 1) := by decide +kernel
theorem dX5_init_2 : decode cX5_init 2 = .ok (.iload_n 1, 1) := by decide +kernel
theorem dX5_init_3 : decode cX5_init 3 = .ok (.iload_n 2, 1) := by decide +kernel
theorem dX5_init_4 : decode cX5_init 4 = .ok (.invokespecial 3, 3) := by decide +kernel
theorem dX5_init_7 : decode cX5_init 7 = .ok (.aload_n 0, 1) := by decide +kernel
theorem dX5_init_8 : decode cX5_init 8 = .ok (.iconst 4, 1) := by decide +kernel
theorem dX5_init_9 : decode cX5_init 9 = .ok (.iload_n 1, 1) := by decide +kernel
theorem dX5_init_10 : decode cX5_init 10 = .ok (.imul, 1) := by decide +kernel
theorem dX5_init_11 : decode cX5_init 11 = .ok (.newarray .int, 2) := by decide +kernel
theorem dX5_init_13 : decode cX5_init 13 = .ok (.putfield 9, 3) := by decide +kernel
theorem dX5_init_16 : decode cX5_init 16 = .ok (.return_, 1) := by decide +kernel
theorem dX5_twin_0 : decode cX5_twin 0 = .ok (.new 10, 3) := by decide +kernel
theorem dX5_twin_3 : decode cX5_twin 3 = .ok (.dup, 1) := by decide +kernel
theorem dX5_twin_4 : decode cX5_twin 4 = .ok (.aload_n 0, 1) := by decide +kernel
theorem dX5_twin_5 : decode cX5_twin 5 = .ok (.getfield 15, 3) := by decide +kernel
theorem dX5_twin_8 : decode cX5_twin 8 = .ok (.aload_n 0, 1) := by decide +kernel
theorem dX5_twin_9 : decode cX5_twin 9 = .ok (.getfield 19, 3) := by decide +kernel
theorem dX5_twin_12 : decode cX5_twin 12 = .ok (.invokespecial 22, 3) := by decide +kernel
theorem dX5_twin_15 : decode cX5_twin 15 = .ok (.astore_n 1, 1) := by decide +kernel
theorem dX5_twin_16 : decode cX5_twin 16 = .ok (.aload_n 1, 1) := by decide +kernel
theorem dX5_twin_17 : decode cX5_twin 17 = .ok (.aload_n 0, 1) := by decide +kernel
theorem dX5_twin_18 : decode cX5_twin 18 = .ok (.invokevirtual 25, 3) := by decide +kernel
theorem dX5_twin_21 : decode cX5_twin 21 = .ok (.aload_n 0, 1) := by decide +kernel
theorem dX5_twin_22 : decode cX5_twin 22 = .ok (.getfield 9, 3) := by decide +kernel
theorem dX5_twin_25 : decode cX5_twin 25 = .ok (.aload_n 1, 1) := by decide +kernel
theorem dX5_twin_26 : decode cX5_twin 26 = .ok (.getfield 9, 3) := by decide +kernel
theorem dX5_twin_29 : decode cX5_twin 29 = .ok (.invokestatic 29, 3) := by decide +kernel
theorem dX5_twin_32 : decode cX5_twin 32 = .ok (.aload_n 1, 1) := by decide +kernel
theorem dX5_twin_33 : decode cX5_twin 33 = .ok (.areturn, 1) := by decide +kernel
theorem dX5_forget_0 : decode cX5_forget 0 = .ok (.aload_n 0, 1) := by decide +kernel
theorem dX5_forget_1 : decode cX5_forget 1 = .ok (.getfield 9, 3) := by decide +kernel
theorem dX5_forget_4 : decode cX5_forget 4 = .ok (.invokestatic 33, 3) := by decide +kernel
theorem dX5_forget_7 : decode cX5_forget 7 = .ok (.return_, 1) := by decide +kernel
theorem dX5_mayTake_0 : decode cX5_mayTake 0 = .ok (.iload_n 1, 1) := by decide +kernel
theorem dX5_mayTake_1 : decode cX5_mayTake 1 = .ok (.sipush (-1000), 3) := by decide +kernel
theorem dX5_mayTake_4 : decode cX5_mayTake 4 = .ok (.if_icmp .lt 18, 3) := by decide +kernel
theorem dX5_mayTake_7 : decode cX5_mayTake 7 = .ok (.iload_n 1, 1) := by decide +kernel
theorem dX5_mayTake_8 : decode cX5_mayTake 8 = .ok (.sipush 1000, 3) := by decide +kernel
theorem dX5_mayTake_11 : decode cX5_mayTake 11 = .ok (.if_icmp .gt 11, 3) := by decide +kernel
theorem dX5_mayTake_14 : decode cX5_mayTake 14 = .ok (.iload_n 1, 1) := by decide +kernel
theorem dX5_mayTake_15 : decode cX5_mayTake 15 = .ok (.ifCond .eq 7, 3) := by decide +kernel
theorem dX5_mayTake_18 : decode cX5_mayTake 18 = .ok (.iconst 1, 1) := by decide +kernel
theorem dX5_mayTake_19 : decode cX5_mayTake 19 = .ok (.goto 4, 3) := by decide +kernel
theorem dX5_mayTake_22 : decode cX5_mayTake 22 = .ok (.iconst 0, 1) := by decide +kernel
theorem dX5_mayTake_23 : decode cX5_mayTake 23 = .ok (.ireturn, 1) := by decide +kernel
theorem dX5_take_0 : decode cX5_take 0 = .ok (.iconst 0, 1) := by decide +kernel
theorem dX5_take_1 : decode cX5_take 1 = .ok (.istore_n 3, 1) := by decide +kernel
theorem dX5_take_2 : decode cX5_take 2 = .ok (.iload_n 3, 1) := by decide +kernel
theorem dX5_take_3 : decode cX5_take 3 = .ok (.iconst 4, 1) := by decide +kernel
theorem dX5_take_4 : decode cX5_take 4 = .ok (.if_icmp .ge 38, 3) := by decide +kernel
theorem dX5_take_7 : decode cX5_take 7 = .ok (.aload_n 0, 1) := by decide +kernel
theorem dX5_take_8 : decode cX5_take 8 = .ok (.iload_n 3, 1) := by decide +kernel
theorem dX5_take_9 : decode cX5_take 9 = .ok (.iload_n 1, 1) := by decide +kernel
theorem dX5_take_10 : decode cX5_take 10 = .ok (.invokevirtual 37, 3) := by decide +kernel
theorem dX5_take_13 : decode cX5_take 13 = .ok (.istore 4, 2) := by decide +kernel
theorem dX5_take_15 : decode cX5_take 15 = .ok (.iload 4, 2) := by decide +kernel
theorem dX5_take_17 : decode cX5_take 17 = .ok (.aload_n 0, 1) := by decide +kernel
theorem dX5_take_18 : decode cX5_take 18 = .ok (.getfield 9, 3) := by decide +kernel
theorem dX5_take_21 : decode cX5_take 21 = .ok (.arraylength, 1) := by decide +kernel
theorem dX5_take_22 : decode cX5_take 22 = .ok (.if_icmp .ge 14, 3) := by decide +kernel
theorem dX5_take_25 : decode cX5_take 25 = .ok (.aload_n 0, 1) := by decide +kernel
theorem dX5_take_26 : decode cX5_take 26 = .ok (.getfield 9, 3) := by decide +kernel
theorem dX5_take_29 : decode cX5_take 29 = .ok (.iload 4, 2) := by decide +kernel
theorem dX5_take_31 : decode cX5_take 31 = .ok (.dup2, 1) := by decide +kernel
theorem dX5_take_32 : decode cX5_take 32 = .ok (.iaload, 1) := by decide +kernel
theorem dX5_take_33 : decode cX5_take 33 = .ok (.iload_n 2, 1) := by decide +kernel
theorem dX5_take_34 : decode cX5_take 34 = .ok (.iadd, 1) := by decide +kernel
theorem dX5_take_35 : decode cX5_take 35 = .ok (.iastore, 1) := by decide +kernel
theorem dX5_take_36 : decode cX5_take 36 = .ok (.iinc 3 1, 3) := by decide +kernel
theorem dX5_take_39 : decode cX5_take 39 = .ok (.goto (-37), 3) := by decide +kernel
theorem dX5_take_42 : decode cX5_take 42 = .ok (.return_, 1) := by decide +kernel
theorem dX5_join_0 : decode cX5_join 0 = .ok (.aload_n 1, 1) := by decide +kernel
theorem dX5_join_1 : decode cX5_join 1 = .ok (.instanceof 10, 3) := by decide +kernel
theorem dX5_join_4 : decode cX5_join 4 = .ok (.ifCond .eq 49, 3) := by decide +kernel
theorem dX5_join_7 : decode cX5_join 7 = .ok (.aload_n 1, 1) := by decide +kernel
theorem dX5_join_8 : decode cX5_join 8 = .ok (.checkcast 10, 3) := by decide +kernel
theorem dX5_join_11 : decode cX5_join 11 = .ok (.astore_n 2, 1) := by decide +kernel
theorem dX5_join_12 : decode cX5_join 12 = .ok (.iconst 0, 1) := by decide +kernel
theorem dX5_join_13 : decode cX5_join 13 = .ok (.istore_n 3, 1) := by decide +kernel
theorem dX5_join_14 : decode cX5_join 14 = .ok (.iload_n 3, 1) := by decide +kernel
theorem dX5_join_15 : decode cX5_join 15 = .ok (.aload_n 0, 1) := by decide +kernel
theorem dX5_join_16 : decode cX5_join 16 = .ok (.getfield 9, 3) := by decide +kernel
theorem dX5_join_19 : decode cX5_join 19 = .ok (.arraylength, 1) := by decide +kernel
theorem dX5_join_20 : decode cX5_join 20 = .ok (.if_icmp .ge 33, 3) := by decide +kernel
theorem dX5_join_23 : decode cX5_join 23 = .ok (.iload_n 3, 1) := by decide +kernel
theorem dX5_join_24 : decode cX5_join 24 = .ok (.aload_n 2, 1) := by decide +kernel
theorem dX5_join_25 : decode cX5_join 25 = .ok (.getfield 9, 3) := by decide +kernel
theorem dX5_join_28 : decode cX5_join 28 = .ok (.arraylength, 1) := by decide +kernel
theorem dX5_join_29 : decode cX5_join 29 = .ok (.if_icmp .ge 24, 3) := by decide +kernel
theorem dX5_join_32 : decode cX5_join 32 = .ok (.aload_n 0, 1) := by decide +kernel
theorem dX5_join_33 : decode cX5_join 33 = .ok (.getfield 9, 3) := by decide +kernel
theorem dX5_join_36 : decode cX5_join 36 = .ok (.iload_n 3, 1) := by decide +kernel
theorem dX5_join_37 : decode cX5_join 37 = .ok (.dup2, 1) := by decide +kernel
theorem dX5_join_38 : decode cX5_join 38 = .ok (.iaload, 1) := by decide +kernel
theorem dX5_join_39 : decode cX5_join 39 = .ok (.aload_n 2, 1) := by decide +kernel
theorem dX5_join_40 : decode cX5_join 40 = .ok (.getfield 9, 3) := by decide +kernel
theorem dX5_join_43 : decode cX5_join 43 = .ok (.iload_n 3, 1) := by decide +kernel
theorem dX5_join_44 : decode cX5_join 44 = .ok (.iaload, 1) := by decide +kernel
theorem dX5_join_45 : decode cX5_join 45 = .ok (.iadd, 1) := by decide +kernel
theorem dX5_join_46 : decode cX5_join 46 = .ok (.iastore, 1) := by decide +kernel
theorem dX5_join_47 : decode cX5_join 47 = .ok (.iinc 3 1, 3) := by decide +kernel
theorem dX5_join_50 : decode cX5_join 50 = .ok (.goto (-36), 3) := by decide +kernel
theorem dX5_join_53 : decode cX5_join 53 = .ok (.return_, 1) := by decide +kernel
theorem dX5_howManyKept_0 : decode cX5_howManyKept 0 = .ok (.aload_n 0, 1) := by decide +kernel
theorem dX5_howManyKept_1 : decode cX5_howManyKept 1 = .ok (.getfield 9, 3) := by decide +kernel
theorem dX5_howManyKept_4 : decode cX5_howManyKept 4 = .ok (.invokestatic 41, 3) := by decide +kernel
theorem dX5_howManyKept_7 : decode cX5_howManyKept 7 = .ok (.ireturn, 1) := by decide +kernel
theorem dX5_keptAt_0 : decode cX5_keptAt 0 = .ok (.iload_n 1, 1) := by decide +kernel
theorem dX5_keptAt_1 : decode cX5_keptAt 1 = .ok (.ifCond .lt 16, 3) := by decide +kernel
theorem dX5_keptAt_4 : decode cX5_keptAt 4 = .ok (.iload_n 1, 1) := by decide +kernel
theorem dX5_keptAt_5 : decode cX5_keptAt 5 = .ok (.aload_n 0, 1) := by decide +kernel
theorem dX5_keptAt_6 : decode cX5_keptAt 6 = .ok (.getfield 9, 3) := by decide +kernel
theorem dX5_keptAt_9 : decode cX5_keptAt 9 = .ok (.arraylength, 1) := by decide +kernel
theorem dX5_keptAt_10 : decode cX5_keptAt 10 = .ok (.if_icmp .ge 7, 3) := by decide +kernel
theorem dX5_keptAt_13 : decode cX5_keptAt 13 = .ok (.iload_n 2, 1) := by decide +kernel
theorem dX5_keptAt_14 : decode cX5_keptAt 14 = .ok (.ifCond .eq 7, 3) := by decide +kernel
theorem dX5_keptAt_17 : decode cX5_keptAt 17 = .ok (.iconst (-1), 1) := by decide +kernel
theorem dX5_keptAt_18 : decode cX5_keptAt 18 = .ok (.goto 12, 3) := by decide +kernel
theorem dX5_keptAt_21 : decode cX5_keptAt 21 = .ok (.aload_n 0, 1) := by decide +kernel
theorem dX5_keptAt_22 : decode cX5_keptAt 22 = .ok (.getfield 9, 3) := by decide +kernel
theorem dX5_keptAt_25 : decode cX5_keptAt 25 = .ok (.iload_n 1, 1) := by decide +kernel
theorem dX5_keptAt_26 : decode cX5_keptAt 26 = .ok (.iaload, 1) := by decide +kernel
theorem dX5_keptAt_27 : decode cX5_keptAt 27 = .ok (.ldc 45, 2) := by decide +kernel
theorem dX5_keptAt_29 : decode cX5_keptAt 29 = .ok (.iadd, 1) := by decide +kernel
theorem dX5_keptAt_30 : decode cX5_keptAt 30 = .ok (.ireturn, 1) := by decide +kernel
theorem dX5_atMost_0 : decode cX5_atMost 0 = .ok (.ldc 45, 2) := by decide +kernel
theorem dX5_atMost_2 : decode cX5_atMost 2 = .ok (.istore_n 2, 1) := by decide +kernel
theorem dX5_atMost_3 : decode cX5_atMost 3 = .ok (.iconst 0, 1) := by decide +kernel
theorem dX5_atMost_4 : decode cX5_atMost 4 = .ok (.istore_n 3, 1) := by decide +kernel
theorem dX5_atMost_5 : decode cX5_atMost 5 = .ok (.iload_n 3, 1) := by decide +kernel
theorem dX5_atMost_6 : decode cX5_atMost 6 = .ok (.iconst 4, 1) := by decide +kernel
theorem dX5_atMost_7 : decode cX5_atMost 7 = .ok (.if_icmp .ge 39, 3) := by decide +kernel
theorem dX5_atMost_10 : decode cX5_atMost 10 = .ok (.aload_n 0, 1) := by decide +kernel
theorem dX5_atMost_11 : decode cX5_atMost 11 = .ok (.iload_n 3, 1) := by decide +kernel
theorem dX5_atMost_12 : decode cX5_atMost 12 = .ok (.iload_n 1, 1) := by decide +kernel
theorem dX5_atMost_13 : decode cX5_atMost 13 = .ok (.invokevirtual 37, 3) := by decide +kernel
theorem dX5_atMost_16 : decode cX5_atMost 16 = .ok (.istore 4, 2) := by decide +kernel
theorem dX5_atMost_18 : decode cX5_atMost 18 = .ok (.iload 4, 2) := by decide +kernel
theorem dX5_atMost_20 : decode cX5_atMost 20 = .ok (.aload_n 0, 1) := by decide +kernel
theorem dX5_atMost_21 : decode cX5_atMost 21 = .ok (.getfield 9, 3) := by decide +kernel
theorem dX5_atMost_24 : decode cX5_atMost 24 = .ok (.arraylength, 1) := by decide +kernel
theorem dX5_atMost_25 : decode cX5_atMost 25 = .ok (.if_icmp .ge 15, 3) := by decide +kernel
theorem dX5_atMost_28 : decode cX5_atMost 28 = .ok (.iload_n 2, 1) := by decide +kernel
theorem dX5_atMost_29 : decode cX5_atMost 29 = .ok (.aload_n 0, 1) := by decide +kernel
theorem dX5_atMost_30 : decode cX5_atMost 30 = .ok (.getfield 9, 3) := by decide +kernel
theorem dX5_atMost_33 : decode cX5_atMost 33 = .ok (.iload 4, 2) := by decide +kernel
theorem dX5_atMost_35 : decode cX5_atMost 35 = .ok (.iaload, 1) := by decide +kernel
theorem dX5_atMost_36 : decode cX5_atMost 36 = .ok (.invokestatic 46, 3) := by decide +kernel
theorem dX5_atMost_39 : decode cX5_atMost 39 = .ok (.istore_n 2, 1) := by decide +kernel
theorem dX5_atMost_40 : decode cX5_atMost 40 = .ok (.iinc 3 1, 3) := by decide +kernel
theorem dX5_atMost_43 : decode cX5_atMost 43 = .ok (.goto (-38), 3) := by decide +kernel
theorem dX5_atMost_46 : decode cX5_atMost 46 = .ok (.iload_n 2, 1) := by decide +kernel
theorem dX5_atMost_47 : decode cX5_atMost 47 = .ok (.ireturn, 1) := by decide +kernel
theorem dX5_placeIn_0 : decode cX5_placeIn 0 = .ok (.iload_n 1, 1) := by decide +kernel
theorem dX5_placeIn_1 : decode cX5_placeIn 1 = .ok (.aload_n 0, 1) := by decide +kernel
theorem dX5_placeIn_2 : decode cX5_placeIn 2 = .ok (.getfield 15, 3) := by decide +kernel
theorem dX5_placeIn_5 : decode cX5_placeIn 5 = .ok (.imul, 1) := by decide +kernel
theorem dX5_placeIn_6 : decode cX5_placeIn 6 = .ok (.aload_n 0, 1) := by decide +kernel
theorem dX5_placeIn_7 : decode cX5_placeIn 7 = .ok (.getfield 19, 3) := by decide +kernel
theorem dX5_placeIn_10 : decode cX5_placeIn 10 = .ok (.iload_n 1, 1) := by decide +kernel
theorem dX5_placeIn_11 : decode cX5_placeIn 11 = .ok (.iload_n 2, 1) := by decide +kernel
theorem dX5_placeIn_12 : decode cX5_placeIn 12 = .ok (.aload_n 0, 1) := by decide +kernel
theorem dX5_placeIn_13 : decode cX5_placeIn 13 = .ok (.getfield 15, 3) := by decide +kernel
theorem dX5_placeIn_16 : decode cX5_placeIn 16 = .ok (.invokestatic 51, 3) := by decide +kernel
theorem dX5_placeIn_19 : decode cX5_placeIn 19 = .ok (.iadd, 1) := by decide +kernel
theorem dX5_placeIn_20 : decode cX5_placeIn 20 = .ok (.ireturn, 1) := by decide +kernel
theorem dX6_init_0 : decode cX6_init 0 = .ok (.aload_n 0, 1) := by decide +kernel
theorem dX6_init_1 : decode cX6_init 1 = .ok (.invokespecial 1, 3) := by decide +kernel
theorem dX6_init_4 : decode cX6_init 4 = .ok (.aload_n 0, 1) := by decide +kernel
theorem dX6_init_5 : decode cX6_init 5 = .ok (.bipush 8, 2) := by decide +kernel
theorem dX6_init_7 : decode cX6_init 7 = .ok (.anewarray 9, 3) := by decide +kernel
theorem dX6_init_10 : decode cX6_init 10 = .ok (.putfield 11, 3) := by decide +kernel
theorem dX6_init_13 : decode cX6_init 13 = .ok (.aload_n 0, 1) := by decide +kernel
theorem dX6_init_14 : decode cX6_init 14 = .ok (.iconst 0, 1) := by decide +kernel
theorem dX6_init_15 : decode cX6_init 15 = .ok (.putfield 15, 3) := by decide +kernel
theorem dX6_init_18 : decode cX6_init 18 = .ok (.return_, 1) := by decide +kernel
theorem dX6_sketch_0 : decode cX6_sketch 0 = .ok (.iload_n 1, 1) := by decide +kernel
theorem dX6_sketch_1 : decode cX6_sketch 1 = .ok (.invokestatic 19, 3) := by decide +kernel
theorem dX6_sketch_4 : decode cX6_sketch 4 = .ok (.ifCond .eq 18, 3) := by decide +kernel
theorem dX6_sketch_7 : decode cX6_sketch 7 = .ok (.iload_n 1, 1) := by decide +kernel
theorem dX6_sketch_8 : decode cX6_sketch 8 = .ok (.iload_n 2, 1) := by decide +kernel
theorem dX6_sketch_9 : decode cX6_sketch 9 = .ok (.invokestatic 23, 3) := by decide +kernel
theorem dX6_sketch_12 : decode cX6_sketch 12 = .ok (.ifCond .eq 10, 3) := by decide +kernel
theorem dX6_sketch_15 : decode cX6_sketch 15 = .ok (.iload_n 3, 1) := by decide +kernel
theorem dX6_sketch_16 : decode cX6_sketch 16 = .ok (.invokestatic 27, 3) := by decide +kernel
theorem dX6_sketch_19 : decode cX6_sketch 19 = .ok (.ifCond .ne 5, 3) := by decide +kernel
theorem dX6_sketch_22 : decode cX6_sketch 22 = .ok (.iconst (-1), 1) := by decide +kernel
theorem dX6_sketch_23 : decode cX6_sketch 23 = .ok (.ireturn, 1) := by decide +kernel
theorem dX6_sketch_24 : decode cX6_sketch 24 = .ok (.aload_n 0, 1) := by decide +kernel
theorem dX6_sketch_25 : decode cX6_sketch 25 = .ok (.getfield 15, 3) := by decide +kernel
theorem dX6_sketch_28 : decode cX6_sketch 28 = .ok (.bipush 8, 2) := by decide +kernel
theorem dX6_sketch_30 : decode cX6_sketch 30 = .ok (.if_icmp .lt 6, 3) := by decide +kernel
theorem dX6_sketch_33 : decode cX6_sketch 33 = .ok (.bipush (-3), 2) := by decide +kernel
theorem dX6_sketch_35 : decode cX6_sketch 35 = .ok (.ireturn, 1) := by decide +kernel
theorem dX6_sketch_36 : decode cX6_sketch 36 = .ok (.aload_n 0, 1) := by decide +kernel
theorem dX6_sketch_37 : decode cX6_sketch 37 = .ok (.iload_n 1, 1) := by decide +kernel
theorem dX6_sketch_38 : decode cX6_sketch 38 = .ok (.iload_n 2, 1) := by decide +kernel
theorem dX6_sketch_39 : decode cX6_sketch 39 = .ok (.iload_n 3, 1) := by decide +kernel
theorem dX6_sketch_40 : decode cX6_sketch 40 = .ok (.invokestatic 30, 3) := by decide +kernel
theorem dX6_sketch_43 : decode cX6_sketch 43 = .ok (.invokevirtual 34, 3) := by decide +kernel
theorem dX6_sketch_46 : decode cX6_sketch 46 = .ok (.ireturn, 1) := by decide +kernel
theorem dX6_copy_0 : decode cX6_copy 0 = .ok (.aload_n 0, 1) := by decide +kernel
theorem dX6_copy_1 : decode cX6_copy 1 = .ok (.iload_n 1, 1) := by decide +kernel
theorem dX6_copy_2 : decode cX6_copy 2 = .ok (.invokevirtual 38, 3) := by decide +kernel
theorem dX6_copy_5 : decode cX6_copy 5 = .ok (.astore_n 2, 1) := by decide +kernel
theorem dX6_copy_6 : decode cX6_copy 6 = .ok (.aload_n 2, 1) := by decide +kernel
theorem dX6_copy_7 : decode cX6_copy 7 = .ok (.ifnonnull 5, 3) := by decide +kernel
theorem dX6_copy_10 : decode cX6_copy 10 = .ok (.iconst (-1), 1) := by decide +kernel
theorem dX6_copy_11 : decode cX6_copy 11 = .ok (.ireturn, 1) := by decide +kernel
theorem dX6_copy_12 : decode cX6_copy 12 = .ok (.aload_n 0, 1) := by decide +kernel
theorem dX6_copy_13 : decode cX6_copy 13 = .ok (.getfield 15, 3) := by decide +kernel
theorem dX6_copy_16 : decode cX6_copy 16 = .ok (.bipush 8, 2) := by decide +kernel
theorem dX6_copy_18 : decode cX6_copy 18 = .ok (.if_icmp .lt 6, 3) := by decide +kernel
theorem dX6_copy_21 : decode cX6_copy 21 = .ok (.bipush (-3), 2) := by decide +kernel
theorem dX6_copy_23 : decode cX6_copy 23 = .ok (.ireturn, 1) := by decide +kernel
theorem dX6_copy_24 : decode cX6_copy 24 = .ok (.aload_n 0, 1) := by decide +kernel
theorem dX6_copy_25 : decode cX6_copy 25 = .ok (.aload_n 2, 1) := by decide +kernel
theorem dX6_copy_26 : decode cX6_copy 26 = .ok (.invokevirtual 42, 3) := by decide +kernel
theorem dX6_copy_29 : decode cX6_copy 29 = .ok (.invokevirtual 34, 3) := by decide +kernel
theorem dX6_copy_32 : decode cX6_copy 32 = .ok (.ireturn, 1) := by decide +kernel
theorem dX6_clear_0 : decode cX6_clear 0 = .ok (.aload_n 0, 1) := by decide +kernel
theorem dX6_clear_1 : decode cX6_clear 1 = .ok (.iload_n 1, 1) := by decide +kernel
theorem dX6_clear_2 : decode cX6_clear 2 = .ok (.invokevirtual 38, 3) := by decide +kernel
theorem dX6_clear_5 : decode cX6_clear 5 = .ok (.astore_n 2, 1) := by decide +kernel
theorem dX6_clear_6 : decode cX6_clear 6 = .ok (.aload_n 2, 1) := by decide +kernel
theorem dX6_clear_7 : decode cX6_clear 7 = .ok (.ifnonnull 5, 3) := by decide +kernel
theorem dX6_clear_10 : decode cX6_clear 10 = .ok (.iconst (-1), 1) := by decide +kernel
theorem dX6_clear_11 : decode cX6_clear 11 = .ok (.ireturn, 1) := by decide +kernel
theorem dX6_clear_12 : decode cX6_clear 12 = .ok (.aload_n 2, 1) := by decide +kernel
theorem dX6_clear_13 : decode cX6_clear 13 = .ok (.getfield 46, 3) := by decide +kernel
theorem dX6_clear_16 : decode cX6_clear 16 = .ok (.istore_n 3, 1) := by decide +kernel
theorem dX6_clear_17 : decode cX6_clear 17 = .ok (.aload_n 2, 1) := by decide +kernel
theorem dX6_clear_18 : decode cX6_clear 18 = .ok (.iconst 0, 1) := by decide +kernel
theorem dX6_clear_19 : decode cX6_clear 19 = .ok (.putfield 46, 3) := by decide +kernel
theorem dX6_clear_22 : decode cX6_clear 22 = .ok (.aload_n 2, 1) := by decide +kernel
theorem dX6_clear_23 : decode cX6_clear 23 = .ok (.iconst 0, 1) := by decide +kernel
theorem dX6_clear_24 : decode cX6_clear 24 = .ok (.putfield 49, 3) := by decide +kernel
theorem dX6_clear_27 : decode cX6_clear 27 = .ok (.aload_n 2, 1) := by decide +kernel
theorem dX6_clear_28 : decode cX6_clear 28 = .ok (.invokevirtual 52, 3) := by decide +kernel
theorem dX6_clear_31 : decode cX6_clear 31 = .ok (.iload_n 3, 1) := by decide +kernel
theorem dX6_clear_32 : decode cX6_clear 32 = .ok (.ldc 55, 2) := by decide +kernel
theorem dX6_clear_34 : decode cX6_clear 34 = .ok (.iadd, 1) := by decide +kernel
theorem dX6_clear_35 : decode cX6_clear 35 = .ok (.ireturn, 1) := by decide +kernel
theorem dX6_come_0 : decode cX6_come 0 = .ok (.aload_n 0, 1) := by decide +kernel
theorem dX6_come_1 : decode cX6_come 1 = .ok (.iload_n 1, 1) := by decide +kernel
theorem dX6_come_2 : decode cX6_come 2 = .ok (.invokevirtual 38, 3) := by decide +kernel
theorem dX6_come_5 : decode cX6_come 5 = .ok (.astore 4, 2) := by decide +kernel
theorem dX6_come_7 : decode cX6_come 7 = .ok (.aload 4, 2) := by decide +kernel
theorem dX6_come_9 : decode cX6_come 9 = .ok (.ifnull 19, 3) := by decide +kernel
theorem dX6_come_12 : decode cX6_come 12 = .ok (.iload_n 2, 1) := by decide +kernel
theorem dX6_come_13 : decode cX6_come 13 = .ok (.invokestatic 56, 3) := by decide +kernel
theorem dX6_come_16 : decode cX6_come 16 = .ok (.ifCond .eq 12, 3) := by decide +kernel
theorem dX6_come_19 : decode cX6_come 19 = .ok (.aload 4, 2) := by decide +kernel
theorem dX6_come_21 : decode cX6_come 21 = .ok (.iload_n 3, 1) := by decide +kernel
theorem dX6_come_22 : decode cX6_come 22 = .ok (.invokevirtual 59, 3) := by decide +kernel
theorem dX6_come_25 : decode cX6_come 25 = .ok (.ifCond .ne 5, 3) := by decide +kernel
theorem dX6_come_28 : decode cX6_come 28 = .ok (.iconst (-1), 1) := by decide +kernel
theorem dX6_come_29 : decode cX6_come 29 = .ok (.ireturn, 1) := by decide +kernel
theorem dX6_come_30 : decode cX6_come 30 = .ok (.aload 4, 2) := by decide +kernel
theorem dX6_come_32 : decode cX6_come 32 = .ok (.getfield 49, 3) := by decide +kernel
theorem dX6_come_35 : decode cX6_come 35 = .ok (.iload_n 3, 1) := by decide +kernel
theorem dX6_come_36 : decode cX6_come 36 = .ok (.invokestatic 62, 3) := by decide +kernel
theorem dX6_come_39 : decode cX6_come 39 = .ok (.iadd, 1) := by decide +kernel
theorem dX6_come_40 : decode cX6_come 40 = .ok (.ldc 55, 2) := by decide +kernel
theorem dX6_come_42 : decode cX6_come 42 = .ok (.if_icmp .le 6, 3) := by decide +kernel
theorem dX6_come_45 : decode cX6_come 45 = .ok (.bipush (-3), 2) := by decide +kernel
theorem dX6_come_47 : decode cX6_come 47 = .ok (.ireturn, 1) := by decide +kernel
theorem dX6_come_48 : decode cX6_come 48 = .ok (.aload 4, 2) := by decide +kernel
theorem dX6_come_50 : decode cX6_come 50 = .ok (.dup, 1) := by decide +kernel
theorem dX6_come_51 : decode cX6_come 51 = .ok (.getfield 46, 3) := by decide +kernel
theorem dX6_come_54 : decode cX6_come 54 = .ok (.iload_n 3, 1) := by decide +kernel
theorem dX6_come_55 : decode cX6_come 55 = .ok (.iadd, 1) := by decide +kernel
theorem dX6_come_56 : decode cX6_come 56 = .ok (.putfield 46, 3) := by decide +kernel
theorem dX6_come_59 : decode cX6_come 59 = .ok (.aload 4, 2) := by decide +kernel
theorem dX6_come_61 : decode cX6_come 61 = .ok (.dup, 1) := by decide +kernel
theorem dX6_come_62 : decode cX6_come 62 = .ok (.getfield 49, 3) := by decide +kernel
theorem dX6_come_65 : decode cX6_come 65 = .ok (.iload_n 3, 1) := by decide +kernel
theorem dX6_come_66 : decode cX6_come 66 = .ok (.invokestatic 62, 3) := by decide +kernel
theorem dX6_come_69 : decode cX6_come 69 = .ok (.iadd, 1) := by decide +kernel
theorem dX6_come_70 : decode cX6_come 70 = .ok (.putfield 49, 3) := by decide +kernel
theorem dX6_come_73 : decode cX6_come 73 = .ok (.aload 4, 2) := by decide +kernel
theorem dX6_come_75 : decode cX6_come 75 = .ok (.iload_n 2, 1) := by decide +kernel
theorem dX6_come_76 : decode cX6_come 76 = .ok (.iload_n 3, 1) := by decide +kernel
theorem dX6_come_77 : decode cX6_come 77 = .ok (.invokevirtual 68, 3) := by decide +kernel
theorem dX6_come_80 : decode cX6_come 80 = .ok (.aload 4, 2) := by decide +kernel
theorem dX6_come_82 : decode cX6_come 82 = .ok (.getfield 46, 3) := by decide +kernel
theorem dX6_come_85 : decode cX6_come 85 = .ok (.ldc 55, 2) := by decide +kernel
theorem dX6_come_87 : decode cX6_come 87 = .ok (.iadd, 1) := by decide +kernel
theorem dX6_come_88 : decode cX6_come 88 = .ok (.ireturn, 1) := by decide +kernel
theorem dX6_merge_0 : decode cX6_merge 0 = .ok (.aload_n 0, 1) := by decide +kernel
theorem dX6_merge_1 : decode cX6_merge 1 = .ok (.iload_n 1, 1) := by decide +kernel
theorem dX6_merge_2 : decode cX6_merge 2 = .ok (.invokevirtual 38, 3) := by decide +kernel
theorem dX6_merge_5 : decode cX6_merge 5 = .ok (.astore_n 3, 1) := by decide +kernel
theorem dX6_merge_6 : decode cX6_merge 6 = .ok (.aload_n 0, 1) := by decide +kernel
theorem dX6_merge_7 : decode cX6_merge 7 = .ok (.iload_n 2, 1) := by decide +kernel
theorem dX6_merge_8 : decode cX6_merge 8 = .ok (.invokevirtual 38, 3) := by decide +kernel
theorem dX6_merge_11 : decode cX6_merge 11 = .ok (.astore 4, 2) := by decide +kernel
theorem dX6_merge_13 : decode cX6_merge 13 = .ok (.aload_n 3, 1) := by decide +kernel
theorem dX6_merge_14 : decode cX6_merge 14 = .ok (.ifnull 22, 3) := by decide +kernel
theorem dX6_merge_17 : decode cX6_merge 17 = .ok (.aload 4, 2) := by decide +kernel
theorem dX6_merge_19 : decode cX6_merge 19 = .ok (.ifnull 17, 3) := by decide +kernel
theorem dX6_merge_22 : decode cX6_merge 22 = .ok (.iload_n 1, 1) := by decide +kernel
theorem dX6_merge_23 : decode cX6_merge 23 = .ok (.iload_n 2, 1) := by decide +kernel
theorem dX6_merge_24 : decode cX6_merge 24 = .ok (.if_icmp .eq 12, 3) := by decide +kernel
theorem dX6_merge_27 : decode cX6_merge 27 = .ok (.aload_n 3, 1) := by decide +kernel
theorem dX6_merge_28 : decode cX6_merge 28 = .ok (.aload 4, 2) := by decide +kernel
end
section
theorem dX6_merge_30 : decode cX6_merge 30 = .ok (.invokevirtual 72, 3) := by decide +kernel
theorem dX6_merge_33 : decode cX6_merge 33 = .ok (.ifCond .ne 5, 3) := by decide +kernel
theorem dX6_merge_36 : decode cX6_merge 36 = .ok (.iconst (-1), 1) := by decide +kernel
theorem dX6_merge_37 : decode cX6_merge 37 = .ok (.ireturn, 1) := by decide +kernel
theorem dX6_merge_38 : decode cX6_merge 38 = .ok (.aload_n 3, 1) := by decide +kernel
theorem dX6_merge_39 : decode cX6_merge 39 = .ok (.getfield 49, 3) := by decide +kernel
theorem dX6_merge_42 : decode cX6_merge 42 = .ok (.aload 4, 2) := by decide +kernel
theorem dX6_merge_44 : decode cX6_merge 44 = .ok (.getfield 49, 3) := by decide +kernel
theorem dX6_merge_47 : decode cX6_merge 47 = .ok (.iadd, 1) := by decide +kernel
theorem dX6_merge_48 : decode cX6_merge 48 = .ok (.ldc 55, 2) := by decide +kernel
theorem dX6_merge_50 : decode cX6_merge 50 = .ok (.if_icmp .le 6, 3) := by decide +kernel
theorem dX6_merge_53 : decode cX6_merge 53 = .ok (.bipush (-3), 2) := by decide +kernel
theorem dX6_merge_55 : decode cX6_merge 55 = .ok (.ireturn, 1) := by decide +kernel
theorem dX6_merge_56 : decode cX6_merge 56 = .ok (.aload_n 3, 1) := by decide +kernel
theorem dX6_merge_57 : decode cX6_merge 57 = .ok (.dup, 1) := by decide +kernel
theorem dX6_merge_58 : decode cX6_merge 58 = .ok (.getfield 46, 3) := by decide +kernel
theorem dX6_merge_61 : decode cX6_merge 61 = .ok (.aload 4, 2) := by decide +kernel
theorem dX6_merge_63 : decode cX6_merge 63 = .ok (.getfield 46, 3) := by decide +kernel
theorem dX6_merge_66 : decode cX6_merge 66 = .ok (.iadd, 1) := by decide +kernel
theorem dX6_merge_67 : decode cX6_merge 67 = .ok (.putfield 46, 3) := by decide +kernel
theorem dX6_merge_70 : decode cX6_merge 70 = .ok (.aload_n 3, 1) := by decide +kernel
theorem dX6_merge_71 : decode cX6_merge 71 = .ok (.dup, 1) := by decide +kernel
theorem dX6_merge_72 : decode cX6_merge 72 = .ok (.getfield 49, 3) := by decide +kernel
theorem dX6_merge_75 : decode cX6_merge 75 = .ok (.aload 4, 2) := by decide +kernel
theorem dX6_merge_77 : decode cX6_merge 77 = .ok (.getfield 49, 3) := by decide +kernel
theorem dX6_merge_80 : decode cX6_merge 80 = .ok (.iadd, 1) := by decide +kernel
theorem dX6_merge_81 : decode cX6_merge 81 = .ok (.putfield 49, 3) := by decide +kernel
theorem dX6_merge_84 : decode cX6_merge 84 = .ok (.aload_n 3, 1) := by decide +kernel
theorem dX6_merge_85 : decode cX6_merge 85 = .ok (.aload 4, 2) := by decide +kernel
theorem dX6_merge_87 : decode cX6_merge 87 = .ok (.invokevirtual 76, 3) := by decide +kernel
theorem dX6_merge_90 : decode cX6_merge 90 = .ok (.aload_n 3, 1) := by decide +kernel
theorem dX6_merge_91 : decode cX6_merge 91 = .ok (.getfield 46, 3) := by decide +kernel
theorem dX6_merge_94 : decode cX6_merge 94 = .ok (.ldc 55, 2) := by decide +kernel
theorem dX6_merge_96 : decode cX6_merge 96 = .ok (.iadd, 1) := by decide +kernel
theorem dX6_merge_97 : decode cX6_merge 97 = .ok (.ireturn, 1) := by decide +kernel
theorem dX6_hash_0 : decode cX6_hash 0 = .ok (.iload_n 1, 1) := by decide +kernel
theorem dX6_hash_1 : decode cX6_hash 1 = .ok (.invokestatic 27, 3) := by decide +kernel
theorem dX6_hash_4 : decode cX6_hash 4 = .ok (.ifCond .eq 19, 3) := by decide +kernel
theorem dX6_hash_7 : decode cX6_hash 7 = .ok (.iload_n 2, 1) := by decide +kernel
theorem dX6_hash_8 : decode cX6_hash 8 = .ok (.ifCond .lt 15, 3) := by decide +kernel
theorem dX6_hash_11 : decode cX6_hash 11 = .ok (.iload_n 2, 1) := by decide +kernel
theorem dX6_hash_12 : decode cX6_hash 12 = .ok (.iconst 4, 1) := by decide +kernel
theorem dX6_hash_13 : decode cX6_hash 13 = .ok (.if_icmp .ge 10, 3) := by decide +kernel
theorem dX6_hash_16 : decode cX6_hash 16 = .ok (.iload_n 3, 1) := by decide +kernel
theorem dX6_hash_17 : decode cX6_hash 17 = .ok (.invokestatic 56, 3) := by decide +kernel
theorem dX6_hash_20 : decode cX6_hash 20 = .ok (.ifCond .ne 5, 3) := by decide +kernel
theorem dX6_hash_23 : decode cX6_hash 23 = .ok (.iconst (-1), 1) := by decide +kernel
theorem dX6_hash_24 : decode cX6_hash 24 = .ok (.ireturn, 1) := by decide +kernel
theorem dX6_hash_25 : decode cX6_hash 25 = .ok (.iload_n 1, 1) := by decide +kernel
theorem dX6_hash_26 : decode cX6_hash 26 = .ok (.iload_n 2, 1) := by decide +kernel
theorem dX6_hash_27 : decode cX6_hash 27 = .ok (.iload_n 3, 1) := by decide +kernel
theorem dX6_hash_28 : decode cX6_hash 28 = .ok (.invokestatic 80, 3) := by decide +kernel
theorem dX6_hash_31 : decode cX6_hash 31 = .ok (.ireturn, 1) := by decide +kernel
theorem dX6_low_0 : decode cX6_low 0 = .ok (.aload_n 0, 1) := by decide +kernel
theorem dX6_low_1 : decode cX6_low 1 = .ok (.iload_n 1, 1) := by decide +kernel
theorem dX6_low_2 : decode cX6_low 2 = .ok (.invokevirtual 38, 3) := by decide +kernel
theorem dX6_low_5 : decode cX6_low 5 = .ok (.astore_n 3, 1) := by decide +kernel
theorem dX6_low_6 : decode cX6_low 6 = .ok (.aload_n 3, 1) := by decide +kernel
theorem dX6_low_7 : decode cX6_low 7 = .ok (.ifnull 10, 3) := by decide +kernel
theorem dX6_low_10 : decode cX6_low 10 = .ok (.iload_n 2, 1) := by decide +kernel
theorem dX6_low_11 : decode cX6_low 11 = .ok (.invokestatic 56, 3) := by decide +kernel
theorem dX6_low_14 : decode cX6_low 14 = .ok (.ifCond .ne 7, 3) := by decide +kernel
theorem dX6_low_17 : decode cX6_low 17 = .ok (.iconst (-1), 1) := by decide +kernel
theorem dX6_low_18 : decode cX6_low 18 = .ok (.goto 8, 3) := by decide +kernel
theorem dX6_low_21 : decode cX6_low 21 = .ok (.aload_n 3, 1) := by decide +kernel
theorem dX6_low_22 : decode cX6_low 22 = .ok (.iload_n 2, 1) := by decide +kernel
theorem dX6_low_23 : decode cX6_low 23 = .ok (.invokevirtual 84, 3) := by decide +kernel
theorem dX6_low_26 : decode cX6_low 26 = .ok (.ireturn, 1) := by decide +kernel
theorem dX6_high_0 : decode cX6_high 0 = .ok (.aload_n 0, 1) := by decide +kernel
theorem dX6_high_1 : decode cX6_high 1 = .ok (.iload_n 1, 1) := by decide +kernel
theorem dX6_high_2 : decode cX6_high 2 = .ok (.invokevirtual 38, 3) := by decide +kernel
theorem dX6_high_5 : decode cX6_high 5 = .ok (.astore_n 3, 1) := by decide +kernel
theorem dX6_high_6 : decode cX6_high 6 = .ok (.aload_n 3, 1) := by decide +kernel
theorem dX6_high_7 : decode cX6_high 7 = .ok (.ifnull 10, 3) := by decide +kernel
theorem dX6_high_10 : decode cX6_high 10 = .ok (.iload_n 2, 1) := by decide +kernel
theorem dX6_high_11 : decode cX6_high 11 = .ok (.invokestatic 56, 3) := by decide +kernel
theorem dX6_high_14 : decode cX6_high 14 = .ok (.ifCond .ne 7, 3) := by decide +kernel
theorem dX6_high_17 : decode cX6_high 17 = .ok (.iconst (-1), 1) := by decide +kernel
theorem dX6_high_18 : decode cX6_high 18 = .ok (.goto 8, 3) := by decide +kernel
theorem dX6_high_21 : decode cX6_high 21 = .ok (.aload_n 3, 1) := by decide +kernel
theorem dX6_high_22 : decode cX6_high 22 = .ok (.iload_n 2, 1) := by decide +kernel
theorem dX6_high_23 : decode cX6_high 23 = .ok (.invokevirtual 87, 3) := by decide +kernel
theorem dX6_high_26 : decode cX6_high 26 = .ok (.ireturn, 1) := by decide +kernel
theorem dX6_has_0 : decode cX6_has 0 = .ok (.aload_n 0, 1) := by decide +kernel
theorem dX6_has_1 : decode cX6_has 1 = .ok (.iload_n 1, 1) := by decide +kernel
theorem dX6_has_2 : decode cX6_has 2 = .ok (.invokevirtual 38, 3) := by decide +kernel
theorem dX6_has_5 : decode cX6_has 5 = .ok (.astore_n 3, 1) := by decide +kernel
theorem dX6_has_6 : decode cX6_has 6 = .ok (.aload_n 3, 1) := by decide +kernel
theorem dX6_has_7 : decode cX6_has 7 = .ok (.ifnull 10, 3) := by decide +kernel
theorem dX6_has_10 : decode cX6_has 10 = .ok (.iload_n 2, 1) := by decide +kernel
theorem dX6_has_11 : decode cX6_has 11 = .ok (.invokestatic 56, 3) := by decide +kernel
theorem dX6_has_14 : decode cX6_has 14 = .ok (.ifCond .ne 7, 3) := by decide +kernel
theorem dX6_has_17 : decode cX6_has 17 = .ok (.iconst (-1), 1) := by decide +kernel
theorem dX6_has_18 : decode cX6_has 18 = .ok (.goto 8, 3) := by decide +kernel
theorem dX6_has_21 : decode cX6_has 21 = .ok (.aload_n 3, 1) := by decide +kernel
theorem dX6_has_22 : decode cX6_has 22 = .ok (.iload_n 2, 1) := by decide +kernel
theorem dX6_has_23 : decode cX6_has 23 = .ok (.invokevirtual 90, 3) := by decide +kernel
theorem dX6_has_26 : decode cX6_has 26 = .ok (.ireturn, 1) := by decide +kernel
theorem dX6_distinct_0 : decode cX6_distinct 0 = .ok (.aload_n 0, 1) := by decide +kernel
theorem dX6_distinct_1 : decode cX6_distinct 1 = .ok (.iload_n 1, 1) := by decide +kernel
theorem dX6_distinct_2 : decode cX6_distinct 2 = .ok (.invokevirtual 38, 3) := by decide +kernel
theorem dX6_distinct_5 : decode cX6_distinct 5 = .ok (.astore_n 2, 1) := by decide +kernel
theorem dX6_distinct_6 : decode cX6_distinct 6 = .ok (.aload_n 2, 1) := by decide +kernel
theorem dX6_distinct_7 : decode cX6_distinct 7 = .ok (.ifnonnull 7, 3) := by decide +kernel
theorem dX6_distinct_10 : decode cX6_distinct 10 = .ok (.iconst (-1), 1) := by decide +kernel
theorem dX6_distinct_11 : decode cX6_distinct 11 = .ok (.goto 7, 3) := by decide +kernel
theorem dX6_distinct_14 : decode cX6_distinct 14 = .ok (.aload_n 2, 1) := by decide +kernel
theorem dX6_distinct_15 : decode cX6_distinct 15 = .ok (.invokevirtual 93, 3) := by decide +kernel
theorem dX6_distinct_18 : decode cX6_distinct 18 = .ok (.ireturn, 1) := by decide +kernel
theorem dX6_quantile_0 : decode cX6_quantile 0 = .ok (.aload_n 0, 1) := by decide +kernel
theorem dX6_quantile_1 : decode cX6_quantile 1 = .ok (.iload_n 1, 1) := by decide +kernel
theorem dX6_quantile_2 : decode cX6_quantile 2 = .ok (.invokevirtual 38, 3) := by decide +kernel
theorem dX6_quantile_5 : decode cX6_quantile 5 = .ok (.astore_n 3, 1) := by decide +kernel
theorem dX6_quantile_6 : decode cX6_quantile 6 = .ok (.aload_n 3, 1) := by decide +kernel
theorem dX6_quantile_7 : decode cX6_quantile 7 = .ok (.ifnonnull 7, 3) := by decide +kernel
theorem dX6_quantile_10 : decode cX6_quantile 10 = .ok (.iconst (-1), 1) := by decide +kernel
theorem dX6_quantile_11 : decode cX6_quantile 11 = .ok (.goto 8, 3) := by decide +kernel
theorem dX6_quantile_14 : decode cX6_quantile 14 = .ok (.aload_n 3, 1) := by decide +kernel
theorem dX6_quantile_15 : decode cX6_quantile 15 = .ok (.iload_n 2, 1) := by decide +kernel
theorem dX6_quantile_16 : decode cX6_quantile 16 = .ok (.invokevirtual 97, 3) := by decide +kernel
theorem dX6_quantile_19 : decode cX6_quantile 19 = .ok (.ireturn, 1) := by decide +kernel
theorem dX6_told_0 : decode cX6_told 0 = .ok (.aload_n 0, 1) := by decide +kernel
theorem dX6_told_1 : decode cX6_told 1 = .ok (.iload_n 1, 1) := by decide +kernel
theorem dX6_told_2 : decode cX6_told 2 = .ok (.invokevirtual 38, 3) := by decide +kernel
theorem dX6_told_5 : decode cX6_told 5 = .ok (.astore_n 3, 1) := by decide +kernel
theorem dX6_told_6 : decode cX6_told 6 = .ok (.aload_n 3, 1) := by decide +kernel
theorem dX6_told_7 : decode cX6_told 7 = .ok (.ifnonnull 5, 3) := by decide +kernel
theorem dX6_told_10 : decode cX6_told 10 = .ok (.iconst (-1), 1) := by decide +kernel
theorem dX6_told_11 : decode cX6_told 11 = .ok (.ireturn, 1) := by decide +kernel
theorem dX6_told_12 : decode cX6_told 12 = .ok (.iload_n 2, 1) := by decide +kernel
theorem dX6_told_13 : decode cX6_told 13 = .ok (.tableswitch 81 0 6 #[43, 48, 53, 58, 66, 71, 76], 43) := by decide +kernel
theorem dX6_told_56 : decode cX6_told 56 = .ok (.aload_n 3, 1) := by decide +kernel
theorem dX6_told_57 : decode cX6_told 57 = .ok (.getfield 100, 3) := by decide +kernel
theorem dX6_told_60 : decode cX6_told 60 = .ok (.ireturn, 1) := by decide +kernel
theorem dX6_told_61 : decode cX6_told 61 = .ok (.aload_n 3, 1) := by decide +kernel
theorem dX6_told_62 : decode cX6_told 62 = .ok (.getfield 103, 3) := by decide +kernel
theorem dX6_told_65 : decode cX6_told 65 = .ok (.ireturn, 1) := by decide +kernel
theorem dX6_told_66 : decode cX6_told 66 = .ok (.aload_n 3, 1) := by decide +kernel
theorem dX6_told_67 : decode cX6_told 67 = .ok (.getfield 106, 3) := by decide +kernel
theorem dX6_told_70 : decode cX6_told 70 = .ok (.ireturn, 1) := by decide +kernel
theorem dX6_told_71 : decode cX6_told 71 = .ok (.aload_n 3, 1) := by decide +kernel
theorem dX6_told_72 : decode cX6_told 72 = .ok (.getfield 46, 3) := by decide +kernel
theorem dX6_told_75 : decode cX6_told 75 = .ok (.ldc 55, 2) := by decide +kernel
theorem dX6_told_77 : decode cX6_told 77 = .ok (.iadd, 1) := by decide +kernel
theorem dX6_told_78 : decode cX6_told 78 = .ok (.ireturn, 1) := by decide +kernel
theorem dX6_told_79 : decode cX6_told 79 = .ok (.aload_n 3, 1) := by decide +kernel
theorem dX6_told_80 : decode cX6_told 80 = .ok (.getfield 49, 3) := by decide +kernel
theorem dX6_told_83 : decode cX6_told 83 = .ok (.ireturn, 1) := by decide +kernel
theorem dX6_told_84 : decode cX6_told 84 = .ok (.aload_n 3, 1) := by decide +kernel
theorem dX6_told_85 : decode cX6_told 85 = .ok (.invokevirtual 109, 3) := by decide +kernel
theorem dX6_told_88 : decode cX6_told 88 = .ok (.ireturn, 1) := by decide +kernel
theorem dX6_told_89 : decode cX6_told 89 = .ok (.aload_n 3, 1) := by decide +kernel
theorem dX6_told_90 : decode cX6_told 90 = .ok (.invokevirtual 112, 3) := by decide +kernel
theorem dX6_told_93 : decode cX6_told 93 = .ok (.ireturn, 1) := by decide +kernel
theorem dX6_told_94 : decode cX6_told 94 = .ok (.iconst (-1), 1) := by decide +kernel
theorem dX6_told_95 : decode cX6_told 95 = .ok (.ireturn, 1) := by decide +kernel
theorem dX6_kept_0 : decode cX6_kept 0 = .ok (.aload_n 0, 1) := by decide +kernel
theorem dX6_kept_1 : decode cX6_kept 1 = .ok (.iload_n 1, 1) := by decide +kernel
theorem dX6_kept_2 : decode cX6_kept 2 = .ok (.invokevirtual 38, 3) := by decide +kernel
theorem dX6_kept_5 : decode cX6_kept 5 = .ok (.astore 4, 2) := by decide +kernel
theorem dX6_kept_7 : decode cX6_kept 7 = .ok (.aload 4, 2) := by decide +kernel
theorem dX6_kept_9 : decode cX6_kept 9 = .ok (.ifnonnull 7, 3) := by decide +kernel
theorem dX6_kept_12 : decode cX6_kept 12 = .ok (.iconst (-1), 1) := by decide +kernel
theorem dX6_kept_13 : decode cX6_kept 13 = .ok (.goto 10, 3) := by decide +kernel
theorem dX6_kept_16 : decode cX6_kept 16 = .ok (.aload 4, 2) := by decide +kernel
theorem dX6_kept_18 : decode cX6_kept 18 = .ok (.iload_n 2, 1) := by decide +kernel
theorem dX6_kept_19 : decode cX6_kept 19 = .ok (.iload_n 3, 1) := by decide +kernel
theorem dX6_kept_20 : decode cX6_kept 20 = .ok (.invokevirtual 115, 3) := by decide +kernel
theorem dX6_kept_23 : decode cX6_kept 23 = .ok (.ireturn, 1) := by decide +kernel
theorem dX6_count_0 : decode cX6_count 0 = .ok (.aload_n 0, 1) := by decide +kernel
theorem dX6_count_1 : decode cX6_count 1 = .ok (.getfield 15, 3) := by decide +kernel
theorem dX6_count_4 : decode cX6_count 4 = .ok (.ireturn, 1) := by decide +kernel
theorem dX6_find_0 : decode cX6_find 0 = .ok (.iload_n 1, 1) := by decide +kernel
theorem dX6_find_1 : decode cX6_find 1 = .ok (.ifCond .lt 20, 3) := by decide +kernel
theorem dX6_find_4 : decode cX6_find 4 = .ok (.iload_n 1, 1) := by decide +kernel
theorem dX6_find_5 : decode cX6_find 5 = .ok (.aload_n 0, 1) := by decide +kernel
theorem dX6_find_6 : decode cX6_find 6 = .ok (.getfield 15, 3) := by decide +kernel
theorem dX6_find_9 : decode cX6_find 9 = .ok (.if_icmp .ge 12, 3) := by decide +kernel
theorem dX6_find_12 : decode cX6_find 12 = .ok (.iload_n 1, 1) := by decide +kernel
theorem dX6_find_13 : decode cX6_find 13 = .ok (.aload_n 0, 1) := by decide +kernel
theorem dX6_find_14 : decode cX6_find 14 = .ok (.getfield 11, 3) := by decide +kernel
theorem dX6_find_17 : decode cX6_find 17 = .ok (.arraylength, 1) := by decide +kernel
theorem dX6_find_18 : decode cX6_find 18 = .ok (.if_icmp .lt 7, 3) := by decide +kernel
theorem dX6_find_21 : decode cX6_find 21 = .ok (.aconst_null, 1) := by decide +kernel
theorem dX6_find_22 : decode cX6_find 22 = .ok (.goto 9, 3) := by decide +kernel
theorem dX6_find_25 : decode cX6_find 25 = .ok (.aload_n 0, 1) := by decide +kernel
theorem dX6_find_26 : decode cX6_find 26 = .ok (.getfield 11, 3) := by decide +kernel
theorem dX6_find_29 : decode cX6_find 29 = .ok (.iload_n 1, 1) := by decide +kernel
theorem dX6_find_30 : decode cX6_find 30 = .ok (.aaload, 1) := by decide +kernel
theorem dX6_find_31 : decode cX6_find 31 = .ok (.areturn, 1) := by decide +kernel
theorem dX6_keep_0 : decode cX6_keep 0 = .ok (.aload_n 0, 1) := by decide +kernel
theorem dX6_keep_1 : decode cX6_keep 1 = .ok (.getfield 15, 3) := by decide +kernel
theorem dX6_keep_4 : decode cX6_keep 4 = .ok (.aload_n 0, 1) := by decide +kernel
theorem dX6_keep_5 : decode cX6_keep 5 = .ok (.getfield 11, 3) := by decide +kernel
theorem dX6_keep_8 : decode cX6_keep 8 = .ok (.arraylength, 1) := by decide +kernel
theorem dX6_keep_9 : decode cX6_keep 9 = .ok (.if_icmp .lt 6, 3) := by decide +kernel
theorem dX6_keep_12 : decode cX6_keep 12 = .ok (.bipush (-3), 2) := by decide +kernel
theorem dX6_keep_14 : decode cX6_keep 14 = .ok (.ireturn, 1) := by decide +kernel
theorem dX6_keep_15 : decode cX6_keep 15 = .ok (.aload_n 0, 1) := by decide +kernel
theorem dX6_keep_16 : decode cX6_keep 16 = .ok (.getfield 11, 3) := by decide +kernel
theorem dX6_keep_19 : decode cX6_keep 19 = .ok (.aload_n 0, 1) := by decide +kernel
theorem dX6_keep_20 : decode cX6_keep 20 = .ok (.getfield 15, 3) := by decide +kernel
theorem dX6_keep_23 : decode cX6_keep 23 = .ok (.aload_n 1, 1) := by decide +kernel
theorem dX6_keep_24 : decode cX6_keep 24 = .ok (.aastore, 1) := by decide +kernel
theorem dX6_keep_25 : decode cX6_keep 25 = .ok (.aload_n 0, 1) := by decide +kernel
theorem dX6_keep_26 : decode cX6_keep 26 = .ok (.dup, 1) := by decide +kernel
theorem dX6_keep_27 : decode cX6_keep 27 = .ok (.getfield 15, 3) := by decide +kernel
theorem dX6_keep_30 : decode cX6_keep 30 = .ok (.iconst 1, 1) := by decide +kernel
theorem dX6_keep_31 : decode cX6_keep 31 = .ok (.iadd, 1) := by decide +kernel
theorem dX6_keep_32 : decode cX6_keep 32 = .ok (.putfield 15, 3) := by decide +kernel
theorem dX6_keep_35 : decode cX6_keep 35 = .ok (.aload_n 0, 1) := by decide +kernel
theorem dX6_keep_36 : decode cX6_keep 36 = .ok (.getfield 15, 3) := by decide +kernel
theorem dX6_keep_39 : decode cX6_keep 39 = .ok (.iconst 1, 1) := by decide +kernel
theorem dX6_keep_40 : decode cX6_keep 40 = .ok (.isub, 1) := by decide +kernel
theorem dX6_keep_41 : decode cX6_keep 41 = .ok (.ireturn, 1) := by decide +kernel
theorem dX6_isSort_0 : decode cX6_isSort 0 = .ok (.iload_n 0, 1) := by decide +kernel
theorem dX6_isSort_1 : decode cX6_isSort 1 = .ok (.ifCond .lt 12, 3) := by decide +kernel
theorem dX6_isSort_4 : decode cX6_isSort 4 = .ok (.iload_n 0, 1) := by decide +kernel
theorem dX6_isSort_5 : decode cX6_isSort 5 = .ok (.iconst 4, 1) := by decide +kernel
theorem dX6_isSort_6 : decode cX6_isSort 6 = .ok (.if_icmp .gt 7, 3) := by decide +kernel
theorem dX6_isSort_9 : decode cX6_isSort 9 = .ok (.iconst 1, 1) := by decide +kernel
theorem dX6_isSort_10 : decode cX6_isSort 10 = .ok (.goto 4, 3) := by decide +kernel
theorem dX6_isSort_13 : decode cX6_isSort 13 = .ok (.iconst 0, 1) := by decide +kernel
theorem dX6_isSort_14 : decode cX6_isSort 14 = .ok (.ireturn, 1) := by decide +kernel
theorem dX6_isSize_0 : decode cX6_isSize 0 = .ok (.iload_n 0, 1) := by decide +kernel
theorem dX6_isSize_1 : decode cX6_isSize 1 = .ok (.ifCond .lt 19, 3) := by decide +kernel
theorem dX6_isSize_4 : decode cX6_isSize 4 = .ok (.iload_n 0, 1) := by decide +kernel
theorem dX6_isSize_5 : decode cX6_isSize 5 = .ok (.getstatic 119, 3) := by decide +kernel
theorem dX6_isSize_8 : decode cX6_isSize 8 = .ok (.arraylength, 1) := by decide +kernel
theorem dX6_isSize_9 : decode cX6_isSize 9 = .ok (.if_icmp .ge 11, 3) := by decide +kernel
theorem dX6_isSize_12 : decode cX6_isSize 12 = .ok (.iload_n 0, 1) := by decide +kernel
theorem dX6_isSize_13 : decode cX6_isSize 13 = .ok (.getstatic 123, 3) := by decide +kernel
theorem dX6_isSize_16 : decode cX6_isSize 16 = .ok (.arraylength, 1) := by decide +kernel
theorem dX6_isSize_17 : decode cX6_isSize 17 = .ok (.if_icmp .lt 5, 3) := by decide +kernel
theorem dX6_isSize_20 : decode cX6_isSize 20 = .ok (.iconst 0, 1) := by decide +kernel
theorem dX6_isSize_21 : decode cX6_isSize 21 = .ok (.ireturn, 1) := by decide +kernel
theorem dX6_isSize_22 : decode cX6_isSize 22 = .ok (.iload_n 0, 1) := by decide +kernel
theorem dX6_isSize_23 : decode cX6_isSize 23 = .ok (.iconst 4, 1) := by decide +kernel
theorem dX6_isSize_24 : decode cX6_isSize 24 = .ok (.if_icmp .ne 11, 3) := by decide +kernel
theorem dX6_isSize_27 : decode cX6_isSize 27 = .ok (.iload_n 1, 1) := by decide +kernel
theorem dX6_isSize_28 : decode cX6_isSize 28 = .ok (.iconst 2, 1) := by decide +kernel
theorem dX6_isSize_29 : decode cX6_isSize 29 = .ok (.irem, 1) := by decide +kernel
theorem dX6_isSize_30 : decode cX6_isSize 30 = .ok (.ifCond .eq 5, 3) := by decide +kernel
theorem dX6_isSize_33 : decode cX6_isSize 33 = .ok (.iconst 0, 1) := by decide +kernel
theorem dX6_isSize_34 : decode cX6_isSize 34 = .ok (.ireturn, 1) := by decide +kernel
theorem dX6_isSize_35 : decode cX6_isSize 35 = .ok (.iload_n 1, 1) := by decide +kernel
theorem dX6_isSize_36 : decode cX6_isSize 36 = .ok (.getstatic 119, 3) := by decide +kernel
theorem dX6_isSize_39 : decode cX6_isSize 39 = .ok (.iload_n 0, 1) := by decide +kernel
theorem dX6_isSize_40 : decode cX6_isSize 40 = .ok (.iaload, 1) := by decide +kernel
theorem dX6_isSize_41 : decode cX6_isSize 41 = .ok (.if_icmp .lt 16, 3) := by decide +kernel
theorem dX6_isSize_44 : decode cX6_isSize 44 = .ok (.iload_n 1, 1) := by decide +kernel
theorem dX6_isSize_45 : decode cX6_isSize 45 = .ok (.getstatic 123, 3) := by decide +kernel
theorem dX6_isSize_48 : decode cX6_isSize 48 = .ok (.iload_n 0, 1) := by decide +kernel
theorem dX6_isSize_49 : decode cX6_isSize 49 = .ok (.iaload, 1) := by decide +kernel
theorem dX6_isSize_50 : decode cX6_isSize 50 = .ok (.if_icmp .gt 7, 3) := by decide +kernel
theorem dX6_isSize_53 : decode cX6_isSize 53 = .ok (.iconst 1, 1) := by decide +kernel
theorem dX6_isSize_54 : decode cX6_isSize 54 = .ok (.goto 4, 3) := by decide +kernel
theorem dX6_isSize_57 : decode cX6_isSize 57 = .ok (.iconst 0, 1) := by decide +kernel
theorem dX6_isSize_58 : decode cX6_isSize 58 = .ok (.ireturn, 1) := by decide +kernel
theorem dX6_isSeed_0 : decode cX6_isSeed 0 = .ok (.iload_n 0, 1) := by decide +kernel
theorem dX6_isSeed_1 : decode cX6_isSeed 1 = .ok (.ifCond .lt 14, 3) := by decide +kernel
theorem dX6_isSeed_4 : decode cX6_isSeed 4 = .ok (.iload_n 0, 1) := by decide +kernel
theorem dX6_isSeed_5 : decode cX6_isSeed 5 = .ok (.sipush 1000, 3) := by decide +kernel
theorem dX6_isSeed_8 : decode cX6_isSeed 8 = .ok (.if_icmp .ge 7, 3) := by decide +kernel
theorem dX6_isSeed_11 : decode cX6_isSeed 11 = .ok (.iconst 1, 1) := by decide +kernel
theorem dX6_isSeed_12 : decode cX6_isSeed 12 = .ok (.goto 4, 3) := by decide +kernel
theorem dX6_isSeed_15 : decode cX6_isSeed 15 = .ok (.iconst 0, 1) := by decide +kernel
theorem dX6_isSeed_16 : decode cX6_isSeed 16 = .ok (.ireturn, 1) := by decide +kernel
theorem dX6_isKey_0 : decode cX6_isKey 0 = .ok (.iload_n 0, 1) := by decide +kernel
theorem dX6_isKey_1 : decode cX6_isKey 1 = .ok (.ifCond .lt 14, 3) := by decide +kernel
theorem dX6_isKey_4 : decode cX6_isKey 4 = .ok (.iload_n 0, 1) := by decide +kernel
theorem dX6_isKey_5 : decode cX6_isKey 5 = .ok (.sipush 10000, 3) := by decide +kernel
theorem dX6_isKey_8 : decode cX6_isKey 8 = .ok (.if_icmp .ge 7, 3) := by decide +kernel
theorem dX6_isKey_11 : decode cX6_isKey 11 = .ok (.iconst 1, 1) := by decide +kernel
theorem dX6_isKey_12 : decode cX6_isKey 12 = .ok (.goto 4, 3) := by decide +kernel
theorem dX6_isKey_15 : decode cX6_isKey 15 = .ok (.iconst 0, 1) := by decide +kernel
theorem dX6_isKey_16 : decode cX6_isKey 16 = .ok (.ireturn, 1) := by decide +kernel
theorem dX6_newSketch_0 : decode cX6_newSketch 0 = .ok (.iload_n 0, 1) := by decide +kernel
theorem dX6_newSketch_1 : decode cX6_newSketch 1 = .ok (.tableswitch 71 0 3 #[31, 41, 51, 61], 31) := by decide +kernel
theorem dX6_newSketch_32 : decode cX6_newSketch 32 = .ok (.new 126, 3) := by decide +kernel
theorem dX6_newSketch_35 : decode cX6_newSketch 35 = .ok (.dup, 1) := by decide +kernel
theorem dX6_newSketch_36 : decode cX6_newSketch 36 = .ok (.iload_n 1, 1) := by decide +kernel
theorem dX6_newSketch_37 : decode cX6_newSketch 37 = .ok (.iload_n 2, 1) := by decide +kernel
theorem dX6_newSketch_38 : decode cX6_newSketch 38 = .ok (.invokespecial 128, 3) := by decide +kernel
theorem dX6_newSketch_41 : decode cX6_newSketch 41 = .ok (.areturn, 1) := by decide +kernel
theorem dX6_newSketch_42 : decode cX6_newSketch 42 = .ok (.new 130, 3) := by decide +kernel
theorem dX6_newSketch_45 : decode cX6_newSketch 45 = .ok (.dup, 1) := by decide +kernel
theorem dX6_newSketch_46 : decode cX6_newSketch 46 = .ok (.iload_n 1, 1) := by decide +kernel
theorem dX6_newSketch_47 : decode cX6_newSketch 47 = .ok (.iload_n 2, 1) := by decide +kernel
theorem dX6_newSketch_48 : decode cX6_newSketch 48 = .ok (.invokespecial 132, 3) := by decide +kernel
theorem dX6_newSketch_51 : decode cX6_newSketch 51 = .ok (.areturn, 1) := by decide +kernel
theorem dX6_newSketch_52 : decode cX6_newSketch 52 = .ok (.new 133, 3) := by decide +kernel
theorem dX6_newSketch_55 : decode cX6_newSketch 55 = .ok (.dup, 1) := by decide +kernel
theorem dX6_newSketch_56 : decode cX6_newSketch 56 = .ok (.iload_n 1, 1) := by decide +kernel
theorem dX6_newSketch_57 : decode cX6_newSketch 57 = .ok (.iload_n 2, 1) := by decide +kernel
theorem dX6_newSketch_58 : decode cX6_newSketch 58 = .ok (.invokespecial 135, 3) := by decide +kernel
theorem dX6_newSketch_61 : decode cX6_newSketch 61 = .ok (.areturn, 1) := by decide +kernel
theorem dX6_newSketch_62 : decode cX6_newSketch 62 = .ok (.new 136, 3) := by decide +kernel
theorem dX6_newSketch_65 : decode cX6_newSketch 65 = .ok (.dup, 1) := by decide +kernel
theorem dX6_newSketch_66 : decode cX6_newSketch 66 = .ok (.iload_n 1, 1) := by decide +kernel
theorem dX6_newSketch_67 : decode cX6_newSketch 67 = .ok (.iload_n 2, 1) := by decide +kernel
theorem dX6_newSketch_68 : decode cX6_newSketch 68 = .ok (.invokespecial 138, 3) := by decide +kernel
theorem dX6_newSketch_71 : decode cX6_newSketch 71 = .ok (.areturn, 1) := by decide +kernel
theorem dX6_newSketch_72 : decode cX6_newSketch 72 = .ok (.new 139, 3) := by decide +kernel
theorem dX6_newSketch_75 : decode cX6_newSketch 75 = .ok (.dup, 1) := by decide +kernel
theorem dX6_newSketch_76 : decode cX6_newSketch 76 = .ok (.iload_n 1, 1) := by decide +kernel
theorem dX6_newSketch_77 : decode cX6_newSketch 77 = .ok (.iload_n 2, 1) := by decide +kernel
theorem dX6_newSketch_78 : decode cX6_newSketch 78 = .ok (.invokespecial 141, 3) := by decide +kernel
theorem dX6_newSketch_81 : decode cX6_newSketch 81 = .ok (.areturn, 1) := by decide +kernel
theorem dX6_hashOf_0 : decode cX6_hashOf 0 = .ok (.iconst 1, 1) := by decide +kernel
theorem dX6_hashOf_1 : decode cX6_hashOf 1 = .ok (.bipush 31, 2) := by decide +kernel
theorem dX6_hashOf_3 : decode cX6_hashOf 3 = .ok (.iload_n 0, 1) := by decide +kernel
theorem dX6_hashOf_4 : decode cX6_hashOf 4 = .ok (.imul, 1) := by decide +kernel
theorem dX6_hashOf_5 : decode cX6_hashOf 5 = .ok (.iadd, 1) := by decide +kernel
theorem dX6_hashOf_6 : decode cX6_hashOf 6 = .ok (.sipush 977, 3) := by decide +kernel
theorem dX6_hashOf_9 : decode cX6_hashOf 9 = .ok (.iload_n 1, 1) := by decide +kernel
theorem dX6_hashOf_10 : decode cX6_hashOf 10 = .ok (.imul, 1) := by decide +kernel
theorem dX6_hashOf_11 : decode cX6_hashOf 11 = .ok (.iadd, 1) := by decide +kernel
theorem dX6_hashOf_12 : decode cX6_hashOf 12 = .ok (.iload_n 2, 1) := by decide +kernel
theorem dX6_hashOf_13 : decode cX6_hashOf 13 = .ok (.iconst 1, 1) := by decide +kernel
theorem dX6_hashOf_14 : decode cX6_hashOf 14 = .ok (.iadd, 1) := by decide +kernel
theorem dX6_hashOf_15 : decode cX6_hashOf 15 = .ok (.imul, 1) := by decide +kernel
theorem dX6_hashOf_16 : decode cX6_hashOf 16 = .ok (.sipush 4391, 3) := by decide +kernel
theorem dX6_hashOf_19 : decode cX6_hashOf 19 = .ok (.iload_n 1, 1) := by decide +kernel
theorem dX6_hashOf_20 : decode cX6_hashOf 20 = .ok (.imul, 1) := by decide +kernel
theorem dX6_hashOf_21 : decode cX6_hashOf 21 = .ok (.iadd, 1) := by decide +kernel
theorem dX6_hashOf_22 : decode cX6_hashOf 22 = .ok (.bipush 7, 2) := by decide +kernel
theorem dX6_hashOf_24 : decode cX6_hashOf 24 = .ok (.iload_n 0, 1) := by decide +kernel
theorem dX6_hashOf_25 : decode cX6_hashOf 25 = .ok (.imul, 1) := by decide +kernel
theorem dX6_hashOf_26 : decode cX6_hashOf 26 = .ok (.iadd, 1) := by decide +kernel
theorem dX6_hashOf_27 : decode cX6_hashOf 27 = .ok (.ldc 142, 2) := by decide +kernel
theorem dX6_hashOf_29 : decode cX6_hashOf 29 = .ok (.irem, 1) := by decide +kernel
theorem dX6_hashOf_30 : decode cX6_hashOf 30 = .ok (.ireturn, 1) := by decide +kernel
theorem dX6_placeOf_0 : decode cX6_placeOf 0 = .ok (.iload_n 3, 1) := by decide +kernel
theorem dX6_placeOf_1 : decode cX6_placeOf 1 = .ok (.iconst 1, 1) := by decide +kernel
theorem dX6_placeOf_2 : decode cX6_placeOf 2 = .ok (.if_icmp .ge 7, 3) := by decide +kernel
theorem dX6_placeOf_5 : decode cX6_placeOf 5 = .ok (.iconst 0, 1) := by decide +kernel
theorem dX6_placeOf_6 : decode cX6_placeOf 6 = .ok (.goto 11, 3) := by decide +kernel
theorem dX6_placeOf_9 : decode cX6_placeOf 9 = .ok (.iload_n 0, 1) := by decide +kernel
theorem dX6_placeOf_10 : decode cX6_placeOf 10 = .ok (.iload_n 1, 1) := by decide +kernel
theorem dX6_placeOf_11 : decode cX6_placeOf 11 = .ok (.iload_n 2, 1) := by decide +kernel
theorem dX6_placeOf_12 : decode cX6_placeOf 12 = .ok (.invokestatic 80, 3) := by decide +kernel
theorem dX6_placeOf_15 : decode cX6_placeOf 15 = .ok (.iload_n 3, 1) := by decide +kernel
theorem dX6_placeOf_16 : decode cX6_placeOf 16 = .ok (.irem, 1) := by decide +kernel
theorem dX6_placeOf_17 : decode cX6_placeOf 17 = .ok (.ireturn, 1) := by decide +kernel
theorem dX6_copyRow_0 : decode cX6_copyRow 0 = .ok (.iconst 0, 1) := by decide +kernel
theorem dX6_copyRow_1 : decode cX6_copyRow 1 = .ok (.istore_n 2, 1) := by decide +kernel
theorem dX6_copyRow_2 : decode cX6_copyRow 2 = .ok (.iload_n 2, 1) := by decide +kernel
theorem dX6_copyRow_3 : decode cX6_copyRow 3 = .ok (.aload_n 0, 1) := by decide +kernel
theorem dX6_copyRow_4 : decode cX6_copyRow 4 = .ok (.arraylength, 1) := by decide +kernel
theorem dX6_copyRow_5 : decode cX6_copyRow 5 = .ok (.if_icmp .ge 21, 3) := by decide +kernel
theorem dX6_copyRow_8 : decode cX6_copyRow 8 = .ok (.iload_n 2, 1) := by decide +kernel
theorem dX6_copyRow_9 : decode cX6_copyRow 9 = .ok (.aload_n 1, 1) := by decide +kernel
theorem dX6_copyRow_10 : decode cX6_copyRow 10 = .ok (.arraylength, 1) := by decide +kernel
theorem dX6_copyRow_11 : decode cX6_copyRow 11 = .ok (.if_icmp .ge 15, 3) := by decide +kernel
theorem dX6_copyRow_14 : decode cX6_copyRow 14 = .ok (.aload_n 1, 1) := by decide +kernel
theorem dX6_copyRow_15 : decode cX6_copyRow 15 = .ok (.iload_n 2, 1) := by decide +kernel
theorem dX6_copyRow_16 : decode cX6_copyRow 16 = .ok (.aload_n 0, 1) := by decide +kernel
theorem dX6_copyRow_17 : decode cX6_copyRow 17 = .ok (.iload_n 2, 1) := by decide +kernel
theorem dX6_copyRow_18 : decode cX6_copyRow 18 = .ok (.iaload, 1) := by decide +kernel
theorem dX6_copyRow_19 : decode cX6_copyRow 19 = .ok (.iastore, 1) := by decide +kernel
theorem dX6_copyRow_20 : decode cX6_copyRow 20 = .ok (.iinc 2 1, 3) := by decide +kernel
theorem dX6_copyRow_23 : decode cX6_copyRow 23 = .ok (.goto (-21), 3) := by decide +kernel
theorem dX6_copyRow_26 : decode cX6_copyRow 26 = .ok (.return_, 1) := by decide +kernel
theorem dX6_clearRow_0 : decode cX6_clearRow 0 = .ok (.iconst 0, 1) := by decide +kernel
theorem dX6_clearRow_1 : decode cX6_clearRow 1 = .ok (.istore_n 1, 1) := by decide +kernel
theorem dX6_clearRow_2 : decode cX6_clearRow 2 = .ok (.iload_n 1, 1) := by decide +kernel
theorem dX6_clearRow_3 : decode cX6_clearRow 3 = .ok (.aload_n 0, 1) := by decide +kernel
theorem dX6_clearRow_4 : decode cX6_clearRow 4 = .ok (.arraylength, 1) := by decide +kernel
theorem dX6_clearRow_5 : decode cX6_clearRow 5 = .ok (.if_icmp .ge 13, 3) := by decide +kernel
theorem dX6_clearRow_8 : decode cX6_clearRow 8 = .ok (.aload_n 0, 1) := by decide +kernel
theorem dX6_clearRow_9 : decode cX6_clearRow 9 = .ok (.iload_n 1, 1) := by decide +kernel
theorem dX6_clearRow_10 : decode cX6_clearRow 10 = .ok (.iconst 0, 1) := by decide +kernel
theorem dX6_clearRow_11 : decode cX6_clearRow 11 = .ok (.iastore, 1) := by decide +kernel
theorem dX6_clearRow_12 : decode cX6_clearRow 12 = .ok (.iinc 1 1, 3) := by decide +kernel
theorem dX6_clearRow_15 : decode cX6_clearRow 15 = .ok (.goto (-13), 3) := by decide +kernel
theorem dX6_clearRow_18 : decode cX6_clearRow 18 = .ok (.return_, 1) := by decide +kernel
theorem dX6_countNotZero_0 : decode cX6_countNotZero 0 = .ok (.iconst 0, 1) := by decide +kernel
theorem dX6_countNotZero_1 : decode cX6_countNotZero 1 = .ok (.istore_n 1, 1) := by decide +kernel
theorem dX6_countNotZero_2 : decode cX6_countNotZero 2 = .ok (.iconst 0, 1) := by decide +kernel
theorem dX6_countNotZero_3 : decode cX6_countNotZero 3 = .ok (.istore_n 2, 1) := by decide +kernel
theorem dX6_countNotZero_4 : decode cX6_countNotZero 4 = .ok (.iload_n 2, 1) := by decide +kernel
theorem dX6_countNotZero_5 : decode cX6_countNotZero 5 = .ok (.aload_n 0, 1) := by decide +kernel
theorem dX6_countNotZero_6 : decode cX6_countNotZero 6 = .ok (.arraylength, 1) := by decide +kernel
theorem dX6_countNotZero_7 : decode cX6_countNotZero 7 = .ok (.if_icmp .ge 18, 3) := by decide +kernel
theorem dX6_countNotZero_10 : decode cX6_countNotZero 10 = .ok (.aload_n 0, 1) := by decide +kernel
theorem dX6_countNotZero_11 : decode cX6_countNotZero 11 = .ok (.iload_n 2, 1) := by decide +kernel
theorem dX6_countNotZero_12 : decode cX6_countNotZero 12 = .ok (.iaload, 1) := by decide +kernel
theorem dX6_countNotZero_13 : decode cX6_countNotZero 13 = .ok (.ifCond .eq 6, 3) := by decide +kernel
theorem dX6_countNotZero_16 : decode cX6_countNotZero 16 = .ok (.iinc 1 1, 3) := by decide +kernel
theorem dX6_countNotZero_19 : decode cX6_countNotZero 19 = .ok (.iinc 2 1, 3) := by decide +kernel
theorem dX6_countNotZero_22 : decode cX6_countNotZero 22 = .ok (.goto (-18), 3) := by decide +kernel
theorem dX6_countNotZero_25 : decode cX6_countNotZero 25 = .ok (.iload_n 1, 1) := by decide +kernel
theorem dX6_countNotZero_26 : decode cX6_countNotZero 26 = .ok (.ireturn, 1) := by decide +kernel
theorem dX6_placeFor_0 : decode cX6_placeFor 0 = .ok (.iconst 0, 1) := by decide +kernel
theorem dX6_placeFor_1 : decode cX6_placeFor 1 = .ok (.istore_n 3, 1) := by decide +kernel
theorem dX6_placeFor_2 : decode cX6_placeFor 2 = .ok (.iload_n 3, 1) := by decide +kernel
theorem dX6_placeFor_3 : decode cX6_placeFor 3 = .ok (.iload_n 2, 1) := by decide +kernel
theorem dX6_placeFor_4 : decode cX6_placeFor 4 = .ok (.if_icmp .ge 22, 3) := by decide +kernel
theorem dX6_placeFor_7 : decode cX6_placeFor 7 = .ok (.iload_n 3, 1) := by decide +kernel
theorem dX6_placeFor_8 : decode cX6_placeFor 8 = .ok (.aload_n 1, 1) := by decide +kernel
theorem dX6_placeFor_9 : decode cX6_placeFor 9 = .ok (.arraylength, 1) := by decide +kernel
theorem dX6_placeFor_10 : decode cX6_placeFor 10 = .ok (.if_icmp .ge 16, 3) := by decide +kernel
theorem dX6_placeFor_13 : decode cX6_placeFor 13 = .ok (.aload_n 1, 1) := by decide +kernel
theorem dX6_placeFor_14 : decode cX6_placeFor 14 = .ok (.iload_n 3, 1) := by decide +kernel
theorem dX6_placeFor_15 : decode cX6_placeFor 15 = .ok (.iaload, 1) := by decide +kernel
theorem dX6_placeFor_16 : decode cX6_placeFor 16 = .ok (.iload_n 0, 1) := by decide +kernel
theorem dX6_placeFor_17 : decode cX6_placeFor 17 = .ok (.if_icmp .ge 9, 3) := by decide +kernel
theorem dX6_placeFor_20 : decode cX6_placeFor 20 = .ok (.iinc 3 1, 3) := by decide +kernel
theorem dX6_placeFor_23 : decode cX6_placeFor 23 = .ok (.goto (-21), 3) := by decide +kernel
theorem dX6_placeFor_26 : decode cX6_placeFor 26 = .ok (.iload_n 3, 1) := by decide +kernel
theorem dX6_placeFor_27 : decode cX6_placeFor 27 = .ok (.ireturn, 1) := by decide +kernel
theorem dX6_standsAt_0 : decode cX6_standsAt 0 = .ok (.iload_n 0, 1) := by decide +kernel
theorem dX6_standsAt_1 : decode cX6_standsAt 1 = .ok (.ifCond .lt 25, 3) := by decide +kernel
theorem dX6_standsAt_4 : decode cX6_standsAt 4 = .ok (.iload_n 0, 1) := by decide +kernel
theorem dX6_standsAt_5 : decode cX6_standsAt 5 = .ok (.iload_n 3, 1) := by decide +kernel
theorem dX6_standsAt_6 : decode cX6_standsAt 6 = .ok (.if_icmp .ge 20, 3) := by decide +kernel
theorem dX6_standsAt_9 : decode cX6_standsAt 9 = .ok (.iload_n 0, 1) := by decide +kernel
theorem dX6_standsAt_10 : decode cX6_standsAt 10 = .ok (.aload_n 2, 1) := by decide +kernel
theorem dX6_standsAt_11 : decode cX6_standsAt 11 = .ok (.arraylength, 1) := by decide +kernel
theorem dX6_standsAt_12 : decode cX6_standsAt 12 = .ok (.if_icmp .ge 14, 3) := by decide +kernel
theorem dX6_standsAt_15 : decode cX6_standsAt 15 = .ok (.aload_n 2, 1) := by decide +kernel
theorem dX6_standsAt_16 : decode cX6_standsAt 16 = .ok (.iload_n 0, 1) := by decide +kernel
theorem dX6_standsAt_17 : decode cX6_standsAt 17 = .ok (.iaload, 1) := by decide +kernel
theorem dX6_standsAt_18 : decode cX6_standsAt 18 = .ok (.iload_n 1, 1) := by decide +kernel
theorem dX6_standsAt_19 : decode cX6_standsAt 19 = .ok (.if_icmp .ne 7, 3) := by decide +kernel
theorem dX6_standsAt_22 : decode cX6_standsAt 22 = .ok (.iconst 1, 1) := by decide +kernel
theorem dX6_standsAt_23 : decode cX6_standsAt 23 = .ok (.goto 4, 3) := by decide +kernel
theorem dX6_standsAt_26 : decode cX6_standsAt 26 = .ok (.iconst 0, 1) := by decide +kernel
theorem dX6_standsAt_27 : decode cX6_standsAt 27 = .ok (.ireturn, 1) := by decide +kernel
theorem dX7_in_0 : decode cX7_in 0 = .ok (.iload_n 0, 1) := by decide +kernel
theorem dX7_in_1 : decode cX7_in 1 = .ok (.iload_n 1, 1) := by decide +kernel
theorem dX7_in_2 : decode cX7_in 2 = .ok (.if_icmp .lt 12, 3) := by decide +kernel
theorem dX7_in_5 : decode cX7_in 5 = .ok (.iload_n 0, 1) := by decide +kernel
theorem dX7_in_6 : decode cX7_in 6 = .ok (.iload_n 2, 1) := by decide +kernel
theorem dX7_in_7 : decode cX7_in 7 = .ok (.if_icmp .gt 7, 3) := by decide +kernel
theorem dX7_in_10 : decode cX7_in 10 = .ok (.iconst 1, 1) := by decide +kernel
theorem dX7_in_11 : decode cX7_in 11 = .ok (.goto 4, 3) := by decide +kernel
theorem dX7_in_14 : decode cX7_in 14 = .ok (.iconst 0, 1) := by decide +kernel
theorem dX7_in_15 : decode cX7_in 15 = .ok (.ireturn, 1) := by decide +kernel
theorem dX7_init_0 : decode cX7_init 0 = .ok (.aload_n 0, 1) := by decide +kernel
theorem dX7_init_1 : decode cX7_init 1 = .ok (.invokespecial 7, 3) := by decide +kernel
theorem dX7_init_4 : decode cX7_init 4 = .ok (.aload_n 0, 1) := by decide +kernel
theorem dX7_init_5 : decode cX7_init 5 = .ok (.bipush 8, 2) := by decide +kernel
theorem dX7_init_7 : decode cX7_init 7 = .ok (.newarray .int, 2) := by decide +kernel
theorem dX7_init_9 : decode cX7_init 9 = .ok (.putfield 13, 3) := by decide +kernel
theorem dX7_init_12 : decode cX7_init 12 = .ok (.aload_n 0, 1) := by decide +kernel
theorem dX7_init_13 : decode cX7_init 13 = .ok (.bipush 8, 2) := by decide +kernel
theorem dX7_init_15 : decode cX7_init 15 = .ok (.newarray .int, 2) := by decide +kernel
theorem dX7_init_17 : decode cX7_init 17 = .ok (.putfield 17, 3) := by decide +kernel
theorem dX7_init_20 : decode cX7_init 20 = .ok (.aload_n 0, 1) := by decide +kernel
theorem dX7_init_21 : decode cX7_init 21 = .ok (.bipush 8, 2) := by decide +kernel
theorem dX7_init_23 : decode cX7_init 23 = .ok (.newarray .int, 2) := by decide +kernel
theorem dX7_init_25 : decode cX7_init 25 = .ok (.putfield 20, 3) := by decide +kernel
theorem dX7_init_28 : decode cX7_init 28 = .ok (.aload_n 0, 1) := by decide +kernel
theorem dX7_init_29 : decode cX7_init 29 = .ok (.bipush 8, 2) := by decide +kernel
theorem dX7_init_31 : decode cX7_init 31 = .ok (.newarray .int, 2) := by decide +kernel
theorem dX7_init_33 : decode cX7_init 33 = .ok (.putfield 23, 3) := by decide +kernel
theorem dX7_init_36 : decode cX7_init 36 = .ok (.aload_n 0, 1) := by decide +kernel
theorem dX7_init_37 : decode cX7_init 37 = .ok (.bipush 8, 2) := by decide +kernel
theorem dX7_init_39 : decode cX7_init 39 = .ok (.newarray .int, 2) := by decide +kernel
theorem dX7_init_41 : decode cX7_init 41 = .ok (.putfield 26, 3) := by decide +kernel
theorem dX7_init_44 : decode cX7_init 44 = .ok (.aload_n 0, 1) := by decide +kernel
theorem dX7_init_45 : decode cX7_init 45 = .ok (.bipush 8, 2) := by decide +kernel
theorem dX7_init_47 : decode cX7_init 47 = .ok (.newarray .int, 2) := by decide +kernel
theorem dX7_init_49 : decode cX7_init 49 = .ok (.putfield 29, 3) := by decide +kernel
theorem dX7_init_52 : decode cX7_init 52 = .ok (.aload_n 0, 1) := by decide +kernel
theorem dX7_init_53 : decode cX7_init 53 = .ok (.sipush 9600, 3) := by decide +kernel
theorem dX7_init_56 : decode cX7_init 56 = .ok (.newarray .int, 2) := by decide +kernel
theorem dX7_init_58 : decode cX7_init 58 = .ok (.putfield 32, 3) := by decide +kernel
theorem dX7_init_61 : decode cX7_init 61 = .ok (.aload_n 0, 1) := by decide +kernel
theorem dX7_init_62 : decode cX7_init 62 = .ok (.sipush 1024, 3) := by decide +kernel
theorem dX7_init_65 : decode cX7_init 65 = .ok (.newarray .int, 2) := by decide +kernel
theorem dX7_init_67 : decode cX7_init 67 = .ok (.putfield 35, 3) := by decide +kernel
theorem dX7_init_70 : decode cX7_init 70 = .ok (.aload_n 0, 1) := by decide +kernel
theorem dX7_init_71 : decode cX7_init 71 = .ok (.iconst 0, 1) := by decide +kernel
theorem dX7_init_72 : decode cX7_init 72 = .ok (.putfield 1, 3) := by decide +kernel
theorem dX7_init_75 : decode cX7_init 75 = .ok (.return_, 1) := by decide +kernel
theorem dX7_none_0 : decode cX7_none 0 = .ok (.iload_n 1, 1) := by decide +kernel
theorem dX7_none_1 : decode cX7_none 1 = .ok (.iconst 0, 1) := by decide +kernel
theorem dX7_none_2 : decode cX7_none 2 = .ok (.aload_n 0, 1) := by decide +kernel
theorem dX7_none_3 : decode cX7_none 3 = .ok (.getfield 38, 3) := by decide +kernel
theorem dX7_none_6 : decode cX7_none 6 = .ok (.iconst 1, 1) := by decide +kernel
theorem dX7_none_7 : decode cX7_none 7 = .ok (.isub, 1) := by decide +kernel
theorem dX7_none_8 : decode cX7_none 8 = .ok (.invokestatic 41, 3) := by decide +kernel
theorem dX7_none_11 : decode cX7_none 11 = .ok (.ifCond .ne 7, 3) := by decide +kernel
theorem dX7_none_14 : decode cX7_none 14 = .ok (.iconst 1, 1) := by decide +kernel
theorem dX7_none_15 : decode cX7_none 15 = .ok (.goto 4, 3) := by decide +kernel
theorem dX7_none_18 : decode cX7_none 18 = .ok (.iconst 0, 1) := by decide +kernel
theorem dX7_none_19 : decode cX7_none 19 = .ok (.ireturn, 1) := by decide +kernel
theorem dX7_hashOf_0 : decode cX7_hashOf 0 = .ok (.iconst 1, 1) := by decide +kernel
theorem dX7_hashOf_1 : decode cX7_hashOf 1 = .ok (.bipush 31, 2) := by decide +kernel
theorem dX7_hashOf_3 : decode cX7_hashOf 3 = .ok (.iload_n 0, 1) := by decide +kernel
theorem dX7_hashOf_4 : decode cX7_hashOf 4 = .ok (.imul, 1) := by decide +kernel
theorem dX7_hashOf_5 : decode cX7_hashOf 5 = .ok (.iadd, 1) := by decide +kernel
theorem dX7_hashOf_6 : decode cX7_hashOf 6 = .ok (.sipush 977, 3) := by decide +kernel
theorem dX7_hashOf_9 : decode cX7_hashOf 9 = .ok (.iload_n 1, 1) := by decide +kernel
theorem dX7_hashOf_10 : decode cX7_hashOf 10 = .ok (.imul, 1) := by decide +kernel
theorem dX7_hashOf_11 : decode cX7_hashOf 11 = .ok (.iadd, 1) := by decide +kernel
theorem dX7_hashOf_12 : decode cX7_hashOf 12 = .ok (.iload_n 2, 1) := by decide +kernel
theorem dX7_hashOf_13 : decode cX7_hashOf 13 = .ok (.iconst 1, 1) := by decide +kernel
theorem dX7_hashOf_14 : decode cX7_hashOf 14 = .ok (.iadd, 1) := by decide +kernel
theorem dX7_hashOf_15 : decode cX7_hashOf 15 = .ok (.imul, 1) := by decide +kernel
theorem dX7_hashOf_16 : decode cX7_hashOf 16 = .ok (.sipush 4391, 3) := by decide +kernel
theorem dX7_hashOf_19 : decode cX7_hashOf 19 = .ok (.iload_n 1, 1) := by decide +kernel
theorem dX7_hashOf_20 : decode cX7_hashOf 20 = .ok (.imul, 1) := by decide +kernel
theorem dX7_hashOf_21 : decode cX7_hashOf 21 = .ok (.iadd, 1) := by decide +kernel
theorem dX7_hashOf_22 : decode cX7_hashOf 22 = .ok (.bipush 7, 2) := by decide +kernel
theorem dX7_hashOf_24 : decode cX7_hashOf 24 = .ok (.iload_n 0, 1) := by decide +kernel
theorem dX7_hashOf_25 : decode cX7_hashOf 25 = .ok (.imul, 1) := by decide +kernel
theorem dX7_hashOf_26 : decode cX7_hashOf 26 = .ok (.iadd, 1) := by decide +kernel
theorem dX7_hashOf_27 : decode cX7_hashOf 27 = .ok (.ldc 45, 2) := by decide +kernel
theorem dX7_hashOf_29 : decode cX7_hashOf 29 = .ok (.irem, 1) := by decide +kernel
theorem dX7_hashOf_30 : decode cX7_hashOf 30 = .ok (.ireturn, 1) := by decide +kernel
theorem dX7_sketch_0 : decode cX7_sketch 0 = .ok (.aload_n 0, 1) := by decide +kernel
theorem dX7_sketch_1 : decode cX7_sketch 1 = .ok (.iconst 0, 1) := by decide +kernel
theorem dX7_sketch_2 : decode cX7_sketch 2 = .ok (.putfield 1, 3) := by decide +kernel
theorem dX7_sketch_5 : decode cX7_sketch 5 = .ok (.iload_n 1, 1) := by decide +kernel
theorem dX7_sketch_6 : decode cX7_sketch 6 = .ok (.iconst 0, 1) := by decide +kernel
theorem dX7_sketch_7 : decode cX7_sketch 7 = .ok (.iconst 4, 1) := by decide +kernel
theorem dX7_sketch_8 : decode cX7_sketch 8 = .ok (.invokestatic 41, 3) := by decide +kernel
theorem dX7_sketch_11 : decode cX7_sketch 11 = .ok (.ifCond .eq 18, 3) := by decide +kernel
theorem dX7_sketch_14 : decode cX7_sketch 14 = .ok (.iload_n 3, 1) := by decide +kernel
theorem dX7_sketch_15 : decode cX7_sketch 15 = .ok (.iconst 0, 1) := by decide +kernel
theorem dX7_sketch_16 : decode cX7_sketch 16 = .ok (.sipush 999, 3) := by decide +kernel
theorem dX7_sketch_19 : decode cX7_sketch 19 = .ok (.invokestatic 41, 3) := by decide +kernel
theorem dX7_sketch_22 : decode cX7_sketch 22 = .ok (.ifCond .eq 7, 3) := by decide +kernel
theorem dX7_sketch_25 : decode cX7_sketch 25 = .ok (.iconst 1, 1) := by decide +kernel
theorem dX7_sketch_26 : decode cX7_sketch 26 = .ok (.goto 4, 3) := by decide +kernel
theorem dX7_sketch_29 : decode cX7_sketch 29 = .ok (.iconst 0, 1) := by decide +kernel
theorem dX7_sketch_30 : decode cX7_sketch 30 = .ok (.istore 4, 2) := by decide +kernel
theorem dX7_sketch_32 : decode cX7_sketch 32 = .ok (.iload 4, 2) := by decide +kernel
theorem dX7_sketch_34 : decode cX7_sketch 34 = .ok (.ifCond .eq 96, 3) := by decide +kernel
theorem dX7_sketch_37 : decode cX7_sketch 37 = .ok (.iload_n 1, 1) := by decide +kernel
theorem dX7_sketch_38 : decode cX7_sketch 38 = .ok (.ifCond .ne 16, 3) := by decide +kernel
theorem dX7_sketch_41 : decode cX7_sketch 41 = .ok (.iload_n 2, 1) := by decide +kernel
theorem dX7_sketch_42 : decode cX7_sketch 42 = .ok (.iconst 1, 1) := by decide +kernel
theorem dX7_sketch_43 : decode cX7_sketch 43 = .ok (.bipush 20, 2) := by decide +kernel
theorem dX7_sketch_45 : decode cX7_sketch 45 = .ok (.invokestatic 41, 3) := by decide +kernel
theorem dX7_sketch_48 : decode cX7_sketch 48 = .ok (.ifCond .eq 82, 3) := by decide +kernel
theorem dX7_sketch_51 : decode cX7_sketch 51 = .ok (.goto 75, 3) := by decide +kernel
theorem dX7_sketch_54 : decode cX7_sketch 54 = .ok (.iload_n 1, 1) := by decide +kernel
theorem dX7_sketch_55 : decode cX7_sketch 55 = .ok (.iconst 1, 1) := by decide +kernel
theorem dX7_sketch_56 : decode cX7_sketch 56 = .ok (.if_icmp .ne 16, 3) := by decide +kernel
theorem dX7_sketch_59 : decode cX7_sketch 59 = .ok (.iload_n 2, 1) := by decide +kernel
theorem dX7_sketch_60 : decode cX7_sketch 60 = .ok (.iconst 4, 1) := by decide +kernel
theorem dX7_sketch_61 : decode cX7_sketch 61 = .ok (.bipush 64, 2) := by decide +kernel
theorem dX7_sketch_63 : decode cX7_sketch 63 = .ok (.invokestatic 41, 3) := by decide +kernel
theorem dX7_sketch_66 : decode cX7_sketch 66 = .ok (.ifCond .eq 64, 3) := by decide +kernel
theorem dX7_sketch_69 : decode cX7_sketch 69 = .ok (.goto 57, 3) := by decide +kernel
theorem dX7_sketch_72 : decode cX7_sketch 72 = .ok (.iload_n 1, 1) := by decide +kernel
theorem dX7_sketch_73 : decode cX7_sketch 73 = .ok (.iconst 2, 1) := by decide +kernel
theorem dX7_sketch_74 : decode cX7_sketch 74 = .ok (.if_icmp .ne 18, 3) := by decide +kernel
theorem dX7_sketch_77 : decode cX7_sketch 77 = .ok (.iload_n 2, 1) := by decide +kernel
theorem dX7_sketch_78 : decode cX7_sketch 78 = .ok (.bipush 16, 2) := by decide +kernel
theorem dX7_sketch_80 : decode cX7_sketch 80 = .ok (.sipush 512, 3) := by decide +kernel
theorem dX7_sketch_83 : decode cX7_sketch 83 = .ok (.invokestatic 41, 3) := by decide +kernel
theorem dX7_sketch_86 : decode cX7_sketch 86 = .ok (.ifCond .eq 44, 3) := by decide +kernel
theorem dX7_sketch_89 : decode cX7_sketch 89 = .ok (.goto 37, 3) := by decide +kernel
theorem dX7_sketch_92 : decode cX7_sketch 92 = .ok (.iload_n 1, 1) := by decide +kernel
theorem dX7_sketch_93 : decode cX7_sketch 93 = .ok (.iconst 3, 1) := by decide +kernel
theorem dX7_sketch_94 : decode cX7_sketch 94 = .ok (.if_icmp .ne 16, 3) := by decide +kernel
theorem dX7_sketch_97 : decode cX7_sketch 97 = .ok (.iload_n 2, 1) := by decide +kernel
theorem dX7_sketch_98 : decode cX7_sketch 98 = .ok (.iconst 2, 1) := by decide +kernel
theorem dX7_sketch_99 : decode cX7_sketch 99 = .ok (.bipush 32, 2) := by decide +kernel
theorem dX7_sketch_101 : decode cX7_sketch 101 = .ok (.invokestatic 41, 3) := by decide +kernel
theorem dX7_sketch_104 : decode cX7_sketch 104 = .ok (.ifCond .eq 26, 3) := by decide +kernel
theorem dX7_sketch_107 : decode cX7_sketch 107 = .ok (.goto 19, 3) := by decide +kernel
theorem dX7_sketch_110 : decode cX7_sketch 110 = .ok (.iload_n 2, 1) := by decide +kernel
theorem dX7_sketch_111 : decode cX7_sketch 111 = .ok (.iconst 4, 1) := by decide +kernel
theorem dX7_sketch_112 : decode cX7_sketch 112 = .ok (.bipush 32, 2) := by decide +kernel
theorem dX7_sketch_114 : decode cX7_sketch 114 = .ok (.invokestatic 41, 3) := by decide +kernel
theorem dX7_sketch_117 : decode cX7_sketch 117 = .ok (.ifCond .eq 13, 3) := by decide +kernel
theorem dX7_sketch_120 : decode cX7_sketch 120 = .ok (.iload_n 2, 1) := by decide +kernel
theorem dX7_sketch_121 : decode cX7_sketch 121 = .ok (.iconst 2, 1) := by decide +kernel
theorem dX7_sketch_122 : decode cX7_sketch 122 = .ok (.irem, 1) := by decide +kernel
theorem dX7_sketch_123 : decode cX7_sketch 123 = .ok (.ifCond .ne 7, 3) := by decide +kernel
theorem dX7_sketch_126 : decode cX7_sketch 126 = .ok (.iconst 1, 1) := by decide +kernel
theorem dX7_sketch_127 : decode cX7_sketch 127 = .ok (.goto 4, 3) := by decide +kernel
theorem dX7_sketch_130 : decode cX7_sketch 130 = .ok (.iconst 0, 1) := by decide +kernel
theorem dX7_sketch_131 : decode cX7_sketch 131 = .ok (.istore 4, 2) := by decide +kernel
theorem dX7_sketch_133 : decode cX7_sketch 133 = .ok (.iload 4, 2) := by decide +kernel
theorem dX7_sketch_135 : decode cX7_sketch 135 = .ok (.ifCond .ne 5, 3) := by decide +kernel
theorem dX7_sketch_138 : decode cX7_sketch 138 = .ok (.iconst (-1), 1) := by decide +kernel
theorem dX7_sketch_139 : decode cX7_sketch 139 = .ok (.ireturn, 1) := by decide +kernel
theorem dX7_sketch_140 : decode cX7_sketch 140 = .ok (.aload_n 0, 1) := by decide +kernel
theorem dX7_sketch_141 : decode cX7_sketch 141 = .ok (.getfield 38, 3) := by decide +kernel
theorem dX7_sketch_144 : decode cX7_sketch 144 = .ok (.bipush 8, 2) := by decide +kernel
theorem dX7_sketch_146 : decode cX7_sketch 146 = .ok (.if_icmp .ne 6, 3) := by decide +kernel
theorem dX7_sketch_149 : decode cX7_sketch 149 = .ok (.bipush (-3), 2) := by decide +kernel
theorem dX7_sketch_151 : decode cX7_sketch 151 = .ok (.ireturn, 1) := by decide +kernel
theorem dX7_sketch_152 : decode cX7_sketch 152 = .ok (.aload_n 0, 1) := by decide +kernel
theorem dX7_sketch_153 : decode cX7_sketch 153 = .ok (.getfield 13, 3) := by decide +kernel
theorem dX7_sketch_156 : decode cX7_sketch 156 = .ok (.aload_n 0, 1) := by decide +kernel
theorem dX7_sketch_157 : decode cX7_sketch 157 = .ok (.getfield 38, 3) := by decide +kernel
theorem dX7_sketch_160 : decode cX7_sketch 160 = .ok (.iload_n 1, 1) := by decide +kernel
theorem dX7_sketch_161 : decode cX7_sketch 161 = .ok (.iastore, 1) := by decide +kernel
theorem dX7_sketch_162 : decode cX7_sketch 162 = .ok (.aload_n 0, 1) := by decide +kernel
theorem dX7_sketch_163 : decode cX7_sketch 163 = .ok (.getfield 17, 3) := by decide +kernel
theorem dX7_sketch_166 : decode cX7_sketch 166 = .ok (.aload_n 0, 1) := by decide +kernel
theorem dX7_sketch_167 : decode cX7_sketch 167 = .ok (.getfield 38, 3) := by decide +kernel
theorem dX7_sketch_170 : decode cX7_sketch 170 = .ok (.iload_n 2, 1) := by decide +kernel
theorem dX7_sketch_171 : decode cX7_sketch 171 = .ok (.iastore, 1) := by decide +kernel
theorem dX7_sketch_172 : decode cX7_sketch 172 = .ok (.aload_n 0, 1) := by decide +kernel
theorem dX7_sketch_173 : decode cX7_sketch 173 = .ok (.getfield 20, 3) := by decide +kernel
theorem dX7_sketch_176 : decode cX7_sketch 176 = .ok (.aload_n 0, 1) := by decide +kernel
theorem dX7_sketch_177 : decode cX7_sketch 177 = .ok (.getfield 38, 3) := by decide +kernel
theorem dX7_sketch_180 : decode cX7_sketch 180 = .ok (.iload_n 3, 1) := by decide +kernel
theorem dX7_sketch_181 : decode cX7_sketch 181 = .ok (.iastore, 1) := by decide +kernel
theorem dX7_sketch_182 : decode cX7_sketch 182 = .ok (.aload_n 0, 1) := by decide +kernel
theorem dX7_sketch_183 : decode cX7_sketch 183 = .ok (.dup, 1) := by decide +kernel
theorem dX7_sketch_184 : decode cX7_sketch 184 = .ok (.getfield 38, 3) := by decide +kernel
theorem dX7_sketch_187 : decode cX7_sketch 187 = .ok (.iconst 1, 1) := by decide +kernel
theorem dX7_sketch_188 : decode cX7_sketch 188 = .ok (.iadd, 1) := by decide +kernel
theorem dX7_sketch_189 : decode cX7_sketch 189 = .ok (.putfield 38, 3) := by decide +kernel
theorem dX7_sketch_192 : decode cX7_sketch 192 = .ok (.aload_n 0, 1) := by decide +kernel
theorem dX7_sketch_193 : decode cX7_sketch 193 = .ok (.aload_n 0, 1) := by decide +kernel
theorem dX7_sketch_194 : decode cX7_sketch 194 = .ok (.getfield 38, 3) := by decide +kernel
theorem dX7_sketch_197 : decode cX7_sketch 197 = .ok (.iconst 1, 1) := by decide +kernel
theorem dX7_sketch_198 : decode cX7_sketch 198 = .ok (.isub, 1) := by decide +kernel
theorem dX7_sketch_199 : decode cX7_sketch 199 = .ok (.invokevirtual 46, 3) := by decide +kernel
theorem dX7_sketch_202 : decode cX7_sketch 202 = .ok (.aload_n 0, 1) := by decide +kernel
theorem dX7_sketch_203 : decode cX7_sketch 203 = .ok (.getfield 38, 3) := by decide +kernel
theorem dX7_sketch_206 : decode cX7_sketch 206 = .ok (.iconst 1, 1) := by decide +kernel
theorem dX7_sketch_207 : decode cX7_sketch 207 = .ok (.isub, 1) := by decide +kernel
theorem dX7_sketch_208 : decode cX7_sketch 208 = .ok (.ireturn, 1) := by decide +kernel
theorem dX7_empty_0 : decode cX7_empty 0 = .ok (.aload_n 0, 1) := by decide +kernel
theorem dX7_empty_1 : decode cX7_empty 1 = .ok (.getfield 23, 3) := by decide +kernel
theorem dX7_empty_4 : decode cX7_empty 4 = .ok (.iload_n 1, 1) := by decide +kernel
theorem dX7_empty_5 : decode cX7_empty 5 = .ok (.iconst 0, 1) := by decide +kernel
theorem dX7_empty_6 : decode cX7_empty 6 = .ok (.iastore, 1) := by decide +kernel
theorem dX7_empty_7 : decode cX7_empty 7 = .ok (.aload_n 0, 1) := by decide +kernel
theorem dX7_empty_8 : decode cX7_empty 8 = .ok (.getfield 26, 3) := by decide +kernel
theorem dX7_empty_11 : decode cX7_empty 11 = .ok (.iload_n 1, 1) := by decide +kernel
theorem dX7_empty_12 : decode cX7_empty 12 = .ok (.iconst 0, 1) := by decide +kernel
theorem dX7_empty_13 : decode cX7_empty 13 = .ok (.iastore, 1) := by decide +kernel
theorem dX7_empty_14 : decode cX7_empty 14 = .ok (.aload_n 0, 1) := by decide +kernel
theorem dX7_empty_15 : decode cX7_empty 15 = .ok (.getfield 29, 3) := by decide +kernel
theorem dX7_empty_18 : decode cX7_empty 18 = .ok (.iload_n 1, 1) := by decide +kernel
theorem dX7_empty_19 : decode cX7_empty 19 = .ok (.iconst 0, 1) := by decide +kernel
theorem dX7_empty_20 : decode cX7_empty 20 = .ok (.iastore, 1) := by decide +kernel
theorem dX7_empty_21 : decode cX7_empty 21 = .ok (.iconst 0, 1) := by decide +kernel
theorem dX7_empty_22 : decode cX7_empty 22 = .ok (.istore_n 2, 1) := by decide +kernel
theorem dX7_empty_23 : decode cX7_empty 23 = .ok (.iload_n 2, 1) := by decide +kernel
theorem dX7_empty_24 : decode cX7_empty 24 = .ok (.sipush 1200, 3) := by decide +kernel
theorem dX7_empty_27 : decode cX7_empty 27 = .ok (.if_icmp .ge 22, 3) := by decide +kernel
theorem dX7_empty_30 : decode cX7_empty 30 = .ok (.aload_n 0, 1) := by decide +kernel
theorem dX7_empty_31 : decode cX7_empty 31 = .ok (.getfield 32, 3) := by decide +kernel
theorem dX7_empty_34 : decode cX7_empty 34 = .ok (.sipush 1200, 3) := by decide +kernel
theorem dX7_empty_37 : decode cX7_empty 37 = .ok (.iload_n 1, 1) := by decide +kernel
theorem dX7_empty_38 : decode cX7_empty 38 = .ok (.imul, 1) := by decide +kernel
theorem dX7_empty_39 : decode cX7_empty 39 = .ok (.iload_n 2, 1) := by decide +kernel
theorem dX7_empty_40 : decode cX7_empty 40 = .ok (.iadd, 1) := by decide +kernel
theorem dX7_empty_41 : decode cX7_empty 41 = .ok (.iconst 0, 1) := by decide +kernel
theorem dX7_empty_42 : decode cX7_empty 42 = .ok (.iastore, 1) := by decide +kernel
theorem dX7_empty_43 : decode cX7_empty 43 = .ok (.iinc 2 1, 3) := by decide +kernel
theorem dX7_empty_46 : decode cX7_empty 46 = .ok (.goto (-23), 3) := by decide +kernel
theorem dX7_empty_49 : decode cX7_empty 49 = .ok (.return_, 1) := by decide +kernel
theorem dX7_copy_0 : decode cX7_copy 0 = .ok (.aload_n 0, 1) := by decide +kernel
theorem dX7_copy_1 : decode cX7_copy 1 = .ok (.iconst 0, 1) := by decide +kernel
theorem dX7_copy_2 : decode cX7_copy 2 = .ok (.putfield 1, 3) := by decide +kernel
theorem dX7_copy_5 : decode cX7_copy 5 = .ok (.aload_n 0, 1) := by decide +kernel
theorem dX7_copy_6 : decode cX7_copy 6 = .ok (.iload_n 1, 1) := by decide +kernel
theorem dX7_copy_7 : decode cX7_copy 7 = .ok (.invokevirtual 50, 3) := by decide +kernel
theorem dX7_copy_10 : decode cX7_copy 10 = .ok (.ifCond .eq 5, 3) := by decide +kernel
theorem dX7_copy_13 : decode cX7_copy 13 = .ok (.iconst (-1), 1) := by decide +kernel
theorem dX7_copy_14 : decode cX7_copy 14 = .ok (.ireturn, 1) := by decide +kernel
theorem dX7_copy_15 : decode cX7_copy 15 = .ok (.aload_n 0, 1) := by decide +kernel
theorem dX7_copy_16 : decode cX7_copy 16 = .ok (.getfield 38, 3) := by decide +kernel
theorem dX7_copy_19 : decode cX7_copy 19 = .ok (.bipush 8, 2) := by decide +kernel
theorem dX7_copy_21 : decode cX7_copy 21 = .ok (.if_icmp .ne 6, 3) := by decide +kernel
theorem dX7_copy_24 : decode cX7_copy 24 = .ok (.bipush (-3), 2) := by decide +kernel
theorem dX7_copy_26 : decode cX7_copy 26 = .ok (.ireturn, 1) := by decide +kernel
theorem dX7_copy_27 : decode cX7_copy 27 = .ok (.aload_n 0, 1) := by decide +kernel
theorem dX7_copy_28 : decode cX7_copy 28 = .ok (.getfield 38, 3) := by decide +kernel
theorem dX7_copy_31 : decode cX7_copy 31 = .ok (.istore_n 2, 1) := by decide +kernel
theorem dX7_copy_32 : decode cX7_copy 32 = .ok (.aload_n 0, 1) := by decide +kernel
theorem dX7_copy_33 : decode cX7_copy 33 = .ok (.getfield 13, 3) := by decide +kernel
theorem dX7_copy_36 : decode cX7_copy 36 = .ok (.iload_n 2, 1) := by decide +kernel
theorem dX7_copy_37 : decode cX7_copy 37 = .ok (.aload_n 0, 1) := by decide +kernel
theorem dX7_copy_38 : decode cX7_copy 38 = .ok (.getfield 13, 3) := by decide +kernel
theorem dX7_copy_41 : decode cX7_copy 41 = .ok (.iload_n 1, 1) := by decide +kernel
theorem dX7_copy_42 : decode cX7_copy 42 = .ok (.iaload, 1) := by decide +kernel
theorem dX7_copy_43 : decode cX7_copy 43 = .ok (.iastore, 1) := by decide +kernel
theorem dX7_copy_44 : decode cX7_copy 44 = .ok (.aload_n 0, 1) := by decide +kernel
theorem dX7_copy_45 : decode cX7_copy 45 = .ok (.getfield 17, 3) := by decide +kernel
theorem dX7_copy_48 : decode cX7_copy 48 = .ok (.iload_n 2, 1) := by decide +kernel
theorem dX7_copy_49 : decode cX7_copy 49 = .ok (.aload_n 0, 1) := by decide +kernel
theorem dX7_copy_50 : decode cX7_copy 50 = .ok (.getfield 17, 3) := by decide +kernel
theorem dX7_copy_53 : decode cX7_copy 53 = .ok (.iload_n 1, 1) := by decide +kernel
theorem dX7_copy_54 : decode cX7_copy 54 = .ok (.iaload, 1) := by decide +kernel
theorem dX7_copy_55 : decode cX7_copy 55 = .ok (.iastore, 1) := by decide +kernel
theorem dX7_copy_56 : decode cX7_copy 56 = .ok (.aload_n 0, 1) := by decide +kernel
theorem dX7_copy_57 : decode cX7_copy 57 = .ok (.getfield 20, 3) := by decide +kernel
theorem dX7_copy_60 : decode cX7_copy 60 = .ok (.iload_n 2, 1) := by decide +kernel
theorem dX7_copy_61 : decode cX7_copy 61 = .ok (.aload_n 0, 1) := by decide +kernel
theorem dX7_copy_62 : decode cX7_copy 62 = .ok (.getfield 20, 3) := by decide +kernel
theorem dX7_copy_65 : decode cX7_copy 65 = .ok (.iload_n 1, 1) := by decide +kernel
theorem dX7_copy_66 : decode cX7_copy 66 = .ok (.iaload, 1) := by decide +kernel
theorem dX7_copy_67 : decode cX7_copy 67 = .ok (.iastore, 1) := by decide +kernel
theorem dX7_copy_68 : decode cX7_copy 68 = .ok (.aload_n 0, 1) := by decide +kernel
theorem dX7_copy_69 : decode cX7_copy 69 = .ok (.getfield 23, 3) := by decide +kernel
theorem dX7_copy_72 : decode cX7_copy 72 = .ok (.iload_n 2, 1) := by decide +kernel
theorem dX7_copy_73 : decode cX7_copy 73 = .ok (.aload_n 0, 1) := by decide +kernel
theorem dX7_copy_74 : decode cX7_copy 74 = .ok (.getfield 23, 3) := by decide +kernel
theorem dX7_copy_77 : decode cX7_copy 77 = .ok (.iload_n 1, 1) := by decide +kernel
theorem dX7_copy_78 : decode cX7_copy 78 = .ok (.iaload, 1) := by decide +kernel
theorem dX7_copy_79 : decode cX7_copy 79 = .ok (.iastore, 1) := by decide +kernel
theorem dX7_copy_80 : decode cX7_copy 80 = .ok (.aload_n 0, 1) := by decide +kernel
theorem dX7_copy_81 : decode cX7_copy 81 = .ok (.getfield 26, 3) := by decide +kernel
theorem dX7_copy_84 : decode cX7_copy 84 = .ok (.iload_n 2, 1) := by decide +kernel
theorem dX7_copy_85 : decode cX7_copy 85 = .ok (.aload_n 0, 1) := by decide +kernel
theorem dX7_copy_86 : decode cX7_copy 86 = .ok (.getfield 26, 3) := by decide +kernel
theorem dX7_copy_89 : decode cX7_copy 89 = .ok (.iload_n 1, 1) := by decide +kernel
theorem dX7_copy_90 : decode cX7_copy 90 = .ok (.iaload, 1) := by decide +kernel
theorem dX7_copy_91 : decode cX7_copy 91 = .ok (.iastore, 1) := by decide +kernel
theorem dX7_copy_92 : decode cX7_copy 92 = .ok (.aload_n 0, 1) := by decide +kernel
theorem dX7_copy_93 : decode cX7_copy 93 = .ok (.getfield 29, 3) := by decide +kernel
theorem dX7_copy_96 : decode cX7_copy 96 = .ok (.iload_n 2, 1) := by decide +kernel
theorem dX7_copy_97 : decode cX7_copy 97 = .ok (.aload_n 0, 1) := by decide +kernel
theorem dX7_copy_98 : decode cX7_copy 98 = .ok (.getfield 29, 3) := by decide +kernel
theorem dX7_copy_101 : decode cX7_copy 101 = .ok (.iload_n 1, 1) := by decide +kernel
theorem dX7_copy_102 : decode cX7_copy 102 = .ok (.iaload, 1) := by decide +kernel
theorem dX7_copy_103 : decode cX7_copy 103 = .ok (.iastore, 1) := by decide +kernel
theorem dX7_copy_104 : decode cX7_copy 104 = .ok (.iconst 0, 1) := by decide +kernel
theorem dX7_copy_105 : decode cX7_copy 105 = .ok (.istore_n 3, 1) := by decide +kernel
theorem dX7_copy_106 : decode cX7_copy 106 = .ok (.iload_n 3, 1) := by decide +kernel
theorem dX7_copy_107 : decode cX7_copy 107 = .ok (.sipush 1200, 3) := by decide +kernel
theorem dX7_copy_110 : decode cX7_copy 110 = .ok (.if_icmp .ge 33, 3) := by decide +kernel
theorem dX7_copy_113 : decode cX7_copy 113 = .ok (.aload_n 0, 1) := by decide +kernel
theorem dX7_copy_114 : decode cX7_copy 114 = .ok (.getfield 32, 3) := by decide +kernel
theorem dX7_copy_117 : decode cX7_copy 117 = .ok (.sipush 1200, 3) := by decide +kernel
theorem dX7_copy_120 : decode cX7_copy 120 = .ok (.iload_n 2, 1) := by decide +kernel
theorem dX7_copy_121 : decode cX7_copy 121 = .ok (.imul, 1) := by decide +kernel
theorem dX7_copy_122 : decode cX7_copy 122 = .ok (.iload_n 3, 1) := by decide +kernel
theorem dX7_copy_123 : decode cX7_copy 123 = .ok (.iadd, 1) := by decide +kernel
theorem dX7_copy_124 : decode cX7_copy 124 = .ok (.aload_n 0, 1) := by decide +kernel
theorem dX7_copy_125 : decode cX7_copy 125 = .ok (.getfield 32, 3) := by decide +kernel
theorem dX7_copy_128 : decode cX7_copy 128 = .ok (.sipush 1200, 3) := by decide +kernel
theorem dX7_copy_131 : decode cX7_copy 131 = .ok (.iload_n 1, 1) := by decide +kernel
theorem dX7_copy_132 : decode cX7_copy 132 = .ok (.imul, 1) := by decide +kernel
theorem dX7_copy_133 : decode cX7_copy 133 = .ok (.iload_n 3, 1) := by decide +kernel
theorem dX7_copy_134 : decode cX7_copy 134 = .ok (.iadd, 1) := by decide +kernel
theorem dX7_copy_135 : decode cX7_copy 135 = .ok (.iaload, 1) := by decide +kernel
theorem dX7_copy_136 : decode cX7_copy 136 = .ok (.iastore, 1) := by decide +kernel
theorem dX7_copy_137 : decode cX7_copy 137 = .ok (.iinc 3 1, 3) := by decide +kernel
theorem dX7_copy_140 : decode cX7_copy 140 = .ok (.goto (-34), 3) := by decide +kernel
theorem dX7_copy_143 : decode cX7_copy 143 = .ok (.aload_n 0, 1) := by decide +kernel
theorem dX7_copy_144 : decode cX7_copy 144 = .ok (.dup, 1) := by decide +kernel
theorem dX7_copy_145 : decode cX7_copy 145 = .ok (.getfield 38, 3) := by decide +kernel
theorem dX7_copy_148 : decode cX7_copy 148 = .ok (.iconst 1, 1) := by decide +kernel
theorem dX7_copy_149 : decode cX7_copy 149 = .ok (.iadd, 1) := by decide +kernel
theorem dX7_copy_150 : decode cX7_copy 150 = .ok (.putfield 38, 3) := by decide +kernel
theorem dX7_copy_153 : decode cX7_copy 153 = .ok (.iload_n 2, 1) := by decide +kernel
theorem dX7_copy_154 : decode cX7_copy 154 = .ok (.ireturn, 1) := by decide +kernel
theorem dX7_clear_0 : decode cX7_clear 0 = .ok (.aload_n 0, 1) := by decide +kernel
theorem dX7_clear_1 : decode cX7_clear 1 = .ok (.iconst 0, 1) := by decide +kernel
theorem dX7_clear_2 : decode cX7_clear 2 = .ok (.putfield 1, 3) := by decide +kernel
theorem dX7_clear_5 : decode cX7_clear 5 = .ok (.aload_n 0, 1) := by decide +kernel
theorem dX7_clear_6 : decode cX7_clear 6 = .ok (.iload_n 1, 1) := by decide +kernel
theorem dX7_clear_7 : decode cX7_clear 7 = .ok (.invokevirtual 50, 3) := by decide +kernel
theorem dX7_clear_10 : decode cX7_clear 10 = .ok (.ifCond .eq 5, 3) := by decide +kernel
theorem dX7_clear_13 : decode cX7_clear 13 = .ok (.iconst (-1), 1) := by decide +kernel
theorem dX7_clear_14 : decode cX7_clear 14 = .ok (.ireturn, 1) := by decide +kernel
theorem dX7_clear_15 : decode cX7_clear 15 = .ok (.aload_n 0, 1) := by decide +kernel
theorem dX7_clear_16 : decode cX7_clear 16 = .ok (.getfield 23, 3) := by decide +kernel
theorem dX7_clear_19 : decode cX7_clear 19 = .ok (.iload_n 1, 1) := by decide +kernel
theorem dX7_clear_20 : decode cX7_clear 20 = .ok (.iaload, 1) := by decide +kernel
theorem dX7_clear_21 : decode cX7_clear 21 = .ok (.ldc 54, 2) := by decide +kernel
theorem dX7_clear_23 : decode cX7_clear 23 = .ok (.iadd, 1) := by decide +kernel
theorem dX7_clear_24 : decode cX7_clear 24 = .ok (.istore_n 2, 1) := by decide +kernel
theorem dX7_clear_25 : decode cX7_clear 25 = .ok (.aload_n 0, 1) := by decide +kernel
theorem dX7_clear_26 : decode cX7_clear 26 = .ok (.iload_n 1, 1) := by decide +kernel
theorem dX7_clear_27 : decode cX7_clear 27 = .ok (.invokevirtual 46, 3) := by decide +kernel
theorem dX7_clear_30 : decode cX7_clear 30 = .ok (.iload_n 2, 1) := by decide +kernel
theorem dX7_clear_31 : decode cX7_clear 31 = .ok (.ireturn, 1) := by decide +kernel
theorem dX7_many_0 : decode cX7_many 0 = .ok (.aload_n 0, 1) := by decide +kernel
theorem dX7_many_1 : decode cX7_many 1 = .ok (.getfield 32, 3) := by decide +kernel
theorem dX7_many_4 : decode cX7_many 4 = .ok (.sipush 1200, 3) := by decide +kernel
theorem dX7_many_7 : decode cX7_many 7 = .ok (.iload_n 1, 1) := by decide +kernel
theorem dX7_many_8 : decode cX7_many 8 = .ok (.imul, 1) := by decide +kernel
theorem dX7_many_9 : decode cX7_many 9 = .ok (.iaload, 1) := by decide +kernel
theorem dX7_many_10 : decode cX7_many 10 = .ok (.ireturn, 1) := by decide +kernel
theorem dX7_at_0 : decode cX7_at 0 = .ok (.sipush 1200, 3) := by decide +kernel
theorem dX7_at_3 : decode cX7_at 3 = .ok (.iload_n 1, 1) := by decide +kernel
theorem dX7_at_4 : decode cX7_at 4 = .ok (.imul, 1) := by decide +kernel
theorem dX7_at_5 : decode cX7_at 5 = .ok (.bipush 100, 2) := by decide +kernel
theorem dX7_at_7 : decode cX7_at 7 = .ok (.iadd, 1) := by decide +kernel
theorem dX7_at_8 : decode cX7_at 8 = .ok (.iconst 2, 1) := by decide +kernel
theorem dX7_at_9 : decode cX7_at 9 = .ok (.iload_n 2, 1) := by decide +kernel
theorem dX7_at_10 : decode cX7_at 10 = .ok (.imul, 1) := by decide +kernel
theorem dX7_at_11 : decode cX7_at 11 = .ok (.iadd, 1) := by decide +kernel
theorem dX7_at_12 : decode cX7_at 12 = .ok (.ireturn, 1) := by decide +kernel
theorem dX7_counterOf_0 : decode cX7_counterOf 0 = .ok (.iconst 0, 1) := by decide +kernel
theorem dX7_counterOf_1 : decode cX7_counterOf 1 = .ok (.istore_n 3, 1) := by decide +kernel
theorem dX7_counterOf_2 : decode cX7_counterOf 2 = .ok (.iload_n 3, 1) := by decide +kernel
theorem dX7_counterOf_3 : decode cX7_counterOf 3 = .ok (.aload_n 0, 1) := by decide +kernel
theorem dX7_counterOf_4 : decode cX7_counterOf 4 = .ok (.iload_n 1, 1) := by decide +kernel
theorem dX7_counterOf_5 : decode cX7_counterOf 5 = .ok (.invokevirtual 55, 3) := by decide +kernel
theorem dX7_counterOf_8 : decode cX7_counterOf 8 = .ok (.if_icmp .ge 26, 3) := by decide +kernel
end
section
theorem dX7_counterOf_11 : decode cX7_counterOf 11 = .ok (.aload_n 0, 1) := by decide +kernel
theorem dX7_counterOf_12 : decode cX7_counterOf 12 = .ok (.getfield 32, 3) := by decide +kernel
theorem dX7_counterOf_15 : decode cX7_counterOf 15 = .ok (.aload_n 0, 1) := by decide +kernel
theorem dX7_counterOf_16 : decode cX7_counterOf 16 = .ok (.iload_n 1, 1) := by decide +kernel
theorem dX7_counterOf_17 : decode cX7_counterOf 17 = .ok (.iload_n 3, 1) := by decide +kernel
theorem dX7_counterOf_18 : decode cX7_counterOf 18 = .ok (.invokevirtual 59, 3) := by decide +kernel
theorem dX7_counterOf_21 : decode cX7_counterOf 21 = .ok (.iaload, 1) := by decide +kernel
theorem dX7_counterOf_22 : decode cX7_counterOf 22 = .ok (.iload_n 2, 1) := by decide +kernel
theorem dX7_counterOf_23 : decode cX7_counterOf 23 = .ok (.if_icmp .ne 5, 3) := by decide +kernel
theorem dX7_counterOf_26 : decode cX7_counterOf 26 = .ok (.iload_n 3, 1) := by decide +kernel
theorem dX7_counterOf_27 : decode cX7_counterOf 27 = .ok (.ireturn, 1) := by decide +kernel
theorem dX7_counterOf_28 : decode cX7_counterOf 28 = .ok (.iinc 3 1, 3) := by decide +kernel
theorem dX7_counterOf_31 : decode cX7_counterOf 31 = .ok (.goto (-29), 3) := by decide +kernel
theorem dX7_counterOf_34 : decode cX7_counterOf 34 = .ok (.iconst (-1), 1) := by decide +kernel
theorem dX7_counterOf_35 : decode cX7_counterOf 35 = .ok (.ireturn, 1) := by decide +kernel
theorem dX7_add_0 : decode cX7_add 0 = .ok (.aload_n 0, 1) := by decide +kernel
theorem dX7_add_1 : decode cX7_add 1 = .ok (.iload_n 1, 1) := by decide +kernel
theorem dX7_add_2 : decode cX7_add 2 = .ok (.iload_n 2, 1) := by decide +kernel
theorem dX7_add_3 : decode cX7_add 3 = .ok (.invokevirtual 63, 3) := by decide +kernel
theorem dX7_add_6 : decode cX7_add 6 = .ok (.istore 4, 2) := by decide +kernel
theorem dX7_add_8 : decode cX7_add 8 = .ok (.iload 4, 2) := by decide +kernel
theorem dX7_add_10 : decode cX7_add 10 = .ok (.ifCond .ge 52, 3) := by decide +kernel
theorem dX7_add_13 : decode cX7_add 13 = .ok (.aload_n 0, 1) := by decide +kernel
theorem dX7_add_14 : decode cX7_add 14 = .ok (.iload_n 1, 1) := by decide +kernel
theorem dX7_add_15 : decode cX7_add 15 = .ok (.invokevirtual 55, 3) := by decide +kernel
theorem dX7_add_18 : decode cX7_add 18 = .ok (.istore 4, 2) := by decide +kernel
theorem dX7_add_20 : decode cX7_add 20 = .ok (.aload_n 0, 1) := by decide +kernel
theorem dX7_add_21 : decode cX7_add 21 = .ok (.getfield 32, 3) := by decide +kernel
theorem dX7_add_24 : decode cX7_add 24 = .ok (.aload_n 0, 1) := by decide +kernel
theorem dX7_add_25 : decode cX7_add 25 = .ok (.iload_n 1, 1) := by decide +kernel
theorem dX7_add_26 : decode cX7_add 26 = .ok (.iload 4, 2) := by decide +kernel
theorem dX7_add_28 : decode cX7_add 28 = .ok (.invokevirtual 59, 3) := by decide +kernel
theorem dX7_add_31 : decode cX7_add 31 = .ok (.iload_n 2, 1) := by decide +kernel
theorem dX7_add_32 : decode cX7_add 32 = .ok (.iastore, 1) := by decide +kernel
theorem dX7_add_33 : decode cX7_add 33 = .ok (.aload_n 0, 1) := by decide +kernel
theorem dX7_add_34 : decode cX7_add 34 = .ok (.getfield 32, 3) := by decide +kernel
theorem dX7_add_37 : decode cX7_add 37 = .ok (.aload_n 0, 1) := by decide +kernel
theorem dX7_add_38 : decode cX7_add 38 = .ok (.iload_n 1, 1) := by decide +kernel
theorem dX7_add_39 : decode cX7_add 39 = .ok (.iload 4, 2) := by decide +kernel
theorem dX7_add_41 : decode cX7_add 41 = .ok (.invokevirtual 59, 3) := by decide +kernel
theorem dX7_add_44 : decode cX7_add 44 = .ok (.iconst 1, 1) := by decide +kernel
theorem dX7_add_45 : decode cX7_add 45 = .ok (.iadd, 1) := by decide +kernel
theorem dX7_add_46 : decode cX7_add 46 = .ok (.iconst 0, 1) := by decide +kernel
theorem dX7_add_47 : decode cX7_add 47 = .ok (.iastore, 1) := by decide +kernel
theorem dX7_add_48 : decode cX7_add 48 = .ok (.aload_n 0, 1) := by decide +kernel
theorem dX7_add_49 : decode cX7_add 49 = .ok (.getfield 32, 3) := by decide +kernel
theorem dX7_add_52 : decode cX7_add 52 = .ok (.sipush 1200, 3) := by decide +kernel
theorem dX7_add_55 : decode cX7_add 55 = .ok (.iload_n 1, 1) := by decide +kernel
theorem dX7_add_56 : decode cX7_add 56 = .ok (.imul, 1) := by decide +kernel
theorem dX7_add_57 : decode cX7_add 57 = .ok (.iload 4, 2) := by decide +kernel
theorem dX7_add_59 : decode cX7_add 59 = .ok (.iconst 1, 1) := by decide +kernel
theorem dX7_add_60 : decode cX7_add 60 = .ok (.iadd, 1) := by decide +kernel
theorem dX7_add_61 : decode cX7_add 61 = .ok (.iastore, 1) := by decide +kernel
theorem dX7_add_62 : decode cX7_add 62 = .ok (.aload_n 0, 1) := by decide +kernel
theorem dX7_add_63 : decode cX7_add 63 = .ok (.getfield 32, 3) := by decide +kernel
theorem dX7_add_66 : decode cX7_add 66 = .ok (.aload_n 0, 1) := by decide +kernel
theorem dX7_add_67 : decode cX7_add 67 = .ok (.iload_n 1, 1) := by decide +kernel
theorem dX7_add_68 : decode cX7_add 68 = .ok (.iload 4, 2) := by decide +kernel
theorem dX7_add_70 : decode cX7_add 70 = .ok (.invokevirtual 59, 3) := by decide +kernel
theorem dX7_add_73 : decode cX7_add 73 = .ok (.iconst 1, 1) := by decide +kernel
theorem dX7_add_74 : decode cX7_add 74 = .ok (.iadd, 1) := by decide +kernel
theorem dX7_add_75 : decode cX7_add 75 = .ok (.aload_n 0, 1) := by decide +kernel
theorem dX7_add_76 : decode cX7_add 76 = .ok (.getfield 32, 3) := by decide +kernel
theorem dX7_add_79 : decode cX7_add 79 = .ok (.aload_n 0, 1) := by decide +kernel
theorem dX7_add_80 : decode cX7_add 80 = .ok (.iload_n 1, 1) := by decide +kernel
theorem dX7_add_81 : decode cX7_add 81 = .ok (.iload 4, 2) := by decide +kernel
theorem dX7_add_83 : decode cX7_add 83 = .ok (.invokevirtual 59, 3) := by decide +kernel
theorem dX7_add_86 : decode cX7_add 86 = .ok (.iconst 1, 1) := by decide +kernel
theorem dX7_add_87 : decode cX7_add 87 = .ok (.iadd, 1) := by decide +kernel
theorem dX7_add_88 : decode cX7_add 88 = .ok (.iaload, 1) := by decide +kernel
theorem dX7_add_89 : decode cX7_add 89 = .ok (.iload_n 3, 1) := by decide +kernel
theorem dX7_add_90 : decode cX7_add 90 = .ok (.iadd, 1) := by decide +kernel
theorem dX7_add_91 : decode cX7_add 91 = .ok (.iastore, 1) := by decide +kernel
theorem dX7_add_92 : decode cX7_add 92 = .ok (.return_, 1) := by decide +kernel
theorem dX7_lessen_0 : decode cX7_lessen 0 = .ok (.iconst 0, 1) := by decide +kernel
theorem dX7_lessen_1 : decode cX7_lessen 1 = .ok (.istore_n 3, 1) := by decide +kernel
theorem dX7_lessen_2 : decode cX7_lessen 2 = .ok (.iconst 0, 1) := by decide +kernel
theorem dX7_lessen_3 : decode cX7_lessen 3 = .ok (.istore 4, 2) := by decide +kernel
theorem dX7_lessen_5 : decode cX7_lessen 5 = .ok (.iload 4, 2) := by decide +kernel
theorem dX7_lessen_7 : decode cX7_lessen 7 = .ok (.aload_n 0, 1) := by decide +kernel
theorem dX7_lessen_8 : decode cX7_lessen 8 = .ok (.iload_n 1, 1) := by decide +kernel
theorem dX7_lessen_9 : decode cX7_lessen 9 = .ok (.invokevirtual 55, 3) := by decide +kernel
theorem dX7_lessen_12 : decode cX7_lessen 12 = .ok (.if_icmp .ge 73, 3) := by decide +kernel
theorem dX7_lessen_15 : decode cX7_lessen 15 = .ok (.aload_n 0, 1) := by decide +kernel
theorem dX7_lessen_16 : decode cX7_lessen 16 = .ok (.getfield 32, 3) := by decide +kernel
theorem dX7_lessen_19 : decode cX7_lessen 19 = .ok (.aload_n 0, 1) := by decide +kernel
theorem dX7_lessen_20 : decode cX7_lessen 20 = .ok (.iload_n 1, 1) := by decide +kernel
theorem dX7_lessen_21 : decode cX7_lessen 21 = .ok (.iload 4, 2) := by decide +kernel
theorem dX7_lessen_23 : decode cX7_lessen 23 = .ok (.invokevirtual 59, 3) := by decide +kernel
theorem dX7_lessen_26 : decode cX7_lessen 26 = .ok (.iconst 1, 1) := by decide +kernel
theorem dX7_lessen_27 : decode cX7_lessen 27 = .ok (.iadd, 1) := by decide +kernel
theorem dX7_lessen_28 : decode cX7_lessen 28 = .ok (.iaload, 1) := by decide +kernel
theorem dX7_lessen_29 : decode cX7_lessen 29 = .ok (.iload_n 2, 1) := by decide +kernel
theorem dX7_lessen_30 : decode cX7_lessen 30 = .ok (.isub, 1) := by decide +kernel
theorem dX7_lessen_31 : decode cX7_lessen 31 = .ok (.istore 5, 2) := by decide +kernel
theorem dX7_lessen_33 : decode cX7_lessen 33 = .ok (.iload 5, 2) := by decide +kernel
theorem dX7_lessen_35 : decode cX7_lessen 35 = .ok (.ifCond .le 44, 3) := by decide +kernel
theorem dX7_lessen_38 : decode cX7_lessen 38 = .ok (.aload_n 0, 1) := by decide +kernel
theorem dX7_lessen_39 : decode cX7_lessen 39 = .ok (.getfield 32, 3) := by decide +kernel
theorem dX7_lessen_42 : decode cX7_lessen 42 = .ok (.aload_n 0, 1) := by decide +kernel
theorem dX7_lessen_43 : decode cX7_lessen 43 = .ok (.iload_n 1, 1) := by decide +kernel
theorem dX7_lessen_44 : decode cX7_lessen 44 = .ok (.iload_n 3, 1) := by decide +kernel
theorem dX7_lessen_45 : decode cX7_lessen 45 = .ok (.invokevirtual 59, 3) := by decide +kernel
theorem dX7_lessen_48 : decode cX7_lessen 48 = .ok (.aload_n 0, 1) := by decide +kernel
theorem dX7_lessen_49 : decode cX7_lessen 49 = .ok (.getfield 32, 3) := by decide +kernel
theorem dX7_lessen_52 : decode cX7_lessen 52 = .ok (.aload_n 0, 1) := by decide +kernel
theorem dX7_lessen_53 : decode cX7_lessen 53 = .ok (.iload_n 1, 1) := by decide +kernel
theorem dX7_lessen_54 : decode cX7_lessen 54 = .ok (.iload 4, 2) := by decide +kernel
theorem dX7_lessen_56 : decode cX7_lessen 56 = .ok (.invokevirtual 59, 3) := by decide +kernel
theorem dX7_lessen_59 : decode cX7_lessen 59 = .ok (.iaload, 1) := by decide +kernel
theorem dX7_lessen_60 : decode cX7_lessen 60 = .ok (.iastore, 1) := by decide +kernel
theorem dX7_lessen_61 : decode cX7_lessen 61 = .ok (.aload_n 0, 1) := by decide +kernel
theorem dX7_lessen_62 : decode cX7_lessen 62 = .ok (.getfield 32, 3) := by decide +kernel
theorem dX7_lessen_65 : decode cX7_lessen 65 = .ok (.aload_n 0, 1) := by decide +kernel
theorem dX7_lessen_66 : decode cX7_lessen 66 = .ok (.iload_n 1, 1) := by decide +kernel
theorem dX7_lessen_67 : decode cX7_lessen 67 = .ok (.iload_n 3, 1) := by decide +kernel
theorem dX7_lessen_68 : decode cX7_lessen 68 = .ok (.invokevirtual 59, 3) := by decide +kernel
theorem dX7_lessen_71 : decode cX7_lessen 71 = .ok (.iconst 1, 1) := by decide +kernel
theorem dX7_lessen_72 : decode cX7_lessen 72 = .ok (.iadd, 1) := by decide +kernel
theorem dX7_lessen_73 : decode cX7_lessen 73 = .ok (.iload 5, 2) := by decide +kernel
theorem dX7_lessen_75 : decode cX7_lessen 75 = .ok (.iastore, 1) := by decide +kernel
theorem dX7_lessen_76 : decode cX7_lessen 76 = .ok (.iinc 3 1, 3) := by decide +kernel
theorem dX7_lessen_79 : decode cX7_lessen 79 = .ok (.iinc 4 1, 3) := by decide +kernel
theorem dX7_lessen_82 : decode cX7_lessen 82 = .ok (.goto (-77), 3) := by decide +kernel
theorem dX7_lessen_85 : decode cX7_lessen 85 = .ok (.aload_n 0, 1) := by decide +kernel
theorem dX7_lessen_86 : decode cX7_lessen 86 = .ok (.getfield 32, 3) := by decide +kernel
theorem dX7_lessen_89 : decode cX7_lessen 89 = .ok (.sipush 1200, 3) := by decide +kernel
theorem dX7_lessen_92 : decode cX7_lessen 92 = .ok (.iload_n 1, 1) := by decide +kernel
theorem dX7_lessen_93 : decode cX7_lessen 93 = .ok (.imul, 1) := by decide +kernel
theorem dX7_lessen_94 : decode cX7_lessen 94 = .ok (.iload_n 3, 1) := by decide +kernel
theorem dX7_lessen_95 : decode cX7_lessen 95 = .ok (.iastore, 1) := by decide +kernel
theorem dX7_lessen_96 : decode cX7_lessen 96 = .ok (.aload_n 0, 1) := by decide +kernel
theorem dX7_lessen_97 : decode cX7_lessen 97 = .ok (.getfield 29, 3) := by decide +kernel
theorem dX7_lessen_100 : decode cX7_lessen 100 = .ok (.iload_n 1, 1) := by decide +kernel
theorem dX7_lessen_101 : decode cX7_lessen 101 = .ok (.aload_n 0, 1) := by decide +kernel
theorem dX7_lessen_102 : decode cX7_lessen 102 = .ok (.getfield 29, 3) := by decide +kernel
theorem dX7_lessen_105 : decode cX7_lessen 105 = .ok (.iload_n 1, 1) := by decide +kernel
theorem dX7_lessen_106 : decode cX7_lessen 106 = .ok (.iaload, 1) := by decide +kernel
theorem dX7_lessen_107 : decode cX7_lessen 107 = .ok (.iload_n 2, 1) := by decide +kernel
theorem dX7_lessen_108 : decode cX7_lessen 108 = .ok (.iadd, 1) := by decide +kernel
theorem dX7_lessen_109 : decode cX7_lessen 109 = .ok (.iastore, 1) := by decide +kernel
theorem dX7_lessen_110 : decode cX7_lessen 110 = .ok (.return_, 1) := by decide +kernel
theorem dX7_comeHeavy_0 : decode cX7_comeHeavy 0 = .ok (.iload_n 3, 1) := by decide +kernel
theorem dX7_comeHeavy_1 : decode cX7_comeHeavy 1 = .ok (.istore 4, 2) := by decide +kernel
theorem dX7_comeHeavy_3 : decode cX7_comeHeavy 3 = .ok (.iload 4, 2) := by decide +kernel
theorem dX7_comeHeavy_5 : decode cX7_comeHeavy 5 = .ok (.ifCond .le 120, 3) := by decide +kernel
theorem dX7_comeHeavy_8 : decode cX7_comeHeavy 8 = .ok (.aload_n 0, 1) := by decide +kernel
theorem dX7_comeHeavy_9 : decode cX7_comeHeavy 9 = .ok (.iload_n 1, 1) := by decide +kernel
theorem dX7_comeHeavy_10 : decode cX7_comeHeavy 10 = .ok (.iload_n 2, 1) := by decide +kernel
theorem dX7_comeHeavy_11 : decode cX7_comeHeavy 11 = .ok (.invokevirtual 63, 3) := by decide +kernel
theorem dX7_comeHeavy_14 : decode cX7_comeHeavy 14 = .ok (.ifCond .ge 17, 3) := by decide +kernel
theorem dX7_comeHeavy_17 : decode cX7_comeHeavy 17 = .ok (.aload_n 0, 1) := by decide +kernel
theorem dX7_comeHeavy_18 : decode cX7_comeHeavy 18 = .ok (.iload_n 1, 1) := by decide +kernel
theorem dX7_comeHeavy_19 : decode cX7_comeHeavy 19 = .ok (.invokevirtual 55, 3) := by decide +kernel
theorem dX7_comeHeavy_22 : decode cX7_comeHeavy 22 = .ok (.aload_n 0, 1) := by decide +kernel
theorem dX7_comeHeavy_23 : decode cX7_comeHeavy 23 = .ok (.getfield 17, 3) := by decide +kernel
theorem dX7_comeHeavy_26 : decode cX7_comeHeavy 26 = .ok (.iload_n 1, 1) := by decide +kernel
theorem dX7_comeHeavy_27 : decode cX7_comeHeavy 27 = .ok (.iaload, 1) := by decide +kernel
theorem dX7_comeHeavy_28 : decode cX7_comeHeavy 28 = .ok (.if_icmp .ge 17, 3) := by decide +kernel
theorem dX7_comeHeavy_31 : decode cX7_comeHeavy 31 = .ok (.aload_n 0, 1) := by decide +kernel
theorem dX7_comeHeavy_32 : decode cX7_comeHeavy 32 = .ok (.iload_n 1, 1) := by decide +kernel
theorem dX7_comeHeavy_33 : decode cX7_comeHeavy 33 = .ok (.iload_n 2, 1) := by decide +kernel
theorem dX7_comeHeavy_34 : decode cX7_comeHeavy 34 = .ok (.iload 4, 2) := by decide +kernel
theorem dX7_comeHeavy_36 : decode cX7_comeHeavy 36 = .ok (.invokevirtual 66, 3) := by decide +kernel
theorem dX7_comeHeavy_39 : decode cX7_comeHeavy 39 = .ok (.iconst 0, 1) := by decide +kernel
theorem dX7_comeHeavy_40 : decode cX7_comeHeavy 40 = .ok (.istore 4, 2) := by decide +kernel
theorem dX7_comeHeavy_42 : decode cX7_comeHeavy 42 = .ok (.goto (-39), 3) := by decide +kernel
theorem dX7_comeHeavy_45 : decode cX7_comeHeavy 45 = .ok (.iload 4, 2) := by decide +kernel
theorem dX7_comeHeavy_47 : decode cX7_comeHeavy 47 = .ok (.istore 5, 2) := by decide +kernel
theorem dX7_comeHeavy_49 : decode cX7_comeHeavy 49 = .ok (.iconst 0, 1) := by decide +kernel
theorem dX7_comeHeavy_50 : decode cX7_comeHeavy 50 = .ok (.istore 6, 2) := by decide +kernel
theorem dX7_comeHeavy_52 : decode cX7_comeHeavy 52 = .ok (.iload 6, 2) := by decide +kernel
theorem dX7_comeHeavy_54 : decode cX7_comeHeavy 54 = .ok (.aload_n 0, 1) := by decide +kernel
theorem dX7_comeHeavy_55 : decode cX7_comeHeavy 55 = .ok (.iload_n 1, 1) := by decide +kernel
theorem dX7_comeHeavy_56 : decode cX7_comeHeavy 56 = .ok (.invokevirtual 55, 3) := by decide +kernel
theorem dX7_comeHeavy_59 : decode cX7_comeHeavy 59 = .ok (.if_icmp .ge 49, 3) := by decide +kernel
theorem dX7_comeHeavy_62 : decode cX7_comeHeavy 62 = .ok (.aload_n 0, 1) := by decide +kernel
theorem dX7_comeHeavy_63 : decode cX7_comeHeavy 63 = .ok (.getfield 32, 3) := by decide +kernel
theorem dX7_comeHeavy_66 : decode cX7_comeHeavy 66 = .ok (.aload_n 0, 1) := by decide +kernel
theorem dX7_comeHeavy_67 : decode cX7_comeHeavy 67 = .ok (.iload_n 1, 1) := by decide +kernel
theorem dX7_comeHeavy_68 : decode cX7_comeHeavy 68 = .ok (.iload 6, 2) := by decide +kernel
theorem dX7_comeHeavy_70 : decode cX7_comeHeavy 70 = .ok (.invokevirtual 59, 3) := by decide +kernel
theorem dX7_comeHeavy_73 : decode cX7_comeHeavy 73 = .ok (.iconst 1, 1) := by decide +kernel
theorem dX7_comeHeavy_74 : decode cX7_comeHeavy 74 = .ok (.iadd, 1) := by decide +kernel
theorem dX7_comeHeavy_75 : decode cX7_comeHeavy 75 = .ok (.iaload, 1) := by decide +kernel
theorem dX7_comeHeavy_76 : decode cX7_comeHeavy 76 = .ok (.iload 5, 2) := by decide +kernel
theorem dX7_comeHeavy_78 : decode cX7_comeHeavy 78 = .ok (.if_icmp .ge 20, 3) := by decide +kernel
theorem dX7_comeHeavy_81 : decode cX7_comeHeavy 81 = .ok (.aload_n 0, 1) := by decide +kernel
theorem dX7_comeHeavy_82 : decode cX7_comeHeavy 82 = .ok (.getfield 32, 3) := by decide +kernel
theorem dX7_comeHeavy_85 : decode cX7_comeHeavy 85 = .ok (.aload_n 0, 1) := by decide +kernel
theorem dX7_comeHeavy_86 : decode cX7_comeHeavy 86 = .ok (.iload_n 1, 1) := by decide +kernel
theorem dX7_comeHeavy_87 : decode cX7_comeHeavy 87 = .ok (.iload 6, 2) := by decide +kernel
theorem dX7_comeHeavy_89 : decode cX7_comeHeavy 89 = .ok (.invokevirtual 59, 3) := by decide +kernel
theorem dX7_comeHeavy_92 : decode cX7_comeHeavy 92 = .ok (.iconst 1, 1) := by decide +kernel
theorem dX7_comeHeavy_93 : decode cX7_comeHeavy 93 = .ok (.iadd, 1) := by decide +kernel
theorem dX7_comeHeavy_94 : decode cX7_comeHeavy 94 = .ok (.iaload, 1) := by decide +kernel
theorem dX7_comeHeavy_95 : decode cX7_comeHeavy 95 = .ok (.goto 5, 3) := by decide +kernel
theorem dX7_comeHeavy_98 : decode cX7_comeHeavy 98 = .ok (.iload 5, 2) := by decide +kernel
theorem dX7_comeHeavy_100 : decode cX7_comeHeavy 100 = .ok (.istore 5, 2) := by decide +kernel
theorem dX7_comeHeavy_102 : decode cX7_comeHeavy 102 = .ok (.iinc 6 1, 3) := by decide +kernel
theorem dX7_comeHeavy_105 : decode cX7_comeHeavy 105 = .ok (.goto (-53), 3) := by decide +kernel
theorem dX7_comeHeavy_108 : decode cX7_comeHeavy 108 = .ok (.aload_n 0, 1) := by decide +kernel
theorem dX7_comeHeavy_109 : decode cX7_comeHeavy 109 = .ok (.iload_n 1, 1) := by decide +kernel
theorem dX7_comeHeavy_110 : decode cX7_comeHeavy 110 = .ok (.iload 5, 2) := by decide +kernel
theorem dX7_comeHeavy_112 : decode cX7_comeHeavy 112 = .ok (.invokevirtual 70, 3) := by decide +kernel
theorem dX7_comeHeavy_115 : decode cX7_comeHeavy 115 = .ok (.iload 4, 2) := by decide +kernel
theorem dX7_comeHeavy_117 : decode cX7_comeHeavy 117 = .ok (.iload 5, 2) := by decide +kernel
theorem dX7_comeHeavy_119 : decode cX7_comeHeavy 119 = .ok (.isub, 1) := by decide +kernel
theorem dX7_comeHeavy_120 : decode cX7_comeHeavy 120 = .ok (.istore 4, 2) := by decide +kernel
theorem dX7_comeHeavy_122 : decode cX7_comeHeavy 122 = .ok (.goto (-119), 3) := by decide +kernel
theorem dX7_comeHeavy_125 : decode cX7_comeHeavy 125 = .ok (.return_, 1) := by decide +kernel
theorem dX7_joinHeavy_0 : decode cX7_joinHeavy 0 = .ok (.iconst 0, 1) := by decide +kernel
theorem dX7_joinHeavy_1 : decode cX7_joinHeavy 1 = .ok (.istore_n 3, 1) := by decide +kernel
theorem dX7_joinHeavy_2 : decode cX7_joinHeavy 2 = .ok (.iload_n 3, 1) := by decide +kernel
theorem dX7_joinHeavy_3 : decode cX7_joinHeavy 3 = .ok (.aload_n 0, 1) := by decide +kernel
theorem dX7_joinHeavy_4 : decode cX7_joinHeavy 4 = .ok (.iload_n 2, 1) := by decide +kernel
theorem dX7_joinHeavy_5 : decode cX7_joinHeavy 5 = .ok (.invokevirtual 55, 3) := by decide +kernel
theorem dX7_joinHeavy_8 : decode cX7_joinHeavy 8 = .ok (.if_icmp .ge 38, 3) := by decide +kernel
theorem dX7_joinHeavy_11 : decode cX7_joinHeavy 11 = .ok (.aload_n 0, 1) := by decide +kernel
theorem dX7_joinHeavy_12 : decode cX7_joinHeavy 12 = .ok (.iload_n 1, 1) := by decide +kernel
theorem dX7_joinHeavy_13 : decode cX7_joinHeavy 13 = .ok (.aload_n 0, 1) := by decide +kernel
theorem dX7_joinHeavy_14 : decode cX7_joinHeavy 14 = .ok (.getfield 32, 3) := by decide +kernel
theorem dX7_joinHeavy_17 : decode cX7_joinHeavy 17 = .ok (.aload_n 0, 1) := by decide +kernel
theorem dX7_joinHeavy_18 : decode cX7_joinHeavy 18 = .ok (.iload_n 2, 1) := by decide +kernel
theorem dX7_joinHeavy_19 : decode cX7_joinHeavy 19 = .ok (.iload_n 3, 1) := by decide +kernel
theorem dX7_joinHeavy_20 : decode cX7_joinHeavy 20 = .ok (.invokevirtual 59, 3) := by decide +kernel
theorem dX7_joinHeavy_23 : decode cX7_joinHeavy 23 = .ok (.iaload, 1) := by decide +kernel
theorem dX7_joinHeavy_24 : decode cX7_joinHeavy 24 = .ok (.aload_n 0, 1) := by decide +kernel
theorem dX7_joinHeavy_25 : decode cX7_joinHeavy 25 = .ok (.getfield 32, 3) := by decide +kernel
theorem dX7_joinHeavy_28 : decode cX7_joinHeavy 28 = .ok (.aload_n 0, 1) := by decide +kernel
theorem dX7_joinHeavy_29 : decode cX7_joinHeavy 29 = .ok (.iload_n 2, 1) := by decide +kernel
theorem dX7_joinHeavy_30 : decode cX7_joinHeavy 30 = .ok (.iload_n 3, 1) := by decide +kernel
theorem dX7_joinHeavy_31 : decode cX7_joinHeavy 31 = .ok (.invokevirtual 59, 3) := by decide +kernel
theorem dX7_joinHeavy_34 : decode cX7_joinHeavy 34 = .ok (.iconst 1, 1) := by decide +kernel
theorem dX7_joinHeavy_35 : decode cX7_joinHeavy 35 = .ok (.iadd, 1) := by decide +kernel
theorem dX7_joinHeavy_36 : decode cX7_joinHeavy 36 = .ok (.iaload, 1) := by decide +kernel
theorem dX7_joinHeavy_37 : decode cX7_joinHeavy 37 = .ok (.invokevirtual 66, 3) := by decide +kernel
theorem dX7_joinHeavy_40 : decode cX7_joinHeavy 40 = .ok (.iinc 3 1, 3) := by decide +kernel
theorem dX7_joinHeavy_43 : decode cX7_joinHeavy 43 = .ok (.goto (-41), 3) := by decide +kernel
theorem dX7_joinHeavy_46 : decode cX7_joinHeavy 46 = .ok (.aload_n 0, 1) := by decide +kernel
theorem dX7_joinHeavy_47 : decode cX7_joinHeavy 47 = .ok (.getfield 29, 3) := by decide +kernel
theorem dX7_joinHeavy_50 : decode cX7_joinHeavy 50 = .ok (.iload_n 1, 1) := by decide +kernel
theorem dX7_joinHeavy_51 : decode cX7_joinHeavy 51 = .ok (.aload_n 0, 1) := by decide +kernel
theorem dX7_joinHeavy_52 : decode cX7_joinHeavy 52 = .ok (.getfield 29, 3) := by decide +kernel
theorem dX7_joinHeavy_55 : decode cX7_joinHeavy 55 = .ok (.iload_n 1, 1) := by decide +kernel
theorem dX7_joinHeavy_56 : decode cX7_joinHeavy 56 = .ok (.iaload, 1) := by decide +kernel
theorem dX7_joinHeavy_57 : decode cX7_joinHeavy 57 = .ok (.aload_n 0, 1) := by decide +kernel
theorem dX7_joinHeavy_58 : decode cX7_joinHeavy 58 = .ok (.getfield 29, 3) := by decide +kernel
theorem dX7_joinHeavy_61 : decode cX7_joinHeavy 61 = .ok (.iload_n 2, 1) := by decide +kernel
theorem dX7_joinHeavy_62 : decode cX7_joinHeavy 62 = .ok (.iaload, 1) := by decide +kernel
theorem dX7_joinHeavy_63 : decode cX7_joinHeavy 63 = .ok (.iadd, 1) := by decide +kernel
theorem dX7_joinHeavy_64 : decode cX7_joinHeavy 64 = .ok (.iastore, 1) := by decide +kernel
theorem dX7_joinHeavy_65 : decode cX7_joinHeavy 65 = .ok (.aload_n 0, 1) := by decide +kernel
theorem dX7_joinHeavy_66 : decode cX7_joinHeavy 66 = .ok (.iload_n 1, 1) := by decide +kernel
theorem dX7_joinHeavy_67 : decode cX7_joinHeavy 67 = .ok (.invokevirtual 55, 3) := by decide +kernel
theorem dX7_joinHeavy_70 : decode cX7_joinHeavy 70 = .ok (.aload_n 0, 1) := by decide +kernel
theorem dX7_joinHeavy_71 : decode cX7_joinHeavy 71 = .ok (.getfield 17, 3) := by decide +kernel
theorem dX7_joinHeavy_74 : decode cX7_joinHeavy 74 = .ok (.iload_n 1, 1) := by decide +kernel
theorem dX7_joinHeavy_75 : decode cX7_joinHeavy 75 = .ok (.iaload, 1) := by decide +kernel
theorem dX7_joinHeavy_76 : decode cX7_joinHeavy 76 = .ok (.if_icmp .le 129, 3) := by decide +kernel
theorem dX7_joinHeavy_79 : decode cX7_joinHeavy 79 = .ok (.iconst 0, 1) := by decide +kernel
theorem dX7_joinHeavy_80 : decode cX7_joinHeavy 80 = .ok (.istore_n 3, 1) := by decide +kernel
theorem dX7_joinHeavy_81 : decode cX7_joinHeavy 81 = .ok (.iload_n 3, 1) := by decide +kernel
theorem dX7_joinHeavy_82 : decode cX7_joinHeavy 82 = .ok (.aload_n 0, 1) := by decide +kernel
theorem dX7_joinHeavy_83 : decode cX7_joinHeavy 83 = .ok (.iload_n 1, 1) := by decide +kernel
theorem dX7_joinHeavy_84 : decode cX7_joinHeavy 84 = .ok (.invokevirtual 55, 3) := by decide +kernel
theorem dX7_joinHeavy_87 : decode cX7_joinHeavy 87 = .ok (.if_icmp .ge 118, 3) := by decide +kernel
theorem dX7_joinHeavy_90 : decode cX7_joinHeavy 90 = .ok (.iconst 0, 1) := by decide +kernel
theorem dX7_joinHeavy_91 : decode cX7_joinHeavy 91 = .ok (.istore 4, 2) := by decide +kernel
theorem dX7_joinHeavy_93 : decode cX7_joinHeavy 93 = .ok (.iconst 0, 1) := by decide +kernel
theorem dX7_joinHeavy_94 : decode cX7_joinHeavy 94 = .ok (.istore 5, 2) := by decide +kernel
theorem dX7_joinHeavy_96 : decode cX7_joinHeavy 96 = .ok (.iload 5, 2) := by decide +kernel
theorem dX7_joinHeavy_98 : decode cX7_joinHeavy 98 = .ok (.aload_n 0, 1) := by decide +kernel
theorem dX7_joinHeavy_99 : decode cX7_joinHeavy 99 = .ok (.iload_n 1, 1) := by decide +kernel
theorem dX7_joinHeavy_100 : decode cX7_joinHeavy 100 = .ok (.invokevirtual 55, 3) := by decide +kernel
theorem dX7_joinHeavy_103 : decode cX7_joinHeavy 103 = .ok (.if_icmp .ge 66, 3) := by decide +kernel
theorem dX7_joinHeavy_106 : decode cX7_joinHeavy 106 = .ok (.aload_n 0, 1) := by decide +kernel
theorem dX7_joinHeavy_107 : decode cX7_joinHeavy 107 = .ok (.getfield 32, 3) := by decide +kernel
theorem dX7_joinHeavy_110 : decode cX7_joinHeavy 110 = .ok (.aload_n 0, 1) := by decide +kernel
theorem dX7_joinHeavy_111 : decode cX7_joinHeavy 111 = .ok (.iload_n 1, 1) := by decide +kernel
theorem dX7_joinHeavy_112 : decode cX7_joinHeavy 112 = .ok (.iload 5, 2) := by decide +kernel
theorem dX7_joinHeavy_114 : decode cX7_joinHeavy 114 = .ok (.invokevirtual 59, 3) := by decide +kernel
theorem dX7_joinHeavy_117 : decode cX7_joinHeavy 117 = .ok (.iconst 1, 1) := by decide +kernel
theorem dX7_joinHeavy_118 : decode cX7_joinHeavy 118 = .ok (.iadd, 1) := by decide +kernel
theorem dX7_joinHeavy_119 : decode cX7_joinHeavy 119 = .ok (.iaload, 1) := by decide +kernel
theorem dX7_joinHeavy_120 : decode cX7_joinHeavy 120 = .ok (.aload_n 0, 1) := by decide +kernel
theorem dX7_joinHeavy_121 : decode cX7_joinHeavy 121 = .ok (.getfield 32, 3) := by decide +kernel
theorem dX7_joinHeavy_124 : decode cX7_joinHeavy 124 = .ok (.aload_n 0, 1) := by decide +kernel
theorem dX7_joinHeavy_125 : decode cX7_joinHeavy 125 = .ok (.iload_n 1, 1) := by decide +kernel
theorem dX7_joinHeavy_126 : decode cX7_joinHeavy 126 = .ok (.iload_n 3, 1) := by decide +kernel
theorem dX7_joinHeavy_127 : decode cX7_joinHeavy 127 = .ok (.invokevirtual 59, 3) := by decide +kernel
theorem dX7_joinHeavy_130 : decode cX7_joinHeavy 130 = .ok (.iconst 1, 1) := by decide +kernel
theorem dX7_joinHeavy_131 : decode cX7_joinHeavy 131 = .ok (.iadd, 1) := by decide +kernel
theorem dX7_joinHeavy_132 : decode cX7_joinHeavy 132 = .ok (.iaload, 1) := by decide +kernel
theorem dX7_joinHeavy_133 : decode cX7_joinHeavy 133 = .ok (.isub, 1) := by decide +kernel
theorem dX7_joinHeavy_134 : decode cX7_joinHeavy 134 = .ok (.istore 6, 2) := by decide +kernel
theorem dX7_joinHeavy_136 : decode cX7_joinHeavy 136 = .ok (.iload 6, 2) := by decide +kernel
theorem dX7_joinHeavy_138 : decode cX7_joinHeavy 138 = .ok (.ifCond .gt 14, 3) := by decide +kernel
theorem dX7_joinHeavy_141 : decode cX7_joinHeavy 141 = .ok (.iload 6, 2) := by decide +kernel
theorem dX7_joinHeavy_143 : decode cX7_joinHeavy 143 = .ok (.ifCond .ne 16, 3) := by decide +kernel
theorem dX7_joinHeavy_146 : decode cX7_joinHeavy 146 = .ok (.iload 5, 2) := by decide +kernel
theorem dX7_joinHeavy_148 : decode cX7_joinHeavy 148 = .ok (.iload_n 3, 1) := by decide +kernel
theorem dX7_joinHeavy_149 : decode cX7_joinHeavy 149 = .ok (.if_icmp .ge 10, 3) := by decide +kernel
theorem dX7_joinHeavy_152 : decode cX7_joinHeavy 152 = .ok (.iload 4, 2) := by decide +kernel
theorem dX7_joinHeavy_154 : decode cX7_joinHeavy 154 = .ok (.iconst 1, 1) := by decide +kernel
theorem dX7_joinHeavy_155 : decode cX7_joinHeavy 155 = .ok (.iadd, 1) := by decide +kernel
theorem dX7_joinHeavy_156 : decode cX7_joinHeavy 156 = .ok (.goto 5, 3) := by decide +kernel
theorem dX7_joinHeavy_159 : decode cX7_joinHeavy 159 = .ok (.iload 4, 2) := by decide +kernel
theorem dX7_joinHeavy_161 : decode cX7_joinHeavy 161 = .ok (.istore 4, 2) := by decide +kernel
theorem dX7_joinHeavy_163 : decode cX7_joinHeavy 163 = .ok (.iinc 5 1, 3) := by decide +kernel
theorem dX7_joinHeavy_166 : decode cX7_joinHeavy 166 = .ok (.goto (-70), 3) := by decide +kernel
theorem dX7_joinHeavy_169 : decode cX7_joinHeavy 169 = .ok (.iload 4, 2) := by decide +kernel
theorem dX7_joinHeavy_171 : decode cX7_joinHeavy 171 = .ok (.aload_n 0, 1) := by decide +kernel
theorem dX7_joinHeavy_172 : decode cX7_joinHeavy 172 = .ok (.getfield 17, 3) := by decide +kernel
theorem dX7_joinHeavy_175 : decode cX7_joinHeavy 175 = .ok (.iload_n 1, 1) := by decide +kernel
theorem dX7_joinHeavy_176 : decode cX7_joinHeavy 176 = .ok (.iaload, 1) := by decide +kernel
theorem dX7_joinHeavy_177 : decode cX7_joinHeavy 177 = .ok (.if_icmp .ne 22, 3) := by decide +kernel
theorem dX7_joinHeavy_180 : decode cX7_joinHeavy 180 = .ok (.aload_n 0, 1) := by decide +kernel
theorem dX7_joinHeavy_181 : decode cX7_joinHeavy 181 = .ok (.iload_n 1, 1) := by decide +kernel
theorem dX7_joinHeavy_182 : decode cX7_joinHeavy 182 = .ok (.aload_n 0, 1) := by decide +kernel
theorem dX7_joinHeavy_183 : decode cX7_joinHeavy 183 = .ok (.getfield 32, 3) := by decide +kernel
theorem dX7_joinHeavy_186 : decode cX7_joinHeavy 186 = .ok (.aload_n 0, 1) := by decide +kernel
theorem dX7_joinHeavy_187 : decode cX7_joinHeavy 187 = .ok (.iload_n 1, 1) := by decide +kernel
theorem dX7_joinHeavy_188 : decode cX7_joinHeavy 188 = .ok (.iload_n 3, 1) := by decide +kernel
theorem dX7_joinHeavy_189 : decode cX7_joinHeavy 189 = .ok (.invokevirtual 59, 3) := by decide +kernel
theorem dX7_joinHeavy_192 : decode cX7_joinHeavy 192 = .ok (.iconst 1, 1) := by decide +kernel
theorem dX7_joinHeavy_193 : decode cX7_joinHeavy 193 = .ok (.iadd, 1) := by decide +kernel
theorem dX7_joinHeavy_194 : decode cX7_joinHeavy 194 = .ok (.iaload, 1) := by decide +kernel
theorem dX7_joinHeavy_195 : decode cX7_joinHeavy 195 = .ok (.invokevirtual 70, 3) := by decide +kernel
theorem dX7_joinHeavy_198 : decode cX7_joinHeavy 198 = .ok (.return_, 1) := by decide +kernel
theorem dX7_joinHeavy_199 : decode cX7_joinHeavy 199 = .ok (.iinc 3 1, 3) := by decide +kernel
theorem dX7_joinHeavy_202 : decode cX7_joinHeavy 202 = .ok (.goto (-121), 3) := by decide +kernel
theorem dX7_joinHeavy_205 : decode cX7_joinHeavy 205 = .ok (.return_, 1) := by decide +kernel
theorem dX7_cell_0 : decode cX7_cell 0 = .ok (.aload_n 0, 1) := by decide +kernel
theorem dX7_cell_1 : decode cX7_cell 1 = .ok (.getfield 20, 3) := by decide +kernel
theorem dX7_cell_4 : decode cX7_cell 4 = .ok (.iload_n 1, 1) := by decide +kernel
theorem dX7_cell_5 : decode cX7_cell 5 = .ok (.iaload, 1) := by decide +kernel
theorem dX7_cell_6 : decode cX7_cell 6 = .ok (.iload_n 2, 1) := by decide +kernel
theorem dX7_cell_7 : decode cX7_cell 7 = .ok (.iload_n 3, 1) := by decide +kernel
theorem dX7_cell_8 : decode cX7_cell 8 = .ok (.invokestatic 74, 3) := by decide +kernel
theorem dX7_cell_11 : decode cX7_cell 11 = .ok (.aload_n 0, 1) := by decide +kernel
theorem dX7_cell_12 : decode cX7_cell 12 = .ok (.getfield 17, 3) := by decide +kernel
theorem dX7_cell_15 : decode cX7_cell 15 = .ok (.iload_n 1, 1) := by decide +kernel
theorem dX7_cell_16 : decode cX7_cell 16 = .ok (.iaload, 1) := by decide +kernel
theorem dX7_cell_17 : decode cX7_cell 17 = .ok (.irem, 1) := by decide +kernel
theorem dX7_cell_18 : decode cX7_cell 18 = .ok (.istore 4, 2) := by decide +kernel
theorem dX7_cell_20 : decode cX7_cell 20 = .ok (.sipush 1200, 3) := by decide +kernel
theorem dX7_cell_23 : decode cX7_cell 23 = .ok (.iload_n 1, 1) := by decide +kernel
theorem dX7_cell_24 : decode cX7_cell 24 = .ok (.imul, 1) := by decide +kernel
theorem dX7_cell_25 : decode cX7_cell 25 = .ok (.bipush 100, 2) := by decide +kernel
theorem dX7_cell_27 : decode cX7_cell 27 = .ok (.iadd, 1) := by decide +kernel
theorem dX7_cell_28 : decode cX7_cell 28 = .ok (.aload_n 0, 1) := by decide +kernel
theorem dX7_cell_29 : decode cX7_cell 29 = .ok (.getfield 13, 3) := by decide +kernel
theorem dX7_cell_32 : decode cX7_cell 32 = .ok (.iload_n 1, 1) := by decide +kernel
theorem dX7_cell_33 : decode cX7_cell 33 = .ok (.iaload, 1) := by decide +kernel
theorem dX7_cell_34 : decode cX7_cell 34 = .ok (.iconst 1, 1) := by decide +kernel
theorem dX7_cell_35 : decode cX7_cell 35 = .ok (.if_icmp .ne 17, 3) := by decide +kernel
theorem dX7_cell_38 : decode cX7_cell 38 = .ok (.aload_n 0, 1) := by decide +kernel
theorem dX7_cell_39 : decode cX7_cell 39 = .ok (.getfield 17, 3) := by decide +kernel
theorem dX7_cell_42 : decode cX7_cell 42 = .ok (.iload_n 1, 1) := by decide +kernel
theorem dX7_cell_43 : decode cX7_cell 43 = .ok (.iaload, 1) := by decide +kernel
theorem dX7_cell_44 : decode cX7_cell 44 = .ok (.iload_n 2, 1) := by decide +kernel
theorem dX7_cell_45 : decode cX7_cell 45 = .ok (.imul, 1) := by decide +kernel
theorem dX7_cell_46 : decode cX7_cell 46 = .ok (.iload 4, 2) := by decide +kernel
theorem dX7_cell_48 : decode cX7_cell 48 = .ok (.iadd, 1) := by decide +kernel
theorem dX7_cell_49 : decode cX7_cell 49 = .ok (.goto 5, 3) := by decide +kernel
theorem dX7_cell_52 : decode cX7_cell 52 = .ok (.iload 4, 2) := by decide +kernel
theorem dX7_cell_54 : decode cX7_cell 54 = .ok (.iadd, 1) := by decide +kernel
theorem dX7_cell_55 : decode cX7_cell 55 = .ok (.ireturn, 1) := by decide +kernel
theorem dX7_keep_0 : decode cX7_keep 0 = .ok (.iconst (-1), 1) := by decide +kernel
theorem dX7_keep_1 : decode cX7_keep 1 = .ok (.istore_n 3, 1) := by decide +kernel
theorem dX7_keep_2 : decode cX7_keep 2 = .ok (.iconst 0, 1) := by decide +kernel
theorem dX7_keep_3 : decode cX7_keep 3 = .ok (.istore 4, 2) := by decide +kernel
theorem dX7_keep_5 : decode cX7_keep 5 = .ok (.iload 4, 2) := by decide +kernel
theorem dX7_keep_7 : decode cX7_keep 7 = .ok (.aload_n 0, 1) := by decide +kernel
theorem dX7_keep_8 : decode cX7_keep 8 = .ok (.iload_n 1, 1) := by decide +kernel
theorem dX7_keep_9 : decode cX7_keep 9 = .ok (.invokevirtual 55, 3) := by decide +kernel
theorem dX7_keep_12 : decode cX7_keep 12 = .ok (.if_icmp .ge 65, 3) := by decide +kernel
theorem dX7_keep_15 : decode cX7_keep 15 = .ok (.aload_n 0, 1) := by decide +kernel
theorem dX7_keep_16 : decode cX7_keep 16 = .ok (.getfield 32, 3) := by decide +kernel
theorem dX7_keep_19 : decode cX7_keep 19 = .ok (.sipush 1200, 3) := by decide +kernel
theorem dX7_keep_22 : decode cX7_keep 22 = .ok (.iload_n 1, 1) := by decide +kernel
theorem dX7_keep_23 : decode cX7_keep 23 = .ok (.imul, 1) := by decide +kernel
theorem dX7_keep_24 : decode cX7_keep 24 = .ok (.bipush 100, 2) := by decide +kernel
theorem dX7_keep_26 : decode cX7_keep 26 = .ok (.iadd, 1) := by decide +kernel
theorem dX7_keep_27 : decode cX7_keep 27 = .ok (.iload 4, 2) := by decide +kernel
theorem dX7_keep_29 : decode cX7_keep 29 = .ok (.iadd, 1) := by decide +kernel
theorem dX7_keep_30 : decode cX7_keep 30 = .ok (.iaload, 1) := by decide +kernel
theorem dX7_keep_31 : decode cX7_keep 31 = .ok (.istore 5, 2) := by decide +kernel
theorem dX7_keep_33 : decode cX7_keep 33 = .ok (.iload 5, 2) := by decide +kernel
theorem dX7_keep_35 : decode cX7_keep 35 = .ok (.iload_n 2, 1) := by decide +kernel
theorem dX7_keep_36 : decode cX7_keep 36 = .ok (.if_icmp .ne 4, 3) := by decide +kernel
theorem dX7_keep_39 : decode cX7_keep 39 = .ok (.return_, 1) := by decide +kernel
theorem dX7_keep_40 : decode cX7_keep 40 = .ok (.iload_n 3, 1) := by decide +kernel
theorem dX7_keep_41 : decode cX7_keep 41 = .ok (.ifCond .lt 23, 3) := by decide +kernel
theorem dX7_keep_44 : decode cX7_keep 44 = .ok (.iload 5, 2) := by decide +kernel
theorem dX7_keep_46 : decode cX7_keep 46 = .ok (.aload_n 0, 1) := by decide +kernel
theorem dX7_keep_47 : decode cX7_keep 47 = .ok (.getfield 32, 3) := by decide +kernel
theorem dX7_keep_50 : decode cX7_keep 50 = .ok (.sipush 1200, 3) := by decide +kernel
theorem dX7_keep_53 : decode cX7_keep 53 = .ok (.iload_n 1, 1) := by decide +kernel
theorem dX7_keep_54 : decode cX7_keep 54 = .ok (.imul, 1) := by decide +kernel
theorem dX7_keep_55 : decode cX7_keep 55 = .ok (.bipush 100, 2) := by decide +kernel
theorem dX7_keep_57 : decode cX7_keep 57 = .ok (.iadd, 1) := by decide +kernel
theorem dX7_keep_58 : decode cX7_keep 58 = .ok (.iload_n 3, 1) := by decide +kernel
theorem dX7_keep_59 : decode cX7_keep 59 = .ok (.iadd, 1) := by decide +kernel
theorem dX7_keep_60 : decode cX7_keep 60 = .ok (.iaload, 1) := by decide +kernel
theorem dX7_keep_61 : decode cX7_keep 61 = .ok (.if_icmp .le 8, 3) := by decide +kernel
theorem dX7_keep_64 : decode cX7_keep 64 = .ok (.iload 4, 2) := by decide +kernel
theorem dX7_keep_66 : decode cX7_keep 66 = .ok (.goto 4, 3) := by decide +kernel
theorem dX7_keep_69 : decode cX7_keep 69 = .ok (.iload_n 3, 1) := by decide +kernel
theorem dX7_keep_70 : decode cX7_keep 70 = .ok (.istore_n 3, 1) := by decide +kernel
theorem dX7_keep_71 : decode cX7_keep 71 = .ok (.iinc 4 1, 3) := by decide +kernel
theorem dX7_keep_74 : decode cX7_keep 74 = .ok (.goto (-69), 3) := by decide +kernel
theorem dX7_keep_77 : decode cX7_keep 77 = .ok (.aload_n 0, 1) := by decide +kernel
theorem dX7_keep_78 : decode cX7_keep 78 = .ok (.iload_n 1, 1) := by decide +kernel
theorem dX7_keep_79 : decode cX7_keep 79 = .ok (.invokevirtual 55, 3) := by decide +kernel
theorem dX7_keep_82 : decode cX7_keep 82 = .ok (.aload_n 0, 1) := by decide +kernel
theorem dX7_keep_83 : decode cX7_keep 83 = .ok (.getfield 17, 3) := by decide +kernel
theorem dX7_keep_86 : decode cX7_keep 86 = .ok (.iload_n 1, 1) := by decide +kernel
theorem dX7_keep_87 : decode cX7_keep 87 = .ok (.iaload, 1) := by decide +kernel
theorem dX7_keep_88 : decode cX7_keep 88 = .ok (.if_icmp .ge 43, 3) := by decide +kernel
theorem dX7_keep_91 : decode cX7_keep 91 = .ok (.aload_n 0, 1) := by decide +kernel
theorem dX7_keep_92 : decode cX7_keep 92 = .ok (.getfield 32, 3) := by decide +kernel
theorem dX7_keep_95 : decode cX7_keep 95 = .ok (.sipush 1200, 3) := by decide +kernel
theorem dX7_keep_98 : decode cX7_keep 98 = .ok (.iload_n 1, 1) := by decide +kernel
theorem dX7_keep_99 : decode cX7_keep 99 = .ok (.imul, 1) := by decide +kernel
theorem dX7_keep_100 : decode cX7_keep 100 = .ok (.bipush 100, 2) := by decide +kernel
theorem dX7_keep_102 : decode cX7_keep 102 = .ok (.iadd, 1) := by decide +kernel
theorem dX7_keep_103 : decode cX7_keep 103 = .ok (.aload_n 0, 1) := by decide +kernel
theorem dX7_keep_104 : decode cX7_keep 104 = .ok (.iload_n 1, 1) := by decide +kernel
theorem dX7_keep_105 : decode cX7_keep 105 = .ok (.invokevirtual 55, 3) := by decide +kernel
theorem dX7_keep_108 : decode cX7_keep 108 = .ok (.iadd, 1) := by decide +kernel
theorem dX7_keep_109 : decode cX7_keep 109 = .ok (.iload_n 2, 1) := by decide +kernel
theorem dX7_keep_110 : decode cX7_keep 110 = .ok (.iastore, 1) := by decide +kernel
theorem dX7_keep_111 : decode cX7_keep 111 = .ok (.aload_n 0, 1) := by decide +kernel
theorem dX7_keep_112 : decode cX7_keep 112 = .ok (.getfield 32, 3) := by decide +kernel
theorem dX7_keep_115 : decode cX7_keep 115 = .ok (.sipush 1200, 3) := by decide +kernel
theorem dX7_keep_118 : decode cX7_keep 118 = .ok (.iload_n 1, 1) := by decide +kernel
theorem dX7_keep_119 : decode cX7_keep 119 = .ok (.imul, 1) := by decide +kernel
theorem dX7_keep_120 : decode cX7_keep 120 = .ok (.aload_n 0, 1) := by decide +kernel
theorem dX7_keep_121 : decode cX7_keep 121 = .ok (.iload_n 1, 1) := by decide +kernel
theorem dX7_keep_122 : decode cX7_keep 122 = .ok (.invokevirtual 55, 3) := by decide +kernel
theorem dX7_keep_125 : decode cX7_keep 125 = .ok (.iconst 1, 1) := by decide +kernel
theorem dX7_keep_126 : decode cX7_keep 126 = .ok (.iadd, 1) := by decide +kernel
theorem dX7_keep_127 : decode cX7_keep 127 = .ok (.iastore, 1) := by decide +kernel
theorem dX7_keep_128 : decode cX7_keep 128 = .ok (.goto 38, 3) := by decide +kernel
theorem dX7_keep_131 : decode cX7_keep 131 = .ok (.iload_n 2, 1) := by decide +kernel
theorem dX7_keep_132 : decode cX7_keep 132 = .ok (.aload_n 0, 1) := by decide +kernel
theorem dX7_keep_133 : decode cX7_keep 133 = .ok (.getfield 32, 3) := by decide +kernel
theorem dX7_keep_136 : decode cX7_keep 136 = .ok (.sipush 1200, 3) := by decide +kernel
theorem dX7_keep_139 : decode cX7_keep 139 = .ok (.iload_n 1, 1) := by decide +kernel
theorem dX7_keep_140 : decode cX7_keep 140 = .ok (.imul, 1) := by decide +kernel
theorem dX7_keep_141 : decode cX7_keep 141 = .ok (.bipush 100, 2) := by decide +kernel
theorem dX7_keep_143 : decode cX7_keep 143 = .ok (.iadd, 1) := by decide +kernel
theorem dX7_keep_144 : decode cX7_keep 144 = .ok (.iload_n 3, 1) := by decide +kernel
theorem dX7_keep_145 : decode cX7_keep 145 = .ok (.iadd, 1) := by decide +kernel
theorem dX7_keep_146 : decode cX7_keep 146 = .ok (.iaload, 1) := by decide +kernel
theorem dX7_keep_147 : decode cX7_keep 147 = .ok (.if_icmp .ge 19, 3) := by decide +kernel
theorem dX7_keep_150 : decode cX7_keep 150 = .ok (.aload_n 0, 1) := by decide +kernel
theorem dX7_keep_151 : decode cX7_keep 151 = .ok (.getfield 32, 3) := by decide +kernel
theorem dX7_keep_154 : decode cX7_keep 154 = .ok (.sipush 1200, 3) := by decide +kernel
theorem dX7_keep_157 : decode cX7_keep 157 = .ok (.iload_n 1, 1) := by decide +kernel
theorem dX7_keep_158 : decode cX7_keep 158 = .ok (.imul, 1) := by decide +kernel
theorem dX7_keep_159 : decode cX7_keep 159 = .ok (.bipush 100, 2) := by decide +kernel
theorem dX7_keep_161 : decode cX7_keep 161 = .ok (.iadd, 1) := by decide +kernel
theorem dX7_keep_162 : decode cX7_keep 162 = .ok (.iload_n 3, 1) := by decide +kernel
theorem dX7_keep_163 : decode cX7_keep 163 = .ok (.iadd, 1) := by decide +kernel
theorem dX7_keep_164 : decode cX7_keep 164 = .ok (.iload_n 2, 1) := by decide +kernel
theorem dX7_keep_165 : decode cX7_keep 165 = .ok (.iastore, 1) := by decide +kernel
theorem dX7_keep_166 : decode cX7_keep 166 = .ok (.return_, 1) := by decide +kernel
theorem dX7_keyAt_0 : decode cX7_keyAt 0 = .ok (.sipush 1200, 3) := by decide +kernel
theorem dX7_keyAt_3 : decode cX7_keyAt 3 = .ok (.iload_n 1, 1) := by decide +kernel
theorem dX7_keyAt_4 : decode cX7_keyAt 4 = .ok (.imul, 1) := by decide +kernel
theorem dX7_keyAt_5 : decode cX7_keyAt 5 = .ok (.bipush 100, 2) := by decide +kernel
theorem dX7_keyAt_7 : decode cX7_keyAt 7 = .ok (.iadd, 1) := by decide +kernel
theorem dX7_keyAt_8 : decode cX7_keyAt 8 = .ok (.bipush 32, 2) := by decide +kernel
theorem dX7_keyAt_10 : decode cX7_keyAt 10 = .ok (.iload_n 2, 1) := by decide +kernel
theorem dX7_keyAt_11 : decode cX7_keyAt 11 = .ok (.imul, 1) := by decide +kernel
theorem dX7_keyAt_12 : decode cX7_keyAt 12 = .ok (.iadd, 1) := by decide +kernel
theorem dX7_keyAt_13 : decode cX7_keyAt 13 = .ok (.iload_n 3, 1) := by decide +kernel
theorem dX7_keyAt_14 : decode cX7_keyAt 14 = .ok (.iadd, 1) := by decide +kernel
theorem dX7_keyAt_15 : decode cX7_keyAt 15 = .ok (.ireturn, 1) := by decide +kernel
theorem dX7_put_0 : decode cX7_put 0 = .ok (.sipush 1200, 3) := by decide +kernel
theorem dX7_put_3 : decode cX7_put 3 = .ok (.iload_n 1, 1) := by decide +kernel
theorem dX7_put_4 : decode cX7_put 4 = .ok (.imul, 1) := by decide +kernel
theorem dX7_put_5 : decode cX7_put 5 = .ok (.istore 4, 2) := by decide +kernel
theorem dX7_put_7 : decode cX7_put 7 = .ok (.aload_n 0, 1) := by decide +kernel
theorem dX7_put_8 : decode cX7_put 8 = .ok (.getfield 32, 3) := by decide +kernel
theorem dX7_put_11 : decode cX7_put 11 = .ok (.iload 4, 2) := by decide +kernel
theorem dX7_put_13 : decode cX7_put 13 = .ok (.iload_n 2, 1) := by decide +kernel
theorem dX7_put_14 : decode cX7_put 14 = .ok (.iadd, 1) := by decide +kernel
theorem dX7_put_15 : decode cX7_put 15 = .ok (.iaload, 1) := by decide +kernel
theorem dX7_put_16 : decode cX7_put 16 = .ok (.istore 5, 2) := by decide +kernel
theorem dX7_put_18 : decode cX7_put 18 = .ok (.aload_n 0, 1) := by decide +kernel
theorem dX7_put_19 : decode cX7_put 19 = .ok (.getfield 32, 3) := by decide +kernel
theorem dX7_put_22 : decode cX7_put 22 = .ok (.aload_n 0, 1) := by decide +kernel
theorem dX7_put_23 : decode cX7_put 23 = .ok (.iload_n 1, 1) := by decide +kernel
theorem dX7_put_24 : decode cX7_put 24 = .ok (.iload_n 2, 1) := by decide +kernel
theorem dX7_put_25 : decode cX7_put 25 = .ok (.iload 5, 2) := by decide +kernel
theorem dX7_put_27 : decode cX7_put 27 = .ok (.invokevirtual 78, 3) := by decide +kernel
theorem dX7_put_30 : decode cX7_put 30 = .ok (.iload_n 3, 1) := by decide +kernel
theorem dX7_put_31 : decode cX7_put 31 = .ok (.iastore, 1) := by decide +kernel
theorem dX7_put_32 : decode cX7_put 32 = .ok (.aload_n 0, 1) := by decide +kernel
theorem dX7_put_33 : decode cX7_put 33 = .ok (.getfield 32, 3) := by decide +kernel
theorem dX7_put_36 : decode cX7_put 36 = .ok (.iload 4, 2) := by decide +kernel
theorem dX7_put_38 : decode cX7_put 38 = .ok (.iload_n 2, 1) := by decide +kernel
theorem dX7_put_39 : decode cX7_put 39 = .ok (.iadd, 1) := by decide +kernel
theorem dX7_put_40 : decode cX7_put 40 = .ok (.iload 5, 2) := by decide +kernel
theorem dX7_put_42 : decode cX7_put 42 = .ok (.iconst 1, 1) := by decide +kernel
theorem dX7_put_43 : decode cX7_put 43 = .ok (.iadd, 1) := by decide +kernel
theorem dX7_put_44 : decode cX7_put 44 = .ok (.iastore, 1) := by decide +kernel
theorem dX7_put_45 : decode cX7_put 45 = .ok (.iload 5, 2) := by decide +kernel
theorem dX7_put_47 : decode cX7_put 47 = .ok (.iconst 1, 1) := by decide +kernel
theorem dX7_put_48 : decode cX7_put 48 = .ok (.iadd, 1) := by decide +kernel
theorem dX7_put_49 : decode cX7_put 49 = .ok (.aload_n 0, 1) := by decide +kernel
theorem dX7_put_50 : decode cX7_put 50 = .ok (.getfield 17, 3) := by decide +kernel
theorem dX7_put_53 : decode cX7_put 53 = .ok (.iload_n 1, 1) := by decide +kernel
theorem dX7_put_54 : decode cX7_put 54 = .ok (.iaload, 1) := by decide +kernel
theorem dX7_put_55 : decode cX7_put 55 = .ok (.if_icmp .ge 4, 3) := by decide +kernel
theorem dX7_put_58 : decode cX7_put 58 = .ok (.return_, 1) := by decide +kernel
theorem dX7_put_59 : decode cX7_put 59 = .ok (.iconst 0, 1) := by decide +kernel
theorem dX7_put_60 : decode cX7_put 60 = .ok (.istore 6, 2) := by decide +kernel
theorem dX7_put_62 : decode cX7_put 62 = .ok (.iload 6, 2) := by decide +kernel
theorem dX7_put_64 : decode cX7_put 64 = .ok (.iload 5, 2) := by decide +kernel
theorem dX7_put_66 : decode cX7_put 66 = .ok (.if_icmp .gt 98, 3) := by decide +kernel
theorem dX7_put_69 : decode cX7_put 69 = .ok (.aload_n 0, 1) := by decide +kernel
theorem dX7_put_70 : decode cX7_put 70 = .ok (.getfield 32, 3) := by decide +kernel
theorem dX7_put_73 : decode cX7_put 73 = .ok (.aload_n 0, 1) := by decide +kernel
theorem dX7_put_74 : decode cX7_put 74 = .ok (.iload_n 1, 1) := by decide +kernel
theorem dX7_put_75 : decode cX7_put 75 = .ok (.iload_n 2, 1) := by decide +kernel
theorem dX7_put_76 : decode cX7_put 76 = .ok (.iload 6, 2) := by decide +kernel
theorem dX7_put_78 : decode cX7_put 78 = .ok (.invokevirtual 78, 3) := by decide +kernel
theorem dX7_put_81 : decode cX7_put 81 = .ok (.iaload, 1) := by decide +kernel
theorem dX7_put_82 : decode cX7_put 82 = .ok (.istore 7, 2) := by decide +kernel
theorem dX7_put_84 : decode cX7_put 84 = .ok (.iload 6, 2) := by decide +kernel
theorem dX7_put_86 : decode cX7_put 86 = .ok (.istore 8, 2) := by decide +kernel
theorem dX7_put_88 : decode cX7_put 88 = .ok (.iload 8, 2) := by decide +kernel
theorem dX7_put_90 : decode cX7_put 90 = .ok (.ifCond .le 54, 3) := by decide +kernel
theorem dX7_put_93 : decode cX7_put 93 = .ok (.aload_n 0, 1) := by decide +kernel
theorem dX7_put_94 : decode cX7_put 94 = .ok (.getfield 35, 3) := by decide +kernel
theorem dX7_put_97 : decode cX7_put 97 = .ok (.bipush 32, 2) := by decide +kernel
theorem dX7_put_99 : decode cX7_put 99 = .ok (.iload_n 2, 1) := by decide +kernel
theorem dX7_put_100 : decode cX7_put 100 = .ok (.imul, 1) := by decide +kernel
theorem dX7_put_101 : decode cX7_put 101 = .ok (.iload 8, 2) := by decide +kernel
theorem dX7_put_103 : decode cX7_put 103 = .ok (.iadd, 1) := by decide +kernel
theorem dX7_put_104 : decode cX7_put 104 = .ok (.iconst 1, 1) := by decide +kernel
theorem dX7_put_105 : decode cX7_put 105 = .ok (.isub, 1) := by decide +kernel
theorem dX7_put_106 : decode cX7_put 106 = .ok (.iaload, 1) := by decide +kernel
theorem dX7_put_107 : decode cX7_put 107 = .ok (.iload 7, 2) := by decide +kernel
theorem dX7_put_109 : decode cX7_put 109 = .ok (.if_icmp .le 35, 3) := by decide +kernel
theorem dX7_put_112 : decode cX7_put 112 = .ok (.aload_n 0, 1) := by decide +kernel
theorem dX7_put_113 : decode cX7_put 113 = .ok (.getfield 35, 3) := by decide +kernel
theorem dX7_put_116 : decode cX7_put 116 = .ok (.bipush 32, 2) := by decide +kernel
theorem dX7_put_118 : decode cX7_put 118 = .ok (.iload_n 2, 1) := by decide +kernel
theorem dX7_put_119 : decode cX7_put 119 = .ok (.imul, 1) := by decide +kernel
theorem dX7_put_120 : decode cX7_put 120 = .ok (.iload 8, 2) := by decide +kernel
theorem dX7_put_122 : decode cX7_put 122 = .ok (.iadd, 1) := by decide +kernel
theorem dX7_put_123 : decode cX7_put 123 = .ok (.aload_n 0, 1) := by decide +kernel
theorem dX7_put_124 : decode cX7_put 124 = .ok (.getfield 35, 3) := by decide +kernel
theorem dX7_put_127 : decode cX7_put 127 = .ok (.bipush 32, 2) := by decide +kernel
theorem dX7_put_129 : decode cX7_put 129 = .ok (.iload_n 2, 1) := by decide +kernel
theorem dX7_put_130 : decode cX7_put 130 = .ok (.imul, 1) := by decide +kernel
theorem dX7_put_131 : decode cX7_put 131 = .ok (.iload 8, 2) := by decide +kernel
theorem dX7_put_133 : decode cX7_put 133 = .ok (.iadd, 1) := by decide +kernel
theorem dX7_put_134 : decode cX7_put 134 = .ok (.iconst 1, 1) := by decide +kernel
theorem dX7_put_135 : decode cX7_put 135 = .ok (.isub, 1) := by decide +kernel
theorem dX7_put_136 : decode cX7_put 136 = .ok (.iaload, 1) := by decide +kernel
theorem dX7_put_137 : decode cX7_put 137 = .ok (.iastore, 1) := by decide +kernel
theorem dX7_put_138 : decode cX7_put 138 = .ok (.iinc 8 (-1), 3) := by decide +kernel
theorem dX7_put_141 : decode cX7_put 141 = .ok (.goto (-53), 3) := by decide +kernel
theorem dX7_put_144 : decode cX7_put 144 = .ok (.aload_n 0, 1) := by decide +kernel
theorem dX7_put_145 : decode cX7_put 145 = .ok (.getfield 35, 3) := by decide +kernel
theorem dX7_put_148 : decode cX7_put 148 = .ok (.bipush 32, 2) := by decide +kernel
theorem dX7_put_150 : decode cX7_put 150 = .ok (.iload_n 2, 1) := by decide +kernel
theorem dX7_put_151 : decode cX7_put 151 = .ok (.imul, 1) := by decide +kernel
theorem dX7_put_152 : decode cX7_put 152 = .ok (.iload 8, 2) := by decide +kernel
theorem dX7_put_154 : decode cX7_put 154 = .ok (.iadd, 1) := by decide +kernel
theorem dX7_put_155 : decode cX7_put 155 = .ok (.iload 7, 2) := by decide +kernel
theorem dX7_put_157 : decode cX7_put 157 = .ok (.iastore, 1) := by decide +kernel
theorem dX7_put_158 : decode cX7_put 158 = .ok (.iinc 6 1, 3) := by decide +kernel
theorem dX7_put_161 : decode cX7_put 161 = .ok (.goto (-99), 3) := by decide +kernel
theorem dX7_put_164 : decode cX7_put 164 = .ok (.aload_n 0, 1) := by decide +kernel
theorem dX7_put_165 : decode cX7_put 165 = .ok (.getfield 32, 3) := by decide +kernel
theorem dX7_put_168 : decode cX7_put 168 = .ok (.iload 4, 2) := by decide +kernel
theorem dX7_put_170 : decode cX7_put 170 = .ok (.iload_n 2, 1) := by decide +kernel
theorem dX7_put_171 : decode cX7_put 171 = .ok (.iadd, 1) := by decide +kernel
theorem dX7_put_172 : decode cX7_put 172 = .ok (.iconst 0, 1) := by decide +kernel
theorem dX7_put_173 : decode cX7_put 173 = .ok (.iastore, 1) := by decide +kernel
theorem dX7_put_174 : decode cX7_put 174 = .ok (.aload_n 0, 1) := by decide +kernel
theorem dX7_put_175 : decode cX7_put 175 = .ok (.getfield 32, 3) := by decide +kernel
theorem dX7_put_178 : decode cX7_put 178 = .ok (.iload 4, 2) := by decide +kernel
theorem dX7_put_180 : decode cX7_put 180 = .ok (.bipush 40, 2) := by decide +kernel
theorem dX7_put_182 : decode cX7_put 182 = .ok (.iadd, 1) := by decide +kernel
theorem dX7_put_183 : decode cX7_put 183 = .ok (.iload_n 2, 1) := by decide +kernel
theorem dX7_put_184 : decode cX7_put 184 = .ok (.iadd, 1) := by decide +kernel
theorem dX7_put_185 : decode cX7_put 185 = .ok (.iaload, 1) := by decide +kernel
theorem dX7_put_186 : decode cX7_put 186 = .ok (.istore 6, 2) := by decide +kernel
theorem dX7_put_188 : decode cX7_put 188 = .ok (.aload_n 0, 1) := by decide +kernel
theorem dX7_put_189 : decode cX7_put 189 = .ok (.getfield 32, 3) := by decide +kernel
theorem dX7_put_192 : decode cX7_put 192 = .ok (.iload 4, 2) := by decide +kernel
theorem dX7_put_194 : decode cX7_put 194 = .ok (.bipush 40, 2) := by decide +kernel
theorem dX7_put_196 : decode cX7_put 196 = .ok (.iadd, 1) := by decide +kernel
theorem dX7_put_197 : decode cX7_put 197 = .ok (.iload_n 2, 1) := by decide +kernel
theorem dX7_put_198 : decode cX7_put 198 = .ok (.iadd, 1) := by decide +kernel
theorem dX7_put_199 : decode cX7_put 199 = .ok (.iconst 1, 1) := by decide +kernel
theorem dX7_put_200 : decode cX7_put 200 = .ok (.iload 6, 2) := by decide +kernel
theorem dX7_put_202 : decode cX7_put 202 = .ok (.isub, 1) := by decide +kernel
theorem dX7_put_203 : decode cX7_put 203 = .ok (.iastore, 1) := by decide +kernel
theorem dX7_put_204 : decode cX7_put 204 = .ok (.aload_n 0, 1) := by decide +kernel
theorem dX7_put_205 : decode cX7_put 205 = .ok (.getfield 29, 3) := by decide +kernel
theorem dX7_put_208 : decode cX7_put 208 = .ok (.iload_n 1, 1) := by decide +kernel
theorem dX7_put_209 : decode cX7_put 209 = .ok (.aload_n 0, 1) := by decide +kernel
theorem dX7_put_210 : decode cX7_put 210 = .ok (.getfield 29, 3) := by decide +kernel
theorem dX7_put_213 : decode cX7_put 213 = .ok (.iload_n 1, 1) := by decide +kernel
theorem dX7_put_214 : decode cX7_put 214 = .ok (.iaload, 1) := by decide +kernel
theorem dX7_put_215 : decode cX7_put 215 = .ok (.iconst 1, 1) := by decide +kernel
theorem dX7_put_216 : decode cX7_put 216 = .ok (.iload_n 2, 1) := by decide +kernel
theorem dX7_put_217 : decode cX7_put 217 = .ok (.ishl, 1) := by decide +kernel
theorem dX7_put_218 : decode cX7_put 218 = .ok (.iadd, 1) := by decide +kernel
theorem dX7_put_219 : decode cX7_put 219 = .ok (.iastore, 1) := by decide +kernel
theorem dX7_put_220 : decode cX7_put 220 = .ok (.iload 6, 2) := by decide +kernel
theorem dX7_put_222 : decode cX7_put 222 = .ok (.istore 7, 2) := by decide +kernel
theorem dX7_put_224 : decode cX7_put 224 = .ok (.iload 7, 2) := by decide +kernel
theorem dX7_put_226 : decode cX7_put 226 = .ok (.iload 5, 2) := by decide +kernel
theorem dX7_put_228 : decode cX7_put 228 = .ok (.if_icmp .gt 29, 3) := by decide +kernel
theorem dX7_put_231 : decode cX7_put 231 = .ok (.aload_n 0, 1) := by decide +kernel
theorem dX7_put_232 : decode cX7_put 232 = .ok (.iload_n 1, 1) := by decide +kernel
theorem dX7_put_233 : decode cX7_put 233 = .ok (.iload_n 2, 1) := by decide +kernel
theorem dX7_put_234 : decode cX7_put 234 = .ok (.iconst 1, 1) := by decide +kernel
theorem dX7_put_235 : decode cX7_put 235 = .ok (.iadd, 1) := by decide +kernel
theorem dX7_put_236 : decode cX7_put 236 = .ok (.aload_n 0, 1) := by decide +kernel
theorem dX7_put_237 : decode cX7_put 237 = .ok (.getfield 35, 3) := by decide +kernel
theorem dX7_put_240 : decode cX7_put 240 = .ok (.bipush 32, 2) := by decide +kernel
theorem dX7_put_242 : decode cX7_put 242 = .ok (.iload_n 2, 1) := by decide +kernel
theorem dX7_put_243 : decode cX7_put 243 = .ok (.imul, 1) := by decide +kernel
theorem dX7_put_244 : decode cX7_put 244 = .ok (.iload 7, 2) := by decide +kernel
theorem dX7_put_246 : decode cX7_put 246 = .ok (.iadd, 1) := by decide +kernel
theorem dX7_put_247 : decode cX7_put 247 = .ok (.iaload, 1) := by decide +kernel
theorem dX7_put_248 : decode cX7_put 248 = .ok (.invokestatic 81, 3) := by decide +kernel
theorem dX7_put_251 : decode cX7_put 251 = .ok (.iinc 7 2, 3) := by decide +kernel
theorem dX7_put_254 : decode cX7_put 254 = .ok (.goto (-30), 3) := by decide +kernel
theorem dX7_put_257 : decode cX7_put 257 = .ok (.return_, 1) := by decide +kernel
theorem dX7_weightTo_0 : decode cX7_weightTo 0 = .ok (.iconst 0, 1) := by decide +kernel
theorem dX7_weightTo_1 : decode cX7_weightTo 1 = .ok (.istore_n 3, 1) := by decide +kernel
theorem dX7_weightTo_2 : decode cX7_weightTo 2 = .ok (.iconst 0, 1) := by decide +kernel
theorem dX7_weightTo_3 : decode cX7_weightTo 3 = .ok (.istore 4, 2) := by decide +kernel
theorem dX7_weightTo_5 : decode cX7_weightTo 5 = .ok (.iload 4, 2) := by decide +kernel
theorem dX7_weightTo_7 : decode cX7_weightTo 7 = .ok (.bipush 31, 2) := by decide +kernel
theorem dX7_weightTo_9 : decode cX7_weightTo 9 = .ok (.if_icmp .ge 65, 3) := by decide +kernel
theorem dX7_weightTo_12 : decode cX7_weightTo 12 = .ok (.iconst 0, 1) := by decide +kernel
theorem dX7_weightTo_13 : decode cX7_weightTo 13 = .ok (.istore 5, 2) := by decide +kernel
theorem dX7_weightTo_15 : decode cX7_weightTo 15 = .ok (.iload 5, 2) := by decide +kernel
theorem dX7_weightTo_17 : decode cX7_weightTo 17 = .ok (.aload_n 0, 1) := by decide +kernel
theorem dX7_weightTo_18 : decode cX7_weightTo 18 = .ok (.getfield 32, 3) := by decide +kernel
theorem dX7_weightTo_21 : decode cX7_weightTo 21 = .ok (.sipush 1200, 3) := by decide +kernel
theorem dX7_weightTo_24 : decode cX7_weightTo 24 = .ok (.iload_n 1, 1) := by decide +kernel
theorem dX7_weightTo_25 : decode cX7_weightTo 25 = .ok (.imul, 1) := by decide +kernel
theorem dX7_weightTo_26 : decode cX7_weightTo 26 = .ok (.iload 4, 2) := by decide +kernel
theorem dX7_weightTo_28 : decode cX7_weightTo 28 = .ok (.iadd, 1) := by decide +kernel
theorem dX7_weightTo_29 : decode cX7_weightTo 29 = .ok (.iaload, 1) := by decide +kernel
theorem dX7_weightTo_30 : decode cX7_weightTo 30 = .ok (.if_icmp .ge 38, 3) := by decide +kernel
theorem dX7_weightTo_33 : decode cX7_weightTo 33 = .ok (.aload_n 0, 1) := by decide +kernel
theorem dX7_weightTo_34 : decode cX7_weightTo 34 = .ok (.getfield 32, 3) := by decide +kernel
theorem dX7_weightTo_37 : decode cX7_weightTo 37 = .ok (.aload_n 0, 1) := by decide +kernel
theorem dX7_weightTo_38 : decode cX7_weightTo 38 = .ok (.iload_n 1, 1) := by decide +kernel
theorem dX7_weightTo_39 : decode cX7_weightTo 39 = .ok (.iload 4, 2) := by decide +kernel
theorem dX7_weightTo_41 : decode cX7_weightTo 41 = .ok (.iload 5, 2) := by decide +kernel
theorem dX7_weightTo_43 : decode cX7_weightTo 43 = .ok (.invokevirtual 78, 3) := by decide +kernel
theorem dX7_weightTo_46 : decode cX7_weightTo 46 = .ok (.iaload, 1) := by decide +kernel
theorem dX7_weightTo_47 : decode cX7_weightTo 47 = .ok (.iload_n 2, 1) := by decide +kernel
theorem dX7_weightTo_48 : decode cX7_weightTo 48 = .ok (.if_icmp .gt 12, 3) := by decide +kernel
theorem dX7_weightTo_51 : decode cX7_weightTo 51 = .ok (.iload_n 3, 1) := by decide +kernel
theorem dX7_weightTo_52 : decode cX7_weightTo 52 = .ok (.iconst 1, 1) := by decide +kernel
theorem dX7_weightTo_53 : decode cX7_weightTo 53 = .ok (.iload 4, 2) := by decide +kernel
theorem dX7_weightTo_55 : decode cX7_weightTo 55 = .ok (.ishl, 1) := by decide +kernel
theorem dX7_weightTo_56 : decode cX7_weightTo 56 = .ok (.iadd, 1) := by decide +kernel
theorem dX7_weightTo_57 : decode cX7_weightTo 57 = .ok (.goto 4, 3) := by decide +kernel
theorem dX7_weightTo_60 : decode cX7_weightTo 60 = .ok (.iload_n 3, 1) := by decide +kernel
theorem dX7_weightTo_61 : decode cX7_weightTo 61 = .ok (.istore_n 3, 1) := by decide +kernel
theorem dX7_weightTo_62 : decode cX7_weightTo 62 = .ok (.iinc 5 1, 3) := by decide +kernel
theorem dX7_weightTo_65 : decode cX7_weightTo 65 = .ok (.goto (-50), 3) := by decide +kernel
theorem dX7_weightTo_68 : decode cX7_weightTo 68 = .ok (.iinc 4 1, 3) := by decide +kernel
theorem dX7_weightTo_71 : decode cX7_weightTo 71 = .ok (.goto (-66), 3) := by decide +kernel
theorem dX7_weightTo_74 : decode cX7_weightTo 74 = .ok (.iload_n 3, 1) := by decide +kernel
theorem dX7_weightTo_75 : decode cX7_weightTo 75 = .ok (.ireturn, 1) := by decide +kernel
theorem dX7_comeOnce_0 : decode cX7_comeOnce 0 = .ok (.aload_n 0, 1) := by decide +kernel
theorem dX7_comeOnce_1 : decode cX7_comeOnce 1 = .ok (.getfield 13, 3) := by decide +kernel
theorem dX7_comeOnce_4 : decode cX7_comeOnce 4 = .ok (.iload_n 1, 1) := by decide +kernel
theorem dX7_comeOnce_5 : decode cX7_comeOnce 5 = .ok (.iaload, 1) := by decide +kernel
theorem dX7_comeOnce_6 : decode cX7_comeOnce 6 = .ok (.tableswitch 137 0 3 #[30, 40, 86, 118], 30) := by decide +kernel
theorem dX7_comeOnce_36 : decode cX7_comeOnce 36 = .ok (.aload_n 0, 1) := by decide +kernel
theorem dX7_comeOnce_37 : decode cX7_comeOnce 37 = .ok (.iload_n 1, 1) := by decide +kernel
theorem dX7_comeOnce_38 : decode cX7_comeOnce 38 = .ok (.iload_n 2, 1) := by decide +kernel
theorem dX7_comeOnce_39 : decode cX7_comeOnce 39 = .ok (.iload_n 3, 1) := by decide +kernel
theorem dX7_comeOnce_40 : decode cX7_comeOnce 40 = .ok (.invokevirtual 85, 3) := by decide +kernel
theorem dX7_comeOnce_43 : decode cX7_comeOnce 43 = .ok (.goto 122, 3) := by decide +kernel
theorem dX7_comeOnce_46 : decode cX7_comeOnce 46 = .ok (.iconst 0, 1) := by decide +kernel
theorem dX7_comeOnce_47 : decode cX7_comeOnce 47 = .ok (.istore 4, 2) := by decide +kernel
theorem dX7_comeOnce_49 : decode cX7_comeOnce 49 = .ok (.iload 4, 2) := by decide +kernel
theorem dX7_comeOnce_51 : decode cX7_comeOnce 51 = .ok (.iconst 4, 1) := by decide +kernel
theorem dX7_comeOnce_52 : decode cX7_comeOnce 52 = .ok (.if_icmp .ge 37, 3) := by decide +kernel
theorem dX7_comeOnce_55 : decode cX7_comeOnce 55 = .ok (.aload_n 0, 1) := by decide +kernel
theorem dX7_comeOnce_56 : decode cX7_comeOnce 56 = .ok (.getfield 32, 3) := by decide +kernel
theorem dX7_comeOnce_59 : decode cX7_comeOnce 59 = .ok (.aload_n 0, 1) := by decide +kernel
theorem dX7_comeOnce_60 : decode cX7_comeOnce 60 = .ok (.iload_n 1, 1) := by decide +kernel
theorem dX7_comeOnce_61 : decode cX7_comeOnce 61 = .ok (.iload 4, 2) := by decide +kernel
theorem dX7_comeOnce_63 : decode cX7_comeOnce 63 = .ok (.iload_n 2, 1) := by decide +kernel
theorem dX7_comeOnce_64 : decode cX7_comeOnce 64 = .ok (.invokevirtual 88, 3) := by decide +kernel
theorem dX7_comeOnce_67 : decode cX7_comeOnce 67 = .ok (.aload_n 0, 1) := by decide +kernel
theorem dX7_comeOnce_68 : decode cX7_comeOnce 68 = .ok (.getfield 32, 3) := by decide +kernel
theorem dX7_comeOnce_71 : decode cX7_comeOnce 71 = .ok (.aload_n 0, 1) := by decide +kernel
theorem dX7_comeOnce_72 : decode cX7_comeOnce 72 = .ok (.iload_n 1, 1) := by decide +kernel
theorem dX7_comeOnce_73 : decode cX7_comeOnce 73 = .ok (.iload 4, 2) := by decide +kernel
theorem dX7_comeOnce_75 : decode cX7_comeOnce 75 = .ok (.iload_n 2, 1) := by decide +kernel
theorem dX7_comeOnce_76 : decode cX7_comeOnce 76 = .ok (.invokevirtual 88, 3) := by decide +kernel
theorem dX7_comeOnce_79 : decode cX7_comeOnce 79 = .ok (.iaload, 1) := by decide +kernel
theorem dX7_comeOnce_80 : decode cX7_comeOnce 80 = .ok (.iload_n 3, 1) := by decide +kernel
theorem dX7_comeOnce_81 : decode cX7_comeOnce 81 = .ok (.iadd, 1) := by decide +kernel
theorem dX7_comeOnce_82 : decode cX7_comeOnce 82 = .ok (.iastore, 1) := by decide +kernel
theorem dX7_comeOnce_83 : decode cX7_comeOnce 83 = .ok (.iinc 4 1, 3) := by decide +kernel
theorem dX7_comeOnce_86 : decode cX7_comeOnce 86 = .ok (.goto (-37), 3) := by decide +kernel
theorem dX7_comeOnce_89 : decode cX7_comeOnce 89 = .ok (.goto 76, 3) := by decide +kernel
theorem dX7_comeOnce_92 : decode cX7_comeOnce 92 = .ok (.iconst 0, 1) := by decide +kernel
theorem dX7_comeOnce_93 : decode cX7_comeOnce 93 = .ok (.istore 4, 2) := by decide +kernel
theorem dX7_comeOnce_95 : decode cX7_comeOnce 95 = .ok (.iload 4, 2) := by decide +kernel
theorem dX7_comeOnce_97 : decode cX7_comeOnce 97 = .ok (.iconst 4, 1) := by decide +kernel
theorem dX7_comeOnce_98 : decode cX7_comeOnce 98 = .ok (.if_icmp .ge 23, 3) := by decide +kernel
theorem dX7_comeOnce_101 : decode cX7_comeOnce 101 = .ok (.aload_n 0, 1) := by decide +kernel
theorem dX7_comeOnce_102 : decode cX7_comeOnce 102 = .ok (.getfield 32, 3) := by decide +kernel
theorem dX7_comeOnce_105 : decode cX7_comeOnce 105 = .ok (.aload_n 0, 1) := by decide +kernel
theorem dX7_comeOnce_106 : decode cX7_comeOnce 106 = .ok (.iload_n 1, 1) := by decide +kernel
theorem dX7_comeOnce_107 : decode cX7_comeOnce 107 = .ok (.iload 4, 2) := by decide +kernel
theorem dX7_comeOnce_109 : decode cX7_comeOnce 109 = .ok (.iload_n 2, 1) := by decide +kernel
theorem dX7_comeOnce_110 : decode cX7_comeOnce 110 = .ok (.invokevirtual 88, 3) := by decide +kernel
theorem dX7_comeOnce_113 : decode cX7_comeOnce 113 = .ok (.iconst 1, 1) := by decide +kernel
theorem dX7_comeOnce_114 : decode cX7_comeOnce 114 = .ok (.iastore, 1) := by decide +kernel
theorem dX7_comeOnce_115 : decode cX7_comeOnce 115 = .ok (.iinc 4 1, 3) := by decide +kernel
theorem dX7_comeOnce_118 : decode cX7_comeOnce 118 = .ok (.goto (-23), 3) := by decide +kernel
theorem dX7_comeOnce_121 : decode cX7_comeOnce 121 = .ok (.goto 44, 3) := by decide +kernel
theorem dX7_comeOnce_124 : decode cX7_comeOnce 124 = .ok (.aload_n 0, 1) := by decide +kernel
theorem dX7_comeOnce_125 : decode cX7_comeOnce 125 = .ok (.iload_n 1, 1) := by decide +kernel
theorem dX7_comeOnce_126 : decode cX7_comeOnce 126 = .ok (.aload_n 0, 1) := by decide +kernel
theorem dX7_comeOnce_127 : decode cX7_comeOnce 127 = .ok (.getfield 20, 3) := by decide +kernel
theorem dX7_comeOnce_130 : decode cX7_comeOnce 130 = .ok (.iload_n 1, 1) := by decide +kernel
theorem dX7_comeOnce_131 : decode cX7_comeOnce 131 = .ok (.iaload, 1) := by decide +kernel
theorem dX7_comeOnce_132 : decode cX7_comeOnce 132 = .ok (.iconst 0, 1) := by decide +kernel
theorem dX7_comeOnce_133 : decode cX7_comeOnce 133 = .ok (.iload_n 2, 1) := by decide +kernel
theorem dX7_comeOnce_134 : decode cX7_comeOnce 134 = .ok (.invokestatic 74, 3) := by decide +kernel
theorem dX7_comeOnce_137 : decode cX7_comeOnce 137 = .ok (.invokevirtual 91, 3) := by decide +kernel
theorem dX7_comeOnce_140 : decode cX7_comeOnce 140 = .ok (.goto 25, 3) := by decide +kernel
theorem dX7_comeOnce_143 : decode cX7_comeOnce 143 = .ok (.iconst 0, 1) := by decide +kernel
theorem dX7_comeOnce_144 : decode cX7_comeOnce 144 = .ok (.istore 4, 2) := by decide +kernel
theorem dX7_comeOnce_146 : decode cX7_comeOnce 146 = .ok (.iload 4, 2) := by decide +kernel
theorem dX7_comeOnce_148 : decode cX7_comeOnce 148 = .ok (.iload_n 3, 1) := by decide +kernel
theorem dX7_comeOnce_149 : decode cX7_comeOnce 149 = .ok (.if_icmp .ge 16, 3) := by decide +kernel
theorem dX7_comeOnce_152 : decode cX7_comeOnce 152 = .ok (.aload_n 0, 1) := by decide +kernel
theorem dX7_comeOnce_153 : decode cX7_comeOnce 153 = .ok (.iload_n 1, 1) := by decide +kernel
theorem dX7_comeOnce_154 : decode cX7_comeOnce 154 = .ok (.iconst 0, 1) := by decide +kernel
theorem dX7_comeOnce_155 : decode cX7_comeOnce 155 = .ok (.iload_n 2, 1) := by decide +kernel
theorem dX7_comeOnce_156 : decode cX7_comeOnce 156 = .ok (.invokestatic 81, 3) := by decide +kernel
theorem dX7_comeOnce_159 : decode cX7_comeOnce 159 = .ok (.iinc 4 1, 3) := by decide +kernel
theorem dX7_comeOnce_162 : decode cX7_comeOnce 162 = .ok (.goto (-16), 3) := by decide +kernel
theorem dX7_comeOnce_165 : decode cX7_comeOnce 165 = .ok (.return_, 1) := by decide +kernel
theorem dX7_come_0 : decode cX7_come 0 = .ok (.aload_n 0, 1) := by decide +kernel
theorem dX7_come_1 : decode cX7_come 1 = .ok (.iconst 0, 1) := by decide +kernel
theorem dX7_come_2 : decode cX7_come 2 = .ok (.putfield 1, 3) := by decide +kernel
theorem dX7_come_5 : decode cX7_come 5 = .ok (.aload_n 0, 1) := by decide +kernel
theorem dX7_come_6 : decode cX7_come 6 = .ok (.iload_n 1, 1) := by decide +kernel
theorem dX7_come_7 : decode cX7_come 7 = .ok (.invokevirtual 50, 3) := by decide +kernel
theorem dX7_come_10 : decode cX7_come 10 = .ok (.ifCond .ne 14, 3) := by decide +kernel
theorem dX7_come_13 : decode cX7_come 13 = .ok (.iload_n 2, 1) := by decide +kernel
theorem dX7_come_14 : decode cX7_come 14 = .ok (.iconst 0, 1) := by decide +kernel
theorem dX7_come_15 : decode cX7_come 15 = .ok (.sipush 9999, 3) := by decide +kernel
theorem dX7_come_18 : decode cX7_come 18 = .ok (.invokestatic 41, 3) := by decide +kernel
theorem dX7_come_21 : decode cX7_come 21 = .ok (.ifCond .ne 5, 3) := by decide +kernel
theorem dX7_come_24 : decode cX7_come 24 = .ok (.iconst (-1), 1) := by decide +kernel
theorem dX7_come_25 : decode cX7_come 25 = .ok (.ireturn, 1) := by decide +kernel
theorem dX7_come_26 : decode cX7_come 26 = .ok (.aload_n 0, 1) := by decide +kernel
theorem dX7_come_27 : decode cX7_come 27 = .ok (.getfield 13, 3) := by decide +kernel
theorem dX7_come_30 : decode cX7_come 30 = .ok (.iload_n 1, 1) := by decide +kernel
theorem dX7_come_31 : decode cX7_come 31 = .ok (.iaload, 1) := by decide +kernel
theorem dX7_come_32 : decode cX7_come 32 = .ok (.iconst 1, 1) := by decide +kernel
theorem dX7_come_33 : decode cX7_come 33 = .ok (.if_icmp .ne 28, 3) := by decide +kernel
theorem dX7_come_36 : decode cX7_come 36 = .ok (.iload_n 3, 1) := by decide +kernel
theorem dX7_come_37 : decode cX7_come 37 = .ok (.sipush (-1000), 3) := by decide +kernel
theorem dX7_come_40 : decode cX7_come 40 = .ok (.sipush 1000, 3) := by decide +kernel
theorem dX7_come_43 : decode cX7_come 43 = .ok (.invokestatic 41, 3) := by decide +kernel
theorem dX7_come_46 : decode cX7_come 46 = .ok (.ifCond .eq 11, 3) := by decide +kernel
theorem dX7_come_49 : decode cX7_come 49 = .ok (.iload_n 3, 1) := by decide +kernel
theorem dX7_come_50 : decode cX7_come 50 = .ok (.ifCond .eq 7, 3) := by decide +kernel
theorem dX7_come_53 : decode cX7_come 53 = .ok (.iconst 1, 1) := by decide +kernel
theorem dX7_come_54 : decode cX7_come 54 = .ok (.goto 30, 3) := by decide +kernel
theorem dX7_come_57 : decode cX7_come 57 = .ok (.iconst 0, 1) := by decide +kernel
theorem dX7_come_58 : decode cX7_come 58 = .ok (.goto 26, 3) := by decide +kernel
theorem dX7_come_61 : decode cX7_come 61 = .ok (.iload_n 3, 1) := by decide +kernel
theorem dX7_come_62 : decode cX7_come 62 = .ok (.iconst 1, 1) := by decide +kernel
theorem dX7_come_63 : decode cX7_come 63 = .ok (.aload_n 0, 1) := by decide +kernel
theorem dX7_come_64 : decode cX7_come 64 = .ok (.getfield 13, 3) := by decide +kernel
theorem dX7_come_67 : decode cX7_come 67 = .ok (.iload_n 1, 1) := by decide +kernel
theorem dX7_come_68 : decode cX7_come 68 = .ok (.iaload, 1) := by decide +kernel
end
section
theorem dX7_come_69 : decode cX7_come 69 = .ok (.iconst 4, 1) := by decide +kernel
theorem dX7_come_70 : decode cX7_come 70 = .ok (.if_icmp .ne 8, 3) := by decide +kernel
theorem dX7_come_73 : decode cX7_come 73 = .ok (.bipush 100, 2) := by decide +kernel
theorem dX7_come_75 : decode cX7_come 75 = .ok (.goto 6, 3) := by decide +kernel
theorem dX7_come_78 : decode cX7_come 78 = .ok (.sipush 1000, 3) := by decide +kernel
theorem dX7_come_81 : decode cX7_come 81 = .ok (.invokestatic 41, 3) := by decide +kernel
theorem dX7_come_84 : decode cX7_come 84 = .ok (.istore 4, 2) := by decide +kernel
theorem dX7_come_86 : decode cX7_come 86 = .ok (.iload 4, 2) := by decide +kernel
theorem dX7_come_88 : decode cX7_come 88 = .ok (.ifCond .ne 5, 3) := by decide +kernel
theorem dX7_come_91 : decode cX7_come 91 = .ok (.iconst (-1), 1) := by decide +kernel
theorem dX7_come_92 : decode cX7_come 92 = .ok (.ireturn, 1) := by decide +kernel
theorem dX7_come_93 : decode cX7_come 93 = .ok (.iload_n 3, 1) := by decide +kernel
theorem dX7_come_94 : decode cX7_come 94 = .ok (.ifCond .ge 8, 3) := by decide +kernel
theorem dX7_come_97 : decode cX7_come 97 = .ok (.iload_n 3, 1) := by decide +kernel
theorem dX7_come_98 : decode cX7_come 98 = .ok (.ineg, 1) := by decide +kernel
theorem dX7_come_99 : decode cX7_come 99 = .ok (.goto 4, 3) := by decide +kernel
theorem dX7_come_102 : decode cX7_come 102 = .ok (.iload_n 3, 1) := by decide +kernel
theorem dX7_come_103 : decode cX7_come 103 = .ok (.istore 5, 2) := by decide +kernel
theorem dX7_come_105 : decode cX7_come 105 = .ok (.aload_n 0, 1) := by decide +kernel
theorem dX7_come_106 : decode cX7_come 106 = .ok (.getfield 26, 3) := by decide +kernel
theorem dX7_come_109 : decode cX7_come 109 = .ok (.iload_n 1, 1) := by decide +kernel
theorem dX7_come_110 : decode cX7_come 110 = .ok (.iaload, 1) := by decide +kernel
theorem dX7_come_111 : decode cX7_come 111 = .ok (.iload 5, 2) := by decide +kernel
theorem dX7_come_113 : decode cX7_come 113 = .ok (.iadd, 1) := by decide +kernel
theorem dX7_come_114 : decode cX7_come 114 = .ok (.ldc 54, 2) := by decide +kernel
theorem dX7_come_116 : decode cX7_come 116 = .ok (.if_icmp .le 6, 3) := by decide +kernel
theorem dX7_come_119 : decode cX7_come 119 = .ok (.bipush (-3), 2) := by decide +kernel
theorem dX7_come_121 : decode cX7_come 121 = .ok (.ireturn, 1) := by decide +kernel
theorem dX7_come_122 : decode cX7_come 122 = .ok (.aload_n 0, 1) := by decide +kernel
theorem dX7_come_123 : decode cX7_come 123 = .ok (.iload_n 1, 1) := by decide +kernel
theorem dX7_come_124 : decode cX7_come 124 = .ok (.iload_n 2, 1) := by decide +kernel
theorem dX7_come_125 : decode cX7_come 125 = .ok (.iload_n 3, 1) := by decide +kernel
theorem dX7_come_126 : decode cX7_come 126 = .ok (.invokevirtual 94, 3) := by decide +kernel
theorem dX7_come_129 : decode cX7_come 129 = .ok (.aload_n 0, 1) := by decide +kernel
theorem dX7_come_130 : decode cX7_come 130 = .ok (.getfield 23, 3) := by decide +kernel
theorem dX7_come_133 : decode cX7_come 133 = .ok (.iload_n 1, 1) := by decide +kernel
theorem dX7_come_134 : decode cX7_come 134 = .ok (.aload_n 0, 1) := by decide +kernel
theorem dX7_come_135 : decode cX7_come 135 = .ok (.getfield 23, 3) := by decide +kernel
theorem dX7_come_138 : decode cX7_come 138 = .ok (.iload_n 1, 1) := by decide +kernel
theorem dX7_come_139 : decode cX7_come 139 = .ok (.iaload, 1) := by decide +kernel
theorem dX7_come_140 : decode cX7_come 140 = .ok (.iload_n 3, 1) := by decide +kernel
theorem dX7_come_141 : decode cX7_come 141 = .ok (.iadd, 1) := by decide +kernel
theorem dX7_come_142 : decode cX7_come 142 = .ok (.iastore, 1) := by decide +kernel
theorem dX7_come_143 : decode cX7_come 143 = .ok (.aload_n 0, 1) := by decide +kernel
theorem dX7_come_144 : decode cX7_come 144 = .ok (.getfield 26, 3) := by decide +kernel
theorem dX7_come_147 : decode cX7_come 147 = .ok (.iload_n 1, 1) := by decide +kernel
theorem dX7_come_148 : decode cX7_come 148 = .ok (.aload_n 0, 1) := by decide +kernel
theorem dX7_come_149 : decode cX7_come 149 = .ok (.getfield 26, 3) := by decide +kernel
theorem dX7_come_152 : decode cX7_come 152 = .ok (.iload_n 1, 1) := by decide +kernel
theorem dX7_come_153 : decode cX7_come 153 = .ok (.iaload, 1) := by decide +kernel
theorem dX7_come_154 : decode cX7_come 154 = .ok (.iload 5, 2) := by decide +kernel
theorem dX7_come_156 : decode cX7_come 156 = .ok (.iadd, 1) := by decide +kernel
theorem dX7_come_157 : decode cX7_come 157 = .ok (.iastore, 1) := by decide +kernel
theorem dX7_come_158 : decode cX7_come 158 = .ok (.aload_n 0, 1) := by decide +kernel
theorem dX7_come_159 : decode cX7_come 159 = .ok (.getfield 23, 3) := by decide +kernel
theorem dX7_come_162 : decode cX7_come 162 = .ok (.iload_n 1, 1) := by decide +kernel
theorem dX7_come_163 : decode cX7_come 163 = .ok (.iaload, 1) := by decide +kernel
theorem dX7_come_164 : decode cX7_come 164 = .ok (.ldc 54, 2) := by decide +kernel
theorem dX7_come_166 : decode cX7_come 166 = .ok (.iadd, 1) := by decide +kernel
theorem dX7_come_167 : decode cX7_come 167 = .ok (.ireturn, 1) := by decide +kernel
theorem dX7_merge_0 : decode cX7_merge 0 = .ok (.aload_n 0, 1) := by decide +kernel
theorem dX7_merge_1 : decode cX7_merge 1 = .ok (.iconst 0, 1) := by decide +kernel
theorem dX7_merge_2 : decode cX7_merge 2 = .ok (.putfield 1, 3) := by decide +kernel
theorem dX7_merge_5 : decode cX7_merge 5 = .ok (.aload_n 0, 1) := by decide +kernel
theorem dX7_merge_6 : decode cX7_merge 6 = .ok (.iload_n 1, 1) := by decide +kernel
theorem dX7_merge_7 : decode cX7_merge 7 = .ok (.invokevirtual 50, 3) := by decide +kernel
theorem dX7_merge_10 : decode cX7_merge 10 = .ok (.ifCond .ne 61, 3) := by decide +kernel
theorem dX7_merge_13 : decode cX7_merge 13 = .ok (.aload_n 0, 1) := by decide +kernel
theorem dX7_merge_14 : decode cX7_merge 14 = .ok (.iload_n 2, 1) := by decide +kernel
theorem dX7_merge_15 : decode cX7_merge 15 = .ok (.invokevirtual 50, 3) := by decide +kernel
theorem dX7_merge_18 : decode cX7_merge 18 = .ok (.ifCond .ne 53, 3) := by decide +kernel
theorem dX7_merge_21 : decode cX7_merge 21 = .ok (.iload_n 1, 1) := by decide +kernel
theorem dX7_merge_22 : decode cX7_merge 22 = .ok (.iload_n 2, 1) := by decide +kernel
theorem dX7_merge_23 : decode cX7_merge 23 = .ok (.if_icmp .eq 48, 3) := by decide +kernel
theorem dX7_merge_26 : decode cX7_merge 26 = .ok (.aload_n 0, 1) := by decide +kernel
theorem dX7_merge_27 : decode cX7_merge 27 = .ok (.getfield 13, 3) := by decide +kernel
theorem dX7_merge_30 : decode cX7_merge 30 = .ok (.iload_n 1, 1) := by decide +kernel
theorem dX7_merge_31 : decode cX7_merge 31 = .ok (.iaload, 1) := by decide +kernel
theorem dX7_merge_32 : decode cX7_merge 32 = .ok (.aload_n 0, 1) := by decide +kernel
theorem dX7_merge_33 : decode cX7_merge 33 = .ok (.getfield 13, 3) := by decide +kernel
theorem dX7_merge_36 : decode cX7_merge 36 = .ok (.iload_n 2, 1) := by decide +kernel
theorem dX7_merge_37 : decode cX7_merge 37 = .ok (.iaload, 1) := by decide +kernel
theorem dX7_merge_38 : decode cX7_merge 38 = .ok (.if_icmp .ne 33, 3) := by decide +kernel
theorem dX7_merge_41 : decode cX7_merge 41 = .ok (.aload_n 0, 1) := by decide +kernel
theorem dX7_merge_42 : decode cX7_merge 42 = .ok (.getfield 17, 3) := by decide +kernel
theorem dX7_merge_45 : decode cX7_merge 45 = .ok (.iload_n 1, 1) := by decide +kernel
theorem dX7_merge_46 : decode cX7_merge 46 = .ok (.iaload, 1) := by decide +kernel
theorem dX7_merge_47 : decode cX7_merge 47 = .ok (.aload_n 0, 1) := by decide +kernel
theorem dX7_merge_48 : decode cX7_merge 48 = .ok (.getfield 17, 3) := by decide +kernel
theorem dX7_merge_51 : decode cX7_merge 51 = .ok (.iload_n 2, 1) := by decide +kernel
theorem dX7_merge_52 : decode cX7_merge 52 = .ok (.iaload, 1) := by decide +kernel
theorem dX7_merge_53 : decode cX7_merge 53 = .ok (.if_icmp .ne 18, 3) := by decide +kernel
theorem dX7_merge_56 : decode cX7_merge 56 = .ok (.aload_n 0, 1) := by decide +kernel
theorem dX7_merge_57 : decode cX7_merge 57 = .ok (.getfield 20, 3) := by decide +kernel
theorem dX7_merge_60 : decode cX7_merge 60 = .ok (.iload_n 1, 1) := by decide +kernel
theorem dX7_merge_61 : decode cX7_merge 61 = .ok (.iaload, 1) := by decide +kernel
theorem dX7_merge_62 : decode cX7_merge 62 = .ok (.aload_n 0, 1) := by decide +kernel
theorem dX7_merge_63 : decode cX7_merge 63 = .ok (.getfield 20, 3) := by decide +kernel
theorem dX7_merge_66 : decode cX7_merge 66 = .ok (.iload_n 2, 1) := by decide +kernel
theorem dX7_merge_67 : decode cX7_merge 67 = .ok (.iaload, 1) := by decide +kernel
theorem dX7_merge_68 : decode cX7_merge 68 = .ok (.if_icmp .eq 5, 3) := by decide +kernel
theorem dX7_merge_71 : decode cX7_merge 71 = .ok (.iconst (-1), 1) := by decide +kernel
theorem dX7_merge_72 : decode cX7_merge 72 = .ok (.ireturn, 1) := by decide +kernel
theorem dX7_merge_73 : decode cX7_merge 73 = .ok (.aload_n 0, 1) := by decide +kernel
theorem dX7_merge_74 : decode cX7_merge 74 = .ok (.getfield 26, 3) := by decide +kernel
theorem dX7_merge_77 : decode cX7_merge 77 = .ok (.iload_n 1, 1) := by decide +kernel
theorem dX7_merge_78 : decode cX7_merge 78 = .ok (.iaload, 1) := by decide +kernel
theorem dX7_merge_79 : decode cX7_merge 79 = .ok (.aload_n 0, 1) := by decide +kernel
theorem dX7_merge_80 : decode cX7_merge 80 = .ok (.getfield 26, 3) := by decide +kernel
theorem dX7_merge_83 : decode cX7_merge 83 = .ok (.iload_n 2, 1) := by decide +kernel
theorem dX7_merge_84 : decode cX7_merge 84 = .ok (.iaload, 1) := by decide +kernel
theorem dX7_merge_85 : decode cX7_merge 85 = .ok (.iadd, 1) := by decide +kernel
theorem dX7_merge_86 : decode cX7_merge 86 = .ok (.ldc 54, 2) := by decide +kernel
theorem dX7_merge_88 : decode cX7_merge 88 = .ok (.if_icmp .le 6, 3) := by decide +kernel
theorem dX7_merge_91 : decode cX7_merge 91 = .ok (.bipush (-3), 2) := by decide +kernel
theorem dX7_merge_93 : decode cX7_merge 93 = .ok (.ireturn, 1) := by decide +kernel
theorem dX7_merge_94 : decode cX7_merge 94 = .ok (.sipush 1200, 3) := by decide +kernel
theorem dX7_merge_97 : decode cX7_merge 97 = .ok (.iload_n 2, 1) := by decide +kernel
theorem dX7_merge_98 : decode cX7_merge 98 = .ok (.imul, 1) := by decide +kernel
theorem dX7_merge_99 : decode cX7_merge 99 = .ok (.bipush 100, 2) := by decide +kernel
theorem dX7_merge_101 : decode cX7_merge 101 = .ok (.iadd, 1) := by decide +kernel
theorem dX7_merge_102 : decode cX7_merge 102 = .ok (.istore_n 3, 1) := by decide +kernel
theorem dX7_merge_103 : decode cX7_merge 103 = .ok (.aload_n 0, 1) := by decide +kernel
theorem dX7_merge_104 : decode cX7_merge 104 = .ok (.getfield 13, 3) := by decide +kernel
theorem dX7_merge_107 : decode cX7_merge 107 = .ok (.iload_n 1, 1) := by decide +kernel
theorem dX7_merge_108 : decode cX7_merge 108 = .ok (.iaload, 1) := by decide +kernel
theorem dX7_merge_109 : decode cX7_merge 109 = .ok (.tableswitch 208 0 3 #[31, 40, 107, 172], 31) := by decide +kernel
theorem dX7_merge_140 : decode cX7_merge 140 = .ok (.aload_n 0, 1) := by decide +kernel
theorem dX7_merge_141 : decode cX7_merge 141 = .ok (.iload_n 1, 1) := by decide +kernel
theorem dX7_merge_142 : decode cX7_merge 142 = .ok (.iload_n 2, 1) := by decide +kernel
theorem dX7_merge_143 : decode cX7_merge 143 = .ok (.invokevirtual 97, 3) := by decide +kernel
theorem dX7_merge_146 : decode cX7_merge 146 = .ok (.goto 254, 3) := by decide +kernel
theorem dX7_merge_149 : decode cX7_merge 149 = .ok (.iconst 0, 1) := by decide +kernel
theorem dX7_merge_150 : decode cX7_merge 150 = .ok (.istore 4, 2) := by decide +kernel
theorem dX7_merge_152 : decode cX7_merge 152 = .ok (.iload 4, 2) := by decide +kernel
theorem dX7_merge_154 : decode cX7_merge 154 = .ok (.iconst 4, 1) := by decide +kernel
theorem dX7_merge_155 : decode cX7_merge 155 = .ok (.aload_n 0, 1) := by decide +kernel
theorem dX7_merge_156 : decode cX7_merge 156 = .ok (.getfield 17, 3) := by decide +kernel
theorem dX7_merge_159 : decode cX7_merge 159 = .ok (.iload_n 1, 1) := by decide +kernel
theorem dX7_merge_160 : decode cX7_merge 160 = .ok (.iaload, 1) := by decide +kernel
theorem dX7_merge_161 : decode cX7_merge 161 = .ok (.imul, 1) := by decide +kernel
theorem dX7_merge_162 : decode cX7_merge 162 = .ok (.if_icmp .ge 51, 3) := by decide +kernel
theorem dX7_merge_165 : decode cX7_merge 165 = .ok (.aload_n 0, 1) := by decide +kernel
theorem dX7_merge_166 : decode cX7_merge 166 = .ok (.getfield 32, 3) := by decide +kernel
theorem dX7_merge_169 : decode cX7_merge 169 = .ok (.sipush 1200, 3) := by decide +kernel
theorem dX7_merge_172 : decode cX7_merge 172 = .ok (.iload_n 1, 1) := by decide +kernel
theorem dX7_merge_173 : decode cX7_merge 173 = .ok (.imul, 1) := by decide +kernel
theorem dX7_merge_174 : decode cX7_merge 174 = .ok (.bipush 100, 2) := by decide +kernel
theorem dX7_merge_176 : decode cX7_merge 176 = .ok (.iadd, 1) := by decide +kernel
theorem dX7_merge_177 : decode cX7_merge 177 = .ok (.iload 4, 2) := by decide +kernel
theorem dX7_merge_179 : decode cX7_merge 179 = .ok (.iadd, 1) := by decide +kernel
theorem dX7_merge_180 : decode cX7_merge 180 = .ok (.aload_n 0, 1) := by decide +kernel
theorem dX7_merge_181 : decode cX7_merge 181 = .ok (.getfield 32, 3) := by decide +kernel
theorem dX7_merge_184 : decode cX7_merge 184 = .ok (.sipush 1200, 3) := by decide +kernel
theorem dX7_merge_187 : decode cX7_merge 187 = .ok (.iload_n 1, 1) := by decide +kernel
theorem dX7_merge_188 : decode cX7_merge 188 = .ok (.imul, 1) := by decide +kernel
theorem dX7_merge_189 : decode cX7_merge 189 = .ok (.bipush 100, 2) := by decide +kernel
theorem dX7_merge_191 : decode cX7_merge 191 = .ok (.iadd, 1) := by decide +kernel
theorem dX7_merge_192 : decode cX7_merge 192 = .ok (.iload 4, 2) := by decide +kernel
theorem dX7_merge_194 : decode cX7_merge 194 = .ok (.iadd, 1) := by decide +kernel
theorem dX7_merge_195 : decode cX7_merge 195 = .ok (.iaload, 1) := by decide +kernel
theorem dX7_merge_196 : decode cX7_merge 196 = .ok (.aload_n 0, 1) := by decide +kernel
theorem dX7_merge_197 : decode cX7_merge 197 = .ok (.getfield 32, 3) := by decide +kernel
theorem dX7_merge_200 : decode cX7_merge 200 = .ok (.iload_n 3, 1) := by decide +kernel
theorem dX7_merge_201 : decode cX7_merge 201 = .ok (.iload 4, 2) := by decide +kernel
theorem dX7_merge_203 : decode cX7_merge 203 = .ok (.iadd, 1) := by decide +kernel
theorem dX7_merge_204 : decode cX7_merge 204 = .ok (.iaload, 1) := by decide +kernel
theorem dX7_merge_205 : decode cX7_merge 205 = .ok (.iadd, 1) := by decide +kernel
theorem dX7_merge_206 : decode cX7_merge 206 = .ok (.iastore, 1) := by decide +kernel
theorem dX7_merge_207 : decode cX7_merge 207 = .ok (.iinc 4 1, 3) := by decide +kernel
theorem dX7_merge_210 : decode cX7_merge 210 = .ok (.goto (-58), 3) := by decide +kernel
theorem dX7_merge_213 : decode cX7_merge 213 = .ok (.goto 187, 3) := by decide +kernel
theorem dX7_merge_216 : decode cX7_merge 216 = .ok (.iconst 0, 1) := by decide +kernel
theorem dX7_merge_217 : decode cX7_merge 217 = .ok (.istore 4, 2) := by decide +kernel
theorem dX7_merge_219 : decode cX7_merge 219 = .ok (.iload 4, 2) := by decide +kernel
theorem dX7_merge_221 : decode cX7_merge 221 = .ok (.aload_n 0, 1) := by decide +kernel
theorem dX7_merge_222 : decode cX7_merge 222 = .ok (.getfield 17, 3) := by decide +kernel
theorem dX7_merge_225 : decode cX7_merge 225 = .ok (.iload_n 1, 1) := by decide +kernel
theorem dX7_merge_226 : decode cX7_merge 226 = .ok (.iaload, 1) := by decide +kernel
theorem dX7_merge_227 : decode cX7_merge 227 = .ok (.if_icmp .ge 51, 3) := by decide +kernel
theorem dX7_merge_230 : decode cX7_merge 230 = .ok (.aload_n 0, 1) := by decide +kernel
theorem dX7_merge_231 : decode cX7_merge 231 = .ok (.getfield 32, 3) := by decide +kernel
theorem dX7_merge_234 : decode cX7_merge 234 = .ok (.sipush 1200, 3) := by decide +kernel
theorem dX7_merge_237 : decode cX7_merge 237 = .ok (.iload_n 1, 1) := by decide +kernel
theorem dX7_merge_238 : decode cX7_merge 238 = .ok (.imul, 1) := by decide +kernel
theorem dX7_merge_239 : decode cX7_merge 239 = .ok (.bipush 100, 2) := by decide +kernel
theorem dX7_merge_241 : decode cX7_merge 241 = .ok (.iadd, 1) := by decide +kernel
theorem dX7_merge_242 : decode cX7_merge 242 = .ok (.iload 4, 2) := by decide +kernel
theorem dX7_merge_244 : decode cX7_merge 244 = .ok (.iadd, 1) := by decide +kernel
theorem dX7_merge_245 : decode cX7_merge 245 = .ok (.aload_n 0, 1) := by decide +kernel
theorem dX7_merge_246 : decode cX7_merge 246 = .ok (.getfield 32, 3) := by decide +kernel
theorem dX7_merge_249 : decode cX7_merge 249 = .ok (.sipush 1200, 3) := by decide +kernel
theorem dX7_merge_252 : decode cX7_merge 252 = .ok (.iload_n 1, 1) := by decide +kernel
theorem dX7_merge_253 : decode cX7_merge 253 = .ok (.imul, 1) := by decide +kernel
theorem dX7_merge_254 : decode cX7_merge 254 = .ok (.bipush 100, 2) := by decide +kernel
theorem dX7_merge_256 : decode cX7_merge 256 = .ok (.iadd, 1) := by decide +kernel
theorem dX7_merge_257 : decode cX7_merge 257 = .ok (.iload 4, 2) := by decide +kernel
theorem dX7_merge_259 : decode cX7_merge 259 = .ok (.iadd, 1) := by decide +kernel
theorem dX7_merge_260 : decode cX7_merge 260 = .ok (.iaload, 1) := by decide +kernel
theorem dX7_merge_261 : decode cX7_merge 261 = .ok (.aload_n 0, 1) := by decide +kernel
theorem dX7_merge_262 : decode cX7_merge 262 = .ok (.getfield 32, 3) := by decide +kernel
theorem dX7_merge_265 : decode cX7_merge 265 = .ok (.iload_n 3, 1) := by decide +kernel
theorem dX7_merge_266 : decode cX7_merge 266 = .ok (.iload 4, 2) := by decide +kernel
theorem dX7_merge_268 : decode cX7_merge 268 = .ok (.iadd, 1) := by decide +kernel
theorem dX7_merge_269 : decode cX7_merge 269 = .ok (.iaload, 1) := by decide +kernel
theorem dX7_merge_270 : decode cX7_merge 270 = .ok (.ior, 1) := by decide +kernel
theorem dX7_merge_271 : decode cX7_merge 271 = .ok (.iastore, 1) := by decide +kernel
theorem dX7_merge_272 : decode cX7_merge 272 = .ok (.iinc 4 1, 3) := by decide +kernel
theorem dX7_merge_275 : decode cX7_merge 275 = .ok (.goto (-56), 3) := by decide +kernel
theorem dX7_merge_278 : decode cX7_merge 278 = .ok (.goto 122, 3) := by decide +kernel
theorem dX7_merge_281 : decode cX7_merge 281 = .ok (.iconst 0, 1) := by decide +kernel
theorem dX7_merge_282 : decode cX7_merge 282 = .ok (.istore 4, 2) := by decide +kernel
theorem dX7_merge_284 : decode cX7_merge 284 = .ok (.iload 4, 2) := by decide +kernel
theorem dX7_merge_286 : decode cX7_merge 286 = .ok (.aload_n 0, 1) := by decide +kernel
theorem dX7_merge_287 : decode cX7_merge 287 = .ok (.iload_n 2, 1) := by decide +kernel
theorem dX7_merge_288 : decode cX7_merge 288 = .ok (.invokevirtual 55, 3) := by decide +kernel
theorem dX7_merge_291 : decode cX7_merge 291 = .ok (.if_icmp .ge 23, 3) := by decide +kernel
theorem dX7_merge_294 : decode cX7_merge 294 = .ok (.aload_n 0, 1) := by decide +kernel
theorem dX7_merge_295 : decode cX7_merge 295 = .ok (.iload_n 1, 1) := by decide +kernel
theorem dX7_merge_296 : decode cX7_merge 296 = .ok (.aload_n 0, 1) := by decide +kernel
theorem dX7_merge_297 : decode cX7_merge 297 = .ok (.getfield 32, 3) := by decide +kernel
theorem dX7_merge_300 : decode cX7_merge 300 = .ok (.iload_n 3, 1) := by decide +kernel
theorem dX7_merge_301 : decode cX7_merge 301 = .ok (.iload 4, 2) := by decide +kernel
theorem dX7_merge_303 : decode cX7_merge 303 = .ok (.iadd, 1) := by decide +kernel
theorem dX7_merge_304 : decode cX7_merge 304 = .ok (.iaload, 1) := by decide +kernel
theorem dX7_merge_305 : decode cX7_merge 305 = .ok (.invokevirtual 91, 3) := by decide +kernel
theorem dX7_merge_308 : decode cX7_merge 308 = .ok (.iinc 4 1, 3) := by decide +kernel
theorem dX7_merge_311 : decode cX7_merge 311 = .ok (.goto (-27), 3) := by decide +kernel
theorem dX7_merge_314 : decode cX7_merge 314 = .ok (.goto 86, 3) := by decide +kernel
theorem dX7_merge_317 : decode cX7_merge 317 = .ok (.iconst 0, 1) := by decide +kernel
theorem dX7_merge_318 : decode cX7_merge 318 = .ok (.istore 4, 2) := by decide +kernel
theorem dX7_merge_320 : decode cX7_merge 320 = .ok (.iload 4, 2) := by decide +kernel
theorem dX7_merge_322 : decode cX7_merge 322 = .ok (.bipush 31, 2) := by decide +kernel
theorem dX7_merge_324 : decode cX7_merge 324 = .ok (.if_icmp .ge 57, 3) := by decide +kernel
theorem dX7_merge_327 : decode cX7_merge 327 = .ok (.iconst 0, 1) := by decide +kernel
theorem dX7_merge_328 : decode cX7_merge 328 = .ok (.istore 5, 2) := by decide +kernel
theorem dX7_merge_330 : decode cX7_merge 330 = .ok (.iload 5, 2) := by decide +kernel
theorem dX7_merge_332 : decode cX7_merge 332 = .ok (.aload_n 0, 1) := by decide +kernel
theorem dX7_merge_333 : decode cX7_merge 333 = .ok (.getfield 32, 3) := by decide +kernel
theorem dX7_merge_336 : decode cX7_merge 336 = .ok (.sipush 1200, 3) := by decide +kernel
theorem dX7_merge_339 : decode cX7_merge 339 = .ok (.iload_n 2, 1) := by decide +kernel
theorem dX7_merge_340 : decode cX7_merge 340 = .ok (.imul, 1) := by decide +kernel
theorem dX7_merge_341 : decode cX7_merge 341 = .ok (.iload 4, 2) := by decide +kernel
theorem dX7_merge_343 : decode cX7_merge 343 = .ok (.iadd, 1) := by decide +kernel
theorem dX7_merge_344 : decode cX7_merge 344 = .ok (.iaload, 1) := by decide +kernel
theorem dX7_merge_345 : decode cX7_merge 345 = .ok (.if_icmp .ge 30, 3) := by decide +kernel
theorem dX7_merge_348 : decode cX7_merge 348 = .ok (.aload_n 0, 1) := by decide +kernel
theorem dX7_merge_349 : decode cX7_merge 349 = .ok (.iload_n 1, 1) := by decide +kernel
theorem dX7_merge_350 : decode cX7_merge 350 = .ok (.iload 4, 2) := by decide +kernel
theorem dX7_merge_352 : decode cX7_merge 352 = .ok (.aload_n 0, 1) := by decide +kernel
theorem dX7_merge_353 : decode cX7_merge 353 = .ok (.getfield 32, 3) := by decide +kernel
theorem dX7_merge_356 : decode cX7_merge 356 = .ok (.aload_n 0, 1) := by decide +kernel
theorem dX7_merge_357 : decode cX7_merge 357 = .ok (.iload_n 2, 1) := by decide +kernel
theorem dX7_merge_358 : decode cX7_merge 358 = .ok (.iload 4, 2) := by decide +kernel
theorem dX7_merge_360 : decode cX7_merge 360 = .ok (.iload 5, 2) := by decide +kernel
theorem dX7_merge_362 : decode cX7_merge 362 = .ok (.invokevirtual 78, 3) := by decide +kernel
theorem dX7_merge_365 : decode cX7_merge 365 = .ok (.iaload, 1) := by decide +kernel
theorem dX7_merge_366 : decode cX7_merge 366 = .ok (.invokestatic 81, 3) := by decide +kernel
theorem dX7_merge_369 : decode cX7_merge 369 = .ok (.iinc 5 1, 3) := by decide +kernel
theorem dX7_merge_372 : decode cX7_merge 372 = .ok (.goto (-42), 3) := by decide +kernel
theorem dX7_merge_375 : decode cX7_merge 375 = .ok (.iinc 4 1, 3) := by decide +kernel
theorem dX7_merge_378 : decode cX7_merge 378 = .ok (.goto (-58), 3) := by decide +kernel
theorem dX7_merge_381 : decode cX7_merge 381 = .ok (.aload_n 0, 1) := by decide +kernel
theorem dX7_merge_382 : decode cX7_merge 382 = .ok (.getfield 29, 3) := by decide +kernel
theorem dX7_merge_385 : decode cX7_merge 385 = .ok (.iload_n 1, 1) := by decide +kernel
theorem dX7_merge_386 : decode cX7_merge 386 = .ok (.aload_n 0, 1) := by decide +kernel
theorem dX7_merge_387 : decode cX7_merge 387 = .ok (.getfield 29, 3) := by decide +kernel
theorem dX7_merge_390 : decode cX7_merge 390 = .ok (.iload_n 1, 1) := by decide +kernel
theorem dX7_merge_391 : decode cX7_merge 391 = .ok (.iaload, 1) := by decide +kernel
theorem dX7_merge_392 : decode cX7_merge 392 = .ok (.aload_n 0, 1) := by decide +kernel
theorem dX7_merge_393 : decode cX7_merge 393 = .ok (.getfield 29, 3) := by decide +kernel
theorem dX7_merge_396 : decode cX7_merge 396 = .ok (.iload_n 2, 1) := by decide +kernel
theorem dX7_merge_397 : decode cX7_merge 397 = .ok (.iaload, 1) := by decide +kernel
theorem dX7_merge_398 : decode cX7_merge 398 = .ok (.iadd, 1) := by decide +kernel
theorem dX7_merge_399 : decode cX7_merge 399 = .ok (.iastore, 1) := by decide +kernel
theorem dX7_merge_400 : decode cX7_merge 400 = .ok (.aload_n 0, 1) := by decide +kernel
theorem dX7_merge_401 : decode cX7_merge 401 = .ok (.getfield 23, 3) := by decide +kernel
theorem dX7_merge_404 : decode cX7_merge 404 = .ok (.iload_n 1, 1) := by decide +kernel
theorem dX7_merge_405 : decode cX7_merge 405 = .ok (.aload_n 0, 1) := by decide +kernel
theorem dX7_merge_406 : decode cX7_merge 406 = .ok (.getfield 23, 3) := by decide +kernel
theorem dX7_merge_409 : decode cX7_merge 409 = .ok (.iload_n 1, 1) := by decide +kernel
theorem dX7_merge_410 : decode cX7_merge 410 = .ok (.iaload, 1) := by decide +kernel
theorem dX7_merge_411 : decode cX7_merge 411 = .ok (.aload_n 0, 1) := by decide +kernel
theorem dX7_merge_412 : decode cX7_merge 412 = .ok (.getfield 23, 3) := by decide +kernel
theorem dX7_merge_415 : decode cX7_merge 415 = .ok (.iload_n 2, 1) := by decide +kernel
theorem dX7_merge_416 : decode cX7_merge 416 = .ok (.iaload, 1) := by decide +kernel
theorem dX7_merge_417 : decode cX7_merge 417 = .ok (.iadd, 1) := by decide +kernel
theorem dX7_merge_418 : decode cX7_merge 418 = .ok (.iastore, 1) := by decide +kernel
theorem dX7_merge_419 : decode cX7_merge 419 = .ok (.aload_n 0, 1) := by decide +kernel
theorem dX7_merge_420 : decode cX7_merge 420 = .ok (.getfield 26, 3) := by decide +kernel
theorem dX7_merge_423 : decode cX7_merge 423 = .ok (.iload_n 1, 1) := by decide +kernel
theorem dX7_merge_424 : decode cX7_merge 424 = .ok (.aload_n 0, 1) := by decide +kernel
theorem dX7_merge_425 : decode cX7_merge 425 = .ok (.getfield 26, 3) := by decide +kernel
theorem dX7_merge_428 : decode cX7_merge 428 = .ok (.iload_n 1, 1) := by decide +kernel
theorem dX7_merge_429 : decode cX7_merge 429 = .ok (.iaload, 1) := by decide +kernel
theorem dX7_merge_430 : decode cX7_merge 430 = .ok (.aload_n 0, 1) := by decide +kernel
theorem dX7_merge_431 : decode cX7_merge 431 = .ok (.getfield 26, 3) := by decide +kernel
theorem dX7_merge_434 : decode cX7_merge 434 = .ok (.iload_n 2, 1) := by decide +kernel
theorem dX7_merge_435 : decode cX7_merge 435 = .ok (.iaload, 1) := by decide +kernel
theorem dX7_merge_436 : decode cX7_merge 436 = .ok (.iadd, 1) := by decide +kernel
theorem dX7_merge_437 : decode cX7_merge 437 = .ok (.iastore, 1) := by decide +kernel
theorem dX7_merge_438 : decode cX7_merge 438 = .ok (.aload_n 0, 1) := by decide +kernel
theorem dX7_merge_439 : decode cX7_merge 439 = .ok (.getfield 23, 3) := by decide +kernel
theorem dX7_merge_442 : decode cX7_merge 442 = .ok (.iload_n 1, 1) := by decide +kernel
theorem dX7_merge_443 : decode cX7_merge 443 = .ok (.iaload, 1) := by decide +kernel
theorem dX7_merge_444 : decode cX7_merge 444 = .ok (.ldc 54, 2) := by decide +kernel
theorem dX7_merge_446 : decode cX7_merge 446 = .ok (.iadd, 1) := by decide +kernel
theorem dX7_merge_447 : decode cX7_merge 447 = .ok (.ireturn, 1) := by decide +kernel
theorem dX7_hash_0 : decode cX7_hash 0 = .ok (.aload_n 0, 1) := by decide +kernel
theorem dX7_hash_1 : decode cX7_hash 1 = .ok (.iconst 0, 1) := by decide +kernel
theorem dX7_hash_2 : decode cX7_hash 2 = .ok (.putfield 1, 3) := by decide +kernel
theorem dX7_hash_5 : decode cX7_hash 5 = .ok (.iload_n 1, 1) := by decide +kernel
theorem dX7_hash_6 : decode cX7_hash 6 = .ok (.iconst 0, 1) := by decide +kernel
theorem dX7_hash_7 : decode cX7_hash 7 = .ok (.sipush 999, 3) := by decide +kernel
theorem dX7_hash_10 : decode cX7_hash 10 = .ok (.invokestatic 41, 3) := by decide +kernel
theorem dX7_hash_13 : decode cX7_hash 13 = .ok (.ifCond .eq 32, 3) := by decide +kernel
theorem dX7_hash_16 : decode cX7_hash 16 = .ok (.iload_n 2, 1) := by decide +kernel
theorem dX7_hash_17 : decode cX7_hash 17 = .ok (.iconst 0, 1) := by decide +kernel
theorem dX7_hash_18 : decode cX7_hash 18 = .ok (.iconst 3, 1) := by decide +kernel
theorem dX7_hash_19 : decode cX7_hash 19 = .ok (.invokestatic 41, 3) := by decide +kernel
theorem dX7_hash_22 : decode cX7_hash 22 = .ok (.ifCond .eq 23, 3) := by decide +kernel
theorem dX7_hash_25 : decode cX7_hash 25 = .ok (.iload_n 3, 1) := by decide +kernel
theorem dX7_hash_26 : decode cX7_hash 26 = .ok (.iconst 0, 1) := by decide +kernel
theorem dX7_hash_27 : decode cX7_hash 27 = .ok (.sipush 9999, 3) := by decide +kernel
theorem dX7_hash_30 : decode cX7_hash 30 = .ok (.invokestatic 41, 3) := by decide +kernel
theorem dX7_hash_33 : decode cX7_hash 33 = .ok (.ifCond .eq 12, 3) := by decide +kernel
theorem dX7_hash_36 : decode cX7_hash 36 = .ok (.iload_n 1, 1) := by decide +kernel
theorem dX7_hash_37 : decode cX7_hash 37 = .ok (.iload_n 2, 1) := by decide +kernel
theorem dX7_hash_38 : decode cX7_hash 38 = .ok (.iload_n 3, 1) := by decide +kernel
theorem dX7_hash_39 : decode cX7_hash 39 = .ok (.invokestatic 74, 3) := by decide +kernel
theorem dX7_hash_42 : decode cX7_hash 42 = .ok (.goto 4, 3) := by decide +kernel
theorem dX7_hash_45 : decode cX7_hash 45 = .ok (.iconst (-1), 1) := by decide +kernel
theorem dX7_hash_46 : decode cX7_hash 46 = .ok (.ireturn, 1) := by decide +kernel
theorem dX7_isBad_0 : decode cX7_isBad 0 = .ok (.aload_n 0, 1) := by decide +kernel
theorem dX7_isBad_1 : decode cX7_isBad 1 = .ok (.iload_n 1, 1) := by decide +kernel
theorem dX7_isBad_2 : decode cX7_isBad 2 = .ok (.invokevirtual 50, 3) := by decide +kernel
theorem dX7_isBad_5 : decode cX7_isBad 5 = .ok (.ifCond .ne 18, 3) := by decide +kernel
theorem dX7_isBad_8 : decode cX7_isBad 8 = .ok (.iload_n 2, 1) := by decide +kernel
theorem dX7_isBad_9 : decode cX7_isBad 9 = .ok (.iconst 0, 1) := by decide +kernel
theorem dX7_isBad_10 : decode cX7_isBad 10 = .ok (.sipush 9999, 3) := by decide +kernel
theorem dX7_isBad_13 : decode cX7_isBad 13 = .ok (.invokestatic 41, 3) := by decide +kernel
theorem dX7_isBad_16 : decode cX7_isBad 16 = .ok (.ifCond .eq 7, 3) := by decide +kernel
theorem dX7_isBad_19 : decode cX7_isBad 19 = .ok (.iload_n 3, 1) := by decide +kernel
theorem dX7_isBad_20 : decode cX7_isBad 20 = .ok (.ifCond .ne 7, 3) := by decide +kernel
theorem dX7_isBad_23 : decode cX7_isBad 23 = .ok (.iconst 1, 1) := by decide +kernel
theorem dX7_isBad_24 : decode cX7_isBad 24 = .ok (.goto 4, 3) := by decide +kernel
theorem dX7_isBad_27 : decode cX7_isBad 27 = .ok (.iconst 0, 1) := by decide +kernel
theorem dX7_isBad_28 : decode cX7_isBad 28 = .ok (.ireturn, 1) := by decide +kernel
theorem dX7_isOf_0 : decode cX7_isOf 0 = .ok (.aload_n 0, 1) := by decide +kernel
theorem dX7_isOf_1 : decode cX7_isOf 1 = .ok (.iload_n 1, 1) := by decide +kernel
theorem dX7_isOf_2 : decode cX7_isOf 2 = .ok (.invokevirtual 50, 3) := by decide +kernel
theorem dX7_isOf_5 : decode cX7_isOf 5 = .ok (.ifCond .ne 27, 3) := by decide +kernel
theorem dX7_isOf_8 : decode cX7_isOf 8 = .ok (.aload_n 0, 1) := by decide +kernel
theorem dX7_isOf_9 : decode cX7_isOf 9 = .ok (.getfield 13, 3) := by decide +kernel
theorem dX7_isOf_12 : decode cX7_isOf 12 = .ok (.iload_n 1, 1) := by decide +kernel
theorem dX7_isOf_13 : decode cX7_isOf 13 = .ok (.iaload, 1) := by decide +kernel
theorem dX7_isOf_14 : decode cX7_isOf 14 = .ok (.iload_n 2, 1) := by decide +kernel
theorem dX7_isOf_15 : decode cX7_isOf 15 = .ok (.if_icmp .eq 13, 3) := by decide +kernel
theorem dX7_isOf_18 : decode cX7_isOf 18 = .ok (.aload_n 0, 1) := by decide +kernel
theorem dX7_isOf_19 : decode cX7_isOf 19 = .ok (.getfield 13, 3) := by decide +kernel
theorem dX7_isOf_22 : decode cX7_isOf 22 = .ok (.iload_n 1, 1) := by decide +kernel
theorem dX7_isOf_23 : decode cX7_isOf 23 = .ok (.iaload, 1) := by decide +kernel
theorem dX7_isOf_24 : decode cX7_isOf 24 = .ok (.iload_n 3, 1) := by decide +kernel
theorem dX7_isOf_25 : decode cX7_isOf 25 = .ok (.if_icmp .ne 7, 3) := by decide +kernel
theorem dX7_isOf_28 : decode cX7_isOf 28 = .ok (.iconst 1, 1) := by decide +kernel
theorem dX7_isOf_29 : decode cX7_isOf 29 = .ok (.goto 4, 3) := by decide +kernel
theorem dX7_isOf_32 : decode cX7_isOf 32 = .ok (.iconst 0, 1) := by decide +kernel
theorem dX7_isOf_33 : decode cX7_isOf 33 = .ok (.ireturn, 1) := by decide +kernel
theorem dX7_numberOf_0 : decode cX7_numberOf 0 = .ok (.aload_n 0, 1) := by decide +kernel
theorem dX7_numberOf_1 : decode cX7_numberOf 1 = .ok (.iload_n 1, 1) := by decide +kernel
theorem dX7_numberOf_2 : decode cX7_numberOf 2 = .ok (.iload_n 2, 1) := by decide +kernel
theorem dX7_numberOf_3 : decode cX7_numberOf 3 = .ok (.invokevirtual 63, 3) := by decide +kernel
theorem dX7_numberOf_6 : decode cX7_numberOf 6 = .ok (.istore_n 3, 1) := by decide +kernel
theorem dX7_numberOf_7 : decode cX7_numberOf 7 = .ok (.iload_n 3, 1) := by decide +kernel
theorem dX7_numberOf_8 : decode cX7_numberOf 8 = .ok (.ifCond .ge 7, 3) := by decide +kernel
theorem dX7_numberOf_11 : decode cX7_numberOf 11 = .ok (.iconst 0, 1) := by decide +kernel
theorem dX7_numberOf_12 : decode cX7_numberOf 12 = .ok (.goto 16, 3) := by decide +kernel
theorem dX7_numberOf_15 : decode cX7_numberOf 15 = .ok (.aload_n 0, 1) := by decide +kernel
theorem dX7_numberOf_16 : decode cX7_numberOf 16 = .ok (.getfield 32, 3) := by decide +kernel
theorem dX7_numberOf_19 : decode cX7_numberOf 19 = .ok (.aload_n 0, 1) := by decide +kernel
theorem dX7_numberOf_20 : decode cX7_numberOf 20 = .ok (.iload_n 1, 1) := by decide +kernel
theorem dX7_numberOf_21 : decode cX7_numberOf 21 = .ok (.iload_n 3, 1) := by decide +kernel
theorem dX7_numberOf_22 : decode cX7_numberOf 22 = .ok (.invokevirtual 59, 3) := by decide +kernel
theorem dX7_numberOf_25 : decode cX7_numberOf 25 = .ok (.iconst 1, 1) := by decide +kernel
theorem dX7_numberOf_26 : decode cX7_numberOf 26 = .ok (.iadd, 1) := by decide +kernel
theorem dX7_numberOf_27 : decode cX7_numberOf 27 = .ok (.iaload, 1) := by decide +kernel
theorem dX7_numberOf_28 : decode cX7_numberOf 28 = .ok (.ireturn, 1) := by decide +kernel
theorem dX7_low_0 : decode cX7_low 0 = .ok (.aload_n 0, 1) := by decide +kernel
theorem dX7_low_1 : decode cX7_low 1 = .ok (.iconst 0, 1) := by decide +kernel
theorem dX7_low_2 : decode cX7_low 2 = .ok (.putfield 1, 3) := by decide +kernel
theorem dX7_low_5 : decode cX7_low 5 = .ok (.aload_n 0, 1) := by decide +kernel
theorem dX7_low_6 : decode cX7_low 6 = .ok (.iload_n 1, 1) := by decide +kernel
theorem dX7_low_7 : decode cX7_low 7 = .ok (.iload_n 2, 1) := by decide +kernel
theorem dX7_low_8 : decode cX7_low 8 = .ok (.aload_n 0, 1) := by decide +kernel
theorem dX7_low_9 : decode cX7_low 9 = .ok (.iload_n 1, 1) := by decide +kernel
theorem dX7_low_10 : decode cX7_low 10 = .ok (.iconst 0, 1) := by decide +kernel
theorem dX7_low_11 : decode cX7_low 11 = .ok (.iconst 4, 1) := by decide +kernel
theorem dX7_low_12 : decode cX7_low 12 = .ok (.invokevirtual 100, 3) := by decide +kernel
theorem dX7_low_15 : decode cX7_low 15 = .ok (.invokevirtual 103, 3) := by decide +kernel
theorem dX7_low_18 : decode cX7_low 18 = .ok (.ifCond .eq 5, 3) := by decide +kernel
theorem dX7_low_21 : decode cX7_low 21 = .ok (.iconst (-1), 1) := by decide +kernel
theorem dX7_low_22 : decode cX7_low 22 = .ok (.ireturn, 1) := by decide +kernel
theorem dX7_low_23 : decode cX7_low 23 = .ok (.aload_n 0, 1) := by decide +kernel
theorem dX7_low_24 : decode cX7_low 24 = .ok (.getfield 13, 3) := by decide +kernel
theorem dX7_low_27 : decode cX7_low 27 = .ok (.iload_n 1, 1) := by decide +kernel
theorem dX7_low_28 : decode cX7_low 28 = .ok (.iaload, 1) := by decide +kernel
theorem dX7_low_29 : decode cX7_low 29 = .ok (.ifCond .ne 10, 3) := by decide +kernel
theorem dX7_low_32 : decode cX7_low 32 = .ok (.aload_n 0, 1) := by decide +kernel
theorem dX7_low_33 : decode cX7_low 33 = .ok (.iload_n 1, 1) := by decide +kernel
theorem dX7_low_34 : decode cX7_low 34 = .ok (.iload_n 2, 1) := by decide +kernel
theorem dX7_low_35 : decode cX7_low 35 = .ok (.invokevirtual 107, 3) := by decide +kernel
theorem dX7_low_38 : decode cX7_low 38 = .ok (.ireturn, 1) := by decide +kernel
theorem dX7_low_39 : decode cX7_low 39 = .ok (.aload_n 0, 1) := by decide +kernel
theorem dX7_low_40 : decode cX7_low 40 = .ok (.iload_n 1, 1) := by decide +kernel
theorem dX7_low_41 : decode cX7_low 41 = .ok (.iload_n 2, 1) := by decide +kernel
theorem dX7_low_42 : decode cX7_low 42 = .ok (.invokevirtual 110, 3) := by decide +kernel
theorem dX7_low_45 : decode cX7_low 45 = .ok (.aload_n 0, 1) := by decide +kernel
theorem dX7_low_46 : decode cX7_low 46 = .ok (.getfield 29, 3) := by decide +kernel
theorem dX7_low_49 : decode cX7_low 49 = .ok (.iload_n 1, 1) := by decide +kernel
theorem dX7_low_50 : decode cX7_low 50 = .ok (.iaload, 1) := by decide +kernel
theorem dX7_low_51 : decode cX7_low 51 = .ok (.isub, 1) := by decide +kernel
theorem dX7_low_52 : decode cX7_low 52 = .ok (.istore_n 3, 1) := by decide +kernel
theorem dX7_low_53 : decode cX7_low 53 = .ok (.iload_n 3, 1) := by decide +kernel
theorem dX7_low_54 : decode cX7_low 54 = .ok (.ifCond .ge 7, 3) := by decide +kernel
theorem dX7_low_57 : decode cX7_low 57 = .ok (.iconst 0, 1) := by decide +kernel
theorem dX7_low_58 : decode cX7_low 58 = .ok (.goto 4, 3) := by decide +kernel
theorem dX7_low_61 : decode cX7_low 61 = .ok (.iload_n 3, 1) := by decide +kernel
theorem dX7_low_62 : decode cX7_low 62 = .ok (.ireturn, 1) := by decide +kernel
theorem dX7_high_0 : decode cX7_high 0 = .ok (.aload_n 0, 1) := by decide +kernel
theorem dX7_high_1 : decode cX7_high 1 = .ok (.iconst 0, 1) := by decide +kernel
theorem dX7_high_2 : decode cX7_high 2 = .ok (.putfield 1, 3) := by decide +kernel
theorem dX7_high_5 : decode cX7_high 5 = .ok (.aload_n 0, 1) := by decide +kernel
theorem dX7_high_6 : decode cX7_high 6 = .ok (.iload_n 1, 1) := by decide +kernel
theorem dX7_high_7 : decode cX7_high 7 = .ok (.iload_n 2, 1) := by decide +kernel
theorem dX7_high_8 : decode cX7_high 8 = .ok (.aload_n 0, 1) := by decide +kernel
theorem dX7_high_9 : decode cX7_high 9 = .ok (.iload_n 1, 1) := by decide +kernel
theorem dX7_high_10 : decode cX7_high 10 = .ok (.iconst 0, 1) := by decide +kernel
theorem dX7_high_11 : decode cX7_high 11 = .ok (.iconst 4, 1) := by decide +kernel
theorem dX7_high_12 : decode cX7_high 12 = .ok (.invokevirtual 100, 3) := by decide +kernel
theorem dX7_high_15 : decode cX7_high 15 = .ok (.ifCond .ne 13, 3) := by decide +kernel
theorem dX7_high_18 : decode cX7_high 18 = .ok (.aload_n 0, 1) := by decide +kernel
theorem dX7_high_19 : decode cX7_high 19 = .ok (.iload_n 1, 1) := by decide +kernel
theorem dX7_high_20 : decode cX7_high 20 = .ok (.iconst 1, 1) := by decide +kernel
theorem dX7_high_21 : decode cX7_high 21 = .ok (.iconst 1, 1) := by decide +kernel
theorem dX7_high_22 : decode cX7_high 22 = .ok (.invokevirtual 100, 3) := by decide +kernel
theorem dX7_high_25 : decode cX7_high 25 = .ok (.ifCond .eq 7, 3) := by decide +kernel
theorem dX7_high_28 : decode cX7_high 28 = .ok (.iconst 1, 1) := by decide +kernel
theorem dX7_high_29 : decode cX7_high 29 = .ok (.goto 4, 3) := by decide +kernel
theorem dX7_high_32 : decode cX7_high 32 = .ok (.iconst 0, 1) := by decide +kernel
theorem dX7_high_33 : decode cX7_high 33 = .ok (.invokevirtual 103, 3) := by decide +kernel
theorem dX7_high_36 : decode cX7_high 36 = .ok (.ifCond .eq 5, 3) := by decide +kernel
theorem dX7_high_39 : decode cX7_high 39 = .ok (.iconst (-1), 1) := by decide +kernel
theorem dX7_high_40 : decode cX7_high 40 = .ok (.ireturn, 1) := by decide +kernel
theorem dX7_high_41 : decode cX7_high 41 = .ok (.aload_n 0, 1) := by decide +kernel
theorem dX7_high_42 : decode cX7_high 42 = .ok (.getfield 13, 3) := by decide +kernel
theorem dX7_high_45 : decode cX7_high 45 = .ok (.iload_n 1, 1) := by decide +kernel
theorem dX7_high_46 : decode cX7_high 46 = .ok (.iaload, 1) := by decide +kernel
theorem dX7_high_47 : decode cX7_high 47 = .ok (.ifCond .ne 17, 3) := by decide +kernel
theorem dX7_high_50 : decode cX7_high 50 = .ok (.aload_n 0, 1) := by decide +kernel
theorem dX7_high_51 : decode cX7_high 51 = .ok (.iload_n 1, 1) := by decide +kernel
theorem dX7_high_52 : decode cX7_high 52 = .ok (.iload_n 2, 1) := by decide +kernel
theorem dX7_high_53 : decode cX7_high 53 = .ok (.invokevirtual 107, 3) := by decide +kernel
theorem dX7_high_56 : decode cX7_high 56 = .ok (.aload_n 0, 1) := by decide +kernel
theorem dX7_high_57 : decode cX7_high 57 = .ok (.getfield 29, 3) := by decide +kernel
theorem dX7_high_60 : decode cX7_high 60 = .ok (.iload_n 1, 1) := by decide +kernel
theorem dX7_high_61 : decode cX7_high 61 = .ok (.iaload, 1) := by decide +kernel
theorem dX7_high_62 : decode cX7_high 62 = .ok (.iadd, 1) := by decide +kernel
theorem dX7_high_63 : decode cX7_high 63 = .ok (.ireturn, 1) := by decide +kernel
theorem dX7_high_64 : decode cX7_high 64 = .ok (.aload_n 0, 1) := by decide +kernel
theorem dX7_high_65 : decode cX7_high 65 = .ok (.getfield 13, 3) := by decide +kernel
theorem dX7_high_68 : decode cX7_high 68 = .ok (.iload_n 1, 1) := by decide +kernel
theorem dX7_high_69 : decode cX7_high 69 = .ok (.iaload, 1) := by decide +kernel
theorem dX7_high_70 : decode cX7_high 70 = .ok (.iconst 4, 1) := by decide +kernel
theorem dX7_high_71 : decode cX7_high 71 = .ok (.if_icmp .ne 38, 3) := by decide +kernel
theorem dX7_high_74 : decode cX7_high 74 = .ok (.aload_n 0, 1) := by decide +kernel
theorem dX7_high_75 : decode cX7_high 75 = .ok (.iload_n 1, 1) := by decide +kernel
theorem dX7_high_76 : decode cX7_high 76 = .ok (.iload_n 2, 1) := by decide +kernel
theorem dX7_high_77 : decode cX7_high 77 = .ok (.invokevirtual 110, 3) := by decide +kernel
theorem dX7_high_80 : decode cX7_high 80 = .ok (.aload_n 0, 1) := by decide +kernel
theorem dX7_high_81 : decode cX7_high 81 = .ok (.getfield 29, 3) := by decide +kernel
theorem dX7_high_84 : decode cX7_high 84 = .ok (.iload_n 1, 1) := by decide +kernel
theorem dX7_high_85 : decode cX7_high 85 = .ok (.iaload, 1) := by decide +kernel
theorem dX7_high_86 : decode cX7_high 86 = .ok (.iadd, 1) := by decide +kernel
theorem dX7_high_87 : decode cX7_high 87 = .ok (.istore_n 3, 1) := by decide +kernel
theorem dX7_high_88 : decode cX7_high 88 = .ok (.iload_n 3, 1) := by decide +kernel
theorem dX7_high_89 : decode cX7_high 89 = .ok (.aload_n 0, 1) := by decide +kernel
theorem dX7_high_90 : decode cX7_high 90 = .ok (.getfield 23, 3) := by decide +kernel
theorem dX7_high_93 : decode cX7_high 93 = .ok (.iload_n 1, 1) := by decide +kernel
theorem dX7_high_94 : decode cX7_high 94 = .ok (.iaload, 1) := by decide +kernel
theorem dX7_high_95 : decode cX7_high 95 = .ok (.if_icmp .le 12, 3) := by decide +kernel
theorem dX7_high_98 : decode cX7_high 98 = .ok (.aload_n 0, 1) := by decide +kernel
theorem dX7_high_99 : decode cX7_high 99 = .ok (.getfield 23, 3) := by decide +kernel
theorem dX7_high_102 : decode cX7_high 102 = .ok (.iload_n 1, 1) := by decide +kernel
theorem dX7_high_103 : decode cX7_high 103 = .ok (.iaload, 1) := by decide +kernel
theorem dX7_high_104 : decode cX7_high 104 = .ok (.goto 4, 3) := by decide +kernel
theorem dX7_high_107 : decode cX7_high 107 = .ok (.iload_n 3, 1) := by decide +kernel
theorem dX7_high_108 : decode cX7_high 108 = .ok (.ireturn, 1) := by decide +kernel
theorem dX7_high_109 : decode cX7_high 109 = .ok (.aload_n 0, 1) := by decide +kernel
theorem dX7_high_110 : decode cX7_high 110 = .ok (.getfield 32, 3) := by decide +kernel
theorem dX7_high_113 : decode cX7_high 113 = .ok (.aload_n 0, 1) := by decide +kernel
theorem dX7_high_114 : decode cX7_high 114 = .ok (.iload_n 1, 1) := by decide +kernel
theorem dX7_high_115 : decode cX7_high 115 = .ok (.iconst 0, 1) := by decide +kernel
theorem dX7_high_116 : decode cX7_high 116 = .ok (.iload_n 2, 1) := by decide +kernel
theorem dX7_high_117 : decode cX7_high 117 = .ok (.invokevirtual 88, 3) := by decide +kernel
theorem dX7_high_120 : decode cX7_high 120 = .ok (.iaload, 1) := by decide +kernel
theorem dX7_high_121 : decode cX7_high 121 = .ok (.istore_n 3, 1) := by decide +kernel
theorem dX7_high_122 : decode cX7_high 122 = .ok (.iconst 1, 1) := by decide +kernel
theorem dX7_high_123 : decode cX7_high 123 = .ok (.istore 4, 2) := by decide +kernel
theorem dX7_high_125 : decode cX7_high 125 = .ok (.iload 4, 2) := by decide +kernel
theorem dX7_high_127 : decode cX7_high 127 = .ok (.iconst 4, 1) := by decide +kernel
theorem dX7_high_128 : decode cX7_high 128 = .ok (.if_icmp .ge 44, 3) := by decide +kernel
theorem dX7_high_131 : decode cX7_high 131 = .ok (.aload_n 0, 1) := by decide +kernel
theorem dX7_high_132 : decode cX7_high 132 = .ok (.getfield 32, 3) := by decide +kernel
theorem dX7_high_135 : decode cX7_high 135 = .ok (.aload_n 0, 1) := by decide +kernel
theorem dX7_high_136 : decode cX7_high 136 = .ok (.iload_n 1, 1) := by decide +kernel
theorem dX7_high_137 : decode cX7_high 137 = .ok (.iload 4, 2) := by decide +kernel
theorem dX7_high_139 : decode cX7_high 139 = .ok (.iload_n 2, 1) := by decide +kernel
theorem dX7_high_140 : decode cX7_high 140 = .ok (.invokevirtual 88, 3) := by decide +kernel
theorem dX7_high_143 : decode cX7_high 143 = .ok (.iaload, 1) := by decide +kernel
theorem dX7_high_144 : decode cX7_high 144 = .ok (.iload_n 3, 1) := by decide +kernel
theorem dX7_high_145 : decode cX7_high 145 = .ok (.if_icmp .ge 19, 3) := by decide +kernel
theorem dX7_high_148 : decode cX7_high 148 = .ok (.aload_n 0, 1) := by decide +kernel
theorem dX7_high_149 : decode cX7_high 149 = .ok (.getfield 32, 3) := by decide +kernel
theorem dX7_high_152 : decode cX7_high 152 = .ok (.aload_n 0, 1) := by decide +kernel
theorem dX7_high_153 : decode cX7_high 153 = .ok (.iload_n 1, 1) := by decide +kernel
theorem dX7_high_154 : decode cX7_high 154 = .ok (.iload 4, 2) := by decide +kernel
theorem dX7_high_156 : decode cX7_high 156 = .ok (.iload_n 2, 1) := by decide +kernel
theorem dX7_high_157 : decode cX7_high 157 = .ok (.invokevirtual 88, 3) := by decide +kernel
theorem dX7_high_160 : decode cX7_high 160 = .ok (.iaload, 1) := by decide +kernel
theorem dX7_high_161 : decode cX7_high 161 = .ok (.goto 4, 3) := by decide +kernel
theorem dX7_high_164 : decode cX7_high 164 = .ok (.iload_n 3, 1) := by decide +kernel
theorem dX7_high_165 : decode cX7_high 165 = .ok (.istore_n 3, 1) := by decide +kernel
theorem dX7_high_166 : decode cX7_high 166 = .ok (.iinc 4 1, 3) := by decide +kernel
theorem dX7_high_169 : decode cX7_high 169 = .ok (.goto (-44), 3) := by decide +kernel
theorem dX7_high_172 : decode cX7_high 172 = .ok (.iload_n 3, 1) := by decide +kernel
theorem dX7_high_173 : decode cX7_high 173 = .ok (.ireturn, 1) := by decide +kernel
theorem dX7_has_0 : decode cX7_has 0 = .ok (.aload_n 0, 1) := by decide +kernel
theorem dX7_has_1 : decode cX7_has 1 = .ok (.iconst 0, 1) := by decide +kernel
theorem dX7_has_2 : decode cX7_has 2 = .ok (.putfield 1, 3) := by decide +kernel
theorem dX7_has_5 : decode cX7_has 5 = .ok (.aload_n 0, 1) := by decide +kernel
theorem dX7_has_6 : decode cX7_has 6 = .ok (.iload_n 1, 1) := by decide +kernel
theorem dX7_has_7 : decode cX7_has 7 = .ok (.iload_n 2, 1) := by decide +kernel
theorem dX7_has_8 : decode cX7_has 8 = .ok (.aload_n 0, 1) := by decide +kernel
theorem dX7_has_9 : decode cX7_has 9 = .ok (.iload_n 1, 1) := by decide +kernel
theorem dX7_has_10 : decode cX7_has 10 = .ok (.iconst 2, 1) := by decide +kernel
theorem dX7_has_11 : decode cX7_has 11 = .ok (.iconst 3, 1) := by decide +kernel
theorem dX7_has_12 : decode cX7_has 12 = .ok (.invokevirtual 100, 3) := by decide +kernel
theorem dX7_has_15 : decode cX7_has 15 = .ok (.invokevirtual 103, 3) := by decide +kernel
theorem dX7_has_18 : decode cX7_has 18 = .ok (.ifCond .eq 5, 3) := by decide +kernel
theorem dX7_has_21 : decode cX7_has 21 = .ok (.iconst (-1), 1) := by decide +kernel
theorem dX7_has_22 : decode cX7_has 22 = .ok (.ireturn, 1) := by decide +kernel
theorem dX7_has_23 : decode cX7_has 23 = .ok (.aload_n 0, 1) := by decide +kernel
theorem dX7_has_24 : decode cX7_has 24 = .ok (.getfield 13, 3) := by decide +kernel
theorem dX7_has_27 : decode cX7_has 27 = .ok (.iload_n 1, 1) := by decide +kernel
theorem dX7_has_28 : decode cX7_has 28 = .ok (.iaload, 1) := by decide +kernel
theorem dX7_has_29 : decode cX7_has 29 = .ok (.iconst 2, 1) := by decide +kernel
theorem dX7_has_30 : decode cX7_has 30 = .ok (.if_icmp .ne 38, 3) := by decide +kernel
theorem dX7_has_33 : decode cX7_has 33 = .ok (.iconst 1, 1) := by decide +kernel
theorem dX7_has_34 : decode cX7_has 34 = .ok (.istore_n 3, 1) := by decide +kernel
theorem dX7_has_35 : decode cX7_has 35 = .ok (.iconst 0, 1) := by decide +kernel
theorem dX7_has_36 : decode cX7_has 36 = .ok (.istore 4, 2) := by decide +kernel
theorem dX7_has_38 : decode cX7_has 38 = .ok (.iload 4, 2) := by decide +kernel
theorem dX7_has_40 : decode cX7_has 40 = .ok (.iconst 4, 1) := by decide +kernel
theorem dX7_has_41 : decode cX7_has 41 = .ok (.if_icmp .ge 25, 3) := by decide +kernel
theorem dX7_has_44 : decode cX7_has 44 = .ok (.iload_n 3, 1) := by decide +kernel
theorem dX7_has_45 : decode cX7_has 45 = .ok (.aload_n 0, 1) := by decide +kernel
theorem dX7_has_46 : decode cX7_has 46 = .ok (.getfield 32, 3) := by decide +kernel
theorem dX7_has_49 : decode cX7_has 49 = .ok (.aload_n 0, 1) := by decide +kernel
theorem dX7_has_50 : decode cX7_has 50 = .ok (.iload_n 1, 1) := by decide +kernel
theorem dX7_has_51 : decode cX7_has 51 = .ok (.iload 4, 2) := by decide +kernel
theorem dX7_has_53 : decode cX7_has 53 = .ok (.iload_n 2, 1) := by decide +kernel
theorem dX7_has_54 : decode cX7_has 54 = .ok (.invokevirtual 88, 3) := by decide +kernel
theorem dX7_has_57 : decode cX7_has 57 = .ok (.iaload, 1) := by decide +kernel
theorem dX7_has_58 : decode cX7_has 58 = .ok (.iand, 1) := by decide +kernel
theorem dX7_has_59 : decode cX7_has 59 = .ok (.istore_n 3, 1) := by decide +kernel
theorem dX7_has_60 : decode cX7_has 60 = .ok (.iinc 4 1, 3) := by decide +kernel
theorem dX7_has_63 : decode cX7_has 63 = .ok (.goto (-25), 3) := by decide +kernel
theorem dX7_has_66 : decode cX7_has 66 = .ok (.iload_n 3, 1) := by decide +kernel
theorem dX7_has_67 : decode cX7_has 67 = .ok (.ireturn, 1) := by decide +kernel
theorem dX7_has_68 : decode cX7_has 68 = .ok (.aload_n 0, 1) := by decide +kernel
theorem dX7_has_69 : decode cX7_has 69 = .ok (.getfield 20, 3) := by decide +kernel
theorem dX7_has_72 : decode cX7_has 72 = .ok (.iload_n 1, 1) := by decide +kernel
theorem dX7_has_73 : decode cX7_has 73 = .ok (.iaload, 1) := by decide +kernel
theorem dX7_has_74 : decode cX7_has 74 = .ok (.iconst 0, 1) := by decide +kernel
theorem dX7_has_75 : decode cX7_has 75 = .ok (.iload_n 2, 1) := by decide +kernel
theorem dX7_has_76 : decode cX7_has 76 = .ok (.invokestatic 74, 3) := by decide +kernel
theorem dX7_has_79 : decode cX7_has 79 = .ok (.istore_n 3, 1) := by decide +kernel
theorem dX7_has_80 : decode cX7_has 80 = .ok (.iconst 0, 1) := by decide +kernel
theorem dX7_has_81 : decode cX7_has 81 = .ok (.istore 4, 2) := by decide +kernel
theorem dX7_has_83 : decode cX7_has 83 = .ok (.iconst 0, 1) := by decide +kernel
theorem dX7_has_84 : decode cX7_has 84 = .ok (.istore 5, 2) := by decide +kernel
theorem dX7_has_86 : decode cX7_has 86 = .ok (.iload 5, 2) := by decide +kernel
theorem dX7_has_88 : decode cX7_has 88 = .ok (.aload_n 0, 1) := by decide +kernel
theorem dX7_has_89 : decode cX7_has 89 = .ok (.iload_n 1, 1) := by decide +kernel
theorem dX7_has_90 : decode cX7_has 90 = .ok (.invokevirtual 55, 3) := by decide +kernel
theorem dX7_has_93 : decode cX7_has 93 = .ok (.if_icmp .ge 37, 3) := by decide +kernel
theorem dX7_has_96 : decode cX7_has 96 = .ok (.aload_n 0, 1) := by decide +kernel
theorem dX7_has_97 : decode cX7_has 97 = .ok (.getfield 32, 3) := by decide +kernel
theorem dX7_has_100 : decode cX7_has 100 = .ok (.sipush 1200, 3) := by decide +kernel
theorem dX7_has_103 : decode cX7_has 103 = .ok (.iload_n 1, 1) := by decide +kernel
theorem dX7_has_104 : decode cX7_has 104 = .ok (.imul, 1) := by decide +kernel
theorem dX7_has_105 : decode cX7_has 105 = .ok (.bipush 100, 2) := by decide +kernel
theorem dX7_has_107 : decode cX7_has 107 = .ok (.iadd, 1) := by decide +kernel
theorem dX7_has_108 : decode cX7_has 108 = .ok (.iload 5, 2) := by decide +kernel
theorem dX7_has_110 : decode cX7_has 110 = .ok (.iadd, 1) := by decide +kernel
theorem dX7_has_111 : decode cX7_has 111 = .ok (.iaload, 1) := by decide +kernel
theorem dX7_has_112 : decode cX7_has 112 = .ok (.iload_n 3, 1) := by decide +kernel
theorem dX7_has_113 : decode cX7_has 113 = .ok (.if_icmp .ne 7, 3) := by decide +kernel
theorem dX7_has_116 : decode cX7_has 116 = .ok (.iconst 1, 1) := by decide +kernel
theorem dX7_has_117 : decode cX7_has 117 = .ok (.goto 5, 3) := by decide +kernel
theorem dX7_has_120 : decode cX7_has 120 = .ok (.iload 4, 2) := by decide +kernel
theorem dX7_has_122 : decode cX7_has 122 = .ok (.istore 4, 2) := by decide +kernel
theorem dX7_has_124 : decode cX7_has 124 = .ok (.iinc 5 1, 3) := by decide +kernel
theorem dX7_has_127 : decode cX7_has 127 = .ok (.goto (-41), 3) := by decide +kernel
theorem dX7_has_130 : decode cX7_has 130 = .ok (.iload 4, 2) := by decide +kernel
theorem dX7_has_132 : decode cX7_has 132 = .ok (.ireturn, 1) := by decide +kernel
theorem dX7_distinct_0 : decode cX7_distinct 0 = .ok (.aload_n 0, 1) := by decide +kernel
theorem dX7_distinct_1 : decode cX7_distinct 1 = .ok (.iconst 0, 1) := by decide +kernel
theorem dX7_distinct_2 : decode cX7_distinct 2 = .ok (.putfield 1, 3) := by decide +kernel
theorem dX7_distinct_5 : decode cX7_distinct 5 = .ok (.aload_n 0, 1) := by decide +kernel
theorem dX7_distinct_6 : decode cX7_distinct 6 = .ok (.iload_n 1, 1) := by decide +kernel
theorem dX7_distinct_7 : decode cX7_distinct 7 = .ok (.iconst 3, 1) := by decide +kernel
theorem dX7_distinct_8 : decode cX7_distinct 8 = .ok (.iconst 3, 1) := by decide +kernel
theorem dX7_distinct_9 : decode cX7_distinct 9 = .ok (.invokevirtual 100, 3) := by decide +kernel
theorem dX7_distinct_12 : decode cX7_distinct 12 = .ok (.ifCond .ne 5, 3) := by decide +kernel
theorem dX7_distinct_15 : decode cX7_distinct 15 = .ok (.iconst (-1), 1) := by decide +kernel
theorem dX7_distinct_16 : decode cX7_distinct 16 = .ok (.ireturn, 1) := by decide +kernel
theorem dX7_distinct_17 : decode cX7_distinct 17 = .ok (.aload_n 0, 1) := by decide +kernel
theorem dX7_distinct_18 : decode cX7_distinct 18 = .ok (.iload_n 1, 1) := by decide +kernel
theorem dX7_distinct_19 : decode cX7_distinct 19 = .ok (.invokevirtual 55, 3) := by decide +kernel
theorem dX7_distinct_22 : decode cX7_distinct 22 = .ok (.aload_n 0, 1) := by decide +kernel
theorem dX7_distinct_23 : decode cX7_distinct 23 = .ok (.getfield 17, 3) := by decide +kernel
theorem dX7_distinct_26 : decode cX7_distinct 26 = .ok (.iload_n 1, 1) := by decide +kernel
theorem dX7_distinct_27 : decode cX7_distinct 27 = .ok (.iaload, 1) := by decide +kernel
theorem dX7_distinct_28 : decode cX7_distinct 28 = .ok (.if_icmp .ge 9, 3) := by decide +kernel
theorem dX7_distinct_31 : decode cX7_distinct 31 = .ok (.aload_n 0, 1) := by decide +kernel
theorem dX7_distinct_32 : decode cX7_distinct 32 = .ok (.iload_n 1, 1) := by decide +kernel
theorem dX7_distinct_33 : decode cX7_distinct 33 = .ok (.invokevirtual 55, 3) := by decide +kernel
theorem dX7_distinct_36 : decode cX7_distinct 36 = .ok (.ireturn, 1) := by decide +kernel
theorem dX7_distinct_37 : decode cX7_distinct 37 = .ok (.iconst 0, 1) := by decide +kernel
theorem dX7_distinct_38 : decode cX7_distinct 38 = .ok (.istore_n 2, 1) := by decide +kernel
theorem dX7_distinct_39 : decode cX7_distinct 39 = .ok (.iconst 0, 1) := by decide +kernel
theorem dX7_distinct_40 : decode cX7_distinct 40 = .ok (.istore_n 3, 1) := by decide +kernel
theorem dX7_distinct_41 : decode cX7_distinct 41 = .ok (.iload_n 3, 1) := by decide +kernel
theorem dX7_distinct_42 : decode cX7_distinct 42 = .ok (.aload_n 0, 1) := by decide +kernel
theorem dX7_distinct_43 : decode cX7_distinct 43 = .ok (.iload_n 1, 1) := by decide +kernel
theorem dX7_distinct_44 : decode cX7_distinct 44 = .ok (.invokevirtual 55, 3) := by decide +kernel
theorem dX7_distinct_47 : decode cX7_distinct 47 = .ok (.if_icmp .ge 48, 3) := by decide +kernel
theorem dX7_distinct_50 : decode cX7_distinct 50 = .ok (.aload_n 0, 1) := by decide +kernel
theorem dX7_distinct_51 : decode cX7_distinct 51 = .ok (.getfield 32, 3) := by decide +kernel
theorem dX7_distinct_54 : decode cX7_distinct 54 = .ok (.sipush 1200, 3) := by decide +kernel
theorem dX7_distinct_57 : decode cX7_distinct 57 = .ok (.iload_n 1, 1) := by decide +kernel
theorem dX7_distinct_58 : decode cX7_distinct 58 = .ok (.imul, 1) := by decide +kernel
theorem dX7_distinct_59 : decode cX7_distinct 59 = .ok (.bipush 100, 2) := by decide +kernel
theorem dX7_distinct_61 : decode cX7_distinct 61 = .ok (.iadd, 1) := by decide +kernel
theorem dX7_distinct_62 : decode cX7_distinct 62 = .ok (.iload_n 3, 1) := by decide +kernel
theorem dX7_distinct_63 : decode cX7_distinct 63 = .ok (.iadd, 1) := by decide +kernel
theorem dX7_distinct_64 : decode cX7_distinct 64 = .ok (.iaload, 1) := by decide +kernel
theorem dX7_distinct_65 : decode cX7_distinct 65 = .ok (.iload_n 2, 1) := by decide +kernel
theorem dX7_distinct_66 : decode cX7_distinct 66 = .ok (.if_icmp .le 21, 3) := by decide +kernel
theorem dX7_distinct_69 : decode cX7_distinct 69 = .ok (.aload_n 0, 1) := by decide +kernel
theorem dX7_distinct_70 : decode cX7_distinct 70 = .ok (.getfield 32, 3) := by decide +kernel
theorem dX7_distinct_73 : decode cX7_distinct 73 = .ok (.sipush 1200, 3) := by decide +kernel
theorem dX7_distinct_76 : decode cX7_distinct 76 = .ok (.iload_n 1, 1) := by decide +kernel
theorem dX7_distinct_77 : decode cX7_distinct 77 = .ok (.imul, 1) := by decide +kernel
theorem dX7_distinct_78 : decode cX7_distinct 78 = .ok (.bipush 100, 2) := by decide +kernel
theorem dX7_distinct_80 : decode cX7_distinct 80 = .ok (.iadd, 1) := by decide +kernel
theorem dX7_distinct_81 : decode cX7_distinct 81 = .ok (.iload_n 3, 1) := by decide +kernel
theorem dX7_distinct_82 : decode cX7_distinct 82 = .ok (.iadd, 1) := by decide +kernel
theorem dX7_distinct_83 : decode cX7_distinct 83 = .ok (.iaload, 1) := by decide +kernel
theorem dX7_distinct_84 : decode cX7_distinct 84 = .ok (.goto 4, 3) := by decide +kernel
theorem dX7_distinct_87 : decode cX7_distinct 87 = .ok (.iload_n 2, 1) := by decide +kernel
theorem dX7_distinct_88 : decode cX7_distinct 88 = .ok (.istore_n 2, 1) := by decide +kernel
theorem dX7_distinct_89 : decode cX7_distinct 89 = .ok (.iinc 3 1, 3) := by decide +kernel
theorem dX7_distinct_92 : decode cX7_distinct 92 = .ok (.goto (-51), 3) := by decide +kernel
theorem dX7_distinct_95 : decode cX7_distinct 95 = .ok (.aload_n 0, 1) := by decide +kernel
theorem dX7_distinct_96 : decode cX7_distinct 96 = .ok (.getfield 17, 3) := by decide +kernel
theorem dX7_distinct_99 : decode cX7_distinct 99 = .ok (.iload_n 1, 1) := by decide +kernel
theorem dX7_distinct_100 : decode cX7_distinct 100 = .ok (.iaload, 1) := by decide +kernel
theorem dX7_distinct_101 : decode cX7_distinct 101 = .ok (.iconst 1, 1) := by decide +kernel
theorem dX7_distinct_102 : decode cX7_distinct 102 = .ok (.isub, 1) := by decide +kernel
theorem dX7_distinct_103 : decode cX7_distinct 103 = .ok (.ldc 45, 2) := by decide +kernel
theorem dX7_distinct_105 : decode cX7_distinct 105 = .ok (.imul, 1) := by decide +kernel
theorem dX7_distinct_106 : decode cX7_distinct 106 = .ok (.iload_n 2, 1) := by decide +kernel
theorem dX7_distinct_107 : decode cX7_distinct 107 = .ok (.idiv, 1) := by decide +kernel
theorem dX7_distinct_108 : decode cX7_distinct 108 = .ok (.ireturn, 1) := by decide +kernel
theorem dX7_quantile_0 : decode cX7_quantile 0 = .ok (.aload_n 0, 1) := by decide +kernel
theorem dX7_quantile_1 : decode cX7_quantile 1 = .ok (.iconst 0, 1) := by decide +kernel
theorem dX7_quantile_2 : decode cX7_quantile 2 = .ok (.putfield 1, 3) := by decide +kernel
theorem dX7_quantile_5 : decode cX7_quantile 5 = .ok (.aload_n 0, 1) := by decide +kernel
theorem dX7_quantile_6 : decode cX7_quantile 6 = .ok (.iload_n 1, 1) := by decide +kernel
theorem dX7_quantile_7 : decode cX7_quantile 7 = .ok (.iconst 4, 1) := by decide +kernel
theorem dX7_quantile_8 : decode cX7_quantile 8 = .ok (.iconst 4, 1) := by decide +kernel
theorem dX7_quantile_9 : decode cX7_quantile 9 = .ok (.invokevirtual 100, 3) := by decide +kernel
theorem dX7_quantile_12 : decode cX7_quantile 12 = .ok (.ifCond .eq 17, 3) := by decide +kernel
theorem dX7_quantile_15 : decode cX7_quantile 15 = .ok (.iload_n 2, 1) := by decide +kernel
theorem dX7_quantile_16 : decode cX7_quantile 16 = .ok (.iconst 1, 1) := by decide +kernel
theorem dX7_quantile_17 : decode cX7_quantile 17 = .ok (.aload_n 0, 1) := by decide +kernel
theorem dX7_quantile_18 : decode cX7_quantile 18 = .ok (.getfield 23, 3) := by decide +kernel
theorem dX7_quantile_21 : decode cX7_quantile 21 = .ok (.iload_n 1, 1) := by decide +kernel
theorem dX7_quantile_22 : decode cX7_quantile 22 = .ok (.iaload, 1) := by decide +kernel
theorem dX7_quantile_23 : decode cX7_quantile 23 = .ok (.invokestatic 41, 3) := by decide +kernel
theorem dX7_quantile_26 : decode cX7_quantile 26 = .ok (.ifCond .ne 5, 3) := by decide +kernel
theorem dX7_quantile_29 : decode cX7_quantile 29 = .ok (.iconst (-1), 1) := by decide +kernel
theorem dX7_quantile_30 : decode cX7_quantile 30 = .ok (.ireturn, 1) := by decide +kernel
theorem dX7_quantile_31 : decode cX7_quantile 31 = .ok (.iconst 0, 1) := by decide +kernel
theorem dX7_quantile_32 : decode cX7_quantile 32 = .ok (.istore_n 3, 1) := by decide +kernel
theorem dX7_quantile_33 : decode cX7_quantile 33 = .ok (.sipush 9999, 3) := by decide +kernel
theorem dX7_quantile_36 : decode cX7_quantile 36 = .ok (.istore 4, 2) := by decide +kernel
theorem dX7_quantile_38 : decode cX7_quantile 38 = .ok (.iload_n 3, 1) := by decide +kernel
theorem dX7_quantile_39 : decode cX7_quantile 39 = .ok (.iload 4, 2) := by decide +kernel
theorem dX7_quantile_41 : decode cX7_quantile 41 = .ok (.if_icmp .ge 37, 3) := by decide +kernel
theorem dX7_quantile_44 : decode cX7_quantile 44 = .ok (.iload_n 3, 1) := by decide +kernel
theorem dX7_quantile_45 : decode cX7_quantile 45 = .ok (.iload 4, 2) := by decide +kernel
theorem dX7_quantile_47 : decode cX7_quantile 47 = .ok (.iadd, 1) := by decide +kernel
theorem dX7_quantile_48 : decode cX7_quantile 48 = .ok (.iconst 2, 1) := by decide +kernel
theorem dX7_quantile_49 : decode cX7_quantile 49 = .ok (.idiv, 1) := by decide +kernel
theorem dX7_quantile_50 : decode cX7_quantile 50 = .ok (.istore 5, 2) := by decide +kernel
theorem dX7_quantile_52 : decode cX7_quantile 52 = .ok (.aload_n 0, 1) := by decide +kernel
theorem dX7_quantile_53 : decode cX7_quantile 53 = .ok (.iload_n 1, 1) := by decide +kernel
theorem dX7_quantile_54 : decode cX7_quantile 54 = .ok (.iload 5, 2) := by decide +kernel
theorem dX7_quantile_56 : decode cX7_quantile 56 = .ok (.invokevirtual 110, 3) := by decide +kernel
theorem dX7_quantile_59 : decode cX7_quantile 59 = .ok (.iload_n 2, 1) := by decide +kernel
theorem dX7_quantile_60 : decode cX7_quantile 60 = .ok (.if_icmp .lt 10, 3) := by decide +kernel
theorem dX7_quantile_63 : decode cX7_quantile 63 = .ok (.iload 5, 2) := by decide +kernel
theorem dX7_quantile_65 : decode cX7_quantile 65 = .ok (.istore 4, 2) := by decide +kernel
theorem dX7_quantile_67 : decode cX7_quantile 67 = .ok (.goto 8, 3) := by decide +kernel
theorem dX7_quantile_70 : decode cX7_quantile 70 = .ok (.iload 5, 2) := by decide +kernel
theorem dX7_quantile_72 : decode cX7_quantile 72 = .ok (.iconst 1, 1) := by decide +kernel
theorem dX7_quantile_73 : decode cX7_quantile 73 = .ok (.iadd, 1) := by decide +kernel
theorem dX7_quantile_74 : decode cX7_quantile 74 = .ok (.istore_n 3, 1) := by decide +kernel
theorem dX7_quantile_75 : decode cX7_quantile 75 = .ok (.goto (-37), 3) := by decide +kernel
theorem dX7_quantile_78 : decode cX7_quantile 78 = .ok (.iload_n 3, 1) := by decide +kernel
theorem dX7_quantile_79 : decode cX7_quantile 79 = .ok (.ireturn, 1) := by decide +kernel
theorem dX7_keptOf_0 : decode cX7_keptOf 0 = .ok (.iconst 0, 1) := by decide +kernel
theorem dX7_keptOf_1 : decode cX7_keptOf 1 = .ok (.istore_n 2, 1) := by decide +kernel
theorem dX7_keptOf_2 : decode cX7_keptOf 2 = .ok (.aload_n 0, 1) := by decide +kernel
theorem dX7_keptOf_3 : decode cX7_keptOf 3 = .ok (.getfield 13, 3) := by decide +kernel
theorem dX7_keptOf_6 : decode cX7_keptOf 6 = .ok (.iload_n 1, 1) := by decide +kernel
theorem dX7_keptOf_7 : decode cX7_keptOf 7 = .ok (.iaload, 1) := by decide +kernel
theorem dX7_keptOf_8 : decode cX7_keptOf 8 = .ok (.tableswitch 100 0 3 #[32, 38, 38, 32], 32) := by decide +kernel
theorem dX7_keptOf_40 : decode cX7_keptOf 40 = .ok (.aload_n 0, 1) := by decide +kernel
theorem dX7_keptOf_41 : decode cX7_keptOf 41 = .ok (.iload_n 1, 1) := by decide +kernel
theorem dX7_keptOf_42 : decode cX7_keptOf 42 = .ok (.invokevirtual 55, 3) := by decide +kernel
theorem dX7_keptOf_45 : decode cX7_keptOf 45 = .ok (.ireturn, 1) := by decide +kernel
theorem dX7_keptOf_46 : decode cX7_keptOf 46 = .ok (.iconst 0, 1) := by decide +kernel
theorem dX7_keptOf_47 : decode cX7_keptOf 47 = .ok (.istore_n 3, 1) := by decide +kernel
theorem dX7_keptOf_48 : decode cX7_keptOf 48 = .ok (.iload_n 3, 1) := by decide +kernel
theorem dX7_keptOf_49 : decode cX7_keptOf 49 = .ok (.aload_n 0, 1) := by decide +kernel
theorem dX7_keptOf_50 : decode cX7_keptOf 50 = .ok (.getfield 13, 3) := by decide +kernel
theorem dX7_keptOf_53 : decode cX7_keptOf 53 = .ok (.iload_n 1, 1) := by decide +kernel
theorem dX7_keptOf_54 : decode cX7_keptOf 54 = .ok (.iaload, 1) := by decide +kernel
theorem dX7_keptOf_55 : decode cX7_keptOf 55 = .ok (.iconst 1, 1) := by decide +kernel
theorem dX7_keptOf_56 : decode cX7_keptOf 56 = .ok (.if_icmp .ne 7, 3) := by decide +kernel
theorem dX7_keptOf_59 : decode cX7_keptOf 59 = .ok (.iconst 4, 1) := by decide +kernel
theorem dX7_keptOf_60 : decode cX7_keptOf 60 = .ok (.goto 4, 3) := by decide +kernel
theorem dX7_keptOf_63 : decode cX7_keptOf 63 = .ok (.iconst 1, 1) := by decide +kernel
theorem dX7_keptOf_64 : decode cX7_keptOf 64 = .ok (.aload_n 0, 1) := by decide +kernel
theorem dX7_keptOf_65 : decode cX7_keptOf 65 = .ok (.getfield 17, 3) := by decide +kernel
theorem dX7_keptOf_68 : decode cX7_keptOf 68 = .ok (.iload_n 1, 1) := by decide +kernel
theorem dX7_keptOf_69 : decode cX7_keptOf 69 = .ok (.iaload, 1) := by decide +kernel
theorem dX7_keptOf_70 : decode cX7_keptOf 70 = .ok (.imul, 1) := by decide +kernel
theorem dX7_keptOf_71 : decode cX7_keptOf 71 = .ok (.if_icmp .ge 35, 3) := by decide +kernel
theorem dX7_keptOf_74 : decode cX7_keptOf 74 = .ok (.aload_n 0, 1) := by decide +kernel
theorem dX7_keptOf_75 : decode cX7_keptOf 75 = .ok (.getfield 32, 3) := by decide +kernel
theorem dX7_keptOf_78 : decode cX7_keptOf 78 = .ok (.sipush 1200, 3) := by decide +kernel
theorem dX7_keptOf_81 : decode cX7_keptOf 81 = .ok (.iload_n 1, 1) := by decide +kernel
theorem dX7_keptOf_82 : decode cX7_keptOf 82 = .ok (.imul, 1) := by decide +kernel
theorem dX7_keptOf_83 : decode cX7_keptOf 83 = .ok (.bipush 100, 2) := by decide +kernel
theorem dX7_keptOf_85 : decode cX7_keptOf 85 = .ok (.iadd, 1) := by decide +kernel
theorem dX7_keptOf_86 : decode cX7_keptOf 86 = .ok (.iload_n 3, 1) := by decide +kernel
theorem dX7_keptOf_87 : decode cX7_keptOf 87 = .ok (.iadd, 1) := by decide +kernel
theorem dX7_keptOf_88 : decode cX7_keptOf 88 = .ok (.iaload, 1) := by decide +kernel
theorem dX7_keptOf_89 : decode cX7_keptOf 89 = .ok (.ifCond .eq 9, 3) := by decide +kernel
theorem dX7_keptOf_92 : decode cX7_keptOf 92 = .ok (.iload_n 2, 1) := by decide +kernel
theorem dX7_keptOf_93 : decode cX7_keptOf 93 = .ok (.iconst 1, 1) := by decide +kernel
theorem dX7_keptOf_94 : decode cX7_keptOf 94 = .ok (.iadd, 1) := by decide +kernel
theorem dX7_keptOf_95 : decode cX7_keptOf 95 = .ok (.goto 4, 3) := by decide +kernel
theorem dX7_keptOf_98 : decode cX7_keptOf 98 = .ok (.iload_n 2, 1) := by decide +kernel
theorem dX7_keptOf_99 : decode cX7_keptOf 99 = .ok (.istore_n 2, 1) := by decide +kernel
theorem dX7_keptOf_100 : decode cX7_keptOf 100 = .ok (.iinc 3 1, 3) := by decide +kernel
theorem dX7_keptOf_103 : decode cX7_keptOf 103 = .ok (.goto (-55), 3) := by decide +kernel
theorem dX7_keptOf_106 : decode cX7_keptOf 106 = .ok (.iload_n 2, 1) := by decide +kernel
theorem dX7_keptOf_107 : decode cX7_keptOf 107 = .ok (.ireturn, 1) := by decide +kernel
theorem dX7_keptOf_108 : decode cX7_keptOf 108 = .ok (.iconst 0, 1) := by decide +kernel
theorem dX7_keptOf_109 : decode cX7_keptOf 109 = .ok (.istore_n 3, 1) := by decide +kernel
theorem dX7_keptOf_110 : decode cX7_keptOf 110 = .ok (.iload_n 3, 1) := by decide +kernel
theorem dX7_keptOf_111 : decode cX7_keptOf 111 = .ok (.bipush 31, 2) := by decide +kernel
theorem dX7_keptOf_113 : decode cX7_keptOf 113 = .ok (.if_icmp .ge 24, 3) := by decide +kernel
theorem dX7_keptOf_116 : decode cX7_keptOf 116 = .ok (.iload_n 2, 1) := by decide +kernel
theorem dX7_keptOf_117 : decode cX7_keptOf 117 = .ok (.aload_n 0, 1) := by decide +kernel
theorem dX7_keptOf_118 : decode cX7_keptOf 118 = .ok (.getfield 32, 3) := by decide +kernel
theorem dX7_keptOf_121 : decode cX7_keptOf 121 = .ok (.sipush 1200, 3) := by decide +kernel
theorem dX7_keptOf_124 : decode cX7_keptOf 124 = .ok (.iload_n 1, 1) := by decide +kernel
theorem dX7_keptOf_125 : decode cX7_keptOf 125 = .ok (.imul, 1) := by decide +kernel
theorem dX7_keptOf_126 : decode cX7_keptOf 126 = .ok (.iload_n 3, 1) := by decide +kernel
theorem dX7_keptOf_127 : decode cX7_keptOf 127 = .ok (.iadd, 1) := by decide +kernel
theorem dX7_keptOf_128 : decode cX7_keptOf 128 = .ok (.iaload, 1) := by decide +kernel
theorem dX7_keptOf_129 : decode cX7_keptOf 129 = .ok (.iadd, 1) := by decide +kernel
theorem dX7_keptOf_130 : decode cX7_keptOf 130 = .ok (.istore_n 2, 1) := by decide +kernel
end
section
theorem dX7_keptOf_131 : decode cX7_keptOf 131 = .ok (.iinc 3 1, 3) := by decide +kernel
theorem dX7_keptOf_134 : decode cX7_keptOf 134 = .ok (.goto (-24), 3) := by decide +kernel
theorem dX7_keptOf_137 : decode cX7_keptOf 137 = .ok (.iload_n 2, 1) := by decide +kernel
theorem dX7_keptOf_138 : decode cX7_keptOf 138 = .ok (.ireturn, 1) := by decide +kernel
theorem dX7_told_0 : decode cX7_told 0 = .ok (.aload_n 0, 1) := by decide +kernel
theorem dX7_told_1 : decode cX7_told 1 = .ok (.iconst 0, 1) := by decide +kernel
theorem dX7_told_2 : decode cX7_told 2 = .ok (.putfield 1, 3) := by decide +kernel
theorem dX7_told_5 : decode cX7_told 5 = .ok (.aload_n 0, 1) := by decide +kernel
theorem dX7_told_6 : decode cX7_told 6 = .ok (.iload_n 1, 1) := by decide +kernel
theorem dX7_told_7 : decode cX7_told 7 = .ok (.invokevirtual 50, 3) := by decide +kernel
theorem dX7_told_10 : decode cX7_told 10 = .ok (.ifCond .eq 5, 3) := by decide +kernel
theorem dX7_told_13 : decode cX7_told 13 = .ok (.iconst (-1), 1) := by decide +kernel
theorem dX7_told_14 : decode cX7_told 14 = .ok (.ireturn, 1) := by decide +kernel
theorem dX7_told_15 : decode cX7_told 15 = .ok (.iload_n 2, 1) := by decide +kernel
theorem dX7_told_16 : decode cX7_told 16 = .ok (.tableswitch 95 0 6 #[44, 51, 58, 65, 75, 82, 89], 44) := by decide +kernel
theorem dX7_told_60 : decode cX7_told 60 = .ok (.aload_n 0, 1) := by decide +kernel
theorem dX7_told_61 : decode cX7_told 61 = .ok (.getfield 13, 3) := by decide +kernel
theorem dX7_told_64 : decode cX7_told 64 = .ok (.iload_n 1, 1) := by decide +kernel
theorem dX7_told_65 : decode cX7_told 65 = .ok (.iaload, 1) := by decide +kernel
theorem dX7_told_66 : decode cX7_told 66 = .ok (.ireturn, 1) := by decide +kernel
theorem dX7_told_67 : decode cX7_told 67 = .ok (.aload_n 0, 1) := by decide +kernel
theorem dX7_told_68 : decode cX7_told 68 = .ok (.getfield 17, 3) := by decide +kernel
theorem dX7_told_71 : decode cX7_told 71 = .ok (.iload_n 1, 1) := by decide +kernel
theorem dX7_told_72 : decode cX7_told 72 = .ok (.iaload, 1) := by decide +kernel
theorem dX7_told_73 : decode cX7_told 73 = .ok (.ireturn, 1) := by decide +kernel
theorem dX7_told_74 : decode cX7_told 74 = .ok (.aload_n 0, 1) := by decide +kernel
theorem dX7_told_75 : decode cX7_told 75 = .ok (.getfield 20, 3) := by decide +kernel
theorem dX7_told_78 : decode cX7_told 78 = .ok (.iload_n 1, 1) := by decide +kernel
theorem dX7_told_79 : decode cX7_told 79 = .ok (.iaload, 1) := by decide +kernel
theorem dX7_told_80 : decode cX7_told 80 = .ok (.ireturn, 1) := by decide +kernel
theorem dX7_told_81 : decode cX7_told 81 = .ok (.aload_n 0, 1) := by decide +kernel
theorem dX7_told_82 : decode cX7_told 82 = .ok (.getfield 23, 3) := by decide +kernel
theorem dX7_told_85 : decode cX7_told 85 = .ok (.iload_n 1, 1) := by decide +kernel
theorem dX7_told_86 : decode cX7_told 86 = .ok (.iaload, 1) := by decide +kernel
theorem dX7_told_87 : decode cX7_told 87 = .ok (.ldc 54, 2) := by decide +kernel
theorem dX7_told_89 : decode cX7_told 89 = .ok (.iadd, 1) := by decide +kernel
theorem dX7_told_90 : decode cX7_told 90 = .ok (.ireturn, 1) := by decide +kernel
theorem dX7_told_91 : decode cX7_told 91 = .ok (.aload_n 0, 1) := by decide +kernel
theorem dX7_told_92 : decode cX7_told 92 = .ok (.getfield 26, 3) := by decide +kernel
theorem dX7_told_95 : decode cX7_told 95 = .ok (.iload_n 1, 1) := by decide +kernel
theorem dX7_told_96 : decode cX7_told 96 = .ok (.iaload, 1) := by decide +kernel
theorem dX7_told_97 : decode cX7_told 97 = .ok (.ireturn, 1) := by decide +kernel
theorem dX7_told_98 : decode cX7_told 98 = .ok (.aload_n 0, 1) := by decide +kernel
theorem dX7_told_99 : decode cX7_told 99 = .ok (.getfield 29, 3) := by decide +kernel
theorem dX7_told_102 : decode cX7_told 102 = .ok (.iload_n 1, 1) := by decide +kernel
theorem dX7_told_103 : decode cX7_told 103 = .ok (.iaload, 1) := by decide +kernel
theorem dX7_told_104 : decode cX7_told 104 = .ok (.ireturn, 1) := by decide +kernel
theorem dX7_told_105 : decode cX7_told 105 = .ok (.aload_n 0, 1) := by decide +kernel
theorem dX7_told_106 : decode cX7_told 106 = .ok (.iload_n 1, 1) := by decide +kernel
theorem dX7_told_107 : decode cX7_told 107 = .ok (.invokevirtual 113, 3) := by decide +kernel
theorem dX7_told_110 : decode cX7_told 110 = .ok (.ireturn, 1) := by decide +kernel
theorem dX7_told_111 : decode cX7_told 111 = .ok (.iconst (-1), 1) := by decide +kernel
theorem dX7_told_112 : decode cX7_told 112 = .ok (.ireturn, 1) := by decide +kernel
theorem dX7_nth_0 : decode cX7_nth 0 = .ok (.iconst 0, 1) := by decide +kernel
theorem dX7_nth_1 : decode cX7_nth 1 = .ok (.istore 4, 2) := by decide +kernel
theorem dX7_nth_3 : decode cX7_nth 3 = .ok (.iload 4, 2) := by decide +kernel
theorem dX7_nth_5 : decode cX7_nth 5 = .ok (.aload_n 0, 1) := by decide +kernel
theorem dX7_nth_6 : decode cX7_nth 6 = .ok (.iload_n 1, 1) := by decide +kernel
theorem dX7_nth_7 : decode cX7_nth 7 = .ok (.invokevirtual 55, 3) := by decide +kernel
theorem dX7_nth_10 : decode cX7_nth 10 = .ok (.if_icmp .ge 90, 3) := by decide +kernel
theorem dX7_nth_13 : decode cX7_nth 13 = .ok (.iconst 0, 1) := by decide +kernel
theorem dX7_nth_14 : decode cX7_nth 14 = .ok (.istore 5, 2) := by decide +kernel
theorem dX7_nth_16 : decode cX7_nth 16 = .ok (.iconst 0, 1) := by decide +kernel
theorem dX7_nth_17 : decode cX7_nth 17 = .ok (.istore 6, 2) := by decide +kernel
theorem dX7_nth_19 : decode cX7_nth 19 = .ok (.iload 6, 2) := by decide +kernel
theorem dX7_nth_21 : decode cX7_nth 21 = .ok (.aload_n 0, 1) := by decide +kernel
theorem dX7_nth_22 : decode cX7_nth 22 = .ok (.iload_n 1, 1) := by decide +kernel
theorem dX7_nth_23 : decode cX7_nth 23 = .ok (.invokevirtual 55, 3) := by decide +kernel
theorem dX7_nth_26 : decode cX7_nth 26 = .ok (.if_icmp .ge 59, 3) := by decide +kernel
theorem dX7_nth_29 : decode cX7_nth 29 = .ok (.aload_n 0, 1) := by decide +kernel
theorem dX7_nth_30 : decode cX7_nth 30 = .ok (.getfield 32, 3) := by decide +kernel
theorem dX7_nth_33 : decode cX7_nth 33 = .ok (.sipush 1200, 3) := by decide +kernel
theorem dX7_nth_36 : decode cX7_nth 36 = .ok (.iload_n 1, 1) := by decide +kernel
theorem dX7_nth_37 : decode cX7_nth 37 = .ok (.imul, 1) := by decide +kernel
theorem dX7_nth_38 : decode cX7_nth 38 = .ok (.bipush 100, 2) := by decide +kernel
theorem dX7_nth_40 : decode cX7_nth 40 = .ok (.iadd, 1) := by decide +kernel
theorem dX7_nth_41 : decode cX7_nth 41 = .ok (.iload_n 2, 1) := by decide +kernel
theorem dX7_nth_42 : decode cX7_nth 42 = .ok (.iload 6, 2) := by decide +kernel
theorem dX7_nth_44 : decode cX7_nth 44 = .ok (.imul, 1) := by decide +kernel
theorem dX7_nth_45 : decode cX7_nth 45 = .ok (.iadd, 1) := by decide +kernel
theorem dX7_nth_46 : decode cX7_nth 46 = .ok (.iaload, 1) := by decide +kernel
theorem dX7_nth_47 : decode cX7_nth 47 = .ok (.aload_n 0, 1) := by decide +kernel
theorem dX7_nth_48 : decode cX7_nth 48 = .ok (.getfield 32, 3) := by decide +kernel
theorem dX7_nth_51 : decode cX7_nth 51 = .ok (.sipush 1200, 3) := by decide +kernel
theorem dX7_nth_54 : decode cX7_nth 54 = .ok (.iload_n 1, 1) := by decide +kernel
theorem dX7_nth_55 : decode cX7_nth 55 = .ok (.imul, 1) := by decide +kernel
theorem dX7_nth_56 : decode cX7_nth 56 = .ok (.bipush 100, 2) := by decide +kernel
theorem dX7_nth_58 : decode cX7_nth 58 = .ok (.iadd, 1) := by decide +kernel
theorem dX7_nth_59 : decode cX7_nth 59 = .ok (.iload_n 2, 1) := by decide +kernel
theorem dX7_nth_60 : decode cX7_nth 60 = .ok (.iload 4, 2) := by decide +kernel
theorem dX7_nth_62 : decode cX7_nth 62 = .ok (.imul, 1) := by decide +kernel
theorem dX7_nth_63 : decode cX7_nth 63 = .ok (.iadd, 1) := by decide +kernel
theorem dX7_nth_64 : decode cX7_nth 64 = .ok (.iaload, 1) := by decide +kernel
theorem dX7_nth_65 : decode cX7_nth 65 = .ok (.if_icmp .ge 10, 3) := by decide +kernel
theorem dX7_nth_68 : decode cX7_nth 68 = .ok (.iload 5, 2) := by decide +kernel
theorem dX7_nth_70 : decode cX7_nth 70 = .ok (.iconst 1, 1) := by decide +kernel
theorem dX7_nth_71 : decode cX7_nth 71 = .ok (.iadd, 1) := by decide +kernel
theorem dX7_nth_72 : decode cX7_nth 72 = .ok (.goto 5, 3) := by decide +kernel
theorem dX7_nth_75 : decode cX7_nth 75 = .ok (.iload 5, 2) := by decide +kernel
theorem dX7_nth_77 : decode cX7_nth 77 = .ok (.istore 5, 2) := by decide +kernel
theorem dX7_nth_79 : decode cX7_nth 79 = .ok (.iinc 6 1, 3) := by decide +kernel
theorem dX7_nth_82 : decode cX7_nth 82 = .ok (.goto (-63), 3) := by decide +kernel
theorem dX7_nth_85 : decode cX7_nth 85 = .ok (.iload 5, 2) := by decide +kernel
theorem dX7_nth_87 : decode cX7_nth 87 = .ok (.iload_n 3, 1) := by decide +kernel
theorem dX7_nth_88 : decode cX7_nth 88 = .ok (.if_icmp .ne 6, 3) := by decide +kernel
theorem dX7_nth_91 : decode cX7_nth 91 = .ok (.iload 4, 2) := by decide +kernel
theorem dX7_nth_93 : decode cX7_nth 93 = .ok (.ireturn, 1) := by decide +kernel
theorem dX7_nth_94 : decode cX7_nth 94 = .ok (.iinc 4 1, 3) := by decide +kernel
theorem dX7_nth_97 : decode cX7_nth 97 = .ok (.goto (-94), 3) := by decide +kernel
theorem dX7_nth_100 : decode cX7_nth 100 = .ok (.iconst (-1), 1) := by decide +kernel
theorem dX7_nth_101 : decode cX7_nth 101 = .ok (.ireturn, 1) := by decide +kernel
theorem dX7_kept_0 : decode cX7_kept 0 = .ok (.aload_n 0, 1) := by decide +kernel
theorem dX7_kept_1 : decode cX7_kept 1 = .ok (.iconst 0, 1) := by decide +kernel
theorem dX7_kept_2 : decode cX7_kept 2 = .ok (.putfield 1, 3) := by decide +kernel
theorem dX7_kept_5 : decode cX7_kept 5 = .ok (.aload_n 0, 1) := by decide +kernel
theorem dX7_kept_6 : decode cX7_kept 6 = .ok (.iload_n 1, 1) := by decide +kernel
theorem dX7_kept_7 : decode cX7_kept 7 = .ok (.invokevirtual 50, 3) := by decide +kernel
theorem dX7_kept_10 : decode cX7_kept 10 = .ok (.ifCond .eq 5, 3) := by decide +kernel
theorem dX7_kept_13 : decode cX7_kept 13 = .ok (.iconst (-1), 1) := by decide +kernel
theorem dX7_kept_14 : decode cX7_kept 14 = .ok (.ireturn, 1) := by decide +kernel
theorem dX7_kept_15 : decode cX7_kept 15 = .ok (.iconst 0, 1) := by decide +kernel
theorem dX7_kept_16 : decode cX7_kept 16 = .ok (.istore 4, 2) := by decide +kernel
theorem dX7_kept_18 : decode cX7_kept 18 = .ok (.aload_n 0, 1) := by decide +kernel
theorem dX7_kept_19 : decode cX7_kept 19 = .ok (.getfield 13, 3) := by decide +kernel
theorem dX7_kept_22 : decode cX7_kept 22 = .ok (.iload_n 1, 1) := by decide +kernel
theorem dX7_kept_23 : decode cX7_kept 23 = .ok (.iaload, 1) := by decide +kernel
theorem dX7_kept_24 : decode cX7_kept 24 = .ok (.tableswitch 206 0 3 #[32, 78, 123, 163], 32) := by decide +kernel
theorem dX7_kept_56 : decode cX7_kept 56 = .ok (.iload_n 3, 1) := by decide +kernel
theorem dX7_kept_57 : decode cX7_kept 57 = .ok (.iconst 0, 1) := by decide +kernel
theorem dX7_kept_58 : decode cX7_kept 58 = .ok (.iconst 1, 1) := by decide +kernel
theorem dX7_kept_59 : decode cX7_kept 59 = .ok (.invokestatic 41, 3) := by decide +kernel
theorem dX7_kept_62 : decode cX7_kept 62 = .ok (.ifCond .eq 13, 3) := by decide +kernel
theorem dX7_kept_65 : decode cX7_kept 65 = .ok (.aload_n 0, 1) := by decide +kernel
theorem dX7_kept_66 : decode cX7_kept 66 = .ok (.iload_n 1, 1) := by decide +kernel
theorem dX7_kept_67 : decode cX7_kept 67 = .ok (.iconst 2, 1) := by decide +kernel
theorem dX7_kept_68 : decode cX7_kept 68 = .ok (.iload_n 2, 1) := by decide +kernel
theorem dX7_kept_69 : decode cX7_kept 69 = .ok (.invokevirtual 116, 3) := by decide +kernel
theorem dX7_kept_72 : decode cX7_kept 72 = .ok (.goto 4, 3) := by decide +kernel
theorem dX7_kept_75 : decode cX7_kept 75 = .ok (.iconst (-1), 1) := by decide +kernel
theorem dX7_kept_76 : decode cX7_kept 76 = .ok (.istore 4, 2) := by decide +kernel
theorem dX7_kept_78 : decode cX7_kept 78 = .ok (.iload 4, 2) := by decide +kernel
theorem dX7_kept_80 : decode cX7_kept 80 = .ok (.ifCond .ge 7, 3) := by decide +kernel
theorem dX7_kept_83 : decode cX7_kept 83 = .ok (.iconst (-1), 1) := by decide +kernel
theorem dX7_kept_84 : decode cX7_kept 84 = .ok (.goto 17, 3) := by decide +kernel
theorem dX7_kept_87 : decode cX7_kept 87 = .ok (.aload_n 0, 1) := by decide +kernel
theorem dX7_kept_88 : decode cX7_kept 88 = .ok (.getfield 32, 3) := by decide +kernel
theorem dX7_kept_91 : decode cX7_kept 91 = .ok (.aload_n 0, 1) := by decide +kernel
theorem dX7_kept_92 : decode cX7_kept 92 = .ok (.iload_n 1, 1) := by decide +kernel
theorem dX7_kept_93 : decode cX7_kept 93 = .ok (.iload 4, 2) := by decide +kernel
theorem dX7_kept_95 : decode cX7_kept 95 = .ok (.invokevirtual 59, 3) := by decide +kernel
theorem dX7_kept_98 : decode cX7_kept 98 = .ok (.iload_n 3, 1) := by decide +kernel
theorem dX7_kept_99 : decode cX7_kept 99 = .ok (.iadd, 1) := by decide +kernel
theorem dX7_kept_100 : decode cX7_kept 100 = .ok (.iaload, 1) := by decide +kernel
theorem dX7_kept_101 : decode cX7_kept 101 = .ok (.ireturn, 1) := by decide +kernel
theorem dX7_kept_102 : decode cX7_kept 102 = .ok (.iload_n 3, 1) := by decide +kernel
theorem dX7_kept_103 : decode cX7_kept 103 = .ok (.ifCond .ne 42, 3) := by decide +kernel
theorem dX7_kept_106 : decode cX7_kept 106 = .ok (.iload_n 2, 1) := by decide +kernel
theorem dX7_kept_107 : decode cX7_kept 107 = .ok (.iconst 0, 1) := by decide +kernel
theorem dX7_kept_108 : decode cX7_kept 108 = .ok (.iconst 4, 1) := by decide +kernel
theorem dX7_kept_109 : decode cX7_kept 109 = .ok (.aload_n 0, 1) := by decide +kernel
theorem dX7_kept_110 : decode cX7_kept 110 = .ok (.getfield 17, 3) := by decide +kernel
theorem dX7_kept_113 : decode cX7_kept 113 = .ok (.iload_n 1, 1) := by decide +kernel
theorem dX7_kept_114 : decode cX7_kept 114 = .ok (.iaload, 1) := by decide +kernel
theorem dX7_kept_115 : decode cX7_kept 115 = .ok (.imul, 1) := by decide +kernel
theorem dX7_kept_116 : decode cX7_kept 116 = .ok (.iconst 1, 1) := by decide +kernel
theorem dX7_kept_117 : decode cX7_kept 117 = .ok (.isub, 1) := by decide +kernel
theorem dX7_kept_118 : decode cX7_kept 118 = .ok (.invokestatic 41, 3) := by decide +kernel
theorem dX7_kept_121 : decode cX7_kept 121 = .ok (.ifCond .eq 24, 3) := by decide +kernel
theorem dX7_kept_124 : decode cX7_kept 124 = .ok (.aload_n 0, 1) := by decide +kernel
theorem dX7_kept_125 : decode cX7_kept 125 = .ok (.getfield 32, 3) := by decide +kernel
theorem dX7_kept_128 : decode cX7_kept 128 = .ok (.sipush 1200, 3) := by decide +kernel
theorem dX7_kept_131 : decode cX7_kept 131 = .ok (.iload_n 1, 1) := by decide +kernel
theorem dX7_kept_132 : decode cX7_kept 132 = .ok (.imul, 1) := by decide +kernel
theorem dX7_kept_133 : decode cX7_kept 133 = .ok (.bipush 100, 2) := by decide +kernel
theorem dX7_kept_135 : decode cX7_kept 135 = .ok (.iadd, 1) := by decide +kernel
theorem dX7_kept_136 : decode cX7_kept 136 = .ok (.iload_n 2, 1) := by decide +kernel
theorem dX7_kept_137 : decode cX7_kept 137 = .ok (.iadd, 1) := by decide +kernel
theorem dX7_kept_138 : decode cX7_kept 138 = .ok (.iaload, 1) := by decide +kernel
theorem dX7_kept_139 : decode cX7_kept 139 = .ok (.ldc 54, 2) := by decide +kernel
theorem dX7_kept_141 : decode cX7_kept 141 = .ok (.iadd, 1) := by decide +kernel
theorem dX7_kept_142 : decode cX7_kept 142 = .ok (.goto 4, 3) := by decide +kernel
theorem dX7_kept_145 : decode cX7_kept 145 = .ok (.iconst (-1), 1) := by decide +kernel
theorem dX7_kept_146 : decode cX7_kept 146 = .ok (.ireturn, 1) := by decide +kernel
theorem dX7_kept_147 : decode cX7_kept 147 = .ok (.iload_n 3, 1) := by decide +kernel
theorem dX7_kept_148 : decode cX7_kept 148 = .ok (.ifCond .ne 37, 3) := by decide +kernel
theorem dX7_kept_151 : decode cX7_kept 151 = .ok (.iload_n 2, 1) := by decide +kernel
theorem dX7_kept_152 : decode cX7_kept 152 = .ok (.iconst 0, 1) := by decide +kernel
theorem dX7_kept_153 : decode cX7_kept 153 = .ok (.aload_n 0, 1) := by decide +kernel
theorem dX7_kept_154 : decode cX7_kept 154 = .ok (.getfield 17, 3) := by decide +kernel
theorem dX7_kept_157 : decode cX7_kept 157 = .ok (.iload_n 1, 1) := by decide +kernel
theorem dX7_kept_158 : decode cX7_kept 158 = .ok (.iaload, 1) := by decide +kernel
theorem dX7_kept_159 : decode cX7_kept 159 = .ok (.iconst 1, 1) := by decide +kernel
theorem dX7_kept_160 : decode cX7_kept 160 = .ok (.isub, 1) := by decide +kernel
theorem dX7_kept_161 : decode cX7_kept 161 = .ok (.invokestatic 41, 3) := by decide +kernel
theorem dX7_kept_164 : decode cX7_kept 164 = .ok (.ifCond .eq 21, 3) := by decide +kernel
theorem dX7_kept_167 : decode cX7_kept 167 = .ok (.aload_n 0, 1) := by decide +kernel
theorem dX7_kept_168 : decode cX7_kept 168 = .ok (.getfield 32, 3) := by decide +kernel
theorem dX7_kept_171 : decode cX7_kept 171 = .ok (.sipush 1200, 3) := by decide +kernel
theorem dX7_kept_174 : decode cX7_kept 174 = .ok (.iload_n 1, 1) := by decide +kernel
theorem dX7_kept_175 : decode cX7_kept 175 = .ok (.imul, 1) := by decide +kernel
theorem dX7_kept_176 : decode cX7_kept 176 = .ok (.bipush 100, 2) := by decide +kernel
theorem dX7_kept_178 : decode cX7_kept 178 = .ok (.iadd, 1) := by decide +kernel
theorem dX7_kept_179 : decode cX7_kept 179 = .ok (.iload_n 2, 1) := by decide +kernel
theorem dX7_kept_180 : decode cX7_kept 180 = .ok (.iadd, 1) := by decide +kernel
theorem dX7_kept_181 : decode cX7_kept 181 = .ok (.iaload, 1) := by decide +kernel
theorem dX7_kept_182 : decode cX7_kept 182 = .ok (.goto 4, 3) := by decide +kernel
theorem dX7_kept_185 : decode cX7_kept 185 = .ok (.iconst (-1), 1) := by decide +kernel
theorem dX7_kept_186 : decode cX7_kept 186 = .ok (.ireturn, 1) := by decide +kernel
theorem dX7_kept_187 : decode cX7_kept 187 = .ok (.iload_n 3, 1) := by decide +kernel
theorem dX7_kept_188 : decode cX7_kept 188 = .ok (.ifCond .ne 13, 3) := by decide +kernel
theorem dX7_kept_191 : decode cX7_kept 191 = .ok (.aload_n 0, 1) := by decide +kernel
theorem dX7_kept_192 : decode cX7_kept 192 = .ok (.iload_n 1, 1) := by decide +kernel
theorem dX7_kept_193 : decode cX7_kept 193 = .ok (.iconst 1, 1) := by decide +kernel
theorem dX7_kept_194 : decode cX7_kept 194 = .ok (.iload_n 2, 1) := by decide +kernel
theorem dX7_kept_195 : decode cX7_kept 195 = .ok (.invokevirtual 116, 3) := by decide +kernel
theorem dX7_kept_198 : decode cX7_kept 198 = .ok (.goto 4, 3) := by decide +kernel
theorem dX7_kept_201 : decode cX7_kept 201 = .ok (.iconst (-1), 1) := by decide +kernel
theorem dX7_kept_202 : decode cX7_kept 202 = .ok (.istore 4, 2) := by decide +kernel
theorem dX7_kept_204 : decode cX7_kept 204 = .ok (.iload 4, 2) := by decide +kernel
theorem dX7_kept_206 : decode cX7_kept 206 = .ok (.ifCond .ge 7, 3) := by decide +kernel
theorem dX7_kept_209 : decode cX7_kept 209 = .ok (.iconst (-1), 1) := by decide +kernel
theorem dX7_kept_210 : decode cX7_kept 210 = .ok (.goto 19, 3) := by decide +kernel
theorem dX7_kept_213 : decode cX7_kept 213 = .ok (.aload_n 0, 1) := by decide +kernel
theorem dX7_kept_214 : decode cX7_kept 214 = .ok (.getfield 32, 3) := by decide +kernel
theorem dX7_kept_217 : decode cX7_kept 217 = .ok (.sipush 1200, 3) := by decide +kernel
theorem dX7_kept_220 : decode cX7_kept 220 = .ok (.iload_n 1, 1) := by decide +kernel
theorem dX7_kept_221 : decode cX7_kept 221 = .ok (.imul, 1) := by decide +kernel
theorem dX7_kept_222 : decode cX7_kept 222 = .ok (.bipush 100, 2) := by decide +kernel
theorem dX7_kept_224 : decode cX7_kept 224 = .ok (.iadd, 1) := by decide +kernel
theorem dX7_kept_225 : decode cX7_kept 225 = .ok (.iload 4, 2) := by decide +kernel
theorem dX7_kept_227 : decode cX7_kept 227 = .ok (.iadd, 1) := by decide +kernel
theorem dX7_kept_228 : decode cX7_kept 228 = .ok (.iaload, 1) := by decide +kernel
theorem dX7_kept_229 : decode cX7_kept 229 = .ok (.ireturn, 1) := by decide +kernel
theorem dX7_kept_230 : decode cX7_kept 230 = .ok (.iload_n 3, 1) := by decide +kernel
theorem dX7_kept_231 : decode cX7_kept 231 = .ok (.iconst 0, 1) := by decide +kernel
theorem dX7_kept_232 : decode cX7_kept 232 = .ok (.bipush 30, 2) := by decide +kernel
theorem dX7_kept_234 : decode cX7_kept 234 = .ok (.invokestatic 41, 3) := by decide +kernel
theorem dX7_kept_237 : decode cX7_kept 237 = .ok (.ifCond .eq 25, 3) := by decide +kernel
theorem dX7_kept_240 : decode cX7_kept 240 = .ok (.iload_n 2, 1) := by decide +kernel
theorem dX7_kept_241 : decode cX7_kept 241 = .ok (.iconst (-1), 1) := by decide +kernel
theorem dX7_kept_242 : decode cX7_kept 242 = .ok (.aload_n 0, 1) := by decide +kernel
theorem dX7_kept_243 : decode cX7_kept 243 = .ok (.getfield 32, 3) := by decide +kernel
theorem dX7_kept_246 : decode cX7_kept 246 = .ok (.sipush 1200, 3) := by decide +kernel
theorem dX7_kept_249 : decode cX7_kept 249 = .ok (.iload_n 1, 1) := by decide +kernel
theorem dX7_kept_250 : decode cX7_kept 250 = .ok (.imul, 1) := by decide +kernel
theorem dX7_kept_251 : decode cX7_kept 251 = .ok (.iload_n 3, 1) := by decide +kernel
theorem dX7_kept_252 : decode cX7_kept 252 = .ok (.iadd, 1) := by decide +kernel
theorem dX7_kept_253 : decode cX7_kept 253 = .ok (.iaload, 1) := by decide +kernel
theorem dX7_kept_254 : decode cX7_kept 254 = .ok (.iconst 1, 1) := by decide +kernel
theorem dX7_kept_255 : decode cX7_kept 255 = .ok (.isub, 1) := by decide +kernel
theorem dX7_kept_256 : decode cX7_kept 256 = .ok (.invokestatic 41, 3) := by decide +kernel
theorem dX7_kept_259 : decode cX7_kept 259 = .ok (.ifCond .ne 5, 3) := by decide +kernel
theorem dX7_kept_262 : decode cX7_kept 262 = .ok (.iconst (-1), 1) := by decide +kernel
theorem dX7_kept_263 : decode cX7_kept 263 = .ok (.ireturn, 1) := by decide +kernel
theorem dX7_kept_264 : decode cX7_kept 264 = .ok (.iload_n 2, 1) := by decide +kernel
theorem dX7_kept_265 : decode cX7_kept 265 = .ok (.ifCond .ge 18, 3) := by decide +kernel
theorem dX7_kept_268 : decode cX7_kept 268 = .ok (.aload_n 0, 1) := by decide +kernel
theorem dX7_kept_269 : decode cX7_kept 269 = .ok (.getfield 32, 3) := by decide +kernel
theorem dX7_kept_272 : decode cX7_kept 272 = .ok (.sipush 1200, 3) := by decide +kernel
theorem dX7_kept_275 : decode cX7_kept 275 = .ok (.iload_n 1, 1) := by decide +kernel
theorem dX7_kept_276 : decode cX7_kept 276 = .ok (.imul, 1) := by decide +kernel
theorem dX7_kept_277 : decode cX7_kept 277 = .ok (.iload_n 3, 1) := by decide +kernel
theorem dX7_kept_278 : decode cX7_kept 278 = .ok (.iadd, 1) := by decide +kernel
theorem dX7_kept_279 : decode cX7_kept 279 = .ok (.iaload, 1) := by decide +kernel
theorem dX7_kept_280 : decode cX7_kept 280 = .ok (.goto 15, 3) := by decide +kernel
theorem dX7_kept_283 : decode cX7_kept 283 = .ok (.aload_n 0, 1) := by decide +kernel
theorem dX7_kept_284 : decode cX7_kept 284 = .ok (.getfield 32, 3) := by decide +kernel
theorem dX7_kept_287 : decode cX7_kept 287 = .ok (.aload_n 0, 1) := by decide +kernel
theorem dX7_kept_288 : decode cX7_kept 288 = .ok (.iload_n 1, 1) := by decide +kernel
theorem dX7_kept_289 : decode cX7_kept 289 = .ok (.iload_n 3, 1) := by decide +kernel
theorem dX7_kept_290 : decode cX7_kept 290 = .ok (.iload_n 2, 1) := by decide +kernel
theorem dX7_kept_291 : decode cX7_kept 291 = .ok (.invokevirtual 78, 3) := by decide +kernel
theorem dX7_kept_294 : decode cX7_kept 294 = .ok (.iaload, 1) := by decide +kernel
theorem dX7_kept_295 : decode cX7_kept 295 = .ok (.ireturn, 1) := by decide +kernel
theorem dX7_count_0 : decode cX7_count 0 = .ok (.aload_n 0, 1) := by decide +kernel
theorem dX7_count_1 : decode cX7_count 1 = .ok (.iconst 0, 1) := by decide +kernel
theorem dX7_count_2 : decode cX7_count 2 = .ok (.putfield 1, 3) := by decide +kernel
theorem dX7_count_5 : decode cX7_count 5 = .ok (.aload_n 0, 1) := by decide +kernel
theorem dX7_count_6 : decode cX7_count 6 = .ok (.getfield 38, 3) := by decide +kernel
theorem dX7_count_9 : decode cX7_count 9 = .ok (.ireturn, 1) := by decide +kernel
theorem dJ9_abs_0f7a4_0 : decode cJ9_abs_0f7a4 0 = .ok (.iload_n 0, 1) := by decide +kernel
theorem dJ9_abs_0f7a4_1 : decode cJ9_abs_0f7a4 1 = .ok (.ifCond .ge 8, 3) := by decide +kernel
theorem dJ9_abs_0f7a4_4 : decode cJ9_abs_0f7a4 4 = .ok (.iload_n 0, 1) := by decide +kernel
theorem dJ9_abs_0f7a4_5 : decode cJ9_abs_0f7a4 5 = .ok (.ineg, 1) := by decide +kernel
theorem dJ9_abs_0f7a4_6 : decode cJ9_abs_0f7a4 6 = .ok (.goto 4, 3) := by decide +kernel
theorem dJ9_abs_0f7a4_9 : decode cJ9_abs_0f7a4 9 = .ok (.iload_n 0, 1) := by decide +kernel
theorem dJ9_abs_0f7a4_10 : decode cJ9_abs_0f7a4 10 = .ok (.ireturn, 1) := by decide +kernel
theorem dJ9_max_7cf53_0 : decode cJ9_max_7cf53 0 = .ok (.iload_n 0, 1) := by decide +kernel
theorem dJ9_max_7cf53_1 : decode cJ9_max_7cf53 1 = .ok (.iload_n 1, 1) := by decide +kernel
theorem dJ9_max_7cf53_2 : decode cJ9_max_7cf53 2 = .ok (.if_icmp .lt 7, 3) := by decide +kernel
theorem dJ9_max_7cf53_5 : decode cJ9_max_7cf53 5 = .ok (.iload_n 0, 1) := by decide +kernel
theorem dJ9_max_7cf53_6 : decode cJ9_max_7cf53 6 = .ok (.goto 4, 3) := by decide +kernel
theorem dJ9_max_7cf53_9 : decode cJ9_max_7cf53 9 = .ok (.iload_n 1, 1) := by decide +kernel
theorem dJ9_max_7cf53_10 : decode cJ9_max_7cf53 10 = .ok (.ireturn, 1) := by decide +kernel
theorem dJ9_min_7cf53_0 : decode cJ9_min_7cf53 0 = .ok (.iload_n 0, 1) := by decide +kernel
theorem dJ9_min_7cf53_1 : decode cJ9_min_7cf53 1 = .ok (.iload_n 1, 1) := by decide +kernel
theorem dJ9_min_7cf53_2 : decode cJ9_min_7cf53 2 = .ok (.if_icmp .gt 7, 3) := by decide +kernel
theorem dJ9_min_7cf53_5 : decode cJ9_min_7cf53 5 = .ok (.iload_n 0, 1) := by decide +kernel
theorem dJ9_min_7cf53_6 : decode cJ9_min_7cf53 6 = .ok (.goto 4, 3) := by decide +kernel
theorem dJ9_min_7cf53_9 : decode cJ9_min_7cf53 9 = .ok (.iload_n 1, 1) := by decide +kernel
theorem dJ9_min_7cf53_10 : decode cJ9_min_7cf53 10 = .ok (.ireturn, 1) := by decide +kernel
theorem dL_law_0 : decode cL_law 0 = .ok (.new 7, 3) := by decide +kernel
theorem dL_law_3 : decode cL_law 3 = .ok (.dup, 1) := by decide +kernel
theorem dL_law_4 : decode cL_law 4 = .ok (.invokespecial 9, 3) := by decide +kernel
theorem dL_law_7 : decode cL_law 7 = .ok (.astore_n 1, 1) := by decide +kernel
theorem dL_law_8 : decode cL_law 8 = .ok (.new 10, 3) := by decide +kernel
theorem dL_law_11 : decode cL_law 11 = .ok (.dup, 1) := by decide +kernel
theorem dL_law_12 : decode cL_law 12 = .ok (.invokespecial 12, 3) := by decide +kernel
theorem dL_law_15 : decode cL_law 15 = .ok (.astore_n 2, 1) := by decide +kernel
theorem dL_law_16 : decode cL_law 16 = .ok (.iconst 0, 1) := by decide +kernel
theorem dL_law_17 : decode cL_law 17 = .ok (.istore_n 3, 1) := by decide +kernel
theorem dL_law_18 : decode cL_law 18 = .ok (.iload_n 3, 1) := by decide +kernel
theorem dL_law_19 : decode cL_law 19 = .ok (.aload_n 0, 1) := by decide +kernel
theorem dL_law_20 : decode cL_law 20 = .ok (.arraylength, 1) := by decide +kernel
theorem dL_law_21 : decode cL_law 21 = .ok (.iconst 4, 1) := by decide +kernel
theorem dL_law_22 : decode cL_law 22 = .ok (.isub, 1) := by decide +kernel
theorem dL_law_23 : decode cL_law 23 = .ok (.if_icmp .gt 539, 3) := by decide +kernel
theorem dL_law_26 : decode cL_law 26 = .ok (.aload_n 0, 1) := by decide +kernel
theorem dL_law_27 : decode cL_law 27 = .ok (.iload_n 3, 1) := by decide +kernel
theorem dL_law_28 : decode cL_law 28 = .ok (.iaload, 1) := by decide +kernel
theorem dL_law_29 : decode cL_law 29 = .ok (.bipush 15, 2) := by decide +kernel
theorem dL_law_31 : decode cL_law 31 = .ok (.iand, 1) := by decide +kernel
theorem dL_law_32 : decode cL_law 32 = .ok (.tableswitch 524 0 13 #[72, 115, 138, 161, 204, 237, 280, 313, 346, 379, 402, 435, 468, 511], 72) := by decide +kernel
theorem dL_law_104 : decode cL_law 104 = .ok (.aload_n 1, 1) := by decide +kernel
theorem dL_law_105 : decode cL_law 105 = .ok (.aload_n 0, 1) := by decide +kernel
theorem dL_law_106 : decode cL_law 106 = .ok (.iload_n 3, 1) := by decide +kernel
theorem dL_law_107 : decode cL_law 107 = .ok (.iconst 1, 1) := by decide +kernel
theorem dL_law_108 : decode cL_law 108 = .ok (.iadd, 1) := by decide +kernel
theorem dL_law_109 : decode cL_law 109 = .ok (.iaload, 1) := by decide +kernel
theorem dL_law_110 : decode cL_law 110 = .ok (.aload_n 0, 1) := by decide +kernel
theorem dL_law_111 : decode cL_law 111 = .ok (.iload_n 3, 1) := by decide +kernel
theorem dL_law_112 : decode cL_law 112 = .ok (.iconst 2, 1) := by decide +kernel
theorem dL_law_113 : decode cL_law 113 = .ok (.iadd, 1) := by decide +kernel
theorem dL_law_114 : decode cL_law 114 = .ok (.iaload, 1) := by decide +kernel
theorem dL_law_115 : decode cL_law 115 = .ok (.aload_n 0, 1) := by decide +kernel
theorem dL_law_116 : decode cL_law 116 = .ok (.iload_n 3, 1) := by decide +kernel
theorem dL_law_117 : decode cL_law 117 = .ok (.iconst 3, 1) := by decide +kernel
theorem dL_law_118 : decode cL_law 118 = .ok (.iadd, 1) := by decide +kernel
theorem dL_law_119 : decode cL_law 119 = .ok (.iaload, 1) := by decide +kernel
theorem dL_law_120 : decode cL_law 120 = .ok (.invokevirtual 13, 3) := by decide +kernel
theorem dL_law_123 : decode cL_law 123 = .ok (.aload_n 2, 1) := by decide +kernel
theorem dL_law_124 : decode cL_law 124 = .ok (.aload_n 0, 1) := by decide +kernel
theorem dL_law_125 : decode cL_law 125 = .ok (.iload_n 3, 1) := by decide +kernel
theorem dL_law_126 : decode cL_law 126 = .ok (.iconst 1, 1) := by decide +kernel
theorem dL_law_127 : decode cL_law 127 = .ok (.iadd, 1) := by decide +kernel
theorem dL_law_128 : decode cL_law 128 = .ok (.iaload, 1) := by decide +kernel
theorem dL_law_129 : decode cL_law 129 = .ok (.aload_n 0, 1) := by decide +kernel
theorem dL_law_130 : decode cL_law 130 = .ok (.iload_n 3, 1) := by decide +kernel
theorem dL_law_131 : decode cL_law 131 = .ok (.iconst 2, 1) := by decide +kernel
theorem dL_law_132 : decode cL_law 132 = .ok (.iadd, 1) := by decide +kernel
theorem dL_law_133 : decode cL_law 133 = .ok (.iaload, 1) := by decide +kernel
theorem dL_law_134 : decode cL_law 134 = .ok (.aload_n 0, 1) := by decide +kernel
theorem dL_law_135 : decode cL_law 135 = .ok (.iload_n 3, 1) := by decide +kernel
theorem dL_law_136 : decode cL_law 136 = .ok (.iconst 3, 1) := by decide +kernel
theorem dL_law_137 : decode cL_law 137 = .ok (.iadd, 1) := by decide +kernel
theorem dL_law_138 : decode cL_law 138 = .ok (.iaload, 1) := by decide +kernel
theorem dL_law_139 : decode cL_law 139 = .ok (.invokevirtual 17, 3) := by decide +kernel
theorem dL_law_142 : decode cL_law 142 = .ok (.if_icmp .eq 414, 3) := by decide +kernel
theorem dL_law_145 : decode cL_law 145 = .ok (.iconst 0, 1) := by decide +kernel
theorem dL_law_146 : decode cL_law 146 = .ok (.ireturn, 1) := by decide +kernel
theorem dL_law_147 : decode cL_law 147 = .ok (.aload_n 1, 1) := by decide +kernel
theorem dL_law_148 : decode cL_law 148 = .ok (.aload_n 0, 1) := by decide +kernel
theorem dL_law_149 : decode cL_law 149 = .ok (.iload_n 3, 1) := by decide +kernel
theorem dL_law_150 : decode cL_law 150 = .ok (.iconst 1, 1) := by decide +kernel
theorem dL_law_151 : decode cL_law 151 = .ok (.iadd, 1) := by decide +kernel
theorem dL_law_152 : decode cL_law 152 = .ok (.iaload, 1) := by decide +kernel
theorem dL_law_153 : decode cL_law 153 = .ok (.invokevirtual 18, 3) := by decide +kernel
theorem dL_law_156 : decode cL_law 156 = .ok (.aload_n 2, 1) := by decide +kernel
theorem dL_law_157 : decode cL_law 157 = .ok (.aload_n 0, 1) := by decide +kernel
theorem dL_law_158 : decode cL_law 158 = .ok (.iload_n 3, 1) := by decide +kernel
theorem dL_law_159 : decode cL_law 159 = .ok (.iconst 1, 1) := by decide +kernel
theorem dL_law_160 : decode cL_law 160 = .ok (.iadd, 1) := by decide +kernel
theorem dL_law_161 : decode cL_law 161 = .ok (.iaload, 1) := by decide +kernel
theorem dL_law_162 : decode cL_law 162 = .ok (.invokevirtual 22, 3) := by decide +kernel
theorem dL_law_165 : decode cL_law 165 = .ok (.if_icmp .eq 391, 3) := by decide +kernel
theorem dL_law_168 : decode cL_law 168 = .ok (.iconst 0, 1) := by decide +kernel
theorem dL_law_169 : decode cL_law 169 = .ok (.ireturn, 1) := by decide +kernel
theorem dL_law_170 : decode cL_law 170 = .ok (.aload_n 1, 1) := by decide +kernel
theorem dL_law_171 : decode cL_law 171 = .ok (.aload_n 0, 1) := by decide +kernel
theorem dL_law_172 : decode cL_law 172 = .ok (.iload_n 3, 1) := by decide +kernel
theorem dL_law_173 : decode cL_law 173 = .ok (.iconst 1, 1) := by decide +kernel
theorem dL_law_174 : decode cL_law 174 = .ok (.iadd, 1) := by decide +kernel
theorem dL_law_175 : decode cL_law 175 = .ok (.iaload, 1) := by decide +kernel
theorem dL_law_176 : decode cL_law 176 = .ok (.invokevirtual 23, 3) := by decide +kernel
theorem dL_law_179 : decode cL_law 179 = .ok (.aload_n 2, 1) := by decide +kernel
theorem dL_law_180 : decode cL_law 180 = .ok (.aload_n 0, 1) := by decide +kernel
theorem dL_law_181 : decode cL_law 181 = .ok (.iload_n 3, 1) := by decide +kernel
theorem dL_law_182 : decode cL_law 182 = .ok (.iconst 1, 1) := by decide +kernel
theorem dL_law_183 : decode cL_law 183 = .ok (.iadd, 1) := by decide +kernel
theorem dL_law_184 : decode cL_law 184 = .ok (.iaload, 1) := by decide +kernel
theorem dL_law_185 : decode cL_law 185 = .ok (.invokevirtual 26, 3) := by decide +kernel
theorem dL_law_188 : decode cL_law 188 = .ok (.if_icmp .eq 368, 3) := by decide +kernel
theorem dL_law_191 : decode cL_law 191 = .ok (.iconst 0, 1) := by decide +kernel
theorem dL_law_192 : decode cL_law 192 = .ok (.ireturn, 1) := by decide +kernel
theorem dL_law_193 : decode cL_law 193 = .ok (.aload_n 1, 1) := by decide +kernel
theorem dL_law_194 : decode cL_law 194 = .ok (.aload_n 0, 1) := by decide +kernel
theorem dL_law_195 : decode cL_law 195 = .ok (.iload_n 3, 1) := by decide +kernel
theorem dL_law_196 : decode cL_law 196 = .ok (.iconst 1, 1) := by decide +kernel
theorem dL_law_197 : decode cL_law 197 = .ok (.iadd, 1) := by decide +kernel
theorem dL_law_198 : decode cL_law 198 = .ok (.iaload, 1) := by decide +kernel
theorem dL_law_199 : decode cL_law 199 = .ok (.aload_n 0, 1) := by decide +kernel
theorem dL_law_200 : decode cL_law 200 = .ok (.iload_n 3, 1) := by decide +kernel
theorem dL_law_201 : decode cL_law 201 = .ok (.iconst 2, 1) := by decide +kernel
theorem dL_law_202 : decode cL_law 202 = .ok (.iadd, 1) := by decide +kernel
theorem dL_law_203 : decode cL_law 203 = .ok (.iaload, 1) := by decide +kernel
theorem dL_law_204 : decode cL_law 204 = .ok (.aload_n 0, 1) := by decide +kernel
theorem dL_law_205 : decode cL_law 205 = .ok (.iload_n 3, 1) := by decide +kernel
theorem dL_law_206 : decode cL_law 206 = .ok (.iconst 3, 1) := by decide +kernel
theorem dL_law_207 : decode cL_law 207 = .ok (.iadd, 1) := by decide +kernel
theorem dL_law_208 : decode cL_law 208 = .ok (.iaload, 1) := by decide +kernel
theorem dL_law_209 : decode cL_law 209 = .ok (.invokevirtual 27, 3) := by decide +kernel
theorem dL_law_212 : decode cL_law 212 = .ok (.aload_n 2, 1) := by decide +kernel
theorem dL_law_213 : decode cL_law 213 = .ok (.aload_n 0, 1) := by decide +kernel
theorem dL_law_214 : decode cL_law 214 = .ok (.iload_n 3, 1) := by decide +kernel
theorem dL_law_215 : decode cL_law 215 = .ok (.iconst 1, 1) := by decide +kernel
theorem dL_law_216 : decode cL_law 216 = .ok (.iadd, 1) := by decide +kernel
theorem dL_law_217 : decode cL_law 217 = .ok (.iaload, 1) := by decide +kernel
theorem dL_law_218 : decode cL_law 218 = .ok (.aload_n 0, 1) := by decide +kernel
theorem dL_law_219 : decode cL_law 219 = .ok (.iload_n 3, 1) := by decide +kernel
theorem dL_law_220 : decode cL_law 220 = .ok (.iconst 2, 1) := by decide +kernel
theorem dL_law_221 : decode cL_law 221 = .ok (.iadd, 1) := by decide +kernel
theorem dL_law_222 : decode cL_law 222 = .ok (.iaload, 1) := by decide +kernel
theorem dL_law_223 : decode cL_law 223 = .ok (.aload_n 0, 1) := by decide +kernel
theorem dL_law_224 : decode cL_law 224 = .ok (.iload_n 3, 1) := by decide +kernel
theorem dL_law_225 : decode cL_law 225 = .ok (.iconst 3, 1) := by decide +kernel
theorem dL_law_226 : decode cL_law 226 = .ok (.iadd, 1) := by decide +kernel
theorem dL_law_227 : decode cL_law 227 = .ok (.iaload, 1) := by decide +kernel
theorem dL_law_228 : decode cL_law 228 = .ok (.invokevirtual 30, 3) := by decide +kernel
theorem dL_law_231 : decode cL_law 231 = .ok (.if_icmp .eq 325, 3) := by decide +kernel
theorem dL_law_234 : decode cL_law 234 = .ok (.iconst 0, 1) := by decide +kernel
theorem dL_law_235 : decode cL_law 235 = .ok (.ireturn, 1) := by decide +kernel
theorem dL_law_236 : decode cL_law 236 = .ok (.aload_n 1, 1) := by decide +kernel
theorem dL_law_237 : decode cL_law 237 = .ok (.aload_n 0, 1) := by decide +kernel
theorem dL_law_238 : decode cL_law 238 = .ok (.iload_n 3, 1) := by decide +kernel
theorem dL_law_239 : decode cL_law 239 = .ok (.iconst 1, 1) := by decide +kernel
theorem dL_law_240 : decode cL_law 240 = .ok (.iadd, 1) := by decide +kernel
theorem dL_law_241 : decode cL_law 241 = .ok (.iaload, 1) := by decide +kernel
theorem dL_law_242 : decode cL_law 242 = .ok (.aload_n 0, 1) := by decide +kernel
theorem dL_law_243 : decode cL_law 243 = .ok (.iload_n 3, 1) := by decide +kernel
theorem dL_law_244 : decode cL_law 244 = .ok (.iconst 2, 1) := by decide +kernel
theorem dL_law_245 : decode cL_law 245 = .ok (.iadd, 1) := by decide +kernel
theorem dL_law_246 : decode cL_law 246 = .ok (.iaload, 1) := by decide +kernel
theorem dL_law_247 : decode cL_law 247 = .ok (.invokevirtual 31, 3) := by decide +kernel
theorem dL_law_250 : decode cL_law 250 = .ok (.aload_n 2, 1) := by decide +kernel
theorem dL_law_251 : decode cL_law 251 = .ok (.aload_n 0, 1) := by decide +kernel
theorem dL_law_252 : decode cL_law 252 = .ok (.iload_n 3, 1) := by decide +kernel
theorem dL_law_253 : decode cL_law 253 = .ok (.iconst 1, 1) := by decide +kernel
theorem dL_law_254 : decode cL_law 254 = .ok (.iadd, 1) := by decide +kernel
theorem dL_law_255 : decode cL_law 255 = .ok (.iaload, 1) := by decide +kernel
theorem dL_law_256 : decode cL_law 256 = .ok (.aload_n 0, 1) := by decide +kernel
theorem dL_law_257 : decode cL_law 257 = .ok (.iload_n 3, 1) := by decide +kernel
theorem dL_law_258 : decode cL_law 258 = .ok (.iconst 2, 1) := by decide +kernel
theorem dL_law_259 : decode cL_law 259 = .ok (.iadd, 1) := by decide +kernel
theorem dL_law_260 : decode cL_law 260 = .ok (.iaload, 1) := by decide +kernel
theorem dL_law_261 : decode cL_law 261 = .ok (.invokevirtual 35, 3) := by decide +kernel
theorem dL_law_264 : decode cL_law 264 = .ok (.if_icmp .eq 292, 3) := by decide +kernel
theorem dL_law_267 : decode cL_law 267 = .ok (.iconst 0, 1) := by decide +kernel
theorem dL_law_268 : decode cL_law 268 = .ok (.ireturn, 1) := by decide +kernel
theorem dL_law_269 : decode cL_law 269 = .ok (.aload_n 1, 1) := by decide +kernel
theorem dL_law_270 : decode cL_law 270 = .ok (.aload_n 0, 1) := by decide +kernel
theorem dL_law_271 : decode cL_law 271 = .ok (.iload_n 3, 1) := by decide +kernel
theorem dL_law_272 : decode cL_law 272 = .ok (.iconst 1, 1) := by decide +kernel
theorem dL_law_273 : decode cL_law 273 = .ok (.iadd, 1) := by decide +kernel
theorem dL_law_274 : decode cL_law 274 = .ok (.iaload, 1) := by decide +kernel
theorem dL_law_275 : decode cL_law 275 = .ok (.aload_n 0, 1) := by decide +kernel
theorem dL_law_276 : decode cL_law 276 = .ok (.iload_n 3, 1) := by decide +kernel
theorem dL_law_277 : decode cL_law 277 = .ok (.iconst 2, 1) := by decide +kernel
theorem dL_law_278 : decode cL_law 278 = .ok (.iadd, 1) := by decide +kernel
theorem dL_law_279 : decode cL_law 279 = .ok (.iaload, 1) := by decide +kernel
theorem dL_law_280 : decode cL_law 280 = .ok (.aload_n 0, 1) := by decide +kernel
theorem dL_law_281 : decode cL_law 281 = .ok (.iload_n 3, 1) := by decide +kernel
theorem dL_law_282 : decode cL_law 282 = .ok (.iconst 3, 1) := by decide +kernel
theorem dL_law_283 : decode cL_law 283 = .ok (.iadd, 1) := by decide +kernel
theorem dL_law_284 : decode cL_law 284 = .ok (.iaload, 1) := by decide +kernel
theorem dL_law_285 : decode cL_law 285 = .ok (.invokevirtual 36, 3) := by decide +kernel
theorem dL_law_288 : decode cL_law 288 = .ok (.aload_n 2, 1) := by decide +kernel
theorem dL_law_289 : decode cL_law 289 = .ok (.aload_n 0, 1) := by decide +kernel
theorem dL_law_290 : decode cL_law 290 = .ok (.iload_n 3, 1) := by decide +kernel
theorem dL_law_291 : decode cL_law 291 = .ok (.iconst 1, 1) := by decide +kernel
theorem dL_law_292 : decode cL_law 292 = .ok (.iadd, 1) := by decide +kernel
theorem dL_law_293 : decode cL_law 293 = .ok (.iaload, 1) := by decide +kernel
theorem dL_law_294 : decode cL_law 294 = .ok (.aload_n 0, 1) := by decide +kernel
theorem dL_law_295 : decode cL_law 295 = .ok (.iload_n 3, 1) := by decide +kernel
theorem dL_law_296 : decode cL_law 296 = .ok (.iconst 2, 1) := by decide +kernel
theorem dL_law_297 : decode cL_law 297 = .ok (.iadd, 1) := by decide +kernel
theorem dL_law_298 : decode cL_law 298 = .ok (.iaload, 1) := by decide +kernel
theorem dL_law_299 : decode cL_law 299 = .ok (.aload_n 0, 1) := by decide +kernel
theorem dL_law_300 : decode cL_law 300 = .ok (.iload_n 3, 1) := by decide +kernel
theorem dL_law_301 : decode cL_law 301 = .ok (.iconst 3, 1) := by decide +kernel
theorem dL_law_302 : decode cL_law 302 = .ok (.iadd, 1) := by decide +kernel
theorem dL_law_303 : decode cL_law 303 = .ok (.iaload, 1) := by decide +kernel
theorem dL_law_304 : decode cL_law 304 = .ok (.invokevirtual 39, 3) := by decide +kernel
theorem dL_law_307 : decode cL_law 307 = .ok (.if_icmp .eq 249, 3) := by decide +kernel
theorem dL_law_310 : decode cL_law 310 = .ok (.iconst 0, 1) := by decide +kernel
theorem dL_law_311 : decode cL_law 311 = .ok (.ireturn, 1) := by decide +kernel
theorem dL_law_312 : decode cL_law 312 = .ok (.aload_n 1, 1) := by decide +kernel
theorem dL_law_313 : decode cL_law 313 = .ok (.aload_n 0, 1) := by decide +kernel
theorem dL_law_314 : decode cL_law 314 = .ok (.iload_n 3, 1) := by decide +kernel
theorem dL_law_315 : decode cL_law 315 = .ok (.iconst 1, 1) := by decide +kernel
theorem dL_law_316 : decode cL_law 316 = .ok (.iadd, 1) := by decide +kernel
theorem dL_law_317 : decode cL_law 317 = .ok (.iaload, 1) := by decide +kernel
theorem dL_law_318 : decode cL_law 318 = .ok (.aload_n 0, 1) := by decide +kernel
theorem dL_law_319 : decode cL_law 319 = .ok (.iload_n 3, 1) := by decide +kernel
theorem dL_law_320 : decode cL_law 320 = .ok (.iconst 2, 1) := by decide +kernel
theorem dL_law_321 : decode cL_law 321 = .ok (.iadd, 1) := by decide +kernel
theorem dL_law_322 : decode cL_law 322 = .ok (.iaload, 1) := by decide +kernel
theorem dL_law_323 : decode cL_law 323 = .ok (.invokevirtual 40, 3) := by decide +kernel
theorem dL_law_326 : decode cL_law 326 = .ok (.aload_n 2, 1) := by decide +kernel
theorem dL_law_327 : decode cL_law 327 = .ok (.aload_n 0, 1) := by decide +kernel
theorem dL_law_328 : decode cL_law 328 = .ok (.iload_n 3, 1) := by decide +kernel
theorem dL_law_329 : decode cL_law 329 = .ok (.iconst 1, 1) := by decide +kernel
theorem dL_law_330 : decode cL_law 330 = .ok (.iadd, 1) := by decide +kernel
theorem dL_law_331 : decode cL_law 331 = .ok (.iaload, 1) := by decide +kernel
theorem dL_law_332 : decode cL_law 332 = .ok (.aload_n 0, 1) := by decide +kernel
theorem dL_law_333 : decode cL_law 333 = .ok (.iload_n 3, 1) := by decide +kernel
theorem dL_law_334 : decode cL_law 334 = .ok (.iconst 2, 1) := by decide +kernel
theorem dL_law_335 : decode cL_law 335 = .ok (.iadd, 1) := by decide +kernel
theorem dL_law_336 : decode cL_law 336 = .ok (.iaload, 1) := by decide +kernel
theorem dL_law_337 : decode cL_law 337 = .ok (.invokevirtual 43, 3) := by decide +kernel
theorem dL_law_340 : decode cL_law 340 = .ok (.if_icmp .eq 216, 3) := by decide +kernel
theorem dL_law_343 : decode cL_law 343 = .ok (.iconst 0, 1) := by decide +kernel
theorem dL_law_344 : decode cL_law 344 = .ok (.ireturn, 1) := by decide +kernel
theorem dL_law_345 : decode cL_law 345 = .ok (.aload_n 1, 1) := by decide +kernel
theorem dL_law_346 : decode cL_law 346 = .ok (.aload_n 0, 1) := by decide +kernel
theorem dL_law_347 : decode cL_law 347 = .ok (.iload_n 3, 1) := by decide +kernel
theorem dL_law_348 : decode cL_law 348 = .ok (.iconst 1, 1) := by decide +kernel
theorem dL_law_349 : decode cL_law 349 = .ok (.iadd, 1) := by decide +kernel
theorem dL_law_350 : decode cL_law 350 = .ok (.iaload, 1) := by decide +kernel
theorem dL_law_351 : decode cL_law 351 = .ok (.aload_n 0, 1) := by decide +kernel
theorem dL_law_352 : decode cL_law 352 = .ok (.iload_n 3, 1) := by decide +kernel
theorem dL_law_353 : decode cL_law 353 = .ok (.iconst 2, 1) := by decide +kernel
theorem dL_law_354 : decode cL_law 354 = .ok (.iadd, 1) := by decide +kernel
theorem dL_law_355 : decode cL_law 355 = .ok (.iaload, 1) := by decide +kernel
theorem dL_law_356 : decode cL_law 356 = .ok (.invokevirtual 44, 3) := by decide +kernel
theorem dL_law_359 : decode cL_law 359 = .ok (.aload_n 2, 1) := by decide +kernel
theorem dL_law_360 : decode cL_law 360 = .ok (.aload_n 0, 1) := by decide +kernel
theorem dL_law_361 : decode cL_law 361 = .ok (.iload_n 3, 1) := by decide +kernel
theorem dL_law_362 : decode cL_law 362 = .ok (.iconst 1, 1) := by decide +kernel
theorem dL_law_363 : decode cL_law 363 = .ok (.iadd, 1) := by decide +kernel
theorem dL_law_364 : decode cL_law 364 = .ok (.iaload, 1) := by decide +kernel
theorem dL_law_365 : decode cL_law 365 = .ok (.aload_n 0, 1) := by decide +kernel
theorem dL_law_366 : decode cL_law 366 = .ok (.iload_n 3, 1) := by decide +kernel
theorem dL_law_367 : decode cL_law 367 = .ok (.iconst 2, 1) := by decide +kernel
theorem dL_law_368 : decode cL_law 368 = .ok (.iadd, 1) := by decide +kernel
theorem dL_law_369 : decode cL_law 369 = .ok (.iaload, 1) := by decide +kernel
theorem dL_law_370 : decode cL_law 370 = .ok (.invokevirtual 47, 3) := by decide +kernel
theorem dL_law_373 : decode cL_law 373 = .ok (.if_icmp .eq 183, 3) := by decide +kernel
theorem dL_law_376 : decode cL_law 376 = .ok (.iconst 0, 1) := by decide +kernel
theorem dL_law_377 : decode cL_law 377 = .ok (.ireturn, 1) := by decide +kernel
theorem dL_law_378 : decode cL_law 378 = .ok (.aload_n 1, 1) := by decide +kernel
theorem dL_law_379 : decode cL_law 379 = .ok (.aload_n 0, 1) := by decide +kernel
theorem dL_law_380 : decode cL_law 380 = .ok (.iload_n 3, 1) := by decide +kernel
theorem dL_law_381 : decode cL_law 381 = .ok (.iconst 1, 1) := by decide +kernel
theorem dL_law_382 : decode cL_law 382 = .ok (.iadd, 1) := by decide +kernel
theorem dL_law_383 : decode cL_law 383 = .ok (.iaload, 1) := by decide +kernel
theorem dL_law_384 : decode cL_law 384 = .ok (.aload_n 0, 1) := by decide +kernel
theorem dL_law_385 : decode cL_law 385 = .ok (.iload_n 3, 1) := by decide +kernel
theorem dL_law_386 : decode cL_law 386 = .ok (.iconst 2, 1) := by decide +kernel
theorem dL_law_387 : decode cL_law 387 = .ok (.iadd, 1) := by decide +kernel
theorem dL_law_388 : decode cL_law 388 = .ok (.iaload, 1) := by decide +kernel
theorem dL_law_389 : decode cL_law 389 = .ok (.invokevirtual 48, 3) := by decide +kernel
theorem dL_law_392 : decode cL_law 392 = .ok (.aload_n 2, 1) := by decide +kernel
theorem dL_law_393 : decode cL_law 393 = .ok (.aload_n 0, 1) := by decide +kernel
theorem dL_law_394 : decode cL_law 394 = .ok (.iload_n 3, 1) := by decide +kernel
theorem dL_law_395 : decode cL_law 395 = .ok (.iconst 1, 1) := by decide +kernel
theorem dL_law_396 : decode cL_law 396 = .ok (.iadd, 1) := by decide +kernel
theorem dL_law_397 : decode cL_law 397 = .ok (.iaload, 1) := by decide +kernel
theorem dL_law_398 : decode cL_law 398 = .ok (.aload_n 0, 1) := by decide +kernel
theorem dL_law_399 : decode cL_law 399 = .ok (.iload_n 3, 1) := by decide +kernel
theorem dL_law_400 : decode cL_law 400 = .ok (.iconst 2, 1) := by decide +kernel
theorem dL_law_401 : decode cL_law 401 = .ok (.iadd, 1) := by decide +kernel
theorem dL_law_402 : decode cL_law 402 = .ok (.iaload, 1) := by decide +kernel
theorem dL_law_403 : decode cL_law 403 = .ok (.invokevirtual 51, 3) := by decide +kernel
theorem dL_law_406 : decode cL_law 406 = .ok (.if_icmp .eq 150, 3) := by decide +kernel
theorem dL_law_409 : decode cL_law 409 = .ok (.iconst 0, 1) := by decide +kernel
theorem dL_law_410 : decode cL_law 410 = .ok (.ireturn, 1) := by decide +kernel
theorem dL_law_411 : decode cL_law 411 = .ok (.aload_n 1, 1) := by decide +kernel
theorem dL_law_412 : decode cL_law 412 = .ok (.aload_n 0, 1) := by decide +kernel
theorem dL_law_413 : decode cL_law 413 = .ok (.iload_n 3, 1) := by decide +kernel
theorem dL_law_414 : decode cL_law 414 = .ok (.iconst 1, 1) := by decide +kernel
theorem dL_law_415 : decode cL_law 415 = .ok (.iadd, 1) := by decide +kernel
theorem dL_law_416 : decode cL_law 416 = .ok (.iaload, 1) := by decide +kernel
theorem dL_law_417 : decode cL_law 417 = .ok (.invokevirtual 52, 3) := by decide +kernel
theorem dL_law_420 : decode cL_law 420 = .ok (.aload_n 2, 1) := by decide +kernel
theorem dL_law_421 : decode cL_law 421 = .ok (.aload_n 0, 1) := by decide +kernel
theorem dL_law_422 : decode cL_law 422 = .ok (.iload_n 3, 1) := by decide +kernel
theorem dL_law_423 : decode cL_law 423 = .ok (.iconst 1, 1) := by decide +kernel
theorem dL_law_424 : decode cL_law 424 = .ok (.iadd, 1) := by decide +kernel
theorem dL_law_425 : decode cL_law 425 = .ok (.iaload, 1) := by decide +kernel
theorem dL_law_426 : decode cL_law 426 = .ok (.invokevirtual 55, 3) := by decide +kernel
theorem dL_law_429 : decode cL_law 429 = .ok (.if_icmp .eq 127, 3) := by decide +kernel
theorem dL_law_432 : decode cL_law 432 = .ok (.iconst 0, 1) := by decide +kernel
theorem dL_law_433 : decode cL_law 433 = .ok (.ireturn, 1) := by decide +kernel
theorem dL_law_434 : decode cL_law 434 = .ok (.aload_n 1, 1) := by decide +kernel
theorem dL_law_435 : decode cL_law 435 = .ok (.aload_n 0, 1) := by decide +kernel
theorem dL_law_436 : decode cL_law 436 = .ok (.iload_n 3, 1) := by decide +kernel
theorem dL_law_437 : decode cL_law 437 = .ok (.iconst 1, 1) := by decide +kernel
theorem dL_law_438 : decode cL_law 438 = .ok (.iadd, 1) := by decide +kernel
theorem dL_law_439 : decode cL_law 439 = .ok (.iaload, 1) := by decide +kernel
theorem dL_law_440 : decode cL_law 440 = .ok (.aload_n 0, 1) := by decide +kernel
theorem dL_law_441 : decode cL_law 441 = .ok (.iload_n 3, 1) := by decide +kernel
theorem dL_law_442 : decode cL_law 442 = .ok (.iconst 2, 1) := by decide +kernel
theorem dL_law_443 : decode cL_law 443 = .ok (.iadd, 1) := by decide +kernel
theorem dL_law_444 : decode cL_law 444 = .ok (.iaload, 1) := by decide +kernel
theorem dL_law_445 : decode cL_law 445 = .ok (.invokevirtual 56, 3) := by decide +kernel
theorem dL_law_448 : decode cL_law 448 = .ok (.aload_n 2, 1) := by decide +kernel
theorem dL_law_449 : decode cL_law 449 = .ok (.aload_n 0, 1) := by decide +kernel
theorem dL_law_450 : decode cL_law 450 = .ok (.iload_n 3, 1) := by decide +kernel
theorem dL_law_451 : decode cL_law 451 = .ok (.iconst 1, 1) := by decide +kernel
theorem dL_law_452 : decode cL_law 452 = .ok (.iadd, 1) := by decide +kernel
theorem dL_law_453 : decode cL_law 453 = .ok (.iaload, 1) := by decide +kernel
theorem dL_law_454 : decode cL_law 454 = .ok (.aload_n 0, 1) := by decide +kernel
theorem dL_law_455 : decode cL_law 455 = .ok (.iload_n 3, 1) := by decide +kernel
theorem dL_law_456 : decode cL_law 456 = .ok (.iconst 2, 1) := by decide +kernel
theorem dL_law_457 : decode cL_law 457 = .ok (.iadd, 1) := by decide +kernel
theorem dL_law_458 : decode cL_law 458 = .ok (.iaload, 1) := by decide +kernel
theorem dL_law_459 : decode cL_law 459 = .ok (.invokevirtual 59, 3) := by decide +kernel
theorem dL_law_462 : decode cL_law 462 = .ok (.if_icmp .eq 94, 3) := by decide +kernel
theorem dL_law_465 : decode cL_law 465 = .ok (.iconst 0, 1) := by decide +kernel
theorem dL_law_466 : decode cL_law 466 = .ok (.ireturn, 1) := by decide +kernel
theorem dL_law_467 : decode cL_law 467 = .ok (.aload_n 1, 1) := by decide +kernel
theorem dL_law_468 : decode cL_law 468 = .ok (.aload_n 0, 1) := by decide +kernel
theorem dL_law_469 : decode cL_law 469 = .ok (.iload_n 3, 1) := by decide +kernel
theorem dL_law_470 : decode cL_law 470 = .ok (.iconst 1, 1) := by decide +kernel
theorem dL_law_471 : decode cL_law 471 = .ok (.iadd, 1) := by decide +kernel
theorem dL_law_472 : decode cL_law 472 = .ok (.iaload, 1) := by decide +kernel
theorem dL_law_473 : decode cL_law 473 = .ok (.aload_n 0, 1) := by decide +kernel
theorem dL_law_474 : decode cL_law 474 = .ok (.iload_n 3, 1) := by decide +kernel
theorem dL_law_475 : decode cL_law 475 = .ok (.iconst 2, 1) := by decide +kernel
theorem dL_law_476 : decode cL_law 476 = .ok (.iadd, 1) := by decide +kernel
theorem dL_law_477 : decode cL_law 477 = .ok (.iaload, 1) := by decide +kernel
theorem dL_law_478 : decode cL_law 478 = .ok (.invokevirtual 60, 3) := by decide +kernel
theorem dL_law_481 : decode cL_law 481 = .ok (.aload_n 2, 1) := by decide +kernel
theorem dL_law_482 : decode cL_law 482 = .ok (.aload_n 0, 1) := by decide +kernel
theorem dL_law_483 : decode cL_law 483 = .ok (.iload_n 3, 1) := by decide +kernel
theorem dL_law_484 : decode cL_law 484 = .ok (.iconst 1, 1) := by decide +kernel
theorem dL_law_485 : decode cL_law 485 = .ok (.iadd, 1) := by decide +kernel
theorem dL_law_486 : decode cL_law 486 = .ok (.iaload, 1) := by decide +kernel
theorem dL_law_487 : decode cL_law 487 = .ok (.aload_n 0, 1) := by decide +kernel
theorem dL_law_488 : decode cL_law 488 = .ok (.iload_n 3, 1) := by decide +kernel
theorem dL_law_489 : decode cL_law 489 = .ok (.iconst 2, 1) := by decide +kernel
theorem dL_law_490 : decode cL_law 490 = .ok (.iadd, 1) := by decide +kernel
theorem dL_law_491 : decode cL_law 491 = .ok (.iaload, 1) := by decide +kernel
theorem dL_law_492 : decode cL_law 492 = .ok (.invokevirtual 63, 3) := by decide +kernel
theorem dL_law_495 : decode cL_law 495 = .ok (.if_icmp .eq 61, 3) := by decide +kernel
theorem dL_law_498 : decode cL_law 498 = .ok (.iconst 0, 1) := by decide +kernel
theorem dL_law_499 : decode cL_law 499 = .ok (.ireturn, 1) := by decide +kernel
theorem dL_law_500 : decode cL_law 500 = .ok (.aload_n 1, 1) := by decide +kernel
theorem dL_law_501 : decode cL_law 501 = .ok (.aload_n 0, 1) := by decide +kernel
theorem dL_law_502 : decode cL_law 502 = .ok (.iload_n 3, 1) := by decide +kernel
theorem dL_law_503 : decode cL_law 503 = .ok (.iconst 1, 1) := by decide +kernel
theorem dL_law_504 : decode cL_law 504 = .ok (.iadd, 1) := by decide +kernel
theorem dL_law_505 : decode cL_law 505 = .ok (.iaload, 1) := by decide +kernel
theorem dL_law_506 : decode cL_law 506 = .ok (.aload_n 0, 1) := by decide +kernel
theorem dL_law_507 : decode cL_law 507 = .ok (.iload_n 3, 1) := by decide +kernel
theorem dL_law_508 : decode cL_law 508 = .ok (.iconst 2, 1) := by decide +kernel
theorem dL_law_509 : decode cL_law 509 = .ok (.iadd, 1) := by decide +kernel
theorem dL_law_510 : decode cL_law 510 = .ok (.iaload, 1) := by decide +kernel
theorem dL_law_511 : decode cL_law 511 = .ok (.aload_n 0, 1) := by decide +kernel
theorem dL_law_512 : decode cL_law 512 = .ok (.iload_n 3, 1) := by decide +kernel
theorem dL_law_513 : decode cL_law 513 = .ok (.iconst 3, 1) := by decide +kernel
theorem dL_law_514 : decode cL_law 514 = .ok (.iadd, 1) := by decide +kernel
theorem dL_law_515 : decode cL_law 515 = .ok (.iaload, 1) := by decide +kernel
theorem dL_law_516 : decode cL_law 516 = .ok (.invokevirtual 64, 3) := by decide +kernel
theorem dL_law_519 : decode cL_law 519 = .ok (.aload_n 2, 1) := by decide +kernel
theorem dL_law_520 : decode cL_law 520 = .ok (.aload_n 0, 1) := by decide +kernel
theorem dL_law_521 : decode cL_law 521 = .ok (.iload_n 3, 1) := by decide +kernel
theorem dL_law_522 : decode cL_law 522 = .ok (.iconst 1, 1) := by decide +kernel
theorem dL_law_523 : decode cL_law 523 = .ok (.iadd, 1) := by decide +kernel
theorem dL_law_524 : decode cL_law 524 = .ok (.iaload, 1) := by decide +kernel
theorem dL_law_525 : decode cL_law 525 = .ok (.aload_n 0, 1) := by decide +kernel
theorem dL_law_526 : decode cL_law 526 = .ok (.iload_n 3, 1) := by decide +kernel
theorem dL_law_527 : decode cL_law 527 = .ok (.iconst 2, 1) := by decide +kernel
theorem dL_law_528 : decode cL_law 528 = .ok (.iadd, 1) := by decide +kernel
theorem dL_law_529 : decode cL_law 529 = .ok (.iaload, 1) := by decide +kernel
theorem dL_law_530 : decode cL_law 530 = .ok (.aload_n 0, 1) := by decide +kernel
theorem dL_law_531 : decode cL_law 531 = .ok (.iload_n 3, 1) := by decide +kernel
theorem dL_law_532 : decode cL_law 532 = .ok (.iconst 3, 1) := by decide +kernel
theorem dL_law_533 : decode cL_law 533 = .ok (.iadd, 1) := by decide +kernel
theorem dL_law_534 : decode cL_law 534 = .ok (.iaload, 1) := by decide +kernel
theorem dL_law_535 : decode cL_law 535 = .ok (.invokevirtual 67, 3) := by decide +kernel
theorem dL_law_538 : decode cL_law 538 = .ok (.if_icmp .eq 18, 3) := by decide +kernel
theorem dL_law_541 : decode cL_law 541 = .ok (.iconst 0, 1) := by decide +kernel
theorem dL_law_542 : decode cL_law 542 = .ok (.ireturn, 1) := by decide +kernel
theorem dL_law_543 : decode cL_law 543 = .ok (.aload_n 1, 1) := by decide +kernel
theorem dL_law_544 : decode cL_law 544 = .ok (.invokevirtual 68, 3) := by decide +kernel
theorem dL_law_547 : decode cL_law 547 = .ok (.aload_n 2, 1) := by decide +kernel
theorem dL_law_548 : decode cL_law 548 = .ok (.invokevirtual 72, 3) := by decide +kernel
theorem dL_law_551 : decode cL_law 551 = .ok (.if_icmp .eq 5, 3) := by decide +kernel
theorem dL_law_554 : decode cL_law 554 = .ok (.iconst 0, 1) := by decide +kernel
theorem dL_law_555 : decode cL_law 555 = .ok (.ireturn, 1) := by decide +kernel
theorem dL_law_556 : decode cL_law 556 = .ok (.iinc 3 4, 3) := by decide +kernel
theorem dL_law_559 : decode cL_law 559 = .ok (.goto (-541), 3) := by decide +kernel
theorem dL_law_562 : decode cL_law 562 = .ok (.iconst 1, 1) := by decide +kernel
theorem dL_law_563 : decode cL_law 563 = .ok (.ireturn, 1) := by decide +kernel
end
section
theorem kM_abs_static : Cond.static Lib.Math.abs.name ∈ TT := kw_237
theorem kM_abs_code : Cond.code Lib.Math.abs.name Lib.Math.abs.code 1 (some .int) ∈ TT := kw_239
theorem kM_max_static : Cond.static Lib.Math.max.name ∈ TT := kw_452
theorem kM_max_code : Cond.code Lib.Math.max.name Lib.Math.max.code 2 (some .int) ∈ TT := kw_453
theorem kM_min_static : Cond.static Lib.Math.min.name ∈ TT := kw_280
theorem kM_min_code : Cond.code Lib.Math.min.name Lib.Math.min.code 2 (some .int) ∈ TT := kw_281
theorem kM_init : Cond.initialized "java/lang/Math" ∈ TT := kw_238
/-! ===== worlds as maps from addresses to cells; X: all that stays the same within one method's walk ===== -/
abbrev mwT : Type := Nat → Option va_E
def mwP (D : va_G) (w : mwT) (H : Heap) : Prop := ∀ (a : Nat) (x : va_E), w a = some x → va_at D vwCl (a, x) H
def mwI (A : Nat → Prop) (w : mwT) : Prop := ∀ (a : Nat) (x : va_E), w a = some x → A a
def mwu (w : mwT) (a : Nat) (x : va_E) : mwT := fun b => if b = a then some x else w b
def mwA (w : mwT) (sz : Nat) : Nat → Prop := fun q => (∃ x : va_E, w q = some x) ∨ sz ≤ q
abbrev eI (cI : ClassId) (n : Nat) (f : Nat → Int32) : va_E := .inl (cI, n, .inl f)
abbrev eR (cS : ClassId) (n : Nat) (f : Nat → Option Nat) : va_E := .inl (cS, n, .inr (.inr (.inr (.inr f))))
theorem mwu_eq {w : mwT} {a : Nat} {x : va_E} : mwu w a x a = some x := by simp [mwu]
theorem mwu_ne {w : mwT} {a b : Nat} {x : va_E} (h : b ≠ a) : mwu w a x b = w b := by simp [mwu, h]
theorem mw_oa {w : mwT} {a b : Nat} {x : Nat × List Value} {y : ClassId × vp_A} (h1 : w a = some (.inr x)) (h2 : w b = some (.inl y)) : a ≠ b := by
  intro h
  subst h
  rw [h1] at h2
  cases h2
theorem mw_ao {w : mwT} {a b : Nat} {x : Nat × List Value} {y : ClassId × vp_A} (h1 : w a = some (.inl y)) (h2 : w b = some (.inr x)) : a ≠ b := fun h => mw_oa h2 h1 h.symm
theorem mw_ci {w : mwT} {a b i j : Nat} {x y : List Value} (h1 : w a = some (.inr (i, x))) (h2 : w b = some (.inr (j, y))) (hij : i ≠ j) : a ≠ b := by
  intro h
  subst h
  rw [h1] at h2
  cases h2
  exact hij rfl
theorem mw_nn {w : mwT} {a b : Nat} {x : va_E} (h1 : w a = some x) (h2 : w b = none) : a ≠ b := by
  intro h
  subst h
  rw [h1] at h2
  cases h2
theorem mwP.one {D : va_G} {w : mwT} {H : Heap} {a : Nat} {x : va_E} (h : mwP D w H) (hx : w a = some x) : va_P D vwCl [(a, x)] H := by
  intro k q hk
  cases k with
  | zero => cases hk; exact h a x hx
  | succ k => simp at hk
theorem mwP.set {D : va_G} {w : mwT} {a : Nat} {x : va_E} {H H1 : Heap} (h : mwP D w H) (hx : va_at D vwCl (a, x) H1) (oq : ∀ q : Nat, q ≠ a → H1[q]? = H[q]?) : mwP D (mwu w a x) H1 := by
  intro b y hb
  by_cases hba : b = a
  · subst hba
    rw [mwu_eq] at hb
    cases hb
    exact hx
  · rw [mwu_ne hba] at hb
    exact (h b y hb).kept (oq b hba)
theorem mwP.push {D : va_G} {w : mwT} {x : va_E} {H H1 : Heap} (h : mwP D w H) (hx : va_at D vwCl (H.size, x) H1) (oq : ∀ q : Nat, q < H.size → H1[q]? = H[q]?) : mwP D (mwu w H.size x) H1 := by
  intro b y hb
  by_cases hba : b = H.size
  · subst hba
    rw [mwu_eq] at hb
    cases hb
    exact hx
  · rw [mwu_ne hba] at hb
    exact (h b y hb).kept (oq b (h b y hb).lt)
theorem mwP.fresh {D : va_G} {w : mwT} {H : Heap} (h : mwP D w H) : w H.size = none := by
  cases hw : w H.size with
  | none => rfl
  | some y => exact absurd (h _ y hw).lt (Nat.lt_irrefl _)
theorem mwI.set {A : Nat → Prop} {w : mwT} {a : Nat} {x : va_E} (h : mwI A w) (ha : A a) : mwI A (mwu w a x) := by
  intro b y hb
  by_cases hba : b = a
  · subst hba; exact ha
  · rw [mwu_ne hba] at hb
    exact h b y hb
theorem mwI.self (w : mwT) (sz : Nat) : mwI (mwA w sz) w := fun _ x h => Or.inl ⟨x, h⟩
/-! what the tables say, as the walks need it -/
abbrev mwTy (cI cS : ClassId) : List (ClassId × FieldType) := [(cI, .int), (cS, .object "SketchSpans$Sketch")]
def mwK (D : va_G) (cI cS : ClassId) (U : State) : Prop := va_K D vwCl (mwTy cI cS) U ∧ (∀ w ∈ NT, va_Nw w U) ∧ va_AO "SketchSpans$Sketch" U
theorem nt_on {w : Cond} (h : w ∈ NT) : w.onTables = true := by
  have h2 := (List.mem_filter.mp h).2
  cases w <;> first | rfl | (simp [ntW] at h2; done)
theorem nt_warm {w : Cond} (h : w ∈ NT) {s U : State} (hW : s.WarmedH U.vm) (hZ : va_Nw w s) : va_Nw w U := by
  have h2 := (List.mem_filter.mp h).2
  cases w <;> first | exact va_Nw.warmM hW hZ | exact va_Nw.warmD hW hZ | exact va_Nw.warmC hW hZ | (simp [ntW] at h2; done)
theorem mwK.warm {D : va_G} {cI cS : ClassId} {s U : State} (hW : s.WarmedH U.vm) (h : mwK D cI cS s) : mwK D cI cS U := ⟨va_K.moved hW.alike h.1, fun w hw => nt_warm hw hW (h.2.1 w hw), va_AO.moved hW.alike h.2.2⟩
theorem mwK.same {D : va_G} {cI cS : ClassId} {s U : State} (hv : s.vm = U.vm) (h : mwK D cI cS s) : mwK D cI cS U := ⟨va_K.moved (by rw [hv]; exact Vm.Alike.refl _) h.1, fun w hw => (h.2.1 w hw).same (nt_on hw) hv, va_AO.moved (by rw [hv]; exact Vm.Alike.refl _) h.2.2⟩
abbrev mwX : Type := Program × Launch × Env × Room × State × MethodId × Array Value × List Frame × Method × Code × va_G × (Nat → Prop) × (State → Prop) × Nat
def mwG : mwX → Nat → Nat → mwT → List (Nat × Value) → List Value → Nat → Prop
  | (p, l, e, R, s, m, args, below, meth, c, D, A, Q, n), cells, slots, w, lv, st, pc => ∀ (H : Heap) (locs : List Loc) (ls : Array Slot), mwP D w H → mwI A w → va_S A s.heap H locs → lv_has ls n lv → W p l e R s m args below meth c H locs cells slots Q (F0 m pc ls st)
def mwC : mwX → ByteArray → Nat → String → va_G → ClassId → ClassId → Room → Prop
  | (p, _, _, R, s, m, args, _, _, c, D', A, _, n), cc, nL, own, D, cI, cS, rm => CallFix p m c cc nL s args TT own ∧ mwK D cI cS s ∧ (∀ q : Nat, s.heap.size ≤ q → A q) ∧ D' = D ∧ n = nL ∧ R = rm
def mwN : mwX → String → Prop
  | (_, _, _, _, _, _, _, _, meth, _, _, _, _, _), nm => meth.name = nm
def mwPre (D : va_G) (cI cS : ClassId) (w : mwT) (sz : Nat) (U : State) : Prop := U.heap.size = sz ∧ mwP D w U.heap ∧ mwK D cI cS U
def mwB (D : va_G) (w : mwT) (sz : Nat) (w1 : mwT) (t : State) : Prop := mwP D w1 t.heap ∧ mwI (mwA w sz) w1
/-! contracts: an int (or boolean) answer, none, a reference or null -/
def mMi (y : MethodName) (cc : ByteArray) (n : Nat) (ret : Option FieldType) (rm : Room) (av : List Value) (D : va_G) (cI cS : ClassId) (w : mwT) (post : Int32 → mwT → Prop) : Prop :=
  ∀ (l : Launch) (sz : Nat), Met l y (Cond.code y cc n ret :: TT) rm (va_Pc av (mwPre D cI cS w sz)) (va_Qi post (mwB D w sz) (mwA w sz)) rm.cells rm.slots (mwA w sz)
def mMv (y : MethodName) (cc : ByteArray) (n : Nat) (ret : Option FieldType) (rm : Room) (av : List Value) (D : va_G) (cI cS : ClassId) (w : mwT) (post : mwT → Prop) : Prop :=
  ∀ (l : Launch) (sz : Nat), Met l y (Cond.code y cc n ret :: TT) rm (va_Pc av (mwPre D cI cS w sz)) (va_Qv post (mwB D w sz) (mwA w sz)) rm.cells rm.slots (mwA w sz)
def mMq (y : MethodName) (cc : ByteArray) (n : Nat) (ret : Option FieldType) (rm : Room) (av : List Value) (D : va_G) (cI cS : ClassId) (w : mwT) (post : Option Nat → mwT → Prop) : Prop :=
  ∀ (l : Launch) (sz : Nat), Met l y (Cond.code y cc n ret :: TT) rm (va_Pc av (mwPre D cI cS w sz)) (va_Qq post (mwB D w sz) (mwA w sz)) rm.cells rm.slots (mwA w sz)
def mwRi (X : mwX) (cc : ByteArray) (mc ms : Nat) (post : Int32 → mwT → Prop) : Prop := ∀ (v : Int32) (w1 : mwT) (lv : List (Nat × Value)) (pc : Nat), decode cc pc = .ok (.ireturn, 1) → post v w1 → mwG X mc ms w1 lv [.int v] pc
def mwRz (X : mwX) (cc : ByteArray) (mc ms : Nat) (post : Int32 → mwT → Prop) : Prop := ∀ (v : Int32) (w1 : mwT) (lv : List (Nat × Value)) (pc : Nat), decode cc pc = .ok (.ireturn, 1) → (v = 0 ∨ v = 1) → post v w1 → mwG X mc ms w1 lv [.int v] pc
def mwRv (X : mwX) (cc : ByteArray) (mc ms : Nat) (post : mwT → Prop) : Prop := ∀ (w1 : mwT) (lv : List (Nat × Value)) (pc : Nat), decode cc pc = .ok (.return_, 1) → post w1 → mwG X mc ms w1 lv [] pc
def mwRq (X : mwX) (cc : ByteArray) (mc ms : Nat) (post : Option Nat → mwT → Prop) : Prop := ∀ (r : Option Nat) (w1 : mwT) (lv : List (Nat × Value)) (pc : Nat), decode cc pc = .ok (.areturn, 1) → post r w1 → mwG X mc ms w1 lv [va_rf r] pc
theorem mw_blind (av : List Value) (D : va_G) (cI cS : ClassId) (w : mwT) (sz : Nat) : FrameBlind (va_Pc av (mwPre D cI cS w sz)) := fun a U g mk q => ⟨q.1, q.2.1, q.2.2.1, mwK.same (s := U) (U := U.calling g mk a) rfl q.2.2.2⟩

theorem mMi.of {y : MethodName} {cc : ByteArray} {n : Nat} {rm : Room} {av : List Value} {D : va_G} {cI cS : ClassId} {w : mwT} {post : Int32 → mwT → Prop} (hy : plainName y.cls = true) (hz : (lg_sl av).length ≤ n)
    (body : ∀ X : mwX, mwC X cc n y.cls D cI cS rm → mwN X y.name → mwRi X cc rm.cells rm.slots post → mwG X 0 0 w (lv_args 0 av) [] 0) : mMi y cc n (some .int) rm av D cI cS w post := by
  intro l sz
  refine Met.ofW (cc := cc) (maxL := n) (ret := (some .int)) hy rfl ?_
  intro p e s m args below meth c s₁ B hml hv
  obtain ⟨rfl, hsz, hP, hK⟩ := hv
  have hts0 := atoms_spec (ws := Cond.code y cc n (some .int) :: TT) B.pre
  have hts : ∀ q ∈ TT, q.before av.toArray s = true := fun q h => hts0 q (List.mem_cons_of_mem _ h)
  have hr := B.returns
  have hlocks := B.notSynchronized
  subst hsz
  have hl := lv_entry av (n := n) hz
  rw [lg_entry_eq]
  refine body (p, l, e, rm, s, m, av.toArray, below, meth, c, D, mwA w s.heap.size, _, n) ⟨⟨B.exec, B.bytes, hml, findClass_of_methodNamed B.named, hts⟩, hK, fun q h => Or.inr h, rfl, rfl, rfl⟩ (name_of_methodNamed B.named B.method).1 ?_ s.heap [] _ hP (mwI.self w _) va_S.rf hl
  intro v w1 lv pc hd hp H locs ls hP1 hI1 hS1 hl1
  exact W.iret B.exec B.bytes hr (fun t ht _ => ⟨⟨v, w1, rfl, hp, by rw [ht]; exact hP1, hI1⟩, hS1.F ht⟩) hS1.2.2 hd hlocks
theorem mMz.of {y : MethodName} {cc : ByteArray} {n : Nat} {rm : Room} {av : List Value} {D : va_G} {cI cS : ClassId} {w : mwT} {post : Int32 → mwT → Prop} (hy : plainName y.cls = true) (hz : (lg_sl av).length ≤ n)
    (body : ∀ X : mwX, mwC X cc n y.cls D cI cS rm → mwN X y.name → mwRz X cc rm.cells rm.slots post → mwG X 0 0 w (lv_args 0 av) [] 0) : mMi y cc n (some .boolean) rm av D cI cS w post := by
  intro l sz
  refine Met.ofW (cc := cc) (maxL := n) (ret := (some .boolean)) hy rfl ?_
  intro p e s m args below meth c s₁ B hml hv
  obtain ⟨rfl, hsz, hP, hK⟩ := hv
  have hts0 := atoms_spec (ws := Cond.code y cc n (some .boolean) :: TT) B.pre
  have hts : ∀ q ∈ TT, q.before av.toArray s = true := fun q h => hts0 q (List.mem_cons_of_mem _ h)
  have hr := B.returns
  have hlocks := B.notSynchronized
  subst hsz
  have hl := lv_entry av (n := n) hz
  rw [lg_entry_eq]
  refine body (p, l, e, rm, s, m, av.toArray, below, meth, c, D, mwA w s.heap.size, _, n) ⟨⟨B.exec, B.bytes, hml, findClass_of_methodNamed B.named, hts⟩, hK, fun q h => Or.inr h, rfl, rfl, rfl⟩ (name_of_methodNamed B.named B.method).1 ?_ s.heap [] _ hP (mwI.self w _) va_S.rf hl
  intro v w1 lv pc hd h01 hp H locs ls hP1 hI1 hS1 hl1
  exact W.zret B.exec B.bytes hr (by rcases h01 with rfl | rfl <;> decide) (fun t ht _ => ⟨⟨v, w1, rfl, hp, by rw [ht]; exact hP1, hI1⟩, hS1.F ht⟩) hS1.2.2 hd hlocks
theorem mMv.of {y : MethodName} {cc : ByteArray} {n : Nat} {rm : Room} {av : List Value} {D : va_G} {cI cS : ClassId} {w : mwT} {post : mwT → Prop} (hy : plainName y.cls = true) (hz : (lg_sl av).length ≤ n)
    (body : ∀ X : mwX, mwC X cc n y.cls D cI cS rm → mwN X y.name → mwRv X cc rm.cells rm.slots post → mwG X 0 0 w (lv_args 0 av) [] 0) : mMv y cc n none rm av D cI cS w post := by
  intro l sz
  refine Met.ofW (cc := cc) (maxL := n) (ret := none) hy rfl ?_
  intro p e s m args below meth c s₁ B hml hv
  obtain ⟨rfl, hsz, hP, hK⟩ := hv
  have hts0 := atoms_spec (ws := Cond.code y cc n none :: TT) B.pre
  have hts : ∀ q ∈ TT, q.before av.toArray s = true := fun q h => hts0 q (List.mem_cons_of_mem _ h)
  have hr := B.returns
  have hlocks := B.notSynchronized
  subst hsz
  have hl := lv_entry av (n := n) hz
  rw [lg_entry_eq]
  refine body (p, l, e, rm, s, m, av.toArray, below, meth, c, D, mwA w s.heap.size, _, n) ⟨⟨B.exec, B.bytes, hml, findClass_of_methodNamed B.named, hts⟩, hK, fun q h => Or.inr h, rfl, rfl, rfl⟩ (name_of_methodNamed B.named B.method).1 ?_ s.heap [] _ hP (mwI.self w _) va_S.rf hl
  intro w1 lv pc hd hp H locs ls hP1 hI1 hS1 hl1
  exact W.vret B.exec B.bytes hr (fun t ht _ => ⟨⟨w1, rfl, hp, by rw [ht]; exact hP1, hI1⟩, hS1.F ht⟩) hS1.2.2 hd hlocks
theorem mMq.of {y : MethodName} {cc : ByteArray} {n : Nat} {rm : Room} {av : List Value} {D : va_G} {cI cS : ClassId} {w : mwT} {post : Option Nat → mwT → Prop} {C0 : String} (hy : plainName y.cls = true) (hz : (lg_sl av).length ≤ n)
    (body : ∀ X : mwX, mwC X cc n y.cls D cI cS rm → mwN X y.name → mwRq X cc rm.cells rm.slots post → mwG X 0 0 w (lv_args 0 av) [] 0) : mMq y cc n (some (.object C0)) rm av D cI cS w post := by
  intro l sz
  refine Met.ofW (cc := cc) (maxL := n) (ret := (some (.object C0))) hy rfl ?_
  intro p e s m args below meth c s₁ B hml hv
  obtain ⟨rfl, hsz, hP, hK⟩ := hv
  have hts0 := atoms_spec (ws := Cond.code y cc n (some (.object C0)) :: TT) B.pre
  have hts : ∀ q ∈ TT, q.before av.toArray s = true := fun q h => hts0 q (List.mem_cons_of_mem _ h)
  have hr := B.returns
  have hlocks := B.notSynchronized
  subst hsz
  have hl := lv_entry av (n := n) hz
  rw [lg_entry_eq]
  refine body (p, l, e, rm, s, m, av.toArray, below, meth, c, D, mwA w s.heap.size, _, n) ⟨⟨B.exec, B.bytes, hml, findClass_of_methodNamed B.named, hts⟩, hK, fun q h => Or.inr h, rfl, rfl, rfl⟩ (name_of_methodNamed B.named B.method).1 ?_ s.heap [] _ hP (mwI.self w _) va_S.rf hl
  intro r w1 lv pc hd hp H locs ls hP1 hI1 hS1 hl1
  exact W.aret B.exec B.bytes hr (Or.inl ⟨C0, rfl⟩) (by cases r with | none => exact Or.inl rfl | some a => exact Or.inr ⟨a, rfl⟩) (fun t ht _ => ⟨⟨r, w1, rfl, hp, by rw [ht]; exact hP1, hI1⟩, hS1.F ht⟩) hS1.2.2 hd hlocks
def lvg : List (Nat × Value) → Nat → Option Value
  | [], _ => none
  | (j, v) :: l, i => if j = i then some v else lvg l i
theorem lvg_mem : ∀ {l : List (Nat × Value)} {i : Nat} {v : Value}, lvg l i = some v → (i, v) ∈ l
  | (j, u) :: l, i, v, h => by
    unfold lvg at h
    by_cases hj : j = i
    · rw [if_pos hj] at h
      cases h
      subst hj
      exact List.mem_cons_self
    · rw [if_neg hj] at h
      exact List.mem_cons_of_mem _ (lvg_mem h)
theorem lvg_at {ls : Array Slot} {n : Nat} {l : List (Nat × Value)} {i : Nat} {v : Value} (h : lv_has ls n l) (hv : lvg l i = some v) : ls[i]? = some (.val v) := h.2.2 _ (lvg_mem hv)
theorem mg_sub {X : mwX} {cells slots : Nat} {w : mwT} {lv lv' : List (Nat × Value)} {st : List Value} {pc : Nat} (ks : List Nat) (hl : lv_pick lv ks = lv') (kk : mwG X cells slots w lv' st pc) : mwG X cells slots w lv st pc := by
  obtain ⟨p, l, e, R, s, m, args, below, meth, c, D, A, Q, n⟩ := X
  intro H locs ls hP hI hS h
  exact kk H locs ls hP hI hS (lv_sub h ks hl)
theorem mg_widen {X : mwX} {cells slots k n : Nat} {w : mwT} {lv : List (Nat × Value)} {st : List Value} {pc : Nat} (h1 : cells ≤ k) (h2 : slots ≤ n) (kk : mwG X k n w lv st pc) : mwG X cells slots w lv st pc := by
  obtain ⟨p, l, e, R, s, m, args, below, meth, c, D, A, Q, n0⟩ := X
  intro H locs ls hP hI hS h
  exact W.widen h1 h2 (kk H locs ls hP hI hS h)
section MWR
variable {X : mwX} {cc : ByteArray} {nL : Nat} {own : String} {D : va_G} {cI cS : ClassId} {rm : Room} {cells slots : Nat} {w : mwT} {lv : List (Nat × Value)} {st : List Value} {pc : Nat}
theorem mg_iload_n (C : mwC X cc nL own D cI cS rm) {k : Fin 4} {x : Int32} (hd : decode cc pc = .ok (.iload_n k, 1)) (hv : lvg lv k.val = some (.int x)) (kk : mwG X cells slots w lv (.int x :: st) (pc + 1)) : mwG X cells slots w lv st pc := by
  obtain ⟨p, l, e, R, s, m, args, below, meth, c, D', A, Q, n⟩ := X
  obtain ⟨⟨hx, hb, hml, hown, hts⟩, hK, hA, rfl, rfl, rfl⟩ := C
  intro H locs ls hP hI hS hl
  exact lv_iload_n hx hb hd rfl (lvg_at hl hv) (kk H locs ls hP hI hS hl)
theorem mg_iload (C : mwC X cc nL own D cI cS rm) {i : Nat} {x : Int32} (hd : decode cc pc = .ok (.iload i, 2)) (hv : lvg lv i = some (.int x)) (kk : mwG X cells slots w lv (.int x :: st) (pc + 2)) : mwG X cells slots w lv st pc := by
  obtain ⟨p, l, e, R, s, m, args, below, meth, c, D', A, Q, n⟩ := X
  obtain ⟨⟨hx, hb, hml, hown, hts⟩, hK, hA, rfl, rfl, rfl⟩ := C
  intro H locs ls hP hI hS hl
  exact lv_iload hx hb hd (lvg_at hl hv) (kk H locs ls hP hI hS hl)
theorem mg_aload_n (C : mwC X cc nL own D cI cS rm) {k : Fin 4} {x : Nat} (hd : decode cc pc = .ok (.aload_n k, 1)) (hv : lvg lv k.val = some (.ref x)) (kk : mwG X cells slots w lv (.ref x :: st) (pc + 1)) : mwG X cells slots w lv st pc := by
  obtain ⟨p, l, e, R, s, m, args, below, meth, c, D', A, Q, n⟩ := X
  obtain ⟨⟨hx, hb, hml, hown, hts⟩, hK, hA, rfl, rfl, rfl⟩ := C
  intro H locs ls hP hI hS hl
  exact lv_aload_n hx hb hd rfl (lvg_at hl hv) (kk H locs ls hP hI hS hl)
theorem mg_aload (C : mwC X cc nL own D cI cS rm) {i : Nat} {x : Nat} (hd : decode cc pc = .ok (.aload i, 2)) (hv : lvg lv i = some (.ref x)) (kk : mwG X cells slots w lv (.ref x :: st) (pc + 2)) : mwG X cells slots w lv st pc := by
  obtain ⟨p, l, e, R, s, m, args, below, meth, c, D', A, Q, n⟩ := X
  obtain ⟨⟨hx, hb, hml, hown, hts⟩, hK, hA, rfl, rfl, rfl⟩ := C
  intro H locs ls hP hI hS hl
  exact lv_aload hx hb hd (lvg_at hl hv) (kk H locs ls hP hI hS hl)
theorem mg_aload_nN (C : mwC X cc nL own D cI cS rm) {k : Fin 4} (hd : decode cc pc = .ok (.aload_n k, 1)) (hv : lvg lv k.val = some .null) (kk : mwG X cells slots w lv (.null :: st) (pc + 1)) : mwG X cells slots w lv st pc := by
  obtain ⟨p, l, e, R, s, m, args, below, meth, c, D', A, Q, n⟩ := X
  obtain ⟨⟨hx, hb, hml, hown, hts⟩, hK, hA, rfl, rfl, rfl⟩ := C
  intro H locs ls hP hI hS hl
  exact lv_aload_nN hx hb hd rfl (lvg_at hl hv) (kk H locs ls hP hI hS hl)
theorem mg_iconst (C : mwC X cc nL own D cI cS rm) {k : Int} {v : Int32} (hd : decode cc pc = .ok (.iconst k, 1)) (hv : Int32.ofInt k = v) (kk : mwG X cells slots w lv (.int v :: st) (pc + 1)) : mwG X cells slots w lv st pc := by
  obtain ⟨p, l, e, R, s, m, args, below, meth, c, D', A, Q, n⟩ := X
  obtain ⟨⟨hx, hb, hml, hown, hts⟩, hK, hA, rfl, rfl, rfl⟩ := C
  intro H locs ls hP hI hS hl
  exact lv_iconst hx hb hd hv (kk H locs ls hP hI hS hl)
theorem mg_bipush (C : mwC X cc nL own D cI cS rm) {k : Int} {v : Int32} (hd : decode cc pc = .ok (.bipush k, 2)) (hv : (Int8.ofInt k).toInt32 = v) (kk : mwG X cells slots w lv (.int v :: st) (pc + 2)) : mwG X cells slots w lv st pc := by
  obtain ⟨p, l, e, R, s, m, args, below, meth, c, D', A, Q, n⟩ := X
  obtain ⟨⟨hx, hb, hml, hown, hts⟩, hK, hA, rfl, rfl, rfl⟩ := C
  intro H locs ls hP hI hS hl
  exact lv_bipush hx hb hd hv (kk H locs ls hP hI hS hl)
theorem mg_sipush (C : mwC X cc nL own D cI cS rm) {k : Int} {v : Int32} (hd : decode cc pc = .ok (.sipush k, 3)) (hv : (Int16.ofInt k).toInt32 = v) (kk : mwG X cells slots w lv (.int v :: st) (pc + 3)) : mwG X cells slots w lv st pc := by
  obtain ⟨p, l, e, R, s, m, args, below, meth, c, D', A, Q, n⟩ := X
  obtain ⟨⟨hx, hb, hml, hown, hts⟩, hK, hA, rfl, rfl, rfl⟩ := C
  intro H locs ls hP hI hS hl
  exact lv_sipush hx hb hd hv (kk H locs ls hP hI hS hl)
theorem mg_ldc (C : mwC X cc nL own D cI cS rm) {idx : Nat} {v v0 : Int32} (hd : decode cc pc = .ok (.ldc idx, 2)) (hw : Cond.constant own idx v0 ∈ TT) (hv : v0 = v) (kk : mwG X cells slots w lv (.int v :: st) (pc + 2)) : mwG X cells slots w lv st pc := by
  obtain ⟨p, l, e, R, s, m, args, below, meth, c, D', A, Q, n⟩ := X
  obtain ⟨⟨hx, hb, hml, hown, hts⟩, hK, hA, rfl, rfl, rfl⟩ := C
  intro H locs ls hP hI hS hl
  subst hv
  exact lv_ldc hx hb hown (hts _ hw) hd (kk H locs ls hP hI hS hl)
theorem mg_dup (C : mwC X cc nL own D cI cS rm) {v : Value} (hd : decode cc pc = .ok (.dup, 1)) (hv : v.category = 1) (kk : mwG X cells slots w lv (v :: v :: st) (pc + 1)) : mwG X cells slots w lv (v :: st) pc := by
  obtain ⟨p, l, e, R, s, m, args, below, meth, c, D', A, Q, n⟩ := X
  obtain ⟨⟨hx, hb, hml, hown, hts⟩, hK, hA, rfl, rfl, rfl⟩ := C
  intro H locs ls hP hI hS hl
  exact lv_dup hx hb hd hv (kk H locs ls hP hI hS hl)
theorem mg_iadd (C : mwC X cc nL own D cI cS rm) {x y z : Int32} (hd : decode cc pc = .ok (.iadd, 1)) (hz : x + y = z) (kk : mwG X cells slots w lv (.int z :: st) (pc + 1)) : mwG X cells slots w lv (.int y :: .int x :: st) pc := by
  obtain ⟨p, l, e, R, s, m, args, below, meth, c, D', A, Q, n⟩ := X
  obtain ⟨⟨hx, hb, hml, hown, hts⟩, hK, hA, rfl, rfl, rfl⟩ := C
  intro H locs ls hP hI hS hl
  subst hz
  exact lv_iadd hx hb hd (kk H locs ls hP hI hS hl)
theorem mg_isub (C : mwC X cc nL own D cI cS rm) {x y z : Int32} (hd : decode cc pc = .ok (.isub, 1)) (hz : x - y = z) (kk : mwG X cells slots w lv (.int z :: st) (pc + 1)) : mwG X cells slots w lv (.int y :: .int x :: st) pc := by
  obtain ⟨p, l, e, R, s, m, args, below, meth, c, D', A, Q, n⟩ := X
  obtain ⟨⟨hx, hb, hml, hown, hts⟩, hK, hA, rfl, rfl, rfl⟩ := C
  intro H locs ls hP hI hS hl
  subst hz
  exact lv_isub hx hb hd (kk H locs ls hP hI hS hl)
theorem mg_imul (C : mwC X cc nL own D cI cS rm) {x y z : Int32} (hd : decode cc pc = .ok (.imul, 1)) (hz : x * y = z) (kk : mwG X cells slots w lv (.int z :: st) (pc + 1)) : mwG X cells slots w lv (.int y :: .int x :: st) pc := by
  obtain ⟨p, l, e, R, s, m, args, below, meth, c, D', A, Q, n⟩ := X
  obtain ⟨⟨hx, hb, hml, hown, hts⟩, hK, hA, rfl, rfl, rfl⟩ := C
  intro H locs ls hP hI hS hl
  subst hz
  exact lv_imul hx hb hd (kk H locs ls hP hI hS hl)
theorem mg_iand (C : mwC X cc nL own D cI cS rm) {x y z : Int32} (hd : decode cc pc = .ok (.iand, 1)) (hz : x &&& y = z) (kk : mwG X cells slots w lv (.int z :: st) (pc + 1)) : mwG X cells slots w lv (.int y :: .int x :: st) pc := by
  obtain ⟨p, l, e, R, s, m, args, below, meth, c, D', A, Q, n⟩ := X
  obtain ⟨⟨hx, hb, hml, hown, hts⟩, hK, hA, rfl, rfl, rfl⟩ := C
  intro H locs ls hP hI hS hl
  subst hz
  exact lv_iand hx hb hd (kk H locs ls hP hI hS hl)
theorem mg_ior (C : mwC X cc nL own D cI cS rm) {x y z : Int32} (hd : decode cc pc = .ok (.ior, 1)) (hz : x ||| y = z) (kk : mwG X cells slots w lv (.int z :: st) (pc + 1)) : mwG X cells slots w lv (.int y :: .int x :: st) pc := by
  obtain ⟨p, l, e, R, s, m, args, below, meth, c, D', A, Q, n⟩ := X
  obtain ⟨⟨hx, hb, hml, hown, hts⟩, hK, hA, rfl, rfl, rfl⟩ := C
  intro H locs ls hP hI hS hl
  subst hz
  exact lv_ior hx hb hd (kk H locs ls hP hI hS hl)
theorem mg_ishl (C : mwC X cc nL own D cI cS rm) {x y z : Int32} (hd : decode cc pc = .ok (.ishl, 1)) (hz : x <<< (y &&& 31) = z) (kk : mwG X cells slots w lv (.int z :: st) (pc + 1)) : mwG X cells slots w lv (.int y :: .int x :: st) pc := by
  obtain ⟨p, l, e, R, s, m, args, below, meth, c, D', A, Q, n⟩ := X
  obtain ⟨⟨hx, hb, hml, hown, hts⟩, hK, hA, rfl, rfl, rfl⟩ := C
  intro H locs ls hP hI hS hl
  subst hz
  exact lv_ishl hx hb hd (kk H locs ls hP hI hS hl)
theorem mg_idiv (C : mwC X cc nL own D cI cS rm) {x y z : Int32} (hd : decode cc pc = .ok (.idiv, 1)) (hne : ¬ y = 0) (hz : x / y = z) (kk : mwG X cells slots w lv (.int z :: st) (pc + 1)) : mwG X cells slots w lv (.int y :: .int x :: st) pc := by
  obtain ⟨p, l, e, R, s, m, args, below, meth, c, D', A, Q, n⟩ := X
  obtain ⟨⟨hx, hb, hml, hown, hts⟩, hK, hA, rfl, rfl, rfl⟩ := C
  intro H locs ls hP hI hS hl
  subst hz
  exact lv_idiv hx hb hd hne (kk H locs ls hP hI hS hl)
theorem mg_irem (C : mwC X cc nL own D cI cS rm) {x y z : Int32} (hd : decode cc pc = .ok (.irem, 1)) (hne : ¬ y = 0) (hz : x - x / y * y = z) (kk : mwG X cells slots w lv (.int z :: st) (pc + 1)) : mwG X cells slots w lv (.int y :: .int x :: st) pc := by
  obtain ⟨p, l, e, R, s, m, args, below, meth, c, D', A, Q, n⟩ := X
  obtain ⟨⟨hx, hb, hml, hown, hts⟩, hK, hA, rfl, rfl, rfl⟩ := C
  intro H locs ls hP hI hS hl
  subst hz
  exact lv_irem hx hb hd hne (kk H locs ls hP hI hS hl)
theorem mg_ineg (C : mwC X cc nL own D cI cS rm) {x z : Int32} (hd : decode cc pc = .ok (.ineg, 1)) (hz : 0 - x = z) (kk : mwG X cells slots w lv (.int z :: st) (pc + 1)) : mwG X cells slots w lv (.int x :: st) pc := by
  obtain ⟨p, l, e, R, s, m, args, below, meth, c, D', A, Q, n⟩ := X
  obtain ⟨⟨hx, hb, hml, hown, hts⟩, hK, hA, rfl, rfl, rfl⟩ := C
  intro H locs ls hP hI hS hl
  subst hz
  exact lv_ineg hx hb hd (kk H locs ls hP hI hS hl)
theorem mg_istore (C : mwC X cc nL own D cI cS rm) {i : Nat} {x : Int32} {lv' : List (Nat × Value)} (hd : decode cc pc = .ok (.istore i, 2)) (hn : i < nL) (hl' : (i, Value.int x) :: lv.filter (fun q => !(q.1 == i) && !(q.1 + 1 == i && q.2.category == 2)) = lv') (kk : mwG X cells slots w lv' st (pc + 2)) : mwG X cells slots w lv (.int x :: st) pc := by
  obtain ⟨p, l, e, R, s, m, args, below, meth, c, D', A, Q, n⟩ := X
  obtain ⟨⟨hx, hb, hml, hown, hts⟩, hK, hA, rfl, rfl, rfl⟩ := C
  intro H locs ls hP hI hS hl
  exact lv_istore hx hb hd hl hn hl' (fun ls' hl2 => kk H locs ls' hP hI hS hl2)
theorem mg_istore_n (C : mwC X cc nL own D cI cS rm) {k : Fin 4} {i : Nat} {x : Int32} {lv' : List (Nat × Value)} (hd : decode cc pc = .ok (.istore_n k, 1)) (hi : k.val = i) (hn : i < nL) (hl' : (i, Value.int x) :: lv.filter (fun q => !(q.1 == i) && !(q.1 + 1 == i && q.2.category == 2)) = lv') (kk : mwG X cells slots w lv' st (pc + 1)) : mwG X cells slots w lv (.int x :: st) pc := by
  obtain ⟨p, l, e, R, s, m, args, below, meth, c, D', A, Q, n⟩ := X
  obtain ⟨⟨hx, hb, hml, hown, hts⟩, hK, hA, rfl, rfl, rfl⟩ := C
  intro H locs ls hP hI hS hl
  exact lv_istore_n hx hb hd hi hl hn hl' (fun ls' hl2 => kk H locs ls' hP hI hS hl2)
theorem mg_astore (C : mwC X cc nL own D cI cS rm) {i : Nat} {x : Nat} {lv' : List (Nat × Value)} (hd : decode cc pc = .ok (.astore i, 2)) (hn : i < nL) (hl' : (i, Value.ref x) :: lv.filter (fun q => !(q.1 == i) && !(q.1 + 1 == i && q.2.category == 2)) = lv') (kk : mwG X cells slots w lv' st (pc + 2)) : mwG X cells slots w lv (.ref x :: st) pc := by
  obtain ⟨p, l, e, R, s, m, args, below, meth, c, D', A, Q, n⟩ := X
  obtain ⟨⟨hx, hb, hml, hown, hts⟩, hK, hA, rfl, rfl, rfl⟩ := C
  intro H locs ls hP hI hS hl
  exact lv_astore hx hb hd hl hn hl' (fun ls' hl2 => kk H locs ls' hP hI hS hl2)
theorem mg_astore_n (C : mwC X cc nL own D cI cS rm) {k : Fin 4} {i : Nat} {x : Nat} {lv' : List (Nat × Value)} (hd : decode cc pc = .ok (.astore_n k, 1)) (hi : k.val = i) (hn : i < nL) (hl' : (i, Value.ref x) :: lv.filter (fun q => !(q.1 == i) && !(q.1 + 1 == i && q.2.category == 2)) = lv') (kk : mwG X cells slots w lv' st (pc + 1)) : mwG X cells slots w lv (.ref x :: st) pc := by
  obtain ⟨p, l, e, R, s, m, args, below, meth, c, D', A, Q, n⟩ := X
  obtain ⟨⟨hx, hb, hml, hown, hts⟩, hK, hA, rfl, rfl, rfl⟩ := C
  intro H locs ls hP hI hS hl
  exact lv_astore_n hx hb hd hi hl hn hl' (fun ls' hl2 => kk H locs ls' hP hI hS hl2)
theorem mg_astore_nN (C : mwC X cc nL own D cI cS rm) {k : Fin 4} {i : Nat} {lv' : List (Nat × Value)} (hd : decode cc pc = .ok (.astore_n k, 1)) (hi : k.val = i) (hn : i < nL) (hl' : (i, Value.null) :: lv.filter (fun q => !(q.1 == i) && !(q.1 + 1 == i && q.2.category == 2)) = lv') (kk : mwG X cells slots w lv' st (pc + 1)) : mwG X cells slots w lv (.null :: st) pc := by
  obtain ⟨p, l, e, R, s, m, args, below, meth, c, D', A, Q, n⟩ := X
  obtain ⟨⟨hx, hb, hml, hown, hts⟩, hK, hA, rfl, rfl, rfl⟩ := C
  intro H locs ls hP hI hS hl
  exact lv_astore_nN hx hb hd hi hl hn hl' (fun ls' hl2 => kk H locs ls' hP hI hS hl2)
theorem mg_iinc (C : mwC X cc nL own D cI cS rm) {i : Nat} {k : Int} {x v : Int32} {lv' : List (Nat × Value)} (hd : decode cc pc = .ok (.iinc i k, 3)) (hx0 : lvg lv i = some (.int x)) (hv : x + Int32.ofInt k = v) (hn : i < nL) (hl' : (i, Value.int v) :: lv.filter (fun q => !(q.1 == i) && !(q.1 + 1 == i && q.2.category == 2)) = lv') (kk : mwG X cells slots w lv' st (pc + 3)) : mwG X cells slots w lv st pc := by
  obtain ⟨p, l, e, R, s, m, args, below, meth, c, D', A, Q, n⟩ := X
  obtain ⟨⟨hx, hb, hml, hown, hts⟩, hK, hA, rfl, rfl, rfl⟩ := C
  intro H locs ls hP hI hS hl
  obtain ⟨j, hj⟩ := List.getElem?_of_mem (lvg_mem hx0)
  exact lv_iinc hx hb hd hl hj hv hn hl' (fun ls' hl2 => kk H locs ls' hP hI hS hl2)
theorem mg_goto (C : mwC X cc nL own D cI cS rm) {off : Int} {tgt : Nat} (hd : decode cc pc = .ok (.goto off, 3)) (ht : (pc : Int) + off = (tgt : Int)) (kk : mwG X cells slots w lv st tgt) : mwG X cells slots w lv st pc := by
  obtain ⟨p, l, e, R, s, m, args, below, meth, c, D', A, Q, n⟩ := X
  obtain ⟨⟨hx, hb, hml, hown, hts⟩, hK, hA, rfl, rfl, rfl⟩ := C
  intro H locs ls hP hI hS hl
  exact lv_goto hx hb hd ht (kk H locs ls hP hI hS hl)
theorem mg_icmp_eq (C : mwC X cc nL own D cI cS rm) {x y : Int32} {off : Int} {tgt : Nat} (hd : decode cc pc = .ok (.if_icmp .eq off, 3)) (ht : (pc : Int) + off = (tgt : Int)) (kt : x = y → mwG X cells slots w lv st tgt) (kf : ¬ x = y → mwG X cells slots w lv st (pc + 3)) : mwG X cells slots w lv (.int y :: .int x :: st) pc := by
  obtain ⟨p, l, e, R, s, m, args, below, meth, c, D', A, Q, n⟩ := X
  obtain ⟨⟨hx, hb, hml, hown, hts⟩, hK, hA, rfl, rfl, rfl⟩ := C
  intro H locs ls hP hI hS hl
  exact lv_icmp_eq hx hb hd ht (fun h => kt h H locs ls hP hI hS hl) (fun h => kf h H locs ls hP hI hS hl)
theorem mg_if_eq (C : mwC X cc nL own D cI cS rm) {x : Int32} {off : Int} {tgt : Nat} (hd : decode cc pc = .ok (.ifCond .eq off, 3)) (ht : (pc : Int) + off = (tgt : Int)) (kt : x = 0 → mwG X cells slots w lv st tgt) (kf : ¬ x = 0 → mwG X cells slots w lv st (pc + 3)) : mwG X cells slots w lv (.int x :: st) pc := by
  obtain ⟨p, l, e, R, s, m, args, below, meth, c, D', A, Q, n⟩ := X
  obtain ⟨⟨hx, hb, hml, hown, hts⟩, hK, hA, rfl, rfl, rfl⟩ := C
  intro H locs ls hP hI hS hl
  exact lv_if_eq hx hb hd ht (fun h => kt h H locs ls hP hI hS hl) (fun h => kf h H locs ls hP hI hS hl)
theorem mg_icmp_ne (C : mwC X cc nL own D cI cS rm) {x y : Int32} {off : Int} {tgt : Nat} (hd : decode cc pc = .ok (.if_icmp .ne off, 3)) (ht : (pc : Int) + off = (tgt : Int)) (kt : ¬ x = y → mwG X cells slots w lv st tgt) (kf : x = y → mwG X cells slots w lv st (pc + 3)) : mwG X cells slots w lv (.int y :: .int x :: st) pc := by
  obtain ⟨p, l, e, R, s, m, args, below, meth, c, D', A, Q, n⟩ := X
  obtain ⟨⟨hx, hb, hml, hown, hts⟩, hK, hA, rfl, rfl, rfl⟩ := C
  intro H locs ls hP hI hS hl
  exact lv_icmp_ne hx hb hd ht (fun h => kt h H locs ls hP hI hS hl) (fun h => kf h H locs ls hP hI hS hl)
theorem mg_if_ne (C : mwC X cc nL own D cI cS rm) {x : Int32} {off : Int} {tgt : Nat} (hd : decode cc pc = .ok (.ifCond .ne off, 3)) (ht : (pc : Int) + off = (tgt : Int)) (kt : ¬ x = 0 → mwG X cells slots w lv st tgt) (kf : x = 0 → mwG X cells slots w lv st (pc + 3)) : mwG X cells slots w lv (.int x :: st) pc := by
  obtain ⟨p, l, e, R, s, m, args, below, meth, c, D', A, Q, n⟩ := X
  obtain ⟨⟨hx, hb, hml, hown, hts⟩, hK, hA, rfl, rfl, rfl⟩ := C
  intro H locs ls hP hI hS hl
  exact lv_if_ne hx hb hd ht (fun h => kt h H locs ls hP hI hS hl) (fun h => kf h H locs ls hP hI hS hl)
theorem mg_icmp_lt (C : mwC X cc nL own D cI cS rm) {x y : Int32} {off : Int} {tgt : Nat} (hd : decode cc pc = .ok (.if_icmp .lt off, 3)) (ht : (pc : Int) + off = (tgt : Int)) (kt : x < y → mwG X cells slots w lv st tgt) (kf : ¬ x < y → mwG X cells slots w lv st (pc + 3)) : mwG X cells slots w lv (.int y :: .int x :: st) pc := by
  obtain ⟨p, l, e, R, s, m, args, below, meth, c, D', A, Q, n⟩ := X
  obtain ⟨⟨hx, hb, hml, hown, hts⟩, hK, hA, rfl, rfl, rfl⟩ := C
  intro H locs ls hP hI hS hl
  exact lv_icmp_lt hx hb hd ht (fun h => kt h H locs ls hP hI hS hl) (fun h => kf h H locs ls hP hI hS hl)
theorem mg_if_lt (C : mwC X cc nL own D cI cS rm) {x : Int32} {off : Int} {tgt : Nat} (hd : decode cc pc = .ok (.ifCond .lt off, 3)) (ht : (pc : Int) + off = (tgt : Int)) (kt : x < 0 → mwG X cells slots w lv st tgt) (kf : ¬ x < 0 → mwG X cells slots w lv st (pc + 3)) : mwG X cells slots w lv (.int x :: st) pc := by
  obtain ⟨p, l, e, R, s, m, args, below, meth, c, D', A, Q, n⟩ := X
  obtain ⟨⟨hx, hb, hml, hown, hts⟩, hK, hA, rfl, rfl, rfl⟩ := C
  intro H locs ls hP hI hS hl
  exact lv_if_lt hx hb hd ht (fun h => kt h H locs ls hP hI hS hl) (fun h => kf h H locs ls hP hI hS hl)
theorem mg_icmp_ge (C : mwC X cc nL own D cI cS rm) {x y : Int32} {off : Int} {tgt : Nat} (hd : decode cc pc = .ok (.if_icmp .ge off, 3)) (ht : (pc : Int) + off = (tgt : Int)) (kt : y ≤ x → mwG X cells slots w lv st tgt) (kf : ¬ y ≤ x → mwG X cells slots w lv st (pc + 3)) : mwG X cells slots w lv (.int y :: .int x :: st) pc := by
  obtain ⟨p, l, e, R, s, m, args, below, meth, c, D', A, Q, n⟩ := X
  obtain ⟨⟨hx, hb, hml, hown, hts⟩, hK, hA, rfl, rfl, rfl⟩ := C
  intro H locs ls hP hI hS hl
  exact lv_icmp_ge hx hb hd ht (fun h => kt h H locs ls hP hI hS hl) (fun h => kf h H locs ls hP hI hS hl)
theorem mg_if_ge (C : mwC X cc nL own D cI cS rm) {x : Int32} {off : Int} {tgt : Nat} (hd : decode cc pc = .ok (.ifCond .ge off, 3)) (ht : (pc : Int) + off = (tgt : Int)) (kt : 0 ≤ x → mwG X cells slots w lv st tgt) (kf : ¬ 0 ≤ x → mwG X cells slots w lv st (pc + 3)) : mwG X cells slots w lv (.int x :: st) pc := by
  obtain ⟨p, l, e, R, s, m, args, below, meth, c, D', A, Q, n⟩ := X
  obtain ⟨⟨hx, hb, hml, hown, hts⟩, hK, hA, rfl, rfl, rfl⟩ := C
  intro H locs ls hP hI hS hl
  exact lv_if_ge hx hb hd ht (fun h => kt h H locs ls hP hI hS hl) (fun h => kf h H locs ls hP hI hS hl)
theorem mg_icmp_gt (C : mwC X cc nL own D cI cS rm) {x y : Int32} {off : Int} {tgt : Nat} (hd : decode cc pc = .ok (.if_icmp .gt off, 3)) (ht : (pc : Int) + off = (tgt : Int)) (kt : y < x → mwG X cells slots w lv st tgt) (kf : ¬ y < x → mwG X cells slots w lv st (pc + 3)) : mwG X cells slots w lv (.int y :: .int x :: st) pc := by
  obtain ⟨p, l, e, R, s, m, args, below, meth, c, D', A, Q, n⟩ := X
  obtain ⟨⟨hx, hb, hml, hown, hts⟩, hK, hA, rfl, rfl, rfl⟩ := C
  intro H locs ls hP hI hS hl
  exact lv_icmp_gt hx hb hd ht (fun h => kt h H locs ls hP hI hS hl) (fun h => kf h H locs ls hP hI hS hl)
theorem mg_if_gt (C : mwC X cc nL own D cI cS rm) {x : Int32} {off : Int} {tgt : Nat} (hd : decode cc pc = .ok (.ifCond .gt off, 3)) (ht : (pc : Int) + off = (tgt : Int)) (kt : 0 < x → mwG X cells slots w lv st tgt) (kf : ¬ 0 < x → mwG X cells slots w lv st (pc + 3)) : mwG X cells slots w lv (.int x :: st) pc := by
  obtain ⟨p, l, e, R, s, m, args, below, meth, c, D', A, Q, n⟩ := X
  obtain ⟨⟨hx, hb, hml, hown, hts⟩, hK, hA, rfl, rfl, rfl⟩ := C
  intro H locs ls hP hI hS hl
  exact lv_if_gt hx hb hd ht (fun h => kt h H locs ls hP hI hS hl) (fun h => kf h H locs ls hP hI hS hl)
theorem mg_icmp_le (C : mwC X cc nL own D cI cS rm) {x y : Int32} {off : Int} {tgt : Nat} (hd : decode cc pc = .ok (.if_icmp .le off, 3)) (ht : (pc : Int) + off = (tgt : Int)) (kt : x ≤ y → mwG X cells slots w lv st tgt) (kf : ¬ x ≤ y → mwG X cells slots w lv st (pc + 3)) : mwG X cells slots w lv (.int y :: .int x :: st) pc := by
  obtain ⟨p, l, e, R, s, m, args, below, meth, c, D', A, Q, n⟩ := X
  obtain ⟨⟨hx, hb, hml, hown, hts⟩, hK, hA, rfl, rfl, rfl⟩ := C
  intro H locs ls hP hI hS hl
  exact lv_icmp_le hx hb hd ht (fun h => kt h H locs ls hP hI hS hl) (fun h => kf h H locs ls hP hI hS hl)
theorem mg_if_le (C : mwC X cc nL own D cI cS rm) {x : Int32} {off : Int} {tgt : Nat} (hd : decode cc pc = .ok (.ifCond .le off, 3)) (ht : (pc : Int) + off = (tgt : Int)) (kt : x ≤ 0 → mwG X cells slots w lv st tgt) (kf : ¬ x ≤ 0 → mwG X cells slots w lv st (pc + 3)) : mwG X cells slots w lv (.int x :: st) pc := by
  obtain ⟨p, l, e, R, s, m, args, below, meth, c, D', A, Q, n⟩ := X
  obtain ⟨⟨hx, hb, hml, hown, hts⟩, hK, hA, rfl, rfl, rfl⟩ := C
  intro H locs ls hP hI hS hl
  exact lv_if_le hx hb hd ht (fun h => kt h H locs ls hP hI hS hl) (fun h => kf h H locs ls hP hI hS hl)
theorem mg_ifnull (C : mwC X cc nL own D cI cS rm) {x : Nat} {off : Int} (hd : decode cc pc = .ok (.ifnull off, 3)) (kk : mwG X cells slots w lv st (pc + 3)) : mwG X cells slots w lv (.ref x :: st) pc := by
  obtain ⟨p, l, e, R, s, m, args, below, meth, c, D', A, Q, n⟩ := X
  obtain ⟨⟨hx, hb, hml, hown, hts⟩, hK, hA, rfl, rfl, rfl⟩ := C
  intro H locs ls hP hI hS hl
  exact lv_ifnull hx hb hd (kk H locs ls hP hI hS hl)
theorem mg_ifnullN (C : mwC X cc nL own D cI cS rm) {off : Int} {tgt : Nat} (hd : decode cc pc = .ok (.ifnull off, 3)) (ht : (pc : Int) + off = (tgt : Int)) (kk : mwG X cells slots w lv st tgt) : mwG X cells slots w lv (.null :: st) pc := by
  obtain ⟨p, l, e, R, s, m, args, below, meth, c, D', A, Q, n⟩ := X
  obtain ⟨⟨hx, hb, hml, hown, hts⟩, hK, hA, rfl, rfl, rfl⟩ := C
  intro H locs ls hP hI hS hl
  exact lv_ifnullN hx hb hd ht (kk H locs ls hP hI hS hl)
theorem mg_ifnonnull (C : mwC X cc nL own D cI cS rm) {x : Nat} {off : Int} {tgt : Nat} (hd : decode cc pc = .ok (.ifnonnull off, 3)) (ht : (pc : Int) + off = (tgt : Int)) (kk : mwG X cells slots w lv st tgt) : mwG X cells slots w lv (.ref x :: st) pc := by
  obtain ⟨p, l, e, R, s, m, args, below, meth, c, D', A, Q, n⟩ := X
  obtain ⟨⟨hx, hb, hml, hown, hts⟩, hK, hA, rfl, rfl, rfl⟩ := C
  intro H locs ls hP hI hS hl
  exact lv_ifnonnull hx hb hd ht (kk H locs ls hP hI hS hl)
theorem mg_ifnonnullN (C : mwC X cc nL own D cI cS rm) {off : Int} (hd : decode cc pc = .ok (.ifnonnull off, 3)) (kk : mwG X cells slots w lv st (pc + 3)) : mwG X cells slots w lv (.null :: st) pc := by
  obtain ⟨p, l, e, R, s, m, args, below, meth, c, D', A, Q, n⟩ := X
  obtain ⟨⟨hx, hb, hml, hown, hts⟩, hK, hA, rfl, rfl, rfl⟩ := C
  intro H locs ls hP hI hS hl
  exact lv_ifnonnullN hx hb hd (kk H locs ls hP hI hS hl)
theorem mg_tabIn (C : mwC X cc nL own D cI cS rm) {dflt lo hi : Int} {offs : Array Int} {len : Nat} {x : Int32} {off : Int} {tgt : Nat} (hd : decode cc pc = .ok (.tableswitch dflt lo hi offs, len)) (h1 : ¬ x.toInt < lo) (h2 : ¬ hi < x.toInt) (ho : offs[(x.toInt - lo).toNat]? = some off) (ht : (pc : Int) + off = (tgt : Int)) (kk : mwG X cells slots w lv st tgt) : mwG X cells slots w lv (.int x :: st) pc := by
  obtain ⟨p, l, e, R, s, m, args, below, meth, c, D', A, Q, n⟩ := X
  obtain ⟨⟨hx, hb, hml, hown, hts⟩, hK, hA, rfl, rfl, rfl⟩ := C
  intro H locs ls hP hI hS hl
  exact lv_tableIn hx hb hd h1 h2 ho ht (kk H locs ls hP hI hS hl)
theorem mg_tabOut (C : mwC X cc nL own D cI cS rm) {dflt lo hi : Int} {offs : Array Int} {len : Nat} {x : Int32} {tgt : Nat} (hd : decode cc pc = .ok (.tableswitch dflt lo hi offs, len)) (h1 : x.toInt < lo ∨ hi < x.toInt) (ht : (pc : Int) + dflt = (tgt : Int)) (kk : mwG X cells slots w lv st tgt) : mwG X cells slots w lv (.int x :: st) pc := by
  obtain ⟨p, l, e, R, s, m, args, below, meth, c, D', A, Q, n⟩ := X
  obtain ⟨⟨hx, hb, hml, hown, hts⟩, hK, hA, rfl, rfl, rfl⟩ := C
  intro H locs ls hP hI hS hl
  exact lv_tableOut hx hb hd h1 ht (kk H locs ls hP hI hS hl)
theorem mg_mmax (C : mwC X cc nL own D cI cS rm) {x y z : Int32} {idx : Nat} (hd : decode cc pc = .ok (.invokestatic idx, 3)) (hw : Cond.methodLink own idx Lib.Math.max.name ∈ TT) (hR : 1 ≤ rm.frames ∧ (st.map fun v => v.category).sum + 13 ≤ rm.locals) (hcs : cells ≤ rm.cells ∧ slots ≤ rm.slots) (hz : (if x < y then y else x) = z) (kk : mwG X cells slots w lv (.int z :: st) (pc + 3)) : mwG X cells slots w lv (.int y :: .int x :: st) pc := by
  obtain ⟨p, l, e, R, s, m, args, below, meth, c, D', A, Q, n⟩ := X
  obtain ⟨⟨hx, hb, hml, hown, hts⟩, hK, hA, rfl, rfl, rfl⟩ := C
  intro H locs ls hP hI hS hl
  subst hz
  exact va_mmax hx hb (hml.trans hl.1.symm) hown (hts _ hw) (hts _ kM_max_static) (hts _ kM_init) (hts _ kM_max_code) hR.1 hR.2 hcs.1 hcs.2 hd (kk H locs ls hP hI hS hl)
theorem mg_mmin (C : mwC X cc nL own D cI cS rm) {x y z : Int32} {idx : Nat} (hd : decode cc pc = .ok (.invokestatic idx, 3)) (hw : Cond.methodLink own idx Lib.Math.min.name ∈ TT) (hR : 1 ≤ rm.frames ∧ (st.map fun v => v.category).sum + 13 ≤ rm.locals) (hcs : cells ≤ rm.cells ∧ slots ≤ rm.slots) (hz : (if y < x then y else x) = z) (kk : mwG X cells slots w lv (.int z :: st) (pc + 3)) : mwG X cells slots w lv (.int y :: .int x :: st) pc := by
  obtain ⟨p, l, e, R, s, m, args, below, meth, c, D', A, Q, n⟩ := X
  obtain ⟨⟨hx, hb, hml, hown, hts⟩, hK, hA, rfl, rfl, rfl⟩ := C
  intro H locs ls hP hI hS hl
  subst hz
  exact va_mmin hx hb (hml.trans hl.1.symm) hown (hts _ hw) (hts _ kM_min_static) (hts _ kM_init) (hts _ kM_min_code) hR.1 hR.2 hcs.1 hcs.2 hd (kk H locs ls hP hI hS hl)
theorem mg_mabs (C : mwC X cc nL own D cI cS rm) {x z : Int32} {idx : Nat} (hd : decode cc pc = .ok (.invokestatic idx, 3)) (hw : Cond.methodLink own idx Lib.Math.abs.name ∈ TT) (hR : 1 ≤ rm.frames ∧ (st.map fun v => v.category).sum + 13 ≤ rm.locals) (hcs : cells ≤ rm.cells ∧ slots ≤ rm.slots) (hz : (if 0 ≤ x then x else 0 - x) = z) (kk : mwG X cells slots w lv (.int z :: st) (pc + 3)) : mwG X cells slots w lv (.int x :: st) pc := by
  obtain ⟨p, l, e, R, s, m, args, below, meth, c, D', A, Q, n⟩ := X
  obtain ⟨⟨hx, hb, hml, hown, hts⟩, hK, hA, rfl, rfl, rfl⟩ := C
  intro H locs ls hP hI hS hl
  subst hz
  exact va_mabs hx hb (hml.trans hl.1.symm) hown (hts _ hw) (hts _ kM_abs_static) (hts _ kM_init) (hts _ kM_abs_code) hR.1 hR.2 hcs.1 hcs.2 hd (kk H locs ls hP hI hS hl)
theorem mg_get (C : mwC X cc nL own D cI cS rm) {ref C : String} {T : u_T} {N ci idx a : Nat} {fs : List Value} (hin : ∀ q ∈ u_ws C T N, q ∈ TT) (he : w a = some (.inr (ci, fs))) (hc : vwCl[ci]? = some (C, T, N)) (k : Nat) (hk : k < N) (hlink : Cond.fieldLink own idx ref (T k).2.1 (T k).2.2.1 ∈ TT) (hsame : (T k).1 = ref ∨ Cond.sameField ref (T k).1 (T k).2.1 (T k).2.2.1 ∈ TT) {v : Value} (hv : fs[k]? = some v) (hd : decode cc pc = .ok (.getfield idx, 3)) (kk : mwG X cells slots w lv (v :: st) (pc + 3)) : mwG X cells slots w lv (.ref a :: st) pc := by
  obtain ⟨p, l, e, R, s, m, args, below, meth, c, D', A, Q, n⟩ := X
  obtain ⟨⟨hx, hb, hml, hown, hts⟩, hK, hA, rfl, rfl, rfl⟩ := C
  intro H locs ls hP hI hS hl
  refine va_get (ci := ci) (C := C) (T := T) (N := N) hx hb hts hin hown hK.1 (hP.one he) 0 rfl hc k hk (hts _ hlink) (fun y h9 => ?_) hv hd (kk H locs ls hP hI hS hl)
  rcases hsame with e1 | e1
  · rw [← e1]; exact h9
  · exact u_same (hts _ e1) y h9
theorem mg_put (C : mwC X cc nL own D cI cS rm) {ref C : String} {T : u_T} {N ci idx a : Nat} {fs : List Value} (hin : ∀ q ∈ u_ws C T N, q ∈ TT) (he : w a = some (.inr (ci, fs))) (hc : vwCl[ci]? = some (C, T, N)) (k : Nat) (hk : k < N) (hlink : Cond.fieldLink own idx ref (T k).2.1 (T k).2.2.1 ∈ TT) (hsame : (T k).1 = ref ∨ Cond.sameField ref (T k).1 (T k).2.1 (T k).2.2.1 ∈ TT) {ty0 : Nat → FieldType} (hty : ∀ k, k < N → parseFieldDescriptor (T k).2.2.1 = some (ty0 k)) (hnm : ∀ a, a < N → ∀ b, b < N → a ≠ b → (T a).2.1 ≠ (T b).2.1) (hfin : (T k).2.2.2 = false) {v : Value} (hn : narrow (ty0 k) v = v) (hfit : fits (ty0 k) v = true) {fs' : List Value} (hfs : fs.set k v = fs') (hl0 : k < fs.length) (hd : decode cc pc = .ok (.putfield idx, 3)) (kk : ∀ w1 : mwT, w1 = mwu w a (.inr (ci, fs')) → mwG X cells slots w1 lv st (pc + 3)) : mwG X cells slots w lv (v :: .ref a :: st) pc := by
  obtain ⟨p, l, e, R, s, m, args, below, meth, c, D', A, Q, n⟩ := X
  obtain ⟨⟨hx, hb, hml, hown, hts⟩, hK, hA, rfl, rfl, rfl⟩ := C
  intro H locs ls hP hI hS hl
  subst hfs
  have hap := va_apart (own := own) hts hin ty0 hty hnm hK.1 hc
  obtain ⟨r, h1, cell, q1, q2, q3, q4⟩ := hP a _ he
  have hr : r = (C, T, N) := Option.some.inj (h1.symm.trans hc)
  subst hr
  obtain ⟨hSl, hfc, kC, hkC, hkind⟩ := hK.1.1 ci _ hc
  obtain ⟨cf, kf, fi, f, hi, hsl⟩ := hSl k hk
  have hlay := hts _ (hin _ (u_in_lay hk))
  unfold u_lay at hlay
  rw [if_neg (by rw [hfin]; decide)] at hlay
  have hst := (u_facts hfc hkC (u_lays hts hin hk) hi).1
  have h6 := u_store hfc hkC hkind hlay hi (hty k hk) hn hfit
  have hsm : s.fieldFound? ref (T k).2.1 (T k).2.2.1 = some (cf, kf, fi, f) := by
    rcases hsame with e1 | e1
    · rw [← e1]; exact hi
    · exact u_same (hts _ e1) _ hi
  refine W.putK hx hb (f := f) ⟨hown, hts _ hlink, ⟨_, _, _, hsm⟩, hst⟩ (by rw [q2]; exact h6) q1 q3 (by rw [hsl]; exact k2_hasslot (q4 k hk)) rfl rfl hd fun H1 e1 e2 e3 => ?_
  rw [hsl] at e1 ⊢
  exact kk _ rfl H1 _ ls (hP.set ⟨_, hc, t_OB.to (V := updV (vp_V fs) k v) ⟨_, e1, q2, q3, t_set q4 hap hk v⟩ (fun j _ => vp_updV_set hl0 v j)⟩ e3) (hI.set (hI a _ he)) (hS.put e2 e3 (hI a _ he)) hl
theorem mg_putF (C : mwC X cc nL own D cI cS rm) {ref C : String} {T : u_T} {N ci idx a : Nat} {fs : List Value} (hin : ∀ q ∈ u_ws C T N, q ∈ TT) (he : w a = some (.inr (ci, fs))) (hc : vwCl[ci]? = some (C, T, N)) (k : Nat) (hk : k < N) (hlink : Cond.fieldLink own idx ref (T k).2.1 (T k).2.2.1 ∈ TT) (hsame : (T k).1 = ref ∨ Cond.sameField ref (T k).1 (T k).2.1 (T k).2.2.1 ∈ TT) {ty0 : Nat → FieldType} (hty : ∀ k, k < N → parseFieldDescriptor (T k).2.2.1 = some (ty0 k)) (hnm : ∀ a, a < N → ∀ b, b < N → a ≠ b → (T a).2.1 ≠ (T b).2.1) (hfin : (T k).2.2.2 = true) (hN : mwN X "<init>") (hdecl : (T k).1 = own) {v : Value} (hn : narrow (ty0 k) v = v) (hfit : fits (ty0 k) v = true) {fs' : List Value} (hfs : fs.set k v = fs') (hl0 : k < fs.length) (hd : decode cc pc = .ok (.putfield idx, 3)) (kk : ∀ w1 : mwT, w1 = mwu w a (.inr (ci, fs')) → mwG X cells slots w1 lv st (pc + 3)) : mwG X cells slots w lv (v :: .ref a :: st) pc := by
  obtain ⟨p, l, e, R, s, m, args, below, meth, c, D', A, Q, n⟩ := X
  obtain ⟨⟨hx, hb, hml, hown, hts⟩, hK, hA, rfl, rfl, rfl⟩ := C
  intro H locs ls hP hI hS hl
  subst hfs
  have hap := va_apart (own := own) hts hin ty0 hty hnm hK.1 hc
  obtain ⟨r, h1, cell, q1, q2, q3, q4⟩ := hP a _ he
  have hr : r = (C, T, N) := Option.some.inj (h1.symm.trans hc)
  subst hr
  obtain ⟨hSl, hfc, kC, hkC, hkind⟩ := hK.1.1 ci _ hc
  obtain ⟨cf, kf, fi, f, hi, hsl⟩ := hSl k hk
  have hlay := hts _ (hin _ (u_in_lay hk))
  unfold u_lay at hlay
  rw [if_pos hfin] at hlay
  have hst := (u_facts hfc hkC (u_lays hts hin hk) hi).1
  have hcf : m.cls = cf := by
    obtain ⟨_, _, c', _, _, _, -, -, hf', -, -, -, hown2, -⟩ := Cond.laysFinal_spec hlay
    have e1 : c' = cf := by have := hi.symm.trans hf'; simp at this; exact this.1.symm
    rw [hdecl] at hown2
    rw [← e1]; exact Option.some.inj (hown.symm.trans hown2)
  have h6 := u_fits hfc hkC hkind (Or.inr hlay) hi (hty k hk) hn hfit
  have hsm : s.fieldFound? ref (T k).2.1 (T k).2.2.1 = some (cf, kf, fi, f) := by
    rcases hsame with e1 | e1
    · rw [← e1]; exact hi
    · exact u_same (hts _ e1) _ hi
  refine W.putFinK hx hb hown (hts _ hlink) hsm hst hcf hN (by rw [q2]; exact h6) q1 q3 (by rw [hsl]; exact k2_hasslot (q4 k hk)) rfl rfl hd fun H1 e1 e2 e3 => ?_
  rw [hsl] at e1 ⊢
  exact kk _ rfl H1 _ ls (hP.set ⟨_, hc, t_OB.to (V := updV (vp_V fs) k v) ⟨_, e1, q2, q3, t_set q4 hap hk v⟩ (fun j _ => vp_updV_set hl0 v j)⟩ e3) (hI.set (hI a _ he)) (hS.put e2 e3 (hI a _ he)) hl
theorem mg_iald (C : mwC X cc nL own D cI cS rm) {a k : Nat} {f : Nat → Int32} {i : Int32} (he : w a = some (eI cI k f)) (hin : vp_in i k) (hd : decode cc pc = .ok (.iaload, 1)) (kk : mwG X cells slots w lv (.int (f i.toNatClampNeg) :: st) (pc + 1)) : mwG X cells slots w lv (.int i :: .ref a :: st) pc := by
  obtain ⟨p, l, e, R, s, m, args, below, meth, c, D', A, Q, n⟩ := X
  obtain ⟨⟨hx, hb, hml, hown, hts⟩, hK, hA, rfl, rfl, rfl⟩ := C
  intro H locs ls hP hI hS hl
  exact va_iald hx hb hK.1 (hP.one he) 0 0 rfl rfl hin hd (kk H locs ls hP hI hS hl)
theorem mg_alen (C : mwC X cc nL own D cI cS rm) {a k : Nat} {f : Nat → Int32} (he : w a = some (eI cI k f)) (hd : decode cc pc = .ok (.arraylength, 1)) (kk : mwG X cells slots w lv (.int (nI k) :: st) (pc + 1)) : mwG X cells slots w lv (.ref a :: st) pc := by
  obtain ⟨p, l, e, R, s, m, args, below, meth, c, D', A, Q, n⟩ := X
  obtain ⟨⟨hx, hb, hml, hown, hts⟩, hK, hA, rfl, rfl, rfl⟩ := C
  intro H locs ls hP hI hS hl
  exact va_alen hx hb hK.1 (hP.one he) 0 0 rfl rfl rfl hd (kk H locs ls hP hI hS hl)
theorem mg_alenR (C : mwC X cc nL own D cI cS rm) {a k : Nat} {f : Nat → Option Nat} (he : w a = some (eR cS k f)) (hd : decode cc pc = .ok (.arraylength, 1)) (kk : mwG X cells slots w lv (.int (nI k) :: st) (pc + 1)) : mwG X cells slots w lv (.ref a :: st) pc := by
  obtain ⟨p, l, e, R, s, m, args, below, meth, c, D', A, Q, n⟩ := X
  obtain ⟨⟨hx, hb, hml, hown, hts⟩, hK, hA, rfl, rfl, rfl⟩ := C
  intro H locs ls hP hI hS hl
  exact va_alen hx hb hK.1 (hP.one he) 0 1 rfl rfl rfl hd (kk H locs ls hP hI hS hl)
theorem mg_aald (C : mwC X cc nL own D cI cS rm) {a k : Nat} {f : Nat → Option Nat} {i : Int32} (he : w a = some (eR cS k f)) (hin : vp_in i k) (hd : decode cc pc = .ok (.aaload, 1)) (kk : mwG X cells slots w lv (va_rf (f i.toNatClampNeg) :: st) (pc + 1)) : mwG X cells slots w lv (.int i :: .ref a :: st) pc := by
  obtain ⟨p, l, e, R, s, m, args, below, meth, c, D', A, Q, n⟩ := X
  obtain ⟨⟨hx, hb, hml, hown, hts⟩, hK, hA, rfl, rfl, rfl⟩ := C
  intro H locs ls hP hI hS hl
  exact va_aldq hx hb hK.1 (hP.one he) 0 1 rfl rfl hin hd (kk H locs ls hP hI hS hl)
theorem mg_iast (C : mwC X cc nL own D cI cS rm) {a k : Nat} {f : Nat → Int32} {i x : Int32} (he : w a = some (eI cI k f)) (hin : vp_in i k) (hd : decode cc pc = .ok (.iastore, 1)) (kk : ∀ w1 : mwT, w1 = mwu w a (eI cI k (upd f i.toNatClampNeg x)) → mwG X cells slots w1 lv st (pc + 1)) : mwG X cells slots w lv (.int x :: .int i :: .ref a :: st) pc := by
  obtain ⟨p, l, e, R, s, m, args, below, meth, c, D', A, Q, n⟩ := X
  obtain ⟨⟨hx, hb, hml, hown, hts⟩, hK, hA, rfl, rfl, rfl⟩ := C
  intro H locs ls hP hI hS hl
  refine W.iast hx hb (hP a _ he) ((hK.1.2 0 _ rfl).1 k (fun j => .int (f j))) (fun q => by cases q) (by show ¬ (i < 0 ∨ (arrV _ _ _).slots.size ≤ _); rw [arrV_size]; exact hin) rfl rfl hd fun H1 e1 z oq => ?_
  refine kk _ rfl H1 _ ls (hP.set ?_ oq) (hI.set (hI a _ he)) (hS.put z oq (hI a _ he)) hl
  show H1[a]? = some (vp_cell _ _)
  rw [e1]
  rw [vp_cell_i, vp_cell_i, arrV_store]
  congr 2
  funext q
  by_cases hq : q = i.toNatClampNeg
  · subst hq
    simp [updV, upd]
  · simp [updV, upd, hq]
end MWR
end
section
theorem kO_inst : Cond.instanceMethod objectInit ∈ TT := kw_10
theorem kO_code : Cond.code objectInit ⟨#[0xb1]⟩ 1 none ∈ TT := kw_11
theorem tt_call {y : MethodName} {b : ByteArray} {k : Nat} {r : Option FieldType} (h : Cond.code y b k r ∈ TT) : GoodIn TT (Cond.code y b k r :: TT) := by
  intro w hw
  rcases List.mem_cons.mp hw with rfl | hw
  · exact ⟨h, (tt_good _ h).2⟩
  · exact ⟨hw, (tt_good _ hw).2⟩
def mwY (y : MethodName) (cc : ByteArray) (n : Nat) (ret : Option FieldType) (np : Nat) : Prop := Cond.code y cc n ret ∈ TT ∧ Cond.initialized y.cls ∈ TT ∧ (y.cls ≠ "java/lang/invoke/MethodHandle" ∧ y.cls ≠ "java/lang/invoke/VarHandle" ∧ (parseMethodDescriptor y.desc).map (fun d => d.parameters.length) = some np)
theorem ni_inc (i : Nat) : nI i + Int32.ofInt 1 = nI (i + 1) := by rw [show Int32.ofInt 1 = 1 from by decide]; exact nI_1 i
theorem ni_inc2 (i : Nat) : nI i + Int32.ofInt 2 = nI (i + 2) := by rw [show Int32.ofInt 2 = nI 2 from by decide]; exact nI_add i 2
theorem ni_dec {i : Nat} (h : 0 < i) : nI i + Int32.ofInt (-1) = nI (i - 1) := by rw [show Int32.ofInt (-1) = -1 from by decide]; exact sb_m1 h
theorem ni_sub {a b : Nat} (h : b ≤ a) : nI a - nI b = nI (a - b) := pk_sub h
section MWR2
variable {X : mwX} {cc : ByteArray} {nL : Nat} {own : String} {D : va_G} {cI cS : ClassId} {rm : Room} {cells slots : Nat} {w : mwT} {lv : List (Nat × Value)} {st : List Value} {pc : Nat}
theorem mg_icmpN_eq (C : mwC X cc nL own D cI cS rm) {a b : Nat} {off : Int} {tgt : Nat} (hd : decode cc pc = .ok (.if_icmp .eq off, 3)) (ht : (pc : Int) + off = (tgt : Int)) (ha : a < 2147483648) (hb : b < 2147483648) (kt : a = b → mwG X cells slots w lv st tgt) (kf : a ≠ b → mwG X cells slots w lv st (pc + 3)) : mwG X cells slots w lv (.int (nI b) :: .int (nI a) :: st) pc := by
  exact mg_icmp_eq C hd ht (fun h => kt ((nI_eq ha hb).mp h)) (fun h => kf (fun e => h ((nI_eq ha hb).mpr e)))
theorem mg_icmpN_ne (C : mwC X cc nL own D cI cS rm) {a b : Nat} {off : Int} {tgt : Nat} (hd : decode cc pc = .ok (.if_icmp .ne off, 3)) (ht : (pc : Int) + off = (tgt : Int)) (ha : a < 2147483648) (hb : b < 2147483648) (kt : a ≠ b → mwG X cells slots w lv st tgt) (kf : a = b → mwG X cells slots w lv st (pc + 3)) : mwG X cells slots w lv (.int (nI b) :: .int (nI a) :: st) pc := by
  exact mg_icmp_ne C hd ht (fun h => kt (fun e => h ((nI_eq ha hb).mpr e))) (fun h => kf ((nI_eq ha hb).mp h))
theorem mg_icmpN_lt (C : mwC X cc nL own D cI cS rm) {a b : Nat} {off : Int} {tgt : Nat} (hd : decode cc pc = .ok (.if_icmp .lt off, 3)) (ht : (pc : Int) + off = (tgt : Int)) (ha : a < 2147483648) (hb : b < 2147483648) (kt : a < b → mwG X cells slots w lv st tgt) (kf : b ≤ a → mwG X cells slots w lv st (pc + 3)) : mwG X cells slots w lv (.int (nI b) :: .int (nI a) :: st) pc := by
  exact mg_icmp_lt C hd ht (fun h => kt ((nI_ltI ha hb).mp h)) (fun h => kf (Nat.not_lt.mp fun e => h ((nI_ltI ha hb).mpr e)))
theorem mg_icmpN_ge (C : mwC X cc nL own D cI cS rm) {a b : Nat} {off : Int} {tgt : Nat} (hd : decode cc pc = .ok (.if_icmp .ge off, 3)) (ht : (pc : Int) + off = (tgt : Int)) (ha : a < 2147483648) (hb : b < 2147483648) (kt : b ≤ a → mwG X cells slots w lv st tgt) (kf : a < b → mwG X cells slots w lv st (pc + 3)) : mwG X cells slots w lv (.int (nI b) :: .int (nI a) :: st) pc := by
  exact mg_icmp_ge C hd ht (fun h => kt ((nI_leI hb ha).mp h)) (fun h => kf (Nat.not_le.mp fun e => h ((nI_leI hb ha).mpr e)))
theorem mg_icmpN_gt (C : mwC X cc nL own D cI cS rm) {a b : Nat} {off : Int} {tgt : Nat} (hd : decode cc pc = .ok (.if_icmp .gt off, 3)) (ht : (pc : Int) + off = (tgt : Int)) (ha : a < 2147483648) (hb : b < 2147483648) (kt : b < a → mwG X cells slots w lv st tgt) (kf : a ≤ b → mwG X cells slots w lv st (pc + 3)) : mwG X cells slots w lv (.int (nI b) :: .int (nI a) :: st) pc := by
  exact mg_icmp_gt C hd ht (fun h => kt ((nI_ltI hb ha).mp h)) (fun h => kf (Nat.not_lt.mp fun e => h ((nI_ltI hb ha).mpr e)))
theorem mg_icmpN_le (C : mwC X cc nL own D cI cS rm) {a b : Nat} {off : Int} {tgt : Nat} (hd : decode cc pc = .ok (.if_icmp .le off, 3)) (ht : (pc : Int) + off = (tgt : Int)) (ha : a < 2147483648) (hb : b < 2147483648) (kt : a ≤ b → mwG X cells slots w lv st tgt) (kf : b < a → mwG X cells slots w lv st (pc + 3)) : mwG X cells slots w lv (.int (nI b) :: .int (nI a) :: st) pc := by
  exact mg_icmp_le C hd ht (fun h => kt ((nI_leI ha hb).mp h)) (fun h => kf (Nat.not_le.mp fun e => h ((nI_leI ha hb).mpr e)))
theorem mg_ifN_eq (C : mwC X cc nL own D cI cS rm) {a : Nat} {off : Int} {tgt : Nat} (hd : decode cc pc = .ok (.ifCond .eq off, 3)) (ht : (pc : Int) + off = (tgt : Int)) (ha : a < 2147483648) (kt : a = 0 → mwG X cells slots w lv st tgt) (kf : 0 < a → mwG X cells slots w lv st (pc + 3)) : mwG X cells slots w lv (.int (nI a) :: st) pc := by
  exact mg_if_eq C hd ht (fun h => kt ((nI_eq ha (by decide)).mp (by rw [nI_0]; exact h))) (fun h => kf (Nat.pos_of_ne_zero fun e => h (by rw [e, nI_0])))
theorem mg_ifN_ne (C : mwC X cc nL own D cI cS rm) {a : Nat} {off : Int} {tgt : Nat} (hd : decode cc pc = .ok (.ifCond .ne off, 3)) (ht : (pc : Int) + off = (tgt : Int)) (ha : a < 2147483648) (kt : 0 < a → mwG X cells slots w lv st tgt) (kf : a = 0 → mwG X cells slots w lv st (pc + 3)) : mwG X cells slots w lv (.int (nI a) :: st) pc := by
  exact mg_if_ne C hd ht (fun h => kt (Nat.pos_of_ne_zero fun e => h (by rw [e, nI_0]))) (fun h => kf ((nI_eq ha (by decide)).mp (by rw [nI_0]; exact h)))
theorem mg_ifN_gt (C : mwC X cc nL own D cI cS rm) {a : Nat} {off : Int} {tgt : Nat} (hd : decode cc pc = .ok (.ifCond .gt off, 3)) (ht : (pc : Int) + off = (tgt : Int)) (ha : a < 2147483648) (kt : 0 < a → mwG X cells slots w lv st tgt) (kf : a = 0 → mwG X cells slots w lv st (pc + 3)) : mwG X cells slots w lv (.int (nI a) :: st) pc := by
  exact mg_if_gt C hd ht (fun h => kt (Nat.pos_of_ne_zero fun e => by rw [e, nI_0] at h; exact absurd h (by decide))) (fun h => kf (Nat.eq_zero_of_not_pos fun e => h (by rw [← nI_0]; exact nI_lt e ha)))
theorem mg_ifN_le (C : mwC X cc nL own D cI cS rm) {a : Nat} {off : Int} {tgt : Nat} (hd : decode cc pc = .ok (.ifCond .le off, 3)) (ht : (pc : Int) + off = (tgt : Int)) (ha : a < 2147483648) (kt : a = 0 → mwG X cells slots w lv st tgt) (kf : 0 < a → mwG X cells slots w lv st (pc + 3)) : mwG X cells slots w lv (.int (nI a) :: st) pc := by
  exact mg_if_le C hd ht (fun h => kt (Nat.eq_zero_of_not_pos fun e => nI_nle e ha h)) (fun h => kf (Nat.pos_of_ne_zero fun e => h (by rw [e, nI_0]; decide)))
theorem mg_ifN_lt (C : mwC X cc nL own D cI cS rm) {a : Nat} {off : Int} {tgt : Nat} (hd : decode cc pc = .ok (.ifCond .lt off, 3)) (ht : (pc : Int) + off = (tgt : Int)) (ha : a < 2147483648) (kf : mwG X cells slots w lv st (pc + 3)) : mwG X cells slots w lv (.int (nI a) :: st) pc := by
  exact mg_if_lt C hd ht (fun h => absurd h (nI_pos ha)) (fun _ => kf)
theorem mg_ifN_ge (C : mwC X cc nL own D cI cS rm) {a : Nat} {off : Int} {tgt : Nat} (hd : decode cc pc = .ok (.ifCond .ge off, 3)) (ht : (pc : Int) + off = (tgt : Int)) (ha : a < 2147483648) (kt : mwG X cells slots w lv st tgt) : mwG X cells slots w lv (.int (nI a) :: st) pc := by
  exact mg_if_ge C hd ht (fun _ => kt) (fun h => absurd (nI_pos' ha) h)
theorem mg_ialdN (C : mwC X cc nL own D cI cS rm) {a k i : Nat} {f : Nat → Int32} (he : w a = some (eI cI k f)) (hi : i < k) (hk : k < 2147483648) (hd : decode cc pc = .ok (.iaload, 1)) (kk : mwG X cells slots w lv (.int (f i) :: st) (pc + 1)) : mwG X cells slots w lv (.int (nI i) :: .ref a :: st) pc := by
  exact mg_iald C he (vp_in_nI hi hk) hd (by rw [nI_clamp (Nat.lt_trans hi hk)]; exact kk)
theorem mg_aaldN (C : mwC X cc nL own D cI cS rm) {a k i : Nat} {f : Nat → Option Nat} (he : w a = some (eR cS k f)) (hi : i < k) (hk : k < 2147483648) (hd : decode cc pc = .ok (.aaload, 1)) (kk : mwG X cells slots w lv (va_rf (f i) :: st) (pc + 1)) : mwG X cells slots w lv (.int (nI i) :: .ref a :: st) pc := by
  exact mg_aald C he (vp_in_nI hi hk) hd (by rw [nI_clamp (Nat.lt_trans hi hk)]; exact kk)
theorem mg_iastN (C : mwC X cc nL own D cI cS rm) {a k i : Nat} {f : Nat → Int32} {x : Int32} (he : w a = some (eI cI k f)) (hi : i < k) (hk : k < 2147483648) (hd : decode cc pc = .ok (.iastore, 1)) (kk : ∀ w1 : mwT, w1 = mwu w a (eI cI k (upd f i x)) → mwG X cells slots w1 lv st (pc + 1)) : mwG X cells slots w lv (.int x :: .int (nI i) :: .ref a :: st) pc := by
  exact mg_iast C he (vp_in_nI hi hk) hd (by rw [nI_clamp (Nat.lt_trans hi hk)]; exact kk)
theorem mg_new (C : mwC X cc nL own D cI cS rm) {K : String} {T : u_T} {N ci idx : Nat} (hin : ∀ q ∈ u_ws K T N, q ∈ TT) {ty : Nat → FieldType} (hty : ∀ k, k < N → parseFieldDescriptor (T k).2.2.1 = some (ty k)) (hcl : Cond.classLink own idx K ∈ TT) (hinst : Cond.instantiable K N ∈ TT) (hini : Cond.initialized K ∈ TT) (hc : vwCl[ci]? = some (K, T, N)) {fs : List Value} (hfs : ∀ j, j < N → defaultValue (ty j) = vp_V fs j) (hcs : cells + 1 ≤ rm.cells ∧ slots + N ≤ rm.slots) (hd : decode cc pc = .ok (.new idx, 3)) (kk : ∀ (q : Nat) (w1 : mwT), w q = none → w1 = mwu w q (.inr (ci, fs)) → mwG X (cells + 1) (slots + N) w1 lv (.ref q :: st) (pc + 3)) : mwG X cells slots w lv st pc := by
  obtain ⟨p, l, e, R, s, m, args, below, meth, c, D', A, Q, n⟩ := X
  obtain ⟨⟨hx, hb, hml, hown, hts⟩, hK, hA, rfl, rfl, rfl⟩ := C
  intro H locs ls hP hI hS hl
  have hKn := hK.1.1 ci _ hc
  refine W.newcK hx hb hown (hts _ hcl) (hts _ hinst) (hts _ hini) rfl hd hcs.1 hcs.2 hKn.2.1 rfl fun H1 kC hkC e1 z1 o1 => ?_
  refine kk H.size _ hP.fresh rfl H1 locs ls (hP.push ⟨_, hc, (u_born ty hts hin hKn hkC e1 hty).to hfs⟩ o1) (hI.set (hA _ hS.1)) ⟨Nat.le_trans hS.1 (by omega), fun x h1 h2 => (o1 x (Nat.lt_of_lt_of_le h1 hS.1)).trans (hS.2.1 x h1 h2), hS.2.2⟩ hl
theorem mg_newa (C : mwC X cc nL own D cI cS rm) {k : Nat} (harr : Cond.arrayClass .int ∈ TT) (hk : k < 100000) (hcs : cells + 1 ≤ rm.cells ∧ slots + k ≤ rm.slots) (hd : decode cc pc = .ok (.newarray .int, 2)) (kk : ∀ (q : Nat) (w1 : mwT), w q = none → w1 = mwu w q (eI cI k (fun _ => 0)) → mwG X (cells + 1) (slots + k) w1 lv (.ref q :: st) (pc + 2)) : mwG X cells slots w lv (.int (nI k) :: st) pc := by
  obtain ⟨p, l, e, R, s, m, args, below, meth, c, D', A, Q, n⟩ := X
  obtain ⟨⟨hx, hb, hml, hown, hts⟩, hK, hA, rfl, rfl, rfl⟩ := C
  intro H locs ls hP hI hS hl
  refine va_newaK (atype := .int) hx hb (hts _ harr) rfl hd rfl (nI_pos (by omega)) (nI_clamp (by omega)) (by show k * 4 ≤ 536870912; omega) hcs.1 hcs.2 rfl fun H1 cA e1 z1 o1 hAr hNm => ?_
  have hcA : cA = cI := Option.some.inj (hNm.symm.trans (hK.1.2 0 _ rfl).2)
  subst hcA
  exact kk H.size _ hP.fresh rfl H1 locs ls (hP.push (by show H1[H.size]? = some (vp_cell _ _); rw [e1]; rfl) o1) (hI.set (hA _ hS.1)) ⟨Nat.le_trans hS.1 (by omega), fun x h1 h2 => (o1 x (Nat.lt_of_lt_of_le h1 hS.1)).trans (hS.2.1 x h1 h2), hS.2.2⟩ hl
theorem mg_newq (C : mwC X cc nL own D cI cS rm) {k idx : Nat} (hcl : Cond.classLink own idx "SketchSpans$Sketch" ∈ TT) (hk : k < 100000) (hcs : cells + 1 ≤ rm.cells ∧ slots + k ≤ rm.slots) (hd : decode cc pc = .ok (.anewarray idx, 3)) (kk : ∀ (q : Nat) (w1 : mwT), w q = none → w1 = mwu w q (eR cS k (fun _ => none)) → mwG X (cells + 1) (slots + k) w1 lv (.ref q :: st) (pc + 3)) : mwG X cells slots w lv (.int (nI k) :: st) pc := by
  obtain ⟨p, l, e, R, s, m, args, below, meth, c, D', A, Q, n⟩ := X
  obtain ⟨⟨hx, hb, hml, hown, hts⟩, hK, hA, rfl, rfl, rfl⟩ := C
  intro H locs ls hP hI hS hl
  refine W.anew hx hb hown (hts _ hcl) (va_AO.use hK.2.2) rfl hd rfl (nI_pos (by omega)) (by rw [nI_clamp (by omega)]; omega) hcs.1 (by rw [nI_clamp (by omega)]; exact hcs.2) fun cA kA comp f1 f2 f3 f4 => ?_
  rw [nI_clamp (by omega)]
  obtain ⟨kA', comp', g1, g2, g3, g4⟩ := (hK.1.2 1 _ rfl).2
  have hcA : cA = cS := Option.some.inj (f1.symm.trans g4)
  subst hcA
  generalize hH1 : H.push ({ cls := cA, slots := Array.replicate k .null, vm := .none } : Cell) = H1
  have z1 : H1.size = H.size + 1 := by rw [← hH1, Array.size_push]
  have e1 : H1[H.size]? = some (arrV cA k (fun _ => .null)) := by rw [← hH1, Array.getElem?_push_size, ← arrV_new]
  have o1 : ∀ q : Nat, q < H.size → H1[q]? = H[q]? := fun q hq => by rw [← hH1, Array.getElem?_push, if_neg (Nat.ne_of_lt hq)]
  exact kk H.size _ hP.fresh rfl H1 locs ls (hP.push (by show H1[H.size]? = some (vp_cell _ _); rw [vp_cell_q]; exact e1) o1) (hI.set (hA _ hS.1)) ⟨Nat.le_trans hS.1 (by omega), fun x h1 h2 => (o1 x (Nat.lt_of_lt_of_le h1 hS.1)).trans (hS.2.1 x h1 h2), hS.2.2⟩ hl
theorem mg_aast (C : mwC X cc nL own D cI cS rm) {a k i v ci : Nat} {r : vw_C} {vs : List Value} {f : Nat → Option Nat} (he : w a = some (eR cS k f)) (hv : w v = some (.inr (ci, vs))) (hc : vwCl[ci]? = some r) (hca : Cond.castable r.1 "SketchSpans$Sketch" ∈ NT) (hi : i < k) (hk : k < 2147483648) (hd : decode cc pc = .ok (.aastore, 1)) (kk : ∀ w1 : mwT, w1 = mwu w a (eR cS k (va_up f i (some v))) → mwG X cells slots w1 lv st (pc + 1)) : mwG X cells slots w lv (.ref v :: .int (nI i) :: .ref a :: st) pc := by
  obtain ⟨p, l, e, R, s, m, args, below, meth, c, D', A, Q, n⟩ := X
  obtain ⟨⟨hx, hb, hml, hown, hts⟩, hK, hA, rfl, rfl, rfl⟩ := C
  intro H locs ls hP hI hS hl
  obtain ⟨r', hr', cellV, g1, g2, g3, -⟩ := hP v _ hv
  have hcls := (hK.1.1 ci r hc).2
  obtain ⟨kA, comp, k1, k2, k3, -⟩ := (hK.1.2 1 _ rfl).2
  obtain ⟨kE, hkE, -⟩ := Vm.findClass_spec k3
  obtain ⟨c0, t1, f1, f2, f3⟩ := Cond.castable_spec (va_Nw.use (A := args) rfl (hK.2.1 _ hca))
  cases hcls.1.symm.trans f1
  cases k3.symm.trans f2
  obtain ⟨kC, hkC, -⟩ := hcls.2
  have hcl0 := nI_clamp (Nat.lt_trans hi hk)
  refine W.aast hx hb (hP a _ he) (fun q h => by cases h) (fun h => by cases h) k1 k2 rfl hkE ⟨nI_pos (Nat.lt_trans hi hk), by show _ < (arrV _ _ _).slots.size; rw [arrV_size, hcl0]; exact hi⟩ g1 (fun q h => by rw [g3] at h; cases h) (by rw [g2]; exact hkC) (by rw [g2]; exact f3) rfl rfl hd fun H1 e1 z oq => ?_
  refine kk _ rfl H1 _ ls (hP.set ?_ oq) (hI.set (hI a _ he)) (hS.put z oq (hI a _ he)) hl
  show H1[a]? = some (vp_cell _ _)
  rw [e1, hcl0]
  rw [vp_cell_q, vp_cell_q, arrV_store]
  congr 2
  funext q
  by_cases hq : q = i
  · subst hq
    simp [updV, va_up, va_rf]
  · simp [updV, va_up, hq]
theorem mg_inst (C : mwC X cc nL own D cI cS rm) {a ci idx : Nat} {r : vw_C} {vs : List Value} (he : w a = some (.inr (ci, vs))) (hc : vwCl[ci]? = some r) (hcl : Cond.classLink own idx r.1 ∈ TT) (hd : decode cc pc = .ok (.instanceof idx, 3)) (kk : mwG X cells slots w lv (.int (nI 1) :: st) (pc + 3)) : mwG X cells slots w lv (.ref a :: st) pc := by
  obtain ⟨p, l, e, R, s, m, args, below, meth, c, D', A, Q, n⟩ := X
  obtain ⟨⟨hx, hb, hml, hown, hts⟩, hK, hA, rfl, rfl, rfl⟩ := C
  intro H locs ls hP hI hS hl
  exact va_instS hx hb hown (hts _ hcl) (hK.1.1 ci r hc).2 (va_recv hK.1 (hP.one he) hc (q0 := 0) rfl) hd (kk H locs ls hP hI hS hl)
theorem mg_cast (C : mwC X cc nL own D cI cS rm) {a ci idx : Nat} {r : vw_C} {vs : List Value} (he : w a = some (.inr (ci, vs))) (hc : vwCl[ci]? = some r) (hcl : Cond.classLink own idx r.1 ∈ TT) (hd : decode cc pc = .ok (.checkcast idx, 3)) (kk : mwG X cells slots w lv (.ref a :: st) (pc + 3)) : mwG X cells slots w lv (.ref a :: st) pc := by
  obtain ⟨p, l, e, R, s, m, args, below, meth, c, D', A, Q, n⟩ := X
  obtain ⟨⟨hx, hb, hml, hown, hts⟩, hK, hA, rfl, rfl, rfl⟩ := C
  intro H locs ls hP hI hS hl
  exact va_castS hx hb hown (hts _ hcl) (hK.1.1 ci r hc).2 (va_recv hK.1 (hP.one he) hc (q0 := 0) rfl) hd (kk H locs ls hP hI hS hl)
theorem mg_objInit (C : mwC X cc nL own D cI cS rm) {a idx : Nat} (hlk : Cond.methodLink own idx objectInit ∈ TT) (hR : 1 ≤ rm.frames ∧ (st.map fun v => v.category).sum + 12 ≤ rm.locals) (hd : decode cc pc = .ok (.invokespecial idx, 3)) (kk : mwG X cells slots w lv st (pc + 3)) : mwG X cells slots w lv (.ref a :: st) pc := by
  obtain ⟨p, l, e, R, s, m, args, below, meth, c, D', A, Q, n⟩ := X
  obtain ⟨⟨hx, hb, hml, hown, hts⟩, hK, hA, rfl, rfl, rfl⟩ := C
  intro H locs ls hP hI hS hl
  exact W.objInit hx hb hown (hts _ hlk) (hts _ kO_inst) (hts _ kO_code) rfl (by rw [hml]; exact hl.1) rfl hd hR.1 (by show 2 * 0 + _ + 12 ≤ _; omega) (kk H locs ls hP hI hS hl)
theorem mg_callS_i (C : mwC X cc nL own D cI cS rm) {y : MethodName} {cc' : ByteArray} {n' np : Nat} {ret : Option FieldType} {rm' : Room} {av : List Value} {post : Int32 → mwT → Prop} {idx : Nat} {rest : List Value} (M : mMi y cc' n' ret rm' av D cI cS w post) (hY : mwY y cc' n' ret np) (hlk : Cond.methodLink own idx y ∈ TT) (hsm : Cond.static y ∈ TT) (hR : rm'.frames + 1 ≤ rm.frames ∧ 8 + (n' + 11) + rm'.locals ≤ rm.locals) (hcs : cells + rm'.cells ≤ rm.cells ∧ slots + rm'.slots ≤ rm.slots) (hrest : (rest.map fun v => v.category).sum ≤ 8) (hnp : av.length = np) (hst : st = av.reverse ++ rest) (hd : decode cc pc = .ok (.invokestatic idx, 3)) (kk : ∀ (r : Int32) (w1 : mwT), post r w1 → mwG X (cells + rm'.cells) (slots + rm'.slots) w1 lv (.int r :: rest) (pc + 3)) : mwG X cells slots w lv st pc := by
  obtain ⟨p, l, e, R, s, m, args, below, meth, c, D', A, Q, n⟩ := X
  obtain ⟨⟨hx, hb, hml, hown, hts⟩, hK, hA, rfl, rfl, rfl⟩ := C
  intro H locs ls hP hI hS hl
  subst hst
  have hF : ∀ q, mwA w H.size q → A q := fun q h => h.elim (fun ⟨x, hx0⟩ => hI q x hx0) (fun h => hA q (Nat.le_trans hS.1 h))
  have hG := tt_call hY.1
  refine va_calli (va_runS (As := av) (rest := rest) (g := F0 m pc ls (av.reverse ++ rest)) ⟨hx, hb, hml, hown, hts⟩ (M l H.size) ⟨callB_of np hts hG rfl rfl rfl (hts _ hY.2.1) (hts _ hlk) hY.2.2 hR, hts _ hsm⟩ ⟨mw_blind _ _ _ _ _ _, fun U hU hW => ⟨rfl, by rw [hU], by rw [hU]; exact hP, hK.warm hW⟩⟩ rfl hnp hl.1 rfl (lv_room hrest) hd hcs) hS (fun q _ h => hF q h) hF (fun r u t H1 locs1 ht hvm hp hB hz1 hk1 hS1 => ?_)
  exact kk r u hp H1 locs1 ls (by rw [← ht]; exact hB.1) (fun a x h => hF a (hB.2 a x h)) hS1 hl
theorem mg_callN_i (C : mwC X cc nL own D cI cS rm) {y : MethodName} {cc' : ByteArray} {n' np : Nat} {ret : Option FieldType} {rm' : Room} {av : List Value} {post : Int32 → mwT → Prop} {idx : Nat} {rest : List Value} (M : mMi y cc' n' ret rm' av D cI cS w post) (hY : mwY y cc' n' ret np) {host : String} (hlk : Cond.methodLinkNest own idx y host ∈ NT) (hsm : Cond.static y ∈ TT) (hR : rm'.frames + 1 ≤ rm.frames ∧ 8 + (n' + 11) + rm'.locals ≤ rm.locals) (hcs : cells + rm'.cells ≤ rm.cells ∧ slots + rm'.slots ≤ rm.slots) (hrest : (rest.map fun v => v.category).sum ≤ 8) (hnp : av.length = np) (hst : st = av.reverse ++ rest) (hd : decode cc pc = .ok (.invokestatic idx, 3)) (kk : ∀ (r : Int32) (w1 : mwT), post r w1 → mwG X (cells + rm'.cells) (slots + rm'.slots) w1 lv (.int r :: rest) (pc + 3)) : mwG X cells slots w lv st pc := by
  obtain ⟨p, l, e, R, s, m, args, below, meth, c, D', A, Q, n⟩ := X
  obtain ⟨⟨hx, hb, hml, hown, hts⟩, hK, hA, rfl, rfl, rfl⟩ := C
  intro H locs ls hP hI hS hl
  subst hst
  have hF : ∀ q, mwA w H.size q → A q := fun q h => h.elim (fun ⟨x, hx0⟩ => hI q x hx0) (fun h => hA q (Nat.le_trans hS.1 h))
  have hG := tt_call hY.1
  refine va_calli (va_runSN (As := av) (rest := rest) (g := F0 m pc ls (av.reverse ++ rest)) ⟨hx, hb, hml, hown, hts⟩ (M l H.size) ⟨va_cnB np hts hG rfl rfl rfl (hK.2.1 _ hlk) (hts _ hY.2.1) hY.2.2 hR, hts _ hsm, trivial⟩ ⟨mw_blind _ _ _ _ _ _, fun U hU hW => ⟨rfl, by rw [hU], by rw [hU]; exact hP, hK.warm hW⟩⟩ rfl hnp hl.1 rfl (lv_room hrest) hd hcs) hS (fun q _ h => hF q h) hF (fun r u t H1 locs1 ht hvm hp hB hz1 hk1 hS1 => ?_)
  exact kk r u hp H1 locs1 ls (by rw [← ht]; exact hB.1) (fun a x h => hF a (hB.2 a x h)) hS1 hl
theorem mg_callV_i (C : mwC X cc nL own D cI cS rm)  {b ci : Nat} {q : vw_C} {vs : List Value} (he : w b = some (.inr (ci, vs))) (hc : vwCl[ci]? = some q) {y : MethodName} {cc' : ByteArray} {n' np : Nat} {ret : Option FieldType} {rm' : Room} {av : List Value} {post : Int32 → mwT → Prop} {idx : Nat} {rest : List Value} (M : mMi y cc' n' ret rm' (.ref b :: av) D cI cS w post) (hY : mwY y cc' n' ret np) (hlk : Cond.methodLink own idx y ∈ TT) (hins : Cond.instanceMethod y ∈ TT) (hsel : Cond.selects q.1 y y ∈ TT) (hR : rm'.frames + 1 ≤ rm.frames ∧ 8 + (n' + 11) + rm'.locals ≤ rm.locals) (hcs : cells + rm'.cells ≤ rm.cells ∧ slots + rm'.slots ≤ rm.slots) (hrest : (rest.map fun v => v.category).sum ≤ 8) (hnp : av.length = np) (hst : st = av.reverse ++ .ref b :: rest) (hd : decode cc pc = .ok (.invokevirtual idx, 3)) (kk : ∀ (r : Int32) (w1 : mwT), post r w1 → mwG X (cells + rm'.cells) (slots + rm'.slots) w1 lv (.int r :: rest) (pc + 3)) : mwG X cells slots w lv st pc := by
  obtain ⟨p, l, e, R, s, m, args, below, meth, c, D', A, Q, n⟩ := X
  obtain ⟨⟨hx, hb, hml, hown, hts⟩, hK, hA, rfl, rfl, rfl⟩ := C
  intro H locs ls hP hI hS hl
  subst hst
  have hF : ∀ q, mwA w H.size q → A q := fun q h => h.elim (fun ⟨x, hx0⟩ => hI q x hx0) (fun h => hA q (Nat.le_trans hS.1 h))
  have hG := tt_call hY.1
  refine va_calli (va_runV (C := q.1) (As := av) (rest := rest) (g := F0 m pc ls (av.reverse ++ .ref b :: rest)) ⟨hx, hb, hml, hown, hts⟩ (M l H.size) ⟨callB_of np hts hG rfl rfl rfl (hts _ hY.2.1) (hts _ hlk) hY.2.2 hR, hts _ hins, hts _ hsel⟩ ⟨mw_blind _ _ _ _ _ _, va_recv hK.1 (hP.one he) hc (q0 := 0) rfl, fun U hU hW => ⟨rfl, by rw [hU], by rw [hU]; exact hP, hK.warm hW⟩⟩ rfl hnp hl.1 rfl (lv_room hrest) hd hcs) hS (fun q _ h => hF q h) hF (fun r u t H1 locs1 ht hvm hp hB hz1 hk1 hS1 => ?_)
  exact kk r u hp H1 locs1 ls (by rw [← ht]; exact hB.1) (fun a x h => hF a (hB.2 a x h)) hS1 hl
theorem mg_callU_i (C : mwC X cc nL own D cI cS rm)  {b ci : Nat} {q : vw_C} {vs : List Value} (he : w b = some (.inr (ci, vs))) (hc : vwCl[ci]? = some q) {y : MethodName} {cc' : ByteArray} {n' np : Nat} {ret : Option FieldType} {rm' : Room} {av : List Value} {post : Int32 → mwT → Prop} {idx : Nat} {rest : List Value} (M : mMi y cc' n' ret rm' (.ref b :: av) D cI cS w post) (hY : mwY y cc' n' ret np) {x : MethodName} {owner : String} (hlk : Cond.methodLink own idx x ∈ TT) (hsame : Cond.sameMethod x.cls owner x.name x.desc ∈ TT) (hdecl : ∀ (s : State) (args : Array Value), (∀ w ∈ TT, w.before args s = true) → (∀ w ∈ NT, va_Nw w s) → va_Decl s ⟨owner, x.name, x.desc⟩) (hxd : owner ≠ "java/lang/invoke/MethodHandle" ∧ owner ≠ "java/lang/invoke/VarHandle" ∧ (parseMethodDescriptor x.desc).map (fun d => d.parameters.length) = some np) (hins : Cond.instanceMethod y ∈ TT) (hsel : Cond.selects q.1 x y ∈ TT) (hR : rm'.frames + 1 ≤ rm.frames ∧ 8 + (n' + 11) + rm'.locals ≤ rm.locals) (hcs : cells + rm'.cells ≤ rm.cells ∧ slots + rm'.slots ≤ rm.slots) (hrest : (rest.map fun v => v.category).sum ≤ 8) (hnp : av.length = np) (hst : st = av.reverse ++ .ref b :: rest) (hd : decode cc pc = .ok (.invokevirtual idx, 3)) (kk : ∀ (r : Int32) (w1 : mwT), post r w1 → mwG X (cells + rm'.cells) (slots + rm'.slots) w1 lv (.int r :: rest) (pc + 3)) : mwG X cells slots w lv st pc := by
  obtain ⟨p, l, e, R, s, m, args, below, meth, c, D', A, Q, n⟩ := X
  obtain ⟨⟨hx, hb, hml, hown, hts⟩, hK, hA, rfl, rfl, rfl⟩ := C
  intro H locs ls hP hI hS hl
  subst hst
  have hF : ∀ q, mwA w H.size q → A q := fun q h => h.elim (fun ⟨x, hx0⟩ => hI q x hx0) (fun h => hA q (Nat.le_trans hS.1 h))
  have hG := tt_call hY.1
  have hlen : ∀ sig, parseMethodDescriptor x.desc = some sig → np = sig.parameters.length := fun sig h => by
    have h2 := hxd.2.2
    rw [h] at h2
    exact (Option.some.inj h2).symm
  refine va_calli (va_runU (C := q.1) (owner := owner) (x := x) (As := av) (rest := rest) (g := F0 m pc ls (av.reverse ++ .ref b :: rest)) ⟨hx, hb, hml, hown, hts⟩ (M l H.size) ⟨⟨rfl, rfl, hR.1, hR.2, pay_in hts hG, List.mem_cons_self⟩, hts _ hY.1, hts _ hY.2.1, ⟨hxd.1, hxd.2.1⟩, hlen, hts _ hlk, hts _ hsame, hdecl s args hts hK.2.1, hts _ hsel, hts _ hins⟩ ⟨mw_blind _ _ _ _ _ _, va_recv hK.1 (hP.one he) hc (q0 := 0) rfl, fun U hU hW => ⟨rfl, by rw [hU], by rw [hU]; exact hP, hK.warm hW⟩⟩ rfl hnp hl.1 rfl (lv_room hrest) hd hcs) hS (fun q _ h => hF q h) hF (fun r u t H1 locs1 ht hvm hp hB hz1 hk1 hS1 => ?_)
  exact kk r u hp H1 locs1 ls (by rw [← ht]; exact hB.1) (fun a x h => hF a (hB.2 a x h)) hS1 hl
theorem mg_callS_v (C : mwC X cc nL own D cI cS rm) {y : MethodName} {cc' : ByteArray} {n' np : Nat} {ret : Option FieldType} {rm' : Room} {av : List Value} {post : mwT → Prop} {idx : Nat} {rest : List Value} (M : mMv y cc' n' ret rm' av D cI cS w post) (hY : mwY y cc' n' ret np) (hlk : Cond.methodLink own idx y ∈ TT) (hsm : Cond.static y ∈ TT) (hR : rm'.frames + 1 ≤ rm.frames ∧ 8 + (n' + 11) + rm'.locals ≤ rm.locals) (hcs : cells + rm'.cells ≤ rm.cells ∧ slots + rm'.slots ≤ rm.slots) (hrest : (rest.map fun v => v.category).sum ≤ 8) (hnp : av.length = np) (hst : st = av.reverse ++ rest) (hd : decode cc pc = .ok (.invokestatic idx, 3)) (kk : ∀ (w1 : mwT), post w1 → mwG X (cells + rm'.cells) (slots + rm'.slots) w1 lv rest (pc + 3)) : mwG X cells slots w lv st pc := by
  obtain ⟨p, l, e, R, s, m, args, below, meth, c, D', A, Q, n⟩ := X
  obtain ⟨⟨hx, hb, hml, hown, hts⟩, hK, hA, rfl, rfl, rfl⟩ := C
  intro H locs ls hP hI hS hl
  subst hst
  have hF : ∀ q, mwA w H.size q → A q := fun q h => h.elim (fun ⟨x, hx0⟩ => hI q x hx0) (fun h => hA q (Nat.le_trans hS.1 h))
  have hG := tt_call hY.1
  refine va_callv (va_runS (As := av) (rest := rest) (g := F0 m pc ls (av.reverse ++ rest)) ⟨hx, hb, hml, hown, hts⟩ (M l H.size) ⟨callB_of np hts hG rfl rfl rfl (hts _ hY.2.1) (hts _ hlk) hY.2.2 hR, hts _ hsm⟩ ⟨mw_blind _ _ _ _ _ _, fun U hU hW => ⟨rfl, by rw [hU], by rw [hU]; exact hP, hK.warm hW⟩⟩ rfl hnp hl.1 rfl (lv_room hrest) hd hcs) hS (fun q _ h => hF q h) hF (fun u t H1 locs1 ht hvm hp hB hz1 hk1 hS1 => ?_)
  exact kk u hp H1 locs1 ls (by rw [← ht]; exact hB.1) (fun a x h => hF a (hB.2 a x h)) hS1 hl
theorem mg_callN_v (C : mwC X cc nL own D cI cS rm) {y : MethodName} {cc' : ByteArray} {n' np : Nat} {ret : Option FieldType} {rm' : Room} {av : List Value} {post : mwT → Prop} {idx : Nat} {rest : List Value} (M : mMv y cc' n' ret rm' av D cI cS w post) (hY : mwY y cc' n' ret np) {host : String} (hlk : Cond.methodLinkNest own idx y host ∈ NT) (hsm : Cond.static y ∈ TT) (hR : rm'.frames + 1 ≤ rm.frames ∧ 8 + (n' + 11) + rm'.locals ≤ rm.locals) (hcs : cells + rm'.cells ≤ rm.cells ∧ slots + rm'.slots ≤ rm.slots) (hrest : (rest.map fun v => v.category).sum ≤ 8) (hnp : av.length = np) (hst : st = av.reverse ++ rest) (hd : decode cc pc = .ok (.invokestatic idx, 3)) (kk : ∀ (w1 : mwT), post w1 → mwG X (cells + rm'.cells) (slots + rm'.slots) w1 lv rest (pc + 3)) : mwG X cells slots w lv st pc := by
  obtain ⟨p, l, e, R, s, m, args, below, meth, c, D', A, Q, n⟩ := X
  obtain ⟨⟨hx, hb, hml, hown, hts⟩, hK, hA, rfl, rfl, rfl⟩ := C
  intro H locs ls hP hI hS hl
  subst hst
  have hF : ∀ q, mwA w H.size q → A q := fun q h => h.elim (fun ⟨x, hx0⟩ => hI q x hx0) (fun h => hA q (Nat.le_trans hS.1 h))
  have hG := tt_call hY.1
  refine va_callv (va_runSN (As := av) (rest := rest) (g := F0 m pc ls (av.reverse ++ rest)) ⟨hx, hb, hml, hown, hts⟩ (M l H.size) ⟨va_cnB np hts hG rfl rfl rfl (hK.2.1 _ hlk) (hts _ hY.2.1) hY.2.2 hR, hts _ hsm, trivial⟩ ⟨mw_blind _ _ _ _ _ _, fun U hU hW => ⟨rfl, by rw [hU], by rw [hU]; exact hP, hK.warm hW⟩⟩ rfl hnp hl.1 rfl (lv_room hrest) hd hcs) hS (fun q _ h => hF q h) hF (fun u t H1 locs1 ht hvm hp hB hz1 hk1 hS1 => ?_)
  exact kk u hp H1 locs1 ls (by rw [← ht]; exact hB.1) (fun a x h => hF a (hB.2 a x h)) hS1 hl
theorem mg_callV_v (C : mwC X cc nL own D cI cS rm)  {b ci : Nat} {q : vw_C} {vs : List Value} (he : w b = some (.inr (ci, vs))) (hc : vwCl[ci]? = some q) {y : MethodName} {cc' : ByteArray} {n' np : Nat} {ret : Option FieldType} {rm' : Room} {av : List Value} {post : mwT → Prop} {idx : Nat} {rest : List Value} (M : mMv y cc' n' ret rm' (.ref b :: av) D cI cS w post) (hY : mwY y cc' n' ret np) (hlk : Cond.methodLink own idx y ∈ TT) (hins : Cond.instanceMethod y ∈ TT) (hsel : Cond.selects q.1 y y ∈ TT) (hR : rm'.frames + 1 ≤ rm.frames ∧ 8 + (n' + 11) + rm'.locals ≤ rm.locals) (hcs : cells + rm'.cells ≤ rm.cells ∧ slots + rm'.slots ≤ rm.slots) (hrest : (rest.map fun v => v.category).sum ≤ 8) (hnp : av.length = np) (hst : st = av.reverse ++ .ref b :: rest) (hd : decode cc pc = .ok (.invokevirtual idx, 3)) (kk : ∀ (w1 : mwT), post w1 → mwG X (cells + rm'.cells) (slots + rm'.slots) w1 lv rest (pc + 3)) : mwG X cells slots w lv st pc := by
  obtain ⟨p, l, e, R, s, m, args, below, meth, c, D', A, Q, n⟩ := X
  obtain ⟨⟨hx, hb, hml, hown, hts⟩, hK, hA, rfl, rfl, rfl⟩ := C
  intro H locs ls hP hI hS hl
  subst hst
  have hF : ∀ q, mwA w H.size q → A q := fun q h => h.elim (fun ⟨x, hx0⟩ => hI q x hx0) (fun h => hA q (Nat.le_trans hS.1 h))
  have hG := tt_call hY.1
  refine va_callv (va_runV (C := q.1) (As := av) (rest := rest) (g := F0 m pc ls (av.reverse ++ .ref b :: rest)) ⟨hx, hb, hml, hown, hts⟩ (M l H.size) ⟨callB_of np hts hG rfl rfl rfl (hts _ hY.2.1) (hts _ hlk) hY.2.2 hR, hts _ hins, hts _ hsel⟩ ⟨mw_blind _ _ _ _ _ _, va_recv hK.1 (hP.one he) hc (q0 := 0) rfl, fun U hU hW => ⟨rfl, by rw [hU], by rw [hU]; exact hP, hK.warm hW⟩⟩ rfl hnp hl.1 rfl (lv_room hrest) hd hcs) hS (fun q _ h => hF q h) hF (fun u t H1 locs1 ht hvm hp hB hz1 hk1 hS1 => ?_)
  exact kk u hp H1 locs1 ls (by rw [← ht]; exact hB.1) (fun a x h => hF a (hB.2 a x h)) hS1 hl
theorem mg_callU_v (C : mwC X cc nL own D cI cS rm)  {b ci : Nat} {q : vw_C} {vs : List Value} (he : w b = some (.inr (ci, vs))) (hc : vwCl[ci]? = some q) {y : MethodName} {cc' : ByteArray} {n' np : Nat} {ret : Option FieldType} {rm' : Room} {av : List Value} {post : mwT → Prop} {idx : Nat} {rest : List Value} (M : mMv y cc' n' ret rm' (.ref b :: av) D cI cS w post) (hY : mwY y cc' n' ret np) {x : MethodName} {owner : String} (hlk : Cond.methodLink own idx x ∈ TT) (hsame : Cond.sameMethod x.cls owner x.name x.desc ∈ TT) (hdecl : ∀ (s : State) (args : Array Value), (∀ w ∈ TT, w.before args s = true) → (∀ w ∈ NT, va_Nw w s) → va_Decl s ⟨owner, x.name, x.desc⟩) (hxd : owner ≠ "java/lang/invoke/MethodHandle" ∧ owner ≠ "java/lang/invoke/VarHandle" ∧ (parseMethodDescriptor x.desc).map (fun d => d.parameters.length) = some np) (hins : Cond.instanceMethod y ∈ TT) (hsel : Cond.selects q.1 x y ∈ TT) (hR : rm'.frames + 1 ≤ rm.frames ∧ 8 + (n' + 11) + rm'.locals ≤ rm.locals) (hcs : cells + rm'.cells ≤ rm.cells ∧ slots + rm'.slots ≤ rm.slots) (hrest : (rest.map fun v => v.category).sum ≤ 8) (hnp : av.length = np) (hst : st = av.reverse ++ .ref b :: rest) (hd : decode cc pc = .ok (.invokevirtual idx, 3)) (kk : ∀ (w1 : mwT), post w1 → mwG X (cells + rm'.cells) (slots + rm'.slots) w1 lv rest (pc + 3)) : mwG X cells slots w lv st pc := by
  obtain ⟨p, l, e, R, s, m, args, below, meth, c, D', A, Q, n⟩ := X
  obtain ⟨⟨hx, hb, hml, hown, hts⟩, hK, hA, rfl, rfl, rfl⟩ := C
  intro H locs ls hP hI hS hl
  subst hst
  have hF : ∀ q, mwA w H.size q → A q := fun q h => h.elim (fun ⟨x, hx0⟩ => hI q x hx0) (fun h => hA q (Nat.le_trans hS.1 h))
  have hG := tt_call hY.1
  have hlen : ∀ sig, parseMethodDescriptor x.desc = some sig → np = sig.parameters.length := fun sig h => by
    have h2 := hxd.2.2
    rw [h] at h2
    exact (Option.some.inj h2).symm
  refine va_callv (va_runU (C := q.1) (owner := owner) (x := x) (As := av) (rest := rest) (g := F0 m pc ls (av.reverse ++ .ref b :: rest)) ⟨hx, hb, hml, hown, hts⟩ (M l H.size) ⟨⟨rfl, rfl, hR.1, hR.2, pay_in hts hG, List.mem_cons_self⟩, hts _ hY.1, hts _ hY.2.1, ⟨hxd.1, hxd.2.1⟩, hlen, hts _ hlk, hts _ hsame, hdecl s args hts hK.2.1, hts _ hsel, hts _ hins⟩ ⟨mw_blind _ _ _ _ _ _, va_recv hK.1 (hP.one he) hc (q0 := 0) rfl, fun U hU hW => ⟨rfl, by rw [hU], by rw [hU]; exact hP, hK.warm hW⟩⟩ rfl hnp hl.1 rfl (lv_room hrest) hd hcs) hS (fun q _ h => hF q h) hF (fun u t H1 locs1 ht hvm hp hB hz1 hk1 hS1 => ?_)
  exact kk u hp H1 locs1 ls (by rw [← ht]; exact hB.1) (fun a x h => hF a (hB.2 a x h)) hS1 hl
theorem mg_callI_v (C : mwC X cc nL own D cI cS rm) {b : Nat} {y : MethodName} {cc' : ByteArray} {n' np : Nat} {rm' : Room} {av : List Value} {post : mwT → Prop} {idx : Nat} {rest : List Value} (M : mMv y cc' n' none rm' (.ref b :: av) D cI cS w post) (hY : mwY y cc' n' none np) (hlk : Cond.methodLink own idx y ∈ TT) (hins : Cond.instanceMethod y ∈ TT) (hini : y.name = "<init>") (hR : rm'.frames + 1 ≤ rm.frames ∧ 8 + (n' + 11) + rm'.locals ≤ rm.locals) (hcs : cells + rm'.cells ≤ rm.cells ∧ slots + rm'.slots ≤ rm.slots) (hrest : (rest.map fun v => v.category).sum ≤ 8) (hnp : av.length = np) (hst : st = av.reverse ++ .ref b :: rest) (hd : decode cc pc = .ok (.invokespecial idx, 3)) (kk : ∀ (w1 : mwT), post w1 → mwG X (cells + rm'.cells) (slots + rm'.slots) w1 lv rest (pc + 3)) : mwG X cells slots w lv st pc := by
  obtain ⟨p, l, e, R, s, m, args, below, meth, c, D', A, Q, n⟩ := X
  obtain ⟨⟨hx, hb, hml, hown, hts⟩, hK, hA, rfl, rfl, rfl⟩ := C
  intro H locs ls hP hI hS hl
  subst hst
  have hF : ∀ q, mwA w H.size q → A q := fun q h => h.elim (fun ⟨x, hx0⟩ => hI q x hx0) (fun h => hA q (Nat.le_trans hS.1 h))
  have hG := tt_call hY.1
  refine va_callv (va_runI (b := b) (As := av) (rest := rest) (g := F0 m pc ls (av.reverse ++ .ref b :: rest)) ⟨hx, hb, hml, hown, hts⟩ (M l H.size) ⟨callB_of np hts hG rfl rfl rfl (hts _ hY.2.1) (hts _ hlk) hY.2.2 hR, hini, hts _ hins⟩ ⟨mw_blind _ _ _ _ _ _, fun U hU hW => ⟨rfl, by rw [hU], by rw [hU]; exact hP, hK.warm hW⟩⟩ rfl hnp hl.1 rfl (lv_room hrest) hd hcs) hS (fun q _ h => hF q h) hF (fun u t H1 locs1 ht hvm hp hB hz1 hk1 hS1 => ?_)
  exact kk u hp H1 locs1 ls (by rw [← ht]; exact hB.1) (fun a x h => hF a (hB.2 a x h)) hS1 hl
theorem mg_callS_q (C : mwC X cc nL own D cI cS rm) {y : MethodName} {cc' : ByteArray} {n' np : Nat} {ret : Option FieldType} {rm' : Room} {av : List Value} {post : Option Nat → mwT → Prop} {idx : Nat} {rest : List Value} (M : mMq y cc' n' ret rm' av D cI cS w post) (hY : mwY y cc' n' ret np) (hlk : Cond.methodLink own idx y ∈ TT) (hsm : Cond.static y ∈ TT) (hR : rm'.frames + 1 ≤ rm.frames ∧ 8 + (n' + 11) + rm'.locals ≤ rm.locals) (hcs : cells + rm'.cells ≤ rm.cells ∧ slots + rm'.slots ≤ rm.slots) (hrest : (rest.map fun v => v.category).sum ≤ 8) (hnp : av.length = np) (hst : st = av.reverse ++ rest) (hd : decode cc pc = .ok (.invokestatic idx, 3)) (kk : ∀ (r : Option Nat) (w1 : mwT), post r w1 → mwG X (cells + rm'.cells) (slots + rm'.slots) w1 lv (va_rf r :: rest) (pc + 3)) : mwG X cells slots w lv st pc := by
  obtain ⟨p, l, e, R, s, m, args, below, meth, c, D', A, Q, n⟩ := X
  obtain ⟨⟨hx, hb, hml, hown, hts⟩, hK, hA, rfl, rfl, rfl⟩ := C
  intro H locs ls hP hI hS hl
  subst hst
  have hF : ∀ q, mwA w H.size q → A q := fun q h => h.elim (fun ⟨x, hx0⟩ => hI q x hx0) (fun h => hA q (Nat.le_trans hS.1 h))
  have hG := tt_call hY.1
  refine va_callq (va_runS (As := av) (rest := rest) (g := F0 m pc ls (av.reverse ++ rest)) ⟨hx, hb, hml, hown, hts⟩ (M l H.size) ⟨callB_of np hts hG rfl rfl rfl (hts _ hY.2.1) (hts _ hlk) hY.2.2 hR, hts _ hsm⟩ ⟨mw_blind _ _ _ _ _ _, fun U hU hW => ⟨rfl, by rw [hU], by rw [hU]; exact hP, hK.warm hW⟩⟩ rfl hnp hl.1 rfl (lv_room hrest) hd hcs) hS (fun q _ h => hF q h) hF (fun r u t H1 locs1 ht hvm hp hB hz1 hk1 hS1 => ?_)
  exact kk r u hp H1 locs1 ls (by rw [← ht]; exact hB.1) (fun a x h => hF a (hB.2 a x h)) hS1 hl
theorem mg_callN_q (C : mwC X cc nL own D cI cS rm) {y : MethodName} {cc' : ByteArray} {n' np : Nat} {ret : Option FieldType} {rm' : Room} {av : List Value} {post : Option Nat → mwT → Prop} {idx : Nat} {rest : List Value} (M : mMq y cc' n' ret rm' av D cI cS w post) (hY : mwY y cc' n' ret np) {host : String} (hlk : Cond.methodLinkNest own idx y host ∈ NT) (hsm : Cond.static y ∈ TT) (hR : rm'.frames + 1 ≤ rm.frames ∧ 8 + (n' + 11) + rm'.locals ≤ rm.locals) (hcs : cells + rm'.cells ≤ rm.cells ∧ slots + rm'.slots ≤ rm.slots) (hrest : (rest.map fun v => v.category).sum ≤ 8) (hnp : av.length = np) (hst : st = av.reverse ++ rest) (hd : decode cc pc = .ok (.invokestatic idx, 3)) (kk : ∀ (r : Option Nat) (w1 : mwT), post r w1 → mwG X (cells + rm'.cells) (slots + rm'.slots) w1 lv (va_rf r :: rest) (pc + 3)) : mwG X cells slots w lv st pc := by
  obtain ⟨p, l, e, R, s, m, args, below, meth, c, D', A, Q, n⟩ := X
  obtain ⟨⟨hx, hb, hml, hown, hts⟩, hK, hA, rfl, rfl, rfl⟩ := C
  intro H locs ls hP hI hS hl
  subst hst
  have hF : ∀ q, mwA w H.size q → A q := fun q h => h.elim (fun ⟨x, hx0⟩ => hI q x hx0) (fun h => hA q (Nat.le_trans hS.1 h))
  have hG := tt_call hY.1
  refine va_callq (va_runSN (As := av) (rest := rest) (g := F0 m pc ls (av.reverse ++ rest)) ⟨hx, hb, hml, hown, hts⟩ (M l H.size) ⟨va_cnB np hts hG rfl rfl rfl (hK.2.1 _ hlk) (hts _ hY.2.1) hY.2.2 hR, hts _ hsm, trivial⟩ ⟨mw_blind _ _ _ _ _ _, fun U hU hW => ⟨rfl, by rw [hU], by rw [hU]; exact hP, hK.warm hW⟩⟩ rfl hnp hl.1 rfl (lv_room hrest) hd hcs) hS (fun q _ h => hF q h) hF (fun r u t H1 locs1 ht hvm hp hB hz1 hk1 hS1 => ?_)
  exact kk r u hp H1 locs1 ls (by rw [← ht]; exact hB.1) (fun a x h => hF a (hB.2 a x h)) hS1 hl
theorem mg_callV_q (C : mwC X cc nL own D cI cS rm)  {b ci : Nat} {q : vw_C} {vs : List Value} (he : w b = some (.inr (ci, vs))) (hc : vwCl[ci]? = some q) {y : MethodName} {cc' : ByteArray} {n' np : Nat} {ret : Option FieldType} {rm' : Room} {av : List Value} {post : Option Nat → mwT → Prop} {idx : Nat} {rest : List Value} (M : mMq y cc' n' ret rm' (.ref b :: av) D cI cS w post) (hY : mwY y cc' n' ret np) (hlk : Cond.methodLink own idx y ∈ TT) (hins : Cond.instanceMethod y ∈ TT) (hsel : Cond.selects q.1 y y ∈ TT) (hR : rm'.frames + 1 ≤ rm.frames ∧ 8 + (n' + 11) + rm'.locals ≤ rm.locals) (hcs : cells + rm'.cells ≤ rm.cells ∧ slots + rm'.slots ≤ rm.slots) (hrest : (rest.map fun v => v.category).sum ≤ 8) (hnp : av.length = np) (hst : st = av.reverse ++ .ref b :: rest) (hd : decode cc pc = .ok (.invokevirtual idx, 3)) (kk : ∀ (r : Option Nat) (w1 : mwT), post r w1 → mwG X (cells + rm'.cells) (slots + rm'.slots) w1 lv (va_rf r :: rest) (pc + 3)) : mwG X cells slots w lv st pc := by
  obtain ⟨p, l, e, R, s, m, args, below, meth, c, D', A, Q, n⟩ := X
  obtain ⟨⟨hx, hb, hml, hown, hts⟩, hK, hA, rfl, rfl, rfl⟩ := C
  intro H locs ls hP hI hS hl
  subst hst
  have hF : ∀ q, mwA w H.size q → A q := fun q h => h.elim (fun ⟨x, hx0⟩ => hI q x hx0) (fun h => hA q (Nat.le_trans hS.1 h))
  have hG := tt_call hY.1
  refine va_callq (va_runV (C := q.1) (As := av) (rest := rest) (g := F0 m pc ls (av.reverse ++ .ref b :: rest)) ⟨hx, hb, hml, hown, hts⟩ (M l H.size) ⟨callB_of np hts hG rfl rfl rfl (hts _ hY.2.1) (hts _ hlk) hY.2.2 hR, hts _ hins, hts _ hsel⟩ ⟨mw_blind _ _ _ _ _ _, va_recv hK.1 (hP.one he) hc (q0 := 0) rfl, fun U hU hW => ⟨rfl, by rw [hU], by rw [hU]; exact hP, hK.warm hW⟩⟩ rfl hnp hl.1 rfl (lv_room hrest) hd hcs) hS (fun q _ h => hF q h) hF (fun r u t H1 locs1 ht hvm hp hB hz1 hk1 hS1 => ?_)
  exact kk r u hp H1 locs1 ls (by rw [← ht]; exact hB.1) (fun a x h => hF a (hB.2 a x h)) hS1 hl
theorem mg_callU_q (C : mwC X cc nL own D cI cS rm)  {b ci : Nat} {q : vw_C} {vs : List Value} (he : w b = some (.inr (ci, vs))) (hc : vwCl[ci]? = some q) {y : MethodName} {cc' : ByteArray} {n' np : Nat} {ret : Option FieldType} {rm' : Room} {av : List Value} {post : Option Nat → mwT → Prop} {idx : Nat} {rest : List Value} (M : mMq y cc' n' ret rm' (.ref b :: av) D cI cS w post) (hY : mwY y cc' n' ret np) {x : MethodName} {owner : String} (hlk : Cond.methodLink own idx x ∈ TT) (hsame : Cond.sameMethod x.cls owner x.name x.desc ∈ TT) (hdecl : ∀ (s : State) (args : Array Value), (∀ w ∈ TT, w.before args s = true) → (∀ w ∈ NT, va_Nw w s) → va_Decl s ⟨owner, x.name, x.desc⟩) (hxd : owner ≠ "java/lang/invoke/MethodHandle" ∧ owner ≠ "java/lang/invoke/VarHandle" ∧ (parseMethodDescriptor x.desc).map (fun d => d.parameters.length) = some np) (hins : Cond.instanceMethod y ∈ TT) (hsel : Cond.selects q.1 x y ∈ TT) (hR : rm'.frames + 1 ≤ rm.frames ∧ 8 + (n' + 11) + rm'.locals ≤ rm.locals) (hcs : cells + rm'.cells ≤ rm.cells ∧ slots + rm'.slots ≤ rm.slots) (hrest : (rest.map fun v => v.category).sum ≤ 8) (hnp : av.length = np) (hst : st = av.reverse ++ .ref b :: rest) (hd : decode cc pc = .ok (.invokevirtual idx, 3)) (kk : ∀ (r : Option Nat) (w1 : mwT), post r w1 → mwG X (cells + rm'.cells) (slots + rm'.slots) w1 lv (va_rf r :: rest) (pc + 3)) : mwG X cells slots w lv st pc := by
  obtain ⟨p, l, e, R, s, m, args, below, meth, c, D', A, Q, n⟩ := X
  obtain ⟨⟨hx, hb, hml, hown, hts⟩, hK, hA, rfl, rfl, rfl⟩ := C
  intro H locs ls hP hI hS hl
  subst hst
  have hF : ∀ q, mwA w H.size q → A q := fun q h => h.elim (fun ⟨x, hx0⟩ => hI q x hx0) (fun h => hA q (Nat.le_trans hS.1 h))
  have hG := tt_call hY.1
  have hlen : ∀ sig, parseMethodDescriptor x.desc = some sig → np = sig.parameters.length := fun sig h => by
    have h2 := hxd.2.2
    rw [h] at h2
    exact (Option.some.inj h2).symm
  refine va_callq (va_runU (C := q.1) (owner := owner) (x := x) (As := av) (rest := rest) (g := F0 m pc ls (av.reverse ++ .ref b :: rest)) ⟨hx, hb, hml, hown, hts⟩ (M l H.size) ⟨⟨rfl, rfl, hR.1, hR.2, pay_in hts hG, List.mem_cons_self⟩, hts _ hY.1, hts _ hY.2.1, ⟨hxd.1, hxd.2.1⟩, hlen, hts _ hlk, hts _ hsame, hdecl s args hts hK.2.1, hts _ hsel, hts _ hins⟩ ⟨mw_blind _ _ _ _ _ _, va_recv hK.1 (hP.one he) hc (q0 := 0) rfl, fun U hU hW => ⟨rfl, by rw [hU], by rw [hU]; exact hP, hK.warm hW⟩⟩ rfl hnp hl.1 rfl (lv_room hrest) hd hcs) hS (fun q _ h => hF q h) hF (fun r u t H1 locs1 ht hvm hp hB hz1 hk1 hS1 => ?_)
  exact kk r u hp H1 locs1 ls (by rw [← ht]; exact hB.1) (fun a x h => hF a (hB.2 a x h)) hS1 hl
end MWR2
end
section
theorem yq_X0_forget : mwY yX0_forget cX0_forget 1 none 0 := ⟨kw_212, kw_55, by decide +kernel⟩
theorem yq_X0_holds : mwY yX0_holds cX0_holds 5 (some .int) 1 := ⟨kw_519, kw_55, by decide +kernel⟩
theorem yq_X0_howManyKept : mwY yX0_howManyKept cX0_howManyKept 1 (some .int) 0 := ⟨kw_598, kw_55, by decide +kernel⟩
theorem yq_X0_init : mwY yX0_init cX0_init 3 none 2 := ⟨kw_86, kw_55, by decide +kernel⟩
theorem yq_X0_join : mwY yX0_join cX0_join 4 none 1 := ⟨kw_392, kw_55, by decide +kernel⟩
theorem yq_X0_keptAt : mwY yX0_keptAt cX0_keptAt 3 (some .int) 2 := ⟨kw_629, kw_55, by decide +kernel⟩
theorem yq_X0_take : mwY yX0_take cX0_take 5 none 2 := ⟨kw_261, kw_55, by decide +kernel⟩
theorem yq_X0_twin : mwY yX0_twin cX0_twin 2 (some (.object "SketchSpans$Sketch")) 0 := ⟨kw_131, kw_55, by decide +kernel⟩
theorem yq_X1_add : mwY yX1_add cX1_add 5 none 2 := ⟨kw_289, kw_49, by decide +kernel⟩
theorem yq_X1_atLeast : mwY yX1_atLeast cX1_atLeast 3 (some .int) 1 := ⟨kw_446, kw_49, by decide +kernel⟩
theorem yq_X1_atMost : mwY yX1_atMost cX1_atMost 2 (some .int) 1 := ⟨kw_491, kw_49, by decide +kernel⟩
theorem yq_X1_firstNumberTooMany : mwY yX1_firstNumberTooMany cX1_firstNumberTooMany 3 (some .int) 0 := ⟨kw_401, kw_49, by decide +kernel⟩
theorem yq_X1_forget : mwY yX1_forget cX1_forget 1 none 0 := ⟨kw_217, kw_49, by decide +kernel⟩
theorem yq_X1_howManyKept : mwY yX1_howManyKept cX1_howManyKept 1 (some .int) 0 := ⟨kw_603, kw_49, by decide +kernel⟩
theorem yq_X1_howManyNotBelow : mwY yX1_howManyNotBelow cX1_howManyNotBelow 4 (some .int) 1 := ⟨kw_405, kw_49, by decide +kernel⟩
theorem yq_X1_init : mwY yX1_init cX1_init 3 none 2 := ⟨kw_64, kw_49, by decide +kernel⟩
theorem yq_X1_join : mwY yX1_join cX1_join 4 none 1 := ⟨kw_396, kw_49, by decide +kernel⟩
theorem yq_X1_keptAt : mwY yX1_keptAt cX1_keptAt 3 (some .int) 2 := ⟨kw_632, kw_49, by decide +kernel⟩
theorem yq_X1_leastNumber : mwY yX1_leastNumber cX1_leastNumber 4 (some .int) 1 := ⟨kw_278, kw_49, by decide +kernel⟩
theorem yq_X1_lower : mwY yX1_lower cX1_lower 4 none 1 := ⟨kw_285, kw_49, by decide +kernel⟩
theorem yq_X1_mayLack : mwY yX1_mayLack cX1_mayLack 1 (some .int) 0 := ⟨kw_588, kw_49, by decide +kernel⟩
theorem yq_X1_take : mwY yX1_take cX1_take 5 none 2 := ⟨kw_270, kw_49, by decide +kernel⟩
theorem yq_X1_twin : mwY yX1_twin cX1_twin 2 (some (.object "SketchSpans$Sketch")) 0 := ⟨kw_147, kw_49, by decide +kernel⟩
theorem yq_X2_add : mwY yX2_add cX2_add 4 none 1 := ⟨kw_296, kw_58, by decide +kernel⟩
theorem yq_X2_differentKeys : mwY yX2_differentKeys cX2_differentKeys 2 (some .int) 0 := ⟨kw_545, kw_58, by decide +kernel⟩
theorem yq_X2_forget : mwY yX2_forget cX2_forget 1 none 0 := ⟨kw_220, kw_58, by decide +kernel⟩
theorem yq_X2_holds : mwY yX2_holds cX2_holds 3 (some .int) 1 := ⟨kw_525, kw_58, by decide +kernel⟩
theorem yq_X2_howManyKept : mwY yX2_howManyKept cX2_howManyKept 1 (some .int) 0 := ⟨kw_606, kw_58, by decide +kernel⟩
theorem yq_X2_init : mwY yX2_init cX2_init 3 none 2 := ⟨kw_91, kw_58, by decide +kernel⟩
theorem yq_X2_join : mwY yX2_join cX2_join 4 none 1 := ⟨kw_408, kw_58, by decide +kernel⟩
theorem yq_X2_keptAt : mwY yX2_keptAt cX2_keptAt 3 (some .int) 2 := ⟨kw_635, kw_58, by decide +kernel⟩
theorem yq_X2_take : mwY yX2_take cX2_take 3 none 2 := ⟨kw_292, kw_58, by decide +kernel⟩
theorem yq_X2_twin : mwY yX2_twin cX2_twin 2 (some (.object "SketchSpans$Sketch")) 0 := ⟨kw_159, kw_58, by decide +kernel⟩
theorem yq_X3_atLeast : mwY yX3_atLeast cX3_atLeast 2 (some .int) 1 := ⟨kw_450, kw_61, by decide +kernel⟩
theorem yq_X3_atMost : mwY yX3_atMost cX3_atMost 2 (some .int) 1 := ⟨kw_497, kw_61, by decide +kernel⟩
theorem yq_X3_collapse : mwY yX3_collapse cX3_collapse 4 none 1 := ⟨kw_308, kw_61, by decide +kernel⟩
theorem yq_X3_forget : mwY yX3_forget cX3_forget 1 none 0 := ⟨kw_223, kw_61, by decide +kernel⟩
theorem yq_X3_howManyKept : mwY yX3_howManyKept cX3_howManyKept 3 (some .int) 0 := ⟨kw_609, kw_61, by decide +kernel⟩
theorem yq_X3_init : mwY yX3_init cX3_init 3 none 2 := ⟨kw_97, kw_61, by decide +kernel⟩
theorem yq_X3_join : mwY yX3_join cX3_join 5 none 1 := ⟨kw_412, kw_61, by decide +kernel⟩
theorem yq_X3_keptAt : mwY yX3_keptAt cX3_keptAt 3 (some .int) 2 := ⟨kw_638, kw_61, by decide +kernel⟩
theorem yq_X3_keyAt : mwY yX3_keyAt cX3_keyAt 4 (some .int) 2 := ⟨kw_316, kw_61, by decide +kernel⟩
theorem yq_X3_keyAtRank : mwY yX3_keyAtRank cX3_keyAtRank 6 (some .int) 1 := ⟨kw_567, kw_61, by decide +kernel⟩
theorem yq_X3_mayLack : mwY yX3_mayLack cX3_mayLack 1 (some .int) 0 := ⟨kw_592, kw_61, by decide +kernel⟩
theorem yq_X3_mayTake : mwY yX3_mayTake cX3_mayTake 2 (some .boolean) 1 := ⟨kw_253, kw_61, by decide +kernel⟩
theorem yq_X3_push : mwY yX3_push cX3_push 3 none 2 := ⟨kw_304, kw_61, by decide +kernel⟩
theorem yq_X3_sortBuffer : mwY yX3_sortBuffer cX3_sortBuffer 6 none 1 := ⟨kw_312, kw_61, by decide +kernel⟩
theorem yq_X3_take : mwY yX3_take cX3_take 4 none 2 := ⟨kw_300, kw_61, by decide +kernel⟩
theorem yq_X3_twin : mwY yX3_twin cX3_twin 2 (some (.object "SketchSpans$Sketch")) 0 := ⟨kw_171, kw_61, by decide +kernel⟩
theorem yq_X3_weightUpTo : mwY yX3_weightUpTo cX3_weightUpTo 5 (some .int) 1 := ⟨kw_457, kw_61, by decide +kernel⟩
theorem yq_X4_atLeast : mwY yX4_atLeast cX4_atLeast 2 (some .int) 1 := ⟨kw_442, kw_71, by decide +kernel⟩
theorem yq_X4_atMost : mwY yX4_atMost cX4_atMost 2 (some .int) 1 := ⟨kw_487, kw_71, by decide +kernel⟩
theorem yq_X4_copyTotals : mwY yX4_copyTotals cX4_copyTotals 2 none 1 := ⟨kw_142, kw_71, by decide +kernel⟩
theorem yq_X4_differentKeys : mwY yX4_differentKeys cX4_differentKeys 1 (some .int) 0 := ⟨kw_540, kw_71, by decide +kernel⟩
theorem yq_X4_holds : mwY yX4_holds cX4_holds 2 (some .int) 1 := ⟨kw_520, kw_71, by decide +kernel⟩
theorem yq_X4_init : mwY yX4_init cX4_init 4 none 3 := ⟨kw_72, kw_71, by decide +kernel⟩
theorem yq_X4_isLike : mwY yX4_isLike cX4_isLike 2 (some .boolean) 1 := ⟨kw_383, kw_71, by decide +kernel⟩
theorem yq_X4_keyAtRank : mwY yX4_keyAtRank cX4_keyAtRank 2 (some .int) 1 := ⟨kw_561, kw_71, by decide +kernel⟩
theorem yq_X4_mayLack : mwY yX4_mayLack cX4_mayLack 1 (some .int) 0 := ⟨kw_584, kw_71, by decide +kernel⟩
theorem yq_X4_mayTake : mwY yX4_mayTake cX4_mayTake 2 (some .boolean) 1 := ⟨kw_247, kw_71, by decide +kernel⟩
theorem yq_X5_atMost : mwY yX5_atMost cX5_atMost 5 (some .int) 1 := ⟨kw_503, kw_52, by decide +kernel⟩
theorem yq_X5_forget : mwY yX5_forget cX5_forget 1 none 0 := ⟨kw_226, kw_52, by decide +kernel⟩
theorem yq_X5_howManyKept : mwY yX5_howManyKept cX5_howManyKept 1 (some .int) 0 := ⟨kw_612, kw_52, by decide +kernel⟩
theorem yq_X5_init : mwY yX5_init cX5_init 3 none 2 := ⟨kw_81, kw_52, by decide +kernel⟩
theorem yq_X5_join : mwY yX5_join cX5_join 4 none 1 := ⟨kw_416, kw_52, by decide +kernel⟩
theorem yq_X5_keptAt : mwY yX5_keptAt cX5_keptAt 3 (some .int) 2 := ⟨kw_641, kw_52, by decide +kernel⟩
theorem yq_X5_mayTake : mwY yX5_mayTake cX5_mayTake 2 (some .boolean) 1 := ⟨kw_256, kw_52, by decide +kernel⟩
theorem yq_X5_placeIn : mwY yX5_placeIn cX5_placeIn 3 (some .int) 2 := ⟨kw_323, kw_52, by decide +kernel⟩
theorem yq_X5_take : mwY yX5_take cX5_take 5 none 2 := ⟨kw_319, kw_52, by decide +kernel⟩
theorem yq_X5_twin : mwY yX5_twin cX5_twin 2 (some (.object "SketchSpans$Sketch")) 0 := ⟨kw_183, kw_52, by decide +kernel⟩
theorem yq_X6_clear : mwY yX6_clear cX6_clear 4 (some .int) 1 := ⟨kw_204, kw_2, by decide +kernel⟩
theorem yq_X6_clearRow : mwY yX6_clearRow cX6_clearRow 2 none 1 := ⟨kw_214, kw_2, by decide +kernel⟩
theorem yq_X6_come : mwY yX6_come cX6_come 5 (some .int) 3 := ⟨kw_235, kw_2, by decide +kernel⟩
theorem yq_X6_copy : mwY yX6_copy cX6_copy 3 (some .int) 1 := ⟨kw_122, kw_2, by decide +kernel⟩
theorem yq_X6_copyRow : mwY yX6_copyRow cX6_copyRow 3 none 2 := ⟨kw_144, kw_2, by decide +kernel⟩
theorem yq_X6_count : mwY yX6_count cX6_count 1 (some .int) 0 := ⟨kw_653, kw_2, by decide +kernel⟩
theorem yq_X6_countNotZero : mwY yX6_countNotZero cX6_countNotZero 3 (some .int) 1 := ⟨kw_600, kw_2, by decide +kernel⟩
theorem yq_X6_distinct : mwY yX6_distinct cX6_distinct 3 (some .int) 1 := ⟨kw_535, kw_2, by decide +kernel⟩
theorem yq_X6_find : mwY yX6_find cX6_find 2 (some (.object "SketchSpans$Sketch")) 1 := ⟨kw_126, kw_2, by decide +kernel⟩
theorem yq_X6_has : mwY yX6_has cX6_has 4 (some .int) 2 := ⟨kw_513, kw_2, by decide +kernel⟩
theorem yq_X6_hash : mwY yX6_hash cX6_hash 4 (some .int) 3 := ⟨kw_429, kw_2, by decide +kernel⟩
theorem yq_X6_hashOf : mwY yX6_hashOf cX6_hashOf 3 (some .int) 3 := ⟨kw_266, kw_2, by decide +kernel⟩
theorem yq_X6_high : mwY yX6_high cX6_high 4 (some .int) 2 := ⟨kw_482, kw_2, by decide +kernel⟩
theorem yq_X6_init : mwY yX6_init cX6_init 1 none 0 := ⟨kw_8, kw_2, by decide +kernel⟩
theorem yq_X6_isKey : mwY yX6_isKey cX6_isKey 1 (some .boolean) 1 := ⟨kw_242, kw_2, by decide +kernel⟩
theorem yq_X6_isSeed : mwY yX6_isSeed cX6_isSeed 1 (some .boolean) 1 := ⟨kw_43, kw_2, by decide +kernel⟩
theorem yq_X6_isSize : mwY yX6_isSize cX6_isSize 2 (some .boolean) 2 := ⟨kw_38, kw_2, by decide +kernel⟩
theorem yq_X6_isSort : mwY yX6_isSort cX6_isSort 1 (some .boolean) 1 := ⟨kw_35, kw_2, by decide +kernel⟩
theorem yq_X6_keep : mwY yX6_keep cX6_keep 2 (some .int) 1 := ⟨kw_106, kw_2, by decide +kernel⟩
theorem yq_X6_kept : mwY yX6_kept cX6_kept 5 (some .int) 3 := ⟨kw_624, kw_2, by decide +kernel⟩
theorem yq_X6_low : mwY yX6_low cX6_low 4 (some .int) 2 := ⟨kw_437, kw_2, by decide +kernel⟩
theorem yq_X6_merge : mwY yX6_merge cX6_merge 5 (some .int) 2 := ⟨kw_378, kw_2, by decide +kernel⟩
theorem yq_X6_newSketch : mwY yX6_newSketch cX6_newSketch 3 (some (.object "SketchSpans$Sketch")) 3 := ⟨kw_46, kw_2, by decide +kernel⟩
theorem yq_X6_placeFor : mwY yX6_placeFor cX6_placeFor 4 (some .int) 3 := ⟨kw_272, kw_2, by decide +kernel⟩
theorem yq_X6_placeOf : mwY yX6_placeOf cX6_placeOf 4 (some .int) 4 := ⟨kw_263, kw_2, by decide +kernel⟩
theorem yq_X6_quantile : mwY yX6_quantile cX6_quantile 4 (some .int) 2 := ⟨kw_556, kw_2, by decide +kernel⟩
theorem yq_X6_sketch : mwY yX6_sketch cX6_sketch 4 (some .int) 3 := ⟨kw_32, kw_2, by decide +kernel⟩
theorem yq_X6_standsAt : mwY yX6_standsAt cX6_standsAt 4 (some .boolean) 4 := ⟨kw_274, kw_2, by decide +kernel⟩
theorem yq_X6_told : mwY yX6_told cX6_told 4 (some .int) 2 := ⟨kw_576, kw_2, by decide +kernel⟩
theorem yq_X7_add : mwY yX7_add cX7_add 5 none 3 := ⟨kw_351, kw_5, by decide +kernel⟩
theorem yq_X7_at : mwY yX7_at cX7_at 3 (some .int) 2 := ⟨kw_347, kw_5, by decide +kernel⟩
theorem yq_X7_cell : mwY yX7_cell cX7_cell 5 (some .int) 3 := ⟨kw_359, kw_5, by decide +kernel⟩
theorem yq_X7_clear : mwY yX7_clear cX7_clear 3 (some .int) 1 := ⟨kw_230, kw_5, by decide +kernel⟩
theorem yq_X7_come : mwY yX7_come cX7_come 6 (some .int) 3 := ⟨kw_327, kw_5, by decide +kernel⟩
theorem yq_X7_comeHeavy : mwY yX7_comeHeavy cX7_comeHeavy 7 none 3 := ⟨kw_335, kw_5, by decide +kernel⟩
theorem yq_X7_comeOnce : mwY yX7_comeOnce cX7_comeOnce 5 none 3 := ⟨kw_331, kw_5, by decide +kernel⟩
theorem yq_X7_copy : mwY yX7_copy cX7_copy 4 (some .int) 1 := ⟨kw_196, kw_5, by decide +kernel⟩
theorem yq_X7_count : mwY yX7_count cX7_count 1 (some .int) 0 := ⟨kw_657, kw_5, by decide +kernel⟩
theorem yq_X7_counterOf : mwY yX7_counterOf cX7_counterOf 4 (some .int) 2 := ⟨kw_339, kw_5, by decide +kernel⟩
theorem yq_X7_distinct : mwY yX7_distinct cX7_distinct 4 (some .int) 1 := ⟨kw_552, kw_5, by decide +kernel⟩
theorem yq_X7_empty : mwY yX7_empty cX7_empty 3 none 1 := ⟨kw_118, kw_5, by decide +kernel⟩
theorem yq_X7_has : mwY yX7_has cX7_has 6 (some .int) 2 := ⟨kw_531, kw_5, by decide +kernel⟩
theorem yq_X7_hash : mwY yX7_hash cX7_hash 4 (some .int) 3 := ⟨kw_433, kw_5, by decide +kernel⟩
theorem yq_X7_hashOf : mwY yX7_hashOf cX7_hashOf 3 (some .int) 3 := ⟨kw_362, kw_5, by decide +kernel⟩
theorem yq_X7_high : mwY yX7_high cX7_high 5 (some .int) 2 := ⟨kw_509, kw_5, by decide +kernel⟩
theorem yq_X7_in : mwY yX7_in cX7_in 3 (some .boolean) 3 := ⟨kw_114, kw_5, by decide +kernel⟩
theorem yq_X7_init : mwY yX7_init cX7_init 1 none 0 := ⟨kw_17, kw_5, by decide +kernel⟩
theorem yq_X7_isBad : mwY yX7_isBad cX7_isBad 4 (some .boolean) 3 := ⟨kw_470, kw_5, by decide +kernel⟩
theorem yq_X7_isOf : mwY yX7_isOf cX7_isOf 4 (some .boolean) 3 := ⟨kw_466, kw_5, by decide +kernel⟩
theorem yq_X7_joinHeavy : mwY yX7_joinHeavy cX7_joinHeavy 7 none 2 := ⟨kw_425, kw_5, by decide +kernel⟩
theorem yq_X7_keep : mwY yX7_keep cX7_keep 6 none 2 := ⟨kw_367, kw_5, by decide +kernel⟩
theorem yq_X7_kept : mwY yX7_kept cX7_kept 5 (some .int) 3 := ⟨kw_645, kw_5, by decide +kernel⟩
theorem yq_X7_keptOf : mwY yX7_keptOf cX7_keptOf 4 (some .int) 1 := ⟨kw_620, kw_5, by decide +kernel⟩
theorem yq_X7_keyAt : mwY yX7_keyAt cX7_keyAt 4 (some .int) 3 := ⟨kw_374, kw_5, by decide +kernel⟩
theorem yq_X7_lessen : mwY yX7_lessen cX7_lessen 6 none 2 := ⟨kw_355, kw_5, by decide +kernel⟩
theorem yq_X7_low : mwY yX7_low cX7_low 4 (some .int) 2 := ⟨kw_462, kw_5, by decide +kernel⟩
theorem yq_X7_many : mwY yX7_many cX7_many 2 (some .int) 1 := ⟨kw_343, kw_5, by decide +kernel⟩
theorem yq_X7_merge : mwY yX7_merge cX7_merge 6 (some .int) 2 := ⟨kw_421, kw_5, by decide +kernel⟩
theorem yq_X7_none : mwY yX7_none cX7_none 2 (some .boolean) 1 := ⟨kw_200, kw_5, by decide +kernel⟩
theorem yq_X7_nth : mwY yX7_nth cX7_nth 7 (some .int) 3 := ⟨kw_649, kw_5, by decide +kernel⟩
theorem yq_X7_numberOf : mwY yX7_numberOf cX7_numberOf 4 (some .int) 2 := ⟨kw_474, kw_5, by decide +kernel⟩
theorem yq_X7_put : mwY yX7_put cX7_put 9 none 4 := ⟨kw_370, kw_5, by decide +kernel⟩
theorem yq_X7_quantile : mwY yX7_quantile cX7_quantile 6 (some .int) 2 := ⟨kw_572, kw_5, by decide +kernel⟩
theorem yq_X7_sketch : mwY yX7_sketch cX7_sketch 5 (some .int) 3 := ⟨kw_110, kw_5, by decide +kernel⟩
theorem yq_X7_told : mwY yX7_told cX7_told 3 (some .int) 2 := ⟨kw_616, kw_5, by decide +kernel⟩
theorem yq_X7_weightTo : mwY yX7_weightTo cX7_weightTo 6 (some .int) 2 := ⟨kw_478, kw_5, by decide +kernel⟩
theorem dq_twin : ∀ (s : State) (args : Array Value), (∀ w ∈ TT, w.before args s = true) → (∀ w ∈ NT, va_Nw w s) → va_Decl s ⟨"SketchSpans$Sketch", "twin", "()LSketchSpans$Sketch;"⟩ := fun s args h1 h2 => va_Decl.abs (h2 _ kn_0)
theorem dq_forget : ∀ (s : State) (args : Array Value), (∀ w ∈ TT, w.before args s = true) → (∀ w ∈ NT, va_Nw w s) → va_Decl s ⟨"SketchSpans$Sketch", "forget", "()V"⟩ := fun s args h1 h2 => va_Decl.abs (h2 _ kn_7)
theorem dq_take : ∀ (s : State) (args : Array Value), (∀ w ∈ TT, w.before args s = true) → (∀ w ∈ NT, va_Nw w s) → va_Decl s ⟨"SketchSpans$Sketch", "take", "(II)V"⟩ := fun s args h1 h2 => va_Decl.abs (h2 _ kn_11)
theorem dq_join : ∀ (s : State) (args : Array Value), (∀ w ∈ TT, w.before args s = true) → (∀ w ∈ NT, va_Nw w s) → va_Decl s ⟨"SketchSpans$Sketch", "join", "(LSketchSpans$Sketch;)V"⟩ := fun s args h1 h2 => va_Decl.abs (h2 _ kn_19)
theorem dq_howManyKept : ∀ (s : State) (args : Array Value), (∀ w ∈ TT, w.before args s = true) → (∀ w ∈ NT, va_Nw w s) → va_Decl s ⟨"SketchSpans$Sketch", "howManyKept", "()I"⟩ := fun s args h1 h2 => va_Decl.abs (h2 _ kn_20)
theorem dq_keptAt : ∀ (s : State) (args : Array Value), (∀ w ∈ TT, w.before args s = true) → (∀ w ∈ NT, va_Nw w s) → va_Decl s ⟨"SketchSpans$Sketch", "keptAt", "(II)I"⟩ := fun s args h1 h2 => va_Decl.abs (h2 _ kn_23)
theorem dq_atLeast : ∀ (s : State) (args : Array Value), (∀ w ∈ TT, w.before args s = true) → (∀ w ∈ NT, va_Nw w s) → va_Decl s ⟨"SketchSpans$Sketch", "atLeast", "(I)I"⟩ := fun s args h1 h2 => va_Decl.of (h1 _ kw_441) (h1 _ kw_442)
theorem dq_atMost : ∀ (s : State) (args : Array Value), (∀ w ∈ TT, w.before args s = true) → (∀ w ∈ NT, va_Nw w s) → va_Decl s ⟨"SketchSpans$Sketch", "atMost", "(I)I"⟩ := fun s args h1 h2 => va_Decl.of (h1 _ kw_486) (h1 _ kw_487)
theorem dq_copyTotals : ∀ (s : State) (args : Array Value), (∀ w ∈ TT, w.before args s = true) → (∀ w ∈ NT, va_Nw w s) → va_Decl s ⟨"SketchSpans$Sketch", "copyTotals", "(LSketchSpans$Sketch;)V"⟩ := fun s args h1 h2 => va_Decl.of (h1 _ kw_141) (h1 _ kw_142)
theorem dq_differentKeys : ∀ (s : State) (args : Array Value), (∀ w ∈ TT, w.before args s = true) → (∀ w ∈ NT, va_Nw w s) → va_Decl s ⟨"SketchSpans$Sketch", "differentKeys", "()I"⟩ := fun s args h1 h2 => va_Decl.of (h1 _ kw_539) (h1 _ kw_540)
theorem dq_holds : ∀ (s : State) (args : Array Value), (∀ w ∈ TT, w.before args s = true) → (∀ w ∈ NT, va_Nw w s) → va_Decl s ⟨"SketchSpans$Sketch", "holds", "(I)I"⟩ := fun s args h1 h2 => va_Decl.of (h1 _ kw_522) (h1 _ kw_520)
theorem dq_isLike : ∀ (s : State) (args : Array Value), (∀ w ∈ TT, w.before args s = true) → (∀ w ∈ NT, va_Nw w s) → va_Decl s ⟨"SketchSpans$Sketch", "isLike", "(LSketchSpans$Sketch;)Z"⟩ := fun s args h1 h2 => va_Decl.of (h1 _ kw_382) (h1 _ kw_383)
theorem dq_keyAtRank : ∀ (s : State) (args : Array Value), (∀ w ∈ TT, w.before args s = true) → (∀ w ∈ NT, va_Nw w s) → va_Decl s ⟨"SketchSpans$Sketch", "keyAtRank", "(I)I"⟩ := fun s args h1 h2 => va_Decl.of (h1 _ kw_560) (h1 _ kw_561)
theorem dq_mayLack : ∀ (s : State) (args : Array Value), (∀ w ∈ TT, w.before args s = true) → (∀ w ∈ NT, va_Nw w s) → va_Decl s ⟨"SketchSpans$Sketch", "mayLack", "()I"⟩ := fun s args h1 h2 => va_Decl.of (h1 _ kw_583) (h1 _ kw_584)
theorem dq_mayTake : ∀ (s : State) (args : Array Value), (∀ w ∈ TT, w.before args s = true) → (∀ w ∈ NT, va_Nw w s) → va_Decl s ⟨"SketchSpans$Sketch", "mayTake", "(I)Z"⟩ := fun s args h1 h2 => va_Decl.of (h1 _ kw_246) (h1 _ kw_247)
abbrev rmL (k : Nat) : Room := { frames := k, cells := 0, slots := 0, locals := 40 * k }
abbrev rmA (k c s : Nat) : Room := { frames := k, cells := c, slots := s, locals := 40 * k }
end
section
/-! ===== plain words for what the methods answer ===== -/
/-- HASH j of KEY x by SEED s -/
def hsN (s j x : Nat) : Nat := ((1 + 31 * s + 977 * j) * (x + 1) + 4391 * j + 7 * s) % 65537
theorem hsN_lt (s j x : Nat) : hsN s j x < 65537 := Nat.mod_lt _ (by decide)
theorem hs_bd {s j x : Nat} (hs : s ≤ 999) (hj : j ≤ 3) (hx : x ≤ 9999) : (1 + 31 * s + 977 * j) * (x + 1) + 4391 * j + 7 * s < 400000000 := by
  have h1 : 1 + 31 * s + 977 * j ≤ 33901 := by omega
  have h2 : x + 1 ≤ 10000 := by omega
  have h3 := Nat.mul_le_mul h1 h2
  omega
/-- x is one of 0 .. n -/
def rg (n : Nat) (x : Int32) : Prop := ∃ a : Nat, a ≤ n ∧ x = nI a
theorem rg_lt {x : Int32} {n : Nat} (hn : n < 2147483647) (h : x < 0) : ¬ rg n x := by
  rintro ⟨a, ha, rfl⟩
  exact nI_pos (by omega) h
theorem rg_gt {x : Int32} {n : Nat} (hn : n < 2147483647) (h : nI n < x) : ¬ rg n x := by
  rintro ⟨a, ha, rfl⟩
  have := (nI_ltI (by omega) (by omega)).mp h
  omega
theorem rg_ge {x : Int32} {n : Nat} (hn : n < 2147483647) (h : nI (n + 1) ≤ x) : ¬ rg n x := by
  rintro ⟨a, ha, rfl⟩
  have := (nI_leI (by omega) (by omega)).mp h
  omega
theorem rg_in {x : Int32} {n : Nat} (hn : n < 2147483647) (h0 : ¬ x < 0) (h : ¬ nI n < x) : rg n x := by
  obtain ⟨a, ha, rfl⟩ := nI_of h0
  exact ⟨a, Nat.not_lt.mp fun q => h ((nI_ltI (by omega) (by omega)).mpr q), rfl⟩
theorem rg_in' {x : Int32} {n : Nat} (hn : n < 2147483647) (h0 : ¬ x < 0) (h : ¬ nI (n + 1) ≤ x) : rg n x := by
  obtain ⟨a, ha, rfl⟩ := nI_of h0
  refine ⟨a, Nat.not_lt.mp fun q => h ((nI_leI (by omega) (by omega)).mpr q), rfl⟩
/-- how many of the first n aren't 0 -/
def cnz (f : Nat → Int32) : Nat → Nat
  | 0 => 0
  | n + 1 => if f n = 0 then cnz f n else cnz f n + 1
theorem cnz_le (f : Nat → Int32) : ∀ n, cnz f n ≤ n
  | 0 => Nat.le_refl _
  | n + 1 => by
    have := cnz_le f n
    unfold cnz
    split <;> omega
theorem cnz_z {f : Nat → Int32} {n : Nat} (h : f n = 0) : cnz f (n + 1) = cnz f n := by simp [cnz, h]
theorem cnz_s {f : Nat → Int32} {n : Nat} (h : ¬ f n = 0) : cnz f (n + 1) = cnz f n + 1 := by simp [cnz, h]
/-- the first n of f, the rest of g -/
def cpy0 (f g : Nat → Int32) (n : Nat) : Nat → Int32 := fun i => if i < n then f i else g i
theorem cpy0_0 (f g : Nat → Int32) : cpy0 f g 0 = g := by funext i; simp [cpy0]
theorem cpy0_s (f g : Nat → Int32) (n : Nat) : upd (cpy0 f g n) n (f n) = cpy0 f g (n + 1) := by
  funext i
  unfold upd cpy0
  by_cases h : i = n
  · subst h; simp
  · by_cases h2 : i < n
    · simp [h, h2, Nat.lt_succ_of_lt h2]
    · have : ¬ i < n + 1 := by omega
      simp [h, h2, this]
/-- x is one of lo .. hi -/
def rp (lo hi : Nat) (x : Int32) : Prop := ∃ a : Nat, lo ≤ a ∧ a ≤ hi ∧ x = nI a
theorem rp_lt {x : Int32} {lo hi : Nat} (hn : lo < 2147483647 ∧ hi < 2147483647) (h : x < nI lo) : ¬ rp lo hi x := by
  rintro ⟨a, h1, h2, rfl⟩
  have := (nI_ltI (by omega) (by omega)).mp h
  omega
theorem rp_gt {x : Int32} {lo hi : Nat} (hn : lo < 2147483647 ∧ hi < 2147483647) (h : nI hi < x) : ¬ rp lo hi x := by
  rintro ⟨a, h1, h2, rfl⟩
  have := (nI_ltI (by omega) (by omega)).mp h
  omega
theorem rp_in {x : Int32} {lo hi : Nat} (hn : lo < 2147483647 ∧ hi < 2147483647) (h0 : ¬ x < nI lo) (h : ¬ nI hi < x) : rp lo hi x := by
  have hx : ¬ x < 0 := by
    intro q
    rw [Int32.lt_iff_toInt_lt, nI_toInt (by omega)] at h0
    rw [Int32.lt_iff_toInt_lt, Int32.toInt_zero] at q
    omega
  obtain ⟨a, ha, rfl⟩ := nI_of hx
  exact ⟨a, Nat.not_lt.mp fun q => h0 ((nI_ltI (by omega) (by omega)).mpr q), Nat.not_lt.mp fun q => h ((nI_ltI (by omega) (by omega)).mpr q), rfl⟩
/-- i is one of 0 .. n - 1 -/
def ixN (n : Nat) (i : Int32) : Prop := ∃ a : Nat, a < n ∧ i = nI a
theorem ix_of {i : Int32} {n : Nat} (hn : n < 2147483648) (h0 : ¬ i < 0) (h : ¬ nI n ≤ i) : ixN n i := by
  obtain ⟨a, ha, rfl⟩ := nI_of h0
  exact ⟨a, Nat.not_le.mp fun q => h ((nI_leI (by omega) (by omega)).mpr q), rfl⟩
theorem ix_lt {i : Int32} {n : Nat} (hn : n < 2147483648) (h : i < 0) : ¬ ixN n i := by
  rintro ⟨a, ha, rfl⟩
  exact nI_pos (by omega) h
theorem ix_ge {i : Int32} {n : Nat} (hn : n < 2147483648) (h : nI n ≤ i) : ¬ ixN n i := by
  rintro ⟨a, ha, rfl⟩
  have := (nI_leI (by omega) (by omega)).mp h
  omega
/-- FILTER: the BITS behind the first j of a KEY's four -/
def tkF (f : Nat → Int32) (sd x b : Nat) : Nat → Nat → Int32
  | 0 => f
  | j + 1 => upd (tkF f sd x b j) (hsN sd j x % b) (nI 1)
def hlF (f : Nat → Int32) (sd x b : Nat) : Nat → Int32
  | 0 => nI 1
  | j + 1 => hlF f sd x b j &&& f (hsN sd j x % b)
def jnO (f g : Nat → Int32) : Nat → Nat → Int32
  | 0 => f
  | i + 1 => upd (jnO f g i) i (jnO f g i i ||| g i)
/-- TABLE: the CELLS behind the first j rows -/
def tkT (f : Nat → Int32) (sd x c : Nat) (n : Int32) : Nat → Nat → Int32
  | 0 => f
  | j + 1 => upd (tkT f sd x c n j) (j * c + hsN sd j x % c) (tkT f sd x c n j (j * c + hsN sd j x % c) + n)
def mnT (f : Nat → Int32) (sd x c : Nat) : Nat → Int32
  | 0 => nI 10000000
  | j + 1 => if f (j * c + hsN sd j x % c) < mnT f sd x c j then f (j * c + hsN sd j x % c) else mnT f sd x c j
def jnA (f g : Nat → Int32) : Nat → Nat → Int32
  | 0 => f
  | i + 1 => upd (jnA f g i) i (jnA f g i i + g i)
/-- TABLE: a number that may come -/
def tkOk (x : Int32) : Prop := ¬ x < -1000 ∧ ¬ nI 1000 < x ∧ ¬ x = 0
theorem jc_le {j c : Nat} (h : j < 4) : j * c + c ≤ 4 * c := by
  have := Nat.mul_le_mul_right c (show j + 1 ≤ 4 by omega)
  rw [Nat.succ_mul] at this
  exact this
end
section
section MWR3
variable {X : mwX} {cc : ByteArray} {nL : Nat} {own : String} {D : va_G} {cI cS : ClassId} {rm : Room} {cells slots : Nat} {w : mwT} {lv : List (Nat × Value)} {st : List Value} {pc : Nat}
theorem mg_dup2 (C : mwC X cc nL own D cI cS rm) {va vb : Value} (hd : decode cc pc = .ok (.dup2, 1)) (ha : va.category = 1) (hb0 : vb.category = 1) (kk : mwG X cells slots w lv (va :: vb :: va :: vb :: st) (pc + 1)) : mwG X cells slots w lv (va :: vb :: st) pc := by
  obtain ⟨p, l, e, R, s, m, args, below, meth, c, D', A, Q, n⟩ := X
  obtain ⟨⟨hx, hb, hml, hown, hts⟩, hK, hA, rfl, rfl, rfl⟩ := C
  intro H locs ls hP hI hS hl
  exact lv_dup2_11 hx hb hd ha hb0 (kk H locs ls hP hI hS hl)
theorem mg_null (C : mwC X cc nL own D cI cS rm) (hd : decode cc pc = .ok (.aconst_null, 1)) (kk : mwG X cells slots w lv (.null :: st) (pc + 1)) : mwG X cells slots w lv st pc := by
  obtain ⟨p, l, e, R, s, m, args, below, meth, c, D', A, Q, n⟩ := X
  obtain ⟨⟨hx, hb, hml, hown, hts⟩, hK, hA, rfl, rfl, rfl⟩ := C
  intro H locs ls hP hI hS hl
  exact lv_null hx hb hd (kk H locs ls hP hI hS hl)
theorem mg_getS (C : mwC X cc nL own D cI cS rm) {ci idx a : Nat} {fs : List Value} (hci : ci < 5) (he : w a = some (.inr (ci, fs))) (k : Nat) (hk : k < 5) (hlink : Cond.fieldLink own idx "SketchSpans$Sketch" (TX0 k).2.1 (TX0 k).2.2.1 ∈ TT) {v : Value} (hv : fs[k]? = some v) (hd : decode cc pc = .ok (.getfield idx, 3)) (kk : mwG X cells slots w lv (v :: st) (pc + 3)) : mwG X cells slots w lv (.ref a :: st) pc := by
  rcases (show ci = 0 ∨ ci = 1 ∨ ci = 2 ∨ ci = 3 ∨ ci = 4 by omega) with rfl | rfl | rfl | rfl | rfl
  · rcases (show k = 0 ∨ k = 1 ∨ k = 2 ∨ k = 3 ∨ k = 4 by omega) with rfl | rfl | rfl | rfl | rfl <;> exact mg_get C inT0 he rfl _ (by decide) hlink (Or.inl rfl) hv hd kk
  · rcases (show k = 0 ∨ k = 1 ∨ k = 2 ∨ k = 3 ∨ k = 4 by omega) with rfl | rfl | rfl | rfl | rfl <;> exact mg_get C inT1 he rfl _ (by decide) hlink (Or.inl rfl) hv hd kk
  · rcases (show k = 0 ∨ k = 1 ∨ k = 2 ∨ k = 3 ∨ k = 4 by omega) with rfl | rfl | rfl | rfl | rfl <;> exact mg_get C inT2 he rfl _ (by decide) hlink (Or.inl rfl) hv hd kk
  · rcases (show k = 0 ∨ k = 1 ∨ k = 2 ∨ k = 3 ∨ k = 4 by omega) with rfl | rfl | rfl | rfl | rfl <;> exact mg_get C inT3 he rfl _ (by decide) hlink (Or.inl rfl) hv hd kk
  · rcases (show k = 0 ∨ k = 1 ∨ k = 2 ∨ k = 3 ∨ k = 4 by omega) with rfl | rfl | rfl | rfl | rfl <;> exact mg_get C inT5 he rfl _ (by decide) hlink (Or.inl rfl) hv hd kk
end MWR3
theorem df_X0 : ∀ j, j < 6 → defaultValue (tyX0 j) = vp_V [.int 0, .int 0, .int 0, .int 0, .int 0, .null] j := by
  intro j hj
  rcases (show j = 0 ∨ j = 1 ∨ j = 2 ∨ j = 3 ∨ j = 4 ∨ j = 5 by omega) with rfl | rfl | rfl | rfl | rfl | rfl <;> rfl
theorem df_X1 : ∀ j, j < 9 → defaultValue (tyX1 j) = vp_V [.int 0, .int 0, .int 0, .int 0, .int 0, .null, .null, .int 0, .int 0] j := by
  intro j hj
  rcases (show j = 0 ∨ j = 1 ∨ j = 2 ∨ j = 3 ∨ j = 4 ∨ j = 5 ∨ j = 6 ∨ j = 7 ∨ j = 8 by omega) with rfl | rfl | rfl | rfl | rfl | rfl | rfl | rfl | rfl <;> rfl
theorem df_X2 : ∀ j, j < 7 → defaultValue (tyX2 j) = vp_V [.int 0, .int 0, .int 0, .int 0, .int 0, .null, .int 0] j := by
  intro j hj
  rcases (show j = 0 ∨ j = 1 ∨ j = 2 ∨ j = 3 ∨ j = 4 ∨ j = 5 ∨ j = 6 by omega) with rfl | rfl | rfl | rfl | rfl | rfl | rfl <;> rfl
theorem df_X3 : ∀ j, j < 9 → defaultValue (tyX3 j) = vp_V [.int 0, .int 0, .int 0, .int 0, .int 0, .null, .null, .null, .int 0] j := by
  intro j hj
  rcases (show j = 0 ∨ j = 1 ∨ j = 2 ∨ j = 3 ∨ j = 4 ∨ j = 5 ∨ j = 6 ∨ j = 7 ∨ j = 8 by omega) with rfl | rfl | rfl | rfl | rfl | rfl | rfl | rfl | rfl <;> rfl
theorem df_X5 : ∀ j, j < 6 → defaultValue (tyX5 j) = vp_V [.int 0, .int 0, .int 0, .int 0, .int 0, .null] j := by
  intro j hj
  rcases (show j = 0 ∨ j = 1 ∨ j = 2 ∨ j = 3 ∨ j = 4 ∨ j = 5 by omega) with rfl | rfl | rfl | rfl | rfl | rfl <;> rfl
theorem df_X6 : ∀ j, j < 2 → defaultValue (tyX6 j) = vp_V [.null, .int 0] j := by
  intro j hj
  rcases (show j = 0 ∨ j = 1 by omega) with rfl | rfl <;> rfl
theorem df_X7 : ∀ j, j < 10 → defaultValue (tyX7 j) = vp_V [.int 0, .int 0, .null, .null, .null, .null, .null, .null, .null, .null] j := by
  intro j hj
  rcases (show j = 0 ∨ j = 1 ∨ j = 2 ∨ j = 3 ∨ j = 4 ∨ j = 5 ∨ j = 6 ∨ j = 7 ∨ j = 8 ∨ j = 9 by omega) with rfl | rfl | rfl | rfl | rfl | rfl | rfl | rfl | rfl | rfl <;> rfl
end
section
set_option maxHeartbeats 4000000 in
set_option maxRecDepth 20000 in
theorem c_X6_hashOf (D : va_G) (cI cS : ClassId) (w : mwT) (s j x : Nat) (hs : s ≤ 999) (hj : j ≤ 3) (hx : x ≤ 9999) : mMi yX6_hashOf cX6_hashOf 3 (some .int) (rmL 1) [.int (nI s), .int (nI j), .int (nI x)] D cI cS w (fun r w1 => r = nI (hsN s j x) ∧ w1 = w) := by
  refine mMi.of (by decide) (Nat.le_of_ble_eq_true rfl) ?_
  intro X C hN hR
  refine mg_sub (lv' := [(0, .int (nI s)), (1, .int (nI j)), (2, .int (nI x))]) [0, 1, 2] rfl ?_
  have hb := hs_bd hs hj hx
  refine mg_iconst C (v := nI 1) dX6_hashOf_0 (by decide) ?_
  refine mg_bipush C (v := nI 31) dX6_hashOf_1 (by decide) ?_
  refine mg_iload_n C dX6_hashOf_3 rfl ?_
  refine mg_imul C (z := nI (31 * s)) dX6_hashOf_4 (pk_mul _ _) ?_
  refine mg_iadd C (z := nI (1 + (31 * s))) dX6_hashOf_5 (nI_add _ _) ?_
  refine mg_sipush C (v := nI 977) dX6_hashOf_6 (by decide) ?_
  refine mg_iload_n C dX6_hashOf_9 rfl ?_
  refine mg_imul C (z := nI (977 * j)) dX6_hashOf_10 (pk_mul _ _) ?_
  refine mg_iadd C (z := nI ((1 + (31 * s)) + (977 * j))) dX6_hashOf_11 (nI_add _ _) ?_
  refine mg_iload_n C dX6_hashOf_12 rfl ?_
  refine mg_iconst C (v := nI 1) dX6_hashOf_13 (by decide) ?_
  refine mg_iadd C (z := nI (x + 1)) dX6_hashOf_14 (nI_add _ _) ?_
  refine mg_imul C (z := nI (((1 + (31 * s)) + (977 * j)) * (x + 1))) dX6_hashOf_15 (pk_mul _ _) ?_
  refine mg_sipush C (v := nI 4391) dX6_hashOf_16 (by decide) ?_
  refine mg_iload_n C dX6_hashOf_19 rfl ?_
  refine mg_imul C (z := nI (4391 * j)) dX6_hashOf_20 (pk_mul _ _) ?_
  refine mg_iadd C (z := nI ((((1 + (31 * s)) + (977 * j)) * (x + 1)) + (4391 * j))) dX6_hashOf_21 (nI_add _ _) ?_
  refine mg_bipush C (v := nI 7) dX6_hashOf_22 (by decide) ?_
  refine mg_iload_n C dX6_hashOf_24 rfl ?_
  refine mg_imul C (z := nI (7 * s)) dX6_hashOf_25 (pk_mul _ _) ?_
  refine mg_iadd C (z := nI (((((1 + (31 * s)) + (977 * j)) * (x + 1)) + (4391 * j)) + (7 * s))) dX6_hashOf_26 (nI_add _ _) ?_
  refine mg_ldc C (v := nI 65537) dX6_hashOf_27 kw_267 (by decide) ?_
  refine mg_irem C (z := nI ((((((1 + (31 * s)) + (977 * j)) * (x + 1)) + (4391 * j)) + (7 * s)) % 65537)) dX6_hashOf_29 (nI_ne0 (by omega) (by omega)) (pk_rem (by omega) (by omega) (by omega)) ?_
  exact hR _ _ _ _ dX6_hashOf_30 ⟨rfl, rfl⟩

set_option maxHeartbeats 4000000 in
set_option maxRecDepth 20000 in
theorem c_X6_placeOf (D : va_G) (cI cS : ClassId) (w : mwT) (s j x c : Nat) (hs : s ≤ 999) (hj : j ≤ 3) (hx : x ≤ 9999) (hc : 1 ≤ c) (hc2 : c < 1000) : mMi yX6_placeOf cX6_placeOf 4 (some .int) (rmL 2) [.int (nI s), .int (nI j), .int (nI x), .int (nI c)] D cI cS w (fun r w1 => r = nI (hsN s j x % c) ∧ w1 = w) := by
  refine mMi.of (by decide) (Nat.le_of_ble_eq_true rfl) ?_
  intro X C hN hR
  refine mg_sub (lv' := [(0, .int (nI s)), (1, .int (nI j)), (2, .int (nI x)), (3, .int (nI c))]) [0, 1, 2, 3] rfl ?_
  have hlt := hsN_lt s j x
  refine mg_iload_n C dX6_placeOf_0 rfl ?_
  refine mg_iconst C (v := nI 1) dX6_placeOf_1 (by decide) ?_
  refine mg_icmpN_ge C (tgt := 9) dX6_placeOf_2 (by decide) (by omega) (by omega) (fun c_2 => ?_) (fun c_2 => absurd c_2 (by omega))
  refine mg_iload_n C dX6_placeOf_9 rfl ?_
  refine mg_iload_n C dX6_placeOf_10 rfl ?_
  refine mg_iload_n C dX6_placeOf_11 rfl ?_
  refine mg_callS_i C (rest := []) (c_X6_hashOf D cI cS w s j x hs hj hx) yq_X6_hashOf kw_264 kw_265 ⟨by decide, by decide⟩ ⟨Nat.le_of_ble_eq_true rfl, Nat.le_of_ble_eq_true rfl⟩ (Nat.le_of_ble_eq_true rfl) rfl rfl dX6_placeOf_12 (fun r1 w2 ⟨e_r1, e_w2⟩ => ?_)
  rw [e_w2, e_r1]
  refine mg_iload_n C dX6_placeOf_15 rfl ?_
  refine mg_irem C (z := nI ((hsN s j x) % c)) dX6_placeOf_16 (nI_ne0 (by omega) (by omega)) (pk_rem (by omega) (by omega) (by omega)) ?_
  exact hR _ _ _ _ dX6_placeOf_17 ⟨rfl, rfl⟩

set_option maxHeartbeats 4000000 in
set_option maxRecDepth 20000 in
theorem c_X6_isSort (D : va_G) (cI cS : ClassId) (w : mwT) (x : Int32) : mMi yX6_isSort cX6_isSort 1 (some .boolean) (rmL 1) [.int x] D cI cS w (fun r w1 => ((r = nI 1 ∧ rg 4 x) ∨ (r = nI 0 ∧ ¬ rg 4 x)) ∧ w1 = w) := by
  refine mMz.of (by decide) (Nat.le_of_ble_eq_true rfl) ?_
  intro X C hN hR
  refine mg_sub (lv' := [(0, .int x)]) [0] rfl ?_
  refine mg_iload_n C dX6_isSort_0 rfl ?_
  refine mg_if_lt C (tgt := 13) dX6_isSort_1 (by decide) (fun c_1 => ?_) (fun c_1 => ?_)
  · refine mg_iconst C (v := nI 0) dX6_isSort_13 (by decide) ?_
    exact hR _ _ _ _ dX6_isSort_14 (Or.inl rfl) ⟨Or.inr ⟨rfl, rg_lt (by decide) c_1⟩, rfl⟩
  · refine mg_iload_n C dX6_isSort_4 rfl ?_
    refine mg_iconst C (v := nI 4) dX6_isSort_5 (by decide) ?_
    refine mg_icmp_gt C (tgt := 13) dX6_isSort_6 (by decide) (fun c_6 => ?_) (fun c_6 => ?_)
    · refine mg_iconst C (v := nI 0) dX6_isSort_13 (by decide) ?_
      exact hR _ _ _ _ dX6_isSort_14 (Or.inl rfl) ⟨Or.inr ⟨rfl, rg_gt (by decide) c_6⟩, rfl⟩
    · refine mg_iconst C (v := nI 1) dX6_isSort_9 (by decide) ?_
      refine mg_goto C (tgt := 14) dX6_isSort_10 (by decide) ?_
      exact hR _ _ _ _ dX6_isSort_14 (Or.inr rfl) ⟨Or.inl ⟨rfl, rg_in (by decide) c_1 c_6⟩, rfl⟩

set_option maxHeartbeats 4000000 in
set_option maxRecDepth 20000 in
theorem c_X6_isSeed (D : va_G) (cI cS : ClassId) (w : mwT) (x : Int32) : mMi yX6_isSeed cX6_isSeed 1 (some .boolean) (rmL 1) [.int x] D cI cS w (fun r w1 => ((r = nI 1 ∧ rg 999 x) ∨ (r = nI 0 ∧ ¬ rg 999 x)) ∧ w1 = w) := by
  refine mMz.of (by decide) (Nat.le_of_ble_eq_true rfl) ?_
  intro X C hN hR
  refine mg_sub (lv' := [(0, .int x)]) [0] rfl ?_
  refine mg_iload_n C dX6_isSeed_0 rfl ?_
  refine mg_if_lt C (tgt := 15) dX6_isSeed_1 (by decide) (fun c_1 => ?_) (fun c_1 => ?_)
  · refine mg_iconst C (v := nI 0) dX6_isSeed_15 (by decide) ?_
    exact hR _ _ _ _ dX6_isSeed_16 (Or.inl rfl) ⟨Or.inr ⟨rfl, rg_lt (by decide) c_1⟩, rfl⟩
  · refine mg_iload_n C dX6_isSeed_4 rfl ?_
    refine mg_sipush C (v := nI 1000) dX6_isSeed_5 (by decide) ?_
    refine mg_icmp_ge C (tgt := 15) dX6_isSeed_8 (by decide) (fun c_8 => ?_) (fun c_8 => ?_)
    · refine mg_iconst C (v := nI 0) dX6_isSeed_15 (by decide) ?_
      exact hR _ _ _ _ dX6_isSeed_16 (Or.inl rfl) ⟨Or.inr ⟨rfl, rg_ge (by decide) c_8⟩, rfl⟩
    · refine mg_iconst C (v := nI 1) dX6_isSeed_11 (by decide) ?_
      refine mg_goto C (tgt := 16) dX6_isSeed_12 (by decide) ?_
      exact hR _ _ _ _ dX6_isSeed_16 (Or.inr rfl) ⟨Or.inl ⟨rfl, rg_in' (by decide) c_1 c_8⟩, rfl⟩

set_option maxHeartbeats 4000000 in
set_option maxRecDepth 20000 in
theorem c_X6_isKey (D : va_G) (cI cS : ClassId) (w : mwT) (x : Int32) : mMi yX6_isKey cX6_isKey 1 (some .boolean) (rmL 1) [.int x] D cI cS w (fun r w1 => ((r = nI 1 ∧ rg 9999 x) ∨ (r = nI 0 ∧ ¬ rg 9999 x)) ∧ w1 = w) := by
  refine mMz.of (by decide) (Nat.le_of_ble_eq_true rfl) ?_
  intro X C hN hR
  refine mg_sub (lv' := [(0, .int x)]) [0] rfl ?_
  refine mg_iload_n C dX6_isKey_0 rfl ?_
  refine mg_if_lt C (tgt := 15) dX6_isKey_1 (by decide) (fun c_1 => ?_) (fun c_1 => ?_)
  · refine mg_iconst C (v := nI 0) dX6_isKey_15 (by decide) ?_
    exact hR _ _ _ _ dX6_isKey_16 (Or.inl rfl) ⟨Or.inr ⟨rfl, rg_lt (by decide) c_1⟩, rfl⟩
  · refine mg_iload_n C dX6_isKey_4 rfl ?_
    refine mg_sipush C (v := nI 10000) dX6_isKey_5 (by decide) ?_
    refine mg_icmp_ge C (tgt := 15) dX6_isKey_8 (by decide) (fun c_8 => ?_) (fun c_8 => ?_)
    · refine mg_iconst C (v := nI 0) dX6_isKey_15 (by decide) ?_
      exact hR _ _ _ _ dX6_isKey_16 (Or.inl rfl) ⟨Or.inr ⟨rfl, rg_ge (by decide) c_8⟩, rfl⟩
    · refine mg_iconst C (v := nI 1) dX6_isKey_11 (by decide) ?_
      refine mg_goto C (tgt := 16) dX6_isKey_12 (by decide) ?_
      exact hR _ _ _ _ dX6_isKey_16 (Or.inr rfl) ⟨Or.inl ⟨rfl, rg_in' (by decide) c_1 c_8⟩, rfl⟩

set_option maxHeartbeats 4000000 in
set_option maxRecDepth 20000 in
theorem c_X6_countNotZero (D : va_G) (cI cS : ClassId) (w : mwT) (a L : Nat) (f : Nat → Int32) (ha : w a = some (eI cI L f)) (hL : L < 100000) : mMi yX6_countNotZero cX6_countNotZero 3 (some .int) (rmL 1) [.ref a] D cI cS w (fun r w1 => r = nI (cnz f L) ∧ w1 = w) := by
  refine mMi.of (by decide) (Nat.le_of_ble_eq_true rfl) ?_
  intro X C hN hR
  refine mg_sub (lv' := [(0, .ref a)]) [0] rfl ?_
  refine mg_iconst C (v := nI 0) dX6_countNotZero_0 (by decide) ?_
  refine mg_istore_n C (lv' := [(1, .int (nI 0)), (0, .ref a)]) dX6_countNotZero_1 rfl (by decide) rfl ?_
  refine mg_iconst C (v := nI 0) dX6_countNotZero_2 (by decide) ?_
  refine mg_istore_n C (lv' := [(2, .int (nI 0)), (1, .int (nI 0)), (0, .ref a)]) dX6_countNotZero_3 rfl (by decide) rfl ?_
  have L4 : ∀ (M4 : Nat) (i : Nat), L - i < M4 → (i ≤ L) → mwG X 0 0 w [(0, .ref a), (1, .int (nI (cnz f i))), (2, .int (nI i))] [] 4 := by
    intro M4
    induction M4 with
    | zero => intro i hm4; exact absurd hm4 (Nat.not_lt_zero _)
    | succ M4 ih4 =>
      intro i hm4 hi
      refine mg_iload_n C dX6_countNotZero_4 rfl ?_
      refine mg_aload_n C dX6_countNotZero_5 rfl ?_
      refine mg_alen C ha dX6_countNotZero_6 ?_
      refine mg_icmpN_ge C (tgt := 25) dX6_countNotZero_7 (by decide) (by omega) (by omega) (fun c_7 => ?_) (fun c_7 => ?_)
      · obtain rfl : i = L := by omega
        refine mg_iload_n C dX6_countNotZero_25 rfl ?_
        exact hR _ _ _ _ dX6_countNotZero_26 ⟨rfl, rfl⟩
      · refine mg_aload_n C dX6_countNotZero_10 rfl ?_
        refine mg_iload_n C dX6_countNotZero_11 rfl ?_
        refine mg_ialdN C ha (by omega) (by omega) dX6_countNotZero_12 ?_
        refine mg_if_eq C (tgt := 19) dX6_countNotZero_13 (by decide) (fun c_13 => ?_) (fun c_13 => ?_)
        · rw [← cnz_z c_13]
          refine mg_iinc C (v := nI (i + 1)) (lv' := [(2, .int (nI (i + 1))), (0, .ref a), (1, .int (nI (cnz f (i + 1))))]) dX6_countNotZero_19 rfl (ni_inc _) (by decide) rfl ?_
          refine mg_goto C (tgt := 4) dX6_countNotZero_22 (by decide) ?_
          refine mg_sub (lv' := [(0, .ref a), (1, .int (nI (cnz f (i + 1)))), (2, .int (nI (i + 1)))]) [1, 2, 0] rfl ?_
          exact ih4 ((i + 1)) (by omega) (by omega)
        · have ec := cnz_s c_13
          refine mg_iinc C (v := nI (cnz f i + 1)) (lv' := [(1, .int (nI (cnz f i + 1))), (0, .ref a), (2, .int (nI i))]) dX6_countNotZero_16 rfl (ni_inc _) (by decide) rfl ?_
          rw [← ec]
          refine mg_iinc C (v := nI (i + 1)) (lv' := [(2, .int (nI (i + 1))), (1, .int (nI (cnz f (i + 1)))), (0, .ref a)]) dX6_countNotZero_19 rfl (ni_inc _) (by decide) rfl ?_
          refine mg_goto C (tgt := 4) dX6_countNotZero_22 (by decide) ?_
          refine mg_sub (lv' := [(0, .ref a), (1, .int (nI (cnz f (i + 1)))), (2, .int (nI (i + 1)))]) [2, 1, 0] rfl ?_
          exact ih4 ((i + 1)) (by omega) (by omega)
  refine mg_sub (lv' := [(0, .ref a), (1, .int (nI 0)), (2, .int (nI 0))]) [2, 1, 0] rfl ?_
  exact L4 (_ + 1) 0 (Nat.lt_succ_self _) (Nat.zero_le _)

set_option maxHeartbeats 4000000 in
set_option maxRecDepth 20000 in
theorem c_X6_placeFor (D : va_G) (cI cS : ClassId) (w : mwT) (v : Int32) (a h L : Nat) (f : Nat → Int32) (ha : w a = some (eI cI L f)) (hL : L < 100000) (hh : h < 100000) : mMi yX6_placeFor cX6_placeFor 4 (some .int) (rmL 1) [.int v, .ref a, .int (nI h)] D cI cS w (fun r w1 => (∃ p : Nat, r = nI p ∧ p ≤ h ∧ p ≤ L ∧ (∀ j, j < p → f j < v) ∧ (p < h → p < L → ¬ f p < v)) ∧ w1 = w) := by
  refine mMi.of (by decide) (Nat.le_of_ble_eq_true rfl) ?_
  intro X C hN hR
  refine mg_sub (lv' := [(0, .int v), (1, .ref a), (2, .int (nI h))]) [0, 1, 2] rfl ?_
  refine mg_iconst C (v := nI 0) dX6_placeFor_0 (by decide) ?_
  refine mg_istore_n C (lv' := [(3, .int (nI 0)), (0, .int v), (1, .ref a), (2, .int (nI h))]) dX6_placeFor_1 rfl (by decide) rfl ?_
  have L2 : ∀ (M2 : Nat) (i : Nat), L - i < M2 → (i ≤ h) → (i ≤ L) → (∀ j, j < i → f j < v) → mwG X 0 0 w [(0, .int v), (1, .ref a), (2, .int (nI h)), (3, .int (nI i))] [] 2 := by
    intro M2
    induction M2 with
    | zero => intro i hm2; exact absurd hm2 (Nat.not_lt_zero _)
    | succ M2 ih2 =>
      intro i hm2 hi hi2 hb
      refine mg_iload_n C dX6_placeFor_2 rfl ?_
      refine mg_iload_n C dX6_placeFor_3 rfl ?_
      refine mg_icmpN_ge C (tgt := 26) dX6_placeFor_4 (by decide) (by omega) (by omega) (fun c_4 => ?_) (fun c_4 => ?_)
      · refine mg_iload_n C dX6_placeFor_26 rfl ?_
        exact hR _ _ _ _ dX6_placeFor_27 ⟨⟨i, rfl, hi, hi2, hb, (fun q1 _ => absurd q1 (by omega))⟩, rfl⟩
      · refine mg_iload_n C dX6_placeFor_7 rfl ?_
        refine mg_aload_n C dX6_placeFor_8 rfl ?_
        refine mg_alen C ha dX6_placeFor_9 ?_
        refine mg_icmpN_ge C (tgt := 26) dX6_placeFor_10 (by decide) (by omega) (by omega) (fun c_10 => ?_) (fun c_10 => ?_)
        · refine mg_iload_n C dX6_placeFor_26 rfl ?_
          exact hR _ _ _ _ dX6_placeFor_27 ⟨⟨i, rfl, hi, hi2, hb, (fun _ q2 => absurd q2 (by omega))⟩, rfl⟩
        · refine mg_aload_n C dX6_placeFor_13 rfl ?_
          refine mg_iload_n C dX6_placeFor_14 rfl ?_
          refine mg_ialdN C ha (by omega) (by omega) dX6_placeFor_15 ?_
          refine mg_iload_n C dX6_placeFor_16 rfl ?_
          refine mg_icmp_ge C (tgt := 26) dX6_placeFor_17 (by decide) (fun c_17 => ?_) (fun c_17 => ?_)
          · refine mg_iload_n C dX6_placeFor_26 rfl ?_
            exact hR _ _ _ _ dX6_placeFor_27 ⟨⟨i, rfl, hi, hi2, hb, (fun _ _ => Int32.not_lt.mpr c_17)⟩, rfl⟩
          · refine mg_iinc C (v := nI (i + 1)) (lv' := [(3, .int (nI (i + 1))), (0, .int v), (1, .ref a), (2, .int (nI h))]) dX6_placeFor_20 rfl (ni_inc _) (by decide) rfl ?_
            refine mg_goto C (tgt := 2) dX6_placeFor_23 (by decide) ?_
            refine mg_sub (lv' := [(0, .int v), (1, .ref a), (2, .int (nI h)), (3, .int (nI (i + 1)))]) [1, 2, 3, 0] rfl ?_
            exact ih2 ((i + 1)) (by omega) (by omega) (by omega) (lt_s hb (Int32.not_le.mp c_17))
  refine mg_sub (lv' := [(0, .int v), (1, .ref a), (2, .int (nI h)), (3, .int (nI 0))]) [1, 2, 3, 0] rfl ?_
  exact L2 (_ + 1) 0 (Nat.lt_succ_self _) (Nat.zero_le _) (Nat.zero_le _) (fun j h => absurd h (Nat.not_lt_zero _))

set_option maxHeartbeats 4000000 in
set_option maxRecDepth 20000 in
theorem c_X6_standsAt (D : va_G) (cI cS : ClassId) (w : mwT) (p : Nat) (v : Int32) (a h L : Nat) (f : Nat → Int32) (ha : w a = some (eI cI L f)) (hL : L < 100000) (hh : h < 100000) (hp : p < 200000) : mMi yX6_standsAt cX6_standsAt 4 (some .boolean) (rmL 1) [.int (nI p), .int v, .ref a, .int (nI h)] D cI cS w (fun r w1 => ((r = nI 1 ∧ p < h ∧ p < L ∧ f p = v) ∨ (r = nI 0 ∧ ¬ (p < h ∧ p < L ∧ f p = v))) ∧ w1 = w) := by
  refine mMz.of (by decide) (Nat.le_of_ble_eq_true rfl) ?_
  intro X C hN hR
  refine mg_sub (lv' := [(0, .int (nI p)), (1, .int v), (2, .ref a), (3, .int (nI h))]) [0, 1, 2, 3] rfl ?_
  refine mg_iload_n C dX6_standsAt_0 rfl ?_
  refine mg_ifN_lt C (tgt := 26) dX6_standsAt_1 (by decide) (by omega) ?_
  refine mg_iload_n C dX6_standsAt_4 rfl ?_
  refine mg_iload_n C dX6_standsAt_5 rfl ?_
  refine mg_icmpN_ge C (tgt := 26) dX6_standsAt_6 (by decide) (by omega) (by omega) (fun c_6 => ?_) (fun c_6 => ?_)
  · refine mg_iconst C (v := nI 0) dX6_standsAt_26 (by decide) ?_
    exact hR _ _ _ _ dX6_standsAt_27 (Or.inl rfl) ⟨Or.inr ⟨rfl, fun q => absurd q.1 (by omega)⟩, rfl⟩
  · refine mg_iload_n C dX6_standsAt_9 rfl ?_
    refine mg_aload_n C dX6_standsAt_10 rfl ?_
    refine mg_alen C ha dX6_standsAt_11 ?_
    refine mg_icmpN_ge C (tgt := 26) dX6_standsAt_12 (by decide) (by omega) (by omega) (fun c_12 => ?_) (fun c_12 => ?_)
    · refine mg_iconst C (v := nI 0) dX6_standsAt_26 (by decide) ?_
      exact hR _ _ _ _ dX6_standsAt_27 (Or.inl rfl) ⟨Or.inr ⟨rfl, fun q => absurd q.2.1 (by omega)⟩, rfl⟩
    · refine mg_aload_n C dX6_standsAt_15 rfl ?_
      refine mg_iload_n C dX6_standsAt_16 rfl ?_
      refine mg_ialdN C ha (by omega) (by omega) dX6_standsAt_17 ?_
      refine mg_iload_n C dX6_standsAt_18 rfl ?_
      refine mg_icmp_ne C (tgt := 26) dX6_standsAt_19 (by decide) (fun c_19 => ?_) (fun c_19 => ?_)
      · refine mg_iconst C (v := nI 0) dX6_standsAt_26 (by decide) ?_
        exact hR _ _ _ _ dX6_standsAt_27 (Or.inl rfl) ⟨Or.inr ⟨rfl, fun q => c_19 q.2.2⟩, rfl⟩
      · refine mg_iconst C (v := nI 1) dX6_standsAt_22 (by decide) ?_
        refine mg_goto C (tgt := 27) dX6_standsAt_23 (by decide) ?_
        exact hR _ _ _ _ dX6_standsAt_27 (Or.inr rfl) ⟨Or.inl ⟨rfl, by omega, by omega, c_19⟩, rfl⟩

set_option maxHeartbeats 4000000 in
set_option maxRecDepth 20000 in
theorem c_X6_clearRow (D : va_G) (cI cS : ClassId) (w : mwT) (a L : Nat) (f : Nat → Int32) (ha : w a = some (eI cI L f)) (hL : L < 100000) : mMv yX6_clearRow cX6_clearRow 2 none (rmL 1) [.ref a] D cI cS w (fun w1 => w1 a = some (eI cI L (cpy0 (fun _ => 0) f L)) ∧ ∀ b : Nat, b ≠ a → w1 b = w b) := by
  refine mMv.of (by decide) (Nat.le_of_ble_eq_true rfl) ?_
  intro X C hN hR
  have fr_w : ∀ zz : Nat, w zz = w zz := fun _ => rfl
  refine mg_sub (lv' := [(0, .ref a)]) [0] rfl ?_
  refine mg_iconst C (v := nI 0) dX6_clearRow_0 (by decide) ?_
  refine mg_istore_n C (lv' := [(1, .int (nI 0)), (0, .ref a)]) dX6_clearRow_1 rfl (by decide) rfl ?_
  have h9 : w a = some (eI cI L (cpy0 (fun _ => 0) f 0)) := by rw [ha, cpy0_0]
  have L2 : ∀ (M2 : Nat) (i : Nat), L - i < M2 → (i ≤ L) → ∀ (w1 : mwT), w1 a = some (eI cI L (cpy0 (fun _ => 0) f i)) → (∀ zz : Nat, zz ≠ a → w1 zz = w zz) → mwG X 0 0 w1 [(0, .ref a), (1, .int (nI i))] [] 2 := by
    intro M2
    induction M2 with
    | zero => intro i hm2; exact absurd hm2 (Nat.not_lt_zero _)
    | succ M2 ih2 =>
      intro i hm2 hi w1 h_w1_a fr_w1
      refine mg_iload_n C dX6_clearRow_2 rfl ?_
      refine mg_aload_n C dX6_clearRow_3 rfl ?_
      refine mg_alen C h_w1_a dX6_clearRow_4 ?_
      refine mg_icmpN_ge C (tgt := 18) dX6_clearRow_5 (by decide) (by omega) (by omega) (fun c_5 => ?_) (fun c_5 => ?_)
      · obtain rfl : i = L := by omega
        exact hR _ _ _ dX6_clearRow_18 ⟨h_w1_a, fr_w1⟩
      · refine mg_aload_n C dX6_clearRow_8 rfl ?_
        refine mg_iload_n C dX6_clearRow_9 rfl ?_
        refine mg_iconst C (v := nI 0) dX6_clearRow_10 (by decide) ?_
        refine mg_iastN C h_w1_a (by omega) (by omega) dX6_clearRow_11 (fun w2 e_w2 => ?_)
        have h_w2_a : w2 a = some (eI cI L (upd (cpy0 (fun _ => 0) f i) i (nI 0))) := (congrFun e_w2 _).trans mwu_eq
        have fr_w2 : ∀ zz : Nat, zz ≠ a → w2 zz = w zz := fun zz g0 => (congrFun e_w2 zz).trans ((mwu_ne g0).trans (fr_w1 zz g0))
        refine mg_iinc C (v := nI (i + 1)) (lv' := [(1, .int (nI (i + 1))), (0, .ref a)]) dX6_clearRow_12 rfl (ni_inc _) (by decide) rfl ?_
        refine mg_goto C (tgt := 2) dX6_clearRow_15 (by decide) ?_
        have h9 : w2 a = some (eI cI L (cpy0 (fun _ => 0) f (i + 1))) := by rw [h_w2_a]; exact congrArg (fun q => some (eI cI L q)) (cpy0_s (fun _ => 0) f i)
        refine mg_sub (lv' := [(0, .ref a), (1, .int (nI (i + 1)))]) [1, 0] rfl ?_
        exact ih2 ((i + 1)) (by omega) (by omega) w2 h9 (fun zz g0 => fr_w2 zz g0)
  refine mg_sub (lv' := [(0, .ref a), (1, .int (nI 0))]) [1, 0] rfl ?_
  exact L2 (_ + 1) 0 (Nat.lt_succ_self _) (Nat.zero_le _) w h9 (fun zz g0 => fr_w zz )

set_option maxHeartbeats 4000000 in
set_option maxRecDepth 20000 in
theorem c_X6_copyRow (D : va_G) (cI cS : ClassId) (w : mwT) (a b L : Nat) (f g : Nat → Int32) (ha : w a = some (eI cI L f)) (hb : w b = some (eI cI L g)) (hL : L < 100000) (hne : a ≠ b) : mMv yX6_copyRow cX6_copyRow 3 none (rmL 1) [.ref a, .ref b] D cI cS w (fun w1 => w1 b = some (eI cI L (cpy0 f g L)) ∧ ∀ c : Nat, c ≠ b → w1 c = w c) := by
  refine mMv.of (by decide) (Nat.le_of_ble_eq_true rfl) ?_
  intro X C hN hR
  have fr_w : ∀ zz : Nat, w zz = w zz := fun _ => rfl
  refine mg_sub (lv' := [(0, .ref a), (1, .ref b)]) [0, 1] rfl ?_
  refine mg_iconst C (v := nI 0) dX6_copyRow_0 (by decide) ?_
  refine mg_istore_n C (lv' := [(2, .int (nI 0)), (0, .ref a), (1, .ref b)]) dX6_copyRow_1 rfl (by decide) rfl ?_
  have h9 : w b = some (eI cI L (cpy0 f g 0)) := by rw [hb, cpy0_0]
  have L2 : ∀ (M2 : Nat) (i : Nat), L - i < M2 → (i ≤ L) → ∀ (w1 : mwT), w1 a = some (eI cI L f) → w1 b = some (eI cI L (cpy0 f g i)) → (∀ zz : Nat, zz ≠ b → w1 zz = w zz) → mwG X 0 0 w1 [(0, .ref a), (1, .ref b), (2, .int (nI i))] [] 2 := by
    intro M2
    induction M2 with
    | zero => intro i hm2; exact absurd hm2 (Nat.not_lt_zero _)
    | succ M2 ih2 =>
      intro i hm2 hi w1 h_w1_a h_w1_b fr_w1
      refine mg_iload_n C dX6_copyRow_2 rfl ?_
      refine mg_aload_n C dX6_copyRow_3 rfl ?_
      refine mg_alen C h_w1_a dX6_copyRow_4 ?_
      refine mg_icmpN_ge C (tgt := 26) dX6_copyRow_5 (by decide) (by omega) (by omega) (fun c_5 => ?_) (fun c_5 => ?_)
      · obtain rfl : i = L := by omega
        exact hR _ _ _ dX6_copyRow_26 ⟨h_w1_b, fr_w1⟩
      · refine mg_iload_n C dX6_copyRow_8 rfl ?_
        refine mg_aload_n C dX6_copyRow_9 rfl ?_
        refine mg_alen C h_w1_b dX6_copyRow_10 ?_
        refine mg_icmpN_ge C (tgt := 26) dX6_copyRow_11 (by decide) (by omega) (by omega) (fun c_11 => ?_) (fun c_11 => ?_)
        · obtain rfl : i = L := by omega
          exact hR _ _ _ dX6_copyRow_26 ⟨h_w1_b, fr_w1⟩
        · refine mg_aload_n C dX6_copyRow_14 rfl ?_
          refine mg_iload_n C dX6_copyRow_15 rfl ?_
          refine mg_aload_n C dX6_copyRow_16 rfl ?_
          refine mg_iload_n C dX6_copyRow_17 rfl ?_
          refine mg_ialdN C h_w1_a (by omega) (by omega) dX6_copyRow_18 ?_
          refine mg_iastN C h_w1_b (by omega) (by omega) dX6_copyRow_19 (fun w2 e_w2 => ?_)
          have h_w2_a : w2 a = some (eI cI L f) := (congrFun e_w2 _).trans ((mwu_ne hne).trans h_w1_a)
          have h_w2_b : w2 b = some (eI cI L (upd (cpy0 f g i) i (f i))) := (congrFun e_w2 _).trans mwu_eq
          have fr_w2 : ∀ zz : Nat, zz ≠ b → w2 zz = w zz := fun zz g0 => (congrFun e_w2 zz).trans ((mwu_ne g0).trans (fr_w1 zz g0))
          refine mg_iinc C (v := nI (i + 1)) (lv' := [(2, .int (nI (i + 1))), (0, .ref a), (1, .ref b)]) dX6_copyRow_20 rfl (ni_inc _) (by decide) rfl ?_
          refine mg_goto C (tgt := 2) dX6_copyRow_23 (by decide) ?_
          have h9 : w2 b = some (eI cI L (cpy0 f g (i + 1))) := by rw [h_w2_b]; exact congrArg (fun q => some (eI cI L q)) (cpy0_s f g i)
          refine mg_sub (lv' := [(0, .ref a), (1, .ref b), (2, .int (nI (i + 1)))]) [1, 2, 0] rfl ?_
          exact ih2 ((i + 1)) (by omega) (by omega) w2 h_w2_a h9 (fun zz g0 => fr_w2 zz g0)
  refine mg_sub (lv' := [(0, .ref a), (1, .ref b), (2, .int (nI 0))]) [1, 2, 0] rfl ?_
  exact L2 (_ + 1) 0 (Nat.lt_succ_self _) (Nat.zero_le _) w ha h9 (fun zz g0 => fr_w zz )
end
section
set_option maxHeartbeats 4000000 in
set_option maxRecDepth 20000 in
theorem c_X4_mayLack (D : va_G) (cI cS : ClassId) (w : mwT) (h0 : Nat) : mMi yX4_mayLack cX4_mayLack 1 (some .int) (rmL 1) [.ref h0] D cI cS w (fun r w1 => r = nI 0 ∧ w1 = w) := by
  refine mMi.of (by decide) (Nat.le_of_ble_eq_true rfl) ?_
  intro X C hN hR
  refine mg_sub (lv' := [(0, .ref h0)]) [0] rfl ?_
  refine mg_iconst C (v := nI 0) dX4_mayLack_0 (by decide) ?_
  exact hR _ _ _ _ dX4_mayLack_1 ⟨rfl, rfl⟩

set_option maxHeartbeats 4000000 in
set_option maxRecDepth 20000 in
theorem c_X4_atLeast (D : va_G) (cI cS : ClassId) (w : mwT) (h0 : Nat) (x : Int32) : mMi yX4_atLeast cX4_atLeast 2 (some .int) (rmL 1) [.ref h0, .int x] D cI cS w (fun r w1 => r = -1 ∧ w1 = w) := by
  refine mMi.of (by decide) (Nat.le_of_ble_eq_true rfl) ?_
  intro X C hN hR
  refine mg_sub (lv' := [(0, .ref h0), (1, .int x)]) [0, 1] rfl ?_
  refine mg_iconst C (v := (-1 : Int32)) dX4_atLeast_0 (by decide) ?_
  exact hR _ _ _ _ dX4_atLeast_1 ⟨rfl, rfl⟩

set_option maxHeartbeats 4000000 in
set_option maxRecDepth 20000 in
theorem c_X4_atMost (D : va_G) (cI cS : ClassId) (w : mwT) (h0 : Nat) (x : Int32) : mMi yX4_atMost cX4_atMost 2 (some .int) (rmL 1) [.ref h0, .int x] D cI cS w (fun r w1 => r = -1 ∧ w1 = w) := by
  refine mMi.of (by decide) (Nat.le_of_ble_eq_true rfl) ?_
  intro X C hN hR
  refine mg_sub (lv' := [(0, .ref h0), (1, .int x)]) [0, 1] rfl ?_
  refine mg_iconst C (v := (-1 : Int32)) dX4_atMost_0 (by decide) ?_
  exact hR _ _ _ _ dX4_atMost_1 ⟨rfl, rfl⟩

set_option maxHeartbeats 4000000 in
set_option maxRecDepth 20000 in
theorem c_X4_holds (D : va_G) (cI cS : ClassId) (w : mwT) (h0 : Nat) (x : Int32) : mMi yX4_holds cX4_holds 2 (some .int) (rmL 1) [.ref h0, .int x] D cI cS w (fun r w1 => r = -1 ∧ w1 = w) := by
  refine mMi.of (by decide) (Nat.le_of_ble_eq_true rfl) ?_
  intro X C hN hR
  refine mg_sub (lv' := [(0, .ref h0), (1, .int x)]) [0, 1] rfl ?_
  refine mg_iconst C (v := (-1 : Int32)) dX4_holds_0 (by decide) ?_
  exact hR _ _ _ _ dX4_holds_1 ⟨rfl, rfl⟩

set_option maxHeartbeats 4000000 in
set_option maxRecDepth 20000 in
theorem c_X4_differentKeys (D : va_G) (cI cS : ClassId) (w : mwT) (h0 : Nat) : mMi yX4_differentKeys cX4_differentKeys 1 (some .int) (rmL 1) [.ref h0] D cI cS w (fun r w1 => r = -1 ∧ w1 = w) := by
  refine mMi.of (by decide) (Nat.le_of_ble_eq_true rfl) ?_
  intro X C hN hR
  refine mg_sub (lv' := [(0, .ref h0)]) [0] rfl ?_
  refine mg_iconst C (v := (-1 : Int32)) dX4_differentKeys_0 (by decide) ?_
  exact hR _ _ _ _ dX4_differentKeys_1 ⟨rfl, rfl⟩

set_option maxHeartbeats 4000000 in
set_option maxRecDepth 20000 in
theorem c_X4_keyAtRank (D : va_G) (cI cS : ClassId) (w : mwT) (h0 : Nat) (x : Int32) : mMi yX4_keyAtRank cX4_keyAtRank 2 (some .int) (rmL 1) [.ref h0, .int x] D cI cS w (fun r w1 => r = -1 ∧ w1 = w) := by
  refine mMi.of (by decide) (Nat.le_of_ble_eq_true rfl) ?_
  intro X C hN hR
  refine mg_sub (lv' := [(0, .ref h0), (1, .int x)]) [0, 1] rfl ?_
  refine mg_iconst C (v := (-1 : Int32)) dX4_keyAtRank_0 (by decide) ?_
  exact hR _ _ _ _ dX4_keyAtRank_1 ⟨rfl, rfl⟩

set_option maxHeartbeats 4000000 in
set_option maxRecDepth 20000 in
theorem c_X4_mayTake (D : va_G) (cI cS : ClassId) (w : mwT) (h0 : Nat) (x : Int32) : mMi yX4_mayTake cX4_mayTake 2 (some .boolean) (rmL 1) [.ref h0, .int x] D cI cS w (fun r w1 => ((r = nI 1 ∧ rp 1 1000 x) ∨ (r = nI 0 ∧ ¬ rp 1 1000 x)) ∧ w1 = w) := by
  refine mMz.of (by decide) (Nat.le_of_ble_eq_true rfl) ?_
  intro X C hN hR
  refine mg_sub (lv' := [(0, .ref h0), (1, .int x)]) [0, 1] rfl ?_
  refine mg_iload_n C dX4_mayTake_0 rfl ?_
  refine mg_iconst C (v := nI 1) dX4_mayTake_1 (by decide) ?_
  refine mg_icmp_lt C (tgt := 16) dX4_mayTake_2 (by decide) (fun c_2 => ?_) (fun c_2 => ?_)
  · refine mg_iconst C (v := nI 0) dX4_mayTake_16 (by decide) ?_
    exact hR _ _ _ _ dX4_mayTake_17 (Or.inl rfl) ⟨Or.inr ⟨rfl, rp_lt (by decide) c_2⟩, rfl⟩
  · refine mg_iload_n C dX4_mayTake_5 rfl ?_
    refine mg_sipush C (v := nI 1000) dX4_mayTake_6 (by decide) ?_
    refine mg_icmp_gt C (tgt := 16) dX4_mayTake_9 (by decide) (fun c_9 => ?_) (fun c_9 => ?_)
    · refine mg_iconst C (v := nI 0) dX4_mayTake_16 (by decide) ?_
      exact hR _ _ _ _ dX4_mayTake_17 (Or.inl rfl) ⟨Or.inr ⟨rfl, rp_gt (by decide) c_9⟩, rfl⟩
    · refine mg_iconst C (v := nI 1) dX4_mayTake_12 (by decide) ?_
      refine mg_goto C (tgt := 17) dX4_mayTake_13 (by decide) ?_
      exact hR _ _ _ _ dX4_mayTake_17 (Or.inr rfl) ⟨Or.inl ⟨rfl, rp_in (by decide) c_2 c_9⟩, rfl⟩

set_option maxHeartbeats 4000000 in
set_option maxRecDepth 20000 in
theorem c_X4_isLike (D : va_G) (cI cS : ClassId) (w : mwT) (ca cb h0 h1 : Nat) (soA siA seA soB siB seB : Int32) (fa fb : List Value) (ha : w h0 = some (.inr (ca, .int soA :: .int siA :: .int seA :: fa))) (hb : w h1 = some (.inr (cb, .int soB :: .int siB :: .int seB :: fb))) (hca : ca < 5) (hcb : cb < 5) : mMi yX4_isLike cX4_isLike 2 (some .boolean) (rmL 1) [.ref h0, .ref h1] D cI cS w (fun r w1 => ((r = nI 1 ∧ soA = soB ∧ siA = siB ∧ seA = seB) ∨ (r = nI 0 ∧ ¬ (soA = soB ∧ siA = siB ∧ seA = seB))) ∧ w1 = w) := by
  refine mMz.of (by decide) (Nat.le_of_ble_eq_true rfl) ?_
  intro X C hN hR
  refine mg_sub (lv' := [(0, .ref h0), (1, .ref h1)]) [0, 1] rfl ?_
  refine mg_aload_n C dX4_isLike_0 rfl ?_
  refine mg_ifnull C dX4_isLike_1 ?_
  refine mg_aload_n C dX4_isLike_4 rfl ?_
  refine mg_getS C hca ha 0 (by decide) kw_74 rfl dX4_isLike_5 ?_
  refine mg_aload_n C dX4_isLike_8 rfl ?_
  refine mg_getS C hcb hb 0 (by decide) kw_74 rfl dX4_isLike_9 ?_
  refine mg_icmp_ne C (tgt := 41) dX4_isLike_12 (by decide) (fun c_12 => ?_) (fun c_12 => ?_)
  · refine mg_iconst C (v := nI 0) dX4_isLike_41 (by decide) ?_
    exact hR _ _ _ _ dX4_isLike_42 (Or.inl rfl) ⟨Or.inr ⟨rfl, fun q => c_12 q.1⟩, rfl⟩
  · refine mg_aload_n C dX4_isLike_15 rfl ?_
    refine mg_getS C hca ha 1 (by decide) kw_75 rfl dX4_isLike_16 ?_
    refine mg_aload_n C dX4_isLike_19 rfl ?_
    refine mg_getS C hcb hb 1 (by decide) kw_75 rfl dX4_isLike_20 ?_
    refine mg_icmp_ne C (tgt := 41) dX4_isLike_23 (by decide) (fun c_23 => ?_) (fun c_23 => ?_)
    · refine mg_iconst C (v := nI 0) dX4_isLike_41 (by decide) ?_
      exact hR _ _ _ _ dX4_isLike_42 (Or.inl rfl) ⟨Or.inr ⟨rfl, fun q => c_23 q.2.1⟩, rfl⟩
    · refine mg_aload_n C dX4_isLike_26 rfl ?_
      refine mg_getS C hca ha 2 (by decide) kw_76 rfl dX4_isLike_27 ?_
      refine mg_aload_n C dX4_isLike_30 rfl ?_
      refine mg_getS C hcb hb 2 (by decide) kw_76 rfl dX4_isLike_31 ?_
      refine mg_icmp_ne C (tgt := 41) dX4_isLike_34 (by decide) (fun c_34 => ?_) (fun c_34 => ?_)
      · refine mg_iconst C (v := nI 0) dX4_isLike_41 (by decide) ?_
        exact hR _ _ _ _ dX4_isLike_42 (Or.inl rfl) ⟨Or.inr ⟨rfl, fun q => c_34 q.2.2⟩, rfl⟩
      · refine mg_iconst C (v := nI 1) dX4_isLike_37 (by decide) ?_
        refine mg_goto C (tgt := 42) dX4_isLike_38 (by decide) ?_
        exact hR _ _ _ _ dX4_isLike_42 (Or.inr rfl) ⟨Or.inl ⟨rfl, c_12, c_23, c_34⟩, rfl⟩

set_option maxHeartbeats 4000000 in
set_option maxRecDepth 20000 in
theorem c_X4_init_F (D : va_G) (cI cS : ClassId) (w : mwT) (h0 so si se : Nat) (ha : w h0 = some (.inr (0, [.int 0, .int 0, .int 0, .int 0, .int 0, .null]))) : mMv yX4_init cX4_init 4 none (rmL 1) [.ref h0, .int (nI so), .int (nI si), .int (nI se)] D cI cS w (fun w1 => w1 h0 = some (.inr (0, [.int (nI so), .int (nI si), .int (nI se), .int (nI 0), .int (nI 0), .null])) ∧ ∀ b : Nat, b ≠ h0 → w1 b = w b) := by
  refine mMv.of (by decide) (Nat.le_of_ble_eq_true rfl) ?_
  intro X C hN hR
  have fr_w : ∀ zz : Nat, w zz = w zz := fun _ => rfl
  refine mg_sub (lv' := [(0, .ref h0), (1, .int (nI so)), (2, .int (nI si)), (3, .int (nI se))]) [0, 1, 2, 3] rfl ?_
  refine mg_aload_n C dX4_init_0 rfl ?_
  refine mg_objInit C kw_73 ⟨Nat.le_of_ble_eq_true rfl, Nat.le_of_ble_eq_true rfl⟩ dX4_init_1 ?_
  refine mg_aload_n C dX4_init_4 rfl ?_
  refine mg_iload_n C dX4_init_5 rfl ?_
  refine mg_putF C (fs' := [.int (nI so), .int 0, .int 0, .int 0, .int 0, .null]) inT0 ha rfl 0 (by decide) kw_74 (Or.inl rfl) tyX0_ok nmX0 rfl hN rfl rfl rfl rfl (Nat.le_of_ble_eq_true rfl) dX4_init_6 (fun w1 e_w1 => ?_)
  have h_w1_h0 : w1 h0 = some (.inr (0, [.int (nI so), .int 0, .int 0, .int 0, .int 0, .null])) := (congrFun e_w1 _).trans mwu_eq
  have fr_w1 : ∀ zz : Nat, zz ≠ h0 → w1 zz = w zz := fun zz g0 => (congrFun e_w1 zz).trans ((mwu_ne g0).trans (fr_w zz ))
  refine mg_aload_n C dX4_init_9 rfl ?_
  refine mg_iload_n C dX4_init_10 rfl ?_
  refine mg_putF C (fs' := [.int (nI so), .int (nI si), .int 0, .int 0, .int 0, .null]) inT0 h_w1_h0 rfl 1 (by decide) kw_75 (Or.inl rfl) tyX0_ok nmX0 rfl hN rfl rfl rfl rfl (Nat.le_of_ble_eq_true rfl) dX4_init_11 (fun w2 e_w2 => ?_)
  have h_w2_h0 : w2 h0 = some (.inr (0, [.int (nI so), .int (nI si), .int 0, .int 0, .int 0, .null])) := (congrFun e_w2 _).trans mwu_eq
  have fr_w2 : ∀ zz : Nat, zz ≠ h0 → w2 zz = w zz := fun zz g0 => (congrFun e_w2 zz).trans ((mwu_ne g0).trans (fr_w1 zz g0))
  refine mg_aload_n C dX4_init_14 rfl ?_
  refine mg_iload_n C dX4_init_15 rfl ?_
  refine mg_putF C (fs' := [.int (nI so), .int (nI si), .int (nI se), .int 0, .int 0, .null]) inT0 h_w2_h0 rfl 2 (by decide) kw_76 (Or.inl rfl) tyX0_ok nmX0 rfl hN rfl rfl rfl rfl (Nat.le_of_ble_eq_true rfl) dX4_init_16 (fun w3 e_w3 => ?_)
  have h_w3_h0 : w3 h0 = some (.inr (0, [.int (nI so), .int (nI si), .int (nI se), .int 0, .int 0, .null])) := (congrFun e_w3 _).trans mwu_eq
  have fr_w3 : ∀ zz : Nat, zz ≠ h0 → w3 zz = w zz := fun zz g0 => (congrFun e_w3 zz).trans ((mwu_ne g0).trans (fr_w2 zz g0))
  refine mg_aload_n C dX4_init_19 rfl ?_
  refine mg_iconst C (v := nI 0) dX4_init_20 (by decide) ?_
  refine mg_put C (fs' := [.int (nI so), .int (nI si), .int (nI se), .int (nI 0), .int 0, .null]) inT0 h_w3_h0 rfl 3 (by decide) kw_77 (Or.inl rfl) tyX0_ok nmX0 rfl rfl rfl rfl (Nat.le_of_ble_eq_true rfl) dX4_init_21 (fun w4 e_w4 => ?_)
  have h_w4_h0 : w4 h0 = some (.inr (0, [.int (nI so), .int (nI si), .int (nI se), .int (nI 0), .int 0, .null])) := (congrFun e_w4 _).trans mwu_eq
  have fr_w4 : ∀ zz : Nat, zz ≠ h0 → w4 zz = w zz := fun zz g0 => (congrFun e_w4 zz).trans ((mwu_ne g0).trans (fr_w3 zz g0))
  refine mg_aload_n C dX4_init_24 rfl ?_
  refine mg_iconst C (v := nI 0) dX4_init_25 (by decide) ?_
  refine mg_put C (fs' := [.int (nI so), .int (nI si), .int (nI se), .int (nI 0), .int (nI 0), .null]) inT0 h_w4_h0 rfl 4 (by decide) kw_78 (Or.inl rfl) tyX0_ok nmX0 rfl rfl rfl rfl (Nat.le_of_ble_eq_true rfl) dX4_init_26 (fun w5 e_w5 => ?_)
  have h_w5_h0 : w5 h0 = some (.inr (0, [.int (nI so), .int (nI si), .int (nI se), .int (nI 0), .int (nI 0), .null])) := (congrFun e_w5 _).trans mwu_eq
  have fr_w5 : ∀ zz : Nat, zz ≠ h0 → w5 zz = w zz := fun zz g0 => (congrFun e_w5 zz).trans ((mwu_ne g0).trans (fr_w4 zz g0))
  exact hR _ _ _ dX4_init_29 ⟨h_w5_h0, fr_w5⟩

set_option maxHeartbeats 4000000 in
set_option maxRecDepth 20000 in
theorem c_X4_copyTotals_F (D : va_G) (cI cS : ClassId) (w : mwT) (h0 h1 so si se : Nat) (ta ma tb mb : Int32) (y5A y5B : Value) (ha : w h0 = some (.inr (0, [.int (nI so), .int (nI si), .int (nI se), .int ta, .int ma, y5A]))) (hb : w h1 = some (.inr (0, [.int (nI so), .int (nI si), .int (nI se), .int tb, .int mb, y5B]))) (hne : h0 ≠ h1) : mMv yX4_copyTotals cX4_copyTotals 2 none (rmL 1) [.ref h0, .ref h1] D cI cS w (fun w1 => w1 h0 = some (.inr (0, [.int (nI so), .int (nI si), .int (nI se), .int tb, .int mb, y5A])) ∧ ∀ b : Nat, b ≠ h0 → w1 b = w b) := by
  refine mMv.of (by decide) (Nat.le_of_ble_eq_true rfl) ?_
  intro X C hN hR
  have fr_w : ∀ zz : Nat, w zz = w zz := fun _ => rfl
  refine mg_sub (lv' := [(0, .ref h0), (1, .ref h1)]) [0, 1] rfl ?_
  refine mg_aload_n C dX4_copyTotals_0 rfl ?_
  refine mg_aload_n C dX4_copyTotals_1 rfl ?_
  refine mg_get C inT0 hb rfl 3 (by decide) kw_77 (Or.inl rfl) rfl dX4_copyTotals_2 ?_
  refine mg_put C (fs' := [.int (nI so), .int (nI si), .int (nI se), .int tb, .int ma, y5A]) inT0 ha rfl 3 (by decide) kw_77 (Or.inl rfl) tyX0_ok nmX0 rfl rfl rfl rfl (Nat.le_of_ble_eq_true rfl) dX4_copyTotals_5 (fun w1 e_w1 => ?_)
  have h_w1_h0 : w1 h0 = some (.inr (0, [.int (nI so), .int (nI si), .int (nI se), .int tb, .int ma, y5A])) := (congrFun e_w1 _).trans mwu_eq
  have h_w1_h1 : w1 h1 = some (.inr (0, [.int (nI so), .int (nI si), .int (nI se), .int tb, .int mb, y5B])) := (congrFun e_w1 _).trans ((mwu_ne (Ne.symm hne)).trans hb)
  have fr_w1 : ∀ zz : Nat, zz ≠ h0 → w1 zz = w zz := fun zz g0 => (congrFun e_w1 zz).trans ((mwu_ne g0).trans (fr_w zz ))
  refine mg_aload_n C dX4_copyTotals_8 rfl ?_
  refine mg_aload_n C dX4_copyTotals_9 rfl ?_
  refine mg_get C inT0 h_w1_h1 rfl 4 (by decide) kw_78 (Or.inl rfl) rfl dX4_copyTotals_10 ?_
  refine mg_put C (fs' := [.int (nI so), .int (nI si), .int (nI se), .int tb, .int mb, y5A]) inT0 h_w1_h0 rfl 4 (by decide) kw_78 (Or.inl rfl) tyX0_ok nmX0 rfl rfl rfl rfl (Nat.le_of_ble_eq_true rfl) dX4_copyTotals_13 (fun w2 e_w2 => ?_)
  have h_w2_h0 : w2 h0 = some (.inr (0, [.int (nI so), .int (nI si), .int (nI se), .int tb, .int mb, y5A])) := (congrFun e_w2 _).trans mwu_eq
  have h_w2_h1 : w2 h1 = some (.inr (0, [.int (nI so), .int (nI si), .int (nI se), .int tb, .int mb, y5B])) := (congrFun e_w2 _).trans ((mwu_ne (Ne.symm hne)).trans h_w1_h1)
  have fr_w2 : ∀ zz : Nat, zz ≠ h0 → w2 zz = w zz := fun zz g0 => (congrFun e_w2 zz).trans ((mwu_ne g0).trans (fr_w1 zz g0))
  exact hR _ _ _ dX4_copyTotals_16 ⟨h_w2_h0, fr_w2⟩

set_option maxHeartbeats 4000000 in
set_option maxRecDepth 20000 in
theorem c_X4_init_H (D : va_G) (cI cS : ClassId) (w : mwT) (h0 so si se : Nat) (ha : w h0 = some (.inr (1, [.int 0, .int 0, .int 0, .int 0, .int 0, .null, .null, .int 0, .int 0]))) : mMv yX4_init cX4_init 4 none (rmL 1) [.ref h0, .int (nI so), .int (nI si), .int (nI se)] D cI cS w (fun w1 => w1 h0 = some (.inr (1, [.int (nI so), .int (nI si), .int (nI se), .int (nI 0), .int (nI 0), .null, .null, .int 0, .int 0])) ∧ ∀ b : Nat, b ≠ h0 → w1 b = w b) := by
  refine mMv.of (by decide) (Nat.le_of_ble_eq_true rfl) ?_
  intro X C hN hR
  have fr_w : ∀ zz : Nat, w zz = w zz := fun _ => rfl
  refine mg_sub (lv' := [(0, .ref h0), (1, .int (nI so)), (2, .int (nI si)), (3, .int (nI se))]) [0, 1, 2, 3] rfl ?_
  refine mg_aload_n C dX4_init_0 rfl ?_
  refine mg_objInit C kw_73 ⟨Nat.le_of_ble_eq_true rfl, Nat.le_of_ble_eq_true rfl⟩ dX4_init_1 ?_
  refine mg_aload_n C dX4_init_4 rfl ?_
  refine mg_iload_n C dX4_init_5 rfl ?_
  refine mg_putF C (fs' := [.int (nI so), .int 0, .int 0, .int 0, .int 0, .null, .null, .int 0, .int 0]) inT1 ha rfl 0 (by decide) kw_74 (Or.inl rfl) tyX1_ok nmX1 rfl hN rfl rfl rfl rfl (Nat.le_of_ble_eq_true rfl) dX4_init_6 (fun w1 e_w1 => ?_)
  have h_w1_h0 : w1 h0 = some (.inr (1, [.int (nI so), .int 0, .int 0, .int 0, .int 0, .null, .null, .int 0, .int 0])) := (congrFun e_w1 _).trans mwu_eq
  have fr_w1 : ∀ zz : Nat, zz ≠ h0 → w1 zz = w zz := fun zz g0 => (congrFun e_w1 zz).trans ((mwu_ne g0).trans (fr_w zz ))
  refine mg_aload_n C dX4_init_9 rfl ?_
  refine mg_iload_n C dX4_init_10 rfl ?_
  refine mg_putF C (fs' := [.int (nI so), .int (nI si), .int 0, .int 0, .int 0, .null, .null, .int 0, .int 0]) inT1 h_w1_h0 rfl 1 (by decide) kw_75 (Or.inl rfl) tyX1_ok nmX1 rfl hN rfl rfl rfl rfl (Nat.le_of_ble_eq_true rfl) dX4_init_11 (fun w2 e_w2 => ?_)
  have h_w2_h0 : w2 h0 = some (.inr (1, [.int (nI so), .int (nI si), .int 0, .int 0, .int 0, .null, .null, .int 0, .int 0])) := (congrFun e_w2 _).trans mwu_eq
  have fr_w2 : ∀ zz : Nat, zz ≠ h0 → w2 zz = w zz := fun zz g0 => (congrFun e_w2 zz).trans ((mwu_ne g0).trans (fr_w1 zz g0))
  refine mg_aload_n C dX4_init_14 rfl ?_
  refine mg_iload_n C dX4_init_15 rfl ?_
  refine mg_putF C (fs' := [.int (nI so), .int (nI si), .int (nI se), .int 0, .int 0, .null, .null, .int 0, .int 0]) inT1 h_w2_h0 rfl 2 (by decide) kw_76 (Or.inl rfl) tyX1_ok nmX1 rfl hN rfl rfl rfl rfl (Nat.le_of_ble_eq_true rfl) dX4_init_16 (fun w3 e_w3 => ?_)
  have h_w3_h0 : w3 h0 = some (.inr (1, [.int (nI so), .int (nI si), .int (nI se), .int 0, .int 0, .null, .null, .int 0, .int 0])) := (congrFun e_w3 _).trans mwu_eq
  have fr_w3 : ∀ zz : Nat, zz ≠ h0 → w3 zz = w zz := fun zz g0 => (congrFun e_w3 zz).trans ((mwu_ne g0).trans (fr_w2 zz g0))
  refine mg_aload_n C dX4_init_19 rfl ?_
  refine mg_iconst C (v := nI 0) dX4_init_20 (by decide) ?_
  refine mg_put C (fs' := [.int (nI so), .int (nI si), .int (nI se), .int (nI 0), .int 0, .null, .null, .int 0, .int 0]) inT1 h_w3_h0 rfl 3 (by decide) kw_77 (Or.inl rfl) tyX1_ok nmX1 rfl rfl rfl rfl (Nat.le_of_ble_eq_true rfl) dX4_init_21 (fun w4 e_w4 => ?_)
  have h_w4_h0 : w4 h0 = some (.inr (1, [.int (nI so), .int (nI si), .int (nI se), .int (nI 0), .int 0, .null, .null, .int 0, .int 0])) := (congrFun e_w4 _).trans mwu_eq
  have fr_w4 : ∀ zz : Nat, zz ≠ h0 → w4 zz = w zz := fun zz g0 => (congrFun e_w4 zz).trans ((mwu_ne g0).trans (fr_w3 zz g0))
  refine mg_aload_n C dX4_init_24 rfl ?_
  refine mg_iconst C (v := nI 0) dX4_init_25 (by decide) ?_
  refine mg_put C (fs' := [.int (nI so), .int (nI si), .int (nI se), .int (nI 0), .int (nI 0), .null, .null, .int 0, .int 0]) inT1 h_w4_h0 rfl 4 (by decide) kw_78 (Or.inl rfl) tyX1_ok nmX1 rfl rfl rfl rfl (Nat.le_of_ble_eq_true rfl) dX4_init_26 (fun w5 e_w5 => ?_)
  have h_w5_h0 : w5 h0 = some (.inr (1, [.int (nI so), .int (nI si), .int (nI se), .int (nI 0), .int (nI 0), .null, .null, .int 0, .int 0])) := (congrFun e_w5 _).trans mwu_eq
  have fr_w5 : ∀ zz : Nat, zz ≠ h0 → w5 zz = w zz := fun zz g0 => (congrFun e_w5 zz).trans ((mwu_ne g0).trans (fr_w4 zz g0))
  exact hR _ _ _ dX4_init_29 ⟨h_w5_h0, fr_w5⟩

set_option maxHeartbeats 4000000 in
set_option maxRecDepth 20000 in
theorem c_X4_copyTotals_H (D : va_G) (cI cS : ClassId) (w : mwT) (h0 h1 so si se : Nat) (ta ma tb mb : Int32) (y5A y5B : Value) (y6A y6B : Value) (y7A y7B : Value) (y8A y8B : Value) (ha : w h0 = some (.inr (1, [.int (nI so), .int (nI si), .int (nI se), .int ta, .int ma, y5A, y6A, y7A, y8A]))) (hb : w h1 = some (.inr (1, [.int (nI so), .int (nI si), .int (nI se), .int tb, .int mb, y5B, y6B, y7B, y8B]))) (hne : h0 ≠ h1) : mMv yX4_copyTotals cX4_copyTotals 2 none (rmL 1) [.ref h0, .ref h1] D cI cS w (fun w1 => w1 h0 = some (.inr (1, [.int (nI so), .int (nI si), .int (nI se), .int tb, .int mb, y5A, y6A, y7A, y8A])) ∧ ∀ b : Nat, b ≠ h0 → w1 b = w b) := by
  refine mMv.of (by decide) (Nat.le_of_ble_eq_true rfl) ?_
  intro X C hN hR
  have fr_w : ∀ zz : Nat, w zz = w zz := fun _ => rfl
  refine mg_sub (lv' := [(0, .ref h0), (1, .ref h1)]) [0, 1] rfl ?_
  refine mg_aload_n C dX4_copyTotals_0 rfl ?_
  refine mg_aload_n C dX4_copyTotals_1 rfl ?_
  refine mg_get C inT1 hb rfl 3 (by decide) kw_77 (Or.inl rfl) rfl dX4_copyTotals_2 ?_
  refine mg_put C (fs' := [.int (nI so), .int (nI si), .int (nI se), .int tb, .int ma, y5A, y6A, y7A, y8A]) inT1 ha rfl 3 (by decide) kw_77 (Or.inl rfl) tyX1_ok nmX1 rfl rfl rfl rfl (Nat.le_of_ble_eq_true rfl) dX4_copyTotals_5 (fun w1 e_w1 => ?_)
  have h_w1_h0 : w1 h0 = some (.inr (1, [.int (nI so), .int (nI si), .int (nI se), .int tb, .int ma, y5A, y6A, y7A, y8A])) := (congrFun e_w1 _).trans mwu_eq
  have h_w1_h1 : w1 h1 = some (.inr (1, [.int (nI so), .int (nI si), .int (nI se), .int tb, .int mb, y5B, y6B, y7B, y8B])) := (congrFun e_w1 _).trans ((mwu_ne (Ne.symm hne)).trans hb)
  have fr_w1 : ∀ zz : Nat, zz ≠ h0 → w1 zz = w zz := fun zz g0 => (congrFun e_w1 zz).trans ((mwu_ne g0).trans (fr_w zz ))
  refine mg_aload_n C dX4_copyTotals_8 rfl ?_
  refine mg_aload_n C dX4_copyTotals_9 rfl ?_
  refine mg_get C inT1 h_w1_h1 rfl 4 (by decide) kw_78 (Or.inl rfl) rfl dX4_copyTotals_10 ?_
  refine mg_put C (fs' := [.int (nI so), .int (nI si), .int (nI se), .int tb, .int mb, y5A, y6A, y7A, y8A]) inT1 h_w1_h0 rfl 4 (by decide) kw_78 (Or.inl rfl) tyX1_ok nmX1 rfl rfl rfl rfl (Nat.le_of_ble_eq_true rfl) dX4_copyTotals_13 (fun w2 e_w2 => ?_)
  have h_w2_h0 : w2 h0 = some (.inr (1, [.int (nI so), .int (nI si), .int (nI se), .int tb, .int mb, y5A, y6A, y7A, y8A])) := (congrFun e_w2 _).trans mwu_eq
  have h_w2_h1 : w2 h1 = some (.inr (1, [.int (nI so), .int (nI si), .int (nI se), .int tb, .int mb, y5B, y6B, y7B, y8B])) := (congrFun e_w2 _).trans ((mwu_ne (Ne.symm hne)).trans h_w1_h1)
  have fr_w2 : ∀ zz : Nat, zz ≠ h0 → w2 zz = w zz := fun zz g0 => (congrFun e_w2 zz).trans ((mwu_ne g0).trans (fr_w1 zz g0))
  exact hR _ _ _ dX4_copyTotals_16 ⟨h_w2_h0, fr_w2⟩

set_option maxHeartbeats 4000000 in
set_option maxRecDepth 20000 in
theorem c_X4_init_L (D : va_G) (cI cS : ClassId) (w : mwT) (h0 so si se : Nat) (ha : w h0 = some (.inr (2, [.int 0, .int 0, .int 0, .int 0, .int 0, .null, .int 0]))) : mMv yX4_init cX4_init 4 none (rmL 1) [.ref h0, .int (nI so), .int (nI si), .int (nI se)] D cI cS w (fun w1 => w1 h0 = some (.inr (2, [.int (nI so), .int (nI si), .int (nI se), .int (nI 0), .int (nI 0), .null, .int 0])) ∧ ∀ b : Nat, b ≠ h0 → w1 b = w b) := by
  refine mMv.of (by decide) (Nat.le_of_ble_eq_true rfl) ?_
  intro X C hN hR
  have fr_w : ∀ zz : Nat, w zz = w zz := fun _ => rfl
  refine mg_sub (lv' := [(0, .ref h0), (1, .int (nI so)), (2, .int (nI si)), (3, .int (nI se))]) [0, 1, 2, 3] rfl ?_
  refine mg_aload_n C dX4_init_0 rfl ?_
  refine mg_objInit C kw_73 ⟨Nat.le_of_ble_eq_true rfl, Nat.le_of_ble_eq_true rfl⟩ dX4_init_1 ?_
  refine mg_aload_n C dX4_init_4 rfl ?_
  refine mg_iload_n C dX4_init_5 rfl ?_
  refine mg_putF C (fs' := [.int (nI so), .int 0, .int 0, .int 0, .int 0, .null, .int 0]) inT2 ha rfl 0 (by decide) kw_74 (Or.inl rfl) tyX2_ok nmX2 rfl hN rfl rfl rfl rfl (Nat.le_of_ble_eq_true rfl) dX4_init_6 (fun w1 e_w1 => ?_)
  have h_w1_h0 : w1 h0 = some (.inr (2, [.int (nI so), .int 0, .int 0, .int 0, .int 0, .null, .int 0])) := (congrFun e_w1 _).trans mwu_eq
  have fr_w1 : ∀ zz : Nat, zz ≠ h0 → w1 zz = w zz := fun zz g0 => (congrFun e_w1 zz).trans ((mwu_ne g0).trans (fr_w zz ))
  refine mg_aload_n C dX4_init_9 rfl ?_
  refine mg_iload_n C dX4_init_10 rfl ?_
  refine mg_putF C (fs' := [.int (nI so), .int (nI si), .int 0, .int 0, .int 0, .null, .int 0]) inT2 h_w1_h0 rfl 1 (by decide) kw_75 (Or.inl rfl) tyX2_ok nmX2 rfl hN rfl rfl rfl rfl (Nat.le_of_ble_eq_true rfl) dX4_init_11 (fun w2 e_w2 => ?_)
  have h_w2_h0 : w2 h0 = some (.inr (2, [.int (nI so), .int (nI si), .int 0, .int 0, .int 0, .null, .int 0])) := (congrFun e_w2 _).trans mwu_eq
  have fr_w2 : ∀ zz : Nat, zz ≠ h0 → w2 zz = w zz := fun zz g0 => (congrFun e_w2 zz).trans ((mwu_ne g0).trans (fr_w1 zz g0))
  refine mg_aload_n C dX4_init_14 rfl ?_
  refine mg_iload_n C dX4_init_15 rfl ?_
  refine mg_putF C (fs' := [.int (nI so), .int (nI si), .int (nI se), .int 0, .int 0, .null, .int 0]) inT2 h_w2_h0 rfl 2 (by decide) kw_76 (Or.inl rfl) tyX2_ok nmX2 rfl hN rfl rfl rfl rfl (Nat.le_of_ble_eq_true rfl) dX4_init_16 (fun w3 e_w3 => ?_)
  have h_w3_h0 : w3 h0 = some (.inr (2, [.int (nI so), .int (nI si), .int (nI se), .int 0, .int 0, .null, .int 0])) := (congrFun e_w3 _).trans mwu_eq
  have fr_w3 : ∀ zz : Nat, zz ≠ h0 → w3 zz = w zz := fun zz g0 => (congrFun e_w3 zz).trans ((mwu_ne g0).trans (fr_w2 zz g0))
  refine mg_aload_n C dX4_init_19 rfl ?_
  refine mg_iconst C (v := nI 0) dX4_init_20 (by decide) ?_
  refine mg_put C (fs' := [.int (nI so), .int (nI si), .int (nI se), .int (nI 0), .int 0, .null, .int 0]) inT2 h_w3_h0 rfl 3 (by decide) kw_77 (Or.inl rfl) tyX2_ok nmX2 rfl rfl rfl rfl (Nat.le_of_ble_eq_true rfl) dX4_init_21 (fun w4 e_w4 => ?_)
  have h_w4_h0 : w4 h0 = some (.inr (2, [.int (nI so), .int (nI si), .int (nI se), .int (nI 0), .int 0, .null, .int 0])) := (congrFun e_w4 _).trans mwu_eq
  have fr_w4 : ∀ zz : Nat, zz ≠ h0 → w4 zz = w zz := fun zz g0 => (congrFun e_w4 zz).trans ((mwu_ne g0).trans (fr_w3 zz g0))
  refine mg_aload_n C dX4_init_24 rfl ?_
  refine mg_iconst C (v := nI 0) dX4_init_25 (by decide) ?_
  refine mg_put C (fs' := [.int (nI so), .int (nI si), .int (nI se), .int (nI 0), .int (nI 0), .null, .int 0]) inT2 h_w4_h0 rfl 4 (by decide) kw_78 (Or.inl rfl) tyX2_ok nmX2 rfl rfl rfl rfl (Nat.le_of_ble_eq_true rfl) dX4_init_26 (fun w5 e_w5 => ?_)
  have h_w5_h0 : w5 h0 = some (.inr (2, [.int (nI so), .int (nI si), .int (nI se), .int (nI 0), .int (nI 0), .null, .int 0])) := (congrFun e_w5 _).trans mwu_eq
  have fr_w5 : ∀ zz : Nat, zz ≠ h0 → w5 zz = w zz := fun zz g0 => (congrFun e_w5 zz).trans ((mwu_ne g0).trans (fr_w4 zz g0))
  exact hR _ _ _ dX4_init_29 ⟨h_w5_h0, fr_w5⟩

set_option maxHeartbeats 4000000 in
set_option maxRecDepth 20000 in
theorem c_X4_copyTotals_L (D : va_G) (cI cS : ClassId) (w : mwT) (h0 h1 so si se : Nat) (ta ma tb mb : Int32) (y5A y5B : Value) (y6A y6B : Value) (ha : w h0 = some (.inr (2, [.int (nI so), .int (nI si), .int (nI se), .int ta, .int ma, y5A, y6A]))) (hb : w h1 = some (.inr (2, [.int (nI so), .int (nI si), .int (nI se), .int tb, .int mb, y5B, y6B]))) (hne : h0 ≠ h1) : mMv yX4_copyTotals cX4_copyTotals 2 none (rmL 1) [.ref h0, .ref h1] D cI cS w (fun w1 => w1 h0 = some (.inr (2, [.int (nI so), .int (nI si), .int (nI se), .int tb, .int mb, y5A, y6A])) ∧ ∀ b : Nat, b ≠ h0 → w1 b = w b) := by
  refine mMv.of (by decide) (Nat.le_of_ble_eq_true rfl) ?_
  intro X C hN hR
  have fr_w : ∀ zz : Nat, w zz = w zz := fun _ => rfl
  refine mg_sub (lv' := [(0, .ref h0), (1, .ref h1)]) [0, 1] rfl ?_
  refine mg_aload_n C dX4_copyTotals_0 rfl ?_
  refine mg_aload_n C dX4_copyTotals_1 rfl ?_
  refine mg_get C inT2 hb rfl 3 (by decide) kw_77 (Or.inl rfl) rfl dX4_copyTotals_2 ?_
  refine mg_put C (fs' := [.int (nI so), .int (nI si), .int (nI se), .int tb, .int ma, y5A, y6A]) inT2 ha rfl 3 (by decide) kw_77 (Or.inl rfl) tyX2_ok nmX2 rfl rfl rfl rfl (Nat.le_of_ble_eq_true rfl) dX4_copyTotals_5 (fun w1 e_w1 => ?_)
  have h_w1_h0 : w1 h0 = some (.inr (2, [.int (nI so), .int (nI si), .int (nI se), .int tb, .int ma, y5A, y6A])) := (congrFun e_w1 _).trans mwu_eq
  have h_w1_h1 : w1 h1 = some (.inr (2, [.int (nI so), .int (nI si), .int (nI se), .int tb, .int mb, y5B, y6B])) := (congrFun e_w1 _).trans ((mwu_ne (Ne.symm hne)).trans hb)
  have fr_w1 : ∀ zz : Nat, zz ≠ h0 → w1 zz = w zz := fun zz g0 => (congrFun e_w1 zz).trans ((mwu_ne g0).trans (fr_w zz ))
  refine mg_aload_n C dX4_copyTotals_8 rfl ?_
  refine mg_aload_n C dX4_copyTotals_9 rfl ?_
  refine mg_get C inT2 h_w1_h1 rfl 4 (by decide) kw_78 (Or.inl rfl) rfl dX4_copyTotals_10 ?_
  refine mg_put C (fs' := [.int (nI so), .int (nI si), .int (nI se), .int tb, .int mb, y5A, y6A]) inT2 h_w1_h0 rfl 4 (by decide) kw_78 (Or.inl rfl) tyX2_ok nmX2 rfl rfl rfl rfl (Nat.le_of_ble_eq_true rfl) dX4_copyTotals_13 (fun w2 e_w2 => ?_)
  have h_w2_h0 : w2 h0 = some (.inr (2, [.int (nI so), .int (nI si), .int (nI se), .int tb, .int mb, y5A, y6A])) := (congrFun e_w2 _).trans mwu_eq
  have h_w2_h1 : w2 h1 = some (.inr (2, [.int (nI so), .int (nI si), .int (nI se), .int tb, .int mb, y5B, y6B])) := (congrFun e_w2 _).trans ((mwu_ne (Ne.symm hne)).trans h_w1_h1)
  have fr_w2 : ∀ zz : Nat, zz ≠ h0 → w2 zz = w zz := fun zz g0 => (congrFun e_w2 zz).trans ((mwu_ne g0).trans (fr_w1 zz g0))
  exact hR _ _ _ dX4_copyTotals_16 ⟨h_w2_h0, fr_w2⟩

set_option maxHeartbeats 4000000 in
set_option maxRecDepth 20000 in
theorem c_X4_init_R (D : va_G) (cI cS : ClassId) (w : mwT) (h0 so si se : Nat) (ha : w h0 = some (.inr (3, [.int 0, .int 0, .int 0, .int 0, .int 0, .null, .null, .null, .int 0]))) : mMv yX4_init cX4_init 4 none (rmL 1) [.ref h0, .int (nI so), .int (nI si), .int (nI se)] D cI cS w (fun w1 => w1 h0 = some (.inr (3, [.int (nI so), .int (nI si), .int (nI se), .int (nI 0), .int (nI 0), .null, .null, .null, .int 0])) ∧ ∀ b : Nat, b ≠ h0 → w1 b = w b) := by
  refine mMv.of (by decide) (Nat.le_of_ble_eq_true rfl) ?_
  intro X C hN hR
  have fr_w : ∀ zz : Nat, w zz = w zz := fun _ => rfl
  refine mg_sub (lv' := [(0, .ref h0), (1, .int (nI so)), (2, .int (nI si)), (3, .int (nI se))]) [0, 1, 2, 3] rfl ?_
  refine mg_aload_n C dX4_init_0 rfl ?_
  refine mg_objInit C kw_73 ⟨Nat.le_of_ble_eq_true rfl, Nat.le_of_ble_eq_true rfl⟩ dX4_init_1 ?_
  refine mg_aload_n C dX4_init_4 rfl ?_
  refine mg_iload_n C dX4_init_5 rfl ?_
  refine mg_putF C (fs' := [.int (nI so), .int 0, .int 0, .int 0, .int 0, .null, .null, .null, .int 0]) inT3 ha rfl 0 (by decide) kw_74 (Or.inl rfl) tyX3_ok nmX3 rfl hN rfl rfl rfl rfl (Nat.le_of_ble_eq_true rfl) dX4_init_6 (fun w1 e_w1 => ?_)
  have h_w1_h0 : w1 h0 = some (.inr (3, [.int (nI so), .int 0, .int 0, .int 0, .int 0, .null, .null, .null, .int 0])) := (congrFun e_w1 _).trans mwu_eq
  have fr_w1 : ∀ zz : Nat, zz ≠ h0 → w1 zz = w zz := fun zz g0 => (congrFun e_w1 zz).trans ((mwu_ne g0).trans (fr_w zz ))
  refine mg_aload_n C dX4_init_9 rfl ?_
  refine mg_iload_n C dX4_init_10 rfl ?_
  refine mg_putF C (fs' := [.int (nI so), .int (nI si), .int 0, .int 0, .int 0, .null, .null, .null, .int 0]) inT3 h_w1_h0 rfl 1 (by decide) kw_75 (Or.inl rfl) tyX3_ok nmX3 rfl hN rfl rfl rfl rfl (Nat.le_of_ble_eq_true rfl) dX4_init_11 (fun w2 e_w2 => ?_)
  have h_w2_h0 : w2 h0 = some (.inr (3, [.int (nI so), .int (nI si), .int 0, .int 0, .int 0, .null, .null, .null, .int 0])) := (congrFun e_w2 _).trans mwu_eq
  have fr_w2 : ∀ zz : Nat, zz ≠ h0 → w2 zz = w zz := fun zz g0 => (congrFun e_w2 zz).trans ((mwu_ne g0).trans (fr_w1 zz g0))
  refine mg_aload_n C dX4_init_14 rfl ?_
  refine mg_iload_n C dX4_init_15 rfl ?_
  refine mg_putF C (fs' := [.int (nI so), .int (nI si), .int (nI se), .int 0, .int 0, .null, .null, .null, .int 0]) inT3 h_w2_h0 rfl 2 (by decide) kw_76 (Or.inl rfl) tyX3_ok nmX3 rfl hN rfl rfl rfl rfl (Nat.le_of_ble_eq_true rfl) dX4_init_16 (fun w3 e_w3 => ?_)
  have h_w3_h0 : w3 h0 = some (.inr (3, [.int (nI so), .int (nI si), .int (nI se), .int 0, .int 0, .null, .null, .null, .int 0])) := (congrFun e_w3 _).trans mwu_eq
  have fr_w3 : ∀ zz : Nat, zz ≠ h0 → w3 zz = w zz := fun zz g0 => (congrFun e_w3 zz).trans ((mwu_ne g0).trans (fr_w2 zz g0))
  refine mg_aload_n C dX4_init_19 rfl ?_
  refine mg_iconst C (v := nI 0) dX4_init_20 (by decide) ?_
  refine mg_put C (fs' := [.int (nI so), .int (nI si), .int (nI se), .int (nI 0), .int 0, .null, .null, .null, .int 0]) inT3 h_w3_h0 rfl 3 (by decide) kw_77 (Or.inl rfl) tyX3_ok nmX3 rfl rfl rfl rfl (Nat.le_of_ble_eq_true rfl) dX4_init_21 (fun w4 e_w4 => ?_)
  have h_w4_h0 : w4 h0 = some (.inr (3, [.int (nI so), .int (nI si), .int (nI se), .int (nI 0), .int 0, .null, .null, .null, .int 0])) := (congrFun e_w4 _).trans mwu_eq
  have fr_w4 : ∀ zz : Nat, zz ≠ h0 → w4 zz = w zz := fun zz g0 => (congrFun e_w4 zz).trans ((mwu_ne g0).trans (fr_w3 zz g0))
  refine mg_aload_n C dX4_init_24 rfl ?_
  refine mg_iconst C (v := nI 0) dX4_init_25 (by decide) ?_
  refine mg_put C (fs' := [.int (nI so), .int (nI si), .int (nI se), .int (nI 0), .int (nI 0), .null, .null, .null, .int 0]) inT3 h_w4_h0 rfl 4 (by decide) kw_78 (Or.inl rfl) tyX3_ok nmX3 rfl rfl rfl rfl (Nat.le_of_ble_eq_true rfl) dX4_init_26 (fun w5 e_w5 => ?_)
  have h_w5_h0 : w5 h0 = some (.inr (3, [.int (nI so), .int (nI si), .int (nI se), .int (nI 0), .int (nI 0), .null, .null, .null, .int 0])) := (congrFun e_w5 _).trans mwu_eq
  have fr_w5 : ∀ zz : Nat, zz ≠ h0 → w5 zz = w zz := fun zz g0 => (congrFun e_w5 zz).trans ((mwu_ne g0).trans (fr_w4 zz g0))
  exact hR _ _ _ dX4_init_29 ⟨h_w5_h0, fr_w5⟩

set_option maxHeartbeats 4000000 in
set_option maxRecDepth 20000 in
theorem c_X4_copyTotals_R (D : va_G) (cI cS : ClassId) (w : mwT) (h0 h1 so si se : Nat) (ta ma tb mb : Int32) (y5A y5B : Value) (y6A y6B : Value) (y7A y7B : Value) (y8A y8B : Value) (ha : w h0 = some (.inr (3, [.int (nI so), .int (nI si), .int (nI se), .int ta, .int ma, y5A, y6A, y7A, y8A]))) (hb : w h1 = some (.inr (3, [.int (nI so), .int (nI si), .int (nI se), .int tb, .int mb, y5B, y6B, y7B, y8B]))) (hne : h0 ≠ h1) : mMv yX4_copyTotals cX4_copyTotals 2 none (rmL 1) [.ref h0, .ref h1] D cI cS w (fun w1 => w1 h0 = some (.inr (3, [.int (nI so), .int (nI si), .int (nI se), .int tb, .int mb, y5A, y6A, y7A, y8A])) ∧ ∀ b : Nat, b ≠ h0 → w1 b = w b) := by
  refine mMv.of (by decide) (Nat.le_of_ble_eq_true rfl) ?_
  intro X C hN hR
  have fr_w : ∀ zz : Nat, w zz = w zz := fun _ => rfl
  refine mg_sub (lv' := [(0, .ref h0), (1, .ref h1)]) [0, 1] rfl ?_
  refine mg_aload_n C dX4_copyTotals_0 rfl ?_
  refine mg_aload_n C dX4_copyTotals_1 rfl ?_
  refine mg_get C inT3 hb rfl 3 (by decide) kw_77 (Or.inl rfl) rfl dX4_copyTotals_2 ?_
  refine mg_put C (fs' := [.int (nI so), .int (nI si), .int (nI se), .int tb, .int ma, y5A, y6A, y7A, y8A]) inT3 ha rfl 3 (by decide) kw_77 (Or.inl rfl) tyX3_ok nmX3 rfl rfl rfl rfl (Nat.le_of_ble_eq_true rfl) dX4_copyTotals_5 (fun w1 e_w1 => ?_)
  have h_w1_h0 : w1 h0 = some (.inr (3, [.int (nI so), .int (nI si), .int (nI se), .int tb, .int ma, y5A, y6A, y7A, y8A])) := (congrFun e_w1 _).trans mwu_eq
  have h_w1_h1 : w1 h1 = some (.inr (3, [.int (nI so), .int (nI si), .int (nI se), .int tb, .int mb, y5B, y6B, y7B, y8B])) := (congrFun e_w1 _).trans ((mwu_ne (Ne.symm hne)).trans hb)
  have fr_w1 : ∀ zz : Nat, zz ≠ h0 → w1 zz = w zz := fun zz g0 => (congrFun e_w1 zz).trans ((mwu_ne g0).trans (fr_w zz ))
  refine mg_aload_n C dX4_copyTotals_8 rfl ?_
  refine mg_aload_n C dX4_copyTotals_9 rfl ?_
  refine mg_get C inT3 h_w1_h1 rfl 4 (by decide) kw_78 (Or.inl rfl) rfl dX4_copyTotals_10 ?_
  refine mg_put C (fs' := [.int (nI so), .int (nI si), .int (nI se), .int tb, .int mb, y5A, y6A, y7A, y8A]) inT3 h_w1_h0 rfl 4 (by decide) kw_78 (Or.inl rfl) tyX3_ok nmX3 rfl rfl rfl rfl (Nat.le_of_ble_eq_true rfl) dX4_copyTotals_13 (fun w2 e_w2 => ?_)
  have h_w2_h0 : w2 h0 = some (.inr (3, [.int (nI so), .int (nI si), .int (nI se), .int tb, .int mb, y5A, y6A, y7A, y8A])) := (congrFun e_w2 _).trans mwu_eq
  have h_w2_h1 : w2 h1 = some (.inr (3, [.int (nI so), .int (nI si), .int (nI se), .int tb, .int mb, y5B, y6B, y7B, y8B])) := (congrFun e_w2 _).trans ((mwu_ne (Ne.symm hne)).trans h_w1_h1)
  have fr_w2 : ∀ zz : Nat, zz ≠ h0 → w2 zz = w zz := fun zz g0 => (congrFun e_w2 zz).trans ((mwu_ne g0).trans (fr_w1 zz g0))
  exact hR _ _ _ dX4_copyTotals_16 ⟨h_w2_h0, fr_w2⟩

set_option maxHeartbeats 4000000 in
set_option maxRecDepth 20000 in
theorem c_X4_init_T (D : va_G) (cI cS : ClassId) (w : mwT) (h0 so si se : Nat) (ha : w h0 = some (.inr (4, [.int 0, .int 0, .int 0, .int 0, .int 0, .null]))) : mMv yX4_init cX4_init 4 none (rmL 1) [.ref h0, .int (nI so), .int (nI si), .int (nI se)] D cI cS w (fun w1 => w1 h0 = some (.inr (4, [.int (nI so), .int (nI si), .int (nI se), .int (nI 0), .int (nI 0), .null])) ∧ ∀ b : Nat, b ≠ h0 → w1 b = w b) := by
  refine mMv.of (by decide) (Nat.le_of_ble_eq_true rfl) ?_
  intro X C hN hR
  have fr_w : ∀ zz : Nat, w zz = w zz := fun _ => rfl
  refine mg_sub (lv' := [(0, .ref h0), (1, .int (nI so)), (2, .int (nI si)), (3, .int (nI se))]) [0, 1, 2, 3] rfl ?_
  refine mg_aload_n C dX4_init_0 rfl ?_
  refine mg_objInit C kw_73 ⟨Nat.le_of_ble_eq_true rfl, Nat.le_of_ble_eq_true rfl⟩ dX4_init_1 ?_
  refine mg_aload_n C dX4_init_4 rfl ?_
  refine mg_iload_n C dX4_init_5 rfl ?_
  refine mg_putF C (fs' := [.int (nI so), .int 0, .int 0, .int 0, .int 0, .null]) inT5 ha rfl 0 (by decide) kw_74 (Or.inl rfl) tyX5_ok nmX5 rfl hN rfl rfl rfl rfl (Nat.le_of_ble_eq_true rfl) dX4_init_6 (fun w1 e_w1 => ?_)
  have h_w1_h0 : w1 h0 = some (.inr (4, [.int (nI so), .int 0, .int 0, .int 0, .int 0, .null])) := (congrFun e_w1 _).trans mwu_eq
  have fr_w1 : ∀ zz : Nat, zz ≠ h0 → w1 zz = w zz := fun zz g0 => (congrFun e_w1 zz).trans ((mwu_ne g0).trans (fr_w zz ))
  refine mg_aload_n C dX4_init_9 rfl ?_
  refine mg_iload_n C dX4_init_10 rfl ?_
  refine mg_putF C (fs' := [.int (nI so), .int (nI si), .int 0, .int 0, .int 0, .null]) inT5 h_w1_h0 rfl 1 (by decide) kw_75 (Or.inl rfl) tyX5_ok nmX5 rfl hN rfl rfl rfl rfl (Nat.le_of_ble_eq_true rfl) dX4_init_11 (fun w2 e_w2 => ?_)
  have h_w2_h0 : w2 h0 = some (.inr (4, [.int (nI so), .int (nI si), .int 0, .int 0, .int 0, .null])) := (congrFun e_w2 _).trans mwu_eq
  have fr_w2 : ∀ zz : Nat, zz ≠ h0 → w2 zz = w zz := fun zz g0 => (congrFun e_w2 zz).trans ((mwu_ne g0).trans (fr_w1 zz g0))
  refine mg_aload_n C dX4_init_14 rfl ?_
  refine mg_iload_n C dX4_init_15 rfl ?_
  refine mg_putF C (fs' := [.int (nI so), .int (nI si), .int (nI se), .int 0, .int 0, .null]) inT5 h_w2_h0 rfl 2 (by decide) kw_76 (Or.inl rfl) tyX5_ok nmX5 rfl hN rfl rfl rfl rfl (Nat.le_of_ble_eq_true rfl) dX4_init_16 (fun w3 e_w3 => ?_)
  have h_w3_h0 : w3 h0 = some (.inr (4, [.int (nI so), .int (nI si), .int (nI se), .int 0, .int 0, .null])) := (congrFun e_w3 _).trans mwu_eq
  have fr_w3 : ∀ zz : Nat, zz ≠ h0 → w3 zz = w zz := fun zz g0 => (congrFun e_w3 zz).trans ((mwu_ne g0).trans (fr_w2 zz g0))
  refine mg_aload_n C dX4_init_19 rfl ?_
  refine mg_iconst C (v := nI 0) dX4_init_20 (by decide) ?_
  refine mg_put C (fs' := [.int (nI so), .int (nI si), .int (nI se), .int (nI 0), .int 0, .null]) inT5 h_w3_h0 rfl 3 (by decide) kw_77 (Or.inl rfl) tyX5_ok nmX5 rfl rfl rfl rfl (Nat.le_of_ble_eq_true rfl) dX4_init_21 (fun w4 e_w4 => ?_)
  have h_w4_h0 : w4 h0 = some (.inr (4, [.int (nI so), .int (nI si), .int (nI se), .int (nI 0), .int 0, .null])) := (congrFun e_w4 _).trans mwu_eq
  have fr_w4 : ∀ zz : Nat, zz ≠ h0 → w4 zz = w zz := fun zz g0 => (congrFun e_w4 zz).trans ((mwu_ne g0).trans (fr_w3 zz g0))
  refine mg_aload_n C dX4_init_24 rfl ?_
  refine mg_iconst C (v := nI 0) dX4_init_25 (by decide) ?_
  refine mg_put C (fs' := [.int (nI so), .int (nI si), .int (nI se), .int (nI 0), .int (nI 0), .null]) inT5 h_w4_h0 rfl 4 (by decide) kw_78 (Or.inl rfl) tyX5_ok nmX5 rfl rfl rfl rfl (Nat.le_of_ble_eq_true rfl) dX4_init_26 (fun w5 e_w5 => ?_)
  have h_w5_h0 : w5 h0 = some (.inr (4, [.int (nI so), .int (nI si), .int (nI se), .int (nI 0), .int (nI 0), .null])) := (congrFun e_w5 _).trans mwu_eq
  have fr_w5 : ∀ zz : Nat, zz ≠ h0 → w5 zz = w zz := fun zz g0 => (congrFun e_w5 zz).trans ((mwu_ne g0).trans (fr_w4 zz g0))
  exact hR _ _ _ dX4_init_29 ⟨h_w5_h0, fr_w5⟩

set_option maxHeartbeats 4000000 in
set_option maxRecDepth 20000 in
theorem c_X4_copyTotals_T (D : va_G) (cI cS : ClassId) (w : mwT) (h0 h1 so si se : Nat) (ta ma tb mb : Int32) (y5A y5B : Value) (ha : w h0 = some (.inr (4, [.int (nI so), .int (nI si), .int (nI se), .int ta, .int ma, y5A]))) (hb : w h1 = some (.inr (4, [.int (nI so), .int (nI si), .int (nI se), .int tb, .int mb, y5B]))) (hne : h0 ≠ h1) : mMv yX4_copyTotals cX4_copyTotals 2 none (rmL 1) [.ref h0, .ref h1] D cI cS w (fun w1 => w1 h0 = some (.inr (4, [.int (nI so), .int (nI si), .int (nI se), .int tb, .int mb, y5A])) ∧ ∀ b : Nat, b ≠ h0 → w1 b = w b) := by
  refine mMv.of (by decide) (Nat.le_of_ble_eq_true rfl) ?_
  intro X C hN hR
  have fr_w : ∀ zz : Nat, w zz = w zz := fun _ => rfl
  refine mg_sub (lv' := [(0, .ref h0), (1, .ref h1)]) [0, 1] rfl ?_
  refine mg_aload_n C dX4_copyTotals_0 rfl ?_
  refine mg_aload_n C dX4_copyTotals_1 rfl ?_
  refine mg_get C inT5 hb rfl 3 (by decide) kw_77 (Or.inl rfl) rfl dX4_copyTotals_2 ?_
  refine mg_put C (fs' := [.int (nI so), .int (nI si), .int (nI se), .int tb, .int ma, y5A]) inT5 ha rfl 3 (by decide) kw_77 (Or.inl rfl) tyX5_ok nmX5 rfl rfl rfl rfl (Nat.le_of_ble_eq_true rfl) dX4_copyTotals_5 (fun w1 e_w1 => ?_)
  have h_w1_h0 : w1 h0 = some (.inr (4, [.int (nI so), .int (nI si), .int (nI se), .int tb, .int ma, y5A])) := (congrFun e_w1 _).trans mwu_eq
  have h_w1_h1 : w1 h1 = some (.inr (4, [.int (nI so), .int (nI si), .int (nI se), .int tb, .int mb, y5B])) := (congrFun e_w1 _).trans ((mwu_ne (Ne.symm hne)).trans hb)
  have fr_w1 : ∀ zz : Nat, zz ≠ h0 → w1 zz = w zz := fun zz g0 => (congrFun e_w1 zz).trans ((mwu_ne g0).trans (fr_w zz ))
  refine mg_aload_n C dX4_copyTotals_8 rfl ?_
  refine mg_aload_n C dX4_copyTotals_9 rfl ?_
  refine mg_get C inT5 h_w1_h1 rfl 4 (by decide) kw_78 (Or.inl rfl) rfl dX4_copyTotals_10 ?_
  refine mg_put C (fs' := [.int (nI so), .int (nI si), .int (nI se), .int tb, .int mb, y5A]) inT5 h_w1_h0 rfl 4 (by decide) kw_78 (Or.inl rfl) tyX5_ok nmX5 rfl rfl rfl rfl (Nat.le_of_ble_eq_true rfl) dX4_copyTotals_13 (fun w2 e_w2 => ?_)
  have h_w2_h0 : w2 h0 = some (.inr (4, [.int (nI so), .int (nI si), .int (nI se), .int tb, .int mb, y5A])) := (congrFun e_w2 _).trans mwu_eq
  have h_w2_h1 : w2 h1 = some (.inr (4, [.int (nI so), .int (nI si), .int (nI se), .int tb, .int mb, y5B])) := (congrFun e_w2 _).trans ((mwu_ne (Ne.symm hne)).trans h_w1_h1)
  have fr_w2 : ∀ zz : Nat, zz ≠ h0 → w2 zz = w zz := fun zz g0 => (congrFun e_w2 zz).trans ((mwu_ne g0).trans (fr_w1 zz g0))
  exact hR _ _ _ dX4_copyTotals_16 ⟨h_w2_h0, fr_w2⟩
end
section
set_option maxHeartbeats 4000000 in
set_option maxRecDepth 20000 in
theorem c_X0_take (D : va_G) (cI cS : ClassId) (w : mwT) (h0 ab b sd : Nat) (tot mov : Int32) (f : Nat → Int32) (x : Nat) (n : Int32) (hh : w h0 = some (.inr (0, [.int (nI 2), .int (nI b), .int (nI sd), .int tot, .int mov, .ref ab]))) (hab : w ab = some (eI cI b f)) (hs : sd ≤ 999) (hb1 : 16 ≤ b) (hb2 : b ≤ 512) (hx : x ≤ 9999) : mMv yX0_take cX0_take 5 none (rmL 3) [.ref h0, .int (nI x), .int n] D cI cS w (fun w1 => w1 ab = some (eI cI b (tkF f sd x b 4)) ∧ ∀ c : Nat, c ≠ ab → w1 c = w c) := by
  refine mMv.of (by decide) (Nat.le_of_ble_eq_true rfl) ?_
  intro X C hN hR
  have fr_w : ∀ zz : Nat, w zz = w zz := fun _ => rfl
  refine mg_sub (lv' := [(0, .ref h0), (1, .int (nI x)), (2, .int n)]) [0, 1, 2] rfl ?_
  refine mg_iconst C (v := nI 0) dX0_take_0 (by decide) ?_
  refine mg_istore_n C (lv' := [(3, .int (nI 0)), (0, .ref h0), (1, .int (nI x)), (2, .int n)]) dX0_take_1 rfl (by decide) rfl ?_
  have L2 : ∀ (M2 : Nat) (j : Nat), 4 - j < M2 → (j ≤ 4) → ∀ (w1 : mwT), w1 h0 = some (.inr (0, [.int (nI 2), .int (nI b), .int (nI sd), .int tot, .int mov, .ref ab])) → w1 ab = some (eI cI b (tkF f sd x b j)) → (∀ zz : Nat, zz ≠ ab → w1 zz = w zz) → mwG X 0 0 w1 [(0, .ref h0), (1, .int (nI x)), (2, .int n), (3, .int (nI j))] [] 2 := by
    intro M2
    induction M2 with
    | zero => intro j hm2; exact absurd hm2 (Nat.not_lt_zero _)
    | succ M2 ih2 =>
      intro j hm2 hj w1 h_w1_h0 h_w1_ab fr_w1
      refine mg_iload_n C dX0_take_2 rfl ?_
      refine mg_iconst C (v := nI 4) dX0_take_3 (by decide) ?_
      refine mg_icmpN_ge C (tgt := 46) dX0_take_4 (by decide) (by omega) (by omega) (fun c_4 => ?_) (fun c_4 => ?_)
      · obtain rfl : j = 4 := by omega
        exact hR _ _ _ dX0_take_46 ⟨h_w1_ab, fr_w1⟩
      · refine mg_aload_n C dX0_take_7 rfl ?_
        refine mg_get C inT0 h_w1_h0 rfl 2 (by decide) kw_135 (Or.inr kw_136) rfl dX0_take_8 ?_
        refine mg_iload_n C dX0_take_11 rfl ?_
        refine mg_iload_n C dX0_take_12 rfl ?_
        refine mg_aload_n C dX0_take_13 rfl ?_
        refine mg_get C inT0 h_w1_h0 rfl 1 (by decide) kw_133 (Or.inr kw_134) rfl dX0_take_14 ?_
        refine mg_callN_i C (rest := []) (c_X6_placeOf D cI cS w1 sd j x b hs (by omega) hx (by omega) (by omega)) yq_X6_placeOf kn_12 kw_262 ⟨by decide, by decide⟩ ⟨Nat.le_of_ble_eq_true rfl, Nat.le_of_ble_eq_true rfl⟩ (Nat.le_of_ble_eq_true rfl) rfl rfl dX0_take_17 (fun r2 w3 ⟨e_r2, e_w3⟩ => ?_)
        rw [e_w3, e_r2]
        have hpl : hsN sd j x % b < b := Nat.mod_lt _ (by omega)
        refine mg_istore C (lv' := [(4, .int (nI (hsN sd j x % b))), (0, .ref h0), (1, .int (nI x)), (2, .int n), (3, .int (nI j))]) dX0_take_20 (by decide) rfl ?_
        refine mg_iload C dX0_take_22 rfl ?_
        refine mg_aload_n C dX0_take_24 rfl ?_
        refine mg_get C inT0 h_w1_h0 rfl 5 (by decide) kw_87 (Or.inl rfl) rfl dX0_take_25 ?_
        refine mg_alen C h_w1_ab dX0_take_28 ?_
        refine mg_icmpN_ge C (tgt := 40) dX0_take_29 (by decide) (by omega) (by omega) (fun c_29 => absurd c_29 (by omega)) (fun c_29 => ?_)
        refine mg_aload_n C dX0_take_32 rfl ?_
        refine mg_get C inT0 h_w1_h0 rfl 5 (by decide) kw_87 (Or.inl rfl) rfl dX0_take_33 ?_
        refine mg_iload C dX0_take_36 rfl ?_
        refine mg_iconst C (v := nI 1) dX0_take_38 (by decide) ?_
        refine mg_iastN C h_w1_ab (Nat.mod_lt _ (by omega)) (by omega) dX0_take_39 (fun w4 e_w4 => ?_)
        have h_w4_h0 : w4 h0 = some (.inr (0, [.int (nI 2), .int (nI b), .int (nI sd), .int tot, .int mov, .ref ab])) := (congrFun e_w4 _).trans ((mwu_ne (mw_oa h_w1_h0 h_w1_ab)).trans h_w1_h0)
        have h_w4_ab : w4 ab = some (eI cI b (upd (tkF f sd x b j) (hsN sd j x % b) (nI 1))) := (congrFun e_w4 _).trans mwu_eq
        have fr_w4 : ∀ zz : Nat, zz ≠ ab → w4 zz = w zz := fun zz g0 => (congrFun e_w4 zz).trans ((mwu_ne g0).trans (fr_w1 zz g0))
        refine mg_iinc C (v := nI (j + 1)) (lv' := [(3, .int (nI (j + 1))), (4, .int (nI (hsN sd j x % b))), (0, .ref h0), (1, .int (nI x)), (2, .int n)]) dX0_take_40 rfl (ni_inc _) (by decide) rfl ?_
        refine mg_goto C (tgt := 2) dX0_take_43 (by decide) ?_
        refine mg_sub (lv' := [(0, .ref h0), (1, .int (nI x)), (2, .int n), (3, .int (nI (j + 1)))]) [2, 3, 4, 0] rfl ?_
        exact ih2 ((j + 1)) (by omega) (by omega) w4 h_w4_h0 h_w4_ab (fun zz g0 => fr_w4 zz g0)
  refine mg_sub (lv' := [(0, .ref h0), (1, .int (nI x)), (2, .int n), (3, .int (nI 0))]) [1, 2, 3, 0] rfl ?_
  exact L2 (_ + 1) 0 (Nat.lt_succ_self _) (by omega) w hh hab (fun zz g0 => fr_w zz )

set_option maxHeartbeats 4000000 in
set_option maxRecDepth 20000 in
theorem c_X0_holds (D : va_G) (cI cS : ClassId) (w : mwT) (h0 ab b sd : Nat) (tot mov : Int32) (f : Nat → Int32) (x : Nat) (hh : w h0 = some (.inr (0, [.int (nI 2), .int (nI b), .int (nI sd), .int tot, .int mov, .ref ab]))) (hab : w ab = some (eI cI b f)) (hs : sd ≤ 999) (hb1 : 16 ≤ b) (hb2 : b ≤ 512) (hx : x ≤ 9999) : mMi yX0_holds cX0_holds 5 (some .int) (rmL 3) [.ref h0, .int (nI x)] D cI cS w (fun r w1 => r = hlF f sd x b 4 ∧ w1 = w) := by
  refine mMi.of (by decide) (Nat.le_of_ble_eq_true rfl) ?_
  intro X C hN hR
  refine mg_sub (lv' := [(0, .ref h0), (1, .int (nI x))]) [0, 1] rfl ?_
  refine mg_iconst C (v := nI 1) dX0_holds_0 (by decide) ?_
  refine mg_istore_n C (lv' := [(2, .int (nI 1)), (0, .ref h0), (1, .int (nI x))]) dX0_holds_1 rfl (by decide) rfl ?_
  refine mg_iconst C (v := nI 0) dX0_holds_2 (by decide) ?_
  refine mg_istore_n C (lv' := [(3, .int (nI 0)), (2, .int (nI 1)), (0, .ref h0), (1, .int (nI x))]) dX0_holds_3 rfl (by decide) rfl ?_
  have L4 : ∀ (M4 : Nat) (j : Nat), 4 - j < M4 → (j ≤ 4) → mwG X 0 0 w [(0, .ref h0), (1, .int (nI x)), (2, .int (hlF f sd x b j)), (3, .int (nI j))] [] 4 := by
    intro M4
    induction M4 with
    | zero => intro j hm4; exact absurd hm4 (Nat.not_lt_zero _)
    | succ M4 ih4 =>
      intro j hm4 hj
      refine mg_iload_n C dX0_holds_4 rfl ?_
      refine mg_iconst C (v := nI 4) dX0_holds_5 (by decide) ?_
      refine mg_icmpN_ge C (tgt := 50) dX0_holds_6 (by decide) (by omega) (by omega) (fun c_6 => ?_) (fun c_6 => ?_)
      · refine mg_iload_n C dX0_holds_50 rfl ?_
        obtain rfl : j = 4 := by omega
        exact hR _ _ _ _ dX0_holds_51 ⟨rfl, rfl⟩
      · refine mg_aload_n C dX0_holds_9 rfl ?_
        refine mg_get C inT0 hh rfl 2 (by decide) kw_135 (Or.inr kw_136) rfl dX0_holds_10 ?_
        refine mg_iload_n C dX0_holds_13 rfl ?_
        refine mg_iload_n C dX0_holds_14 rfl ?_
        refine mg_aload_n C dX0_holds_15 rfl ?_
        refine mg_get C inT0 hh rfl 1 (by decide) kw_133 (Or.inr kw_134) rfl dX0_holds_16 ?_
        refine mg_callN_i C (rest := []) (c_X6_placeOf D cI cS w sd j x b hs (by omega) hx (by omega) (by omega)) yq_X6_placeOf kn_12 kw_262 ⟨by decide, by decide⟩ ⟨Nat.le_of_ble_eq_true rfl, Nat.le_of_ble_eq_true rfl⟩ (Nat.le_of_ble_eq_true rfl) rfl rfl dX0_holds_19 (fun r1 w2 ⟨e_r1, e_w2⟩ => ?_)
        rw [e_w2, e_r1]
        have hpl : hsN sd j x % b < b := Nat.mod_lt _ (by omega)
        refine mg_istore C (lv' := [(4, .int (nI (hsN sd j x % b))), (0, .ref h0), (1, .int (nI x)), (2, .int (hlF f sd x b j)), (3, .int (nI j))]) dX0_holds_22 (by decide) rfl ?_
        refine mg_iload C dX0_holds_24 rfl ?_
        refine mg_aload_n C dX0_holds_26 rfl ?_
        refine mg_get C inT0 hh rfl 5 (by decide) kw_87 (Or.inl rfl) rfl dX0_holds_27 ?_
        refine mg_alen C hab dX0_holds_30 ?_
        refine mg_icmpN_ge C (tgt := 44) dX0_holds_31 (by decide) (by omega) (by omega) (fun c_31 => absurd c_31 (by omega)) (fun c_31 => ?_)
        refine mg_iload_n C dX0_holds_34 rfl ?_
        refine mg_aload_n C dX0_holds_35 rfl ?_
        refine mg_get C inT0 hh rfl 5 (by decide) kw_87 (Or.inl rfl) rfl dX0_holds_36 ?_
        refine mg_iload C dX0_holds_39 rfl ?_
        refine mg_ialdN C hab (Nat.mod_lt _ (by omega)) (by omega) dX0_holds_41 ?_
        refine mg_iand C (z := (hlF f sd x b j) &&& (f (hsN sd j x % b))) dX0_holds_42 rfl ?_
        refine mg_istore_n C (lv' := [(2, .int ((hlF f sd x b j) &&& (f (hsN sd j x % b)))), (4, .int (nI (hsN sd j x % b))), (0, .ref h0), (1, .int (nI x)), (3, .int (nI j))]) dX0_holds_43 rfl (by decide) rfl ?_
        refine mg_iinc C (v := nI (j + 1)) (lv' := [(3, .int (nI (j + 1))), (2, .int ((hlF f sd x b j) &&& (f (hsN sd j x % b)))), (4, .int (nI (hsN sd j x % b))), (0, .ref h0), (1, .int (nI x))]) dX0_holds_44 rfl (ni_inc _) (by decide) rfl ?_
        refine mg_goto C (tgt := 4) dX0_holds_47 (by decide) ?_
        refine mg_sub (lv' := [(0, .ref h0), (1, .int (nI x)), (2, .int ((hlF f sd x b j) &&& (f (hsN sd j x % b)))), (3, .int (nI (j + 1)))]) [3, 4, 1, 0] rfl ?_
        exact ih4 ((j + 1)) (by omega) (by omega)
  refine mg_sub (lv' := [(0, .ref h0), (1, .int (nI x)), (2, .int (nI 1)), (3, .int (nI 0))]) [2, 3, 1, 0] rfl ?_
  exact L4 (_ + 1) 0 (Nat.lt_succ_self _) (by omega)

set_option maxHeartbeats 4000000 in
set_option maxRecDepth 20000 in
theorem c_X0_keptAt (D : va_G) (cI cS : ClassId) (w : mwT) (h0 ab b sd : Nat) (tot mov : Int32) (f : Nat → Int32) (i pt : Int32) (hh : w h0 = some (.inr (0, [.int (nI 2), .int (nI b), .int (nI sd), .int tot, .int mov, .ref ab]))) (hab : w ab = some (eI cI b f)) (hs : sd ≤ 999) (hb1 : 16 ≤ b) (hb2 : b ≤ 512) : mMi yX0_keptAt cX0_keptAt 3 (some .int) (rmL 1) [.ref h0, .int i, .int pt] D cI cS w (fun r w1 => ((∃ a : Nat, a < b ∧ i = nI a ∧ pt = 0 ∧ r = f a) ∨ (r = -1 ∧ ¬ (ixN b i ∧ pt = 0))) ∧ w1 = w) := by
  refine mMi.of (by decide) (Nat.le_of_ble_eq_true rfl) ?_
  intro X C hN hR
  refine mg_sub (lv' := [(0, .ref h0), (1, .int i), (2, .int pt)]) [0, 1, 2] rfl ?_
  refine mg_iload_n C dX0_keptAt_0 rfl ?_
  refine mg_if_lt C (tgt := 17) dX0_keptAt_1 (by decide) (fun c_1 => ?_) (fun c_1 => ?_)
  · refine mg_iconst C (v := (-1 : Int32)) dX0_keptAt_17 (by decide) ?_
    refine mg_goto C (tgt := 27) dX0_keptAt_18 (by decide) ?_
    exact hR _ _ _ _ dX0_keptAt_27 ⟨Or.inr ⟨rfl, fun q => ix_lt (by omega) c_1 q.1⟩, rfl⟩
  · refine mg_iload_n C dX0_keptAt_4 rfl ?_
    refine mg_aload_n C dX0_keptAt_5 rfl ?_
    refine mg_get C inT0 hh rfl 5 (by decide) kw_87 (Or.inl rfl) rfl dX0_keptAt_6 ?_
    refine mg_alen C hab dX0_keptAt_9 ?_
    refine mg_icmp_ge C (tgt := 17) dX0_keptAt_10 (by decide) (fun c_10 => ?_) (fun c_10 => ?_)
    · refine mg_iconst C (v := (-1 : Int32)) dX0_keptAt_17 (by decide) ?_
      refine mg_goto C (tgt := 27) dX0_keptAt_18 (by decide) ?_
      exact hR _ _ _ _ dX0_keptAt_27 ⟨Or.inr ⟨rfl, fun q => ix_ge (by omega) c_10 q.1⟩, rfl⟩
    · refine mg_iload_n C dX0_keptAt_13 rfl ?_
      refine mg_if_eq C (tgt := 21) dX0_keptAt_14 (by decide) (fun c_14 => ?_) (fun c_14 => ?_)
      · obtain ⟨a, ha, rfl⟩ := ix_of (by omega) c_1 c_10
        refine mg_aload_n C dX0_keptAt_21 rfl ?_
        refine mg_get C inT0 hh rfl 5 (by decide) kw_87 (Or.inl rfl) rfl dX0_keptAt_22 ?_
        refine mg_iload_n C dX0_keptAt_25 rfl ?_
        refine mg_ialdN C hab (by omega) (by omega) dX0_keptAt_26 ?_
        exact hR _ _ _ _ dX0_keptAt_27 ⟨Or.inl ⟨a, ha, rfl, c_14, rfl⟩, rfl⟩
      · refine mg_iconst C (v := (-1 : Int32)) dX0_keptAt_17 (by decide) ?_
        refine mg_goto C (tgt := 27) dX0_keptAt_18 (by decide) ?_
        exact hR _ _ _ _ dX0_keptAt_27 ⟨Or.inr ⟨rfl, fun q => c_14 q.2⟩, rfl⟩

set_option maxHeartbeats 4000000 in
set_option maxRecDepth 20000 in
theorem c_X0_howManyKept (D : va_G) (cI cS : ClassId) (w : mwT) (h0 ab b sd : Nat) (tot mov : Int32) (f : Nat → Int32) (hh : w h0 = some (.inr (0, [.int (nI 2), .int (nI b), .int (nI sd), .int tot, .int mov, .ref ab]))) (hab : w ab = some (eI cI b f)) (hs : sd ≤ 999) (hb1 : 16 ≤ b) (hb2 : b ≤ 512) : mMi yX0_howManyKept cX0_howManyKept 1 (some .int) (rmL 2) [.ref h0] D cI cS w (fun r w1 => r = nI (cnz f b) ∧ w1 = w) := by
  refine mMi.of (by decide) (Nat.le_of_ble_eq_true rfl) ?_
  intro X C hN hR
  refine mg_sub (lv' := [(0, .ref h0)]) [0] rfl ?_
  refine mg_aload_n C dX0_howManyKept_0 rfl ?_
  refine mg_get C inT0 hh rfl 5 (by decide) kw_87 (Or.inl rfl) rfl dX0_howManyKept_1 ?_
  refine mg_callN_i C (rest := []) (c_X6_countNotZero D cI cS w ab b f hab (by omega)) yq_X6_countNotZero kn_21 kw_599 ⟨by decide, by decide⟩ ⟨Nat.le_of_ble_eq_true rfl, Nat.le_of_ble_eq_true rfl⟩ (Nat.le_of_ble_eq_true rfl) rfl rfl dX0_howManyKept_4 (fun r1 w2 ⟨e_r1, e_w2⟩ => ?_)
  rw [e_w2, e_r1]
  exact hR _ _ _ _ dX0_howManyKept_7 ⟨rfl, rfl⟩

set_option maxHeartbeats 4000000 in
set_option maxRecDepth 20000 in
theorem c_X0_forget (D : va_G) (cI cS : ClassId) (w : mwT) (h0 ab b sd : Nat) (tot mov : Int32) (f : Nat → Int32) (hh : w h0 = some (.inr (0, [.int (nI 2), .int (nI b), .int (nI sd), .int tot, .int mov, .ref ab]))) (hab : w ab = some (eI cI b f)) (hs : sd ≤ 999) (hb1 : 16 ≤ b) (hb2 : b ≤ 512) : mMv yX0_forget cX0_forget 1 none (rmL 2) [.ref h0] D cI cS w (fun w1 => w1 ab = some (eI cI b (cpy0 (fun _ => 0) f b)) ∧ ∀ c : Nat, c ≠ ab → w1 c = w c) := by
  refine mMv.of (by decide) (Nat.le_of_ble_eq_true rfl) ?_
  intro X C hN hR
  have fr_w : ∀ zz : Nat, w zz = w zz := fun _ => rfl
  refine mg_sub (lv' := [(0, .ref h0)]) [0] rfl ?_
  refine mg_aload_n C dX0_forget_0 rfl ?_
  refine mg_get C inT0 hh rfl 5 (by decide) kw_87 (Or.inl rfl) rfl dX0_forget_1 ?_
  refine mg_callN_v C (rest := []) (c_X6_clearRow D cI cS w ab b f hab (by omega)) yq_X6_clearRow kn_8 kw_213 ⟨by decide, by decide⟩ ⟨Nat.le_of_ble_eq_true rfl, Nat.le_of_ble_eq_true rfl⟩ (Nat.le_of_ble_eq_true rfl) rfl rfl dX0_forget_4 (fun w1 ⟨xh1, xf1⟩ => ?_)
  have h_w1_h0 : w1 h0 = some (.inr (0, [.int (nI 2), .int (nI b), .int (nI sd), .int tot, .int mov, .ref ab])) := (xf1 h0 (mw_oa hh hab)).trans hh
  have fr_w1 : ∀ zz : Nat, zz ≠ ab → w1 zz = w zz := fun zz g0 => (xf1 zz g0).trans (fr_w zz )
  exact hR _ _ _ dX0_forget_7 ⟨xh1, fr_w1⟩

set_option maxHeartbeats 4000000 in
set_option maxRecDepth 20000 in
theorem c_X0_join (D : va_G) (cI cS : ClassId) (w : mwT) (h0 h1 ab ab2 b sd : Nat) (tot mov tot2 mov2 : Int32) (f g : Nat → Int32) (hh : w h0 = some (.inr (0, [.int (nI 2), .int (nI b), .int (nI sd), .int tot, .int mov, .ref ab]))) (hh1 : w h1 = some (.inr (0, [.int (nI 2), .int (nI b), .int (nI sd), .int tot2, .int mov2, .ref ab2]))) (hab : w ab = some (eI cI b f)) (hab2 : w ab2 = some (eI cI b g)) (hs : sd ≤ 999) (hb1 : 16 ≤ b) (hb2 : b ≤ 512) (hne : ab ≠ ab2) : mMv yX0_join cX0_join 4 none (rmL 1) [.ref h0, .ref h1] D cI cS w (fun w1 => w1 ab = some (eI cI b (jnO f g b)) ∧ ∀ c : Nat, c ≠ ab → w1 c = w c) := by
  refine mMv.of (by decide) (Nat.le_of_ble_eq_true rfl) ?_
  intro X C hN hR
  have fr_w : ∀ zz : Nat, w zz = w zz := fun _ => rfl
  refine mg_sub (lv' := [(0, .ref h0), (1, .ref h1)]) [0, 1] rfl ?_
  refine mg_aload_n C dX0_join_0 rfl ?_
  refine mg_inst C hh1 rfl kw_132 dX0_join_1 ?_
  refine mg_ifN_eq C (tgt := 53) dX0_join_4 (by decide) (by decide) (fun c_4 => absurd c_4 (by decide)) (fun c_4 => ?_)
  refine mg_aload_n C dX0_join_7 rfl ?_
  refine mg_cast C hh1 rfl kw_132 dX0_join_8 ?_
  refine mg_astore_n C (lv' := [(2, .ref h1), (0, .ref h0), (1, .ref h1)]) dX0_join_11 rfl (by decide) rfl ?_
  refine mg_iconst C (v := nI 0) dX0_join_12 (by decide) ?_
  refine mg_istore_n C (lv' := [(3, .int (nI 0)), (2, .ref h1), (0, .ref h0), (1, .ref h1)]) dX0_join_13 rfl (by decide) rfl ?_
  have L14 : ∀ (M14 : Nat) (i : Nat), b - i < M14 → (i ≤ b) → ∀ (w1 : mwT), w1 h0 = some (.inr (0, [.int (nI 2), .int (nI b), .int (nI sd), .int tot, .int mov, .ref ab])) → w1 h1 = some (.inr (0, [.int (nI 2), .int (nI b), .int (nI sd), .int tot2, .int mov2, .ref ab2])) → w1 ab = some (eI cI b (jnO f g i)) → w1 ab2 = some (eI cI b g) → (∀ zz : Nat, zz ≠ ab → w1 zz = w zz) → mwG X 0 0 w1 [(0, .ref h0), (1, .ref h1), (2, .ref h1), (3, .int (nI i))] [] 14 := by
    intro M14
    induction M14 with
    | zero => intro i hm14; exact absurd hm14 (Nat.not_lt_zero _)
    | succ M14 ih14 =>
      intro i hm14 hi w1 h_w1_h0 h_w1_h1 h_w1_ab h_w1_ab2 fr_w1
      refine mg_iload_n C dX0_join_14 rfl ?_
      refine mg_aload_n C dX0_join_15 rfl ?_
      refine mg_get C inT0 h_w1_h0 rfl 5 (by decide) kw_87 (Or.inl rfl) rfl dX0_join_16 ?_
      refine mg_alen C h_w1_ab dX0_join_19 ?_
      refine mg_icmpN_ge C (tgt := 53) dX0_join_20 (by decide) (by omega) (by omega) (fun c_20 => ?_) (fun c_20 => ?_)
      · have ei : i = b := by omega
        subst ei
        exact hR _ _ _ dX0_join_53 ⟨h_w1_ab, fr_w1⟩
      · refine mg_iload_n C dX0_join_23 rfl ?_
        refine mg_aload_n C dX0_join_24 rfl ?_
        refine mg_get C inT0 h_w1_h1 rfl 5 (by decide) kw_87 (Or.inl rfl) rfl dX0_join_25 ?_
        refine mg_alen C h_w1_ab2 dX0_join_28 ?_
        refine mg_icmpN_ge C (tgt := 53) dX0_join_29 (by decide) (by omega) (by omega) (fun c_29 => absurd c_29 (by omega)) (fun c_29 => ?_)
        refine mg_aload_n C dX0_join_32 rfl ?_
        refine mg_get C inT0 h_w1_h0 rfl 5 (by decide) kw_87 (Or.inl rfl) rfl dX0_join_33 ?_
        refine mg_iload_n C dX0_join_36 rfl ?_
        refine mg_dup2 C dX0_join_37 rfl rfl ?_
        refine mg_ialdN C h_w1_ab (by omega) (by omega) dX0_join_38 ?_
        refine mg_aload_n C dX0_join_39 rfl ?_
        refine mg_get C inT0 h_w1_h1 rfl 5 (by decide) kw_87 (Or.inl rfl) rfl dX0_join_40 ?_
        refine mg_iload_n C dX0_join_43 rfl ?_
        refine mg_ialdN C h_w1_ab2 (by omega) (by omega) dX0_join_44 ?_
        refine mg_ior C (z := ((jnO f g i) i) ||| (g i)) dX0_join_45 rfl ?_
        refine mg_iastN C h_w1_ab (by omega) (by omega) dX0_join_46 (fun w2 e_w2 => ?_)
        have h_w2_h0 : w2 h0 = some (.inr (0, [.int (nI 2), .int (nI b), .int (nI sd), .int tot, .int mov, .ref ab])) := (congrFun e_w2 _).trans ((mwu_ne (mw_oa h_w1_h0 h_w1_ab)).trans h_w1_h0)
        have h_w2_h1 : w2 h1 = some (.inr (0, [.int (nI 2), .int (nI b), .int (nI sd), .int tot2, .int mov2, .ref ab2])) := (congrFun e_w2 _).trans ((mwu_ne (mw_oa h_w1_h1 h_w1_ab)).trans h_w1_h1)
        have h_w2_ab : w2 ab = some (eI cI b (upd (jnO f g i) i (((jnO f g i) i) ||| (g i)))) := (congrFun e_w2 _).trans mwu_eq
        have h_w2_ab2 : w2 ab2 = some (eI cI b g) := (congrFun e_w2 _).trans ((mwu_ne (Ne.symm hne)).trans h_w1_ab2)
        have fr_w2 : ∀ zz : Nat, zz ≠ ab → w2 zz = w zz := fun zz g0 => (congrFun e_w2 zz).trans ((mwu_ne g0).trans (fr_w1 zz g0))
        refine mg_iinc C (v := nI (i + 1)) (lv' := [(3, .int (nI (i + 1))), (0, .ref h0), (1, .ref h1), (2, .ref h1)]) dX0_join_47 rfl (ni_inc _) (by decide) rfl ?_
        refine mg_goto C (tgt := 14) dX0_join_50 (by decide) ?_
        refine mg_sub (lv' := [(0, .ref h0), (1, .ref h1), (2, .ref h1), (3, .int (nI (i + 1)))]) [1, 2, 3, 0] rfl ?_
        exact ih14 ((i + 1)) (by omega) (by omega) w2 h_w2_h0 h_w2_h1 h_w2_ab h_w2_ab2 (fun zz g0 => fr_w2 zz g0)
  refine mg_sub (lv' := [(0, .ref h0), (1, .ref h1), (2, .ref h1), (3, .int (nI 0))]) [2, 3, 1, 0] rfl ?_
  exact L14 (_ + 1) 0 (Nat.lt_succ_self _) (Nat.zero_le _) w hh hh1 hab hab2 (fun zz g0 => fr_w zz )

set_option maxHeartbeats 4000000 in
set_option maxRecDepth 20000 in
theorem c_X0_init (D : va_G) (cI cS : ClassId) (w : mwT) (h0 b sd : Nat) (hh : w h0 = some (.inr (0, [.int 0, .int 0, .int 0, .int 0, .int 0, .null]))) (hb1 : 16 ≤ b) (hb2 : b ≤ 512) : mMv yX0_init cX0_init 3 none (rmA 2 1 512) [.ref h0, .int (nI b), .int (nI sd)] D cI cS w (fun w1 => ∃ qa : Nat, w qa = none ∧ w1 h0 = some (.inr (0, [.int (nI 2), .int (nI b), .int (nI sd), .int (nI 0), .int (nI 0), .ref qa])) ∧ w1 qa = some (eI cI b (fun _ => 0)) ∧ ∀ z : Nat, z ≠ h0 → z ≠ qa → w1 z = w z) := by
  refine mMv.of (by decide) (Nat.le_of_ble_eq_true rfl) ?_
  intro X C hN hR
  have fr_w : ∀ zz : Nat, w zz = w zz := fun _ => rfl
  refine mg_sub (lv' := [(0, .ref h0), (1, .int (nI b)), (2, .int (nI sd))]) [0, 1, 2] rfl ?_
  refine mg_aload_n C dX0_init_0 rfl ?_
  refine mg_iconst C (v := nI 2) dX0_init_1 (by decide) ?_
  refine mg_iload_n C dX0_init_2 rfl ?_
  refine mg_iload_n C dX0_init_3 rfl ?_
  refine mg_callI_v C (rest := []) (c_X4_init_F D cI cS w h0 2 b sd hh) yq_X4_init kw_88 kw_70 rfl ⟨by decide, by decide⟩ ⟨Nat.le_of_ble_eq_true rfl, Nat.le_of_ble_eq_true rfl⟩ (Nat.le_of_ble_eq_true rfl) rfl rfl dX0_init_4 (fun w1 ⟨xh1, xf1⟩ => ?_)
  refine mg_widen (k := 0) (n := 0) (by decide) (by decide) ?_
  have fr_w1 : ∀ zz : Nat, zz ≠ h0 → w1 zz = w zz := fun zz g0 => (xf1 zz g0).trans (fr_w zz )
  refine mg_aload_n C dX0_init_7 rfl ?_
  refine mg_iload_n C dX0_init_8 rfl ?_
  refine mg_newa C kw_19 (by omega) ⟨by decide, by (show 0 + b ≤ 512; omega)⟩ dX0_init_9 (fun q2 w3 n_q2 e_w3 => ?_)
  refine mg_widen (k := 1) (n := 512) (by decide) (by omega) ?_
  have nd_q2_h0 : h0 ≠ q2 := mw_nn xh1 n_q2
  have nz_q2 : w q2 = none := (fr_w1 q2 (Ne.symm nd_q2_h0)).symm.trans n_q2
  have h_w3_h0 : w3 h0 = some (.inr (0, [.int (nI 2), .int (nI b), .int (nI sd), .int (nI 0), .int (nI 0), .null])) := (congrFun e_w3 _).trans ((mwu_ne nd_q2_h0).trans xh1)
  have h_w3_q2 : w3 q2 = some (eI cI b (fun _ => 0)) := (congrFun e_w3 _).trans mwu_eq
  have fr_w3 : ∀ zz : Nat, zz ≠ h0 → zz ≠ q2 → w3 zz = w zz := fun zz g0 g1 => (congrFun e_w3 zz).trans ((mwu_ne g1).trans (fr_w1 zz g0))
  refine mg_putF C (fs' := [.int (nI 2), .int (nI b), .int (nI sd), .int (nI 0), .int (nI 0), .ref q2]) inT0 h_w3_h0 rfl 5 (by decide) kw_87 (Or.inl rfl) tyX0_ok nmX0 rfl hN rfl rfl rfl rfl (Nat.le_of_ble_eq_true rfl) dX0_init_11 (fun w4 e_w4 => ?_)
  have h_w4_h0 : w4 h0 = some (.inr (0, [.int (nI 2), .int (nI b), .int (nI sd), .int (nI 0), .int (nI 0), .ref q2])) := (congrFun e_w4 _).trans mwu_eq
  have h_w4_q2 : w4 q2 = some (eI cI b (fun _ => 0)) := (congrFun e_w4 _).trans ((mwu_ne (Ne.symm nd_q2_h0)).trans h_w3_q2)
  have fr_w4 : ∀ zz : Nat, zz ≠ h0 → zz ≠ q2 → w4 zz = w zz := fun zz g0 g1 => (congrFun e_w4 zz).trans ((mwu_ne g0).trans (fr_w3 zz g0 g1))
  exact hR _ _ _ dX0_init_14 ⟨q2, nz_q2, h_w4_h0, h_w4_q2, fr_w4⟩

set_option maxHeartbeats 4000000 in
set_option maxRecDepth 20000 in
theorem c_X0_twin (D : va_G) (cI cS : ClassId) (w : mwT) (h0 ab b sd : Nat) (tot mov : Int32) (f : Nat → Int32) (hh : w h0 = some (.inr (0, [.int (nI 2), .int (nI b), .int (nI sd), .int tot, .int mov, .ref ab]))) (h_ab : w ab = some (eI cI b f)) (hb1 : 16 ≤ b) (hb2 : b ≤ 512) : mMq yX0_twin cX0_twin 2 (some (.object "SketchSpans$Sketch")) (rmA 3 2 518) [.ref h0] D cI cS w (fun r w1 => ∃ q qa : Nat, r = some q ∧ w q = none ∧ w qa = none ∧ q ≠ qa ∧ w1 q = some (.inr (0, [.int (nI 2), .int (nI b), .int (nI sd), .int tot, .int mov, .ref qa])) ∧ w1 qa = some (eI cI b (cpy0 f (fun _ => 0) b)) ∧ ∀ z : Nat, z ≠ q → z ≠ qa → w1 z = w z) := by
  refine mMq.of (by decide) (Nat.le_of_ble_eq_true rfl) ?_
  intro X C hN hR
  have fr_w : ∀ zz : Nat, w zz = w zz := fun _ => rfl
  refine mg_sub (lv' := [(0, .ref h0)]) [0] rfl ?_
  refine mg_new C (ci := 0) (fs := [.int 0, .int 0, .int 0, .int 0, .int 0, .null]) inT0 tyX0_ok kw_132 kw_54 kw_55 rfl df_X0 ⟨by decide, by decide⟩ dX0_twin_0 (fun q1 w2 n_q1 e_w2 => ?_)
  refine mg_widen (k := 1) (n := 6) (by decide) (by decide) ?_
  have nd_q1_h0 : h0 ≠ q1 := mw_nn hh n_q1
  have nd_q1_ab : ab ≠ q1 := mw_nn h_ab n_q1
  have nz_q1 : w q1 = none := (fr_w q1 ).symm.trans n_q1
  have h_w2_h0 : w2 h0 = some (.inr (0, [.int (nI 2), .int (nI b), .int (nI sd), .int tot, .int mov, .ref ab])) := (congrFun e_w2 _).trans ((mwu_ne nd_q1_h0).trans hh)
  have h_w2_ab : w2 ab = some (eI cI b f) := (congrFun e_w2 _).trans ((mwu_ne nd_q1_ab).trans h_ab)
  have h_w2_q1 : w2 q1 = some (.inr (0, [.int 0, .int 0, .int 0, .int 0, .int 0, .null])) := (congrFun e_w2 _).trans mwu_eq
  have fr_w2 : ∀ zz : Nat, zz ≠ q1 → w2 zz = w zz := fun zz g0 => (congrFun e_w2 zz).trans ((mwu_ne g0).trans (fr_w zz ))
  refine mg_dup C dX0_twin_3 rfl ?_
  refine mg_aload_n C dX0_twin_4 rfl ?_
  refine mg_get C inT0 h_w2_h0 rfl 1 (by decide) kw_133 (Or.inr kw_134) rfl dX0_twin_5 ?_
  refine mg_aload_n C dX0_twin_8 rfl ?_
  refine mg_get C inT0 h_w2_h0 rfl 2 (by decide) kw_135 (Or.inr kw_136) rfl dX0_twin_9 ?_
  refine mg_callI_v C (rest := [.ref q1]) (c_X0_init D cI cS w2 q1 b sd h_w2_q1 hb1 hb2) yq_X0_init kw_137 kw_85 rfl ⟨by decide, by decide⟩ ⟨Nat.le_of_ble_eq_true rfl, Nat.le_of_ble_eq_true rfl⟩ (Nat.le_of_ble_eq_true rfl) rfl rfl dX0_twin_12 (fun w3 ⟨q3a, n_q3a, xh3, xkq3a, xf3⟩ => ?_)
  refine mg_widen (k := 2) (n := 518) (by decide) (by decide) ?_
  have nd_q3a_h0 : h0 ≠ q3a := mw_nn h_w2_h0 n_q3a
  have nd_q3a_ab : ab ≠ q3a := mw_nn h_w2_ab n_q3a
  have nd_q3a_q1 : q1 ≠ q3a := mw_nn h_w2_q1 n_q3a
  have nz_q3a : w q3a = none := (fr_w2 q3a (Ne.symm nd_q3a_q1)).symm.trans n_q3a
  have h_w3_h0 : w3 h0 = some (.inr (0, [.int (nI 2), .int (nI b), .int (nI sd), .int tot, .int mov, .ref ab])) := (xf3 h0 nd_q1_h0 (mw_nn h_w2_h0 n_q3a)).trans h_w2_h0
  have h_w3_ab : w3 ab = some (eI cI b f) := (xf3 ab nd_q1_ab (mw_nn h_w2_ab n_q3a)).trans h_w2_ab
  have fr_w3 : ∀ zz : Nat, zz ≠ q1 → zz ≠ q3a → w3 zz = w zz := fun zz g0 g1 => (xf3 zz g0 g1).trans (fr_w2 zz g0)
  refine mg_astore_n C (lv' := [(1, .ref q1), (0, .ref h0)]) dX0_twin_15 rfl (by decide) rfl ?_
  refine mg_aload_n C dX0_twin_16 rfl ?_
  refine mg_aload_n C dX0_twin_17 rfl ?_
  refine mg_callU_v C xh3 rfl (rest := []) (c_X4_copyTotals_F D cI cS w3 q1 h0 2 b sd (nI 0) (nI 0) tot mov (.ref q3a) (.ref ab) xh3 h_w3_h0 (Ne.symm nd_q1_h0)) yq_X4_copyTotals kw_138 kw_139 dq_copyTotals (by decide +kernel) kw_141 kw_140 ⟨by decide, by decide⟩ ⟨Nat.le_of_ble_eq_true rfl, Nat.le_of_ble_eq_true rfl⟩ (Nat.le_of_ble_eq_true rfl) rfl rfl dX0_twin_18 (fun w4 ⟨xh4, xf4⟩ => ?_)
  refine mg_widen (k := 2) (n := 518) (by decide) (by decide) ?_
  have h_w4_h0 : w4 h0 = some (.inr (0, [.int (nI 2), .int (nI b), .int (nI sd), .int tot, .int mov, .ref ab])) := (xf4 h0 nd_q1_h0).trans h_w3_h0
  have h_w4_ab : w4 ab = some (eI cI b f) := (xf4 ab nd_q1_ab).trans h_w3_ab
  have h_w4_q3a : w4 q3a = some (eI cI b (fun _ => 0)) := (xf4 q3a (Ne.symm nd_q3a_q1)).trans xkq3a
  have fr_w4 : ∀ zz : Nat, zz ≠ q1 → zz ≠ q3a → w4 zz = w zz := fun zz g0 g1 => (xf4 zz g0).trans (fr_w3 zz g0 g1)
  refine mg_aload_n C dX0_twin_21 rfl ?_
  refine mg_get C inT0 h_w4_h0 rfl 5 (by decide) kw_87 (Or.inl rfl) rfl dX0_twin_22 ?_
  refine mg_aload_n C dX0_twin_25 rfl ?_
  refine mg_get C inT0 xh4 rfl 5 (by decide) kw_87 (Or.inl rfl) rfl dX0_twin_26 ?_
  refine mg_callN_v C (rest := []) (c_X6_copyRow D cI cS w4 ab q3a b f (fun _ => 0) h_w4_ab h_w4_q3a (by omega) nd_q3a_ab) yq_X6_copyRow kn_2 kw_143 ⟨by decide, by decide⟩ ⟨Nat.le_of_ble_eq_true rfl, Nat.le_of_ble_eq_true rfl⟩ (Nat.le_of_ble_eq_true rfl) rfl rfl dX0_twin_29 (fun w5 ⟨xh5, xf5⟩ => ?_)
  refine mg_widen (k := 2) (n := 518) (by decide) (by decide) ?_
  have h_w5_h0 : w5 h0 = some (.inr (0, [.int (nI 2), .int (nI b), .int (nI sd), .int tot, .int mov, .ref ab])) := (xf5 h0 nd_q3a_h0).trans h_w4_h0
  have h_w5_ab : w5 ab = some (eI cI b f) := (xf5 ab nd_q3a_ab).trans h_w4_ab
  have h_w5_q1 : w5 q1 = some (.inr (0, [.int (nI 2), .int (nI b), .int (nI sd), .int tot, .int mov, .ref q3a])) := (xf5 q1 nd_q3a_q1).trans xh4
  have fr_w5 : ∀ zz : Nat, zz ≠ q1 → zz ≠ q3a → w5 zz = w zz := fun zz g0 g1 => (xf5 zz g1).trans (fr_w4 zz g0 g1)
  refine mg_aload_n C dX0_twin_32 rfl ?_
  exact hR (some q1) _ _ _ dX0_twin_33 ⟨q1, q3a, rfl, nz_q1, nz_q3a, nd_q3a_q1, h_w5_q1, xh5, fr_w5⟩
end
section
set_option maxHeartbeats 4000000 in
set_option maxRecDepth 20000 in
theorem c_X5_mayTake (D : va_G) (cI cS : ClassId) (w : mwT) (h0 : Nat) (x : Int32) : mMi yX5_mayTake cX5_mayTake 2 (some .boolean) (rmL 1) [.ref h0, .int x] D cI cS w (fun r w1 => ((r = nI 1 ∧ tkOk x) ∨ (r = nI 0 ∧ ¬ tkOk x)) ∧ w1 = w) := by
  refine mMz.of (by decide) (Nat.le_of_ble_eq_true rfl) ?_
  intro X C hN hR
  refine mg_sub (lv' := [(0, .ref h0), (1, .int x)]) [0, 1] rfl ?_
  refine mg_iload_n C dX5_mayTake_0 rfl ?_
  refine mg_sipush C (v := (-1000 : Int32)) dX5_mayTake_1 (by decide) ?_
  refine mg_icmp_lt C (tgt := 22) dX5_mayTake_4 (by decide) (fun c_4 => ?_) (fun c_4 => ?_)
  · refine mg_iconst C (v := nI 0) dX5_mayTake_22 (by decide) ?_
    exact hR _ _ _ _ dX5_mayTake_23 (Or.inl rfl) ⟨Or.inr ⟨rfl, fun q => q.1 c_4⟩, rfl⟩
  · refine mg_iload_n C dX5_mayTake_7 rfl ?_
    refine mg_sipush C (v := nI 1000) dX5_mayTake_8 (by decide) ?_
    refine mg_icmp_gt C (tgt := 22) dX5_mayTake_11 (by decide) (fun c_11 => ?_) (fun c_11 => ?_)
    · refine mg_iconst C (v := nI 0) dX5_mayTake_22 (by decide) ?_
      exact hR _ _ _ _ dX5_mayTake_23 (Or.inl rfl) ⟨Or.inr ⟨rfl, fun q => q.2.1 c_11⟩, rfl⟩
    · refine mg_iload_n C dX5_mayTake_14 rfl ?_
      refine mg_if_eq C (tgt := 22) dX5_mayTake_15 (by decide) (fun c_15 => ?_) (fun c_15 => ?_)
      · refine mg_iconst C (v := nI 0) dX5_mayTake_22 (by decide) ?_
        exact hR _ _ _ _ dX5_mayTake_23 (Or.inl rfl) ⟨Or.inr ⟨rfl, fun q => q.2.2 c_15⟩, rfl⟩
      · refine mg_iconst C (v := nI 1) dX5_mayTake_18 (by decide) ?_
        refine mg_goto C (tgt := 23) dX5_mayTake_19 (by decide) ?_
        exact hR _ _ _ _ dX5_mayTake_23 (Or.inr rfl) ⟨Or.inl ⟨rfl, c_4, c_11, c_15⟩, rfl⟩

set_option maxHeartbeats 4000000 in
set_option maxRecDepth 20000 in
theorem c_X5_placeIn (D : va_G) (cI cS : ClassId) (w : mwT) (h0 ab c sd : Nat) (tot mov : Int32) (f : Nat → Int32) (j x : Nat) (hh : w h0 = some (.inr (4, [.int (nI 1), .int (nI c), .int (nI sd), .int tot, .int mov, .ref ab]))) (hab : w ab = some (eI cI (4 * c) f)) (hs : sd ≤ 999) (hc1 : 4 ≤ c) (hc2 : c ≤ 64) (hj : j < 4) (hx : x ≤ 9999) : mMi yX5_placeIn cX5_placeIn 3 (some .int) (rmL 3) [.ref h0, .int (nI j), .int (nI x)] D cI cS w (fun r w1 => r = nI (j * c + hsN sd j x % c) ∧ w1 = w) := by
  refine mMi.of (by decide) (Nat.le_of_ble_eq_true rfl) ?_
  intro X C hN hR
  refine mg_sub (lv' := [(0, .ref h0), (1, .int (nI j)), (2, .int (nI x))]) [0, 1, 2] rfl ?_
  refine mg_iload_n C dX5_placeIn_0 rfl ?_
  refine mg_aload_n C dX5_placeIn_1 rfl ?_
  refine mg_get C inT5 hh rfl 1 (by decide) kw_185 (Or.inr kw_186) rfl dX5_placeIn_2 ?_
  refine mg_imul C (z := nI (j * c)) dX5_placeIn_5 (pk_mul _ _) ?_
  refine mg_aload_n C dX5_placeIn_6 rfl ?_
  refine mg_get C inT5 hh rfl 2 (by decide) kw_187 (Or.inr kw_188) rfl dX5_placeIn_7 ?_
  refine mg_iload_n C dX5_placeIn_10 rfl ?_
  refine mg_iload_n C dX5_placeIn_11 rfl ?_
  refine mg_aload_n C dX5_placeIn_12 rfl ?_
  refine mg_get C inT5 hh rfl 1 (by decide) kw_185 (Or.inr kw_186) rfl dX5_placeIn_13 ?_
  refine mg_callN_i C (rest := [.int (nI (j * c))]) (c_X6_placeOf D cI cS w sd j x c hs (by omega) hx (by omega) (by omega)) yq_X6_placeOf kn_18 kw_262 ⟨by decide, by decide⟩ ⟨Nat.le_of_ble_eq_true rfl, Nat.le_of_ble_eq_true rfl⟩ (Nat.le_of_ble_eq_true rfl) rfl rfl dX5_placeIn_16 (fun r1 w2 ⟨e_r1, e_w2⟩ => ?_)
  rw [e_w2, e_r1]
  have hpl : hsN sd j x % c < c := Nat.mod_lt _ (by omega)
  refine mg_iadd C (z := nI ((j * c) + (hsN sd j x % c))) dX5_placeIn_19 (nI_add _ _) ?_
  exact hR _ _ _ _ dX5_placeIn_20 ⟨rfl, rfl⟩

set_option maxHeartbeats 4000000 in
set_option maxRecDepth 20000 in
theorem c_X5_take (D : va_G) (cI cS : ClassId) (w : mwT) (h0 ab c sd : Nat) (tot mov : Int32) (f : Nat → Int32) (x : Nat) (n : Int32) (hh : w h0 = some (.inr (4, [.int (nI 1), .int (nI c), .int (nI sd), .int tot, .int mov, .ref ab]))) (hab : w ab = some (eI cI (4 * c) f)) (hs : sd ≤ 999) (hc1 : 4 ≤ c) (hc2 : c ≤ 64) (hx : x ≤ 9999) : mMv yX5_take cX5_take 5 none (rmL 4) [.ref h0, .int (nI x), .int n] D cI cS w (fun w1 => w1 ab = some (eI cI (4 * c) (tkT f sd x c n 4)) ∧ ∀ z : Nat, z ≠ ab → w1 z = w z) := by
  refine mMv.of (by decide) (Nat.le_of_ble_eq_true rfl) ?_
  intro X C hN hR
  have fr_w : ∀ zz : Nat, w zz = w zz := fun _ => rfl
  refine mg_sub (lv' := [(0, .ref h0), (1, .int (nI x)), (2, .int n)]) [0, 1, 2] rfl ?_
  refine mg_iconst C (v := nI 0) dX5_take_0 (by decide) ?_
  refine mg_istore_n C (lv' := [(3, .int (nI 0)), (0, .ref h0), (1, .int (nI x)), (2, .int n)]) dX5_take_1 rfl (by decide) rfl ?_
  have L2 : ∀ (M2 : Nat) (j : Nat), 4 - j < M2 → (j ≤ 4) → ∀ (w1 : mwT), w1 h0 = some (.inr (4, [.int (nI 1), .int (nI c), .int (nI sd), .int tot, .int mov, .ref ab])) → w1 ab = some (eI cI (4 * c) (tkT f sd x c n j)) → (∀ zz : Nat, zz ≠ ab → w1 zz = w zz) → mwG X 0 0 w1 [(0, .ref h0), (1, .int (nI x)), (2, .int n), (3, .int (nI j))] [] 2 := by
    intro M2
    induction M2 with
    | zero => intro j hm2; exact absurd hm2 (Nat.not_lt_zero _)
    | succ M2 ih2 =>
      intro j hm2 hj w1 h_w1_h0 h_w1_ab fr_w1
      refine mg_iload_n C dX5_take_2 rfl ?_
      refine mg_iconst C (v := nI 4) dX5_take_3 (by decide) ?_
      refine mg_icmpN_ge C (tgt := 42) dX5_take_4 (by decide) (by omega) (by omega) (fun c_4 => ?_) (fun c_4 => ?_)
      · obtain rfl : j = 4 := by omega
        exact hR _ _ _ dX5_take_42 ⟨h_w1_ab, fr_w1⟩
      · refine mg_aload_n C dX5_take_7 rfl ?_
        refine mg_iload_n C dX5_take_8 rfl ?_
        refine mg_iload_n C dX5_take_9 rfl ?_
        refine mg_callV_i C h_w1_h0 rfl (rest := []) (c_X5_placeIn D cI cS w1 h0 ab c sd tot mov (tkT f sd x c n j) j x h_w1_h0 h_w1_ab hs hc1 hc2 (by omega) hx) yq_X5_placeIn kw_320 kw_321 kw_322 ⟨by decide, by decide⟩ ⟨Nat.le_of_ble_eq_true rfl, Nat.le_of_ble_eq_true rfl⟩ (Nat.le_of_ble_eq_true rfl) rfl rfl dX5_take_10 (fun r2 w3 ⟨e_r2, e_w3⟩ => ?_)
        rw [e_w3, e_r2]
        have hpl : hsN sd j x % c < c := Nat.mod_lt _ (by omega)
        have hjc := jc_le (c := c) (show j < 4 by omega)
        refine mg_istore C (lv' := [(4, .int (nI (j * c + hsN sd j x % c))), (0, .ref h0), (1, .int (nI x)), (2, .int n), (3, .int (nI j))]) dX5_take_13 (by decide) rfl ?_
        refine mg_iload C dX5_take_15 rfl ?_
        refine mg_aload_n C dX5_take_17 rfl ?_
        refine mg_get C inT5 h_w1_h0 rfl 5 (by decide) kw_82 (Or.inl rfl) rfl dX5_take_18 ?_
        refine mg_alen C h_w1_ab dX5_take_21 ?_
        refine mg_icmpN_ge C (tgt := 36) dX5_take_22 (by decide) (by omega) (by omega) (fun c_22 => absurd c_22 (by omega)) (fun c_22 => ?_)
        refine mg_aload_n C dX5_take_25 rfl ?_
        refine mg_get C inT5 h_w1_h0 rfl 5 (by decide) kw_82 (Or.inl rfl) rfl dX5_take_26 ?_
        refine mg_iload C dX5_take_29 rfl ?_
        refine mg_dup2 C dX5_take_31 rfl rfl ?_
        refine mg_ialdN C h_w1_ab (by omega) (by omega) dX5_take_32 ?_
        refine mg_iload_n C dX5_take_33 rfl ?_
        refine mg_iadd C (z := ((tkT f sd x c n j) (j * c + hsN sd j x % c)) + n) dX5_take_34 rfl ?_
        refine mg_iastN C h_w1_ab (by omega) (by omega) dX5_take_35 (fun w4 e_w4 => ?_)
        have h_w4_h0 : w4 h0 = some (.inr (4, [.int (nI 1), .int (nI c), .int (nI sd), .int tot, .int mov, .ref ab])) := (congrFun e_w4 _).trans ((mwu_ne (mw_oa h_w1_h0 h_w1_ab)).trans h_w1_h0)
        have h_w4_ab : w4 ab = some (eI cI (4 * c) (upd (tkT f sd x c n j) (j * c + hsN sd j x % c) (((tkT f sd x c n j) (j * c + hsN sd j x % c)) + n))) := (congrFun e_w4 _).trans mwu_eq
        have fr_w4 : ∀ zz : Nat, zz ≠ ab → w4 zz = w zz := fun zz g0 => (congrFun e_w4 zz).trans ((mwu_ne g0).trans (fr_w1 zz g0))
        refine mg_iinc C (v := nI (j + 1)) (lv' := [(3, .int (nI (j + 1))), (4, .int (nI (j * c + hsN sd j x % c))), (0, .ref h0), (1, .int (nI x)), (2, .int n)]) dX5_take_36 rfl (ni_inc _) (by decide) rfl ?_
        refine mg_goto C (tgt := 2) dX5_take_39 (by decide) ?_
        refine mg_sub (lv' := [(0, .ref h0), (1, .int (nI x)), (2, .int n), (3, .int (nI (j + 1)))]) [2, 3, 4, 0] rfl ?_
        exact ih2 ((j + 1)) (by omega) (by omega) w4 h_w4_h0 h_w4_ab (fun zz g0 => fr_w4 zz g0)
  refine mg_sub (lv' := [(0, .ref h0), (1, .int (nI x)), (2, .int n), (3, .int (nI 0))]) [1, 2, 3, 0] rfl ?_
  exact L2 (_ + 1) 0 (Nat.lt_succ_self _) (by omega) w hh hab (fun zz g0 => fr_w zz )

set_option maxHeartbeats 4000000 in
set_option maxRecDepth 20000 in
theorem c_X5_atMost (D : va_G) (cI cS : ClassId) (w : mwT) (h0 ab c sd : Nat) (tot mov : Int32) (f : Nat → Int32) (x : Nat) (hh : w h0 = some (.inr (4, [.int (nI 1), .int (nI c), .int (nI sd), .int tot, .int mov, .ref ab]))) (hab : w ab = some (eI cI (4 * c) f)) (hs : sd ≤ 999) (hc1 : 4 ≤ c) (hc2 : c ≤ 64) (hx : x ≤ 9999) : mMi yX5_atMost cX5_atMost 5 (some .int) (rmL 4) [.ref h0, .int (nI x)] D cI cS w (fun r w1 => r = mnT f sd x c 4 ∧ w1 = w) := by
  refine mMi.of (by decide) (Nat.le_of_ble_eq_true rfl) ?_
  intro X C hN hR
  refine mg_sub (lv' := [(0, .ref h0), (1, .int (nI x))]) [0, 1] rfl ?_
  refine mg_ldc C (v := nI 10000000) dX5_atMost_0 kw_504 (by decide) ?_
  refine mg_istore_n C (lv' := [(2, .int (nI 10000000)), (0, .ref h0), (1, .int (nI x))]) dX5_atMost_2 rfl (by decide) rfl ?_
  refine mg_iconst C (v := nI 0) dX5_atMost_3 (by decide) ?_
  refine mg_istore_n C (lv' := [(3, .int (nI 0)), (2, .int (nI 10000000)), (0, .ref h0), (1, .int (nI x))]) dX5_atMost_4 rfl (by decide) rfl ?_
  have L5 : ∀ (M5 : Nat) (j : Nat), 4 - j < M5 → (j ≤ 4) → mwG X 0 0 w [(0, .ref h0), (1, .int (nI x)), (2, .int (mnT f sd x c j)), (3, .int (nI j))] [] 5 := by
    intro M5
    induction M5 with
    | zero => intro j hm5; exact absurd hm5 (Nat.not_lt_zero _)
    | succ M5 ih5 =>
      intro j hm5 hj
      refine mg_iload_n C dX5_atMost_5 rfl ?_
      refine mg_iconst C (v := nI 4) dX5_atMost_6 (by decide) ?_
      refine mg_icmpN_ge C (tgt := 46) dX5_atMost_7 (by decide) (by omega) (by omega) (fun c_7 => ?_) (fun c_7 => ?_)
      · refine mg_iload_n C dX5_atMost_46 rfl ?_
        obtain rfl : j = 4 := by omega
        exact hR _ _ _ _ dX5_atMost_47 ⟨rfl, rfl⟩
      · refine mg_aload_n C dX5_atMost_10 rfl ?_
        refine mg_iload_n C dX5_atMost_11 rfl ?_
        refine mg_iload_n C dX5_atMost_12 rfl ?_
        refine mg_callV_i C hh rfl (rest := []) (c_X5_placeIn D cI cS w h0 ab c sd tot mov f j x hh hab hs hc1 hc2 (by omega) hx) yq_X5_placeIn kw_320 kw_321 kw_322 ⟨by decide, by decide⟩ ⟨Nat.le_of_ble_eq_true rfl, Nat.le_of_ble_eq_true rfl⟩ (Nat.le_of_ble_eq_true rfl) rfl rfl dX5_atMost_13 (fun r1 w2 ⟨e_r1, e_w2⟩ => ?_)
        rw [e_w2, e_r1]
        have hpl : hsN sd j x % c < c := Nat.mod_lt _ (by omega)
        have hjc := jc_le (c := c) (show j < 4 by omega)
        refine mg_istore C (lv' := [(4, .int (nI (j * c + hsN sd j x % c))), (0, .ref h0), (1, .int (nI x)), (2, .int (mnT f sd x c j)), (3, .int (nI j))]) dX5_atMost_16 (by decide) rfl ?_
        refine mg_iload C dX5_atMost_18 rfl ?_
        refine mg_aload_n C dX5_atMost_20 rfl ?_
        refine mg_get C inT5 hh rfl 5 (by decide) kw_82 (Or.inl rfl) rfl dX5_atMost_21 ?_
        refine mg_alen C hab dX5_atMost_24 ?_
        refine mg_icmpN_ge C (tgt := 40) dX5_atMost_25 (by decide) (by omega) (by omega) (fun c_25 => absurd c_25 (by omega)) (fun c_25 => ?_)
        refine mg_iload_n C dX5_atMost_28 rfl ?_
        refine mg_aload_n C dX5_atMost_29 rfl ?_
        refine mg_get C inT5 hh rfl 5 (by decide) kw_82 (Or.inl rfl) rfl dX5_atMost_30 ?_
        refine mg_iload C dX5_atMost_33 rfl ?_
        refine mg_ialdN C hab (by omega) (by omega) dX5_atMost_35 ?_
        refine mg_mmin C (z := if f (j * c + hsN sd j x % c) < mnT f sd x c j then f (j * c + hsN sd j x % c) else mnT f sd x c j) dX5_atMost_36 kw_505 ⟨Nat.le_of_ble_eq_true rfl, Nat.le_of_ble_eq_true rfl⟩ ⟨by decide, by decide⟩ rfl ?_
        refine mg_istore_n C (lv' := [(2, .int (if f (j * c + hsN sd j x % c) < mnT f sd x c j then f (j * c + hsN sd j x % c) else mnT f sd x c j)), (4, .int (nI (j * c + hsN sd j x % c))), (0, .ref h0), (1, .int (nI x)), (3, .int (nI j))]) dX5_atMost_39 rfl (by decide) rfl ?_
        refine mg_iinc C (v := nI (j + 1)) (lv' := [(3, .int (nI (j + 1))), (2, .int (if f (j * c + hsN sd j x % c) < mnT f sd x c j then f (j * c + hsN sd j x % c) else mnT f sd x c j)), (4, .int (nI (j * c + hsN sd j x % c))), (0, .ref h0), (1, .int (nI x))]) dX5_atMost_40 rfl (ni_inc _) (by decide) rfl ?_
        refine mg_goto C (tgt := 5) dX5_atMost_43 (by decide) ?_
        refine mg_sub (lv' := [(0, .ref h0), (1, .int (nI x)), (2, .int (if f (j * c + hsN sd j x % c) < mnT f sd x c j then f (j * c + hsN sd j x % c) else mnT f sd x c j)), (3, .int (nI (j + 1)))]) [3, 4, 1, 0] rfl ?_
        exact ih5 ((j + 1)) (by omega) (by omega)
  refine mg_sub (lv' := [(0, .ref h0), (1, .int (nI x)), (2, .int (nI 10000000)), (3, .int (nI 0))]) [2, 3, 1, 0] rfl ?_
  exact L5 (_ + 1) 0 (Nat.lt_succ_self _) (by omega)

set_option maxHeartbeats 4000000 in
set_option maxRecDepth 20000 in
theorem c_X5_keptAt (D : va_G) (cI cS : ClassId) (w : mwT) (h0 ab c sd : Nat) (tot mov : Int32) (f : Nat → Int32) (i pt : Int32) (hh : w h0 = some (.inr (4, [.int (nI 1), .int (nI c), .int (nI sd), .int tot, .int mov, .ref ab]))) (hab : w ab = some (eI cI (4 * c) f)) (hs : sd ≤ 999) (hc1 : 4 ≤ c) (hc2 : c ≤ 64) : mMi yX5_keptAt cX5_keptAt 3 (some .int) (rmL 1) [.ref h0, .int i, .int pt] D cI cS w (fun r w1 => ((∃ a : Nat, a < 4 * c ∧ i = nI a ∧ pt = 0 ∧ r = f a + nI 10000000) ∨ (r = -1 ∧ ¬ (ixN (4 * c) i ∧ pt = 0))) ∧ w1 = w) := by
  refine mMi.of (by decide) (Nat.le_of_ble_eq_true rfl) ?_
  intro X C hN hR
  refine mg_sub (lv' := [(0, .ref h0), (1, .int i), (2, .int pt)]) [0, 1, 2] rfl ?_
  refine mg_iload_n C dX5_keptAt_0 rfl ?_
  refine mg_if_lt C (tgt := 17) dX5_keptAt_1 (by decide) (fun c_1 => ?_) (fun c_1 => ?_)
  · refine mg_iconst C (v := (-1 : Int32)) dX5_keptAt_17 (by decide) ?_
    refine mg_goto C (tgt := 30) dX5_keptAt_18 (by decide) ?_
    exact hR _ _ _ _ dX5_keptAt_30 ⟨Or.inr ⟨rfl, fun q => ix_lt (by omega) c_1 q.1⟩, rfl⟩
  · refine mg_iload_n C dX5_keptAt_4 rfl ?_
    refine mg_aload_n C dX5_keptAt_5 rfl ?_
    refine mg_get C inT5 hh rfl 5 (by decide) kw_82 (Or.inl rfl) rfl dX5_keptAt_6 ?_
    refine mg_alen C hab dX5_keptAt_9 ?_
    refine mg_icmp_ge C (tgt := 17) dX5_keptAt_10 (by decide) (fun c_10 => ?_) (fun c_10 => ?_)
    · refine mg_iconst C (v := (-1 : Int32)) dX5_keptAt_17 (by decide) ?_
      refine mg_goto C (tgt := 30) dX5_keptAt_18 (by decide) ?_
      exact hR _ _ _ _ dX5_keptAt_30 ⟨Or.inr ⟨rfl, fun q => ix_ge (by omega) c_10 q.1⟩, rfl⟩
    · refine mg_iload_n C dX5_keptAt_13 rfl ?_
      refine mg_if_eq C (tgt := 21) dX5_keptAt_14 (by decide) (fun c_14 => ?_) (fun c_14 => ?_)
      · obtain ⟨a, ha, rfl⟩ := ix_of (by omega) c_1 c_10
        refine mg_aload_n C dX5_keptAt_21 rfl ?_
        refine mg_get C inT5 hh rfl 5 (by decide) kw_82 (Or.inl rfl) rfl dX5_keptAt_22 ?_
        refine mg_iload_n C dX5_keptAt_25 rfl ?_
        refine mg_ialdN C hab (by omega) (by omega) dX5_keptAt_26 ?_
        refine mg_ldc C (v := nI 10000000) dX5_keptAt_27 kw_504 (by decide) ?_
        refine mg_iadd C (z := (f a) + (nI 10000000)) dX5_keptAt_29 rfl ?_
        exact hR _ _ _ _ dX5_keptAt_30 ⟨Or.inl ⟨a, ha, rfl, c_14, rfl⟩, rfl⟩
      · refine mg_iconst C (v := (-1 : Int32)) dX5_keptAt_17 (by decide) ?_
        refine mg_goto C (tgt := 30) dX5_keptAt_18 (by decide) ?_
        exact hR _ _ _ _ dX5_keptAt_30 ⟨Or.inr ⟨rfl, fun q => c_14 q.2⟩, rfl⟩

set_option maxHeartbeats 4000000 in
set_option maxRecDepth 20000 in
theorem c_X5_howManyKept (D : va_G) (cI cS : ClassId) (w : mwT) (h0 ab c sd : Nat) (tot mov : Int32) (f : Nat → Int32) (hh : w h0 = some (.inr (4, [.int (nI 1), .int (nI c), .int (nI sd), .int tot, .int mov, .ref ab]))) (hab : w ab = some (eI cI (4 * c) f)) (hs : sd ≤ 999) (hc1 : 4 ≤ c) (hc2 : c ≤ 64) : mMi yX5_howManyKept cX5_howManyKept 1 (some .int) (rmL 2) [.ref h0] D cI cS w (fun r w1 => r = nI (cnz f (4 * c)) ∧ w1 = w) := by
  refine mMi.of (by decide) (Nat.le_of_ble_eq_true rfl) ?_
  intro X C hN hR
  refine mg_sub (lv' := [(0, .ref h0)]) [0] rfl ?_
  refine mg_aload_n C dX5_howManyKept_0 rfl ?_
  refine mg_get C inT5 hh rfl 5 (by decide) kw_82 (Or.inl rfl) rfl dX5_howManyKept_1 ?_
  refine mg_callN_i C (rest := []) (c_X6_countNotZero D cI cS w ab (4 * c) f hab (by omega)) yq_X6_countNotZero kn_22 kw_599 ⟨by decide, by decide⟩ ⟨Nat.le_of_ble_eq_true rfl, Nat.le_of_ble_eq_true rfl⟩ (Nat.le_of_ble_eq_true rfl) rfl rfl dX5_howManyKept_4 (fun r1 w2 ⟨e_r1, e_w2⟩ => ?_)
  rw [e_w2, e_r1]
  exact hR _ _ _ _ dX5_howManyKept_7 ⟨rfl, rfl⟩

set_option maxHeartbeats 4000000 in
set_option maxRecDepth 20000 in
theorem c_X5_forget (D : va_G) (cI cS : ClassId) (w : mwT) (h0 ab c sd : Nat) (tot mov : Int32) (f : Nat → Int32) (hh : w h0 = some (.inr (4, [.int (nI 1), .int (nI c), .int (nI sd), .int tot, .int mov, .ref ab]))) (hab : w ab = some (eI cI (4 * c) f)) (hs : sd ≤ 999) (hc1 : 4 ≤ c) (hc2 : c ≤ 64) : mMv yX5_forget cX5_forget 1 none (rmL 2) [.ref h0] D cI cS w (fun w1 => w1 ab = some (eI cI (4 * c) (cpy0 (fun _ => 0) f (4 * c))) ∧ ∀ c : Nat, c ≠ ab → w1 c = w c) := by
  refine mMv.of (by decide) (Nat.le_of_ble_eq_true rfl) ?_
  intro X C hN hR
  have fr_w : ∀ zz : Nat, w zz = w zz := fun _ => rfl
  refine mg_sub (lv' := [(0, .ref h0)]) [0] rfl ?_
  refine mg_aload_n C dX5_forget_0 rfl ?_
  refine mg_get C inT5 hh rfl 5 (by decide) kw_82 (Or.inl rfl) rfl dX5_forget_1 ?_
  refine mg_callN_v C (rest := []) (c_X6_clearRow D cI cS w ab (4 * c) f hab (by omega)) yq_X6_clearRow kn_10 kw_213 ⟨by decide, by decide⟩ ⟨Nat.le_of_ble_eq_true rfl, Nat.le_of_ble_eq_true rfl⟩ (Nat.le_of_ble_eq_true rfl) rfl rfl dX5_forget_4 (fun w1 ⟨xh1, xf1⟩ => ?_)
  have h_w1_h0 : w1 h0 = some (.inr (4, [.int (nI 1), .int (nI c), .int (nI sd), .int tot, .int mov, .ref ab])) := (xf1 h0 (mw_oa hh hab)).trans hh
  have fr_w1 : ∀ zz : Nat, zz ≠ ab → w1 zz = w zz := fun zz g0 => (xf1 zz g0).trans (fr_w zz )
  exact hR _ _ _ dX5_forget_7 ⟨xh1, fr_w1⟩

set_option maxHeartbeats 4000000 in
set_option maxRecDepth 20000 in
theorem c_X5_join (D : va_G) (cI cS : ClassId) (w : mwT) (h0 h1 ab ab2 c sd : Nat) (tot mov tot2 mov2 : Int32) (f g : Nat → Int32) (hh : w h0 = some (.inr (4, [.int (nI 1), .int (nI c), .int (nI sd), .int tot, .int mov, .ref ab]))) (hh1 : w h1 = some (.inr (4, [.int (nI 1), .int (nI c), .int (nI sd), .int tot2, .int mov2, .ref ab2]))) (hab : w ab = some (eI cI (4 * c) f)) (hab2 : w ab2 = some (eI cI (4 * c) g)) (hs : sd ≤ 999) (hc1 : 4 ≤ c) (hc2 : c ≤ 64) (hne : ab ≠ ab2) : mMv yX5_join cX5_join 4 none (rmL 1) [.ref h0, .ref h1] D cI cS w (fun w1 => w1 ab = some (eI cI (4 * c) (jnA f g (4 * c))) ∧ ∀ c : Nat, c ≠ ab → w1 c = w c) := by
  refine mMv.of (by decide) (Nat.le_of_ble_eq_true rfl) ?_
  intro X C hN hR
  have fr_w : ∀ zz : Nat, w zz = w zz := fun _ => rfl
  refine mg_sub (lv' := [(0, .ref h0), (1, .ref h1)]) [0, 1] rfl ?_
  refine mg_aload_n C dX5_join_0 rfl ?_
  refine mg_inst C hh1 rfl kw_184 dX5_join_1 ?_
  refine mg_ifN_eq C (tgt := 53) dX5_join_4 (by decide) (by decide) (fun c_4 => absurd c_4 (by decide)) (fun c_4 => ?_)
  refine mg_aload_n C dX5_join_7 rfl ?_
  refine mg_cast C hh1 rfl kw_184 dX5_join_8 ?_
  refine mg_astore_n C (lv' := [(2, .ref h1), (0, .ref h0), (1, .ref h1)]) dX5_join_11 rfl (by decide) rfl ?_
  refine mg_iconst C (v := nI 0) dX5_join_12 (by decide) ?_
  refine mg_istore_n C (lv' := [(3, .int (nI 0)), (2, .ref h1), (0, .ref h0), (1, .ref h1)]) dX5_join_13 rfl (by decide) rfl ?_
  have L14 : ∀ (M14 : Nat) (i : Nat), 4 * c - i < M14 → (i ≤ 4 * c) → ∀ (w1 : mwT), w1 h0 = some (.inr (4, [.int (nI 1), .int (nI c), .int (nI sd), .int tot, .int mov, .ref ab])) → w1 h1 = some (.inr (4, [.int (nI 1), .int (nI c), .int (nI sd), .int tot2, .int mov2, .ref ab2])) → w1 ab = some (eI cI (4 * c) (jnA f g i)) → w1 ab2 = some (eI cI (4 * c) g) → (∀ zz : Nat, zz ≠ ab → w1 zz = w zz) → mwG X 0 0 w1 [(0, .ref h0), (1, .ref h1), (2, .ref h1), (3, .int (nI i))] [] 14 := by
    intro M14
    induction M14 with
    | zero => intro i hm14; exact absurd hm14 (Nat.not_lt_zero _)
    | succ M14 ih14 =>
      intro i hm14 hi w1 h_w1_h0 h_w1_h1 h_w1_ab h_w1_ab2 fr_w1
      refine mg_iload_n C dX5_join_14 rfl ?_
      refine mg_aload_n C dX5_join_15 rfl ?_
      refine mg_get C inT5 h_w1_h0 rfl 5 (by decide) kw_82 (Or.inl rfl) rfl dX5_join_16 ?_
      refine mg_alen C h_w1_ab dX5_join_19 ?_
      refine mg_icmpN_ge C (tgt := 53) dX5_join_20 (by decide) (by omega) (by omega) (fun c_20 => ?_) (fun c_20 => ?_)
      · have ei : i = 4 * c := by omega
        exact hR _ _ _ dX5_join_53 ⟨(by rw [ei] at h_w1_ab; exact h_w1_ab), fr_w1⟩
      · refine mg_iload_n C dX5_join_23 rfl ?_
        refine mg_aload_n C dX5_join_24 rfl ?_
        refine mg_get C inT5 h_w1_h1 rfl 5 (by decide) kw_82 (Or.inl rfl) rfl dX5_join_25 ?_
        refine mg_alen C h_w1_ab2 dX5_join_28 ?_
        refine mg_icmpN_ge C (tgt := 53) dX5_join_29 (by decide) (by omega) (by omega) (fun c_29 => absurd c_29 (by omega)) (fun c_29 => ?_)
        refine mg_aload_n C dX5_join_32 rfl ?_
        refine mg_get C inT5 h_w1_h0 rfl 5 (by decide) kw_82 (Or.inl rfl) rfl dX5_join_33 ?_
        refine mg_iload_n C dX5_join_36 rfl ?_
        refine mg_dup2 C dX5_join_37 rfl rfl ?_
        refine mg_ialdN C h_w1_ab (by omega) (by omega) dX5_join_38 ?_
        refine mg_aload_n C dX5_join_39 rfl ?_
        refine mg_get C inT5 h_w1_h1 rfl 5 (by decide) kw_82 (Or.inl rfl) rfl dX5_join_40 ?_
        refine mg_iload_n C dX5_join_43 rfl ?_
        refine mg_ialdN C h_w1_ab2 (by omega) (by omega) dX5_join_44 ?_
        refine mg_iadd C (z := ((jnA f g i) i) + (g i)) dX5_join_45 rfl ?_
        refine mg_iastN C h_w1_ab (by omega) (by omega) dX5_join_46 (fun w2 e_w2 => ?_)
        have h_w2_h0 : w2 h0 = some (.inr (4, [.int (nI 1), .int (nI c), .int (nI sd), .int tot, .int mov, .ref ab])) := (congrFun e_w2 _).trans ((mwu_ne (mw_oa h_w1_h0 h_w1_ab)).trans h_w1_h0)
        have h_w2_h1 : w2 h1 = some (.inr (4, [.int (nI 1), .int (nI c), .int (nI sd), .int tot2, .int mov2, .ref ab2])) := (congrFun e_w2 _).trans ((mwu_ne (mw_oa h_w1_h1 h_w1_ab)).trans h_w1_h1)
        have h_w2_ab : w2 ab = some (eI cI (4 * c) (upd (jnA f g i) i (((jnA f g i) i) + (g i)))) := (congrFun e_w2 _).trans mwu_eq
        have h_w2_ab2 : w2 ab2 = some (eI cI (4 * c) g) := (congrFun e_w2 _).trans ((mwu_ne (Ne.symm hne)).trans h_w1_ab2)
        have fr_w2 : ∀ zz : Nat, zz ≠ ab → w2 zz = w zz := fun zz g0 => (congrFun e_w2 zz).trans ((mwu_ne g0).trans (fr_w1 zz g0))
        refine mg_iinc C (v := nI (i + 1)) (lv' := [(3, .int (nI (i + 1))), (0, .ref h0), (1, .ref h1), (2, .ref h1)]) dX5_join_47 rfl (ni_inc _) (by decide) rfl ?_
        refine mg_goto C (tgt := 14) dX5_join_50 (by decide) ?_
        refine mg_sub (lv' := [(0, .ref h0), (1, .ref h1), (2, .ref h1), (3, .int (nI (i + 1)))]) [1, 2, 3, 0] rfl ?_
        exact ih14 ((i + 1)) (by omega) (by omega) w2 h_w2_h0 h_w2_h1 h_w2_ab h_w2_ab2 (fun zz g0 => fr_w2 zz g0)
  refine mg_sub (lv' := [(0, .ref h0), (1, .ref h1), (2, .ref h1), (3, .int (nI 0))]) [2, 3, 1, 0] rfl ?_
  exact L14 (_ + 1) 0 (Nat.lt_succ_self _) (Nat.zero_le _) w hh hh1 hab hab2 (fun zz g0 => fr_w zz )

set_option maxHeartbeats 4000000 in
set_option maxRecDepth 20000 in
theorem c_X5_init (D : va_G) (cI cS : ClassId) (w : mwT) (h0 c sd : Nat) (hh : w h0 = some (.inr (4, [.int 0, .int 0, .int 0, .int 0, .int 0, .null]))) (hc1 : 4 ≤ c) (hc2 : c ≤ 64) : mMv yX5_init cX5_init 3 none (rmA 2 1 256) [.ref h0, .int (nI c), .int (nI sd)] D cI cS w (fun w1 => ∃ qa : Nat, w qa = none ∧ w1 h0 = some (.inr (4, [.int (nI 1), .int (nI c), .int (nI sd), .int (nI 0), .int (nI 0), .ref qa])) ∧ w1 qa = some (eI cI (4 * c) (fun _ => 0)) ∧ ∀ z : Nat, z ≠ h0 → z ≠ qa → w1 z = w z) := by
  refine mMv.of (by decide) (Nat.le_of_ble_eq_true rfl) ?_
  intro X C hN hR
  have fr_w : ∀ zz : Nat, w zz = w zz := fun _ => rfl
  refine mg_sub (lv' := [(0, .ref h0), (1, .int (nI c)), (2, .int (nI sd))]) [0, 1, 2] rfl ?_
  refine mg_aload_n C dX5_init_0 rfl ?_
  refine mg_iconst C (v := nI 1) dX5_init_1 (by decide) ?_
  refine mg_iload_n C dX5_init_2 rfl ?_
  refine mg_iload_n C dX5_init_3 rfl ?_
  refine mg_callI_v C (rest := []) (c_X4_init_T D cI cS w h0 1 c sd hh) yq_X4_init kw_83 kw_70 rfl ⟨by decide, by decide⟩ ⟨Nat.le_of_ble_eq_true rfl, Nat.le_of_ble_eq_true rfl⟩ (Nat.le_of_ble_eq_true rfl) rfl rfl dX5_init_4 (fun w1 ⟨xh1, xf1⟩ => ?_)
  refine mg_widen (k := 0) (n := 0) (by decide) (by decide) ?_
  have fr_w1 : ∀ zz : Nat, zz ≠ h0 → w1 zz = w zz := fun zz g0 => (xf1 zz g0).trans (fr_w zz )
  refine mg_aload_n C dX5_init_7 rfl ?_
  refine mg_iconst C (v := nI 4) dX5_init_8 (by decide) ?_
  refine mg_iload_n C dX5_init_9 rfl ?_
  refine mg_imul C (z := nI (4 * c)) dX5_init_10 (pk_mul _ _) ?_
  refine mg_newa C kw_19 (by omega) ⟨by decide, by (show 0 + (4 * c) ≤ 256; omega)⟩ dX5_init_11 (fun q2 w3 n_q2 e_w3 => ?_)
  refine mg_widen (k := 1) (n := 256) (by decide) (by omega) ?_
  have nd_q2_h0 : h0 ≠ q2 := mw_nn xh1 n_q2
  have nz_q2 : w q2 = none := (fr_w1 q2 (Ne.symm nd_q2_h0)).symm.trans n_q2
  have h_w3_h0 : w3 h0 = some (.inr (4, [.int (nI 1), .int (nI c), .int (nI sd), .int (nI 0), .int (nI 0), .null])) := (congrFun e_w3 _).trans ((mwu_ne nd_q2_h0).trans xh1)
  have h_w3_q2 : w3 q2 = some (eI cI (4 * c) (fun _ => 0)) := (congrFun e_w3 _).trans mwu_eq
  have fr_w3 : ∀ zz : Nat, zz ≠ h0 → zz ≠ q2 → w3 zz = w zz := fun zz g0 g1 => (congrFun e_w3 zz).trans ((mwu_ne g1).trans (fr_w1 zz g0))
  refine mg_putF C (fs' := [.int (nI 1), .int (nI c), .int (nI sd), .int (nI 0), .int (nI 0), .ref q2]) inT5 h_w3_h0 rfl 5 (by decide) kw_82 (Or.inl rfl) tyX5_ok nmX5 rfl hN rfl rfl rfl rfl (Nat.le_of_ble_eq_true rfl) dX5_init_13 (fun w4 e_w4 => ?_)
  have h_w4_h0 : w4 h0 = some (.inr (4, [.int (nI 1), .int (nI c), .int (nI sd), .int (nI 0), .int (nI 0), .ref q2])) := (congrFun e_w4 _).trans mwu_eq
  have h_w4_q2 : w4 q2 = some (eI cI (4 * c) (fun _ => 0)) := (congrFun e_w4 _).trans ((mwu_ne (Ne.symm nd_q2_h0)).trans h_w3_q2)
  have fr_w4 : ∀ zz : Nat, zz ≠ h0 → zz ≠ q2 → w4 zz = w zz := fun zz g0 g1 => (congrFun e_w4 zz).trans ((mwu_ne g0).trans (fr_w3 zz g0 g1))
  exact hR _ _ _ dX5_init_16 ⟨q2, nz_q2, h_w4_h0, h_w4_q2, fr_w4⟩

set_option maxHeartbeats 4000000 in
set_option maxRecDepth 20000 in
theorem c_X5_twin (D : va_G) (cI cS : ClassId) (w : mwT) (h0 ab c sd : Nat) (tot mov : Int32) (f : Nat → Int32) (hh : w h0 = some (.inr (4, [.int (nI 1), .int (nI c), .int (nI sd), .int tot, .int mov, .ref ab]))) (h_ab : w ab = some (eI cI (4 * c) f)) (hc1 : 4 ≤ c) (hc2 : c ≤ 64) : mMq yX5_twin cX5_twin 2 (some (.object "SketchSpans$Sketch")) (rmA 3 2 262) [.ref h0] D cI cS w (fun r w1 => ∃ q qa : Nat, r = some q ∧ w q = none ∧ w qa = none ∧ q ≠ qa ∧ w1 q = some (.inr (4, [.int (nI 1), .int (nI c), .int (nI sd), .int tot, .int mov, .ref qa])) ∧ w1 qa = some (eI cI (4 * c) (cpy0 f (fun _ => 0) (4 * c))) ∧ ∀ z : Nat, z ≠ q → z ≠ qa → w1 z = w z) := by
  refine mMq.of (by decide) (Nat.le_of_ble_eq_true rfl) ?_
  intro X C hN hR
  have fr_w : ∀ zz : Nat, w zz = w zz := fun _ => rfl
  refine mg_sub (lv' := [(0, .ref h0)]) [0] rfl ?_
  refine mg_new C (ci := 4) (fs := [.int 0, .int 0, .int 0, .int 0, .int 0, .null]) inT5 tyX5_ok kw_184 kw_51 kw_52 rfl df_X5 ⟨by decide, by decide⟩ dX5_twin_0 (fun q1 w2 n_q1 e_w2 => ?_)
  refine mg_widen (k := 1) (n := 6) (by decide) (by decide) ?_
  have nd_q1_h0 : h0 ≠ q1 := mw_nn hh n_q1
  have nd_q1_ab : ab ≠ q1 := mw_nn h_ab n_q1
  have nz_q1 : w q1 = none := (fr_w q1 ).symm.trans n_q1
  have h_w2_h0 : w2 h0 = some (.inr (4, [.int (nI 1), .int (nI c), .int (nI sd), .int tot, .int mov, .ref ab])) := (congrFun e_w2 _).trans ((mwu_ne nd_q1_h0).trans hh)
  have h_w2_ab : w2 ab = some (eI cI (4 * c) f) := (congrFun e_w2 _).trans ((mwu_ne nd_q1_ab).trans h_ab)
  have h_w2_q1 : w2 q1 = some (.inr (4, [.int 0, .int 0, .int 0, .int 0, .int 0, .null])) := (congrFun e_w2 _).trans mwu_eq
  have fr_w2 : ∀ zz : Nat, zz ≠ q1 → w2 zz = w zz := fun zz g0 => (congrFun e_w2 zz).trans ((mwu_ne g0).trans (fr_w zz ))
  refine mg_dup C dX5_twin_3 rfl ?_
  refine mg_aload_n C dX5_twin_4 rfl ?_
  refine mg_get C inT5 h_w2_h0 rfl 1 (by decide) kw_185 (Or.inr kw_186) rfl dX5_twin_5 ?_
  refine mg_aload_n C dX5_twin_8 rfl ?_
  refine mg_get C inT5 h_w2_h0 rfl 2 (by decide) kw_187 (Or.inr kw_188) rfl dX5_twin_9 ?_
  refine mg_callI_v C (rest := [.ref q1]) (c_X5_init D cI cS w2 q1 c sd h_w2_q1 hc1 hc2) yq_X5_init kw_189 kw_80 rfl ⟨by decide, by decide⟩ ⟨Nat.le_of_ble_eq_true rfl, Nat.le_of_ble_eq_true rfl⟩ (Nat.le_of_ble_eq_true rfl) rfl rfl dX5_twin_12 (fun w3 ⟨q3a, n_q3a, xh3, xkq3a, xf3⟩ => ?_)
  refine mg_widen (k := 2) (n := 262) (by decide) (by decide) ?_
  have nd_q3a_h0 : h0 ≠ q3a := mw_nn h_w2_h0 n_q3a
  have nd_q3a_ab : ab ≠ q3a := mw_nn h_w2_ab n_q3a
  have nd_q3a_q1 : q1 ≠ q3a := mw_nn h_w2_q1 n_q3a
  have nz_q3a : w q3a = none := (fr_w2 q3a (Ne.symm nd_q3a_q1)).symm.trans n_q3a
  have h_w3_h0 : w3 h0 = some (.inr (4, [.int (nI 1), .int (nI c), .int (nI sd), .int tot, .int mov, .ref ab])) := (xf3 h0 nd_q1_h0 (mw_nn h_w2_h0 n_q3a)).trans h_w2_h0
  have h_w3_ab : w3 ab = some (eI cI (4 * c) f) := (xf3 ab nd_q1_ab (mw_nn h_w2_ab n_q3a)).trans h_w2_ab
  have fr_w3 : ∀ zz : Nat, zz ≠ q1 → zz ≠ q3a → w3 zz = w zz := fun zz g0 g1 => (xf3 zz g0 g1).trans (fr_w2 zz g0)
  refine mg_astore_n C (lv' := [(1, .ref q1), (0, .ref h0)]) dX5_twin_15 rfl (by decide) rfl ?_
  refine mg_aload_n C dX5_twin_16 rfl ?_
  refine mg_aload_n C dX5_twin_17 rfl ?_
  refine mg_callU_v C xh3 rfl (rest := []) (c_X4_copyTotals_T D cI cS w3 q1 h0 1 c sd (nI 0) (nI 0) tot mov (.ref q3a) (.ref ab) xh3 h_w3_h0 (Ne.symm nd_q1_h0)) yq_X4_copyTotals kw_190 kw_191 dq_copyTotals (by decide +kernel) kw_141 kw_192 ⟨by decide, by decide⟩ ⟨Nat.le_of_ble_eq_true rfl, Nat.le_of_ble_eq_true rfl⟩ (Nat.le_of_ble_eq_true rfl) rfl rfl dX5_twin_18 (fun w4 ⟨xh4, xf4⟩ => ?_)
  refine mg_widen (k := 2) (n := 262) (by decide) (by decide) ?_
  have h_w4_h0 : w4 h0 = some (.inr (4, [.int (nI 1), .int (nI c), .int (nI sd), .int tot, .int mov, .ref ab])) := (xf4 h0 nd_q1_h0).trans h_w3_h0
  have h_w4_ab : w4 ab = some (eI cI (4 * c) f) := (xf4 ab nd_q1_ab).trans h_w3_ab
  have h_w4_q3a : w4 q3a = some (eI cI (4 * c) (fun _ => 0)) := (xf4 q3a (Ne.symm nd_q3a_q1)).trans xkq3a
  have fr_w4 : ∀ zz : Nat, zz ≠ q1 → zz ≠ q3a → w4 zz = w zz := fun zz g0 g1 => (xf4 zz g0).trans (fr_w3 zz g0 g1)
  refine mg_aload_n C dX5_twin_21 rfl ?_
  refine mg_get C inT5 h_w4_h0 rfl 5 (by decide) kw_82 (Or.inl rfl) rfl dX5_twin_22 ?_
  refine mg_aload_n C dX5_twin_25 rfl ?_
  refine mg_get C inT5 xh4 rfl 5 (by decide) kw_82 (Or.inl rfl) rfl dX5_twin_26 ?_
  refine mg_callN_v C (rest := []) (c_X6_copyRow D cI cS w4 ab q3a (4 * c) f (fun _ => 0) h_w4_ab h_w4_q3a (by omega) nd_q3a_ab) yq_X6_copyRow kn_6 kw_143 ⟨by decide, by decide⟩ ⟨Nat.le_of_ble_eq_true rfl, Nat.le_of_ble_eq_true rfl⟩ (Nat.le_of_ble_eq_true rfl) rfl rfl dX5_twin_29 (fun w5 ⟨xh5, xf5⟩ => ?_)
  refine mg_widen (k := 2) (n := 262) (by decide) (by decide) ?_
  have h_w5_h0 : w5 h0 = some (.inr (4, [.int (nI 1), .int (nI c), .int (nI sd), .int tot, .int mov, .ref ab])) := (xf5 h0 nd_q3a_h0).trans h_w4_h0
  have h_w5_ab : w5 ab = some (eI cI (4 * c) f) := (xf5 ab nd_q3a_ab).trans h_w4_ab
  have h_w5_q1 : w5 q1 = some (.inr (4, [.int (nI 1), .int (nI c), .int (nI sd), .int tot, .int mov, .ref q3a])) := (xf5 q1 nd_q3a_q1).trans xh4
  have fr_w5 : ∀ zz : Nat, zz ≠ q1 → zz ≠ q3a → w5 zz = w zz := fun zz g0 g1 => (xf5 zz g1).trans (fr_w4 zz g0 g1)
  refine mg_aload_n C dX5_twin_32 rfl ?_
  exact hR (some q1) _ _ _ dX5_twin_33 ⟨q1, q3a, rfl, nz_q1, nz_q3a, nd_q3a_q1, h_w5_q1, xh5, fr_w5⟩
end
section
/-! ===== LEAST: rising rows ===== -/
/-- the length of the longest beginning of the first n that is below v -/
def plc (f : Nat → Int32) (v : Int32) : Nat → Nat
  | 0 => 0
  | n + 1 => if plc f v n = n ∧ f n < v then n + 1 else plc f v n
theorem plc_le (f : Nat → Int32) (v : Int32) : ∀ n, plc f v n ≤ n
  | 0 => Nat.le_refl _
  | n + 1 => by
    have := plc_le f v n
    unfold plc
    split <;> omega
theorem plc_below (f : Nat → Int32) (v : Int32) : ∀ n j, j < plc f v n → f j < v
  | 0, j, h => absurd h (Nat.not_lt_zero _)
  | n + 1, j, h => by
    unfold plc at h
    split at h
    · rename_i q
      by_cases hj : j = n
      · rw [hj]; exact q.2
      · exact plc_below f v n j (by omega)
    · exact plc_below f v n j h
theorem plc_stop (f : Nat → Int32) (v : Int32) : ∀ n, plc f v n < n → ¬ f (plc f v n) < v
  | 0, h => absurd h (Nat.not_lt_zero _)
  | n + 1, h => by
    by_cases q : plc f v n = n ∧ f n < v
    · have e : plc f v (n + 1) = n + 1 := by rw [plc, if_pos q]
      omega
    · have e : plc f v (n + 1) = plc f v n := by rw [plc, if_neg q]
      rw [e]
      by_cases hn : plc f v n < n
      · exact plc_stop f v n hn
      · have hle := plc_le f v n
        have hp : plc f v n = n := by omega
        intro hq
        exact q ⟨hp, by rw [hp] at hq; exact hq⟩
theorem plc_uniq {f : Nat → Int32} {v : Int32} {n p : Nat} (h1 : p ≤ n) (h2 : ∀ j, j < p → f j < v) (h3 : p < n → ¬ f p < v) : p = plc f v n := by
  have a1 := plc_le f v n
  have a2 := plc_below f v n
  have a3 := plc_stop f v n
  rcases Nat.lt_trichotomy p (plc f v n) with h | h | h
  · exact absurd (a2 p h) (h3 (by omega))
  · exact h
  · exact absurd (h2 _ h) (a3 (by omega))
theorem mn_nI {a b : Nat} (ha : a < 2147483648) (hb : b < 2147483648) : (if nI b < nI a then nI b else nI a) = nI (min a b) := by
  by_cases h : b < a
  · rw [if_pos ((nI_ltI hb ha).mpr h), Nat.min_eq_right (Nat.le_of_lt h)]
  · rw [if_neg (fun q => h ((nI_ltI hb ha).mp q)), Nat.min_eq_left (by omega)]
/-- v comes to place p, those from p on go one up, below m -/
def insA (f : Nat → Int32) (p m : Nat) (v : Int32) : Nat → Int32 := fun i => if i < p then f i else if i = p then v else if i < m then f (i - 1) else f i
def shD (f : Nat → Int32) (m i : Nat) : Nat → Int32 := fun z => if i < z ∧ z < m then f (z - 1) else f z
theorem shD_0 (f : Nat → Int32) {m i : Nat} (h : m ≤ i + 1) : shD f m i = f := by
  funext z
  unfold shD
  rw [if_neg (by omega)]
theorem shD_s (f : Nat → Int32) {m i : Nat} (h0 : 0 < i) (h : i < m) : upd (shD f m i) i (shD f m i (i - 1)) = shD f m (i - 1) := by
  funext z
  unfold upd
  by_cases hz : z = i
  · subst hz
    rw [if_pos rfl]
    unfold shD
    rw [if_neg (by omega), if_pos ⟨by omega, h⟩]
  · rw [if_neg hz]
    unfold shD
    by_cases h1 : i < z ∧ z < m
    · rw [if_pos h1, if_pos ⟨by omega, h1.2⟩]
    · rw [if_neg h1, if_neg (by omega)]
theorem shD_e (f : Nat → Int32) (p m : Nat) (v : Int32) : upd (shD f m p) p v = insA f p m v := by
  funext z
  unfold upd insA shD
  by_cases h1 : z = p
  · subst h1; simp
  · by_cases h2 : z < p
    · rw [if_neg h1, if_pos h2, if_neg (by omega)]
    · rw [if_neg h1, if_neg h2, if_neg h1]
      by_cases h3 : z < m
      · rw [if_pos ⟨by omega, h3⟩, if_pos h3]
      · rw [if_neg (by omega), if_neg h3]
/-- LEAST: a HASH comes -/
def adL (k : Nat) (v : Int32) (S : (Nat → Int32) × Nat) : (Nat → Int32) × Nat :=
  if plc S.1 v S.2 < k ∧ ¬ (plc S.1 v S.2 < S.2 ∧ S.1 (plc S.1 v S.2) = v) then (insA S.1 (plc S.1 v S.2) (min (S.2 + 1) k) v, min (S.2 + 1) k) else S
theorem adL_yes {k : Nat} {v : Int32} {f : Nat → Int32} {h : Nat} (h1 : plc f v h < k) (h2 : ¬ (plc f v h < h ∧ f (plc f v h) = v)) : adL k v (f, h) = (insA f (plc f v h) (min (h + 1) k) v, min (h + 1) k) := by
  unfold adL
  exact if_pos ⟨h1, h2⟩
theorem adL_full {k : Nat} {v : Int32} {f : Nat → Int32} {h : Nat} (h1 : k ≤ plc f v h) : adL k v (f, h) = (f, h) := by
  unfold adL
  exact if_neg (fun q => absurd q.1 (Nat.not_lt.mpr h1))
theorem adL_same {k : Nat} {v : Int32} {f : Nat → Int32} {h : Nat} (h2 : plc f v h < h ∧ f (plc f v h) = v) : adL k v (f, h) = (f, h) := by
  unfold adL
  exact if_neg (fun q => q.2 h2)
theorem adL_le {k : Nat} {v : Int32} {S : (Nat → Int32) × Nat} (h : S.2 ≤ k) : (adL k v S).2 ≤ k := by
  unfold adL
  split
  · exact Nat.min_le_right _ _
  · exact h
def jnL (k : Nat) (g : Nat → Int32) (S : (Nat → Int32) × Nat) : Nat → (Nat → Int32) × Nat
  | 0 => S
  | i + 1 => adL k (g i) (jnL k g S i)
theorem jnL_le {k : Nat} {g : Nat → Int32} {S : (Nat → Int32) × Nat} (h : S.2 ≤ k) : ∀ i, (jnL k g S i).2 ≤ k
  | 0 => h
  | i + 1 => adL_le (jnL_le h i)
def stL (f : Nat → Int32) (h : Nat) (v : Int32) : Prop := plc f v h < h ∧ f (plc f v h) = v
def dkL (f : Nat → Int32) (h k : Nat) : Int32 := if h < k then nI h else if nI 1 ≤ f (h - 1) then nI ((k - 1) * 65537) / f (h - 1) else nI h
end
section
set_option maxHeartbeats 4000000 in
set_option maxRecDepth 20000 in
theorem c_X2_add (D : va_G) (cI cS : ClassId) (w : mwT) (h0 ab k sd h : Nat) (tot mov : Int32) (f : Nat → Int32) (v : Int32) (hh : w h0 = some (.inr (2, [.int (nI 3), .int (nI k), .int (nI sd), .int tot, .int mov, .ref ab, .int (nI h)]))) (hab : w ab = some (eI cI k f)) (hk1 : 2 ≤ k) (hk2 : k ≤ 32) (hh2 : h ≤ k) : mMv yX2_add cX2_add 4 none (rmL 2) [.ref h0, .int v] D cI cS w (fun w1 => w1 h0 = some (.inr (2, [.int (nI 3), .int (nI k), .int (nI sd), .int tot, .int mov, .ref ab, .int (nI ((adL k v (f, h)).2))])) ∧ w1 ab = some (eI cI k (adL k v (f, h)).1) ∧ ∀ z : Nat, z ≠ h0 → z ≠ ab → w1 z = w z) := by
  refine mMv.of (by decide) (Nat.le_of_ble_eq_true rfl) ?_
  intro X C hN hR
  have fr_w : ∀ zz : Nat, w zz = w zz := fun _ => rfl
  refine mg_sub (lv' := [(0, .ref h0), (1, .int v)]) [0, 1] rfl ?_
  refine mg_iload_n C dX2_add_0 rfl ?_
  refine mg_aload_n C dX2_add_1 rfl ?_
  refine mg_get C inT2 hh rfl 5 (by decide) kw_92 (Or.inl rfl) rfl dX2_add_2 ?_
  refine mg_aload_n C dX2_add_5 rfl ?_
  refine mg_get C inT2 hh rfl 6 (by decide) kw_93 (Or.inl rfl) rfl dX2_add_6 ?_
  refine mg_callN_i C (rest := []) (c_X6_placeFor D cI cS w v ab h k f hab (by omega) (by omega)) yq_X6_placeFor kn_16 kw_271 ⟨by decide, by decide⟩ ⟨Nat.le_of_ble_eq_true rfl, Nat.le_of_ble_eq_true rfl⟩ (Nat.le_of_ble_eq_true rfl) rfl rfl dX2_add_9 (fun r1 w1 ⟨⟨p1, xe1, xa1, xb1, xc1, xd1⟩, xk1⟩ => ?_)
  rw [xk1, xe1]
  have ep : p1 = plc f v h := plc_uniq xa1 xc1 (fun q => xd1 q (by omega))
  clear xc1 xd1
  subst ep
  have hpl := plc_le f v h
  refine mg_istore_n C (lv' := [(2, .int (nI (plc f v h))), (0, .ref h0), (1, .int v)]) dX2_add_12 rfl (by decide) rfl ?_
  refine mg_iload_n C dX2_add_13 rfl ?_
  refine mg_aload_n C dX2_add_14 rfl ?_
  refine mg_get C inT2 hh rfl 5 (by decide) kw_92 (Or.inl rfl) rfl dX2_add_15 ?_
  refine mg_alen C hab dX2_add_18 ?_
  refine mg_icmpN_ge C (tgt := 38) dX2_add_19 (by decide) (by omega) (by omega) (fun c_19 => ?_) (fun c_19 => ?_)
  · have ey : adL k v (f, h) = (f, h) := adL_full (by omega)
    exact hR _ _ _ dX2_add_38 ⟨by rw [ey]; exact hh, by rw [ey]; exact hab, fun z _ _ => fr_w z⟩
  · refine mg_iload_n C dX2_add_22 rfl ?_
    refine mg_iload_n C dX2_add_23 rfl ?_
    refine mg_aload_n C dX2_add_24 rfl ?_
    refine mg_get C inT2 hh rfl 5 (by decide) kw_92 (Or.inl rfl) rfl dX2_add_25 ?_
    refine mg_aload_n C dX2_add_28 rfl ?_
    refine mg_get C inT2 hh rfl 6 (by decide) kw_93 (Or.inl rfl) rfl dX2_add_29 ?_
    refine mg_callN_i C (rest := []) (c_X6_standsAt D cI cS w (plc f v h) v ab h k f hab (by omega) (by omega) (by omega)) yq_X6_standsAt kn_17 kw_273 ⟨by decide, by decide⟩ ⟨Nat.le_of_ble_eq_true rfl, Nat.le_of_ble_eq_true rfl⟩ (Nat.le_of_ble_eq_true rfl) rfl rfl dX2_add_32 (fun r2 w2 ⟨xa2, xk2⟩ => ?_)
    rw [xk2]
    rcases xa2 with ⟨ra, sta⟩ | ⟨ra, sta⟩
    · rw [ra]
      refine mg_ifN_eq C (tgt := 39) dX2_add_35 (by decide) (by decide) (fun c_35 => absurd c_35 (by decide)) (fun c_35 => ?_)
      have ey : adL k v (f, h) = (f, h) := adL_same ⟨sta.1, sta.2.2⟩
      exact hR _ _ _ dX2_add_38 ⟨by rw [ey]; exact hh, by rw [ey]; exact hab, fun z _ _ => fr_w z⟩
    · rw [ra]
      refine mg_ifN_eq C (tgt := 39) dX2_add_35 (by decide) (by decide) (fun c_35 => ?_) (fun c_35 => absurd c_35 (by decide))
      refine mg_aload_n C dX2_add_39 rfl ?_
      refine mg_aload_n C dX2_add_40 rfl ?_
      refine mg_get C inT2 hh rfl 6 (by decide) kw_93 (Or.inl rfl) rfl dX2_add_41 ?_
      refine mg_iconst C (v := nI 1) dX2_add_44 (by decide) ?_
      refine mg_iadd C (z := nI (h + 1)) dX2_add_45 (nI_add _ _) ?_
      refine mg_aload_n C dX2_add_46 rfl ?_
      refine mg_get C inT2 hh rfl 5 (by decide) kw_92 (Or.inl rfl) rfl dX2_add_47 ?_
      refine mg_alen C hab dX2_add_50 ?_
      refine mg_mmin C (z := nI (min (h + 1) k)) dX2_add_51 kw_297 ⟨Nat.le_of_ble_eq_true rfl, Nat.le_of_ble_eq_true rfl⟩ ⟨by decide, by decide⟩ (mn_nI (by omega) (by omega)) ?_
      refine mg_put C (fs' := [.int (nI 3), .int (nI k), .int (nI sd), .int tot, .int mov, .ref ab, .int (nI (min (h + 1) k))]) inT2 hh rfl 6 (by decide) kw_93 (Or.inl rfl) tyX2_ok nmX2 rfl rfl rfl rfl (Nat.le_of_ble_eq_true rfl) dX2_add_54 (fun w3 e_w3 => ?_)
      have h_w3_h0 : w3 h0 = some (.inr (2, [.int (nI 3), .int (nI k), .int (nI sd), .int tot, .int mov, .ref ab, .int (nI (min (h + 1) k))])) := (congrFun e_w3 _).trans mwu_eq
      have h_w3_ab : w3 ab = some (eI cI k f) := (congrFun e_w3 _).trans ((mwu_ne (mw_ao hab hh)).trans hab)
      have fr_w3 : ∀ zz : Nat, zz ≠ h0 → w3 zz = w zz := fun zz g0 => (congrFun e_w3 zz).trans ((mwu_ne g0).trans (fr_w zz ))
      refine mg_aload_n C dX2_add_57 rfl ?_
      refine mg_get C inT2 h_w3_h0 rfl 6 (by decide) kw_93 (Or.inl rfl) rfl dX2_add_58 ?_
      refine mg_iconst C (v := nI 1) dX2_add_61 (by decide) ?_
      refine mg_isub C (z := nI ((min (h + 1) k) - 1)) dX2_add_62 (ni_sub (by omega)) ?_
      refine mg_istore_n C (lv' := [(3, .int (nI ((min (h + 1) k) - 1))), (2, .int (nI (plc f v h))), (0, .ref h0), (1, .int v)]) dX2_add_63 rfl (by decide) rfl ?_
      have h9 : w3 ab = some (eI cI k (shD f (min (h + 1) k) (min (h + 1) k - 1))) := by rw [h_w3_ab, shD_0 f (by omega)]
      have L64 : ∀ (M64 : Nat) (i : Nat), i < M64 → (plc f v h ≤ i) → (i < min (h + 1) k) → ∀ (w4 : mwT), w4 h0 = some (.inr (2, [.int (nI 3), .int (nI k), .int (nI sd), .int tot, .int mov, .ref ab, .int (nI (min (h + 1) k))])) → w4 ab = some (eI cI k (shD f (min (h + 1) k) i)) → (∀ zz : Nat, zz ≠ h0 → zz ≠ ab → w4 zz = w zz) → mwG X 0 0 w4 [(0, .ref h0), (1, .int v), (2, .int (nI (plc f v h))), (3, .int (nI i))] [] 64 := by
        intro M64
        induction M64 with
        | zero => intro i hm64; exact absurd hm64 (Nat.not_lt_zero _)
        | succ M64 ih64 =>
          intro i hm64 hi hi2 w4 h_w4_h0 h_w4_ab fr_w4
          refine mg_iload_n C dX2_add_64 rfl ?_
          refine mg_iload_n C dX2_add_65 rfl ?_
          refine mg_icmpN_le C (tgt := 89) dX2_add_66 (by decide) (by omega) (by omega) (fun c_66 => ?_) (fun c_66 => ?_)
          · have ei : i = plc f v h := by omega
            rw [ei] at h_w4_ab
            refine mg_aload_n C dX2_add_89 rfl ?_
            refine mg_get C inT2 h_w4_h0 rfl 5 (by decide) kw_92 (Or.inl rfl) rfl dX2_add_90 ?_
            refine mg_iload_n C dX2_add_93 rfl ?_
            refine mg_iload_n C dX2_add_94 rfl ?_
            refine mg_iastN C h_w4_ab (by omega) (by omega) dX2_add_95 (fun w5 e_w5 => ?_)
            have h_w5_h0 : w5 h0 = some (.inr (2, [.int (nI 3), .int (nI k), .int (nI sd), .int tot, .int mov, .ref ab, .int (nI (min (h + 1) k))])) := (congrFun e_w5 _).trans ((mwu_ne (mw_oa h_w4_h0 h_w4_ab)).trans h_w4_h0)
            have h_w5_ab : w5 ab = some (eI cI k (upd (shD f (min (h + 1) k) (plc f v h)) (plc f v h) v)) := (congrFun e_w5 _).trans mwu_eq
            have fr_w5 : ∀ zz : Nat, zz ≠ h0 → zz ≠ ab → w5 zz = w zz := fun zz g0 g1 => (congrFun e_w5 zz).trans ((mwu_ne g1).trans (fr_w4 zz g0 g1))
            have ey : adL k v (f, h) = (insA f (plc f v h) (min (h + 1) k) v, min (h + 1) k) := adL_yes (by omega) (fun q => sta ⟨q.1, by omega, q.2⟩)
            exact hR _ _ _ dX2_add_96 ⟨by rw [ey]; exact h_w5_h0, by rw [ey]; exact h_w5_ab.trans (congrArg (fun q => some (eI cI k q)) (shD_e f _ _ v)), fr_w5⟩
          · refine mg_aload_n C dX2_add_69 rfl ?_
            refine mg_get C inT2 h_w4_h0 rfl 5 (by decide) kw_92 (Or.inl rfl) rfl dX2_add_70 ?_
            refine mg_iload_n C dX2_add_73 rfl ?_
            refine mg_aload_n C dX2_add_74 rfl ?_
            refine mg_get C inT2 h_w4_h0 rfl 5 (by decide) kw_92 (Or.inl rfl) rfl dX2_add_75 ?_
            refine mg_iload_n C dX2_add_78 rfl ?_
            refine mg_iconst C (v := nI 1) dX2_add_79 (by decide) ?_
            refine mg_isub C (z := nI (i - 1)) dX2_add_80 (ni_sub (by omega)) ?_
            refine mg_ialdN C h_w4_ab (by omega) (by omega) dX2_add_81 ?_
            refine mg_iastN C h_w4_ab (by omega) (by omega) dX2_add_82 (fun w6 e_w6 => ?_)
            have h_w6_h0 : w6 h0 = some (.inr (2, [.int (nI 3), .int (nI k), .int (nI sd), .int tot, .int mov, .ref ab, .int (nI (min (h + 1) k))])) := (congrFun e_w6 _).trans ((mwu_ne (mw_oa h_w4_h0 h_w4_ab)).trans h_w4_h0)
            have h_w6_ab : w6 ab = some (eI cI k (upd (shD f (min (h + 1) k) i) i ((shD f (min (h + 1) k) i) (i - 1)))) := (congrFun e_w6 _).trans mwu_eq
            have fr_w6 : ∀ zz : Nat, zz ≠ h0 → zz ≠ ab → w6 zz = w zz := fun zz g0 g1 => (congrFun e_w6 zz).trans ((mwu_ne g1).trans (fr_w4 zz g0 g1))
            refine mg_iinc C (v := nI (i - 1)) (lv' := [(3, .int (nI (i - 1))), (0, .ref h0), (1, .int v), (2, .int (nI (plc f v h)))]) dX2_add_83 rfl (ni_dec (by omega)) (by decide) rfl ?_
            refine mg_goto C (tgt := 64) dX2_add_86 (by decide) ?_
            have h9 : w6 ab = some (eI cI k (shD f (min (h + 1) k) (i - 1))) := by rw [h_w6_ab]; exact congrArg (fun q => some (eI cI k q)) (shD_s f (by omega) (by omega))
            refine mg_sub (lv' := [(0, .ref h0), (1, .int v), (2, .int (nI (plc f v h))), (3, .int (nI (i - 1)))]) [1, 2, 3, 0] rfl ?_
            exact ih64 ((i - 1)) (by omega) (by omega) (by omega) w6 h_w6_h0 h9 (fun zz g0 g1 => fr_w6 zz g0 g1)
      refine mg_sub (lv' := [(0, .ref h0), (1, .int v), (2, .int (nI (plc f v h))), (3, .int (nI ((min (h + 1) k) - 1)))]) [2, 3, 1, 0] rfl ?_
      exact L64 (_ + 1) ((min (h + 1) k - 1)) (Nat.lt_succ_self _) (by omega) (by omega) w3 h_w3_h0 h9 (fun zz g0 g1 => fr_w3 zz g0)

set_option maxHeartbeats 4000000 in
set_option maxRecDepth 20000 in
theorem c_X2_take (D : va_G) (cI cS : ClassId) (w : mwT) (h0 ab k sd h : Nat) (tot mov : Int32) (f : Nat → Int32) (x : Nat) (n : Int32) (hh : w h0 = some (.inr (2, [.int (nI 3), .int (nI k), .int (nI sd), .int tot, .int mov, .ref ab, .int (nI h)]))) (hab : w ab = some (eI cI k f)) (hk1 : 2 ≤ k) (hk2 : k ≤ 32) (hh2 : h ≤ k) (hs : sd ≤ 999) (hx : x ≤ 9999) : mMv yX2_take cX2_take 3 none (rmL 3) [.ref h0, .int (nI x), .int n] D cI cS w (fun w1 => w1 h0 = some (.inr (2, [.int (nI 3), .int (nI k), .int (nI sd), .int tot, .int mov, .ref ab, .int (nI ((adL k (nI (hsN sd 0 x)) (f, h)).2))])) ∧ w1 ab = some (eI cI k (adL k (nI (hsN sd 0 x)) (f, h)).1) ∧ ∀ z : Nat, z ≠ h0 → z ≠ ab → w1 z = w z) := by
  refine mMv.of (by decide) (Nat.le_of_ble_eq_true rfl) ?_
  intro X C hN hR
  have fr_w : ∀ zz : Nat, w zz = w zz := fun _ => rfl
  refine mg_sub (lv' := [(0, .ref h0), (1, .int (nI x)), (2, .int n)]) [0, 1, 2] rfl ?_
  refine mg_aload_n C dX2_take_0 rfl ?_
  refine mg_aload_n C dX2_take_1 rfl ?_
  refine mg_get C inT2 hh rfl 2 (by decide) kw_163 (Or.inr kw_164) rfl dX2_take_2 ?_
  refine mg_iconst C (v := nI 0) dX2_take_5 (by decide) ?_
  refine mg_iload_n C dX2_take_6 rfl ?_
  refine mg_callN_i C (rest := [.ref h0]) (c_X6_hashOf D cI cS w sd 0 x hs (by omega) hx) yq_X6_hashOf kn_15 kw_265 ⟨by decide, by decide⟩ ⟨Nat.le_of_ble_eq_true rfl, Nat.le_of_ble_eq_true rfl⟩ (Nat.le_of_ble_eq_true rfl) rfl rfl dX2_take_7 (fun r1 w2 ⟨e_r1, e_w2⟩ => ?_)
  rw [e_w2, e_r1]
  refine mg_callV_v C hh rfl (rest := []) (c_X2_add D cI cS w h0 ab k sd h tot mov f (nI (hsN sd 0 x)) hh hab hk1 hk2 hh2) yq_X2_add kw_293 kw_294 kw_295 ⟨by decide, by decide⟩ ⟨Nat.le_of_ble_eq_true rfl, Nat.le_of_ble_eq_true rfl⟩ (Nat.le_of_ble_eq_true rfl) rfl rfl dX2_take_10 (fun w3 ⟨xh3, xk3, xf3⟩ => ?_)
  have fr_w3 : ∀ zz : Nat, zz ≠ h0 → zz ≠ ab → w3 zz = w zz := fun zz g0 g1 => (xf3 zz g0 g1).trans (fr_w zz )
  exact hR _ _ _ dX2_take_13 ⟨xh3, xk3, fr_w3⟩

set_option maxHeartbeats 4000000 in
set_option maxRecDepth 20000 in
theorem c_X2_join (D : va_G) (cI cS : ClassId) (w : mwT) (h0 h1 ab ab2 k sd h h2 : Nat) (tot mov tot2 mov2 : Int32) (f g : Nat → Int32) (hh : w h0 = some (.inr (2, [.int (nI 3), .int (nI k), .int (nI sd), .int tot, .int mov, .ref ab, .int (nI h)]))) (hh1 : w h1 = some (.inr (2, [.int (nI 3), .int (nI k), .int (nI sd), .int tot2, .int mov2, .ref ab2, .int (nI h2)]))) (hab : w ab = some (eI cI k f)) (hab2 : w ab2 = some (eI cI k g)) (hk1 : 2 ≤ k) (hk2 : k ≤ 32) (hh2 : h ≤ k) (hh3 : h2 ≤ k) (hne : ab ≠ ab2) (hn0 : h0 ≠ h1) : mMv yX2_join cX2_join 4 none (rmL 3) [.ref h0, .ref h1] D cI cS w (fun w1 => w1 h0 = some (.inr (2, [.int (nI 3), .int (nI k), .int (nI sd), .int tot, .int mov, .ref ab, .int (nI ((jnL k g (f, h) h2).2))])) ∧ w1 ab = some (eI cI k (jnL k g (f, h) h2).1) ∧ ∀ z : Nat, z ≠ h0 → z ≠ ab → w1 z = w z) := by
  refine mMv.of (by decide) (Nat.le_of_ble_eq_true rfl) ?_
  intro X C hN hR
  have fr_w : ∀ zz : Nat, w zz = w zz := fun _ => rfl
  refine mg_sub (lv' := [(0, .ref h0), (1, .ref h1)]) [0, 1] rfl ?_
  refine mg_aload_n C dX2_join_0 rfl ?_
  refine mg_inst C hh1 rfl kw_160 dX2_join_1 ?_
  refine mg_ifN_eq C (tgt := 47) dX2_join_4 (by decide) (by decide) (fun c_4 => absurd c_4 (by decide)) (fun c_4 => ?_)
  refine mg_aload_n C dX2_join_7 rfl ?_
  refine mg_cast C hh1 rfl kw_160 dX2_join_8 ?_
  refine mg_astore_n C (lv' := [(2, .ref h1), (0, .ref h0), (1, .ref h1)]) dX2_join_11 rfl (by decide) rfl ?_
  refine mg_iconst C (v := nI 0) dX2_join_12 (by decide) ?_
  refine mg_istore_n C (lv' := [(3, .int (nI 0)), (2, .ref h1), (0, .ref h0), (1, .ref h1)]) dX2_join_13 rfl (by decide) rfl ?_
  have L14 : ∀ (M14 : Nat) (i : Nat), h2 - i < M14 → (i ≤ h2) → ∀ (w1 : mwT), w1 h0 = some (.inr (2, [.int (nI 3), .int (nI k), .int (nI sd), .int tot, .int mov, .ref ab, .int (nI ((jnL k g (f, h) i).2))])) → w1 h1 = some (.inr (2, [.int (nI 3), .int (nI k), .int (nI sd), .int tot2, .int mov2, .ref ab2, .int (nI h2)])) → w1 ab = some (eI cI k ((jnL k g (f, h) i).1)) → w1 ab2 = some (eI cI k g) → (∀ zz : Nat, zz ≠ h0 → zz ≠ ab → w1 zz = w zz) → mwG X 0 0 w1 [(0, .ref h0), (1, .ref h1), (2, .ref h1), (3, .int (nI i))] [] 14 := by
    intro M14
    induction M14 with
    | zero => intro i hm14; exact absurd hm14 (Nat.not_lt_zero _)
    | succ M14 ih14 =>
      intro i hm14 hi w1 h_w1_h0 h_w1_h1 h_w1_ab h_w1_ab2 fr_w1
      refine mg_iload_n C dX2_join_14 rfl ?_
      refine mg_aload_n C dX2_join_15 rfl ?_
      refine mg_get C inT2 h_w1_h1 rfl 6 (by decide) kw_93 (Or.inl rfl) rfl dX2_join_16 ?_
      refine mg_icmpN_ge C (tgt := 47) dX2_join_19 (by decide) (by omega) (by omega) (fun c_19 => ?_) (fun c_19 => ?_)
      · have ei : i = h2 := by omega
        subst ei
        exact hR _ _ _ dX2_join_47 ⟨h_w1_h0, h_w1_ab, fr_w1⟩
      · refine mg_iload_n C dX2_join_22 rfl ?_
        refine mg_aload_n C dX2_join_23 rfl ?_
        refine mg_get C inT2 h_w1_h1 rfl 5 (by decide) kw_92 (Or.inl rfl) rfl dX2_join_24 ?_
        refine mg_alen C h_w1_ab2 dX2_join_27 ?_
        refine mg_icmpN_ge C (tgt := 47) dX2_join_28 (by decide) (by omega) (by omega) (fun c_28 => absurd c_28 (by omega)) (fun c_28 => ?_)
        refine mg_aload_n C dX2_join_31 rfl ?_
        refine mg_aload_n C dX2_join_32 rfl ?_
        refine mg_get C inT2 h_w1_h1 rfl 5 (by decide) kw_92 (Or.inl rfl) rfl dX2_join_33 ?_
        refine mg_iload_n C dX2_join_36 rfl ?_
        refine mg_ialdN C h_w1_ab2 (by omega) (by omega) dX2_join_37 ?_
        refine mg_callV_v C h_w1_h0 rfl (rest := []) (c_X2_add D cI cS w1 h0 ab k sd (jnL k g (f, h) i).2 tot mov (jnL k g (f, h) i).1 (g i) h_w1_h0 h_w1_ab hk1 hk2 (jnL_le hh2 i)) yq_X2_add kw_293 kw_294 kw_295 ⟨by decide, by decide⟩ ⟨Nat.le_of_ble_eq_true rfl, Nat.le_of_ble_eq_true rfl⟩ (Nat.le_of_ble_eq_true rfl) rfl rfl dX2_join_38 (fun w2 ⟨xh2, xk2, xf2⟩ => ?_)
        have h_w2_h1 : w2 h1 = some (.inr (2, [.int (nI 3), .int (nI k), .int (nI sd), .int tot2, .int mov2, .ref ab2, .int (nI h2)])) := (xf2 h1 (Ne.symm hn0) (mw_oa h_w1_h1 h_w1_ab)).trans h_w1_h1
        have h_w2_ab2 : w2 ab2 = some (eI cI k g) := (xf2 ab2 (mw_ao h_w1_ab2 h_w1_h0) (Ne.symm hne)).trans h_w1_ab2
        have fr_w2 : ∀ zz : Nat, zz ≠ h0 → zz ≠ ab → w2 zz = w zz := fun zz g0 g1 => (xf2 zz g0 g1).trans (fr_w1 zz g0 g1)
        refine mg_iinc C (v := nI (i + 1)) (lv' := [(3, .int (nI (i + 1))), (0, .ref h0), (1, .ref h1), (2, .ref h1)]) dX2_join_41 rfl (ni_inc _) (by decide) rfl ?_
        refine mg_goto C (tgt := 14) dX2_join_44 (by decide) ?_
        refine mg_sub (lv' := [(0, .ref h0), (1, .ref h1), (2, .ref h1), (3, .int (nI (i + 1)))]) [1, 2, 3, 0] rfl ?_
        exact ih14 ((i + 1)) (by omega) (by omega) w2 xh2 h_w2_h1 xk2 h_w2_ab2 (fun zz g0 g1 => fr_w2 zz g0 g1)
  refine mg_sub (lv' := [(0, .ref h0), (1, .ref h1), (2, .ref h1), (3, .int (nI 0))]) [2, 3, 1, 0] rfl ?_
  exact L14 (_ + 1) 0 (Nat.lt_succ_self _) (Nat.zero_le _) w hh hh1 hab hab2 (fun zz g0 g1 => fr_w zz )

set_option maxHeartbeats 4000000 in
set_option maxRecDepth 20000 in
theorem c_X2_holds (D : va_G) (cI cS : ClassId) (w : mwT) (h0 ab k sd h : Nat) (tot mov : Int32) (f : Nat → Int32) (x : Nat) (hh : w h0 = some (.inr (2, [.int (nI 3), .int (nI k), .int (nI sd), .int tot, .int mov, .ref ab, .int (nI h)]))) (hab : w ab = some (eI cI k f)) (hk1 : 2 ≤ k) (hk2 : k ≤ 32) (hh2 : h ≤ k) (hs : sd ≤ 999) (hx : x ≤ 9999) : mMi yX2_holds cX2_holds 3 (some .int) (rmL 2) [.ref h0, .int (nI x)] D cI cS w (fun r w1 => ((r = nI 1 ∧ stL f h (nI (hsN sd 0 x))) ∨ (r = nI 0 ∧ ¬ stL f h (nI (hsN sd 0 x)))) ∧ w1 = w) := by
  refine mMi.of (by decide) (Nat.le_of_ble_eq_true rfl) ?_
  intro X C hN hR
  refine mg_sub (lv' := [(0, .ref h0), (1, .int (nI x))]) [0, 1] rfl ?_
  refine mg_aload_n C dX2_holds_0 rfl ?_
  refine mg_get C inT2 hh rfl 2 (by decide) kw_163 (Or.inr kw_164) rfl dX2_holds_1 ?_
  refine mg_iconst C (v := nI 0) dX2_holds_4 (by decide) ?_
  refine mg_iload_n C dX2_holds_5 rfl ?_
  refine mg_callN_i C (rest := []) (c_X6_hashOf D cI cS w sd 0 x hs (by omega) hx) yq_X6_hashOf kn_15 kw_265 ⟨by decide, by decide⟩ ⟨Nat.le_of_ble_eq_true rfl, Nat.le_of_ble_eq_true rfl⟩ (Nat.le_of_ble_eq_true rfl) rfl rfl dX2_holds_6 (fun r1 w2 ⟨e_r1, e_w2⟩ => ?_)
  rw [e_w2, e_r1]
  refine mg_istore_n C (lv' := [(2, .int (nI (hsN sd 0 x))), (0, .ref h0), (1, .int (nI x))]) dX2_holds_9 rfl (by decide) rfl ?_
  refine mg_iload_n C dX2_holds_10 rfl ?_
  refine mg_aload_n C dX2_holds_11 rfl ?_
  refine mg_get C inT2 hh rfl 5 (by decide) kw_92 (Or.inl rfl) rfl dX2_holds_12 ?_
  refine mg_aload_n C dX2_holds_15 rfl ?_
  refine mg_get C inT2 hh rfl 6 (by decide) kw_93 (Or.inl rfl) rfl dX2_holds_16 ?_
  refine mg_callN_i C (rest := []) (c_X6_placeFor D cI cS w (nI (hsN sd 0 x)) ab h k f hab (by omega) (by omega)) yq_X6_placeFor kn_16 kw_271 ⟨by decide, by decide⟩ ⟨Nat.le_of_ble_eq_true rfl, Nat.le_of_ble_eq_true rfl⟩ (Nat.le_of_ble_eq_true rfl) rfl rfl dX2_holds_19 (fun r3 w3 ⟨⟨p3, xe3, xa3, xb3, xc3, xd3⟩, xk3⟩ => ?_)
  rw [xk3, xe3]
  have ep : p3 = plc f (nI (hsN sd 0 x)) h := plc_uniq xa3 xc3 (fun q => xd3 q (by omega))
  clear xc3 xd3
  subst ep
  have hpl := plc_le f (nI (hsN sd 0 x)) h
  refine mg_iload_n C dX2_holds_22 rfl ?_
  refine mg_aload_n C dX2_holds_23 rfl ?_
  refine mg_get C inT2 hh rfl 5 (by decide) kw_92 (Or.inl rfl) rfl dX2_holds_24 ?_
  refine mg_aload_n C dX2_holds_27 rfl ?_
  refine mg_get C inT2 hh rfl 6 (by decide) kw_93 (Or.inl rfl) rfl dX2_holds_28 ?_
  refine mg_callN_i C (rest := []) (c_X6_standsAt D cI cS w (plc f (nI (hsN sd 0 x)) h) (nI (hsN sd 0 x)) ab h k f hab (by omega) (by omega) (by omega)) yq_X6_standsAt kn_17 kw_273 ⟨by decide, by decide⟩ ⟨Nat.le_of_ble_eq_true rfl, Nat.le_of_ble_eq_true rfl⟩ (Nat.le_of_ble_eq_true rfl) rfl rfl dX2_holds_31 (fun r4 w4 ⟨xa4, xk4⟩ => ?_)
  rw [xk4]
  rcases xa4 with ⟨ra, sta⟩ | ⟨ra, sta⟩
  · rw [ra]
    refine mg_ifN_eq C (tgt := 41) dX2_holds_34 (by decide) (by decide) (fun c_34 => absurd c_34 (by decide)) (fun c_34 => ?_)
    refine mg_iconst C (v := nI 1) dX2_holds_37 (by decide) ?_
    refine mg_goto C (tgt := 42) dX2_holds_38 (by decide) ?_
    exact hR _ _ _ _ dX2_holds_42 ⟨Or.inl ⟨rfl, sta.1, sta.2.2⟩, rfl⟩
  · rw [ra]
    refine mg_ifN_eq C (tgt := 41) dX2_holds_34 (by decide) (by decide) (fun c_34 => ?_) (fun c_34 => absurd c_34 (by decide))
    refine mg_iconst C (v := nI 0) dX2_holds_41 (by decide) ?_
    exact hR _ _ _ _ dX2_holds_42 ⟨Or.inr ⟨rfl, fun q => sta ⟨q.1, by have := q.1; omega, q.2⟩⟩, rfl⟩

set_option maxHeartbeats 4000000 in
set_option maxRecDepth 20000 in
theorem c_X2_differentKeys (D : va_G) (cI cS : ClassId) (w : mwT) (h0 ab k sd h : Nat) (tot mov : Int32) (f : Nat → Int32) (hh : w h0 = some (.inr (2, [.int (nI 3), .int (nI k), .int (nI sd), .int tot, .int mov, .ref ab, .int (nI h)]))) (hab : w ab = some (eI cI k f)) (hk1 : 2 ≤ k) (hk2 : k ≤ 32) (hh2 : h ≤ k) : mMi yX2_differentKeys cX2_differentKeys 2 (some .int) (rmL 1) [.ref h0] D cI cS w (fun r w1 => r = dkL f h k ∧ w1 = w) := by
  refine mMi.of (by decide) (Nat.le_of_ble_eq_true rfl) ?_
  intro X C hN hR
  refine mg_sub (lv' := [(0, .ref h0)]) [0] rfl ?_
  refine mg_aload_n C dX2_differentKeys_0 rfl ?_
  refine mg_get C inT2 hh rfl 6 (by decide) kw_93 (Or.inl rfl) rfl dX2_differentKeys_1 ?_
  refine mg_aload_n C dX2_differentKeys_4 rfl ?_
  refine mg_get C inT2 hh rfl 1 (by decide) kw_161 (Or.inr kw_162) rfl dX2_differentKeys_5 ?_
  refine mg_icmpN_lt C (tgt := 31) dX2_differentKeys_8 (by decide) (by omega) (by omega) (fun c_8 => ?_) (fun c_8 => ?_)
  · refine mg_aload_n C dX2_differentKeys_31 rfl ?_
    refine mg_get C inT2 hh rfl 6 (by decide) kw_93 (Or.inl rfl) rfl dX2_differentKeys_32 ?_
    exact hR _ _ _ _ dX2_differentKeys_35 ⟨(if_pos c_8).symm, rfl⟩
  · refine mg_aload_n C dX2_differentKeys_11 rfl ?_
    refine mg_get C inT2 hh rfl 6 (by decide) kw_93 (Or.inl rfl) rfl dX2_differentKeys_12 ?_
    refine mg_iconst C (v := nI 1) dX2_differentKeys_15 (by decide) ?_
    refine mg_icmpN_lt C (tgt := 31) dX2_differentKeys_16 (by decide) (by omega) (by omega) (fun c_16 => absurd c_16 (by omega)) (fun c_16 => ?_)
    refine mg_aload_n C dX2_differentKeys_19 rfl ?_
    refine mg_get C inT2 hh rfl 6 (by decide) kw_93 (Or.inl rfl) rfl dX2_differentKeys_20 ?_
    refine mg_aload_n C dX2_differentKeys_23 rfl ?_
    refine mg_get C inT2 hh rfl 5 (by decide) kw_92 (Or.inl rfl) rfl dX2_differentKeys_24 ?_
    refine mg_alen C hab dX2_differentKeys_27 ?_
    refine mg_icmpN_le C (tgt := 36) dX2_differentKeys_28 (by decide) (by omega) (by omega) (fun c_28 => ?_) (fun c_28 => absurd c_28 (by omega))
    refine mg_aload_n C dX2_differentKeys_36 rfl ?_
    refine mg_get C inT2 hh rfl 5 (by decide) kw_92 (Or.inl rfl) rfl dX2_differentKeys_37 ?_
    refine mg_aload_n C dX2_differentKeys_40 rfl ?_
    refine mg_get C inT2 hh rfl 6 (by decide) kw_93 (Or.inl rfl) rfl dX2_differentKeys_41 ?_
    refine mg_iconst C (v := nI 1) dX2_differentKeys_44 (by decide) ?_
    refine mg_isub C (z := nI (h - 1)) dX2_differentKeys_45 (ni_sub (by omega)) ?_
    refine mg_ialdN C hab (by omega) (by omega) dX2_differentKeys_46 ?_
    refine mg_istore_n C (lv' := [(1, .int (f (h - 1))), (0, .ref h0)]) dX2_differentKeys_47 rfl (by decide) rfl ?_
    refine mg_iload_n C dX2_differentKeys_48 rfl ?_
    refine mg_iconst C (v := nI 1) dX2_differentKeys_49 (by decide) ?_
    refine mg_icmp_ge C (tgt := 60) dX2_differentKeys_50 (by decide) (fun c_50 => ?_) (fun c_50 => ?_)
    · refine mg_aload_n C dX2_differentKeys_60 rfl ?_
      refine mg_get C inT2 hh rfl 1 (by decide) kw_161 (Or.inr kw_162) rfl dX2_differentKeys_61 ?_
      refine mg_iconst C (v := nI 1) dX2_differentKeys_64 (by decide) ?_
      refine mg_isub C (z := nI (k - 1)) dX2_differentKeys_65 (ni_sub (by omega)) ?_
      refine mg_ldc C (v := nI 65537) dX2_differentKeys_66 kw_546 (by decide) ?_
      refine mg_imul C (z := nI ((k - 1) * 65537)) dX2_differentKeys_68 (pk_mul _ _) ?_
      refine mg_iload_n C dX2_differentKeys_69 rfl ?_
      refine mg_idiv C (z := nI ((k - 1) * 65537) / f (h - 1)) dX2_differentKeys_70 (fun q => absurd (q ▸ c_50 : nI 1 ≤ 0) (by decide)) rfl ?_
      exact hR _ _ _ _ dX2_differentKeys_71 ⟨((if_neg (Nat.not_lt.mpr c_8)).trans (if_pos c_50)).symm, rfl⟩
    · refine mg_aload_n C dX2_differentKeys_53 rfl ?_
      refine mg_get C inT2 hh rfl 6 (by decide) kw_93 (Or.inl rfl) rfl dX2_differentKeys_54 ?_
      refine mg_goto C (tgt := 71) dX2_differentKeys_57 (by decide) ?_
      exact hR _ _ _ _ dX2_differentKeys_71 ⟨((if_neg (Nat.not_lt.mpr c_8)).trans (if_neg c_50)).symm, rfl⟩

set_option maxHeartbeats 4000000 in
set_option maxRecDepth 20000 in
theorem c_X2_forget (D : va_G) (cI cS : ClassId) (w : mwT) (h0 ab k sd h : Nat) (tot mov : Int32) (f : Nat → Int32) (hh : w h0 = some (.inr (2, [.int (nI 3), .int (nI k), .int (nI sd), .int tot, .int mov, .ref ab, .int (nI h)]))) (hab : w ab = some (eI cI k f)) (hk1 : 2 ≤ k) (hk2 : k ≤ 32) (hh2 : h ≤ k) : mMv yX2_forget cX2_forget 1 none (rmL 1) [.ref h0] D cI cS w (fun w1 => w1 h0 = some (.inr (2, [.int (nI 3), .int (nI k), .int (nI sd), .int tot, .int mov, .ref ab, .int (nI 0)])) ∧ ∀ z : Nat, z ≠ h0 → w1 z = w z) := by
  refine mMv.of (by decide) (Nat.le_of_ble_eq_true rfl) ?_
  intro X C hN hR
  have fr_w : ∀ zz : Nat, w zz = w zz := fun _ => rfl
  refine mg_sub (lv' := [(0, .ref h0)]) [0] rfl ?_
  refine mg_aload_n C dX2_forget_0 rfl ?_
  refine mg_iconst C (v := nI 0) dX2_forget_1 (by decide) ?_
  refine mg_put C (fs' := [.int (nI 3), .int (nI k), .int (nI sd), .int tot, .int mov, .ref ab, .int (nI 0)]) inT2 hh rfl 6 (by decide) kw_93 (Or.inl rfl) tyX2_ok nmX2 rfl rfl rfl rfl (Nat.le_of_ble_eq_true rfl) dX2_forget_2 (fun w1 e_w1 => ?_)
  have h_w1_h0 : w1 h0 = some (.inr (2, [.int (nI 3), .int (nI k), .int (nI sd), .int tot, .int mov, .ref ab, .int (nI 0)])) := (congrFun e_w1 _).trans mwu_eq
  have h_w1_ab : w1 ab = some (eI cI k f) := (congrFun e_w1 _).trans ((mwu_ne (mw_ao hab hh)).trans hab)
  have fr_w1 : ∀ zz : Nat, zz ≠ h0 → w1 zz = w zz := fun zz g0 => (congrFun e_w1 zz).trans ((mwu_ne g0).trans (fr_w zz ))
  exact hR _ _ _ dX2_forget_5 ⟨h_w1_h0, fr_w1⟩

set_option maxHeartbeats 4000000 in
set_option maxRecDepth 20000 in
theorem c_X2_howManyKept (D : va_G) (cI cS : ClassId) (w : mwT) (h0 ab k sd h : Nat) (tot mov : Int32) (f : Nat → Int32) (hh : w h0 = some (.inr (2, [.int (nI 3), .int (nI k), .int (nI sd), .int tot, .int mov, .ref ab, .int (nI h)]))) (hab : w ab = some (eI cI k f)) (hk1 : 2 ≤ k) (hk2 : k ≤ 32) (hh2 : h ≤ k) : mMi yX2_howManyKept cX2_howManyKept 1 (some .int) (rmL 1) [.ref h0] D cI cS w (fun r w1 => r = nI h ∧ w1 = w) := by
  refine mMi.of (by decide) (Nat.le_of_ble_eq_true rfl) ?_
  intro X C hN hR
  refine mg_sub (lv' := [(0, .ref h0)]) [0] rfl ?_
  refine mg_aload_n C dX2_howManyKept_0 rfl ?_
  refine mg_get C inT2 hh rfl 6 (by decide) kw_93 (Or.inl rfl) rfl dX2_howManyKept_1 ?_
  exact hR _ _ _ _ dX2_howManyKept_4 ⟨rfl, rfl⟩

set_option maxHeartbeats 4000000 in
set_option maxRecDepth 20000 in
theorem c_X2_keptAt (D : va_G) (cI cS : ClassId) (w : mwT) (h0 ab k sd h : Nat) (tot mov : Int32) (f : Nat → Int32) (i pt : Int32) (hh : w h0 = some (.inr (2, [.int (nI 3), .int (nI k), .int (nI sd), .int tot, .int mov, .ref ab, .int (nI h)]))) (hab : w ab = some (eI cI k f)) (hk1 : 2 ≤ k) (hk2 : k ≤ 32) (hh2 : h ≤ k) : mMi yX2_keptAt cX2_keptAt 3 (some .int) (rmL 1) [.ref h0, .int i, .int pt] D cI cS w (fun r w1 => ((∃ a : Nat, a < h ∧ i = nI a ∧ pt = 0 ∧ r = f a) ∨ (r = -1 ∧ ¬ (ixN h i ∧ pt = 0))) ∧ w1 = w) := by
  refine mMi.of (by decide) (Nat.le_of_ble_eq_true rfl) ?_
  intro X C hN hR
  refine mg_sub (lv' := [(0, .ref h0), (1, .int i), (2, .int pt)]) [0, 1, 2] rfl ?_
  refine mg_iload_n C dX2_keptAt_0 rfl ?_
  refine mg_if_lt C (tgt := 25) dX2_keptAt_1 (by decide) (fun c_1 => ?_) (fun c_1 => ?_)
  · refine mg_iconst C (v := (-1 : Int32)) dX2_keptAt_25 (by decide) ?_
    refine mg_goto C (tgt := 35) dX2_keptAt_26 (by decide) ?_
    exact hR _ _ _ _ dX2_keptAt_35 ⟨Or.inr ⟨rfl, fun q => ix_lt (by omega) c_1 q.1⟩, rfl⟩
  · refine mg_iload_n C dX2_keptAt_4 rfl ?_
    refine mg_aload_n C dX2_keptAt_5 rfl ?_
    refine mg_get C inT2 hh rfl 6 (by decide) kw_93 (Or.inl rfl) rfl dX2_keptAt_6 ?_
    refine mg_icmp_ge C (tgt := 25) dX2_keptAt_9 (by decide) (fun c_9 => ?_) (fun c_9 => ?_)
    · refine mg_iconst C (v := (-1 : Int32)) dX2_keptAt_25 (by decide) ?_
      refine mg_goto C (tgt := 35) dX2_keptAt_26 (by decide) ?_
      exact hR _ _ _ _ dX2_keptAt_35 ⟨Or.inr ⟨rfl, fun q => ix_ge (by omega) c_9 q.1⟩, rfl⟩
    · obtain ⟨a, ha, rfl⟩ := ix_of (by omega) c_1 c_9
      refine mg_iload_n C dX2_keptAt_12 rfl ?_
      refine mg_aload_n C dX2_keptAt_13 rfl ?_
      refine mg_get C inT2 hh rfl 5 (by decide) kw_92 (Or.inl rfl) rfl dX2_keptAt_14 ?_
      refine mg_alen C hab dX2_keptAt_17 ?_
      refine mg_icmpN_ge C (tgt := 25) dX2_keptAt_18 (by decide) (by omega) (by omega) (fun c_18 => absurd c_18 (by omega)) (fun c_18 => ?_)
      refine mg_iload_n C dX2_keptAt_21 rfl ?_
      refine mg_if_eq C (tgt := 29) dX2_keptAt_22 (by decide) (fun c_22 => ?_) (fun c_22 => ?_)
      · refine mg_aload_n C dX2_keptAt_29 rfl ?_
        refine mg_get C inT2 hh rfl 5 (by decide) kw_92 (Or.inl rfl) rfl dX2_keptAt_30 ?_
        refine mg_iload_n C dX2_keptAt_33 rfl ?_
        refine mg_ialdN C hab (by omega) (by omega) dX2_keptAt_34 ?_
        exact hR _ _ _ _ dX2_keptAt_35 ⟨Or.inl ⟨a, ha, rfl, c_22, rfl⟩, rfl⟩
      · refine mg_iconst C (v := (-1 : Int32)) dX2_keptAt_25 (by decide) ?_
        refine mg_goto C (tgt := 35) dX2_keptAt_26 (by decide) ?_
        exact hR _ _ _ _ dX2_keptAt_35 ⟨Or.inr ⟨rfl, fun q => c_22 q.2⟩, rfl⟩

set_option maxHeartbeats 4000000 in
set_option maxRecDepth 20000 in
theorem c_X2_init (D : va_G) (cI cS : ClassId) (w : mwT) (h0 k sd : Nat) (hh : w h0 = some (.inr (2, [.int 0, .int 0, .int 0, .int 0, .int 0, .null, .int 0]))) (hk1 : 2 ≤ k) (hk2 : k ≤ 32) : mMv yX2_init cX2_init 3 none (rmA 2 1 32) [.ref h0, .int (nI k), .int (nI sd)] D cI cS w (fun w1 => ∃ qa : Nat, w qa = none ∧ w1 h0 = some (.inr (2, [.int (nI 3), .int (nI k), .int (nI sd), .int (nI 0), .int (nI 0), .ref qa, .int (nI 0)])) ∧ w1 qa = some (eI cI k (fun _ => 0)) ∧ ∀ z : Nat, z ≠ h0 → z ≠ qa → w1 z = w z) := by
  refine mMv.of (by decide) (Nat.le_of_ble_eq_true rfl) ?_
  intro X C hN hR
  have fr_w : ∀ zz : Nat, w zz = w zz := fun _ => rfl
  refine mg_sub (lv' := [(0, .ref h0), (1, .int (nI k)), (2, .int (nI sd))]) [0, 1, 2] rfl ?_
  refine mg_aload_n C dX2_init_0 rfl ?_
  refine mg_iconst C (v := nI 3) dX2_init_1 (by decide) ?_
  refine mg_iload_n C dX2_init_2 rfl ?_
  refine mg_iload_n C dX2_init_3 rfl ?_
  refine mg_callI_v C (rest := []) (c_X4_init_L D cI cS w h0 3 k sd hh) yq_X4_init kw_94 kw_70 rfl ⟨by decide, by decide⟩ ⟨Nat.le_of_ble_eq_true rfl, Nat.le_of_ble_eq_true rfl⟩ (Nat.le_of_ble_eq_true rfl) rfl rfl dX2_init_4 (fun w1 ⟨xh1, xf1⟩ => ?_)
  refine mg_widen (k := 0) (n := 0) (by decide) (by decide) ?_
  have fr_w1 : ∀ zz : Nat, zz ≠ h0 → w1 zz = w zz := fun zz g0 => (xf1 zz g0).trans (fr_w zz )
  refine mg_aload_n C dX2_init_7 rfl ?_
  refine mg_iload_n C dX2_init_8 rfl ?_
  refine mg_newa C kw_19 (by omega) ⟨by decide, by (show 0 + k ≤ 32; omega)⟩ dX2_init_9 (fun q2 w3 n_q2 e_w3 => ?_)
  refine mg_widen (k := 1) (n := 32) (by decide) (by omega) ?_
  have nd_q2_h0 : h0 ≠ q2 := mw_nn xh1 n_q2
  have nz_q2 : w q2 = none := (fr_w1 q2 (Ne.symm nd_q2_h0)).symm.trans n_q2
  have h_w3_h0 : w3 h0 = some (.inr (2, [.int (nI 3), .int (nI k), .int (nI sd), .int (nI 0), .int (nI 0), .null, .int 0])) := (congrFun e_w3 _).trans ((mwu_ne nd_q2_h0).trans xh1)
  have h_w3_q2 : w3 q2 = some (eI cI k (fun _ => 0)) := (congrFun e_w3 _).trans mwu_eq
  have fr_w3 : ∀ zz : Nat, zz ≠ h0 → zz ≠ q2 → w3 zz = w zz := fun zz g0 g1 => (congrFun e_w3 zz).trans ((mwu_ne g1).trans (fr_w1 zz g0))
  refine mg_putF C (fs' := [.int (nI 3), .int (nI k), .int (nI sd), .int (nI 0), .int (nI 0), .ref q2, .int 0]) inT2 h_w3_h0 rfl 5 (by decide) kw_92 (Or.inl rfl) tyX2_ok nmX2 rfl hN rfl rfl rfl rfl (Nat.le_of_ble_eq_true rfl) dX2_init_11 (fun w4 e_w4 => ?_)
  have h_w4_h0 : w4 h0 = some (.inr (2, [.int (nI 3), .int (nI k), .int (nI sd), .int (nI 0), .int (nI 0), .ref q2, .int 0])) := (congrFun e_w4 _).trans mwu_eq
  have h_w4_q2 : w4 q2 = some (eI cI k (fun _ => 0)) := (congrFun e_w4 _).trans ((mwu_ne (Ne.symm nd_q2_h0)).trans h_w3_q2)
  have fr_w4 : ∀ zz : Nat, zz ≠ h0 → zz ≠ q2 → w4 zz = w zz := fun zz g0 g1 => (congrFun e_w4 zz).trans ((mwu_ne g0).trans (fr_w3 zz g0 g1))
  refine mg_aload_n C dX2_init_14 rfl ?_
  refine mg_iconst C (v := nI 0) dX2_init_15 (by decide) ?_
  refine mg_put C (fs' := [.int (nI 3), .int (nI k), .int (nI sd), .int (nI 0), .int (nI 0), .ref q2, .int (nI 0)]) inT2 h_w4_h0 rfl 6 (by decide) kw_93 (Or.inl rfl) tyX2_ok nmX2 rfl rfl rfl rfl (Nat.le_of_ble_eq_true rfl) dX2_init_16 (fun w5 e_w5 => ?_)
  have h_w5_h0 : w5 h0 = some (.inr (2, [.int (nI 3), .int (nI k), .int (nI sd), .int (nI 0), .int (nI 0), .ref q2, .int (nI 0)])) := (congrFun e_w5 _).trans mwu_eq
  have h_w5_q2 : w5 q2 = some (eI cI k (fun _ => 0)) := (congrFun e_w5 _).trans ((mwu_ne (Ne.symm nd_q2_h0)).trans h_w4_q2)
  have fr_w5 : ∀ zz : Nat, zz ≠ h0 → zz ≠ q2 → w5 zz = w zz := fun zz g0 g1 => (congrFun e_w5 zz).trans ((mwu_ne g0).trans (fr_w4 zz g0 g1))
  exact hR _ _ _ dX2_init_19 ⟨q2, nz_q2, h_w5_h0, h_w5_q2, fr_w5⟩

set_option maxHeartbeats 4000000 in
set_option maxRecDepth 20000 in
theorem c_X2_twin (D : va_G) (cI cS : ClassId) (w : mwT) (h0 ab k sd h : Nat) (tot mov : Int32) (f : Nat → Int32) (hh : w h0 = some (.inr (2, [.int (nI 3), .int (nI k), .int (nI sd), .int tot, .int mov, .ref ab, .int (nI h)]))) (h_ab : w ab = some (eI cI k f)) (hk1 : 2 ≤ k) (hk2 : k ≤ 32) : mMq yX2_twin cX2_twin 2 (some (.object "SketchSpans$Sketch")) (rmA 3 2 39) [.ref h0] D cI cS w (fun r w1 => ∃ q qa : Nat, r = some q ∧ w q = none ∧ w qa = none ∧ q ≠ qa ∧ w1 q = some (.inr (2, [.int (nI 3), .int (nI k), .int (nI sd), .int tot, .int mov, .ref qa, .int (nI h)])) ∧ w1 qa = some (eI cI k (cpy0 f (fun _ => 0) k)) ∧ ∀ z : Nat, z ≠ q → z ≠ qa → w1 z = w z) := by
  refine mMq.of (by decide) (Nat.le_of_ble_eq_true rfl) ?_
  intro X C hN hR
  have fr_w : ∀ zz : Nat, w zz = w zz := fun _ => rfl
  refine mg_sub (lv' := [(0, .ref h0)]) [0] rfl ?_
  refine mg_new C (ci := 2) (fs := [.int 0, .int 0, .int 0, .int 0, .int 0, .null, .int 0]) inT2 tyX2_ok kw_160 kw_57 kw_58 rfl df_X2 ⟨by decide, by decide⟩ dX2_twin_0 (fun q1 w2 n_q1 e_w2 => ?_)
  refine mg_widen (k := 1) (n := 7) (by decide) (by decide) ?_
  have nd_q1_h0 : h0 ≠ q1 := mw_nn hh n_q1
  have nd_q1_ab : ab ≠ q1 := mw_nn h_ab n_q1
  have nz_q1 : w q1 = none := (fr_w q1 ).symm.trans n_q1
  have h_w2_h0 : w2 h0 = some (.inr (2, [.int (nI 3), .int (nI k), .int (nI sd), .int tot, .int mov, .ref ab, .int (nI h)])) := (congrFun e_w2 _).trans ((mwu_ne nd_q1_h0).trans hh)
  have h_w2_ab : w2 ab = some (eI cI k f) := (congrFun e_w2 _).trans ((mwu_ne nd_q1_ab).trans h_ab)
  have h_w2_q1 : w2 q1 = some (.inr (2, [.int 0, .int 0, .int 0, .int 0, .int 0, .null, .int 0])) := (congrFun e_w2 _).trans mwu_eq
  have fr_w2 : ∀ zz : Nat, zz ≠ q1 → w2 zz = w zz := fun zz g0 => (congrFun e_w2 zz).trans ((mwu_ne g0).trans (fr_w zz ))
  refine mg_dup C dX2_twin_3 rfl ?_
  refine mg_aload_n C dX2_twin_4 rfl ?_
  refine mg_get C inT2 h_w2_h0 rfl 1 (by decide) kw_161 (Or.inr kw_162) rfl dX2_twin_5 ?_
  refine mg_aload_n C dX2_twin_8 rfl ?_
  refine mg_get C inT2 h_w2_h0 rfl 2 (by decide) kw_163 (Or.inr kw_164) rfl dX2_twin_9 ?_
  refine mg_callI_v C (rest := [.ref q1]) (c_X2_init D cI cS w2 q1 k sd h_w2_q1 hk1 hk2) yq_X2_init kw_165 kw_90 rfl ⟨by decide, by decide⟩ ⟨Nat.le_of_ble_eq_true rfl, Nat.le_of_ble_eq_true rfl⟩ (Nat.le_of_ble_eq_true rfl) rfl rfl dX2_twin_12 (fun w3 ⟨q3a, n_q3a, xh3, xkq3a, xf3⟩ => ?_)
  refine mg_widen (k := 2) (n := 39) (by decide) (by decide) ?_
  have nd_q3a_h0 : h0 ≠ q3a := mw_nn h_w2_h0 n_q3a
  have nd_q3a_ab : ab ≠ q3a := mw_nn h_w2_ab n_q3a
  have nd_q3a_q1 : q1 ≠ q3a := mw_nn h_w2_q1 n_q3a
  have nz_q3a : w q3a = none := (fr_w2 q3a (Ne.symm nd_q3a_q1)).symm.trans n_q3a
  have h_w3_h0 : w3 h0 = some (.inr (2, [.int (nI 3), .int (nI k), .int (nI sd), .int tot, .int mov, .ref ab, .int (nI h)])) := (xf3 h0 nd_q1_h0 (mw_nn h_w2_h0 n_q3a)).trans h_w2_h0
  have h_w3_ab : w3 ab = some (eI cI k f) := (xf3 ab nd_q1_ab (mw_nn h_w2_ab n_q3a)).trans h_w2_ab
  have fr_w3 : ∀ zz : Nat, zz ≠ q1 → zz ≠ q3a → w3 zz = w zz := fun zz g0 g1 => (xf3 zz g0 g1).trans (fr_w2 zz g0)
  refine mg_astore_n C (lv' := [(1, .ref q1), (0, .ref h0)]) dX2_twin_15 rfl (by decide) rfl ?_
  refine mg_aload_n C dX2_twin_16 rfl ?_
  refine mg_aload_n C dX2_twin_17 rfl ?_
  refine mg_callU_v C xh3 rfl (rest := []) (c_X4_copyTotals_L D cI cS w3 q1 h0 3 k sd (nI 0) (nI 0) tot mov (.ref q3a) (.ref ab) (.int (nI 0)) (.int (nI h)) xh3 h_w3_h0 (Ne.symm nd_q1_h0)) yq_X4_copyTotals kw_166 kw_167 dq_copyTotals (by decide +kernel) kw_141 kw_168 ⟨by decide, by decide⟩ ⟨Nat.le_of_ble_eq_true rfl, Nat.le_of_ble_eq_true rfl⟩ (Nat.le_of_ble_eq_true rfl) rfl rfl dX2_twin_18 (fun w4 ⟨xh4, xf4⟩ => ?_)
  refine mg_widen (k := 2) (n := 39) (by decide) (by decide) ?_
  have h_w4_h0 : w4 h0 = some (.inr (2, [.int (nI 3), .int (nI k), .int (nI sd), .int tot, .int mov, .ref ab, .int (nI h)])) := (xf4 h0 nd_q1_h0).trans h_w3_h0
  have h_w4_ab : w4 ab = some (eI cI k f) := (xf4 ab nd_q1_ab).trans h_w3_ab
  have h_w4_q3a : w4 q3a = some (eI cI k (fun _ => 0)) := (xf4 q3a (Ne.symm nd_q3a_q1)).trans xkq3a
  have fr_w4 : ∀ zz : Nat, zz ≠ q1 → zz ≠ q3a → w4 zz = w zz := fun zz g0 g1 => (xf4 zz g0).trans (fr_w3 zz g0 g1)
  refine mg_aload_n C dX2_twin_21 rfl ?_
  refine mg_get C inT2 h_w4_h0 rfl 5 (by decide) kw_92 (Or.inl rfl) rfl dX2_twin_22 ?_
  refine mg_aload_n C dX2_twin_25 rfl ?_
  refine mg_get C inT2 xh4 rfl 5 (by decide) kw_92 (Or.inl rfl) rfl dX2_twin_26 ?_
  refine mg_callN_v C (rest := []) (c_X6_copyRow D cI cS w4 ab q3a k f (fun _ => 0) h_w4_ab h_w4_q3a (by omega) nd_q3a_ab) yq_X6_copyRow kn_4 kw_143 ⟨by decide, by decide⟩ ⟨Nat.le_of_ble_eq_true rfl, Nat.le_of_ble_eq_true rfl⟩ (Nat.le_of_ble_eq_true rfl) rfl rfl dX2_twin_29 (fun w5 ⟨xh5, xf5⟩ => ?_)
  refine mg_widen (k := 2) (n := 39) (by decide) (by decide) ?_
  have h_w5_h0 : w5 h0 = some (.inr (2, [.int (nI 3), .int (nI k), .int (nI sd), .int tot, .int mov, .ref ab, .int (nI h)])) := (xf5 h0 nd_q3a_h0).trans h_w4_h0
  have h_w5_ab : w5 ab = some (eI cI k f) := (xf5 ab nd_q3a_ab).trans h_w4_ab
  have h_w5_q1 : w5 q1 = some (.inr (2, [.int (nI 3), .int (nI k), .int (nI sd), .int tot, .int mov, .ref q3a, .int (nI 0)])) := (xf5 q1 nd_q3a_q1).trans xh4
  have fr_w5 : ∀ zz : Nat, zz ≠ q1 → zz ≠ q3a → w5 zz = w zz := fun zz g0 g1 => (xf5 zz g1).trans (fr_w4 zz g0 g1)
  refine mg_aload_n C dX2_twin_32 rfl ?_
  refine mg_aload_n C dX2_twin_33 rfl ?_
  refine mg_get C inT2 h_w5_h0 rfl 6 (by decide) kw_93 (Or.inl rfl) rfl dX2_twin_34 ?_
  refine mg_put C (fs' := [.int (nI 3), .int (nI k), .int (nI sd), .int tot, .int mov, .ref q3a, .int (nI h)]) inT2 h_w5_q1 rfl 6 (by decide) kw_93 (Or.inl rfl) tyX2_ok nmX2 rfl rfl rfl rfl (Nat.le_of_ble_eq_true rfl) dX2_twin_37 (fun w6 e_w6 => ?_)
  have h_w6_h0 : w6 h0 = some (.inr (2, [.int (nI 3), .int (nI k), .int (nI sd), .int tot, .int mov, .ref ab, .int (nI h)])) := (congrFun e_w6 _).trans ((mwu_ne nd_q1_h0).trans h_w5_h0)
  have h_w6_ab : w6 ab = some (eI cI k f) := (congrFun e_w6 _).trans ((mwu_ne nd_q1_ab).trans h_w5_ab)
  have h_w6_q1 : w6 q1 = some (.inr (2, [.int (nI 3), .int (nI k), .int (nI sd), .int tot, .int mov, .ref q3a, .int (nI h)])) := (congrFun e_w6 _).trans mwu_eq
  have h_w6_q3a : w6 q3a = some (eI cI k (cpy0 f (fun _ => 0) k)) := (congrFun e_w6 _).trans ((mwu_ne (Ne.symm nd_q3a_q1)).trans xh5)
  have fr_w6 : ∀ zz : Nat, zz ≠ q1 → zz ≠ q3a → w6 zz = w zz := fun zz g0 g1 => (congrFun e_w6 zz).trans ((mwu_ne g0).trans (fr_w5 zz g0 g1))
  refine mg_aload_n C dX2_twin_40 rfl ?_
  exact hR (some q1) _ _ _ dX2_twin_41 ⟨q1, q3a, rfl, nz_q1, nz_q3a, nd_q3a_q1, h_w6_q1, h_w6_q3a, fr_w6⟩
end
section
/-! ===== HEAVY: COUNTERS in two rows ===== -/
abbrev hvT : Type := (Nat → Int32) × (Nat → Int32) × Nat
def adH (x n : Int32) (S : hvT) : hvT :=
  if plc S.1 x S.2.2 < S.2.2 ∧ S.1 (plc S.1 x S.2.2) = x then (S.1, upd S.2.1 (plc S.1 x S.2.2) (S.2.1 (plc S.1 x S.2.2) + n), S.2.2) else (insA S.1 (plc S.1 x S.2.2) (S.2.2 + 1) x, insA S.2.1 (plc S.1 x S.2.2) (S.2.2 + 1) n, S.2.2 + 1)
theorem adH_yes {x n : Int32} {f g : Nat → Int32} {h : Nat} (q : plc f x h < h ∧ f (plc f x h) = x) : adH x n (f, g, h) = (f, upd g (plc f x h) (g (plc f x h) + n), h) := by
  unfold adH
  exact if_pos q
theorem adH_no {x n : Int32} {f g : Nat → Int32} {h : Nat} (q : ¬ (plc f x h < h ∧ f (plc f x h) = x)) : adH x n (f, g, h) = (insA f (plc f x h) (h + 1) x, insA g (plc f x h) (h + 1) n, h + 1) := by
  unfold adH
  exact if_neg q
theorem adH_le (x n : Int32) (S : hvT) : (adH x n S).2.2 ≤ S.2.2 + 1 := by
  unfold adH
  split
  · exact Nat.le_succ _
  · exact Nat.le_refl _
def lsN (g : Nat → Int32) (lim : Int32) : Nat → Int32
  | 0 => lim
  | i + 1 => if g i < lsN g lim i then g i else lsN g lim i
def lwH (f g : Nat → Int32) (d : Int32) : Nat → hvT
  | 0 => (f, g, 0)
  | i + 1 => if (lwH f g d i).2.1 i ≤ d then lwH f g d i else (upd (lwH f g d i).1 (lwH f g d i).2.2 ((lwH f g d i).1 i), upd (lwH f g d i).2.1 (lwH f g d i).2.2 ((lwH f g d i).2.1 i - d), (lwH f g d i).2.2 + 1)
theorem lwH_skip {f g : Nat → Int32} {d : Int32} {i : Nat} (h : (lwH f g d i).2.1 i ≤ d) : lwH f g d (i + 1) = lwH f g d i := by rw [lwH, if_pos h]
theorem lwH_keep {f g : Nat → Int32} {d : Int32} {i : Nat} (h : ¬ (lwH f g d i).2.1 i ≤ d) : lwH f g d (i + 1) = (upd (lwH f g d i).1 (lwH f g d i).2.2 ((lwH f g d i).1 i), upd (lwH f g d i).2.1 (lwH f g d i).2.2 ((lwH f g d i).2.1 i - d), (lwH f g d i).2.2 + 1) := by rw [lwH, if_neg h]
theorem lwH_le (f g : Nat → Int32) (d : Int32) : ∀ i, (lwH f g d i).2.2 ≤ i
  | 0 => Nat.le_refl _
  | i + 1 => by
    have := lwH_le f g d i
    by_cases h : (lwH f g d i).2.1 i ≤ d
    · rw [lwH_skip h]; omega
    · rw [lwH_keep h]; show (lwH f g d i).2.2 + 1 ≤ i + 1; omega
def hnB (g : Nat → Int32) (v : Int32) : Nat → Nat
  | 0 => 0
  | i + 1 => if g i < v then hnB g v i else hnB g v i + 1
theorem hnB_le (g : Nat → Int32) (v : Int32) : ∀ n, hnB g v n ≤ n
  | 0 => Nat.le_refl _
  | n + 1 => by
    have := hnB_le g v n
    unfold hnB
    split <;> omega
theorem hnB_z {g : Nat → Int32} {v : Int32} {n : Nat} (h : g n < v) : hnB g v (n + 1) = hnB g v n := by simp [hnB, h]
theorem hnB_s {g : Nat → Int32} {v : Int32} {n : Nat} (h : ¬ g n < v) : hnB g v (n + 1) = hnB g v n + 1 := by simp [hnB, h]
def fnH (g : Nat → Int32) (k h : Nat) : Nat → Int32
  | 0 => nI 0
  | i + 1 => if ¬ g i ≤ fnH g k h i ∧ k < hnB g (g i) h then g i else fnH g k h i
def jnH (f2 g2 : Nat → Int32) (S : hvT) : Nat → hvT
  | 0 => S
  | i + 1 => adH (f2 i) (g2 i) (jnH f2 g2 S i)
theorem jnH_le (f2 g2 : Nat → Int32) (S : hvT) : ∀ i, (jnH f2 g2 S i).2.2 ≤ S.2.2 + i
  | 0 => Nat.le_refl _
  | i + 1 => by
    have h1 := jnH_le f2 g2 S i
    have h2 := adH_le (f2 i) (g2 i) (jnH f2 g2 S i)
    show (adH (f2 i) (g2 i) (jnH f2 g2 S i)).2.2 ≤ _
    omega
def alH (f g : Nat → Int32) (h : Nat) (x : Int32) : Int32 := if plc f x h < h ∧ f (plc f x h) = x then g (plc f x h) else nI 0
/-- x comes n times -/
def tkH (k : Nat) (x n : Int32) (S : hvT) (lo : Int32) : hvT × Int32 :=
  if k ≤ S.2.2 ∧ ¬ (plc S.1 x S.2.2 < S.2.2 ∧ S.1 (plc S.1 x S.2.2) = x) then
    (if n - lsN S.2.1 n S.2.2 ≤ 0 then lwH S.1 S.2.1 (lsN S.2.1 n S.2.2) S.2.2 else adH x (n - lsN S.2.1 n S.2.2) (lwH S.1 S.2.1 (lsN S.2.1 n S.2.2) S.2.2), lo + lsN S.2.1 n S.2.2)
  else (if n ≤ 0 then S else adH x n S, lo)
/-- two made one -/
def mgH (k : Nat) (f2 g2 : Nat → Int32) (h2 : Nat) (lo2 : Int32) (S : hvT) (lo : Int32) : hvT × Int32 :=
  if k < (jnH f2 g2 S h2).2.2 then
    (lwH (jnH f2 g2 S h2).1 (jnH f2 g2 S h2).2.1 (fnH (jnH f2 g2 S h2).2.1 k (jnH f2 g2 S h2).2.2 (jnH f2 g2 S h2).2.2) (jnH f2 g2 S h2).2.2, lo + lo2 + fnH (jnH f2 g2 S h2).2.1 k (jnH f2 g2 S h2).2.2 (jnH f2 g2 S h2).2.2)
  else (jnH f2 g2 S h2, lo + lo2)
theorem pt01 {x : Int32} (h0 : ¬ x < 0) (h1 : x ≤ nI 1) (h2 : ¬ x = 0) : x = 1 := by
  obtain ⟨a, ha, rfl⟩ := nI_of h0
  have := (nI_leI (by omega) (by omega)).mp h1
  rcases (show a = 0 ∨ a = 1 by omega) with rfl | rfl
  · exact absurd nI_0 h2
  · decide
theorem pt_gt {x : Int32} (h : ¬ x ≤ nI 1) : ¬ (x = 0 ∨ x = 1) := by
  rintro (rfl | rfl) <;> exact h (by decide)
theorem pt_lt {x : Int32} (h : x < 0) : ¬ (x = 0 ∨ x = 1) := by
  rintro (rfl | rfl) <;> exact absurd h (by decide)
end
section
set_option maxHeartbeats 4000000 in
set_option maxRecDepth 20000 in
theorem c_X1_add (D : va_G) (cI cS : ClassId) (w : mwT) (h0 ak an k sd h : Nat) (tot mov lo : Int32) (f g : Nat → Int32) (x n : Int32) (hh : w h0 = some (.inr (1, [.int (nI 0), .int (nI k), .int (nI sd), .int tot, .int mov, .ref ak, .ref an, .int (nI h), .int lo]))) (hak : w ak = some (eI cI (2 * k) f)) (han : w an = some (eI cI (2 * k) g)) (hk1 : 1 ≤ k) (hk2 : k ≤ 20) (hh2 : h < 2 * k) (hka : ak ≠ an) : mMv yX1_add cX1_add 5 none (rmL 2) [.ref h0, .int x, .int n] D cI cS w (fun w1 => w1 h0 = some (.inr (1, [.int (nI 0), .int (nI k), .int (nI sd), .int tot, .int mov, .ref ak, .ref an, .int (nI ((adH x n (f, g, h)).2.2)), .int lo])) ∧ w1 ak = some (eI cI (2 * k) (adH x n (f, g, h)).1) ∧ w1 an = some (eI cI (2 * k) (adH x n (f, g, h)).2.1) ∧ ∀ z : Nat, z ≠ h0 → z ≠ ak → z ≠ an → w1 z = w z) := by
  refine mMv.of (by decide) (Nat.le_of_ble_eq_true rfl) ?_
  intro X C hN hR
  have fr_w : ∀ zz : Nat, w zz = w zz := fun _ => rfl
  refine mg_sub (lv' := [(0, .ref h0), (1, .int x), (2, .int n)]) [0, 1, 2] rfl ?_
  refine mg_iload_n C dX1_add_0 rfl ?_
  refine mg_aload_n C dX1_add_1 rfl ?_
  refine mg_get C inT1 hh rfl 5 (by decide) kw_65 (Or.inl rfl) rfl dX1_add_2 ?_
  refine mg_aload_n C dX1_add_5 rfl ?_
  refine mg_get C inT1 hh rfl 7 (by decide) kw_67 (Or.inl rfl) rfl dX1_add_6 ?_
  refine mg_callN_i C (rest := []) (c_X6_placeFor D cI cS w x ak h (2 * k) f hak (by omega) (by omega)) yq_X6_placeFor kn_13 kw_271 ⟨by decide, by decide⟩ ⟨Nat.le_of_ble_eq_true rfl, Nat.le_of_ble_eq_true rfl⟩ (Nat.le_of_ble_eq_true rfl) rfl rfl dX1_add_9 (fun r1 w1 ⟨⟨p1, xe1, xa1, xb1, xc1, xd1⟩, xk1⟩ => ?_)
  rw [xk1, xe1]
  have ep : p1 = plc f x h := plc_uniq xa1 xc1 (fun q => xd1 q (by omega))
  clear xc1 xd1
  subst ep
  have hpl := plc_le f x h
  refine mg_istore_n C (lv' := [(3, .int (nI (plc f x h))), (0, .ref h0), (1, .int x), (2, .int n)]) dX1_add_12 rfl (by decide) rfl ?_
  refine mg_iload_n C dX1_add_13 rfl ?_
  refine mg_iload_n C dX1_add_14 rfl ?_
  refine mg_aload_n C dX1_add_15 rfl ?_
  refine mg_get C inT1 hh rfl 5 (by decide) kw_65 (Or.inl rfl) rfl dX1_add_16 ?_
  refine mg_aload_n C dX1_add_19 rfl ?_
  refine mg_get C inT1 hh rfl 7 (by decide) kw_67 (Or.inl rfl) rfl dX1_add_20 ?_
  refine mg_callN_i C (rest := []) (c_X6_standsAt D cI cS w (plc f x h) x ak h (2 * k) f hak (by omega) (by omega) (by omega)) yq_X6_standsAt kn_14 kw_273 ⟨by decide, by decide⟩ ⟨Nat.le_of_ble_eq_true rfl, Nat.le_of_ble_eq_true rfl⟩ (Nat.le_of_ble_eq_true rfl) rfl rfl dX1_add_23 (fun r2 w2 ⟨xa2, xk2⟩ => ?_)
  rw [xk2]
  rcases xa2 with ⟨ra, sta⟩ | ⟨ra, sta⟩
  · rw [ra]
    refine mg_ifN_eq C (tgt := 42) dX1_add_26 (by decide) (by decide) (fun c_26 => absurd c_26 (by decide)) (fun c_26 => ?_)
    refine mg_aload_n C dX1_add_29 rfl ?_
    refine mg_get C inT1 hh rfl 6 (by decide) kw_66 (Or.inl rfl) rfl dX1_add_30 ?_
    refine mg_iload_n C dX1_add_33 rfl ?_
    refine mg_dup2 C dX1_add_34 rfl rfl ?_
    refine mg_ialdN C han (by omega) (by omega) dX1_add_35 ?_
    refine mg_iload_n C dX1_add_36 rfl ?_
    refine mg_iadd C (z := (g (plc f x h)) + n) dX1_add_37 rfl ?_
    refine mg_iastN C han (by omega) (by omega) dX1_add_38 (fun w3 e_w3 => ?_)
    have h_w3_h0 : w3 h0 = some (.inr (1, [.int (nI 0), .int (nI k), .int (nI sd), .int tot, .int mov, .ref ak, .ref an, .int (nI h), .int lo])) := (congrFun e_w3 _).trans ((mwu_ne (mw_oa hh han)).trans hh)
    have h_w3_ak : w3 ak = some (eI cI (2 * k) f) := (congrFun e_w3 _).trans ((mwu_ne hka).trans hak)
    have h_w3_an : w3 an = some (eI cI (2 * k) (upd g (plc f x h) ((g (plc f x h)) + n))) := (congrFun e_w3 _).trans mwu_eq
    have fr_w3 : ∀ zz : Nat, zz ≠ an → w3 zz = w zz := fun zz g0 => (congrFun e_w3 zz).trans ((mwu_ne g0).trans (fr_w zz ))
    refine mg_goto C (tgt := 128) dX1_add_39 (by decide) ?_
    have ey : adH x n (f, g, h) = (f, upd g (plc f x h) (g (plc f x h) + n), h) := adH_yes ⟨sta.1, sta.2.2⟩
    exact hR _ _ _ dX1_add_128 ⟨by rw [ey]; exact h_w3_h0, by rw [ey]; exact h_w3_ak, by rw [ey]; exact h_w3_an, fun z _ _ q => fr_w3 z q⟩
  · rw [ra]
    refine mg_ifN_eq C (tgt := 42) dX1_add_26 (by decide) (by decide) (fun c_26 => ?_) (fun c_26 => absurd c_26 (by decide))
    refine mg_aload_n C dX1_add_42 rfl ?_
    refine mg_get C inT1 hh rfl 7 (by decide) kw_67 (Or.inl rfl) rfl dX1_add_43 ?_
    refine mg_aload_n C dX1_add_46 rfl ?_
    refine mg_get C inT1 hh rfl 5 (by decide) kw_65 (Or.inl rfl) rfl dX1_add_47 ?_
    refine mg_alen C hak dX1_add_50 ?_
    refine mg_icmpN_ge C (tgt := 128) dX1_add_51 (by decide) (by omega) (by omega) (fun c_51 => absurd c_51 (by omega)) (fun c_51 => ?_)
    refine mg_aload_n C dX1_add_54 rfl ?_
    refine mg_get C inT1 hh rfl 7 (by decide) kw_67 (Or.inl rfl) rfl dX1_add_55 ?_
    refine mg_istore C (lv' := [(4, .int (nI h)), (3, .int (nI (plc f x h))), (0, .ref h0), (1, .int x), (2, .int n)]) dX1_add_58 (by decide) rfl ?_
    have h9ak : w ak = some (eI cI (2 * k) (shD f (h + 1) h)) := by rw [hak, shD_0 f (by omega)]
    have h9an : w an = some (eI cI (2 * k) (shD g (h + 1) h)) := by rw [han, shD_0 g (by omega)]
    have L60 : ∀ (M60 : Nat) (i : Nat), i < M60 → (plc f x h ≤ i) → (i ≤ h) → ∀ (w4 : mwT), w4 h0 = some (.inr (1, [.int (nI 0), .int (nI k), .int (nI sd), .int tot, .int mov, .ref ak, .ref an, .int (nI h), .int lo])) → w4 ak = some (eI cI (2 * k) (shD f (h + 1) i)) → w4 an = some (eI cI (2 * k) (shD g (h + 1) i)) → (∀ zz : Nat, zz ≠ ak → zz ≠ an → w4 zz = w zz) → mwG X 0 0 w4 [(0, .ref h0), (1, .int x), (2, .int n), (3, .int (nI (plc f x h))), (4, .int (nI i))] [] 60 := by
      intro M60
      induction M60 with
      | zero => intro i hm60; exact absurd hm60 (Nat.not_lt_zero _)
      | succ M60 ih60 =>
        intro i hm60 hi hi2 w4 h_w4_h0 h_w4_ak h_w4_an fr_w4
        refine mg_iload C dX1_add_60 rfl ?_
        refine mg_iload_n C dX1_add_62 rfl ?_
        refine mg_icmpN_le C (tgt := 104) dX1_add_63 (by decide) (by omega) (by omega) (fun c_63 => ?_) (fun c_63 => ?_)
        · have ei : i = plc f x h := by omega
          rw [ei] at h_w4_ak
          rw [ei] at h_w4_an
          refine mg_aload_n C dX1_add_104 rfl ?_
          refine mg_get C inT1 h_w4_h0 rfl 5 (by decide) kw_65 (Or.inl rfl) rfl dX1_add_105 ?_
          refine mg_iload_n C dX1_add_108 rfl ?_
          refine mg_iload_n C dX1_add_109 rfl ?_
          refine mg_iastN C h_w4_ak (by omega) (by omega) dX1_add_110 (fun w5 e_w5 => ?_)
          have h_w5_h0 : w5 h0 = some (.inr (1, [.int (nI 0), .int (nI k), .int (nI sd), .int tot, .int mov, .ref ak, .ref an, .int (nI h), .int lo])) := (congrFun e_w5 _).trans ((mwu_ne (mw_oa h_w4_h0 h_w4_ak)).trans h_w4_h0)
          have h_w5_ak : w5 ak = some (eI cI (2 * k) (upd (shD f (h + 1) (plc f x h)) (plc f x h) x)) := (congrFun e_w5 _).trans mwu_eq
          have h_w5_an : w5 an = some (eI cI (2 * k) (shD g (h + 1) (plc f x h))) := (congrFun e_w5 _).trans ((mwu_ne (Ne.symm hka)).trans h_w4_an)
          have fr_w5 : ∀ zz : Nat, zz ≠ ak → zz ≠ an → w5 zz = w zz := fun zz g0 g1 => (congrFun e_w5 zz).trans ((mwu_ne g0).trans (fr_w4 zz g0 g1))
          refine mg_aload_n C dX1_add_111 rfl ?_
          refine mg_get C inT1 h_w5_h0 rfl 6 (by decide) kw_66 (Or.inl rfl) rfl dX1_add_112 ?_
          refine mg_iload_n C dX1_add_115 rfl ?_
          refine mg_iload_n C dX1_add_116 rfl ?_
          refine mg_iastN C h_w5_an (by omega) (by omega) dX1_add_117 (fun w6 e_w6 => ?_)
          have h_w6_h0 : w6 h0 = some (.inr (1, [.int (nI 0), .int (nI k), .int (nI sd), .int tot, .int mov, .ref ak, .ref an, .int (nI h), .int lo])) := (congrFun e_w6 _).trans ((mwu_ne (mw_oa h_w5_h0 h_w5_an)).trans h_w5_h0)
          have h_w6_ak : w6 ak = some (eI cI (2 * k) (upd (shD f (h + 1) (plc f x h)) (plc f x h) x)) := (congrFun e_w6 _).trans ((mwu_ne hka).trans h_w5_ak)
          have h_w6_an : w6 an = some (eI cI (2 * k) (upd (shD g (h + 1) (plc f x h)) (plc f x h) n)) := (congrFun e_w6 _).trans mwu_eq
          have fr_w6 : ∀ zz : Nat, zz ≠ ak → zz ≠ an → w6 zz = w zz := fun zz g0 g1 => (congrFun e_w6 zz).trans ((mwu_ne g1).trans (fr_w5 zz g0 g1))
          refine mg_aload_n C dX1_add_118 rfl ?_
          refine mg_dup C dX1_add_119 rfl ?_
          refine mg_get C inT1 h_w6_h0 rfl 7 (by decide) kw_67 (Or.inl rfl) rfl dX1_add_120 ?_
          refine mg_iconst C (v := nI 1) dX1_add_123 (by decide) ?_
          refine mg_iadd C (z := nI (h + 1)) dX1_add_124 (nI_add _ _) ?_
          refine mg_put C (fs' := [.int (nI 0), .int (nI k), .int (nI sd), .int tot, .int mov, .ref ak, .ref an, .int (nI (h + 1)), .int lo]) inT1 h_w6_h0 rfl 7 (by decide) kw_67 (Or.inl rfl) tyX1_ok nmX1 rfl rfl rfl rfl (Nat.le_of_ble_eq_true rfl) dX1_add_125 (fun w7 e_w7 => ?_)
          have h_w7_h0 : w7 h0 = some (.inr (1, [.int (nI 0), .int (nI k), .int (nI sd), .int tot, .int mov, .ref ak, .ref an, .int (nI (h + 1)), .int lo])) := (congrFun e_w7 _).trans mwu_eq
          have h_w7_ak : w7 ak = some (eI cI (2 * k) (upd (shD f (h + 1) (plc f x h)) (plc f x h) x)) := (congrFun e_w7 _).trans ((mwu_ne (mw_ao h_w6_ak h_w6_h0)).trans h_w6_ak)
          have h_w7_an : w7 an = some (eI cI (2 * k) (upd (shD g (h + 1) (plc f x h)) (plc f x h) n)) := (congrFun e_w7 _).trans ((mwu_ne (mw_ao h_w6_an h_w6_h0)).trans h_w6_an)
          have fr_w7 : ∀ zz : Nat, zz ≠ ak → zz ≠ an → zz ≠ h0 → w7 zz = w zz := fun zz g0 g1 g2 => (congrFun e_w7 zz).trans ((mwu_ne g2).trans (fr_w6 zz g0 g1))
          have ey : adH x n (f, g, h) = (insA f (plc f x h) (h + 1) x, insA g (plc f x h) (h + 1) n, h + 1) := adH_no (fun q => sta ⟨q.1, by have := q.1; omega, q.2⟩)
          exact hR _ _ _ dX1_add_128 ⟨by rw [ey]; exact h_w7_h0, by rw [ey]; exact h_w7_ak.trans (congrArg (fun q => some (eI cI (2 * k) q)) (shD_e f _ _ x)), by rw [ey]; exact h_w7_an.trans (congrArg (fun q => some (eI cI (2 * k) q)) (shD_e g _ _ n)), fun z q0 q1 q2 => fr_w7 z q1 q2 q0⟩
        · refine mg_aload_n C dX1_add_66 rfl ?_
          refine mg_get C inT1 h_w4_h0 rfl 5 (by decide) kw_65 (Or.inl rfl) rfl dX1_add_67 ?_
          refine mg_iload C dX1_add_70 rfl ?_
          refine mg_aload_n C dX1_add_72 rfl ?_
          refine mg_get C inT1 h_w4_h0 rfl 5 (by decide) kw_65 (Or.inl rfl) rfl dX1_add_73 ?_
          refine mg_iload C dX1_add_76 rfl ?_
          refine mg_iconst C (v := nI 1) dX1_add_78 (by decide) ?_
          refine mg_isub C (z := nI (i - 1)) dX1_add_79 (ni_sub (by omega)) ?_
          refine mg_ialdN C h_w4_ak (by omega) (by omega) dX1_add_80 ?_
          refine mg_iastN C h_w4_ak (by omega) (by omega) dX1_add_81 (fun w8 e_w8 => ?_)
          have h_w8_h0 : w8 h0 = some (.inr (1, [.int (nI 0), .int (nI k), .int (nI sd), .int tot, .int mov, .ref ak, .ref an, .int (nI h), .int lo])) := (congrFun e_w8 _).trans ((mwu_ne (mw_oa h_w4_h0 h_w4_ak)).trans h_w4_h0)
          have h_w8_ak : w8 ak = some (eI cI (2 * k) (upd (shD f (h + 1) i) i ((shD f (h + 1) i) (i - 1)))) := (congrFun e_w8 _).trans mwu_eq
          have h_w8_an : w8 an = some (eI cI (2 * k) (shD g (h + 1) i)) := (congrFun e_w8 _).trans ((mwu_ne (Ne.symm hka)).trans h_w4_an)
          have fr_w8 : ∀ zz : Nat, zz ≠ ak → zz ≠ an → w8 zz = w zz := fun zz g0 g1 => (congrFun e_w8 zz).trans ((mwu_ne g0).trans (fr_w4 zz g0 g1))
          refine mg_aload_n C dX1_add_82 rfl ?_
          refine mg_get C inT1 h_w8_h0 rfl 6 (by decide) kw_66 (Or.inl rfl) rfl dX1_add_83 ?_
          refine mg_iload C dX1_add_86 rfl ?_
          refine mg_aload_n C dX1_add_88 rfl ?_
          refine mg_get C inT1 h_w8_h0 rfl 6 (by decide) kw_66 (Or.inl rfl) rfl dX1_add_89 ?_
          refine mg_iload C dX1_add_92 rfl ?_
          refine mg_iconst C (v := nI 1) dX1_add_94 (by decide) ?_
          refine mg_isub C (z := nI (i - 1)) dX1_add_95 (ni_sub (by omega)) ?_
          refine mg_ialdN C h_w8_an (by omega) (by omega) dX1_add_96 ?_
          refine mg_iastN C h_w8_an (by omega) (by omega) dX1_add_97 (fun w9 e_w9 => ?_)
          have h_w9_h0 : w9 h0 = some (.inr (1, [.int (nI 0), .int (nI k), .int (nI sd), .int tot, .int mov, .ref ak, .ref an, .int (nI h), .int lo])) := (congrFun e_w9 _).trans ((mwu_ne (mw_oa h_w8_h0 h_w8_an)).trans h_w8_h0)
          have h_w9_ak : w9 ak = some (eI cI (2 * k) (upd (shD f (h + 1) i) i ((shD f (h + 1) i) (i - 1)))) := (congrFun e_w9 _).trans ((mwu_ne hka).trans h_w8_ak)
          have h_w9_an : w9 an = some (eI cI (2 * k) (upd (shD g (h + 1) i) i ((shD g (h + 1) i) (i - 1)))) := (congrFun e_w9 _).trans mwu_eq
          have fr_w9 : ∀ zz : Nat, zz ≠ ak → zz ≠ an → w9 zz = w zz := fun zz g0 g1 => (congrFun e_w9 zz).trans ((mwu_ne g1).trans (fr_w8 zz g0 g1))
          refine mg_iinc C (v := nI (i - 1)) (lv' := [(4, .int (nI (i - 1))), (0, .ref h0), (1, .int x), (2, .int n), (3, .int (nI (plc f x h)))]) dX1_add_98 rfl (ni_dec (by omega)) (by decide) rfl ?_
          refine mg_goto C (tgt := 60) dX1_add_101 (by decide) ?_
          have h9ak : w9 ak = some (eI cI (2 * k) (shD f (h + 1) (i - 1))) := by rw [h_w9_ak]; exact congrArg (fun q => some (eI cI (2 * k) q)) (shD_s f (by omega) (by omega))
          have h9an : w9 an = some (eI cI (2 * k) (shD g (h + 1) (i - 1))) := by rw [h_w9_an]; exact congrArg (fun q => some (eI cI (2 * k) q)) (shD_s g (by omega) (by omega))
          refine mg_sub (lv' := [(0, .ref h0), (1, .int x), (2, .int n), (3, .int (nI (plc f x h))), (4, .int (nI (i - 1)))]) [1, 2, 3, 4, 0] rfl ?_
          exact ih60 ((i - 1)) (by omega) (by omega) (by omega) w9 h_w9_h0 h9ak h9an (fun zz g0 g1 => fr_w9 zz g0 g1)
    refine mg_sub (lv' := [(0, .ref h0), (1, .int x), (2, .int n), (3, .int (nI (plc f x h))), (4, .int (nI h))]) [2, 3, 4, 1, 0] rfl ?_
    exact L60 (_ + 1) h (Nat.lt_succ_self _) (by omega) (by omega) w hh h9ak h9an (fun zz g0 g1 => fr_w zz )

set_option maxHeartbeats 4000000 in
set_option maxRecDepth 20000 in
theorem c_X1_leastNumber (D : va_G) (cI cS : ClassId) (w : mwT) (h0 ak an k sd h : Nat) (tot mov lo : Int32) (f g : Nat → Int32) (lim : Int32) (hh : w h0 = some (.inr (1, [.int (nI 0), .int (nI k), .int (nI sd), .int tot, .int mov, .ref ak, .ref an, .int (nI h), .int lo]))) (hak : w ak = some (eI cI (2 * k) f)) (han : w an = some (eI cI (2 * k) g)) (hk1 : 1 ≤ k) (hk2 : k ≤ 20) (hh2 : h ≤ 2 * k) : mMi yX1_leastNumber cX1_leastNumber 4 (some .int) (rmL 1) [.ref h0, .int lim] D cI cS w (fun r w1 => r = lsN g lim h ∧ w1 = w) := by
  refine mMi.of (by decide) (Nat.le_of_ble_eq_true rfl) ?_
  intro X C hN hR
  refine mg_sub (lv' := [(0, .ref h0), (1, .int lim)]) [0, 1] rfl ?_
  refine mg_iload_n C dX1_leastNumber_0 rfl ?_
  refine mg_istore_n C (lv' := [(2, .int lim), (0, .ref h0), (1, .int lim)]) dX1_leastNumber_1 rfl (by decide) rfl ?_
  refine mg_iconst C (v := nI 0) dX1_leastNumber_2 (by decide) ?_
  refine mg_istore_n C (lv' := [(3, .int (nI 0)), (2, .int lim), (0, .ref h0), (1, .int lim)]) dX1_leastNumber_3 rfl (by decide) rfl ?_
  have L4 : ∀ (M4 : Nat) (i : Nat), h - i < M4 → (i ≤ h) → mwG X 0 0 w [(0, .ref h0), (1, .int lim), (2, .int (lsN g lim i)), (3, .int (nI i))] [] 4 := by
    intro M4
    induction M4 with
    | zero => intro i hm4; exact absurd hm4 (Nat.not_lt_zero _)
    | succ M4 ih4 =>
      intro i hm4 hi
      refine mg_iload_n C dX1_leastNumber_4 rfl ?_
      refine mg_aload_n C dX1_leastNumber_5 rfl ?_
      refine mg_get C inT1 hh rfl 7 (by decide) kw_67 (Or.inl rfl) rfl dX1_leastNumber_6 ?_
      refine mg_icmpN_ge C (tgt := 38) dX1_leastNumber_9 (by decide) (by omega) (by omega) (fun c_9 => ?_) (fun c_9 => ?_)
      · refine mg_iload_n C dX1_leastNumber_38 rfl ?_
        have ei : i = h := by omega
        exact hR _ _ _ _ dX1_leastNumber_39 ⟨by rw [ei], rfl⟩
      · refine mg_iload_n C dX1_leastNumber_12 rfl ?_
        refine mg_aload_n C dX1_leastNumber_13 rfl ?_
        refine mg_get C inT1 hh rfl 6 (by decide) kw_66 (Or.inl rfl) rfl dX1_leastNumber_14 ?_
        refine mg_alen C han dX1_leastNumber_17 ?_
        refine mg_icmpN_ge C (tgt := 38) dX1_leastNumber_18 (by decide) (by omega) (by omega) (fun c_18 => absurd c_18 (by omega)) (fun c_18 => ?_)
        refine mg_iload_n C dX1_leastNumber_21 rfl ?_
        refine mg_aload_n C dX1_leastNumber_22 rfl ?_
        refine mg_get C inT1 hh rfl 6 (by decide) kw_66 (Or.inl rfl) rfl dX1_leastNumber_23 ?_
        refine mg_iload_n C dX1_leastNumber_26 rfl ?_
        refine mg_ialdN C han (by omega) (by omega) dX1_leastNumber_27 ?_
        refine mg_mmin C (z := if g i < lsN g lim i then g i else lsN g lim i) dX1_leastNumber_28 kw_279 ⟨Nat.le_of_ble_eq_true rfl, Nat.le_of_ble_eq_true rfl⟩ ⟨by decide, by decide⟩ rfl ?_
        refine mg_istore_n C (lv' := [(2, .int (if g i < lsN g lim i then g i else lsN g lim i)), (0, .ref h0), (1, .int lim), (3, .int (nI i))]) dX1_leastNumber_31 rfl (by decide) rfl ?_
        refine mg_iinc C (v := nI (i + 1)) (lv' := [(3, .int (nI (i + 1))), (2, .int (if g i < lsN g lim i then g i else lsN g lim i)), (0, .ref h0), (1, .int lim)]) dX1_leastNumber_32 rfl (ni_inc _) (by decide) rfl ?_
        refine mg_goto C (tgt := 4) dX1_leastNumber_35 (by decide) ?_
        refine mg_sub (lv' := [(0, .ref h0), (1, .int lim), (2, .int (if g i < lsN g lim i then g i else lsN g lim i)), (3, .int (nI (i + 1)))]) [2, 3, 1, 0] rfl ?_
        exact ih4 ((i + 1)) (by omega) (by omega)
  refine mg_sub (lv' := [(0, .ref h0), (1, .int lim), (2, .int lim), (3, .int (nI 0))]) [2, 3, 1, 0] rfl ?_
  exact L4 (_ + 1) 0 (Nat.lt_succ_self _) (Nat.zero_le _)

set_option maxHeartbeats 4000000 in
set_option maxRecDepth 20000 in
theorem c_X1_lower (D : va_G) (cI cS : ClassId) (w : mwT) (h0 ak an k sd h : Nat) (tot mov lo : Int32) (f g : Nat → Int32) (d : Int32) (hh : w h0 = some (.inr (1, [.int (nI 0), .int (nI k), .int (nI sd), .int tot, .int mov, .ref ak, .ref an, .int (nI h), .int lo]))) (hak : w ak = some (eI cI (2 * k) f)) (han : w an = some (eI cI (2 * k) g)) (hk1 : 1 ≤ k) (hk2 : k ≤ 20) (hh2 : h ≤ 2 * k) (hka : ak ≠ an) : mMv yX1_lower cX1_lower 4 none (rmL 1) [.ref h0, .int d] D cI cS w (fun w1 => w1 h0 = some (.inr (1, [.int (nI 0), .int (nI k), .int (nI sd), .int tot, .int mov, .ref ak, .ref an, .int (nI ((lwH f g d h).2.2)), .int (lo + d)])) ∧ w1 ak = some (eI cI (2 * k) (lwH f g d h).1) ∧ w1 an = some (eI cI (2 * k) (lwH f g d h).2.1) ∧ ∀ z : Nat, z ≠ h0 → z ≠ ak → z ≠ an → w1 z = w z) := by
  refine mMv.of (by decide) (Nat.le_of_ble_eq_true rfl) ?_
  intro X C hN hR
  have fr_w : ∀ zz : Nat, w zz = w zz := fun _ => rfl
  refine mg_sub (lv' := [(0, .ref h0), (1, .int d)]) [0, 1] rfl ?_
  refine mg_aload_n C dX1_lower_0 rfl ?_
  refine mg_dup C dX1_lower_1 rfl ?_
  refine mg_get C inT1 hh rfl 8 (by decide) kw_68 (Or.inl rfl) rfl dX1_lower_2 ?_
  refine mg_iload_n C dX1_lower_5 rfl ?_
  refine mg_iadd C (z := lo + d) dX1_lower_6 rfl ?_
  refine mg_put C (fs' := [.int (nI 0), .int (nI k), .int (nI sd), .int tot, .int mov, .ref ak, .ref an, .int (nI h), .int (lo + d)]) inT1 hh rfl 8 (by decide) kw_68 (Or.inl rfl) tyX1_ok nmX1 rfl rfl rfl rfl (Nat.le_of_ble_eq_true rfl) dX1_lower_7 (fun w1 e_w1 => ?_)
  have h_w1_h0 : w1 h0 = some (.inr (1, [.int (nI 0), .int (nI k), .int (nI sd), .int tot, .int mov, .ref ak, .ref an, .int (nI h), .int (lo + d)])) := (congrFun e_w1 _).trans mwu_eq
  have h_w1_ak : w1 ak = some (eI cI (2 * k) f) := (congrFun e_w1 _).trans ((mwu_ne (mw_ao hak hh)).trans hak)
  have h_w1_an : w1 an = some (eI cI (2 * k) g) := (congrFun e_w1 _).trans ((mwu_ne (mw_ao han hh)).trans han)
  have fr_w1 : ∀ zz : Nat, zz ≠ h0 → w1 zz = w zz := fun zz g0 => (congrFun e_w1 zz).trans ((mwu_ne g0).trans (fr_w zz ))
  refine mg_iconst C (v := nI 0) dX1_lower_10 (by decide) ?_
  refine mg_istore_n C (lv' := [(2, .int (nI 0)), (0, .ref h0), (1, .int d)]) dX1_lower_11 rfl (by decide) rfl ?_
  refine mg_iconst C (v := nI 0) dX1_lower_12 (by decide) ?_
  refine mg_istore_n C (lv' := [(3, .int (nI 0)), (2, .int (nI 0)), (0, .ref h0), (1, .int d)]) dX1_lower_13 rfl (by decide) rfl ?_
  have L14 : ∀ (M14 : Nat) (i : Nat), h - i < M14 → (i ≤ h) → ∀ (w2 : mwT), w2 h0 = some (.inr (1, [.int (nI 0), .int (nI k), .int (nI sd), .int tot, .int mov, .ref ak, .ref an, .int (nI h), .int (lo + d)])) → w2 ak = some (eI cI (2 * k) ((lwH f g d i).1)) → w2 an = some (eI cI (2 * k) ((lwH f g d i).2.1)) → (∀ zz : Nat, zz ≠ h0 → zz ≠ ak → zz ≠ an → w2 zz = w zz) → mwG X 0 0 w2 [(0, .ref h0), (1, .int d), (2, .int (nI ((lwH f g d i).2.2))), (3, .int (nI i))] [] 14 := by
    intro M14
    induction M14 with
    | zero => intro i hm14; exact absurd hm14 (Nat.not_lt_zero _)
    | succ M14 ih14 =>
      intro i hm14 hi w2 h_w2_h0 h_w2_ak h_w2_an fr_w2
      refine mg_iload_n C dX1_lower_14 rfl ?_
      refine mg_aload_n C dX1_lower_15 rfl ?_
      refine mg_get C inT1 h_w2_h0 rfl 7 (by decide) kw_67 (Or.inl rfl) rfl dX1_lower_16 ?_
      refine mg_icmpN_ge C (tgt := 76) dX1_lower_19 (by decide) (by omega) (by omega) (fun c_19 => ?_) (fun c_19 => ?_)
      · refine mg_aload_n C dX1_lower_76 rfl ?_
        refine mg_iload_n C dX1_lower_77 rfl ?_
        refine mg_put C (fs' := [.int (nI 0), .int (nI k), .int (nI sd), .int tot, .int mov, .ref ak, .ref an, .int (nI ((lwH f g d i).2.2)), .int (lo + d)]) inT1 h_w2_h0 rfl 7 (by decide) kw_67 (Or.inl rfl) tyX1_ok nmX1 rfl rfl rfl rfl (Nat.le_of_ble_eq_true rfl) dX1_lower_78 (fun w3 e_w3 => ?_)
        have h_w3_h0 : w3 h0 = some (.inr (1, [.int (nI 0), .int (nI k), .int (nI sd), .int tot, .int mov, .ref ak, .ref an, .int (nI ((lwH f g d i).2.2)), .int (lo + d)])) := (congrFun e_w3 _).trans mwu_eq
        have h_w3_ak : w3 ak = some (eI cI (2 * k) ((lwH f g d i).1)) := (congrFun e_w3 _).trans ((mwu_ne (mw_ao h_w2_ak h_w2_h0)).trans h_w2_ak)
        have h_w3_an : w3 an = some (eI cI (2 * k) ((lwH f g d i).2.1)) := (congrFun e_w3 _).trans ((mwu_ne (mw_ao h_w2_an h_w2_h0)).trans h_w2_an)
        have fr_w3 : ∀ zz : Nat, zz ≠ h0 → zz ≠ ak → zz ≠ an → w3 zz = w zz := fun zz g0 g1 g2 => (congrFun e_w3 zz).trans ((mwu_ne g0).trans (fr_w2 zz g0 g1 g2))
        have ei : i = h := by omega
        rw [ei] at h_w3_h0
        rw [ei] at h_w3_ak
        rw [ei] at h_w3_an
        exact hR _ _ _ dX1_lower_81 ⟨h_w3_h0, h_w3_ak, h_w3_an, fun z q0 q1 q2 => fr_w3 z q0 q1 q2⟩
      · refine mg_iload_n C dX1_lower_22 rfl ?_
        refine mg_aload_n C dX1_lower_23 rfl ?_
        refine mg_get C inT1 h_w2_h0 rfl 5 (by decide) kw_65 (Or.inl rfl) rfl dX1_lower_24 ?_
        refine mg_alen C h_w2_ak dX1_lower_27 ?_
        refine mg_icmpN_ge C (tgt := 76) dX1_lower_28 (by decide) (by omega) (by omega) (fun c_28 => absurd c_28 (by omega)) (fun c_28 => ?_)
        refine mg_aload_n C dX1_lower_31 rfl ?_
        refine mg_get C inT1 h_w2_h0 rfl 6 (by decide) kw_66 (Or.inl rfl) rfl dX1_lower_32 ?_
        refine mg_iload_n C dX1_lower_35 rfl ?_
        refine mg_ialdN C h_w2_an (by omega) (by omega) dX1_lower_36 ?_
        refine mg_iload_n C dX1_lower_37 rfl ?_
        refine mg_icmp_le C (tgt := 70) dX1_lower_38 (by decide) (fun c_38 => ?_) (fun c_38 => ?_)
        · have el := lwH_skip c_38
          have h7ak : w2 ak = some (eI cI (2 * k) (lwH f g d (i + 1)).1) := by rw [el]; exact h_w2_ak
          have h7an : w2 an = some (eI cI (2 * k) (lwH f g d (i + 1)).2.1) := by rw [el]; exact h_w2_an
          have el2 : nI ((lwH f g d i).2.2) = nI (lwH f g d (i + 1)).2.2 := by rw [el]
          rw [el2]
          refine mg_iinc C (v := nI (i + 1)) (lv' := [(3, .int (nI (i + 1))), (0, .ref h0), (1, .int d), (2, .int (nI ((lwH f g d (i + 1)).2.2)))]) dX1_lower_70 rfl (ni_inc _) (by decide) rfl ?_
          refine mg_goto C (tgt := 14) dX1_lower_73 (by decide) ?_
          refine mg_sub (lv' := [(0, .ref h0), (1, .int d), (2, .int (nI ((lwH f g d (i + 1)).2.2))), (3, .int (nI (i + 1)))]) [1, 2, 3, 0] rfl ?_
          exact ih14 ((i + 1)) (by omega) (by omega) w2 h_w2_h0 h7ak h7an (fun zz g0 g1 g2 => fr_w2 zz g0 g1 g2)
        · have hle := lwH_le f g d i
          refine mg_aload_n C dX1_lower_41 rfl ?_
          refine mg_get C inT1 h_w2_h0 rfl 5 (by decide) kw_65 (Or.inl rfl) rfl dX1_lower_42 ?_
          refine mg_iload_n C dX1_lower_45 rfl ?_
          refine mg_aload_n C dX1_lower_46 rfl ?_
          refine mg_get C inT1 h_w2_h0 rfl 5 (by decide) kw_65 (Or.inl rfl) rfl dX1_lower_47 ?_
          refine mg_iload_n C dX1_lower_50 rfl ?_
          refine mg_ialdN C h_w2_ak (by omega) (by omega) dX1_lower_51 ?_
          refine mg_iastN C h_w2_ak (by omega) (by omega) dX1_lower_52 (fun w4 e_w4 => ?_)
          have h_w4_h0 : w4 h0 = some (.inr (1, [.int (nI 0), .int (nI k), .int (nI sd), .int tot, .int mov, .ref ak, .ref an, .int (nI h), .int (lo + d)])) := (congrFun e_w4 _).trans ((mwu_ne (mw_oa h_w2_h0 h_w2_ak)).trans h_w2_h0)
          have h_w4_ak : w4 ak = some (eI cI (2 * k) (upd ((lwH f g d i).1) ((lwH f g d i).2.2) (((lwH f g d i).1) i))) := (congrFun e_w4 _).trans mwu_eq
          have h_w4_an : w4 an = some (eI cI (2 * k) ((lwH f g d i).2.1)) := (congrFun e_w4 _).trans ((mwu_ne (Ne.symm hka)).trans h_w2_an)
          have fr_w4 : ∀ zz : Nat, zz ≠ h0 → zz ≠ ak → zz ≠ an → w4 zz = w zz := fun zz g0 g1 g2 => (congrFun e_w4 zz).trans ((mwu_ne g1).trans (fr_w2 zz g0 g1 g2))
          refine mg_aload_n C dX1_lower_53 rfl ?_
          refine mg_get C inT1 h_w4_h0 rfl 6 (by decide) kw_66 (Or.inl rfl) rfl dX1_lower_54 ?_
          refine mg_iload_n C dX1_lower_57 rfl ?_
          refine mg_aload_n C dX1_lower_58 rfl ?_
          refine mg_get C inT1 h_w4_h0 rfl 6 (by decide) kw_66 (Or.inl rfl) rfl dX1_lower_59 ?_
          refine mg_iload_n C dX1_lower_62 rfl ?_
          refine mg_ialdN C h_w4_an (by omega) (by omega) dX1_lower_63 ?_
          refine mg_iload_n C dX1_lower_64 rfl ?_
          refine mg_isub C (z := (((lwH f g d i).2.1) i) - d) dX1_lower_65 rfl ?_
          refine mg_iastN C h_w4_an (by omega) (by omega) dX1_lower_66 (fun w5 e_w5 => ?_)
          have h_w5_h0 : w5 h0 = some (.inr (1, [.int (nI 0), .int (nI k), .int (nI sd), .int tot, .int mov, .ref ak, .ref an, .int (nI h), .int (lo + d)])) := (congrFun e_w5 _).trans ((mwu_ne (mw_oa h_w4_h0 h_w4_an)).trans h_w4_h0)
          have h_w5_ak : w5 ak = some (eI cI (2 * k) (upd ((lwH f g d i).1) ((lwH f g d i).2.2) (((lwH f g d i).1) i))) := (congrFun e_w5 _).trans ((mwu_ne hka).trans h_w4_ak)
          have h_w5_an : w5 an = some (eI cI (2 * k) (upd ((lwH f g d i).2.1) ((lwH f g d i).2.2) ((((lwH f g d i).2.1) i) - d))) := (congrFun e_w5 _).trans mwu_eq
          have fr_w5 : ∀ zz : Nat, zz ≠ h0 → zz ≠ ak → zz ≠ an → w5 zz = w zz := fun zz g0 g1 g2 => (congrFun e_w5 zz).trans ((mwu_ne g2).trans (fr_w4 zz g0 g1 g2))
          refine mg_iinc C (v := nI ((lwH f g d i).2.2 + 1)) (lv' := [(2, .int (nI ((lwH f g d i).2.2 + 1))), (0, .ref h0), (1, .int d), (3, .int (nI i))]) dX1_lower_67 rfl (ni_inc _) (by decide) rfl ?_
          have el := lwH_keep c_38
          have h7ak : w5 ak = some (eI cI (2 * k) (lwH f g d (i + 1)).1) := by rw [el]; exact h_w5_ak
          have h7an : w5 an = some (eI cI (2 * k) (lwH f g d (i + 1)).2.1) := by rw [el]; exact h_w5_an
          have el2 : nI ((lwH f g d i).2.2 + 1) = nI (lwH f g d (i + 1)).2.2 := by rw [el]
          rw [el2]
          refine mg_iinc C (v := nI (i + 1)) (lv' := [(3, .int (nI (i + 1))), (2, .int (nI ((lwH f g d (i + 1)).2.2))), (0, .ref h0), (1, .int d)]) dX1_lower_70 rfl (ni_inc _) (by decide) rfl ?_
          refine mg_goto C (tgt := 14) dX1_lower_73 (by decide) ?_
          refine mg_sub (lv' := [(0, .ref h0), (1, .int d), (2, .int (nI ((lwH f g d (i + 1)).2.2))), (3, .int (nI (i + 1)))]) [2, 3, 1, 0] rfl ?_
          exact ih14 ((i + 1)) (by omega) (by omega) w5 h_w5_h0 h7ak h7an (fun zz g0 g1 g2 => fr_w5 zz g0 g1 g2)
  refine mg_sub (lv' := [(0, .ref h0), (1, .int d), (2, .int (nI 0)), (3, .int (nI 0))]) [2, 3, 1, 0] rfl ?_
  exact L14 (_ + 1) 0 (Nat.lt_succ_self _) (Nat.zero_le _) w1 h_w1_h0 h_w1_ak h_w1_an (fun zz g0 g1 g2 => fr_w1 zz g0)

set_option maxHeartbeats 4000000 in
set_option maxRecDepth 20000 in
theorem c_X1_howManyNotBelow (D : va_G) (cI cS : ClassId) (w : mwT) (h0 ak an k sd h : Nat) (tot mov lo : Int32) (f g : Nat → Int32) (v : Int32) (hh : w h0 = some (.inr (1, [.int (nI 0), .int (nI k), .int (nI sd), .int tot, .int mov, .ref ak, .ref an, .int (nI h), .int lo]))) (hak : w ak = some (eI cI (2 * k) f)) (han : w an = some (eI cI (2 * k) g)) (hk1 : 1 ≤ k) (hk2 : k ≤ 20) (hh2 : h ≤ 2 * k) : mMi yX1_howManyNotBelow cX1_howManyNotBelow 4 (some .int) (rmL 1) [.ref h0, .int v] D cI cS w (fun r w1 => r = nI (hnB g v h) ∧ w1 = w) := by
  refine mMi.of (by decide) (Nat.le_of_ble_eq_true rfl) ?_
  intro X C hN hR
  refine mg_sub (lv' := [(0, .ref h0), (1, .int v)]) [0, 1] rfl ?_
  refine mg_iconst C (v := nI 0) dX1_howManyNotBelow_0 (by decide) ?_
  refine mg_istore_n C (lv' := [(2, .int (nI 0)), (0, .ref h0), (1, .int v)]) dX1_howManyNotBelow_1 rfl (by decide) rfl ?_
  refine mg_iconst C (v := nI 0) dX1_howManyNotBelow_2 (by decide) ?_
  refine mg_istore_n C (lv' := [(3, .int (nI 0)), (2, .int (nI 0)), (0, .ref h0), (1, .int v)]) dX1_howManyNotBelow_3 rfl (by decide) rfl ?_
  have L4 : ∀ (M4 : Nat) (i : Nat), h - i < M4 → (i ≤ h) → mwG X 0 0 w [(0, .ref h0), (1, .int v), (2, .int (nI (hnB g v i))), (3, .int (nI i))] [] 4 := by
    intro M4
    induction M4 with
    | zero => intro i hm4; exact absurd hm4 (Nat.not_lt_zero _)
    | succ M4 ih4 =>
      intro i hm4 hi
      refine mg_iload_n C dX1_howManyNotBelow_4 rfl ?_
      refine mg_aload_n C dX1_howManyNotBelow_5 rfl ?_
      refine mg_get C inT1 hh rfl 7 (by decide) kw_67 (Or.inl rfl) rfl dX1_howManyNotBelow_6 ?_
      refine mg_icmpN_ge C (tgt := 40) dX1_howManyNotBelow_9 (by decide) (by omega) (by omega) (fun c_9 => ?_) (fun c_9 => ?_)
      · refine mg_iload_n C dX1_howManyNotBelow_40 rfl ?_
        have ei : i = h := by omega
        exact hR _ _ _ _ dX1_howManyNotBelow_41 ⟨by rw [ei], rfl⟩
      · refine mg_iload_n C dX1_howManyNotBelow_12 rfl ?_
        refine mg_aload_n C dX1_howManyNotBelow_13 rfl ?_
        refine mg_get C inT1 hh rfl 6 (by decide) kw_66 (Or.inl rfl) rfl dX1_howManyNotBelow_14 ?_
        refine mg_alen C han dX1_howManyNotBelow_17 ?_
        refine mg_icmpN_ge C (tgt := 40) dX1_howManyNotBelow_18 (by decide) (by omega) (by omega) (fun c_18 => absurd c_18 (by omega)) (fun c_18 => ?_)
        refine mg_aload_n C dX1_howManyNotBelow_21 rfl ?_
        refine mg_get C inT1 hh rfl 6 (by decide) kw_66 (Or.inl rfl) rfl dX1_howManyNotBelow_22 ?_
        refine mg_iload_n C dX1_howManyNotBelow_25 rfl ?_
        refine mg_ialdN C han (by omega) (by omega) dX1_howManyNotBelow_26 ?_
        refine mg_iload_n C dX1_howManyNotBelow_27 rfl ?_
        refine mg_icmp_lt C (tgt := 34) dX1_howManyNotBelow_28 (by decide) (fun c_28 => ?_) (fun c_28 => ?_)
        · rw [← hnB_z c_28]
          refine mg_iinc C (v := nI (i + 1)) (lv' := [(3, .int (nI (i + 1))), (0, .ref h0), (1, .int v), (2, .int (nI (hnB g v (i + 1))))]) dX1_howManyNotBelow_34 rfl (ni_inc _) (by decide) rfl ?_
          refine mg_goto C (tgt := 4) dX1_howManyNotBelow_37 (by decide) ?_
          refine mg_sub (lv' := [(0, .ref h0), (1, .int v), (2, .int (nI (hnB g v (i + 1)))), (3, .int (nI (i + 1)))]) [1, 2, 3, 0] rfl ?_
          exact ih4 ((i + 1)) (by omega) (by omega)
        · refine mg_iinc C (v := nI (hnB g v i + 1)) (lv' := [(2, .int (nI (hnB g v i + 1))), (0, .ref h0), (1, .int v), (3, .int (nI i))]) dX1_howManyNotBelow_31 rfl (ni_inc _) (by decide) rfl ?_
          rw [← hnB_s c_28]
          refine mg_iinc C (v := nI (i + 1)) (lv' := [(3, .int (nI (i + 1))), (2, .int (nI (hnB g v (i + 1)))), (0, .ref h0), (1, .int v)]) dX1_howManyNotBelow_34 rfl (ni_inc _) (by decide) rfl ?_
          refine mg_goto C (tgt := 4) dX1_howManyNotBelow_37 (by decide) ?_
          refine mg_sub (lv' := [(0, .ref h0), (1, .int v), (2, .int (nI (hnB g v (i + 1)))), (3, .int (nI (i + 1)))]) [2, 3, 1, 0] rfl ?_
          exact ih4 ((i + 1)) (by omega) (by omega)
  refine mg_sub (lv' := [(0, .ref h0), (1, .int v), (2, .int (nI 0)), (3, .int (nI 0))]) [2, 3, 1, 0] rfl ?_
  exact L4 (_ + 1) 0 (Nat.lt_succ_self _) (Nat.zero_le _)

set_option maxHeartbeats 4000000 in
set_option maxRecDepth 20000 in
theorem c_X1_firstNumberTooMany (D : va_G) (cI cS : ClassId) (w : mwT) (h0 ak an k sd h : Nat) (tot mov lo : Int32) (f g : Nat → Int32) (hh : w h0 = some (.inr (1, [.int (nI 0), .int (nI k), .int (nI sd), .int tot, .int mov, .ref ak, .ref an, .int (nI h), .int lo]))) (hak : w ak = some (eI cI (2 * k) f)) (han : w an = some (eI cI (2 * k) g)) (hk1 : 1 ≤ k) (hk2 : k ≤ 20) (hh2 : h ≤ 2 * k) : mMi yX1_firstNumberTooMany cX1_firstNumberTooMany 3 (some .int) (rmL 2) [.ref h0] D cI cS w (fun r w1 => r = fnH g k h h ∧ w1 = w) := by
  refine mMi.of (by decide) (Nat.le_of_ble_eq_true rfl) ?_
  intro X C hN hR
  refine mg_sub (lv' := [(0, .ref h0)]) [0] rfl ?_
  refine mg_iconst C (v := nI 0) dX1_firstNumberTooMany_0 (by decide) ?_
  refine mg_istore_n C (lv' := [(1, .int (nI 0)), (0, .ref h0)]) dX1_firstNumberTooMany_1 rfl (by decide) rfl ?_
  refine mg_iconst C (v := nI 0) dX1_firstNumberTooMany_2 (by decide) ?_
  refine mg_istore_n C (lv' := [(2, .int (nI 0)), (1, .int (nI 0)), (0, .ref h0)]) dX1_firstNumberTooMany_3 rfl (by decide) rfl ?_
  have L4 : ∀ (M4 : Nat) (i : Nat), h - i < M4 → (i ≤ h) → mwG X 0 0 w [(0, .ref h0), (1, .int (fnH g k h i)), (2, .int (nI i))] [] 4 := by
    intro M4
    induction M4 with
    | zero => intro i hm4; exact absurd hm4 (Nat.not_lt_zero _)
    | succ M4 ih4 =>
      intro i hm4 hi
      refine mg_iload_n C dX1_firstNumberTooMany_4 rfl ?_
      refine mg_aload_n C dX1_firstNumberTooMany_5 rfl ?_
      refine mg_get C inT1 hh rfl 7 (by decide) kw_67 (Or.inl rfl) rfl dX1_firstNumberTooMany_6 ?_
      refine mg_icmpN_ge C (tgt := 61) dX1_firstNumberTooMany_9 (by decide) (by omega) (by omega) (fun c_9 => ?_) (fun c_9 => ?_)
      · refine mg_iload_n C dX1_firstNumberTooMany_61 rfl ?_
        have ei : i = h := by omega
        exact hR _ _ _ _ dX1_firstNumberTooMany_62 ⟨by rw [ei], rfl⟩
      · refine mg_iload_n C dX1_firstNumberTooMany_12 rfl ?_
        refine mg_aload_n C dX1_firstNumberTooMany_13 rfl ?_
        refine mg_get C inT1 hh rfl 6 (by decide) kw_66 (Or.inl rfl) rfl dX1_firstNumberTooMany_14 ?_
        refine mg_alen C han dX1_firstNumberTooMany_17 ?_
        refine mg_icmpN_ge C (tgt := 61) dX1_firstNumberTooMany_18 (by decide) (by omega) (by omega) (fun c_18 => absurd c_18 (by omega)) (fun c_18 => ?_)
        refine mg_aload_n C dX1_firstNumberTooMany_21 rfl ?_
        refine mg_get C inT1 hh rfl 6 (by decide) kw_66 (Or.inl rfl) rfl dX1_firstNumberTooMany_22 ?_
        refine mg_iload_n C dX1_firstNumberTooMany_25 rfl ?_
        refine mg_ialdN C han (by omega) (by omega) dX1_firstNumberTooMany_26 ?_
        refine mg_iload_n C dX1_firstNumberTooMany_27 rfl ?_
        refine mg_icmp_le C (tgt := 55) dX1_firstNumberTooMany_28 (by decide) (fun c_28 => ?_) (fun c_28 => ?_)
        · have ef : fnH g k h (i + 1) = fnH g k h i := if_neg (fun q => q.1 c_28)
          rw [← ef]
          refine mg_iinc C (v := nI (i + 1)) (lv' := [(2, .int (nI (i + 1))), (0, .ref h0), (1, .int (fnH g k h (i + 1)))]) dX1_firstNumberTooMany_55 rfl (ni_inc _) (by decide) rfl ?_
          refine mg_goto C (tgt := 4) dX1_firstNumberTooMany_58 (by decide) ?_
          refine mg_sub (lv' := [(0, .ref h0), (1, .int (fnH g k h (i + 1))), (2, .int (nI (i + 1)))]) [1, 2, 0] rfl ?_
          exact ih4 ((i + 1)) (by omega) (by omega)
        · refine mg_aload_n C dX1_firstNumberTooMany_31 rfl ?_
          refine mg_aload_n C dX1_firstNumberTooMany_32 rfl ?_
          refine mg_get C inT1 hh rfl 6 (by decide) kw_66 (Or.inl rfl) rfl dX1_firstNumberTooMany_33 ?_
          refine mg_iload_n C dX1_firstNumberTooMany_36 rfl ?_
          refine mg_ialdN C han (by omega) (by omega) dX1_firstNumberTooMany_37 ?_
          refine mg_callV_i C hh rfl (rest := []) (c_X1_howManyNotBelow D cI cS w h0 ak an k sd h tot mov lo f g (g i) hh hak han hk1 hk2 hh2) yq_X1_howManyNotBelow kw_402 kw_403 kw_404 ⟨by decide, by decide⟩ ⟨Nat.le_of_ble_eq_true rfl, Nat.le_of_ble_eq_true rfl⟩ (Nat.le_of_ble_eq_true rfl) rfl rfl dX1_firstNumberTooMany_38 (fun r1 w2 ⟨e_r1, e_w2⟩ => ?_)
          rw [e_w2, e_r1]
          have hnl := hnB_le g (g i) h
          refine mg_aload_n C dX1_firstNumberTooMany_41 rfl ?_
          refine mg_get C inT1 hh rfl 1 (by decide) kw_149 (Or.inr kw_150) rfl dX1_firstNumberTooMany_42 ?_
          refine mg_icmpN_le C (tgt := 55) dX1_firstNumberTooMany_45 (by decide) (by omega) (by omega) (fun c_45 => ?_) (fun c_45 => ?_)
          · have ef : fnH g k h (i + 1) = fnH g k h i := if_neg (fun q => absurd q.2 (by omega))
            rw [← ef]
            refine mg_iinc C (v := nI (i + 1)) (lv' := [(2, .int (nI (i + 1))), (0, .ref h0), (1, .int (fnH g k h (i + 1)))]) dX1_firstNumberTooMany_55 rfl (ni_inc _) (by decide) rfl ?_
            refine mg_goto C (tgt := 4) dX1_firstNumberTooMany_58 (by decide) ?_
            refine mg_sub (lv' := [(0, .ref h0), (1, .int (fnH g k h (i + 1))), (2, .int (nI (i + 1)))]) [1, 2, 0] rfl ?_
            exact ih4 ((i + 1)) (by omega) (by omega)
          · refine mg_aload_n C dX1_firstNumberTooMany_48 rfl ?_
            refine mg_get C inT1 hh rfl 6 (by decide) kw_66 (Or.inl rfl) rfl dX1_firstNumberTooMany_49 ?_
            refine mg_iload_n C dX1_firstNumberTooMany_52 rfl ?_
            refine mg_ialdN C han (by omega) (by omega) dX1_firstNumberTooMany_53 ?_
            refine mg_istore_n C (lv' := [(1, .int (g i)), (0, .ref h0), (2, .int (nI i))]) dX1_firstNumberTooMany_54 rfl (by decide) rfl ?_
            have ef : fnH g k h (i + 1) = g i := if_pos ⟨c_28, c_45⟩
            rw [← ef]
            refine mg_iinc C (v := nI (i + 1)) (lv' := [(2, .int (nI (i + 1))), (1, .int (fnH g k h (i + 1))), (0, .ref h0)]) dX1_firstNumberTooMany_55 rfl (ni_inc _) (by decide) rfl ?_
            refine mg_goto C (tgt := 4) dX1_firstNumberTooMany_58 (by decide) ?_
            refine mg_sub (lv' := [(0, .ref h0), (1, .int (fnH g k h (i + 1))), (2, .int (nI (i + 1)))]) [2, 1, 0] rfl ?_
            exact ih4 ((i + 1)) (by omega) (by omega)
  refine mg_sub (lv' := [(0, .ref h0), (1, .int (nI 0)), (2, .int (nI 0))]) [2, 1, 0] rfl ?_
  exact L4 (_ + 1) 0 (Nat.lt_succ_self _) (Nat.zero_le _)
end
section
set_option maxHeartbeats 4000000 in
set_option maxRecDepth 20000 in
theorem c_X1_take (D : va_G) (cI cS : ClassId) (w : mwT) (h0 ak an k sd h : Nat) (tot mov lo : Int32) (f g : Nat → Int32) (x n : Int32) (hh : w h0 = some (.inr (1, [.int (nI 0), .int (nI k), .int (nI sd), .int tot, .int mov, .ref ak, .ref an, .int (nI h), .int lo]))) (hak : w ak = some (eI cI (2 * k) f)) (han : w an = some (eI cI (2 * k) g)) (hk1 : 1 ≤ k) (hk2 : k ≤ 20) (hh2 : h ≤ k) (hka : ak ≠ an) : mMv yX1_take cX1_take 5 none (rmL 3) [.ref h0, .int x, .int n] D cI cS w (fun w1 => w1 h0 = some (.inr (1, [.int (nI 0), .int (nI k), .int (nI sd), .int tot, .int mov, .ref ak, .ref an, .int (nI ((tkH k x n (f, g, h) lo).1.2.2)), .int ((tkH k x n (f, g, h) lo).2)])) ∧ w1 ak = some (eI cI (2 * k) (tkH k x n (f, g, h) lo).1.1) ∧ w1 an = some (eI cI (2 * k) (tkH k x n (f, g, h) lo).1.2.1) ∧ ∀ z : Nat, z ≠ h0 → z ≠ ak → z ≠ an → w1 z = w z) := by
  refine mMv.of (by decide) (Nat.le_of_ble_eq_true rfl) ?_
  intro X C hN hR
  have fr_w : ∀ zz : Nat, w zz = w zz := fun _ => rfl
  refine mg_sub (lv' := [(0, .ref h0), (1, .int x), (2, .int n)]) [0, 1, 2] rfl ?_
  refine mg_iload_n C dX1_take_0 rfl ?_
  refine mg_istore_n C (lv' := [(3, .int n), (0, .ref h0), (1, .int x), (2, .int n)]) dX1_take_1 rfl (by decide) rfl ?_
  refine mg_aload_n C dX1_take_2 rfl ?_
  refine mg_get C inT1 hh rfl 7 (by decide) kw_67 (Or.inl rfl) rfl dX1_take_3 ?_
  refine mg_aload_n C dX1_take_6 rfl ?_
  refine mg_get C inT1 hh rfl 1 (by decide) kw_149 (Or.inr kw_150) rfl dX1_take_7 ?_
  refine mg_icmpN_lt C (tgt := 58) dX1_take_10 (by decide) (by omega) (by omega) (fun c_10 => ?_) (fun c_10 => ?_)
  · refine mg_iload_n C dX1_take_58 rfl ?_
    refine mg_if_le C (tgt := 68) dX1_take_59 (by decide) (fun c_59 => ?_) (fun c_59 => ?_)
    · have et : tkH k x n (f, g, h) lo = ((f, g, h), lo) := (if_neg (fun q => absurd (show k ≤ h from q.1) (by omega))).trans (congrArg (fun q => (q, lo)) (if_pos c_59))
      exact hR _ _ _ dX1_take_68 ⟨by rw [et]; exact hh, by rw [et]; exact hak, by rw [et]; exact han, fun z q0 q1 q2 => fr_w z ⟩
    · refine mg_aload_n C dX1_take_62 rfl ?_
      refine mg_iload_n C dX1_take_63 rfl ?_
      refine mg_iload_n C dX1_take_64 rfl ?_
      refine mg_callV_v C hh rfl (rest := []) (c_X1_add D cI cS w h0 ak an k sd h tot mov lo f g x n hh hak han hk1 hk2 (by omega) hka) yq_X1_add kw_286 kw_287 kw_288 ⟨by decide, by decide⟩ ⟨Nat.le_of_ble_eq_true rfl, Nat.le_of_ble_eq_true rfl⟩ (Nat.le_of_ble_eq_true rfl) rfl rfl dX1_take_65 (fun w1 ⟨xh1, xk1, xn1, xf1⟩ => ?_)
      have fr_w1 : ∀ zz : Nat, zz ≠ h0 → zz ≠ ak → zz ≠ an → w1 zz = w zz := fun zz g0 g1 g2 => (xf1 zz g0 g1 g2).trans (fr_w zz )
      have et : tkH k x n (f, g, h) lo = ((adH x n (f, g, h)), lo) := (if_neg (fun q => absurd (show k ≤ h from q.1) (by omega))).trans (congrArg (fun q => (q, lo)) (if_neg c_59))
      exact hR _ _ _ dX1_take_68 ⟨by rw [et]; exact xh1, by rw [et]; exact xk1, by rw [et]; exact xn1, fun z q0 q1 q2 => fr_w1 z q0 q1 q2⟩
  · refine mg_iload_n C dX1_take_13 rfl ?_
    refine mg_aload_n C dX1_take_14 rfl ?_
    refine mg_get C inT1 hh rfl 5 (by decide) kw_65 (Or.inl rfl) rfl dX1_take_15 ?_
    refine mg_aload_n C dX1_take_18 rfl ?_
    refine mg_get C inT1 hh rfl 7 (by decide) kw_67 (Or.inl rfl) rfl dX1_take_19 ?_
    refine mg_callN_i C (rest := []) (c_X6_placeFor D cI cS w x ak h (2 * k) f hak (by omega) (by omega)) yq_X6_placeFor kn_13 kw_271 ⟨by decide, by decide⟩ ⟨Nat.le_of_ble_eq_true rfl, Nat.le_of_ble_eq_true rfl⟩ (Nat.le_of_ble_eq_true rfl) rfl rfl dX1_take_22 (fun r2 w2 ⟨⟨p2, xe2, xa2, xb2, xc2, xd2⟩, xk2⟩ => ?_)
    rw [xk2, xe2]
    have ep : p2 = plc f x h := plc_uniq xa2 xc2 (fun q => xd2 q (by omega))
    clear xc2 xd2
    subst ep
    have hpl := plc_le f x h
    refine mg_iload_n C dX1_take_25 rfl ?_
    refine mg_aload_n C dX1_take_26 rfl ?_
    refine mg_get C inT1 hh rfl 5 (by decide) kw_65 (Or.inl rfl) rfl dX1_take_27 ?_
    refine mg_aload_n C dX1_take_30 rfl ?_
    refine mg_get C inT1 hh rfl 7 (by decide) kw_67 (Or.inl rfl) rfl dX1_take_31 ?_
    refine mg_callN_i C (rest := []) (c_X6_standsAt D cI cS w (plc f x h) x ak h (2 * k) f hak (by omega) (by omega) (by omega)) yq_X6_standsAt kn_14 kw_273 ⟨by decide, by decide⟩ ⟨Nat.le_of_ble_eq_true rfl, Nat.le_of_ble_eq_true rfl⟩ (Nat.le_of_ble_eq_true rfl) rfl rfl dX1_take_34 (fun r3 w3 ⟨xa3, xk3⟩ => ?_)
    rw [xk3]
    rcases xa3 with ⟨ra, sta⟩ | ⟨ra, sta⟩
    · rw [ra]
      refine mg_ifN_ne C (tgt := 58) dX1_take_37 (by decide) (by decide) (fun c_37 => ?_) (fun c_37 => absurd c_37 (by decide))
      refine mg_iload_n C dX1_take_58 rfl ?_
      refine mg_if_le C (tgt := 68) dX1_take_59 (by decide) (fun c_59 => ?_) (fun c_59 => ?_)
      · have et : tkH k x n (f, g, h) lo = ((f, g, h), lo) := (if_neg (fun q => q.2 ⟨sta.1, sta.2.2⟩)).trans (congrArg (fun q => (q, lo)) (if_pos c_59))
        exact hR _ _ _ dX1_take_68 ⟨by rw [et]; exact hh, by rw [et]; exact hak, by rw [et]; exact han, fun z q0 q1 q2 => fr_w z ⟩
      · refine mg_aload_n C dX1_take_62 rfl ?_
        refine mg_iload_n C dX1_take_63 rfl ?_
        refine mg_iload_n C dX1_take_64 rfl ?_
        refine mg_callV_v C hh rfl (rest := []) (c_X1_add D cI cS w h0 ak an k sd h tot mov lo f g x n hh hak han hk1 hk2 (by omega) hka) yq_X1_add kw_286 kw_287 kw_288 ⟨by decide, by decide⟩ ⟨Nat.le_of_ble_eq_true rfl, Nat.le_of_ble_eq_true rfl⟩ (Nat.le_of_ble_eq_true rfl) rfl rfl dX1_take_65 (fun w4 ⟨xh4, xk4, xn4, xf4⟩ => ?_)
        have fr_w4 : ∀ zz : Nat, zz ≠ h0 → zz ≠ ak → zz ≠ an → w4 zz = w zz := fun zz g0 g1 g2 => (xf4 zz g0 g1 g2).trans (fr_w zz )
        have et : tkH k x n (f, g, h) lo = ((adH x n (f, g, h)), lo) := (if_neg (fun q => q.2 ⟨sta.1, sta.2.2⟩)).trans (congrArg (fun q => (q, lo)) (if_neg c_59))
        exact hR _ _ _ dX1_take_68 ⟨by rw [et]; exact xh4, by rw [et]; exact xk4, by rw [et]; exact xn4, fun z q0 q1 q2 => fr_w4 z q0 q1 q2⟩
    · rw [ra]
      refine mg_ifN_ne C (tgt := 58) dX1_take_37 (by decide) (by decide) (fun c_37 => absurd c_37 (by decide)) (fun c_37 => ?_)
      refine mg_aload_n C dX1_take_40 rfl ?_
      refine mg_iload_n C dX1_take_41 rfl ?_
      refine mg_callV_i C hh rfl (rest := []) (c_X1_leastNumber D cI cS w h0 ak an k sd h tot mov lo f g n hh hak han hk1 hk2 (by omega)) yq_X1_leastNumber kw_275 kw_276 kw_277 ⟨by decide, by decide⟩ ⟨Nat.le_of_ble_eq_true rfl, Nat.le_of_ble_eq_true rfl⟩ (Nat.le_of_ble_eq_true rfl) rfl rfl dX1_take_42 (fun r5 w6 ⟨e_r5, e_w6⟩ => ?_)
      rw [e_w6, e_r5]
      refine mg_istore C (lv' := [(4, .int (lsN g n h)), (3, .int n), (0, .ref h0), (1, .int x), (2, .int n)]) dX1_take_45 (by decide) rfl ?_
      refine mg_iload_n C dX1_take_47 rfl ?_
      refine mg_iload C dX1_take_48 rfl ?_
      refine mg_isub C (z := n - (lsN g n h)) dX1_take_50 rfl ?_
      refine mg_istore_n C (lv' := [(3, .int (n - (lsN g n h))), (4, .int (lsN g n h)), (0, .ref h0), (1, .int x), (2, .int n)]) dX1_take_51 rfl (by decide) rfl ?_
      refine mg_aload_n C dX1_take_52 rfl ?_
      refine mg_iload C dX1_take_53 rfl ?_
      refine mg_callV_v C hh rfl (rest := []) (c_X1_lower D cI cS w h0 ak an k sd h tot mov lo f g (lsN g n h) hh hak han hk1 hk2 (by omega) hka) yq_X1_lower kw_282 kw_283 kw_284 ⟨by decide, by decide⟩ ⟨Nat.le_of_ble_eq_true rfl, Nat.le_of_ble_eq_true rfl⟩ (Nat.le_of_ble_eq_true rfl) rfl rfl dX1_take_55 (fun w7 ⟨xh7, xk7, xn7, xf7⟩ => ?_)
      have fr_w7 : ∀ zz : Nat, zz ≠ h0 → zz ≠ ak → zz ≠ an → w7 zz = w zz := fun zz g0 g1 g2 => (xf7 zz g0 g1 g2).trans (fr_w zz )
      refine mg_iload_n C dX1_take_58 rfl ?_
      refine mg_if_le C (tgt := 68) dX1_take_59 (by decide) (fun c_59 => ?_) (fun c_59 => ?_)
      · have et : tkH k x n (f, g, h) lo = ((lwH f g (lsN g n h) h), lo + lsN g n h) := (if_pos ⟨by omega, fun q => sta ⟨q.1, by have := q.1; omega, q.2⟩⟩).trans (congrArg (fun q => (q, lo + lsN g n h)) (if_pos c_59))
        exact hR _ _ _ dX1_take_68 ⟨by rw [et]; exact xh7, by rw [et]; exact xk7, by rw [et]; exact xn7, fun z q0 q1 q2 => fr_w7 z q0 q1 q2⟩
      · refine mg_aload_n C dX1_take_62 rfl ?_
        refine mg_iload_n C dX1_take_63 rfl ?_
        refine mg_iload_n C dX1_take_64 rfl ?_
        have hlw := lwH_le f g (lsN g n h) h
        refine mg_callV_v C xh7 rfl (rest := []) (c_X1_add D cI cS w7 h0 ak an k sd ((lwH f g (lsN g n h) h).2.2) tot mov (lo + lsN g n h) ((lwH f g (lsN g n h) h).1) ((lwH f g (lsN g n h) h).2.1) x (n - lsN g n h) xh7 xk7 xn7 hk1 hk2 (by omega) hka) yq_X1_add kw_286 kw_287 kw_288 ⟨by decide, by decide⟩ ⟨Nat.le_of_ble_eq_true rfl, Nat.le_of_ble_eq_true rfl⟩ (Nat.le_of_ble_eq_true rfl) rfl rfl dX1_take_65 (fun w8 ⟨xh8, xk8, xn8, xf8⟩ => ?_)
        have fr_w8 : ∀ zz : Nat, zz ≠ h0 → zz ≠ ak → zz ≠ an → w8 zz = w zz := fun zz g0 g1 g2 => (xf8 zz g0 g1 g2).trans (fr_w7 zz g0 g1 g2)
        have et : tkH k x n (f, g, h) lo = ((adH x (n - lsN g n h) (lwH f g (lsN g n h) h)), lo + lsN g n h) := (if_pos ⟨by omega, fun q => sta ⟨q.1, by have := q.1; omega, q.2⟩⟩).trans (congrArg (fun q => (q, lo + lsN g n h)) (if_neg c_59))
        exact hR _ _ _ dX1_take_68 ⟨by rw [et]; exact xh8, by rw [et]; exact xk8, by rw [et]; exact xn8, fun z q0 q1 q2 => fr_w8 z q0 q1 q2⟩

set_option maxHeartbeats 4000000 in
set_option maxRecDepth 20000 in
theorem c_X1_join (D : va_G) (cI cS : ClassId) (w : mwT) (h0 h1 ak an ak2 an2 k sd h h2 : Nat) (tot mov lo tot2 mov2 lo2 : Int32) (f g f2 g2 : Nat → Int32) (hh : w h0 = some (.inr (1, [.int (nI 0), .int (nI k), .int (nI sd), .int tot, .int mov, .ref ak, .ref an, .int (nI h), .int lo]))) (hh1 : w h1 = some (.inr (1, [.int (nI 0), .int (nI k), .int (nI sd), .int tot2, .int mov2, .ref ak2, .ref an2, .int (nI h2), .int lo2]))) (hak : w ak = some (eI cI (2 * k) f)) (han : w an = some (eI cI (2 * k) g)) (hak2 : w ak2 = some (eI cI (2 * k) f2)) (han2 : w an2 = some (eI cI (2 * k) g2)) (hk1 : 1 ≤ k) (hk2 : k ≤ 20) (hh2 : h ≤ k) (hh3 : h2 ≤ k) (hka : ak ≠ an) (hn0 : h0 ≠ h1) (hd1 : ak ≠ ak2) (hd2 : ak ≠ an2) (hd3 : an ≠ ak2) (hd4 : an ≠ an2) : mMv yX1_join cX1_join 4 none (rmL 3) [.ref h0, .ref h1] D cI cS w (fun w1 => w1 h0 = some (.inr (1, [.int (nI 0), .int (nI k), .int (nI sd), .int tot, .int mov, .ref ak, .ref an, .int (nI ((mgH k f2 g2 h2 lo2 (f, g, h) lo).1.2.2)), .int ((mgH k f2 g2 h2 lo2 (f, g, h) lo).2)])) ∧ w1 ak = some (eI cI (2 * k) (mgH k f2 g2 h2 lo2 (f, g, h) lo).1.1) ∧ w1 an = some (eI cI (2 * k) (mgH k f2 g2 h2 lo2 (f, g, h) lo).1.2.1) ∧ ∀ z : Nat, z ≠ h0 → z ≠ ak → z ≠ an → w1 z = w z) := by
  refine mMv.of (by decide) (Nat.le_of_ble_eq_true rfl) ?_
  intro X C hN hR
  have fr_w : ∀ zz : Nat, w zz = w zz := fun _ => rfl
  refine mg_sub (lv' := [(0, .ref h0), (1, .ref h1)]) [0, 1] rfl ?_
  refine mg_aload_n C dX1_join_0 rfl ?_
  refine mg_inst C hh1 rfl kw_148 dX1_join_1 ?_
  refine mg_ifN_eq C (tgt := 85) dX1_join_4 (by decide) (by decide) (fun c_4 => absurd c_4 (by decide)) (fun c_4 => ?_)
  refine mg_aload_n C dX1_join_7 rfl ?_
  refine mg_cast C hh1 rfl kw_148 dX1_join_8 ?_
  refine mg_astore_n C (lv' := [(2, .ref h1), (0, .ref h0), (1, .ref h1)]) dX1_join_11 rfl (by decide) rfl ?_
  refine mg_iconst C (v := nI 0) dX1_join_12 (by decide) ?_
  refine mg_istore_n C (lv' := [(3, .int (nI 0)), (2, .ref h1), (0, .ref h0), (1, .ref h1)]) dX1_join_13 rfl (by decide) rfl ?_
  have L14 : ∀ (M14 : Nat) (i : Nat), h2 - i < M14 → (i ≤ h2) → ∀ (w1 : mwT), w1 h0 = some (.inr (1, [.int (nI 0), .int (nI k), .int (nI sd), .int tot, .int mov, .ref ak, .ref an, .int (nI ((jnH f2 g2 (f, g, h) i).2.2)), .int lo])) → w1 h1 = some (.inr (1, [.int (nI 0), .int (nI k), .int (nI sd), .int tot2, .int mov2, .ref ak2, .ref an2, .int (nI h2), .int lo2])) → w1 ak = some (eI cI (2 * k) ((jnH f2 g2 (f, g, h) i).1)) → w1 an = some (eI cI (2 * k) ((jnH f2 g2 (f, g, h) i).2.1)) → w1 ak2 = some (eI cI (2 * k) f2) → w1 an2 = some (eI cI (2 * k) g2) → (∀ zz : Nat, zz ≠ h0 → zz ≠ ak → zz ≠ an → w1 zz = w zz) → mwG X 0 0 w1 [(0, .ref h0), (1, .ref h1), (2, .ref h1), (3, .int (nI i))] [] 14 := by
    intro M14
    induction M14 with
    | zero => intro i hm14; exact absurd hm14 (Nat.not_lt_zero _)
    | succ M14 ih14 =>
      intro i hm14 hi w1 h_w1_h0 h_w1_h1 h_w1_ak h_w1_an h_w1_ak2 h_w1_an2 fr_w1
      refine mg_iload_n C dX1_join_14 rfl ?_
      refine mg_aload_n C dX1_join_15 rfl ?_
      refine mg_get C inT1 h_w1_h1 rfl 7 (by decide) kw_67 (Or.inl rfl) rfl dX1_join_16 ?_
      refine mg_icmpN_ge C (tgt := 53) dX1_join_19 (by decide) (by omega) (by omega) (fun c_19 => ?_) (fun c_19 => ?_)
      · have ei : i = h2 := by omega
        rw [ei] at h_w1_h0
        rw [ei] at h_w1_ak
        rw [ei] at h_w1_an
        have hjl := jnH_le f2 g2 (f, g, h) h2
        dsimp only at hjl
        refine mg_aload_n C dX1_join_53 rfl ?_
        refine mg_dup C dX1_join_54 rfl ?_
        refine mg_get C inT1 h_w1_h0 rfl 8 (by decide) kw_68 (Or.inl rfl) rfl dX1_join_55 ?_
        refine mg_aload_n C dX1_join_58 rfl ?_
        refine mg_get C inT1 h_w1_h1 rfl 8 (by decide) kw_68 (Or.inl rfl) rfl dX1_join_59 ?_
        refine mg_iadd C (z := lo + lo2) dX1_join_62 rfl ?_
        refine mg_put C (fs' := [.int (nI 0), .int (nI k), .int (nI sd), .int tot, .int mov, .ref ak, .ref an, .int (nI ((jnH f2 g2 (f, g, h) h2).2.2)), .int (lo + lo2)]) inT1 h_w1_h0 rfl 8 (by decide) kw_68 (Or.inl rfl) tyX1_ok nmX1 rfl rfl rfl rfl (Nat.le_of_ble_eq_true rfl) dX1_join_63 (fun w2 e_w2 => ?_)
        have h_w2_h0 : w2 h0 = some (.inr (1, [.int (nI 0), .int (nI k), .int (nI sd), .int tot, .int mov, .ref ak, .ref an, .int (nI ((jnH f2 g2 (f, g, h) h2).2.2)), .int (lo + lo2)])) := (congrFun e_w2 _).trans mwu_eq
        have h_w2_h1 : w2 h1 = some (.inr (1, [.int (nI 0), .int (nI k), .int (nI sd), .int tot2, .int mov2, .ref ak2, .ref an2, .int (nI h2), .int lo2])) := (congrFun e_w2 _).trans ((mwu_ne (Ne.symm hn0)).trans h_w1_h1)
        have h_w2_ak : w2 ak = some (eI cI (2 * k) ((jnH f2 g2 (f, g, h) h2).1)) := (congrFun e_w2 _).trans ((mwu_ne (mw_ao h_w1_ak h_w1_h0)).trans h_w1_ak)
        have h_w2_an : w2 an = some (eI cI (2 * k) ((jnH f2 g2 (f, g, h) h2).2.1)) := (congrFun e_w2 _).trans ((mwu_ne (mw_ao h_w1_an h_w1_h0)).trans h_w1_an)
        have h_w2_ak2 : w2 ak2 = some (eI cI (2 * k) f2) := (congrFun e_w2 _).trans ((mwu_ne (mw_ao h_w1_ak2 h_w1_h0)).trans h_w1_ak2)
        have h_w2_an2 : w2 an2 = some (eI cI (2 * k) g2) := (congrFun e_w2 _).trans ((mwu_ne (mw_ao h_w1_an2 h_w1_h0)).trans h_w1_an2)
        have fr_w2 : ∀ zz : Nat, zz ≠ h0 → zz ≠ ak → zz ≠ an → w2 zz = w zz := fun zz g0 g1 g2 => (congrFun e_w2 zz).trans ((mwu_ne g0).trans (fr_w1 zz g0 g1 g2))
        refine mg_aload_n C dX1_join_66 rfl ?_
        refine mg_get C inT1 h_w2_h0 rfl 7 (by decide) kw_67 (Or.inl rfl) rfl dX1_join_67 ?_
        refine mg_aload_n C dX1_join_70 rfl ?_
        refine mg_get C inT1 h_w2_h0 rfl 1 (by decide) kw_149 (Or.inr kw_150) rfl dX1_join_71 ?_
        refine mg_icmpN_le C (tgt := 85) dX1_join_74 (by decide) (by omega) (by omega) (fun c_74 => ?_) (fun c_74 => ?_)
        · have et : mgH k f2 g2 h2 lo2 (f, g, h) lo = ((jnH f2 g2 (f, g, h) h2), lo + lo2) := if_neg (by omega)
          exact hR _ _ _ dX1_join_85 ⟨by rw [et]; exact h_w2_h0, by rw [et]; exact h_w2_ak, by rw [et]; exact h_w2_an, fun z q0 q1 q2 => fr_w2 z q0 q1 q2⟩
        · refine mg_aload_n C dX1_join_77 rfl ?_
          refine mg_aload_n C dX1_join_78 rfl ?_
          refine mg_callV_i C h_w2_h0 rfl (rest := [.ref h0]) (c_X1_firstNumberTooMany D cI cS w2 h0 ak an k sd (jnH f2 g2 (f, g, h) h2).2.2 tot mov (lo + lo2) (jnH f2 g2 (f, g, h) h2).1 (jnH f2 g2 (f, g, h) h2).2.1 h_w2_h0 h_w2_ak h_w2_an hk1 hk2 (by omega)) yq_X1_firstNumberTooMany kw_398 kw_399 kw_400 ⟨by decide, by decide⟩ ⟨Nat.le_of_ble_eq_true rfl, Nat.le_of_ble_eq_true rfl⟩ (Nat.le_of_ble_eq_true rfl) rfl rfl dX1_join_79 (fun r3 w4 ⟨e_r3, e_w4⟩ => ?_)
          rw [e_w4, e_r3]
          refine mg_callV_v C h_w2_h0 rfl (rest := []) (c_X1_lower D cI cS w2 h0 ak an k sd (jnH f2 g2 (f, g, h) h2).2.2 tot mov (lo + lo2) (jnH f2 g2 (f, g, h) h2).1 (jnH f2 g2 (f, g, h) h2).2.1 (fnH (jnH f2 g2 (f, g, h) h2).2.1 k (jnH f2 g2 (f, g, h) h2).2.2 (jnH f2 g2 (f, g, h) h2).2.2) h_w2_h0 h_w2_ak h_w2_an hk1 hk2 (by omega) hka) yq_X1_lower kw_282 kw_283 kw_284 ⟨by decide, by decide⟩ ⟨Nat.le_of_ble_eq_true rfl, Nat.le_of_ble_eq_true rfl⟩ (Nat.le_of_ble_eq_true rfl) rfl rfl dX1_join_82 (fun w5 ⟨xh5, xk5, xn5, xf5⟩ => ?_)
          have h_w5_h1 : w5 h1 = some (.inr (1, [.int (nI 0), .int (nI k), .int (nI sd), .int tot2, .int mov2, .ref ak2, .ref an2, .int (nI h2), .int lo2])) := (xf5 h1 (Ne.symm hn0) (mw_oa h_w2_h1 h_w2_ak) (mw_oa h_w2_h1 h_w2_an)).trans h_w2_h1
          have h_w5_ak2 : w5 ak2 = some (eI cI (2 * k) f2) := (xf5 ak2 (mw_ao h_w2_ak2 h_w2_h0) (Ne.symm hd1) (Ne.symm hd3)).trans h_w2_ak2
          have h_w5_an2 : w5 an2 = some (eI cI (2 * k) g2) := (xf5 an2 (mw_ao h_w2_an2 h_w2_h0) (Ne.symm hd2) (Ne.symm hd4)).trans h_w2_an2
          have fr_w5 : ∀ zz : Nat, zz ≠ h0 → zz ≠ ak → zz ≠ an → w5 zz = w zz := fun zz g0 g1 g2 => (xf5 zz g0 g1 g2).trans (fr_w2 zz g0 g1 g2)
          have et : mgH k f2 g2 h2 lo2 (f, g, h) lo = ((lwH (jnH f2 g2 (f, g, h) h2).1 (jnH f2 g2 (f, g, h) h2).2.1 (fnH (jnH f2 g2 (f, g, h) h2).2.1 k (jnH f2 g2 (f, g, h) h2).2.2 (jnH f2 g2 (f, g, h) h2).2.2) (jnH f2 g2 (f, g, h) h2).2.2), lo + lo2 + (fnH (jnH f2 g2 (f, g, h) h2).2.1 k (jnH f2 g2 (f, g, h) h2).2.2 (jnH f2 g2 (f, g, h) h2).2.2)) := if_pos (by omega)
          exact hR _ _ _ dX1_join_85 ⟨by rw [et]; exact xh5, by rw [et]; exact xk5, by rw [et]; exact xn5, fun z q0 q1 q2 => fr_w5 z q0 q1 q2⟩
      · refine mg_iload_n C dX1_join_22 rfl ?_
        refine mg_aload_n C dX1_join_23 rfl ?_
        refine mg_get C inT1 h_w1_h1 rfl 5 (by decide) kw_65 (Or.inl rfl) rfl dX1_join_24 ?_
        refine mg_alen C h_w1_ak2 dX1_join_27 ?_
        refine mg_icmpN_ge C (tgt := 53) dX1_join_28 (by decide) (by omega) (by omega) (fun c_28 => absurd c_28 (by omega)) (fun c_28 => ?_)
        refine mg_aload_n C dX1_join_31 rfl ?_
        refine mg_aload_n C dX1_join_32 rfl ?_
        refine mg_get C inT1 h_w1_h1 rfl 5 (by decide) kw_65 (Or.inl rfl) rfl dX1_join_33 ?_
        refine mg_iload_n C dX1_join_36 rfl ?_
        refine mg_ialdN C h_w1_ak2 (by omega) (by omega) dX1_join_37 ?_
        refine mg_aload_n C dX1_join_38 rfl ?_
        refine mg_get C inT1 h_w1_h1 rfl 6 (by decide) kw_66 (Or.inl rfl) rfl dX1_join_39 ?_
        refine mg_iload_n C dX1_join_42 rfl ?_
        refine mg_ialdN C h_w1_an2 (by omega) (by omega) dX1_join_43 ?_
        have hjl := jnH_le f2 g2 (f, g, h) i
        dsimp only at hjl
        refine mg_callV_v C h_w1_h0 rfl (rest := []) (c_X1_add D cI cS w1 h0 ak an k sd (jnH f2 g2 (f, g, h) i).2.2 tot mov lo (jnH f2 g2 (f, g, h) i).1 (jnH f2 g2 (f, g, h) i).2.1 (f2 i) (g2 i) h_w1_h0 h_w1_ak h_w1_an hk1 hk2 (by omega) hka) yq_X1_add kw_286 kw_287 kw_288 ⟨by decide, by decide⟩ ⟨Nat.le_of_ble_eq_true rfl, Nat.le_of_ble_eq_true rfl⟩ (Nat.le_of_ble_eq_true rfl) rfl rfl dX1_join_44 (fun w6 ⟨xh6, xk6, xn6, xf6⟩ => ?_)
        have h_w6_h1 : w6 h1 = some (.inr (1, [.int (nI 0), .int (nI k), .int (nI sd), .int tot2, .int mov2, .ref ak2, .ref an2, .int (nI h2), .int lo2])) := (xf6 h1 (Ne.symm hn0) (mw_oa h_w1_h1 h_w1_ak) (mw_oa h_w1_h1 h_w1_an)).trans h_w1_h1
        have h_w6_ak2 : w6 ak2 = some (eI cI (2 * k) f2) := (xf6 ak2 (mw_ao h_w1_ak2 h_w1_h0) (Ne.symm hd1) (Ne.symm hd3)).trans h_w1_ak2
        have h_w6_an2 : w6 an2 = some (eI cI (2 * k) g2) := (xf6 an2 (mw_ao h_w1_an2 h_w1_h0) (Ne.symm hd2) (Ne.symm hd4)).trans h_w1_an2
        have fr_w6 : ∀ zz : Nat, zz ≠ h0 → zz ≠ ak → zz ≠ an → w6 zz = w zz := fun zz g0 g1 g2 => (xf6 zz g0 g1 g2).trans (fr_w1 zz g0 g1 g2)
        refine mg_iinc C (v := nI (i + 1)) (lv' := [(3, .int (nI (i + 1))), (0, .ref h0), (1, .ref h1), (2, .ref h1)]) dX1_join_47 rfl (ni_inc _) (by decide) rfl ?_
        refine mg_goto C (tgt := 14) dX1_join_50 (by decide) ?_
        refine mg_sub (lv' := [(0, .ref h0), (1, .ref h1), (2, .ref h1), (3, .int (nI (i + 1)))]) [1, 2, 3, 0] rfl ?_
        exact ih14 ((i + 1)) (by omega) (by omega) w6 xh6 h_w6_h1 xk6 xn6 h_w6_ak2 h_w6_an2 (fun zz g0 g1 g2 => fr_w6 zz g0 g1 g2)
  refine mg_sub (lv' := [(0, .ref h0), (1, .ref h1), (2, .ref h1), (3, .int (nI 0))]) [2, 3, 1, 0] rfl ?_
  exact L14 (_ + 1) 0 (Nat.lt_succ_self _) (Nat.zero_le _) w hh hh1 hak han hak2 han2 (fun zz g0 g1 g2 => fr_w zz )

set_option maxHeartbeats 4000000 in
set_option maxRecDepth 20000 in
theorem c_X1_atLeast (D : va_G) (cI cS : ClassId) (w : mwT) (h0 ak an k sd h : Nat) (tot mov lo : Int32) (f g : Nat → Int32) (x : Int32) (hh : w h0 = some (.inr (1, [.int (nI 0), .int (nI k), .int (nI sd), .int tot, .int mov, .ref ak, .ref an, .int (nI h), .int lo]))) (hak : w ak = some (eI cI (2 * k) f)) (han : w an = some (eI cI (2 * k) g)) (hk1 : 1 ≤ k) (hk2 : k ≤ 20) (hh2 : h ≤ 2 * k) : mMi yX1_atLeast cX1_atLeast 3 (some .int) (rmL 2) [.ref h0, .int x] D cI cS w (fun r w1 => r = alH f g h x ∧ w1 = w) := by
  refine mMi.of (by decide) (Nat.le_of_ble_eq_true rfl) ?_
  intro X C hN hR
  refine mg_sub (lv' := [(0, .ref h0), (1, .int x)]) [0, 1] rfl ?_
  refine mg_iload_n C dX1_atLeast_0 rfl ?_
  refine mg_aload_n C dX1_atLeast_1 rfl ?_
  refine mg_get C inT1 hh rfl 5 (by decide) kw_65 (Or.inl rfl) rfl dX1_atLeast_2 ?_
  refine mg_aload_n C dX1_atLeast_5 rfl ?_
  refine mg_get C inT1 hh rfl 7 (by decide) kw_67 (Or.inl rfl) rfl dX1_atLeast_6 ?_
  refine mg_callN_i C (rest := []) (c_X6_placeFor D cI cS w x ak h (2 * k) f hak (by omega) (by omega)) yq_X6_placeFor kn_13 kw_271 ⟨by decide, by decide⟩ ⟨Nat.le_of_ble_eq_true rfl, Nat.le_of_ble_eq_true rfl⟩ (Nat.le_of_ble_eq_true rfl) rfl rfl dX1_atLeast_9 (fun r1 w1 ⟨⟨p1, xe1, xa1, xb1, xc1, xd1⟩, xk1⟩ => ?_)
  rw [xk1, xe1]
  have ep : p1 = plc f x h := plc_uniq xa1 xc1 (fun q => xd1 q (by omega))
  clear xc1 xd1
  subst ep
  have hpl := plc_le f x h
  refine mg_istore_n C (lv' := [(2, .int (nI (plc f x h))), (0, .ref h0), (1, .int x)]) dX1_atLeast_12 rfl (by decide) rfl ?_
  refine mg_iload_n C dX1_atLeast_13 rfl ?_
  refine mg_iload_n C dX1_atLeast_14 rfl ?_
  refine mg_aload_n C dX1_atLeast_15 rfl ?_
  refine mg_get C inT1 hh rfl 5 (by decide) kw_65 (Or.inl rfl) rfl dX1_atLeast_16 ?_
  refine mg_aload_n C dX1_atLeast_19 rfl ?_
  refine mg_get C inT1 hh rfl 7 (by decide) kw_67 (Or.inl rfl) rfl dX1_atLeast_20 ?_
  refine mg_callN_i C (rest := []) (c_X6_standsAt D cI cS w (plc f x h) x ak h (2 * k) f hak (by omega) (by omega) (by omega)) yq_X6_standsAt kn_14 kw_273 ⟨by decide, by decide⟩ ⟨Nat.le_of_ble_eq_true rfl, Nat.le_of_ble_eq_true rfl⟩ (Nat.le_of_ble_eq_true rfl) rfl rfl dX1_atLeast_23 (fun r2 w2 ⟨xa2, xk2⟩ => ?_)
  rw [xk2]
  rcases xa2 with ⟨ra, sta⟩ | ⟨ra, sta⟩
  · rw [ra]
    refine mg_ifN_eq C (tgt := 38) dX1_atLeast_26 (by decide) (by decide) (fun c_26 => absurd c_26 (by decide)) (fun c_26 => ?_)
    refine mg_aload_n C dX1_atLeast_29 rfl ?_
    refine mg_get C inT1 hh rfl 6 (by decide) kw_66 (Or.inl rfl) rfl dX1_atLeast_30 ?_
    refine mg_iload_n C dX1_atLeast_33 rfl ?_
    refine mg_ialdN C han (by omega) (by omega) dX1_atLeast_34 ?_
    refine mg_goto C (tgt := 39) dX1_atLeast_35 (by decide) ?_
    exact hR _ _ _ _ dX1_atLeast_39 ⟨(if_pos ⟨sta.1, sta.2.2⟩).symm, rfl⟩
  · rw [ra]
    refine mg_ifN_eq C (tgt := 38) dX1_atLeast_26 (by decide) (by decide) (fun c_26 => ?_) (fun c_26 => absurd c_26 (by decide))
    refine mg_iconst C (v := nI 0) dX1_atLeast_38 (by decide) ?_
    exact hR _ _ _ _ dX1_atLeast_39 ⟨(if_neg (fun q => sta ⟨q.1, by have := q.1; omega, q.2⟩)).symm, rfl⟩

set_option maxHeartbeats 4000000 in
set_option maxRecDepth 20000 in
theorem c_X1_atMost (D : va_G) (cI cS : ClassId) (w : mwT) (h0 ak an k sd h : Nat) (tot mov lo : Int32) (f g : Nat → Int32) (x : Int32) (hh : w h0 = some (.inr (1, [.int (nI 0), .int (nI k), .int (nI sd), .int tot, .int mov, .ref ak, .ref an, .int (nI h), .int lo]))) (hak : w ak = some (eI cI (2 * k) f)) (han : w an = some (eI cI (2 * k) g)) (hk1 : 1 ≤ k) (hk2 : k ≤ 20) (hh2 : h ≤ 2 * k) : mMi yX1_atMost cX1_atMost 2 (some .int) (rmL 3) [.ref h0, .int x] D cI cS w (fun r w1 => r = alH f g h x + lo ∧ w1 = w) := by
  refine mMi.of (by decide) (Nat.le_of_ble_eq_true rfl) ?_
  intro X C hN hR
  refine mg_sub (lv' := [(0, .ref h0), (1, .int x)]) [0, 1] rfl ?_
  refine mg_aload_n C dX1_atMost_0 rfl ?_
  refine mg_iload_n C dX1_atMost_1 rfl ?_
  refine mg_callV_i C hh rfl (rest := []) (c_X1_atLeast D cI cS w h0 ak an k sd h tot mov lo f g x hh hak han hk1 hk2 hh2) yq_X1_atLeast kw_492 kw_445 kw_493 ⟨by decide, by decide⟩ ⟨Nat.le_of_ble_eq_true rfl, Nat.le_of_ble_eq_true rfl⟩ (Nat.le_of_ble_eq_true rfl) rfl rfl dX1_atMost_2 (fun r1 w2 ⟨e_r1, e_w2⟩ => ?_)
  rw [e_w2, e_r1]
  refine mg_aload_n C dX1_atMost_5 rfl ?_
  refine mg_get C inT1 hh rfl 8 (by decide) kw_68 (Or.inl rfl) rfl dX1_atMost_6 ?_
  refine mg_iadd C (z := (alH f g h x) + lo) dX1_atMost_9 rfl ?_
  exact hR _ _ _ _ dX1_atMost_10 ⟨rfl, rfl⟩

set_option maxHeartbeats 4000000 in
set_option maxRecDepth 20000 in
theorem c_X1_keptAt (D : va_G) (cI cS : ClassId) (w : mwT) (h0 ak an k sd h : Nat) (tot mov lo : Int32) (f g : Nat → Int32) (i pt : Int32) (hh : w h0 = some (.inr (1, [.int (nI 0), .int (nI k), .int (nI sd), .int tot, .int mov, .ref ak, .ref an, .int (nI h), .int lo]))) (hak : w ak = some (eI cI (2 * k) f)) (han : w an = some (eI cI (2 * k) g)) (hk1 : 1 ≤ k) (hk2 : k ≤ 20) (hh2 : h ≤ 2 * k) : mMi yX1_keptAt cX1_keptAt 3 (some .int) (rmL 1) [.ref h0, .int i, .int pt] D cI cS w (fun r w1 => ((∃ a : Nat, a < h ∧ i = nI a ∧ ((pt = 0 ∧ r = f a) ∨ (pt = 1 ∧ r = g a))) ∨ (r = -1 ∧ ¬ (ixN h i ∧ (pt = 0 ∨ pt = 1)))) ∧ w1 = w) := by
  refine mMi.of (by decide) (Nat.le_of_ble_eq_true rfl) ?_
  intro X C hN hR
  refine mg_sub (lv' := [(0, .ref h0), (1, .int i), (2, .int pt)]) [0, 1, 2] rfl ?_
  refine mg_iload_n C dX1_keptAt_0 rfl ?_
  refine mg_if_lt C (tgt := 30) dX1_keptAt_1 (by decide) (fun c_1 => ?_) (fun c_1 => ?_)
  · refine mg_iconst C (v := (-1 : Int32)) dX1_keptAt_30 (by decide) ?_
    exact hR _ _ _ _ dX1_keptAt_31 ⟨Or.inr ⟨rfl, fun q => ix_lt (by omega) c_1 q.1⟩, rfl⟩
  · refine mg_iload_n C dX1_keptAt_4 rfl ?_
    refine mg_aload_n C dX1_keptAt_5 rfl ?_
    refine mg_get C inT1 hh rfl 7 (by decide) kw_67 (Or.inl rfl) rfl dX1_keptAt_6 ?_
    refine mg_icmp_ge C (tgt := 30) dX1_keptAt_9 (by decide) (fun c_9 => ?_) (fun c_9 => ?_)
    · refine mg_iconst C (v := (-1 : Int32)) dX1_keptAt_30 (by decide) ?_
      exact hR _ _ _ _ dX1_keptAt_31 ⟨Or.inr ⟨rfl, fun q => ix_ge (by omega) c_9 q.1⟩, rfl⟩
    · obtain ⟨a, ha, rfl⟩ := ix_of (by omega) c_1 c_9
      refine mg_iload_n C dX1_keptAt_12 rfl ?_
      refine mg_aload_n C dX1_keptAt_13 rfl ?_
      refine mg_get C inT1 hh rfl 5 (by decide) kw_65 (Or.inl rfl) rfl dX1_keptAt_14 ?_
      refine mg_alen C hak dX1_keptAt_17 ?_
      refine mg_icmpN_ge C (tgt := 30) dX1_keptAt_18 (by decide) (by omega) (by omega) (fun c_18 => absurd c_18 (by omega)) (fun c_18 => ?_)
      refine mg_iload_n C dX1_keptAt_21 rfl ?_
      refine mg_if_lt C (tgt := 30) dX1_keptAt_22 (by decide) (fun c_22 => ?_) (fun c_22 => ?_)
      · refine mg_iconst C (v := (-1 : Int32)) dX1_keptAt_30 (by decide) ?_
        exact hR _ _ _ _ dX1_keptAt_31 ⟨Or.inr ⟨rfl, fun q => pt_lt c_22 q.2⟩, rfl⟩
      · refine mg_iload_n C dX1_keptAt_25 rfl ?_
        refine mg_iconst C (v := nI 1) dX1_keptAt_26 (by decide) ?_
        refine mg_icmp_le C (tgt := 32) dX1_keptAt_27 (by decide) (fun c_27 => ?_) (fun c_27 => ?_)
        · refine mg_iload_n C dX1_keptAt_32 rfl ?_
          refine mg_if_ne C (tgt := 45) dX1_keptAt_33 (by decide) (fun c_33 => ?_) (fun c_33 => ?_)
          · refine mg_aload_n C dX1_keptAt_45 rfl ?_
            refine mg_get C inT1 hh rfl 6 (by decide) kw_66 (Or.inl rfl) rfl dX1_keptAt_46 ?_
            refine mg_iload_n C dX1_keptAt_49 rfl ?_
            refine mg_ialdN C han (by omega) (by omega) dX1_keptAt_50 ?_
            exact hR _ _ _ _ dX1_keptAt_51 ⟨Or.inl ⟨a, ha, rfl, Or.inr ⟨pt01 c_22 c_27 c_33, rfl⟩⟩, rfl⟩
          · refine mg_aload_n C dX1_keptAt_36 rfl ?_
            refine mg_get C inT1 hh rfl 5 (by decide) kw_65 (Or.inl rfl) rfl dX1_keptAt_37 ?_
            refine mg_iload_n C dX1_keptAt_40 rfl ?_
            refine mg_ialdN C hak (by omega) (by omega) dX1_keptAt_41 ?_
            refine mg_goto C (tgt := 51) dX1_keptAt_42 (by decide) ?_
            exact hR _ _ _ _ dX1_keptAt_51 ⟨Or.inl ⟨a, ha, rfl, Or.inl ⟨c_33, rfl⟩⟩, rfl⟩
        · refine mg_iconst C (v := (-1 : Int32)) dX1_keptAt_30 (by decide) ?_
          exact hR _ _ _ _ dX1_keptAt_31 ⟨Or.inr ⟨rfl, fun q => pt_gt c_27 q.2⟩, rfl⟩

set_option maxHeartbeats 4000000 in
set_option maxRecDepth 20000 in
theorem c_X1_howManyKept (D : va_G) (cI cS : ClassId) (w : mwT) (h0 ak an k sd h : Nat) (tot mov lo : Int32) (f g : Nat → Int32) (hh : w h0 = some (.inr (1, [.int (nI 0), .int (nI k), .int (nI sd), .int tot, .int mov, .ref ak, .ref an, .int (nI h), .int lo]))) (hak : w ak = some (eI cI (2 * k) f)) (han : w an = some (eI cI (2 * k) g)) : mMi yX1_howManyKept cX1_howManyKept 1 (some .int) (rmL 1) [.ref h0] D cI cS w (fun r w1 => r = nI h ∧ w1 = w) := by
  refine mMi.of (by decide) (Nat.le_of_ble_eq_true rfl) ?_
  intro X C hN hR
  refine mg_sub (lv' := [(0, .ref h0)]) [0] rfl ?_
  refine mg_aload_n C dX1_howManyKept_0 rfl ?_
  refine mg_get C inT1 hh rfl 7 (by decide) kw_67 (Or.inl rfl) rfl dX1_howManyKept_1 ?_
  exact hR _ _ _ _ dX1_howManyKept_4 ⟨rfl, rfl⟩

set_option maxHeartbeats 4000000 in
set_option maxRecDepth 20000 in
theorem c_X1_mayLack (D : va_G) (cI cS : ClassId) (w : mwT) (h0 ak an k sd h : Nat) (tot mov lo : Int32) (f g : Nat → Int32) (hh : w h0 = some (.inr (1, [.int (nI 0), .int (nI k), .int (nI sd), .int tot, .int mov, .ref ak, .ref an, .int (nI h), .int lo]))) (hak : w ak = some (eI cI (2 * k) f)) (han : w an = some (eI cI (2 * k) g)) : mMi yX1_mayLack cX1_mayLack 1 (some .int) (rmL 1) [.ref h0] D cI cS w (fun r w1 => r = lo ∧ w1 = w) := by
  refine mMi.of (by decide) (Nat.le_of_ble_eq_true rfl) ?_
  intro X C hN hR
  refine mg_sub (lv' := [(0, .ref h0)]) [0] rfl ?_
  refine mg_aload_n C dX1_mayLack_0 rfl ?_
  refine mg_get C inT1 hh rfl 8 (by decide) kw_68 (Or.inl rfl) rfl dX1_mayLack_1 ?_
  exact hR _ _ _ _ dX1_mayLack_4 ⟨rfl, rfl⟩

set_option maxHeartbeats 4000000 in
set_option maxRecDepth 20000 in
theorem c_X1_forget (D : va_G) (cI cS : ClassId) (w : mwT) (h0 ak an k sd h : Nat) (tot mov lo : Int32) (f g : Nat → Int32) (hh : w h0 = some (.inr (1, [.int (nI 0), .int (nI k), .int (nI sd), .int tot, .int mov, .ref ak, .ref an, .int (nI h), .int lo]))) (hak : w ak = some (eI cI (2 * k) f)) (han : w an = some (eI cI (2 * k) g)) : mMv yX1_forget cX1_forget 1 none (rmL 1) [.ref h0] D cI cS w (fun w1 => w1 h0 = some (.inr (1, [.int (nI 0), .int (nI k), .int (nI sd), .int tot, .int mov, .ref ak, .ref an, .int (nI 0), .int (nI 0)])) ∧ ∀ z : Nat, z ≠ h0 → w1 z = w z) := by
  refine mMv.of (by decide) (Nat.le_of_ble_eq_true rfl) ?_
  intro X C hN hR
  have fr_w : ∀ zz : Nat, w zz = w zz := fun _ => rfl
  refine mg_sub (lv' := [(0, .ref h0)]) [0] rfl ?_
  refine mg_aload_n C dX1_forget_0 rfl ?_
  refine mg_iconst C (v := nI 0) dX1_forget_1 (by decide) ?_
  refine mg_put C (fs' := [.int (nI 0), .int (nI k), .int (nI sd), .int tot, .int mov, .ref ak, .ref an, .int (nI 0), .int lo]) inT1 hh rfl 7 (by decide) kw_67 (Or.inl rfl) tyX1_ok nmX1 rfl rfl rfl rfl (Nat.le_of_ble_eq_true rfl) dX1_forget_2 (fun w1 e_w1 => ?_)
  have h_w1_h0 : w1 h0 = some (.inr (1, [.int (nI 0), .int (nI k), .int (nI sd), .int tot, .int mov, .ref ak, .ref an, .int (nI 0), .int lo])) := (congrFun e_w1 _).trans mwu_eq
  have h_w1_ak : w1 ak = some (eI cI (2 * k) f) := (congrFun e_w1 _).trans ((mwu_ne (mw_ao hak hh)).trans hak)
  have h_w1_an : w1 an = some (eI cI (2 * k) g) := (congrFun e_w1 _).trans ((mwu_ne (mw_ao han hh)).trans han)
  have fr_w1 : ∀ zz : Nat, zz ≠ h0 → w1 zz = w zz := fun zz g0 => (congrFun e_w1 zz).trans ((mwu_ne g0).trans (fr_w zz ))
  refine mg_aload_n C dX1_forget_5 rfl ?_
  refine mg_iconst C (v := nI 0) dX1_forget_6 (by decide) ?_
  refine mg_put C (fs' := [.int (nI 0), .int (nI k), .int (nI sd), .int tot, .int mov, .ref ak, .ref an, .int (nI 0), .int (nI 0)]) inT1 h_w1_h0 rfl 8 (by decide) kw_68 (Or.inl rfl) tyX1_ok nmX1 rfl rfl rfl rfl (Nat.le_of_ble_eq_true rfl) dX1_forget_7 (fun w2 e_w2 => ?_)
  have h_w2_h0 : w2 h0 = some (.inr (1, [.int (nI 0), .int (nI k), .int (nI sd), .int tot, .int mov, .ref ak, .ref an, .int (nI 0), .int (nI 0)])) := (congrFun e_w2 _).trans mwu_eq
  have h_w2_ak : w2 ak = some (eI cI (2 * k) f) := (congrFun e_w2 _).trans ((mwu_ne (mw_ao h_w1_ak h_w1_h0)).trans h_w1_ak)
  have h_w2_an : w2 an = some (eI cI (2 * k) g) := (congrFun e_w2 _).trans ((mwu_ne (mw_ao h_w1_an h_w1_h0)).trans h_w1_an)
  have fr_w2 : ∀ zz : Nat, zz ≠ h0 → w2 zz = w zz := fun zz g0 => (congrFun e_w2 zz).trans ((mwu_ne g0).trans (fr_w1 zz g0))
  exact hR _ _ _ dX1_forget_10 ⟨h_w2_h0, fr_w2⟩

set_option maxHeartbeats 4000000 in
set_option maxRecDepth 20000 in
theorem c_X1_init (D : va_G) (cI cS : ClassId) (w : mwT) (h0 k sd : Nat) (hh : w h0 = some (.inr (1, [.int 0, .int 0, .int 0, .int 0, .int 0, .null, .null, .int 0, .int 0]))) (hk1 : 1 ≤ k) (hk2 : k ≤ 20) : mMv yX1_init cX1_init 3 none (rmA 2 2 80) [.ref h0, .int (nI k), .int (nI sd)] D cI cS w (fun w1 => ∃ qa qb : Nat, w qa = none ∧ w qb = none ∧ qa ≠ qb ∧ w1 h0 = some (.inr (1, [.int (nI 0), .int (nI k), .int (nI sd), .int (nI 0), .int (nI 0), .ref qa, .ref qb, .int (nI 0), .int (nI 0)])) ∧ w1 qa = some (eI cI (2 * k) (fun _ => 0)) ∧ w1 qb = some (eI cI (2 * k) (fun _ => 0)) ∧ ∀ z : Nat, z ≠ h0 → z ≠ qa → z ≠ qb → w1 z = w z) := by
  refine mMv.of (by decide) (Nat.le_of_ble_eq_true rfl) ?_
  intro X C hN hR
  have fr_w : ∀ zz : Nat, w zz = w zz := fun _ => rfl
  refine mg_sub (lv' := [(0, .ref h0), (1, .int (nI k)), (2, .int (nI sd))]) [0, 1, 2] rfl ?_
  refine mg_aload_n C dX1_init_0 rfl ?_
  refine mg_iconst C (v := nI 0) dX1_init_1 (by decide) ?_
  refine mg_iload_n C dX1_init_2 rfl ?_
  refine mg_iload_n C dX1_init_3 rfl ?_
  refine mg_callI_v C (rest := []) (c_X4_init_H D cI cS w h0 0 k sd hh) yq_X4_init kw_69 kw_70 rfl ⟨by decide, by decide⟩ ⟨Nat.le_of_ble_eq_true rfl, Nat.le_of_ble_eq_true rfl⟩ (Nat.le_of_ble_eq_true rfl) rfl rfl dX1_init_4 (fun w1 ⟨xh1, xf1⟩ => ?_)
  refine mg_widen (k := 0) (n := 0) (by decide) (by decide) ?_
  have fr_w1 : ∀ zz : Nat, zz ≠ h0 → w1 zz = w zz := fun zz g0 => (xf1 zz g0).trans (fr_w zz )
  refine mg_aload_n C dX1_init_7 rfl ?_
  refine mg_iconst C (v := nI 2) dX1_init_8 (by decide) ?_
  refine mg_iload_n C dX1_init_9 rfl ?_
  refine mg_imul C (z := nI (2 * k)) dX1_init_10 (pk_mul _ _) ?_
  refine mg_newa C kw_19 (by omega) ⟨by decide, by (show 0 + (2 * k) ≤ 80; omega)⟩ dX1_init_11 (fun q2 w3 n_q2 e_w3 => ?_)
  refine mg_widen (k := 1) (n := 40) (by decide) (by omega) ?_
  have nd_q2_h0 : h0 ≠ q2 := mw_nn xh1 n_q2
  have nz_q2 : w q2 = none := (fr_w1 q2 (Ne.symm nd_q2_h0)).symm.trans n_q2
  have h_w3_h0 : w3 h0 = some (.inr (1, [.int (nI 0), .int (nI k), .int (nI sd), .int (nI 0), .int (nI 0), .null, .null, .int 0, .int 0])) := (congrFun e_w3 _).trans ((mwu_ne nd_q2_h0).trans xh1)
  have h_w3_q2 : w3 q2 = some (eI cI (2 * k) (fun _ => 0)) := (congrFun e_w3 _).trans mwu_eq
  have fr_w3 : ∀ zz : Nat, zz ≠ h0 → zz ≠ q2 → w3 zz = w zz := fun zz g0 g1 => (congrFun e_w3 zz).trans ((mwu_ne g1).trans (fr_w1 zz g0))
  refine mg_putF C (fs' := [.int (nI 0), .int (nI k), .int (nI sd), .int (nI 0), .int (nI 0), .ref q2, .null, .int 0, .int 0]) inT1 h_w3_h0 rfl 5 (by decide) kw_65 (Or.inl rfl) tyX1_ok nmX1 rfl hN rfl rfl rfl rfl (Nat.le_of_ble_eq_true rfl) dX1_init_13 (fun w4 e_w4 => ?_)
  have h_w4_h0 : w4 h0 = some (.inr (1, [.int (nI 0), .int (nI k), .int (nI sd), .int (nI 0), .int (nI 0), .ref q2, .null, .int 0, .int 0])) := (congrFun e_w4 _).trans mwu_eq
  have h_w4_q2 : w4 q2 = some (eI cI (2 * k) (fun _ => 0)) := (congrFun e_w4 _).trans ((mwu_ne (Ne.symm nd_q2_h0)).trans h_w3_q2)
  have fr_w4 : ∀ zz : Nat, zz ≠ h0 → zz ≠ q2 → w4 zz = w zz := fun zz g0 g1 => (congrFun e_w4 zz).trans ((mwu_ne g0).trans (fr_w3 zz g0 g1))
  refine mg_aload_n C dX1_init_16 rfl ?_
  refine mg_iconst C (v := nI 2) dX1_init_17 (by decide) ?_
  refine mg_iload_n C dX1_init_18 rfl ?_
  refine mg_imul C (z := nI (2 * k)) dX1_init_19 (pk_mul _ _) ?_
  refine mg_newa C kw_19 (by omega) ⟨by decide, by (show 40 + (2 * k) ≤ 80; omega)⟩ dX1_init_20 (fun q5 w6 n_q5 e_w6 => ?_)
  refine mg_widen (k := 2) (n := 80) (by decide) (by omega) ?_
  have nd_q5_h0 : h0 ≠ q5 := mw_nn h_w4_h0 n_q5
  have nd_q5_q2 : q2 ≠ q5 := mw_nn h_w4_q2 n_q5
  have nz_q5 : w q5 = none := (fr_w4 q5 (Ne.symm nd_q5_h0) (Ne.symm nd_q5_q2)).symm.trans n_q5
  have h_w6_h0 : w6 h0 = some (.inr (1, [.int (nI 0), .int (nI k), .int (nI sd), .int (nI 0), .int (nI 0), .ref q2, .null, .int 0, .int 0])) := (congrFun e_w6 _).trans ((mwu_ne nd_q5_h0).trans h_w4_h0)
  have h_w6_q2 : w6 q2 = some (eI cI (2 * k) (fun _ => 0)) := (congrFun e_w6 _).trans ((mwu_ne nd_q5_q2).trans h_w4_q2)
  have h_w6_q5 : w6 q5 = some (eI cI (2 * k) (fun _ => 0)) := (congrFun e_w6 _).trans mwu_eq
  have fr_w6 : ∀ zz : Nat, zz ≠ h0 → zz ≠ q2 → zz ≠ q5 → w6 zz = w zz := fun zz g0 g1 g2 => (congrFun e_w6 zz).trans ((mwu_ne g2).trans (fr_w4 zz g0 g1))
  refine mg_putF C (fs' := [.int (nI 0), .int (nI k), .int (nI sd), .int (nI 0), .int (nI 0), .ref q2, .ref q5, .int 0, .int 0]) inT1 h_w6_h0 rfl 6 (by decide) kw_66 (Or.inl rfl) tyX1_ok nmX1 rfl hN rfl rfl rfl rfl (Nat.le_of_ble_eq_true rfl) dX1_init_22 (fun w7 e_w7 => ?_)
  have h_w7_h0 : w7 h0 = some (.inr (1, [.int (nI 0), .int (nI k), .int (nI sd), .int (nI 0), .int (nI 0), .ref q2, .ref q5, .int 0, .int 0])) := (congrFun e_w7 _).trans mwu_eq
  have h_w7_q2 : w7 q2 = some (eI cI (2 * k) (fun _ => 0)) := (congrFun e_w7 _).trans ((mwu_ne (Ne.symm nd_q2_h0)).trans h_w6_q2)
  have h_w7_q5 : w7 q5 = some (eI cI (2 * k) (fun _ => 0)) := (congrFun e_w7 _).trans ((mwu_ne (Ne.symm nd_q5_h0)).trans h_w6_q5)
  have fr_w7 : ∀ zz : Nat, zz ≠ h0 → zz ≠ q2 → zz ≠ q5 → w7 zz = w zz := fun zz g0 g1 g2 => (congrFun e_w7 zz).trans ((mwu_ne g0).trans (fr_w6 zz g0 g1 g2))
  refine mg_aload_n C dX1_init_25 rfl ?_
  refine mg_iconst C (v := nI 0) dX1_init_26 (by decide) ?_
  refine mg_put C (fs' := [.int (nI 0), .int (nI k), .int (nI sd), .int (nI 0), .int (nI 0), .ref q2, .ref q5, .int (nI 0), .int 0]) inT1 h_w7_h0 rfl 7 (by decide) kw_67 (Or.inl rfl) tyX1_ok nmX1 rfl rfl rfl rfl (Nat.le_of_ble_eq_true rfl) dX1_init_27 (fun w8 e_w8 => ?_)
  have h_w8_h0 : w8 h0 = some (.inr (1, [.int (nI 0), .int (nI k), .int (nI sd), .int (nI 0), .int (nI 0), .ref q2, .ref q5, .int (nI 0), .int 0])) := (congrFun e_w8 _).trans mwu_eq
  have h_w8_q2 : w8 q2 = some (eI cI (2 * k) (fun _ => 0)) := (congrFun e_w8 _).trans ((mwu_ne (Ne.symm nd_q2_h0)).trans h_w7_q2)
  have h_w8_q5 : w8 q5 = some (eI cI (2 * k) (fun _ => 0)) := (congrFun e_w8 _).trans ((mwu_ne (Ne.symm nd_q5_h0)).trans h_w7_q5)
  have fr_w8 : ∀ zz : Nat, zz ≠ h0 → zz ≠ q2 → zz ≠ q5 → w8 zz = w zz := fun zz g0 g1 g2 => (congrFun e_w8 zz).trans ((mwu_ne g0).trans (fr_w7 zz g0 g1 g2))
  refine mg_aload_n C dX1_init_30 rfl ?_
  refine mg_iconst C (v := nI 0) dX1_init_31 (by decide) ?_
  refine mg_put C (fs' := [.int (nI 0), .int (nI k), .int (nI sd), .int (nI 0), .int (nI 0), .ref q2, .ref q5, .int (nI 0), .int (nI 0)]) inT1 h_w8_h0 rfl 8 (by decide) kw_68 (Or.inl rfl) tyX1_ok nmX1 rfl rfl rfl rfl (Nat.le_of_ble_eq_true rfl) dX1_init_32 (fun w9 e_w9 => ?_)
  have h_w9_h0 : w9 h0 = some (.inr (1, [.int (nI 0), .int (nI k), .int (nI sd), .int (nI 0), .int (nI 0), .ref q2, .ref q5, .int (nI 0), .int (nI 0)])) := (congrFun e_w9 _).trans mwu_eq
  have h_w9_q2 : w9 q2 = some (eI cI (2 * k) (fun _ => 0)) := (congrFun e_w9 _).trans ((mwu_ne (Ne.symm nd_q2_h0)).trans h_w8_q2)
  have h_w9_q5 : w9 q5 = some (eI cI (2 * k) (fun _ => 0)) := (congrFun e_w9 _).trans ((mwu_ne (Ne.symm nd_q5_h0)).trans h_w8_q5)
  have fr_w9 : ∀ zz : Nat, zz ≠ h0 → zz ≠ q2 → zz ≠ q5 → w9 zz = w zz := fun zz g0 g1 g2 => (congrFun e_w9 zz).trans ((mwu_ne g0).trans (fr_w8 zz g0 g1 g2))
  exact hR _ _ _ dX1_init_35 ⟨q2, q5, nz_q2, nz_q5, nd_q5_q2, h_w9_h0, h_w9_q2, h_w9_q5, fr_w9⟩

set_option maxHeartbeats 4000000 in
set_option maxRecDepth 20000 in
theorem c_X1_twin (D : va_G) (cI cS : ClassId) (w : mwT) (h0 ak an k sd h : Nat) (tot mov lo : Int32) (f g : Nat → Int32) (hh : w h0 = some (.inr (1, [.int (nI 0), .int (nI k), .int (nI sd), .int tot, .int mov, .ref ak, .ref an, .int (nI h), .int lo]))) (h_ak : w ak = some (eI cI (2 * k) f)) (h_an : w an = some (eI cI (2 * k) g)) (hk1 : 1 ≤ k) (hk2 : k ≤ 20) (hd_ak_an : ak ≠ an) : mMq yX1_twin cX1_twin 2 (some (.object "SketchSpans$Sketch")) (rmA 3 3 89) [.ref h0] D cI cS w (fun r w1 => ∃ q qa qb : Nat, r = some q ∧ w q = none ∧ w qa = none ∧ w qb = none ∧ q ≠ qa ∧ q ≠ qb ∧ qa ≠ qb ∧ w1 q = some (.inr (1, [.int (nI 0), .int (nI k), .int (nI sd), .int tot, .int mov, .ref qa, .ref qb, .int (nI h), .int lo])) ∧ w1 qa = some (eI cI (2 * k) (cpy0 f (fun _ => 0) (2 * k))) ∧ w1 qb = some (eI cI (2 * k) (cpy0 g (fun _ => 0) (2 * k))) ∧ ∀ z : Nat, z ≠ q → z ≠ qa → z ≠ qb → w1 z = w z) := by
  refine mMq.of (by decide) (Nat.le_of_ble_eq_true rfl) ?_
  intro X C hN hR
  have fr_w : ∀ zz : Nat, w zz = w zz := fun _ => rfl
  refine mg_sub (lv' := [(0, .ref h0)]) [0] rfl ?_
  refine mg_new C (ci := 1) (fs := [.int 0, .int 0, .int 0, .int 0, .int 0, .null, .null, .int 0, .int 0]) inT1 tyX1_ok kw_148 kw_48 kw_49 rfl df_X1 ⟨by decide, by decide⟩ dX1_twin_0 (fun q1 w2 n_q1 e_w2 => ?_)
  refine mg_widen (k := 1) (n := 9) (by decide) (by decide) ?_
  have nd_q1_h0 : h0 ≠ q1 := mw_nn hh n_q1
  have nd_q1_ak : ak ≠ q1 := mw_nn h_ak n_q1
  have nd_q1_an : an ≠ q1 := mw_nn h_an n_q1
  have nz_q1 : w q1 = none := (fr_w q1 ).symm.trans n_q1
  have h_w2_h0 : w2 h0 = some (.inr (1, [.int (nI 0), .int (nI k), .int (nI sd), .int tot, .int mov, .ref ak, .ref an, .int (nI h), .int lo])) := (congrFun e_w2 _).trans ((mwu_ne nd_q1_h0).trans hh)
  have h_w2_ak : w2 ak = some (eI cI (2 * k) f) := (congrFun e_w2 _).trans ((mwu_ne nd_q1_ak).trans h_ak)
  have h_w2_an : w2 an = some (eI cI (2 * k) g) := (congrFun e_w2 _).trans ((mwu_ne nd_q1_an).trans h_an)
  have h_w2_q1 : w2 q1 = some (.inr (1, [.int 0, .int 0, .int 0, .int 0, .int 0, .null, .null, .int 0, .int 0])) := (congrFun e_w2 _).trans mwu_eq
  have fr_w2 : ∀ zz : Nat, zz ≠ q1 → w2 zz = w zz := fun zz g0 => (congrFun e_w2 zz).trans ((mwu_ne g0).trans (fr_w zz ))
  refine mg_dup C dX1_twin_3 rfl ?_
  refine mg_aload_n C dX1_twin_4 rfl ?_
  refine mg_get C inT1 h_w2_h0 rfl 1 (by decide) kw_149 (Or.inr kw_150) rfl dX1_twin_5 ?_
  refine mg_aload_n C dX1_twin_8 rfl ?_
  refine mg_get C inT1 h_w2_h0 rfl 2 (by decide) kw_151 (Or.inr kw_152) rfl dX1_twin_9 ?_
  refine mg_callI_v C (rest := [.ref q1]) (c_X1_init D cI cS w2 q1 k sd h_w2_q1 hk1 hk2) yq_X1_init kw_153 kw_63 rfl ⟨by decide, by decide⟩ ⟨Nat.le_of_ble_eq_true rfl, Nat.le_of_ble_eq_true rfl⟩ (Nat.le_of_ble_eq_true rfl) rfl rfl dX1_twin_12 (fun w3 ⟨q3a, q3b, n_q3a, n_q3b, dd_q3b_q3a, xh3, xkq3a, xkq3b, xf3⟩ => ?_)
  refine mg_widen (k := 3) (n := 89) (by decide) (by decide) ?_
  have nd_q3a_h0 : h0 ≠ q3a := mw_nn h_w2_h0 n_q3a
  have nd_q3a_ak : ak ≠ q3a := mw_nn h_w2_ak n_q3a
  have nd_q3a_an : an ≠ q3a := mw_nn h_w2_an n_q3a
  have nd_q3a_q1 : q1 ≠ q3a := mw_nn h_w2_q1 n_q3a
  have nz_q3a : w q3a = none := (fr_w2 q3a (Ne.symm nd_q3a_q1)).symm.trans n_q3a
  have nd_q3b_h0 : h0 ≠ q3b := mw_nn h_w2_h0 n_q3b
  have nd_q3b_ak : ak ≠ q3b := mw_nn h_w2_ak n_q3b
  have nd_q3b_an : an ≠ q3b := mw_nn h_w2_an n_q3b
  have nd_q3b_q1 : q1 ≠ q3b := mw_nn h_w2_q1 n_q3b
  have nz_q3b : w q3b = none := (fr_w2 q3b (Ne.symm nd_q3b_q1)).symm.trans n_q3b
  have h_w3_h0 : w3 h0 = some (.inr (1, [.int (nI 0), .int (nI k), .int (nI sd), .int tot, .int mov, .ref ak, .ref an, .int (nI h), .int lo])) := (xf3 h0 nd_q1_h0 (mw_nn h_w2_h0 n_q3a) (mw_nn h_w2_h0 n_q3b)).trans h_w2_h0
  have h_w3_ak : w3 ak = some (eI cI (2 * k) f) := (xf3 ak nd_q1_ak (mw_nn h_w2_ak n_q3a) (mw_nn h_w2_ak n_q3b)).trans h_w2_ak
  have h_w3_an : w3 an = some (eI cI (2 * k) g) := (xf3 an nd_q1_an (mw_nn h_w2_an n_q3a) (mw_nn h_w2_an n_q3b)).trans h_w2_an
  have fr_w3 : ∀ zz : Nat, zz ≠ q1 → zz ≠ q3a → zz ≠ q3b → w3 zz = w zz := fun zz g0 g1 g2 => (xf3 zz g0 g1 g2).trans (fr_w2 zz g0)
  refine mg_astore_n C (lv' := [(1, .ref q1), (0, .ref h0)]) dX1_twin_15 rfl (by decide) rfl ?_
  refine mg_aload_n C dX1_twin_16 rfl ?_
  refine mg_aload_n C dX1_twin_17 rfl ?_
  refine mg_callU_v C xh3 rfl (rest := []) (c_X4_copyTotals_H D cI cS w3 q1 h0 0 k sd (nI 0) (nI 0) tot mov (.ref q3a) (.ref ak) (.ref q3b) (.ref an) (.int (nI 0)) (.int (nI h)) (.int (nI 0)) (.int lo) xh3 h_w3_h0 (Ne.symm nd_q1_h0)) yq_X4_copyTotals kw_154 kw_155 dq_copyTotals (by decide +kernel) kw_141 kw_156 ⟨by decide, by decide⟩ ⟨Nat.le_of_ble_eq_true rfl, Nat.le_of_ble_eq_true rfl⟩ (Nat.le_of_ble_eq_true rfl) rfl rfl dX1_twin_18 (fun w4 ⟨xh4, xf4⟩ => ?_)
  refine mg_widen (k := 3) (n := 89) (by decide) (by decide) ?_
  have h_w4_h0 : w4 h0 = some (.inr (1, [.int (nI 0), .int (nI k), .int (nI sd), .int tot, .int mov, .ref ak, .ref an, .int (nI h), .int lo])) := (xf4 h0 nd_q1_h0).trans h_w3_h0
  have h_w4_ak : w4 ak = some (eI cI (2 * k) f) := (xf4 ak nd_q1_ak).trans h_w3_ak
  have h_w4_an : w4 an = some (eI cI (2 * k) g) := (xf4 an nd_q1_an).trans h_w3_an
  have h_w4_q3a : w4 q3a = some (eI cI (2 * k) (fun _ => 0)) := (xf4 q3a (Ne.symm nd_q3a_q1)).trans xkq3a
  have h_w4_q3b : w4 q3b = some (eI cI (2 * k) (fun _ => 0)) := (xf4 q3b (Ne.symm nd_q3b_q1)).trans xkq3b
  have fr_w4 : ∀ zz : Nat, zz ≠ q1 → zz ≠ q3a → zz ≠ q3b → w4 zz = w zz := fun zz g0 g1 g2 => (xf4 zz g0).trans (fr_w3 zz g0 g1 g2)
  refine mg_aload_n C dX1_twin_21 rfl ?_
  refine mg_get C inT1 h_w4_h0 rfl 5 (by decide) kw_65 (Or.inl rfl) rfl dX1_twin_22 ?_
  refine mg_aload_n C dX1_twin_25 rfl ?_
  refine mg_get C inT1 xh4 rfl 5 (by decide) kw_65 (Or.inl rfl) rfl dX1_twin_26 ?_
  refine mg_callN_v C (rest := []) (c_X6_copyRow D cI cS w4 ak q3a (2 * k) f (fun _ => 0) h_w4_ak h_w4_q3a (by omega) nd_q3a_ak) yq_X6_copyRow kn_3 kw_143 ⟨by decide, by decide⟩ ⟨Nat.le_of_ble_eq_true rfl, Nat.le_of_ble_eq_true rfl⟩ (Nat.le_of_ble_eq_true rfl) rfl rfl dX1_twin_29 (fun w5 ⟨xh5, xf5⟩ => ?_)
  refine mg_widen (k := 3) (n := 89) (by decide) (by decide) ?_
  have h_w5_h0 : w5 h0 = some (.inr (1, [.int (nI 0), .int (nI k), .int (nI sd), .int tot, .int mov, .ref ak, .ref an, .int (nI h), .int lo])) := (xf5 h0 nd_q3a_h0).trans h_w4_h0
  have h_w5_ak : w5 ak = some (eI cI (2 * k) f) := (xf5 ak nd_q3a_ak).trans h_w4_ak
  have h_w5_an : w5 an = some (eI cI (2 * k) g) := (xf5 an nd_q3a_an).trans h_w4_an
  have h_w5_q1 : w5 q1 = some (.inr (1, [.int (nI 0), .int (nI k), .int (nI sd), .int tot, .int mov, .ref q3a, .ref q3b, .int (nI 0), .int (nI 0)])) := (xf5 q1 nd_q3a_q1).trans xh4
  have h_w5_q3b : w5 q3b = some (eI cI (2 * k) (fun _ => 0)) := (xf5 q3b (Ne.symm dd_q3b_q3a)).trans h_w4_q3b
  have fr_w5 : ∀ zz : Nat, zz ≠ q1 → zz ≠ q3a → zz ≠ q3b → w5 zz = w zz := fun zz g0 g1 g2 => (xf5 zz g1).trans (fr_w4 zz g0 g1 g2)
  refine mg_aload_n C dX1_twin_32 rfl ?_
  refine mg_get C inT1 h_w5_h0 rfl 6 (by decide) kw_66 (Or.inl rfl) rfl dX1_twin_33 ?_
  refine mg_aload_n C dX1_twin_36 rfl ?_
  refine mg_get C inT1 h_w5_q1 rfl 6 (by decide) kw_66 (Or.inl rfl) rfl dX1_twin_37 ?_
  refine mg_callN_v C (rest := []) (c_X6_copyRow D cI cS w5 an q3b (2 * k) g (fun _ => 0) h_w5_an h_w5_q3b (by omega) nd_q3b_an) yq_X6_copyRow kn_3 kw_143 ⟨by decide, by decide⟩ ⟨Nat.le_of_ble_eq_true rfl, Nat.le_of_ble_eq_true rfl⟩ (Nat.le_of_ble_eq_true rfl) rfl rfl dX1_twin_40 (fun w6 ⟨xh6, xf6⟩ => ?_)
  refine mg_widen (k := 3) (n := 89) (by decide) (by decide) ?_
  have h_w6_h0 : w6 h0 = some (.inr (1, [.int (nI 0), .int (nI k), .int (nI sd), .int tot, .int mov, .ref ak, .ref an, .int (nI h), .int lo])) := (xf6 h0 nd_q3b_h0).trans h_w5_h0
  have h_w6_ak : w6 ak = some (eI cI (2 * k) f) := (xf6 ak nd_q3b_ak).trans h_w5_ak
  have h_w6_an : w6 an = some (eI cI (2 * k) g) := (xf6 an nd_q3b_an).trans h_w5_an
  have h_w6_q1 : w6 q1 = some (.inr (1, [.int (nI 0), .int (nI k), .int (nI sd), .int tot, .int mov, .ref q3a, .ref q3b, .int (nI 0), .int (nI 0)])) := (xf6 q1 nd_q3b_q1).trans h_w5_q1
  have h_w6_q3a : w6 q3a = some (eI cI (2 * k) (cpy0 f (fun _ => 0) (2 * k))) := (xf6 q3a dd_q3b_q3a).trans xh5
  have fr_w6 : ∀ zz : Nat, zz ≠ q1 → zz ≠ q3a → zz ≠ q3b → w6 zz = w zz := fun zz g0 g1 g2 => (xf6 zz g2).trans (fr_w5 zz g0 g1 g2)
  refine mg_aload_n C dX1_twin_43 rfl ?_
  refine mg_aload_n C dX1_twin_44 rfl ?_
  refine mg_get C inT1 h_w6_h0 rfl 7 (by decide) kw_67 (Or.inl rfl) rfl dX1_twin_45 ?_
  refine mg_put C (fs' := [.int (nI 0), .int (nI k), .int (nI sd), .int tot, .int mov, .ref q3a, .ref q3b, .int (nI h), .int (nI 0)]) inT1 h_w6_q1 rfl 7 (by decide) kw_67 (Or.inl rfl) tyX1_ok nmX1 rfl rfl rfl rfl (Nat.le_of_ble_eq_true rfl) dX1_twin_48 (fun w7 e_w7 => ?_)
  have h_w7_h0 : w7 h0 = some (.inr (1, [.int (nI 0), .int (nI k), .int (nI sd), .int tot, .int mov, .ref ak, .ref an, .int (nI h), .int lo])) := (congrFun e_w7 _).trans ((mwu_ne nd_q1_h0).trans h_w6_h0)
  have h_w7_ak : w7 ak = some (eI cI (2 * k) f) := (congrFun e_w7 _).trans ((mwu_ne nd_q1_ak).trans h_w6_ak)
  have h_w7_an : w7 an = some (eI cI (2 * k) g) := (congrFun e_w7 _).trans ((mwu_ne nd_q1_an).trans h_w6_an)
  have h_w7_q1 : w7 q1 = some (.inr (1, [.int (nI 0), .int (nI k), .int (nI sd), .int tot, .int mov, .ref q3a, .ref q3b, .int (nI h), .int (nI 0)])) := (congrFun e_w7 _).trans mwu_eq
  have h_w7_q3a : w7 q3a = some (eI cI (2 * k) (cpy0 f (fun _ => 0) (2 * k))) := (congrFun e_w7 _).trans ((mwu_ne (Ne.symm nd_q3a_q1)).trans h_w6_q3a)
  have h_w7_q3b : w7 q3b = some (eI cI (2 * k) (cpy0 g (fun _ => 0) (2 * k))) := (congrFun e_w7 _).trans ((mwu_ne (Ne.symm nd_q3b_q1)).trans xh6)
  have fr_w7 : ∀ zz : Nat, zz ≠ q1 → zz ≠ q3a → zz ≠ q3b → w7 zz = w zz := fun zz g0 g1 g2 => (congrFun e_w7 zz).trans ((mwu_ne g0).trans (fr_w6 zz g0 g1 g2))
  refine mg_aload_n C dX1_twin_51 rfl ?_
  refine mg_aload_n C dX1_twin_52 rfl ?_
  refine mg_get C inT1 h_w7_h0 rfl 8 (by decide) kw_68 (Or.inl rfl) rfl dX1_twin_53 ?_
  refine mg_put C (fs' := [.int (nI 0), .int (nI k), .int (nI sd), .int tot, .int mov, .ref q3a, .ref q3b, .int (nI h), .int lo]) inT1 h_w7_q1 rfl 8 (by decide) kw_68 (Or.inl rfl) tyX1_ok nmX1 rfl rfl rfl rfl (Nat.le_of_ble_eq_true rfl) dX1_twin_56 (fun w8 e_w8 => ?_)
  have h_w8_h0 : w8 h0 = some (.inr (1, [.int (nI 0), .int (nI k), .int (nI sd), .int tot, .int mov, .ref ak, .ref an, .int (nI h), .int lo])) := (congrFun e_w8 _).trans ((mwu_ne nd_q1_h0).trans h_w7_h0)
  have h_w8_ak : w8 ak = some (eI cI (2 * k) f) := (congrFun e_w8 _).trans ((mwu_ne nd_q1_ak).trans h_w7_ak)
  have h_w8_an : w8 an = some (eI cI (2 * k) g) := (congrFun e_w8 _).trans ((mwu_ne nd_q1_an).trans h_w7_an)
  have h_w8_q1 : w8 q1 = some (.inr (1, [.int (nI 0), .int (nI k), .int (nI sd), .int tot, .int mov, .ref q3a, .ref q3b, .int (nI h), .int lo])) := (congrFun e_w8 _).trans mwu_eq
  have h_w8_q3a : w8 q3a = some (eI cI (2 * k) (cpy0 f (fun _ => 0) (2 * k))) := (congrFun e_w8 _).trans ((mwu_ne (Ne.symm nd_q3a_q1)).trans h_w7_q3a)
  have h_w8_q3b : w8 q3b = some (eI cI (2 * k) (cpy0 g (fun _ => 0) (2 * k))) := (congrFun e_w8 _).trans ((mwu_ne (Ne.symm nd_q3b_q1)).trans h_w7_q3b)
  have fr_w8 : ∀ zz : Nat, zz ≠ q1 → zz ≠ q3a → zz ≠ q3b → w8 zz = w zz := fun zz g0 g1 g2 => (congrFun e_w8 zz).trans ((mwu_ne g0).trans (fr_w7 zz g0 g1 g2))
  refine mg_aload_n C dX1_twin_59 rfl ?_
  exact hR (some q1) _ _ _ dX1_twin_60 ⟨q1, q3a, q3b, rfl, nz_q1, nz_q3a, nz_q3b, nd_q3a_q1, nd_q3b_q1, dd_q3b_q3a, h_w8_q1, h_w8_q3a, h_w8_q3b, fr_w8⟩
end
section
/-! ===== RANKS: BUFFERS in one row, their lengths, TURNS, ERROR ===== -/
def lnF (l : Nat → Nat) : Nat → Int32 := fun i => nI (l i)
def updN (l : Nat → Nat) (k v : Nat) : Nat → Nat := fun j => if j = k then v else l j
theorem updN_eq (l : Nat → Nat) (k v : Nat) : updN l k v k = v := by simp [updN]
theorem updN_ne {l : Nat → Nat} {k v j : Nat} (h : j ≠ k) : updN l k v j = l j := by simp [updN, h]
theorem upd_lnF {l : Nat → Nat} {k v : Nat} : upd (lnF l) k (nI v) = lnF (updN l k v) := by
  funext j
  unfold upd lnF updN
  split <;> rfl
def sh1 (b : Nat) : Int32 := nI 1 <<< (nI b &&& 31)
/-- v goes down from place fst + n + 1, or stays -/
def srtI (fst : Nat) (key : Int32) : Nat → (Nat → Int32) → (Nat → Int32) × Nat
  | 0, f => (f, 0)
  | n + 1, f => if f (fst + n) ≤ key then (f, n + 1) else srtI fst key n (upd f (fst + n + 1) (f (fst + n)))
def srtO (f : Nat → Int32) (fst : Nat) : Nat → Nat → Int32
  | 0 => f
  | m + 1 => upd (srtI fst (srtO f fst m (fst + m + 1)) (m + 1) (srtO f fst m)).1 (fst + (srtI fst (srtO f fst m (fst + m + 1)) (m + 1) (srtO f fst m)).2) (srtO f fst m (fst + m + 1))
theorem srtI_le (fst : Nat) (key : Int32) : ∀ n f, (srtI fst key n f).2 ≤ n
  | 0, _ => Nat.le_refl _
  | n + 1, f => by
    unfold srtI
    split
    · exact Nat.le_refl _
    · exact Nat.le_succ_of_le (srtI_le fst key n _)
abbrev rkT : Type := (Nat → Int32) × (Nat → Nat) × (Nat → Nat) × Int32
def lpP (k b : Nat) (p : Int32 → rkT → rkT) : Nat → Nat → rkT → rkT
  | 0, _, S => S
  | m + 1, i, S => if i < k then lpP k b p m (i + 2) (p (S.1 (b * k + i)) S) else S
def colP (k b : Nat) (p : Int32 → rkT → rkT) (S : rkT) : rkT :=
  lpP k b p k (S.2.2.1 b) (srtO S.1 (b * k) (k - 1), updN S.2.1 b 0, updN S.2.2.1 b (1 - S.2.2.1 b), S.2.2.2 + sh1 b)
def psh (k : Nat) : Nat → Nat → Int32 → rkT → rkT
  | 0, _, _, S => S
  | d + 1, b, x, S => if k ≤ S.2.1 b then S else if S.2.1 b + 1 < k then (upd S.1 (b * k + S.2.1 b) x, updN S.2.1 b (S.2.1 b + 1), S.2.2.1, S.2.2.2)
    else colP k b (psh k d (b + 1)) (upd S.1 (b * k + S.2.1 b) x, updN S.2.1 b (S.2.1 b + 1), S.2.2.1, S.2.2.2)
def rkOk (k : Nat) (S : rkT) : Prop := (∀ b, S.2.2.1 b ≤ 1) ∧ ∀ b, S.2.1 b ≤ k
theorem updN_le {l : Nat → Nat} {b v m : Nat} (hv : v ≤ m) (h : ∀ c, l c ≤ m) (c : Nat) : updN l b v c ≤ m := by
  unfold updN
  split
  · exact hv
  · exact h c
theorem lpP_ok {k b : Nat} {p : Int32 → rkT → rkT} (hp : ∀ x S, rkOk k S → rkOk k (p x S)) : ∀ m i S, rkOk k S → rkOk k (lpP k b p m i S)
  | 0, _, _, h => h
  | m + 1, i, S, h => by
    unfold lpP
    split
    · exact lpP_ok hp m (i + 2) _ (hp _ _ h)
    · exact h
theorem col0_ok {k b : Nat} {S : rkT} {f : Nat → Int32} {e : Int32} (h : rkOk k S) : rkOk k (f, updN S.2.1 b 0, updN S.2.2.1 b (1 - S.2.2.1 b), e) := ⟨updN_le (by omega) h.1, updN_le (Nat.zero_le _) h.2⟩
theorem colP_ok {k b : Nat} {p : Int32 → rkT → rkT} (hp : ∀ x S, rkOk k S → rkOk k (p x S)) {S : rkT} (h : rkOk k S) : rkOk k (colP k b p S) := by
  unfold colP
  exact lpP_ok hp _ _ _ (col0_ok h)
theorem psh_ok (k : Nat) : ∀ d b x S, rkOk k S → rkOk k (psh k d b x S)
  | 0, _, _, _, h => h
  | d + 1, b, x, S, h => by
    unfold psh
    split
    · exact h
    · rename_i hb
      have h1 : rkOk k (upd S.1 (b * k + S.2.1 b) x, updN S.2.1 b (S.2.1 b + 1), S.2.2.1, S.2.2.2) := ⟨h.1, updN_le (by omega) h.2⟩
      split
      · exact h1
      · exact colP_ok (fun x S h => psh_ok k d (b + 1) x S h) h1
theorem bk_le {b k : Nat} (h : b < 31) : b * k + k ≤ 31 * k := by
  have := Nat.mul_le_mul_right k (show b + 1 ≤ 31 by omega)
  rw [Nat.succ_mul] at this
  exact this
/-- WEIGHTS -/
def wI (f : Nat → Int32) (k b : Nat) (x : Int32) (acc : Int32) : Nat → Int32
  | 0 => acc
  | i + 1 => if x < f (b * k + i) then wI f k b x acc i else wI f k b x acc i + sh1 b
def wO (f : Nat → Int32) (ln : Nat → Nat) (k : Nat) (x : Int32) : Nat → Int32
  | 0 => nI 0
  | b + 1 => wI f k b x (wO f ln k x b) (ln b)
def smN (ln : Nat → Nat) : Nat → Nat
  | 0 => 0
  | b + 1 => smN ln b + ln b
/-- the halving -/
def bsR (V : Nat → Int32) (q : Int32) : Nat → Nat → Nat → Nat
  | 0, lo, _ => lo
  | n + 1, lo, hi => if lo < hi then (if V ((lo + hi) / 2) < q then bsR V q n ((lo + hi) / 2 + 1) hi else bsR V q n lo ((lo + hi) / 2)) else lo
def tkR (k : Nat) (x : Int32) (S : rkT) : Nat → rkT
  | 0 => S
  | n + 1 => psh k 31 0 x (tkR k x S n)
theorem tkR_ok {k : Nat} {x : Int32} {S : rkT} (h : rkOk k S) : ∀ n, rkOk k (tkR k x S n)
  | 0 => h
  | n + 1 => psh_ok k 31 0 x _ (tkR_ok h n)
def jiR (k b : Nat) (f2 : Nat → Int32) (S : rkT) : Nat → rkT
  | 0 => S
  | i + 1 => psh k (31 - b) b (f2 (b * k + i)) (jiR k b f2 S i)
theorem jiR_ok {k b : Nat} {f2 : Nat → Int32} {S : rkT} (h : rkOk k S) : ∀ n, rkOk k (jiR k b f2 S n)
  | 0 => h
  | n + 1 => psh_ok k (31 - b) b _ _ (jiR_ok h n)
def joR (k : Nat) (f2 : Nat → Int32) (ln2 : Nat → Nat) (S : rkT) : Nat → rkT
  | 0 => S
  | b + 1 => jiR k b f2 (joR k f2 ln2 S b) (ln2 b)
theorem joR_ok {k : Nat} {f2 : Nat → Int32} {ln2 : Nat → Nat} {S : rkT} (h : rkOk k S) : ∀ n, rkOk k (joR k f2 ln2 S n)
  | 0 => h
  | n + 1 => jiR_ok (joR_ok h n) _
end
section
set_option maxHeartbeats 4000000 in
set_option maxRecDepth 20000 in
theorem c_X3_keyAt (D : va_G) (cI cS : ClassId) (w : mwT) (h0 ak al aw k sd : Nat) (tot mov er : Int32) (f : Nat → Int32) (ln tr : Nat → Nat) (b i : Nat) (hh : w h0 = some (.inr (3, [.int (nI 4), .int (nI k), .int (nI sd), .int tot, .int mov, .ref ak, .ref al, .ref aw, .int er]))) (hak : w ak = some (eI cI (31 * k) f)) (hal : w al = some (eI cI 31 (lnF ln))) (haw : w aw = some (eI cI 31 (lnF tr))) (hk1 : 4 ≤ k) (hk2 : k ≤ 32) (hb : b < 31) (hi : i < k) : mMi yX3_keyAt cX3_keyAt 4 (some .int) (rmL 1) [.ref h0, .int (nI b), .int (nI i)] D cI cS w (fun r w1 => r = f (b * k + i) ∧ w1 = w) := by
  refine mMi.of (by decide) (Nat.le_of_ble_eq_true rfl) ?_
  intro X C hN hR
  refine mg_sub (lv' := [(0, .ref h0), (1, .int (nI b)), (2, .int (nI i))]) [0, 1, 2] rfl ?_
  have hbk := bk_le (k := k) hb
  refine mg_iload_n C dX3_keyAt_0 rfl ?_
  refine mg_aload_n C dX3_keyAt_1 rfl ?_
  refine mg_get C inT3 hh rfl 1 (by decide) kw_173 (Or.inr kw_174) rfl dX3_keyAt_2 ?_
  refine mg_imul C (z := nI (b * k)) dX3_keyAt_5 (pk_mul _ _) ?_
  refine mg_iload_n C dX3_keyAt_6 rfl ?_
  refine mg_iadd C (z := nI ((b * k) + i)) dX3_keyAt_7 (nI_add _ _) ?_
  refine mg_istore_n C (lv' := [(3, .int (nI ((b * k) + i))), (0, .ref h0), (1, .int (nI b)), (2, .int (nI i))]) dX3_keyAt_8 rfl (by decide) rfl ?_
  refine mg_iload_n C dX3_keyAt_9 rfl ?_
  refine mg_ifN_lt C (tgt := 22) dX3_keyAt_10 (by decide) (by omega) ?_
  refine mg_iload_n C dX3_keyAt_13 rfl ?_
  refine mg_aload_n C dX3_keyAt_14 rfl ?_
  refine mg_get C inT3 hh rfl 5 (by decide) kw_98 (Or.inl rfl) rfl dX3_keyAt_15 ?_
  refine mg_alen C hak dX3_keyAt_18 ?_
  refine mg_icmpN_lt C (tgt := 26) dX3_keyAt_19 (by decide) (by omega) (by omega) (fun c_19 => ?_) (fun c_19 => absurd c_19 (by omega))
  refine mg_aload_n C dX3_keyAt_26 rfl ?_
  refine mg_get C inT3 hh rfl 5 (by decide) kw_98 (Or.inl rfl) rfl dX3_keyAt_27 ?_
  refine mg_iload_n C dX3_keyAt_30 rfl ?_
  refine mg_ialdN C hak (by omega) (by omega) dX3_keyAt_31 ?_
  exact hR _ _ _ _ dX3_keyAt_32 ⟨rfl, rfl⟩

set_option maxHeartbeats 4000000 in
set_option maxRecDepth 20000 in
theorem c_X3_sortBuffer (D : va_G) (cI cS : ClassId) (w : mwT) (h0 ak al aw k sd : Nat) (tot mov er : Int32) (f : Nat → Int32) (ln tr : Nat → Nat) (b : Nat) (hh : w h0 = some (.inr (3, [.int (nI 4), .int (nI k), .int (nI sd), .int tot, .int mov, .ref ak, .ref al, .ref aw, .int er]))) (hak : w ak = some (eI cI (31 * k) f)) (hal : w al = some (eI cI 31 (lnF ln))) (haw : w aw = some (eI cI 31 (lnF tr))) (hk1 : 4 ≤ k) (hk2 : k ≤ 32) (hb : b < 31) (hd1 : ak ≠ al) (hd2 : ak ≠ aw) (hd3 : al ≠ aw) : mMv yX3_sortBuffer cX3_sortBuffer 6 none (rmL 1) [.ref h0, .int (nI b)] D cI cS w (fun w1 => w1 ak = some (eI cI (31 * k) (srtO f (b * k) (k - 1))) ∧ ∀ z : Nat, z ≠ ak → w1 z = w z) := by
  refine mMv.of (by decide) (Nat.le_of_ble_eq_true rfl) ?_
  intro X C hN hR
  have fr_w : ∀ zz : Nat, w zz = w zz := fun _ => rfl
  refine mg_sub (lv' := [(0, .ref h0), (1, .int (nI b))]) [0, 1] rfl ?_
  have hbk := bk_le (k := k) hb
  refine mg_iload_n C dX3_sortBuffer_0 rfl ?_
  refine mg_aload_n C dX3_sortBuffer_1 rfl ?_
  refine mg_get C inT3 hh rfl 1 (by decide) kw_173 (Or.inr kw_174) rfl dX3_sortBuffer_2 ?_
  refine mg_imul C (z := nI (b * k)) dX3_sortBuffer_5 (pk_mul _ _) ?_
  refine mg_istore_n C (lv' := [(2, .int (nI (b * k))), (0, .ref h0), (1, .int (nI b))]) dX3_sortBuffer_6 rfl (by decide) rfl ?_
  refine mg_iload_n C dX3_sortBuffer_7 rfl ?_
  refine mg_iconst C (v := nI 1) dX3_sortBuffer_8 (by decide) ?_
  refine mg_iadd C (z := nI ((b * k) + 1)) dX3_sortBuffer_9 (nI_add _ _) ?_
  refine mg_istore_n C (lv' := [(3, .int (nI ((b * k) + 1))), (2, .int (nI (b * k))), (0, .ref h0), (1, .int (nI b))]) dX3_sortBuffer_10 rfl (by decide) rfl ?_
  have L11 : ∀ (M11 : Nat) (m : Nat), k - m < M11 → (m + 1 ≤ k) → ∀ (w1 : mwT), w1 h0 = some (.inr (3, [.int (nI 4), .int (nI k), .int (nI sd), .int tot, .int mov, .ref ak, .ref al, .ref aw, .int er])) → w1 ak = some (eI cI (31 * k) (srtO f (b * k) m)) → w1 al = some (eI cI 31 (lnF ln)) → w1 aw = some (eI cI 31 (lnF tr)) → (∀ zz : Nat, zz ≠ ak → w1 zz = w zz) → mwG X 0 0 w1 [(0, .ref h0), (1, .int (nI b)), (2, .int (nI (b * k))), (3, .int (nI (b * k + m + 1)))] [] 11 := by
    intro M11
    induction M11 with
    | zero => intro m hm11; exact absurd hm11 (Nat.not_lt_zero _)
    | succ M11 ih11 =>
      intro m hm11 hm1 w1 h_w1_h0 h_w1_ak h_w1_al h_w1_aw fr_w1
      refine mg_iload_n C dX3_sortBuffer_11 rfl ?_
      refine mg_iload_n C dX3_sortBuffer_12 rfl ?_
      refine mg_aload_n C dX3_sortBuffer_13 rfl ?_
      refine mg_get C inT3 h_w1_h0 rfl 1 (by decide) kw_173 (Or.inr kw_174) rfl dX3_sortBuffer_14 ?_
      refine mg_iadd C (z := nI ((b * k) + k)) dX3_sortBuffer_17 (nI_add _ _) ?_
      refine mg_icmpN_ge C (tgt := 98) dX3_sortBuffer_18 (by decide) (by omega) (by omega) (fun c_18 => ?_) (fun c_18 => ?_)
      · have em : m = k - 1 := by omega
        rw [em] at h_w1_ak
        exact hR _ _ _ dX3_sortBuffer_98 ⟨h_w1_ak, fr_w1⟩
      · refine mg_iload_n C dX3_sortBuffer_21 rfl ?_
        refine mg_aload_n C dX3_sortBuffer_22 rfl ?_
        refine mg_get C inT3 h_w1_h0 rfl 5 (by decide) kw_98 (Or.inl rfl) rfl dX3_sortBuffer_23 ?_
        refine mg_alen C h_w1_ak dX3_sortBuffer_26 ?_
        refine mg_icmpN_ge C (tgt := 98) dX3_sortBuffer_27 (by decide) (by omega) (by omega) (fun c_27 => absurd c_27 (by omega)) (fun c_27 => ?_)
        refine mg_aload_n C dX3_sortBuffer_30 rfl ?_
        refine mg_get C inT3 h_w1_h0 rfl 5 (by decide) kw_98 (Or.inl rfl) rfl dX3_sortBuffer_31 ?_
        refine mg_iload_n C dX3_sortBuffer_34 rfl ?_
        refine mg_ialdN C h_w1_ak (by omega) (by omega) dX3_sortBuffer_35 ?_
        refine mg_istore C (lv' := [(4, .int ((srtO f (b * k) m) (b * k + m + 1))), (0, .ref h0), (1, .int (nI b)), (2, .int (nI (b * k))), (3, .int (nI (b * k + m + 1)))]) dX3_sortBuffer_36 (by decide) rfl ?_
        refine mg_iload_n C dX3_sortBuffer_38 rfl ?_
        refine mg_istore C (lv' := [(5, .int (nI (b * k + m + 1))), (4, .int ((srtO f (b * k) m) (b * k + m + 1))), (0, .ref h0), (1, .int (nI b)), (2, .int (nI (b * k))), (3, .int (nI (b * k + m + 1)))]) dX3_sortBuffer_39 (by decide) rfl ?_
        have L41 : ∀ (M41 : Nat) (n : Nat) (fc : Nat → Int32), n < M41 → (n ≤ m + 1) → (srtI (b * k) (srtO f (b * k) m (b * k + m + 1)) n fc = (srtI (b * k) (srtO f (b * k) m (b * k + m + 1)) (m + 1) (srtO f (b * k) m))) → ∀ (w2 : mwT), w2 h0 = some (.inr (3, [.int (nI 4), .int (nI k), .int (nI sd), .int tot, .int mov, .ref ak, .ref al, .ref aw, .int er])) → w2 ak = some (eI cI (31 * k) fc) → w2 al = some (eI cI 31 (lnF ln)) → w2 aw = some (eI cI 31 (lnF tr)) → (∀ zz : Nat, zz ≠ ak → w2 zz = w zz) → mwG X 0 0 w2 [(0, .ref h0), (1, .int (nI b)), (2, .int (nI (b * k))), (3, .int (nI (b * k + m + 1))), (4, .int ((srtO f (b * k) m (b * k + m + 1)))), (5, .int (nI (b * k + n)))] [] 41 := by
          intro M41
          induction M41 with
          | zero => intro n fc hm41; exact absurd hm41 (Nat.not_lt_zero _)
          | succ M41 ih41 =>
            intro n fc hm41 hn hri w2 h_w2_h0 h_w2_ak h_w2_al h_w2_aw fr_w2
            refine mg_iload C dX3_sortBuffer_41 rfl ?_
            refine mg_iload_n C dX3_sortBuffer_43 rfl ?_
            refine mg_icmpN_le C (tgt := 83) dX3_sortBuffer_44 (by decide) (by omega) (by omega) (fun c_44 => ?_) (fun c_44 => ?_)
            · have en : n = 0 := by omega
              have hres : (srtI (b * k) (srtO f (b * k) m (b * k + m + 1)) (m + 1) (srtO f (b * k) m)) = (fc, n) := by rw [← hri, en]; rfl
              refine mg_aload_n C dX3_sortBuffer_83 rfl ?_
              refine mg_get C inT3 h_w2_h0 rfl 5 (by decide) kw_98 (Or.inl rfl) rfl dX3_sortBuffer_84 ?_
              refine mg_iload C dX3_sortBuffer_87 rfl ?_
              refine mg_iload C dX3_sortBuffer_89 rfl ?_
              refine mg_iastN C h_w2_ak (by omega) (by omega) dX3_sortBuffer_91 (fun w3 e_w3 => ?_)
              have h_w3_h0 : w3 h0 = some (.inr (3, [.int (nI 4), .int (nI k), .int (nI sd), .int tot, .int mov, .ref ak, .ref al, .ref aw, .int er])) := (congrFun e_w3 _).trans ((mwu_ne (mw_oa h_w2_h0 h_w2_ak)).trans h_w2_h0)
              have h_w3_ak : w3 ak = some (eI cI (31 * k) (upd fc (b * k + n) ((srtO f (b * k) m (b * k + m + 1))))) := (congrFun e_w3 _).trans mwu_eq
              have h_w3_al : w3 al = some (eI cI 31 (lnF ln)) := (congrFun e_w3 _).trans ((mwu_ne (Ne.symm hd1)).trans h_w2_al)
              have h_w3_aw : w3 aw = some (eI cI 31 (lnF tr)) := (congrFun e_w3 _).trans ((mwu_ne (Ne.symm hd2)).trans h_w2_aw)
              have fr_w3 : ∀ zz : Nat, zz ≠ ak → w3 zz = w zz := fun zz g0 => (congrFun e_w3 zz).trans ((mwu_ne g0).trans (fr_w2 zz g0))
              have h92 : w3 ak = some (eI cI (31 * k) (srtO f (b * k) (m + 1))) := by
                rw [h_w3_ak]
                show some (eI cI (31 * k) _) = some (eI cI (31 * k) (upd (srtI (b * k) (srtO f (b * k) m (b * k + m + 1)) (m + 1) (srtO f (b * k) m)).1 (b * k + (srtI (b * k) (srtO f (b * k) m (b * k + m + 1)) (m + 1) (srtO f (b * k) m)).2) (srtO f (b * k) m (b * k + m + 1))))
                rw [hres]
              refine mg_iinc C (v := nI (b * k + m + 1 + 1)) (lv' := [(3, .int (nI (b * k + m + 1 + 1))), (0, .ref h0), (1, .int (nI b)), (2, .int (nI (b * k))), (4, .int ((srtO f (b * k) m (b * k + m + 1)))), (5, .int (nI (b * k + n)))]) dX3_sortBuffer_92 rfl (ni_inc _) (by decide) rfl ?_
              refine mg_goto C (tgt := 11) dX3_sortBuffer_95 (by decide) ?_
              rw [show b * k + m + 1 + 1 = b * k + (m + 1) + 1 by omega]
              refine mg_sub (lv' := [(0, .ref h0), (1, .int (nI b)), (2, .int (nI (b * k))), (3, .int (nI (b * k + (m + 1) + 1)))]) [1, 2, 3, 0] rfl ?_
              exact ih11 ((m + 1)) (by omega) (by omega) w3 h_w3_h0 h92 h_w3_al h_w3_aw (fun zz g0 => fr_w3 zz g0)
            · refine mg_aload_n C dX3_sortBuffer_47 rfl ?_
              refine mg_get C inT3 h_w2_h0 rfl 5 (by decide) kw_98 (Or.inl rfl) rfl dX3_sortBuffer_48 ?_
              refine mg_iload C dX3_sortBuffer_51 rfl ?_
              refine mg_iconst C (v := nI 1) dX3_sortBuffer_53 (by decide) ?_
              refine mg_isub C (z := nI ((b * k + n) - 1)) dX3_sortBuffer_54 (ni_sub (by omega)) ?_
              refine mg_ialdN C h_w2_ak (by omega) (by omega) dX3_sortBuffer_55 ?_
              refine mg_iload C dX3_sortBuffer_56 rfl ?_
              refine mg_icmp_le C (tgt := 83) dX3_sortBuffer_58 (by decide) (fun c_58 => ?_) (fun c_58 => ?_)
              · have hres : (srtI (b * k) (srtO f (b * k) m (b * k + m + 1)) (m + 1) (srtO f (b * k) m)) = (fc, n) := by
                  rw [← hri]
                  obtain ⟨n1, rfl⟩ : ∃ n1, n = n1 + 1 := ⟨n - 1, by omega⟩
                  rw [show b * k + (n1 + 1) - 1 = b * k + n1 by omega] at c_58
                  unfold srtI
                  rw [if_pos c_58]
                refine mg_aload_n C dX3_sortBuffer_83 rfl ?_
                refine mg_get C inT3 h_w2_h0 rfl 5 (by decide) kw_98 (Or.inl rfl) rfl dX3_sortBuffer_84 ?_
                refine mg_iload C dX3_sortBuffer_87 rfl ?_
                refine mg_iload C dX3_sortBuffer_89 rfl ?_
                refine mg_iastN C h_w2_ak (by omega) (by omega) dX3_sortBuffer_91 (fun w4 e_w4 => ?_)
                have h_w4_h0 : w4 h0 = some (.inr (3, [.int (nI 4), .int (nI k), .int (nI sd), .int tot, .int mov, .ref ak, .ref al, .ref aw, .int er])) := (congrFun e_w4 _).trans ((mwu_ne (mw_oa h_w2_h0 h_w2_ak)).trans h_w2_h0)
                have h_w4_ak : w4 ak = some (eI cI (31 * k) (upd fc (b * k + n) ((srtO f (b * k) m (b * k + m + 1))))) := (congrFun e_w4 _).trans mwu_eq
                have h_w4_al : w4 al = some (eI cI 31 (lnF ln)) := (congrFun e_w4 _).trans ((mwu_ne (Ne.symm hd1)).trans h_w2_al)
                have h_w4_aw : w4 aw = some (eI cI 31 (lnF tr)) := (congrFun e_w4 _).trans ((mwu_ne (Ne.symm hd2)).trans h_w2_aw)
                have fr_w4 : ∀ zz : Nat, zz ≠ ak → w4 zz = w zz := fun zz g0 => (congrFun e_w4 zz).trans ((mwu_ne g0).trans (fr_w2 zz g0))
                have h92 : w4 ak = some (eI cI (31 * k) (srtO f (b * k) (m + 1))) := by
                  rw [h_w4_ak]
                  show some (eI cI (31 * k) _) = some (eI cI (31 * k) (upd (srtI (b * k) (srtO f (b * k) m (b * k + m + 1)) (m + 1) (srtO f (b * k) m)).1 (b * k + (srtI (b * k) (srtO f (b * k) m (b * k + m + 1)) (m + 1) (srtO f (b * k) m)).2) (srtO f (b * k) m (b * k + m + 1))))
                  rw [hres]
                refine mg_iinc C (v := nI (b * k + m + 1 + 1)) (lv' := [(3, .int (nI (b * k + m + 1 + 1))), (0, .ref h0), (1, .int (nI b)), (2, .int (nI (b * k))), (4, .int ((srtO f (b * k) m (b * k + m + 1)))), (5, .int (nI (b * k + n)))]) dX3_sortBuffer_92 rfl (ni_inc _) (by decide) rfl ?_
                refine mg_goto C (tgt := 11) dX3_sortBuffer_95 (by decide) ?_
                rw [show b * k + m + 1 + 1 = b * k + (m + 1) + 1 by omega]
                refine mg_sub (lv' := [(0, .ref h0), (1, .int (nI b)), (2, .int (nI (b * k))), (3, .int (nI (b * k + (m + 1) + 1)))]) [1, 2, 3, 0] rfl ?_
                exact ih11 ((m + 1)) (by omega) (by omega) w4 h_w4_h0 h92 h_w4_al h_w4_aw (fun zz g0 => fr_w4 zz g0)
              · refine mg_aload_n C dX3_sortBuffer_61 rfl ?_
                refine mg_get C inT3 h_w2_h0 rfl 5 (by decide) kw_98 (Or.inl rfl) rfl dX3_sortBuffer_62 ?_
                refine mg_iload C dX3_sortBuffer_65 rfl ?_
                refine mg_aload_n C dX3_sortBuffer_67 rfl ?_
                refine mg_get C inT3 h_w2_h0 rfl 5 (by decide) kw_98 (Or.inl rfl) rfl dX3_sortBuffer_68 ?_
                refine mg_iload C dX3_sortBuffer_71 rfl ?_
                refine mg_iconst C (v := nI 1) dX3_sortBuffer_73 (by decide) ?_
                refine mg_isub C (z := nI ((b * k + n) - 1)) dX3_sortBuffer_74 (ni_sub (by omega)) ?_
                refine mg_ialdN C h_w2_ak (by omega) (by omega) dX3_sortBuffer_75 ?_
                refine mg_iastN C h_w2_ak (by omega) (by omega) dX3_sortBuffer_76 (fun w5 e_w5 => ?_)
                have h_w5_h0 : w5 h0 = some (.inr (3, [.int (nI 4), .int (nI k), .int (nI sd), .int tot, .int mov, .ref ak, .ref al, .ref aw, .int er])) := (congrFun e_w5 _).trans ((mwu_ne (mw_oa h_w2_h0 h_w2_ak)).trans h_w2_h0)
                have h_w5_ak : w5 ak = some (eI cI (31 * k) (upd fc (b * k + n) (fc ((b * k + n) - 1)))) := (congrFun e_w5 _).trans mwu_eq
                have h_w5_al : w5 al = some (eI cI 31 (lnF ln)) := (congrFun e_w5 _).trans ((mwu_ne (Ne.symm hd1)).trans h_w2_al)
                have h_w5_aw : w5 aw = some (eI cI 31 (lnF tr)) := (congrFun e_w5 _).trans ((mwu_ne (Ne.symm hd2)).trans h_w2_aw)
                have fr_w5 : ∀ zz : Nat, zz ≠ ak → w5 zz = w zz := fun zz g0 => (congrFun e_w5 zz).trans ((mwu_ne g0).trans (fr_w2 zz g0))
                refine mg_iinc C (v := nI ((b * k + n) - 1)) (lv' := [(5, .int (nI ((b * k + n) - 1))), (0, .ref h0), (1, .int (nI b)), (2, .int (nI (b * k))), (3, .int (nI (b * k + m + 1))), (4, .int ((srtO f (b * k) m (b * k + m + 1))))]) dX3_sortBuffer_77 rfl (ni_dec (by omega)) (by decide) rfl ?_
                refine mg_goto C (tgt := 41) dX3_sortBuffer_80 (by decide) ?_
                have e5 : b * k + n - 1 = b * k + (n - 1) := by omega
                rw [e5]
                have hrn : srtI (b * k) (srtO f (b * k) m (b * k + m + 1)) (n - 1) (upd fc (b * k + n) (fc (b * k + n - 1))) = (srtI (b * k) (srtO f (b * k) m (b * k + m + 1)) (m + 1) (srtO f (b * k) m)) := by
                  rw [← hri]
                  obtain ⟨n1, rfl⟩ : ∃ n1, n = n1 + 1 := ⟨n - 1, by omega⟩
                  rw [show b * k + (n1 + 1) - 1 = b * k + n1 by omega, show n1 + 1 - 1 = n1 by omega] at *
                  conv => rhs; unfold srtI
                  rw [if_neg c_58]
                  rfl
                refine mg_sub (lv' := [(0, .ref h0), (1, .int (nI b)), (2, .int (nI (b * k))), (3, .int (nI (b * k + m + 1))), (4, .int ((srtO f (b * k) m (b * k + m + 1)))), (5, .int (nI (b * k + (n - 1))))]) [1, 2, 3, 4, 5, 0] rfl ?_
                exact ih41 ((n - 1)) ((upd fc (b * k + n) (fc (b * k + n - 1)))) (by omega) (by omega) hrn w5 h_w5_h0 h_w5_ak h_w5_al h_w5_aw (fun zz g0 => fr_w5 zz g0)
        refine mg_sub (lv' := [(0, .ref h0), (1, .int (nI b)), (2, .int (nI (b * k))), (3, .int (nI (b * k + m + 1))), (4, .int ((srtO f (b * k) m) (b * k + m + 1))), (5, .int (nI (b * k + m + 1)))]) [2, 3, 4, 5, 1, 0] rfl ?_
        exact L41 (_ + 1) ((m + 1)) (srtO f (b * k) m) (Nat.lt_succ_self _) (Nat.le_refl _) rfl w1 h_w1_h0 h_w1_ak h_w1_al h_w1_aw (fun zz g0 => fr_w1 zz g0)
  refine mg_sub (lv' := [(0, .ref h0), (1, .int (nI b)), (2, .int (nI (b * k))), (3, .int (nI ((b * k) + 1)))]) [2, 3, 1, 0] rfl ?_
  exact L11 (_ + 1) 0 (Nat.lt_succ_self _) (by omega) w hh hak hal haw (fun zz g0 => fr_w zz )
end
section
def P_push (d : Nat) : Prop := ∀ (D : va_G) (cI cS : ClassId) (w : mwT) (h0 ak al aw k sd : Nat) (tot mov er : Int32) (f : Nat → Int32) (ln tr : Nat → Nat) (b : Nat) (x : Int32), w h0 = some (.inr (3, [.int (nI 4), .int (nI k), .int (nI sd), .int tot, .int mov, .ref ak, .ref al, .ref aw, .int er])) → w ak = some (eI cI (31 * k) f) → w al = some (eI cI 31 (lnF ln)) → w aw = some (eI cI 31 (lnF tr)) → 4 ≤ k → k ≤ 32 → ak ≠ al → ak ≠ aw → al ≠ aw → rkOk k (f, ln, tr, er) → b + d = 31 → mMv yX3_push cX3_push 3 none (rmL (3 * d + 3)) [.ref h0, .int (nI b), .int x] D cI cS w (fun w1 => w1 h0 = some (.inr (3, [.int (nI 4), .int (nI k), .int (nI sd), .int tot, .int mov, .ref ak, .ref al, .ref aw, .int ((psh k d b x (f, ln, tr, er)).2.2.2)])) ∧ w1 ak = some (eI cI (31 * k) (psh k d b x (f, ln, tr, er)).1) ∧ w1 al = some (eI cI 31 (lnF (psh k d b x (f, ln, tr, er)).2.1)) ∧ w1 aw = some (eI cI 31 (lnF (psh k d b x (f, ln, tr, er)).2.2.1)) ∧ ∀ z : Nat, z ≠ h0 → z ≠ ak → z ≠ al → z ≠ aw → w1 z = w z)

def P_col (d : Nat) : Prop := ∀ (D : va_G) (cI cS : ClassId) (w : mwT) (h0 ak al aw k sd : Nat) (tot mov er : Int32) (f : Nat → Int32) (ln tr : Nat → Nat) (b : Nat), w h0 = some (.inr (3, [.int (nI 4), .int (nI k), .int (nI sd), .int tot, .int mov, .ref ak, .ref al, .ref aw, .int er])) → w ak = some (eI cI (31 * k) f) → w al = some (eI cI 31 (lnF ln)) → w aw = some (eI cI 31 (lnF tr)) → 4 ≤ k → k ≤ 32 → ak ≠ al → ak ≠ aw → al ≠ aw → rkOk k (f, ln, tr, er) → b + d + 1 = 31 → mMv yX3_collapse cX3_collapse 4 none (rmL (3 * d + 4)) [.ref h0, .int (nI b)] D cI cS w (fun w1 => w1 h0 = some (.inr (3, [.int (nI 4), .int (nI k), .int (nI sd), .int tot, .int mov, .ref ak, .ref al, .ref aw, .int ((colP k b (psh k d (b + 1)) (f, ln, tr, er)).2.2.2)])) ∧ w1 ak = some (eI cI (31 * k) (colP k b (psh k d (b + 1)) (f, ln, tr, er)).1) ∧ w1 al = some (eI cI 31 (lnF (colP k b (psh k d (b + 1)) (f, ln, tr, er)).2.1)) ∧ w1 aw = some (eI cI 31 (lnF (colP k b (psh k d (b + 1)) (f, ln, tr, er)).2.2.1)) ∧ ∀ z : Nat, z ≠ h0 → z ≠ ak → z ≠ al → z ≠ aw → w1 z = w z)

set_option maxHeartbeats 4000000 in
set_option maxRecDepth 20000 in
theorem c_X3_push_0 (D : va_G) (cI cS : ClassId) (w : mwT) (h0 ak al aw k sd : Nat) (tot mov er : Int32) (f : Nat → Int32) (ln tr : Nat → Nat) (b : Nat) (x : Int32) (hh : w h0 = some (.inr (3, [.int (nI 4), .int (nI k), .int (nI sd), .int tot, .int mov, .ref ak, .ref al, .ref aw, .int er]))) (hak : w ak = some (eI cI (31 * k) f)) (hal : w al = some (eI cI 31 (lnF ln))) (haw : w aw = some (eI cI 31 (lnF tr))) (hk1 : 4 ≤ k) (hk2 : k ≤ 32) (hd1 : ak ≠ al) (hd2 : ak ≠ aw) (hd3 : al ≠ aw) (hok : rkOk k (f, ln, tr, er)) (hbd : b + 0 = 31) : mMv yX3_push cX3_push 3 none (rmL (3 * 0 + 3)) [.ref h0, .int (nI b), .int x] D cI cS w (fun w1 => w1 h0 = some (.inr (3, [.int (nI 4), .int (nI k), .int (nI sd), .int tot, .int mov, .ref ak, .ref al, .ref aw, .int ((psh k 0 b x (f, ln, tr, er)).2.2.2)])) ∧ w1 ak = some (eI cI (31 * k) (psh k 0 b x (f, ln, tr, er)).1) ∧ w1 al = some (eI cI 31 (lnF (psh k 0 b x (f, ln, tr, er)).2.1)) ∧ w1 aw = some (eI cI 31 (lnF (psh k 0 b x (f, ln, tr, er)).2.2.1)) ∧ ∀ z : Nat, z ≠ h0 → z ≠ ak → z ≠ al → z ≠ aw → w1 z = w z) := by
  refine mMv.of (by decide) (Nat.le_of_ble_eq_true rfl) ?_
  intro X C hN hR
  have fr_w : ∀ zz : Nat, w zz = w zz := fun _ => rfl
  refine mg_sub (lv' := [(0, .ref h0), (1, .int (nI b)), (2, .int x)]) [0, 1, 2] rfl ?_
  refine mg_iload_n C dX3_push_0 rfl ?_
  refine mg_ifN_lt C (tgt := 23) dX3_push_1 (by decide) (by omega) ?_
  refine mg_iload_n C dX3_push_4 rfl ?_
  refine mg_bipush C (v := nI 31) dX3_push_5 (by decide) ?_
  refine mg_icmpN_ge C (tgt := 23) dX3_push_7 (by decide) (by omega) (by omega) (fun c_7 => ?_) (fun c_7 => absurd c_7 (by omega))
  exact hR _ _ _ dX3_push_23 ⟨hh, hak, hal, haw, fun z _ _ _ _ => rfl⟩

set_option maxHeartbeats 4000000 in
set_option maxRecDepth 20000 in
theorem c_X3_push_s (d : Nat) (hcol : P_col d) (D : va_G) (cI cS : ClassId) (w : mwT) (h0 ak al aw k sd : Nat) (tot mov er : Int32) (f : Nat → Int32) (ln tr : Nat → Nat) (b : Nat) (x : Int32) (hh : w h0 = some (.inr (3, [.int (nI 4), .int (nI k), .int (nI sd), .int tot, .int mov, .ref ak, .ref al, .ref aw, .int er]))) (hak : w ak = some (eI cI (31 * k) f)) (hal : w al = some (eI cI 31 (lnF ln))) (haw : w aw = some (eI cI 31 (lnF tr))) (hk1 : 4 ≤ k) (hk2 : k ≤ 32) (hd1 : ak ≠ al) (hd2 : ak ≠ aw) (hd3 : al ≠ aw) (hok : rkOk k (f, ln, tr, er)) (hbd : b + (d + 1) = 31) : mMv yX3_push cX3_push 3 none (rmL (3 * (d + 1) + 3)) [.ref h0, .int (nI b), .int x] D cI cS w (fun w1 => w1 h0 = some (.inr (3, [.int (nI 4), .int (nI k), .int (nI sd), .int tot, .int mov, .ref ak, .ref al, .ref aw, .int ((psh k (d + 1) b x (f, ln, tr, er)).2.2.2)])) ∧ w1 ak = some (eI cI (31 * k) (psh k (d + 1) b x (f, ln, tr, er)).1) ∧ w1 al = some (eI cI 31 (lnF (psh k (d + 1) b x (f, ln, tr, er)).2.1)) ∧ w1 aw = some (eI cI 31 (lnF (psh k (d + 1) b x (f, ln, tr, er)).2.2.1)) ∧ ∀ z : Nat, z ≠ h0 → z ≠ ak → z ≠ al → z ≠ aw → w1 z = w z) := by
  refine mMv.of (by decide) (Nat.le_of_ble_eq_true rfl) ?_
  intro X C hN hR
  have fr_w : ∀ zz : Nat, w zz = w zz := fun _ => rfl
  refine mg_sub (lv' := [(0, .ref h0), (1, .int (nI b)), (2, .int x)]) [0, 1, 2] rfl ?_
  have hbk := bk_le (k := k) (show b < 31 by omega)
  have hlb : ln b ≤ k := hok.2 b
  refine mg_iload_n C dX3_push_0 rfl ?_
  refine mg_ifN_lt C (tgt := 23) dX3_push_1 (by decide) (by omega) ?_
  refine mg_iload_n C dX3_push_4 rfl ?_
  refine mg_bipush C (v := nI 31) dX3_push_5 (by decide) ?_
  refine mg_icmpN_ge C (tgt := 23) dX3_push_7 (by decide) (by omega) (by omega) (fun c_7 => absurd c_7 (by omega)) (fun c_7 => ?_)
  refine mg_aload_n C dX3_push_10 rfl ?_
  refine mg_get C inT3 hh rfl 6 (by decide) kw_99 (Or.inl rfl) rfl dX3_push_11 ?_
  refine mg_iload_n C dX3_push_14 rfl ?_
  refine mg_ialdN C hal (by omega) (by omega) dX3_push_15 ?_
  refine mg_aload_n C dX3_push_16 rfl ?_
  refine mg_get C inT3 hh rfl 1 (by decide) kw_173 (Or.inr kw_174) rfl dX3_push_17 ?_
  refine mg_icmpN_lt C (tgt := 24) dX3_push_20 (by decide) (by omega) (by omega) (fun c_20 => ?_) (fun c_20 => ?_)
  · refine mg_aload_n C dX3_push_24 rfl ?_
    refine mg_get C inT3 hh rfl 5 (by decide) kw_98 (Or.inl rfl) rfl dX3_push_25 ?_
    refine mg_iload_n C dX3_push_28 rfl ?_
    refine mg_aload_n C dX3_push_29 rfl ?_
    refine mg_get C inT3 hh rfl 1 (by decide) kw_173 (Or.inr kw_174) rfl dX3_push_30 ?_
    refine mg_imul C (z := nI (b * k)) dX3_push_33 (pk_mul _ _) ?_
    refine mg_aload_n C dX3_push_34 rfl ?_
    refine mg_get C inT3 hh rfl 6 (by decide) kw_99 (Or.inl rfl) rfl dX3_push_35 ?_
    refine mg_iload_n C dX3_push_38 rfl ?_
    refine mg_ialdN C hal (by omega) (by omega) dX3_push_39 ?_
    refine mg_iadd C (z := nI ((b * k) + (ln b))) dX3_push_40 (nI_add _ _) ?_
    refine mg_iload_n C dX3_push_41 rfl ?_
    refine mg_iastN C hak (by omega) (by omega) dX3_push_42 (fun w1 e_w1 => ?_)
    have h_w1_h0 : w1 h0 = some (.inr (3, [.int (nI 4), .int (nI k), .int (nI sd), .int tot, .int mov, .ref ak, .ref al, .ref aw, .int er])) := (congrFun e_w1 _).trans ((mwu_ne (mw_oa hh hak)).trans hh)
    have h_w1_ak : w1 ak = some (eI cI (31 * k) (upd f ((b * k) + (ln b)) x)) := (congrFun e_w1 _).trans mwu_eq
    have h_w1_al : w1 al = some (eI cI 31 (lnF ln)) := (congrFun e_w1 _).trans ((mwu_ne (Ne.symm hd1)).trans hal)
    have h_w1_aw : w1 aw = some (eI cI 31 (lnF tr)) := (congrFun e_w1 _).trans ((mwu_ne (Ne.symm hd2)).trans haw)
    have fr_w1 : ∀ zz : Nat, zz ≠ ak → w1 zz = w zz := fun zz g0 => (congrFun e_w1 zz).trans ((mwu_ne g0).trans (fr_w zz ))
    refine mg_aload_n C dX3_push_43 rfl ?_
    refine mg_get C inT3 h_w1_h0 rfl 6 (by decide) kw_99 (Or.inl rfl) rfl dX3_push_44 ?_
    refine mg_iload_n C dX3_push_47 rfl ?_
    refine mg_dup2 C dX3_push_48 rfl rfl ?_
    refine mg_ialdN C h_w1_al (by omega) (by omega) dX3_push_49 ?_
    refine mg_iconst C (v := nI 1) dX3_push_50 (by decide) ?_
    refine mg_iadd C (z := nI (ln b + 1)) dX3_push_51 (nI_add _ _) ?_
    refine mg_iastN C h_w1_al (by omega) (by omega) dX3_push_52 (fun w2 e_w2 => ?_)
    rw [upd_lnF] at e_w2
    have h_w2_h0 : w2 h0 = some (.inr (3, [.int (nI 4), .int (nI k), .int (nI sd), .int tot, .int mov, .ref ak, .ref al, .ref aw, .int er])) := (congrFun e_w2 _).trans ((mwu_ne (mw_oa h_w1_h0 h_w1_al)).trans h_w1_h0)
    have h_w2_ak : w2 ak = some (eI cI (31 * k) (upd f ((b * k) + (ln b)) x)) := (congrFun e_w2 _).trans ((mwu_ne hd1).trans h_w1_ak)
    have h_w2_al : w2 al = some (eI cI 31 (lnF (updN ln b (ln b + 1)))) := (congrFun e_w2 _).trans mwu_eq
    have h_w2_aw : w2 aw = some (eI cI 31 (lnF tr)) := (congrFun e_w2 _).trans ((mwu_ne (Ne.symm hd3)).trans h_w1_aw)
    have fr_w2 : ∀ zz : Nat, zz ≠ ak → zz ≠ al → w2 zz = w zz := fun zz g0 g1 => (congrFun e_w2 zz).trans ((mwu_ne g1).trans (fr_w1 zz g0))
    refine mg_aload_n C dX3_push_53 rfl ?_
    refine mg_get C inT3 h_w2_h0 rfl 6 (by decide) kw_99 (Or.inl rfl) rfl dX3_push_54 ?_
    refine mg_iload_n C dX3_push_57 rfl ?_
    refine mg_ialdN C h_w2_al (by omega) (by omega) dX3_push_58 ?_
    rw [show lnF (updN ln b (ln b + 1)) b = nI (ln b + 1) from congrArg nI (updN_eq _ _ _)]
    refine mg_aload_n C dX3_push_59 rfl ?_
    refine mg_get C inT3 h_w2_h0 rfl 1 (by decide) kw_173 (Or.inr kw_174) rfl dX3_push_60 ?_
    refine mg_icmpN_lt C (tgt := 71) dX3_push_63 (by decide) (by omega) (by omega) (fun c_63 => ?_) (fun c_63 => ?_)
    · have et : psh k (d + 1) b x (f, ln, tr, er) = (upd f (b * k + ln b) x, updN ln b (ln b + 1), tr, er) := (if_neg (Nat.not_le.mpr c_20)).trans (if_pos c_63)
      exact hR _ _ _ dX3_push_71 ⟨by rw [et]; exact h_w2_h0, by rw [et]; exact h_w2_ak, by rw [et]; exact h_w2_al, by rw [et]; exact h_w2_aw, fun z q0 q1 q2 q3 => fr_w2 z q1 q2⟩
    · refine mg_aload_n C dX3_push_66 rfl ?_
      refine mg_iload_n C dX3_push_67 rfl ?_
      refine mg_callV_v C h_w2_h0 rfl (rest := []) (hcol D cI cS w2 h0 ak al aw k sd tot mov er (upd f (b * k + ln b) x) (updN ln b (ln b + 1)) tr b h_w2_h0 h_w2_ak h_w2_al h_w2_aw hk1 hk2 hd1 hd2 hd3 ⟨hok.1, updN_le (by omega) hok.2⟩ (by omega)) yq_X3_collapse kw_305 kw_306 kw_307 ⟨by (dsimp only; omega), by (dsimp only; omega)⟩ ⟨Nat.le_of_ble_eq_true rfl, Nat.le_of_ble_eq_true rfl⟩ (Nat.le_of_ble_eq_true rfl) rfl rfl dX3_push_68 (fun w3 ⟨xh3, xk3, xl3, xw3, xf3⟩ => ?_)
      have fr_w3 : ∀ zz : Nat, zz ≠ ak → zz ≠ al → zz ≠ h0 → zz ≠ aw → w3 zz = w zz := fun zz g0 g1 g2 g3 => (xf3 zz g2 g0 g1 g3).trans (fr_w2 zz g0 g1)
      have et : psh k (d + 1) b x (f, ln, tr, er) = (colP k b (psh k d (b + 1)) (upd f (b * k + ln b) x, updN ln b (ln b + 1), tr, er)) := (if_neg (Nat.not_le.mpr c_20)).trans (if_neg (Nat.not_lt.mpr c_63))
      exact hR _ _ _ dX3_push_71 ⟨by rw [et]; exact xh3, by rw [et]; exact xk3, by rw [et]; exact xl3, by rw [et]; exact xw3, fun z q0 q1 q2 q3 => fr_w3 z q1 q2 q0 q3⟩
  · have et : psh k (d + 1) b x (f, ln, tr, er) = (f, ln, tr, er) := if_pos c_20
    exact hR _ _ _ dX3_push_23 ⟨by rw [et]; exact hh, by rw [et]; exact hak, by rw [et]; exact hal, by rw [et]; exact haw, fun z q0 q1 q2 q3 => fr_w z ⟩

set_option maxHeartbeats 4000000 in
set_option maxRecDepth 20000 in
theorem c_X3_col_raw (d : Nat) (hpush : P_push d) (D : va_G) (cI cS : ClassId) (w : mwT) (h0 ak al aw k sd : Nat) (tot mov er : Int32) (f : Nat → Int32) (ln tr : Nat → Nat) (b : Nat) (hh : w h0 = some (.inr (3, [.int (nI 4), .int (nI k), .int (nI sd), .int tot, .int mov, .ref ak, .ref al, .ref aw, .int er]))) (hak : w ak = some (eI cI (31 * k) f)) (hal : w al = some (eI cI 31 (lnF ln))) (haw : w aw = some (eI cI 31 (lnF tr))) (hk1 : 4 ≤ k) (hk2 : k ≤ 32) (hd1 : ak ≠ al) (hd2 : ak ≠ aw) (hd3 : al ≠ aw) (hok : rkOk k (f, ln, tr, er)) (hbd : b + d + 1 = 31) : mMv yX3_collapse cX3_collapse 4 none (rmL (3 * d + 4)) [.ref h0, .int (nI b)] D cI cS w (fun w1 => w1 h0 = some (.inr (3, [.int (nI 4), .int (nI k), .int (nI sd), .int tot, .int mov, .ref ak, .ref al, .ref aw, .int ((colP k b (psh k d (b + 1)) (f, ln, tr, er)).2.2.2)])) ∧ w1 ak = some (eI cI (31 * k) (colP k b (psh k d (b + 1)) (f, ln, tr, er)).1) ∧ w1 al = some (eI cI 31 (lnF (colP k b (psh k d (b + 1)) (f, ln, tr, er)).2.1)) ∧ w1 aw = some (eI cI 31 (lnF (colP k b (psh k d (b + 1)) (f, ln, tr, er)).2.2.1)) ∧ ∀ z : Nat, z ≠ h0 → z ≠ ak → z ≠ al → z ≠ aw → w1 z = w z) := by
  refine mMv.of (by decide) (Nat.le_of_ble_eq_true rfl) ?_
  intro X C hN hR
  have fr_w : ∀ zz : Nat, w zz = w zz := fun _ => rfl
  refine mg_sub (lv' := [(0, .ref h0), (1, .int (nI b))]) [0, 1] rfl ?_
  have hbk := bk_le (k := k) (show b < 31 by omega)
  refine mg_aload_n C dX3_collapse_0 rfl ?_
  refine mg_iload_n C dX3_collapse_1 rfl ?_
  refine mg_callV_v C hh rfl (rest := []) (c_X3_sortBuffer D cI cS w h0 ak al aw k sd tot mov er f ln tr b hh hak hal haw hk1 hk2 (by omega) hd1 hd2 hd3) yq_X3_sortBuffer kw_309 kw_310 kw_311 ⟨by (dsimp only; omega), by (dsimp only; omega)⟩ ⟨Nat.le_of_ble_eq_true rfl, Nat.le_of_ble_eq_true rfl⟩ (Nat.le_of_ble_eq_true rfl) rfl rfl dX3_collapse_2 (fun w1 ⟨xk1, xf1⟩ => ?_)
  have h_w1_h0 : w1 h0 = some (.inr (3, [.int (nI 4), .int (nI k), .int (nI sd), .int tot, .int mov, .ref ak, .ref al, .ref aw, .int er])) := (xf1 h0 (mw_oa hh hak)).trans hh
  have h_w1_al : w1 al = some (eI cI 31 (lnF ln)) := (xf1 al (Ne.symm hd1)).trans hal
  have h_w1_aw : w1 aw = some (eI cI 31 (lnF tr)) := (xf1 aw (Ne.symm hd2)).trans haw
  have fr_w1 : ∀ zz : Nat, zz ≠ ak → w1 zz = w zz := fun zz g0 => (xf1 zz g0).trans (fr_w zz )
  refine mg_aload_n C dX3_collapse_5 rfl ?_
  refine mg_get C inT3 h_w1_h0 rfl 7 (by decide) kw_100 (Or.inl rfl) rfl dX3_collapse_6 ?_
  refine mg_iload_n C dX3_collapse_9 rfl ?_
  refine mg_ialdN C h_w1_aw (by omega) (by omega) dX3_collapse_10 ?_
  refine mg_istore_n C (lv' := [(2, .int (nI (tr b))), (0, .ref h0), (1, .int (nI b))]) dX3_collapse_11 rfl (by decide) rfl ?_
  have htb : tr b ≤ 1 := hok.1 b
  refine mg_aload_n C dX3_collapse_12 rfl ?_
  refine mg_get C inT3 h_w1_h0 rfl 7 (by decide) kw_100 (Or.inl rfl) rfl dX3_collapse_13 ?_
  refine mg_iload_n C dX3_collapse_16 rfl ?_
  refine mg_iconst C (v := nI 1) dX3_collapse_17 (by decide) ?_
  refine mg_iload_n C dX3_collapse_18 rfl ?_
  refine mg_isub C (z := nI (1 - (tr b))) dX3_collapse_19 (ni_sub (by omega)) ?_
  refine mg_iastN C h_w1_aw (by omega) (by omega) dX3_collapse_20 (fun w2 e_w2 => ?_)
  rw [upd_lnF] at e_w2
  have h_w2_h0 : w2 h0 = some (.inr (3, [.int (nI 4), .int (nI k), .int (nI sd), .int tot, .int mov, .ref ak, .ref al, .ref aw, .int er])) := (congrFun e_w2 _).trans ((mwu_ne (mw_oa h_w1_h0 h_w1_aw)).trans h_w1_h0)
  have h_w2_ak : w2 ak = some (eI cI (31 * k) (srtO f (b * k) (k - 1))) := (congrFun e_w2 _).trans ((mwu_ne hd2).trans xk1)
  have h_w2_al : w2 al = some (eI cI 31 (lnF ln)) := (congrFun e_w2 _).trans ((mwu_ne hd3).trans h_w1_al)
  have h_w2_aw : w2 aw = some (eI cI 31 (lnF (updN tr b (1 - (tr b))))) := (congrFun e_w2 _).trans mwu_eq
  have fr_w2 : ∀ zz : Nat, zz ≠ ak → zz ≠ aw → w2 zz = w zz := fun zz g0 g1 => (congrFun e_w2 zz).trans ((mwu_ne g1).trans (fr_w1 zz g0))
  refine mg_aload_n C dX3_collapse_21 rfl ?_
  refine mg_dup C dX3_collapse_22 rfl ?_
  refine mg_get C inT3 h_w2_h0 rfl 8 (by decide) kw_101 (Or.inl rfl) rfl dX3_collapse_23 ?_
  refine mg_iconst C (v := nI 1) dX3_collapse_26 (by decide) ?_
  refine mg_iload_n C dX3_collapse_27 rfl ?_
  refine mg_ishl C (z := sh1 b) dX3_collapse_28 rfl ?_
  refine mg_iadd C (z := er + (sh1 b)) dX3_collapse_29 rfl ?_
  refine mg_put C (fs' := [.int (nI 4), .int (nI k), .int (nI sd), .int tot, .int mov, .ref ak, .ref al, .ref aw, .int (er + (sh1 b))]) inT3 h_w2_h0 rfl 8 (by decide) kw_101 (Or.inl rfl) tyX3_ok nmX3 rfl rfl rfl rfl (Nat.le_of_ble_eq_true rfl) dX3_collapse_30 (fun w3 e_w3 => ?_)
  have h_w3_h0 : w3 h0 = some (.inr (3, [.int (nI 4), .int (nI k), .int (nI sd), .int tot, .int mov, .ref ak, .ref al, .ref aw, .int (er + (sh1 b))])) := (congrFun e_w3 _).trans mwu_eq
  have h_w3_ak : w3 ak = some (eI cI (31 * k) (srtO f (b * k) (k - 1))) := (congrFun e_w3 _).trans ((mwu_ne (mw_ao h_w2_ak h_w2_h0)).trans h_w2_ak)
  have h_w3_al : w3 al = some (eI cI 31 (lnF ln)) := (congrFun e_w3 _).trans ((mwu_ne (mw_ao h_w2_al h_w2_h0)).trans h_w2_al)
  have h_w3_aw : w3 aw = some (eI cI 31 (lnF (updN tr b (1 - (tr b))))) := (congrFun e_w3 _).trans ((mwu_ne (mw_ao h_w2_aw h_w2_h0)).trans h_w2_aw)
  have fr_w3 : ∀ zz : Nat, zz ≠ ak → zz ≠ aw → zz ≠ h0 → w3 zz = w zz := fun zz g0 g1 g2 => (congrFun e_w3 zz).trans ((mwu_ne g2).trans (fr_w2 zz g0 g1))
  refine mg_aload_n C dX3_collapse_33 rfl ?_
  refine mg_get C inT3 h_w3_h0 rfl 6 (by decide) kw_99 (Or.inl rfl) rfl dX3_collapse_34 ?_
  refine mg_iload_n C dX3_collapse_37 rfl ?_
  refine mg_iconst C (v := nI 0) dX3_collapse_38 (by decide) ?_
  refine mg_iastN C h_w3_al (by omega) (by omega) dX3_collapse_39 (fun w4 e_w4 => ?_)
  rw [upd_lnF] at e_w4
  have h_w4_h0 : w4 h0 = some (.inr (3, [.int (nI 4), .int (nI k), .int (nI sd), .int tot, .int mov, .ref ak, .ref al, .ref aw, .int (er + (sh1 b))])) := (congrFun e_w4 _).trans ((mwu_ne (mw_oa h_w3_h0 h_w3_al)).trans h_w3_h0)
  have h_w4_ak : w4 ak = some (eI cI (31 * k) (srtO f (b * k) (k - 1))) := (congrFun e_w4 _).trans ((mwu_ne hd1).trans h_w3_ak)
  have h_w4_al : w4 al = some (eI cI 31 (lnF (updN ln b 0))) := (congrFun e_w4 _).trans mwu_eq
  have h_w4_aw : w4 aw = some (eI cI 31 (lnF (updN tr b (1 - (tr b))))) := (congrFun e_w4 _).trans ((mwu_ne (Ne.symm hd3)).trans h_w3_aw)
  have fr_w4 : ∀ zz : Nat, zz ≠ ak → zz ≠ aw → zz ≠ h0 → zz ≠ al → w4 zz = w zz := fun zz g0 g1 g2 g3 => (congrFun e_w4 zz).trans ((mwu_ne g3).trans (fr_w3 zz g0 g1 g2))
  refine mg_iload_n C dX3_collapse_40 rfl ?_
  refine mg_istore_n C (lv' := [(3, .int (nI (tr b))), (2, .int (nI (tr b))), (0, .ref h0), (1, .int (nI b))]) dX3_collapse_41 rfl (by decide) rfl ?_
  have hoe : rkOk k (srtO f (b * k) (k - 1), updN ln b 0, updN tr b (1 - tr b), er + sh1 b) := col0_ok (S := (f, ln, tr, er)) hok
  have L42 : ∀ (M42 : Nat) (mz : Nat) (iz : Nat) (Sz : rkT), k - iz < M42 → (lpP k b (psh k d (b + 1)) mz iz Sz = (colP k b (psh k d (b + 1)) (f, ln, tr, er))) → (k ≤ iz + mz) → (rkOk k Sz) → (iz ≤ k + 1) → ∀ (w5 : mwT), w5 h0 = some (.inr (3, [.int (nI 4), .int (nI k), .int (nI sd), .int tot, .int mov, .ref ak, .ref al, .ref aw, .int Sz.2.2.2])) → w5 ak = some (eI cI (31 * k) Sz.1) → w5 al = some (eI cI 31 (lnF Sz.2.1)) → w5 aw = some (eI cI 31 (lnF Sz.2.2.1)) → (∀ zz : Nat, zz ≠ ak → zz ≠ aw → zz ≠ h0 → zz ≠ al → w5 zz = w zz) → mwG X 0 0 w5 [(0, .ref h0), (1, .int (nI b)), (2, .int (nI (tr b))), (3, .int (nI iz))] [] 42 := by
    intro M42
    induction M42 with
    | zero => intro mz iz Sz hm42; exact absurd hm42 (Nat.not_lt_zero _)
    | succ M42 ih42 =>
      intro mz iz Sz hm42 hlp hfu hoz hib w5 h_w5_h0 h_w5_ak h_w5_al h_w5_aw fr_w5
      refine mg_iload_n C dX3_collapse_42 rfl ?_
      refine mg_aload_n C dX3_collapse_43 rfl ?_
      refine mg_get C inT3 h_w5_h0 rfl 1 (by decide) kw_173 (Or.inr kw_174) rfl dX3_collapse_44 ?_
      refine mg_icmpN_ge C (tgt := 69) dX3_collapse_47 (by decide) (by omega) (by omega) (fun c_47 => ?_) (fun c_47 => ?_)
      · have hz : Sz = (colP k b (psh k d (b + 1)) (f, ln, tr, er)) := by
          rw [← hlp]
          cases mz with
          | zero => rfl
          | succ m1 => exact (if_neg (Nat.not_lt.mpr c_47)).symm
        exact hR _ _ _ dX3_collapse_69 ⟨by rw [← hz]; exact h_w5_h0, by rw [← hz]; exact h_w5_ak, by rw [← hz]; exact h_w5_al, by rw [← hz]; exact h_w5_aw, fun z q0 q1 q2 q3 => fr_w5 z q1 q3 q0 q2⟩
      · refine mg_aload_n C dX3_collapse_50 rfl ?_
        refine mg_iload_n C dX3_collapse_51 rfl ?_
        refine mg_iconst C (v := nI 1) dX3_collapse_52 (by decide) ?_
        refine mg_iadd C (z := nI (b + 1)) dX3_collapse_53 (nI_add _ _) ?_
        refine mg_aload_n C dX3_collapse_54 rfl ?_
        refine mg_iload_n C dX3_collapse_55 rfl ?_
        refine mg_iload_n C dX3_collapse_56 rfl ?_
        refine mg_callV_i C h_w5_h0 rfl (rest := [.int (nI (b + 1)), .ref h0]) (c_X3_keyAt D cI cS w5 h0 ak al aw k sd tot mov Sz.2.2.2 Sz.1 Sz.2.1 Sz.2.2.1 b iz h_w5_h0 h_w5_ak h_w5_al h_w5_aw hk1 hk2 (by omega) (by omega)) yq_X3_keyAt kw_313 kw_314 kw_315 ⟨by (dsimp only; omega), by (dsimp only; omega)⟩ ⟨Nat.le_of_ble_eq_true rfl, Nat.le_of_ble_eq_true rfl⟩ (Nat.le_of_ble_eq_true rfl) rfl rfl dX3_collapse_57 (fun r6 w7 ⟨e_r6, e_w7⟩ => ?_)
        rw [e_w7, e_r6]
        refine mg_callV_v C h_w5_h0 rfl (rest := []) (hpush D cI cS w5 h0 ak al aw k sd tot mov Sz.2.2.2 Sz.1 Sz.2.1 Sz.2.2.1 (b + 1) (Sz.1 (b * k + iz)) h_w5_h0 h_w5_ak h_w5_al h_w5_aw hk1 hk2 hd1 hd2 hd3 hoz (by omega)) yq_X3_push kw_301 kw_302 kw_303 ⟨by (dsimp only; omega), by (dsimp only; omega)⟩ ⟨Nat.le_of_ble_eq_true rfl, Nat.le_of_ble_eq_true rfl⟩ (Nat.le_of_ble_eq_true rfl) rfl rfl dX3_collapse_60 (fun w8 ⟨xh8, xk8, xl8, xw8, xf8⟩ => ?_)
        have fr_w8 : ∀ zz : Nat, zz ≠ ak → zz ≠ aw → zz ≠ h0 → zz ≠ al → w8 zz = w zz := fun zz g0 g1 g2 g3 => (xf8 zz g2 g0 g3 g1).trans (fr_w5 zz g0 g1 g2 g3)
        refine mg_iinc C (v := nI (iz + 2)) (lv' := [(3, .int (nI (iz + 2))), (0, .ref h0), (1, .int (nI b)), (2, .int (nI (tr b)))]) dX3_collapse_63 rfl (ni_inc2 _) (by decide) rfl ?_
        refine mg_goto C (tgt := 42) dX3_collapse_66 (by decide) ?_
        have hl2 : lpP k b (psh k d (b + 1)) (mz - 1) (iz + 2) (psh k d (b + 1) (Sz.1 (b * k + iz)) Sz) = (colP k b (psh k d (b + 1)) (f, ln, tr, er)) := by
          rw [← hlp]
          obtain ⟨m1, rfl⟩ : ∃ m1, mz = m1 + 1 := ⟨mz - 1, by omega⟩
          exact (if_pos c_47).symm
        refine mg_sub (lv' := [(0, .ref h0), (1, .int (nI b)), (2, .int (nI (tr b))), (3, .int (nI (iz + 2)))]) [1, 2, 3, 0] rfl ?_
        exact ih42 ((mz - 1)) ((iz + 2)) ((psh k d (b + 1) (Sz.1 (b * k + iz)) Sz)) (by omega) hl2 (by omega) (psh_ok k d (b + 1) _ Sz hoz) (by omega) w8 xh8 xk8 xl8 xw8 (fun zz g0 g1 g2 g3 => fr_w8 zz g0 g1 g2 g3)
  refine mg_sub (lv' := [(0, .ref h0), (1, .int (nI b)), (2, .int (nI (tr b))), (3, .int (nI (tr b)))]) [2, 3, 1, 0] rfl ?_
  exact L42 (_ + 1) k (tr b) ((srtO f (b * k) (k - 1), updN ln b 0, updN tr b (1 - tr b), er + sh1 b)) (Nat.lt_succ_self _) rfl (by omega) hoe (by omega) w4 h_w4_h0 h_w4_ak h_w4_al h_w4_aw (fun zz g0 g1 g2 g3 => fr_w4 zz g0 g1 g2 g3)

theorem c_X3_push_all : ∀ d, P_push d
  | 0 => c_X3_push_0
  | d + 1 => c_X3_push_s d (c_X3_col_raw d (c_X3_push_all d))
end
