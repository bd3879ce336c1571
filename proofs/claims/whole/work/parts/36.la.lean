/-! ===== the law's own walk ===== -/
def mwScr : mwX → Nat → Nat → (Nat → Int32) → Prop
  | (_, _, _, _, s, _, _, _, _, _, _, A, _, _), b, L, xs => va_X b L xs s s.heap ∧ b < s.heap.size ∧ ¬ A b
def mwEnd (X : mwX) : Prop := ∀ (w : mwT) (lv : List (Nat × Value)) (pc : Nat), decode code pc = .ok (.ireturn, 1) → mwG X 600000 7302250 w lv [.int 1] pc
section MWL
variable {X : mwX} {cc : ByteArray} {nL : Nat} {own : String} {D : va_G} {cI cS : ClassId} {rm : Room} {cells slots : Nat} {w : mwT} {lv : List (Nat × Value)} {st : List Value} {pc : Nat}
theorem mg_scl (C : mwC X cc nL own D cI cS rm) {b L : Nat} {xs : Nat → Int32} (hs : mwScr X b L xs) (hd : decode cc pc = .ok (.arraylength, 1)) (kk : mwG X cells slots w lv (.int (nI L) :: st) (pc + 1)) : mwG X cells slots w lv (.ref b :: st) pc := by
  obtain ⟨p, l, e, R, s, m, args, below, meth, c, D', A, Q, n⟩ := X
  obtain ⟨⟨hx, hb, hml, hown, hts⟩, hK, hA, rfl, rfl, rfl⟩ := C
  intro H locs ls hP hI hS hl
  exact va_slen hx hb hs.1 hs.2.1 hs.2.2 hS hd (kk H locs ls hP hI hS hl)
theorem mg_scd (C : mwC X cc nL own D cI cS rm) {b L : Nat} {xs : Nat → Int32} (hs : mwScr X b L xs) (hL : L ≤ 2048) {i : Nat} (hi : i < L) (hd : decode cc pc = .ok (.iaload, 1)) (kk : mwG X cells slots w lv (.int (xs i) :: st) (pc + 1)) : mwG X cells slots w lv (.int (nI i) :: .ref b :: st) pc := by
  obtain ⟨p, l, e, R, s, m, args, below, meth, c, D', A, Q, n⟩ := X
  obtain ⟨⟨hx, hb, hml, hown, hts⟩, hK, hA, rfl, rfl, rfl⟩ := C
  intro H locs ls hP hI hS hl
  refine va_sld hx hb hs.1 hs.2.1 hs.2.2 hS (vp_in_nI hi (by omega)) hd ?_
  rw [nI_clamp (by omega)]
  exact kk H locs ls hP hI hS hl
end MWL
theorem lw_hcs {cells slots c sl : Nat} (h1 : cells + c ≤ 600000) (h2 : slots + sl ≤ 7302250) : cells + c ≤ room_1.cells ∧ slots + sl ≤ room_1.slots := ⟨h1, h2⟩
theorem and15 (x : Int32) : ∃ k : Nat, k < 16 ∧ x &&& 15 = nI k := by
  refine ⟨x.toBitVec.toNat % 16, Nat.mod_lt _ (by decide), ?_⟩
  apply Int32.toBitVec_inj.mp
  apply BitVec.eq_of_toNat_eq
  show (x.toBitVec &&& 15#32).toNat = (BitVec.ofNat 32 (x.toBitVec.toNat % 16)).toNat
  rw [BitVec.toNat_and, BitVec.toNat_ofNat, BitVec.toNat_ofNat]
  have e : 15 % 2 ^ 32 = 2 ^ 4 - 1 := rfl
  rw [e, Nat.and_two_pow_sub_one_eq_mod]
  omega
theorem lw_more {L i : Nat} (hL : L ≤ 2048) (hi : i ≤ L) (h : ¬ nI L - 4 < nI i) : i + 4 ≤ L := by
  rcases Nat.lt_or_ge L 4 with q | q
  · refine absurd ?_ h
    have e : nI L - 4 < nI 0 := by
      rcases (show L = 0 ∨ L = 1 ∨ L = 2 ∨ L = 3 by omega) with rfl | rfl | rfl | rfl <;> decide
    exact Int32.lt_of_lt_of_le e (nI_le (Nat.zero_le i) (by omega))
  · have e : nI L - 4 = nI (L - 4) := by
      have e1 : nI L = nI (L - 4) + nI 4 := by rw [nI_add, Nat.sub_add_cancel q]
      rw [e1]
      exact Int32.add_sub_cancel _ _
    rw [e] at h
    rcases Nat.lt_or_ge (L - 4) i with q2 | q2
    · exact absurd (nI_lt q2 (by omega)) h
    · omega
theorem INV.ox {cI cS : ClassId} {ox om : Nat} {w : mwT} (h : INV cI cS ox om w) : ∃ vs : List Value, w ox = some (.inr (5, vs)) := by
  obtain ⟨as, md, aso, asi, ase, ato, amo, alo, aro, asr, th, g0, so, si, se, mo, to, lo, ro, sr, tg, hIN⟩ := h
  obtain ⟨hmd, hox, has, hom, h_aso, h_asi, h_ase, h_ato, h_amo, h_alo, h_aro, h_asr, t_ox, t_as, t_om, t_aso, t_asi, t_ase, t_ato, t_amo, t_alo, t_aro, t_asr, hS⟩ := hIN
  exact ⟨_, hox⟩

set_option maxHeartbeats 4000000 in
theorem lw_sketch {X : mwX} {D : va_G} {cI cS : ClassId} {b L ox om : Nat} {xs : Nat → Int32} (hL : L ≤ 2048) (C : mwC X code 4 RL D cI cS room_1) (hZ : mwCZ X) (hs : mwScr X b L xs) {i cells slots : Nat} {w : mwT} (hi : i + 4 ≤ L) (hc : cells + 4 ≤ 600000) (hsl : slots + 1063 ≤ 7302250) (hI : INV cI cS ox om w) (kk : ∀ (w1 : mwT) (cells1 slots1 : Nat), INV cI cS ox om w1 → cells1 ≤ cells + 4 → slots1 ≤ slots + 1063 → mwG X cells1 slots1 w1 [(0, .ref b), (1, .ref ox), (2, .ref om), (3, .int (nI i))] [] 556) : mwG X cells slots w [(0, .ref b), (1, .ref ox), (2, .ref om), (3, .int (nI i))] [] 104 := by
  obtain ⟨vo, ho⟩ := hI.ox
  refine mg_aload_n C dL_law_104 rfl ?_
  refine mg_aload_n C dL_law_105 rfl ?_
  refine mg_iload_n C dL_law_106 rfl ?_
  refine mg_iconst C (v := nI 1) dL_law_107 (by decide) ?_
  refine mg_iadd C (z := nI (i + 1)) dL_law_108 (nI_add _ _) ?_
  refine mg_scd C hs hL (by omega) dL_law_109 ?_
  refine mg_aload_n C dL_law_110 rfl ?_
  refine mg_iload_n C dL_law_111 rfl ?_
  refine mg_iconst C (v := nI 2) dL_law_112 (by decide) ?_
  refine mg_iadd C (z := nI (i + 2)) dL_law_113 (nI_add _ _) ?_
  refine mg_scd C hs hL (by omega) dL_law_114 ?_
  refine mg_aload_n C dL_law_115 rfl ?_
  refine mg_iload_n C dL_law_116 rfl ?_
  refine mg_iconst C (v := nI 3) dL_law_117 (by decide) ?_
  refine mg_iadd C (z := nI (i + 3)) dL_law_118 (nI_add _ _) ?_
  refine mg_scd C hs hL (by omega) dL_law_119 ?_
  refine mg_callV_iZ C hZ ho rfl (rest := []) (O_sketch D cI cS w ox om (xs (i + 1)) (xs (i + 2)) (xs (i + 3)) hI) yq_X6_sketch kw_29 kw_30 kw_31 ⟨Nat.le_of_ble_eq_true rfl, Nat.le_of_ble_eq_true rfl⟩ (lw_hcs (by show cells + 4 ≤ 600000; omega) (by show slots + 1063 ≤ 7302250; omega)) (Nat.le_of_ble_eq_true rfl) rfl rfl dL_law_120 (fun r w1 ⟨⟨vs, hv⟩, M⟩ => ?_)
  refine mg_aload_n C dL_law_123 rfl ?_
  refine mg_aload_n C dL_law_124 rfl ?_
  refine mg_iload_n C dL_law_125 rfl ?_
  refine mg_iconst C (v := nI 1) dL_law_126 (by decide) ?_
  refine mg_iadd C (z := nI (i + 1)) dL_law_127 (nI_add _ _) ?_
  refine mg_scd C hs hL (by omega) dL_law_128 ?_
  refine mg_aload_n C dL_law_129 rfl ?_
  refine mg_iload_n C dL_law_130 rfl ?_
  refine mg_iconst C (v := nI 2) dL_law_131 (by decide) ?_
  refine mg_iadd C (z := nI (i + 2)) dL_law_132 (nI_add _ _) ?_
  refine mg_scd C hs hL (by omega) dL_law_133 ?_
  refine mg_aload_n C dL_law_134 rfl ?_
  refine mg_iload_n C dL_law_135 rfl ?_
  refine mg_iconst C (v := nI 3) dL_law_136 (by decide) ?_
  refine mg_iadd C (z := nI (i + 3)) dL_law_137 (nI_add _ _) ?_
  refine mg_scd C hs hL (by omega) dL_law_138 ?_
  refine mg_callV_i C hv rfl (rest := [.int r]) M yq_X7_sketch kw_107 kw_108 kw_109 ⟨Nat.le_of_ble_eq_true rfl, Nat.le_of_ble_eq_true rfl⟩ (lw_hcs (by show cells + 4 + 0 ≤ 600000; omega) (by show slots + 1063 + 0 ≤ 7302250; omega)) (Nat.le_of_ble_eq_true rfl) rfl rfl dL_law_139 (fun r2 w2 ⟨hr, hI2⟩ => ?_)
  exact mg_icmp_eq C (tgt := 556) dL_law_142 (by decide) (fun _ => kk w2 _ _ hI2 (show cells + 4 + 0 ≤ cells + 4 by omega) (show slots + 1063 + 0 ≤ slots + 1063 by omega)) (fun h => absurd hr.symm h)

set_option maxHeartbeats 4000000 in
theorem lw_copy {X : mwX} {D : va_G} {cI cS : ClassId} {b L ox om : Nat} {xs : Nat → Int32} (hL : L ≤ 2048) (C : mwC X code 4 RL D cI cS room_1) (hZ : mwCZ X) (hs : mwScr X b L xs) {i cells slots : Nat} {w : mwT} (hi : i + 4 ≤ L) (hc : cells + 4 ≤ 600000) (hsl : slots + 1063 ≤ 7302250) (hI : INV cI cS ox om w) (kk : ∀ (w1 : mwT) (cells1 slots1 : Nat), INV cI cS ox om w1 → cells1 ≤ cells + 4 → slots1 ≤ slots + 1063 → mwG X cells1 slots1 w1 [(0, .ref b), (1, .ref ox), (2, .ref om), (3, .int (nI i))] [] 556) : mwG X cells slots w [(0, .ref b), (1, .ref ox), (2, .ref om), (3, .int (nI i))] [] 147 := by
  obtain ⟨vo, ho⟩ := hI.ox
  obtain ⟨c, sl, hc4, hs1063, hM⟩ := O_copy D cI cS w ox om (xs (i + 1)) hI
  refine mg_aload_n C dL_law_147 rfl ?_
  refine mg_aload_n C dL_law_148 rfl ?_
  refine mg_iload_n C dL_law_149 rfl ?_
  refine mg_iconst C (v := nI 1) dL_law_150 (by decide) ?_
  refine mg_iadd C (z := nI (i + 1)) dL_law_151 (nI_add _ _) ?_
  refine mg_scd C hs hL (by omega) dL_law_152 ?_
  refine mg_callV_i C ho rfl (rest := []) hM yq_X6_copy kw_119 kw_120 kw_121 ⟨Nat.le_of_ble_eq_true rfl, Nat.le_of_ble_eq_true rfl⟩ (lw_hcs (by show cells + c ≤ 600000; omega) (by show slots + sl ≤ 7302250; omega)) (Nat.le_of_ble_eq_true rfl) rfl rfl dL_law_153 (fun r w1 ⟨⟨vs, hv⟩, M⟩ => ?_)
  refine mg_aload_n C dL_law_156 rfl ?_
  refine mg_aload_n C dL_law_157 rfl ?_
  refine mg_iload_n C dL_law_158 rfl ?_
  refine mg_iconst C (v := nI 1) dL_law_159 (by decide) ?_
  refine mg_iadd C (z := nI (i + 1)) dL_law_160 (nI_add _ _) ?_
  refine mg_scd C hs hL (by omega) dL_law_161 ?_
  refine mg_callV_i C hv rfl (rest := [.int r]) M yq_X7_copy kw_193 kw_194 kw_195 ⟨Nat.le_of_ble_eq_true rfl, Nat.le_of_ble_eq_true rfl⟩ (lw_hcs (by show cells + c + 0 ≤ 600000; omega) (by show slots + sl + 0 ≤ 7302250; omega)) (Nat.le_of_ble_eq_true rfl) rfl rfl dL_law_162 (fun r2 w2 ⟨hr, hI2⟩ => ?_)
  exact mg_icmp_eq C (tgt := 556) dL_law_165 (by decide) (fun _ => kk w2 _ _ hI2 (show cells + c + 0 ≤ cells + 4 by omega) (show slots + sl + 0 ≤ slots + 1063 by omega)) (fun h => absurd hr.symm h)

set_option maxHeartbeats 4000000 in
theorem lw_clear {X : mwX} {D : va_G} {cI cS : ClassId} {b L ox om : Nat} {xs : Nat → Int32} (hL : L ≤ 2048) (C : mwC X code 4 RL D cI cS room_1) (hZ : mwCZ X) (hs : mwScr X b L xs) {i cells slots : Nat} {w : mwT} (hi : i + 4 ≤ L) (hc : cells + 4 ≤ 600000) (hsl : slots + 1063 ≤ 7302250) (hI : INV cI cS ox om w) (kk : ∀ (w1 : mwT) (cells1 slots1 : Nat), INV cI cS ox om w1 → cells1 ≤ cells + 4 → slots1 ≤ slots + 1063 → mwG X cells1 slots1 w1 [(0, .ref b), (1, .ref ox), (2, .ref om), (3, .int (nI i))] [] 556) : mwG X cells slots w [(0, .ref b), (1, .ref ox), (2, .ref om), (3, .int (nI i))] [] 170 := by
  obtain ⟨vo, ho⟩ := hI.ox
  refine mg_aload_n C dL_law_170 rfl ?_
  refine mg_aload_n C dL_law_171 rfl ?_
  refine mg_iload_n C dL_law_172 rfl ?_
  refine mg_iconst C (v := nI 1) dL_law_173 (by decide) ?_
  refine mg_iadd C (z := nI (i + 1)) dL_law_174 (nI_add _ _) ?_
  refine mg_scd C hs hL (by omega) dL_law_175 ?_
  refine mg_callV_i C ho rfl (rest := []) (O_clear D cI cS w ox om (xs (i + 1)) hI) yq_X6_clear kw_201 kw_202 kw_203 ⟨Nat.le_of_ble_eq_true rfl, Nat.le_of_ble_eq_true rfl⟩ (lw_hcs (by show cells + 0 ≤ 600000; omega) (by show slots + 0 ≤ 7302250; omega)) (Nat.le_of_ble_eq_true rfl) rfl rfl dL_law_176 (fun r w1 ⟨⟨vs, hv⟩, M⟩ => ?_)
  refine mg_aload_n C dL_law_179 rfl ?_
  refine mg_aload_n C dL_law_180 rfl ?_
  refine mg_iload_n C dL_law_181 rfl ?_
  refine mg_iconst C (v := nI 1) dL_law_182 (by decide) ?_
  refine mg_iadd C (z := nI (i + 1)) dL_law_183 (nI_add _ _) ?_
  refine mg_scd C hs hL (by omega) dL_law_184 ?_
  refine mg_callV_i C hv rfl (rest := [.int r]) M yq_X7_clear kw_227 kw_228 kw_229 ⟨Nat.le_of_ble_eq_true rfl, Nat.le_of_ble_eq_true rfl⟩ (lw_hcs (by show cells + 0 + 0 ≤ 600000; omega) (by show slots + 0 + 0 ≤ 7302250; omega)) (Nat.le_of_ble_eq_true rfl) rfl rfl dL_law_185 (fun r2 w2 ⟨hr, hI2⟩ => ?_)
  exact mg_icmp_eq C (tgt := 556) dL_law_188 (by decide) (fun _ => kk w2 _ _ hI2 (show cells + 0 + 0 ≤ cells + 4 by omega) (show slots + 0 + 0 ≤ slots + 1063 by omega)) (fun h => absurd hr.symm h)

set_option maxHeartbeats 4000000 in
theorem lw_come {X : mwX} {D : va_G} {cI cS : ClassId} {b L ox om : Nat} {xs : Nat → Int32} (hL : L ≤ 2048) (C : mwC X code 4 RL D cI cS room_1) (hZ : mwCZ X) (hs : mwScr X b L xs) {i cells slots : Nat} {w : mwT} (hi : i + 4 ≤ L) (hc : cells + 4 ≤ 600000) (hsl : slots + 1063 ≤ 7302250) (hI : INV cI cS ox om w) (kk : ∀ (w1 : mwT) (cells1 slots1 : Nat), INV cI cS ox om w1 → cells1 ≤ cells + 4 → slots1 ≤ slots + 1063 → mwG X cells1 slots1 w1 [(0, .ref b), (1, .ref ox), (2, .ref om), (3, .int (nI i))] [] 556) : mwG X cells slots w [(0, .ref b), (1, .ref ox), (2, .ref om), (3, .int (nI i))] [] 193 := by
  obtain ⟨vo, ho⟩ := hI.ox
  refine mg_aload_n C dL_law_193 rfl ?_
  refine mg_aload_n C dL_law_194 rfl ?_
  refine mg_iload_n C dL_law_195 rfl ?_
  refine mg_iconst C (v := nI 1) dL_law_196 (by decide) ?_
  refine mg_iadd C (z := nI (i + 1)) dL_law_197 (nI_add _ _) ?_
  refine mg_scd C hs hL (by omega) dL_law_198 ?_
  refine mg_aload_n C dL_law_199 rfl ?_
  refine mg_iload_n C dL_law_200 rfl ?_
  refine mg_iconst C (v := nI 2) dL_law_201 (by decide) ?_
  refine mg_iadd C (z := nI (i + 2)) dL_law_202 (nI_add _ _) ?_
  refine mg_scd C hs hL (by omega) dL_law_203 ?_
  refine mg_aload_n C dL_law_204 rfl ?_
  refine mg_iload_n C dL_law_205 rfl ?_
  refine mg_iconst C (v := nI 3) dL_law_206 (by decide) ?_
  refine mg_iadd C (z := nI (i + 3)) dL_law_207 (nI_add _ _) ?_
  refine mg_scd C hs hL (by omega) dL_law_208 ?_
  refine mg_callV_i C ho rfl (rest := []) (O_come D cI cS w ox om (xs (i + 1)) (xs (i + 2)) (xs (i + 3)) hI) yq_X6_come kw_232 kw_233 kw_234 ⟨Nat.le_of_ble_eq_true rfl, Nat.le_of_ble_eq_true rfl⟩ (lw_hcs (by show cells + 0 ≤ 600000; omega) (by show slots + 0 ≤ 7302250; omega)) (Nat.le_of_ble_eq_true rfl) rfl rfl dL_law_209 (fun r w1 ⟨⟨vs, hv⟩, M⟩ => ?_)
  refine mg_aload_n C dL_law_212 rfl ?_
  refine mg_aload_n C dL_law_213 rfl ?_
  refine mg_iload_n C dL_law_214 rfl ?_
  refine mg_iconst C (v := nI 1) dL_law_215 (by decide) ?_
  refine mg_iadd C (z := nI (i + 1)) dL_law_216 (nI_add _ _) ?_
  refine mg_scd C hs hL (by omega) dL_law_217 ?_
  refine mg_aload_n C dL_law_218 rfl ?_
  refine mg_iload_n C dL_law_219 rfl ?_
  refine mg_iconst C (v := nI 2) dL_law_220 (by decide) ?_
  refine mg_iadd C (z := nI (i + 2)) dL_law_221 (nI_add _ _) ?_
  refine mg_scd C hs hL (by omega) dL_law_222 ?_
  refine mg_aload_n C dL_law_223 rfl ?_
  refine mg_iload_n C dL_law_224 rfl ?_
  refine mg_iconst C (v := nI 3) dL_law_225 (by decide) ?_
  refine mg_iadd C (z := nI (i + 3)) dL_law_226 (nI_add _ _) ?_
  refine mg_scd C hs hL (by omega) dL_law_227 ?_
  refine mg_callV_i C hv rfl (rest := [.int r]) M yq_X7_come kw_324 kw_325 kw_326 ⟨Nat.le_of_ble_eq_true rfl, Nat.le_of_ble_eq_true rfl⟩ (lw_hcs (by show cells + 0 + 0 ≤ 600000; omega) (by show slots + 0 + 0 ≤ 7302250; omega)) (Nat.le_of_ble_eq_true rfl) rfl rfl dL_law_228 (fun r2 w2 ⟨hr, hI2⟩ => ?_)
  exact mg_icmp_eq C (tgt := 556) dL_law_231 (by decide) (fun _ => kk w2 _ _ hI2 (show cells + 0 + 0 ≤ cells + 4 by omega) (show slots + 0 + 0 ≤ slots + 1063 by omega)) (fun h => absurd hr.symm h)

set_option maxHeartbeats 4000000 in
theorem lw_merge {X : mwX} {D : va_G} {cI cS : ClassId} {b L ox om : Nat} {xs : Nat → Int32} (hL : L ≤ 2048) (C : mwC X code 4 RL D cI cS room_1) (hZ : mwCZ X) (hs : mwScr X b L xs) {i cells slots : Nat} {w : mwT} (hi : i + 4 ≤ L) (hc : cells + 4 ≤ 600000) (hsl : slots + 1063 ≤ 7302250) (hI : INV cI cS ox om w) (kk : ∀ (w1 : mwT) (cells1 slots1 : Nat), INV cI cS ox om w1 → cells1 ≤ cells + 4 → slots1 ≤ slots + 1063 → mwG X cells1 slots1 w1 [(0, .ref b), (1, .ref ox), (2, .ref om), (3, .int (nI i))] [] 556) : mwG X cells slots w [(0, .ref b), (1, .ref ox), (2, .ref om), (3, .int (nI i))] [] 236 := by
  obtain ⟨vo, ho⟩ := hI.ox
  refine mg_aload_n C dL_law_236 rfl ?_
  refine mg_aload_n C dL_law_237 rfl ?_
  refine mg_iload_n C dL_law_238 rfl ?_
  refine mg_iconst C (v := nI 1) dL_law_239 (by decide) ?_
  refine mg_iadd C (z := nI (i + 1)) dL_law_240 (nI_add _ _) ?_
  refine mg_scd C hs hL (by omega) dL_law_241 ?_
  refine mg_aload_n C dL_law_242 rfl ?_
  refine mg_iload_n C dL_law_243 rfl ?_
  refine mg_iconst C (v := nI 2) dL_law_244 (by decide) ?_
  refine mg_iadd C (z := nI (i + 2)) dL_law_245 (nI_add _ _) ?_
  refine mg_scd C hs hL (by omega) dL_law_246 ?_
  refine mg_callV_i C ho rfl (rest := []) (O_merge D cI cS w ox om (xs (i + 1)) (xs (i + 2)) hI) yq_X6_merge kw_375 kw_376 kw_377 ⟨Nat.le_of_ble_eq_true rfl, Nat.le_of_ble_eq_true rfl⟩ (lw_hcs (by show cells + 0 ≤ 600000; omega) (by show slots + 0 ≤ 7302250; omega)) (Nat.le_of_ble_eq_true rfl) rfl rfl dL_law_247 (fun r w1 ⟨⟨vs, hv⟩, M⟩ => ?_)
  refine mg_aload_n C dL_law_250 rfl ?_
  refine mg_aload_n C dL_law_251 rfl ?_
  refine mg_iload_n C dL_law_252 rfl ?_
  refine mg_iconst C (v := nI 1) dL_law_253 (by decide) ?_
  refine mg_iadd C (z := nI (i + 1)) dL_law_254 (nI_add _ _) ?_
  refine mg_scd C hs hL (by omega) dL_law_255 ?_
  refine mg_aload_n C dL_law_256 rfl ?_
  refine mg_iload_n C dL_law_257 rfl ?_
  refine mg_iconst C (v := nI 2) dL_law_258 (by decide) ?_
  refine mg_iadd C (z := nI (i + 2)) dL_law_259 (nI_add _ _) ?_
  refine mg_scd C hs hL (by omega) dL_law_260 ?_
  refine mg_callV_i C hv rfl (rest := [.int r]) M yq_X7_merge kw_418 kw_419 kw_420 ⟨Nat.le_of_ble_eq_true rfl, Nat.le_of_ble_eq_true rfl⟩ (lw_hcs (by show cells + 0 + 0 ≤ 600000; omega) (by show slots + 0 + 0 ≤ 7302250; omega)) (Nat.le_of_ble_eq_true rfl) rfl rfl dL_law_261 (fun r2 w2 ⟨hr, hI2⟩ => ?_)
  exact mg_icmp_eq C (tgt := 556) dL_law_264 (by decide) (fun _ => kk w2 _ _ hI2 (show cells + 0 + 0 ≤ cells + 4 by omega) (show slots + 0 + 0 ≤ slots + 1063 by omega)) (fun h => absurd hr.symm h)

set_option maxHeartbeats 4000000 in
theorem lw_hash {X : mwX} {D : va_G} {cI cS : ClassId} {b L ox om : Nat} {xs : Nat → Int32} (hL : L ≤ 2048) (C : mwC X code 4 RL D cI cS room_1) (hZ : mwCZ X) (hs : mwScr X b L xs) {i cells slots : Nat} {w : mwT} (hi : i + 4 ≤ L) (hc : cells + 4 ≤ 600000) (hsl : slots + 1063 ≤ 7302250) (hI : INV cI cS ox om w) (kk : ∀ (w1 : mwT) (cells1 slots1 : Nat), INV cI cS ox om w1 → cells1 ≤ cells + 4 → slots1 ≤ slots + 1063 → mwG X cells1 slots1 w1 [(0, .ref b), (1, .ref ox), (2, .ref om), (3, .int (nI i))] [] 556) : mwG X cells slots w [(0, .ref b), (1, .ref ox), (2, .ref om), (3, .int (nI i))] [] 269 := by
  obtain ⟨vo, ho⟩ := hI.ox
  refine mg_aload_n C dL_law_269 rfl ?_
  refine mg_aload_n C dL_law_270 rfl ?_
  refine mg_iload_n C dL_law_271 rfl ?_
  refine mg_iconst C (v := nI 1) dL_law_272 (by decide) ?_
  refine mg_iadd C (z := nI (i + 1)) dL_law_273 (nI_add _ _) ?_
  refine mg_scd C hs hL (by omega) dL_law_274 ?_
  refine mg_aload_n C dL_law_275 rfl ?_
  refine mg_iload_n C dL_law_276 rfl ?_
  refine mg_iconst C (v := nI 2) dL_law_277 (by decide) ?_
  refine mg_iadd C (z := nI (i + 2)) dL_law_278 (nI_add _ _) ?_
  refine mg_scd C hs hL (by omega) dL_law_279 ?_
  refine mg_aload_n C dL_law_280 rfl ?_
  refine mg_iload_n C dL_law_281 rfl ?_
  refine mg_iconst C (v := nI 3) dL_law_282 (by decide) ?_
  refine mg_iadd C (z := nI (i + 3)) dL_law_283 (nI_add _ _) ?_
  refine mg_scd C hs hL (by omega) dL_law_284 ?_
  refine mg_callV_i C ho rfl (rest := []) (O_hash D cI cS w ox om (xs (i + 1)) (xs (i + 2)) (xs (i + 3)) hI) yq_X6_hash kw_426 kw_427 kw_428 ⟨Nat.le_of_ble_eq_true rfl, Nat.le_of_ble_eq_true rfl⟩ (lw_hcs (by show cells + 0 ≤ 600000; omega) (by show slots + 0 ≤ 7302250; omega)) (Nat.le_of_ble_eq_true rfl) rfl rfl dL_law_285 (fun r w1 ⟨⟨vs, hv⟩, M⟩ => ?_)
  refine mg_aload_n C dL_law_288 rfl ?_
  refine mg_aload_n C dL_law_289 rfl ?_
  refine mg_iload_n C dL_law_290 rfl ?_
  refine mg_iconst C (v := nI 1) dL_law_291 (by decide) ?_
  refine mg_iadd C (z := nI (i + 1)) dL_law_292 (nI_add _ _) ?_
  refine mg_scd C hs hL (by omega) dL_law_293 ?_
  refine mg_aload_n C dL_law_294 rfl ?_
  refine mg_iload_n C dL_law_295 rfl ?_
  refine mg_iconst C (v := nI 2) dL_law_296 (by decide) ?_
  refine mg_iadd C (z := nI (i + 2)) dL_law_297 (nI_add _ _) ?_
  refine mg_scd C hs hL (by omega) dL_law_298 ?_
  refine mg_aload_n C dL_law_299 rfl ?_
  refine mg_iload_n C dL_law_300 rfl ?_
  refine mg_iconst C (v := nI 3) dL_law_301 (by decide) ?_
  refine mg_iadd C (z := nI (i + 3)) dL_law_302 (nI_add _ _) ?_
  refine mg_scd C hs hL (by omega) dL_law_303 ?_
  refine mg_callV_i C hv rfl (rest := [.int r]) M yq_X7_hash kw_430 kw_431 kw_432 ⟨Nat.le_of_ble_eq_true rfl, Nat.le_of_ble_eq_true rfl⟩ (lw_hcs (by show cells + 0 + 0 ≤ 600000; omega) (by show slots + 0 + 0 ≤ 7302250; omega)) (Nat.le_of_ble_eq_true rfl) rfl rfl dL_law_304 (fun r2 w2 ⟨hr, hI2⟩ => ?_)
  exact mg_icmp_eq C (tgt := 556) dL_law_307 (by decide) (fun _ => kk w2 _ _ hI2 (show cells + 0 + 0 ≤ cells + 4 by omega) (show slots + 0 + 0 ≤ slots + 1063 by omega)) (fun h => absurd hr.symm h)

set_option maxHeartbeats 4000000 in
theorem lw_low {X : mwX} {D : va_G} {cI cS : ClassId} {b L ox om : Nat} {xs : Nat → Int32} (hL : L ≤ 2048) (C : mwC X code 4 RL D cI cS room_1) (hZ : mwCZ X) (hs : mwScr X b L xs) {i cells slots : Nat} {w : mwT} (hi : i + 4 ≤ L) (hc : cells + 4 ≤ 600000) (hsl : slots + 1063 ≤ 7302250) (hI : INV cI cS ox om w) (kk : ∀ (w1 : mwT) (cells1 slots1 : Nat), INV cI cS ox om w1 → cells1 ≤ cells + 4 → slots1 ≤ slots + 1063 → mwG X cells1 slots1 w1 [(0, .ref b), (1, .ref ox), (2, .ref om), (3, .int (nI i))] [] 556) : mwG X cells slots w [(0, .ref b), (1, .ref ox), (2, .ref om), (3, .int (nI i))] [] 312 := by
  obtain ⟨vo, ho⟩ := hI.ox
  refine mg_aload_n C dL_law_312 rfl ?_
  refine mg_aload_n C dL_law_313 rfl ?_
  refine mg_iload_n C dL_law_314 rfl ?_
  refine mg_iconst C (v := nI 1) dL_law_315 (by decide) ?_
  refine mg_iadd C (z := nI (i + 1)) dL_law_316 (nI_add _ _) ?_
  refine mg_scd C hs hL (by omega) dL_law_317 ?_
  refine mg_aload_n C dL_law_318 rfl ?_
  refine mg_iload_n C dL_law_319 rfl ?_
  refine mg_iconst C (v := nI 2) dL_law_320 (by decide) ?_
  refine mg_iadd C (z := nI (i + 2)) dL_law_321 (nI_add _ _) ?_
  refine mg_scd C hs hL (by omega) dL_law_322 ?_
  refine mg_callV_i C ho rfl (rest := []) (O_low D cI cS w ox om (xs (i + 1)) (xs (i + 2)) hI) yq_X6_low kw_434 kw_435 kw_436 ⟨Nat.le_of_ble_eq_true rfl, Nat.le_of_ble_eq_true rfl⟩ (lw_hcs (by show cells + 0 ≤ 600000; omega) (by show slots + 0 ≤ 7302250; omega)) (Nat.le_of_ble_eq_true rfl) rfl rfl dL_law_323 (fun r w1 ⟨⟨vs, hv⟩, M⟩ => ?_)
  refine mg_aload_n C dL_law_326 rfl ?_
  refine mg_aload_n C dL_law_327 rfl ?_
  refine mg_iload_n C dL_law_328 rfl ?_
  refine mg_iconst C (v := nI 1) dL_law_329 (by decide) ?_
  refine mg_iadd C (z := nI (i + 1)) dL_law_330 (nI_add _ _) ?_
  refine mg_scd C hs hL (by omega) dL_law_331 ?_
  refine mg_aload_n C dL_law_332 rfl ?_
  refine mg_iload_n C dL_law_333 rfl ?_
  refine mg_iconst C (v := nI 2) dL_law_334 (by decide) ?_
  refine mg_iadd C (z := nI (i + 2)) dL_law_335 (nI_add _ _) ?_
  refine mg_scd C hs hL (by omega) dL_law_336 ?_
  refine mg_callV_i C hv rfl (rest := [.int r]) M yq_X7_low kw_459 kw_460 kw_461 ⟨Nat.le_of_ble_eq_true rfl, Nat.le_of_ble_eq_true rfl⟩ (lw_hcs (by show cells + 0 + 0 ≤ 600000; omega) (by show slots + 0 + 0 ≤ 7302250; omega)) (Nat.le_of_ble_eq_true rfl) rfl rfl dL_law_337 (fun r2 w2 ⟨hr, hI2⟩ => ?_)
  exact mg_icmp_eq C (tgt := 556) dL_law_340 (by decide) (fun _ => kk w2 _ _ hI2 (show cells + 0 + 0 ≤ cells + 4 by omega) (show slots + 0 + 0 ≤ slots + 1063 by omega)) (fun h => absurd hr.symm h)

set_option maxHeartbeats 4000000 in
theorem lw_high {X : mwX} {D : va_G} {cI cS : ClassId} {b L ox om : Nat} {xs : Nat → Int32} (hL : L ≤ 2048) (C : mwC X code 4 RL D cI cS room_1) (hZ : mwCZ X) (hs : mwScr X b L xs) {i cells slots : Nat} {w : mwT} (hi : i + 4 ≤ L) (hc : cells + 4 ≤ 600000) (hsl : slots + 1063 ≤ 7302250) (hI : INV cI cS ox om w) (kk : ∀ (w1 : mwT) (cells1 slots1 : Nat), INV cI cS ox om w1 → cells1 ≤ cells + 4 → slots1 ≤ slots + 1063 → mwG X cells1 slots1 w1 [(0, .ref b), (1, .ref ox), (2, .ref om), (3, .int (nI i))] [] 556) : mwG X cells slots w [(0, .ref b), (1, .ref ox), (2, .ref om), (3, .int (nI i))] [] 345 := by
  obtain ⟨vo, ho⟩ := hI.ox
  refine mg_aload_n C dL_law_345 rfl ?_
  refine mg_aload_n C dL_law_346 rfl ?_
  refine mg_iload_n C dL_law_347 rfl ?_
  refine mg_iconst C (v := nI 1) dL_law_348 (by decide) ?_
  refine mg_iadd C (z := nI (i + 1)) dL_law_349 (nI_add _ _) ?_
  refine mg_scd C hs hL (by omega) dL_law_350 ?_
  refine mg_aload_n C dL_law_351 rfl ?_
  refine mg_iload_n C dL_law_352 rfl ?_
  refine mg_iconst C (v := nI 2) dL_law_353 (by decide) ?_
  refine mg_iadd C (z := nI (i + 2)) dL_law_354 (nI_add _ _) ?_
  refine mg_scd C hs hL (by omega) dL_law_355 ?_
  refine mg_callV_i C ho rfl (rest := []) (O_high D cI cS w ox om (xs (i + 1)) (xs (i + 2)) hI) yq_X6_high kw_479 kw_480 kw_481 ⟨Nat.le_of_ble_eq_true rfl, Nat.le_of_ble_eq_true rfl⟩ (lw_hcs (by show cells + 0 ≤ 600000; omega) (by show slots + 0 ≤ 7302250; omega)) (Nat.le_of_ble_eq_true rfl) rfl rfl dL_law_356 (fun r w1 ⟨⟨vs, hv⟩, M⟩ => ?_)
  refine mg_aload_n C dL_law_359 rfl ?_
  refine mg_aload_n C dL_law_360 rfl ?_
  refine mg_iload_n C dL_law_361 rfl ?_
  refine mg_iconst C (v := nI 1) dL_law_362 (by decide) ?_
  refine mg_iadd C (z := nI (i + 1)) dL_law_363 (nI_add _ _) ?_
  refine mg_scd C hs hL (by omega) dL_law_364 ?_
  refine mg_aload_n C dL_law_365 rfl ?_
  refine mg_iload_n C dL_law_366 rfl ?_
  refine mg_iconst C (v := nI 2) dL_law_367 (by decide) ?_
  refine mg_iadd C (z := nI (i + 2)) dL_law_368 (nI_add _ _) ?_
  refine mg_scd C hs hL (by omega) dL_law_369 ?_
  refine mg_callV_i C hv rfl (rest := [.int r]) M yq_X7_high kw_506 kw_507 kw_508 ⟨Nat.le_of_ble_eq_true rfl, Nat.le_of_ble_eq_true rfl⟩ (lw_hcs (by show cells + 0 + 0 ≤ 600000; omega) (by show slots + 0 + 0 ≤ 7302250; omega)) (Nat.le_of_ble_eq_true rfl) rfl rfl dL_law_370 (fun r2 w2 ⟨hr, hI2⟩ => ?_)
  exact mg_icmp_eq C (tgt := 556) dL_law_373 (by decide) (fun _ => kk w2 _ _ hI2 (show cells + 0 + 0 ≤ cells + 4 by omega) (show slots + 0 + 0 ≤ slots + 1063 by omega)) (fun h => absurd hr.symm h)

set_option maxHeartbeats 4000000 in
theorem lw_has {X : mwX} {D : va_G} {cI cS : ClassId} {b L ox om : Nat} {xs : Nat → Int32} (hL : L ≤ 2048) (C : mwC X code 4 RL D cI cS room_1) (hZ : mwCZ X) (hs : mwScr X b L xs) {i cells slots : Nat} {w : mwT} (hi : i + 4 ≤ L) (hc : cells + 4 ≤ 600000) (hsl : slots + 1063 ≤ 7302250) (hI : INV cI cS ox om w) (kk : ∀ (w1 : mwT) (cells1 slots1 : Nat), INV cI cS ox om w1 → cells1 ≤ cells + 4 → slots1 ≤ slots + 1063 → mwG X cells1 slots1 w1 [(0, .ref b), (1, .ref ox), (2, .ref om), (3, .int (nI i))] [] 556) : mwG X cells slots w [(0, .ref b), (1, .ref ox), (2, .ref om), (3, .int (nI i))] [] 378 := by
  obtain ⟨vo, ho⟩ := hI.ox
  refine mg_aload_n C dL_law_378 rfl ?_
  refine mg_aload_n C dL_law_379 rfl ?_
  refine mg_iload_n C dL_law_380 rfl ?_
  refine mg_iconst C (v := nI 1) dL_law_381 (by decide) ?_
  refine mg_iadd C (z := nI (i + 1)) dL_law_382 (nI_add _ _) ?_
  refine mg_scd C hs hL (by omega) dL_law_383 ?_
  refine mg_aload_n C dL_law_384 rfl ?_
  refine mg_iload_n C dL_law_385 rfl ?_
  refine mg_iconst C (v := nI 2) dL_law_386 (by decide) ?_
  refine mg_iadd C (z := nI (i + 2)) dL_law_387 (nI_add _ _) ?_
  refine mg_scd C hs hL (by omega) dL_law_388 ?_
  refine mg_callV_i C ho rfl (rest := []) (O_has D cI cS w ox om (xs (i + 1)) (xs (i + 2)) hI) yq_X6_has kw_510 kw_511 kw_512 ⟨Nat.le_of_ble_eq_true rfl, Nat.le_of_ble_eq_true rfl⟩ (lw_hcs (by show cells + 0 ≤ 600000; omega) (by show slots + 0 ≤ 7302250; omega)) (Nat.le_of_ble_eq_true rfl) rfl rfl dL_law_389 (fun r w1 ⟨⟨vs, hv⟩, M⟩ => ?_)
  refine mg_aload_n C dL_law_392 rfl ?_
  refine mg_aload_n C dL_law_393 rfl ?_
  refine mg_iload_n C dL_law_394 rfl ?_
  refine mg_iconst C (v := nI 1) dL_law_395 (by decide) ?_
  refine mg_iadd C (z := nI (i + 1)) dL_law_396 (nI_add _ _) ?_
  refine mg_scd C hs hL (by omega) dL_law_397 ?_
  refine mg_aload_n C dL_law_398 rfl ?_
  refine mg_iload_n C dL_law_399 rfl ?_
  refine mg_iconst C (v := nI 2) dL_law_400 (by decide) ?_
  refine mg_iadd C (z := nI (i + 2)) dL_law_401 (nI_add _ _) ?_
  refine mg_scd C hs hL (by omega) dL_law_402 ?_
  refine mg_callV_i C hv rfl (rest := [.int r]) M yq_X7_has kw_528 kw_529 kw_530 ⟨Nat.le_of_ble_eq_true rfl, Nat.le_of_ble_eq_true rfl⟩ (lw_hcs (by show cells + 0 + 0 ≤ 600000; omega) (by show slots + 0 + 0 ≤ 7302250; omega)) (Nat.le_of_ble_eq_true rfl) rfl rfl dL_law_403 (fun r2 w2 ⟨hr, hI2⟩ => ?_)
  exact mg_icmp_eq C (tgt := 556) dL_law_406 (by decide) (fun _ => kk w2 _ _ hI2 (show cells + 0 + 0 ≤ cells + 4 by omega) (show slots + 0 + 0 ≤ slots + 1063 by omega)) (fun h => absurd hr.symm h)

set_option maxHeartbeats 4000000 in
theorem lw_distinct {X : mwX} {D : va_G} {cI cS : ClassId} {b L ox om : Nat} {xs : Nat → Int32} (hL : L ≤ 2048) (C : mwC X code 4 RL D cI cS room_1) (hZ : mwCZ X) (hs : mwScr X b L xs) {i cells slots : Nat} {w : mwT} (hi : i + 4 ≤ L) (hc : cells + 4 ≤ 600000) (hsl : slots + 1063 ≤ 7302250) (hI : INV cI cS ox om w) (kk : ∀ (w1 : mwT) (cells1 slots1 : Nat), INV cI cS ox om w1 → cells1 ≤ cells + 4 → slots1 ≤ slots + 1063 → mwG X cells1 slots1 w1 [(0, .ref b), (1, .ref ox), (2, .ref om), (3, .int (nI i))] [] 556) : mwG X cells slots w [(0, .ref b), (1, .ref ox), (2, .ref om), (3, .int (nI i))] [] 411 := by
  obtain ⟨vo, ho⟩ := hI.ox
  refine mg_aload_n C dL_law_411 rfl ?_
  refine mg_aload_n C dL_law_412 rfl ?_
  refine mg_iload_n C dL_law_413 rfl ?_
  refine mg_iconst C (v := nI 1) dL_law_414 (by decide) ?_
  refine mg_iadd C (z := nI (i + 1)) dL_law_415 (nI_add _ _) ?_
  refine mg_scd C hs hL (by omega) dL_law_416 ?_
  refine mg_callV_i C ho rfl (rest := []) (O_distinct D cI cS w ox om (xs (i + 1)) hI) yq_X6_distinct kw_532 kw_533 kw_534 ⟨Nat.le_of_ble_eq_true rfl, Nat.le_of_ble_eq_true rfl⟩ (lw_hcs (by show cells + 0 ≤ 600000; omega) (by show slots + 0 ≤ 7302250; omega)) (Nat.le_of_ble_eq_true rfl) rfl rfl dL_law_417 (fun r w1 ⟨⟨vs, hv⟩, M⟩ => ?_)
  refine mg_aload_n C dL_law_420 rfl ?_
  refine mg_aload_n C dL_law_421 rfl ?_
  refine mg_iload_n C dL_law_422 rfl ?_
  refine mg_iconst C (v := nI 1) dL_law_423 (by decide) ?_
  refine mg_iadd C (z := nI (i + 1)) dL_law_424 (nI_add _ _) ?_
  refine mg_scd C hs hL (by omega) dL_law_425 ?_
  refine mg_callV_i C hv rfl (rest := [.int r]) M yq_X7_distinct kw_549 kw_550 kw_551 ⟨Nat.le_of_ble_eq_true rfl, Nat.le_of_ble_eq_true rfl⟩ (lw_hcs (by show cells + 0 + 0 ≤ 600000; omega) (by show slots + 0 + 0 ≤ 7302250; omega)) (Nat.le_of_ble_eq_true rfl) rfl rfl dL_law_426 (fun r2 w2 ⟨hr, hI2⟩ => ?_)
  exact mg_icmp_eq C (tgt := 556) dL_law_429 (by decide) (fun _ => kk w2 _ _ hI2 (show cells + 0 + 0 ≤ cells + 4 by omega) (show slots + 0 + 0 ≤ slots + 1063 by omega)) (fun h => absurd hr.symm h)

set_option maxHeartbeats 4000000 in
theorem lw_quantile {X : mwX} {D : va_G} {cI cS : ClassId} {b L ox om : Nat} {xs : Nat → Int32} (hL : L ≤ 2048) (C : mwC X code 4 RL D cI cS room_1) (hZ : mwCZ X) (hs : mwScr X b L xs) {i cells slots : Nat} {w : mwT} (hi : i + 4 ≤ L) (hc : cells + 4 ≤ 600000) (hsl : slots + 1063 ≤ 7302250) (hI : INV cI cS ox om w) (kk : ∀ (w1 : mwT) (cells1 slots1 : Nat), INV cI cS ox om w1 → cells1 ≤ cells + 4 → slots1 ≤ slots + 1063 → mwG X cells1 slots1 w1 [(0, .ref b), (1, .ref ox), (2, .ref om), (3, .int (nI i))] [] 556) : mwG X cells slots w [(0, .ref b), (1, .ref ox), (2, .ref om), (3, .int (nI i))] [] 434 := by
  obtain ⟨vo, ho⟩ := hI.ox
  refine mg_aload_n C dL_law_434 rfl ?_
  refine mg_aload_n C dL_law_435 rfl ?_
  refine mg_iload_n C dL_law_436 rfl ?_
  refine mg_iconst C (v := nI 1) dL_law_437 (by decide) ?_
  refine mg_iadd C (z := nI (i + 1)) dL_law_438 (nI_add _ _) ?_
  refine mg_scd C hs hL (by omega) dL_law_439 ?_
  refine mg_aload_n C dL_law_440 rfl ?_
  refine mg_iload_n C dL_law_441 rfl ?_
  refine mg_iconst C (v := nI 2) dL_law_442 (by decide) ?_
  refine mg_iadd C (z := nI (i + 2)) dL_law_443 (nI_add _ _) ?_
  refine mg_scd C hs hL (by omega) dL_law_444 ?_
  refine mg_callV_i C ho rfl (rest := []) (O_quantile D cI cS w ox om (xs (i + 1)) (xs (i + 2)) hI) yq_X6_quantile kw_553 kw_554 kw_555 ⟨Nat.le_of_ble_eq_true rfl, Nat.le_of_ble_eq_true rfl⟩ (lw_hcs (by show cells + 0 ≤ 600000; omega) (by show slots + 0 ≤ 7302250; omega)) (Nat.le_of_ble_eq_true rfl) rfl rfl dL_law_445 (fun r w1 ⟨⟨vs, hv⟩, M⟩ => ?_)
  refine mg_aload_n C dL_law_448 rfl ?_
  refine mg_aload_n C dL_law_449 rfl ?_
  refine mg_iload_n C dL_law_450 rfl ?_
  refine mg_iconst C (v := nI 1) dL_law_451 (by decide) ?_
  refine mg_iadd C (z := nI (i + 1)) dL_law_452 (nI_add _ _) ?_
  refine mg_scd C hs hL (by omega) dL_law_453 ?_
  refine mg_aload_n C dL_law_454 rfl ?_
  refine mg_iload_n C dL_law_455 rfl ?_
  refine mg_iconst C (v := nI 2) dL_law_456 (by decide) ?_
  refine mg_iadd C (z := nI (i + 2)) dL_law_457 (nI_add _ _) ?_
  refine mg_scd C hs hL (by omega) dL_law_458 ?_
  refine mg_callV_i C hv rfl (rest := [.int r]) M yq_X7_quantile kw_569 kw_570 kw_571 ⟨Nat.le_of_ble_eq_true rfl, Nat.le_of_ble_eq_true rfl⟩ (lw_hcs (by show cells + 0 + 0 ≤ 600000; omega) (by show slots + 0 + 0 ≤ 7302250; omega)) (Nat.le_of_ble_eq_true rfl) rfl rfl dL_law_459 (fun r2 w2 ⟨hr, hI2⟩ => ?_)
  exact mg_icmp_eq C (tgt := 556) dL_law_462 (by decide) (fun _ => kk w2 _ _ hI2 (show cells + 0 + 0 ≤ cells + 4 by omega) (show slots + 0 + 0 ≤ slots + 1063 by omega)) (fun h => absurd hr.symm h)

set_option maxHeartbeats 4000000 in
theorem lw_told {X : mwX} {D : va_G} {cI cS : ClassId} {b L ox om : Nat} {xs : Nat → Int32} (hL : L ≤ 2048) (C : mwC X code 4 RL D cI cS room_1) (hZ : mwCZ X) (hs : mwScr X b L xs) {i cells slots : Nat} {w : mwT} (hi : i + 4 ≤ L) (hc : cells + 4 ≤ 600000) (hsl : slots + 1063 ≤ 7302250) (hI : INV cI cS ox om w) (kk : ∀ (w1 : mwT) (cells1 slots1 : Nat), INV cI cS ox om w1 → cells1 ≤ cells + 4 → slots1 ≤ slots + 1063 → mwG X cells1 slots1 w1 [(0, .ref b), (1, .ref ox), (2, .ref om), (3, .int (nI i))] [] 556) : mwG X cells slots w [(0, .ref b), (1, .ref ox), (2, .ref om), (3, .int (nI i))] [] 467 := by
  obtain ⟨vo, ho⟩ := hI.ox
  refine mg_aload_n C dL_law_467 rfl ?_
  refine mg_aload_n C dL_law_468 rfl ?_
  refine mg_iload_n C dL_law_469 rfl ?_
  refine mg_iconst C (v := nI 1) dL_law_470 (by decide) ?_
  refine mg_iadd C (z := nI (i + 1)) dL_law_471 (nI_add _ _) ?_
  refine mg_scd C hs hL (by omega) dL_law_472 ?_
  refine mg_aload_n C dL_law_473 rfl ?_
  refine mg_iload_n C dL_law_474 rfl ?_
  refine mg_iconst C (v := nI 2) dL_law_475 (by decide) ?_
  refine mg_iadd C (z := nI (i + 2)) dL_law_476 (nI_add _ _) ?_
  refine mg_scd C hs hL (by omega) dL_law_477 ?_
  refine mg_callV_i C ho rfl (rest := []) (O_told D cI cS w ox om (xs (i + 1)) (xs (i + 2)) hI) yq_X6_told kw_573 kw_574 kw_575 ⟨Nat.le_of_ble_eq_true rfl, Nat.le_of_ble_eq_true rfl⟩ (lw_hcs (by show cells + 0 ≤ 600000; omega) (by show slots + 0 ≤ 7302250; omega)) (Nat.le_of_ble_eq_true rfl) rfl rfl dL_law_478 (fun r w1 ⟨⟨vs, hv⟩, M⟩ => ?_)
  refine mg_aload_n C dL_law_481 rfl ?_
  refine mg_aload_n C dL_law_482 rfl ?_
  refine mg_iload_n C dL_law_483 rfl ?_
  refine mg_iconst C (v := nI 1) dL_law_484 (by decide) ?_
  refine mg_iadd C (z := nI (i + 1)) dL_law_485 (nI_add _ _) ?_
  refine mg_scd C hs hL (by omega) dL_law_486 ?_
  refine mg_aload_n C dL_law_487 rfl ?_
  refine mg_iload_n C dL_law_488 rfl ?_
  refine mg_iconst C (v := nI 2) dL_law_489 (by decide) ?_
  refine mg_iadd C (z := nI (i + 2)) dL_law_490 (nI_add _ _) ?_
  refine mg_scd C hs hL (by omega) dL_law_491 ?_
  refine mg_callV_i C hv rfl (rest := [.int r]) M yq_X7_told kw_613 kw_614 kw_615 ⟨Nat.le_of_ble_eq_true rfl, Nat.le_of_ble_eq_true rfl⟩ (lw_hcs (by show cells + 0 + 0 ≤ 600000; omega) (by show slots + 0 + 0 ≤ 7302250; omega)) (Nat.le_of_ble_eq_true rfl) rfl rfl dL_law_492 (fun r2 w2 ⟨hr, hI2⟩ => ?_)
  exact mg_icmp_eq C (tgt := 556) dL_law_495 (by decide) (fun _ => kk w2 _ _ hI2 (show cells + 0 + 0 ≤ cells + 4 by omega) (show slots + 0 + 0 ≤ slots + 1063 by omega)) (fun h => absurd hr.symm h)

set_option maxHeartbeats 4000000 in
theorem lw_kept {X : mwX} {D : va_G} {cI cS : ClassId} {b L ox om : Nat} {xs : Nat → Int32} (hL : L ≤ 2048) (C : mwC X code 4 RL D cI cS room_1) (hZ : mwCZ X) (hs : mwScr X b L xs) {i cells slots : Nat} {w : mwT} (hi : i + 4 ≤ L) (hc : cells + 4 ≤ 600000) (hsl : slots + 1063 ≤ 7302250) (hI : INV cI cS ox om w) (kk : ∀ (w1 : mwT) (cells1 slots1 : Nat), INV cI cS ox om w1 → cells1 ≤ cells + 4 → slots1 ≤ slots + 1063 → mwG X cells1 slots1 w1 [(0, .ref b), (1, .ref ox), (2, .ref om), (3, .int (nI i))] [] 556) : mwG X cells slots w [(0, .ref b), (1, .ref ox), (2, .ref om), (3, .int (nI i))] [] 500 := by
  obtain ⟨vo, ho⟩ := hI.ox
  refine mg_aload_n C dL_law_500 rfl ?_
  refine mg_aload_n C dL_law_501 rfl ?_
  refine mg_iload_n C dL_law_502 rfl ?_
  refine mg_iconst C (v := nI 1) dL_law_503 (by decide) ?_
  refine mg_iadd C (z := nI (i + 1)) dL_law_504 (nI_add _ _) ?_
  refine mg_scd C hs hL (by omega) dL_law_505 ?_
  refine mg_aload_n C dL_law_506 rfl ?_
  refine mg_iload_n C dL_law_507 rfl ?_
  refine mg_iconst C (v := nI 2) dL_law_508 (by decide) ?_
  refine mg_iadd C (z := nI (i + 2)) dL_law_509 (nI_add _ _) ?_
  refine mg_scd C hs hL (by omega) dL_law_510 ?_
  refine mg_aload_n C dL_law_511 rfl ?_
  refine mg_iload_n C dL_law_512 rfl ?_
  refine mg_iconst C (v := nI 3) dL_law_513 (by decide) ?_
  refine mg_iadd C (z := nI (i + 3)) dL_law_514 (nI_add _ _) ?_
  refine mg_scd C hs hL (by omega) dL_law_515 ?_
  refine mg_callV_i C ho rfl (rest := []) (O_kept D cI cS w ox om (xs (i + 1)) (xs (i + 2)) (xs (i + 3)) hI) yq_X6_kept kw_621 kw_622 kw_623 ⟨Nat.le_of_ble_eq_true rfl, Nat.le_of_ble_eq_true rfl⟩ (lw_hcs (by show cells + 0 ≤ 600000; omega) (by show slots + 0 ≤ 7302250; omega)) (Nat.le_of_ble_eq_true rfl) rfl rfl dL_law_516 (fun r w1 ⟨⟨vs, hv⟩, M⟩ => ?_)
  refine mg_aload_n C dL_law_519 rfl ?_
  refine mg_aload_n C dL_law_520 rfl ?_
  refine mg_iload_n C dL_law_521 rfl ?_
  refine mg_iconst C (v := nI 1) dL_law_522 (by decide) ?_
  refine mg_iadd C (z := nI (i + 1)) dL_law_523 (nI_add _ _) ?_
  refine mg_scd C hs hL (by omega) dL_law_524 ?_
  refine mg_aload_n C dL_law_525 rfl ?_
  refine mg_iload_n C dL_law_526 rfl ?_
  refine mg_iconst C (v := nI 2) dL_law_527 (by decide) ?_
  refine mg_iadd C (z := nI (i + 2)) dL_law_528 (nI_add _ _) ?_
  refine mg_scd C hs hL (by omega) dL_law_529 ?_
  refine mg_aload_n C dL_law_530 rfl ?_
  refine mg_iload_n C dL_law_531 rfl ?_
  refine mg_iconst C (v := nI 3) dL_law_532 (by decide) ?_
  refine mg_iadd C (z := nI (i + 3)) dL_law_533 (nI_add _ _) ?_
  refine mg_scd C hs hL (by omega) dL_law_534 ?_
  refine mg_callV_i C hv rfl (rest := [.int r]) M yq_X7_kept kw_642 kw_643 kw_644 ⟨Nat.le_of_ble_eq_true rfl, Nat.le_of_ble_eq_true rfl⟩ (lw_hcs (by show cells + 0 + 0 ≤ 600000; omega) (by show slots + 0 + 0 ≤ 7302250; omega)) (Nat.le_of_ble_eq_true rfl) rfl rfl dL_law_535 (fun r2 w2 ⟨hr, hI2⟩ => ?_)
  exact mg_icmp_eq C (tgt := 556) dL_law_538 (by decide) (fun _ => kk w2 _ _ hI2 (show cells + 0 + 0 ≤ cells + 4 by omega) (show slots + 0 + 0 ≤ slots + 1063 by omega)) (fun h => absurd hr.symm h)

set_option maxHeartbeats 4000000 in
theorem lw_count {X : mwX} {D : va_G} {cI cS : ClassId} {b L ox om : Nat} {xs : Nat → Int32} (hL : L ≤ 2048) (C : mwC X code 4 RL D cI cS room_1) (hZ : mwCZ X) (hs : mwScr X b L xs) {i cells slots : Nat} {w : mwT} (hi : i + 4 ≤ L) (hc : cells + 4 ≤ 600000) (hsl : slots + 1063 ≤ 7302250) (hI : INV cI cS ox om w) (kk : ∀ (w1 : mwT) (cells1 slots1 : Nat), INV cI cS ox om w1 → cells1 ≤ cells + 4 → slots1 ≤ slots + 1063 → mwG X cells1 slots1 w1 [(0, .ref b), (1, .ref ox), (2, .ref om), (3, .int (nI i))] [] 556) : mwG X cells slots w [(0, .ref b), (1, .ref ox), (2, .ref om), (3, .int (nI i))] [] 543 := by
  obtain ⟨vo, ho⟩ := hI.ox
  refine mg_aload_n C dL_law_543 rfl ?_
  refine mg_callV_i C ho rfl (rest := []) (O_count D cI cS w ox om  hI) yq_X6_count kw_650 kw_651 kw_652 ⟨Nat.le_of_ble_eq_true rfl, Nat.le_of_ble_eq_true rfl⟩ (lw_hcs (by show cells + 0 ≤ 600000; omega) (by show slots + 0 ≤ 7302250; omega)) (Nat.le_of_ble_eq_true rfl) rfl rfl dL_law_544 (fun r w1 ⟨⟨vs, hv⟩, M⟩ => ?_)
  refine mg_aload_n C dL_law_547 rfl ?_
  refine mg_callV_i C hv rfl (rest := [.int r]) M yq_X7_count kw_654 kw_655 kw_656 ⟨Nat.le_of_ble_eq_true rfl, Nat.le_of_ble_eq_true rfl⟩ (lw_hcs (by show cells + 0 + 0 ≤ 600000; omega) (by show slots + 0 + 0 ≤ 7302250; omega)) (Nat.le_of_ble_eq_true rfl) rfl rfl dL_law_548 (fun r2 w2 ⟨hr, hI2⟩ => ?_)
  exact mg_icmp_eq C (tgt := 556) dL_law_551 (by decide) (fun _ => kk w2 _ _ hI2 (show cells + 0 + 0 ≤ cells + 4 by omega) (show slots + 0 + 0 ≤ slots + 1063 by omega)) (fun h => absurd hr.symm h)
