theorem lw_bud {x y i : Nat} (h1 : x ≤ 20000 + 266 * i) (h2 : y ≤ x + 1063) : y ≤ 20000 + 266 * (i + 4) := by
  refine Nat.le_trans h2 (Nat.le_trans (Nat.add_le_add_right h1 1063) ?_)
  rw [Nat.mul_add, ← Nat.add_assoc]
  exact Nat.add_le_add_left (Nat.le_of_ble_eq_true rfl : 1063 ≤ 266 * 4) _
set_option maxHeartbeats 4000000 in
theorem law_loop {X : mwX} {D : va_G} {cI cS : ClassId} {b L ox om : Nat} {xs : Nat → Int32} (hL : L ≤ 2048) (C : mwC X code 4 RL D cI cS room_1) (hZ : mwCZ X) (hs : mwScr X b L xs) (hE : mwEnd X) : ∀ (n i : Nat) (w : mwT) (cells slots : Nat), i ≤ L → L + 1 ≤ i + n → cells ≤ 100 + i → slots ≤ 20000 + 266 * i → INV cI cS ox om w → mwG X cells slots w [(0, .ref b), (1, .ref ox), (2, .ref om), (3, .int (nI i))] [] 18 := by
  intro n
  induction n with
  | zero =>
    intro i w cells slots h1 h2
    exact absurd h2 (by omega)
  | succ n ih =>
    intro i w cells slots hiL hin hc hsl hI
    refine mg_iload_n C dL_law_18 rfl ?_
    refine mg_aload_n C dL_law_19 rfl ?_
    refine mg_scl C hs dL_law_20 ?_
    refine mg_iconst C (v := 4) dL_law_21 (by decide) ?_
    refine mg_isub C (z := nI L - 4) dL_law_22 rfl ?_
    refine mg_icmp_gt C (tgt := 562) dL_law_23 (by decide) (fun h => ?_) (fun h => ?_)
    · refine mg_iconst C (v := 1) dL_law_562 (by decide) ?_
      exact mg_widen (k := 600000) (n := 7302250) (by omega) (by omega) (hE _ _ _ dL_law_563)
    · have hi : i + 4 ≤ L := lw_more hL hiL h
      have hk : ∀ (w1 : mwT) (cells1 slots1 : Nat), INV cI cS ox om w1 → cells1 ≤ cells + 4 → slots1 ≤ slots + 1063 → mwG X cells1 slots1 w1 [(0, .ref b), (1, .ref ox), (2, .ref om), (3, .int (nI i))] [] 556 := by
        intro w1 cells1 slots1 hI1 hc1 hsl1
        refine mg_iinc C (v := nI (i + 4)) (lv' := [(3, .int (nI (i + 4))), (0, .ref b), (1, .ref ox), (2, .ref om)]) dL_law_556 rfl (nI_add i 4) (by decide) rfl ?_
        refine mg_goto C (tgt := 18) dL_law_559 (by decide) ?_
        have g1 : cells1 ≤ 100 + (i + 4) := by omega
        have g2 : slots1 ≤ 20000 + 266 * (i + 4) := lw_bud hsl hsl1
        have g3 : L + 1 ≤ i + 4 + n := by omega
        have g4 := ih (i + 4) w1 cells1 slots1 hi g3 g1 g2 hI1
        exact mg_sub [1, 2, 3, 0] rfl g4
      refine mg_aload_n C dL_law_26 rfl ?_
      refine mg_iload_n C dL_law_27 rfl ?_
      refine mg_scd C hs hL (by omega) dL_law_28 ?_
      refine mg_bipush C (v := 15) dL_law_29 (by decide) ?_
      obtain ⟨k, hk16, ek⟩ := and15 (xs i)
      refine mg_iand C (z := nI k) dL_law_31 ek ?_
      rcases (show k = 0 ∨ k = 1 ∨ k = 2 ∨ k = 3 ∨ k = 4 ∨ k = 5 ∨ k = 6 ∨ k = 7 ∨ k = 8 ∨ k = 9 ∨ k = 10 ∨ k = 11 ∨ k = 12 ∨ k = 13 ∨ k = 14 ∨ k = 15 by omega) with rfl | rfl | rfl | rfl | rfl | rfl | rfl | rfl | rfl | rfl | rfl | rfl | rfl | rfl | rfl | rfl
      · exact mg_tabIn C (off := 72) (tgt := 104) dL_law_32 (by decide) (by decide) (by decide) (by decide) (lw_sketch hL C hZ hs hi (by omega) (by omega) hI hk)
      · exact mg_tabIn C (off := 115) (tgt := 147) dL_law_32 (by decide) (by decide) (by decide) (by decide) (lw_copy hL C hZ hs hi (by omega) (by omega) hI hk)
      · exact mg_tabIn C (off := 138) (tgt := 170) dL_law_32 (by decide) (by decide) (by decide) (by decide) (lw_clear hL C hZ hs hi (by omega) (by omega) hI hk)
      · exact mg_tabIn C (off := 161) (tgt := 193) dL_law_32 (by decide) (by decide) (by decide) (by decide) (lw_come hL C hZ hs hi (by omega) (by omega) hI hk)
      · exact mg_tabIn C (off := 204) (tgt := 236) dL_law_32 (by decide) (by decide) (by decide) (by decide) (lw_merge hL C hZ hs hi (by omega) (by omega) hI hk)
      · exact mg_tabIn C (off := 237) (tgt := 269) dL_law_32 (by decide) (by decide) (by decide) (by decide) (lw_hash hL C hZ hs hi (by omega) (by omega) hI hk)
      · exact mg_tabIn C (off := 280) (tgt := 312) dL_law_32 (by decide) (by decide) (by decide) (by decide) (lw_low hL C hZ hs hi (by omega) (by omega) hI hk)
      · exact mg_tabIn C (off := 313) (tgt := 345) dL_law_32 (by decide) (by decide) (by decide) (by decide) (lw_high hL C hZ hs hi (by omega) (by omega) hI hk)
      · exact mg_tabIn C (off := 346) (tgt := 378) dL_law_32 (by decide) (by decide) (by decide) (by decide) (lw_has hL C hZ hs hi (by omega) (by omega) hI hk)
      · exact mg_tabIn C (off := 379) (tgt := 411) dL_law_32 (by decide) (by decide) (by decide) (by decide) (lw_distinct hL C hZ hs hi (by omega) (by omega) hI hk)
      · exact mg_tabIn C (off := 402) (tgt := 434) dL_law_32 (by decide) (by decide) (by decide) (by decide) (lw_quantile hL C hZ hs hi (by omega) (by omega) hI hk)
      · exact mg_tabIn C (off := 435) (tgt := 467) dL_law_32 (by decide) (by decide) (by decide) (by decide) (lw_told hL C hZ hs hi (by omega) (by omega) hI hk)
      · exact mg_tabIn C (off := 468) (tgt := 500) dL_law_32 (by decide) (by decide) (by decide) (by decide) (lw_kept hL C hZ hs hi (by omega) (by omega) hI hk)
      · exact mg_tabIn C (off := 511) (tgt := 543) dL_law_32 (by decide) (by decide) (by decide) (by decide) (lw_count hL C hZ hs hi (by omega) (by omega) hI hk)
      · exact mg_tabOut C (tgt := 556) dL_law_32 (Or.inr (by decide)) (by decide) (hk w cells slots hI (by omega) (by omega))
      · exact mg_tabOut C (tgt := 556) dL_law_32 (Or.inr (by decide)) (by decide) (hk w cells slots hI (by omega) (by omega))

theorem INV_new {cI cS : ClassId} {w : mwT} {ox om as q0_ q1_ q2_ q3_ q4_ q5_ q6_ q7_ : Nat} (hox : w ox = some (.inr (5, [.ref as, .int (nI 0)]))) (has : w as = some (eR cS 8 (fun _ => none))) (hom : w om = some (.inr (6, [.int (nI 0), .int 0, .ref q0_, .ref q1_, .ref q2_, .ref q3_, .ref q4_, .ref q5_, .ref q6_, .ref q7_]))) (k0 : w q0_ = some (eI cI 8 (fun _ => 0))) (k1 : w q1_ = some (eI cI 8 (fun _ => 0))) (k2 : w q2_ = some (eI cI 8 (fun _ => 0))) (k3 : w q3_ = some (eI cI 8 (fun _ => 0))) (k4 : w q4_ = some (eI cI 8 (fun _ => 0))) (k5 : w q5_ = some (eI cI 8 (fun _ => 0))) (k6 : w q6_ = some (eI cI 9600 (fun _ => 0))) (k7 : w q7_ = some (eI cI 1024 (fun _ => 0))) (a0 : as ≠ q0_) (a1 : as ≠ q1_) (a2 : as ≠ q2_) (a3 : as ≠ q3_) (a4 : as ≠ q4_) (a5 : as ≠ q5_) (a6 : as ≠ q6_) (a7 : as ≠ q7_) (d01 : q0_ ≠ q1_) (d02 : q0_ ≠ q2_) (d12 : q1_ ≠ q2_) (d03 : q0_ ≠ q3_) (d13 : q1_ ≠ q3_) (d23 : q2_ ≠ q3_) (d04 : q0_ ≠ q4_) (d14 : q1_ ≠ q4_) (d24 : q2_ ≠ q4_) (d34 : q3_ ≠ q4_) (d05 : q0_ ≠ q5_) (d15 : q1_ ≠ q5_) (d25 : q2_ ≠ q5_) (d35 : q3_ ≠ q5_) (d45 : q4_ ≠ q5_) (d06 : q0_ ≠ q6_) (d16 : q1_ ≠ q6_) (d26 : q2_ ≠ q6_) (d36 : q3_ ≠ q6_) (d46 : q4_ ≠ q6_) (d56 : q5_ ≠ q6_) (d07 : q0_ ≠ q7_) (d17 : q1_ ≠ q7_) (d27 : q2_ ≠ q7_) (d37 : q3_ ≠ q7_) (d47 : q4_ ≠ q7_) (d57 : q5_ ≠ q7_) (d67 : q6_ ≠ q7_) : INV cI cS ox om w := by
  have t_om : (fun z => if z = om then 11 else if z = ox then 9 else if z = as then 10 else if z = q0_ then 1 else if z = q1_ then 2 else if z = q2_ then 3 else if z = q3_ then 4 else if z = q4_ then 5 else if z = q5_ then 6 else if z = q6_ then 7 else if z = q7_ then 8 else 0) om = 11 := by
    show (if om = om then 11 else if om = ox then 9 else if om = as then 10 else if om = q0_ then 1 else if om = q1_ then 2 else if om = q2_ then 3 else if om = q3_ then 4 else if om = q4_ then 5 else if om = q5_ then 6 else if om = q6_ then 7 else if om = q7_ then 8 else 0) = 11
    rw [if_pos rfl]
  have t_ox : (fun z => if z = om then 11 else if z = ox then 9 else if z = as then 10 else if z = q0_ then 1 else if z = q1_ then 2 else if z = q2_ then 3 else if z = q3_ then 4 else if z = q4_ then 5 else if z = q5_ then 6 else if z = q6_ then 7 else if z = q7_ then 8 else 0) ox = 9 := by
    show (if ox = om then 11 else if ox = ox then 9 else if ox = as then 10 else if ox = q0_ then 1 else if ox = q1_ then 2 else if ox = q2_ then 3 else if ox = q3_ then 4 else if ox = q4_ then 5 else if ox = q5_ then 6 else if ox = q6_ then 7 else if ox = q7_ then 8 else 0) = 9
    rw [if_neg (Ne.symm (mw_ci hom hox (by decide))), if_pos rfl]
  have t_as : (fun z => if z = om then 11 else if z = ox then 9 else if z = as then 10 else if z = q0_ then 1 else if z = q1_ then 2 else if z = q2_ then 3 else if z = q3_ then 4 else if z = q4_ then 5 else if z = q5_ then 6 else if z = q6_ then 7 else if z = q7_ then 8 else 0) as = 10 := by
    show (if as = om then 11 else if as = ox then 9 else if as = as then 10 else if as = q0_ then 1 else if as = q1_ then 2 else if as = q2_ then 3 else if as = q3_ then 4 else if as = q4_ then 5 else if as = q5_ then 6 else if as = q6_ then 7 else if as = q7_ then 8 else 0) = 10
    rw [if_neg (Ne.symm (mw_oa hom has)), if_neg (Ne.symm (mw_oa hox has)), if_pos rfl]
  have t_q0_ : (fun z => if z = om then 11 else if z = ox then 9 else if z = as then 10 else if z = q0_ then 1 else if z = q1_ then 2 else if z = q2_ then 3 else if z = q3_ then 4 else if z = q4_ then 5 else if z = q5_ then 6 else if z = q6_ then 7 else if z = q7_ then 8 else 0) q0_ = 1 := by
    show (if q0_ = om then 11 else if q0_ = ox then 9 else if q0_ = as then 10 else if q0_ = q0_ then 1 else if q0_ = q1_ then 2 else if q0_ = q2_ then 3 else if q0_ = q3_ then 4 else if q0_ = q4_ then 5 else if q0_ = q5_ then 6 else if q0_ = q6_ then 7 else if q0_ = q7_ then 8 else 0) = 1
    rw [if_neg (Ne.symm (mw_oa hom k0)), if_neg (Ne.symm (mw_oa hox k0)), if_neg (Ne.symm a0), if_pos rfl]
  have t_q1_ : (fun z => if z = om then 11 else if z = ox then 9 else if z = as then 10 else if z = q0_ then 1 else if z = q1_ then 2 else if z = q2_ then 3 else if z = q3_ then 4 else if z = q4_ then 5 else if z = q5_ then 6 else if z = q6_ then 7 else if z = q7_ then 8 else 0) q1_ = 2 := by
    show (if q1_ = om then 11 else if q1_ = ox then 9 else if q1_ = as then 10 else if q1_ = q0_ then 1 else if q1_ = q1_ then 2 else if q1_ = q2_ then 3 else if q1_ = q3_ then 4 else if q1_ = q4_ then 5 else if q1_ = q5_ then 6 else if q1_ = q6_ then 7 else if q1_ = q7_ then 8 else 0) = 2
    rw [if_neg (Ne.symm (mw_oa hom k1)), if_neg (Ne.symm (mw_oa hox k1)), if_neg (Ne.symm a1), if_neg (Ne.symm d01), if_pos rfl]
  have t_q2_ : (fun z => if z = om then 11 else if z = ox then 9 else if z = as then 10 else if z = q0_ then 1 else if z = q1_ then 2 else if z = q2_ then 3 else if z = q3_ then 4 else if z = q4_ then 5 else if z = q5_ then 6 else if z = q6_ then 7 else if z = q7_ then 8 else 0) q2_ = 3 := by
    show (if q2_ = om then 11 else if q2_ = ox then 9 else if q2_ = as then 10 else if q2_ = q0_ then 1 else if q2_ = q1_ then 2 else if q2_ = q2_ then 3 else if q2_ = q3_ then 4 else if q2_ = q4_ then 5 else if q2_ = q5_ then 6 else if q2_ = q6_ then 7 else if q2_ = q7_ then 8 else 0) = 3
    rw [if_neg (Ne.symm (mw_oa hom k2)), if_neg (Ne.symm (mw_oa hox k2)), if_neg (Ne.symm a2), if_neg (Ne.symm d02), if_neg (Ne.symm d12), if_pos rfl]
  have t_q3_ : (fun z => if z = om then 11 else if z = ox then 9 else if z = as then 10 else if z = q0_ then 1 else if z = q1_ then 2 else if z = q2_ then 3 else if z = q3_ then 4 else if z = q4_ then 5 else if z = q5_ then 6 else if z = q6_ then 7 else if z = q7_ then 8 else 0) q3_ = 4 := by
    show (if q3_ = om then 11 else if q3_ = ox then 9 else if q3_ = as then 10 else if q3_ = q0_ then 1 else if q3_ = q1_ then 2 else if q3_ = q2_ then 3 else if q3_ = q3_ then 4 else if q3_ = q4_ then 5 else if q3_ = q5_ then 6 else if q3_ = q6_ then 7 else if q3_ = q7_ then 8 else 0) = 4
    rw [if_neg (Ne.symm (mw_oa hom k3)), if_neg (Ne.symm (mw_oa hox k3)), if_neg (Ne.symm a3), if_neg (Ne.symm d03), if_neg (Ne.symm d13), if_neg (Ne.symm d23), if_pos rfl]
  have t_q4_ : (fun z => if z = om then 11 else if z = ox then 9 else if z = as then 10 else if z = q0_ then 1 else if z = q1_ then 2 else if z = q2_ then 3 else if z = q3_ then 4 else if z = q4_ then 5 else if z = q5_ then 6 else if z = q6_ then 7 else if z = q7_ then 8 else 0) q4_ = 5 := by
    show (if q4_ = om then 11 else if q4_ = ox then 9 else if q4_ = as then 10 else if q4_ = q0_ then 1 else if q4_ = q1_ then 2 else if q4_ = q2_ then 3 else if q4_ = q3_ then 4 else if q4_ = q4_ then 5 else if q4_ = q5_ then 6 else if q4_ = q6_ then 7 else if q4_ = q7_ then 8 else 0) = 5
    rw [if_neg (Ne.symm (mw_oa hom k4)), if_neg (Ne.symm (mw_oa hox k4)), if_neg (Ne.symm a4), if_neg (Ne.symm d04), if_neg (Ne.symm d14), if_neg (Ne.symm d24), if_neg (Ne.symm d34), if_pos rfl]
  have t_q5_ : (fun z => if z = om then 11 else if z = ox then 9 else if z = as then 10 else if z = q0_ then 1 else if z = q1_ then 2 else if z = q2_ then 3 else if z = q3_ then 4 else if z = q4_ then 5 else if z = q5_ then 6 else if z = q6_ then 7 else if z = q7_ then 8 else 0) q5_ = 6 := by
    show (if q5_ = om then 11 else if q5_ = ox then 9 else if q5_ = as then 10 else if q5_ = q0_ then 1 else if q5_ = q1_ then 2 else if q5_ = q2_ then 3 else if q5_ = q3_ then 4 else if q5_ = q4_ then 5 else if q5_ = q5_ then 6 else if q5_ = q6_ then 7 else if q5_ = q7_ then 8 else 0) = 6
    rw [if_neg (Ne.symm (mw_oa hom k5)), if_neg (Ne.symm (mw_oa hox k5)), if_neg (Ne.symm a5), if_neg (Ne.symm d05), if_neg (Ne.symm d15), if_neg (Ne.symm d25), if_neg (Ne.symm d35), if_neg (Ne.symm d45), if_pos rfl]
  have t_q6_ : (fun z => if z = om then 11 else if z = ox then 9 else if z = as then 10 else if z = q0_ then 1 else if z = q1_ then 2 else if z = q2_ then 3 else if z = q3_ then 4 else if z = q4_ then 5 else if z = q5_ then 6 else if z = q6_ then 7 else if z = q7_ then 8 else 0) q6_ = 7 := by
    show (if q6_ = om then 11 else if q6_ = ox then 9 else if q6_ = as then 10 else if q6_ = q0_ then 1 else if q6_ = q1_ then 2 else if q6_ = q2_ then 3 else if q6_ = q3_ then 4 else if q6_ = q4_ then 5 else if q6_ = q5_ then 6 else if q6_ = q6_ then 7 else if q6_ = q7_ then 8 else 0) = 7
    rw [if_neg (Ne.symm (mw_oa hom k6)), if_neg (Ne.symm (mw_oa hox k6)), if_neg (Ne.symm a6), if_neg (Ne.symm d06), if_neg (Ne.symm d16), if_neg (Ne.symm d26), if_neg (Ne.symm d36), if_neg (Ne.symm d46), if_neg (Ne.symm d56), if_pos rfl]
  have t_q7_ : (fun z => if z = om then 11 else if z = ox then 9 else if z = as then 10 else if z = q0_ then 1 else if z = q1_ then 2 else if z = q2_ then 3 else if z = q3_ then 4 else if z = q4_ then 5 else if z = q5_ then 6 else if z = q6_ then 7 else if z = q7_ then 8 else 0) q7_ = 8 := by
    show (if q7_ = om then 11 else if q7_ = ox then 9 else if q7_ = as then 10 else if q7_ = q0_ then 1 else if q7_ = q1_ then 2 else if q7_ = q2_ then 3 else if q7_ = q3_ then 4 else if q7_ = q4_ then 5 else if q7_ = q5_ then 6 else if q7_ = q6_ then 7 else if q7_ = q7_ then 8 else 0) = 8
    rw [if_neg (Ne.symm (mw_oa hom k7)), if_neg (Ne.symm (mw_oa hox k7)), if_neg (Ne.symm a7), if_neg (Ne.symm d07), if_neg (Ne.symm d17), if_neg (Ne.symm d27), if_neg (Ne.symm d37), if_neg (Ne.symm d47), if_neg (Ne.symm d57), if_neg (Ne.symm d67), if_pos rfl]
  exact ⟨as, 0, q0_, q1_, q2_, q3_, q4_, q5_, q6_, q7_, nI 0, fun _ => none, fun _ => 0, fun _ => 0, fun _ => 0, fun _ => 0, fun _ => 0, fun _ => 0, fun _ => 0, fun _ => 0, fun z => if z = om then 11 else if z = ox then 9 else if z = as then 10 else if z = q0_ then 1 else if z = q1_ then 2 else if z = q2_ then 3 else if z = q3_ then 4 else if z = q4_ then 5 else if z = q5_ then 6 else if z = q6_ then 7 else if z = q7_ then 8 else 0, Nat.zero_le _, hox, has, by rw [nI_0]; rw [nI_0] at hom; exact hom, by rw [lnF_0]; exact k0, by rw [lnF_0]; exact k1, by rw [lnF_0]; exact k2, k3, by rw [lnF_0]; exact k4, k5, k6, k7, t_ox, t_as, t_om, t_q0_, t_q1_, t_q2_, t_q3_, t_q4_, t_q5_, t_q6_, t_q7_, fun a ha => absurd ha (Nat.not_lt_zero _)⟩

set_option maxHeartbeats 4000000 in
theorem law_walk {X : mwX} {D : va_G} {cI cS : ClassId} {b L : Nat} {xs : Nat → Int32} (hL : L ≤ 2048) (C : mwC X code 4 RL D cI cS room_1) (hZ : mwCZ X) (hs : mwScr X b L xs) (hE : mwEnd X) : mwG X 0 0 (fun _ => none) [(0, .ref b)] [] 0 := by
  refine mg_new C (ci := 5) (fs := [.null, .int 0]) inT6 tyX6_ok kw_0 kw_1 kw_2 rfl df_X6 (lw_hcs (by decide) (by decide)) dL_law_0 (fun ox w1 n_ox e1 => ?_)
  have ho1 : w1 ox = some (.inr (5, [.null, .int 0])) := by rw [e1]; exact mwu_eq
  refine mg_dup C dL_law_3 rfl ?_
  refine mg_callI_v C (rest := [.ref ox]) (c_X6_init D cI cS w1 ox ho1) yq_X6_init kw_6 kw_7 rfl ⟨Nat.le_of_ble_eq_true rfl, Nat.le_of_ble_eq_true rfl⟩ (lw_hcs (by decide) (by decide)) (Nat.le_of_ble_eq_true rfl) rfl rfl dL_law_4 (fun w2 z2 => ?_)
  obtain ⟨as, n_as, ho2, ha2, xf2⟩ := z2
  refine mg_astore_n C (i := 1) (lv' := [(1, .ref ox), (0, .ref b)]) dL_law_7 rfl (by decide) rfl ?_
  refine mg_new C (ci := 6) (fs := [.int 0, .int 0, .null, .null, .null, .null, .null, .null, .null, .null]) inT7 tyX7_ok kw_3 kw_4 kw_5 rfl df_X7 (lw_hcs (by decide) (by decide)) dL_law_8 (fun om w3 n_om e3 => ?_)
  have hm3 : w3 om = some (.inr (6, [.int 0, .int 0, .null, .null, .null, .null, .null, .null, .null, .null])) := by rw [e3]; exact mwu_eq
  have ho3 : w3 ox = some (.inr (5, [.ref as, .int (nI 0)])) := by rw [e3, mwu_ne (mw_nn ho2 n_om)]; exact ho2
  have ha3 : w3 as = some (eR cS 8 (fun _ => none)) := by rw [e3, mwu_ne (mw_nn ha2 n_om)]; exact ha2
  refine mg_dup C dL_law_11 rfl ?_
  refine mg_callI_v C (rest := [.ref om]) (c_X7_init D cI cS w3 om hm3) yq_X7_init kw_15 kw_16 rfl ⟨Nat.le_of_ble_eq_true rfl, Nat.le_of_ble_eq_true rfl⟩ (lw_hcs (by decide) (by decide)) (Nat.le_of_ble_eq_true rfl) rfl rfl dL_law_12 (fun w4 z4 => ?_)
  obtain ⟨q0_, q1_, q2_, q3_, q4_, q5_, q6_, q7_, n0, n1, n2, n3, n4, n5, n6, n7, d01, d02, d12, d03, d13, d23, d04, d14, d24, d34, d05, d15, d25, d35, d45, d06, d16, d26, d36, d46, d56, d07, d17, d27, d37, d47, d57, d67, hm4, k0, k1, k2, k3, k4, k5, k6, k7, xf4⟩ := z4
  have ho4 := (xf4 ox (mw_ci ho3 hm3 (by decide)) (mw_nn ho3 n0) (mw_nn ho3 n1) (mw_nn ho3 n2) (mw_nn ho3 n3) (mw_nn ho3 n4) (mw_nn ho3 n5) (mw_nn ho3 n6) (mw_nn ho3 n7)).trans ho3
  have ha4 := (xf4 as (mw_ao ha3 hm3) (mw_nn ha3 n0) (mw_nn ha3 n1) (mw_nn ha3 n2) (mw_nn ha3 n3) (mw_nn ha3 n4) (mw_nn ha3 n5) (mw_nn ha3 n6) (mw_nn ha3 n7)).trans ha3
  have hI : INV cI cS ox om w4 := INV_new ho4 ha4 hm4 k0 k1 k2 k3 k4 k5 k6 k7 (mw_nn ha3 n0) (mw_nn ha3 n1) (mw_nn ha3 n2) (mw_nn ha3 n3) (mw_nn ha3 n4) (mw_nn ha3 n5) (mw_nn ha3 n6) (mw_nn ha3 n7) d01 d02 d12 d03 d13 d23 d04 d14 d24 d34 d05 d15 d25 d35 d45 d06 d16 d26 d36 d46 d56 d07 d17 d27 d37 d47 d57 d67
  refine mg_astore_n C (i := 2) (lv' := [(2, .ref om), (1, .ref ox), (0, .ref b)]) dL_law_15 rfl (by decide) rfl ?_
  refine mg_iconst C (v := nI 0) dL_law_16 (by decide) ?_
  refine mg_istore_n C (i := 3) (lv' := [(3, .int (nI 0)), (2, .ref om), (1, .ref ox), (0, .ref b)]) dL_law_17 rfl (by decide) rfl ?_
  exact mg_sub [3, 2, 1, 0] rfl (law_loop hL C hZ hs hE (L + 1) 0 w4 _ _ (Nat.zero_le _) (by omega) (by decide) (by decide) hI)
