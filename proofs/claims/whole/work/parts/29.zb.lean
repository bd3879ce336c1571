def szI (k : Nat) (z : Int32) : Prop := (k = 4 → z - z / nI 2 * nI 2 = 0) ∧ rp (loZ k) (hiZ k) z
theorem szI_N {k : Nat} {z : Int32} (hk : k ≤ 4) : szI k z ↔ ∃ za : Nat, z = nI za ∧ szN k za := by
  have h1 := loZ_lt k
  have h2 := hiZ_lt k
  have h3 : ∀ za : Nat, za < 1000 → nI za - nI za / nI 2 * nI 2 = nI (za % 2) := fun za h => pk_rem (by omega) (by omega) (by omega)
  constructor
  · rintro ⟨ha, za, hb, hc, rfl⟩
    refine ⟨za, rfl, ?_⟩
    rw [h3 za (by omega)] at ha
    rcases (show k = 0 ∨ k = 1 ∨ k = 2 ∨ k = 3 ∨ k = 4 by omega) with rfl | rfl | rfl | rfl | rfl
    · unfold szN; exact Or.inl ⟨rfl, hb, hc⟩
    · unfold szN; exact Or.inr (Or.inl ⟨rfl, hb, hc⟩)
    · unfold szN; exact Or.inr (Or.inr (Or.inl ⟨rfl, hb, hc⟩))
    · unfold szN; exact Or.inr (Or.inr (Or.inr (Or.inl ⟨rfl, hb, hc⟩)))
    · unfold szN
      refine Or.inr (Or.inr (Or.inr (Or.inr ⟨rfl, hb, hc, ?_⟩)))
      have := ha rfl
      rw [← nI_0] at this
      exact (nI_eq (by omega) (by omega)).mp this
  · rintro ⟨za, rfl, h⟩
    have hb := szN_bd h
    unfold szI
    rw [h3 za (by omega)]
    unfold szN at h
    rcases h with ⟨rfl, a, b⟩ | ⟨rfl, a, b⟩ | ⟨rfl, a, b⟩ | ⟨rfl, a, b⟩ | ⟨rfl, a, b, c⟩
    · exact ⟨fun q => absurd q (by decide), za, a, b, rfl⟩
    · exact ⟨fun q => absurd q (by decide), za, a, b, rfl⟩
    · exact ⟨fun q => absurd q (by decide), za, a, b, rfl⟩
    · exact ⟨fun q => absurd q (by decide), za, a, b, rfl⟩
    · exact ⟨fun _ => by rw [c, nI_0], za, a, b, rfl⟩

set_option maxHeartbeats 4000000 in
set_option maxRecDepth 20000 in
theorem c_X6_isSize (D : va_G) (cI cS : ClassId) (w : mwT) (ka : Nat) (z : Int32) (hka : ka ≤ 4) : mMiZ yX6_isSize cX6_isSize 2 (some .boolean) (rmL 1) [.int (nI ka), .int z] D cI cS w (fun r w1 => ((r = nI 1 ∧ szI ka z) ∨ (r = nI 0 ∧ ¬ szI ka z)) ∧ w1 = w) := by
  refine mMzZ.of (by decide) (Nat.le_of_ble_eq_true rfl) ?_
  intro X C hN hR hZ
  refine mg_sub (lv' := [(0, .int (nI ka)), (1, .int z)]) [0, 1] rfl ?_
  obtain ⟨tz1, tz2, hs1, hs2⟩ := hZ.two
  have hl1 := loZ_lt ka
  have hl2 := hiZ_lt ka
  refine mg_iload_n C dX6_isSize_0 rfl ?_
  refine mg_ifN_lt C (tgt := 20) dX6_isSize_1 (by decide) (by omega) ?_
  refine mg_iload_n C dX6_isSize_4 rfl ?_
  refine mg_gets1 C hs1 kw_39 dX6_isSize_5 ?_
  refine mg_slen1 C hs1 dX6_isSize_8 ?_
  refine mg_icmpN_ge C (tgt := 20) dX6_isSize_9 (by decide) (by omega) (by omega) (fun c_9 => absurd c_9 (by omega)) (fun c_9 => ?_)
  refine mg_iload_n C dX6_isSize_12 rfl ?_
  refine mg_gets2 C hs2 kw_40 dX6_isSize_13 ?_
  refine mg_slen2 C hs2 dX6_isSize_16 ?_
  refine mg_icmpN_lt C (tgt := 22) dX6_isSize_17 (by decide) (by omega) (by omega) (fun c_17 => ?_) (fun c_17 => absurd c_17 (by omega))
  refine mg_iload_n C dX6_isSize_22 rfl ?_
  refine mg_iconst C (v := nI 4) dX6_isSize_23 (by decide) ?_
  refine mg_icmpN_ne C (tgt := 35) dX6_isSize_24 (by decide) (by omega) (by omega) (fun c_24 => ?_) (fun c_24 => ?_)
  · refine mg_iload_n C dX6_isSize_35 rfl ?_
    refine mg_gets1 C hs1 kw_39 dX6_isSize_36 ?_
    refine mg_iload_n C dX6_isSize_39 rfl ?_
    refine mg_sald1 C hs1 (by omega) dX6_isSize_40 ?_
    refine mg_icmp_lt C (tgt := 57) dX6_isSize_41 (by decide) (fun c_41 => ?_) (fun c_41 => ?_)
    · refine mg_iconst C (v := nI 0) dX6_isSize_57 (by decide) ?_
      exact hR _ _ _ _ dX6_isSize_58 (Or.inl rfl) ⟨Or.inr ⟨rfl, fun q => rp_lt ⟨by omega, by omega⟩ c_41 q.2⟩, rfl⟩
    · refine mg_iload_n C dX6_isSize_44 rfl ?_
      refine mg_gets2 C hs2 kw_40 dX6_isSize_45 ?_
      refine mg_iload_n C dX6_isSize_48 rfl ?_
      refine mg_sald2 C hs2 (by omega) dX6_isSize_49 ?_
      refine mg_icmp_gt C (tgt := 57) dX6_isSize_50 (by decide) (fun c_50 => ?_) (fun c_50 => ?_)
      · refine mg_iconst C (v := nI 0) dX6_isSize_57 (by decide) ?_
        exact hR _ _ _ _ dX6_isSize_58 (Or.inl rfl) ⟨Or.inr ⟨rfl, fun q => rp_gt ⟨by omega, by omega⟩ c_50 q.2⟩, rfl⟩
      · refine mg_iconst C (v := nI 1) dX6_isSize_53 (by decide) ?_
        refine mg_goto C (tgt := 58) dX6_isSize_54 (by decide) ?_
        exact hR _ _ _ _ dX6_isSize_58 (Or.inr rfl) ⟨Or.inl ⟨rfl, fun q => absurd q c_24, rp_in ⟨by omega, by omega⟩ c_41 c_50⟩, rfl⟩
  · refine mg_iload_n C dX6_isSize_27 rfl ?_
    refine mg_iconst C (v := nI 2) dX6_isSize_28 (by decide) ?_
    refine mg_irem C (z := z - z / nI 2 * nI 2) dX6_isSize_29 (by decide) rfl ?_
    refine mg_if_eq C (tgt := 35) dX6_isSize_30 (by decide) (fun c_30 => ?_) (fun c_30 => ?_)
    · refine mg_iload_n C dX6_isSize_35 rfl ?_
      refine mg_gets1 C hs1 kw_39 dX6_isSize_36 ?_
      refine mg_iload_n C dX6_isSize_39 rfl ?_
      refine mg_sald1 C hs1 (by omega) dX6_isSize_40 ?_
      refine mg_icmp_lt C (tgt := 57) dX6_isSize_41 (by decide) (fun c_41 => ?_) (fun c_41 => ?_)
      · refine mg_iconst C (v := nI 0) dX6_isSize_57 (by decide) ?_
        exact hR _ _ _ _ dX6_isSize_58 (Or.inl rfl) ⟨Or.inr ⟨rfl, fun q => rp_lt ⟨by omega, by omega⟩ c_41 q.2⟩, rfl⟩
      · refine mg_iload_n C dX6_isSize_44 rfl ?_
        refine mg_gets2 C hs2 kw_40 dX6_isSize_45 ?_
        refine mg_iload_n C dX6_isSize_48 rfl ?_
        refine mg_sald2 C hs2 (by omega) dX6_isSize_49 ?_
        refine mg_icmp_gt C (tgt := 57) dX6_isSize_50 (by decide) (fun c_50 => ?_) (fun c_50 => ?_)
        · refine mg_iconst C (v := nI 0) dX6_isSize_57 (by decide) ?_
          exact hR _ _ _ _ dX6_isSize_58 (Or.inl rfl) ⟨Or.inr ⟨rfl, fun q => rp_gt ⟨by omega, by omega⟩ c_50 q.2⟩, rfl⟩
        · refine mg_iconst C (v := nI 1) dX6_isSize_53 (by decide) ?_
          refine mg_goto C (tgt := 58) dX6_isSize_54 (by decide) ?_
          exact hR _ _ _ _ dX6_isSize_58 (Or.inr rfl) ⟨Or.inl ⟨rfl, fun _ => c_30, rp_in ⟨by omega, by omega⟩ c_41 c_50⟩, rfl⟩
    · refine mg_iconst C (v := nI 0) dX6_isSize_33 (by decide) ?_
      exact hR _ _ _ _ dX6_isSize_34 (Or.inl rfl) ⟨Or.inr ⟨rfl, fun q => c_30 (q.1 c_24)⟩, rfl⟩

set_option maxHeartbeats 4000000 in
set_option maxRecDepth 20000 in
theorem c_X6_sketch (D : va_G) (cI cS : ClassId) (w : mwT) (ox as md : Nat) (g0 : Nat → Option Nat) (kd z sd : Int32) (hox : w ox = some (.inr (5, [.ref as, .int (nI md)]))) (has : w as = some (eR cS 8 g0)) (hmd : md ≤ 8) : mMiZ yX6_sketch cX6_sketch 4 (some .int) (rmA 8 4 1063) [.ref ox, .int kd, .int z, .int sd] D cI cS w (fun r w1 => (¬ skGood kd z sd ∧ r = -1 ∧ w1 = w) ∨ (∃ ka za da : Nat, ka ≤ 4 ∧ da ≤ 999 ∧ kd = nI ka ∧ z = nI za ∧ sd = nI da ∧ szN ka za ∧ ((8 ≤ md ∧ r = -3 ∧ w1 = w) ∨ (md < 8 ∧ r = nI md ∧ ((ka = 0 ∧ ∃ q qa qb : Nat, w q = none ∧ w qa = none ∧ w qb = none ∧ q ≠ qa ∧ q ≠ qb ∧ qa ≠ qb ∧ w1 ox = some (.inr (5, [.ref as, .int (nI (md + 1))])) ∧ w1 as = some (eR cS 8 (va_up g0 md (some q))) ∧ w1 q = some (.inr (1, [.int (nI 0), .int (nI za), .int (nI da), .int (nI 0), .int (nI 0), .ref qa, .ref qb, .int (nI 0), .int (nI 0)])) ∧ w1 qa = some (eI cI (2 * za) (fun _ => 0)) ∧ w1 qb = some (eI cI (2 * za) (fun _ => 0)) ∧ ∀ z : Nat, z ≠ q → z ≠ qa → z ≠ qb → z ≠ ox → z ≠ as → w1 z = w z) ∨ (ka = 1 ∧ ∃ q qa : Nat, w q = none ∧ w qa = none ∧ q ≠ qa ∧ w1 ox = some (.inr (5, [.ref as, .int (nI (md + 1))])) ∧ w1 as = some (eR cS 8 (va_up g0 md (some q))) ∧ w1 q = some (.inr (4, [.int (nI 1), .int (nI za), .int (nI da), .int (nI 0), .int (nI 0), .ref qa])) ∧ w1 qa = some (eI cI (4 * za) (fun _ => 0)) ∧ ∀ z : Nat, z ≠ q → z ≠ qa → z ≠ ox → z ≠ as → w1 z = w z) ∨ (ka = 2 ∧ ∃ q qa : Nat, w q = none ∧ w qa = none ∧ q ≠ qa ∧ w1 ox = some (.inr (5, [.ref as, .int (nI (md + 1))])) ∧ w1 as = some (eR cS 8 (va_up g0 md (some q))) ∧ w1 q = some (.inr (0, [.int (nI 2), .int (nI za), .int (nI da), .int (nI 0), .int (nI 0), .ref qa])) ∧ w1 qa = some (eI cI za (fun _ => 0)) ∧ ∀ z : Nat, z ≠ q → z ≠ qa → z ≠ ox → z ≠ as → w1 z = w z) ∨ (ka = 3 ∧ ∃ q qa : Nat, w q = none ∧ w qa = none ∧ q ≠ qa ∧ w1 ox = some (.inr (5, [.ref as, .int (nI (md + 1))])) ∧ w1 as = some (eR cS 8 (va_up g0 md (some q))) ∧ w1 q = some (.inr (2, [.int (nI 3), .int (nI za), .int (nI da), .int (nI 0), .int (nI 0), .ref qa, .int (nI 0)])) ∧ w1 qa = some (eI cI za (fun _ => 0)) ∧ ∀ z : Nat, z ≠ q → z ≠ qa → z ≠ ox → z ≠ as → w1 z = w z) ∨ (ka = 4 ∧ ∃ q qa qb qc : Nat, w q = none ∧ w qa = none ∧ w qb = none ∧ w qc = none ∧ q ≠ qa ∧ q ≠ qb ∧ q ≠ qc ∧ qa ≠ qb ∧ qa ≠ qc ∧ qb ≠ qc ∧ w1 ox = some (.inr (5, [.ref as, .int (nI (md + 1))])) ∧ w1 as = some (eR cS 8 (va_up g0 md (some q))) ∧ w1 q = some (.inr (3, [.int (nI 4), .int (nI za), .int (nI da), .int (nI 0), .int (nI 0), .ref qa, .ref qb, .ref qc, .int (nI 0)])) ∧ w1 qa = some (eI cI (31 * za) (fun _ => 0)) ∧ w1 qb = some (eI cI 31 (fun _ => 0)) ∧ w1 qc = some (eI cI 31 (fun _ => 0)) ∧ ∀ z : Nat, z ≠ q → z ≠ qa → z ≠ qb → z ≠ qc → z ≠ ox → z ≠ as → w1 z = w z)))))) := by
  refine mMiZ.of (by decide) (Nat.le_of_ble_eq_true rfl) ?_
  intro X C hN hR hZ
  have fr_w : ∀ zz : Nat, w zz = w zz := fun _ => rfl
  refine mg_sub (lv' := [(0, .ref ox), (1, .int kd), (2, .int z), (3, .int sd)]) [0, 1, 2, 3] rfl ?_
  refine mg_iload_n C dX6_sketch_0 rfl ?_
  refine mg_callS_i C (rest := []) (c_X6_isSort D cI cS w kd) yq_X6_isSort kw_33 kw_34 ⟨by decide, by decide⟩ ⟨Nat.le_of_ble_eq_true rfl, Nat.le_of_ble_eq_true rfl⟩ (Nat.le_of_ble_eq_true rfl) rfl rfl dX6_sketch_1 (fun r1 w1 ⟨xa1, xk1⟩ => ?_)
  refine mg_widen (k := 0) (n := 0) (by decide) (by decide) ?_
  rw [xk1]
  rcases xa1 with ⟨ra1, hy_so⟩ | ⟨ra1, hy_so⟩
  · rw [ra1]
    obtain ⟨ka, hka, rfl⟩ := hy_so
    refine mg_ifN_eq C (tgt := 22) dX6_sketch_4 (by decide) (by decide) (fun c_4 => absurd c_4 (by decide)) (fun c_4 => ?_)
    refine mg_iload_n C dX6_sketch_7 rfl ?_
    refine mg_iload_n C dX6_sketch_8 rfl ?_
    refine mg_callS_iZ C hZ (rest := []) (c_X6_isSize D cI cS w ka z hka) yq_X6_isSize kw_36 kw_37 ⟨by decide, by decide⟩ ⟨Nat.le_of_ble_eq_true rfl, Nat.le_of_ble_eq_true rfl⟩ (Nat.le_of_ble_eq_true rfl) rfl rfl dX6_sketch_9 (fun r2 w2 ⟨xa2, xk2⟩ => ?_)
    refine mg_widen (k := 0) (n := 0) (by decide) (by decide) ?_
    rw [xk2]
    rcases xa2 with ⟨ra2, hy_sz⟩ | ⟨ra2, hy_sz⟩
    · rw [ra2]
      obtain ⟨za, rfl, hsz⟩ := (szI_N hka).mp hy_sz
      have hszb := szN_bd hsz
      refine mg_ifN_eq C (tgt := 22) dX6_sketch_12 (by decide) (by decide) (fun c_12 => absurd c_12 (by decide)) (fun c_12 => ?_)
      refine mg_iload_n C dX6_sketch_15 rfl ?_
      refine mg_callS_i C (rest := []) (c_X6_isSeed D cI cS w sd) yq_X6_isSeed kw_41 kw_42 ⟨by decide, by decide⟩ ⟨Nat.le_of_ble_eq_true rfl, Nat.le_of_ble_eq_true rfl⟩ (Nat.le_of_ble_eq_true rfl) rfl rfl dX6_sketch_16 (fun r3 w3 ⟨xa3, xk3⟩ => ?_)
      refine mg_widen (k := 0) (n := 0) (by decide) (by decide) ?_
      rw [xk3]
      rcases xa3 with ⟨ra3, hy_se⟩ | ⟨ra3, hy_se⟩
      · rw [ra3]
        obtain ⟨da, hda, rfl⟩ := hy_se
        refine mg_ifN_ne C (tgt := 24) dX6_sketch_19 (by decide) (by decide) (fun c_19 => ?_) (fun c_19 => absurd c_19 (by decide))
        refine mg_aload_n C dX6_sketch_24 rfl ?_
        refine mg_get C inT6 hox rfl 1 (by decide) kw_14 (Or.inl rfl) rfl dX6_sketch_25 ?_
        refine mg_bipush C (v := nI 8) dX6_sketch_28 (by decide) ?_
        refine mg_icmpN_lt C (tgt := 36) dX6_sketch_30 (by decide) (by omega) (by omega) (fun c_30 => ?_) (fun c_30 => ?_)
        · have hsz2 := hsz
          unfold szN at hsz2
          rcases hsz2 with ⟨rfl, hz1, hz2⟩ | ⟨rfl, hz1, hz2⟩ | ⟨rfl, hz1, hz2⟩ | ⟨rfl, hz1, hz2⟩ | ⟨rfl, hz1, hz2, hz3⟩
          · refine mg_aload_n C dX6_sketch_36 rfl ?_
            refine mg_iload_n C dX6_sketch_37 rfl ?_
            refine mg_iload_n C dX6_sketch_38 rfl ?_
            refine mg_iload_n C dX6_sketch_39 rfl ?_
            refine mg_callS_q C (rest := [.ref ox]) (c_X6_newSketch_H D cI cS w za da (by omega) (by omega)) yq_X6_newSketch kw_44 kw_45 ⟨by decide, by decide⟩ ⟨Nat.le_of_ble_eq_true rfl, Nat.le_of_ble_eq_true rfl⟩ (Nat.le_of_ble_eq_true rfl) rfl rfl dX6_sketch_40 (fun r4 w4 ⟨q4, q4a, q4b, xe4, n_q4, n_q4a, n_q4b, nd_q4a_q4, nd_q4b_q4, dd_q4b_q4a, xh4, xkq4a, xkq4b, xf4⟩ => ?_)
            refine mg_widen (k := 3) (n := 89) (by decide) (by decide) ?_
            rw [xe4]
            have nd_q4_ox : ox ≠ q4 := mw_nn hox n_q4
            have nd_q4_as : as ≠ q4 := mw_nn has n_q4
            have nz_q4 : w q4 = none := (fr_w q4 ).symm.trans n_q4
            have nd_q4a_ox : ox ≠ q4a := mw_nn hox n_q4a
            have nd_q4a_as : as ≠ q4a := mw_nn has n_q4a
            have nz_q4a : w q4a = none := (fr_w q4a ).symm.trans n_q4a
            have nd_q4b_ox : ox ≠ q4b := mw_nn hox n_q4b
            have nd_q4b_as : as ≠ q4b := mw_nn has n_q4b
            have nz_q4b : w q4b = none := (fr_w q4b ).symm.trans n_q4b
            have h_w4_ox : w4 ox = some (.inr (5, [.ref as, .int (nI md)])) := (xf4 ox (mw_nn hox n_q4) (mw_nn hox n_q4a) (mw_nn hox n_q4b)).trans hox
            have h_w4_as : w4 as = some (eR cS 8 g0) := (xf4 as (mw_nn has n_q4) (mw_nn has n_q4a) (mw_nn has n_q4b)).trans has
            have fr_w4 : ∀ zz : Nat, zz ≠ q4 → zz ≠ q4a → zz ≠ q4b → w4 zz = w zz := fun zz g0 g1 g2 => (xf4 zz g0 g1 g2).trans (fr_w zz )
            refine mg_callV_i C h_w4_ox rfl (rest := []) (c_X6_keep_H D cI cS w4 ox as md q4 g0 (.int (nI 0)) (.int (nI za)) (.int (nI da)) (.int (nI 0)) (.int (nI 0)) (.ref q4a) (.ref q4b) (.int (nI 0)) (.int (nI 0)) h_w4_ox h_w4_as xh4 (by omega)) yq_X6_keep kw_103 kw_104 kw_105 ⟨by decide, by decide⟩ ⟨Nat.le_of_ble_eq_true rfl, Nat.le_of_ble_eq_true rfl⟩ (Nat.le_of_ble_eq_true rfl) rfl rfl dX6_sketch_43 (fun r5 w5 ⟨xe5, xo5, xs5, xf5⟩ => ?_)
            refine mg_widen (k := 3) (n := 89) (by decide) (by decide) ?_
            rw [xe5]
            have h_w5_q4 : w5 q4 = some (.inr (1, [.int (nI 0), .int (nI za), .int (nI da), .int (nI 0), .int (nI 0), .ref q4a, .ref q4b, .int (nI 0), .int (nI 0)])) := (xf5 q4 (Ne.symm nd_q4_ox) (Ne.symm nd_q4_as)).trans xh4
            have h_w5_q4a : w5 q4a = some (eI cI (2 * za) (fun _ => 0)) := (xf5 q4a (Ne.symm nd_q4a_ox) (Ne.symm nd_q4a_as)).trans xkq4a
            have h_w5_q4b : w5 q4b = some (eI cI (2 * za) (fun _ => 0)) := (xf5 q4b (Ne.symm nd_q4b_ox) (Ne.symm nd_q4b_as)).trans xkq4b
            have fr_w5 : ∀ zz : Nat, zz ≠ q4 → zz ≠ q4a → zz ≠ q4b → zz ≠ ox → zz ≠ as → w5 zz = w zz := fun zz g0 g1 g2 g3 g4 => (xf5 zz g3 g4).trans (fr_w4 zz g0 g1 g2)
            refine mg_widen (k := 4) (n := 1063) (by decide) (by decide) ?_
            exact hR _ _ _ _ dX6_sketch_46 (Or.inr ⟨0, za, da, by omega, hda, rfl, rfl, rfl, hsz, Or.inr ⟨by omega, rfl, Or.inl ⟨rfl, ⟨q4, q4a, q4b, nz_q4, nz_q4a, nz_q4b, nd_q4a_q4, nd_q4b_q4, dd_q4b_q4a, xo5, xs5, h_w5_q4, h_w5_q4a, h_w5_q4b, fun z q0 q1 q2 q3 q4 => fr_w5 z q0 q1 q2 q3 q4⟩⟩⟩⟩)
          · refine mg_aload_n C dX6_sketch_36 rfl ?_
            refine mg_iload_n C dX6_sketch_37 rfl ?_
            refine mg_iload_n C dX6_sketch_38 rfl ?_
            refine mg_iload_n C dX6_sketch_39 rfl ?_
            refine mg_callS_q C (rest := [.ref ox]) (c_X6_newSketch_T D cI cS w za da (by omega) (by omega)) yq_X6_newSketch kw_44 kw_45 ⟨by decide, by decide⟩ ⟨Nat.le_of_ble_eq_true rfl, Nat.le_of_ble_eq_true rfl⟩ (Nat.le_of_ble_eq_true rfl) rfl rfl dX6_sketch_40 (fun r6 w6 ⟨q6, q6a, xe6, n_q6, n_q6a, nd_q6a_q6, xh6, xkq6a, xf6⟩ => ?_)
            refine mg_widen (k := 2) (n := 262) (by decide) (by decide) ?_
            rw [xe6]
            have nd_q6_ox : ox ≠ q6 := mw_nn hox n_q6
            have nd_q6_as : as ≠ q6 := mw_nn has n_q6
            have nz_q6 : w q6 = none := (fr_w q6 ).symm.trans n_q6
            have nd_q6a_ox : ox ≠ q6a := mw_nn hox n_q6a
            have nd_q6a_as : as ≠ q6a := mw_nn has n_q6a
            have nz_q6a : w q6a = none := (fr_w q6a ).symm.trans n_q6a
            have h_w6_ox : w6 ox = some (.inr (5, [.ref as, .int (nI md)])) := (xf6 ox (mw_nn hox n_q6) (mw_nn hox n_q6a)).trans hox
            have h_w6_as : w6 as = some (eR cS 8 g0) := (xf6 as (mw_nn has n_q6) (mw_nn has n_q6a)).trans has
            have fr_w6 : ∀ zz : Nat, zz ≠ q6 → zz ≠ q6a → w6 zz = w zz := fun zz g0 g1 => (xf6 zz g0 g1).trans (fr_w zz )
            refine mg_callV_i C h_w6_ox rfl (rest := []) (c_X6_keep_T D cI cS w6 ox as md q6 g0 (.int (nI 1)) (.int (nI za)) (.int (nI da)) (.int (nI 0)) (.int (nI 0)) (.ref q6a) h_w6_ox h_w6_as xh6 (by omega)) yq_X6_keep kw_103 kw_104 kw_105 ⟨by decide, by decide⟩ ⟨Nat.le_of_ble_eq_true rfl, Nat.le_of_ble_eq_true rfl⟩ (Nat.le_of_ble_eq_true rfl) rfl rfl dX6_sketch_43 (fun r7 w7 ⟨xe7, xo7, xs7, xf7⟩ => ?_)
            refine mg_widen (k := 2) (n := 262) (by decide) (by decide) ?_
            rw [xe7]
            have h_w7_q6 : w7 q6 = some (.inr (4, [.int (nI 1), .int (nI za), .int (nI da), .int (nI 0), .int (nI 0), .ref q6a])) := (xf7 q6 (Ne.symm nd_q6_ox) (Ne.symm nd_q6_as)).trans xh6
            have h_w7_q6a : w7 q6a = some (eI cI (4 * za) (fun _ => 0)) := (xf7 q6a (Ne.symm nd_q6a_ox) (Ne.symm nd_q6a_as)).trans xkq6a
            have fr_w7 : ∀ zz : Nat, zz ≠ q6 → zz ≠ q6a → zz ≠ ox → zz ≠ as → w7 zz = w zz := fun zz g0 g1 g2 g3 => (xf7 zz g2 g3).trans (fr_w6 zz g0 g1)
            refine mg_widen (k := 4) (n := 1063) (by decide) (by decide) ?_
            exact hR _ _ _ _ dX6_sketch_46 (Or.inr ⟨1, za, da, by omega, hda, rfl, rfl, rfl, hsz, Or.inr ⟨by omega, rfl, Or.inr (Or.inl ⟨rfl, ⟨q6, q6a, nz_q6, nz_q6a, nd_q6a_q6, xo7, xs7, h_w7_q6, h_w7_q6a, fun z q0 q1 q2 q3 => fr_w7 z q0 q1 q2 q3⟩⟩)⟩⟩)
          · refine mg_aload_n C dX6_sketch_36 rfl ?_
            refine mg_iload_n C dX6_sketch_37 rfl ?_
            refine mg_iload_n C dX6_sketch_38 rfl ?_
            refine mg_iload_n C dX6_sketch_39 rfl ?_
            refine mg_callS_q C (rest := [.ref ox]) (c_X6_newSketch_F D cI cS w za da (by omega) (by omega)) yq_X6_newSketch kw_44 kw_45 ⟨by decide, by decide⟩ ⟨Nat.le_of_ble_eq_true rfl, Nat.le_of_ble_eq_true rfl⟩ (Nat.le_of_ble_eq_true rfl) rfl rfl dX6_sketch_40 (fun r8 w8 ⟨q8, q8a, xe8, n_q8, n_q8a, nd_q8a_q8, xh8, xkq8a, xf8⟩ => ?_)
            refine mg_widen (k := 2) (n := 518) (by decide) (by decide) ?_
            rw [xe8]
            have nd_q8_ox : ox ≠ q8 := mw_nn hox n_q8
            have nd_q8_as : as ≠ q8 := mw_nn has n_q8
            have nz_q8 : w q8 = none := (fr_w q8 ).symm.trans n_q8
            have nd_q8a_ox : ox ≠ q8a := mw_nn hox n_q8a
            have nd_q8a_as : as ≠ q8a := mw_nn has n_q8a
            have nz_q8a : w q8a = none := (fr_w q8a ).symm.trans n_q8a
            have h_w8_ox : w8 ox = some (.inr (5, [.ref as, .int (nI md)])) := (xf8 ox (mw_nn hox n_q8) (mw_nn hox n_q8a)).trans hox
            have h_w8_as : w8 as = some (eR cS 8 g0) := (xf8 as (mw_nn has n_q8) (mw_nn has n_q8a)).trans has
            have fr_w8 : ∀ zz : Nat, zz ≠ q8 → zz ≠ q8a → w8 zz = w zz := fun zz g0 g1 => (xf8 zz g0 g1).trans (fr_w zz )
            refine mg_callV_i C h_w8_ox rfl (rest := []) (c_X6_keep_F D cI cS w8 ox as md q8 g0 (.int (nI 2)) (.int (nI za)) (.int (nI da)) (.int (nI 0)) (.int (nI 0)) (.ref q8a) h_w8_ox h_w8_as xh8 (by omega)) yq_X6_keep kw_103 kw_104 kw_105 ⟨by decide, by decide⟩ ⟨Nat.le_of_ble_eq_true rfl, Nat.le_of_ble_eq_true rfl⟩ (Nat.le_of_ble_eq_true rfl) rfl rfl dX6_sketch_43 (fun r9 w9 ⟨xe9, xo9, xs9, xf9⟩ => ?_)
            refine mg_widen (k := 2) (n := 518) (by decide) (by decide) ?_
            rw [xe9]
            have h_w9_q8 : w9 q8 = some (.inr (0, [.int (nI 2), .int (nI za), .int (nI da), .int (nI 0), .int (nI 0), .ref q8a])) := (xf9 q8 (Ne.symm nd_q8_ox) (Ne.symm nd_q8_as)).trans xh8
            have h_w9_q8a : w9 q8a = some (eI cI za (fun _ => 0)) := (xf9 q8a (Ne.symm nd_q8a_ox) (Ne.symm nd_q8a_as)).trans xkq8a
            have fr_w9 : ∀ zz : Nat, zz ≠ q8 → zz ≠ q8a → zz ≠ ox → zz ≠ as → w9 zz = w zz := fun zz g0 g1 g2 g3 => (xf9 zz g2 g3).trans (fr_w8 zz g0 g1)
            refine mg_widen (k := 4) (n := 1063) (by decide) (by decide) ?_
            exact hR _ _ _ _ dX6_sketch_46 (Or.inr ⟨2, za, da, by omega, hda, rfl, rfl, rfl, hsz, Or.inr ⟨by omega, rfl, Or.inr (Or.inr (Or.inl ⟨rfl, ⟨q8, q8a, nz_q8, nz_q8a, nd_q8a_q8, xo9, xs9, h_w9_q8, h_w9_q8a, fun z q0 q1 q2 q3 => fr_w9 z q0 q1 q2 q3⟩⟩))⟩⟩)
          · refine mg_aload_n C dX6_sketch_36 rfl ?_
            refine mg_iload_n C dX6_sketch_37 rfl ?_
            refine mg_iload_n C dX6_sketch_38 rfl ?_
            refine mg_iload_n C dX6_sketch_39 rfl ?_
            refine mg_callS_q C (rest := [.ref ox]) (c_X6_newSketch_L D cI cS w za da (by omega) (by omega)) yq_X6_newSketch kw_44 kw_45 ⟨by decide, by decide⟩ ⟨Nat.le_of_ble_eq_true rfl, Nat.le_of_ble_eq_true rfl⟩ (Nat.le_of_ble_eq_true rfl) rfl rfl dX6_sketch_40 (fun r10 w10 ⟨q10, q10a, xe10, n_q10, n_q10a, nd_q10a_q10, xh10, xkq10a, xf10⟩ => ?_)
            refine mg_widen (k := 2) (n := 39) (by decide) (by decide) ?_
            rw [xe10]
            have nd_q10_ox : ox ≠ q10 := mw_nn hox n_q10
            have nd_q10_as : as ≠ q10 := mw_nn has n_q10
            have nz_q10 : w q10 = none := (fr_w q10 ).symm.trans n_q10
            have nd_q10a_ox : ox ≠ q10a := mw_nn hox n_q10a
            have nd_q10a_as : as ≠ q10a := mw_nn has n_q10a
            have nz_q10a : w q10a = none := (fr_w q10a ).symm.trans n_q10a
            have h_w10_ox : w10 ox = some (.inr (5, [.ref as, .int (nI md)])) := (xf10 ox (mw_nn hox n_q10) (mw_nn hox n_q10a)).trans hox
            have h_w10_as : w10 as = some (eR cS 8 g0) := (xf10 as (mw_nn has n_q10) (mw_nn has n_q10a)).trans has
            have fr_w10 : ∀ zz : Nat, zz ≠ q10 → zz ≠ q10a → w10 zz = w zz := fun zz g0 g1 => (xf10 zz g0 g1).trans (fr_w zz )
            refine mg_callV_i C h_w10_ox rfl (rest := []) (c_X6_keep_L D cI cS w10 ox as md q10 g0 (.int (nI 3)) (.int (nI za)) (.int (nI da)) (.int (nI 0)) (.int (nI 0)) (.ref q10a) (.int (nI 0)) h_w10_ox h_w10_as xh10 (by omega)) yq_X6_keep kw_103 kw_104 kw_105 ⟨by decide, by decide⟩ ⟨Nat.le_of_ble_eq_true rfl, Nat.le_of_ble_eq_true rfl⟩ (Nat.le_of_ble_eq_true rfl) rfl rfl dX6_sketch_43 (fun r11 w11 ⟨xe11, xo11, xs11, xf11⟩ => ?_)
            refine mg_widen (k := 2) (n := 39) (by decide) (by decide) ?_
            rw [xe11]
            have h_w11_q10 : w11 q10 = some (.inr (2, [.int (nI 3), .int (nI za), .int (nI da), .int (nI 0), .int (nI 0), .ref q10a, .int (nI 0)])) := (xf11 q10 (Ne.symm nd_q10_ox) (Ne.symm nd_q10_as)).trans xh10
            have h_w11_q10a : w11 q10a = some (eI cI za (fun _ => 0)) := (xf11 q10a (Ne.symm nd_q10a_ox) (Ne.symm nd_q10a_as)).trans xkq10a
            have fr_w11 : ∀ zz : Nat, zz ≠ q10 → zz ≠ q10a → zz ≠ ox → zz ≠ as → w11 zz = w zz := fun zz g0 g1 g2 g3 => (xf11 zz g2 g3).trans (fr_w10 zz g0 g1)
            refine mg_widen (k := 4) (n := 1063) (by decide) (by decide) ?_
            exact hR _ _ _ _ dX6_sketch_46 (Or.inr ⟨3, za, da, by omega, hda, rfl, rfl, rfl, hsz, Or.inr ⟨by omega, rfl, Or.inr (Or.inr (Or.inr (Or.inl ⟨rfl, ⟨q10, q10a, nz_q10, nz_q10a, nd_q10a_q10, xo11, xs11, h_w11_q10, h_w11_q10a, fun z q0 q1 q2 q3 => fr_w11 z q0 q1 q2 q3⟩⟩)))⟩⟩)
          · refine mg_aload_n C dX6_sketch_36 rfl ?_
            refine mg_iload_n C dX6_sketch_37 rfl ?_
            refine mg_iload_n C dX6_sketch_38 rfl ?_
            refine mg_iload_n C dX6_sketch_39 rfl ?_
            refine mg_callS_q C (rest := [.ref ox]) (c_X6_newSketch_R D cI cS w za da (by omega) (by omega)) yq_X6_newSketch kw_44 kw_45 ⟨by decide, by decide⟩ ⟨Nat.le_of_ble_eq_true rfl, Nat.le_of_ble_eq_true rfl⟩ (Nat.le_of_ble_eq_true rfl) rfl rfl dX6_sketch_40 (fun r12 w12 ⟨q12, q12a, q12b, q12c, xe12, n_q12, n_q12a, n_q12b, n_q12c, nd_q12a_q12, nd_q12b_q12, nd_q12c_q12, dd_q12b_q12a, dd_q12c_q12a, dd_q12c_q12b, xh12, xkq12a, xkq12b, xkq12c, xf12⟩ => ?_)
            refine mg_widen (k := 4) (n := 1063) (by decide) (by decide) ?_
            rw [xe12]
            have nd_q12_ox : ox ≠ q12 := mw_nn hox n_q12
            have nd_q12_as : as ≠ q12 := mw_nn has n_q12
            have nz_q12 : w q12 = none := (fr_w q12 ).symm.trans n_q12
            have nd_q12a_ox : ox ≠ q12a := mw_nn hox n_q12a
            have nd_q12a_as : as ≠ q12a := mw_nn has n_q12a
            have nz_q12a : w q12a = none := (fr_w q12a ).symm.trans n_q12a
            have nd_q12b_ox : ox ≠ q12b := mw_nn hox n_q12b
            have nd_q12b_as : as ≠ q12b := mw_nn has n_q12b
            have nz_q12b : w q12b = none := (fr_w q12b ).symm.trans n_q12b
            have nd_q12c_ox : ox ≠ q12c := mw_nn hox n_q12c
            have nd_q12c_as : as ≠ q12c := mw_nn has n_q12c
            have nz_q12c : w q12c = none := (fr_w q12c ).symm.trans n_q12c
            have h_w12_ox : w12 ox = some (.inr (5, [.ref as, .int (nI md)])) := (xf12 ox (mw_nn hox n_q12) (mw_nn hox n_q12a) (mw_nn hox n_q12b) (mw_nn hox n_q12c)).trans hox
            have h_w12_as : w12 as = some (eR cS 8 g0) := (xf12 as (mw_nn has n_q12) (mw_nn has n_q12a) (mw_nn has n_q12b) (mw_nn has n_q12c)).trans has
            have fr_w12 : ∀ zz : Nat, zz ≠ q12 → zz ≠ q12a → zz ≠ q12b → zz ≠ q12c → w12 zz = w zz := fun zz g0 g1 g2 g3 => (xf12 zz g0 g1 g2 g3).trans (fr_w zz )
            refine mg_callV_i C h_w12_ox rfl (rest := []) (c_X6_keep_R D cI cS w12 ox as md q12 g0 (.int (nI 4)) (.int (nI za)) (.int (nI da)) (.int (nI 0)) (.int (nI 0)) (.ref q12a) (.ref q12b) (.ref q12c) (.int (nI 0)) h_w12_ox h_w12_as xh12 (by omega)) yq_X6_keep kw_103 kw_104 kw_105 ⟨by decide, by decide⟩ ⟨Nat.le_of_ble_eq_true rfl, Nat.le_of_ble_eq_true rfl⟩ (Nat.le_of_ble_eq_true rfl) rfl rfl dX6_sketch_43 (fun r13 w13 ⟨xe13, xo13, xs13, xf13⟩ => ?_)
            refine mg_widen (k := 4) (n := 1063) (by decide) (by decide) ?_
            rw [xe13]
            have h_w13_q12 : w13 q12 = some (.inr (3, [.int (nI 4), .int (nI za), .int (nI da), .int (nI 0), .int (nI 0), .ref q12a, .ref q12b, .ref q12c, .int (nI 0)])) := (xf13 q12 (Ne.symm nd_q12_ox) (Ne.symm nd_q12_as)).trans xh12
            have h_w13_q12a : w13 q12a = some (eI cI (31 * za) (fun _ => 0)) := (xf13 q12a (Ne.symm nd_q12a_ox) (Ne.symm nd_q12a_as)).trans xkq12a
            have h_w13_q12b : w13 q12b = some (eI cI 31 (fun _ => 0)) := (xf13 q12b (Ne.symm nd_q12b_ox) (Ne.symm nd_q12b_as)).trans xkq12b
            have h_w13_q12c : w13 q12c = some (eI cI 31 (fun _ => 0)) := (xf13 q12c (Ne.symm nd_q12c_ox) (Ne.symm nd_q12c_as)).trans xkq12c
            have fr_w13 : ∀ zz : Nat, zz ≠ q12 → zz ≠ q12a → zz ≠ q12b → zz ≠ q12c → zz ≠ ox → zz ≠ as → w13 zz = w zz := fun zz g0 g1 g2 g3 g4 g5 => (xf13 zz g4 g5).trans (fr_w12 zz g0 g1 g2 g3)
            exact hR _ _ _ _ dX6_sketch_46 (Or.inr ⟨4, za, da, by omega, hda, rfl, rfl, rfl, hsz, Or.inr ⟨by omega, rfl, Or.inr (Or.inr (Or.inr (Or.inr (⟨rfl, ⟨q12, q12a, q12b, q12c, nz_q12, nz_q12a, nz_q12b, nz_q12c, nd_q12a_q12, nd_q12b_q12, nd_q12c_q12, dd_q12b_q12a, dd_q12c_q12a, dd_q12c_q12b, xo13, xs13, h_w13_q12, h_w13_q12a, h_w13_q12b, h_w13_q12c, fun z q0 q1 q2 q3 q4 q5 => fr_w13 z q0 q1 q2 q3 q4 q5⟩⟩))))⟩⟩)
        · refine mg_bipush C (v := (-3 : Int32)) dX6_sketch_33 (by decide) ?_
          refine mg_widen (k := 4) (n := 1063) (by decide) (by decide) ?_
          exact hR _ _ _ _ dX6_sketch_35 (Or.inr ⟨ka, za, da, hka, hda, rfl, rfl, rfl, hsz, Or.inl ⟨by omega, rfl, rfl⟩⟩)
      · rw [ra3]
        refine mg_ifN_ne C (tgt := 24) dX6_sketch_19 (by decide) (by decide) (fun c_19 => absurd c_19 (by decide)) (fun c_19 => ?_)
        refine mg_iconst C (v := (-1 : Int32)) dX6_sketch_22 (by decide) ?_
        refine mg_widen (k := 4) (n := 1063) (by decide) (by decide) ?_
        exact hR _ _ _ _ dX6_sketch_23 (Or.inl ⟨sk_no2 hy_se, rfl, rfl⟩)
    · rw [ra2]
      refine mg_ifN_eq C (tgt := 22) dX6_sketch_12 (by decide) (by decide) (fun c_12 => ?_) (fun c_12 => absurd c_12 (by decide))
      refine mg_iconst C (v := (-1 : Int32)) dX6_sketch_22 (by decide) ?_
      refine mg_widen (k := 4) (n := 1063) (by decide) (by decide) ?_
      exact hR _ _ _ _ dX6_sketch_23 (Or.inl ⟨sk_no3 hka (fun za e h => hy_sz ((szI_N hka).mpr ⟨za, e, h⟩)), rfl, rfl⟩)
  · rw [ra1]
    refine mg_ifN_eq C (tgt := 22) dX6_sketch_4 (by decide) (by decide) (fun c_4 => ?_) (fun c_4 => absurd c_4 (by decide))
    refine mg_iconst C (v := (-1 : Int32)) dX6_sketch_22 (by decide) ?_
    refine mg_widen (k := 4) (n := 1063) (by decide) (by decide) ?_
    exact hR _ _ _ _ dX6_sketch_23 (Or.inl ⟨sk_no1 hy_so, rfl, rfl⟩)
