set_option maxHeartbeats 4000000 in
set_option maxRecDepth 20000 in
theorem c_X1_add (D : va_G) (cI cS : ClassId) (w : mwT) (h0 ak an k sd h : Nat) (tot mov lo : Int32) (f g : Nat → Int32) (x n : Int32) (hh : w h0 = some (.inr (1, [.int (nI 0), .int (nI k), .int (nI sd), .int tot, .int mov, .ref ak, .ref an, .int (nI h), .int lo]))) (hak : w ak = some (eI cI (2 * k) f)) (han : w an = some (eI cI (2 * k) g)) (hk1 : 1 ≤ k) (hk2 : k ≤ 20) (hh2 : h < 2 * k) (hka : ak ≠ an) : mMv yX1_add cX1_add 5 none (rmL 2) [.ref h0, .int x, .int n] D cI cS w (fun w1 => w1 h0 = some (.inr (1, [.int (nI 0), .int (nI k), .int (nI sd), .int tot, .int mov, .ref ak, .ref an, .int (nI ((adH x n (f, g, h)).2.2)), .int lo])) ∧ w1 ak = some (eI cI (2 * k) (adH x n (f, g, h)).1) ∧ w1 an = some (eI cI (2 * k) (adH x n (f, g, h)).2.1) ∧ ∀ z : Nat, z ≠ h0 → z ≠ ak → z ≠ an → w1 z = w z) := by
  refine mMv.of (by decide) (Nat.le_of_ble_eq_true rfl) ?_
  intro X C hN hR
  have fr_w : ∀ zz : Nat, w zz = w zz := fun _ => rfl
  refine mg_sub (lv' := [(0, .ref h0), (1, .int x), (2, .int n)]) [0, 1, 2] rfl ?_
  refine mg_iload_n C dX1_add_0 rfl ?_
  refine mg_aload_n C dX1_add_1 rfl ?_
  refine mg_get C inT1 hh rfl 5 (by decide) kw_65 (Or.inl rfl) rfl dX1_add_2 ?_
  refine mg_aload_n C dX1_add_5 rfl ?_
  refine mg_get C inT1 hh rfl 7 (by decide) kw_67 (Or.inl rfl) rfl dX1_add_6 ?_
  refine mg_callN_i C (rest := []) (c_X6_placeFor D cI cS w x ak h (2 * k) f hak (by omega) (by omega)) yq_X6_placeFor kn_13 kw_271 ⟨by decide, by decide⟩ ⟨Nat.le_of_ble_eq_true rfl, Nat.le_of_ble_eq_true rfl⟩ (Nat.le_of_ble_eq_true rfl) rfl rfl dX1_add_9 (fun r1 w1 ⟨⟨p1, xe1, xa1, xb1, xc1, xd1⟩, xk1⟩ => ?_)
  rw [xk1, xe1]
  have ep : p1 = plc f x h := plc_uniq xa1 xc1 (fun q => xd1 q (by omega))
  clear xc1 xd1
  subst ep
  have hpl := plc_le f x h
  refine mg_istore_n C (lv' := [(3, .int (nI (plc f x h))), (0, .ref h0), (1, .int x), (2, .int n)]) dX1_add_12 rfl (by decide) rfl ?_
  refine mg_iload_n C dX1_add_13 rfl ?_
  refine mg_iload_n C dX1_add_14 rfl ?_
  refine mg_aload_n C dX1_add_15 rfl ?_
  refine mg_get C inT1 hh rfl 5 (by decide) kw_65 (Or.inl rfl) rfl dX1_add_16 ?_
  refine mg_aload_n C dX1_add_19 rfl ?_
  refine mg_get C inT1 hh rfl 7 (by decide) kw_67 (Or.inl rfl) rfl dX1_add_20 ?_
  refine mg_callN_i C (rest := []) (c_X6_standsAt D cI cS w (plc f x h) x ak h (2 * k) f hak (by omega) (by omega) (by omega)) yq_X6_standsAt kn_14 kw_273 ⟨by decide, by decide⟩ ⟨Nat.le_of_ble_eq_true rfl, Nat.le_of_ble_eq_true rfl⟩ (Nat.le_of_ble_eq_true rfl) rfl rfl dX1_add_23 (fun r2 w2 ⟨xa2, xk2⟩ => ?_)
  rw [xk2]
  rcases xa2 with ⟨ra, sta⟩ | ⟨ra, sta⟩
  · rw [ra]
    refine mg_ifN_eq C (tgt := 42) dX1_add_26 (by decide) (by decide) (fun c_26 => absurd c_26 (by decide)) (fun c_26 => ?_)
    refine mg_aload_n C dX1_add_29 rfl ?_
    refine mg_get C inT1 hh rfl 6 (by decide) kw_66 (Or.inl rfl) rfl dX1_add_30 ?_
    refine mg_iload_n C dX1_add_33 rfl ?_
    refine mg_dup2 C dX1_add_34 rfl rfl ?_
    refine mg_ialdN C han (by omega) (by omega) dX1_add_35 ?_
    refine mg_iload_n C dX1_add_36 rfl ?_
    refine mg_iadd C (z := (g (plc f x h)) + n) dX1_add_37 rfl ?_
    refine mg_iastN C han (by omega) (by omega) dX1_add_38 (fun w3 e_w3 => ?_)
    have h_w3_h0 : w3 h0 = some (.inr (1, [.int (nI 0), .int (nI k), .int (nI sd), .int tot, .int mov, .ref ak, .ref an, .int (nI h), .int lo])) := (congrFun e_w3 _).trans ((mwu_ne (mw_oa hh han)).trans hh)
    have h_w3_ak : w3 ak = some (eI cI (2 * k) f) := (congrFun e_w3 _).trans ((mwu_ne hka).trans hak)
    have h_w3_an : w3 an = some (eI cI (2 * k) (upd g (plc f x h) ((g (plc f x h)) + n))) := (congrFun e_w3 _).trans mwu_eq
    have fr_w3 : ∀ zz : Nat, zz ≠ an → w3 zz = w zz := fun zz g0 => (congrFun e_w3 zz).trans ((mwu_ne g0).trans (fr_w zz ))
    refine mg_goto C (tgt := 128) dX1_add_39 (by decide) ?_
    have ey : adH x n (f, g, h) = (f, upd g (plc f x h) (g (plc f x h) + n), h) := adH_yes ⟨sta.1, sta.2.2⟩
    exact hR _ _ _ dX1_add_128 ⟨by rw [ey]; exact h_w3_h0, by rw [ey]; exact h_w3_ak, by rw [ey]; exact h_w3_an, fun z _ _ q => fr_w3 z q⟩
  · rw [ra]
    refine mg_ifN_eq C (tgt := 42) dX1_add_26 (by decide) (by decide) (fun c_26 => ?_) (fun c_26 => absurd c_26 (by decide))
    refine mg_aload_n C dX1_add_42 rfl ?_
    refine mg_get C inT1 hh rfl 7 (by decide) kw_67 (Or.inl rfl) rfl dX1_add_43 ?_
    refine mg_aload_n C dX1_add_46 rfl ?_
    refine mg_get C inT1 hh rfl 5 (by decide) kw_65 (Or.inl rfl) rfl dX1_add_47 ?_
    refine mg_alen C hak dX1_add_50 ?_
    refine mg_icmpN_ge C (tgt := 128) dX1_add_51 (by decide) (by omega) (by omega) (fun c_51 => absurd c_51 (by omega)) (fun c_51 => ?_)
    refine mg_aload_n C dX1_add_54 rfl ?_
    refine mg_get C inT1 hh rfl 7 (by decide) kw_67 (Or.inl rfl) rfl dX1_add_55 ?_
    refine mg_istore C (lv' := [(4, .int (nI h)), (3, .int (nI (plc f x h))), (0, .ref h0), (1, .int x), (2, .int n)]) dX1_add_58 (by decide) rfl ?_
    have h9ak : w ak = some (eI cI (2 * k) (shD f (h + 1) h)) := by rw [hak, shD_0 f (by omega)]
    have h9an : w an = some (eI cI (2 * k) (shD g (h + 1) h)) := by rw [han, shD_0 g (by omega)]
    have L60 : ∀ (M60 : Nat) (i : Nat), i < M60 → (plc f x h ≤ i) → (i ≤ h) → ∀ (w4 : mwT), w4 h0 = some (.inr (1, [.int (nI 0), .int (nI k), .int (nI sd), .int tot, .int mov, .ref ak, .ref an, .int (nI h), .int lo])) → w4 ak = some (eI cI (2 * k) (shD f (h + 1) i)) → w4 an = some (eI cI (2 * k) (shD g (h + 1) i)) → (∀ zz : Nat, zz ≠ ak → zz ≠ an → w4 zz = w zz) → mwG X 0 0 w4 [(0, .ref h0), (1, .int x), (2, .int n), (3, .int (nI (plc f x h))), (4, .int (nI i))] [] 60 := by
      intro M60
      induction M60 with
      | zero => intro i hm60; exact absurd hm60 (Nat.not_lt_zero _)
      | succ M60 ih60 =>
        intro i hm60 hi hi2 w4 h_w4_h0 h_w4_ak h_w4_an fr_w4
        refine mg_iload C dX1_add_60 rfl ?_
        refine mg_iload_n C dX1_add_62 rfl ?_
        refine mg_icmpN_le C (tgt := 104) dX1_add_63 (by decide) (by omega) (by omega) (fun c_63 => ?_) (fun c_63 => ?_)
        · have ei : i = plc f x h := by omega
          rw [ei] at h_w4_ak
          rw [ei] at h_w4_an
          refine mg_aload_n C dX1_add_104 rfl ?_
          refine mg_get C inT1 h_w4_h0 rfl 5 (by decide) kw_65 (Or.inl rfl) rfl dX1_add_105 ?_
          refine mg_iload_n C dX1_add_108 rfl ?_
          refine mg_iload_n C dX1_add_109 rfl ?_
          refine mg_iastN C h_w4_ak (by omega) (by omega) dX1_add_110 (fun w5 e_w5 => ?_)
          have h_w5_h0 : w5 h0 = some (.inr (1, [.int (nI 0), .int (nI k), .int (nI sd), .int tot, .int mov, .ref ak, .ref an, .int (nI h), .int lo])) := (congrFun e_w5 _).trans ((mwu_ne (mw_oa h_w4_h0 h_w4_ak)).trans h_w4_h0)
          have h_w5_ak : w5 ak = some (eI cI (2 * k) (upd (shD f (h + 1) (plc f x h)) (plc f x h) x)) := (congrFun e_w5 _).trans mwu_eq
          have h_w5_an : w5 an = some (eI cI (2 * k) (shD g (h + 1) (plc f x h))) := (congrFun e_w5 _).trans ((mwu_ne (Ne.symm hka)).trans h_w4_an)
          have fr_w5 : ∀ zz : Nat, zz ≠ ak → zz ≠ an → w5 zz = w zz := fun zz g0 g1 => (congrFun e_w5 zz).trans ((mwu_ne g0).trans (fr_w4 zz g0 g1))
          refine mg_aload_n C dX1_add_111 rfl ?_
          refine mg_get C inT1 h_w5_h0 rfl 6 (by decide) kw_66 (Or.inl rfl) rfl dX1_add_112 ?_
          refine mg_iload_n C dX1_add_115 rfl ?_
          refine mg_iload_n C dX1_add_116 rfl ?_
          refine mg_iastN C h_w5_an (by omega) (by omega) dX1_add_117 (fun w6 e_w6 => ?_)
          have h_w6_h0 : w6 h0 = some (.inr (1, [.int (nI 0), .int (nI k), .int (nI sd), .int tot, .int mov, .ref ak, .ref an, .int (nI h), .int lo])) := (congrFun e_w6 _).trans ((mwu_ne (mw_oa h_w5_h0 h_w5_an)).trans h_w5_h0)
          have h_w6_ak : w6 ak = some (eI cI (2 * k) (upd (shD f (h + 1) (plc f x h)) (plc f x h) x)) := (congrFun e_w6 _).trans ((mwu_ne hka).trans h_w5_ak)
          have h_w6_an : w6 an = some (eI cI (2 * k) (upd (shD g (h + 1) (plc f x h)) (plc f x h) n)) := (congrFun e_w6 _).trans mwu_eq
          have fr_w6 : ∀ zz : Nat, zz ≠ ak → zz ≠ an → w6 zz = w zz := fun zz g0 g1 => (congrFun e_w6 zz).trans ((mwu_ne g1).trans (fr_w5 zz g0 g1))
          refine mg_aload_n C dX1_add_118 rfl ?_
          refine mg_dup C dX1_add_119 rfl ?_
          refine mg_get C inT1 h_w6_h0 rfl 7 (by decide) kw_67 (Or.inl rfl) rfl dX1_add_120 ?_
          refine mg_iconst C (v := nI 1) dX1_add_123 (by decide) ?_
          refine mg_iadd C (z := nI (h + 1)) dX1_add_124 (nI_add _ _) ?_
          refine mg_put C (fs' := [.int (nI 0), .int (nI k), .int (nI sd), .int tot, .int mov, .ref ak, .ref an, .int (nI (h + 1)), .int lo]) inT1 h_w6_h0 rfl 7 (by decide) kw_67 (Or.inl rfl) tyX1_ok nmX1 rfl rfl rfl rfl (Nat.le_of_ble_eq_true rfl) dX1_add_125 (fun w7 e_w7 => ?_)
          have h_w7_h0 : w7 h0 = some (.inr (1, [.int (nI 0), .int (nI k), .int (nI sd), .int tot, .int mov, .ref ak, .ref an, .int (nI (h + 1)), .int lo])) := (congrFun e_w7 _).trans mwu_eq
          have h_w7_ak : w7 ak = some (eI cI (2 * k) (upd (shD f (h + 1) (plc f x h)) (plc f x h) x)) := (congrFun e_w7 _).trans ((mwu_ne (mw_ao h_w6_ak h_w6_h0)).trans h_w6_ak)
          have h_w7_an : w7 an = some (eI cI (2 * k) (upd (shD g (h + 1) (plc f x h)) (plc f x h) n)) := (congrFun e_w7 _).trans ((mwu_ne (mw_ao h_w6_an h_w6_h0)).trans h_w6_an)
          have fr_w7 : ∀ zz : Nat, zz ≠ ak → zz ≠ an → zz ≠ h0 → w7 zz = w zz := fun zz g0 g1 g2 => (congrFun e_w7 zz).trans ((mwu_ne g2).trans (fr_w6 zz g0 g1))
          have ey : adH x n (f, g, h) = (insA f (plc f x h) (h + 1) x, insA g (plc f x h) (h + 1) n, h + 1) := adH_no (fun q => sta ⟨q.1, by have := q.1; omega, q.2⟩)
          exact hR _ _ _ dX1_add_128 ⟨by rw [ey]; exact h_w7_h0, by rw [ey]; exact h_w7_ak.trans (congrArg (fun q => some (eI cI (2 * k) q)) (shD_e f _ _ x)), by rw [ey]; exact h_w7_an.trans (congrArg (fun q => some (eI cI (2 * k) q)) (shD_e g _ _ n)), fun z q0 q1 q2 => fr_w7 z q1 q2 q0⟩
        · refine mg_aload_n C dX1_add_66 rfl ?_
          refine mg_get C inT1 h_w4_h0 rfl 5 (by decide) kw_65 (Or.inl rfl) rfl dX1_add_67 ?_
          refine mg_iload C dX1_add_70 rfl ?_
          refine mg_aload_n C dX1_add_72 rfl ?_
          refine mg_get C inT1 h_w4_h0 rfl 5 (by decide) kw_65 (Or.inl rfl) rfl dX1_add_73 ?_
          refine mg_iload C dX1_add_76 rfl ?_
          refine mg_iconst C (v := nI 1) dX1_add_78 (by decide) ?_
          refine mg_isub C (z := nI (i - 1)) dX1_add_79 (ni_sub (by omega)) ?_
          refine mg_ialdN C h_w4_ak (by omega) (by omega) dX1_add_80 ?_
          refine mg_iastN C h_w4_ak (by omega) (by omega) dX1_add_81 (fun w8 e_w8 => ?_)
          have h_w8_h0 : w8 h0 = some (.inr (1, [.int (nI 0), .int (nI k), .int (nI sd), .int tot, .int mov, .ref ak, .ref an, .int (nI h), .int lo])) := (congrFun e_w8 _).trans ((mwu_ne (mw_oa h_w4_h0 h_w4_ak)).trans h_w4_h0)
          have h_w8_ak : w8 ak = some (eI cI (2 * k) (upd (shD f (h + 1) i) i ((shD f (h + 1) i) (i - 1)))) := (congrFun e_w8 _).trans mwu_eq
          have h_w8_an : w8 an = some (eI cI (2 * k) (shD g (h + 1) i)) := (congrFun e_w8 _).trans ((mwu_ne (Ne.symm hka)).trans h_w4_an)
          have fr_w8 : ∀ zz : Nat, zz ≠ ak → zz ≠ an → w8 zz = w zz := fun zz g0 g1 => (congrFun e_w8 zz).trans ((mwu_ne g0).trans (fr_w4 zz g0 g1))
          refine mg_aload_n C dX1_add_82 rfl ?_
          refine mg_get C inT1 h_w8_h0 rfl 6 (by decide) kw_66 (Or.inl rfl) rfl dX1_add_83 ?_
          refine mg_iload C dX1_add_86 rfl ?_
          refine mg_aload_n C dX1_add_88 rfl ?_
          refine mg_get C inT1 h_w8_h0 rfl 6 (by decide) kw_66 (Or.inl rfl) rfl dX1_add_89 ?_
          refine mg_iload C dX1_add_92 rfl ?_
          refine mg_iconst C (v := nI 1) dX1_add_94 (by decide) ?_
          refine mg_isub C (z := nI (i - 1)) dX1_add_95 (ni_sub (by omega)) ?_
          refine mg_ialdN C h_w8_an (by omega) (by omega) dX1_add_96 ?_
          refine mg_iastN C h_w8_an (by omega) (by omega) dX1_add_97 (fun w9 e_w9 => ?_)
          have h_w9_h0 : w9 h0 = some (.inr (1, [.int (nI 0), .int (nI k), .int (nI sd), .int tot, .int mov, .ref ak, .ref an, .int (nI h), .int lo])) := (congrFun e_w9 _).trans ((mwu_ne (mw_oa h_w8_h0 h_w8_an)).trans h_w8_h0)
          have h_w9_ak : w9 ak = some (eI cI (2 * k) (upd (shD f (h + 1) i) i ((shD f (h + 1) i) (i - 1)))) := (congrFun e_w9 _).trans ((mwu_ne hka).trans h_w8_ak)
          have h_w9_an : w9 an = some (eI cI (2 * k) (upd (shD g (h + 1) i) i ((shD g (h + 1) i) (i - 1)))) := (congrFun e_w9 _).trans mwu_eq
          have fr_w9 : ∀ zz : Nat, zz ≠ ak → zz ≠ an → w9 zz = w zz := fun zz g0 g1 => (congrFun e_w9 zz).trans ((mwu_ne g1).trans (fr_w8 zz g0 g1))
          refine mg_iinc C (v := nI (i - 1)) (lv' := [(4, .int (nI (i - 1))), (0, .ref h0), (1, .int x), (2, .int n), (3, .int (nI (plc f x h)))]) dX1_add_98 rfl (ni_dec (by omega)) (by decide) rfl ?_
          refine mg_goto C (tgt := 60) dX1_add_101 (by decide) ?_
          have h9ak : w9 ak = some (eI cI (2 * k) (shD f (h + 1) (i - 1))) := by rw [h_w9_ak]; exact congrArg (fun q => some (eI cI (2 * k) q)) (shD_s f (by omega) (by omega))
          have h9an : w9 an = some (eI cI (2 * k) (shD g (h + 1) (i - 1))) := by rw [h_w9_an]; exact congrArg (fun q => some (eI cI (2 * k) q)) (shD_s g (by omega) (by omega))
          refine mg_sub (lv' := [(0, .ref h0), (1, .int x), (2, .int n), (3, .int (nI (plc f x h))), (4, .int (nI (i - 1)))]) [1, 2, 3, 4, 0] rfl ?_
          exact ih60 ((i - 1)) (by omega) (by omega) (by omega) w9 h_w9_h0 h9ak h9an (fun zz g0 g1 => fr_w9 zz g0 g1)
    refine mg_sub (lv' := [(0, .ref h0), (1, .int x), (2, .int n), (3, .int (nI (plc f x h))), (4, .int (nI h))]) [2, 3, 4, 1, 0] rfl ?_
    exact L60 (_ + 1) h (Nat.lt_succ_self _) (by omega) (by omega) w hh h9ak h9an (fun zz g0 g1 => fr_w zz )

set_option maxHeartbeats 4000000 in
set_option maxRecDepth 20000 in
theorem c_X1_leastNumber (D : va_G) (cI cS : ClassId) (w : mwT) (h0 ak an k sd h : Nat) (tot mov lo : Int32) (f g : Nat → Int32) (lim : Int32) (hh : w h0 = some (.inr (1, [.int (nI 0), .int (nI k), .int (nI sd), .int tot, .int mov, .ref ak, .ref an, .int (nI h), .int lo]))) (hak : w ak = some (eI cI (2 * k) f)) (han : w an = some (eI cI (2 * k) g)) (hk1 : 1 ≤ k) (hk2 : k ≤ 20) (hh2 : h ≤ 2 * k) : mMi yX1_leastNumber cX1_leastNumber 4 (some .int) (rmL 1) [.ref h0, .int lim] D cI cS w (fun r w1 => r = lsN g lim h ∧ w1 = w) := by
  refine mMi.of (by decide) (Nat.le_of_ble_eq_true rfl) ?_
  intro X C hN hR
  refine mg_sub (lv' := [(0, .ref h0), (1, .int lim)]) [0, 1] rfl ?_
  refine mg_iload_n C dX1_leastNumber_0 rfl ?_
  refine mg_istore_n C (lv' := [(2, .int lim), (0, .ref h0), (1, .int lim)]) dX1_leastNumber_1 rfl (by decide) rfl ?_
  refine mg_iconst C (v := nI 0) dX1_leastNumber_2 (by decide) ?_
  refine mg_istore_n C (lv' := [(3, .int (nI 0)), (2, .int lim), (0, .ref h0), (1, .int lim)]) dX1_leastNumber_3 rfl (by decide) rfl ?_
  have L4 : ∀ (M4 : Nat) (i : Nat), h - i < M4 → (i ≤ h) → mwG X 0 0 w [(0, .ref h0), (1, .int lim), (2, .int (lsN g lim i)), (3, .int (nI i))] [] 4 := by
    intro M4
    induction M4 with
    | zero => intro i hm4; exact absurd hm4 (Nat.not_lt_zero _)
    | succ M4 ih4 =>
      intro i hm4 hi
      refine mg_iload_n C dX1_leastNumber_4 rfl ?_
      refine mg_aload_n C dX1_leastNumber_5 rfl ?_
      refine mg_get C inT1 hh rfl 7 (by decide) kw_67 (Or.inl rfl) rfl dX1_leastNumber_6 ?_
      refine mg_icmpN_ge C (tgt := 38) dX1_leastNumber_9 (by decide) (by omega) (by omega) (fun c_9 => ?_) (fun c_9 => ?_)
      · refine mg_iload_n C dX1_leastNumber_38 rfl ?_
        have ei : i = h := by omega
        exact hR _ _ _ _ dX1_leastNumber_39 ⟨by rw [ei], rfl⟩
      · refine mg_iload_n C dX1_leastNumber_12 rfl ?_
        refine mg_aload_n C dX1_leastNumber_13 rfl ?_
        refine mg_get C inT1 hh rfl 6 (by decide) kw_66 (Or.inl rfl) rfl dX1_leastNumber_14 ?_
        refine mg_alen C han dX1_leastNumber_17 ?_
        refine mg_icmpN_ge C (tgt := 38) dX1_leastNumber_18 (by decide) (by omega) (by omega) (fun c_18 => absurd c_18 (by omega)) (fun c_18 => ?_)
        refine mg_iload_n C dX1_leastNumber_21 rfl ?_
        refine mg_aload_n C dX1_leastNumber_22 rfl ?_
        refine mg_get C inT1 hh rfl 6 (by decide) kw_66 (Or.inl rfl) rfl dX1_leastNumber_23 ?_
        refine mg_iload_n C dX1_leastNumber_26 rfl ?_
        refine mg_ialdN C han (by omega) (by omega) dX1_leastNumber_27 ?_
        refine mg_mmin C (z := if g i < lsN g lim i then g i else lsN g lim i) dX1_leastNumber_28 kw_279 ⟨Nat.le_of_ble_eq_true rfl, Nat.le_of_ble_eq_true rfl⟩ ⟨by decide, by decide⟩ rfl ?_
        refine mg_istore_n C (lv' := [(2, .int (if g i < lsN g lim i then g i else lsN g lim i)), (0, .ref h0), (1, .int lim), (3, .int (nI i))]) dX1_leastNumber_31 rfl (by decide) rfl ?_
        refine mg_iinc C (v := nI (i + 1)) (lv' := [(3, .int (nI (i + 1))), (2, .int (if g i < lsN g lim i then g i else lsN g lim i)), (0, .ref h0), (1, .int lim)]) dX1_leastNumber_32 rfl (ni_inc _) (by decide) rfl ?_
        refine mg_goto C (tgt := 4) dX1_leastNumber_35 (by decide) ?_
        refine mg_sub (lv' := [(0, .ref h0), (1, .int lim), (2, .int (if g i < lsN g lim i then g i else lsN g lim i)), (3, .int (nI (i + 1)))]) [2, 3, 1, 0] rfl ?_
        exact ih4 ((i + 1)) (by omega) (by omega)
  refine mg_sub (lv' := [(0, .ref h0), (1, .int lim), (2, .int lim), (3, .int (nI 0))]) [2, 3, 1, 0] rfl ?_
  exact L4 (_ + 1) 0 (Nat.lt_succ_self _) (Nat.zero_le _)

set_option maxHeartbeats 4000000 in
set_option maxRecDepth 20000 in
theorem c_X1_lower (D : va_G) (cI cS : ClassId) (w : mwT) (h0 ak an k sd h : Nat) (tot mov lo : Int32) (f g : Nat → Int32) (d : Int32) (hh : w h0 = some (.inr (1, [.int (nI 0), .int (nI k), .int (nI sd), .int tot, .int mov, .ref ak, .ref an, .int (nI h), .int lo]))) (hak : w ak = some (eI cI (2 * k) f)) (han : w an = some (eI cI (2 * k) g)) (hk1 : 1 ≤ k) (hk2 : k ≤ 20) (hh2 : h ≤ 2 * k) (hka : ak ≠ an) : mMv yX1_lower cX1_lower 4 none (rmL 1) [.ref h0, .int d] D cI cS w (fun w1 => w1 h0 = some (.inr (1, [.int (nI 0), .int (nI k), .int (nI sd), .int tot, .int mov, .ref ak, .ref an, .int (nI ((lwH f g d h).2.2)), .int (lo + d)])) ∧ w1 ak = some (eI cI (2 * k) (lwH f g d h).1) ∧ w1 an = some (eI cI (2 * k) (lwH f g d h).2.1) ∧ ∀ z : Nat, z ≠ h0 → z ≠ ak → z ≠ an → w1 z = w z) := by
  refine mMv.of (by decide) (Nat.le_of_ble_eq_true rfl) ?_
  intro X C hN hR
  have fr_w : ∀ zz : Nat, w zz = w zz := fun _ => rfl
  refine mg_sub (lv' := [(0, .ref h0), (1, .int d)]) [0, 1] rfl ?_
  refine mg_aload_n C dX1_lower_0 rfl ?_
  refine mg_dup C dX1_lower_1 rfl ?_
  refine mg_get C inT1 hh rfl 8 (by decide) kw_68 (Or.inl rfl) rfl dX1_lower_2 ?_
  refine mg_iload_n C dX1_lower_5 rfl ?_
  refine mg_iadd C (z := lo + d) dX1_lower_6 rfl ?_
  refine mg_put C (fs' := [.int (nI 0), .int (nI k), .int (nI sd), .int tot, .int mov, .ref ak, .ref an, .int (nI h), .int (lo + d)]) inT1 hh rfl 8 (by decide) kw_68 (Or.inl rfl) tyX1_ok nmX1 rfl rfl rfl rfl (Nat.le_of_ble_eq_true rfl) dX1_lower_7 (fun w1 e_w1 => ?_)
  have h_w1_h0 : w1 h0 = some (.inr (1, [.int (nI 0), .int (nI k), .int (nI sd), .int tot, .int mov, .ref ak, .ref an, .int (nI h), .int (lo + d)])) := (congrFun e_w1 _).trans mwu_eq
  have h_w1_ak : w1 ak = some (eI cI (2 * k) f) := (congrFun e_w1 _).trans ((mwu_ne (mw_ao hak hh)).trans hak)
  have h_w1_an : w1 an = some (eI cI (2 * k) g) := (congrFun e_w1 _).trans ((mwu_ne (mw_ao han hh)).trans han)
  have fr_w1 : ∀ zz : Nat, zz ≠ h0 → w1 zz = w zz := fun zz g0 => (congrFun e_w1 zz).trans ((mwu_ne g0).trans (fr_w zz ))
  refine mg_iconst C (v := nI 0) dX1_lower_10 (by decide) ?_
  refine mg_istore_n C (lv' := [(2, .int (nI 0)), (0, .ref h0), (1, .int d)]) dX1_lower_11 rfl (by decide) rfl ?_
  refine mg_iconst C (v := nI 0) dX1_lower_12 (by decide) ?_
  refine mg_istore_n C (lv' := [(3, .int (nI 0)), (2, .int (nI 0)), (0, .ref h0), (1, .int d)]) dX1_lower_13 rfl (by decide) rfl ?_
  have L14 : ∀ (M14 : Nat) (i : Nat), h - i < M14 → (i ≤ h) → ∀ (w2 : mwT), w2 h0 = some (.inr (1, [.int (nI 0), .int (nI k), .int (nI sd), .int tot, .int mov, .ref ak, .ref an, .int (nI h), .int (lo + d)])) → w2 ak = some (eI cI (2 * k) ((lwH f g d i).1)) → w2 an = some (eI cI (2 * k) ((lwH f g d i).2.1)) → (∀ zz : Nat, zz ≠ h0 → zz ≠ ak → zz ≠ an → w2 zz = w zz) → mwG X 0 0 w2 [(0, .ref h0), (1, .int d), (2, .int (nI ((lwH f g d i).2.2))), (3, .int (nI i))] [] 14 := by
    intro M14
    induction M14 with
    | zero => intro i hm14; exact absurd hm14 (Nat.not_lt_zero _)
    | succ M14 ih14 =>
      intro i hm14 hi w2 h_w2_h0 h_w2_ak h_w2_an fr_w2
      refine mg_iload_n C dX1_lower_14 rfl ?_
      refine mg_aload_n C dX1_lower_15 rfl ?_
      refine mg_get C inT1 h_w2_h0 rfl 7 (by decide) kw_67 (Or.inl rfl) rfl dX1_lower_16 ?_
      refine mg_icmpN_ge C (tgt := 76) dX1_lower_19 (by decide) (by omega) (by omega) (fun c_19 => ?_) (fun c_19 => ?_)
      · refine mg_aload_n C dX1_lower_76 rfl ?_
        refine mg_iload_n C dX1_lower_77 rfl ?_
        refine mg_put C (fs' := [.int (nI 0), .int (nI k), .int (nI sd), .int tot, .int mov, .ref ak, .ref an, .int (nI ((lwH f g d i).2.2)), .int (lo + d)]) inT1 h_w2_h0 rfl 7 (by decide) kw_67 (Or.inl rfl) tyX1_ok nmX1 rfl rfl rfl rfl (Nat.le_of_ble_eq_true rfl) dX1_lower_78 (fun w3 e_w3 => ?_)
        have h_w3_h0 : w3 h0 = some (.inr (1, [.int (nI 0), .int (nI k), .int (nI sd), .int tot, .int mov, .ref ak, .ref an, .int (nI ((lwH f g d i).2.2)), .int (lo + d)])) := (congrFun e_w3 _).trans mwu_eq
        have h_w3_ak : w3 ak = some (eI cI (2 * k) ((lwH f g d i).1)) := (congrFun e_w3 _).trans ((mwu_ne (mw_ao h_w2_ak h_w2_h0)).trans h_w2_ak)
        have h_w3_an : w3 an = some (eI cI (2 * k) ((lwH f g d i).2.1)) := (congrFun e_w3 _).trans ((mwu_ne (mw_ao h_w2_an h_w2_h0)).trans h_w2_an)
        have fr_w3 : ∀ zz : Nat, zz ≠ h0 → zz ≠ ak → zz ≠ an → w3 zz = w zz := fun zz g0 g1 g2 => (congrFun e_w3 zz).trans ((mwu_ne g0).trans (fr_w2 zz g0 g1 g2))
        have ei : i = h := by omega
        rw [ei] at h_w3_h0
        rw [ei] at h_w3_ak
        rw [ei] at h_w3_an
        exact hR _ _ _ dX1_lower_81 ⟨h_w3_h0, h_w3_ak, h_w3_an, fun z q0 q1 q2 => fr_w3 z q0 q1 q2⟩
      · refine mg_iload_n C dX1_lower_22 rfl ?_
        refine mg_aload_n C dX1_lower_23 rfl ?_
        refine mg_get C inT1 h_w2_h0 rfl 5 (by decide) kw_65 (Or.inl rfl) rfl dX1_lower_24 ?_
        refine mg_alen C h_w2_ak dX1_lower_27 ?_
        refine mg_icmpN_ge C (tgt := 76) dX1_lower_28 (by decide) (by omega) (by omega) (fun c_28 => absurd c_28 (by omega)) (fun c_28 => ?_)
        refine mg_aload_n C dX1_lower_31 rfl ?_
        refine mg_get C inT1 h_w2_h0 rfl 6 (by decide) kw_66 (Or.inl rfl) rfl dX1_lower_32 ?_
        refine mg_iload_n C dX1_lower_35 rfl ?_
        refine mg_ialdN C h_w2_an (by omega) (by omega) dX1_lower_36 ?_
        refine mg_iload_n C dX1_lower_37 rfl ?_
        refine mg_icmp_le C (tgt := 70) dX1_lower_38 (by decide) (fun c_38 => ?_) (fun c_38 => ?_)
        · have el := lwH_skip c_38
          have h7ak : w2 ak = some (eI cI (2 * k) (lwH f g d (i + 1)).1) := by rw [el]; exact h_w2_ak
          have h7an : w2 an = some (eI cI (2 * k) (lwH f g d (i + 1)).2.1) := by rw [el]; exact h_w2_an
          have el2 : nI ((lwH f g d i).2.2) = nI (lwH f g d (i + 1)).2.2 := by rw [el]
          rw [el2]
          refine mg_iinc C (v := nI (i + 1)) (lv' := [(3, .int (nI (i + 1))), (0, .ref h0), (1, .int d), (2, .int (nI ((lwH f g d (i + 1)).2.2)))]) dX1_lower_70 rfl (ni_inc _) (by decide) rfl ?_
          refine mg_goto C (tgt := 14) dX1_lower_73 (by decide) ?_
          refine mg_sub (lv' := [(0, .ref h0), (1, .int d), (2, .int (nI ((lwH f g d (i + 1)).2.2))), (3, .int (nI (i + 1)))]) [1, 2, 3, 0] rfl ?_
          exact ih14 ((i + 1)) (by omega) (by omega) w2 h_w2_h0 h7ak h7an (fun zz g0 g1 g2 => fr_w2 zz g0 g1 g2)
        · have hle := lwH_le f g d i
          refine mg_aload_n C dX1_lower_41 rfl ?_
          refine mg_get C inT1 h_w2_h0 rfl 5 (by decide) kw_65 (Or.inl rfl) rfl dX1_lower_42 ?_
          refine mg_iload_n C dX1_lower_45 rfl ?_
          refine mg_aload_n C dX1_lower_46 rfl ?_
          refine mg_get C inT1 h_w2_h0 rfl 5 (by decide) kw_65 (Or.inl rfl) rfl dX1_lower_47 ?_
          refine mg_iload_n C dX1_lower_50 rfl ?_
          refine mg_ialdN C h_w2_ak (by omega) (by omega) dX1_lower_51 ?_
          refine mg_iastN C h_w2_ak (by omega) (by omega) dX1_lower_52 (fun w4 e_w4 => ?_)
          have h_w4_h0 : w4 h0 = some (.inr (1, [.int (nI 0), .int (nI k), .int (nI sd), .int tot, .int mov, .ref ak, .ref an, .int (nI h), .int (lo + d)])) := (congrFun e_w4 _).trans ((mwu_ne (mw_oa h_w2_h0 h_w2_ak)).trans h_w2_h0)
          have h_w4_ak : w4 ak = some (eI cI (2 * k) (upd ((lwH f g d i).1) ((lwH f g d i).2.2) (((lwH f g d i).1) i))) := (congrFun e_w4 _).trans mwu_eq
          have h_w4_an : w4 an = some (eI cI (2 * k) ((lwH f g d i).2.1)) := (congrFun e_w4 _).trans ((mwu_ne (Ne.symm hka)).trans h_w2_an)
          have fr_w4 : ∀ zz : Nat, zz ≠ h0 → zz ≠ ak → zz ≠ an → w4 zz = w zz := fun zz g0 g1 g2 => (congrFun e_w4 zz).trans ((mwu_ne g1).trans (fr_w2 zz g0 g1 g2))
          refine mg_aload_n C dX1_lower_53 rfl ?_
          refine mg_get C inT1 h_w4_h0 rfl 6 (by decide) kw_66 (Or.inl rfl) rfl dX1_lower_54 ?_
          refine mg_iload_n C dX1_lower_57 rfl ?_
          refine mg_aload_n C dX1_lower_58 rfl ?_
          refine mg_get C inT1 h_w4_h0 rfl 6 (by decide) kw_66 (Or.inl rfl) rfl dX1_lower_59 ?_
          refine mg_iload_n C dX1_lower_62 rfl ?_
          refine mg_ialdN C h_w4_an (by omega) (by omega) dX1_lower_63 ?_
          refine mg_iload_n C dX1_lower_64 rfl ?_
          refine mg_isub C (z := (((lwH f g d i).2.1) i) - d) dX1_lower_65 rfl ?_
          refine mg_iastN C h_w4_an (by omega) (by omega) dX1_lower_66 (fun w5 e_w5 => ?_)
          have h_w5_h0 : w5 h0 = some (.inr (1, [.int (nI 0), .int (nI k), .int (nI sd), .int tot, .int mov, .ref ak, .ref an, .int (nI h), .int (lo + d)])) := (congrFun e_w5 _).trans ((mwu_ne (mw_oa h_w4_h0 h_w4_an)).trans h_w4_h0)
          have h_w5_ak : w5 ak = some (eI cI (2 * k) (upd ((lwH f g d i).1) ((lwH f g d i).2.2) (((lwH f g d i).1) i))) := (congrFun e_w5 _).trans ((mwu_ne hka).trans h_w4_ak)
          have h_w5_an : w5 an = some (eI cI (2 * k) (upd ((lwH f g d i).2.1) ((lwH f g d i).2.2) ((((lwH f g d i).2.1) i) - d))) := (congrFun e_w5 _).trans mwu_eq
          have fr_w5 : ∀ zz : Nat, zz ≠ h0 → zz ≠ ak → zz ≠ an → w5 zz = w zz := fun zz g0 g1 g2 => (congrFun e_w5 zz).trans ((mwu_ne g2).trans (fr_w4 zz g0 g1 g2))
          refine mg_iinc C (v := nI ((lwH f g d i).2.2 + 1)) (lv' := [(2, .int (nI ((lwH f g d i).2.2 + 1))), (0, .ref h0), (1, .int d), (3, .int (nI i))]) dX1_lower_67 rfl (ni_inc _) (by decide) rfl ?_
          have el := lwH_keep c_38
          have h7ak : w5 ak = some (eI cI (2 * k) (lwH f g d (i + 1)).1) := by rw [el]; exact h_w5_ak
          have h7an : w5 an = some (eI cI (2 * k) (lwH f g d (i + 1)).2.1) := by rw [el]; exact h_w5_an
          have el2 : nI ((lwH f g d i).2.2 + 1) = nI (lwH f g d (i + 1)).2.2 := by rw [el]
          rw [el2]
          refine mg_iinc C (v := nI (i + 1)) (lv' := [(3, .int (nI (i + 1))), (2, .int (nI ((lwH f g d (i + 1)).2.2))), (0, .ref h0), (1, .int d)]) dX1_lower_70 rfl (ni_inc _) (by decide) rfl ?_
          refine mg_goto C (tgt := 14) dX1_lower_73 (by decide) ?_
          refine mg_sub (lv' := [(0, .ref h0), (1, .int d), (2, .int (nI ((lwH f g d (i + 1)).2.2))), (3, .int (nI (i + 1)))]) [2, 3, 1, 0] rfl ?_
          exact ih14 ((i + 1)) (by omega) (by omega) w5 h_w5_h0 h7ak h7an (fun zz g0 g1 g2 => fr_w5 zz g0 g1 g2)
  refine mg_sub (lv' := [(0, .ref h0), (1, .int d), (2, .int (nI 0)), (3, .int (nI 0))]) [2, 3, 1, 0] rfl ?_
  exact L14 (_ + 1) 0 (Nat.lt_succ_self _) (Nat.zero_le _) w1 h_w1_h0 h_w1_ak h_w1_an (fun zz g0 g1 g2 => fr_w1 zz g0)

set_option maxHeartbeats 4000000 in
set_option maxRecDepth 20000 in
theorem c_X1_howManyNotBelow (D : va_G) (cI cS : ClassId) (w : mwT) (h0 ak an k sd h : Nat) (tot mov lo : Int32) (f g : Nat → Int32) (v : Int32) (hh : w h0 = some (.inr (1, [.int (nI 0), .int (nI k), .int (nI sd), .int tot, .int mov, .ref ak, .ref an, .int (nI h), .int lo]))) (hak : w ak = some (eI cI (2 * k) f)) (han : w an = some (eI cI (2 * k) g)) (hk1 : 1 ≤ k) (hk2 : k ≤ 20) (hh2 : h ≤ 2 * k) : mMi yX1_howManyNotBelow cX1_howManyNotBelow 4 (some .int) (rmL 1) [.ref h0, .int v] D cI cS w (fun r w1 => r = nI (hnB g v h) ∧ w1 = w) := by
  refine mMi.of (by decide) (Nat.le_of_ble_eq_true rfl) ?_
  intro X C hN hR
  refine mg_sub (lv' := [(0, .ref h0), (1, .int v)]) [0, 1] rfl ?_
  refine mg_iconst C (v := nI 0) dX1_howManyNotBelow_0 (by decide) ?_
  refine mg_istore_n C (lv' := [(2, .int (nI 0)), (0, .ref h0), (1, .int v)]) dX1_howManyNotBelow_1 rfl (by decide) rfl ?_
  refine mg_iconst C (v := nI 0) dX1_howManyNotBelow_2 (by decide) ?_
  refine mg_istore_n C (lv' := [(3, .int (nI 0)), (2, .int (nI 0)), (0, .ref h0), (1, .int v)]) dX1_howManyNotBelow_3 rfl (by decide) rfl ?_
  have L4 : ∀ (M4 : Nat) (i : Nat), h - i < M4 → (i ≤ h) → mwG X 0 0 w [(0, .ref h0), (1, .int v), (2, .int (nI (hnB g v i))), (3, .int (nI i))] [] 4 := by
    intro M4
    induction M4 with
    | zero => intro i hm4; exact absurd hm4 (Nat.not_lt_zero _)
    | succ M4 ih4 =>
      intro i hm4 hi
      refine mg_iload_n C dX1_howManyNotBelow_4 rfl ?_
      refine mg_aload_n C dX1_howManyNotBelow_5 rfl ?_
      refine mg_get C inT1 hh rfl 7 (by decide) kw_67 (Or.inl rfl) rfl dX1_howManyNotBelow_6 ?_
      refine mg_icmpN_ge C (tgt := 40) dX1_howManyNotBelow_9 (by decide) (by omega) (by omega) (fun c_9 => ?_) (fun c_9 => ?_)
      · refine mg_iload_n C dX1_howManyNotBelow_40 rfl ?_
        have ei : i = h := by omega
        exact hR _ _ _ _ dX1_howManyNotBelow_41 ⟨by rw [ei], rfl⟩
      · refine mg_iload_n C dX1_howManyNotBelow_12 rfl ?_
        refine mg_aload_n C dX1_howManyNotBelow_13 rfl ?_
        refine mg_get C inT1 hh rfl 6 (by decide) kw_66 (Or.inl rfl) rfl dX1_howManyNotBelow_14 ?_
        refine mg_alen C han dX1_howManyNotBelow_17 ?_
        refine mg_icmpN_ge C (tgt := 40) dX1_howManyNotBelow_18 (by decide) (by omega) (by omega) (fun c_18 => absurd c_18 (by omega)) (fun c_18 => ?_)
        refine mg_aload_n C dX1_howManyNotBelow_21 rfl ?_
        refine mg_get C inT1 hh rfl 6 (by decide) kw_66 (Or.inl rfl) rfl dX1_howManyNotBelow_22 ?_
        refine mg_iload_n C dX1_howManyNotBelow_25 rfl ?_
        refine mg_ialdN C han (by omega) (by omega) dX1_howManyNotBelow_26 ?_
        refine mg_iload_n C dX1_howManyNotBelow_27 rfl ?_
        refine mg_icmp_lt C (tgt := 34) dX1_howManyNotBelow_28 (by decide) (fun c_28 => ?_) (fun c_28 => ?_)
        · rw [← hnB_z c_28]
          refine mg_iinc C (v := nI (i + 1)) (lv' := [(3, .int (nI (i + 1))), (0, .ref h0), (1, .int v), (2, .int (nI (hnB g v (i + 1))))]) dX1_howManyNotBelow_34 rfl (ni_inc _) (by decide) rfl ?_
          refine mg_goto C (tgt := 4) dX1_howManyNotBelow_37 (by decide) ?_
          refine mg_sub (lv' := [(0, .ref h0), (1, .int v), (2, .int (nI (hnB g v (i + 1)))), (3, .int (nI (i + 1)))]) [1, 2, 3, 0] rfl ?_
          exact ih4 ((i + 1)) (by omega) (by omega)
        · refine mg_iinc C (v := nI (hnB g v i + 1)) (lv' := [(2, .int (nI (hnB g v i + 1))), (0, .ref h0), (1, .int v), (3, .int (nI i))]) dX1_howManyNotBelow_31 rfl (ni_inc _) (by decide) rfl ?_
          rw [← hnB_s c_28]
          refine mg_iinc C (v := nI (i + 1)) (lv' := [(3, .int (nI (i + 1))), (2, .int (nI (hnB g v (i + 1)))), (0, .ref h0), (1, .int v)]) dX1_howManyNotBelow_34 rfl (ni_inc _) (by decide) rfl ?_
          refine mg_goto C (tgt := 4) dX1_howManyNotBelow_37 (by decide) ?_
          refine mg_sub (lv' := [(0, .ref h0), (1, .int v), (2, .int (nI (hnB g v (i + 1)))), (3, .int (nI (i + 1)))]) [2, 3, 1, 0] rfl ?_
          exact ih4 ((i + 1)) (by omega) (by omega)
  refine mg_sub (lv' := [(0, .ref h0), (1, .int v), (2, .int (nI 0)), (3, .int (nI 0))]) [2, 3, 1, 0] rfl ?_
  exact L4 (_ + 1) 0 (Nat.lt_succ_self _) (Nat.zero_le _)

set_option maxHeartbeats 4000000 in
set_option maxRecDepth 20000 in
theorem c_X1_firstNumberTooMany (D : va_G) (cI cS : ClassId) (w : mwT) (h0 ak an k sd h : Nat) (tot mov lo : Int32) (f g : Nat → Int32) (hh : w h0 = some (.inr (1, [.int (nI 0), .int (nI k), .int (nI sd), .int tot, .int mov, .ref ak, .ref an, .int (nI h), .int lo]))) (hak : w ak = some (eI cI (2 * k) f)) (han : w an = some (eI cI (2 * k) g)) (hk1 : 1 ≤ k) (hk2 : k ≤ 20) (hh2 : h ≤ 2 * k) : mMi yX1_firstNumberTooMany cX1_firstNumberTooMany 3 (some .int) (rmL 2) [.ref h0] D cI cS w (fun r w1 => r = fnH g k h h ∧ w1 = w) := by
  refine mMi.of (by decide) (Nat.le_of_ble_eq_true rfl) ?_
  intro X C hN hR
  refine mg_sub (lv' := [(0, .ref h0)]) [0] rfl ?_
  refine mg_iconst C (v := nI 0) dX1_firstNumberTooMany_0 (by decide) ?_
  refine mg_istore_n C (lv' := [(1, .int (nI 0)), (0, .ref h0)]) dX1_firstNumberTooMany_1 rfl (by decide) rfl ?_
  refine mg_iconst C (v := nI 0) dX1_firstNumberTooMany_2 (by decide) ?_
  refine mg_istore_n C (lv' := [(2, .int (nI 0)), (1, .int (nI 0)), (0, .ref h0)]) dX1_firstNumberTooMany_3 rfl (by decide) rfl ?_
  have L4 : ∀ (M4 : Nat) (i : Nat), h - i < M4 → (i ≤ h) → mwG X 0 0 w [(0, .ref h0), (1, .int (fnH g k h i)), (2, .int (nI i))] [] 4 := by
    intro M4
    induction M4 with
    | zero => intro i hm4; exact absurd hm4 (Nat.not_lt_zero _)
    | succ M4 ih4 =>
      intro i hm4 hi
      refine mg_iload_n C dX1_firstNumberTooMany_4 rfl ?_
      refine mg_aload_n C dX1_firstNumberTooMany_5 rfl ?_
      refine mg_get C inT1 hh rfl 7 (by decide) kw_67 (Or.inl rfl) rfl dX1_firstNumberTooMany_6 ?_
      refine mg_icmpN_ge C (tgt := 61) dX1_firstNumberTooMany_9 (by decide) (by omega) (by omega) (fun c_9 => ?_) (fun c_9 => ?_)
      · refine mg_iload_n C dX1_firstNumberTooMany_61 rfl ?_
        have ei : i = h := by omega
        exact hR _ _ _ _ dX1_firstNumberTooMany_62 ⟨by rw [ei], rfl⟩
      · refine mg_iload_n C dX1_firstNumberTooMany_12 rfl ?_
        refine mg_aload_n C dX1_firstNumberTooMany_13 rfl ?_
        refine mg_get C inT1 hh rfl 6 (by decide) kw_66 (Or.inl rfl) rfl dX1_firstNumberTooMany_14 ?_
        refine mg_alen C han dX1_firstNumberTooMany_17 ?_
        refine mg_icmpN_ge C (tgt := 61) dX1_firstNumberTooMany_18 (by decide) (by omega) (by omega) (fun c_18 => absurd c_18 (by omega)) (fun c_18 => ?_)
        refine mg_aload_n C dX1_firstNumberTooMany_21 rfl ?_
        refine mg_get C inT1 hh rfl 6 (by decide) kw_66 (Or.inl rfl) rfl dX1_firstNumberTooMany_22 ?_
        refine mg_iload_n C dX1_firstNumberTooMany_25 rfl ?_
        refine mg_ialdN C han (by omega) (by omega) dX1_firstNumberTooMany_26 ?_
        refine mg_iload_n C dX1_firstNumberTooMany_27 rfl ?_
        refine mg_icmp_le C (tgt := 55) dX1_firstNumberTooMany_28 (by decide) (fun c_28 => ?_) (fun c_28 => ?_)
        · have ef : fnH g k h (i + 1) = fnH g k h i := if_neg (fun q => q.1 c_28)
          rw [← ef]
          refine mg_iinc C (v := nI (i + 1)) (lv' := [(2, .int (nI (i + 1))), (0, .ref h0), (1, .int (fnH g k h (i + 1)))]) dX1_firstNumberTooMany_55 rfl (ni_inc _) (by decide) rfl ?_
          refine mg_goto C (tgt := 4) dX1_firstNumberTooMany_58 (by decide) ?_
          refine mg_sub (lv' := [(0, .ref h0), (1, .int (fnH g k h (i + 1))), (2, .int (nI (i + 1)))]) [1, 2, 0] rfl ?_
          exact ih4 ((i + 1)) (by omega) (by omega)
        · refine mg_aload_n C dX1_firstNumberTooMany_31 rfl ?_
          refine mg_aload_n C dX1_firstNumberTooMany_32 rfl ?_
          refine mg_get C inT1 hh rfl 6 (by decide) kw_66 (Or.inl rfl) rfl dX1_firstNumberTooMany_33 ?_
          refine mg_iload_n C dX1_firstNumberTooMany_36 rfl ?_
          refine mg_ialdN C han (by omega) (by omega) dX1_firstNumberTooMany_37 ?_
          refine mg_callV_i C hh rfl (rest := []) (c_X1_howManyNotBelow D cI cS w h0 ak an k sd h tot mov lo f g (g i) hh hak han hk1 hk2 hh2) yq_X1_howManyNotBelow kw_402 kw_403 kw_404 ⟨by decide, by decide⟩ ⟨Nat.le_of_ble_eq_true rfl, Nat.le_of_ble_eq_true rfl⟩ (Nat.le_of_ble_eq_true rfl) rfl rfl dX1_firstNumberTooMany_38 (fun r1 w2 ⟨e_r1, e_w2⟩ => ?_)
          rw [e_w2, e_r1]
          have hnl := hnB_le g (g i) h
          refine mg_aload_n C dX1_firstNumberTooMany_41 rfl ?_
          refine mg_get C inT1 hh rfl 1 (by decide) kw_149 (Or.inr kw_150) rfl dX1_firstNumberTooMany_42 ?_
          refine mg_icmpN_le C (tgt := 55) dX1_firstNumberTooMany_45 (by decide) (by omega) (by omega) (fun c_45 => ?_) (fun c_45 => ?_)
          · have ef : fnH g k h (i + 1) = fnH g k h i := if_neg (fun q => absurd q.2 (by omega))
            rw [← ef]
            refine mg_iinc C (v := nI (i + 1)) (lv' := [(2, .int (nI (i + 1))), (0, .ref h0), (1, .int (fnH g k h (i + 1)))]) dX1_firstNumberTooMany_55 rfl (ni_inc _) (by decide) rfl ?_
            refine mg_goto C (tgt := 4) dX1_firstNumberTooMany_58 (by decide) ?_
            refine mg_sub (lv' := [(0, .ref h0), (1, .int (fnH g k h (i + 1))), (2, .int (nI (i + 1)))]) [1, 2, 0] rfl ?_
            exact ih4 ((i + 1)) (by omega) (by omega)
          · refine mg_aload_n C dX1_firstNumberTooMany_48 rfl ?_
            refine mg_get C inT1 hh rfl 6 (by decide) kw_66 (Or.inl rfl) rfl dX1_firstNumberTooMany_49 ?_
            refine mg_iload_n C dX1_firstNumberTooMany_52 rfl ?_
            refine mg_ialdN C han (by omega) (by omega) dX1_firstNumberTooMany_53 ?_
            refine mg_istore_n C (lv' := [(1, .int (g i)), (0, .ref h0), (2, .int (nI i))]) dX1_firstNumberTooMany_54 rfl (by decide) rfl ?_
            have ef : fnH g k h (i + 1) = g i := if_pos ⟨c_28, c_45⟩
            rw [← ef]
            refine mg_iinc C (v := nI (i + 1)) (lv' := [(2, .int (nI (i + 1))), (1, .int (fnH g k h (i + 1))), (0, .ref h0)]) dX1_firstNumberTooMany_55 rfl (ni_inc _) (by decide) rfl ?_
            refine mg_goto C (tgt := 4) dX1_firstNumberTooMany_58 (by decide) ?_
            refine mg_sub (lv' := [(0, .ref h0), (1, .int (fnH g k h (i + 1))), (2, .int (nI (i + 1)))]) [2, 1, 0] rfl ?_
            exact ih4 ((i + 1)) (by omega) (by omega)
  refine mg_sub (lv' := [(0, .ref h0), (1, .int (nI 0)), (2, .int (nI 0))]) [2, 1, 0] rfl ?_
  exact L4 (_ + 1) 0 (Nat.lt_succ_self _) (Nat.zero_le _)
