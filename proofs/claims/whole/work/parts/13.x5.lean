set_option maxHeartbeats 4000000 in
set_option maxRecDepth 20000 in
theorem c_X5_mayTake (D : va_G) (cI cS : ClassId) (w : mwT) (h0 : Nat) (x : Int32) : mMi yX5_mayTake cX5_mayTake 2 (some .boolean) (rmL 1) [.ref h0, .int x] D cI cS w (fun r w1 => ((r = nI 1 ∧ tkOk x) ∨ (r = nI 0 ∧ ¬ tkOk x)) ∧ w1 = w) := by
  refine mMz.of (by decide) (Nat.le_of_ble_eq_true rfl) ?_
  intro X C hN hR
  refine mg_sub (lv' := [(0, .ref h0), (1, .int x)]) [0, 1] rfl ?_
  refine mg_iload_n C dX5_mayTake_0 rfl ?_
  refine mg_sipush C (v := (-1000 : Int32)) dX5_mayTake_1 (by decide) ?_
  refine mg_icmp_lt C (tgt := 22) dX5_mayTake_4 (by decide) (fun c_4 => ?_) (fun c_4 => ?_)
  · refine mg_iconst C (v := nI 0) dX5_mayTake_22 (by decide) ?_
    exact hR _ _ _ _ dX5_mayTake_23 (Or.inl rfl) ⟨Or.inr ⟨rfl, fun q => q.1 c_4⟩, rfl⟩
  · refine mg_iload_n C dX5_mayTake_7 rfl ?_
    refine mg_sipush C (v := nI 1000) dX5_mayTake_8 (by decide) ?_
    refine mg_icmp_gt C (tgt := 22) dX5_mayTake_11 (by decide) (fun c_11 => ?_) (fun c_11 => ?_)
    · refine mg_iconst C (v := nI 0) dX5_mayTake_22 (by decide) ?_
      exact hR _ _ _ _ dX5_mayTake_23 (Or.inl rfl) ⟨Or.inr ⟨rfl, fun q => q.2.1 c_11⟩, rfl⟩
    · refine mg_iload_n C dX5_mayTake_14 rfl ?_
      refine mg_if_eq C (tgt := 22) dX5_mayTake_15 (by decide) (fun c_15 => ?_) (fun c_15 => ?_)
      · refine mg_iconst C (v := nI 0) dX5_mayTake_22 (by decide) ?_
        exact hR _ _ _ _ dX5_mayTake_23 (Or.inl rfl) ⟨Or.inr ⟨rfl, fun q => q.2.2 c_15⟩, rfl⟩
      · refine mg_iconst C (v := nI 1) dX5_mayTake_18 (by decide) ?_
        refine mg_goto C (tgt := 23) dX5_mayTake_19 (by decide) ?_
        exact hR _ _ _ _ dX5_mayTake_23 (Or.inr rfl) ⟨Or.inl ⟨rfl, c_4, c_11, c_15⟩, rfl⟩

set_option maxHeartbeats 4000000 in
set_option maxRecDepth 20000 in
theorem c_X5_placeIn (D : va_G) (cI cS : ClassId) (w : mwT) (h0 ab c sd : Nat) (tot mov : Int32) (f : Nat → Int32) (j x : Nat) (hh : w h0 = some (.inr (4, [.int (nI 1), .int (nI c), .int (nI sd), .int tot, .int mov, .ref ab]))) (hab : w ab = some (eI cI (4 * c) f)) (hs : sd ≤ 999) (hc1 : 4 ≤ c) (hc2 : c ≤ 64) (hj : j < 4) (hx : x ≤ 9999) : mMi yX5_placeIn cX5_placeIn 3 (some .int) (rmL 3) [.ref h0, .int (nI j), .int (nI x)] D cI cS w (fun r w1 => r = nI (j * c + hsN sd j x % c) ∧ w1 = w) := by
  refine mMi.of (by decide) (Nat.le_of_ble_eq_true rfl) ?_
  intro X C hN hR
  refine mg_sub (lv' := [(0, .ref h0), (1, .int (nI j)), (2, .int (nI x))]) [0, 1, 2] rfl ?_
  refine mg_iload_n C dX5_placeIn_0 rfl ?_
  refine mg_aload_n C dX5_placeIn_1 rfl ?_
  refine mg_get C inT5 hh rfl 1 (by decide) kw_185 (Or.inr kw_186) rfl dX5_placeIn_2 ?_
  refine mg_imul C (z := nI (j * c)) dX5_placeIn_5 (pk_mul _ _) ?_
  refine mg_aload_n C dX5_placeIn_6 rfl ?_
  refine mg_get C inT5 hh rfl 2 (by decide) kw_187 (Or.inr kw_188) rfl dX5_placeIn_7 ?_
  refine mg_iload_n C dX5_placeIn_10 rfl ?_
  refine mg_iload_n C dX5_placeIn_11 rfl ?_
  refine mg_aload_n C dX5_placeIn_12 rfl ?_
  refine mg_get C inT5 hh rfl 1 (by decide) kw_185 (Or.inr kw_186) rfl dX5_placeIn_13 ?_
  refine mg_callN_i C (rest := [.int (nI (j * c))]) (c_X6_placeOf D cI cS w sd j x c hs (by omega) hx (by omega) (by omega)) yq_X6_placeOf kn_18 kw_262 ⟨by decide, by decide⟩ ⟨Nat.le_of_ble_eq_true rfl, Nat.le_of_ble_eq_true rfl⟩ (Nat.le_of_ble_eq_true rfl) rfl rfl dX5_placeIn_16 (fun r1 w2 ⟨e_r1, e_w2⟩ => ?_)
  rw [e_w2, e_r1]
  have hpl : hsN sd j x % c < c := Nat.mod_lt _ (by omega)
  refine mg_iadd C (z := nI ((j * c) + (hsN sd j x % c))) dX5_placeIn_19 (nI_add _ _) ?_
  exact hR _ _ _ _ dX5_placeIn_20 ⟨rfl, rfl⟩

set_option maxHeartbeats 4000000 in
set_option maxRecDepth 20000 in
theorem c_X5_take (D : va_G) (cI cS : ClassId) (w : mwT) (h0 ab c sd : Nat) (tot mov : Int32) (f : Nat → Int32) (x : Nat) (n : Int32) (hh : w h0 = some (.inr (4, [.int (nI 1), .int (nI c), .int (nI sd), .int tot, .int mov, .ref ab]))) (hab : w ab = some (eI cI (4 * c) f)) (hs : sd ≤ 999) (hc1 : 4 ≤ c) (hc2 : c ≤ 64) (hx : x ≤ 9999) : mMv yX5_take cX5_take 5 none (rmL 4) [.ref h0, .int (nI x), .int n] D cI cS w (fun w1 => w1 ab = some (eI cI (4 * c) (tkT f sd x c n 4)) ∧ ∀ z : Nat, z ≠ ab → w1 z = w z) := by
  refine mMv.of (by decide) (Nat.le_of_ble_eq_true rfl) ?_
  intro X C hN hR
  have fr_w : ∀ zz : Nat, w zz = w zz := fun _ => rfl
  refine mg_sub (lv' := [(0, .ref h0), (1, .int (nI x)), (2, .int n)]) [0, 1, 2] rfl ?_
  refine mg_iconst C (v := nI 0) dX5_take_0 (by decide) ?_
  refine mg_istore_n C (lv' := [(3, .int (nI 0)), (0, .ref h0), (1, .int (nI x)), (2, .int n)]) dX5_take_1 rfl (by decide) rfl ?_
  have L2 : ∀ (M2 : Nat) (j : Nat), 4 - j < M2 → (j ≤ 4) → ∀ (w1 : mwT), w1 h0 = some (.inr (4, [.int (nI 1), .int (nI c), .int (nI sd), .int tot, .int mov, .ref ab])) → w1 ab = some (eI cI (4 * c) (tkT f sd x c n j)) → (∀ zz : Nat, zz ≠ ab → w1 zz = w zz) → mwG X 0 0 w1 [(0, .ref h0), (1, .int (nI x)), (2, .int n), (3, .int (nI j))] [] 2 := by
    intro M2
    induction M2 with
    | zero => intro j hm2; exact absurd hm2 (Nat.not_lt_zero _)
    | succ M2 ih2 =>
      intro j hm2 hj w1 h_w1_h0 h_w1_ab fr_w1
      refine mg_iload_n C dX5_take_2 rfl ?_
      refine mg_iconst C (v := nI 4) dX5_take_3 (by decide) ?_
      refine mg_icmpN_ge C (tgt := 42) dX5_take_4 (by decide) (by omega) (by omega) (fun c_4 => ?_) (fun c_4 => ?_)
      · obtain rfl : j = 4 := by omega
        exact hR _ _ _ dX5_take_42 ⟨h_w1_ab, fr_w1⟩
      · refine mg_aload_n C dX5_take_7 rfl ?_
        refine mg_iload_n C dX5_take_8 rfl ?_
        refine mg_iload_n C dX5_take_9 rfl ?_
        refine mg_callV_i C h_w1_h0 rfl (rest := []) (c_X5_placeIn D cI cS w1 h0 ab c sd tot mov (tkT f sd x c n j) j x h_w1_h0 h_w1_ab hs hc1 hc2 (by omega) hx) yq_X5_placeIn kw_320 kw_321 kw_322 ⟨by decide, by decide⟩ ⟨Nat.le_of_ble_eq_true rfl, Nat.le_of_ble_eq_true rfl⟩ (Nat.le_of_ble_eq_true rfl) rfl rfl dX5_take_10 (fun r2 w3 ⟨e_r2, e_w3⟩ => ?_)
        rw [e_w3, e_r2]
        have hpl : hsN sd j x % c < c := Nat.mod_lt _ (by omega)
        have hjc := jc_le (c := c) (show j < 4 by omega)
        refine mg_istore C (lv' := [(4, .int (nI (j * c + hsN sd j x % c))), (0, .ref h0), (1, .int (nI x)), (2, .int n), (3, .int (nI j))]) dX5_take_13 (by decide) rfl ?_
        refine mg_iload C dX5_take_15 rfl ?_
        refine mg_aload_n C dX5_take_17 rfl ?_
        refine mg_get C inT5 h_w1_h0 rfl 5 (by decide) kw_82 (Or.inl rfl) rfl dX5_take_18 ?_
        refine mg_alen C h_w1_ab dX5_take_21 ?_
        refine mg_icmpN_ge C (tgt := 36) dX5_take_22 (by decide) (by omega) (by omega) (fun c_22 => absurd c_22 (by omega)) (fun c_22 => ?_)
        refine mg_aload_n C dX5_take_25 rfl ?_
        refine mg_get C inT5 h_w1_h0 rfl 5 (by decide) kw_82 (Or.inl rfl) rfl dX5_take_26 ?_
        refine mg_iload C dX5_take_29 rfl ?_
        refine mg_dup2 C dX5_take_31 rfl rfl ?_
        refine mg_ialdN C h_w1_ab (by omega) (by omega) dX5_take_32 ?_
        refine mg_iload_n C dX5_take_33 rfl ?_
        refine mg_iadd C (z := ((tkT f sd x c n j) (j * c + hsN sd j x % c)) + n) dX5_take_34 rfl ?_
        refine mg_iastN C h_w1_ab (by omega) (by omega) dX5_take_35 (fun w4 e_w4 => ?_)
        have h_w4_h0 : w4 h0 = some (.inr (4, [.int (nI 1), .int (nI c), .int (nI sd), .int tot, .int mov, .ref ab])) := (congrFun e_w4 _).trans ((mwu_ne (mw_oa h_w1_h0 h_w1_ab)).trans h_w1_h0)
        have h_w4_ab : w4 ab = some (eI cI (4 * c) (upd (tkT f sd x c n j) (j * c + hsN sd j x % c) (((tkT f sd x c n j) (j * c + hsN sd j x % c)) + n))) := (congrFun e_w4 _).trans mwu_eq
        have fr_w4 : ∀ zz : Nat, zz ≠ ab → w4 zz = w zz := fun zz g0 => (congrFun e_w4 zz).trans ((mwu_ne g0).trans (fr_w1 zz g0))
        refine mg_iinc C (v := nI (j + 1)) (lv' := [(3, .int (nI (j + 1))), (4, .int (nI (j * c + hsN sd j x % c))), (0, .ref h0), (1, .int (nI x)), (2, .int n)]) dX5_take_36 rfl (ni_inc _) (by decide) rfl ?_
        refine mg_goto C (tgt := 2) dX5_take_39 (by decide) ?_
        refine mg_sub (lv' := [(0, .ref h0), (1, .int (nI x)), (2, .int n), (3, .int (nI (j + 1)))]) [2, 3, 4, 0] rfl ?_
        exact ih2 ((j + 1)) (by omega) (by omega) w4 h_w4_h0 h_w4_ab (fun zz g0 => fr_w4 zz g0)
  refine mg_sub (lv' := [(0, .ref h0), (1, .int (nI x)), (2, .int n), (3, .int (nI 0))]) [1, 2, 3, 0] rfl ?_
  exact L2 (_ + 1) 0 (Nat.lt_succ_self _) (by omega) w hh hab (fun zz g0 => fr_w zz )

set_option maxHeartbeats 4000000 in
set_option maxRecDepth 20000 in
theorem c_X5_atMost (D : va_G) (cI cS : ClassId) (w : mwT) (h0 ab c sd : Nat) (tot mov : Int32) (f : Nat → Int32) (x : Nat) (hh : w h0 = some (.inr (4, [.int (nI 1), .int (nI c), .int (nI sd), .int tot, .int mov, .ref ab]))) (hab : w ab = some (eI cI (4 * c) f)) (hs : sd ≤ 999) (hc1 : 4 ≤ c) (hc2 : c ≤ 64) (hx : x ≤ 9999) : mMi yX5_atMost cX5_atMost 5 (some .int) (rmL 4) [.ref h0, .int (nI x)] D cI cS w (fun r w1 => r = mnT f sd x c 4 ∧ w1 = w) := by
  refine mMi.of (by decide) (Nat.le_of_ble_eq_true rfl) ?_
  intro X C hN hR
  refine mg_sub (lv' := [(0, .ref h0), (1, .int (nI x))]) [0, 1] rfl ?_
  refine mg_ldc C (v := nI 10000000) dX5_atMost_0 kw_504 (by decide) ?_
  refine mg_istore_n C (lv' := [(2, .int (nI 10000000)), (0, .ref h0), (1, .int (nI x))]) dX5_atMost_2 rfl (by decide) rfl ?_
  refine mg_iconst C (v := nI 0) dX5_atMost_3 (by decide) ?_
  refine mg_istore_n C (lv' := [(3, .int (nI 0)), (2, .int (nI 10000000)), (0, .ref h0), (1, .int (nI x))]) dX5_atMost_4 rfl (by decide) rfl ?_
  have L5 : ∀ (M5 : Nat) (j : Nat), 4 - j < M5 → (j ≤ 4) → mwG X 0 0 w [(0, .ref h0), (1, .int (nI x)), (2, .int (mnT f sd x c j)), (3, .int (nI j))] [] 5 := by
    intro M5
    induction M5 with
    | zero => intro j hm5; exact absurd hm5 (Nat.not_lt_zero _)
    | succ M5 ih5 =>
      intro j hm5 hj
      refine mg_iload_n C dX5_atMost_5 rfl ?_
      refine mg_iconst C (v := nI 4) dX5_atMost_6 (by decide) ?_
      refine mg_icmpN_ge C (tgt := 46) dX5_atMost_7 (by decide) (by omega) (by omega) (fun c_7 => ?_) (fun c_7 => ?_)
      · refine mg_iload_n C dX5_atMost_46 rfl ?_
        obtain rfl : j = 4 := by omega
        exact hR _ _ _ _ dX5_atMost_47 ⟨rfl, rfl⟩
      · refine mg_aload_n C dX5_atMost_10 rfl ?_
        refine mg_iload_n C dX5_atMost_11 rfl ?_
        refine mg_iload_n C dX5_atMost_12 rfl ?_
        refine mg_callV_i C hh rfl (rest := []) (c_X5_placeIn D cI cS w h0 ab c sd tot mov f j x hh hab hs hc1 hc2 (by omega) hx) yq_X5_placeIn kw_320 kw_321 kw_322 ⟨by decide, by decide⟩ ⟨Nat.le_of_ble_eq_true rfl, Nat.le_of_ble_eq_true rfl⟩ (Nat.le_of_ble_eq_true rfl) rfl rfl dX5_atMost_13 (fun r1 w2 ⟨e_r1, e_w2⟩ => ?_)
        rw [e_w2, e_r1]
        have hpl : hsN sd j x % c < c := Nat.mod_lt _ (by omega)
        have hjc := jc_le (c := c) (show j < 4 by omega)
        refine mg_istore C (lv' := [(4, .int (nI (j * c + hsN sd j x % c))), (0, .ref h0), (1, .int (nI x)), (2, .int (mnT f sd x c j)), (3, .int (nI j))]) dX5_atMost_16 (by decide) rfl ?_
        refine mg_iload C dX5_atMost_18 rfl ?_
        refine mg_aload_n C dX5_atMost_20 rfl ?_
        refine mg_get C inT5 hh rfl 5 (by decide) kw_82 (Or.inl rfl) rfl dX5_atMost_21 ?_
        refine mg_alen C hab dX5_atMost_24 ?_
        refine mg_icmpN_ge C (tgt := 40) dX5_atMost_25 (by decide) (by omega) (by omega) (fun c_25 => absurd c_25 (by omega)) (fun c_25 => ?_)
        refine mg_iload_n C dX5_atMost_28 rfl ?_
        refine mg_aload_n C dX5_atMost_29 rfl ?_
        refine mg_get C inT5 hh rfl 5 (by decide) kw_82 (Or.inl rfl) rfl dX5_atMost_30 ?_
        refine mg_iload C dX5_atMost_33 rfl ?_
        refine mg_ialdN C hab (by omega) (by omega) dX5_atMost_35 ?_
        refine mg_mmin C (z := if f (j * c + hsN sd j x % c) < mnT f sd x c j then f (j * c + hsN sd j x % c) else mnT f sd x c j) dX5_atMost_36 kw_505 ⟨Nat.le_of_ble_eq_true rfl, Nat.le_of_ble_eq_true rfl⟩ ⟨by decide, by decide⟩ rfl ?_
        refine mg_istore_n C (lv' := [(2, .int (if f (j * c + hsN sd j x % c) < mnT f sd x c j then f (j * c + hsN sd j x % c) else mnT f sd x c j)), (4, .int (nI (j * c + hsN sd j x % c))), (0, .ref h0), (1, .int (nI x)), (3, .int (nI j))]) dX5_atMost_39 rfl (by decide) rfl ?_
        refine mg_iinc C (v := nI (j + 1)) (lv' := [(3, .int (nI (j + 1))), (2, .int (if f (j * c + hsN sd j x % c) < mnT f sd x c j then f (j * c + hsN sd j x % c) else mnT f sd x c j)), (4, .int (nI (j * c + hsN sd j x % c))), (0, .ref h0), (1, .int (nI x))]) dX5_atMost_40 rfl (ni_inc _) (by decide) rfl ?_
        refine mg_goto C (tgt := 5) dX5_atMost_43 (by decide) ?_
        refine mg_sub (lv' := [(0, .ref h0), (1, .int (nI x)), (2, .int (if f (j * c + hsN sd j x % c) < mnT f sd x c j then f (j * c + hsN sd j x % c) else mnT f sd x c j)), (3, .int (nI (j + 1)))]) [3, 4, 1, 0] rfl ?_
        exact ih5 ((j + 1)) (by omega) (by omega)
  refine mg_sub (lv' := [(0, .ref h0), (1, .int (nI x)), (2, .int (nI 10000000)), (3, .int (nI 0))]) [2, 3, 1, 0] rfl ?_
  exact L5 (_ + 1) 0 (Nat.lt_succ_self _) (by omega)

set_option maxHeartbeats 4000000 in
set_option maxRecDepth 20000 in
theorem c_X5_keptAt (D : va_G) (cI cS : ClassId) (w : mwT) (h0 ab c sd : Nat) (tot mov : Int32) (f : Nat → Int32) (i pt : Int32) (hh : w h0 = some (.inr (4, [.int (nI 1), .int (nI c), .int (nI sd), .int tot, .int mov, .ref ab]))) (hab : w ab = some (eI cI (4 * c) f)) (hs : sd ≤ 999) (hc1 : 4 ≤ c) (hc2 : c ≤ 64) : mMi yX5_keptAt cX5_keptAt 3 (some .int) (rmL 1) [.ref h0, .int i, .int pt] D cI cS w (fun r w1 => ((∃ a : Nat, a < 4 * c ∧ i = nI a ∧ pt = 0 ∧ r = f a + nI 10000000) ∨ (r = -1 ∧ ¬ (ixN (4 * c) i ∧ pt = 0))) ∧ w1 = w) := by
  refine mMi.of (by decide) (Nat.le_of_ble_eq_true rfl) ?_
  intro X C hN hR
  refine mg_sub (lv' := [(0, .ref h0), (1, .int i), (2, .int pt)]) [0, 1, 2] rfl ?_
  refine mg_iload_n C dX5_keptAt_0 rfl ?_
  refine mg_if_lt C (tgt := 17) dX5_keptAt_1 (by decide) (fun c_1 => ?_) (fun c_1 => ?_)
  · refine mg_iconst C (v := (-1 : Int32)) dX5_keptAt_17 (by decide) ?_
    refine mg_goto C (tgt := 30) dX5_keptAt_18 (by decide) ?_
    exact hR _ _ _ _ dX5_keptAt_30 ⟨Or.inr ⟨rfl, fun q => ix_lt (by omega) c_1 q.1⟩, rfl⟩
  · refine mg_iload_n C dX5_keptAt_4 rfl ?_
    refine mg_aload_n C dX5_keptAt_5 rfl ?_
    refine mg_get C inT5 hh rfl 5 (by decide) kw_82 (Or.inl rfl) rfl dX5_keptAt_6 ?_
    refine mg_alen C hab dX5_keptAt_9 ?_
    refine mg_icmp_ge C (tgt := 17) dX5_keptAt_10 (by decide) (fun c_10 => ?_) (fun c_10 => ?_)
    · refine mg_iconst C (v := (-1 : Int32)) dX5_keptAt_17 (by decide) ?_
      refine mg_goto C (tgt := 30) dX5_keptAt_18 (by decide) ?_
      exact hR _ _ _ _ dX5_keptAt_30 ⟨Or.inr ⟨rfl, fun q => ix_ge (by omega) c_10 q.1⟩, rfl⟩
    · refine mg_iload_n C dX5_keptAt_13 rfl ?_
      refine mg_if_eq C (tgt := 21) dX5_keptAt_14 (by decide) (fun c_14 => ?_) (fun c_14 => ?_)
      · obtain ⟨a, ha, rfl⟩ := ix_of (by omega) c_1 c_10
        refine mg_aload_n C dX5_keptAt_21 rfl ?_
        refine mg_get C inT5 hh rfl 5 (by decide) kw_82 (Or.inl rfl) rfl dX5_keptAt_22 ?_
        refine mg_iload_n C dX5_keptAt_25 rfl ?_
        refine mg_ialdN C hab (by omega) (by omega) dX5_keptAt_26 ?_
        refine mg_ldc C (v := nI 10000000) dX5_keptAt_27 kw_504 (by decide) ?_
        refine mg_iadd C (z := (f a) + (nI 10000000)) dX5_keptAt_29 rfl ?_
        exact hR _ _ _ _ dX5_keptAt_30 ⟨Or.inl ⟨a, ha, rfl, c_14, rfl⟩, rfl⟩
      · refine mg_iconst C (v := (-1 : Int32)) dX5_keptAt_17 (by decide) ?_
        refine mg_goto C (tgt := 30) dX5_keptAt_18 (by decide) ?_
        exact hR _ _ _ _ dX5_keptAt_30 ⟨Or.inr ⟨rfl, fun q => c_14 q.2⟩, rfl⟩

set_option maxHeartbeats 4000000 in
set_option maxRecDepth 20000 in
theorem c_X5_howManyKept (D : va_G) (cI cS : ClassId) (w : mwT) (h0 ab c sd : Nat) (tot mov : Int32) (f : Nat → Int32) (hh : w h0 = some (.inr (4, [.int (nI 1), .int (nI c), .int (nI sd), .int tot, .int mov, .ref ab]))) (hab : w ab = some (eI cI (4 * c) f)) (hs : sd ≤ 999) (hc1 : 4 ≤ c) (hc2 : c ≤ 64) : mMi yX5_howManyKept cX5_howManyKept 1 (some .int) (rmL 2) [.ref h0] D cI cS w (fun r w1 => r = nI (cnz f (4 * c)) ∧ w1 = w) := by
  refine mMi.of (by decide) (Nat.le_of_ble_eq_true rfl) ?_
  intro X C hN hR
  refine mg_sub (lv' := [(0, .ref h0)]) [0] rfl ?_
  refine mg_aload_n C dX5_howManyKept_0 rfl ?_
  refine mg_get C inT5 hh rfl 5 (by decide) kw_82 (Or.inl rfl) rfl dX5_howManyKept_1 ?_
  refine mg_callN_i C (rest := []) (c_X6_countNotZero D cI cS w ab (4 * c) f hab (by omega)) yq_X6_countNotZero kn_22 kw_599 ⟨by decide, by decide⟩ ⟨Nat.le_of_ble_eq_true rfl, Nat.le_of_ble_eq_true rfl⟩ (Nat.le_of_ble_eq_true rfl) rfl rfl dX5_howManyKept_4 (fun r1 w2 ⟨e_r1, e_w2⟩ => ?_)
  rw [e_w2, e_r1]
  exact hR _ _ _ _ dX5_howManyKept_7 ⟨rfl, rfl⟩

set_option maxHeartbeats 4000000 in
set_option maxRecDepth 20000 in
theorem c_X5_forget (D : va_G) (cI cS : ClassId) (w : mwT) (h0 ab c sd : Nat) (tot mov : Int32) (f : Nat → Int32) (hh : w h0 = some (.inr (4, [.int (nI 1), .int (nI c), .int (nI sd), .int tot, .int mov, .ref ab]))) (hab : w ab = some (eI cI (4 * c) f)) (hs : sd ≤ 999) (hc1 : 4 ≤ c) (hc2 : c ≤ 64) : mMv yX5_forget cX5_forget 1 none (rmL 2) [.ref h0] D cI cS w (fun w1 => w1 ab = some (eI cI (4 * c) (cpy0 (fun _ => 0) f (4 * c))) ∧ ∀ c : Nat, c ≠ ab → w1 c = w c) := by
  refine mMv.of (by decide) (Nat.le_of_ble_eq_true rfl) ?_
  intro X C hN hR
  have fr_w : ∀ zz : Nat, w zz = w zz := fun _ => rfl
  refine mg_sub (lv' := [(0, .ref h0)]) [0] rfl ?_
  refine mg_aload_n C dX5_forget_0 rfl ?_
  refine mg_get C inT5 hh rfl 5 (by decide) kw_82 (Or.inl rfl) rfl dX5_forget_1 ?_
  refine mg_callN_v C (rest := []) (c_X6_clearRow D cI cS w ab (4 * c) f hab (by omega)) yq_X6_clearRow kn_10 kw_213 ⟨by decide, by decide⟩ ⟨Nat.le_of_ble_eq_true rfl, Nat.le_of_ble_eq_true rfl⟩ (Nat.le_of_ble_eq_true rfl) rfl rfl dX5_forget_4 (fun w1 ⟨xh1, xf1⟩ => ?_)
  have h_w1_h0 : w1 h0 = some (.inr (4, [.int (nI 1), .int (nI c), .int (nI sd), .int tot, .int mov, .ref ab])) := (xf1 h0 (mw_oa hh hab)).trans hh
  have fr_w1 : ∀ zz : Nat, zz ≠ ab → w1 zz = w zz := fun zz g0 => (xf1 zz g0).trans (fr_w zz )
  exact hR _ _ _ dX5_forget_7 ⟨xh1, fr_w1⟩

set_option maxHeartbeats 4000000 in
set_option maxRecDepth 20000 in
theorem c_X5_join (D : va_G) (cI cS : ClassId) (w : mwT) (h0 h1 ab ab2 c sd : Nat) (tot mov tot2 mov2 : Int32) (f g : Nat → Int32) (hh : w h0 = some (.inr (4, [.int (nI 1), .int (nI c), .int (nI sd), .int tot, .int mov, .ref ab]))) (hh1 : w h1 = some (.inr (4, [.int (nI 1), .int (nI c), .int (nI sd), .int tot2, .int mov2, .ref ab2]))) (hab : w ab = some (eI cI (4 * c) f)) (hab2 : w ab2 = some (eI cI (4 * c) g)) (hs : sd ≤ 999) (hc1 : 4 ≤ c) (hc2 : c ≤ 64) (hne : ab ≠ ab2) : mMv yX5_join cX5_join 4 none (rmL 1) [.ref h0, .ref h1] D cI cS w (fun w1 => w1 ab = some (eI cI (4 * c) (jnA f g (4 * c))) ∧ ∀ c : Nat, c ≠ ab → w1 c = w c) := by
  refine mMv.of (by decide) (Nat.le_of_ble_eq_true rfl) ?_
  intro X C hN hR
  have fr_w : ∀ zz : Nat, w zz = w zz := fun _ => rfl
  refine mg_sub (lv' := [(0, .ref h0), (1, .ref h1)]) [0, 1] rfl ?_
  refine mg_aload_n C dX5_join_0 rfl ?_
  refine mg_inst C hh1 rfl kw_184 dX5_join_1 ?_
  refine mg_ifN_eq C (tgt := 53) dX5_join_4 (by decide) (by decide) (fun c_4 => absurd c_4 (by decide)) (fun c_4 => ?_)
  refine mg_aload_n C dX5_join_7 rfl ?_
  refine mg_cast C hh1 rfl kw_184 dX5_join_8 ?_
  refine mg_astore_n C (lv' := [(2, .ref h1), (0, .ref h0), (1, .ref h1)]) dX5_join_11 rfl (by decide) rfl ?_
  refine mg_iconst C (v := nI 0) dX5_join_12 (by decide) ?_
  refine mg_istore_n C (lv' := [(3, .int (nI 0)), (2, .ref h1), (0, .ref h0), (1, .ref h1)]) dX5_join_13 rfl (by decide) rfl ?_
  have L14 : ∀ (M14 : Nat) (i : Nat), 4 * c - i < M14 → (i ≤ 4 * c) → ∀ (w1 : mwT), w1 h0 = some (.inr (4, [.int (nI 1), .int (nI c), .int (nI sd), .int tot, .int mov, .ref ab])) → w1 h1 = some (.inr (4, [.int (nI 1), .int (nI c), .int (nI sd), .int tot2, .int mov2, .ref ab2])) → w1 ab = some (eI cI (4 * c) (jnA f g i)) → w1 ab2 = some (eI cI (4 * c) g) → (∀ zz : Nat, zz ≠ ab → w1 zz = w zz) → mwG X 0 0 w1 [(0, .ref h0), (1, .ref h1), (2, .ref h1), (3, .int (nI i))] [] 14 := by
    intro M14
    induction M14 with
    | zero => intro i hm14; exact absurd hm14 (Nat.not_lt_zero _)
    | succ M14 ih14 =>
      intro i hm14 hi w1 h_w1_h0 h_w1_h1 h_w1_ab h_w1_ab2 fr_w1
      refine mg_iload_n C dX5_join_14 rfl ?_
      refine mg_aload_n C dX5_join_15 rfl ?_
      refine mg_get C inT5 h_w1_h0 rfl 5 (by decide) kw_82 (Or.inl rfl) rfl dX5_join_16 ?_
      refine mg_alen C h_w1_ab dX5_join_19 ?_
      refine mg_icmpN_ge C (tgt := 53) dX5_join_20 (by decide) (by omega) (by omega) (fun c_20 => ?_) (fun c_20 => ?_)
      · have ei : i = 4 * c := by omega
        exact hR _ _ _ dX5_join_53 ⟨(by rw [ei] at h_w1_ab; exact h_w1_ab), fr_w1⟩
      · refine mg_iload_n C dX5_join_23 rfl ?_
        refine mg_aload_n C dX5_join_24 rfl ?_
        refine mg_get C inT5 h_w1_h1 rfl 5 (by decide) kw_82 (Or.inl rfl) rfl dX5_join_25 ?_
        refine mg_alen C h_w1_ab2 dX5_join_28 ?_
        refine mg_icmpN_ge C (tgt := 53) dX5_join_29 (by decide) (by omega) (by omega) (fun c_29 => absurd c_29 (by omega)) (fun c_29 => ?_)
        refine mg_aload_n C dX5_join_32 rfl ?_
        refine mg_get C inT5 h_w1_h0 rfl 5 (by decide) kw_82 (Or.inl rfl) rfl dX5_join_33 ?_
        refine mg_iload_n C dX5_join_36 rfl ?_
        refine mg_dup2 C dX5_join_37 rfl rfl ?_
        refine mg_ialdN C h_w1_ab (by omega) (by omega) dX5_join_38 ?_
        refine mg_aload_n C dX5_join_39 rfl ?_
        refine mg_get C inT5 h_w1_h1 rfl 5 (by decide) kw_82 (Or.inl rfl) rfl dX5_join_40 ?_
        refine mg_iload_n C dX5_join_43 rfl ?_
        refine mg_ialdN C h_w1_ab2 (by omega) (by omega) dX5_join_44 ?_
        refine mg_iadd C (z := ((jnA f g i) i) + (g i)) dX5_join_45 rfl ?_
        refine mg_iastN C h_w1_ab (by omega) (by omega) dX5_join_46 (fun w2 e_w2 => ?_)
        have h_w2_h0 : w2 h0 = some (.inr (4, [.int (nI 1), .int (nI c), .int (nI sd), .int tot, .int mov, .ref ab])) := (congrFun e_w2 _).trans ((mwu_ne (mw_oa h_w1_h0 h_w1_ab)).trans h_w1_h0)
        have h_w2_h1 : w2 h1 = some (.inr (4, [.int (nI 1), .int (nI c), .int (nI sd), .int tot2, .int mov2, .ref ab2])) := (congrFun e_w2 _).trans ((mwu_ne (mw_oa h_w1_h1 h_w1_ab)).trans h_w1_h1)
        have h_w2_ab : w2 ab = some (eI cI (4 * c) (upd (jnA f g i) i (((jnA f g i) i) + (g i)))) := (congrFun e_w2 _).trans mwu_eq
        have h_w2_ab2 : w2 ab2 = some (eI cI (4 * c) g) := (congrFun e_w2 _).trans ((mwu_ne (Ne.symm hne)).trans h_w1_ab2)
        have fr_w2 : ∀ zz : Nat, zz ≠ ab → w2 zz = w zz := fun zz g0 => (congrFun e_w2 zz).trans ((mwu_ne g0).trans (fr_w1 zz g0))
        refine mg_iinc C (v := nI (i + 1)) (lv' := [(3, .int (nI (i + 1))), (0, .ref h0), (1, .ref h1), (2, .ref h1)]) dX5_join_47 rfl (ni_inc _) (by decide) rfl ?_
        refine mg_goto C (tgt := 14) dX5_join_50 (by decide) ?_
        refine mg_sub (lv' := [(0, .ref h0), (1, .ref h1), (2, .ref h1), (3, .int (nI (i + 1)))]) [1, 2, 3, 0] rfl ?_
        exact ih14 ((i + 1)) (by omega) (by omega) w2 h_w2_h0 h_w2_h1 h_w2_ab h_w2_ab2 (fun zz g0 => fr_w2 zz g0)
  refine mg_sub (lv' := [(0, .ref h0), (1, .ref h1), (2, .ref h1), (3, .int (nI 0))]) [2, 3, 1, 0] rfl ?_
  exact L14 (_ + 1) 0 (Nat.lt_succ_self _) (Nat.zero_le _) w hh hh1 hab hab2 (fun zz g0 => fr_w zz )

set_option maxHeartbeats 4000000 in
set_option maxRecDepth 20000 in
theorem c_X5_init (D : va_G) (cI cS : ClassId) (w : mwT) (h0 c sd : Nat) (hh : w h0 = some (.inr (4, [.int 0, .int 0, .int 0, .int 0, .int 0, .null]))) (hc1 : 4 ≤ c) (hc2 : c ≤ 64) : mMv yX5_init cX5_init 3 none (rmA 2 1 256) [.ref h0, .int (nI c), .int (nI sd)] D cI cS w (fun w1 => ∃ qa : Nat, w qa = none ∧ w1 h0 = some (.inr (4, [.int (nI 1), .int (nI c), .int (nI sd), .int (nI 0), .int (nI 0), .ref qa])) ∧ w1 qa = some (eI cI (4 * c) (fun _ => 0)) ∧ ∀ z : Nat, z ≠ h0 → z ≠ qa → w1 z = w z) := by
  refine mMv.of (by decide) (Nat.le_of_ble_eq_true rfl) ?_
  intro X C hN hR
  have fr_w : ∀ zz : Nat, w zz = w zz := fun _ => rfl
  refine mg_sub (lv' := [(0, .ref h0), (1, .int (nI c)), (2, .int (nI sd))]) [0, 1, 2] rfl ?_
  refine mg_aload_n C dX5_init_0 rfl ?_
  refine mg_iconst C (v := nI 1) dX5_init_1 (by decide) ?_
  refine mg_iload_n C dX5_init_2 rfl ?_
  refine mg_iload_n C dX5_init_3 rfl ?_
  refine mg_callI_v C (rest := []) (c_X4_init_T D cI cS w h0 1 c sd hh) yq_X4_init kw_83 kw_70 rfl ⟨by decide, by decide⟩ ⟨Nat.le_of_ble_eq_true rfl, Nat.le_of_ble_eq_true rfl⟩ (Nat.le_of_ble_eq_true rfl) rfl rfl dX5_init_4 (fun w1 ⟨xh1, xf1⟩ => ?_)
  refine mg_widen (k := 0) (n := 0) (by decide) (by decide) ?_
  have fr_w1 : ∀ zz : Nat, zz ≠ h0 → w1 zz = w zz := fun zz g0 => (xf1 zz g0).trans (fr_w zz )
  refine mg_aload_n C dX5_init_7 rfl ?_
  refine mg_iconst C (v := nI 4) dX5_init_8 (by decide) ?_
  refine mg_iload_n C dX5_init_9 rfl ?_
  refine mg_imul C (z := nI (4 * c)) dX5_init_10 (pk_mul _ _) ?_
  refine mg_newa C kw_19 (by omega) ⟨by decide, by (show 0 + (4 * c) ≤ 256; omega)⟩ dX5_init_11 (fun q2 w3 n_q2 e_w3 => ?_)
  refine mg_widen (k := 1) (n := 256) (by decide) (by omega) ?_
  have nd_q2_h0 : h0 ≠ q2 := mw_nn xh1 n_q2
  have nz_q2 : w q2 = none := (fr_w1 q2 (Ne.symm nd_q2_h0)).symm.trans n_q2
  have h_w3_h0 : w3 h0 = some (.inr (4, [.int (nI 1), .int (nI c), .int (nI sd), .int (nI 0), .int (nI 0), .null])) := (congrFun e_w3 _).trans ((mwu_ne nd_q2_h0).trans xh1)
  have h_w3_q2 : w3 q2 = some (eI cI (4 * c) (fun _ => 0)) := (congrFun e_w3 _).trans mwu_eq
  have fr_w3 : ∀ zz : Nat, zz ≠ h0 → zz ≠ q2 → w3 zz = w zz := fun zz g0 g1 => (congrFun e_w3 zz).trans ((mwu_ne g1).trans (fr_w1 zz g0))
  refine mg_putF C (fs' := [.int (nI 1), .int (nI c), .int (nI sd), .int (nI 0), .int (nI 0), .ref q2]) inT5 h_w3_h0 rfl 5 (by decide) kw_82 (Or.inl rfl) tyX5_ok nmX5 rfl hN rfl rfl rfl rfl (Nat.le_of_ble_eq_true rfl) dX5_init_13 (fun w4 e_w4 => ?_)
  have h_w4_h0 : w4 h0 = some (.inr (4, [.int (nI 1), .int (nI c), .int (nI sd), .int (nI 0), .int (nI 0), .ref q2])) := (congrFun e_w4 _).trans mwu_eq
  have h_w4_q2 : w4 q2 = some (eI cI (4 * c) (fun _ => 0)) := (congrFun e_w4 _).trans ((mwu_ne (Ne.symm nd_q2_h0)).trans h_w3_q2)
  have fr_w4 : ∀ zz : Nat, zz ≠ h0 → zz ≠ q2 → w4 zz = w zz := fun zz g0 g1 => (congrFun e_w4 zz).trans ((mwu_ne g0).trans (fr_w3 zz g0 g1))
  exact hR _ _ _ dX5_init_16 ⟨q2, nz_q2, h_w4_h0, h_w4_q2, fr_w4⟩

set_option maxHeartbeats 4000000 in
set_option maxRecDepth 20000 in
theorem c_X5_twin (D : va_G) (cI cS : ClassId) (w : mwT) (h0 ab c sd : Nat) (tot mov : Int32) (f : Nat → Int32) (hh : w h0 = some (.inr (4, [.int (nI 1), .int (nI c), .int (nI sd), .int tot, .int mov, .ref ab]))) (h_ab : w ab = some (eI cI (4 * c) f)) (hc1 : 4 ≤ c) (hc2 : c ≤ 64) : mMq yX5_twin cX5_twin 2 (some (.object "SketchSpans$Sketch")) (rmA 3 2 262) [.ref h0] D cI cS w (fun r w1 => ∃ q qa : Nat, r = some q ∧ w q = none ∧ w qa = none ∧ q ≠ qa ∧ w1 q = some (.inr (4, [.int (nI 1), .int (nI c), .int (nI sd), .int tot, .int mov, .ref qa])) ∧ w1 qa = some (eI cI (4 * c) (cpy0 f (fun _ => 0) (4 * c))) ∧ ∀ z : Nat, z ≠ q → z ≠ qa → w1 z = w z) := by
  refine mMq.of (by decide) (Nat.le_of_ble_eq_true rfl) ?_
  intro X C hN hR
  have fr_w : ∀ zz : Nat, w zz = w zz := fun _ => rfl
  refine mg_sub (lv' := [(0, .ref h0)]) [0] rfl ?_
  refine mg_new C (ci := 4) (fs := [.int 0, .int 0, .int 0, .int 0, .int 0, .null]) inT5 tyX5_ok kw_184 kw_51 kw_52 rfl df_X5 ⟨by decide, by decide⟩ dX5_twin_0 (fun q1 w2 n_q1 e_w2 => ?_)
  refine mg_widen (k := 1) (n := 6) (by decide) (by decide) ?_
  have nd_q1_h0 : h0 ≠ q1 := mw_nn hh n_q1
  have nd_q1_ab : ab ≠ q1 := mw_nn h_ab n_q1
  have nz_q1 : w q1 = none := (fr_w q1 ).symm.trans n_q1
  have h_w2_h0 : w2 h0 = some (.inr (4, [.int (nI 1), .int (nI c), .int (nI sd), .int tot, .int mov, .ref ab])) := (congrFun e_w2 _).trans ((mwu_ne nd_q1_h0).trans hh)
  have h_w2_ab : w2 ab = some (eI cI (4 * c) f) := (congrFun e_w2 _).trans ((mwu_ne nd_q1_ab).trans h_ab)
  have h_w2_q1 : w2 q1 = some (.inr (4, [.int 0, .int 0, .int 0, .int 0, .int 0, .null])) := (congrFun e_w2 _).trans mwu_eq
  have fr_w2 : ∀ zz : Nat, zz ≠ q1 → w2 zz = w zz := fun zz g0 => (congrFun e_w2 zz).trans ((mwu_ne g0).trans (fr_w zz ))
  refine mg_dup C dX5_twin_3 rfl ?_
  refine mg_aload_n C dX5_twin_4 rfl ?_
  refine mg_get C inT5 h_w2_h0 rfl 1 (by decide) kw_185 (Or.inr kw_186) rfl dX5_twin_5 ?_
  refine mg_aload_n C dX5_twin_8 rfl ?_
  refine mg_get C inT5 h_w2_h0 rfl 2 (by decide) kw_187 (Or.inr kw_188) rfl dX5_twin_9 ?_
  refine mg_callI_v C (rest := [.ref q1]) (c_X5_init D cI cS w2 q1 c sd h_w2_q1 hc1 hc2) yq_X5_init kw_189 kw_80 rfl ⟨by decide, by decide⟩ ⟨Nat.le_of_ble_eq_true rfl, Nat.le_of_ble_eq_true rfl⟩ (Nat.le_of_ble_eq_true rfl) rfl rfl dX5_twin_12 (fun w3 ⟨q3a, n_q3a, xh3, xkq3a, xf3⟩ => ?_)
  refine mg_widen (k := 2) (n := 262) (by decide) (by decide) ?_
  have nd_q3a_h0 : h0 ≠ q3a := mw_nn h_w2_h0 n_q3a
  have nd_q3a_ab : ab ≠ q3a := mw_nn h_w2_ab n_q3a
  have nd_q3a_q1 : q1 ≠ q3a := mw_nn h_w2_q1 n_q3a
  have nz_q3a : w q3a = none := (fr_w2 q3a (Ne.symm nd_q3a_q1)).symm.trans n_q3a
  have h_w3_h0 : w3 h0 = some (.inr (4, [.int (nI 1), .int (nI c), .int (nI sd), .int tot, .int mov, .ref ab])) := (xf3 h0 nd_q1_h0 (mw_nn h_w2_h0 n_q3a)).trans h_w2_h0
  have h_w3_ab : w3 ab = some (eI cI (4 * c) f) := (xf3 ab nd_q1_ab (mw_nn h_w2_ab n_q3a)).trans h_w2_ab
  have fr_w3 : ∀ zz : Nat, zz ≠ q1 → zz ≠ q3a → w3 zz = w zz := fun zz g0 g1 => (xf3 zz g0 g1).trans (fr_w2 zz g0)
  refine mg_astore_n C (lv' := [(1, .ref q1), (0, .ref h0)]) dX5_twin_15 rfl (by decide) rfl ?_
  refine mg_aload_n C dX5_twin_16 rfl ?_
  refine mg_aload_n C dX5_twin_17 rfl ?_
  refine mg_callU_v C xh3 rfl (rest := []) (c_X4_copyTotals_T D cI cS w3 q1 h0 1 c sd (nI 0) (nI 0) tot mov (.ref q3a) (.ref ab) xh3 h_w3_h0 (Ne.symm nd_q1_h0)) yq_X4_copyTotals kw_190 kw_191 dq_copyTotals (by decide +kernel) kw_141 kw_192 ⟨by decide, by decide⟩ ⟨Nat.le_of_ble_eq_true rfl, Nat.le_of_ble_eq_true rfl⟩ (Nat.le_of_ble_eq_true rfl) rfl rfl dX5_twin_18 (fun w4 ⟨xh4, xf4⟩ => ?_)
  refine mg_widen (k := 2) (n := 262) (by decide) (by decide) ?_
  have h_w4_h0 : w4 h0 = some (.inr (4, [.int (nI 1), .int (nI c), .int (nI sd), .int tot, .int mov, .ref ab])) := (xf4 h0 nd_q1_h0).trans h_w3_h0
  have h_w4_ab : w4 ab = some (eI cI (4 * c) f) := (xf4 ab nd_q1_ab).trans h_w3_ab
  have h_w4_q3a : w4 q3a = some (eI cI (4 * c) (fun _ => 0)) := (xf4 q3a (Ne.symm nd_q3a_q1)).trans xkq3a
  have fr_w4 : ∀ zz : Nat, zz ≠ q1 → zz ≠ q3a → w4 zz = w zz := fun zz g0 g1 => (xf4 zz g0).trans (fr_w3 zz g0 g1)
  refine mg_aload_n C dX5_twin_21 rfl ?_
  refine mg_get C inT5 h_w4_h0 rfl 5 (by decide) kw_82 (Or.inl rfl) rfl dX5_twin_22 ?_
  refine mg_aload_n C dX5_twin_25 rfl ?_
  refine mg_get C inT5 xh4 rfl 5 (by decide) kw_82 (Or.inl rfl) rfl dX5_twin_26 ?_
  refine mg_callN_v C (rest := []) (c_X6_copyRow D cI cS w4 ab q3a (4 * c) f (fun _ => 0) h_w4_ab h_w4_q3a (by omega) nd_q3a_ab) yq_X6_copyRow kn_6 kw_143 ⟨by decide, by decide⟩ ⟨Nat.le_of_ble_eq_true rfl, Nat.le_of_ble_eq_true rfl⟩ (Nat.le_of_ble_eq_true rfl) rfl rfl dX5_twin_29 (fun w5 ⟨xh5, xf5⟩ => ?_)
  refine mg_widen (k := 2) (n := 262) (by decide) (by decide) ?_
  have h_w5_h0 : w5 h0 = some (.inr (4, [.int (nI 1), .int (nI c), .int (nI sd), .int tot, .int mov, .ref ab])) := (xf5 h0 nd_q3a_h0).trans h_w4_h0
  have h_w5_ab : w5 ab = some (eI cI (4 * c) f) := (xf5 ab nd_q3a_ab).trans h_w4_ab
  have h_w5_q1 : w5 q1 = some (.inr (4, [.int (nI 1), .int (nI c), .int (nI sd), .int tot, .int mov, .ref q3a])) := (xf5 q1 nd_q3a_q1).trans xh4
  have fr_w5 : ∀ zz : Nat, zz ≠ q1 → zz ≠ q3a → w5 zz = w zz := fun zz g0 g1 => (xf5 zz g1).trans (fr_w4 zz g0 g1)
  refine mg_aload_n C dX5_twin_32 rfl ?_
  exact hR (some q1) _ _ _ dX5_twin_33 ⟨q1, q3a, rfl, nz_q1, nz_q3a, nd_q3a_q1, h_w5_q1, xh5, fr_w5⟩
