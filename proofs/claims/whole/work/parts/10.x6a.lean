set_option maxHeartbeats 4000000 in
set_option maxRecDepth 20000 in
theorem c_X6_hashOf (D : va_G) (cI cS : ClassId) (w : mwT) (s j x : Nat) (hs : s ≤ 999) (hj : j ≤ 3) (hx : x ≤ 9999) : mMi yX6_hashOf cX6_hashOf 3 (some .int) (rmL 1) [.int (nI s), .int (nI j), .int (nI x)] D cI cS w (fun r w1 => r = nI (hsN s j x) ∧ w1 = w) := by
  refine mMi.of (by decide) (Nat.le_of_ble_eq_true rfl) ?_
  intro X C hN hR
  refine mg_sub (lv' := [(0, .int (nI s)), (1, .int (nI j)), (2, .int (nI x))]) [0, 1, 2] rfl ?_
  have hb := hs_bd hs hj hx
  refine mg_iconst C (v := nI 1) dX6_hashOf_0 (by decide) ?_
  refine mg_bipush C (v := nI 31) dX6_hashOf_1 (by decide) ?_
  refine mg_iload_n C dX6_hashOf_3 rfl ?_
  refine mg_imul C (z := nI (31 * s)) dX6_hashOf_4 (pk_mul _ _) ?_
  refine mg_iadd C (z := nI (1 + (31 * s))) dX6_hashOf_5 (nI_add _ _) ?_
  refine mg_sipush C (v := nI 977) dX6_hashOf_6 (by decide) ?_
  refine mg_iload_n C dX6_hashOf_9 rfl ?_
  refine mg_imul C (z := nI (977 * j)) dX6_hashOf_10 (pk_mul _ _) ?_
  refine mg_iadd C (z := nI ((1 + (31 * s)) + (977 * j))) dX6_hashOf_11 (nI_add _ _) ?_
  refine mg_iload_n C dX6_hashOf_12 rfl ?_
  refine mg_iconst C (v := nI 1) dX6_hashOf_13 (by decide) ?_
  refine mg_iadd C (z := nI (x + 1)) dX6_hashOf_14 (nI_add _ _) ?_
  refine mg_imul C (z := nI (((1 + (31 * s)) + (977 * j)) * (x + 1))) dX6_hashOf_15 (pk_mul _ _) ?_
  refine mg_sipush C (v := nI 4391) dX6_hashOf_16 (by decide) ?_
  refine mg_iload_n C dX6_hashOf_19 rfl ?_
  refine mg_imul C (z := nI (4391 * j)) dX6_hashOf_20 (pk_mul _ _) ?_
  refine mg_iadd C (z := nI ((((1 + (31 * s)) + (977 * j)) * (x + 1)) + (4391 * j))) dX6_hashOf_21 (nI_add _ _) ?_
  refine mg_bipush C (v := nI 7) dX6_hashOf_22 (by decide) ?_
  refine mg_iload_n C dX6_hashOf_24 rfl ?_
  refine mg_imul C (z := nI (7 * s)) dX6_hashOf_25 (pk_mul _ _) ?_
  refine mg_iadd C (z := nI (((((1 + (31 * s)) + (977 * j)) * (x + 1)) + (4391 * j)) + (7 * s))) dX6_hashOf_26 (nI_add _ _) ?_
  refine mg_ldc C (v := nI 65537) dX6_hashOf_27 kw_267 (by decide) ?_
  refine mg_irem C (z := nI ((((((1 + (31 * s)) + (977 * j)) * (x + 1)) + (4391 * j)) + (7 * s)) % 65537)) dX6_hashOf_29 (nI_ne0 (by omega) (by omega)) (pk_rem (by omega) (by omega) (by omega)) ?_
  exact hR _ _ _ _ dX6_hashOf_30 ⟨rfl, rfl⟩

set_option maxHeartbeats 4000000 in
set_option maxRecDepth 20000 in
theorem c_X6_placeOf (D : va_G) (cI cS : ClassId) (w : mwT) (s j x c : Nat) (hs : s ≤ 999) (hj : j ≤ 3) (hx : x ≤ 9999) (hc : 1 ≤ c) (hc2 : c < 1000) : mMi yX6_placeOf cX6_placeOf 4 (some .int) (rmL 2) [.int (nI s), .int (nI j), .int (nI x), .int (nI c)] D cI cS w (fun r w1 => r = nI (hsN s j x % c) ∧ w1 = w) := by
  refine mMi.of (by decide) (Nat.le_of_ble_eq_true rfl) ?_
  intro X C hN hR
  refine mg_sub (lv' := [(0, .int (nI s)), (1, .int (nI j)), (2, .int (nI x)), (3, .int (nI c))]) [0, 1, 2, 3] rfl ?_
  have hlt := hsN_lt s j x
  refine mg_iload_n C dX6_placeOf_0 rfl ?_
  refine mg_iconst C (v := nI 1) dX6_placeOf_1 (by decide) ?_
  refine mg_icmpN_ge C (tgt := 9) dX6_placeOf_2 (by decide) (by omega) (by omega) (fun c_2 => ?_) (fun c_2 => absurd c_2 (by omega))
  refine mg_iload_n C dX6_placeOf_9 rfl ?_
  refine mg_iload_n C dX6_placeOf_10 rfl ?_
  refine mg_iload_n C dX6_placeOf_11 rfl ?_
  refine mg_callS_i C (rest := []) (c_X6_hashOf D cI cS w s j x hs hj hx) yq_X6_hashOf kw_264 kw_265 ⟨by decide, by decide⟩ ⟨Nat.le_of_ble_eq_true rfl, Nat.le_of_ble_eq_true rfl⟩ (Nat.le_of_ble_eq_true rfl) rfl rfl dX6_placeOf_12 (fun r1 w2 ⟨e_r1, e_w2⟩ => ?_)
  rw [e_w2, e_r1]
  refine mg_iload_n C dX6_placeOf_15 rfl ?_
  refine mg_irem C (z := nI ((hsN s j x) % c)) dX6_placeOf_16 (nI_ne0 (by omega) (by omega)) (pk_rem (by omega) (by omega) (by omega)) ?_
  exact hR _ _ _ _ dX6_placeOf_17 ⟨rfl, rfl⟩

set_option maxHeartbeats 4000000 in
set_option maxRecDepth 20000 in
theorem c_X6_isSort (D : va_G) (cI cS : ClassId) (w : mwT) (x : Int32) : mMi yX6_isSort cX6_isSort 1 (some .boolean) (rmL 1) [.int x] D cI cS w (fun r w1 => ((r = nI 1 ∧ rg 4 x) ∨ (r = nI 0 ∧ ¬ rg 4 x)) ∧ w1 = w) := by
  refine mMz.of (by decide) (Nat.le_of_ble_eq_true rfl) ?_
  intro X C hN hR
  refine mg_sub (lv' := [(0, .int x)]) [0] rfl ?_
  refine mg_iload_n C dX6_isSort_0 rfl ?_
  refine mg_if_lt C (tgt := 13) dX6_isSort_1 (by decide) (fun c_1 => ?_) (fun c_1 => ?_)
  · refine mg_iconst C (v := nI 0) dX6_isSort_13 (by decide) ?_
    exact hR _ _ _ _ dX6_isSort_14 (Or.inl rfl) ⟨Or.inr ⟨rfl, rg_lt (by decide) c_1⟩, rfl⟩
  · refine mg_iload_n C dX6_isSort_4 rfl ?_
    refine mg_iconst C (v := nI 4) dX6_isSort_5 (by decide) ?_
    refine mg_icmp_gt C (tgt := 13) dX6_isSort_6 (by decide) (fun c_6 => ?_) (fun c_6 => ?_)
    · refine mg_iconst C (v := nI 0) dX6_isSort_13 (by decide) ?_
      exact hR _ _ _ _ dX6_isSort_14 (Or.inl rfl) ⟨Or.inr ⟨rfl, rg_gt (by decide) c_6⟩, rfl⟩
    · refine mg_iconst C (v := nI 1) dX6_isSort_9 (by decide) ?_
      refine mg_goto C (tgt := 14) dX6_isSort_10 (by decide) ?_
      exact hR _ _ _ _ dX6_isSort_14 (Or.inr rfl) ⟨Or.inl ⟨rfl, rg_in (by decide) c_1 c_6⟩, rfl⟩

set_option maxHeartbeats 4000000 in
set_option maxRecDepth 20000 in
theorem c_X6_isSeed (D : va_G) (cI cS : ClassId) (w : mwT) (x : Int32) : mMi yX6_isSeed cX6_isSeed 1 (some .boolean) (rmL 1) [.int x] D cI cS w (fun r w1 => ((r = nI 1 ∧ rg 999 x) ∨ (r = nI 0 ∧ ¬ rg 999 x)) ∧ w1 = w) := by
  refine mMz.of (by decide) (Nat.le_of_ble_eq_true rfl) ?_
  intro X C hN hR
  refine mg_sub (lv' := [(0, .int x)]) [0] rfl ?_
  refine mg_iload_n C dX6_isSeed_0 rfl ?_
  refine mg_if_lt C (tgt := 15) dX6_isSeed_1 (by decide) (fun c_1 => ?_) (fun c_1 => ?_)
  · refine mg_iconst C (v := nI 0) dX6_isSeed_15 (by decide) ?_
    exact hR _ _ _ _ dX6_isSeed_16 (Or.inl rfl) ⟨Or.inr ⟨rfl, rg_lt (by decide) c_1⟩, rfl⟩
  · refine mg_iload_n C dX6_isSeed_4 rfl ?_
    refine mg_sipush C (v := nI 1000) dX6_isSeed_5 (by decide) ?_
    refine mg_icmp_ge C (tgt := 15) dX6_isSeed_8 (by decide) (fun c_8 => ?_) (fun c_8 => ?_)
    · refine mg_iconst C (v := nI 0) dX6_isSeed_15 (by decide) ?_
      exact hR _ _ _ _ dX6_isSeed_16 (Or.inl rfl) ⟨Or.inr ⟨rfl, rg_ge (by decide) c_8⟩, rfl⟩
    · refine mg_iconst C (v := nI 1) dX6_isSeed_11 (by decide) ?_
      refine mg_goto C (tgt := 16) dX6_isSeed_12 (by decide) ?_
      exact hR _ _ _ _ dX6_isSeed_16 (Or.inr rfl) ⟨Or.inl ⟨rfl, rg_in' (by decide) c_1 c_8⟩, rfl⟩

set_option maxHeartbeats 4000000 in
set_option maxRecDepth 20000 in
theorem c_X6_isKey (D : va_G) (cI cS : ClassId) (w : mwT) (x : Int32) : mMi yX6_isKey cX6_isKey 1 (some .boolean) (rmL 1) [.int x] D cI cS w (fun r w1 => ((r = nI 1 ∧ rg 9999 x) ∨ (r = nI 0 ∧ ¬ rg 9999 x)) ∧ w1 = w) := by
  refine mMz.of (by decide) (Nat.le_of_ble_eq_true rfl) ?_
  intro X C hN hR
  refine mg_sub (lv' := [(0, .int x)]) [0] rfl ?_
  refine mg_iload_n C dX6_isKey_0 rfl ?_
  refine mg_if_lt C (tgt := 15) dX6_isKey_1 (by decide) (fun c_1 => ?_) (fun c_1 => ?_)
  · refine mg_iconst C (v := nI 0) dX6_isKey_15 (by decide) ?_
    exact hR _ _ _ _ dX6_isKey_16 (Or.inl rfl) ⟨Or.inr ⟨rfl, rg_lt (by decide) c_1⟩, rfl⟩
  · refine mg_iload_n C dX6_isKey_4 rfl ?_
    refine mg_sipush C (v := nI 10000) dX6_isKey_5 (by decide) ?_
    refine mg_icmp_ge C (tgt := 15) dX6_isKey_8 (by decide) (fun c_8 => ?_) (fun c_8 => ?_)
    · refine mg_iconst C (v := nI 0) dX6_isKey_15 (by decide) ?_
      exact hR _ _ _ _ dX6_isKey_16 (Or.inl rfl) ⟨Or.inr ⟨rfl, rg_ge (by decide) c_8⟩, rfl⟩
    · refine mg_iconst C (v := nI 1) dX6_isKey_11 (by decide) ?_
      refine mg_goto C (tgt := 16) dX6_isKey_12 (by decide) ?_
      exact hR _ _ _ _ dX6_isKey_16 (Or.inr rfl) ⟨Or.inl ⟨rfl, rg_in' (by decide) c_1 c_8⟩, rfl⟩

set_option maxHeartbeats 4000000 in
set_option maxRecDepth 20000 in
theorem c_X6_countNotZero (D : va_G) (cI cS : ClassId) (w : mwT) (a L : Nat) (f : Nat → Int32) (ha : w a = some (eI cI L f)) (hL : L < 100000) : mMi yX6_countNotZero cX6_countNotZero 3 (some .int) (rmL 1) [.ref a] D cI cS w (fun r w1 => r = nI (cnz f L) ∧ w1 = w) := by
  refine mMi.of (by decide) (Nat.le_of_ble_eq_true rfl) ?_
  intro X C hN hR
  refine mg_sub (lv' := [(0, .ref a)]) [0] rfl ?_
  refine mg_iconst C (v := nI 0) dX6_countNotZero_0 (by decide) ?_
  refine mg_istore_n C (lv' := [(1, .int (nI 0)), (0, .ref a)]) dX6_countNotZero_1 rfl (by decide) rfl ?_
  refine mg_iconst C (v := nI 0) dX6_countNotZero_2 (by decide) ?_
  refine mg_istore_n C (lv' := [(2, .int (nI 0)), (1, .int (nI 0)), (0, .ref a)]) dX6_countNotZero_3 rfl (by decide) rfl ?_
  have L4 : ∀ (M4 : Nat) (i : Nat), L - i < M4 → (i ≤ L) → mwG X 0 0 w [(0, .ref a), (1, .int (nI (cnz f i))), (2, .int (nI i))] [] 4 := by
    intro M4
    induction M4 with
    | zero => intro i hm4; exact absurd hm4 (Nat.not_lt_zero _)
    | succ M4 ih4 =>
      intro i hm4 hi
      refine mg_iload_n C dX6_countNotZero_4 rfl ?_
      refine mg_aload_n C dX6_countNotZero_5 rfl ?_
      refine mg_alen C ha dX6_countNotZero_6 ?_
      refine mg_icmpN_ge C (tgt := 25) dX6_countNotZero_7 (by decide) (by omega) (by omega) (fun c_7 => ?_) (fun c_7 => ?_)
      · obtain rfl : i = L := by omega
        refine mg_iload_n C dX6_countNotZero_25 rfl ?_
        exact hR _ _ _ _ dX6_countNotZero_26 ⟨rfl, rfl⟩
      · refine mg_aload_n C dX6_countNotZero_10 rfl ?_
        refine mg_iload_n C dX6_countNotZero_11 rfl ?_
        refine mg_ialdN C ha (by omega) (by omega) dX6_countNotZero_12 ?_
        refine mg_if_eq C (tgt := 19) dX6_countNotZero_13 (by decide) (fun c_13 => ?_) (fun c_13 => ?_)
        · rw [← cnz_z c_13]
          refine mg_iinc C (v := nI (i + 1)) (lv' := [(2, .int (nI (i + 1))), (0, .ref a), (1, .int (nI (cnz f (i + 1))))]) dX6_countNotZero_19 rfl (ni_inc _) (by decide) rfl ?_
          refine mg_goto C (tgt := 4) dX6_countNotZero_22 (by decide) ?_
          refine mg_sub (lv' := [(0, .ref a), (1, .int (nI (cnz f (i + 1)))), (2, .int (nI (i + 1)))]) [1, 2, 0] rfl ?_
          exact ih4 ((i + 1)) (by omega) (by omega)
        · have ec := cnz_s c_13
          refine mg_iinc C (v := nI (cnz f i + 1)) (lv' := [(1, .int (nI (cnz f i + 1))), (0, .ref a), (2, .int (nI i))]) dX6_countNotZero_16 rfl (ni_inc _) (by decide) rfl ?_
          rw [← ec]
          refine mg_iinc C (v := nI (i + 1)) (lv' := [(2, .int (nI (i + 1))), (1, .int (nI (cnz f (i + 1)))), (0, .ref a)]) dX6_countNotZero_19 rfl (ni_inc _) (by decide) rfl ?_
          refine mg_goto C (tgt := 4) dX6_countNotZero_22 (by decide) ?_
          refine mg_sub (lv' := [(0, .ref a), (1, .int (nI (cnz f (i + 1)))), (2, .int (nI (i + 1)))]) [2, 1, 0] rfl ?_
          exact ih4 ((i + 1)) (by omega) (by omega)
  refine mg_sub (lv' := [(0, .ref a), (1, .int (nI 0)), (2, .int (nI 0))]) [2, 1, 0] rfl ?_
  exact L4 (_ + 1) 0 (Nat.lt_succ_self _) (Nat.zero_le _)

set_option maxHeartbeats 4000000 in
set_option maxRecDepth 20000 in
theorem c_X6_placeFor (D : va_G) (cI cS : ClassId) (w : mwT) (v : Int32) (a h L : Nat) (f : Nat → Int32) (ha : w a = some (eI cI L f)) (hL : L < 100000) (hh : h < 100000) : mMi yX6_placeFor cX6_placeFor 4 (some .int) (rmL 1) [.int v, .ref a, .int (nI h)] D cI cS w (fun r w1 => (∃ p : Nat, r = nI p ∧ p ≤ h ∧ p ≤ L ∧ (∀ j, j < p → f j < v) ∧ (p < h → p < L → ¬ f p < v)) ∧ w1 = w) := by
  refine mMi.of (by decide) (Nat.le_of_ble_eq_true rfl) ?_
  intro X C hN hR
  refine mg_sub (lv' := [(0, .int v), (1, .ref a), (2, .int (nI h))]) [0, 1, 2] rfl ?_
  refine mg_iconst C (v := nI 0) dX6_placeFor_0 (by decide) ?_
  refine mg_istore_n C (lv' := [(3, .int (nI 0)), (0, .int v), (1, .ref a), (2, .int (nI h))]) dX6_placeFor_1 rfl (by decide) rfl ?_
  have L2 : ∀ (M2 : Nat) (i : Nat), L - i < M2 → (i ≤ h) → (i ≤ L) → (∀ j, j < i → f j < v) → mwG X 0 0 w [(0, .int v), (1, .ref a), (2, .int (nI h)), (3, .int (nI i))] [] 2 := by
    intro M2
    induction M2 with
    | zero => intro i hm2; exact absurd hm2 (Nat.not_lt_zero _)
    | succ M2 ih2 =>
      intro i hm2 hi hi2 hb
      refine mg_iload_n C dX6_placeFor_2 rfl ?_
      refine mg_iload_n C dX6_placeFor_3 rfl ?_
      refine mg_icmpN_ge C (tgt := 26) dX6_placeFor_4 (by decide) (by omega) (by omega) (fun c_4 => ?_) (fun c_4 => ?_)
      · refine mg_iload_n C dX6_placeFor_26 rfl ?_
        exact hR _ _ _ _ dX6_placeFor_27 ⟨⟨i, rfl, hi, hi2, hb, (fun q1 _ => absurd q1 (by omega))⟩, rfl⟩
      · refine mg_iload_n C dX6_placeFor_7 rfl ?_
        refine mg_aload_n C dX6_placeFor_8 rfl ?_
        refine mg_alen C ha dX6_placeFor_9 ?_
        refine mg_icmpN_ge C (tgt := 26) dX6_placeFor_10 (by decide) (by omega) (by omega) (fun c_10 => ?_) (fun c_10 => ?_)
        · refine mg_iload_n C dX6_placeFor_26 rfl ?_
          exact hR _ _ _ _ dX6_placeFor_27 ⟨⟨i, rfl, hi, hi2, hb, (fun _ q2 => absurd q2 (by omega))⟩, rfl⟩
        · refine mg_aload_n C dX6_placeFor_13 rfl ?_
          refine mg_iload_n C dX6_placeFor_14 rfl ?_
          refine mg_ialdN C ha (by omega) (by omega) dX6_placeFor_15 ?_
          refine mg_iload_n C dX6_placeFor_16 rfl ?_
          refine mg_icmp_ge C (tgt := 26) dX6_placeFor_17 (by decide) (fun c_17 => ?_) (fun c_17 => ?_)
          · refine mg_iload_n C dX6_placeFor_26 rfl ?_
            exact hR _ _ _ _ dX6_placeFor_27 ⟨⟨i, rfl, hi, hi2, hb, (fun _ _ => Int32.not_lt.mpr c_17)⟩, rfl⟩
          · refine mg_iinc C (v := nI (i + 1)) (lv' := [(3, .int (nI (i + 1))), (0, .int v), (1, .ref a), (2, .int (nI h))]) dX6_placeFor_20 rfl (ni_inc _) (by decide) rfl ?_
            refine mg_goto C (tgt := 2) dX6_placeFor_23 (by decide) ?_
            refine mg_sub (lv' := [(0, .int v), (1, .ref a), (2, .int (nI h)), (3, .int (nI (i + 1)))]) [1, 2, 3, 0] rfl ?_
            exact ih2 ((i + 1)) (by omega) (by omega) (by omega) (lt_s hb (Int32.not_le.mp c_17))
  refine mg_sub (lv' := [(0, .int v), (1, .ref a), (2, .int (nI h)), (3, .int (nI 0))]) [1, 2, 3, 0] rfl ?_
  exact L2 (_ + 1) 0 (Nat.lt_succ_self _) (Nat.zero_le _) (Nat.zero_le _) (fun j h => absurd h (Nat.not_lt_zero _))

set_option maxHeartbeats 4000000 in
set_option maxRecDepth 20000 in
theorem c_X6_standsAt (D : va_G) (cI cS : ClassId) (w : mwT) (p : Nat) (v : Int32) (a h L : Nat) (f : Nat → Int32) (ha : w a = some (eI cI L f)) (hL : L < 100000) (hh : h < 100000) (hp : p < 200000) : mMi yX6_standsAt cX6_standsAt 4 (some .boolean) (rmL 1) [.int (nI p), .int v, .ref a, .int (nI h)] D cI cS w (fun r w1 => ((r = nI 1 ∧ p < h ∧ p < L ∧ f p = v) ∨ (r = nI 0 ∧ ¬ (p < h ∧ p < L ∧ f p = v))) ∧ w1 = w) := by
  refine mMz.of (by decide) (Nat.le_of_ble_eq_true rfl) ?_
  intro X C hN hR
  refine mg_sub (lv' := [(0, .int (nI p)), (1, .int v), (2, .ref a), (3, .int (nI h))]) [0, 1, 2, 3] rfl ?_
  refine mg_iload_n C dX6_standsAt_0 rfl ?_
  refine mg_ifN_lt C (tgt := 26) dX6_standsAt_1 (by decide) (by omega) ?_
  refine mg_iload_n C dX6_standsAt_4 rfl ?_
  refine mg_iload_n C dX6_standsAt_5 rfl ?_
  refine mg_icmpN_ge C (tgt := 26) dX6_standsAt_6 (by decide) (by omega) (by omega) (fun c_6 => ?_) (fun c_6 => ?_)
  · refine mg_iconst C (v := nI 0) dX6_standsAt_26 (by decide) ?_
    exact hR _ _ _ _ dX6_standsAt_27 (Or.inl rfl) ⟨Or.inr ⟨rfl, fun q => absurd q.1 (by omega)⟩, rfl⟩
  · refine mg_iload_n C dX6_standsAt_9 rfl ?_
    refine mg_aload_n C dX6_standsAt_10 rfl ?_
    refine mg_alen C ha dX6_standsAt_11 ?_
    refine mg_icmpN_ge C (tgt := 26) dX6_standsAt_12 (by decide) (by omega) (by omega) (fun c_12 => ?_) (fun c_12 => ?_)
    · refine mg_iconst C (v := nI 0) dX6_standsAt_26 (by decide) ?_
      exact hR _ _ _ _ dX6_standsAt_27 (Or.inl rfl) ⟨Or.inr ⟨rfl, fun q => absurd q.2.1 (by omega)⟩, rfl⟩
    · refine mg_aload_n C dX6_standsAt_15 rfl ?_
      refine mg_iload_n C dX6_standsAt_16 rfl ?_
      refine mg_ialdN C ha (by omega) (by omega) dX6_standsAt_17 ?_
      refine mg_iload_n C dX6_standsAt_18 rfl ?_
      refine mg_icmp_ne C (tgt := 26) dX6_standsAt_19 (by decide) (fun c_19 => ?_) (fun c_19 => ?_)
      · refine mg_iconst C (v := nI 0) dX6_standsAt_26 (by decide) ?_
        exact hR _ _ _ _ dX6_standsAt_27 (Or.inl rfl) ⟨Or.inr ⟨rfl, fun q => c_19 q.2.2⟩, rfl⟩
      · refine mg_iconst C (v := nI 1) dX6_standsAt_22 (by decide) ?_
        refine mg_goto C (tgt := 27) dX6_standsAt_23 (by decide) ?_
        exact hR _ _ _ _ dX6_standsAt_27 (Or.inr rfl) ⟨Or.inl ⟨rfl, by omega, by omega, c_19⟩, rfl⟩

set_option maxHeartbeats 4000000 in
set_option maxRecDepth 20000 in
theorem c_X6_clearRow (D : va_G) (cI cS : ClassId) (w : mwT) (a L : Nat) (f : Nat → Int32) (ha : w a = some (eI cI L f)) (hL : L < 100000) : mMv yX6_clearRow cX6_clearRow 2 none (rmL 1) [.ref a] D cI cS w (fun w1 => w1 a = some (eI cI L (cpy0 (fun _ => 0) f L)) ∧ ∀ b : Nat, b ≠ a → w1 b = w b) := by
  refine mMv.of (by decide) (Nat.le_of_ble_eq_true rfl) ?_
  intro X C hN hR
  have fr_w : ∀ zz : Nat, w zz = w zz := fun _ => rfl
  refine mg_sub (lv' := [(0, .ref a)]) [0] rfl ?_
  refine mg_iconst C (v := nI 0) dX6_clearRow_0 (by decide) ?_
  refine mg_istore_n C (lv' := [(1, .int (nI 0)), (0, .ref a)]) dX6_clearRow_1 rfl (by decide) rfl ?_
  have h9 : w a = some (eI cI L (cpy0 (fun _ => 0) f 0)) := by rw [ha, cpy0_0]
  have L2 : ∀ (M2 : Nat) (i : Nat), L - i < M2 → (i ≤ L) → ∀ (w1 : mwT), w1 a = some (eI cI L (cpy0 (fun _ => 0) f i)) → (∀ zz : Nat, zz ≠ a → w1 zz = w zz) → mwG X 0 0 w1 [(0, .ref a), (1, .int (nI i))] [] 2 := by
    intro M2
    induction M2 with
    | zero => intro i hm2; exact absurd hm2 (Nat.not_lt_zero _)
    | succ M2 ih2 =>
      intro i hm2 hi w1 h_w1_a fr_w1
      refine mg_iload_n C dX6_clearRow_2 rfl ?_
      refine mg_aload_n C dX6_clearRow_3 rfl ?_
      refine mg_alen C h_w1_a dX6_clearRow_4 ?_
      refine mg_icmpN_ge C (tgt := 18) dX6_clearRow_5 (by decide) (by omega) (by omega) (fun c_5 => ?_) (fun c_5 => ?_)
      · obtain rfl : i = L := by omega
        exact hR _ _ _ dX6_clearRow_18 ⟨h_w1_a, fr_w1⟩
      · refine mg_aload_n C dX6_clearRow_8 rfl ?_
        refine mg_iload_n C dX6_clearRow_9 rfl ?_
        refine mg_iconst C (v := nI 0) dX6_clearRow_10 (by decide) ?_
        refine mg_iastN C h_w1_a (by omega) (by omega) dX6_clearRow_11 (fun w2 e_w2 => ?_)
        have h_w2_a : w2 a = some (eI cI L (upd (cpy0 (fun _ => 0) f i) i (nI 0))) := (congrFun e_w2 _).trans mwu_eq
        have fr_w2 : ∀ zz : Nat, zz ≠ a → w2 zz = w zz := fun zz g0 => (congrFun e_w2 zz).trans ((mwu_ne g0).trans (fr_w1 zz g0))
        refine mg_iinc C (v := nI (i + 1)) (lv' := [(1, .int (nI (i + 1))), (0, .ref a)]) dX6_clearRow_12 rfl (ni_inc _) (by decide) rfl ?_
        refine mg_goto C (tgt := 2) dX6_clearRow_15 (by decide) ?_
        have h9 : w2 a = some (eI cI L (cpy0 (fun _ => 0) f (i + 1))) := by rw [h_w2_a]; exact congrArg (fun q => some (eI cI L q)) (cpy0_s (fun _ => 0) f i)
        refine mg_sub (lv' := [(0, .ref a), (1, .int (nI (i + 1)))]) [1, 0] rfl ?_
        exact ih2 ((i + 1)) (by omega) (by omega) w2 h9 (fun zz g0 => fr_w2 zz g0)
  refine mg_sub (lv' := [(0, .ref a), (1, .int (nI 0))]) [1, 0] rfl ?_
  exact L2 (_ + 1) 0 (Nat.lt_succ_self _) (Nat.zero_le _) w h9 (fun zz g0 => fr_w zz )

set_option maxHeartbeats 4000000 in
set_option maxRecDepth 20000 in
theorem c_X6_copyRow (D : va_G) (cI cS : ClassId) (w : mwT) (a b L : Nat) (f g : Nat → Int32) (ha : w a = some (eI cI L f)) (hb : w b = some (eI cI L g)) (hL : L < 100000) (hne : a ≠ b) : mMv yX6_copyRow cX6_copyRow 3 none (rmL 1) [.ref a, .ref b] D cI cS w (fun w1 => w1 b = some (eI cI L (cpy0 f g L)) ∧ ∀ c : Nat, c ≠ b → w1 c = w c) := by
  refine mMv.of (by decide) (Nat.le_of_ble_eq_true rfl) ?_
  intro X C hN hR
  have fr_w : ∀ zz : Nat, w zz = w zz := fun _ => rfl
  refine mg_sub (lv' := [(0, .ref a), (1, .ref b)]) [0, 1] rfl ?_
  refine mg_iconst C (v := nI 0) dX6_copyRow_0 (by decide) ?_
  refine mg_istore_n C (lv' := [(2, .int (nI 0)), (0, .ref a), (1, .ref b)]) dX6_copyRow_1 rfl (by decide) rfl ?_
  have h9 : w b = some (eI cI L (cpy0 f g 0)) := by rw [hb, cpy0_0]
  have L2 : ∀ (M2 : Nat) (i : Nat), L - i < M2 → (i ≤ L) → ∀ (w1 : mwT), w1 a = some (eI cI L f) → w1 b = some (eI cI L (cpy0 f g i)) → (∀ zz : Nat, zz ≠ b → w1 zz = w zz) → mwG X 0 0 w1 [(0, .ref a), (1, .ref b), (2, .int (nI i))] [] 2 := by
    intro M2
    induction M2 with
    | zero => intro i hm2; exact absurd hm2 (Nat.not_lt_zero _)
    | succ M2 ih2 =>
      intro i hm2 hi w1 h_w1_a h_w1_b fr_w1
      refine mg_iload_n C dX6_copyRow_2 rfl ?_
      refine mg_aload_n C dX6_copyRow_3 rfl ?_
      refine mg_alen C h_w1_a dX6_copyRow_4 ?_
      refine mg_icmpN_ge C (tgt := 26) dX6_copyRow_5 (by decide) (by omega) (by omega) (fun c_5 => ?_) (fun c_5 => ?_)
      · obtain rfl : i = L := by omega
        exact hR _ _ _ dX6_copyRow_26 ⟨h_w1_b, fr_w1⟩
      · refine mg_iload_n C dX6_copyRow_8 rfl ?_
        refine mg_aload_n C dX6_copyRow_9 rfl ?_
        refine mg_alen C h_w1_b dX6_copyRow_10 ?_
        refine mg_icmpN_ge C (tgt := 26) dX6_copyRow_11 (by decide) (by omega) (by omega) (fun c_11 => ?_) (fun c_11 => ?_)
        · obtain rfl : i = L := by omega
          exact hR _ _ _ dX6_copyRow_26 ⟨h_w1_b, fr_w1⟩
        · refine mg_aload_n C dX6_copyRow_14 rfl ?_
          refine mg_iload_n C dX6_copyRow_15 rfl ?_
          refine mg_aload_n C dX6_copyRow_16 rfl ?_
          refine mg_iload_n C dX6_copyRow_17 rfl ?_
          refine mg_ialdN C h_w1_a (by omega) (by omega) dX6_copyRow_18 ?_
          refine mg_iastN C h_w1_b (by omega) (by omega) dX6_copyRow_19 (fun w2 e_w2 => ?_)
          have h_w2_a : w2 a = some (eI cI L f) := (congrFun e_w2 _).trans ((mwu_ne hne).trans h_w1_a)
          have h_w2_b : w2 b = some (eI cI L (upd (cpy0 f g i) i (f i))) := (congrFun e_w2 _).trans mwu_eq
          have fr_w2 : ∀ zz : Nat, zz ≠ b → w2 zz = w zz := fun zz g0 => (congrFun e_w2 zz).trans ((mwu_ne g0).trans (fr_w1 zz g0))
          refine mg_iinc C (v := nI (i + 1)) (lv' := [(2, .int (nI (i + 1))), (0, .ref a), (1, .ref b)]) dX6_copyRow_20 rfl (ni_inc _) (by decide) rfl ?_
          refine mg_goto C (tgt := 2) dX6_copyRow_23 (by decide) ?_
          have h9 : w2 b = some (eI cI L (cpy0 f g (i + 1))) := by rw [h_w2_b]; exact congrArg (fun q => some (eI cI L q)) (cpy0_s f g i)
          refine mg_sub (lv' := [(0, .ref a), (1, .ref b), (2, .int (nI (i + 1)))]) [1, 2, 0] rfl ?_
          exact ih2 ((i + 1)) (by omega) (by omega) w2 h_w2_a h9 (fun zz g0 => fr_w2 zz g0)
  refine mg_sub (lv' := [(0, .ref a), (1, .ref b), (2, .int (nI 0))]) [1, 2, 0] rfl ?_
  exact L2 (_ + 1) 0 (Nat.lt_succ_self _) (Nat.zero_le _) w ha h9 (fun zz g0 => fr_w zz )
