set_option maxHeartbeats 4000000 in
set_option maxRecDepth 20000 in
theorem c_X7_in (D : va_G) (cI cS : ClassId) (w : mwT) (x lw hg : Int32) : mMi yX7_in cX7_in 3 (some .boolean) (rmL 1) [.int x, .int lw, .int hg] D cI cS w (fun r w1 => ((r = nI 1 ∧ lw ≤ x ∧ x ≤ hg) ∨ (r = nI 0 ∧ ¬ (lw ≤ x ∧ x ≤ hg))) ∧ w1 = w) := by
  refine mMz.of (by decide) (Nat.le_of_ble_eq_true rfl) ?_
  intro X C hN hR
  refine mg_sub (lv' := [(0, .int x), (1, .int lw), (2, .int hg)]) [0, 1, 2] rfl ?_
  refine mg_iload_n C dX7_in_0 rfl ?_
  refine mg_iload_n C dX7_in_1 rfl ?_
  refine mg_icmp_lt C (tgt := 14) dX7_in_2 (by decide) (fun c_2 => ?_) (fun c_2 => ?_)
  · refine mg_iconst C (v := nI 0) dX7_in_14 (by decide) ?_
    exact hR _ _ _ _ dX7_in_15 (Or.inl rfl) ⟨Or.inr ⟨rfl, fun q => Int32.not_lt.mpr q.1 c_2⟩, rfl⟩
  · refine mg_iload_n C dX7_in_5 rfl ?_
    refine mg_iload_n C dX7_in_6 rfl ?_
    refine mg_icmp_gt C (tgt := 14) dX7_in_7 (by decide) (fun c_7 => ?_) (fun c_7 => ?_)
    · refine mg_iconst C (v := nI 0) dX7_in_14 (by decide) ?_
      exact hR _ _ _ _ dX7_in_15 (Or.inl rfl) ⟨Or.inr ⟨rfl, fun q => Int32.not_lt.mpr q.2 c_7⟩, rfl⟩
    · refine mg_iconst C (v := nI 1) dX7_in_10 (by decide) ?_
      refine mg_goto C (tgt := 15) dX7_in_11 (by decide) ?_
      exact hR _ _ _ _ dX7_in_15 (Or.inr rfl) ⟨Or.inl ⟨rfl, Int32.not_lt.mp c_2, Int32.not_lt.mp c_7⟩, rfl⟩

set_option maxHeartbeats 4000000 in
set_option maxRecDepth 20000 in
theorem c_X7_none (D : va_G) (cI cS : ClassId) (w : mwT) (om md aso asi ase ato amo alo aro asr : Nat) (th : Int32)  (s : Int32) (hom : w om = some (.inr (6, [.int th, .int (nI md), .ref aso, .ref asi, .ref ase, .ref ato, .ref amo, .ref alo, .ref aro, .ref asr]))) (hmd : md ≤ 8) : mMi yX7_none cX7_none 2 (some .boolean) (rmL 2) [.ref om, .int s] D cI cS w (fun r w1 => ((r = nI 1 ∧ ¬ ixN md s) ∨ (r = nI 0 ∧ ixN md s)) ∧ w1 = w) := by
  refine mMz.of (by decide) (Nat.le_of_ble_eq_true rfl) ?_
  intro X C hN hR
  refine mg_sub (lv' := [(0, .ref om), (1, .int s)]) [0, 1] rfl ?_
  refine mg_iload_n C dX7_none_0 rfl ?_
  refine mg_iconst C (v := nI 0) dX7_none_1 (by decide) ?_
  refine mg_aload_n C dX7_none_2 rfl ?_
  refine mg_get C inT7 hom rfl 1 (by decide) kw_111 (Or.inl rfl) rfl dX7_none_3 ?_
  refine mg_iconst C (v := nI 1) dX7_none_6 (by decide) ?_
  refine mg_isub C (z := nI md - nI 1) dX7_none_7 rfl ?_
  refine mg_callS_i C (rest := []) (c_X7_in D cI cS w s (nI 0) (nI md - nI 1)) yq_X7_in kw_112 kw_113 ⟨by decide, by decide⟩ ⟨Nat.le_of_ble_eq_true rfl, Nat.le_of_ble_eq_true rfl⟩ (Nat.le_of_ble_eq_true rfl) rfl rfl dX7_none_8 (fun r1 w1 ⟨xa1, xk1⟩ => ?_)
  rw [xk1]
  rcases xa1 with ⟨ra1, hy_i⟩ | ⟨ra1, hy_i⟩
  · rw [ra1]
    refine mg_ifN_ne C (tgt := 18) dX7_none_11 (by decide) (by decide) (fun c_11 => ?_) (fun c_11 => absurd c_11 (by decide))
    refine mg_iconst C (v := nI 0) dX7_none_18 (by decide) ?_
    exact hR _ _ _ _ dX7_none_19 (Or.inl rfl) ⟨Or.inr ⟨rfl, (in_ix (by omega)).mp hy_i⟩, rfl⟩
  · rw [ra1]
    refine mg_ifN_ne C (tgt := 18) dX7_none_11 (by decide) (by decide) (fun c_11 => absurd c_11 (by decide)) (fun c_11 => ?_)
    refine mg_iconst C (v := nI 1) dX7_none_14 (by decide) ?_
    refine mg_goto C (tgt := 19) dX7_none_15 (by decide) ?_
    exact hR _ _ _ _ dX7_none_19 (Or.inr rfl) ⟨Or.inl ⟨rfl, fun q => hy_i ((in_ix (by omega)).mpr q)⟩, rfl⟩

set_option maxHeartbeats 4000000 in
set_option maxRecDepth 20000 in
theorem c_X7_hashOf (D : va_G) (cI cS : ClassId) (w : mwT) (s j x : Nat) (hs : s ≤ 999) (hj : j ≤ 3) (hx : x ≤ 9999) : mMi yX7_hashOf cX7_hashOf 3 (some .int) (rmL 1) [.int (nI s), .int (nI j), .int (nI x)] D cI cS w (fun r w1 => r = nI (hsN s j x) ∧ w1 = w) := by
  refine mMi.of (by decide) (Nat.le_of_ble_eq_true rfl) ?_
  intro X C hN hR
  refine mg_sub (lv' := [(0, .int (nI s)), (1, .int (nI j)), (2, .int (nI x))]) [0, 1, 2] rfl ?_
  have hb := hs_bd hs hj hx
  refine mg_iconst C (v := nI 1) dX7_hashOf_0 (by decide) ?_
  refine mg_bipush C (v := nI 31) dX7_hashOf_1 (by decide) ?_
  refine mg_iload_n C dX7_hashOf_3 rfl ?_
  refine mg_imul C (z := nI (31 * s)) dX7_hashOf_4 (pk_mul _ _) ?_
  refine mg_iadd C (z := nI (1 + (31 * s))) dX7_hashOf_5 (nI_add _ _) ?_
  refine mg_sipush C (v := nI 977) dX7_hashOf_6 (by decide) ?_
  refine mg_iload_n C dX7_hashOf_9 rfl ?_
  refine mg_imul C (z := nI (977 * j)) dX7_hashOf_10 (pk_mul _ _) ?_
  refine mg_iadd C (z := nI ((1 + (31 * s)) + (977 * j))) dX7_hashOf_11 (nI_add _ _) ?_
  refine mg_iload_n C dX7_hashOf_12 rfl ?_
  refine mg_iconst C (v := nI 1) dX7_hashOf_13 (by decide) ?_
  refine mg_iadd C (z := nI (x + 1)) dX7_hashOf_14 (nI_add _ _) ?_
  refine mg_imul C (z := nI (((1 + (31 * s)) + (977 * j)) * (x + 1))) dX7_hashOf_15 (pk_mul _ _) ?_
  refine mg_sipush C (v := nI 4391) dX7_hashOf_16 (by decide) ?_
  refine mg_iload_n C dX7_hashOf_19 rfl ?_
  refine mg_imul C (z := nI (4391 * j)) dX7_hashOf_20 (pk_mul _ _) ?_
  refine mg_iadd C (z := nI ((((1 + (31 * s)) + (977 * j)) * (x + 1)) + (4391 * j))) dX7_hashOf_21 (nI_add _ _) ?_
  refine mg_bipush C (v := nI 7) dX7_hashOf_22 (by decide) ?_
  refine mg_iload_n C dX7_hashOf_24 rfl ?_
  refine mg_imul C (z := nI (7 * s)) dX7_hashOf_25 (pk_mul _ _) ?_
  refine mg_iadd C (z := nI (((((1 + (31 * s)) + (977 * j)) * (x + 1)) + (4391 * j)) + (7 * s))) dX7_hashOf_26 (nI_add _ _) ?_
  refine mg_ldc C (v := nI 65537) dX7_hashOf_27 kw_363 (by decide) ?_
  refine mg_irem C (z := nI ((((((1 + (31 * s)) + (977 * j)) * (x + 1)) + (4391 * j)) + (7 * s)) % 65537)) dX7_hashOf_29 (nI_ne0 (by omega) (by omega)) (pk_rem (by omega) (by omega) (by omega)) ?_
  exact hR _ _ _ _ dX7_hashOf_30 ⟨rfl, rfl⟩

set_option maxHeartbeats 4000000 in
set_option maxRecDepth 20000 in
theorem c_X7_many (D : va_G) (cI cS : ClassId) (w : mwT) (om md aso asi ase ato amo alo aro asr : Nat) (th : Int32) (ro : Nat → Int32) (s h : Nat) (hom : w om = some (.inr (6, [.int th, .int (nI md), .ref aso, .ref asi, .ref ase, .ref ato, .ref amo, .ref alo, .ref aro, .ref asr]))) (h_aro : w aro = some (eI cI 9600 ro)) (hs8 : s < 8) (hm : ro (1200 * s) = nI h) : mMi yX7_many cX7_many 2 (some .int) (rmL 1) [.ref om, .int (nI s)] D cI cS w (fun r w1 => r = nI h ∧ w1 = w) := by
  refine mMi.of (by decide) (Nat.le_of_ble_eq_true rfl) ?_
  intro X C hN hR
  refine mg_sub (lv' := [(0, .ref om), (1, .int (nI s))]) [0, 1] rfl ?_
  refine mg_aload_n C dX7_many_0 rfl ?_
  refine mg_get C inT7 hom rfl 8 (by decide) kw_26 (Or.inl rfl) rfl dX7_many_1 ?_
  refine mg_sipush C (v := nI 1200) dX7_many_4 (by decide) ?_
  refine mg_iload_n C dX7_many_7 rfl ?_
  refine mg_imul C (z := nI (1200 * s)) dX7_many_8 (pk_mul _ _) ?_
  refine mg_ialdN C h_aro (by omega) (by omega) dX7_many_9 ?_
  exact hR _ _ _ _ dX7_many_10 ⟨hm, rfl⟩

set_option maxHeartbeats 4000000 in
set_option maxRecDepth 20000 in
theorem c_X7_at (D : va_G) (cI cS : ClassId) (w : mwT) (om md aso asi ase ato amo alo aro asr : Nat) (th : Int32) (s k : Nat) (hom : w om = some (.inr (6, [.int th, .int (nI md), .ref aso, .ref asi, .ref ase, .ref ato, .ref amo, .ref alo, .ref aro, .ref asr]))) : mMi yX7_at cX7_at 3 (some .int) (rmL 1) [.ref om, .int (nI s), .int (nI k)] D cI cS w (fun r w1 => r = nI (1200 * s + 100 + 2 * k) ∧ w1 = w) := by
  refine mMi.of (by decide) (Nat.le_of_ble_eq_true rfl) ?_
  intro X C hN hR
  refine mg_sub (lv' := [(0, .ref om), (1, .int (nI s)), (2, .int (nI k))]) [0, 1, 2] rfl ?_
  refine mg_sipush C (v := nI 1200) dX7_at_0 (by decide) ?_
  refine mg_iload_n C dX7_at_3 rfl ?_
  refine mg_imul C (z := nI (1200 * s)) dX7_at_4 (pk_mul _ _) ?_
  refine mg_bipush C (v := nI 100) dX7_at_5 (by decide) ?_
  refine mg_iadd C (z := nI ((1200 * s) + 100)) dX7_at_7 (nI_add _ _) ?_
  refine mg_iconst C (v := nI 2) dX7_at_8 (by decide) ?_
  refine mg_iload_n C dX7_at_9 rfl ?_
  refine mg_imul C (z := nI (2 * k)) dX7_at_10 (pk_mul _ _) ?_
  refine mg_iadd C (z := nI (((1200 * s) + 100) + (2 * k))) dX7_at_11 (nI_add _ _) ?_
  exact hR _ _ _ _ dX7_at_12 ⟨rfl, rfl⟩

set_option maxHeartbeats 4000000 in
set_option maxRecDepth 20000 in
theorem c_X7_keyAt (D : va_G) (cI cS : ClassId) (w : mwT) (om md aso asi ase ato amo alo aro asr : Nat) (th : Int32) (s i k : Nat) (hom : w om = some (.inr (6, [.int th, .int (nI md), .ref aso, .ref asi, .ref ase, .ref ato, .ref amo, .ref alo, .ref aro, .ref asr]))) : mMi yX7_keyAt cX7_keyAt 4 (some .int) (rmL 1) [.ref om, .int (nI s), .int (nI i), .int (nI k)] D cI cS w (fun r w1 => r = nI (1200 * s + 100 + 32 * i + k) ∧ w1 = w) := by
  refine mMi.of (by decide) (Nat.le_of_ble_eq_true rfl) ?_
  intro X C hN hR
  refine mg_sub (lv' := [(0, .ref om), (1, .int (nI s)), (2, .int (nI i)), (3, .int (nI k))]) [0, 1, 2, 3] rfl ?_
  refine mg_sipush C (v := nI 1200) dX7_keyAt_0 (by decide) ?_
  refine mg_iload_n C dX7_keyAt_3 rfl ?_
  refine mg_imul C (z := nI (1200 * s)) dX7_keyAt_4 (pk_mul _ _) ?_
  refine mg_bipush C (v := nI 100) dX7_keyAt_5 (by decide) ?_
  refine mg_iadd C (z := nI ((1200 * s) + 100)) dX7_keyAt_7 (nI_add _ _) ?_
  refine mg_bipush C (v := nI 32) dX7_keyAt_8 (by decide) ?_
  refine mg_iload_n C dX7_keyAt_10 rfl ?_
  refine mg_imul C (z := nI (32 * i)) dX7_keyAt_11 (pk_mul _ _) ?_
  refine mg_iadd C (z := nI (((1200 * s) + 100) + (32 * i))) dX7_keyAt_12 (nI_add _ _) ?_
  refine mg_iload_n C dX7_keyAt_13 rfl ?_
  refine mg_iadd C (z := nI ((((1200 * s) + 100) + (32 * i)) + k)) dX7_keyAt_14 (nI_add _ _) ?_
  exact hR _ _ _ _ dX7_keyAt_15 ⟨rfl, rfl⟩

set_option maxHeartbeats 4000000 in
set_option maxRecDepth 20000 in
theorem c_X7_counterOf (D : va_G) (cI cS : ClassId) (w : mwT) (om md aso asi ase ato amo alo aro asr : Nat) (th : Int32) (ro : Nat → Int32) (s h : Nat) (f g : Nat → Int32) (x : Int32) (hom : w om = some (.inr (6, [.int th, .int (nI md), .ref aso, .ref asi, .ref ase, .ref ato, .ref amo, .ref alo, .ref aro, .ref asr]))) (h_aro : w aro = some (eI cI 9600 ro)) (hs8 : s < 8) (hv : HvM ro s f g h) (hh : h ≤ 40) : mMi yX7_counterOf cX7_counterOf 4 (some .int) (rmL 2) [.ref om, .int (nI s), .int x] D cI cS w (fun r w1 => ((fdU f x h < h ∧ r = nI (fdU f x h)) ∨ (fdU f x h = h ∧ r = -1)) ∧ w1 = w) := by
  refine mMi.of (by decide) (Nat.le_of_ble_eq_true rfl) ?_
  intro X C hN hR
  refine mg_sub (lv' := [(0, .ref om), (1, .int (nI s)), (2, .int x)]) [0, 1, 2] rfl ?_
  refine mg_iconst C (v := nI 0) dX7_counterOf_0 (by decide) ?_
  refine mg_istore_n C (lv' := [(3, .int (nI 0)), (0, .ref om), (1, .int (nI s)), (2, .int x)]) dX7_counterOf_1 rfl (by decide) rfl ?_
  have L2 : ∀ (M2 : Nat) (iz : Nat), h - iz < M2 → (iz ≤ h) → (∀ j, j < iz → ¬ f j = x) → mwG X 0 0 w [(0, .ref om), (1, .int (nI s)), (2, .int x), (3, .int (nI iz))] [] 2 := by
    intro M2
    induction M2 with
    | zero => intro iz hm2; exact absurd hm2 (Nat.not_lt_zero _)
    | succ M2 ih2 =>
      intro iz hm2 hiz hbz
      refine mg_iload_n C dX7_counterOf_2 rfl ?_
      refine mg_aload_n C dX7_counterOf_3 rfl ?_
      refine mg_iload_n C dX7_counterOf_4 rfl ?_
      refine mg_callV_i C hom rfl (rest := [.int (nI iz)]) (c_X7_many D cI cS w om md aso asi ase ato amo alo aro asr th ro s h hom h_aro hs8 hv.1) yq_X7_many kw_340 kw_341 kw_342 ⟨by decide, by decide⟩ ⟨Nat.le_of_ble_eq_true rfl, Nat.le_of_ble_eq_true rfl⟩ (Nat.le_of_ble_eq_true rfl) rfl rfl dX7_counterOf_5 (fun r1 w2 ⟨e_r1, e_w2⟩ => ?_)
      rw [e_w2, e_r1]
      refine mg_icmpN_ge C (tgt := 34) dX7_counterOf_8 (by decide) (by omega) (by omega) (fun c_8 => ?_) (fun c_8 => ?_)
      · refine mg_iconst C (v := (-1 : Int32)) dX7_counterOf_34 (by decide) ?_
        have ef : h = fdU f x h := fdU_uniq (Nat.le_refl _) (fun j q => hbz j (by omega)) (fun q => absurd q (Nat.lt_irrefl _))
        exact hR _ _ _ _ dX7_counterOf_35 ⟨Or.inr ⟨ef.symm, rfl⟩, rfl⟩
      · refine mg_aload_n C dX7_counterOf_11 rfl ?_
        refine mg_get C inT7 hom rfl 8 (by decide) kw_26 (Or.inl rfl) rfl dX7_counterOf_12 ?_
        refine mg_aload_n C dX7_counterOf_15 rfl ?_
        refine mg_iload_n C dX7_counterOf_16 rfl ?_
        refine mg_iload_n C dX7_counterOf_17 rfl ?_
        refine mg_callV_i C hom rfl (rest := [.ref aro]) (c_X7_at D cI cS w om md aso asi ase ato amo alo aro asr th s iz hom) yq_X7_at kw_344 kw_345 kw_346 ⟨by decide, by decide⟩ ⟨Nat.le_of_ble_eq_true rfl, Nat.le_of_ble_eq_true rfl⟩ (Nat.le_of_ble_eq_true rfl) rfl rfl dX7_counterOf_18 (fun r3 w4 ⟨e_r3, e_w4⟩ => ?_)
        rw [e_w4, e_r3]
        refine mg_ialdN C h_aro (by omega) (by omega) dX7_counterOf_21 ?_
        rw [(hv.2 iz (by omega)).1]
        refine mg_iload_n C dX7_counterOf_22 rfl ?_
        refine mg_icmp_ne C (tgt := 28) dX7_counterOf_23 (by decide) (fun c_23 => ?_) (fun c_23 => ?_)
        · refine mg_iinc C (v := nI (iz + 1)) (lv' := [(3, .int (nI (iz + 1))), (0, .ref om), (1, .int (nI s)), (2, .int x)]) dX7_counterOf_28 rfl (ni_inc _) (by decide) rfl ?_
          refine mg_goto C (tgt := 2) dX7_counterOf_31 (by decide) ?_
          refine mg_sub (lv' := [(0, .ref om), (1, .int (nI s)), (2, .int x), (3, .int (nI (iz + 1)))]) [1, 2, 3, 0] rfl ?_
          exact ih2 ((iz + 1)) (by omega) (by omega) (lt_s hbz c_23)
        · refine mg_iload_n C dX7_counterOf_26 rfl ?_
          have ef : iz = fdU f x h := fdU_uniq (by omega) hbz (fun _ => c_23)
          exact hR _ _ _ _ dX7_counterOf_27 ⟨Or.inl ⟨by omega, congrArg nI ef⟩, rfl⟩
  refine mg_sub (lv' := [(0, .ref om), (1, .int (nI s)), (2, .int x), (3, .int (nI 0))]) [1, 2, 3, 0] rfl ?_
  exact L2 (_ + 1) 0 (Nat.lt_succ_self _) (Nat.zero_le _) (fun j q => absurd q (Nat.not_lt_zero _))

set_option maxHeartbeats 4000000 in
set_option maxRecDepth 20000 in
theorem c_X7_add (D : va_G) (cI cS : ClassId) (w : mwT) (om md aso asi ase ato amo alo aro asr : Nat) (th : Int32) (ro : Nat → Int32) (s h : Nat) (f g : Nat → Int32) (x n : Int32) (hom : w om = some (.inr (6, [.int th, .int (nI md), .ref aso, .ref asi, .ref ase, .ref ato, .ref amo, .ref alo, .ref aro, .ref asr]))) (h_aro : w aro = some (eI cI 9600 ro)) (hs8 : s < 8) (hv : HvM ro s f g h) (hh : h < 40) : mMv yX7_add cX7_add 5 none (rmL 3) [.ref om, .int (nI s), .int x, .int n] D cI cS w (fun w1 => ∃ ro1 : Nat → Int32, w1 aro = some (eI cI 9600 ro1) ∧ HvM ro1 s (addU x n (f, g, h)).1 (addU x n (f, g, h)).2.1 (addU x n (f, g, h)).2.2 ∧ outS ro ro1 s ∧ ∀ z : Nat, z ≠ aro → w1 z = w z) := by
  refine mMv.of (by decide) (Nat.le_of_ble_eq_true rfl) ?_
  intro X C hN hR
  have fr_w : ∀ zz : Nat, w zz = w zz := fun _ => rfl
  refine mg_sub (lv' := [(0, .ref om), (1, .int (nI s)), (2, .int x), (3, .int n)]) [0, 1, 2, 3] rfl ?_
  refine mg_aload_n C dX7_add_0 rfl ?_
  refine mg_iload_n C dX7_add_1 rfl ?_
  refine mg_iload_n C dX7_add_2 rfl ?_
  refine mg_callV_i C hom rfl (rest := []) (c_X7_counterOf D cI cS w om md aso asi ase ato amo alo aro asr th ro s h f g x hom h_aro hs8 hv (by omega)) yq_X7_counterOf kw_336 kw_337 kw_338 ⟨by decide, by decide⟩ ⟨Nat.le_of_ble_eq_true rfl, Nat.le_of_ble_eq_true rfl⟩ (Nat.le_of_ble_eq_true rfl) rfl rfl dX7_add_3 (fun r1 w1 ⟨xa1, xk1⟩ => ?_)
  rw [xk1]
  rcases xa1 with ⟨hfd, ra1⟩ | ⟨hfd, ra1⟩
  · rw [ra1]
    refine mg_istore C (lv' := [(4, .int (nI (fdU f x h))), (0, .ref om), (1, .int (nI s)), (2, .int x), (3, .int n)]) dX7_add_6 (by decide) rfl ?_
    refine mg_iload C dX7_add_8 rfl ?_
    refine mg_ifN_ge C (tgt := 62) dX7_add_10 (by decide) (by omega) ?_
    refine mg_aload_n C dX7_add_62 rfl ?_
    refine mg_get C inT7 hom rfl 8 (by decide) kw_26 (Or.inl rfl) rfl dX7_add_63 ?_
    refine mg_aload_n C dX7_add_66 rfl ?_
    refine mg_iload_n C dX7_add_67 rfl ?_
    refine mg_iload C dX7_add_68 rfl ?_
    refine mg_callV_i C hom rfl (rest := [.ref aro]) (c_X7_at D cI cS w om md aso asi ase ato amo alo aro asr th s (fdU f x h) hom) yq_X7_at kw_344 kw_345 kw_346 ⟨by decide, by decide⟩ ⟨Nat.le_of_ble_eq_true rfl, Nat.le_of_ble_eq_true rfl⟩ (Nat.le_of_ble_eq_true rfl) rfl rfl dX7_add_70 (fun r2 w3 ⟨e_r2, e_w3⟩ => ?_)
    rw [e_w3, e_r2]
    refine mg_iconst C (v := nI 1) dX7_add_73 (by decide) ?_
    refine mg_iadd C (z := nI ((1200 * s + 100 + 2 * (fdU f x h)) + 1)) dX7_add_74 (nI_add _ _) ?_
    refine mg_aload_n C dX7_add_75 rfl ?_
    refine mg_get C inT7 hom rfl 8 (by decide) kw_26 (Or.inl rfl) rfl dX7_add_76 ?_
    refine mg_aload_n C dX7_add_79 rfl ?_
    refine mg_iload_n C dX7_add_80 rfl ?_
    refine mg_iload C dX7_add_81 rfl ?_
    refine mg_callV_i C hom rfl (rest := [.ref aro, .int (nI ((1200 * s + 100 + 2 * (fdU f x h)) + 1)), .ref aro]) (c_X7_at D cI cS w om md aso asi ase ato amo alo aro asr th s (fdU f x h) hom) yq_X7_at kw_344 kw_345 kw_346 ⟨by decide, by decide⟩ ⟨Nat.le_of_ble_eq_true rfl, Nat.le_of_ble_eq_true rfl⟩ (Nat.le_of_ble_eq_true rfl) rfl rfl dX7_add_83 (fun r4 w5 ⟨e_r4, e_w5⟩ => ?_)
    rw [e_w5, e_r4]
    refine mg_iconst C (v := nI 1) dX7_add_86 (by decide) ?_
    refine mg_iadd C (z := nI ((1200 * s + 100 + 2 * (fdU f x h)) + 1)) dX7_add_87 (nI_add _ _) ?_
    refine mg_ialdN C h_aro (by omega) (by omega) dX7_add_88 ?_
    rw [(hv.2 _ hfd).2]
    refine mg_iload_n C dX7_add_89 rfl ?_
    refine mg_iadd C (z := (g (fdU f x h)) + n) dX7_add_90 rfl ?_
    refine mg_iastN C h_aro (by omega) (by omega) dX7_add_91 (fun w6 e_w6 => ?_)
    have h_w6_om : w6 om = some (.inr (6, [.int th, .int (nI md), .ref aso, .ref asi, .ref ase, .ref ato, .ref amo, .ref alo, .ref aro, .ref asr])) := (congrFun e_w6 _).trans ((mwu_ne (mw_oa hom h_aro)).trans hom)
    have h_w6_aro : w6 aro = some (eI cI 9600 (upd ro ((1200 * s + 100 + 2 * (fdU f x h)) + 1) ((g (fdU f x h)) + n))) := (congrFun e_w6 _).trans mwu_eq
    have fr_w6 : ∀ zz : Nat, zz ≠ aro → w6 zz = w zz := fun zz g0 => (congrFun e_w6 zz).trans ((mwu_ne g0).trans (fr_w zz ))
    have ea : addU x n (f, g, h) = (f, upd g (fdU f x h) (g (fdU f x h) + n), h) := if_pos hfd
    exact hR _ _ _ dX7_add_92 ⟨_, h_w6_aro, by rw [ea]; exact hv.add hfd, (outS.rf ro s).up (by omega) (by omega), fun z q0 => fr_w6 z q0⟩
  · rw [ra1]
    refine mg_istore C (lv' := [(4, .int ((-1 : Int32))), (0, .ref om), (1, .int (nI s)), (2, .int x), (3, .int n)]) dX7_add_6 (by decide) rfl ?_
    refine mg_iload C dX7_add_8 rfl ?_
    refine mg_if_ge C (tgt := 62) dX7_add_10 (by decide) (fun c_10 => absurd c_10 (by decide)) (fun c_10 => ?_)
    refine mg_aload_n C dX7_add_13 rfl ?_
    refine mg_iload_n C dX7_add_14 rfl ?_
    refine mg_callV_i C hom rfl (rest := []) (c_X7_many D cI cS w om md aso asi ase ato amo alo aro asr th ro s h hom h_aro hs8 hv.1) yq_X7_many kw_340 kw_341 kw_342 ⟨by decide, by decide⟩ ⟨Nat.le_of_ble_eq_true rfl, Nat.le_of_ble_eq_true rfl⟩ (Nat.le_of_ble_eq_true rfl) rfl rfl dX7_add_15 (fun r7 w8 ⟨e_r7, e_w8⟩ => ?_)
    rw [e_w8, e_r7]
    refine mg_istore C (lv' := [(4, .int (nI h)), (0, .ref om), (1, .int (nI s)), (2, .int x), (3, .int n)]) dX7_add_18 (by decide) rfl ?_
    refine mg_aload_n C dX7_add_20 rfl ?_
    refine mg_get C inT7 hom rfl 8 (by decide) kw_26 (Or.inl rfl) rfl dX7_add_21 ?_
    refine mg_aload_n C dX7_add_24 rfl ?_
    refine mg_iload_n C dX7_add_25 rfl ?_
    refine mg_iload C dX7_add_26 rfl ?_
    refine mg_callV_i C hom rfl (rest := [.ref aro]) (c_X7_at D cI cS w om md aso asi ase ato amo alo aro asr th s h hom) yq_X7_at kw_344 kw_345 kw_346 ⟨by decide, by decide⟩ ⟨Nat.le_of_ble_eq_true rfl, Nat.le_of_ble_eq_true rfl⟩ (Nat.le_of_ble_eq_true rfl) rfl rfl dX7_add_28 (fun r9 w10 ⟨e_r9, e_w10⟩ => ?_)
    rw [e_w10, e_r9]
    refine mg_iload_n C dX7_add_31 rfl ?_
    refine mg_iastN C h_aro (by omega) (by omega) dX7_add_32 (fun w11 e_w11 => ?_)
    have h_w11_om : w11 om = some (.inr (6, [.int th, .int (nI md), .ref aso, .ref asi, .ref ase, .ref ato, .ref amo, .ref alo, .ref aro, .ref asr])) := (congrFun e_w11 _).trans ((mwu_ne (mw_oa hom h_aro)).trans hom)
    have h_w11_aro : w11 aro = some (eI cI 9600 (upd ro (1200 * s + 100 + 2 * h) x)) := (congrFun e_w11 _).trans mwu_eq
    have fr_w11 : ∀ zz : Nat, zz ≠ aro → w11 zz = w zz := fun zz g0 => (congrFun e_w11 zz).trans ((mwu_ne g0).trans (fr_w zz ))
    refine mg_aload_n C dX7_add_33 rfl ?_
    refine mg_get C inT7 h_w11_om rfl 8 (by decide) kw_26 (Or.inl rfl) rfl dX7_add_34 ?_
    refine mg_aload_n C dX7_add_37 rfl ?_
    refine mg_iload_n C dX7_add_38 rfl ?_
    refine mg_iload C dX7_add_39 rfl ?_
    refine mg_callV_i C h_w11_om rfl (rest := [.ref aro]) (c_X7_at D cI cS w11 om md aso asi ase ato amo alo aro asr th s h h_w11_om) yq_X7_at kw_344 kw_345 kw_346 ⟨by decide, by decide⟩ ⟨Nat.le_of_ble_eq_true rfl, Nat.le_of_ble_eq_true rfl⟩ (Nat.le_of_ble_eq_true rfl) rfl rfl dX7_add_41 (fun r12 w13 ⟨e_r12, e_w13⟩ => ?_)
    rw [e_w13, e_r12]
    refine mg_iconst C (v := nI 1) dX7_add_44 (by decide) ?_
    refine mg_iadd C (z := nI ((1200 * s + 100 + 2 * h) + 1)) dX7_add_45 (nI_add _ _) ?_
    refine mg_iconst C (v := nI 0) dX7_add_46 (by decide) ?_
    refine mg_iastN C h_w11_aro (by omega) (by omega) dX7_add_47 (fun w14 e_w14 => ?_)
    have h_w14_om : w14 om = some (.inr (6, [.int th, .int (nI md), .ref aso, .ref asi, .ref ase, .ref ato, .ref amo, .ref alo, .ref aro, .ref asr])) := (congrFun e_w14 _).trans ((mwu_ne (mw_oa h_w11_om h_w11_aro)).trans h_w11_om)
    have h_w14_aro : w14 aro = some (eI cI 9600 (upd (upd ro (1200 * s + 100 + 2 * h) x) ((1200 * s + 100 + 2 * h) + 1) (nI 0))) := (congrFun e_w14 _).trans mwu_eq
    have fr_w14 : ∀ zz : Nat, zz ≠ aro → w14 zz = w zz := fun zz g0 => (congrFun e_w14 zz).trans ((mwu_ne g0).trans (fr_w11 zz g0))
    refine mg_aload_n C dX7_add_48 rfl ?_
    refine mg_get C inT7 h_w14_om rfl 8 (by decide) kw_26 (Or.inl rfl) rfl dX7_add_49 ?_
    refine mg_sipush C (v := nI 1200) dX7_add_52 (by decide) ?_
    refine mg_iload_n C dX7_add_55 rfl ?_
    refine mg_imul C (z := nI (1200 * s)) dX7_add_56 (pk_mul _ _) ?_
    refine mg_iload C dX7_add_57 rfl ?_
    refine mg_iconst C (v := nI 1) dX7_add_59 (by decide) ?_
    refine mg_iadd C (z := nI (h + 1)) dX7_add_60 (nI_add _ _) ?_
    refine mg_iastN C h_w14_aro (by omega) (by omega) dX7_add_61 (fun w15 e_w15 => ?_)
    have h_w15_om : w15 om = some (.inr (6, [.int th, .int (nI md), .ref aso, .ref asi, .ref ase, .ref ato, .ref amo, .ref alo, .ref aro, .ref asr])) := (congrFun e_w15 _).trans ((mwu_ne (mw_oa h_w14_om h_w14_aro)).trans h_w14_om)
    have h_w15_aro : w15 aro = some (eI cI 9600 (upd (upd (upd ro (1200 * s + 100 + 2 * h) x) ((1200 * s + 100 + 2 * h) + 1) (nI 0)) (1200 * s) (nI (h + 1)))) := (congrFun e_w15 _).trans mwu_eq
    have fr_w15 : ∀ zz : Nat, zz ≠ aro → w15 zz = w zz := fun zz g0 => (congrFun e_w15 zz).trans ((mwu_ne g0).trans (fr_w14 zz g0))
    refine mg_aload_n C dX7_add_62 rfl ?_
    refine mg_get C inT7 h_w15_om rfl 8 (by decide) kw_26 (Or.inl rfl) rfl dX7_add_63 ?_
    refine mg_aload_n C dX7_add_66 rfl ?_
    refine mg_iload_n C dX7_add_67 rfl ?_
    refine mg_iload C dX7_add_68 rfl ?_
    refine mg_callV_i C h_w15_om rfl (rest := [.ref aro]) (c_X7_at D cI cS w15 om md aso asi ase ato amo alo aro asr th s h h_w15_om) yq_X7_at kw_344 kw_345 kw_346 ⟨by decide, by decide⟩ ⟨Nat.le_of_ble_eq_true rfl, Nat.le_of_ble_eq_true rfl⟩ (Nat.le_of_ble_eq_true rfl) rfl rfl dX7_add_70 (fun r16 w17 ⟨e_r16, e_w17⟩ => ?_)
    rw [e_w17, e_r16]
    refine mg_iconst C (v := nI 1) dX7_add_73 (by decide) ?_
    refine mg_iadd C (z := nI ((1200 * s + 100 + 2 * h) + 1)) dX7_add_74 (nI_add _ _) ?_
    refine mg_aload_n C dX7_add_75 rfl ?_
    refine mg_get C inT7 h_w15_om rfl 8 (by decide) kw_26 (Or.inl rfl) rfl dX7_add_76 ?_
    refine mg_aload_n C dX7_add_79 rfl ?_
    refine mg_iload_n C dX7_add_80 rfl ?_
    refine mg_iload C dX7_add_81 rfl ?_
    refine mg_callV_i C h_w15_om rfl (rest := [.ref aro, .int (nI ((1200 * s + 100 + 2 * h) + 1)), .ref aro]) (c_X7_at D cI cS w15 om md aso asi ase ato amo alo aro asr th s h h_w15_om) yq_X7_at kw_344 kw_345 kw_346 ⟨by decide, by decide⟩ ⟨Nat.le_of_ble_eq_true rfl, Nat.le_of_ble_eq_true rfl⟩ (Nat.le_of_ble_eq_true rfl) rfl rfl dX7_add_83 (fun r18 w19 ⟨e_r18, e_w19⟩ => ?_)
    rw [e_w19, e_r18]
    refine mg_iconst C (v := nI 1) dX7_add_86 (by decide) ?_
    refine mg_iadd C (z := nI ((1200 * s + 100 + 2 * h) + 1)) dX7_add_87 (nI_add _ _) ?_
    refine mg_ialdN C h_w15_aro (by omega) (by omega) dX7_add_88 ?_
    have e0 : (upd (upd (upd ro (1200 * s + 100 + 2 * h) x) ((1200 * s + 100 + 2 * h) + 1) (nI 0)) (1200 * s) (nI (h + 1))) ((1200 * s + 100 + 2 * h) + 1) = nI 0 := by unfold upd; rw [if_neg (by omega), if_pos rfl]
    rw [e0]
    refine mg_iload_n C dX7_add_89 rfl ?_
    refine mg_iadd C (z := (nI 0) + n) dX7_add_90 rfl ?_
    refine mg_iastN C h_w15_aro (by omega) (by omega) dX7_add_91 (fun w20 e_w20 => ?_)
    have h_w20_om : w20 om = some (.inr (6, [.int th, .int (nI md), .ref aso, .ref asi, .ref ase, .ref ato, .ref amo, .ref alo, .ref aro, .ref asr])) := (congrFun e_w20 _).trans ((mwu_ne (mw_oa h_w15_om h_w15_aro)).trans h_w15_om)
    have h_w20_aro : w20 aro = some (eI cI 9600 (upd (upd (upd (upd ro (1200 * s + 100 + 2 * h) x) ((1200 * s + 100 + 2 * h) + 1) (nI 0)) (1200 * s) (nI (h + 1))) ((1200 * s + 100 + 2 * h) + 1) ((nI 0) + n))) := (congrFun e_w20 _).trans mwu_eq
    have fr_w20 : ∀ zz : Nat, zz ≠ aro → w20 zz = w zz := fun zz g0 => (congrFun e_w20 zz).trans ((mwu_ne g0).trans (fr_w15 zz g0))
    have ea : addU x n (f, g, h) = (upd f h x, upd g h (nI 0 + n), h + 1) := if_neg (by show ¬ fdU f x h < h; omega)
    exact hR _ _ _ dX7_add_92 ⟨_, h_w20_aro, by rw [ea]; exact hv.new, ((((outS.rf ro s).up (by omega) (by omega)).up (by omega) (by omega)).up (by omega) (by omega)).up (by omega) (by omega), fun z q0 => fr_w20 z q0⟩

set_option maxHeartbeats 4000000 in
set_option maxRecDepth 20000 in
theorem c_X7_lessen (D : va_G) (cI cS : ClassId) (w : mwT) (om md aso asi ase ato amo alo aro asr : Nat) (th : Int32) (ro : Nat → Int32) (lo : Nat → Int32) (tg : Nat → Nat) (s h : Nat) (f g : Nat → Int32) (d : Int32) (hom : w om = some (.inr (6, [.int th, .int (nI md), .ref aso, .ref asi, .ref ase, .ref ato, .ref amo, .ref alo, .ref aro, .ref asr]))) (h_aro : w aro = some (eI cI 9600 ro)) (h_alo : w alo = some (eI cI 8 lo)) (hs8 : s < 8) (hv : HvM ro s f g h) (hh : h ≤ 40) (t_aro : tg aro = 7) (t_alo : tg alo = 6) : mMv yX7_lessen cX7_lessen 6 none (rmL 2) [.ref om, .int (nI s), .int d] D cI cS w (fun w1 => ∃ ro1 : Nat → Int32, w1 aro = some (eI cI 9600 ro1) ∧ HvM ro1 s (lessU f g d h).1 (lessU f g d h).2.1 (lessU f g d h).2.2 ∧ outS ro ro1 s ∧ w1 alo = some (eI cI 8 (upd lo s (lo s + d))) ∧ ∀ z : Nat, z ≠ aro → z ≠ alo → w1 z = w z) := by
  refine mMv.of (by decide) (Nat.le_of_ble_eq_true rfl) ?_
  intro X C hN hR
  have fr_w : ∀ zz : Nat, w zz = w zz := fun _ => rfl
  refine mg_sub (lv' := [(0, .ref om), (1, .int (nI s)), (2, .int d)]) [0, 1, 2] rfl ?_
  refine mg_iconst C (v := nI 0) dX7_lessen_0 (by decide) ?_
  refine mg_istore_n C (lv' := [(3, .int (nI 0)), (0, .ref om), (1, .int (nI s)), (2, .int d)]) dX7_lessen_1 rfl (by decide) rfl ?_
  refine mg_iconst C (v := nI 0) dX7_lessen_2 (by decide) ?_
  refine mg_istore C (lv' := [(4, .int (nI 0)), (3, .int (nI 0)), (0, .ref om), (1, .int (nI s)), (2, .int d)]) dX7_lessen_3 (by decide) rfl ?_
  have L5 : ∀ (M5 : Nat) (iz : Nat) (roz : Nat → Int32), h - iz < M5 → (iz ≤ h) → (HvM roz s (lessU f g d iz).1 (lessU f g d iz).2.1 h) → (outS ro roz s) → ∀ (w1 : mwT), w1 om = some (.inr (6, [.int th, .int (nI md), .ref aso, .ref asi, .ref ase, .ref ato, .ref amo, .ref alo, .ref aro, .ref asr])) → w1 aro = some (eI cI 9600 roz) → w1 alo = some (eI cI 8 lo) → (∀ zz : Nat, zz ≠ aro → w1 zz = w zz) → mwG X 0 0 w1 [(0, .ref om), (1, .int (nI s)), (2, .int d), (3, .int (nI ((lessU f g d iz).2.2))), (4, .int (nI iz))] [] 5 := by
    intro M5
    induction M5 with
    | zero => intro iz roz hm5; exact absurd hm5 (Nat.not_lt_zero _)
    | succ M5 ih5 =>
      intro iz roz hm5 hiz hvz hoz w1 h_w1_om h_w1_aro h_w1_alo fr_w1
      refine mg_iload C dX7_lessen_5 rfl ?_
      refine mg_aload_n C dX7_lessen_7 rfl ?_
      refine mg_iload_n C dX7_lessen_8 rfl ?_
      refine mg_callV_i C h_w1_om rfl (rest := [.int (nI iz)]) (c_X7_many D cI cS w1 om md aso asi ase ato amo alo aro asr th roz s h h_w1_om h_w1_aro hs8 hvz.1) yq_X7_many kw_340 kw_341 kw_342 ⟨by decide, by decide⟩ ⟨Nat.le_of_ble_eq_true rfl, Nat.le_of_ble_eq_true rfl⟩ (Nat.le_of_ble_eq_true rfl) rfl rfl dX7_lessen_9 (fun r2 w3 ⟨e_r2, e_w3⟩ => ?_)
      rw [e_w3, e_r2]
      refine mg_icmpN_ge C (tgt := 85) dX7_lessen_12 (by decide) (by omega) (by omega) (fun c_12 => ?_) (fun c_12 => ?_)
      · refine mg_aload_n C dX7_lessen_85 rfl ?_
        refine mg_get C inT7 h_w1_om rfl 8 (by decide) kw_26 (Or.inl rfl) rfl dX7_lessen_86 ?_
        refine mg_sipush C (v := nI 1200) dX7_lessen_89 (by decide) ?_
        refine mg_iload_n C dX7_lessen_92 rfl ?_
        refine mg_imul C (z := nI (1200 * s)) dX7_lessen_93 (pk_mul _ _) ?_
        refine mg_iload_n C dX7_lessen_94 rfl ?_
        refine mg_iastN C h_w1_aro (by omega) (by omega) dX7_lessen_95 (fun w4 e_w4 => ?_)
        have h_w4_om : w4 om = some (.inr (6, [.int th, .int (nI md), .ref aso, .ref asi, .ref ase, .ref ato, .ref amo, .ref alo, .ref aro, .ref asr])) := (congrFun e_w4 _).trans ((mwu_ne (mw_oa h_w1_om h_w1_aro)).trans h_w1_om)
        have h_w4_aro : w4 aro = some (eI cI 9600 (upd roz (1200 * s) (nI ((lessU f g d iz).2.2)))) := (congrFun e_w4 _).trans mwu_eq
        have h_w4_alo : w4 alo = some (eI cI 8 lo) := (congrFun e_w4 _).trans ((mwu_ne (Ne.symm (tne t_aro t_alo (by decide)))).trans h_w1_alo)
        have fr_w4 : ∀ zz : Nat, zz ≠ aro → w4 zz = w zz := fun zz g0 => (congrFun e_w4 zz).trans ((mwu_ne g0).trans (fr_w1 zz g0))
        refine mg_aload_n C dX7_lessen_96 rfl ?_
        refine mg_get C inT7 h_w4_om rfl 7 (by decide) kw_25 (Or.inl rfl) rfl dX7_lessen_97 ?_
        refine mg_iload_n C dX7_lessen_100 rfl ?_
        refine mg_aload_n C dX7_lessen_101 rfl ?_
        refine mg_get C inT7 h_w4_om rfl 7 (by decide) kw_25 (Or.inl rfl) rfl dX7_lessen_102 ?_
        refine mg_iload_n C dX7_lessen_105 rfl ?_
        refine mg_ialdN C h_w4_alo (by omega) (by omega) dX7_lessen_106 ?_
        refine mg_iload_n C dX7_lessen_107 rfl ?_
        refine mg_iadd C (z := (lo s) + d) dX7_lessen_108 rfl ?_
        refine mg_iastN C h_w4_alo (by omega) (by omega) dX7_lessen_109 (fun w5 e_w5 => ?_)
        have h_w5_om : w5 om = some (.inr (6, [.int th, .int (nI md), .ref aso, .ref asi, .ref ase, .ref ato, .ref amo, .ref alo, .ref aro, .ref asr])) := (congrFun e_w5 _).trans ((mwu_ne (mw_oa h_w4_om h_w4_alo)).trans h_w4_om)
        have h_w5_aro : w5 aro = some (eI cI 9600 (upd roz (1200 * s) (nI ((lessU f g d iz).2.2)))) := (congrFun e_w5 _).trans ((mwu_ne (tne t_aro t_alo (by decide))).trans h_w4_aro)
        have h_w5_alo : w5 alo = some (eI cI 8 (upd lo s ((lo s) + d))) := (congrFun e_w5 _).trans mwu_eq
        have fr_w5 : ∀ zz : Nat, zz ≠ aro → zz ≠ alo → w5 zz = w zz := fun zz g0 g1 => (congrFun e_w5 zz).trans ((mwu_ne g1).trans (fr_w4 zz g0))
        have ei : iz = h := by omega
        have hle := lessU_le f g d iz
        have hfin := hvz.cut (q := (lessU f g d iz).2.2) (by omega)
        rw [ei] at hfin
        rw [ei] at h_w5_aro
        exact hR _ _ _ dX7_lessen_110 ⟨_, h_w5_aro, hfin, hoz.up (by omega) (by omega), h_w5_alo, fun z q0 q1 => fr_w5 z q0 q1⟩
      · refine mg_aload_n C dX7_lessen_15 rfl ?_
        refine mg_get C inT7 h_w1_om rfl 8 (by decide) kw_26 (Or.inl rfl) rfl dX7_lessen_16 ?_
        refine mg_aload_n C dX7_lessen_19 rfl ?_
        refine mg_iload_n C dX7_lessen_20 rfl ?_
        refine mg_iload C dX7_lessen_21 rfl ?_
        refine mg_callV_i C h_w1_om rfl (rest := [.ref aro]) (c_X7_at D cI cS w1 om md aso asi ase ato amo alo aro asr th s iz h_w1_om) yq_X7_at kw_344 kw_345 kw_346 ⟨by decide, by decide⟩ ⟨Nat.le_of_ble_eq_true rfl, Nat.le_of_ble_eq_true rfl⟩ (Nat.le_of_ble_eq_true rfl) rfl rfl dX7_lessen_23 (fun r6 w7 ⟨e_r6, e_w7⟩ => ?_)
        rw [e_w7, e_r6]
        refine mg_iconst C (v := nI 1) dX7_lessen_26 (by decide) ?_
        refine mg_iadd C (z := nI ((1200 * s + 100 + 2 * iz) + 1)) dX7_lessen_27 (nI_add _ _) ?_
        refine mg_ialdN C h_w1_aro (by omega) (by omega) dX7_lessen_28 ?_
        rw [(hvz.2 iz (by omega)).2]
        have hle := lessU_le f g d iz
        refine mg_iload_n C dX7_lessen_29 rfl ?_
        refine mg_isub C (z := ((lessU f g d iz).2.1 iz) - d) dX7_lessen_30 rfl ?_
        refine mg_istore C (lv' := [(5, .int (((lessU f g d iz).2.1 iz) - d)), (0, .ref om), (1, .int (nI s)), (2, .int d), (3, .int (nI ((lessU f g d iz).2.2))), (4, .int (nI iz))]) dX7_lessen_31 (by decide) rfl ?_
        refine mg_iload C dX7_lessen_33 rfl ?_
        refine mg_if_le C (tgt := 79) dX7_lessen_35 (by decide) (fun c_35 => ?_) (fun c_35 => ?_)
        · have el := lessU_skip c_35
          have hvn : HvM roz s (lessU f g d (iz + 1)).1 (lessU f g d (iz + 1)).2.1 h := by rw [el]; exact hvz
          have hon := hoz
          have el2 : nI ((lessU f g d iz).2.2) = nI (lessU f g d (iz + 1)).2.2 := by rw [el]
          rw [el2]
          refine mg_iinc C (v := nI (iz + 1)) (lv' := [(4, .int (nI (iz + 1))), (5, .int (((lessU f g d iz).2.1 iz) - d)), (0, .ref om), (1, .int (nI s)), (2, .int d), (3, .int (nI ((lessU f g d (iz + 1)).2.2)))]) dX7_lessen_79 rfl (ni_inc _) (by decide) rfl ?_
          refine mg_goto C (tgt := 5) dX7_lessen_82 (by decide) ?_
          refine mg_sub (lv' := [(0, .ref om), (1, .int (nI s)), (2, .int d), (3, .int (nI ((lessU f g d (iz + 1)).2.2))), (4, .int (nI (iz + 1)))]) [2, 3, 4, 5, 0] rfl ?_
          exact ih5 ((iz + 1)) roz (by omega) (by omega) hvn hon w1 h_w1_om h_w1_aro h_w1_alo (fun zz g0 => fr_w1 zz g0)
        · refine mg_aload_n C dX7_lessen_38 rfl ?_
          refine mg_get C inT7 h_w1_om rfl 8 (by decide) kw_26 (Or.inl rfl) rfl dX7_lessen_39 ?_
          refine mg_aload_n C dX7_lessen_42 rfl ?_
          refine mg_iload_n C dX7_lessen_43 rfl ?_
          refine mg_iload_n C dX7_lessen_44 rfl ?_
          refine mg_callV_i C h_w1_om rfl (rest := [.ref aro]) (c_X7_at D cI cS w1 om md aso asi ase ato amo alo aro asr th s ((lessU f g d iz).2.2) h_w1_om) yq_X7_at kw_344 kw_345 kw_346 ⟨by decide, by decide⟩ ⟨Nat.le_of_ble_eq_true rfl, Nat.le_of_ble_eq_true rfl⟩ (Nat.le_of_ble_eq_true rfl) rfl rfl dX7_lessen_45 (fun r8 w9 ⟨e_r8, e_w9⟩ => ?_)
          rw [e_w9, e_r8]
          refine mg_aload_n C dX7_lessen_48 rfl ?_
          refine mg_get C inT7 h_w1_om rfl 8 (by decide) kw_26 (Or.inl rfl) rfl dX7_lessen_49 ?_
          refine mg_aload_n C dX7_lessen_52 rfl ?_
          refine mg_iload_n C dX7_lessen_53 rfl ?_
          refine mg_iload C dX7_lessen_54 rfl ?_
          refine mg_callV_i C h_w1_om rfl (rest := [.ref aro, .int (nI (1200 * s + 100 + 2 * ((lessU f g d iz).2.2))), .ref aro]) (c_X7_at D cI cS w1 om md aso asi ase ato amo alo aro asr th s iz h_w1_om) yq_X7_at kw_344 kw_345 kw_346 ⟨by decide, by decide⟩ ⟨Nat.le_of_ble_eq_true rfl, Nat.le_of_ble_eq_true rfl⟩ (Nat.le_of_ble_eq_true rfl) rfl rfl dX7_lessen_56 (fun r10 w11 ⟨e_r10, e_w11⟩ => ?_)
          rw [e_w11, e_r10]
          refine mg_ialdN C h_w1_aro (by omega) (by omega) dX7_lessen_59 ?_
          rw [(hvz.2 iz (by omega)).1]
          refine mg_iastN C h_w1_aro (by omega) (by omega) dX7_lessen_60 (fun w12 e_w12 => ?_)
          have h_w12_om : w12 om = some (.inr (6, [.int th, .int (nI md), .ref aso, .ref asi, .ref ase, .ref ato, .ref amo, .ref alo, .ref aro, .ref asr])) := (congrFun e_w12 _).trans ((mwu_ne (mw_oa h_w1_om h_w1_aro)).trans h_w1_om)
          have h_w12_aro : w12 aro = some (eI cI 9600 (upd roz (1200 * s + 100 + 2 * ((lessU f g d iz).2.2)) ((lessU f g d iz).1 iz))) := (congrFun e_w12 _).trans mwu_eq
          have h_w12_alo : w12 alo = some (eI cI 8 lo) := (congrFun e_w12 _).trans ((mwu_ne (Ne.symm (tne t_aro t_alo (by decide)))).trans h_w1_alo)
          have fr_w12 : ∀ zz : Nat, zz ≠ aro → w12 zz = w zz := fun zz g0 => (congrFun e_w12 zz).trans ((mwu_ne g0).trans (fr_w1 zz g0))
          refine mg_aload_n C dX7_lessen_61 rfl ?_
          refine mg_get C inT7 h_w12_om rfl 8 (by decide) kw_26 (Or.inl rfl) rfl dX7_lessen_62 ?_
          refine mg_aload_n C dX7_lessen_65 rfl ?_
          refine mg_iload_n C dX7_lessen_66 rfl ?_
          refine mg_iload_n C dX7_lessen_67 rfl ?_
          refine mg_callV_i C h_w12_om rfl (rest := [.ref aro]) (c_X7_at D cI cS w12 om md aso asi ase ato amo alo aro asr th s ((lessU f g d iz).2.2) h_w12_om) yq_X7_at kw_344 kw_345 kw_346 ⟨by decide, by decide⟩ ⟨Nat.le_of_ble_eq_true rfl, Nat.le_of_ble_eq_true rfl⟩ (Nat.le_of_ble_eq_true rfl) rfl rfl dX7_lessen_68 (fun r13 w14 ⟨e_r13, e_w14⟩ => ?_)
          rw [e_w14, e_r13]
          refine mg_iconst C (v := nI 1) dX7_lessen_71 (by decide) ?_
          refine mg_iadd C (z := nI ((1200 * s + 100 + 2 * ((lessU f g d iz).2.2)) + 1)) dX7_lessen_72 (nI_add _ _) ?_
          refine mg_iload C dX7_lessen_73 rfl ?_
          refine mg_iastN C h_w12_aro (by omega) (by omega) dX7_lessen_75 (fun w15 e_w15 => ?_)
          have h_w15_om : w15 om = some (.inr (6, [.int th, .int (nI md), .ref aso, .ref asi, .ref ase, .ref ato, .ref amo, .ref alo, .ref aro, .ref asr])) := (congrFun e_w15 _).trans ((mwu_ne (mw_oa h_w12_om h_w12_aro)).trans h_w12_om)
          have h_w15_aro : w15 aro = some (eI cI 9600 (upd (upd roz (1200 * s + 100 + 2 * ((lessU f g d iz).2.2)) ((lessU f g d iz).1 iz)) ((1200 * s + 100 + 2 * ((lessU f g d iz).2.2)) + 1) (((lessU f g d iz).2.1 iz) - d))) := (congrFun e_w15 _).trans mwu_eq
          have h_w15_alo : w15 alo = some (eI cI 8 lo) := (congrFun e_w15 _).trans ((mwu_ne (Ne.symm (tne t_aro t_alo (by decide)))).trans h_w12_alo)
          have fr_w15 : ∀ zz : Nat, zz ≠ aro → w15 zz = w zz := fun zz g0 => (congrFun e_w15 zz).trans ((mwu_ne g0).trans (fr_w12 zz g0))
          refine mg_iinc C (v := nI ((lessU f g d iz).2.2 + 1)) (lv' := [(3, .int (nI ((lessU f g d iz).2.2 + 1))), (5, .int (((lessU f g d iz).2.1 iz) - d)), (0, .ref om), (1, .int (nI s)), (2, .int d), (4, .int (nI iz))]) dX7_lessen_76 rfl (ni_inc _) (by decide) rfl ?_
          have el := lessU_keep c_35
          have hvn : HvM (upd (upd roz (1200 * s + 100 + 2 * ((lessU f g d iz).2.2)) ((lessU f g d iz).1 iz)) ((1200 * s + 100 + 2 * ((lessU f g d iz).2.2)) + 1) (((lessU f g d iz).2.1 iz) - d)) s (lessU f g d (iz + 1)).1 (lessU f g d (iz + 1)).2.1 h := by rw [el]; exact hvz.mv (by omega)
          have hon : outS ro (upd (upd roz (1200 * s + 100 + 2 * ((lessU f g d iz).2.2)) ((lessU f g d iz).1 iz)) ((1200 * s + 100 + 2 * ((lessU f g d iz).2.2)) + 1) (((lessU f g d iz).2.1 iz) - d)) s := (hoz.up (by omega) (by omega)).up (by omega) (by omega)
          have el2 : nI ((lessU f g d iz).2.2 + 1) = nI (lessU f g d (iz + 1)).2.2 := by rw [el]
          rw [el2]
          refine mg_iinc C (v := nI (iz + 1)) (lv' := [(4, .int (nI (iz + 1))), (3, .int (nI ((lessU f g d (iz + 1)).2.2))), (5, .int (((lessU f g d iz).2.1 iz) - d)), (0, .ref om), (1, .int (nI s)), (2, .int d)]) dX7_lessen_79 rfl (ni_inc _) (by decide) rfl ?_
          refine mg_goto C (tgt := 5) dX7_lessen_82 (by decide) ?_
          refine mg_sub (lv' := [(0, .ref om), (1, .int (nI s)), (2, .int d), (3, .int (nI ((lessU f g d (iz + 1)).2.2))), (4, .int (nI (iz + 1)))]) [3, 4, 5, 1, 0] rfl ?_
          exact ih5 ((iz + 1)) (upd (upd roz (1200 * s + 100 + 2 * ((lessU f g d iz).2.2)) ((lessU f g d iz).1 iz)) ((1200 * s + 100 + 2 * ((lessU f g d iz).2.2)) + 1) (((lessU f g d iz).2.1 iz) - d)) (by omega) (by omega) hvn hon w15 h_w15_om h_w15_aro h_w15_alo (fun zz g0 => fr_w15 zz g0)
  refine mg_sub (lv' := [(0, .ref om), (1, .int (nI s)), (2, .int d), (3, .int (nI 0)), (4, .int (nI 0))]) [2, 3, 4, 1, 0] rfl ?_
  exact L5 (_ + 1) 0 ro (Nat.lt_succ_self _) (Nat.zero_le _) hv (outS.rf ro s) w hom h_aro h_alo (fun zz g0 => fr_w zz )
