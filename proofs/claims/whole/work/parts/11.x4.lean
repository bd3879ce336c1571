set_option maxHeartbeats 4000000 in
set_option maxRecDepth 20000 in
theorem c_X4_mayLack (D : va_G) (cI cS : ClassId) (w : mwT) (h0 : Nat) : mMi yX4_mayLack cX4_mayLack 1 (some .int) (rmL 1) [.ref h0] D cI cS w (fun r w1 => r = nI 0 ∧ w1 = w) := by
  refine mMi.of (by decide) (Nat.le_of_ble_eq_true rfl) ?_
  intro X C hN hR
  refine mg_sub (lv' := [(0, .ref h0)]) [0] rfl ?_
  refine mg_iconst C (v := nI 0) dX4_mayLack_0 (by decide) ?_
  exact hR _ _ _ _ dX4_mayLack_1 ⟨rfl, rfl⟩

set_option maxHeartbeats 4000000 in
set_option maxRecDepth 20000 in
theorem c_X4_atLeast (D : va_G) (cI cS : ClassId) (w : mwT) (h0 : Nat) (x : Int32) : mMi yX4_atLeast cX4_atLeast 2 (some .int) (rmL 1) [.ref h0, .int x] D cI cS w (fun r w1 => r = -1 ∧ w1 = w) := by
  refine mMi.of (by decide) (Nat.le_of_ble_eq_true rfl) ?_
  intro X C hN hR
  refine mg_sub (lv' := [(0, .ref h0), (1, .int x)]) [0, 1] rfl ?_
  refine mg_iconst C (v := (-1 : Int32)) dX4_atLeast_0 (by decide) ?_
  exact hR _ _ _ _ dX4_atLeast_1 ⟨rfl, rfl⟩

set_option maxHeartbeats 4000000 in
set_option maxRecDepth 20000 in
theorem c_X4_atMost (D : va_G) (cI cS : ClassId) (w : mwT) (h0 : Nat) (x : Int32) : mMi yX4_atMost cX4_atMost 2 (some .int) (rmL 1) [.ref h0, .int x] D cI cS w (fun r w1 => r = -1 ∧ w1 = w) := by
  refine mMi.of (by decide) (Nat.le_of_ble_eq_true rfl) ?_
  intro X C hN hR
  refine mg_sub (lv' := [(0, .ref h0), (1, .int x)]) [0, 1] rfl ?_
  refine mg_iconst C (v := (-1 : Int32)) dX4_atMost_0 (by decide) ?_
  exact hR _ _ _ _ dX4_atMost_1 ⟨rfl, rfl⟩

set_option maxHeartbeats 4000000 in
set_option maxRecDepth 20000 in
theorem c_X4_holds (D : va_G) (cI cS : ClassId) (w : mwT) (h0 : Nat) (x : Int32) : mMi yX4_holds cX4_holds 2 (some .int) (rmL 1) [.ref h0, .int x] D cI cS w (fun r w1 => r = -1 ∧ w1 = w) := by
  refine mMi.of (by decide) (Nat.le_of_ble_eq_true rfl) ?_
  intro X C hN hR
  refine mg_sub (lv' := [(0, .ref h0), (1, .int x)]) [0, 1] rfl ?_
  refine mg_iconst C (v := (-1 : Int32)) dX4_holds_0 (by decide) ?_
  exact hR _ _ _ _ dX4_holds_1 ⟨rfl, rfl⟩

set_option maxHeartbeats 4000000 in
set_option maxRecDepth 20000 in
theorem c_X4_differentKeys (D : va_G) (cI cS : ClassId) (w : mwT) (h0 : Nat) : mMi yX4_differentKeys cX4_differentKeys 1 (some .int) (rmL 1) [.ref h0] D cI cS w (fun r w1 => r = -1 ∧ w1 = w) := by
  refine mMi.of (by decide) (Nat.le_of_ble_eq_true rfl) ?_
  intro X C hN hR
  refine mg_sub (lv' := [(0, .ref h0)]) [0] rfl ?_
  refine mg_iconst C (v := (-1 : Int32)) dX4_differentKeys_0 (by decide) ?_
  exact hR _ _ _ _ dX4_differentKeys_1 ⟨rfl, rfl⟩

set_option maxHeartbeats 4000000 in
set_option maxRecDepth 20000 in
theorem c_X4_keyAtRank (D : va_G) (cI cS : ClassId) (w : mwT) (h0 : Nat) (x : Int32) : mMi yX4_keyAtRank cX4_keyAtRank 2 (some .int) (rmL 1) [.ref h0, .int x] D cI cS w (fun r w1 => r = -1 ∧ w1 = w) := by
  refine mMi.of (by decide) (Nat.le_of_ble_eq_true rfl) ?_
  intro X C hN hR
  refine mg_sub (lv' := [(0, .ref h0), (1, .int x)]) [0, 1] rfl ?_
  refine mg_iconst C (v := (-1 : Int32)) dX4_keyAtRank_0 (by decide) ?_
  exact hR _ _ _ _ dX4_keyAtRank_1 ⟨rfl, rfl⟩

set_option maxHeartbeats 4000000 in
set_option maxRecDepth 20000 in
theorem c_X4_mayTake (D : va_G) (cI cS : ClassId) (w : mwT) (h0 : Nat) (x : Int32) : mMi yX4_mayTake cX4_mayTake 2 (some .boolean) (rmL 1) [.ref h0, .int x] D cI cS w (fun r w1 => ((r = nI 1 ∧ rp 1 1000 x) ∨ (r = nI 0 ∧ ¬ rp 1 1000 x)) ∧ w1 = w) := by
  refine mMz.of (by decide) (Nat.le_of_ble_eq_true rfl) ?_
  intro X C hN hR
  refine mg_sub (lv' := [(0, .ref h0), (1, .int x)]) [0, 1] rfl ?_
  refine mg_iload_n C dX4_mayTake_0 rfl ?_
  refine mg_iconst C (v := nI 1) dX4_mayTake_1 (by decide) ?_
  refine mg_icmp_lt C (tgt := 16) dX4_mayTake_2 (by decide) (fun c_2 => ?_) (fun c_2 => ?_)
  · refine mg_iconst C (v := nI 0) dX4_mayTake_16 (by decide) ?_
    exact hR _ _ _ _ dX4_mayTake_17 (Or.inl rfl) ⟨Or.inr ⟨rfl, rp_lt (by decide) c_2⟩, rfl⟩
  · refine mg_iload_n C dX4_mayTake_5 rfl ?_
    refine mg_sipush C (v := nI 1000) dX4_mayTake_6 (by decide) ?_
    refine mg_icmp_gt C (tgt := 16) dX4_mayTake_9 (by decide) (fun c_9 => ?_) (fun c_9 => ?_)
    · refine mg_iconst C (v := nI 0) dX4_mayTake_16 (by decide) ?_
      exact hR _ _ _ _ dX4_mayTake_17 (Or.inl rfl) ⟨Or.inr ⟨rfl, rp_gt (by decide) c_9⟩, rfl⟩
    · refine mg_iconst C (v := nI 1) dX4_mayTake_12 (by decide) ?_
      refine mg_goto C (tgt := 17) dX4_mayTake_13 (by decide) ?_
      exact hR _ _ _ _ dX4_mayTake_17 (Or.inr rfl) ⟨Or.inl ⟨rfl, rp_in (by decide) c_2 c_9⟩, rfl⟩

set_option maxHeartbeats 4000000 in
set_option maxRecDepth 20000 in
theorem c_X4_isLike (D : va_G) (cI cS : ClassId) (w : mwT) (ca cb h0 h1 : Nat) (soA siA seA soB siB seB : Int32) (fa fb : List Value) (ha : w h0 = some (.inr (ca, .int soA :: .int siA :: .int seA :: fa))) (hb : w h1 = some (.inr (cb, .int soB :: .int siB :: .int seB :: fb))) (hca : ca < 5) (hcb : cb < 5) : mMi yX4_isLike cX4_isLike 2 (some .boolean) (rmL 1) [.ref h0, .ref h1] D cI cS w (fun r w1 => ((r = nI 1 ∧ soA = soB ∧ siA = siB ∧ seA = seB) ∨ (r = nI 0 ∧ ¬ (soA = soB ∧ siA = siB ∧ seA = seB))) ∧ w1 = w) := by
  refine mMz.of (by decide) (Nat.le_of_ble_eq_true rfl) ?_
  intro X C hN hR
  refine mg_sub (lv' := [(0, .ref h0), (1, .ref h1)]) [0, 1] rfl ?_
  refine mg_aload_n C dX4_isLike_0 rfl ?_
  refine mg_ifnull C dX4_isLike_1 ?_
  refine mg_aload_n C dX4_isLike_4 rfl ?_
  refine mg_getS C hca ha 0 (by decide) kw_74 rfl dX4_isLike_5 ?_
  refine mg_aload_n C dX4_isLike_8 rfl ?_
  refine mg_getS C hcb hb 0 (by decide) kw_74 rfl dX4_isLike_9 ?_
  refine mg_icmp_ne C (tgt := 41) dX4_isLike_12 (by decide) (fun c_12 => ?_) (fun c_12 => ?_)
  · refine mg_iconst C (v := nI 0) dX4_isLike_41 (by decide) ?_
    exact hR _ _ _ _ dX4_isLike_42 (Or.inl rfl) ⟨Or.inr ⟨rfl, fun q => c_12 q.1⟩, rfl⟩
  · refine mg_aload_n C dX4_isLike_15 rfl ?_
    refine mg_getS C hca ha 1 (by decide) kw_75 rfl dX4_isLike_16 ?_
    refine mg_aload_n C dX4_isLike_19 rfl ?_
    refine mg_getS C hcb hb 1 (by decide) kw_75 rfl dX4_isLike_20 ?_
    refine mg_icmp_ne C (tgt := 41) dX4_isLike_23 (by decide) (fun c_23 => ?_) (fun c_23 => ?_)
    · refine mg_iconst C (v := nI 0) dX4_isLike_41 (by decide) ?_
      exact hR _ _ _ _ dX4_isLike_42 (Or.inl rfl) ⟨Or.inr ⟨rfl, fun q => c_23 q.2.1⟩, rfl⟩
    · refine mg_aload_n C dX4_isLike_26 rfl ?_
      refine mg_getS C hca ha 2 (by decide) kw_76 rfl dX4_isLike_27 ?_
      refine mg_aload_n C dX4_isLike_30 rfl ?_
      refine mg_getS C hcb hb 2 (by decide) kw_76 rfl dX4_isLike_31 ?_
      refine mg_icmp_ne C (tgt := 41) dX4_isLike_34 (by decide) (fun c_34 => ?_) (fun c_34 => ?_)
      · refine mg_iconst C (v := nI 0) dX4_isLike_41 (by decide) ?_
        exact hR _ _ _ _ dX4_isLike_42 (Or.inl rfl) ⟨Or.inr ⟨rfl, fun q => c_34 q.2.2⟩, rfl⟩
      · refine mg_iconst C (v := nI 1) dX4_isLike_37 (by decide) ?_
        refine mg_goto C (tgt := 42) dX4_isLike_38 (by decide) ?_
        exact hR _ _ _ _ dX4_isLike_42 (Or.inr rfl) ⟨Or.inl ⟨rfl, c_12, c_23, c_34⟩, rfl⟩

set_option maxHeartbeats 4000000 in
set_option maxRecDepth 20000 in
theorem c_X4_init_F (D : va_G) (cI cS : ClassId) (w : mwT) (h0 so si se : Nat) (ha : w h0 = some (.inr (0, [.int 0, .int 0, .int 0, .int 0, .int 0, .null]))) : mMv yX4_init cX4_init 4 none (rmL 1) [.ref h0, .int (nI so), .int (nI si), .int (nI se)] D cI cS w (fun w1 => w1 h0 = some (.inr (0, [.int (nI so), .int (nI si), .int (nI se), .int (nI 0), .int (nI 0), .null])) ∧ ∀ b : Nat, b ≠ h0 → w1 b = w b) := by
  refine mMv.of (by decide) (Nat.le_of_ble_eq_true rfl) ?_
  intro X C hN hR
  have fr_w : ∀ zz : Nat, w zz = w zz := fun _ => rfl
  refine mg_sub (lv' := [(0, .ref h0), (1, .int (nI so)), (2, .int (nI si)), (3, .int (nI se))]) [0, 1, 2, 3] rfl ?_
  refine mg_aload_n C dX4_init_0 rfl ?_
  refine mg_objInit C kw_73 ⟨Nat.le_of_ble_eq_true rfl, Nat.le_of_ble_eq_true rfl⟩ dX4_init_1 ?_
  refine mg_aload_n C dX4_init_4 rfl ?_
  refine mg_iload_n C dX4_init_5 rfl ?_
  refine mg_putF C (fs' := [.int (nI so), .int 0, .int 0, .int 0, .int 0, .null]) inT0 ha rfl 0 (by decide) kw_74 (Or.inl rfl) tyX0_ok nmX0 rfl hN rfl rfl rfl rfl (Nat.le_of_ble_eq_true rfl) dX4_init_6 (fun w1 e_w1 => ?_)
  have h_w1_h0 : w1 h0 = some (.inr (0, [.int (nI so), .int 0, .int 0, .int 0, .int 0, .null])) := (congrFun e_w1 _).trans mwu_eq
  have fr_w1 : ∀ zz : Nat, zz ≠ h0 → w1 zz = w zz := fun zz g0 => (congrFun e_w1 zz).trans ((mwu_ne g0).trans (fr_w zz ))
  refine mg_aload_n C dX4_init_9 rfl ?_
  refine mg_iload_n C dX4_init_10 rfl ?_
  refine mg_putF C (fs' := [.int (nI so), .int (nI si), .int 0, .int 0, .int 0, .null]) inT0 h_w1_h0 rfl 1 (by decide) kw_75 (Or.inl rfl) tyX0_ok nmX0 rfl hN rfl rfl rfl rfl (Nat.le_of_ble_eq_true rfl) dX4_init_11 (fun w2 e_w2 => ?_)
  have h_w2_h0 : w2 h0 = some (.inr (0, [.int (nI so), .int (nI si), .int 0, .int 0, .int 0, .null])) := (congrFun e_w2 _).trans mwu_eq
  have fr_w2 : ∀ zz : Nat, zz ≠ h0 → w2 zz = w zz := fun zz g0 => (congrFun e_w2 zz).trans ((mwu_ne g0).trans (fr_w1 zz g0))
  refine mg_aload_n C dX4_init_14 rfl ?_
  refine mg_iload_n C dX4_init_15 rfl ?_
  refine mg_putF C (fs' := [.int (nI so), .int (nI si), .int (nI se), .int 0, .int 0, .null]) inT0 h_w2_h0 rfl 2 (by decide) kw_76 (Or.inl rfl) tyX0_ok nmX0 rfl hN rfl rfl rfl rfl (Nat.le_of_ble_eq_true rfl) dX4_init_16 (fun w3 e_w3 => ?_)
  have h_w3_h0 : w3 h0 = some (.inr (0, [.int (nI so), .int (nI si), .int (nI se), .int 0, .int 0, .null])) := (congrFun e_w3 _).trans mwu_eq
  have fr_w3 : ∀ zz : Nat, zz ≠ h0 → w3 zz = w zz := fun zz g0 => (congrFun e_w3 zz).trans ((mwu_ne g0).trans (fr_w2 zz g0))
  refine mg_aload_n C dX4_init_19 rfl ?_
  refine mg_iconst C (v := nI 0) dX4_init_20 (by decide) ?_
  refine mg_put C (fs' := [.int (nI so), .int (nI si), .int (nI se), .int (nI 0), .int 0, .null]) inT0 h_w3_h0 rfl 3 (by decide) kw_77 (Or.inl rfl) tyX0_ok nmX0 rfl rfl rfl rfl (Nat.le_of_ble_eq_true rfl) dX4_init_21 (fun w4 e_w4 => ?_)
  have h_w4_h0 : w4 h0 = some (.inr (0, [.int (nI so), .int (nI si), .int (nI se), .int (nI 0), .int 0, .null])) := (congrFun e_w4 _).trans mwu_eq
  have fr_w4 : ∀ zz : Nat, zz ≠ h0 → w4 zz = w zz := fun zz g0 => (congrFun e_w4 zz).trans ((mwu_ne g0).trans (fr_w3 zz g0))
  refine mg_aload_n C dX4_init_24 rfl ?_
  refine mg_iconst C (v := nI 0) dX4_init_25 (by decide) ?_
  refine mg_put C (fs' := [.int (nI so), .int (nI si), .int (nI se), .int (nI 0), .int (nI 0), .null]) inT0 h_w4_h0 rfl 4 (by decide) kw_78 (Or.inl rfl) tyX0_ok nmX0 rfl rfl rfl rfl (Nat.le_of_ble_eq_true rfl) dX4_init_26 (fun w5 e_w5 => ?_)
  have h_w5_h0 : w5 h0 = some (.inr (0, [.int (nI so), .int (nI si), .int (nI se), .int (nI 0), .int (nI 0), .null])) := (congrFun e_w5 _).trans mwu_eq
  have fr_w5 : ∀ zz : Nat, zz ≠ h0 → w5 zz = w zz := fun zz g0 => (congrFun e_w5 zz).trans ((mwu_ne g0).trans (fr_w4 zz g0))
  exact hR _ _ _ dX4_init_29 ⟨h_w5_h0, fr_w5⟩

set_option maxHeartbeats 4000000 in
set_option maxRecDepth 20000 in
theorem c_X4_copyTotals_F (D : va_G) (cI cS : ClassId) (w : mwT) (h0 h1 so si se : Nat) (ta ma tb mb : Int32) (y5A y5B : Value) (ha : w h0 = some (.inr (0, [.int (nI so), .int (nI si), .int (nI se), .int ta, .int ma, y5A]))) (hb : w h1 = some (.inr (0, [.int (nI so), .int (nI si), .int (nI se), .int tb, .int mb, y5B]))) (hne : h0 ≠ h1) : mMv yX4_copyTotals cX4_copyTotals 2 none (rmL 1) [.ref h0, .ref h1] D cI cS w (fun w1 => w1 h0 = some (.inr (0, [.int (nI so), .int (nI si), .int (nI se), .int tb, .int mb, y5A])) ∧ ∀ b : Nat, b ≠ h0 → w1 b = w b) := by
  refine mMv.of (by decide) (Nat.le_of_ble_eq_true rfl) ?_
  intro X C hN hR
  have fr_w : ∀ zz : Nat, w zz = w zz := fun _ => rfl
  refine mg_sub (lv' := [(0, .ref h0), (1, .ref h1)]) [0, 1] rfl ?_
  refine mg_aload_n C dX4_copyTotals_0 rfl ?_
  refine mg_aload_n C dX4_copyTotals_1 rfl ?_
  refine mg_get C inT0 hb rfl 3 (by decide) kw_77 (Or.inl rfl) rfl dX4_copyTotals_2 ?_
  refine mg_put C (fs' := [.int (nI so), .int (nI si), .int (nI se), .int tb, .int ma, y5A]) inT0 ha rfl 3 (by decide) kw_77 (Or.inl rfl) tyX0_ok nmX0 rfl rfl rfl rfl (Nat.le_of_ble_eq_true rfl) dX4_copyTotals_5 (fun w1 e_w1 => ?_)
  have h_w1_h0 : w1 h0 = some (.inr (0, [.int (nI so), .int (nI si), .int (nI se), .int tb, .int ma, y5A])) := (congrFun e_w1 _).trans mwu_eq
  have h_w1_h1 : w1 h1 = some (.inr (0, [.int (nI so), .int (nI si), .int (nI se), .int tb, .int mb, y5B])) := (congrFun e_w1 _).trans ((mwu_ne (Ne.symm hne)).trans hb)
  have fr_w1 : ∀ zz : Nat, zz ≠ h0 → w1 zz = w zz := fun zz g0 => (congrFun e_w1 zz).trans ((mwu_ne g0).trans (fr_w zz ))
  refine mg_aload_n C dX4_copyTotals_8 rfl ?_
  refine mg_aload_n C dX4_copyTotals_9 rfl ?_
  refine mg_get C inT0 h_w1_h1 rfl 4 (by decide) kw_78 (Or.inl rfl) rfl dX4_copyTotals_10 ?_
  refine mg_put C (fs' := [.int (nI so), .int (nI si), .int (nI se), .int tb, .int mb, y5A]) inT0 h_w1_h0 rfl 4 (by decide) kw_78 (Or.inl rfl) tyX0_ok nmX0 rfl rfl rfl rfl (Nat.le_of_ble_eq_true rfl) dX4_copyTotals_13 (fun w2 e_w2 => ?_)
  have h_w2_h0 : w2 h0 = some (.inr (0, [.int (nI so), .int (nI si), .int (nI se), .int tb, .int mb, y5A])) := (congrFun e_w2 _).trans mwu_eq
  have h_w2_h1 : w2 h1 = some (.inr (0, [.int (nI so), .int (nI si), .int (nI se), .int tb, .int mb, y5B])) := (congrFun e_w2 _).trans ((mwu_ne (Ne.symm hne)).trans h_w1_h1)
  have fr_w2 : ∀ zz : Nat, zz ≠ h0 → w2 zz = w zz := fun zz g0 => (congrFun e_w2 zz).trans ((mwu_ne g0).trans (fr_w1 zz g0))
  exact hR _ _ _ dX4_copyTotals_16 ⟨h_w2_h0, fr_w2⟩

set_option maxHeartbeats 4000000 in
set_option maxRecDepth 20000 in
theorem c_X4_init_H (D : va_G) (cI cS : ClassId) (w : mwT) (h0 so si se : Nat) (ha : w h0 = some (.inr (1, [.int 0, .int 0, .int 0, .int 0, .int 0, .null, .null, .int 0, .int 0]))) : mMv yX4_init cX4_init 4 none (rmL 1) [.ref h0, .int (nI so), .int (nI si), .int (nI se)] D cI cS w (fun w1 => w1 h0 = some (.inr (1, [.int (nI so), .int (nI si), .int (nI se), .int (nI 0), .int (nI 0), .null, .null, .int 0, .int 0])) ∧ ∀ b : Nat, b ≠ h0 → w1 b = w b) := by
  refine mMv.of (by decide) (Nat.le_of_ble_eq_true rfl) ?_
  intro X C hN hR
  have fr_w : ∀ zz : Nat, w zz = w zz := fun _ => rfl
  refine mg_sub (lv' := [(0, .ref h0), (1, .int (nI so)), (2, .int (nI si)), (3, .int (nI se))]) [0, 1, 2, 3] rfl ?_
  refine mg_aload_n C dX4_init_0 rfl ?_
  refine mg_objInit C kw_73 ⟨Nat.le_of_ble_eq_true rfl, Nat.le_of_ble_eq_true rfl⟩ dX4_init_1 ?_
  refine mg_aload_n C dX4_init_4 rfl ?_
  refine mg_iload_n C dX4_init_5 rfl ?_
  refine mg_putF C (fs' := [.int (nI so), .int 0, .int 0, .int 0, .int 0, .null, .null, .int 0, .int 0]) inT1 ha rfl 0 (by decide) kw_74 (Or.inl rfl) tyX1_ok nmX1 rfl hN rfl rfl rfl rfl (Nat.le_of_ble_eq_true rfl) dX4_init_6 (fun w1 e_w1 => ?_)
  have h_w1_h0 : w1 h0 = some (.inr (1, [.int (nI so), .int 0, .int 0, .int 0, .int 0, .null, .null, .int 0, .int 0])) := (congrFun e_w1 _).trans mwu_eq
  have fr_w1 : ∀ zz : Nat, zz ≠ h0 → w1 zz = w zz := fun zz g0 => (congrFun e_w1 zz).trans ((mwu_ne g0).trans (fr_w zz ))
  refine mg_aload_n C dX4_init_9 rfl ?_
  refine mg_iload_n C dX4_init_10 rfl ?_
  refine mg_putF C (fs' := [.int (nI so), .int (nI si), .int 0, .int 0, .int 0, .null, .null, .int 0, .int 0]) inT1 h_w1_h0 rfl 1 (by decide) kw_75 (Or.inl rfl) tyX1_ok nmX1 rfl hN rfl rfl rfl rfl (Nat.le_of_ble_eq_true rfl) dX4_init_11 (fun w2 e_w2 => ?_)
  have h_w2_h0 : w2 h0 = some (.inr (1, [.int (nI so), .int (nI si), .int 0, .int 0, .int 0, .null, .null, .int 0, .int 0])) := (congrFun e_w2 _).trans mwu_eq
  have fr_w2 : ∀ zz : Nat, zz ≠ h0 → w2 zz = w zz := fun zz g0 => (congrFun e_w2 zz).trans ((mwu_ne g0).trans (fr_w1 zz g0))
  refine mg_aload_n C dX4_init_14 rfl ?_
  refine mg_iload_n C dX4_init_15 rfl ?_
  refine mg_putF C (fs' := [.int (nI so), .int (nI si), .int (nI se), .int 0, .int 0, .null, .null, .int 0, .int 0]) inT1 h_w2_h0 rfl 2 (by decide) kw_76 (Or.inl rfl) tyX1_ok nmX1 rfl hN rfl rfl rfl rfl (Nat.le_of_ble_eq_true rfl) dX4_init_16 (fun w3 e_w3 => ?_)
  have h_w3_h0 : w3 h0 = some (.inr (1, [.int (nI so), .int (nI si), .int (nI se), .int 0, .int 0, .null, .null, .int 0, .int 0])) := (congrFun e_w3 _).trans mwu_eq
  have fr_w3 : ∀ zz : Nat, zz ≠ h0 → w3 zz = w zz := fun zz g0 => (congrFun e_w3 zz).trans ((mwu_ne g0).trans (fr_w2 zz g0))
  refine mg_aload_n C dX4_init_19 rfl ?_
  refine mg_iconst C (v := nI 0) dX4_init_20 (by decide) ?_
  refine mg_put C (fs' := [.int (nI so), .int (nI si), .int (nI se), .int (nI 0), .int 0, .null, .null, .int 0, .int 0]) inT1 h_w3_h0 rfl 3 (by decide) kw_77 (Or.inl rfl) tyX1_ok nmX1 rfl rfl rfl rfl (Nat.le_of_ble_eq_true rfl) dX4_init_21 (fun w4 e_w4 => ?_)
  have h_w4_h0 : w4 h0 = some (.inr (1, [.int (nI so), .int (nI si), .int (nI se), .int (nI 0), .int 0, .null, .null, .int 0, .int 0])) := (congrFun e_w4 _).trans mwu_eq
  have fr_w4 : ∀ zz : Nat, zz ≠ h0 → w4 zz = w zz := fun zz g0 => (congrFun e_w4 zz).trans ((mwu_ne g0).trans (fr_w3 zz g0))
  refine mg_aload_n C dX4_init_24 rfl ?_
  refine mg_iconst C (v := nI 0) dX4_init_25 (by decide) ?_
  refine mg_put C (fs' := [.int (nI so), .int (nI si), .int (nI se), .int (nI 0), .int (nI 0), .null, .null, .int 0, .int 0]) inT1 h_w4_h0 rfl 4 (by decide) kw_78 (Or.inl rfl) tyX1_ok nmX1 rfl rfl rfl rfl (Nat.le_of_ble_eq_true rfl) dX4_init_26 (fun w5 e_w5 => ?_)
  have h_w5_h0 : w5 h0 = some (.inr (1, [.int (nI so), .int (nI si), .int (nI se), .int (nI 0), .int (nI 0), .null, .null, .int 0, .int 0])) := (congrFun e_w5 _).trans mwu_eq
  have fr_w5 : ∀ zz : Nat, zz ≠ h0 → w5 zz = w zz := fun zz g0 => (congrFun e_w5 zz).trans ((mwu_ne g0).trans (fr_w4 zz g0))
  exact hR _ _ _ dX4_init_29 ⟨h_w5_h0, fr_w5⟩

set_option maxHeartbeats 4000000 in
set_option maxRecDepth 20000 in
theorem c_X4_copyTotals_H (D : va_G) (cI cS : ClassId) (w : mwT) (h0 h1 so si se : Nat) (ta ma tb mb : Int32) (y5A y5B : Value) (y6A y6B : Value) (y7A y7B : Value) (y8A y8B : Value) (ha : w h0 = some (.inr (1, [.int (nI so), .int (nI si), .int (nI se), .int ta, .int ma, y5A, y6A, y7A, y8A]))) (hb : w h1 = some (.inr (1, [.int (nI so), .int (nI si), .int (nI se), .int tb, .int mb, y5B, y6B, y7B, y8B]))) (hne : h0 ≠ h1) : mMv yX4_copyTotals cX4_copyTotals 2 none (rmL 1) [.ref h0, .ref h1] D cI cS w (fun w1 => w1 h0 = some (.inr (1, [.int (nI so), .int (nI si), .int (nI se), .int tb, .int mb, y5A, y6A, y7A, y8A])) ∧ ∀ b : Nat, b ≠ h0 → w1 b = w b) := by
  refine mMv.of (by decide) (Nat.le_of_ble_eq_true rfl) ?_
  intro X C hN hR
  have fr_w : ∀ zz : Nat, w zz = w zz := fun _ => rfl
  refine mg_sub (lv' := [(0, .ref h0), (1, .ref h1)]) [0, 1] rfl ?_
  refine mg_aload_n C dX4_copyTotals_0 rfl ?_
  refine mg_aload_n C dX4_copyTotals_1 rfl ?_
  refine mg_get C inT1 hb rfl 3 (by decide) kw_77 (Or.inl rfl) rfl dX4_copyTotals_2 ?_
  refine mg_put C (fs' := [.int (nI so), .int (nI si), .int (nI se), .int tb, .int ma, y5A, y6A, y7A, y8A]) inT1 ha rfl 3 (by decide) kw_77 (Or.inl rfl) tyX1_ok nmX1 rfl rfl rfl rfl (Nat.le_of_ble_eq_true rfl) dX4_copyTotals_5 (fun w1 e_w1 => ?_)
  have h_w1_h0 : w1 h0 = some (.inr (1, [.int (nI so), .int (nI si), .int (nI se), .int tb, .int ma, y5A, y6A, y7A, y8A])) := (congrFun e_w1 _).trans mwu_eq
  have h_w1_h1 : w1 h1 = some (.inr (1, [.int (nI so), .int (nI si), .int (nI se), .int tb, .int mb, y5B, y6B, y7B, y8B])) := (congrFun e_w1 _).trans ((mwu_ne (Ne.symm hne)).trans hb)
  have fr_w1 : ∀ zz : Nat, zz ≠ h0 → w1 zz = w zz := fun zz g0 => (congrFun e_w1 zz).trans ((mwu_ne g0).trans (fr_w zz ))
  refine mg_aload_n C dX4_copyTotals_8 rfl ?_
  refine mg_aload_n C dX4_copyTotals_9 rfl ?_
  refine mg_get C inT1 h_w1_h1 rfl 4 (by decide) kw_78 (Or.inl rfl) rfl dX4_copyTotals_10 ?_
  refine mg_put C (fs' := [.int (nI so), .int (nI si), .int (nI se), .int tb, .int mb, y5A, y6A, y7A, y8A]) inT1 h_w1_h0 rfl 4 (by decide) kw_78 (Or.inl rfl) tyX1_ok nmX1 rfl rfl rfl rfl (Nat.le_of_ble_eq_true rfl) dX4_copyTotals_13 (fun w2 e_w2 => ?_)
  have h_w2_h0 : w2 h0 = some (.inr (1, [.int (nI so), .int (nI si), .int (nI se), .int tb, .int mb, y5A, y6A, y7A, y8A])) := (congrFun e_w2 _).trans mwu_eq
  have h_w2_h1 : w2 h1 = some (.inr (1, [.int (nI so), .int (nI si), .int (nI se), .int tb, .int mb, y5B, y6B, y7B, y8B])) := (congrFun e_w2 _).trans ((mwu_ne (Ne.symm hne)).trans h_w1_h1)
  have fr_w2 : ∀ zz : Nat, zz ≠ h0 → w2 zz = w zz := fun zz g0 => (congrFun e_w2 zz).trans ((mwu_ne g0).trans (fr_w1 zz g0))
  exact hR _ _ _ dX4_copyTotals_16 ⟨h_w2_h0, fr_w2⟩

set_option maxHeartbeats 4000000 in
set_option maxRecDepth 20000 in
theorem c_X4_init_L (D : va_G) (cI cS : ClassId) (w : mwT) (h0 so si se : Nat) (ha : w h0 = some (.inr (2, [.int 0, .int 0, .int 0, .int 0, .int 0, .null, .int 0]))) : mMv yX4_init cX4_init 4 none (rmL 1) [.ref h0, .int (nI so), .int (nI si), .int (nI se)] D cI cS w (fun w1 => w1 h0 = some (.inr (2, [.int (nI so), .int (nI si), .int (nI se), .int (nI 0), .int (nI 0), .null, .int 0])) ∧ ∀ b : Nat, b ≠ h0 → w1 b = w b) := by
  refine mMv.of (by decide) (Nat.le_of_ble_eq_true rfl) ?_
  intro X C hN hR
  have fr_w : ∀ zz : Nat, w zz = w zz := fun _ => rfl
  refine mg_sub (lv' := [(0, .ref h0), (1, .int (nI so)), (2, .int (nI si)), (3, .int (nI se))]) [0, 1, 2, 3] rfl ?_
  refine mg_aload_n C dX4_init_0 rfl ?_
  refine mg_objInit C kw_73 ⟨Nat.le_of_ble_eq_true rfl, Nat.le_of_ble_eq_true rfl⟩ dX4_init_1 ?_
  refine mg_aload_n C dX4_init_4 rfl ?_
  refine mg_iload_n C dX4_init_5 rfl ?_
  refine mg_putF C (fs' := [.int (nI so), .int 0, .int 0, .int 0, .int 0, .null, .int 0]) inT2 ha rfl 0 (by decide) kw_74 (Or.inl rfl) tyX2_ok nmX2 rfl hN rfl rfl rfl rfl (Nat.le_of_ble_eq_true rfl) dX4_init_6 (fun w1 e_w1 => ?_)
  have h_w1_h0 : w1 h0 = some (.inr (2, [.int (nI so), .int 0, .int 0, .int 0, .int 0, .null, .int 0])) := (congrFun e_w1 _).trans mwu_eq
  have fr_w1 : ∀ zz : Nat, zz ≠ h0 → w1 zz = w zz := fun zz g0 => (congrFun e_w1 zz).trans ((mwu_ne g0).trans (fr_w zz ))
  refine mg_aload_n C dX4_init_9 rfl ?_
  refine mg_iload_n C dX4_init_10 rfl ?_
  refine mg_putF C (fs' := [.int (nI so), .int (nI si), .int 0, .int 0, .int 0, .null, .int 0]) inT2 h_w1_h0 rfl 1 (by decide) kw_75 (Or.inl rfl) tyX2_ok nmX2 rfl hN rfl rfl rfl rfl (Nat.le_of_ble_eq_true rfl) dX4_init_11 (fun w2 e_w2 => ?_)
  have h_w2_h0 : w2 h0 = some (.inr (2, [.int (nI so), .int (nI si), .int 0, .int 0, .int 0, .null, .int 0])) := (congrFun e_w2 _).trans mwu_eq
  have fr_w2 : ∀ zz : Nat, zz ≠ h0 → w2 zz = w zz := fun zz g0 => (congrFun e_w2 zz).trans ((mwu_ne g0).trans (fr_w1 zz g0))
  refine mg_aload_n C dX4_init_14 rfl ?_
  refine mg_iload_n C dX4_init_15 rfl ?_
  refine mg_putF C (fs' := [.int (nI so), .int (nI si), .int (nI se), .int 0, .int 0, .null, .int 0]) inT2 h_w2_h0 rfl 2 (by decide) kw_76 (Or.inl rfl) tyX2_ok nmX2 rfl hN rfl rfl rfl rfl (Nat.le_of_ble_eq_true rfl) dX4_init_16 (fun w3 e_w3 => ?_)
  have h_w3_h0 : w3 h0 = some (.inr (2, [.int (nI so), .int (nI si), .int (nI se), .int 0, .int 0, .null, .int 0])) := (congrFun e_w3 _).trans mwu_eq
  have fr_w3 : ∀ zz : Nat, zz ≠ h0 → w3 zz = w zz := fun zz g0 => (congrFun e_w3 zz).trans ((mwu_ne g0).trans (fr_w2 zz g0))
  refine mg_aload_n C dX4_init_19 rfl ?_
  refine mg_iconst C (v := nI 0) dX4_init_20 (by decide) ?_
  refine mg_put C (fs' := [.int (nI so), .int (nI si), .int (nI se), .int (nI 0), .int 0, .null, .int 0]) inT2 h_w3_h0 rfl 3 (by decide) kw_77 (Or.inl rfl) tyX2_ok nmX2 rfl rfl rfl rfl (Nat.le_of_ble_eq_true rfl) dX4_init_21 (fun w4 e_w4 => ?_)
  have h_w4_h0 : w4 h0 = some (.inr (2, [.int (nI so), .int (nI si), .int (nI se), .int (nI 0), .int 0, .null, .int 0])) := (congrFun e_w4 _).trans mwu_eq
  have fr_w4 : ∀ zz : Nat, zz ≠ h0 → w4 zz = w zz := fun zz g0 => (congrFun e_w4 zz).trans ((mwu_ne g0).trans (fr_w3 zz g0))
  refine mg_aload_n C dX4_init_24 rfl ?_
  refine mg_iconst C (v := nI 0) dX4_init_25 (by decide) ?_
  refine mg_put C (fs' := [.int (nI so), .int (nI si), .int (nI se), .int (nI 0), .int (nI 0), .null, .int 0]) inT2 h_w4_h0 rfl 4 (by decide) kw_78 (Or.inl rfl) tyX2_ok nmX2 rfl rfl rfl rfl (Nat.le_of_ble_eq_true rfl) dX4_init_26 (fun w5 e_w5 => ?_)
  have h_w5_h0 : w5 h0 = some (.inr (2, [.int (nI so), .int (nI si), .int (nI se), .int (nI 0), .int (nI 0), .null, .int 0])) := (congrFun e_w5 _).trans mwu_eq
  have fr_w5 : ∀ zz : Nat, zz ≠ h0 → w5 zz = w zz := fun zz g0 => (congrFun e_w5 zz).trans ((mwu_ne g0).trans (fr_w4 zz g0))
  exact hR _ _ _ dX4_init_29 ⟨h_w5_h0, fr_w5⟩

set_option maxHeartbeats 4000000 in
set_option maxRecDepth 20000 in
theorem c_X4_copyTotals_L (D : va_G) (cI cS : ClassId) (w : mwT) (h0 h1 so si se : Nat) (ta ma tb mb : Int32) (y5A y5B : Value) (y6A y6B : Value) (ha : w h0 = some (.inr (2, [.int (nI so), .int (nI si), .int (nI se), .int ta, .int ma, y5A, y6A]))) (hb : w h1 = some (.inr (2, [.int (nI so), .int (nI si), .int (nI se), .int tb, .int mb, y5B, y6B]))) (hne : h0 ≠ h1) : mMv yX4_copyTotals cX4_copyTotals 2 none (rmL 1) [.ref h0, .ref h1] D cI cS w (fun w1 => w1 h0 = some (.inr (2, [.int (nI so), .int (nI si), .int (nI se), .int tb, .int mb, y5A, y6A])) ∧ ∀ b : Nat, b ≠ h0 → w1 b = w b) := by
  refine mMv.of (by decide) (Nat.le_of_ble_eq_true rfl) ?_
  intro X C hN hR
  have fr_w : ∀ zz : Nat, w zz = w zz := fun _ => rfl
  refine mg_sub (lv' := [(0, .ref h0), (1, .ref h1)]) [0, 1] rfl ?_
  refine mg_aload_n C dX4_copyTotals_0 rfl ?_
  refine mg_aload_n C dX4_copyTotals_1 rfl ?_
  refine mg_get C inT2 hb rfl 3 (by decide) kw_77 (Or.inl rfl) rfl dX4_copyTotals_2 ?_
  refine mg_put C (fs' := [.int (nI so), .int (nI si), .int (nI se), .int tb, .int ma, y5A, y6A]) inT2 ha rfl 3 (by decide) kw_77 (Or.inl rfl) tyX2_ok nmX2 rfl rfl rfl rfl (Nat.le_of_ble_eq_true rfl) dX4_copyTotals_5 (fun w1 e_w1 => ?_)
  have h_w1_h0 : w1 h0 = some (.inr (2, [.int (nI so), .int (nI si), .int (nI se), .int tb, .int ma, y5A, y6A])) := (congrFun e_w1 _).trans mwu_eq
  have h_w1_h1 : w1 h1 = some (.inr (2, [.int (nI so), .int (nI si), .int (nI se), .int tb, .int mb, y5B, y6B])) := (congrFun e_w1 _).trans ((mwu_ne (Ne.symm hne)).trans hb)
  have fr_w1 : ∀ zz : Nat, zz ≠ h0 → w1 zz = w zz := fun zz g0 => (congrFun e_w1 zz).trans ((mwu_ne g0).trans (fr_w zz ))
  refine mg_aload_n C dX4_copyTotals_8 rfl ?_
  refine mg_aload_n C dX4_copyTotals_9 rfl ?_
  refine mg_get C inT2 h_w1_h1 rfl 4 (by decide) kw_78 (Or.inl rfl) rfl dX4_copyTotals_10 ?_
  refine mg_put C (fs' := [.int (nI so), .int (nI si), .int (nI se), .int tb, .int mb, y5A, y6A]) inT2 h_w1_h0 rfl 4 (by decide) kw_78 (Or.inl rfl) tyX2_ok nmX2 rfl rfl rfl rfl (Nat.le_of_ble_eq_true rfl) dX4_copyTotals_13 (fun w2 e_w2 => ?_)
  have h_w2_h0 : w2 h0 = some (.inr (2, [.int (nI so), .int (nI si), .int (nI se), .int tb, .int mb, y5A, y6A])) := (congrFun e_w2 _).trans mwu_eq
  have h_w2_h1 : w2 h1 = some (.inr (2, [.int (nI so), .int (nI si), .int (nI se), .int tb, .int mb, y5B, y6B])) := (congrFun e_w2 _).trans ((mwu_ne (Ne.symm hne)).trans h_w1_h1)
  have fr_w2 : ∀ zz : Nat, zz ≠ h0 → w2 zz = w zz := fun zz g0 => (congrFun e_w2 zz).trans ((mwu_ne g0).trans (fr_w1 zz g0))
  exact hR _ _ _ dX4_copyTotals_16 ⟨h_w2_h0, fr_w2⟩

set_option maxHeartbeats 4000000 in
set_option maxRecDepth 20000 in
theorem c_X4_init_R (D : va_G) (cI cS : ClassId) (w : mwT) (h0 so si se : Nat) (ha : w h0 = some (.inr (3, [.int 0, .int 0, .int 0, .int 0, .int 0, .null, .null, .null, .int 0]))) : mMv yX4_init cX4_init 4 none (rmL 1) [.ref h0, .int (nI so), .int (nI si), .int (nI se)] D cI cS w (fun w1 => w1 h0 = some (.inr (3, [.int (nI so), .int (nI si), .int (nI se), .int (nI 0), .int (nI 0), .null, .null, .null, .int 0])) ∧ ∀ b : Nat, b ≠ h0 → w1 b = w b) := by
  refine mMv.of (by decide) (Nat.le_of_ble_eq_true rfl) ?_
  intro X C hN hR
  have fr_w : ∀ zz : Nat, w zz = w zz := fun _ => rfl
  refine mg_sub (lv' := [(0, .ref h0), (1, .int (nI so)), (2, .int (nI si)), (3, .int (nI se))]) [0, 1, 2, 3] rfl ?_
  refine mg_aload_n C dX4_init_0 rfl ?_
  refine mg_objInit C kw_73 ⟨Nat.le_of_ble_eq_true rfl, Nat.le_of_ble_eq_true rfl⟩ dX4_init_1 ?_
  refine mg_aload_n C dX4_init_4 rfl ?_
  refine mg_iload_n C dX4_init_5 rfl ?_
  refine mg_putF C (fs' := [.int (nI so), .int 0, .int 0, .int 0, .int 0, .null, .null, .null, .int 0]) inT3 ha rfl 0 (by decide) kw_74 (Or.inl rfl) tyX3_ok nmX3 rfl hN rfl rfl rfl rfl (Nat.le_of_ble_eq_true rfl) dX4_init_6 (fun w1 e_w1 => ?_)
  have h_w1_h0 : w1 h0 = some (.inr (3, [.int (nI so), .int 0, .int 0, .int 0, .int 0, .null, .null, .null, .int 0])) := (congrFun e_w1 _).trans mwu_eq
  have fr_w1 : ∀ zz : Nat, zz ≠ h0 → w1 zz = w zz := fun zz g0 => (congrFun e_w1 zz).trans ((mwu_ne g0).trans (fr_w zz ))
  refine mg_aload_n C dX4_init_9 rfl ?_
  refine mg_iload_n C dX4_init_10 rfl ?_
  refine mg_putF C (fs' := [.int (nI so), .int (nI si), .int 0, .int 0, .int 0, .null, .null, .null, .int 0]) inT3 h_w1_h0 rfl 1 (by decide) kw_75 (Or.inl rfl) tyX3_ok nmX3 rfl hN rfl rfl rfl rfl (Nat.le_of_ble_eq_true rfl) dX4_init_11 (fun w2 e_w2 => ?_)
  have h_w2_h0 : w2 h0 = some (.inr (3, [.int (nI so), .int (nI si), .int 0, .int 0, .int 0, .null, .null, .null, .int 0])) := (congrFun e_w2 _).trans mwu_eq
  have fr_w2 : ∀ zz : Nat, zz ≠ h0 → w2 zz = w zz := fun zz g0 => (congrFun e_w2 zz).trans ((mwu_ne g0).trans (fr_w1 zz g0))
  refine mg_aload_n C dX4_init_14 rfl ?_
  refine mg_iload_n C dX4_init_15 rfl ?_
  refine mg_putF C (fs' := [.int (nI so), .int (nI si), .int (nI se), .int 0, .int 0, .null, .null, .null, .int 0]) inT3 h_w2_h0 rfl 2 (by decide) kw_76 (Or.inl rfl) tyX3_ok nmX3 rfl hN rfl rfl rfl rfl (Nat.le_of_ble_eq_true rfl) dX4_init_16 (fun w3 e_w3 => ?_)
  have h_w3_h0 : w3 h0 = some (.inr (3, [.int (nI so), .int (nI si), .int (nI se), .int 0, .int 0, .null, .null, .null, .int 0])) := (congrFun e_w3 _).trans mwu_eq
  have fr_w3 : ∀ zz : Nat, zz ≠ h0 → w3 zz = w zz := fun zz g0 => (congrFun e_w3 zz).trans ((mwu_ne g0).trans (fr_w2 zz g0))
  refine mg_aload_n C dX4_init_19 rfl ?_
  refine mg_iconst C (v := nI 0) dX4_init_20 (by decide) ?_
  refine mg_put C (fs' := [.int (nI so), .int (nI si), .int (nI se), .int (nI 0), .int 0, .null, .null, .null, .int 0]) inT3 h_w3_h0 rfl 3 (by decide) kw_77 (Or.inl rfl) tyX3_ok nmX3 rfl rfl rfl rfl (Nat.le_of_ble_eq_true rfl) dX4_init_21 (fun w4 e_w4 => ?_)
  have h_w4_h0 : w4 h0 = some (.inr (3, [.int (nI so), .int (nI si), .int (nI se), .int (nI 0), .int 0, .null, .null, .null, .int 0])) := (congrFun e_w4 _).trans mwu_eq
  have fr_w4 : ∀ zz : Nat, zz ≠ h0 → w4 zz = w zz := fun zz g0 => (congrFun e_w4 zz).trans ((mwu_ne g0).trans (fr_w3 zz g0))
  refine mg_aload_n C dX4_init_24 rfl ?_
  refine mg_iconst C (v := nI 0) dX4_init_25 (by decide) ?_
  refine mg_put C (fs' := [.int (nI so), .int (nI si), .int (nI se), .int (nI 0), .int (nI 0), .null, .null, .null, .int 0]) inT3 h_w4_h0 rfl 4 (by decide) kw_78 (Or.inl rfl) tyX3_ok nmX3 rfl rfl rfl rfl (Nat.le_of_ble_eq_true rfl) dX4_init_26 (fun w5 e_w5 => ?_)
  have h_w5_h0 : w5 h0 = some (.inr (3, [.int (nI so), .int (nI si), .int (nI se), .int (nI 0), .int (nI 0), .null, .null, .null, .int 0])) := (congrFun e_w5 _).trans mwu_eq
  have fr_w5 : ∀ zz : Nat, zz ≠ h0 → w5 zz = w zz := fun zz g0 => (congrFun e_w5 zz).trans ((mwu_ne g0).trans (fr_w4 zz g0))
  exact hR _ _ _ dX4_init_29 ⟨h_w5_h0, fr_w5⟩

set_option maxHeartbeats 4000000 in
set_option maxRecDepth 20000 in
theorem c_X4_copyTotals_R (D : va_G) (cI cS : ClassId) (w : mwT) (h0 h1 so si se : Nat) (ta ma tb mb : Int32) (y5A y5B : Value) (y6A y6B : Value) (y7A y7B : Value) (y8A y8B : Value) (ha : w h0 = some (.inr (3, [.int (nI so), .int (nI si), .int (nI se), .int ta, .int ma, y5A, y6A, y7A, y8A]))) (hb : w h1 = some (.inr (3, [.int (nI so), .int (nI si), .int (nI se), .int tb, .int mb, y5B, y6B, y7B, y8B]))) (hne : h0 ≠ h1) : mMv yX4_copyTotals cX4_copyTotals 2 none (rmL 1) [.ref h0, .ref h1] D cI cS w (fun w1 => w1 h0 = some (.inr (3, [.int (nI so), .int (nI si), .int (nI se), .int tb, .int mb, y5A, y6A, y7A, y8A])) ∧ ∀ b : Nat, b ≠ h0 → w1 b = w b) := by
  refine mMv.of (by decide) (Nat.le_of_ble_eq_true rfl) ?_
  intro X C hN hR
  have fr_w : ∀ zz : Nat, w zz = w zz := fun _ => rfl
  refine mg_sub (lv' := [(0, .ref h0), (1, .ref h1)]) [0, 1] rfl ?_
  refine mg_aload_n C dX4_copyTotals_0 rfl ?_
  refine mg_aload_n C dX4_copyTotals_1 rfl ?_
  refine mg_get C inT3 hb rfl 3 (by decide) kw_77 (Or.inl rfl) rfl dX4_copyTotals_2 ?_
  refine mg_put C (fs' := [.int (nI so), .int (nI si), .int (nI se), .int tb, .int ma, y5A, y6A, y7A, y8A]) inT3 ha rfl 3 (by decide) kw_77 (Or.inl rfl) tyX3_ok nmX3 rfl rfl rfl rfl (Nat.le_of_ble_eq_true rfl) dX4_copyTotals_5 (fun w1 e_w1 => ?_)
  have h_w1_h0 : w1 h0 = some (.inr (3, [.int (nI so), .int (nI si), .int (nI se), .int tb, .int ma, y5A, y6A, y7A, y8A])) := (congrFun e_w1 _).trans mwu_eq
  have h_w1_h1 : w1 h1 = some (.inr (3, [.int (nI so), .int (nI si), .int (nI se), .int tb, .int mb, y5B, y6B, y7B, y8B])) := (congrFun e_w1 _).trans ((mwu_ne (Ne.symm hne)).trans hb)
  have fr_w1 : ∀ zz : Nat, zz ≠ h0 → w1 zz = w zz := fun zz g0 => (congrFun e_w1 zz).trans ((mwu_ne g0).trans (fr_w zz ))
  refine mg_aload_n C dX4_copyTotals_8 rfl ?_
  refine mg_aload_n C dX4_copyTotals_9 rfl ?_
  refine mg_get C inT3 h_w1_h1 rfl 4 (by decide) kw_78 (Or.inl rfl) rfl dX4_copyTotals_10 ?_
  refine mg_put C (fs' := [.int (nI so), .int (nI si), .int (nI se), .int tb, .int mb, y5A, y6A, y7A, y8A]) inT3 h_w1_h0 rfl 4 (by decide) kw_78 (Or.inl rfl) tyX3_ok nmX3 rfl rfl rfl rfl (Nat.le_of_ble_eq_true rfl) dX4_copyTotals_13 (fun w2 e_w2 => ?_)
  have h_w2_h0 : w2 h0 = some (.inr (3, [.int (nI so), .int (nI si), .int (nI se), .int tb, .int mb, y5A, y6A, y7A, y8A])) := (congrFun e_w2 _).trans mwu_eq
  have h_w2_h1 : w2 h1 = some (.inr (3, [.int (nI so), .int (nI si), .int (nI se), .int tb, .int mb, y5B, y6B, y7B, y8B])) := (congrFun e_w2 _).trans ((mwu_ne (Ne.symm hne)).trans h_w1_h1)
  have fr_w2 : ∀ zz : Nat, zz ≠ h0 → w2 zz = w zz := fun zz g0 => (congrFun e_w2 zz).trans ((mwu_ne g0).trans (fr_w1 zz g0))
  exact hR _ _ _ dX4_copyTotals_16 ⟨h_w2_h0, fr_w2⟩

set_option maxHeartbeats 4000000 in
set_option maxRecDepth 20000 in
theorem c_X4_init_T (D : va_G) (cI cS : ClassId) (w : mwT) (h0 so si se : Nat) (ha : w h0 = some (.inr (4, [.int 0, .int 0, .int 0, .int 0, .int 0, .null]))) : mMv yX4_init cX4_init 4 none (rmL 1) [.ref h0, .int (nI so), .int (nI si), .int (nI se)] D cI cS w (fun w1 => w1 h0 = some (.inr (4, [.int (nI so), .int (nI si), .int (nI se), .int (nI 0), .int (nI 0), .null])) ∧ ∀ b : Nat, b ≠ h0 → w1 b = w b) := by
  refine mMv.of (by decide) (Nat.le_of_ble_eq_true rfl) ?_
  intro X C hN hR
  have fr_w : ∀ zz : Nat, w zz = w zz := fun _ => rfl
  refine mg_sub (lv' := [(0, .ref h0), (1, .int (nI so)), (2, .int (nI si)), (3, .int (nI se))]) [0, 1, 2, 3] rfl ?_
  refine mg_aload_n C dX4_init_0 rfl ?_
  refine mg_objInit C kw_73 ⟨Nat.le_of_ble_eq_true rfl, Nat.le_of_ble_eq_true rfl⟩ dX4_init_1 ?_
  refine mg_aload_n C dX4_init_4 rfl ?_
  refine mg_iload_n C dX4_init_5 rfl ?_
  refine mg_putF C (fs' := [.int (nI so), .int 0, .int 0, .int 0, .int 0, .null]) inT5 ha rfl 0 (by decide) kw_74 (Or.inl rfl) tyX5_ok nmX5 rfl hN rfl rfl rfl rfl (Nat.le_of_ble_eq_true rfl) dX4_init_6 (fun w1 e_w1 => ?_)
  have h_w1_h0 : w1 h0 = some (.inr (4, [.int (nI so), .int 0, .int 0, .int 0, .int 0, .null])) := (congrFun e_w1 _).trans mwu_eq
  have fr_w1 : ∀ zz : Nat, zz ≠ h0 → w1 zz = w zz := fun zz g0 => (congrFun e_w1 zz).trans ((mwu_ne g0).trans (fr_w zz ))
  refine mg_aload_n C dX4_init_9 rfl ?_
  refine mg_iload_n C dX4_init_10 rfl ?_
  refine mg_putF C (fs' := [.int (nI so), .int (nI si), .int 0, .int 0, .int 0, .null]) inT5 h_w1_h0 rfl 1 (by decide) kw_75 (Or.inl rfl) tyX5_ok nmX5 rfl hN rfl rfl rfl rfl (Nat.le_of_ble_eq_true rfl) dX4_init_11 (fun w2 e_w2 => ?_)
  have h_w2_h0 : w2 h0 = some (.inr (4, [.int (nI so), .int (nI si), .int 0, .int 0, .int 0, .null])) := (congrFun e_w2 _).trans mwu_eq
  have fr_w2 : ∀ zz : Nat, zz ≠ h0 → w2 zz = w zz := fun zz g0 => (congrFun e_w2 zz).trans ((mwu_ne g0).trans (fr_w1 zz g0))
  refine mg_aload_n C dX4_init_14 rfl ?_
  refine mg_iload_n C dX4_init_15 rfl ?_
  refine mg_putF C (fs' := [.int (nI so), .int (nI si), .int (nI se), .int 0, .int 0, .null]) inT5 h_w2_h0 rfl 2 (by decide) kw_76 (Or.inl rfl) tyX5_ok nmX5 rfl hN rfl rfl rfl rfl (Nat.le_of_ble_eq_true rfl) dX4_init_16 (fun w3 e_w3 => ?_)
  have h_w3_h0 : w3 h0 = some (.inr (4, [.int (nI so), .int (nI si), .int (nI se), .int 0, .int 0, .null])) := (congrFun e_w3 _).trans mwu_eq
  have fr_w3 : ∀ zz : Nat, zz ≠ h0 → w3 zz = w zz := fun zz g0 => (congrFun e_w3 zz).trans ((mwu_ne g0).trans (fr_w2 zz g0))
  refine mg_aload_n C dX4_init_19 rfl ?_
  refine mg_iconst C (v := nI 0) dX4_init_20 (by decide) ?_
  refine mg_put C (fs' := [.int (nI so), .int (nI si), .int (nI se), .int (nI 0), .int 0, .null]) inT5 h_w3_h0 rfl 3 (by decide) kw_77 (Or.inl rfl) tyX5_ok nmX5 rfl rfl rfl rfl (Nat.le_of_ble_eq_true rfl) dX4_init_21 (fun w4 e_w4 => ?_)
  have h_w4_h0 : w4 h0 = some (.inr (4, [.int (nI so), .int (nI si), .int (nI se), .int (nI 0), .int 0, .null])) := (congrFun e_w4 _).trans mwu_eq
  have fr_w4 : ∀ zz : Nat, zz ≠ h0 → w4 zz = w zz := fun zz g0 => (congrFun e_w4 zz).trans ((mwu_ne g0).trans (fr_w3 zz g0))
  refine mg_aload_n C dX4_init_24 rfl ?_
  refine mg_iconst C (v := nI 0) dX4_init_25 (by decide) ?_
  refine mg_put C (fs' := [.int (nI so), .int (nI si), .int (nI se), .int (nI 0), .int (nI 0), .null]) inT5 h_w4_h0 rfl 4 (by decide) kw_78 (Or.inl rfl) tyX5_ok nmX5 rfl rfl rfl rfl (Nat.le_of_ble_eq_true rfl) dX4_init_26 (fun w5 e_w5 => ?_)
  have h_w5_h0 : w5 h0 = some (.inr (4, [.int (nI so), .int (nI si), .int (nI se), .int (nI 0), .int (nI 0), .null])) := (congrFun e_w5 _).trans mwu_eq
  have fr_w5 : ∀ zz : Nat, zz ≠ h0 → w5 zz = w zz := fun zz g0 => (congrFun e_w5 zz).trans ((mwu_ne g0).trans (fr_w4 zz g0))
  exact hR _ _ _ dX4_init_29 ⟨h_w5_h0, fr_w5⟩

set_option maxHeartbeats 4000000 in
set_option maxRecDepth 20000 in
theorem c_X4_copyTotals_T (D : va_G) (cI cS : ClassId) (w : mwT) (h0 h1 so si se : Nat) (ta ma tb mb : Int32) (y5A y5B : Value) (ha : w h0 = some (.inr (4, [.int (nI so), .int (nI si), .int (nI se), .int ta, .int ma, y5A]))) (hb : w h1 = some (.inr (4, [.int (nI so), .int (nI si), .int (nI se), .int tb, .int mb, y5B]))) (hne : h0 ≠ h1) : mMv yX4_copyTotals cX4_copyTotals 2 none (rmL 1) [.ref h0, .ref h1] D cI cS w (fun w1 => w1 h0 = some (.inr (4, [.int (nI so), .int (nI si), .int (nI se), .int tb, .int mb, y5A])) ∧ ∀ b : Nat, b ≠ h0 → w1 b = w b) := by
  refine mMv.of (by decide) (Nat.le_of_ble_eq_true rfl) ?_
  intro X C hN hR
  have fr_w : ∀ zz : Nat, w zz = w zz := fun _ => rfl
  refine mg_sub (lv' := [(0, .ref h0), (1, .ref h1)]) [0, 1] rfl ?_
  refine mg_aload_n C dX4_copyTotals_0 rfl ?_
  refine mg_aload_n C dX4_copyTotals_1 rfl ?_
  refine mg_get C inT5 hb rfl 3 (by decide) kw_77 (Or.inl rfl) rfl dX4_copyTotals_2 ?_
  refine mg_put C (fs' := [.int (nI so), .int (nI si), .int (nI se), .int tb, .int ma, y5A]) inT5 ha rfl 3 (by decide) kw_77 (Or.inl rfl) tyX5_ok nmX5 rfl rfl rfl rfl (Nat.le_of_ble_eq_true rfl) dX4_copyTotals_5 (fun w1 e_w1 => ?_)
  have h_w1_h0 : w1 h0 = some (.inr (4, [.int (nI so), .int (nI si), .int (nI se), .int tb, .int ma, y5A])) := (congrFun e_w1 _).trans mwu_eq
  have h_w1_h1 : w1 h1 = some (.inr (4, [.int (nI so), .int (nI si), .int (nI se), .int tb, .int mb, y5B])) := (congrFun e_w1 _).trans ((mwu_ne (Ne.symm hne)).trans hb)
  have fr_w1 : ∀ zz : Nat, zz ≠ h0 → w1 zz = w zz := fun zz g0 => (congrFun e_w1 zz).trans ((mwu_ne g0).trans (fr_w zz ))
  refine mg_aload_n C dX4_copyTotals_8 rfl ?_
  refine mg_aload_n C dX4_copyTotals_9 rfl ?_
  refine mg_get C inT5 h_w1_h1 rfl 4 (by decide) kw_78 (Or.inl rfl) rfl dX4_copyTotals_10 ?_
  refine mg_put C (fs' := [.int (nI so), .int (nI si), .int (nI se), .int tb, .int mb, y5A]) inT5 h_w1_h0 rfl 4 (by decide) kw_78 (Or.inl rfl) tyX5_ok nmX5 rfl rfl rfl rfl (Nat.le_of_ble_eq_true rfl) dX4_copyTotals_13 (fun w2 e_w2 => ?_)
  have h_w2_h0 : w2 h0 = some (.inr (4, [.int (nI so), .int (nI si), .int (nI se), .int tb, .int mb, y5A])) := (congrFun e_w2 _).trans mwu_eq
  have h_w2_h1 : w2 h1 = some (.inr (4, [.int (nI so), .int (nI si), .int (nI se), .int tb, .int mb, y5B])) := (congrFun e_w2 _).trans ((mwu_ne (Ne.symm hne)).trans h_w1_h1)
  have fr_w2 : ∀ zz : Nat, zz ≠ h0 → w2 zz = w zz := fun zz g0 => (congrFun e_w2 zz).trans ((mwu_ne g0).trans (fr_w1 zz g0))
  exact hR _ _ _ dX4_copyTotals_16 ⟨h_w2_h0, fr_w2⟩
