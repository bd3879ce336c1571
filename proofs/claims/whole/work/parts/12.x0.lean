set_option maxHeartbeats 4000000 in
set_option maxRecDepth 20000 in
theorem c_X0_take (D : va_G) (cI cS : ClassId) (w : mwT) (h0 ab b sd : Nat) (tot mov : Int32) (f : Nat → Int32) (x : Nat) (n : Int32) (hh : w h0 = some (.inr (0, [.int (nI 2), .int (nI b), .int (nI sd), .int tot, .int mov, .ref ab]))) (hab : w ab = some (eI cI b f)) (hs : sd ≤ 999) (hb1 : 16 ≤ b) (hb2 : b ≤ 512) (hx : x ≤ 9999) : mMv yX0_take cX0_take 5 none (rmL 3) [.ref h0, .int (nI x), .int n] D cI cS w (fun w1 => w1 ab = some (eI cI b (tkF f sd x b 4)) ∧ ∀ c : Nat, c ≠ ab → w1 c = w c) := by
  refine mMv.of (by decide) (Nat.le_of_ble_eq_true rfl) ?_
  intro X C hN hR
  have fr_w : ∀ zz : Nat, w zz = w zz := fun _ => rfl
  refine mg_sub (lv' := [(0, .ref h0), (1, .int (nI x)), (2, .int n)]) [0, 1, 2] rfl ?_
  refine mg_iconst C (v := nI 0) dX0_take_0 (by decide) ?_
  refine mg_istore_n C (lv' := [(3, .int (nI 0)), (0, .ref h0), (1, .int (nI x)), (2, .int n)]) dX0_take_1 rfl (by decide) rfl ?_
  have L2 : ∀ (M2 : Nat) (j : Nat), 4 - j < M2 → (j ≤ 4) → ∀ (w1 : mwT), w1 h0 = some (.inr (0, [.int (nI 2), .int (nI b), .int (nI sd), .int tot, .int mov, .ref ab])) → w1 ab = some (eI cI b (tkF f sd x b j)) → (∀ zz : Nat, zz ≠ ab → w1 zz = w zz) → mwG X 0 0 w1 [(0, .ref h0), (1, .int (nI x)), (2, .int n), (3, .int (nI j))] [] 2 := by
    intro M2
    induction M2 with
    | zero => intro j hm2; exact absurd hm2 (Nat.not_lt_zero _)
    | succ M2 ih2 =>
      intro j hm2 hj w1 h_w1_h0 h_w1_ab fr_w1
      refine mg_iload_n C dX0_take_2 rfl ?_
      refine mg_iconst C (v := nI 4) dX0_take_3 (by decide) ?_
      refine mg_icmpN_ge C (tgt := 46) dX0_take_4 (by decide) (by omega) (by omega) (fun c_4 => ?_) (fun c_4 => ?_)
      · obtain rfl : j = 4 := by omega
        exact hR _ _ _ dX0_take_46 ⟨h_w1_ab, fr_w1⟩
      · refine mg_aload_n C dX0_take_7 rfl ?_
        refine mg_get C inT0 h_w1_h0 rfl 2 (by decide) kw_135 (Or.inr kw_136) rfl dX0_take_8 ?_
        refine mg_iload_n C dX0_take_11 rfl ?_
        refine mg_iload_n C dX0_take_12 rfl ?_
        refine mg_aload_n C dX0_take_13 rfl ?_
        refine mg_get C inT0 h_w1_h0 rfl 1 (by decide) kw_133 (Or.inr kw_134) rfl dX0_take_14 ?_
        refine mg_callN_i C (rest := []) (c_X6_placeOf D cI cS w1 sd j x b hs (by omega) hx (by omega) (by omega)) yq_X6_placeOf kn_12 kw_262 ⟨by decide, by decide⟩ ⟨Nat.le_of_ble_eq_true rfl, Nat.le_of_ble_eq_true rfl⟩ (Nat.le_of_ble_eq_true rfl) rfl rfl dX0_take_17 (fun r2 w3 ⟨e_r2, e_w3⟩ => ?_)
        rw [e_w3, e_r2]
        have hpl : hsN sd j x % b < b := Nat.mod_lt _ (by omega)
        refine mg_istore C (lv' := [(4, .int (nI (hsN sd j x % b))), (0, .ref h0), (1, .int (nI x)), (2, .int n), (3, .int (nI j))]) dX0_take_20 (by decide) rfl ?_
        refine mg_iload C dX0_take_22 rfl ?_
        refine mg_aload_n C dX0_take_24 rfl ?_
        refine mg_get C inT0 h_w1_h0 rfl 5 (by decide) kw_87 (Or.inl rfl) rfl dX0_take_25 ?_
        refine mg_alen C h_w1_ab dX0_take_28 ?_
        refine mg_icmpN_ge C (tgt := 40) dX0_take_29 (by decide) (by omega) (by omega) (fun c_29 => absurd c_29 (by omega)) (fun c_29 => ?_)
        refine mg_aload_n C dX0_take_32 rfl ?_
        refine mg_get C inT0 h_w1_h0 rfl 5 (by decide) kw_87 (Or.inl rfl) rfl dX0_take_33 ?_
        refine mg_iload C dX0_take_36 rfl ?_
        refine mg_iconst C (v := nI 1) dX0_take_38 (by decide) ?_
        refine mg_iastN C h_w1_ab (Nat.mod_lt _ (by omega)) (by omega) dX0_take_39 (fun w4 e_w4 => ?_)
        have h_w4_h0 : w4 h0 = some (.inr (0, [.int (nI 2), .int (nI b), .int (nI sd), .int tot, .int mov, .ref ab])) := (congrFun e_w4 _).trans ((mwu_ne (mw_oa h_w1_h0 h_w1_ab)).trans h_w1_h0)
        have h_w4_ab : w4 ab = some (eI cI b (upd (tkF f sd x b j) (hsN sd j x % b) (nI 1))) := (congrFun e_w4 _).trans mwu_eq
        have fr_w4 : ∀ zz : Nat, zz ≠ ab → w4 zz = w zz := fun zz g0 => (congrFun e_w4 zz).trans ((mwu_ne g0).trans (fr_w1 zz g0))
        refine mg_iinc C (v := nI (j + 1)) (lv' := [(3, .int (nI (j + 1))), (4, .int (nI (hsN sd j x % b))), (0, .ref h0), (1, .int (nI x)), (2, .int n)]) dX0_take_40 rfl (ni_inc _) (by decide) rfl ?_
        refine mg_goto C (tgt := 2) dX0_take_43 (by decide) ?_
        refine mg_sub (lv' := [(0, .ref h0), (1, .int (nI x)), (2, .int n), (3, .int (nI (j + 1)))]) [2, 3, 4, 0] rfl ?_
        exact ih2 ((j + 1)) (by omega) (by omega) w4 h_w4_h0 h_w4_ab (fun zz g0 => fr_w4 zz g0)
  refine mg_sub (lv' := [(0, .ref h0), (1, .int (nI x)), (2, .int n), (3, .int (nI 0))]) [1, 2, 3, 0] rfl ?_
  exact L2 (_ + 1) 0 (Nat.lt_succ_self _) (by omega) w hh hab (fun zz g0 => fr_w zz )

set_option maxHeartbeats 4000000 in
set_option maxRecDepth 20000 in
theorem c_X0_holds (D : va_G) (cI cS : ClassId) (w : mwT) (h0 ab b sd : Nat) (tot mov : Int32) (f : Nat → Int32) (x : Nat) (hh : w h0 = some (.inr (0, [.int (nI 2), .int (nI b), .int (nI sd), .int tot, .int mov, .ref ab]))) (hab : w ab = some (eI cI b f)) (hs : sd ≤ 999) (hb1 : 16 ≤ b) (hb2 : b ≤ 512) (hx : x ≤ 9999) : mMi yX0_holds cX0_holds 5 (some .int) (rmL 3) [.ref h0, .int (nI x)] D cI cS w (fun r w1 => r = hlF f sd x b 4 ∧ w1 = w) := by
  refine mMi.of (by decide) (Nat.le_of_ble_eq_true rfl) ?_
  intro X C hN hR
  refine mg_sub (lv' := [(0, .ref h0), (1, .int (nI x))]) [0, 1] rfl ?_
  refine mg_iconst C (v := nI 1) dX0_holds_0 (by decide) ?_
  refine mg_istore_n C (lv' := [(2, .int (nI 1)), (0, .ref h0), (1, .int (nI x))]) dX0_holds_1 rfl (by decide) rfl ?_
  refine mg_iconst C (v := nI 0) dX0_holds_2 (by decide) ?_
  refine mg_istore_n C (lv' := [(3, .int (nI 0)), (2, .int (nI 1)), (0, .ref h0), (1, .int (nI x))]) dX0_holds_3 rfl (by decide) rfl ?_
  have L4 : ∀ (M4 : Nat) (j : Nat), 4 - j < M4 → (j ≤ 4) → mwG X 0 0 w [(0, .ref h0), (1, .int (nI x)), (2, .int (hlF f sd x b j)), (3, .int (nI j))] [] 4 := by
    intro M4
    induction M4 with
    | zero => intro j hm4; exact absurd hm4 (Nat.not_lt_zero _)
    | succ M4 ih4 =>
      intro j hm4 hj
      refine mg_iload_n C dX0_holds_4 rfl ?_
      refine mg_iconst C (v := nI 4) dX0_holds_5 (by decide) ?_
      refine mg_icmpN_ge C (tgt := 50) dX0_holds_6 (by decide) (by omega) (by omega) (fun c_6 => ?_) (fun c_6 => ?_)
      · refine mg_iload_n C dX0_holds_50 rfl ?_
        obtain rfl : j = 4 := by omega
        exact hR _ _ _ _ dX0_holds_51 ⟨rfl, rfl⟩
      · refine mg_aload_n C dX0_holds_9 rfl ?_
        refine mg_get C inT0 hh rfl 2 (by decide) kw_135 (Or.inr kw_136) rfl dX0_holds_10 ?_
        refine mg_iload_n C dX0_holds_13 rfl ?_
        refine mg_iload_n C dX0_holds_14 rfl ?_
        refine mg_aload_n C dX0_holds_15 rfl ?_
        refine mg_get C inT0 hh rfl 1 (by decide) kw_133 (Or.inr kw_134) rfl dX0_holds_16 ?_
        refine mg_callN_i C (rest := []) (c_X6_placeOf D cI cS w sd j x b hs (by omega) hx (by omega) (by omega)) yq_X6_placeOf kn_12 kw_262 ⟨by decide, by decide⟩ ⟨Nat.le_of_ble_eq_true rfl, Nat.le_of_ble_eq_true rfl⟩ (Nat.le_of_ble_eq_true rfl) rfl rfl dX0_holds_19 (fun r1 w2 ⟨e_r1, e_w2⟩ => ?_)
        rw [e_w2, e_r1]
        have hpl : hsN sd j x % b < b := Nat.mod_lt _ (by omega)
        refine mg_istore C (lv' := [(4, .int (nI (hsN sd j x % b))), (0, .ref h0), (1, .int (nI x)), (2, .int (hlF f sd x b j)), (3, .int (nI j))]) dX0_holds_22 (by decide) rfl ?_
        refine mg_iload C dX0_holds_24 rfl ?_
        refine mg_aload_n C dX0_holds_26 rfl ?_
        refine mg_get C inT0 hh rfl 5 (by decide) kw_87 (Or.inl rfl) rfl dX0_holds_27 ?_
        refine mg_alen C hab dX0_holds_30 ?_
        refine mg_icmpN_ge C (tgt := 44) dX0_holds_31 (by decide) (by omega) (by omega) (fun c_31 => absurd c_31 (by omega)) (fun c_31 => ?_)
        refine mg_iload_n C dX0_holds_34 rfl ?_
        refine mg_aload_n C dX0_holds_35 rfl ?_
        refine mg_get C inT0 hh rfl 5 (by decide) kw_87 (Or.inl rfl) rfl dX0_holds_36 ?_
        refine mg_iload C dX0_holds_39 rfl ?_
        refine mg_ialdN C hab (Nat.mod_lt _ (by omega)) (by omega) dX0_holds_41 ?_
        refine mg_iand C (z := (hlF f sd x b j) &&& (f (hsN sd j x % b))) dX0_holds_42 rfl ?_
        refine mg_istore_n C (lv' := [(2, .int ((hlF f sd x b j) &&& (f (hsN sd j x % b)))), (4, .int (nI (hsN sd j x % b))), (0, .ref h0), (1, .int (nI x)), (3, .int (nI j))]) dX0_holds_43 rfl (by decide) rfl ?_
        refine mg_iinc C (v := nI (j + 1)) (lv' := [(3, .int (nI (j + 1))), (2, .int ((hlF f sd x b j) &&& (f (hsN sd j x % b)))), (4, .int (nI (hsN sd j x % b))), (0, .ref h0), (1, .int (nI x))]) dX0_holds_44 rfl (ni_inc _) (by decide) rfl ?_
        refine mg_goto C (tgt := 4) dX0_holds_47 (by decide) ?_
        refine mg_sub (lv' := [(0, .ref h0), (1, .int (nI x)), (2, .int ((hlF f sd x b j) &&& (f (hsN sd j x % b)))), (3, .int (nI (j + 1)))]) [3, 4, 1, 0] rfl ?_
        exact ih4 ((j + 1)) (by omega) (by omega)
  refine mg_sub (lv' := [(0, .ref h0), (1, .int (nI x)), (2, .int (nI 1)), (3, .int (nI 0))]) [2, 3, 1, 0] rfl ?_
  exact L4 (_ + 1) 0 (Nat.lt_succ_self _) (by omega)

set_option maxHeartbeats 4000000 in
set_option maxRecDepth 20000 in
theorem c_X0_keptAt (D : va_G) (cI cS : ClassId) (w : mwT) (h0 ab b sd : Nat) (tot mov : Int32) (f : Nat → Int32) (i pt : Int32) (hh : w h0 = some (.inr (0, [.int (nI 2), .int (nI b), .int (nI sd), .int tot, .int mov, .ref ab]))) (hab : w ab = some (eI cI b f)) (hs : sd ≤ 999) (hb1 : 16 ≤ b) (hb2 : b ≤ 512) : mMi yX0_keptAt cX0_keptAt 3 (some .int) (rmL 1) [.ref h0, .int i, .int pt] D cI cS w (fun r w1 => ((∃ a : Nat, a < b ∧ i = nI a ∧ pt = 0 ∧ r = f a) ∨ (r = -1 ∧ ¬ (ixN b i ∧ pt = 0))) ∧ w1 = w) := by
  refine mMi.of (by decide) (Nat.le_of_ble_eq_true rfl) ?_
  intro X C hN hR
  refine mg_sub (lv' := [(0, .ref h0), (1, .int i), (2, .int pt)]) [0, 1, 2] rfl ?_
  refine mg_iload_n C dX0_keptAt_0 rfl ?_
  refine mg_if_lt C (tgt := 17) dX0_keptAt_1 (by decide) (fun c_1 => ?_) (fun c_1 => ?_)
  · refine mg_iconst C (v := (-1 : Int32)) dX0_keptAt_17 (by decide) ?_
    refine mg_goto C (tgt := 27) dX0_keptAt_18 (by decide) ?_
    exact hR _ _ _ _ dX0_keptAt_27 ⟨Or.inr ⟨rfl, fun q => ix_lt (by omega) c_1 q.1⟩, rfl⟩
  · refine mg_iload_n C dX0_keptAt_4 rfl ?_
    refine mg_aload_n C dX0_keptAt_5 rfl ?_
    refine mg_get C inT0 hh rfl 5 (by decide) kw_87 (Or.inl rfl) rfl dX0_keptAt_6 ?_
    refine mg_alen C hab dX0_keptAt_9 ?_
    refine mg_icmp_ge C (tgt := 17) dX0_keptAt_10 (by decide) (fun c_10 => ?_) (fun c_10 => ?_)
    · refine mg_iconst C (v := (-1 : Int32)) dX0_keptAt_17 (by decide) ?_
      refine mg_goto C (tgt := 27) dX0_keptAt_18 (by decide) ?_
      exact hR _ _ _ _ dX0_keptAt_27 ⟨Or.inr ⟨rfl, fun q => ix_ge (by omega) c_10 q.1⟩, rfl⟩
    · refine mg_iload_n C dX0_keptAt_13 rfl ?_
      refine mg_if_eq C (tgt := 21) dX0_keptAt_14 (by decide) (fun c_14 => ?_) (fun c_14 => ?_)
      · obtain ⟨a, ha, rfl⟩ := ix_of (by omega) c_1 c_10
        refine mg_aload_n C dX0_keptAt_21 rfl ?_
        refine mg_get C inT0 hh rfl 5 (by decide) kw_87 (Or.inl rfl) rfl dX0_keptAt_22 ?_
        refine mg_iload_n C dX0_keptAt_25 rfl ?_
        refine mg_ialdN C hab (by omega) (by omega) dX0_keptAt_26 ?_
        exact hR _ _ _ _ dX0_keptAt_27 ⟨Or.inl ⟨a, ha, rfl, c_14, rfl⟩, rfl⟩
      · refine mg_iconst C (v := (-1 : Int32)) dX0_keptAt_17 (by decide) ?_
        refine mg_goto C (tgt := 27) dX0_keptAt_18 (by decide) ?_
        exact hR _ _ _ _ dX0_keptAt_27 ⟨Or.inr ⟨rfl, fun q => c_14 q.2⟩, rfl⟩

set_option maxHeartbeats 4000000 in
set_option maxRecDepth 20000 in
theorem c_X0_howManyKept (D : va_G) (cI cS : ClassId) (w : mwT) (h0 ab b sd : Nat) (tot mov : Int32) (f : Nat → Int32) (hh : w h0 = some (.inr (0, [.int (nI 2), .int (nI b), .int (nI sd), .int tot, .int mov, .ref ab]))) (hab : w ab = some (eI cI b f)) (hs : sd ≤ 999) (hb1 : 16 ≤ b) (hb2 : b ≤ 512) : mMi yX0_howManyKept cX0_howManyKept 1 (some .int) (rmL 2) [.ref h0] D cI cS w (fun r w1 => r = nI (cnz f b) ∧ w1 = w) := by
  refine mMi.of (by decide) (Nat.le_of_ble_eq_true rfl) ?_
  intro X C hN hR
  refine mg_sub (lv' := [(0, .ref h0)]) [0] rfl ?_
  refine mg_aload_n C dX0_howManyKept_0 rfl ?_
  refine mg_get C inT0 hh rfl 5 (by decide) kw_87 (Or.inl rfl) rfl dX0_howManyKept_1 ?_
  refine mg_callN_i C (rest := []) (c_X6_countNotZero D cI cS w ab b f hab (by omega)) yq_X6_countNotZero kn_21 kw_599 ⟨by decide, by decide⟩ ⟨Nat.le_of_ble_eq_true rfl, Nat.le_of_ble_eq_true rfl⟩ (Nat.le_of_ble_eq_true rfl) rfl rfl dX0_howManyKept_4 (fun r1 w2 ⟨e_r1, e_w2⟩ => ?_)
  rw [e_w2, e_r1]
  exact hR _ _ _ _ dX0_howManyKept_7 ⟨rfl, rfl⟩

set_option maxHeartbeats 4000000 in
set_option maxRecDepth 20000 in
theorem c_X0_forget (D : va_G) (cI cS : ClassId) (w : mwT) (h0 ab b sd : Nat) (tot mov : Int32) (f : Nat → Int32) (hh : w h0 = some (.inr (0, [.int (nI 2), .int (nI b), .int (nI sd), .int tot, .int mov, .ref ab]))) (hab : w ab = some (eI cI b f)) (hs : sd ≤ 999) (hb1 : 16 ≤ b) (hb2 : b ≤ 512) : mMv yX0_forget cX0_forget 1 none (rmL 2) [.ref h0] D cI cS w (fun w1 => w1 ab = some (eI cI b (cpy0 (fun _ => 0) f b)) ∧ ∀ c : Nat, c ≠ ab → w1 c = w c) := by
  refine mMv.of (by decide) (Nat.le_of_ble_eq_true rfl) ?_
  intro X C hN hR
  have fr_w : ∀ zz : Nat, w zz = w zz := fun _ => rfl
  refine mg_sub (lv' := [(0, .ref h0)]) [0] rfl ?_
  refine mg_aload_n C dX0_forget_0 rfl ?_
  refine mg_get C inT0 hh rfl 5 (by decide) kw_87 (Or.inl rfl) rfl dX0_forget_1 ?_
  refine mg_callN_v C (rest := []) (c_X6_clearRow D cI cS w ab b f hab (by omega)) yq_X6_clearRow kn_8 kw_213 ⟨by decide, by decide⟩ ⟨Nat.le_of_ble_eq_true rfl, Nat.le_of_ble_eq_true rfl⟩ (Nat.le_of_ble_eq_true rfl) rfl rfl dX0_forget_4 (fun w1 ⟨xh1, xf1⟩ => ?_)
  have h_w1_h0 : w1 h0 = some (.inr (0, [.int (nI 2), .int (nI b), .int (nI sd), .int tot, .int mov, .ref ab])) := (xf1 h0 (mw_oa hh hab)).trans hh
  have fr_w1 : ∀ zz : Nat, zz ≠ ab → w1 zz = w zz := fun zz g0 => (xf1 zz g0).trans (fr_w zz )
  exact hR _ _ _ dX0_forget_7 ⟨xh1, fr_w1⟩

set_option maxHeartbeats 4000000 in
set_option maxRecDepth 20000 in
theorem c_X0_join (D : va_G) (cI cS : ClassId) (w : mwT) (h0 h1 ab ab2 b sd : Nat) (tot mov tot2 mov2 : Int32) (f g : Nat → Int32) (hh : w h0 = some (.inr (0, [.int (nI 2), .int (nI b), .int (nI sd), .int tot, .int mov, .ref ab]))) (hh1 : w h1 = some (.inr (0, [.int (nI 2), .int (nI b), .int (nI sd), .int tot2, .int mov2, .ref ab2]))) (hab : w ab = some (eI cI b f)) (hab2 : w ab2 = some (eI cI b g)) (hs : sd ≤ 999) (hb1 : 16 ≤ b) (hb2 : b ≤ 512) (hne : ab ≠ ab2) : mMv yX0_join cX0_join 4 none (rmL 1) [.ref h0, .ref h1] D cI cS w (fun w1 => w1 ab = some (eI cI b (jnO f g b)) ∧ ∀ c : Nat, c ≠ ab → w1 c = w c) := by
  refine mMv.of (by decide) (Nat.le_of_ble_eq_true rfl) ?_
  intro X C hN hR
  have fr_w : ∀ zz : Nat, w zz = w zz := fun _ => rfl
  refine mg_sub (lv' := [(0, .ref h0), (1, .ref h1)]) [0, 1] rfl ?_
  refine mg_aload_n C dX0_join_0 rfl ?_
  refine mg_inst C hh1 rfl kw_132 dX0_join_1 ?_
  refine mg_ifN_eq C (tgt := 53) dX0_join_4 (by decide) (by decide) (fun c_4 => absurd c_4 (by decide)) (fun c_4 => ?_)
  refine mg_aload_n C dX0_join_7 rfl ?_
  refine mg_cast C hh1 rfl kw_132 dX0_join_8 ?_
  refine mg_astore_n C (lv' := [(2, .ref h1), (0, .ref h0), (1, .ref h1)]) dX0_join_11 rfl (by decide) rfl ?_
  refine mg_iconst C (v := nI 0) dX0_join_12 (by decide) ?_
  refine mg_istore_n C (lv' := [(3, .int (nI 0)), (2, .ref h1), (0, .ref h0), (1, .ref h1)]) dX0_join_13 rfl (by decide) rfl ?_
  have L14 : ∀ (M14 : Nat) (i : Nat), b - i < M14 → (i ≤ b) → ∀ (w1 : mwT), w1 h0 = some (.inr (0, [.int (nI 2), .int (nI b), .int (nI sd), .int tot, .int mov, .ref ab])) → w1 h1 = some (.inr (0, [.int (nI 2), .int (nI b), .int (nI sd), .int tot2, .int mov2, .ref ab2])) → w1 ab = some (eI cI b (jnO f g i)) → w1 ab2 = some (eI cI b g) → (∀ zz : Nat, zz ≠ ab → w1 zz = w zz) → mwG X 0 0 w1 [(0, .ref h0), (1, .ref h1), (2, .ref h1), (3, .int (nI i))] [] 14 := by
    intro M14
    induction M14 with
    | zero => intro i hm14; exact absurd hm14 (Nat.not_lt_zero _)
    | succ M14 ih14 =>
      intro i hm14 hi w1 h_w1_h0 h_w1_h1 h_w1_ab h_w1_ab2 fr_w1
      refine mg_iload_n C dX0_join_14 rfl ?_
      refine mg_aload_n C dX0_join_15 rfl ?_
      refine mg_get C inT0 h_w1_h0 rfl 5 (by decide) kw_87 (Or.inl rfl) rfl dX0_join_16 ?_
      refine mg_alen C h_w1_ab dX0_join_19 ?_
      refine mg_icmpN_ge C (tgt := 53) dX0_join_20 (by decide) (by omega) (by omega) (fun c_20 => ?_) (fun c_20 => ?_)
      · have ei : i = b := by omega
        subst ei
        exact hR _ _ _ dX0_join_53 ⟨h_w1_ab, fr_w1⟩
      · refine mg_iload_n C dX0_join_23 rfl ?_
        refine mg_aload_n C dX0_join_24 rfl ?_
        refine mg_get C inT0 h_w1_h1 rfl 5 (by decide) kw_87 (Or.inl rfl) rfl dX0_join_25 ?_
        refine mg_alen C h_w1_ab2 dX0_join_28 ?_
        refine mg_icmpN_ge C (tgt := 53) dX0_join_29 (by decide) (by omega) (by omega) (fun c_29 => absurd c_29 (by omega)) (fun c_29 => ?_)
        refine mg_aload_n C dX0_join_32 rfl ?_
        refine mg_get C inT0 h_w1_h0 rfl 5 (by decide) kw_87 (Or.inl rfl) rfl dX0_join_33 ?_
        refine mg_iload_n C dX0_join_36 rfl ?_
        refine mg_dup2 C dX0_join_37 rfl rfl ?_
        refine mg_ialdN C h_w1_ab (by omega) (by omega) dX0_join_38 ?_
        refine mg_aload_n C dX0_join_39 rfl ?_
        refine mg_get C inT0 h_w1_h1 rfl 5 (by decide) kw_87 (Or.inl rfl) rfl dX0_join_40 ?_
        refine mg_iload_n C dX0_join_43 rfl ?_
        refine mg_ialdN C h_w1_ab2 (by omega) (by omega) dX0_join_44 ?_
        refine mg_ior C (z := ((jnO f g i) i) ||| (g i)) dX0_join_45 rfl ?_
        refine mg_iastN C h_w1_ab (by omega) (by omega) dX0_join_46 (fun w2 e_w2 => ?_)
        have h_w2_h0 : w2 h0 = some (.inr (0, [.int (nI 2), .int (nI b), .int (nI sd), .int tot, .int mov, .ref ab])) := (congrFun e_w2 _).trans ((mwu_ne (mw_oa h_w1_h0 h_w1_ab)).trans h_w1_h0)
        have h_w2_h1 : w2 h1 = some (.inr (0, [.int (nI 2), .int (nI b), .int (nI sd), .int tot2, .int mov2, .ref ab2])) := (congrFun e_w2 _).trans ((mwu_ne (mw_oa h_w1_h1 h_w1_ab)).trans h_w1_h1)
        have h_w2_ab : w2 ab = some (eI cI b (upd (jnO f g i) i (((jnO f g i) i) ||| (g i)))) := (congrFun e_w2 _).trans mwu_eq
        have h_w2_ab2 : w2 ab2 = some (eI cI b g) := (congrFun e_w2 _).trans ((mwu_ne (Ne.symm hne)).trans h_w1_ab2)
        have fr_w2 : ∀ zz : Nat, zz ≠ ab → w2 zz = w zz := fun zz g0 => (congrFun e_w2 zz).trans ((mwu_ne g0).trans (fr_w1 zz g0))
        refine mg_iinc C (v := nI (i + 1)) (lv' := [(3, .int (nI (i + 1))), (0, .ref h0), (1, .ref h1), (2, .ref h1)]) dX0_join_47 rfl (ni_inc _) (by decide) rfl ?_
        refine mg_goto C (tgt := 14) dX0_join_50 (by decide) ?_
        refine mg_sub (lv' := [(0, .ref h0), (1, .ref h1), (2, .ref h1), (3, .int (nI (i + 1)))]) [1, 2, 3, 0] rfl ?_
        exact ih14 ((i + 1)) (by omega) (by omega) w2 h_w2_h0 h_w2_h1 h_w2_ab h_w2_ab2 (fun zz g0 => fr_w2 zz g0)
  refine mg_sub (lv' := [(0, .ref h0), (1, .ref h1), (2, .ref h1), (3, .int (nI 0))]) [2, 3, 1, 0] rfl ?_
  exact L14 (_ + 1) 0 (Nat.lt_succ_self _) (Nat.zero_le _) w hh hh1 hab hab2 (fun zz g0 => fr_w zz )

set_option maxHeartbeats 4000000 in
set_option maxRecDepth 20000 in
theorem c_X0_init (D : va_G) (cI cS : ClassId) (w : mwT) (h0 b sd : Nat) (hh : w h0 = some (.inr (0, [.int 0, .int 0, .int 0, .int 0, .int 0, .null]))) (hb1 : 16 ≤ b) (hb2 : b ≤ 512) : mMv yX0_init cX0_init 3 none (rmA 2 1 512) [.ref h0, .int (nI b), .int (nI sd)] D cI cS w (fun w1 => ∃ qa : Nat, w qa = none ∧ w1 h0 = some (.inr (0, [.int (nI 2), .int (nI b), .int (nI sd), .int (nI 0), .int (nI 0), .ref qa])) ∧ w1 qa = some (eI cI b (fun _ => 0)) ∧ ∀ z : Nat, z ≠ h0 → z ≠ qa → w1 z = w z) := by
  refine mMv.of (by decide) (Nat.le_of_ble_eq_true rfl) ?_
  intro X C hN hR
  have fr_w : ∀ zz : Nat, w zz = w zz := fun _ => rfl
  refine mg_sub (lv' := [(0, .ref h0), (1, .int (nI b)), (2, .int (nI sd))]) [0, 1, 2] rfl ?_
  refine mg_aload_n C dX0_init_0 rfl ?_
  refine mg_iconst C (v := nI 2) dX0_init_1 (by decide) ?_
  refine mg_iload_n C dX0_init_2 rfl ?_
  refine mg_iload_n C dX0_init_3 rfl ?_
  refine mg_callI_v C (rest := []) (c_X4_init_F D cI cS w h0 2 b sd hh) yq_X4_init kw_88 kw_70 rfl ⟨by decide, by decide⟩ ⟨Nat.le_of_ble_eq_true rfl, Nat.le_of_ble_eq_true rfl⟩ (Nat.le_of_ble_eq_true rfl) rfl rfl dX0_init_4 (fun w1 ⟨xh1, xf1⟩ => ?_)
  refine mg_widen (k := 0) (n := 0) (by decide) (by decide) ?_
  have fr_w1 : ∀ zz : Nat, zz ≠ h0 → w1 zz = w zz := fun zz g0 => (xf1 zz g0).trans (fr_w zz )
  refine mg_aload_n C dX0_init_7 rfl ?_
  refine mg_iload_n C dX0_init_8 rfl ?_
  refine mg_newa C kw_19 (by omega) ⟨by decide, by (show 0 + b ≤ 512; omega)⟩ dX0_init_9 (fun q2 w3 n_q2 e_w3 => ?_)
  refine mg_widen (k := 1) (n := 512) (by decide) (by omega) ?_
  have nd_q2_h0 : h0 ≠ q2 := mw_nn xh1 n_q2
  have nz_q2 : w q2 = none := (fr_w1 q2 (Ne.symm nd_q2_h0)).symm.trans n_q2
  have h_w3_h0 : w3 h0 = some (.inr (0, [.int (nI 2), .int (nI b), .int (nI sd), .int (nI 0), .int (nI 0), .null])) := (congrFun e_w3 _).trans ((mwu_ne nd_q2_h0).trans xh1)
  have h_w3_q2 : w3 q2 = some (eI cI b (fun _ => 0)) := (congrFun e_w3 _).trans mwu_eq
  have fr_w3 : ∀ zz : Nat, zz ≠ h0 → zz ≠ q2 → w3 zz = w zz := fun zz g0 g1 => (congrFun e_w3 zz).trans ((mwu_ne g1).trans (fr_w1 zz g0))
  refine mg_putF C (fs' := [.int (nI 2), .int (nI b), .int (nI sd), .int (nI 0), .int (nI 0), .ref q2]) inT0 h_w3_h0 rfl 5 (by decide) kw_87 (Or.inl rfl) tyX0_ok nmX0 rfl hN rfl rfl rfl rfl (Nat.le_of_ble_eq_true rfl) dX0_init_11 (fun w4 e_w4 => ?_)
  have h_w4_h0 : w4 h0 = some (.inr (0, [.int (nI 2), .int (nI b), .int (nI sd), .int (nI 0), .int (nI 0), .ref q2])) := (congrFun e_w4 _).trans mwu_eq
  have h_w4_q2 : w4 q2 = some (eI cI b (fun _ => 0)) := (congrFun e_w4 _).trans ((mwu_ne (Ne.symm nd_q2_h0)).trans h_w3_q2)
  have fr_w4 : ∀ zz : Nat, zz ≠ h0 → zz ≠ q2 → w4 zz = w zz := fun zz g0 g1 => (congrFun e_w4 zz).trans ((mwu_ne g0).trans (fr_w3 zz g0 g1))
  exact hR _ _ _ dX0_init_14 ⟨q2, nz_q2, h_w4_h0, h_w4_q2, fr_w4⟩

set_option maxHeartbeats 4000000 in
set_option maxRecDepth 20000 in
theorem c_X0_twin (D : va_G) (cI cS : ClassId) (w : mwT) (h0 ab b sd : Nat) (tot mov : Int32) (f : Nat → Int32) (hh : w h0 = some (.inr (0, [.int (nI 2), .int (nI b), .int (nI sd), .int tot, .int mov, .ref ab]))) (h_ab : w ab = some (eI cI b f)) (hb1 : 16 ≤ b) (hb2 : b ≤ 512) : mMq yX0_twin cX0_twin 2 (some (.object "SketchSpans$Sketch")) (rmA 3 2 518) [.ref h0] D cI cS w (fun r w1 => ∃ q qa : Nat, r = some q ∧ w q = none ∧ w qa = none ∧ q ≠ qa ∧ w1 q = some (.inr (0, [.int (nI 2), .int (nI b), .int (nI sd), .int tot, .int mov, .ref qa])) ∧ w1 qa = some (eI cI b (cpy0 f (fun _ => 0) b)) ∧ ∀ z : Nat, z ≠ q → z ≠ qa → w1 z = w z) := by
  refine mMq.of (by decide) (Nat.le_of_ble_eq_true rfl) ?_
  intro X C hN hR
  have fr_w : ∀ zz : Nat, w zz = w zz := fun _ => rfl
  refine mg_sub (lv' := [(0, .ref h0)]) [0] rfl ?_
  refine mg_new C (ci := 0) (fs := [.int 0, .int 0, .int 0, .int 0, .int 0, .null]) inT0 tyX0_ok kw_132 kw_54 kw_55 rfl df_X0 ⟨by decide, by decide⟩ dX0_twin_0 (fun q1 w2 n_q1 e_w2 => ?_)
  refine mg_widen (k := 1) (n := 6) (by decide) (by decide) ?_
  have nd_q1_h0 : h0 ≠ q1 := mw_nn hh n_q1
  have nd_q1_ab : ab ≠ q1 := mw_nn h_ab n_q1
  have nz_q1 : w q1 = none := (fr_w q1 ).symm.trans n_q1
  have h_w2_h0 : w2 h0 = some (.inr (0, [.int (nI 2), .int (nI b), .int (nI sd), .int tot, .int mov, .ref ab])) := (congrFun e_w2 _).trans ((mwu_ne nd_q1_h0).trans hh)
  have h_w2_ab : w2 ab = some (eI cI b f) := (congrFun e_w2 _).trans ((mwu_ne nd_q1_ab).trans h_ab)
  have h_w2_q1 : w2 q1 = some (.inr (0, [.int 0, .int 0, .int 0, .int 0, .int 0, .null])) := (congrFun e_w2 _).trans mwu_eq
  have fr_w2 : ∀ zz : Nat, zz ≠ q1 → w2 zz = w zz := fun zz g0 => (congrFun e_w2 zz).trans ((mwu_ne g0).trans (fr_w zz ))
  refine mg_dup C dX0_twin_3 rfl ?_
  refine mg_aload_n C dX0_twin_4 rfl ?_
  refine mg_get C inT0 h_w2_h0 rfl 1 (by decide) kw_133 (Or.inr kw_134) rfl dX0_twin_5 ?_
  refine mg_aload_n C dX0_twin_8 rfl ?_
  refine mg_get C inT0 h_w2_h0 rfl 2 (by decide) kw_135 (Or.inr kw_136) rfl dX0_twin_9 ?_
  refine mg_callI_v C (rest := [.ref q1]) (c_X0_init D cI cS w2 q1 b sd h_w2_q1 hb1 hb2) yq_X0_init kw_137 kw_85 rfl ⟨by decide, by decide⟩ ⟨Nat.le_of_ble_eq_true rfl, Nat.le_of_ble_eq_true rfl⟩ (Nat.le_of_ble_eq_true rfl) rfl rfl dX0_twin_12 (fun w3 ⟨q3a, n_q3a, xh3, xkq3a, xf3⟩ => ?_)
  refine mg_widen (k := 2) (n := 518) (by decide) (by decide) ?_
  have nd_q3a_h0 : h0 ≠ q3a := mw_nn h_w2_h0 n_q3a
  have nd_q3a_ab : ab ≠ q3a := mw_nn h_w2_ab n_q3a
  have nd_q3a_q1 : q1 ≠ q3a := mw_nn h_w2_q1 n_q3a
  have nz_q3a : w q3a = none := (fr_w2 q3a (Ne.symm nd_q3a_q1)).symm.trans n_q3a
  have h_w3_h0 : w3 h0 = some (.inr (0, [.int (nI 2), .int (nI b), .int (nI sd), .int tot, .int mov, .ref ab])) := (xf3 h0 nd_q1_h0 (mw_nn h_w2_h0 n_q3a)).trans h_w2_h0
  have h_w3_ab : w3 ab = some (eI cI b f) := (xf3 ab nd_q1_ab (mw_nn h_w2_ab n_q3a)).trans h_w2_ab
  have fr_w3 : ∀ zz : Nat, zz ≠ q1 → zz ≠ q3a → w3 zz = w zz := fun zz g0 g1 => (xf3 zz g0 g1).trans (fr_w2 zz g0)
  refine mg_astore_n C (lv' := [(1, .ref q1), (0, .ref h0)]) dX0_twin_15 rfl (by decide) rfl ?_
  refine mg_aload_n C dX0_twin_16 rfl ?_
  refine mg_aload_n C dX0_twin_17 rfl ?_
  refine mg_callU_v C xh3 rfl (rest := []) (c_X4_copyTotals_F D cI cS w3 q1 h0 2 b sd (nI 0) (nI 0) tot mov (.ref q3a) (.ref ab) xh3 h_w3_h0 (Ne.symm nd_q1_h0)) yq_X4_copyTotals kw_138 kw_139 dq_copyTotals (by decide +kernel) kw_141 kw_140 ⟨by decide, by decide⟩ ⟨Nat.le_of_ble_eq_true rfl, Nat.le_of_ble_eq_true rfl⟩ (Nat.le_of_ble_eq_true rfl) rfl rfl dX0_twin_18 (fun w4 ⟨xh4, xf4⟩ => ?_)
  refine mg_widen (k := 2) (n := 518) (by decide) (by decide) ?_
  have h_w4_h0 : w4 h0 = some (.inr (0, [.int (nI 2), .int (nI b), .int (nI sd), .int tot, .int mov, .ref ab])) := (xf4 h0 nd_q1_h0).trans h_w3_h0
  have h_w4_ab : w4 ab = some (eI cI b f) := (xf4 ab nd_q1_ab).trans h_w3_ab
  have h_w4_q3a : w4 q3a = some (eI cI b (fun _ => 0)) := (xf4 q3a (Ne.symm nd_q3a_q1)).trans xkq3a
  have fr_w4 : ∀ zz : Nat, zz ≠ q1 → zz ≠ q3a → w4 zz = w zz := fun zz g0 g1 => (xf4 zz g0).trans (fr_w3 zz g0 g1)
  refine mg_aload_n C dX0_twin_21 rfl ?_
  refine mg_get C inT0 h_w4_h0 rfl 5 (by decide) kw_87 (Or.inl rfl) rfl dX0_twin_22 ?_
  refine mg_aload_n C dX0_twin_25 rfl ?_
  refine mg_get C inT0 xh4 rfl 5 (by decide) kw_87 (Or.inl rfl) rfl dX0_twin_26 ?_
  refine mg_callN_v C (rest := []) (c_X6_copyRow D cI cS w4 ab q3a b f (fun _ => 0) h_w4_ab h_w4_q3a (by omega) nd_q3a_ab) yq_X6_copyRow kn_2 kw_143 ⟨by decide, by decide⟩ ⟨Nat.le_of_ble_eq_true rfl, Nat.le_of_ble_eq_true rfl⟩ (Nat.le_of_ble_eq_true rfl) rfl rfl dX0_twin_29 (fun w5 ⟨xh5, xf5⟩ => ?_)
  refine mg_widen (k := 2) (n := 518) (by decide) (by decide) ?_
  have h_w5_h0 : w5 h0 = some (.inr (0, [.int (nI 2), .int (nI b), .int (nI sd), .int tot, .int mov, .ref ab])) := (xf5 h0 nd_q3a_h0).trans h_w4_h0
  have h_w5_ab : w5 ab = some (eI cI b f) := (xf5 ab nd_q3a_ab).trans h_w4_ab
  have h_w5_q1 : w5 q1 = some (.inr (0, [.int (nI 2), .int (nI b), .int (nI sd), .int tot, .int mov, .ref q3a])) := (xf5 q1 nd_q3a_q1).trans xh4
  have fr_w5 : ∀ zz : Nat, zz ≠ q1 → zz ≠ q3a → w5 zz = w zz := fun zz g0 g1 => (xf5 zz g1).trans (fr_w4 zz g0 g1)
  refine mg_aload_n C dX0_twin_32 rfl ?_
  exact hR (some q1) _ _ _ dX0_twin_33 ⟨q1, q3a, rfl, nz_q1, nz_q3a, nd_q3a_q1, h_w5_q1, xh5, fr_w5⟩
