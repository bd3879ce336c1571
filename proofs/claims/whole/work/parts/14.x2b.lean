set_option maxHeartbeats 4000000 in
set_option maxRecDepth 20000 in
theorem c_X2_add (D : va_G) (cI cS : ClassId) (w : mwT) (h0 ab k sd h : Nat) (tot mov : Int32) (f : Nat → Int32) (v : Int32) (hh : w h0 = some (.inr (2, [.int (nI 3), .int (nI k), .int (nI sd), .int tot, .int mov, .ref ab, .int (nI h)]))) (hab : w ab = some (eI cI k f)) (hk1 : 2 ≤ k) (hk2 : k ≤ 32) (hh2 : h ≤ k) : mMv yX2_add cX2_add 4 none (rmL 2) [.ref h0, .int v] D cI cS w (fun w1 => w1 h0 = some (.inr (2, [.int (nI 3), .int (nI k), .int (nI sd), .int tot, .int mov, .ref ab, .int (nI ((adL k v (f, h)).2))])) ∧ w1 ab = some (eI cI k (adL k v (f, h)).1) ∧ ∀ z : Nat, z ≠ h0 → z ≠ ab → w1 z = w z) := by
  refine mMv.of (by decide) (Nat.le_of_ble_eq_true rfl) ?_
  intro X C hN hR
  have fr_w : ∀ zz : Nat, w zz = w zz := fun _ => rfl
  refine mg_sub (lv' := [(0, .ref h0), (1, .int v)]) [0, 1] rfl ?_
  refine mg_iload_n C dX2_add_0 rfl ?_
  refine mg_aload_n C dX2_add_1 rfl ?_
  refine mg_get C inT2 hh rfl 5 (by decide) kw_92 (Or.inl rfl) rfl dX2_add_2 ?_
  refine mg_aload_n C dX2_add_5 rfl ?_
  refine mg_get C inT2 hh rfl 6 (by decide) kw_93 (Or.inl rfl) rfl dX2_add_6 ?_
  refine mg_callN_i C (rest := []) (c_X6_placeFor D cI cS w v ab h k f hab (by omega) (by omega)) yq_X6_placeFor kn_16 kw_271 ⟨by decide, by decide⟩ ⟨Nat.le_of_ble_eq_true rfl, Nat.le_of_ble_eq_true rfl⟩ (Nat.le_of_ble_eq_true rfl) rfl rfl dX2_add_9 (fun r1 w1 ⟨⟨p1, xe1, xa1, xb1, xc1, xd1⟩, xk1⟩ => ?_)
  rw [xk1, xe1]
  have ep : p1 = plc f v h := plc_uniq xa1 xc1 (fun q => xd1 q (by omega))
  clear xc1 xd1
  subst ep
  have hpl := plc_le f v h
  refine mg_istore_n C (lv' := [(2, .int (nI (plc f v h))), (0, .ref h0), (1, .int v)]) dX2_add_12 rfl (by decide) rfl ?_
  refine mg_iload_n C dX2_add_13 rfl ?_
  refine mg_aload_n C dX2_add_14 rfl ?_
  refine mg_get C inT2 hh rfl 5 (by decide) kw_92 (Or.inl rfl) rfl dX2_add_15 ?_
  refine mg_alen C hab dX2_add_18 ?_
  refine mg_icmpN_ge C (tgt := 38) dX2_add_19 (by decide) (by omega) (by omega) (fun c_19 => ?_) (fun c_19 => ?_)
  · have ey : adL k v (f, h) = (f, h) := adL_full (by omega)
    exact hR _ _ _ dX2_add_38 ⟨by rw [ey]; exact hh, by rw [ey]; exact hab, fun z _ _ => fr_w z⟩
  · refine mg_iload_n C dX2_add_22 rfl ?_
    refine mg_iload_n C dX2_add_23 rfl ?_
    refine mg_aload_n C dX2_add_24 rfl ?_
    refine mg_get C inT2 hh rfl 5 (by decide) kw_92 (Or.inl rfl) rfl dX2_add_25 ?_
    refine mg_aload_n C dX2_add_28 rfl ?_
    refine mg_get C inT2 hh rfl 6 (by decide) kw_93 (Or.inl rfl) rfl dX2_add_29 ?_
    refine mg_callN_i C (rest := []) (c_X6_standsAt D cI cS w (plc f v h) v ab h k f hab (by omega) (by omega) (by omega)) yq_X6_standsAt kn_17 kw_273 ⟨by decide, by decide⟩ ⟨Nat.le_of_ble_eq_true rfl, Nat.le_of_ble_eq_true rfl⟩ (Nat.le_of_ble_eq_true rfl) rfl rfl dX2_add_32 (fun r2 w2 ⟨xa2, xk2⟩ => ?_)
    rw [xk2]
    rcases xa2 with ⟨ra, sta⟩ | ⟨ra, sta⟩
    · rw [ra]
      refine mg_ifN_eq C (tgt := 39) dX2_add_35 (by decide) (by decide) (fun c_35 => absurd c_35 (by decide)) (fun c_35 => ?_)
      have ey : adL k v (f, h) = (f, h) := adL_same ⟨sta.1, sta.2.2⟩
      exact hR _ _ _ dX2_add_38 ⟨by rw [ey]; exact hh, by rw [ey]; exact hab, fun z _ _ => fr_w z⟩
    · rw [ra]
      refine mg_ifN_eq C (tgt := 39) dX2_add_35 (by decide) (by decide) (fun c_35 => ?_) (fun c_35 => absurd c_35 (by decide))
      refine mg_aload_n C dX2_add_39 rfl ?_
      refine mg_aload_n C dX2_add_40 rfl ?_
      refine mg_get C inT2 hh rfl 6 (by decide) kw_93 (Or.inl rfl) rfl dX2_add_41 ?_
      refine mg_iconst C (v := nI 1) dX2_add_44 (by decide) ?_
      refine mg_iadd C (z := nI (h + 1)) dX2_add_45 (nI_add _ _) ?_
      refine mg_aload_n C dX2_add_46 rfl ?_
      refine mg_get C inT2 hh rfl 5 (by decide) kw_92 (Or.inl rfl) rfl dX2_add_47 ?_
      refine mg_alen C hab dX2_add_50 ?_
      refine mg_mmin C (z := nI (min (h + 1) k)) dX2_add_51 kw_297 ⟨Nat.le_of_ble_eq_true rfl, Nat.le_of_ble_eq_true rfl⟩ ⟨by decide, by decide⟩ (mn_nI (by omega) (by omega)) ?_
      refine mg_put C (fs' := [.int (nI 3), .int (nI k), .int (nI sd), .int tot, .int mov, .ref ab, .int (nI (min (h + 1) k))]) inT2 hh rfl 6 (by decide) kw_93 (Or.inl rfl) tyX2_ok nmX2 rfl rfl rfl rfl (Nat.le_of_ble_eq_true rfl) dX2_add_54 (fun w3 e_w3 => ?_)
      have h_w3_h0 : w3 h0 = some (.inr (2, [.int (nI 3), .int (nI k), .int (nI sd), .int tot, .int mov, .ref ab, .int (nI (min (h + 1) k))])) := (congrFun e_w3 _).trans mwu_eq
      have h_w3_ab : w3 ab = some (eI cI k f) := (congrFun e_w3 _).trans ((mwu_ne (mw_ao hab hh)).trans hab)
      have fr_w3 : ∀ zz : Nat, zz ≠ h0 → w3 zz = w zz := fun zz g0 => (congrFun e_w3 zz).trans ((mwu_ne g0).trans (fr_w zz ))
      refine mg_aload_n C dX2_add_57 rfl ?_
      refine mg_get C inT2 h_w3_h0 rfl 6 (by decide) kw_93 (Or.inl rfl) rfl dX2_add_58 ?_
      refine mg_iconst C (v := nI 1) dX2_add_61 (by decide) ?_
      refine mg_isub C (z := nI ((min (h + 1) k) - 1)) dX2_add_62 (ni_sub (by omega)) ?_
      refine mg_istore_n C (lv' := [(3, .int (nI ((min (h + 1) k) - 1))), (2, .int (nI (plc f v h))), (0, .ref h0), (1, .int v)]) dX2_add_63 rfl (by decide) rfl ?_
      have h9 : w3 ab = some (eI cI k (shD f (min (h + 1) k) (min (h + 1) k - 1))) := by rw [h_w3_ab, shD_0 f (by omega)]
      have L64 : ∀ (M64 : Nat) (i : Nat), i < M64 → (plc f v h ≤ i) → (i < min (h + 1) k) → ∀ (w4 : mwT), w4 h0 = some (.inr (2, [.int (nI 3), .int (nI k), .int (nI sd), .int tot, .int mov, .ref ab, .int (nI (min (h + 1) k))])) → w4 ab = some (eI cI k (shD f (min (h + 1) k) i)) → (∀ zz : Nat, zz ≠ h0 → zz ≠ ab → w4 zz = w zz) → mwG X 0 0 w4 [(0, .ref h0), (1, .int v), (2, .int (nI (plc f v h))), (3, .int (nI i))] [] 64 := by
        intro M64
        induction M64 with
        | zero => intro i hm64; exact absurd hm64 (Nat.not_lt_zero _)
        | succ M64 ih64 =>
          intro i hm64 hi hi2 w4 h_w4_h0 h_w4_ab fr_w4
          refine mg_iload_n C dX2_add_64 rfl ?_
          refine mg_iload_n C dX2_add_65 rfl ?_
          refine mg_icmpN_le C (tgt := 89) dX2_add_66 (by decide) (by omega) (by omega) (fun c_66 => ?_) (fun c_66 => ?_)
          · have ei : i = plc f v h := by omega
            rw [ei] at h_w4_ab
            refine mg_aload_n C dX2_add_89 rfl ?_
            refine mg_get C inT2 h_w4_h0 rfl 5 (by decide) kw_92 (Or.inl rfl) rfl dX2_add_90 ?_
            refine mg_iload_n C dX2_add_93 rfl ?_
            refine mg_iload_n C dX2_add_94 rfl ?_
            refine mg_iastN C h_w4_ab (by omega) (by omega) dX2_add_95 (fun w5 e_w5 => ?_)
            have h_w5_h0 : w5 h0 = some (.inr (2, [.int (nI 3), .int (nI k), .int (nI sd), .int tot, .int mov, .ref ab, .int (nI (min (h + 1) k))])) := (congrFun e_w5 _).trans ((mwu_ne (mw_oa h_w4_h0 h_w4_ab)).trans h_w4_h0)
            have h_w5_ab : w5 ab = some (eI cI k (upd (shD f (min (h + 1) k) (plc f v h)) (plc f v h) v)) := (congrFun e_w5 _).trans mwu_eq
            have fr_w5 : ∀ zz : Nat, zz ≠ h0 → zz ≠ ab → w5 zz = w zz := fun zz g0 g1 => (congrFun e_w5 zz).trans ((mwu_ne g1).trans (fr_w4 zz g0 g1))
            have ey : adL k v (f, h) = (insA f (plc f v h) (min (h + 1) k) v, min (h + 1) k) := adL_yes (by omega) (fun q => sta ⟨q.1, by omega, q.2⟩)
            exact hR _ _ _ dX2_add_96 ⟨by rw [ey]; exact h_w5_h0, by rw [ey]; exact h_w5_ab.trans (congrArg (fun q => some (eI cI k q)) (shD_e f _ _ v)), fr_w5⟩
          · refine mg_aload_n C dX2_add_69 rfl ?_
            refine mg_get C inT2 h_w4_h0 rfl 5 (by decide) kw_92 (Or.inl rfl) rfl dX2_add_70 ?_
            refine mg_iload_n C dX2_add_73 rfl ?_
            refine mg_aload_n C dX2_add_74 rfl ?_
            refine mg_get C inT2 h_w4_h0 rfl 5 (by decide) kw_92 (Or.inl rfl) rfl dX2_add_75 ?_
            refine mg_iload_n C dX2_add_78 rfl ?_
            refine mg_iconst C (v := nI 1) dX2_add_79 (by decide) ?_
            refine mg_isub C (z := nI (i - 1)) dX2_add_80 (ni_sub (by omega)) ?_
            refine mg_ialdN C h_w4_ab (by omega) (by omega) dX2_add_81 ?_
            refine mg_iastN C h_w4_ab (by omega) (by omega) dX2_add_82 (fun w6 e_w6 => ?_)
            have h_w6_h0 : w6 h0 = some (.inr (2, [.int (nI 3), .int (nI k), .int (nI sd), .int tot, .int mov, .ref ab, .int (nI (min (h + 1) k))])) := (congrFun e_w6 _).trans ((mwu_ne (mw_oa h_w4_h0 h_w4_ab)).trans h_w4_h0)
            have h_w6_ab : w6 ab = some (eI cI k (upd (shD f (min (h + 1) k) i) i ((shD f (min (h + 1) k) i) (i - 1)))) := (congrFun e_w6 _).trans mwu_eq
            have fr_w6 : ∀ zz : Nat, zz ≠ h0 → zz ≠ ab → w6 zz = w zz := fun zz g0 g1 => (congrFun e_w6 zz).trans ((mwu_ne g1).trans (fr_w4 zz g0 g1))
            refine mg_iinc C (v := nI (i - 1)) (lv' := [(3, .int (nI (i - 1))), (0, .ref h0), (1, .int v), (2, .int (nI (plc f v h)))]) dX2_add_83 rfl (ni_dec (by omega)) (by decide) rfl ?_
            refine mg_goto C (tgt := 64) dX2_add_86 (by decide) ?_
            have h9 : w6 ab = some (eI cI k (shD f (min (h + 1) k) (i - 1))) := by rw [h_w6_ab]; exact congrArg (fun q => some (eI cI k q)) (shD_s f (by omega) (by omega))
            refine mg_sub (lv' := [(0, .ref h0), (1, .int v), (2, .int (nI (plc f v h))), (3, .int (nI (i - 1)))]) [1, 2, 3, 0] rfl ?_
            exact ih64 ((i - 1)) (by omega) (by omega) (by omega) w6 h_w6_h0 h9 (fun zz g0 g1 => fr_w6 zz g0 g1)
      refine mg_sub (lv' := [(0, .ref h0), (1, .int v), (2, .int (nI (plc f v h))), (3, .int (nI ((min (h + 1) k) - 1)))]) [2, 3, 1, 0] rfl ?_
      exact L64 (_ + 1) ((min (h + 1) k - 1)) (Nat.lt_succ_self _) (by omega) (by omega) w3 h_w3_h0 h9 (fun zz g0 g1 => fr_w3 zz g0)

set_option maxHeartbeats 4000000 in
set_option maxRecDepth 20000 in
theorem c_X2_take (D : va_G) (cI cS : ClassId) (w : mwT) (h0 ab k sd h : Nat) (tot mov : Int32) (f : Nat → Int32) (x : Nat) (n : Int32) (hh : w h0 = some (.inr (2, [.int (nI 3), .int (nI k), .int (nI sd), .int tot, .int mov, .ref ab, .int (nI h)]))) (hab : w ab = some (eI cI k f)) (hk1 : 2 ≤ k) (hk2 : k ≤ 32) (hh2 : h ≤ k) (hs : sd ≤ 999) (hx : x ≤ 9999) : mMv yX2_take cX2_take 3 none (rmL 3) [.ref h0, .int (nI x), .int n] D cI cS w (fun w1 => w1 h0 = some (.inr (2, [.int (nI 3), .int (nI k), .int (nI sd), .int tot, .int mov, .ref ab, .int (nI ((adL k (nI (hsN sd 0 x)) (f, h)).2))])) ∧ w1 ab = some (eI cI k (adL k (nI (hsN sd 0 x)) (f, h)).1) ∧ ∀ z : Nat, z ≠ h0 → z ≠ ab → w1 z = w z) := by
  refine mMv.of (by decide) (Nat.le_of_ble_eq_true rfl) ?_
  intro X C hN hR
  have fr_w : ∀ zz : Nat, w zz = w zz := fun _ => rfl
  refine mg_sub (lv' := [(0, .ref h0), (1, .int (nI x)), (2, .int n)]) [0, 1, 2] rfl ?_
  refine mg_aload_n C dX2_take_0 rfl ?_
  refine mg_aload_n C dX2_take_1 rfl ?_
  refine mg_get C inT2 hh rfl 2 (by decide) kw_163 (Or.inr kw_164) rfl dX2_take_2 ?_
  refine mg_iconst C (v := nI 0) dX2_take_5 (by decide) ?_
  refine mg_iload_n C dX2_take_6 rfl ?_
  refine mg_callN_i C (rest := [.ref h0]) (c_X6_hashOf D cI cS w sd 0 x hs (by omega) hx) yq_X6_hashOf kn_15 kw_265 ⟨by decide, by decide⟩ ⟨Nat.le_of_ble_eq_true rfl, Nat.le_of_ble_eq_true rfl⟩ (Nat.le_of_ble_eq_true rfl) rfl rfl dX2_take_7 (fun r1 w2 ⟨e_r1, e_w2⟩ => ?_)
  rw [e_w2, e_r1]
  refine mg_callV_v C hh rfl (rest := []) (c_X2_add D cI cS w h0 ab k sd h tot mov f (nI (hsN sd 0 x)) hh hab hk1 hk2 hh2) yq_X2_add kw_293 kw_294 kw_295 ⟨by decide, by decide⟩ ⟨Nat.le_of_ble_eq_true rfl, Nat.le_of_ble_eq_true rfl⟩ (Nat.le_of_ble_eq_true rfl) rfl rfl dX2_take_10 (fun w3 ⟨xh3, xk3, xf3⟩ => ?_)
  have fr_w3 : ∀ zz : Nat, zz ≠ h0 → zz ≠ ab → w3 zz = w zz := fun zz g0 g1 => (xf3 zz g0 g1).trans (fr_w zz )
  exact hR _ _ _ dX2_take_13 ⟨xh3, xk3, fr_w3⟩

set_option maxHeartbeats 4000000 in
set_option maxRecDepth 20000 in
theorem c_X2_join (D : va_G) (cI cS : ClassId) (w : mwT) (h0 h1 ab ab2 k sd h h2 : Nat) (tot mov tot2 mov2 : Int32) (f g : Nat → Int32) (hh : w h0 = some (.inr (2, [.int (nI 3), .int (nI k), .int (nI sd), .int tot, .int mov, .ref ab, .int (nI h)]))) (hh1 : w h1 = some (.inr (2, [.int (nI 3), .int (nI k), .int (nI sd), .int tot2, .int mov2, .ref ab2, .int (nI h2)]))) (hab : w ab = some (eI cI k f)) (hab2 : w ab2 = some (eI cI k g)) (hk1 : 2 ≤ k) (hk2 : k ≤ 32) (hh2 : h ≤ k) (hh3 : h2 ≤ k) (hne : ab ≠ ab2) (hn0 : h0 ≠ h1) : mMv yX2_join cX2_join 4 none (rmL 3) [.ref h0, .ref h1] D cI cS w (fun w1 => w1 h0 = some (.inr (2, [.int (nI 3), .int (nI k), .int (nI sd), .int tot, .int mov, .ref ab, .int (nI ((jnL k g (f, h) h2).2))])) ∧ w1 ab = some (eI cI k (jnL k g (f, h) h2).1) ∧ ∀ z : Nat, z ≠ h0 → z ≠ ab → w1 z = w z) := by
  refine mMv.of (by decide) (Nat.le_of_ble_eq_true rfl) ?_
  intro X C hN hR
  have fr_w : ∀ zz : Nat, w zz = w zz := fun _ => rfl
  refine mg_sub (lv' := [(0, .ref h0), (1, .ref h1)]) [0, 1] rfl ?_
  refine mg_aload_n C dX2_join_0 rfl ?_
  refine mg_inst C hh1 rfl kw_160 dX2_join_1 ?_
  refine mg_ifN_eq C (tgt := 47) dX2_join_4 (by decide) (by decide) (fun c_4 => absurd c_4 (by decide)) (fun c_4 => ?_)
  refine mg_aload_n C dX2_join_7 rfl ?_
  refine mg_cast C hh1 rfl kw_160 dX2_join_8 ?_
  refine mg_astore_n C (lv' := [(2, .ref h1), (0, .ref h0), (1, .ref h1)]) dX2_join_11 rfl (by decide) rfl ?_
  refine mg_iconst C (v := nI 0) dX2_join_12 (by decide) ?_
  refine mg_istore_n C (lv' := [(3, .int (nI 0)), (2, .ref h1), (0, .ref h0), (1, .ref h1)]) dX2_join_13 rfl (by decide) rfl ?_
  have L14 : ∀ (M14 : Nat) (i : Nat), h2 - i < M14 → (i ≤ h2) → ∀ (w1 : mwT), w1 h0 = some (.inr (2, [.int (nI 3), .int (nI k), .int (nI sd), .int tot, .int mov, .ref ab, .int (nI ((jnL k g (f, h) i).2))])) → w1 h1 = some (.inr (2, [.int (nI 3), .int (nI k), .int (nI sd), .int tot2, .int mov2, .ref ab2, .int (nI h2)])) → w1 ab = some (eI cI k ((jnL k g (f, h) i).1)) → w1 ab2 = some (eI cI k g) → (∀ zz : Nat, zz ≠ h0 → zz ≠ ab → w1 zz = w zz) → mwG X 0 0 w1 [(0, .ref h0), (1, .ref h1), (2, .ref h1), (3, .int (nI i))] [] 14 := by
    intro M14
    induction M14 with
    | zero => intro i hm14; exact absurd hm14 (Nat.not_lt_zero _)
    | succ M14 ih14 =>
      intro i hm14 hi w1 h_w1_h0 h_w1_h1 h_w1_ab h_w1_ab2 fr_w1
      refine mg_iload_n C dX2_join_14 rfl ?_
      refine mg_aload_n C dX2_join_15 rfl ?_
      refine mg_get C inT2 h_w1_h1 rfl 6 (by decide) kw_93 (Or.inl rfl) rfl dX2_join_16 ?_
      refine mg_icmpN_ge C (tgt := 47) dX2_join_19 (by decide) (by omega) (by omega) (fun c_19 => ?_) (fun c_19 => ?_)
      · have ei : i = h2 := by omega
        subst ei
        exact hR _ _ _ dX2_join_47 ⟨h_w1_h0, h_w1_ab, fr_w1⟩
      · refine mg_iload_n C dX2_join_22 rfl ?_
        refine mg_aload_n C dX2_join_23 rfl ?_
        refine mg_get C inT2 h_w1_h1 rfl 5 (by decide) kw_92 (Or.inl rfl) rfl dX2_join_24 ?_
        refine mg_alen C h_w1_ab2 dX2_join_27 ?_
        refine mg_icmpN_ge C (tgt := 47) dX2_join_28 (by decide) (by omega) (by omega) (fun c_28 => absurd c_28 (by omega)) (fun c_28 => ?_)
        refine mg_aload_n C dX2_join_31 rfl ?_
        refine mg_aload_n C dX2_join_32 rfl ?_
        refine mg_get C inT2 h_w1_h1 rfl 5 (by decide) kw_92 (Or.inl rfl) rfl dX2_join_33 ?_
        refine mg_iload_n C dX2_join_36 rfl ?_
        refine mg_ialdN C h_w1_ab2 (by omega) (by omega) dX2_join_37 ?_
        refine mg_callV_v C h_w1_h0 rfl (rest := []) (c_X2_add D cI cS w1 h0 ab k sd (jnL k g (f, h) i).2 tot mov (jnL k g (f, h) i).1 (g i) h_w1_h0 h_w1_ab hk1 hk2 (jnL_le hh2 i)) yq_X2_add kw_293 kw_294 kw_295 ⟨by decide, by decide⟩ ⟨Nat.le_of_ble_eq_true rfl, Nat.le_of_ble_eq_true rfl⟩ (Nat.le_of_ble_eq_true rfl) rfl rfl dX2_join_38 (fun w2 ⟨xh2, xk2, xf2⟩ => ?_)
        have h_w2_h1 : w2 h1 = some (.inr (2, [.int (nI 3), .int (nI k), .int (nI sd), .int tot2, .int mov2, .ref ab2, .int (nI h2)])) := (xf2 h1 (Ne.symm hn0) (mw_oa h_w1_h1 h_w1_ab)).trans h_w1_h1
        have h_w2_ab2 : w2 ab2 = some (eI cI k g) := (xf2 ab2 (mw_ao h_w1_ab2 h_w1_h0) (Ne.symm hne)).trans h_w1_ab2
        have fr_w2 : ∀ zz : Nat, zz ≠ h0 → zz ≠ ab → w2 zz = w zz := fun zz g0 g1 => (xf2 zz g0 g1).trans (fr_w1 zz g0 g1)
        refine mg_iinc C (v := nI (i + 1)) (lv' := [(3, .int (nI (i + 1))), (0, .ref h0), (1, .ref h1), (2, .ref h1)]) dX2_join_41 rfl (ni_inc _) (by decide) rfl ?_
        refine mg_goto C (tgt := 14) dX2_join_44 (by decide) ?_
        refine mg_sub (lv' := [(0, .ref h0), (1, .ref h1), (2, .ref h1), (3, .int (nI (i + 1)))]) [1, 2, 3, 0] rfl ?_
        exact ih14 ((i + 1)) (by omega) (by omega) w2 xh2 h_w2_h1 xk2 h_w2_ab2 (fun zz g0 g1 => fr_w2 zz g0 g1)
  refine mg_sub (lv' := [(0, .ref h0), (1, .ref h1), (2, .ref h1), (3, .int (nI 0))]) [2, 3, 1, 0] rfl ?_
  exact L14 (_ + 1) 0 (Nat.lt_succ_self _) (Nat.zero_le _) w hh hh1 hab hab2 (fun zz g0 g1 => fr_w zz )

set_option maxHeartbeats 4000000 in
set_option maxRecDepth 20000 in
theorem c_X2_holds (D : va_G) (cI cS : ClassId) (w : mwT) (h0 ab k sd h : Nat) (tot mov : Int32) (f : Nat → Int32) (x : Nat) (hh : w h0 = some (.inr (2, [.int (nI 3), .int (nI k), .int (nI sd), .int tot, .int mov, .ref ab, .int (nI h)]))) (hab : w ab = some (eI cI k f)) (hk1 : 2 ≤ k) (hk2 : k ≤ 32) (hh2 : h ≤ k) (hs : sd ≤ 999) (hx : x ≤ 9999) : mMi yX2_holds cX2_holds 3 (some .int) (rmL 2) [.ref h0, .int (nI x)] D cI cS w (fun r w1 => ((r = nI 1 ∧ stL f h (nI (hsN sd 0 x))) ∨ (r = nI 0 ∧ ¬ stL f h (nI (hsN sd 0 x)))) ∧ w1 = w) := by
  refine mMi.of (by decide) (Nat.le_of_ble_eq_true rfl) ?_
  intro X C hN hR
  refine mg_sub (lv' := [(0, .ref h0), (1, .int (nI x))]) [0, 1] rfl ?_
  refine mg_aload_n C dX2_holds_0 rfl ?_
  refine mg_get C inT2 hh rfl 2 (by decide) kw_163 (Or.inr kw_164) rfl dX2_holds_1 ?_
  refine mg_iconst C (v := nI 0) dX2_holds_4 (by decide) ?_
  refine mg_iload_n C dX2_holds_5 rfl ?_
  refine mg_callN_i C (rest := []) (c_X6_hashOf D cI cS w sd 0 x hs (by omega) hx) yq_X6_hashOf kn_15 kw_265 ⟨by decide, by decide⟩ ⟨Nat.le_of_ble_eq_true rfl, Nat.le_of_ble_eq_true rfl⟩ (Nat.le_of_ble_eq_true rfl) rfl rfl dX2_holds_6 (fun r1 w2 ⟨e_r1, e_w2⟩ => ?_)
  rw [e_w2, e_r1]
  refine mg_istore_n C (lv' := [(2, .int (nI (hsN sd 0 x))), (0, .ref h0), (1, .int (nI x))]) dX2_holds_9 rfl (by decide) rfl ?_
  refine mg_iload_n C dX2_holds_10 rfl ?_
  refine mg_aload_n C dX2_holds_11 rfl ?_
  refine mg_get C inT2 hh rfl 5 (by decide) kw_92 (Or.inl rfl) rfl dX2_holds_12 ?_
  refine mg_aload_n C dX2_holds_15 rfl ?_
  refine mg_get C inT2 hh rfl 6 (by decide) kw_93 (Or.inl rfl) rfl dX2_holds_16 ?_
  refine mg_callN_i C (rest := []) (c_X6_placeFor D cI cS w (nI (hsN sd 0 x)) ab h k f hab (by omega) (by omega)) yq_X6_placeFor kn_16 kw_271 ⟨by decide, by decide⟩ ⟨Nat.le_of_ble_eq_true rfl, Nat.le_of_ble_eq_true rfl⟩ (Nat.le_of_ble_eq_true rfl) rfl rfl dX2_holds_19 (fun r3 w3 ⟨⟨p3, xe3, xa3, xb3, xc3, xd3⟩, xk3⟩ => ?_)
  rw [xk3, xe3]
  have ep : p3 = plc f (nI (hsN sd 0 x)) h := plc_uniq xa3 xc3 (fun q => xd3 q (by omega))
  clear xc3 xd3
  subst ep
  have hpl := plc_le f (nI (hsN sd 0 x)) h
  refine mg_iload_n C dX2_holds_22 rfl ?_
  refine mg_aload_n C dX2_holds_23 rfl ?_
  refine mg_get C inT2 hh rfl 5 (by decide) kw_92 (Or.inl rfl) rfl dX2_holds_24 ?_
  refine mg_aload_n C dX2_holds_27 rfl ?_
  refine mg_get C inT2 hh rfl 6 (by decide) kw_93 (Or.inl rfl) rfl dX2_holds_28 ?_
  refine mg_callN_i C (rest := []) (c_X6_standsAt D cI cS w (plc f (nI (hsN sd 0 x)) h) (nI (hsN sd 0 x)) ab h k f hab (by omega) (by omega) (by omega)) yq_X6_standsAt kn_17 kw_273 ⟨by decide, by decide⟩ ⟨Nat.le_of_ble_eq_true rfl, Nat.le_of_ble_eq_true rfl⟩ (Nat.le_of_ble_eq_true rfl) rfl rfl dX2_holds_31 (fun r4 w4 ⟨xa4, xk4⟩ => ?_)
  rw [xk4]
  rcases xa4 with ⟨ra, sta⟩ | ⟨ra, sta⟩
  · rw [ra]
    refine mg_ifN_eq C (tgt := 41) dX2_holds_34 (by decide) (by decide) (fun c_34 => absurd c_34 (by decide)) (fun c_34 => ?_)
    refine mg_iconst C (v := nI 1) dX2_holds_37 (by decide) ?_
    refine mg_goto C (tgt := 42) dX2_holds_38 (by decide) ?_
    exact hR _ _ _ _ dX2_holds_42 ⟨Or.inl ⟨rfl, sta.1, sta.2.2⟩, rfl⟩
  · rw [ra]
    refine mg_ifN_eq C (tgt := 41) dX2_holds_34 (by decide) (by decide) (fun c_34 => ?_) (fun c_34 => absurd c_34 (by decide))
    refine mg_iconst C (v := nI 0) dX2_holds_41 (by decide) ?_
    exact hR _ _ _ _ dX2_holds_42 ⟨Or.inr ⟨rfl, fun q => sta ⟨q.1, by have := q.1; omega, q.2⟩⟩, rfl⟩

set_option maxHeartbeats 4000000 in
set_option maxRecDepth 20000 in
theorem c_X2_differentKeys (D : va_G) (cI cS : ClassId) (w : mwT) (h0 ab k sd h : Nat) (tot mov : Int32) (f : Nat → Int32) (hh : w h0 = some (.inr (2, [.int (nI 3), .int (nI k), .int (nI sd), .int tot, .int mov, .ref ab, .int (nI h)]))) (hab : w ab = some (eI cI k f)) (hk1 : 2 ≤ k) (hk2 : k ≤ 32) (hh2 : h ≤ k) : mMi yX2_differentKeys cX2_differentKeys 2 (some .int) (rmL 1) [.ref h0] D cI cS w (fun r w1 => r = dkL f h k ∧ w1 = w) := by
  refine mMi.of (by decide) (Nat.le_of_ble_eq_true rfl) ?_
  intro X C hN hR
  refine mg_sub (lv' := [(0, .ref h0)]) [0] rfl ?_
  refine mg_aload_n C dX2_differentKeys_0 rfl ?_
  refine mg_get C inT2 hh rfl 6 (by decide) kw_93 (Or.inl rfl) rfl dX2_differentKeys_1 ?_
  refine mg_aload_n C dX2_differentKeys_4 rfl ?_
  refine mg_get C inT2 hh rfl 1 (by decide) kw_161 (Or.inr kw_162) rfl dX2_differentKeys_5 ?_
  refine mg_icmpN_lt C (tgt := 31) dX2_differentKeys_8 (by decide) (by omega) (by omega) (fun c_8 => ?_) (fun c_8 => ?_)
  · refine mg_aload_n C dX2_differentKeys_31 rfl ?_
    refine mg_get C inT2 hh rfl 6 (by decide) kw_93 (Or.inl rfl) rfl dX2_differentKeys_32 ?_
    exact hR _ _ _ _ dX2_differentKeys_35 ⟨(if_pos c_8).symm, rfl⟩
  · refine mg_aload_n C dX2_differentKeys_11 rfl ?_
    refine mg_get C inT2 hh rfl 6 (by decide) kw_93 (Or.inl rfl) rfl dX2_differentKeys_12 ?_
    refine mg_iconst C (v := nI 1) dX2_differentKeys_15 (by decide) ?_
    refine mg_icmpN_lt C (tgt := 31) dX2_differentKeys_16 (by decide) (by omega) (by omega) (fun c_16 => absurd c_16 (by omega)) (fun c_16 => ?_)
    refine mg_aload_n C dX2_differentKeys_19 rfl ?_
    refine mg_get C inT2 hh rfl 6 (by decide) kw_93 (Or.inl rfl) rfl dX2_differentKeys_20 ?_
    refine mg_aload_n C dX2_differentKeys_23 rfl ?_
    refine mg_get C inT2 hh rfl 5 (by decide) kw_92 (Or.inl rfl) rfl dX2_differentKeys_24 ?_
    refine mg_alen C hab dX2_differentKeys_27 ?_
    refine mg_icmpN_le C (tgt := 36) dX2_differentKeys_28 (by decide) (by omega) (by omega) (fun c_28 => ?_) (fun c_28 => absurd c_28 (by omega))
    refine mg_aload_n C dX2_differentKeys_36 rfl ?_
    refine mg_get C inT2 hh rfl 5 (by decide) kw_92 (Or.inl rfl) rfl dX2_differentKeys_37 ?_
    refine mg_aload_n C dX2_differentKeys_40 rfl ?_
    refine mg_get C inT2 hh rfl 6 (by decide) kw_93 (Or.inl rfl) rfl dX2_differentKeys_41 ?_
    refine mg_iconst C (v := nI 1) dX2_differentKeys_44 (by decide) ?_
    refine mg_isub C (z := nI (h - 1)) dX2_differentKeys_45 (ni_sub (by omega)) ?_
    refine mg_ialdN C hab (by omega) (by omega) dX2_differentKeys_46 ?_
    refine mg_istore_n C (lv' := [(1, .int (f (h - 1))), (0, .ref h0)]) dX2_differentKeys_47 rfl (by decide) rfl ?_
    refine mg_iload_n C dX2_differentKeys_48 rfl ?_
    refine mg_iconst C (v := nI 1) dX2_differentKeys_49 (by decide) ?_
    refine mg_icmp_ge C (tgt := 60) dX2_differentKeys_50 (by decide) (fun c_50 => ?_) (fun c_50 => ?_)
    · refine mg_aload_n C dX2_differentKeys_60 rfl ?_
      refine mg_get C inT2 hh rfl 1 (by decide) kw_161 (Or.inr kw_162) rfl dX2_differentKeys_61 ?_
      refine mg_iconst C (v := nI 1) dX2_differentKeys_64 (by decide) ?_
      refine mg_isub C (z := nI (k - 1)) dX2_differentKeys_65 (ni_sub (by omega)) ?_
      refine mg_ldc C (v := nI 65537) dX2_differentKeys_66 kw_546 (by decide) ?_
      refine mg_imul C (z := nI ((k - 1) * 65537)) dX2_differentKeys_68 (pk_mul _ _) ?_
      refine mg_iload_n C dX2_differentKeys_69 rfl ?_
      refine mg_idiv C (z := nI ((k - 1) * 65537) / f (h - 1)) dX2_differentKeys_70 (fun q => absurd (q ▸ c_50 : nI 1 ≤ 0) (by decide)) rfl ?_
      exact hR _ _ _ _ dX2_differentKeys_71 ⟨((if_neg (Nat.not_lt.mpr c_8)).trans (if_pos c_50)).symm, rfl⟩
    · refine mg_aload_n C dX2_differentKeys_53 rfl ?_
      refine mg_get C inT2 hh rfl 6 (by decide) kw_93 (Or.inl rfl) rfl dX2_differentKeys_54 ?_
      refine mg_goto C (tgt := 71) dX2_differentKeys_57 (by decide) ?_
      exact hR _ _ _ _ dX2_differentKeys_71 ⟨((if_neg (Nat.not_lt.mpr c_8)).trans (if_neg c_50)).symm, rfl⟩

set_option maxHeartbeats 4000000 in
set_option maxRecDepth 20000 in
theorem c_X2_forget (D : va_G) (cI cS : ClassId) (w : mwT) (h0 ab k sd h : Nat) (tot mov : Int32) (f : Nat → Int32) (hh : w h0 = some (.inr (2, [.int (nI 3), .int (nI k), .int (nI sd), .int tot, .int mov, .ref ab, .int (nI h)]))) (hab : w ab = some (eI cI k f)) (hk1 : 2 ≤ k) (hk2 : k ≤ 32) (hh2 : h ≤ k) : mMv yX2_forget cX2_forget 1 none (rmL 1) [.ref h0] D cI cS w (fun w1 => w1 h0 = some (.inr (2, [.int (nI 3), .int (nI k), .int (nI sd), .int tot, .int mov, .ref ab, .int (nI 0)])) ∧ ∀ z : Nat, z ≠ h0 → w1 z = w z) := by
  refine mMv.of (by decide) (Nat.le_of_ble_eq_true rfl) ?_
  intro X C hN hR
  have fr_w : ∀ zz : Nat, w zz = w zz := fun _ => rfl
  refine mg_sub (lv' := [(0, .ref h0)]) [0] rfl ?_
  refine mg_aload_n C dX2_forget_0 rfl ?_
  refine mg_iconst C (v := nI 0) dX2_forget_1 (by decide) ?_
  refine mg_put C (fs' := [.int (nI 3), .int (nI k), .int (nI sd), .int tot, .int mov, .ref ab, .int (nI 0)]) inT2 hh rfl 6 (by decide) kw_93 (Or.inl rfl) tyX2_ok nmX2 rfl rfl rfl rfl (Nat.le_of_ble_eq_true rfl) dX2_forget_2 (fun w1 e_w1 => ?_)
  have h_w1_h0 : w1 h0 = some (.inr (2, [.int (nI 3), .int (nI k), .int (nI sd), .int tot, .int mov, .ref ab, .int (nI 0)])) := (congrFun e_w1 _).trans mwu_eq
  have h_w1_ab : w1 ab = some (eI cI k f) := (congrFun e_w1 _).trans ((mwu_ne (mw_ao hab hh)).trans hab)
  have fr_w1 : ∀ zz : Nat, zz ≠ h0 → w1 zz = w zz := fun zz g0 => (congrFun e_w1 zz).trans ((mwu_ne g0).trans (fr_w zz ))
  exact hR _ _ _ dX2_forget_5 ⟨h_w1_h0, fr_w1⟩

set_option maxHeartbeats 4000000 in
set_option maxRecDepth 20000 in
theorem c_X2_howManyKept (D : va_G) (cI cS : ClassId) (w : mwT) (h0 ab k sd h : Nat) (tot mov : Int32) (f : Nat → Int32) (hh : w h0 = some (.inr (2, [.int (nI 3), .int (nI k), .int (nI sd), .int tot, .int mov, .ref ab, .int (nI h)]))) (hab : w ab = some (eI cI k f)) (hk1 : 2 ≤ k) (hk2 : k ≤ 32) (hh2 : h ≤ k) : mMi yX2_howManyKept cX2_howManyKept 1 (some .int) (rmL 1) [.ref h0] D cI cS w (fun r w1 => r = nI h ∧ w1 = w) := by
  refine mMi.of (by decide) (Nat.le_of_ble_eq_true rfl) ?_
  intro X C hN hR
  refine mg_sub (lv' := [(0, .ref h0)]) [0] rfl ?_
  refine mg_aload_n C dX2_howManyKept_0 rfl ?_
  refine mg_get C inT2 hh rfl 6 (by decide) kw_93 (Or.inl rfl) rfl dX2_howManyKept_1 ?_
  exact hR _ _ _ _ dX2_howManyKept_4 ⟨rfl, rfl⟩

set_option maxHeartbeats 4000000 in
set_option maxRecDepth 20000 in
theorem c_X2_keptAt (D : va_G) (cI cS : ClassId) (w : mwT) (h0 ab k sd h : Nat) (tot mov : Int32) (f : Nat → Int32) (i pt : Int32) (hh : w h0 = some (.inr (2, [.int (nI 3), .int (nI k), .int (nI sd), .int tot, .int mov, .ref ab, .int (nI h)]))) (hab : w ab = some (eI cI k f)) (hk1 : 2 ≤ k) (hk2 : k ≤ 32) (hh2 : h ≤ k) : mMi yX2_keptAt cX2_keptAt 3 (some .int) (rmL 1) [.ref h0, .int i, .int pt] D cI cS w (fun r w1 => ((∃ a : Nat, a < h ∧ i = nI a ∧ pt = 0 ∧ r = f a) ∨ (r = -1 ∧ ¬ (ixN h i ∧ pt = 0))) ∧ w1 = w) := by
  refine mMi.of (by decide) (Nat.le_of_ble_eq_true rfl) ?_
  intro X C hN hR
  refine mg_sub (lv' := [(0, .ref h0), (1, .int i), (2, .int pt)]) [0, 1, 2] rfl ?_
  refine mg_iload_n C dX2_keptAt_0 rfl ?_
  refine mg_if_lt C (tgt := 25) dX2_keptAt_1 (by decide) (fun c_1 => ?_) (fun c_1 => ?_)
  · refine mg_iconst C (v := (-1 : Int32)) dX2_keptAt_25 (by decide) ?_
    refine mg_goto C (tgt := 35) dX2_keptAt_26 (by decide) ?_
    exact hR _ _ _ _ dX2_keptAt_35 ⟨Or.inr ⟨rfl, fun q => ix_lt (by omega) c_1 q.1⟩, rfl⟩
  · refine mg_iload_n C dX2_keptAt_4 rfl ?_
    refine mg_aload_n C dX2_keptAt_5 rfl ?_
    refine mg_get C inT2 hh rfl 6 (by decide) kw_93 (Or.inl rfl) rfl dX2_keptAt_6 ?_
    refine mg_icmp_ge C (tgt := 25) dX2_keptAt_9 (by decide) (fun c_9 => ?_) (fun c_9 => ?_)
    · refine mg_iconst C (v := (-1 : Int32)) dX2_keptAt_25 (by decide) ?_
      refine mg_goto C (tgt := 35) dX2_keptAt_26 (by decide) ?_
      exact hR _ _ _ _ dX2_keptAt_35 ⟨Or.inr ⟨rfl, fun q => ix_ge (by omega) c_9 q.1⟩, rfl⟩
    · obtain ⟨a, ha, rfl⟩ := ix_of (by omega) c_1 c_9
      refine mg_iload_n C dX2_keptAt_12 rfl ?_
      refine mg_aload_n C dX2_keptAt_13 rfl ?_
      refine mg_get C inT2 hh rfl 5 (by decide) kw_92 (Or.inl rfl) rfl dX2_keptAt_14 ?_
      refine mg_alen C hab dX2_keptAt_17 ?_
      refine mg_icmpN_ge C (tgt := 25) dX2_keptAt_18 (by decide) (by omega) (by omega) (fun c_18 => absurd c_18 (by omega)) (fun c_18 => ?_)
      refine mg_iload_n C dX2_keptAt_21 rfl ?_
      refine mg_if_eq C (tgt := 29) dX2_keptAt_22 (by decide) (fun c_22 => ?_) (fun c_22 => ?_)
      · refine mg_aload_n C dX2_keptAt_29 rfl ?_
        refine mg_get C inT2 hh rfl 5 (by decide) kw_92 (Or.inl rfl) rfl dX2_keptAt_30 ?_
        refine mg_iload_n C dX2_keptAt_33 rfl ?_
        refine mg_ialdN C hab (by omega) (by omega) dX2_keptAt_34 ?_
        exact hR _ _ _ _ dX2_keptAt_35 ⟨Or.inl ⟨a, ha, rfl, c_22, rfl⟩, rfl⟩
      · refine mg_iconst C (v := (-1 : Int32)) dX2_keptAt_25 (by decide) ?_
        refine mg_goto C (tgt := 35) dX2_keptAt_26 (by decide) ?_
        exact hR _ _ _ _ dX2_keptAt_35 ⟨Or.inr ⟨rfl, fun q => c_22 q.2⟩, rfl⟩

set_option maxHeartbeats 4000000 in
set_option maxRecDepth 20000 in
theorem c_X2_init (D : va_G) (cI cS : ClassId) (w : mwT) (h0 k sd : Nat) (hh : w h0 = some (.inr (2, [.int 0, .int 0, .int 0, .int 0, .int 0, .null, .int 0]))) (hk1 : 2 ≤ k) (hk2 : k ≤ 32) : mMv yX2_init cX2_init 3 none (rmA 2 1 32) [.ref h0, .int (nI k), .int (nI sd)] D cI cS w (fun w1 => ∃ qa : Nat, w qa = none ∧ w1 h0 = some (.inr (2, [.int (nI 3), .int (nI k), .int (nI sd), .int (nI 0), .int (nI 0), .ref qa, .int (nI 0)])) ∧ w1 qa = some (eI cI k (fun _ => 0)) ∧ ∀ z : Nat, z ≠ h0 → z ≠ qa → w1 z = w z) := by
  refine mMv.of (by decide) (Nat.le_of_ble_eq_true rfl) ?_
  intro X C hN hR
  have fr_w : ∀ zz : Nat, w zz = w zz := fun _ => rfl
  refine mg_sub (lv' := [(0, .ref h0), (1, .int (nI k)), (2, .int (nI sd))]) [0, 1, 2] rfl ?_
  refine mg_aload_n C dX2_init_0 rfl ?_
  refine mg_iconst C (v := nI 3) dX2_init_1 (by decide) ?_
  refine mg_iload_n C dX2_init_2 rfl ?_
  refine mg_iload_n C dX2_init_3 rfl ?_
  refine mg_callI_v C (rest := []) (c_X4_init_L D cI cS w h0 3 k sd hh) yq_X4_init kw_94 kw_70 rfl ⟨by decide, by decide⟩ ⟨Nat.le_of_ble_eq_true rfl, Nat.le_of_ble_eq_true rfl⟩ (Nat.le_of_ble_eq_true rfl) rfl rfl dX2_init_4 (fun w1 ⟨xh1, xf1⟩ => ?_)
  refine mg_widen (k := 0) (n := 0) (by decide) (by decide) ?_
  have fr_w1 : ∀ zz : Nat, zz ≠ h0 → w1 zz = w zz := fun zz g0 => (xf1 zz g0).trans (fr_w zz )
  refine mg_aload_n C dX2_init_7 rfl ?_
  refine mg_iload_n C dX2_init_8 rfl ?_
  refine mg_newa C kw_19 (by omega) ⟨by decide, by (show 0 + k ≤ 32; omega)⟩ dX2_init_9 (fun q2 w3 n_q2 e_w3 => ?_)
  refine mg_widen (k := 1) (n := 32) (by decide) (by omega) ?_
  have nd_q2_h0 : h0 ≠ q2 := mw_nn xh1 n_q2
  have nz_q2 : w q2 = none := (fr_w1 q2 (Ne.symm nd_q2_h0)).symm.trans n_q2
  have h_w3_h0 : w3 h0 = some (.inr (2, [.int (nI 3), .int (nI k), .int (nI sd), .int (nI 0), .int (nI 0), .null, .int 0])) := (congrFun e_w3 _).trans ((mwu_ne nd_q2_h0).trans xh1)
  have h_w3_q2 : w3 q2 = some (eI cI k (fun _ => 0)) := (congrFun e_w3 _).trans mwu_eq
  have fr_w3 : ∀ zz : Nat, zz ≠ h0 → zz ≠ q2 → w3 zz = w zz := fun zz g0 g1 => (congrFun e_w3 zz).trans ((mwu_ne g1).trans (fr_w1 zz g0))
  refine mg_putF C (fs' := [.int (nI 3), .int (nI k), .int (nI sd), .int (nI 0), .int (nI 0), .ref q2, .int 0]) inT2 h_w3_h0 rfl 5 (by decide) kw_92 (Or.inl rfl) tyX2_ok nmX2 rfl hN rfl rfl rfl rfl (Nat.le_of_ble_eq_true rfl) dX2_init_11 (fun w4 e_w4 => ?_)
  have h_w4_h0 : w4 h0 = some (.inr (2, [.int (nI 3), .int (nI k), .int (nI sd), .int (nI 0), .int (nI 0), .ref q2, .int 0])) := (congrFun e_w4 _).trans mwu_eq
  have h_w4_q2 : w4 q2 = some (eI cI k (fun _ => 0)) := (congrFun e_w4 _).trans ((mwu_ne (Ne.symm nd_q2_h0)).trans h_w3_q2)
  have fr_w4 : ∀ zz : Nat, zz ≠ h0 → zz ≠ q2 → w4 zz = w zz := fun zz g0 g1 => (congrFun e_w4 zz).trans ((mwu_ne g0).trans (fr_w3 zz g0 g1))
  refine mg_aload_n C dX2_init_14 rfl ?_
  refine mg_iconst C (v := nI 0) dX2_init_15 (by decide) ?_
  refine mg_put C (fs' := [.int (nI 3), .int (nI k), .int (nI sd), .int (nI 0), .int (nI 0), .ref q2, .int (nI 0)]) inT2 h_w4_h0 rfl 6 (by decide) kw_93 (Or.inl rfl) tyX2_ok nmX2 rfl rfl rfl rfl (Nat.le_of_ble_eq_true rfl) dX2_init_16 (fun w5 e_w5 => ?_)
  have h_w5_h0 : w5 h0 = some (.inr (2, [.int (nI 3), .int (nI k), .int (nI sd), .int (nI 0), .int (nI 0), .ref q2, .int (nI 0)])) := (congrFun e_w5 _).trans mwu_eq
  have h_w5_q2 : w5 q2 = some (eI cI k (fun _ => 0)) := (congrFun e_w5 _).trans ((mwu_ne (Ne.symm nd_q2_h0)).trans h_w4_q2)
  have fr_w5 : ∀ zz : Nat, zz ≠ h0 → zz ≠ q2 → w5 zz = w zz := fun zz g0 g1 => (congrFun e_w5 zz).trans ((mwu_ne g0).trans (fr_w4 zz g0 g1))
  exact hR _ _ _ dX2_init_19 ⟨q2, nz_q2, h_w5_h0, h_w5_q2, fr_w5⟩

set_option maxHeartbeats 4000000 in
set_option maxRecDepth 20000 in
theorem c_X2_twin (D : va_G) (cI cS : ClassId) (w : mwT) (h0 ab k sd h : Nat) (tot mov : Int32) (f : Nat → Int32) (hh : w h0 = some (.inr (2, [.int (nI 3), .int (nI k), .int (nI sd), .int tot, .int mov, .ref ab, .int (nI h)]))) (h_ab : w ab = some (eI cI k f)) (hk1 : 2 ≤ k) (hk2 : k ≤ 32) : mMq yX2_twin cX2_twin 2 (some (.object "SketchSpans$Sketch")) (rmA 3 2 39) [.ref h0] D cI cS w (fun r w1 => ∃ q qa : Nat, r = some q ∧ w q = none ∧ w qa = none ∧ q ≠ qa ∧ w1 q = some (.inr (2, [.int (nI 3), .int (nI k), .int (nI sd), .int tot, .int mov, .ref qa, .int (nI h)])) ∧ w1 qa = some (eI cI k (cpy0 f (fun _ => 0) k)) ∧ ∀ z : Nat, z ≠ q → z ≠ qa → w1 z = w z) := by
  refine mMq.of (by decide) (Nat.le_of_ble_eq_true rfl) ?_
  intro X C hN hR
  have fr_w : ∀ zz : Nat, w zz = w zz := fun _ => rfl
  refine mg_sub (lv' := [(0, .ref h0)]) [0] rfl ?_
  refine mg_new C (ci := 2) (fs := [.int 0, .int 0, .int 0, .int 0, .int 0, .null, .int 0]) inT2 tyX2_ok kw_160 kw_57 kw_58 rfl df_X2 ⟨by decide, by decide⟩ dX2_twin_0 (fun q1 w2 n_q1 e_w2 => ?_)
  refine mg_widen (k := 1) (n := 7) (by decide) (by decide) ?_
  have nd_q1_h0 : h0 ≠ q1 := mw_nn hh n_q1
  have nd_q1_ab : ab ≠ q1 := mw_nn h_ab n_q1
  have nz_q1 : w q1 = none := (fr_w q1 ).symm.trans n_q1
  have h_w2_h0 : w2 h0 = some (.inr (2, [.int (nI 3), .int (nI k), .int (nI sd), .int tot, .int mov, .ref ab, .int (nI h)])) := (congrFun e_w2 _).trans ((mwu_ne nd_q1_h0).trans hh)
  have h_w2_ab : w2 ab = some (eI cI k f) := (congrFun e_w2 _).trans ((mwu_ne nd_q1_ab).trans h_ab)
  have h_w2_q1 : w2 q1 = some (.inr (2, [.int 0, .int 0, .int 0, .int 0, .int 0, .null, .int 0])) := (congrFun e_w2 _).trans mwu_eq
  have fr_w2 : ∀ zz : Nat, zz ≠ q1 → w2 zz = w zz := fun zz g0 => (congrFun e_w2 zz).trans ((mwu_ne g0).trans (fr_w zz ))
  refine mg_dup C dX2_twin_3 rfl ?_
  refine mg_aload_n C dX2_twin_4 rfl ?_
  refine mg_get C inT2 h_w2_h0 rfl 1 (by decide) kw_161 (Or.inr kw_162) rfl dX2_twin_5 ?_
  refine mg_aload_n C dX2_twin_8 rfl ?_
  refine mg_get C inT2 h_w2_h0 rfl 2 (by decide) kw_163 (Or.inr kw_164) rfl dX2_twin_9 ?_
  refine mg_callI_v C (rest := [.ref q1]) (c_X2_init D cI cS w2 q1 k sd h_w2_q1 hk1 hk2) yq_X2_init kw_165 kw_90 rfl ⟨by decide, by decide⟩ ⟨Nat.le_of_ble_eq_true rfl, Nat.le_of_ble_eq_true rfl⟩ (Nat.le_of_ble_eq_true rfl) rfl rfl dX2_twin_12 (fun w3 ⟨q3a, n_q3a, xh3, xkq3a, xf3⟩ => ?_)
  refine mg_widen (k := 2) (n := 39) (by decide) (by decide) ?_
  have nd_q3a_h0 : h0 ≠ q3a := mw_nn h_w2_h0 n_q3a
  have nd_q3a_ab : ab ≠ q3a := mw_nn h_w2_ab n_q3a
  have nd_q3a_q1 : q1 ≠ q3a := mw_nn h_w2_q1 n_q3a
  have nz_q3a : w q3a = none := (fr_w2 q3a (Ne.symm nd_q3a_q1)).symm.trans n_q3a
  have h_w3_h0 : w3 h0 = some (.inr (2, [.int (nI 3), .int (nI k), .int (nI sd), .int tot, .int mov, .ref ab, .int (nI h)])) := (xf3 h0 nd_q1_h0 (mw_nn h_w2_h0 n_q3a)).trans h_w2_h0
  have h_w3_ab : w3 ab = some (eI cI k f) := (xf3 ab nd_q1_ab (mw_nn h_w2_ab n_q3a)).trans h_w2_ab
  have fr_w3 : ∀ zz : Nat, zz ≠ q1 → zz ≠ q3a → w3 zz = w zz := fun zz g0 g1 => (xf3 zz g0 g1).trans (fr_w2 zz g0)
  refine mg_astore_n C (lv' := [(1, .ref q1), (0, .ref h0)]) dX2_twin_15 rfl (by decide) rfl ?_
  refine mg_aload_n C dX2_twin_16 rfl ?_
  refine mg_aload_n C dX2_twin_17 rfl ?_
  refine mg_callU_v C xh3 rfl (rest := []) (c_X4_copyTotals_L D cI cS w3 q1 h0 3 k sd (nI 0) (nI 0) tot mov (.ref q3a) (.ref ab) (.int (nI 0)) (.int (nI h)) xh3 h_w3_h0 (Ne.symm nd_q1_h0)) yq_X4_copyTotals kw_166 kw_167 dq_copyTotals (by decide +kernel) kw_141 kw_168 ⟨by decide, by decide⟩ ⟨Nat.le_of_ble_eq_true rfl, Nat.le_of_ble_eq_true rfl⟩ (Nat.le_of_ble_eq_true rfl) rfl rfl dX2_twin_18 (fun w4 ⟨xh4, xf4⟩ => ?_)
  refine mg_widen (k := 2) (n := 39) (by decide) (by decide) ?_
  have h_w4_h0 : w4 h0 = some (.inr (2, [.int (nI 3), .int (nI k), .int (nI sd), .int tot, .int mov, .ref ab, .int (nI h)])) := (xf4 h0 nd_q1_h0).trans h_w3_h0
  have h_w4_ab : w4 ab = some (eI cI k f) := (xf4 ab nd_q1_ab).trans h_w3_ab
  have h_w4_q3a : w4 q3a = some (eI cI k (fun _ => 0)) := (xf4 q3a (Ne.symm nd_q3a_q1)).trans xkq3a
  have fr_w4 : ∀ zz : Nat, zz ≠ q1 → zz ≠ q3a → w4 zz = w zz := fun zz g0 g1 => (xf4 zz g0).trans (fr_w3 zz g0 g1)
  refine mg_aload_n C dX2_twin_21 rfl ?_
  refine mg_get C inT2 h_w4_h0 rfl 5 (by decide) kw_92 (Or.inl rfl) rfl dX2_twin_22 ?_
  refine mg_aload_n C dX2_twin_25 rfl ?_
  refine mg_get C inT2 xh4 rfl 5 (by decide) kw_92 (Or.inl rfl) rfl dX2_twin_26 ?_
  refine mg_callN_v C (rest := []) (c_X6_copyRow D cI cS w4 ab q3a k f (fun _ => 0) h_w4_ab h_w4_q3a (by omega) nd_q3a_ab) yq_X6_copyRow kn_4 kw_143 ⟨by decide, by decide⟩ ⟨Nat.le_of_ble_eq_true rfl, Nat.le_of_ble_eq_true rfl⟩ (Nat.le_of_ble_eq_true rfl) rfl rfl dX2_twin_29 (fun w5 ⟨xh5, xf5⟩ => ?_)
  refine mg_widen (k := 2) (n := 39) (by decide) (by decide) ?_
  have h_w5_h0 : w5 h0 = some (.inr (2, [.int (nI 3), .int (nI k), .int (nI sd), .int tot, .int mov, .ref ab, .int (nI h)])) := (xf5 h0 nd_q3a_h0).trans h_w4_h0
  have h_w5_ab : w5 ab = some (eI cI k f) := (xf5 ab nd_q3a_ab).trans h_w4_ab
  have h_w5_q1 : w5 q1 = some (.inr (2, [.int (nI 3), .int (nI k), .int (nI sd), .int tot, .int mov, .ref q3a, .int (nI 0)])) := (xf5 q1 nd_q3a_q1).trans xh4
  have fr_w5 : ∀ zz : Nat, zz ≠ q1 → zz ≠ q3a → w5 zz = w zz := fun zz g0 g1 => (xf5 zz g1).trans (fr_w4 zz g0 g1)
  refine mg_aload_n C dX2_twin_32 rfl ?_
  refine mg_aload_n C dX2_twin_33 rfl ?_
  refine mg_get C inT2 h_w5_h0 rfl 6 (by decide) kw_93 (Or.inl rfl) rfl dX2_twin_34 ?_
  refine mg_put C (fs' := [.int (nI 3), .int (nI k), .int (nI sd), .int tot, .int mov, .ref q3a, .int (nI h)]) inT2 h_w5_q1 rfl 6 (by decide) kw_93 (Or.inl rfl) tyX2_ok nmX2 rfl rfl rfl rfl (Nat.le_of_ble_eq_true rfl) dX2_twin_37 (fun w6 e_w6 => ?_)
  have h_w6_h0 : w6 h0 = some (.inr (2, [.int (nI 3), .int (nI k), .int (nI sd), .int tot, .int mov, .ref ab, .int (nI h)])) := (congrFun e_w6 _).trans ((mwu_ne nd_q1_h0).trans h_w5_h0)
  have h_w6_ab : w6 ab = some (eI cI k f) := (congrFun e_w6 _).trans ((mwu_ne nd_q1_ab).trans h_w5_ab)
  have h_w6_q1 : w6 q1 = some (.inr (2, [.int (nI 3), .int (nI k), .int (nI sd), .int tot, .int mov, .ref q3a, .int (nI h)])) := (congrFun e_w6 _).trans mwu_eq
  have h_w6_q3a : w6 q3a = some (eI cI k (cpy0 f (fun _ => 0) k)) := (congrFun e_w6 _).trans ((mwu_ne (Ne.symm nd_q3a_q1)).trans xh5)
  have fr_w6 : ∀ zz : Nat, zz ≠ q1 → zz ≠ q3a → w6 zz = w zz := fun zz g0 g1 => (congrFun e_w6 zz).trans ((mwu_ne g0).trans (fr_w5 zz g0 g1))
  refine mg_aload_n C dX2_twin_40 rfl ?_
  exact hR (some q1) _ _ _ dX2_twin_41 ⟨q1, q3a, rfl, nz_q1, nz_q3a, nd_q3a_q1, h_w6_q1, h_w6_q3a, fr_w6⟩
