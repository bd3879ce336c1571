def P_push (d : Nat) : Prop := ∀ (D : va_G) (cI cS : ClassId) (w : mwT) (h0 ak al aw k sd : Nat) (tot mov er : Int32) (f : Nat → Int32) (ln tr : Nat → Nat) (b : Nat) (x : Int32), w h0 = some (.inr (3, [.int (nI 4), .int (nI k), .int (nI sd), .int tot, .int mov, .ref ak, .ref al, .ref aw, .int er])) → w ak = some (eI cI (31 * k) f) → w al = some (eI cI 31 (lnF ln)) → w aw = some (eI cI 31 (lnF tr)) → 4 ≤ k → k ≤ 32 → ak ≠ al → ak ≠ aw → al ≠ aw → rkOk k (f, ln, tr, er) → b + d = 31 → mMv yX3_push cX3_push 3 none (rmL (3 * d + 3)) [.ref h0, .int (nI b), .int x] D cI cS w (fun w1 => w1 h0 = some (.inr (3, [.int (nI 4), .int (nI k), .int (nI sd), .int tot, .int mov, .ref ak, .ref al, .ref aw, .int ((psh k d b x (f, ln, tr, er)).2.2.2)])) ∧ w1 ak = some (eI cI (31 * k) (psh k d b x (f, ln, tr, er)).1) ∧ w1 al = some (eI cI 31 (lnF (psh k d b x (f, ln, tr, er)).2.1)) ∧ w1 aw = some (eI cI 31 (lnF (psh k d b x (f, ln, tr, er)).2.2.1)) ∧ ∀ z : Nat, z ≠ h0 → z ≠ ak → z ≠ al → z ≠ aw → w1 z = w z)

def P_col (d : Nat) : Prop := ∀ (D : va_G) (cI cS : ClassId) (w : mwT) (h0 ak al aw k sd : Nat) (tot mov er : Int32) (f : Nat → Int32) (ln tr : Nat → Nat) (b : Nat), w h0 = some (.inr (3, [.int (nI 4), .int (nI k), .int (nI sd), .int tot, .int mov, .ref ak, .ref al, .ref aw, .int er])) → w ak = some (eI cI (31 * k) f) → w al = some (eI cI 31 (lnF ln)) → w aw = some (eI cI 31 (lnF tr)) → 4 ≤ k → k ≤ 32 → ak ≠ al → ak ≠ aw → al ≠ aw → rkOk k (f, ln, tr, er) → b + d + 1 = 31 → mMv yX3_collapse cX3_collapse 4 none (rmL (3 * d + 4)) [.ref h0, .int (nI b)] D cI cS w (fun w1 => w1 h0 = some (.inr (3, [.int (nI 4), .int (nI k), .int (nI sd), .int tot, .int mov, .ref ak, .ref al, .ref aw, .int ((colP k b (psh k d (b + 1)) (f, ln, tr, er)).2.2.2)])) ∧ w1 ak = some (eI cI (31 * k) (colP k b (psh k d (b + 1)) (f, ln, tr, er)).1) ∧ w1 al = some (eI cI 31 (lnF (colP k b (psh k d (b + 1)) (f, ln, tr, er)).2.1)) ∧ w1 aw = some (eI cI 31 (lnF (colP k b (psh k d (b + 1)) (f, ln, tr, er)).2.2.1)) ∧ ∀ z : Nat, z ≠ h0 → z ≠ ak → z ≠ al → z ≠ aw → w1 z = w z)

set_option maxHeartbeats 4000000 in
set_option maxRecDepth 20000 in
theorem c_X3_push_0 (D : va_G) (cI cS : ClassId) (w : mwT) (h0 ak al aw k sd : Nat) (tot mov er : Int32) (f : Nat → Int32) (ln tr : Nat → Nat) (b : Nat) (x : Int32) (hh : w h0 = some (.inr (3, [.int (nI 4), .int (nI k), .int (nI sd), .int tot, .int mov, .ref ak, .ref al, .ref aw, .int er]))) (hak : w ak = some (eI cI (31 * k) f)) (hal : w al = some (eI cI 31 (lnF ln))) (haw : w aw = some (eI cI 31 (lnF tr))) (hk1 : 4 ≤ k) (hk2 : k ≤ 32) (hd1 : ak ≠ al) (hd2 : ak ≠ aw) (hd3 : al ≠ aw) (hok : rkOk k (f, ln, tr, er)) (hbd : b + 0 = 31) : mMv yX3_push cX3_push 3 none (rmL (3 * 0 + 3)) [.ref h0, .int (nI b), .int x] D cI cS w (fun w1 => w1 h0 = some (.inr (3, [.int (nI 4), .int (nI k), .int (nI sd), .int tot, .int mov, .ref ak, .ref al, .ref aw, .int ((psh k 0 b x (f, ln, tr, er)).2.2.2)])) ∧ w1 ak = some (eI cI (31 * k) (psh k 0 b x (f, ln, tr, er)).1) ∧ w1 al = some (eI cI 31 (lnF (psh k 0 b x (f, ln, tr, er)).2.1)) ∧ w1 aw = some (eI cI 31 (lnF (psh k 0 b x (f, ln, tr, er)).2.2.1)) ∧ ∀ z : Nat, z ≠ h0 → z ≠ ak → z ≠ al → z ≠ aw → w1 z = w z) := by
  refine mMv.of (by decide) (Nat.le_of_ble_eq_true rfl) ?_
  intro X C hN hR
  have fr_w : ∀ zz : Nat, w zz = w zz := fun _ => rfl
  refine mg_sub (lv' := [(0, .ref h0), (1, .int (nI b)), (2, .int x)]) [0, 1, 2] rfl ?_
  refine mg_iload_n C dX3_push_0 rfl ?_
  refine mg_ifN_lt C (tgt := 23) dX3_push_1 (by decide) (by omega) ?_
  refine mg_iload_n C dX3_push_4 rfl ?_
  refine mg_bipush C (v := nI 31) dX3_push_5 (by decide) ?_
  refine mg_icmpN_ge C (tgt := 23) dX3_push_7 (by decide) (by omega) (by omega) (fun c_7 => ?_) (fun c_7 => absurd c_7 (by omega))
  exact hR _ _ _ dX3_push_23 ⟨hh, hak, hal, haw, fun z _ _ _ _ => rfl⟩

set_option maxHeartbeats 4000000 in
set_option maxRecDepth 20000 in
theorem c_X3_push_s (d : Nat) (hcol : P_col d) (D : va_G) (cI cS : ClassId) (w : mwT) (h0 ak al aw k sd : Nat) (tot mov er : Int32) (f : Nat → Int32) (ln tr : Nat → Nat) (b : Nat) (x : Int32) (hh : w h0 = some (.inr (3, [.int (nI 4), .int (nI k), .int (nI sd), .int tot, .int mov, .ref ak, .ref al, .ref aw, .int er]))) (hak : w ak = some (eI cI (31 * k) f)) (hal : w al = some (eI cI 31 (lnF ln))) (haw : w aw = some (eI cI 31 (lnF tr))) (hk1 : 4 ≤ k) (hk2 : k ≤ 32) (hd1 : ak ≠ al) (hd2 : ak ≠ aw) (hd3 : al ≠ aw) (hok : rkOk k (f, ln, tr, er)) (hbd : b + (d + 1) = 31) : mMv yX3_push cX3_push 3 none (rmL (3 * (d + 1) + 3)) [.ref h0, .int (nI b), .int x] D cI cS w (fun w1 => w1 h0 = some (.inr (3, [.int (nI 4), .int (nI k), .int (nI sd), .int tot, .int mov, .ref ak, .ref al, .ref aw, .int ((psh k (d + 1) b x (f, ln, tr, er)).2.2.2)])) ∧ w1 ak = some (eI cI (31 * k) (psh k (d + 1) b x (f, ln, tr, er)).1) ∧ w1 al = some (eI cI 31 (lnF (psh k (d + 1) b x (f, ln, tr, er)).2.1)) ∧ w1 aw = some (eI cI 31 (lnF (psh k (d + 1) b x (f, ln, tr, er)).2.2.1)) ∧ ∀ z : Nat, z ≠ h0 → z ≠ ak → z ≠ al → z ≠ aw → w1 z = w z) := by
  refine mMv.of (by decide) (Nat.le_of_ble_eq_true rfl) ?_
  intro X C hN hR
  have fr_w : ∀ zz : Nat, w zz = w zz := fun _ => rfl
  refine mg_sub (lv' := [(0, .ref h0), (1, .int (nI b)), (2, .int x)]) [0, 1, 2] rfl ?_
  have hbk := bk_le (k := k) (show b < 31 by omega)
  have hlb : ln b ≤ k := hok.2 b
  refine mg_iload_n C dX3_push_0 rfl ?_
  refine mg_ifN_lt C (tgt := 23) dX3_push_1 (by decide) (by omega) ?_
  refine mg_iload_n C dX3_push_4 rfl ?_
  refine mg_bipush C (v := nI 31) dX3_push_5 (by decide) ?_
  refine mg_icmpN_ge C (tgt := 23) dX3_push_7 (by decide) (by omega) (by omega) (fun c_7 => absurd c_7 (by omega)) (fun c_7 => ?_)
  refine mg_aload_n C dX3_push_10 rfl ?_
  refine mg_get C inT3 hh rfl 6 (by decide) kw_99 (Or.inl rfl) rfl dX3_push_11 ?_
  refine mg_iload_n C dX3_push_14 rfl ?_
  refine mg_ialdN C hal (by omega) (by omega) dX3_push_15 ?_
  refine mg_aload_n C dX3_push_16 rfl ?_
  refine mg_get C inT3 hh rfl 1 (by decide) kw_173 (Or.inr kw_174) rfl dX3_push_17 ?_
  refine mg_icmpN_lt C (tgt := 24) dX3_push_20 (by decide) (by omega) (by omega) (fun c_20 => ?_) (fun c_20 => ?_)
  · refine mg_aload_n C dX3_push_24 rfl ?_
    refine mg_get C inT3 hh rfl 5 (by decide) kw_98 (Or.inl rfl) rfl dX3_push_25 ?_
    refine mg_iload_n C dX3_push_28 rfl ?_
    refine mg_aload_n C dX3_push_29 rfl ?_
    refine mg_get C inT3 hh rfl 1 (by decide) kw_173 (Or.inr kw_174) rfl dX3_push_30 ?_
    refine mg_imul C (z := nI (b * k)) dX3_push_33 (pk_mul _ _) ?_
    refine mg_aload_n C dX3_push_34 rfl ?_
    refine mg_get C inT3 hh rfl 6 (by decide) kw_99 (Or.inl rfl) rfl dX3_push_35 ?_
    refine mg_iload_n C dX3_push_38 rfl ?_
    refine mg_ialdN C hal (by omega) (by omega) dX3_push_39 ?_
    refine mg_iadd C (z := nI ((b * k) + (ln b))) dX3_push_40 (nI_add _ _) ?_
    refine mg_iload_n C dX3_push_41 rfl ?_
    refine mg_iastN C hak (by omega) (by omega) dX3_push_42 (fun w1 e_w1 => ?_)
    have h_w1_h0 : w1 h0 = some (.inr (3, [.int (nI 4), .int (nI k), .int (nI sd), .int tot, .int mov, .ref ak, .ref al, .ref aw, .int er])) := (congrFun e_w1 _).trans ((mwu_ne (mw_oa hh hak)).trans hh)
    have h_w1_ak : w1 ak = some (eI cI (31 * k) (upd f ((b * k) + (ln b)) x)) := (congrFun e_w1 _).trans mwu_eq
    have h_w1_al : w1 al = some (eI cI 31 (lnF ln)) := (congrFun e_w1 _).trans ((mwu_ne (Ne.symm hd1)).trans hal)
    have h_w1_aw : w1 aw = some (eI cI 31 (lnF tr)) := (congrFun e_w1 _).trans ((mwu_ne (Ne.symm hd2)).trans haw)
    have fr_w1 : ∀ zz : Nat, zz ≠ ak → w1 zz = w zz := fun zz g0 => (congrFun e_w1 zz).trans ((mwu_ne g0).trans (fr_w zz ))
    refine mg_aload_n C dX3_push_43 rfl ?_
    refine mg_get C inT3 h_w1_h0 rfl 6 (by decide) kw_99 (Or.inl rfl) rfl dX3_push_44 ?_
    refine mg_iload_n C dX3_push_47 rfl ?_
    refine mg_dup2 C dX3_push_48 rfl rfl ?_
    refine mg_ialdN C h_w1_al (by omega) (by omega) dX3_push_49 ?_
    refine mg_iconst C (v := nI 1) dX3_push_50 (by decide) ?_
    refine mg_iadd C (z := nI (ln b + 1)) dX3_push_51 (nI_add _ _) ?_
    refine mg_iastN C h_w1_al (by omega) (by omega) dX3_push_52 (fun w2 e_w2 => ?_)
    rw [upd_lnF] at e_w2
    have h_w2_h0 : w2 h0 = some (.inr (3, [.int (nI 4), .int (nI k), .int (nI sd), .int tot, .int mov, .ref ak, .ref al, .ref aw, .int er])) := (congrFun e_w2 _).trans ((mwu_ne (mw_oa h_w1_h0 h_w1_al)).trans h_w1_h0)
    have h_w2_ak : w2 ak = some (eI cI (31 * k) (upd f ((b * k) + (ln b)) x)) := (congrFun e_w2 _).trans ((mwu_ne hd1).trans h_w1_ak)
    have h_w2_al : w2 al = some (eI cI 31 (lnF (updN ln b (ln b + 1)))) := (congrFun e_w2 _).trans mwu_eq
    have h_w2_aw : w2 aw = some (eI cI 31 (lnF tr)) := (congrFun e_w2 _).trans ((mwu_ne (Ne.symm hd3)).trans h_w1_aw)
    have fr_w2 : ∀ zz : Nat, zz ≠ ak → zz ≠ al → w2 zz = w zz := fun zz g0 g1 => (congrFun e_w2 zz).trans ((mwu_ne g1).trans (fr_w1 zz g0))
    refine mg_aload_n C dX3_push_53 rfl ?_
    refine mg_get C inT3 h_w2_h0 rfl 6 (by decide) kw_99 (Or.inl rfl) rfl dX3_push_54 ?_
    refine mg_iload_n C dX3_push_57 rfl ?_
    refine mg_ialdN C h_w2_al (by omega) (by omega) dX3_push_58 ?_
    rw [show lnF (updN ln b (ln b + 1)) b = nI (ln b + 1) from congrArg nI (updN_eq _ _ _)]
    refine mg_aload_n C dX3_push_59 rfl ?_
    refine mg_get C inT3 h_w2_h0 rfl 1 (by decide) kw_173 (Or.inr kw_174) rfl dX3_push_60 ?_
    refine mg_icmpN_lt C (tgt := 71) dX3_push_63 (by decide) (by omega) (by omega) (fun c_63 => ?_) (fun c_63 => ?_)
    · have et : psh k (d + 1) b x (f, ln, tr, er) = (upd f (b * k + ln b) x, updN ln b (ln b + 1), tr, er) := (if_neg (Nat.not_le.mpr c_20)).trans (if_pos c_63)
      exact hR _ _ _ dX3_push_71 ⟨by rw [et]; exact h_w2_h0, by rw [et]; exact h_w2_ak, by rw [et]; exact h_w2_al, by rw [et]; exact h_w2_aw, fun z q0 q1 q2 q3 => fr_w2 z q1 q2⟩
    · refine mg_aload_n C dX3_push_66 rfl ?_
      refine mg_iload_n C dX3_push_67 rfl ?_
      refine mg_callV_v C h_w2_h0 rfl (rest := []) (hcol D cI cS w2 h0 ak al aw k sd tot mov er (upd f (b * k + ln b) x) (updN ln b (ln b + 1)) tr b h_w2_h0 h_w2_ak h_w2_al h_w2_aw hk1 hk2 hd1 hd2 hd3 ⟨hok.1, updN_le (by omega) hok.2⟩ (by omega)) yq_X3_collapse kw_305 kw_306 kw_307 ⟨by (dsimp only; omega), by (dsimp only; omega)⟩ ⟨Nat.le_of_ble_eq_true rfl, Nat.le_of_ble_eq_true rfl⟩ (Nat.le_of_ble_eq_true rfl) rfl rfl dX3_push_68 (fun w3 ⟨xh3, xk3, xl3, xw3, xf3⟩ => ?_)
      have fr_w3 : ∀ zz : Nat, zz ≠ ak → zz ≠ al → zz ≠ h0 → zz ≠ aw → w3 zz = w zz := fun zz g0 g1 g2 g3 => (xf3 zz g2 g0 g1 g3).trans (fr_w2 zz g0 g1)
      have et : psh k (d + 1) b x (f, ln, tr, er) = (colP k b (psh k d (b + 1)) (upd f (b * k + ln b) x, updN ln b (ln b + 1), tr, er)) := (if_neg (Nat.not_le.mpr c_20)).trans (if_neg (Nat.not_lt.mpr c_63))
      exact hR _ _ _ dX3_push_71 ⟨by rw [et]; exact xh3, by rw [et]; exact xk3, by rw [et]; exact xl3, by rw [et]; exact xw3, fun z q0 q1 q2 q3 => fr_w3 z q1 q2 q0 q3⟩
  · have et : psh k (d + 1) b x (f, ln, tr, er) = (f, ln, tr, er) := if_pos c_20
    exact hR _ _ _ dX3_push_23 ⟨by rw [et]; exact hh, by rw [et]; exact hak, by rw [et]; exact hal, by rw [et]; exact haw, fun z q0 q1 q2 q3 => fr_w z ⟩

set_option maxHeartbeats 4000000 in
set_option maxRecDepth 20000 in
theorem c_X3_col_raw (d : Nat) (hpush : P_push d) (D : va_G) (cI cS : ClassId) (w : mwT) (h0 ak al aw k sd : Nat) (tot mov er : Int32) (f : Nat → Int32) (ln tr : Nat → Nat) (b : Nat) (hh : w h0 = some (.inr (3, [.int (nI 4), .int (nI k), .int (nI sd), .int tot, .int mov, .ref ak, .ref al, .ref aw, .int er]))) (hak : w ak = some (eI cI (31 * k) f)) (hal : w al = some (eI cI 31 (lnF ln))) (haw : w aw = some (eI cI 31 (lnF tr))) (hk1 : 4 ≤ k) (hk2 : k ≤ 32) (hd1 : ak ≠ al) (hd2 : ak ≠ aw) (hd3 : al ≠ aw) (hok : rkOk k (f, ln, tr, er)) (hbd : b + d + 1 = 31) : mMv yX3_collapse cX3_collapse 4 none (rmL (3 * d + 4)) [.ref h0, .int (nI b)] D cI cS w (fun w1 => w1 h0 = some (.inr (3, [.int (nI 4), .int (nI k), .int (nI sd), .int tot, .int mov, .ref ak, .ref al, .ref aw, .int ((colP k b (psh k d (b + 1)) (f, ln, tr, er)).2.2.2)])) ∧ w1 ak = some (eI cI (31 * k) (colP k b (psh k d (b + 1)) (f, ln, tr, er)).1) ∧ w1 al = some (eI cI 31 (lnF (colP k b (psh k d (b + 1)) (f, ln, tr, er)).2.1)) ∧ w1 aw = some (eI cI 31 (lnF (colP k b (psh k d (b + 1)) (f, ln, tr, er)).2.2.1)) ∧ ∀ z : Nat, z ≠ h0 → z ≠ ak → z ≠ al → z ≠ aw → w1 z = w z) := by
  refine mMv.of (by decide) (Nat.le_of_ble_eq_true rfl) ?_
  intro X C hN hR
  have fr_w : ∀ zz : Nat, w zz = w zz := fun _ => rfl
  refine mg_sub (lv' := [(0, .ref h0), (1, .int (nI b))]) [0, 1] rfl ?_
  have hbk := bk_le (k := k) (show b < 31 by omega)
  refine mg_aload_n C dX3_collapse_0 rfl ?_
  refine mg_iload_n C dX3_collapse_1 rfl ?_
  refine mg_callV_v C hh rfl (rest := []) (c_X3_sortBuffer D cI cS w h0 ak al aw k sd tot mov er f ln tr b hh hak hal haw hk1 hk2 (by omega) hd1 hd2 hd3) yq_X3_sortBuffer kw_309 kw_310 kw_311 ⟨by (dsimp only; omega), by (dsimp only; omega)⟩ ⟨Nat.le_of_ble_eq_true rfl, Nat.le_of_ble_eq_true rfl⟩ (Nat.le_of_ble_eq_true rfl) rfl rfl dX3_collapse_2 (fun w1 ⟨xk1, xf1⟩ => ?_)
  have h_w1_h0 : w1 h0 = some (.inr (3, [.int (nI 4), .int (nI k), .int (nI sd), .int tot, .int mov, .ref ak, .ref al, .ref aw, .int er])) := (xf1 h0 (mw_oa hh hak)).trans hh
  have h_w1_al : w1 al = some (eI cI 31 (lnF ln)) := (xf1 al (Ne.symm hd1)).trans hal
  have h_w1_aw : w1 aw = some (eI cI 31 (lnF tr)) := (xf1 aw (Ne.symm hd2)).trans haw
  have fr_w1 : ∀ zz : Nat, zz ≠ ak → w1 zz = w zz := fun zz g0 => (xf1 zz g0).trans (fr_w zz )
  refine mg_aload_n C dX3_collapse_5 rfl ?_
  refine mg_get C inT3 h_w1_h0 rfl 7 (by decide) kw_100 (Or.inl rfl) rfl dX3_collapse_6 ?_
  refine mg_iload_n C dX3_collapse_9 rfl ?_
  refine mg_ialdN C h_w1_aw (by omega) (by omega) dX3_collapse_10 ?_
  refine mg_istore_n C (lv' := [(2, .int (nI (tr b))), (0, .ref h0), (1, .int (nI b))]) dX3_collapse_11 rfl (by decide) rfl ?_
  have htb : tr b ≤ 1 := hok.1 b
  refine mg_aload_n C dX3_collapse_12 rfl ?_
  refine mg_get C inT3 h_w1_h0 rfl 7 (by decide) kw_100 (Or.inl rfl) rfl dX3_collapse_13 ?_
  refine mg_iload_n C dX3_collapse_16 rfl ?_
  refine mg_iconst C (v := nI 1) dX3_collapse_17 (by decide) ?_
  refine mg_iload_n C dX3_collapse_18 rfl ?_
  refine mg_isub C (z := nI (1 - (tr b))) dX3_collapse_19 (ni_sub (by omega)) ?_
  refine mg_iastN C h_w1_aw (by omega) (by omega) dX3_collapse_20 (fun w2 e_w2 => ?_)
  rw [upd_lnF] at e_w2
  have h_w2_h0 : w2 h0 = some (.inr (3, [.int (nI 4), .int (nI k), .int (nI sd), .int tot, .int mov, .ref ak, .ref al, .ref aw, .int er])) := (congrFun e_w2 _).trans ((mwu_ne (mw_oa h_w1_h0 h_w1_aw)).trans h_w1_h0)
  have h_w2_ak : w2 ak = some (eI cI (31 * k) (srtO f (b * k) (k - 1))) := (congrFun e_w2 _).trans ((mwu_ne hd2).trans xk1)
  have h_w2_al : w2 al = some (eI cI 31 (lnF ln)) := (congrFun e_w2 _).trans ((mwu_ne hd3).trans h_w1_al)
  have h_w2_aw : w2 aw = some (eI cI 31 (lnF (updN tr b (1 - (tr b))))) := (congrFun e_w2 _).trans mwu_eq
  have fr_w2 : ∀ zz : Nat, zz ≠ ak → zz ≠ aw → w2 zz = w zz := fun zz g0 g1 => (congrFun e_w2 zz).trans ((mwu_ne g1).trans (fr_w1 zz g0))
  refine mg_aload_n C dX3_collapse_21 rfl ?_
  refine mg_dup C dX3_collapse_22 rfl ?_
  refine mg_get C inT3 h_w2_h0 rfl 8 (by decide) kw_101 (Or.inl rfl) rfl dX3_collapse_23 ?_
  refine mg_iconst C (v := nI 1) dX3_collapse_26 (by decide) ?_
  refine mg_iload_n C dX3_collapse_27 rfl ?_
  refine mg_ishl C (z := sh1 b) dX3_collapse_28 rfl ?_
  refine mg_iadd C (z := er + (sh1 b)) dX3_collapse_29 rfl ?_
  refine mg_put C (fs' := [.int (nI 4), .int (nI k), .int (nI sd), .int tot, .int mov, .ref ak, .ref al, .ref aw, .int (er + (sh1 b))]) inT3 h_w2_h0 rfl 8 (by decide) kw_101 (Or.inl rfl) tyX3_ok nmX3 rfl rfl rfl rfl (Nat.le_of_ble_eq_true rfl) dX3_collapse_30 (fun w3 e_w3 => ?_)
  have h_w3_h0 : w3 h0 = some (.inr (3, [.int (nI 4), .int (nI k), .int (nI sd), .int tot, .int mov, .ref ak, .ref al, .ref aw, .int (er + (sh1 b))])) := (congrFun e_w3 _).trans mwu_eq
  have h_w3_ak : w3 ak = some (eI cI (31 * k) (srtO f (b * k) (k - 1))) := (congrFun e_w3 _).trans ((mwu_ne (mw_ao h_w2_ak h_w2_h0)).trans h_w2_ak)
  have h_w3_al : w3 al = some (eI cI 31 (lnF ln)) := (congrFun e_w3 _).trans ((mwu_ne (mw_ao h_w2_al h_w2_h0)).trans h_w2_al)
  have h_w3_aw : w3 aw = some (eI cI 31 (lnF (updN tr b (1 - (tr b))))) := (congrFun e_w3 _).trans ((mwu_ne (mw_ao h_w2_aw h_w2_h0)).trans h_w2_aw)
  have fr_w3 : ∀ zz : Nat, zz ≠ ak → zz ≠ aw → zz ≠ h0 → w3 zz = w zz := fun zz g0 g1 g2 => (congrFun e_w3 zz).trans ((mwu_ne g2).trans (fr_w2 zz g0 g1))
  refine mg_aload_n C dX3_collapse_33 rfl ?_
  refine mg_get C inT3 h_w3_h0 rfl 6 (by decide) kw_99 (Or.inl rfl) rfl dX3_collapse_34 ?_
  refine mg_iload_n C dX3_collapse_37 rfl ?_
  refine mg_iconst C (v := nI 0) dX3_collapse_38 (by decide) ?_
  refine mg_iastN C h_w3_al (by omega) (by omega) dX3_collapse_39 (fun w4 e_w4 => ?_)
  rw [upd_lnF] at e_w4
  have h_w4_h0 : w4 h0 = some (.inr (3, [.int (nI 4), .int (nI k), .int (nI sd), .int tot, .int mov, .ref ak, .ref al, .ref aw, .int (er + (sh1 b))])) := (congrFun e_w4 _).trans ((mwu_ne (mw_oa h_w3_h0 h_w3_al)).trans h_w3_h0)
  have h_w4_ak : w4 ak = some (eI cI (31 * k) (srtO f (b * k) (k - 1))) := (congrFun e_w4 _).trans ((mwu_ne hd1).trans h_w3_ak)
  have h_w4_al : w4 al = some (eI cI 31 (lnF (updN ln b 0))) := (congrFun e_w4 _).trans mwu_eq
  have h_w4_aw : w4 aw = some (eI cI 31 (lnF (updN tr b (1 - (tr b))))) := (congrFun e_w4 _).trans ((mwu_ne (Ne.symm hd3)).trans h_w3_aw)
  have fr_w4 : ∀ zz : Nat, zz ≠ ak → zz ≠ aw → zz ≠ h0 → zz ≠ al → w4 zz = w zz := fun zz g0 g1 g2 g3 => (congrFun e_w4 zz).trans ((mwu_ne g3).trans (fr_w3 zz g0 g1 g2))
  refine mg_iload_n C dX3_collapse_40 rfl ?_
  refine mg_istore_n C (lv' := [(3, .int (nI (tr b))), (2, .int (nI (tr b))), (0, .ref h0), (1, .int (nI b))]) dX3_collapse_41 rfl (by decide) rfl ?_
  have hoe : rkOk k (srtO f (b * k) (k - 1), updN ln b 0, updN tr b (1 - tr b), er + sh1 b) := col0_ok (S := (f, ln, tr, er)) hok
  have L42 : ∀ (M42 : Nat) (mz : Nat) (iz : Nat) (Sz : rkT), k - iz < M42 → (lpP k b (psh k d (b + 1)) mz iz Sz = (colP k b (psh k d (b + 1)) (f, ln, tr, er))) → (k ≤ iz + mz) → (rkOk k Sz) → (iz ≤ k + 1) → ∀ (w5 : mwT), w5 h0 = some (.inr (3, [.int (nI 4), .int (nI k), .int (nI sd), .int tot, .int mov, .ref ak, .ref al, .ref aw, .int Sz.2.2.2])) → w5 ak = some (eI cI (31 * k) Sz.1) → w5 al = some (eI cI 31 (lnF Sz.2.1)) → w5 aw = some (eI cI 31 (lnF Sz.2.2.1)) → (∀ zz : Nat, zz ≠ ak → zz ≠ aw → zz ≠ h0 → zz ≠ al → w5 zz = w zz) → mwG X 0 0 w5 [(0, .ref h0), (1, .int (nI b)), (2, .int (nI (tr b))), (3, .int (nI iz))] [] 42 := by
    intro M42
    induction M42 with
    | zero => intro mz iz Sz hm42; exact absurd hm42 (Nat.not_lt_zero _)
    | succ M42 ih42 =>
      intro mz iz Sz hm42 hlp hfu hoz hib w5 h_w5_h0 h_w5_ak h_w5_al h_w5_aw fr_w5
      refine mg_iload_n C dX3_collapse_42 rfl ?_
      refine mg_aload_n C dX3_collapse_43 rfl ?_
      refine mg_get C inT3 h_w5_h0 rfl 1 (by decide) kw_173 (Or.inr kw_174) rfl dX3_collapse_44 ?_
      refine mg_icmpN_ge C (tgt := 69) dX3_collapse_47 (by decide) (by omega) (by omega) (fun c_47 => ?_) (fun c_47 => ?_)
      · have hz : Sz = (colP k b (psh k d (b + 1)) (f, ln, tr, er)) := by
          rw [← hlp]
          cases mz with
          | zero => rfl
          | succ m1 => exact (if_neg (Nat.not_lt.mpr c_47)).symm
        exact hR _ _ _ dX3_collapse_69 ⟨by rw [← hz]; exact h_w5_h0, by rw [← hz]; exact h_w5_ak, by rw [← hz]; exact h_w5_al, by rw [← hz]; exact h_w5_aw, fun z q0 q1 q2 q3 => fr_w5 z q1 q3 q0 q2⟩
      · refine mg_aload_n C dX3_collapse_50 rfl ?_
        refine mg_iload_n C dX3_collapse_51 rfl ?_
        refine mg_iconst C (v := nI 1) dX3_collapse_52 (by decide) ?_
        refine mg_iadd C (z := nI (b + 1)) dX3_collapse_53 (nI_add _ _) ?_
        refine mg_aload_n C dX3_collapse_54 rfl ?_
        refine mg_iload_n C dX3_collapse_55 rfl ?_
        refine mg_iload_n C dX3_collapse_56 rfl ?_
        refine mg_callV_i C h_w5_h0 rfl (rest := [.int (nI (b + 1)), .ref h0]) (c_X3_keyAt D cI cS w5 h0 ak al aw k sd tot mov Sz.2.2.2 Sz.1 Sz.2.1 Sz.2.2.1 b iz h_w5_h0 h_w5_ak h_w5_al h_w5_aw hk1 hk2 (by omega) (by omega)) yq_X3_keyAt kw_313 kw_314 kw_315 ⟨by (dsimp only; omega), by (dsimp only; omega)⟩ ⟨Nat.le_of_ble_eq_true rfl, Nat.le_of_ble_eq_true rfl⟩ (Nat.le_of_ble_eq_true rfl) rfl rfl dX3_collapse_57 (fun r6 w7 ⟨e_r6, e_w7⟩ => ?_)
        rw [e_w7, e_r6]
        refine mg_callV_v C h_w5_h0 rfl (rest := []) (hpush D cI cS w5 h0 ak al aw k sd tot mov Sz.2.2.2 Sz.1 Sz.2.1 Sz.2.2.1 (b + 1) (Sz.1 (b * k + iz)) h_w5_h0 h_w5_ak h_w5_al h_w5_aw hk1 hk2 hd1 hd2 hd3 hoz (by omega)) yq_X3_push kw_301 kw_302 kw_303 ⟨by (dsimp only; omega), by (dsimp only; omega)⟩ ⟨Nat.le_of_ble_eq_true rfl, Nat.le_of_ble_eq_true rfl⟩ (Nat.le_of_ble_eq_true rfl) rfl rfl dX3_collapse_60 (fun w8 ⟨xh8, xk8, xl8, xw8, xf8⟩ => ?_)
        have fr_w8 : ∀ zz : Nat, zz ≠ ak → zz ≠ aw → zz ≠ h0 → zz ≠ al → w8 zz = w zz := fun zz g0 g1 g2 g3 => (xf8 zz g2 g0 g3 g1).trans (fr_w5 zz g0 g1 g2 g3)
        refine mg_iinc C (v := nI (iz + 2)) (lv' := [(3, .int (nI (iz + 2))), (0, .ref h0), (1, .int (nI b)), (2, .int (nI (tr b)))]) dX3_collapse_63 rfl (ni_inc2 _) (by decide) rfl ?_
        refine mg_goto C (tgt := 42) dX3_collapse_66 (by decide) ?_
        have hl2 : lpP k b (psh k d (b + 1)) (mz - 1) (iz + 2) (psh k d (b + 1) (Sz.1 (b * k + iz)) Sz) = (colP k b (psh k d (b + 1)) (f, ln, tr, er)) := by
          rw [← hlp]
          obtain ⟨m1, rfl⟩ : ∃ m1, mz = m1 + 1 := ⟨mz - 1, by omega⟩
          exact (if_pos c_47).symm
        refine mg_sub (lv' := [(0, .ref h0), (1, .int (nI b)), (2, .int (nI (tr b))), (3, .int (nI (iz + 2)))]) [1, 2, 3, 0] rfl ?_
        exact ih42 ((mz - 1)) ((iz + 2)) ((psh k d (b + 1) (Sz.1 (b * k + iz)) Sz)) (by omega) hl2 (by omega) (psh_ok k d (b + 1) _ Sz hoz) (by omega) w8 xh8 xk8 xl8 xw8 (fun zz g0 g1 g2 g3 => fr_w8 zz g0 g1 g2 g3)
  refine mg_sub (lv' := [(0, .ref h0), (1, .int (nI b)), (2, .int (nI (tr b))), (3, .int (nI (tr b)))]) [2, 3, 1, 0] rfl ?_
  exact L42 (_ + 1) k (tr b) ((srtO f (b * k) (k - 1), updN ln b 0, updN tr b (1 - tr b), er + sh1 b)) (Nat.lt_succ_self _) rfl (by omega) hoe (by omega) w4 h_w4_h0 h_w4_ak h_w4_al h_w4_aw (fun zz g0 g1 g2 g3 => fr_w4 zz g0 g1 g2 g3)

theorem c_X3_push_all : ∀ d, P_push d
  | 0 => c_X3_push_0
  | d + 1 => c_X3_push_s d (c_X3_col_raw d (c_X3_push_all d))
