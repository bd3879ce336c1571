set_option maxHeartbeats 4000000 in
set_option maxRecDepth 20000 in
theorem c_X1_take (D : va_G) (cI cS : ClassId) (w : mwT) (h0 ak an k sd h : Nat) (tot mov lo : Int32) (f g : Nat → Int32) (x n : Int32) (hh : w h0 = some (.inr (1, [.int (nI 0), .int (nI k), .int (nI sd), .int tot, .int mov, .ref ak, .ref an, .int (nI h), .int lo]))) (hak : w ak = some (eI cI (2 * k) f)) (han : w an = some (eI cI (2 * k) g)) (hk1 : 1 ≤ k) (hk2 : k ≤ 20) (hh2 : h ≤ k) (hka : ak ≠ an) : mMv yX1_take cX1_take 5 none (rmL 3) [.ref h0, .int x, .int n] D cI cS w (fun w1 => w1 h0 = some (.inr (1, [.int (nI 0), .int (nI k), .int (nI sd), .int tot, .int mov, .ref ak, .ref an, .int (nI ((tkH k x n (f, g, h) lo).1.2.2)), .int ((tkH k x n (f, g, h) lo).2)])) ∧ w1 ak = some (eI cI (2 * k) (tkH k x n (f, g, h) lo).1.1) ∧ w1 an = some (eI cI (2 * k) (tkH k x n (f, g, h) lo).1.2.1) ∧ ∀ z : Nat, z ≠ h0 → z ≠ ak → z ≠ an → w1 z = w z) := by
  refine mMv.of (by decide) (Nat.le_of_ble_eq_true rfl) ?_
  intro X C hN hR
  have fr_w : ∀ zz : Nat, w zz = w zz := fun _ => rfl
  refine mg_sub (lv' := [(0, .ref h0), (1, .int x), (2, .int n)]) [0, 1, 2] rfl ?_
  refine mg_iload_n C dX1_take_0 rfl ?_
  refine mg_istore_n C (lv' := [(3, .int n), (0, .ref h0), (1, .int x), (2, .int n)]) dX1_take_1 rfl (by decide) rfl ?_
  refine mg_aload_n C dX1_take_2 rfl ?_
  refine mg_get C inT1 hh rfl 7 (by decide) kw_67 (Or.inl rfl) rfl dX1_take_3 ?_
  refine mg_aload_n C dX1_take_6 rfl ?_
  refine mg_get C inT1 hh rfl 1 (by decide) kw_149 (Or.inr kw_150) rfl dX1_take_7 ?_
  refine mg_icmpN_lt C (tgt := 58) dX1_take_10 (by decide) (by omega) (by omega) (fun c_10 => ?_) (fun c_10 => ?_)
  · refine mg_iload_n C dX1_take_58 rfl ?_
    refine mg_if_le C (tgt := 68) dX1_take_59 (by decide) (fun c_59 => ?_) (fun c_59 => ?_)
    · have et : tkH k x n (f, g, h) lo = ((f, g, h), lo) := (if_neg (fun q => absurd (show k ≤ h from q.1) (by omega))).trans (congrArg (fun q => (q, lo)) (if_pos c_59))
      exact hR _ _ _ dX1_take_68 ⟨by rw [et]; exact hh, by rw [et]; exact hak, by rw [et]; exact han, fun z q0 q1 q2 => fr_w z ⟩
    · refine mg_aload_n C dX1_take_62 rfl ?_
      refine mg_iload_n C dX1_take_63 rfl ?_
      refine mg_iload_n C dX1_take_64 rfl ?_
      refine mg_callV_v C hh rfl (rest := []) (c_X1_add D cI cS w h0 ak an k sd h tot mov lo f g x n hh hak han hk1 hk2 (by omega) hka) yq_X1_add kw_286 kw_287 kw_288 ⟨by decide, by decide⟩ ⟨Nat.le_of_ble_eq_true rfl, Nat.le_of_ble_eq_true rfl⟩ (Nat.le_of_ble_eq_true rfl) rfl rfl dX1_take_65 (fun w1 ⟨xh1, xk1, xn1, xf1⟩ => ?_)
      have fr_w1 : ∀ zz : Nat, zz ≠ h0 → zz ≠ ak → zz ≠ an → w1 zz = w zz := fun zz g0 g1 g2 => (xf1 zz g0 g1 g2).trans (fr_w zz )
      have et : tkH k x n (f, g, h) lo = ((adH x n (f, g, h)), lo) := (if_neg (fun q => absurd (show k ≤ h from q.1) (by omega))).trans (congrArg (fun q => (q, lo)) (if_neg c_59))
      exact hR _ _ _ dX1_take_68 ⟨by rw [et]; exact xh1, by rw [et]; exact xk1, by rw [et]; exact xn1, fun z q0 q1 q2 => fr_w1 z q0 q1 q2⟩
  · refine mg_iload_n C dX1_take_13 rfl ?_
    refine mg_aload_n C dX1_take_14 rfl ?_
    refine mg_get C inT1 hh rfl 5 (by decide) kw_65 (Or.inl rfl) rfl dX1_take_15 ?_
    refine mg_aload_n C dX1_take_18 rfl ?_
    refine mg_get C inT1 hh rfl 7 (by decide) kw_67 (Or.inl rfl) rfl dX1_take_19 ?_
    refine mg_callN_i C (rest := []) (c_X6_placeFor D cI cS w x ak h (2 * k) f hak (by omega) (by omega)) yq_X6_placeFor kn_13 kw_271 ⟨by decide, by decide⟩ ⟨Nat.le_of_ble_eq_true rfl, Nat.le_of_ble_eq_true rfl⟩ (Nat.le_of_ble_eq_true rfl) rfl rfl dX1_take_22 (fun r2 w2 ⟨⟨p2, xe2, xa2, xb2, xc2, xd2⟩, xk2⟩ => ?_)
    rw [xk2, xe2]
    have ep : p2 = plc f x h := plc_uniq xa2 xc2 (fun q => xd2 q (by omega))
    clear xc2 xd2
    subst ep
    have hpl := plc_le f x h
    refine mg_iload_n C dX1_take_25 rfl ?_
    refine mg_aload_n C dX1_take_26 rfl ?_
    refine mg_get C inT1 hh rfl 5 (by decide) kw_65 (Or.inl rfl) rfl dX1_take_27 ?_
    refine mg_aload_n C dX1_take_30 rfl ?_
    refine mg_get C inT1 hh rfl 7 (by decide) kw_67 (Or.inl rfl) rfl dX1_take_31 ?_
    refine mg_callN_i C (rest := []) (c_X6_standsAt D cI cS w (plc f x h) x ak h (2 * k) f hak (by omega) (by omega) (by omega)) yq_X6_standsAt kn_14 kw_273 ⟨by decide, by decide⟩ ⟨Nat.le_of_ble_eq_true rfl, Nat.le_of_ble_eq_true rfl⟩ (Nat.le_of_ble_eq_true rfl) rfl rfl dX1_take_34 (fun r3 w3 ⟨xa3, xk3⟩ => ?_)
    rw [xk3]
    rcases xa3 with ⟨ra, sta⟩ | ⟨ra, sta⟩
    · rw [ra]
      refine mg_ifN_ne C (tgt := 58) dX1_take_37 (by decide) (by decide) (fun c_37 => ?_) (fun c_37 => absurd c_37 (by decide))
      refine mg_iload_n C dX1_take_58 rfl ?_
      refine mg_if_le C (tgt := 68) dX1_take_59 (by decide) (fun c_59 => ?_) (fun c_59 => ?_)
      · have et : tkH k x n (f, g, h) lo = ((f, g, h), lo) := (if_neg (fun q => q.2 ⟨sta.1, sta.2.2⟩)).trans (congrArg (fun q => (q, lo)) (if_pos c_59))
        exact hR _ _ _ dX1_take_68 ⟨by rw [et]; exact hh, by rw [et]; exact hak, by rw [et]; exact han, fun z q0 q1 q2 => fr_w z ⟩
      · refine mg_aload_n C dX1_take_62 rfl ?_
        refine mg_iload_n C dX1_take_63 rfl ?_
        refine mg_iload_n C dX1_take_64 rfl ?_
        refine mg_callV_v C hh rfl (rest := []) (c_X1_add D cI cS w h0 ak an k sd h tot mov lo f g x n hh hak han hk1 hk2 (by omega) hka) yq_X1_add kw_286 kw_287 kw_288 ⟨by decide, by decide⟩ ⟨Nat.le_of_ble_eq_true rfl, Nat.le_of_ble_eq_true rfl⟩ (Nat.le_of_ble_eq_true rfl) rfl rfl dX1_take_65 (fun w4 ⟨xh4, xk4, xn4, xf4⟩ => ?_)
        have fr_w4 : ∀ zz : Nat, zz ≠ h0 → zz ≠ ak → zz ≠ an → w4 zz = w zz := fun zz g0 g1 g2 => (xf4 zz g0 g1 g2).trans (fr_w zz )
        have et : tkH k x n (f, g, h) lo = ((adH x n (f, g, h)), lo) := (if_neg (fun q => q.2 ⟨sta.1, sta.2.2⟩)).trans (congrArg (fun q => (q, lo)) (if_neg c_59))
        exact hR _ _ _ dX1_take_68 ⟨by rw [et]; exact xh4, by rw [et]; exact xk4, by rw [et]; exact xn4, fun z q0 q1 q2 => fr_w4 z q0 q1 q2⟩
    · rw [ra]
      refine mg_ifN_ne C (tgt := 58) dX1_take_37 (by decide) (by decide) (fun c_37 => absurd c_37 (by decide)) (fun c_37 => ?_)
      refine mg_aload_n C dX1_take_40 rfl ?_
      refine mg_iload_n C dX1_take_41 rfl ?_
      refine mg_callV_i C hh rfl (rest := []) (c_X1_leastNumber D cI cS w h0 ak an k sd h tot mov lo f g n hh hak han hk1 hk2 (by omega)) yq_X1_leastNumber kw_275 kw_276 kw_277 ⟨by decide, by decide⟩ ⟨Nat.le_of_ble_eq_true rfl, Nat.le_of_ble_eq_true rfl⟩ (Nat.le_of_ble_eq_true rfl) rfl rfl dX1_take_42 (fun r5 w6 ⟨e_r5, e_w6⟩ => ?_)
      rw [e_w6, e_r5]
      refine mg_istore C (lv' := [(4, .int (lsN g n h)), (3, .int n), (0, .ref h0), (1, .int x), (2, .int n)]) dX1_take_45 (by decide) rfl ?_
      refine mg_iload_n C dX1_take_47 rfl ?_
      refine mg_iload C dX1_take_48 rfl ?_
      refine mg_isub C (z := n - (lsN g n h)) dX1_take_50 rfl ?_
      refine mg_istore_n C (lv' := [(3, .int (n - (lsN g n h))), (4, .int (lsN g n h)), (0, .ref h0), (1, .int x), (2, .int n)]) dX1_take_51 rfl (by decide) rfl ?_
      refine mg_aload_n C dX1_take_52 rfl ?_
      refine mg_iload C dX1_take_53 rfl ?_
      refine mg_callV_v C hh rfl (rest := []) (c_X1_lower D cI cS w h0 ak an k sd h tot mov lo f g (lsN g n h) hh hak han hk1 hk2 (by omega) hka) yq_X1_lower kw_282 kw_283 kw_284 ⟨by decide, by decide⟩ ⟨Nat.le_of_ble_eq_true rfl, Nat.le_of_ble_eq_true rfl⟩ (Nat.le_of_ble_eq_true rfl) rfl rfl dX1_take_55 (fun w7 ⟨xh7, xk7, xn7, xf7⟩ => ?_)
      have fr_w7 : ∀ zz : Nat, zz ≠ h0 → zz ≠ ak → zz ≠ an → w7 zz = w zz := fun zz g0 g1 g2 => (xf7 zz g0 g1 g2).trans (fr_w zz )
      refine mg_iload_n C dX1_take_58 rfl ?_
      refine mg_if_le C (tgt := 68) dX1_take_59 (by decide) (fun c_59 => ?_) (fun c_59 => ?_)
      · have et : tkH k x n (f, g, h) lo = ((lwH f g (lsN g n h) h), lo + lsN g n h) := (if_pos ⟨by omega, fun q => sta ⟨q.1, by have := q.1; omega, q.2⟩⟩).trans (congrArg (fun q => (q, lo + lsN g n h)) (if_pos c_59))
        exact hR _ _ _ dX1_take_68 ⟨by rw [et]; exact xh7, by rw [et]; exact xk7, by rw [et]; exact xn7, fun z q0 q1 q2 => fr_w7 z q0 q1 q2⟩
      · refine mg_aload_n C dX1_take_62 rfl ?_
        refine mg_iload_n C dX1_take_63 rfl ?_
        refine mg_iload_n C dX1_take_64 rfl ?_
        have hlw := lwH_le f g (lsN g n h) h
        refine mg_callV_v C xh7 rfl (rest := []) (c_X1_add D cI cS w7 h0 ak an k sd ((lwH f g (lsN g n h) h).2.2) tot mov (lo + lsN g n h) ((lwH f g (lsN g n h) h).1) ((lwH f g (lsN g n h) h).2.1) x (n - lsN g n h) xh7 xk7 xn7 hk1 hk2 (by omega) hka) yq_X1_add kw_286 kw_287 kw_288 ⟨by decide, by decide⟩ ⟨Nat.le_of_ble_eq_true rfl, Nat.le_of_ble_eq_true rfl⟩ (Nat.le_of_ble_eq_true rfl) rfl rfl dX1_take_65 (fun w8 ⟨xh8, xk8, xn8, xf8⟩ => ?_)
        have fr_w8 : ∀ zz : Nat, zz ≠ h0 → zz ≠ ak → zz ≠ an → w8 zz = w zz := fun zz g0 g1 g2 => (xf8 zz g0 g1 g2).trans (fr_w7 zz g0 g1 g2)
        have et : tkH k x n (f, g, h) lo = ((adH x (n - lsN g n h) (lwH f g (lsN g n h) h)), lo + lsN g n h) := (if_pos ⟨by omega, fun q => sta ⟨q.1, by have := q.1; omega, q.2⟩⟩).trans (congrArg (fun q => (q, lo + lsN g n h)) (if_neg c_59))
        exact hR _ _ _ dX1_take_68 ⟨by rw [et]; exact xh8, by rw [et]; exact xk8, by rw [et]; exact xn8, fun z q0 q1 q2 => fr_w8 z q0 q1 q2⟩

set_option maxHeartbeats 4000000 in
set_option maxRecDepth 20000 in
theorem c_X1_join (D : va_G) (cI cS : ClassId) (w : mwT) (h0 h1 ak an ak2 an2 k sd h h2 : Nat) (tot mov lo tot2 mov2 lo2 : Int32) (f g f2 g2 : Nat → Int32) (hh : w h0 = some (.inr (1, [.int (nI 0), .int (nI k), .int (nI sd), .int tot, .int mov, .ref ak, .ref an, .int (nI h), .int lo]))) (hh1 : w h1 = some (.inr (1, [.int (nI 0), .int (nI k), .int (nI sd), .int tot2, .int mov2, .ref ak2, .ref an2, .int (nI h2), .int lo2]))) (hak : w ak = some (eI cI (2 * k) f)) (han : w an = some (eI cI (2 * k) g)) (hak2 : w ak2 = some (eI cI (2 * k) f2)) (han2 : w an2 = some (eI cI (2 * k) g2)) (hk1 : 1 ≤ k) (hk2 : k ≤ 20) (hh2 : h ≤ k) (hh3 : h2 ≤ k) (hka : ak ≠ an) (hn0 : h0 ≠ h1) (hd1 : ak ≠ ak2) (hd2 : ak ≠ an2) (hd3 : an ≠ ak2) (hd4 : an ≠ an2) : mMv yX1_join cX1_join 4 none (rmL 3) [.ref h0, .ref h1] D cI cS w (fun w1 => w1 h0 = some (.inr (1, [.int (nI 0), .int (nI k), .int (nI sd), .int tot, .int mov, .ref ak, .ref an, .int (nI ((mgH k f2 g2 h2 lo2 (f, g, h) lo).1.2.2)), .int ((mgH k f2 g2 h2 lo2 (f, g, h) lo).2)])) ∧ w1 ak = some (eI cI (2 * k) (mgH k f2 g2 h2 lo2 (f, g, h) lo).1.1) ∧ w1 an = some (eI cI (2 * k) (mgH k f2 g2 h2 lo2 (f, g, h) lo).1.2.1) ∧ ∀ z : Nat, z ≠ h0 → z ≠ ak → z ≠ an → w1 z = w z) := by
  refine mMv.of (by decide) (Nat.le_of_ble_eq_true rfl) ?_
  intro X C hN hR
  have fr_w : ∀ zz : Nat, w zz = w zz := fun _ => rfl
  refine mg_sub (lv' := [(0, .ref h0), (1, .ref h1)]) [0, 1] rfl ?_
  refine mg_aload_n C dX1_join_0 rfl ?_
  refine mg_inst C hh1 rfl kw_148 dX1_join_1 ?_
  refine mg_ifN_eq C (tgt := 85) dX1_join_4 (by decide) (by decide) (fun c_4 => absurd c_4 (by decide)) (fun c_4 => ?_)
  refine mg_aload_n C dX1_join_7 rfl ?_
  refine mg_cast C hh1 rfl kw_148 dX1_join_8 ?_
  refine mg_astore_n C (lv' := [(2, .ref h1), (0, .ref h0), (1, .ref h1)]) dX1_join_11 rfl (by decide) rfl ?_
  refine mg_iconst C (v := nI 0) dX1_join_12 (by decide) ?_
  refine mg_istore_n C (lv' := [(3, .int (nI 0)), (2, .ref h1), (0, .ref h0), (1, .ref h1)]) dX1_join_13 rfl (by decide) rfl ?_
  have L14 : ∀ (M14 : Nat) (i : Nat), h2 - i < M14 → (i ≤ h2) → ∀ (w1 : mwT), w1 h0 = some (.inr (1, [.int (nI 0), .int (nI k), .int (nI sd), .int tot, .int mov, .ref ak, .ref an, .int (nI ((jnH f2 g2 (f, g, h) i).2.2)), .int lo])) → w1 h1 = some (.inr (1, [.int (nI 0), .int (nI k), .int (nI sd), .int tot2, .int mov2, .ref ak2, .ref an2, .int (nI h2), .int lo2])) → w1 ak = some (eI cI (2 * k) ((jnH f2 g2 (f, g, h) i).1)) → w1 an = some (eI cI (2 * k) ((jnH f2 g2 (f, g, h) i).2.1)) → w1 ak2 = some (eI cI (2 * k) f2) → w1 an2 = some (eI cI (2 * k) g2) → (∀ zz : Nat, zz ≠ h0 → zz ≠ ak → zz ≠ an → w1 zz = w zz) → mwG X 0 0 w1 [(0, .ref h0), (1, .ref h1), (2, .ref h1), (3, .int (nI i))] [] 14 := by
    intro M14
    induction M14 with
    | zero => intro i hm14; exact absurd hm14 (Nat.not_lt_zero _)
    | succ M14 ih14 =>
      intro i hm14 hi w1 h_w1_h0 h_w1_h1 h_w1_ak h_w1_an h_w1_ak2 h_w1_an2 fr_w1
      refine mg_iload_n C dX1_join_14 rfl ?_
      refine mg_aload_n C dX1_join_15 rfl ?_
      refine mg_get C inT1 h_w1_h1 rfl 7 (by decide) kw_67 (Or.inl rfl) rfl dX1_join_16 ?_
      refine mg_icmpN_ge C (tgt := 53) dX1_join_19 (by decide) (by omega) (by omega) (fun c_19 => ?_) (fun c_19 => ?_)
      · have ei : i = h2 := by omega
        rw [ei] at h_w1_h0
        rw [ei] at h_w1_ak
        rw [ei] at h_w1_an
        have hjl := jnH_le f2 g2 (f, g, h) h2
        dsimp only at hjl
        refine mg_aload_n C dX1_join_53 rfl ?_
        refine mg_dup C dX1_join_54 rfl ?_
        refine mg_get C inT1 h_w1_h0 rfl 8 (by decide) kw_68 (Or.inl rfl) rfl dX1_join_55 ?_
        refine mg_aload_n C dX1_join_58 rfl ?_
        refine mg_get C inT1 h_w1_h1 rfl 8 (by decide) kw_68 (Or.inl rfl) rfl dX1_join_59 ?_
        refine mg_iadd C (z := lo + lo2) dX1_join_62 rfl ?_
        refine mg_put C (fs' := [.int (nI 0), .int (nI k), .int (nI sd), .int tot, .int mov, .ref ak, .ref an, .int (nI ((jnH f2 g2 (f, g, h) h2).2.2)), .int (lo + lo2)]) inT1 h_w1_h0 rfl 8 (by decide) kw_68 (Or.inl rfl) tyX1_ok nmX1 rfl rfl rfl rfl (Nat.le_of_ble_eq_true rfl) dX1_join_63 (fun w2 e_w2 => ?_)
        have h_w2_h0 : w2 h0 = some (.inr (1, [.int (nI 0), .int (nI k), .int (nI sd), .int tot, .int mov, .ref ak, .ref an, .int (nI ((jnH f2 g2 (f, g, h) h2).2.2)), .int (lo + lo2)])) := (congrFun e_w2 _).trans mwu_eq
        have h_w2_h1 : w2 h1 = some (.inr (1, [.int (nI 0), .int (nI k), .int (nI sd), .int tot2, .int mov2, .ref ak2, .ref an2, .int (nI h2), .int lo2])) := (congrFun e_w2 _).trans ((mwu_ne (Ne.symm hn0)).trans h_w1_h1)
        have h_w2_ak : w2 ak = some (eI cI (2 * k) ((jnH f2 g2 (f, g, h) h2).1)) := (congrFun e_w2 _).trans ((mwu_ne (mw_ao h_w1_ak h_w1_h0)).trans h_w1_ak)
        have h_w2_an : w2 an = some (eI cI (2 * k) ((jnH f2 g2 (f, g, h) h2).2.1)) := (congrFun e_w2 _).trans ((mwu_ne (mw_ao h_w1_an h_w1_h0)).trans h_w1_an)
        have h_w2_ak2 : w2 ak2 = some (eI cI (2 * k) f2) := (congrFun e_w2 _).trans ((mwu_ne (mw_ao h_w1_ak2 h_w1_h0)).trans h_w1_ak2)
        have h_w2_an2 : w2 an2 = some (eI cI (2 * k) g2) := (congrFun e_w2 _).trans ((mwu_ne (mw_ao h_w1_an2 h_w1_h0)).trans h_w1_an2)
        have fr_w2 : ∀ zz : Nat, zz ≠ h0 → zz ≠ ak → zz ≠ an → w2 zz = w zz := fun zz g0 g1 g2 => (congrFun e_w2 zz).trans ((mwu_ne g0).trans (fr_w1 zz g0 g1 g2))
        refine mg_aload_n C dX1_join_66 rfl ?_
        refine mg_get C inT1 h_w2_h0 rfl 7 (by decide) kw_67 (Or.inl rfl) rfl dX1_join_67 ?_
        refine mg_aload_n C dX1_join_70 rfl ?_
        refine mg_get C inT1 h_w2_h0 rfl 1 (by decide) kw_149 (Or.inr kw_150) rfl dX1_join_71 ?_
        refine mg_icmpN_le C (tgt := 85) dX1_join_74 (by decide) (by omega) (by omega) (fun c_74 => ?_) (fun c_74 => ?_)
        · have et : mgH k f2 g2 h2 lo2 (f, g, h) lo = ((jnH f2 g2 (f, g, h) h2), lo + lo2) := if_neg (by omega)
          exact hR _ _ _ dX1_join_85 ⟨by rw [et]; exact h_w2_h0, by rw [et]; exact h_w2_ak, by rw [et]; exact h_w2_an, fun z q0 q1 q2 => fr_w2 z q0 q1 q2⟩
        · refine mg_aload_n C dX1_join_77 rfl ?_
          refine mg_aload_n C dX1_join_78 rfl ?_
          refine mg_callV_i C h_w2_h0 rfl (rest := [.ref h0]) (c_X1_firstNumberTooMany D cI cS w2 h0 ak an k sd (jnH f2 g2 (f, g, h) h2).2.2 tot mov (lo + lo2) (jnH f2 g2 (f, g, h) h2).1 (jnH f2 g2 (f, g, h) h2).2.1 h_w2_h0 h_w2_ak h_w2_an hk1 hk2 (by omega)) yq_X1_firstNumberTooMany kw_398 kw_399 kw_400 ⟨by decide, by decide⟩ ⟨Nat.le_of_ble_eq_true rfl, Nat.le_of_ble_eq_true rfl⟩ (Nat.le_of_ble_eq_true rfl) rfl rfl dX1_join_79 (fun r3 w4 ⟨e_r3, e_w4⟩ => ?_)
          rw [e_w4, e_r3]
          refine mg_callV_v C h_w2_h0 rfl (rest := []) (c_X1_lower D cI cS w2 h0 ak an k sd (jnH f2 g2 (f, g, h) h2).2.2 tot mov (lo + lo2) (jnH f2 g2 (f, g, h) h2).1 (jnH f2 g2 (f, g, h) h2).2.1 (fnH (jnH f2 g2 (f, g, h) h2).2.1 k (jnH f2 g2 (f, g, h) h2).2.2 (jnH f2 g2 (f, g, h) h2).2.2) h_w2_h0 h_w2_ak h_w2_an hk1 hk2 (by omega) hka) yq_X1_lower kw_282 kw_283 kw_284 ⟨by decide, by decide⟩ ⟨Nat.le_of_ble_eq_true rfl, Nat.le_of_ble_eq_true rfl⟩ (Nat.le_of_ble_eq_true rfl) rfl rfl dX1_join_82 (fun w5 ⟨xh5, xk5, xn5, xf5⟩ => ?_)
          have h_w5_h1 : w5 h1 = some (.inr (1, [.int (nI 0), .int (nI k), .int (nI sd), .int tot2, .int mov2, .ref ak2, .ref an2, .int (nI h2), .int lo2])) := (xf5 h1 (Ne.symm hn0) (mw_oa h_w2_h1 h_w2_ak) (mw_oa h_w2_h1 h_w2_an)).trans h_w2_h1
          have h_w5_ak2 : w5 ak2 = some (eI cI (2 * k) f2) := (xf5 ak2 (mw_ao h_w2_ak2 h_w2_h0) (Ne.symm hd1) (Ne.symm hd3)).trans h_w2_ak2
          have h_w5_an2 : w5 an2 = some (eI cI (2 * k) g2) := (xf5 an2 (mw_ao h_w2_an2 h_w2_h0) (Ne.symm hd2) (Ne.symm hd4)).trans h_w2_an2
          have fr_w5 : ∀ zz : Nat, zz ≠ h0 → zz ≠ ak → zz ≠ an → w5 zz = w zz := fun zz g0 g1 g2 => (xf5 zz g0 g1 g2).trans (fr_w2 zz g0 g1 g2)
          have et : mgH k f2 g2 h2 lo2 (f, g, h) lo = ((lwH (jnH f2 g2 (f, g, h) h2).1 (jnH f2 g2 (f, g, h) h2).2.1 (fnH (jnH f2 g2 (f, g, h) h2).2.1 k (jnH f2 g2 (f, g, h) h2).2.2 (jnH f2 g2 (f, g, h) h2).2.2) (jnH f2 g2 (f, g, h) h2).2.2), lo + lo2 + (fnH (jnH f2 g2 (f, g, h) h2).2.1 k (jnH f2 g2 (f, g, h) h2).2.2 (jnH f2 g2 (f, g, h) h2).2.2)) := if_pos (by omega)
          exact hR _ _ _ dX1_join_85 ⟨by rw [et]; exact xh5, by rw [et]; exact xk5, by rw [et]; exact xn5, fun z q0 q1 q2 => fr_w5 z q0 q1 q2⟩
      · refine mg_iload_n C dX1_join_22 rfl ?_
        refine mg_aload_n C dX1_join_23 rfl ?_
        refine mg_get C inT1 h_w1_h1 rfl 5 (by decide) kw_65 (Or.inl rfl) rfl dX1_join_24 ?_
        refine mg_alen C h_w1_ak2 dX1_join_27 ?_
        refine mg_icmpN_ge C (tgt := 53) dX1_join_28 (by decide) (by omega) (by omega) (fun c_28 => absurd c_28 (by omega)) (fun c_28 => ?_)
        refine mg_aload_n C dX1_join_31 rfl ?_
        refine mg_aload_n C dX1_join_32 rfl ?_
        refine mg_get C inT1 h_w1_h1 rfl 5 (by decide) kw_65 (Or.inl rfl) rfl dX1_join_33 ?_
        refine mg_iload_n C dX1_join_36 rfl ?_
        refine mg_ialdN C h_w1_ak2 (by omega) (by omega) dX1_join_37 ?_
        refine mg_aload_n C dX1_join_38 rfl ?_
        refine mg_get C inT1 h_w1_h1 rfl 6 (by decide) kw_66 (Or.inl rfl) rfl dX1_join_39 ?_
        refine mg_iload_n C dX1_join_42 rfl ?_
        refine mg_ialdN C h_w1_an2 (by omega) (by omega) dX1_join_43 ?_
        have hjl := jnH_le f2 g2 (f, g, h) i
        dsimp only at hjl
        refine mg_callV_v C h_w1_h0 rfl (rest := []) (c_X1_add D cI cS w1 h0 ak an k sd (jnH f2 g2 (f, g, h) i).2.2 tot mov lo (jnH f2 g2 (f, g, h) i).1 (jnH f2 g2 (f, g, h) i).2.1 (f2 i) (g2 i) h_w1_h0 h_w1_ak h_w1_an hk1 hk2 (by omega) hka) yq_X1_add kw_286 kw_287 kw_288 ⟨by decide, by decide⟩ ⟨Nat.le_of_ble_eq_true rfl, Nat.le_of_ble_eq_true rfl⟩ (Nat.le_of_ble_eq_true rfl) rfl rfl dX1_join_44 (fun w6 ⟨xh6, xk6, xn6, xf6⟩ => ?_)
        have h_w6_h1 : w6 h1 = some (.inr (1, [.int (nI 0), .int (nI k), .int (nI sd), .int tot2, .int mov2, .ref ak2, .ref an2, .int (nI h2), .int lo2])) := (xf6 h1 (Ne.symm hn0) (mw_oa h_w1_h1 h_w1_ak) (mw_oa h_w1_h1 h_w1_an)).trans h_w1_h1
        have h_w6_ak2 : w6 ak2 = some (eI cI (2 * k) f2) := (xf6 ak2 (mw_ao h_w1_ak2 h_w1_h0) (Ne.symm hd1) (Ne.symm hd3)).trans h_w1_ak2
        have h_w6_an2 : w6 an2 = some (eI cI (2 * k) g2) := (xf6 an2 (mw_ao h_w1_an2 h_w1_h0) (Ne.symm hd2) (Ne.symm hd4)).trans h_w1_an2
        have fr_w6 : ∀ zz : Nat, zz ≠ h0 → zz ≠ ak → zz ≠ an → w6 zz = w zz := fun zz g0 g1 g2 => (xf6 zz g0 g1 g2).trans (fr_w1 zz g0 g1 g2)
        refine mg_iinc C (v := nI (i + 1)) (lv' := [(3, .int (nI (i + 1))), (0, .ref h0), (1, .ref h1), (2, .ref h1)]) dX1_join_47 rfl (ni_inc _) (by decide) rfl ?_
        refine mg_goto C (tgt := 14) dX1_join_50 (by decide) ?_
        refine mg_sub (lv' := [(0, .ref h0), (1, .ref h1), (2, .ref h1), (3, .int (nI (i + 1)))]) [1, 2, 3, 0] rfl ?_
        exact ih14 ((i + 1)) (by omega) (by omega) w6 xh6 h_w6_h1 xk6 xn6 h_w6_ak2 h_w6_an2 (fun zz g0 g1 g2 => fr_w6 zz g0 g1 g2)
  refine mg_sub (lv' := [(0, .ref h0), (1, .ref h1), (2, .ref h1), (3, .int (nI 0))]) [2, 3, 1, 0] rfl ?_
  exact L14 (_ + 1) 0 (Nat.lt_succ_self _) (Nat.zero_le _) w hh hh1 hak han hak2 han2 (fun zz g0 g1 g2 => fr_w zz )

set_option maxHeartbeats 4000000 in
set_option maxRecDepth 20000 in
theorem c_X1_atLeast (D : va_G) (cI cS : ClassId) (w : mwT) (h0 ak an k sd h : Nat) (tot mov lo : Int32) (f g : Nat → Int32) (x : Int32) (hh : w h0 = some (.inr (1, [.int (nI 0), .int (nI k), .int (nI sd), .int tot, .int mov, .ref ak, .ref an, .int (nI h), .int lo]))) (hak : w ak = some (eI cI (2 * k) f)) (han : w an = some (eI cI (2 * k) g)) (hk1 : 1 ≤ k) (hk2 : k ≤ 20) (hh2 : h ≤ 2 * k) : mMi yX1_atLeast cX1_atLeast 3 (some .int) (rmL 2) [.ref h0, .int x] D cI cS w (fun r w1 => r = alH f g h x ∧ w1 = w) := by
  refine mMi.of (by decide) (Nat.le_of_ble_eq_true rfl) ?_
  intro X C hN hR
  refine mg_sub (lv' := [(0, .ref h0), (1, .int x)]) [0, 1] rfl ?_
  refine mg_iload_n C dX1_atLeast_0 rfl ?_
  refine mg_aload_n C dX1_atLeast_1 rfl ?_
  refine mg_get C inT1 hh rfl 5 (by decide) kw_65 (Or.inl rfl) rfl dX1_atLeast_2 ?_
  refine mg_aload_n C dX1_atLeast_5 rfl ?_
  refine mg_get C inT1 hh rfl 7 (by decide) kw_67 (Or.inl rfl) rfl dX1_atLeast_6 ?_
  refine mg_callN_i C (rest := []) (c_X6_placeFor D cI cS w x ak h (2 * k) f hak (by omega) (by omega)) yq_X6_placeFor kn_13 kw_271 ⟨by decide, by decide⟩ ⟨Nat.le_of_ble_eq_true rfl, Nat.le_of_ble_eq_true rfl⟩ (Nat.le_of_ble_eq_true rfl) rfl rfl dX1_atLeast_9 (fun r1 w1 ⟨⟨p1, xe1, xa1, xb1, xc1, xd1⟩, xk1⟩ => ?_)
  rw [xk1, xe1]
  have ep : p1 = plc f x h := plc_uniq xa1 xc1 (fun q => xd1 q (by omega))
  clear xc1 xd1
  subst ep
  have hpl := plc_le f x h
  refine mg_istore_n C (lv' := [(2, .int (nI (plc f x h))), (0, .ref h0), (1, .int x)]) dX1_atLeast_12 rfl (by decide) rfl ?_
  refine mg_iload_n C dX1_atLeast_13 rfl ?_
  refine mg_iload_n C dX1_atLeast_14 rfl ?_
  refine mg_aload_n C dX1_atLeast_15 rfl ?_
  refine mg_get C inT1 hh rfl 5 (by decide) kw_65 (Or.inl rfl) rfl dX1_atLeast_16 ?_
  refine mg_aload_n C dX1_atLeast_19 rfl ?_
  refine mg_get C inT1 hh rfl 7 (by decide) kw_67 (Or.inl rfl) rfl dX1_atLeast_20 ?_
  refine mg_callN_i C (rest := []) (c_X6_standsAt D cI cS w (plc f x h) x ak h (2 * k) f hak (by omega) (by omega) (by omega)) yq_X6_standsAt kn_14 kw_273 ⟨by decide, by decide⟩ ⟨Nat.le_of_ble_eq_true rfl, Nat.le_of_ble_eq_true rfl⟩ (Nat.le_of_ble_eq_true rfl) rfl rfl dX1_atLeast_23 (fun r2 w2 ⟨xa2, xk2⟩ => ?_)
  rw [xk2]
  rcases xa2 with ⟨ra, sta⟩ | ⟨ra, sta⟩
  · rw [ra]
    refine mg_ifN_eq C (tgt := 38) dX1_atLeast_26 (by decide) (by decide) (fun c_26 => absurd c_26 (by decide)) (fun c_26 => ?_)
    refine mg_aload_n C dX1_atLeast_29 rfl ?_
    refine mg_get C inT1 hh rfl 6 (by decide) kw_66 (Or.inl rfl) rfl dX1_atLeast_30 ?_
    refine mg_iload_n C dX1_atLeast_33 rfl ?_
    refine mg_ialdN C han (by omega) (by omega) dX1_atLeast_34 ?_
    refine mg_goto C (tgt := 39) dX1_atLeast_35 (by decide) ?_
    exact hR _ _ _ _ dX1_atLeast_39 ⟨(if_pos ⟨sta.1, sta.2.2⟩).symm, rfl⟩
  · rw [ra]
    refine mg_ifN_eq C (tgt := 38) dX1_atLeast_26 (by decide) (by decide) (fun c_26 => ?_) (fun c_26 => absurd c_26 (by decide))
    refine mg_iconst C (v := nI 0) dX1_atLeast_38 (by decide) ?_
    exact hR _ _ _ _ dX1_atLeast_39 ⟨(if_neg (fun q => sta ⟨q.1, by have := q.1; omega, q.2⟩)).symm, rfl⟩

set_option maxHeartbeats 4000000 in
set_option maxRecDepth 20000 in
theorem c_X1_atMost (D : va_G) (cI cS : ClassId) (w : mwT) (h0 ak an k sd h : Nat) (tot mov lo : Int32) (f g : Nat → Int32) (x : Int32) (hh : w h0 = some (.inr (1, [.int (nI 0), .int (nI k), .int (nI sd), .int tot, .int mov, .ref ak, .ref an, .int (nI h), .int lo]))) (hak : w ak = some (eI cI (2 * k) f)) (han : w an = some (eI cI (2 * k) g)) (hk1 : 1 ≤ k) (hk2 : k ≤ 20) (hh2 : h ≤ 2 * k) : mMi yX1_atMost cX1_atMost 2 (some .int) (rmL 3) [.ref h0, .int x] D cI cS w (fun r w1 => r = alH f g h x + lo ∧ w1 = w) := by
  refine mMi.of (by decide) (Nat.le_of_ble_eq_true rfl) ?_
  intro X C hN hR
  refine mg_sub (lv' := [(0, .ref h0), (1, .int x)]) [0, 1] rfl ?_
  refine mg_aload_n C dX1_atMost_0 rfl ?_
  refine mg_iload_n C dX1_atMost_1 rfl ?_
  refine mg_callV_i C hh rfl (rest := []) (c_X1_atLeast D cI cS w h0 ak an k sd h tot mov lo f g x hh hak han hk1 hk2 hh2) yq_X1_atLeast kw_492 kw_445 kw_493 ⟨by decide, by decide⟩ ⟨Nat.le_of_ble_eq_true rfl, Nat.le_of_ble_eq_true rfl⟩ (Nat.le_of_ble_eq_true rfl) rfl rfl dX1_atMost_2 (fun r1 w2 ⟨e_r1, e_w2⟩ => ?_)
  rw [e_w2, e_r1]
  refine mg_aload_n C dX1_atMost_5 rfl ?_
  refine mg_get C inT1 hh rfl 8 (by decide) kw_68 (Or.inl rfl) rfl dX1_atMost_6 ?_
  refine mg_iadd C (z := (alH f g h x) + lo) dX1_atMost_9 rfl ?_
  exact hR _ _ _ _ dX1_atMost_10 ⟨rfl, rfl⟩

set_option maxHeartbeats 4000000 in
set_option maxRecDepth 20000 in
theorem c_X1_keptAt (D : va_G) (cI cS : ClassId) (w : mwT) (h0 ak an k sd h : Nat) (tot mov lo : Int32) (f g : Nat → Int32) (i pt : Int32) (hh : w h0 = some (.inr (1, [.int (nI 0), .int (nI k), .int (nI sd), .int tot, .int mov, .ref ak, .ref an, .int (nI h), .int lo]))) (hak : w ak = some (eI cI (2 * k) f)) (han : w an = some (eI cI (2 * k) g)) (hk1 : 1 ≤ k) (hk2 : k ≤ 20) (hh2 : h ≤ 2 * k) : mMi yX1_keptAt cX1_keptAt 3 (some .int) (rmL 1) [.ref h0, .int i, .int pt] D cI cS w (fun r w1 => ((∃ a : Nat, a < h ∧ i = nI a ∧ ((pt = 0 ∧ r = f a) ∨ (pt = 1 ∧ r = g a))) ∨ (r = -1 ∧ ¬ (ixN h i ∧ (pt = 0 ∨ pt = 1)))) ∧ w1 = w) := by
  refine mMi.of (by decide) (Nat.le_of_ble_eq_true rfl) ?_
  intro X C hN hR
  refine mg_sub (lv' := [(0, .ref h0), (1, .int i), (2, .int pt)]) [0, 1, 2] rfl ?_
  refine mg_iload_n C dX1_keptAt_0 rfl ?_
  refine mg_if_lt C (tgt := 30) dX1_keptAt_1 (by decide) (fun c_1 => ?_) (fun c_1 => ?_)
  · refine mg_iconst C (v := (-1 : Int32)) dX1_keptAt_30 (by decide) ?_
    exact hR _ _ _ _ dX1_keptAt_31 ⟨Or.inr ⟨rfl, fun q => ix_lt (by omega) c_1 q.1⟩, rfl⟩
  · refine mg_iload_n C dX1_keptAt_4 rfl ?_
    refine mg_aload_n C dX1_keptAt_5 rfl ?_
    refine mg_get C inT1 hh rfl 7 (by decide) kw_67 (Or.inl rfl) rfl dX1_keptAt_6 ?_
    refine mg_icmp_ge C (tgt := 30) dX1_keptAt_9 (by decide) (fun c_9 => ?_) (fun c_9 => ?_)
    · refine mg_iconst C (v := (-1 : Int32)) dX1_keptAt_30 (by decide) ?_
      exact hR _ _ _ _ dX1_keptAt_31 ⟨Or.inr ⟨rfl, fun q => ix_ge (by omega) c_9 q.1⟩, rfl⟩
    · obtain ⟨a, ha, rfl⟩ := ix_of (by omega) c_1 c_9
      refine mg_iload_n C dX1_keptAt_12 rfl ?_
      refine mg_aload_n C dX1_keptAt_13 rfl ?_
      refine mg_get C inT1 hh rfl 5 (by decide) kw_65 (Or.inl rfl) rfl dX1_keptAt_14 ?_
      refine mg_alen C hak dX1_keptAt_17 ?_
      refine mg_icmpN_ge C (tgt := 30) dX1_keptAt_18 (by decide) (by omega) (by omega) (fun c_18 => absurd c_18 (by omega)) (fun c_18 => ?_)
      refine mg_iload_n C dX1_keptAt_21 rfl ?_
      refine mg_if_lt C (tgt := 30) dX1_keptAt_22 (by decide) (fun c_22 => ?_) (fun c_22 => ?_)
      · refine mg_iconst C (v := (-1 : Int32)) dX1_keptAt_30 (by decide) ?_
        exact hR _ _ _ _ dX1_keptAt_31 ⟨Or.inr ⟨rfl, fun q => pt_lt c_22 q.2⟩, rfl⟩
      · refine mg_iload_n C dX1_keptAt_25 rfl ?_
        refine mg_iconst C (v := nI 1) dX1_keptAt_26 (by decide) ?_
        refine mg_icmp_le C (tgt := 32) dX1_keptAt_27 (by decide) (fun c_27 => ?_) (fun c_27 => ?_)
        · refine mg_iload_n C dX1_keptAt_32 rfl ?_
          refine mg_if_ne C (tgt := 45) dX1_keptAt_33 (by decide) (fun c_33 => ?_) (fun c_33 => ?_)
          · refine mg_aload_n C dX1_keptAt_45 rfl ?_
            refine mg_get C inT1 hh rfl 6 (by decide) kw_66 (Or.inl rfl) rfl dX1_keptAt_46 ?_
            refine mg_iload_n C dX1_keptAt_49 rfl ?_
            refine mg_ialdN C han (by omega) (by omega) dX1_keptAt_50 ?_
            exact hR _ _ _ _ dX1_keptAt_51 ⟨Or.inl ⟨a, ha, rfl, Or.inr ⟨pt01 c_22 c_27 c_33, rfl⟩⟩, rfl⟩
          · refine mg_aload_n C dX1_keptAt_36 rfl ?_
            refine mg_get C inT1 hh rfl 5 (by decide) kw_65 (Or.inl rfl) rfl dX1_keptAt_37 ?_
            refine mg_iload_n C dX1_keptAt_40 rfl ?_
            refine mg_ialdN C hak (by omega) (by omega) dX1_keptAt_41 ?_
            refine mg_goto C (tgt := 51) dX1_keptAt_42 (by decide) ?_
            exact hR _ _ _ _ dX1_keptAt_51 ⟨Or.inl ⟨a, ha, rfl, Or.inl ⟨c_33, rfl⟩⟩, rfl⟩
        · refine mg_iconst C (v := (-1 : Int32)) dX1_keptAt_30 (by decide) ?_
          exact hR _ _ _ _ dX1_keptAt_31 ⟨Or.inr ⟨rfl, fun q => pt_gt c_27 q.2⟩, rfl⟩

set_option maxHeartbeats 4000000 in
set_option maxRecDepth 20000 in
theorem c_X1_howManyKept (D : va_G) (cI cS : ClassId) (w : mwT) (h0 ak an k sd h : Nat) (tot mov lo : Int32) (f g : Nat → Int32) (hh : w h0 = some (.inr (1, [.int (nI 0), .int (nI k), .int (nI sd), .int tot, .int mov, .ref ak, .ref an, .int (nI h), .int lo]))) (hak : w ak = some (eI cI (2 * k) f)) (han : w an = some (eI cI (2 * k) g)) : mMi yX1_howManyKept cX1_howManyKept 1 (some .int) (rmL 1) [.ref h0] D cI cS w (fun r w1 => r = nI h ∧ w1 = w) := by
  refine mMi.of (by decide) (Nat.le_of_ble_eq_true rfl) ?_
  intro X C hN hR
  refine mg_sub (lv' := [(0, .ref h0)]) [0] rfl ?_
  refine mg_aload_n C dX1_howManyKept_0 rfl ?_
  refine mg_get C inT1 hh rfl 7 (by decide) kw_67 (Or.inl rfl) rfl dX1_howManyKept_1 ?_
  exact hR _ _ _ _ dX1_howManyKept_4 ⟨rfl, rfl⟩

set_option maxHeartbeats 4000000 in
set_option maxRecDepth 20000 in
theorem c_X1_mayLack (D : va_G) (cI cS : ClassId) (w : mwT) (h0 ak an k sd h : Nat) (tot mov lo : Int32) (f g : Nat → Int32) (hh : w h0 = some (.inr (1, [.int (nI 0), .int (nI k), .int (nI sd), .int tot, .int mov, .ref ak, .ref an, .int (nI h), .int lo]))) (hak : w ak = some (eI cI (2 * k) f)) (han : w an = some (eI cI (2 * k) g)) : mMi yX1_mayLack cX1_mayLack 1 (some .int) (rmL 1) [.ref h0] D cI cS w (fun r w1 => r = lo ∧ w1 = w) := by
  refine mMi.of (by decide) (Nat.le_of_ble_eq_true rfl) ?_
  intro X C hN hR
  refine mg_sub (lv' := [(0, .ref h0)]) [0] rfl ?_
  refine mg_aload_n C dX1_mayLack_0 rfl ?_
  refine mg_get C inT1 hh rfl 8 (by decide) kw_68 (Or.inl rfl) rfl dX1_mayLack_1 ?_
  exact hR _ _ _ _ dX1_mayLack_4 ⟨rfl, rfl⟩

set_option maxHeartbeats 4000000 in
set_option maxRecDepth 20000 in
theorem c_X1_forget (D : va_G) (cI cS : ClassId) (w : mwT) (h0 ak an k sd h : Nat) (tot mov lo : Int32) (f g : Nat → Int32) (hh : w h0 = some (.inr (1, [.int (nI 0), .int (nI k), .int (nI sd), .int tot, .int mov, .ref ak, .ref an, .int (nI h), .int lo]))) (hak : w ak = some (eI cI (2 * k) f)) (han : w an = some (eI cI (2 * k) g)) : mMv yX1_forget cX1_forget 1 none (rmL 1) [.ref h0] D cI cS w (fun w1 => w1 h0 = some (.inr (1, [.int (nI 0), .int (nI k), .int (nI sd), .int tot, .int mov, .ref ak, .ref an, .int (nI 0), .int (nI 0)])) ∧ ∀ z : Nat, z ≠ h0 → w1 z = w z) := by
  refine mMv.of (by decide) (Nat.le_of_ble_eq_true rfl) ?_
  intro X C hN hR
  have fr_w : ∀ zz : Nat, w zz = w zz := fun _ => rfl
  refine mg_sub (lv' := [(0, .ref h0)]) [0] rfl ?_
  refine mg_aload_n C dX1_forget_0 rfl ?_
  refine mg_iconst C (v := nI 0) dX1_forget_1 (by decide) ?_
  refine mg_put C (fs' := [.int (nI 0), .int (nI k), .int (nI sd), .int tot, .int mov, .ref ak, .ref an, .int (nI 0), .int lo]) inT1 hh rfl 7 (by decide) kw_67 (Or.inl rfl) tyX1_ok nmX1 rfl rfl rfl rfl (Nat.le_of_ble_eq_true rfl) dX1_forget_2 (fun w1 e_w1 => ?_)
  have h_w1_h0 : w1 h0 = some (.inr (1, [.int (nI 0), .int (nI k), .int (nI sd), .int tot, .int mov, .ref ak, .ref an, .int (nI 0), .int lo])) := (congrFun e_w1 _).trans mwu_eq
  have h_w1_ak : w1 ak = some (eI cI (2 * k) f) := (congrFun e_w1 _).trans ((mwu_ne (mw_ao hak hh)).trans hak)
  have h_w1_an : w1 an = some (eI cI (2 * k) g) := (congrFun e_w1 _).trans ((mwu_ne (mw_ao han hh)).trans han)
  have fr_w1 : ∀ zz : Nat, zz ≠ h0 → w1 zz = w zz := fun zz g0 => (congrFun e_w1 zz).trans ((mwu_ne g0).trans (fr_w zz ))
  refine mg_aload_n C dX1_forget_5 rfl ?_
  refine mg_iconst C (v := nI 0) dX1_forget_6 (by decide) ?_
  refine mg_put C (fs' := [.int (nI 0), .int (nI k), .int (nI sd), .int tot, .int mov, .ref ak, .ref an, .int (nI 0), .int (nI 0)]) inT1 h_w1_h0 rfl 8 (by decide) kw_68 (Or.inl rfl) tyX1_ok nmX1 rfl rfl rfl rfl (Nat.le_of_ble_eq_true rfl) dX1_forget_7 (fun w2 e_w2 => ?_)
  have h_w2_h0 : w2 h0 = some (.inr (1, [.int (nI 0), .int (nI k), .int (nI sd), .int tot, .int mov, .ref ak, .ref an, .int (nI 0), .int (nI 0)])) := (congrFun e_w2 _).trans mwu_eq
  have h_w2_ak : w2 ak = some (eI cI (2 * k) f) := (congrFun e_w2 _).trans ((mwu_ne (mw_ao h_w1_ak h_w1_h0)).trans h_w1_ak)
  have h_w2_an : w2 an = some (eI cI (2 * k) g) := (congrFun e_w2 _).trans ((mwu_ne (mw_ao h_w1_an h_w1_h0)).trans h_w1_an)
  have fr_w2 : ∀ zz : Nat, zz ≠ h0 → w2 zz = w zz := fun zz g0 => (congrFun e_w2 zz).trans ((mwu_ne g0).trans (fr_w1 zz g0))
  exact hR _ _ _ dX1_forget_10 ⟨h_w2_h0, fr_w2⟩

set_option maxHeartbeats 4000000 in
set_option maxRecDepth 20000 in
theorem c_X1_init (D : va_G) (cI cS : ClassId) (w : mwT) (h0 k sd : Nat) (hh : w h0 = some (.inr (1, [.int 0, .int 0, .int 0, .int 0, .int 0, .null, .null, .int 0, .int 0]))) (hk1 : 1 ≤ k) (hk2 : k ≤ 20) : mMv yX1_init cX1_init 3 none (rmA 2 2 80) [.ref h0, .int (nI k), .int (nI sd)] D cI cS w (fun w1 => ∃ qa qb : Nat, w qa = none ∧ w qb = none ∧ qa ≠ qb ∧ w1 h0 = some (.inr (1, [.int (nI 0), .int (nI k), .int (nI sd), .int (nI 0), .int (nI 0), .ref qa, .ref qb, .int (nI 0), .int (nI 0)])) ∧ w1 qa = some (eI cI (2 * k) (fun _ => 0)) ∧ w1 qb = some (eI cI (2 * k) (fun _ => 0)) ∧ ∀ z : Nat, z ≠ h0 → z ≠ qa → z ≠ qb → w1 z = w z) := by
  refine mMv.of (by decide) (Nat.le_of_ble_eq_true rfl) ?_
  intro X C hN hR
  have fr_w : ∀ zz : Nat, w zz = w zz := fun _ => rfl
  refine mg_sub (lv' := [(0, .ref h0), (1, .int (nI k)), (2, .int (nI sd))]) [0, 1, 2] rfl ?_
  refine mg_aload_n C dX1_init_0 rfl ?_
  refine mg_iconst C (v := nI 0) dX1_init_1 (by decide) ?_
  refine mg_iload_n C dX1_init_2 rfl ?_
  refine mg_iload_n C dX1_init_3 rfl ?_
  refine mg_callI_v C (rest := []) (c_X4_init_H D cI cS w h0 0 k sd hh) yq_X4_init kw_69 kw_70 rfl ⟨by decide, by decide⟩ ⟨Nat.le_of_ble_eq_true rfl, Nat.le_of_ble_eq_true rfl⟩ (Nat.le_of_ble_eq_true rfl) rfl rfl dX1_init_4 (fun w1 ⟨xh1, xf1⟩ => ?_)
  refine mg_widen (k := 0) (n := 0) (by decide) (by decide) ?_
  have fr_w1 : ∀ zz : Nat, zz ≠ h0 → w1 zz = w zz := fun zz g0 => (xf1 zz g0).trans (fr_w zz )
  refine mg_aload_n C dX1_init_7 rfl ?_
  refine mg_iconst C (v := nI 2) dX1_init_8 (by decide) ?_
  refine mg_iload_n C dX1_init_9 rfl ?_
  refine mg_imul C (z := nI (2 * k)) dX1_init_10 (pk_mul _ _) ?_
  refine mg_newa C kw_19 (by omega) ⟨by decide, by (show 0 + (2 * k) ≤ 80; omega)⟩ dX1_init_11 (fun q2 w3 n_q2 e_w3 => ?_)
  refine mg_widen (k := 1) (n := 40) (by decide) (by omega) ?_
  have nd_q2_h0 : h0 ≠ q2 := mw_nn xh1 n_q2
  have nz_q2 : w q2 = none := (fr_w1 q2 (Ne.symm nd_q2_h0)).symm.trans n_q2
  have h_w3_h0 : w3 h0 = some (.inr (1, [.int (nI 0), .int (nI k), .int (nI sd), .int (nI 0), .int (nI 0), .null, .null, .int 0, .int 0])) := (congrFun e_w3 _).trans ((mwu_ne nd_q2_h0).trans xh1)
  have h_w3_q2 : w3 q2 = some (eI cI (2 * k) (fun _ => 0)) := (congrFun e_w3 _).trans mwu_eq
  have fr_w3 : ∀ zz : Nat, zz ≠ h0 → zz ≠ q2 → w3 zz = w zz := fun zz g0 g1 => (congrFun e_w3 zz).trans ((mwu_ne g1).trans (fr_w1 zz g0))
  refine mg_putF C (fs' := [.int (nI 0), .int (nI k), .int (nI sd), .int (nI 0), .int (nI 0), .ref q2, .null, .int 0, .int 0]) inT1 h_w3_h0 rfl 5 (by decide) kw_65 (Or.inl rfl) tyX1_ok nmX1 rfl hN rfl rfl rfl rfl (Nat.le_of_ble_eq_true rfl) dX1_init_13 (fun w4 e_w4 => ?_)
  have h_w4_h0 : w4 h0 = some (.inr (1, [.int (nI 0), .int (nI k), .int (nI sd), .int (nI 0), .int (nI 0), .ref q2, .null, .int 0, .int 0])) := (congrFun e_w4 _).trans mwu_eq
  have h_w4_q2 : w4 q2 = some (eI cI (2 * k) (fun _ => 0)) := (congrFun e_w4 _).trans ((mwu_ne (Ne.symm nd_q2_h0)).trans h_w3_q2)
  have fr_w4 : ∀ zz : Nat, zz ≠ h0 → zz ≠ q2 → w4 zz = w zz := fun zz g0 g1 => (congrFun e_w4 zz).trans ((mwu_ne g0).trans (fr_w3 zz g0 g1))
  refine mg_aload_n C dX1_init_16 rfl ?_
  refine mg_iconst C (v := nI 2) dX1_init_17 (by decide) ?_
  refine mg_iload_n C dX1_init_18 rfl ?_
  refine mg_imul C (z := nI (2 * k)) dX1_init_19 (pk_mul _ _) ?_
  refine mg_newa C kw_19 (by omega) ⟨by decide, by (show 40 + (2 * k) ≤ 80; omega)⟩ dX1_init_20 (fun q5 w6 n_q5 e_w6 => ?_)
  refine mg_widen (k := 2) (n := 80) (by decide) (by omega) ?_
  have nd_q5_h0 : h0 ≠ q5 := mw_nn h_w4_h0 n_q5
  have nd_q5_q2 : q2 ≠ q5 := mw_nn h_w4_q2 n_q5
  have nz_q5 : w q5 = none := (fr_w4 q5 (Ne.symm nd_q5_h0) (Ne.symm nd_q5_q2)).symm.trans n_q5
  have h_w6_h0 : w6 h0 = some (.inr (1, [.int (nI 0), .int (nI k), .int (nI sd), .int (nI 0), .int (nI 0), .ref q2, .null, .int 0, .int 0])) := (congrFun e_w6 _).trans ((mwu_ne nd_q5_h0).trans h_w4_h0)
  have h_w6_q2 : w6 q2 = some (eI cI (2 * k) (fun _ => 0)) := (congrFun e_w6 _).trans ((mwu_ne nd_q5_q2).trans h_w4_q2)
  have h_w6_q5 : w6 q5 = some (eI cI (2 * k) (fun _ => 0)) := (congrFun e_w6 _).trans mwu_eq
  have fr_w6 : ∀ zz : Nat, zz ≠ h0 → zz ≠ q2 → zz ≠ q5 → w6 zz = w zz := fun zz g0 g1 g2 => (congrFun e_w6 zz).trans ((mwu_ne g2).trans (fr_w4 zz g0 g1))
  refine mg_putF C (fs' := [.int (nI 0), .int (nI k), .int (nI sd), .int (nI 0), .int (nI 0), .ref q2, .ref q5, .int 0, .int 0]) inT1 h_w6_h0 rfl 6 (by decide) kw_66 (Or.inl rfl) tyX1_ok nmX1 rfl hN rfl rfl rfl rfl (Nat.le_of_ble_eq_true rfl) dX1_init_22 (fun w7 e_w7 => ?_)
  have h_w7_h0 : w7 h0 = some (.inr (1, [.int (nI 0), .int (nI k), .int (nI sd), .int (nI 0), .int (nI 0), .ref q2, .ref q5, .int 0, .int 0])) := (congrFun e_w7 _).trans mwu_eq
  have h_w7_q2 : w7 q2 = some (eI cI (2 * k) (fun _ => 0)) := (congrFun e_w7 _).trans ((mwu_ne (Ne.symm nd_q2_h0)).trans h_w6_q2)
  have h_w7_q5 : w7 q5 = some (eI cI (2 * k) (fun _ => 0)) := (congrFun e_w7 _).trans ((mwu_ne (Ne.symm nd_q5_h0)).trans h_w6_q5)
  have fr_w7 : ∀ zz : Nat, zz ≠ h0 → zz ≠ q2 → zz ≠ q5 → w7 zz = w zz := fun zz g0 g1 g2 => (congrFun e_w7 zz).trans ((mwu_ne g0).trans (fr_w6 zz g0 g1 g2))
  refine mg_aload_n C dX1_init_25 rfl ?_
  refine mg_iconst C (v := nI 0) dX1_init_26 (by decide) ?_
  refine mg_put C (fs' := [.int (nI 0), .int (nI k), .int (nI sd), .int (nI 0), .int (nI 0), .ref q2, .ref q5, .int (nI 0), .int 0]) inT1 h_w7_h0 rfl 7 (by decide) kw_67 (Or.inl rfl) tyX1_ok nmX1 rfl rfl rfl rfl (Nat.le_of_ble_eq_true rfl) dX1_init_27 (fun w8 e_w8 => ?_)
  have h_w8_h0 : w8 h0 = some (.inr (1, [.int (nI 0), .int (nI k), .int (nI sd), .int (nI 0), .int (nI 0), .ref q2, .ref q5, .int (nI 0), .int 0])) := (congrFun e_w8 _).trans mwu_eq
  have h_w8_q2 : w8 q2 = some (eI cI (2 * k) (fun _ => 0)) := (congrFun e_w8 _).trans ((mwu_ne (Ne.symm nd_q2_h0)).trans h_w7_q2)
  have h_w8_q5 : w8 q5 = some (eI cI (2 * k) (fun _ => 0)) := (congrFun e_w8 _).trans ((mwu_ne (Ne.symm nd_q5_h0)).trans h_w7_q5)
  have fr_w8 : ∀ zz : Nat, zz ≠ h0 → zz ≠ q2 → zz ≠ q5 → w8 zz = w zz := fun zz g0 g1 g2 => (congrFun e_w8 zz).trans ((mwu_ne g0).trans (fr_w7 zz g0 g1 g2))
  refine mg_aload_n C dX1_init_30 rfl ?_
  refine mg_iconst C (v := nI 0) dX1_init_31 (by decide) ?_
  refine mg_put C (fs' := [.int (nI 0), .int (nI k), .int (nI sd), .int (nI 0), .int (nI 0), .ref q2, .ref q5, .int (nI 0), .int (nI 0)]) inT1 h_w8_h0 rfl 8 (by decide) kw_68 (Or.inl rfl) tyX1_ok nmX1 rfl rfl rfl rfl (Nat.le_of_ble_eq_true rfl) dX1_init_32 (fun w9 e_w9 => ?_)
  have h_w9_h0 : w9 h0 = some (.inr (1, [.int (nI 0), .int (nI k), .int (nI sd), .int (nI 0), .int (nI 0), .ref q2, .ref q5, .int (nI 0), .int (nI 0)])) := (congrFun e_w9 _).trans mwu_eq
  have h_w9_q2 : w9 q2 = some (eI cI (2 * k) (fun _ => 0)) := (congrFun e_w9 _).trans ((mwu_ne (Ne.symm nd_q2_h0)).trans h_w8_q2)
  have h_w9_q5 : w9 q5 = some (eI cI (2 * k) (fun _ => 0)) := (congrFun e_w9 _).trans ((mwu_ne (Ne.symm nd_q5_h0)).trans h_w8_q5)
  have fr_w9 : ∀ zz : Nat, zz ≠ h0 → zz ≠ q2 → zz ≠ q5 → w9 zz = w zz := fun zz g0 g1 g2 => (congrFun e_w9 zz).trans ((mwu_ne g0).trans (fr_w8 zz g0 g1 g2))
  exact hR _ _ _ dX1_init_35 ⟨q2, q5, nz_q2, nz_q5, nd_q5_q2, h_w9_h0, h_w9_q2, h_w9_q5, fr_w9⟩

set_option maxHeartbeats 4000000 in
set_option maxRecDepth 20000 in
theorem c_X1_twin (D : va_G) (cI cS : ClassId) (w : mwT) (h0 ak an k sd h : Nat) (tot mov lo : Int32) (f g : Nat → Int32) (hh : w h0 = some (.inr (1, [.int (nI 0), .int (nI k), .int (nI sd), .int tot, .int mov, .ref ak, .ref an, .int (nI h), .int lo]))) (h_ak : w ak = some (eI cI (2 * k) f)) (h_an : w an = some (eI cI (2 * k) g)) (hk1 : 1 ≤ k) (hk2 : k ≤ 20) (hd_ak_an : ak ≠ an) : mMq yX1_twin cX1_twin 2 (some (.object "SketchSpans$Sketch")) (rmA 3 3 89) [.ref h0] D cI cS w (fun r w1 => ∃ q qa qb : Nat, r = some q ∧ w q = none ∧ w qa = none ∧ w qb = none ∧ q ≠ qa ∧ q ≠ qb ∧ qa ≠ qb ∧ w1 q = some (.inr (1, [.int (nI 0), .int (nI k), .int (nI sd), .int tot, .int mov, .ref qa, .ref qb, .int (nI h), .int lo])) ∧ w1 qa = some (eI cI (2 * k) (cpy0 f (fun _ => 0) (2 * k))) ∧ w1 qb = some (eI cI (2 * k) (cpy0 g (fun _ => 0) (2 * k))) ∧ ∀ z : Nat, z ≠ q → z ≠ qa → z ≠ qb → w1 z = w z) := by
  refine mMq.of (by decide) (Nat.le_of_ble_eq_true rfl) ?_
  intro X C hN hR
  have fr_w : ∀ zz : Nat, w zz = w zz := fun _ => rfl
  refine mg_sub (lv' := [(0, .ref h0)]) [0] rfl ?_
  refine mg_new C (ci := 1) (fs := [.int 0, .int 0, .int 0, .int 0, .int 0, .null, .null, .int 0, .int 0]) inT1 tyX1_ok kw_148 kw_48 kw_49 rfl df_X1 ⟨by decide, by decide⟩ dX1_twin_0 (fun q1 w2 n_q1 e_w2 => ?_)
  refine mg_widen (k := 1) (n := 9) (by decide) (by decide) ?_
  have nd_q1_h0 : h0 ≠ q1 := mw_nn hh n_q1
  have nd_q1_ak : ak ≠ q1 := mw_nn h_ak n_q1
  have nd_q1_an : an ≠ q1 := mw_nn h_an n_q1
  have nz_q1 : w q1 = none := (fr_w q1 ).symm.trans n_q1
  have h_w2_h0 : w2 h0 = some (.inr (1, [.int (nI 0), .int (nI k), .int (nI sd), .int tot, .int mov, .ref ak, .ref an, .int (nI h), .int lo])) := (congrFun e_w2 _).trans ((mwu_ne nd_q1_h0).trans hh)
  have h_w2_ak : w2 ak = some (eI cI (2 * k) f) := (congrFun e_w2 _).trans ((mwu_ne nd_q1_ak).trans h_ak)
  have h_w2_an : w2 an = some (eI cI (2 * k) g) := (congrFun e_w2 _).trans ((mwu_ne nd_q1_an).trans h_an)
  have h_w2_q1 : w2 q1 = some (.inr (1, [.int 0, .int 0, .int 0, .int 0, .int 0, .null, .null, .int 0, .int 0])) := (congrFun e_w2 _).trans mwu_eq
  have fr_w2 : ∀ zz : Nat, zz ≠ q1 → w2 zz = w zz := fun zz g0 => (congrFun e_w2 zz).trans ((mwu_ne g0).trans (fr_w zz ))
  refine mg_dup C dX1_twin_3 rfl ?_
  refine mg_aload_n C dX1_twin_4 rfl ?_
  refine mg_get C inT1 h_w2_h0 rfl 1 (by decide) kw_149 (Or.inr kw_150) rfl dX1_twin_5 ?_
  refine mg_aload_n C dX1_twin_8 rfl ?_
  refine mg_get C inT1 h_w2_h0 rfl 2 (by decide) kw_151 (Or.inr kw_152) rfl dX1_twin_9 ?_
  refine mg_callI_v C (rest := [.ref q1]) (c_X1_init D cI cS w2 q1 k sd h_w2_q1 hk1 hk2) yq_X1_init kw_153 kw_63 rfl ⟨by decide, by decide⟩ ⟨Nat.le_of_ble_eq_true rfl, Nat.le_of_ble_eq_true rfl⟩ (Nat.le_of_ble_eq_true rfl) rfl rfl dX1_twin_12 (fun w3 ⟨q3a, q3b, n_q3a, n_q3b, dd_q3b_q3a, xh3, xkq3a, xkq3b, xf3⟩ => ?_)
  refine mg_widen (k := 3) (n := 89) (by decide) (by decide) ?_
  have nd_q3a_h0 : h0 ≠ q3a := mw_nn h_w2_h0 n_q3a
  have nd_q3a_ak : ak ≠ q3a := mw_nn h_w2_ak n_q3a
  have nd_q3a_an : an ≠ q3a := mw_nn h_w2_an n_q3a
  have nd_q3a_q1 : q1 ≠ q3a := mw_nn h_w2_q1 n_q3a
  have nz_q3a : w q3a = none := (fr_w2 q3a (Ne.symm nd_q3a_q1)).symm.trans n_q3a
  have nd_q3b_h0 : h0 ≠ q3b := mw_nn h_w2_h0 n_q3b
  have nd_q3b_ak : ak ≠ q3b := mw_nn h_w2_ak n_q3b
  have nd_q3b_an : an ≠ q3b := mw_nn h_w2_an n_q3b
  have nd_q3b_q1 : q1 ≠ q3b := mw_nn h_w2_q1 n_q3b
  have nz_q3b : w q3b = none := (fr_w2 q3b (Ne.symm nd_q3b_q1)).symm.trans n_q3b
  have h_w3_h0 : w3 h0 = some (.inr (1, [.int (nI 0), .int (nI k), .int (nI sd), .int tot, .int mov, .ref ak, .ref an, .int (nI h), .int lo])) := (xf3 h0 nd_q1_h0 (mw_nn h_w2_h0 n_q3a) (mw_nn h_w2_h0 n_q3b)).trans h_w2_h0
  have h_w3_ak : w3 ak = some (eI cI (2 * k) f) := (xf3 ak nd_q1_ak (mw_nn h_w2_ak n_q3a) (mw_nn h_w2_ak n_q3b)).trans h_w2_ak
  have h_w3_an : w3 an = some (eI cI (2 * k) g) := (xf3 an nd_q1_an (mw_nn h_w2_an n_q3a) (mw_nn h_w2_an n_q3b)).trans h_w2_an
  have fr_w3 : ∀ zz : Nat, zz ≠ q1 → zz ≠ q3a → zz ≠ q3b → w3 zz = w zz := fun zz g0 g1 g2 => (xf3 zz g0 g1 g2).trans (fr_w2 zz g0)
  refine mg_astore_n C (lv' := [(1, .ref q1), (0, .ref h0)]) dX1_twin_15 rfl (by decide) rfl ?_
  refine mg_aload_n C dX1_twin_16 rfl ?_
  refine mg_aload_n C dX1_twin_17 rfl ?_
  refine mg_callU_v C xh3 rfl (rest := []) (c_X4_copyTotals_H D cI cS w3 q1 h0 0 k sd (nI 0) (nI 0) tot mov (.ref q3a) (.ref ak) (.ref q3b) (.ref an) (.int (nI 0)) (.int (nI h)) (.int (nI 0)) (.int lo) xh3 h_w3_h0 (Ne.symm nd_q1_h0)) yq_X4_copyTotals kw_154 kw_155 dq_copyTotals (by decide +kernel) kw_141 kw_156 ⟨by decide, by decide⟩ ⟨Nat.le_of_ble_eq_true rfl, Nat.le_of_ble_eq_true rfl⟩ (Nat.le_of_ble_eq_true rfl) rfl rfl dX1_twin_18 (fun w4 ⟨xh4, xf4⟩ => ?_)
  refine mg_widen (k := 3) (n := 89) (by decide) (by decide) ?_
  have h_w4_h0 : w4 h0 = some (.inr (1, [.int (nI 0), .int (nI k), .int (nI sd), .int tot, .int mov, .ref ak, .ref an, .int (nI h), .int lo])) := (xf4 h0 nd_q1_h0).trans h_w3_h0
  have h_w4_ak : w4 ak = some (eI cI (2 * k) f) := (xf4 ak nd_q1_ak).trans h_w3_ak
  have h_w4_an : w4 an = some (eI cI (2 * k) g) := (xf4 an nd_q1_an).trans h_w3_an
  have h_w4_q3a : w4 q3a = some (eI cI (2 * k) (fun _ => 0)) := (xf4 q3a (Ne.symm nd_q3a_q1)).trans xkq3a
  have h_w4_q3b : w4 q3b = some (eI cI (2 * k) (fun _ => 0)) := (xf4 q3b (Ne.symm nd_q3b_q1)).trans xkq3b
  have fr_w4 : ∀ zz : Nat, zz ≠ q1 → zz ≠ q3a → zz ≠ q3b → w4 zz = w zz := fun zz g0 g1 g2 => (xf4 zz g0).trans (fr_w3 zz g0 g1 g2)
  refine mg_aload_n C dX1_twin_21 rfl ?_
  refine mg_get C inT1 h_w4_h0 rfl 5 (by decide) kw_65 (Or.inl rfl) rfl dX1_twin_22 ?_
  refine mg_aload_n C dX1_twin_25 rfl ?_
  refine mg_get C inT1 xh4 rfl 5 (by decide) kw_65 (Or.inl rfl) rfl dX1_twin_26 ?_
  refine mg_callN_v C (rest := []) (c_X6_copyRow D cI cS w4 ak q3a (2 * k) f (fun _ => 0) h_w4_ak h_w4_q3a (by omega) nd_q3a_ak) yq_X6_copyRow kn_3 kw_143 ⟨by decide, by decide⟩ ⟨Nat.le_of_ble_eq_true rfl, Nat.le_of_ble_eq_true rfl⟩ (Nat.le_of_ble_eq_true rfl) rfl rfl dX1_twin_29 (fun w5 ⟨xh5, xf5⟩ => ?_)
  refine mg_widen (k := 3) (n := 89) (by decide) (by decide) ?_
  have h_w5_h0 : w5 h0 = some (.inr (1, [.int (nI 0), .int (nI k), .int (nI sd), .int tot, .int mov, .ref ak, .ref an, .int (nI h), .int lo])) := (xf5 h0 nd_q3a_h0).trans h_w4_h0
  have h_w5_ak : w5 ak = some (eI cI (2 * k) f) := (xf5 ak nd_q3a_ak).trans h_w4_ak
  have h_w5_an : w5 an = some (eI cI (2 * k) g) := (xf5 an nd_q3a_an).trans h_w4_an
  have h_w5_q1 : w5 q1 = some (.inr (1, [.int (nI 0), .int (nI k), .int (nI sd), .int tot, .int mov, .ref q3a, .ref q3b, .int (nI 0), .int (nI 0)])) := (xf5 q1 nd_q3a_q1).trans xh4
  have h_w5_q3b : w5 q3b = some (eI cI (2 * k) (fun _ => 0)) := (xf5 q3b (Ne.symm dd_q3b_q3a)).trans h_w4_q3b
  have fr_w5 : ∀ zz : Nat, zz ≠ q1 → zz ≠ q3a → zz ≠ q3b → w5 zz = w zz := fun zz g0 g1 g2 => (xf5 zz g1).trans (fr_w4 zz g0 g1 g2)
  refine mg_aload_n C dX1_twin_32 rfl ?_
  refine mg_get C inT1 h_w5_h0 rfl 6 (by decide) kw_66 (Or.inl rfl) rfl dX1_twin_33 ?_
  refine mg_aload_n C dX1_twin_36 rfl ?_
  refine mg_get C inT1 h_w5_q1 rfl 6 (by decide) kw_66 (Or.inl rfl) rfl dX1_twin_37 ?_
  refine mg_callN_v C (rest := []) (c_X6_copyRow D cI cS w5 an q3b (2 * k) g (fun _ => 0) h_w5_an h_w5_q3b (by omega) nd_q3b_an) yq_X6_copyRow kn_3 kw_143 ⟨by decide, by decide⟩ ⟨Nat.le_of_ble_eq_true rfl, Nat.le_of_ble_eq_true rfl⟩ (Nat.le_of_ble_eq_true rfl) rfl rfl dX1_twin_40 (fun w6 ⟨xh6, xf6⟩ => ?_)
  refine mg_widen (k := 3) (n := 89) (by decide) (by decide) ?_
  have h_w6_h0 : w6 h0 = some (.inr (1, [.int (nI 0), .int (nI k), .int (nI sd), .int tot, .int mov, .ref ak, .ref an, .int (nI h), .int lo])) := (xf6 h0 nd_q3b_h0).trans h_w5_h0
  have h_w6_ak : w6 ak = some (eI cI (2 * k) f) := (xf6 ak nd_q3b_ak).trans h_w5_ak
  have h_w6_an : w6 an = some (eI cI (2 * k) g) := (xf6 an nd_q3b_an).trans h_w5_an
  have h_w6_q1 : w6 q1 = some (.inr (1, [.int (nI 0), .int (nI k), .int (nI sd), .int tot, .int mov, .ref q3a, .ref q3b, .int (nI 0), .int (nI 0)])) := (xf6 q1 nd_q3b_q1).trans h_w5_q1
  have h_w6_q3a : w6 q3a = some (eI cI (2 * k) (cpy0 f (fun _ => 0) (2 * k))) := (xf6 q3a dd_q3b_q3a).trans xh5
  have fr_w6 : ∀ zz : Nat, zz ≠ q1 → zz ≠ q3a → zz ≠ q3b → w6 zz = w zz := fun zz g0 g1 g2 => (xf6 zz g2).trans (fr_w5 zz g0 g1 g2)
  refine mg_aload_n C dX1_twin_43 rfl ?_
  refine mg_aload_n C dX1_twin_44 rfl ?_
  refine mg_get C inT1 h_w6_h0 rfl 7 (by decide) kw_67 (Or.inl rfl) rfl dX1_twin_45 ?_
  refine mg_put C (fs' := [.int (nI 0), .int (nI k), .int (nI sd), .int tot, .int mov, .ref q3a, .ref q3b, .int (nI h), .int (nI 0)]) inT1 h_w6_q1 rfl 7 (by decide) kw_67 (Or.inl rfl) tyX1_ok nmX1 rfl rfl rfl rfl (Nat.le_of_ble_eq_true rfl) dX1_twin_48 (fun w7 e_w7 => ?_)
  have h_w7_h0 : w7 h0 = some (.inr (1, [.int (nI 0), .int (nI k), .int (nI sd), .int tot, .int mov, .ref ak, .ref an, .int (nI h), .int lo])) := (congrFun e_w7 _).trans ((mwu_ne nd_q1_h0).trans h_w6_h0)
  have h_w7_ak : w7 ak = some (eI cI (2 * k) f) := (congrFun e_w7 _).trans ((mwu_ne nd_q1_ak).trans h_w6_ak)
  have h_w7_an : w7 an = some (eI cI (2 * k) g) := (congrFun e_w7 _).trans ((mwu_ne nd_q1_an).trans h_w6_an)
  have h_w7_q1 : w7 q1 = some (.inr (1, [.int (nI 0), .int (nI k), .int (nI sd), .int tot, .int mov, .ref q3a, .ref q3b, .int (nI h), .int (nI 0)])) := (congrFun e_w7 _).trans mwu_eq
  have h_w7_q3a : w7 q3a = some (eI cI (2 * k) (cpy0 f (fun _ => 0) (2 * k))) := (congrFun e_w7 _).trans ((mwu_ne (Ne.symm nd_q3a_q1)).trans h_w6_q3a)
  have h_w7_q3b : w7 q3b = some (eI cI (2 * k) (cpy0 g (fun _ => 0) (2 * k))) := (congrFun e_w7 _).trans ((mwu_ne (Ne.symm nd_q3b_q1)).trans xh6)
  have fr_w7 : ∀ zz : Nat, zz ≠ q1 → zz ≠ q3a → zz ≠ q3b → w7 zz = w zz := fun zz g0 g1 g2 => (congrFun e_w7 zz).trans ((mwu_ne g0).trans (fr_w6 zz g0 g1 g2))
  refine mg_aload_n C dX1_twin_51 rfl ?_
  refine mg_aload_n C dX1_twin_52 rfl ?_
  refine mg_get C inT1 h_w7_h0 rfl 8 (by decide) kw_68 (Or.inl rfl) rfl dX1_twin_53 ?_
  refine mg_put C (fs' := [.int (nI 0), .int (nI k), .int (nI sd), .int tot, .int mov, .ref q3a, .ref q3b, .int (nI h), .int lo]) inT1 h_w7_q1 rfl 8 (by decide) kw_68 (Or.inl rfl) tyX1_ok nmX1 rfl rfl rfl rfl (Nat.le_of_ble_eq_true rfl) dX1_twin_56 (fun w8 e_w8 => ?_)
  have h_w8_h0 : w8 h0 = some (.inr (1, [.int (nI 0), .int (nI k), .int (nI sd), .int tot, .int mov, .ref ak, .ref an, .int (nI h), .int lo])) := (congrFun e_w8 _).trans ((mwu_ne nd_q1_h0).trans h_w7_h0)
  have h_w8_ak : w8 ak = some (eI cI (2 * k) f) := (congrFun e_w8 _).trans ((mwu_ne nd_q1_ak).trans h_w7_ak)
  have h_w8_an : w8 an = some (eI cI (2 * k) g) := (congrFun e_w8 _).trans ((mwu_ne nd_q1_an).trans h_w7_an)
  have h_w8_q1 : w8 q1 = some (.inr (1, [.int (nI 0), .int (nI k), .int (nI sd), .int tot, .int mov, .ref q3a, .ref q3b, .int (nI h), .int lo])) := (congrFun e_w8 _).trans mwu_eq
  have h_w8_q3a : w8 q3a = some (eI cI (2 * k) (cpy0 f (fun _ => 0) (2 * k))) := (congrFun e_w8 _).trans ((mwu_ne (Ne.symm nd_q3a_q1)).trans h_w7_q3a)
  have h_w8_q3b : w8 q3b = some (eI cI (2 * k) (cpy0 g (fun _ => 0) (2 * k))) := (congrFun e_w8 _).trans ((mwu_ne (Ne.symm nd_q3b_q1)).trans h_w7_q3b)
  have fr_w8 : ∀ zz : Nat, zz ≠ q1 → zz ≠ q3a → zz ≠ q3b → w8 zz = w zz := fun zz g0 g1 g2 => (congrFun e_w8 zz).trans ((mwu_ne g0).trans (fr_w7 zz g0 g1 g2))
  refine mg_aload_n C dX1_twin_59 rfl ?_
  exact hR (some q1) _ _ _ dX1_twin_60 ⟨q1, q3a, q3b, rfl, nz_q1, nz_q3a, nz_q3b, nd_q3a_q1, nd_q3b_q1, dd_q3b_q3a, h_w8_q1, h_w8_q3a, h_w8_q3b, fr_w8⟩
