set_option maxHeartbeats 4000000 in
set_option maxRecDepth 20000 in
theorem c_X3_keyAt (D : va_G) (cI cS : ClassId) (w : mwT) (h0 ak al aw k sd : Nat) (tot mov er : Int32) (f : Nat → Int32) (ln tr : Nat → Nat) (b i : Nat) (hh : w h0 = some (.inr (3, [.int (nI 4), .int (nI k), .int (nI sd), .int tot, .int mov, .ref ak, .ref al, .ref aw, .int er]))) (hak : w ak = some (eI cI (31 * k) f)) (hal : w al = some (eI cI 31 (lnF ln))) (haw : w aw = some (eI cI 31 (lnF tr))) (hk1 : 4 ≤ k) (hk2 : k ≤ 32) (hb : b < 31) (hi : i < k) : mMi yX3_keyAt cX3_keyAt 4 (some .int) (rmL 1) [.ref h0, .int (nI b), .int (nI i)] D cI cS w (fun r w1 => r = f (b * k + i) ∧ w1 = w) := by
  refine mMi.of (by decide) (Nat.le_of_ble_eq_true rfl) ?_
  intro X C hN hR
  refine mg_sub (lv' := [(0, .ref h0), (1, .int (nI b)), (2, .int (nI i))]) [0, 1, 2] rfl ?_
  have hbk := bk_le (k := k) hb
  refine mg_iload_n C dX3_keyAt_0 rfl ?_
  refine mg_aload_n C dX3_keyAt_1 rfl ?_
  refine mg_get C inT3 hh rfl 1 (by decide) kw_173 (Or.inr kw_174) rfl dX3_keyAt_2 ?_
  refine mg_imul C (z := nI (b * k)) dX3_keyAt_5 (pk_mul _ _) ?_
  refine mg_iload_n C dX3_keyAt_6 rfl ?_
  refine mg_iadd C (z := nI ((b * k) + i)) dX3_keyAt_7 (nI_add _ _) ?_
  refine mg_istore_n C (lv' := [(3, .int (nI ((b * k) + i))), (0, .ref h0), (1, .int (nI b)), (2, .int (nI i))]) dX3_keyAt_8 rfl (by decide) rfl ?_
  refine mg_iload_n C dX3_keyAt_9 rfl ?_
  refine mg_ifN_lt C (tgt := 22) dX3_keyAt_10 (by decide) (by omega) ?_
  refine mg_iload_n C dX3_keyAt_13 rfl ?_
  refine mg_aload_n C dX3_keyAt_14 rfl ?_
  refine mg_get C inT3 hh rfl 5 (by decide) kw_98 (Or.inl rfl) rfl dX3_keyAt_15 ?_
  refine mg_alen C hak dX3_keyAt_18 ?_
  refine mg_icmpN_lt C (tgt := 26) dX3_keyAt_19 (by decide) (by omega) (by omega) (fun c_19 => ?_) (fun c_19 => absurd c_19 (by omega))
  refine mg_aload_n C dX3_keyAt_26 rfl ?_
  refine mg_get C inT3 hh rfl 5 (by decide) kw_98 (Or.inl rfl) rfl dX3_keyAt_27 ?_
  refine mg_iload_n C dX3_keyAt_30 rfl ?_
  refine mg_ialdN C hak (by omega) (by omega) dX3_keyAt_31 ?_
  exact hR _ _ _ _ dX3_keyAt_32 ⟨rfl, rfl⟩

set_option maxHeartbeats 4000000 in
set_option maxRecDepth 20000 in
theorem c_X3_sortBuffer (D : va_G) (cI cS : ClassId) (w : mwT) (h0 ak al aw k sd : Nat) (tot mov er : Int32) (f : Nat → Int32) (ln tr : Nat → Nat) (b : Nat) (hh : w h0 = some (.inr (3, [.int (nI 4), .int (nI k), .int (nI sd), .int tot, .int mov, .ref ak, .ref al, .ref aw, .int er]))) (hak : w ak = some (eI cI (31 * k) f)) (hal : w al = some (eI cI 31 (lnF ln))) (haw : w aw = some (eI cI 31 (lnF tr))) (hk1 : 4 ≤ k) (hk2 : k ≤ 32) (hb : b < 31) (hd1 : ak ≠ al) (hd2 : ak ≠ aw) (hd3 : al ≠ aw) : mMv yX3_sortBuffer cX3_sortBuffer 6 none (rmL 1) [.ref h0, .int (nI b)] D cI cS w (fun w1 => w1 ak = some (eI cI (31 * k) (srtO f (b * k) (k - 1))) ∧ ∀ z : Nat, z ≠ ak → w1 z = w z) := by
  refine mMv.of (by decide) (Nat.le_of_ble_eq_true rfl) ?_
  intro X C hN hR
  have fr_w : ∀ zz : Nat, w zz = w zz := fun _ => rfl
  refine mg_sub (lv' := [(0, .ref h0), (1, .int (nI b))]) [0, 1] rfl ?_
  have hbk := bk_le (k := k) hb
  refine mg_iload_n C dX3_sortBuffer_0 rfl ?_
  refine mg_aload_n C dX3_sortBuffer_1 rfl ?_
  refine mg_get C inT3 hh rfl 1 (by decide) kw_173 (Or.inr kw_174) rfl dX3_sortBuffer_2 ?_
  refine mg_imul C (z := nI (b * k)) dX3_sortBuffer_5 (pk_mul _ _) ?_
  refine mg_istore_n C (lv' := [(2, .int (nI (b * k))), (0, .ref h0), (1, .int (nI b))]) dX3_sortBuffer_6 rfl (by decide) rfl ?_
  refine mg_iload_n C dX3_sortBuffer_7 rfl ?_
  refine mg_iconst C (v := nI 1) dX3_sortBuffer_8 (by decide) ?_
  refine mg_iadd C (z := nI ((b * k) + 1)) dX3_sortBuffer_9 (nI_add _ _) ?_
  refine mg_istore_n C (lv' := [(3, .int (nI ((b * k) + 1))), (2, .int (nI (b * k))), (0, .ref h0), (1, .int (nI b))]) dX3_sortBuffer_10 rfl (by decide) rfl ?_
  have L11 : ∀ (M11 : Nat) (m : Nat), k - m < M11 → (m + 1 ≤ k) → ∀ (w1 : mwT), w1 h0 = some (.inr (3, [.int (nI 4), .int (nI k), .int (nI sd), .int tot, .int mov, .ref ak, .ref al, .ref aw, .int er])) → w1 ak = some (eI cI (31 * k) (srtO f (b * k) m)) → w1 al = some (eI cI 31 (lnF ln)) → w1 aw = some (eI cI 31 (lnF tr)) → (∀ zz : Nat, zz ≠ ak → w1 zz = w zz) → mwG X 0 0 w1 [(0, .ref h0), (1, .int (nI b)), (2, .int (nI (b * k))), (3, .int (nI (b * k + m + 1)))] [] 11 := by
    intro M11
    induction M11 with
    | zero => intro m hm11; exact absurd hm11 (Nat.not_lt_zero _)
    | succ M11 ih11 =>
      intro m hm11 hm1 w1 h_w1_h0 h_w1_ak h_w1_al h_w1_aw fr_w1
      refine mg_iload_n C dX3_sortBuffer_11 rfl ?_
      refine mg_iload_n C dX3_sortBuffer_12 rfl ?_
      refine mg_aload_n C dX3_sortBuffer_13 rfl ?_
      refine mg_get C inT3 h_w1_h0 rfl 1 (by decide) kw_173 (Or.inr kw_174) rfl dX3_sortBuffer_14 ?_
      refine mg_iadd C (z := nI ((b * k) + k)) dX3_sortBuffer_17 (nI_add _ _) ?_
      refine mg_icmpN_ge C (tgt := 98) dX3_sortBuffer_18 (by decide) (by omega) (by omega) (fun c_18 => ?_) (fun c_18 => ?_)
      · have em : m = k - 1 := by omega
        rw [em] at h_w1_ak
        exact hR _ _ _ dX3_sortBuffer_98 ⟨h_w1_ak, fr_w1⟩
      · refine mg_iload_n C dX3_sortBuffer_21 rfl ?_
        refine mg_aload_n C dX3_sortBuffer_22 rfl ?_
        refine mg_get C inT3 h_w1_h0 rfl 5 (by decide) kw_98 (Or.inl rfl) rfl dX3_sortBuffer_23 ?_
        refine mg_alen C h_w1_ak dX3_sortBuffer_26 ?_
        refine mg_icmpN_ge C (tgt := 98) dX3_sortBuffer_27 (by decide) (by omega) (by omega) (fun c_27 => absurd c_27 (by omega)) (fun c_27 => ?_)
        refine mg_aload_n C dX3_sortBuffer_30 rfl ?_
        refine mg_get C inT3 h_w1_h0 rfl 5 (by decide) kw_98 (Or.inl rfl) rfl dX3_sortBuffer_31 ?_
        refine mg_iload_n C dX3_sortBuffer_34 rfl ?_
        refine mg_ialdN C h_w1_ak (by omega) (by omega) dX3_sortBuffer_35 ?_
        refine mg_istore C (lv' := [(4, .int ((srtO f (b * k) m) (b * k + m + 1))), (0, .ref h0), (1, .int (nI b)), (2, .int (nI (b * k))), (3, .int (nI (b * k + m + 1)))]) dX3_sortBuffer_36 (by decide) rfl ?_
        refine mg_iload_n C dX3_sortBuffer_38 rfl ?_
        refine mg_istore C (lv' := [(5, .int (nI (b * k + m + 1))), (4, .int ((srtO f (b * k) m) (b * k + m + 1))), (0, .ref h0), (1, .int (nI b)), (2, .int (nI (b * k))), (3, .int (nI (b * k + m + 1)))]) dX3_sortBuffer_39 (by decide) rfl ?_
        have L41 : ∀ (M41 : Nat) (n : Nat) (fc : Nat → Int32), n < M41 → (n ≤ m + 1) → (srtI (b * k) (srtO f (b * k) m (b * k + m + 1)) n fc = (srtI (b * k) (srtO f (b * k) m (b * k + m + 1)) (m + 1) (srtO f (b * k) m))) → ∀ (w2 : mwT), w2 h0 = some (.inr (3, [.int (nI 4), .int (nI k), .int (nI sd), .int tot, .int mov, .ref ak, .ref al, .ref aw, .int er])) → w2 ak = some (eI cI (31 * k) fc) → w2 al = some (eI cI 31 (lnF ln)) → w2 aw = some (eI cI 31 (lnF tr)) → (∀ zz : Nat, zz ≠ ak → w2 zz = w zz) → mwG X 0 0 w2 [(0, .ref h0), (1, .int (nI b)), (2, .int (nI (b * k))), (3, .int (nI (b * k + m + 1))), (4, .int ((srtO f (b * k) m (b * k + m + 1)))), (5, .int (nI (b * k + n)))] [] 41 := by
          intro M41
          induction M41 with
          | zero => intro n fc hm41; exact absurd hm41 (Nat.not_lt_zero _)
          | succ M41 ih41 =>
            intro n fc hm41 hn hri w2 h_w2_h0 h_w2_ak h_w2_al h_w2_aw fr_w2
            refine mg_iload C dX3_sortBuffer_41 rfl ?_
            refine mg_iload_n C dX3_sortBuffer_43 rfl ?_
            refine mg_icmpN_le C (tgt := 83) dX3_sortBuffer_44 (by decide) (by omega) (by omega) (fun c_44 => ?_) (fun c_44 => ?_)
            · have en : n = 0 := by omega
              have hres : (srtI (b * k) (srtO f (b * k) m (b * k + m + 1)) (m + 1) (srtO f (b * k) m)) = (fc, n) := by rw [← hri, en]; rfl
              refine mg_aload_n C dX3_sortBuffer_83 rfl ?_
              refine mg_get C inT3 h_w2_h0 rfl 5 (by decide) kw_98 (Or.inl rfl) rfl dX3_sortBuffer_84 ?_
              refine mg_iload C dX3_sortBuffer_87 rfl ?_
              refine mg_iload C dX3_sortBuffer_89 rfl ?_
              refine mg_iastN C h_w2_ak (by omega) (by omega) dX3_sortBuffer_91 (fun w3 e_w3 => ?_)
              have h_w3_h0 : w3 h0 = some (.inr (3, [.int (nI 4), .int (nI k), .int (nI sd), .int tot, .int mov, .ref ak, .ref al, .ref aw, .int er])) := (congrFun e_w3 _).trans ((mwu_ne (mw_oa h_w2_h0 h_w2_ak)).trans h_w2_h0)
              have h_w3_ak : w3 ak = some (eI cI (31 * k) (upd fc (b * k + n) ((srtO f (b * k) m (b * k + m + 1))))) := (congrFun e_w3 _).trans mwu_eq
              have h_w3_al : w3 al = some (eI cI 31 (lnF ln)) := (congrFun e_w3 _).trans ((mwu_ne (Ne.symm hd1)).trans h_w2_al)
              have h_w3_aw : w3 aw = some (eI cI 31 (lnF tr)) := (congrFun e_w3 _).trans ((mwu_ne (Ne.symm hd2)).trans h_w2_aw)
              have fr_w3 : ∀ zz : Nat, zz ≠ ak → w3 zz = w zz := fun zz g0 => (congrFun e_w3 zz).trans ((mwu_ne g0).trans (fr_w2 zz g0))
              have h92 : w3 ak = some (eI cI (31 * k) (srtO f (b * k) (m + 1))) := by
                rw [h_w3_ak]
                show some (eI cI (31 * k) _) = some (eI cI (31 * k) (upd (srtI (b * k) (srtO f (b * k) m (b * k + m + 1)) (m + 1) (srtO f (b * k) m)).1 (b * k + (srtI (b * k) (srtO f (b * k) m (b * k + m + 1)) (m + 1) (srtO f (b * k) m)).2) (srtO f (b * k) m (b * k + m + 1))))
                rw [hres]
              refine mg_iinc C (v := nI (b * k + m + 1 + 1)) (lv' := [(3, .int (nI (b * k + m + 1 + 1))), (0, .ref h0), (1, .int (nI b)), (2, .int (nI (b * k))), (4, .int ((srtO f (b * k) m (b * k + m + 1)))), (5, .int (nI (b * k + n)))]) dX3_sortBuffer_92 rfl (ni_inc _) (by decide) rfl ?_
              refine mg_goto C (tgt := 11) dX3_sortBuffer_95 (by decide) ?_
              rw [show b * k + m + 1 + 1 = b * k + (m + 1) + 1 by omega]
              refine mg_sub (lv' := [(0, .ref h0), (1, .int (nI b)), (2, .int (nI (b * k))), (3, .int (nI (b * k + (m + 1) + 1)))]) [1, 2, 3, 0] rfl ?_
              exact ih11 ((m + 1)) (by omega) (by omega) w3 h_w3_h0 h92 h_w3_al h_w3_aw (fun zz g0 => fr_w3 zz g0)
            · refine mg_aload_n C dX3_sortBuffer_47 rfl ?_
              refine mg_get C inT3 h_w2_h0 rfl 5 (by decide) kw_98 (Or.inl rfl) rfl dX3_sortBuffer_48 ?_
              refine mg_iload C dX3_sortBuffer_51 rfl ?_
              refine mg_iconst C (v := nI 1) dX3_sortBuffer_53 (by decide) ?_
              refine mg_isub C (z := nI ((b * k + n) - 1)) dX3_sortBuffer_54 (ni_sub (by omega)) ?_
              refine mg_ialdN C h_w2_ak (by omega) (by omega) dX3_sortBuffer_55 ?_
              refine mg_iload C dX3_sortBuffer_56 rfl ?_
              refine mg_icmp_le C (tgt := 83) dX3_sortBuffer_58 (by decide) (fun c_58 => ?_) (fun c_58 => ?_)
              · have hres : (srtI (b * k) (srtO f (b * k) m (b * k + m + 1)) (m + 1) (srtO f (b * k) m)) = (fc, n) := by
                  rw [← hri]
                  obtain ⟨n1, rfl⟩ : ∃ n1, n = n1 + 1 := ⟨n - 1, by omega⟩
                  rw [show b * k + (n1 + 1) - 1 = b * k + n1 by omega] at c_58
                  unfold srtI
                  rw [if_pos c_58]
                refine mg_aload_n C dX3_sortBuffer_83 rfl ?_
                refine mg_get C inT3 h_w2_h0 rfl 5 (by decide) kw_98 (Or.inl rfl) rfl dX3_sortBuffer_84 ?_
                refine mg_iload C dX3_sortBuffer_87 rfl ?_
                refine mg_iload C dX3_sortBuffer_89 rfl ?_
                refine mg_iastN C h_w2_ak (by omega) (by omega) dX3_sortBuffer_91 (fun w4 e_w4 => ?_)
                have h_w4_h0 : w4 h0 = some (.inr (3, [.int (nI 4), .int (nI k), .int (nI sd), .int tot, .int mov, .ref ak, .ref al, .ref aw, .int er])) := (congrFun e_w4 _).trans ((mwu_ne (mw_oa h_w2_h0 h_w2_ak)).trans h_w2_h0)
                have h_w4_ak : w4 ak = some (eI cI (31 * k) (upd fc (b * k + n) ((srtO f (b * k) m (b * k + m + 1))))) := (congrFun e_w4 _).trans mwu_eq
                have h_w4_al : w4 al = some (eI cI 31 (lnF ln)) := (congrFun e_w4 _).trans ((mwu_ne (Ne.symm hd1)).trans h_w2_al)
                have h_w4_aw : w4 aw = some (eI cI 31 (lnF tr)) := (congrFun e_w4 _).trans ((mwu_ne (Ne.symm hd2)).trans h_w2_aw)
                have fr_w4 : ∀ zz : Nat, zz ≠ ak → w4 zz = w zz := fun zz g0 => (congrFun e_w4 zz).trans ((mwu_ne g0).trans (fr_w2 zz g0))
                have h92 : w4 ak = some (eI cI (31 * k) (srtO f (b * k) (m + 1))) := by
                  rw [h_w4_ak]
                  show some (eI cI (31 * k) _) = some (eI cI (31 * k) (upd (srtI (b * k) (srtO f (b * k) m (b * k + m + 1)) (m + 1) (srtO f (b * k) m)).1 (b * k + (srtI (b * k) (srtO f (b * k) m (b * k + m + 1)) (m + 1) (srtO f (b * k) m)).2) (srtO f (b * k) m (b * k + m + 1))))
                  rw [hres]
                refine mg_iinc C (v := nI (b * k + m + 1 + 1)) (lv' := [(3, .int (nI (b * k + m + 1 + 1))), (0, .ref h0), (1, .int (nI b)), (2, .int (nI (b * k))), (4, .int ((srtO f (b * k) m (b * k + m + 1)))), (5, .int (nI (b * k + n)))]) dX3_sortBuffer_92 rfl (ni_inc _) (by decide) rfl ?_
                refine mg_goto C (tgt := 11) dX3_sortBuffer_95 (by decide) ?_
                rw [show b * k + m + 1 + 1 = b * k + (m + 1) + 1 by omega]
                refine mg_sub (lv' := [(0, .ref h0), (1, .int (nI b)), (2, .int (nI (b * k))), (3, .int (nI (b * k + (m + 1) + 1)))]) [1, 2, 3, 0] rfl ?_
                exact ih11 ((m + 1)) (by omega) (by omega) w4 h_w4_h0 h92 h_w4_al h_w4_aw (fun zz g0 => fr_w4 zz g0)
              · refine mg_aload_n C dX3_sortBuffer_61 rfl ?_
                refine mg_get C inT3 h_w2_h0 rfl 5 (by decide) kw_98 (Or.inl rfl) rfl dX3_sortBuffer_62 ?_
                refine mg_iload C dX3_sortBuffer_65 rfl ?_
                refine mg_aload_n C dX3_sortBuffer_67 rfl ?_
                refine mg_get C inT3 h_w2_h0 rfl 5 (by decide) kw_98 (Or.inl rfl) rfl dX3_sortBuffer_68 ?_
                refine mg_iload C dX3_sortBuffer_71 rfl ?_
                refine mg_iconst C (v := nI 1) dX3_sortBuffer_73 (by decide) ?_
                refine mg_isub C (z := nI ((b * k + n) - 1)) dX3_sortBuffer_74 (ni_sub (by omega)) ?_
                refine mg_ialdN C h_w2_ak (by omega) (by omega) dX3_sortBuffer_75 ?_
                refine mg_iastN C h_w2_ak (by omega) (by omega) dX3_sortBuffer_76 (fun w5 e_w5 => ?_)
                have h_w5_h0 : w5 h0 = some (.inr (3, [.int (nI 4), .int (nI k), .int (nI sd), .int tot, .int mov, .ref ak, .ref al, .ref aw, .int er])) := (congrFun e_w5 _).trans ((mwu_ne (mw_oa h_w2_h0 h_w2_ak)).trans h_w2_h0)
                have h_w5_ak : w5 ak = some (eI cI (31 * k) (upd fc (b * k + n) (fc ((b * k + n) - 1)))) := (congrFun e_w5 _).trans mwu_eq
                have h_w5_al : w5 al = some (eI cI 31 (lnF ln)) := (congrFun e_w5 _).trans ((mwu_ne (Ne.symm hd1)).trans h_w2_al)
                have h_w5_aw : w5 aw = some (eI cI 31 (lnF tr)) := (congrFun e_w5 _).trans ((mwu_ne (Ne.symm hd2)).trans h_w2_aw)
                have fr_w5 : ∀ zz : Nat, zz ≠ ak → w5 zz = w zz := fun zz g0 => (congrFun e_w5 zz).trans ((mwu_ne g0).trans (fr_w2 zz g0))
                refine mg_iinc C (v := nI ((b * k + n) - 1)) (lv' := [(5, .int (nI ((b * k + n) - 1))), (0, .ref h0), (1, .int (nI b)), (2, .int (nI (b * k))), (3, .int (nI (b * k + m + 1))), (4, .int ((srtO f (b * k) m (b * k + m + 1))))]) dX3_sortBuffer_77 rfl (ni_dec (by omega)) (by decide) rfl ?_
                refine mg_goto C (tgt := 41) dX3_sortBuffer_80 (by decide) ?_
                have e5 : b * k + n - 1 = b * k + (n - 1) := by omega
                rw [e5]
                have hrn : srtI (b * k) (srtO f (b * k) m (b * k + m + 1)) (n - 1) (upd fc (b * k + n) (fc (b * k + n - 1))) = (srtI (b * k) (srtO f (b * k) m (b * k + m + 1)) (m + 1) (srtO f (b * k) m)) := by
                  rw [← hri]
                  obtain ⟨n1, rfl⟩ : ∃ n1, n = n1 + 1 := ⟨n - 1, by omega⟩
                  rw [show b * k + (n1 + 1) - 1 = b * k + n1 by omega, show n1 + 1 - 1 = n1 by omega] at *
                  conv => rhs; unfold srtI
                  rw [if_neg c_58]
                  rfl
                refine mg_sub (lv' := [(0, .ref h0), (1, .int (nI b)), (2, .int (nI (b * k))), (3, .int (nI (b * k + m + 1))), (4, .int ((srtO f (b * k) m (b * k + m + 1)))), (5, .int (nI (b * k + (n - 1))))]) [1, 2, 3, 4, 5, 0] rfl ?_
                exact ih41 ((n - 1)) ((upd fc (b * k + n) (fc (b * k + n - 1)))) (by omega) (by omega) hrn w5 h_w5_h0 h_w5_ak h_w5_al h_w5_aw (fun zz g0 => fr_w5 zz g0)
        refine mg_sub (lv' := [(0, .ref h0), (1, .int (nI b)), (2, .int (nI (b * k))), (3, .int (nI (b * k + m + 1))), (4, .int ((srtO f (b * k) m) (b * k + m + 1))), (5, .int (nI (b * k + m + 1)))]) [2, 3, 4, 5, 1, 0] rfl ?_
        exact L41 (_ + 1) ((m + 1)) (srtO f (b * k) m) (Nat.lt_succ_self _) (Nat.le_refl _) rfl w1 h_w1_h0 h_w1_ak h_w1_al h_w1_aw (fun zz g0 => fr_w1 zz g0)
  refine mg_sub (lv' := [(0, .ref h0), (1, .int (nI b)), (2, .int (nI (b * k))), (3, .int (nI ((b * k) + 1)))]) [2, 3, 1, 0] rfl ?_
  exact L11 (_ + 1) 0 (Nat.lt_succ_self _) (by omega) w hh hak hal haw (fun zz g0 => fr_w zz )
