set_option maxHeartbeats 4000000 in
set_option maxRecDepth 20000 in
theorem c_X6_find_in (D : va_G) (cI cS : ClassId) (w : mwT) (ox as md : Nat) (g0 : Nat → Option Nat) (a : Nat) (hox : w ox = some (.inr (5, [.ref as, .int (nI md)]))) (has : w as = some (eR cS 8 g0)) (hmd : md ≤ 8) (ha : a < md) : mMq yX6_find cX6_find 2 (some (.object "SketchSpans$Sketch")) (rmL 1) [.ref ox, .int (nI a)] D cI cS w (fun r w1 => r = g0 a ∧ w1 = w) := by
  refine mMq.of (by decide) (Nat.le_of_ble_eq_true rfl) ?_
  intro X C hN hR
  refine mg_sub (lv' := [(0, .ref ox), (1, .int (nI a))]) [0, 1] rfl ?_
  refine mg_iload_n C dX6_find_0 rfl ?_
  refine mg_ifN_lt C (tgt := 21) dX6_find_1 (by decide) (by omega) ?_
  refine mg_iload_n C dX6_find_4 rfl ?_
  refine mg_aload_n C dX6_find_5 rfl ?_
  refine mg_get C inT6 hox rfl 1 (by decide) kw_14 (Or.inl rfl) rfl dX6_find_6 ?_
  refine mg_icmpN_ge C (tgt := 21) dX6_find_9 (by decide) (by omega) (by omega) (fun c_9 => absurd c_9 (by omega)) (fun c_9 => ?_)
  refine mg_iload_n C dX6_find_12 rfl ?_
  refine mg_aload_n C dX6_find_13 rfl ?_
  refine mg_get C inT6 hox rfl 0 (by decide) kw_13 (Or.inl rfl) rfl dX6_find_14 ?_
  refine mg_alenR C has dX6_find_17 ?_
  refine mg_icmpN_lt C (tgt := 25) dX6_find_18 (by decide) (by omega) (by omega) (fun c_18 => ?_) (fun c_18 => absurd c_18 (by omega))
  refine mg_aload_n C dX6_find_25 rfl ?_
  refine mg_get C inT6 hox rfl 0 (by decide) kw_13 (Or.inl rfl) rfl dX6_find_26 ?_
  refine mg_iload_n C dX6_find_29 rfl ?_
  refine mg_aaldN C has (by omega) (by omega) dX6_find_30 ?_
  exact hR (g0 a) _ _ _ dX6_find_31 ⟨rfl, rfl⟩

set_option maxHeartbeats 4000000 in
set_option maxRecDepth 20000 in
theorem c_X6_find_no (D : va_G) (cI cS : ClassId) (w : mwT) (ox as md : Nat) (g0 : Nat → Option Nat) (s : Int32) (hox : w ox = some (.inr (5, [.ref as, .int (nI md)]))) (has : w as = some (eR cS 8 g0)) (hmd : md ≤ 8) (hno : ¬ ixN md s) : mMq yX6_find cX6_find 2 (some (.object "SketchSpans$Sketch")) (rmL 1) [.ref ox, .int s] D cI cS w (fun r w1 => r = none ∧ w1 = w) := by
  refine mMq.of (by decide) (Nat.le_of_ble_eq_true rfl) ?_
  intro X C hN hR
  refine mg_sub (lv' := [(0, .ref ox), (1, .int s)]) [0, 1] rfl ?_
  refine mg_iload_n C dX6_find_0 rfl ?_
  refine mg_if_lt C (tgt := 21) dX6_find_1 (by decide) (fun c_1 => ?_) (fun c_1 => ?_)
  · refine mg_null C dX6_find_21 ?_
    refine mg_goto C (tgt := 31) dX6_find_22 (by decide) ?_
    exact hR none _ _ _ dX6_find_31 ⟨rfl, rfl⟩
  · refine mg_iload_n C dX6_find_4 rfl ?_
    refine mg_aload_n C dX6_find_5 rfl ?_
    refine mg_get C inT6 hox rfl 1 (by decide) kw_14 (Or.inl rfl) rfl dX6_find_6 ?_
    refine mg_icmp_ge C (tgt := 21) dX6_find_9 (by decide) (fun c_9 => ?_) (fun c_9 => absurd (ix_of (by omega) c_1 c_9) hno)
    refine mg_null C dX6_find_21 ?_
    refine mg_goto C (tgt := 31) dX6_find_22 (by decide) ?_
    exact hR none _ _ _ dX6_find_31 ⟨rfl, rfl⟩

set_option maxHeartbeats 4000000 in
set_option maxRecDepth 20000 in
theorem c_X6_copy_no (D : va_G) (cI cS : ClassId) (w : mwT) (ox as md : Nat) (g0 : Nat → Option Nat) (s : Int32) (hox : w ox = some (.inr (5, [.ref as, .int (nI md)]))) (has : w as = some (eR cS 8 g0)) (hmd : md ≤ 8) (hno : ¬ ixN md s) : mMi yX6_copy cX6_copy 3 (some .int) (rmA 8 0 0) [.ref ox, .int s] D cI cS w (fun r w1 => r = -1 ∧ w1 = w) := by
  refine mMi.of (by decide) (Nat.le_of_ble_eq_true rfl) ?_
  intro X C hN hR
  refine mg_sub (lv' := [(0, .ref ox), (1, .int s)]) [0, 1] rfl ?_
  refine mg_aload_n C dX6_copy_0 rfl ?_
  refine mg_iload_n C dX6_copy_1 rfl ?_
  refine mg_callV_q C hox rfl (rest := []) (c_X6_find_no D cI cS w ox as md g0 s hox has hmd hno) yq_X6_find kw_123 kw_124 kw_125 ⟨by decide, by decide⟩ ⟨Nat.le_of_ble_eq_true rfl, Nat.le_of_ble_eq_true rfl⟩ (Nat.le_of_ble_eq_true rfl) rfl rfl dX6_copy_2 (fun r1 w1 ⟨xe1, xk1⟩ => ?_)
  rw [xk1, xe1]
  refine mg_astore_nN C (lv' := [(2, .null), (0, .ref ox), (1, .int s)]) dX6_copy_5 rfl (by decide) rfl ?_
  refine mg_aload_nN C dX6_copy_6 rfl ?_
  refine mg_ifnonnullN C dX6_copy_7 ?_
  refine mg_iconst C (v := (-1 : Int32)) dX6_copy_10 (by decide) ?_
  exact hR _ _ _ _ dX6_copy_11 ⟨rfl, rfl⟩

set_option maxHeartbeats 4000000 in
set_option maxRecDepth 20000 in
theorem c_X6_clear_no (D : va_G) (cI cS : ClassId) (w : mwT) (ox as md : Nat) (g0 : Nat → Option Nat) (s : Int32) (hox : w ox = some (.inr (5, [.ref as, .int (nI md)]))) (has : w as = some (eR cS 8 g0)) (hmd : md ≤ 8) (hno : ¬ ixN md s) : mMi yX6_clear cX6_clear 4 (some .int) (rmA 8 0 0) [.ref ox, .int s] D cI cS w (fun r w1 => r = -1 ∧ w1 = w) := by
  refine mMi.of (by decide) (Nat.le_of_ble_eq_true rfl) ?_
  intro X C hN hR
  refine mg_sub (lv' := [(0, .ref ox), (1, .int s)]) [0, 1] rfl ?_
  refine mg_aload_n C dX6_clear_0 rfl ?_
  refine mg_iload_n C dX6_clear_1 rfl ?_
  refine mg_callV_q C hox rfl (rest := []) (c_X6_find_no D cI cS w ox as md g0 s hox has hmd hno) yq_X6_find kw_123 kw_124 kw_125 ⟨by decide, by decide⟩ ⟨Nat.le_of_ble_eq_true rfl, Nat.le_of_ble_eq_true rfl⟩ (Nat.le_of_ble_eq_true rfl) rfl rfl dX6_clear_2 (fun r1 w1 ⟨xe1, xk1⟩ => ?_)
  rw [xk1, xe1]
  refine mg_astore_nN C (lv' := [(2, .null), (0, .ref ox), (1, .int s)]) dX6_clear_5 rfl (by decide) rfl ?_
  refine mg_aload_nN C dX6_clear_6 rfl ?_
  refine mg_ifnonnullN C dX6_clear_7 ?_
  refine mg_iconst C (v := (-1 : Int32)) dX6_clear_10 (by decide) ?_
  exact hR _ _ _ _ dX6_clear_11 ⟨rfl, rfl⟩

set_option maxHeartbeats 4000000 in
set_option maxRecDepth 20000 in
theorem c_X6_come_no (D : va_G) (cI cS : ClassId) (w : mwT) (ox as md : Nat) (g0 : Nat → Option Nat) (s u v : Int32) (hox : w ox = some (.inr (5, [.ref as, .int (nI md)]))) (has : w as = some (eR cS 8 g0)) (hmd : md ≤ 8) (hno : ¬ ixN md s) : mMi yX6_come cX6_come 5 (some .int) (rmA 8 0 0) [.ref ox, .int s, .int u, .int v] D cI cS w (fun r w1 => r = -1 ∧ w1 = w) := by
  refine mMi.of (by decide) (Nat.le_of_ble_eq_true rfl) ?_
  intro X C hN hR
  refine mg_sub (lv' := [(0, .ref ox), (1, .int s), (2, .int u), (3, .int v)]) [0, 1, 2, 3] rfl ?_
  refine mg_aload_n C dX6_come_0 rfl ?_
  refine mg_iload_n C dX6_come_1 rfl ?_
  refine mg_callV_q C hox rfl (rest := []) (c_X6_find_no D cI cS w ox as md g0 s hox has hmd hno) yq_X6_find kw_123 kw_124 kw_125 ⟨by decide, by decide⟩ ⟨Nat.le_of_ble_eq_true rfl, Nat.le_of_ble_eq_true rfl⟩ (Nat.le_of_ble_eq_true rfl) rfl rfl dX6_come_2 (fun r1 w1 ⟨xe1, xk1⟩ => ?_)
  rw [xk1, xe1]
  refine mg_astoreN C (lv' := [(4, .null), (0, .ref ox), (1, .int s), (2, .int u), (3, .int v)]) dX6_come_5 (by decide) rfl ?_
  refine mg_aloadN C dX6_come_7 rfl ?_
  refine mg_ifnullN C (tgt := 28) dX6_come_9 (by decide) ?_
  refine mg_iconst C (v := (-1 : Int32)) dX6_come_28 (by decide) ?_
  exact hR _ _ _ _ dX6_come_29 ⟨rfl, rfl⟩

set_option maxHeartbeats 4000000 in
set_option maxRecDepth 20000 in
theorem c_X6_low_no (D : va_G) (cI cS : ClassId) (w : mwT) (ox as md : Nat) (g0 : Nat → Option Nat) (s u : Int32) (hox : w ox = some (.inr (5, [.ref as, .int (nI md)]))) (has : w as = some (eR cS 8 g0)) (hmd : md ≤ 8) (hno : ¬ ixN md s) : mMi yX6_low cX6_low 4 (some .int) (rmA 8 0 0) [.ref ox, .int s, .int u] D cI cS w (fun r w1 => r = -1 ∧ w1 = w) := by
  refine mMi.of (by decide) (Nat.le_of_ble_eq_true rfl) ?_
  intro X C hN hR
  refine mg_sub (lv' := [(0, .ref ox), (1, .int s), (2, .int u)]) [0, 1, 2] rfl ?_
  refine mg_aload_n C dX6_low_0 rfl ?_
  refine mg_iload_n C dX6_low_1 rfl ?_
  refine mg_callV_q C hox rfl (rest := []) (c_X6_find_no D cI cS w ox as md g0 s hox has hmd hno) yq_X6_find kw_123 kw_124 kw_125 ⟨by decide, by decide⟩ ⟨Nat.le_of_ble_eq_true rfl, Nat.le_of_ble_eq_true rfl⟩ (Nat.le_of_ble_eq_true rfl) rfl rfl dX6_low_2 (fun r1 w1 ⟨xe1, xk1⟩ => ?_)
  rw [xk1, xe1]
  refine mg_astore_nN C (lv' := [(3, .null), (0, .ref ox), (1, .int s), (2, .int u)]) dX6_low_5 rfl (by decide) rfl ?_
  refine mg_aload_nN C dX6_low_6 rfl ?_
  refine mg_ifnullN C (tgt := 17) dX6_low_7 (by decide) ?_
  refine mg_iconst C (v := (-1 : Int32)) dX6_low_17 (by decide) ?_
  refine mg_goto C (tgt := 26) dX6_low_18 (by decide) ?_
  exact hR _ _ _ _ dX6_low_26 ⟨rfl, rfl⟩

set_option maxHeartbeats 4000000 in
set_option maxRecDepth 20000 in
theorem c_X6_high_no (D : va_G) (cI cS : ClassId) (w : mwT) (ox as md : Nat) (g0 : Nat → Option Nat) (s u : Int32) (hox : w ox = some (.inr (5, [.ref as, .int (nI md)]))) (has : w as = some (eR cS 8 g0)) (hmd : md ≤ 8) (hno : ¬ ixN md s) : mMi yX6_high cX6_high 4 (some .int) (rmA 8 0 0) [.ref ox, .int s, .int u] D cI cS w (fun r w1 => r = -1 ∧ w1 = w) := by
  refine mMi.of (by decide) (Nat.le_of_ble_eq_true rfl) ?_
  intro X C hN hR
  refine mg_sub (lv' := [(0, .ref ox), (1, .int s), (2, .int u)]) [0, 1, 2] rfl ?_
  refine mg_aload_n C dX6_high_0 rfl ?_
  refine mg_iload_n C dX6_high_1 rfl ?_
  refine mg_callV_q C hox rfl (rest := []) (c_X6_find_no D cI cS w ox as md g0 s hox has hmd hno) yq_X6_find kw_123 kw_124 kw_125 ⟨by decide, by decide⟩ ⟨Nat.le_of_ble_eq_true rfl, Nat.le_of_ble_eq_true rfl⟩ (Nat.le_of_ble_eq_true rfl) rfl rfl dX6_high_2 (fun r1 w1 ⟨xe1, xk1⟩ => ?_)
  rw [xk1, xe1]
  refine mg_astore_nN C (lv' := [(3, .null), (0, .ref ox), (1, .int s), (2, .int u)]) dX6_high_5 rfl (by decide) rfl ?_
  refine mg_aload_nN C dX6_high_6 rfl ?_
  refine mg_ifnullN C (tgt := 17) dX6_high_7 (by decide) ?_
  refine mg_iconst C (v := (-1 : Int32)) dX6_high_17 (by decide) ?_
  refine mg_goto C (tgt := 26) dX6_high_18 (by decide) ?_
  exact hR _ _ _ _ dX6_high_26 ⟨rfl, rfl⟩

set_option maxHeartbeats 4000000 in
set_option maxRecDepth 20000 in
theorem c_X6_has_no (D : va_G) (cI cS : ClassId) (w : mwT) (ox as md : Nat) (g0 : Nat → Option Nat) (s u : Int32) (hox : w ox = some (.inr (5, [.ref as, .int (nI md)]))) (has : w as = some (eR cS 8 g0)) (hmd : md ≤ 8) (hno : ¬ ixN md s) : mMi yX6_has cX6_has 4 (some .int) (rmA 8 0 0) [.ref ox, .int s, .int u] D cI cS w (fun r w1 => r = -1 ∧ w1 = w) := by
  refine mMi.of (by decide) (Nat.le_of_ble_eq_true rfl) ?_
  intro X C hN hR
  refine mg_sub (lv' := [(0, .ref ox), (1, .int s), (2, .int u)]) [0, 1, 2] rfl ?_
  refine mg_aload_n C dX6_has_0 rfl ?_
  refine mg_iload_n C dX6_has_1 rfl ?_
  refine mg_callV_q C hox rfl (rest := []) (c_X6_find_no D cI cS w ox as md g0 s hox has hmd hno) yq_X6_find kw_123 kw_124 kw_125 ⟨by decide, by decide⟩ ⟨Nat.le_of_ble_eq_true rfl, Nat.le_of_ble_eq_true rfl⟩ (Nat.le_of_ble_eq_true rfl) rfl rfl dX6_has_2 (fun r1 w1 ⟨xe1, xk1⟩ => ?_)
  rw [xk1, xe1]
  refine mg_astore_nN C (lv' := [(3, .null), (0, .ref ox), (1, .int s), (2, .int u)]) dX6_has_5 rfl (by decide) rfl ?_
  refine mg_aload_nN C dX6_has_6 rfl ?_
  refine mg_ifnullN C (tgt := 17) dX6_has_7 (by decide) ?_
  refine mg_iconst C (v := (-1 : Int32)) dX6_has_17 (by decide) ?_
  refine mg_goto C (tgt := 26) dX6_has_18 (by decide) ?_
  exact hR _ _ _ _ dX6_has_26 ⟨rfl, rfl⟩

set_option maxHeartbeats 4000000 in
set_option maxRecDepth 20000 in
theorem c_X6_distinct_no (D : va_G) (cI cS : ClassId) (w : mwT) (ox as md : Nat) (g0 : Nat → Option Nat) (s : Int32) (hox : w ox = some (.inr (5, [.ref as, .int (nI md)]))) (has : w as = some (eR cS 8 g0)) (hmd : md ≤ 8) (hno : ¬ ixN md s) : mMi yX6_distinct cX6_distinct 3 (some .int) (rmA 8 0 0) [.ref ox, .int s] D cI cS w (fun r w1 => r = -1 ∧ w1 = w) := by
  refine mMi.of (by decide) (Nat.le_of_ble_eq_true rfl) ?_
  intro X C hN hR
  refine mg_sub (lv' := [(0, .ref ox), (1, .int s)]) [0, 1] rfl ?_
  refine mg_aload_n C dX6_distinct_0 rfl ?_
  refine mg_iload_n C dX6_distinct_1 rfl ?_
  refine mg_callV_q C hox rfl (rest := []) (c_X6_find_no D cI cS w ox as md g0 s hox has hmd hno) yq_X6_find kw_123 kw_124 kw_125 ⟨by decide, by decide⟩ ⟨Nat.le_of_ble_eq_true rfl, Nat.le_of_ble_eq_true rfl⟩ (Nat.le_of_ble_eq_true rfl) rfl rfl dX6_distinct_2 (fun r1 w1 ⟨xe1, xk1⟩ => ?_)
  rw [xk1, xe1]
  refine mg_astore_nN C (lv' := [(2, .null), (0, .ref ox), (1, .int s)]) dX6_distinct_5 rfl (by decide) rfl ?_
  refine mg_aload_nN C dX6_distinct_6 rfl ?_
  refine mg_ifnonnullN C dX6_distinct_7 ?_
  refine mg_iconst C (v := (-1 : Int32)) dX6_distinct_10 (by decide) ?_
  refine mg_goto C (tgt := 18) dX6_distinct_11 (by decide) ?_
  exact hR _ _ _ _ dX6_distinct_18 ⟨rfl, rfl⟩

set_option maxHeartbeats 4000000 in
set_option maxRecDepth 20000 in
theorem c_X6_quantile_no (D : va_G) (cI cS : ClassId) (w : mwT) (ox as md : Nat) (g0 : Nat → Option Nat) (s u : Int32) (hox : w ox = some (.inr (5, [.ref as, .int (nI md)]))) (has : w as = some (eR cS 8 g0)) (hmd : md ≤ 8) (hno : ¬ ixN md s) : mMi yX6_quantile cX6_quantile 4 (some .int) (rmA 8 0 0) [.ref ox, .int s, .int u] D cI cS w (fun r w1 => r = -1 ∧ w1 = w) := by
  refine mMi.of (by decide) (Nat.le_of_ble_eq_true rfl) ?_
  intro X C hN hR
  refine mg_sub (lv' := [(0, .ref ox), (1, .int s), (2, .int u)]) [0, 1, 2] rfl ?_
  refine mg_aload_n C dX6_quantile_0 rfl ?_
  refine mg_iload_n C dX6_quantile_1 rfl ?_
  refine mg_callV_q C hox rfl (rest := []) (c_X6_find_no D cI cS w ox as md g0 s hox has hmd hno) yq_X6_find kw_123 kw_124 kw_125 ⟨by decide, by decide⟩ ⟨Nat.le_of_ble_eq_true rfl, Nat.le_of_ble_eq_true rfl⟩ (Nat.le_of_ble_eq_true rfl) rfl rfl dX6_quantile_2 (fun r1 w1 ⟨xe1, xk1⟩ => ?_)
  rw [xk1, xe1]
  refine mg_astore_nN C (lv' := [(3, .null), (0, .ref ox), (1, .int s), (2, .int u)]) dX6_quantile_5 rfl (by decide) rfl ?_
  refine mg_aload_nN C dX6_quantile_6 rfl ?_
  refine mg_ifnonnullN C dX6_quantile_7 ?_
  refine mg_iconst C (v := (-1 : Int32)) dX6_quantile_10 (by decide) ?_
  refine mg_goto C (tgt := 19) dX6_quantile_11 (by decide) ?_
  exact hR _ _ _ _ dX6_quantile_19 ⟨rfl, rfl⟩

set_option maxHeartbeats 4000000 in
set_option maxRecDepth 20000 in
theorem c_X6_told_no (D : va_G) (cI cS : ClassId) (w : mwT) (ox as md : Nat) (g0 : Nat → Option Nat) (s u : Int32) (hox : w ox = some (.inr (5, [.ref as, .int (nI md)]))) (has : w as = some (eR cS 8 g0)) (hmd : md ≤ 8) (hno : ¬ ixN md s) : mMi yX6_told cX6_told 4 (some .int) (rmA 8 0 0) [.ref ox, .int s, .int u] D cI cS w (fun r w1 => r = -1 ∧ w1 = w) := by
  refine mMi.of (by decide) (Nat.le_of_ble_eq_true rfl) ?_
  intro X C hN hR
  refine mg_sub (lv' := [(0, .ref ox), (1, .int s), (2, .int u)]) [0, 1, 2] rfl ?_
  refine mg_aload_n C dX6_told_0 rfl ?_
  refine mg_iload_n C dX6_told_1 rfl ?_
  refine mg_callV_q C hox rfl (rest := []) (c_X6_find_no D cI cS w ox as md g0 s hox has hmd hno) yq_X6_find kw_123 kw_124 kw_125 ⟨by decide, by decide⟩ ⟨Nat.le_of_ble_eq_true rfl, Nat.le_of_ble_eq_true rfl⟩ (Nat.le_of_ble_eq_true rfl) rfl rfl dX6_told_2 (fun r1 w1 ⟨xe1, xk1⟩ => ?_)
  rw [xk1, xe1]
  refine mg_astore_nN C (lv' := [(3, .null), (0, .ref ox), (1, .int s), (2, .int u)]) dX6_told_5 rfl (by decide) rfl ?_
  refine mg_aload_nN C dX6_told_6 rfl ?_
  refine mg_ifnonnullN C dX6_told_7 ?_
  refine mg_iconst C (v := (-1 : Int32)) dX6_told_10 (by decide) ?_
  exact hR _ _ _ _ dX6_told_11 ⟨rfl, rfl⟩

set_option maxHeartbeats 4000000 in
set_option maxRecDepth 20000 in
theorem c_X6_kept_no (D : va_G) (cI cS : ClassId) (w : mwT) (ox as md : Nat) (g0 : Nat → Option Nat) (s u v : Int32) (hox : w ox = some (.inr (5, [.ref as, .int (nI md)]))) (has : w as = some (eR cS 8 g0)) (hmd : md ≤ 8) (hno : ¬ ixN md s) : mMi yX6_kept cX6_kept 5 (some .int) (rmA 8 0 0) [.ref ox, .int s, .int u, .int v] D cI cS w (fun r w1 => r = -1 ∧ w1 = w) := by
  refine mMi.of (by decide) (Nat.le_of_ble_eq_true rfl) ?_
  intro X C hN hR
  refine mg_sub (lv' := [(0, .ref ox), (1, .int s), (2, .int u), (3, .int v)]) [0, 1, 2, 3] rfl ?_
  refine mg_aload_n C dX6_kept_0 rfl ?_
  refine mg_iload_n C dX6_kept_1 rfl ?_
  refine mg_callV_q C hox rfl (rest := []) (c_X6_find_no D cI cS w ox as md g0 s hox has hmd hno) yq_X6_find kw_123 kw_124 kw_125 ⟨by decide, by decide⟩ ⟨Nat.le_of_ble_eq_true rfl, Nat.le_of_ble_eq_true rfl⟩ (Nat.le_of_ble_eq_true rfl) rfl rfl dX6_kept_2 (fun r1 w1 ⟨xe1, xk1⟩ => ?_)
  rw [xk1, xe1]
  refine mg_astoreN C (lv' := [(4, .null), (0, .ref ox), (1, .int s), (2, .int u), (3, .int v)]) dX6_kept_5 (by decide) rfl ?_
  refine mg_aloadN C dX6_kept_7 rfl ?_
  refine mg_ifnonnullN C dX6_kept_9 ?_
  refine mg_iconst C (v := (-1 : Int32)) dX6_kept_12 (by decide) ?_
  refine mg_goto C (tgt := 23) dX6_kept_13 (by decide) ?_
  exact hR _ _ _ _ dX6_kept_23 ⟨rfl, rfl⟩

set_option maxHeartbeats 4000000 in
set_option maxRecDepth 20000 in
theorem c_X6_count (D : va_G) (cI cS : ClassId) (w : mwT) (ox as md : Nat) (g0 : Nat → Option Nat) (hox : w ox = some (.inr (5, [.ref as, .int (nI md)]))) (has : w as = some (eR cS 8 g0)) : mMi yX6_count cX6_count 1 (some .int) (rmL 1) [.ref ox] D cI cS w (fun r w1 => r = nI md ∧ w1 = w) := by
  refine mMi.of (by decide) (Nat.le_of_ble_eq_true rfl) ?_
  intro X C hN hR
  refine mg_sub (lv' := [(0, .ref ox)]) [0] rfl ?_
  refine mg_aload_n C dX6_count_0 rfl ?_
  refine mg_get C inT6 hox rfl 1 (by decide) kw_14 (Or.inl rfl) rfl dX6_count_1 ?_
  exact hR _ _ _ _ dX6_count_4 ⟨rfl, rfl⟩

set_option maxHeartbeats 4000000 in
set_option maxRecDepth 20000 in
theorem c_X6_hash (D : va_G) (cI cS : ClassId) (w : mwT) (ox as md : Nat) (g0 : Nat → Option Nat) (se j x : Int32) (hox : w ox = some (.inr (5, [.ref as, .int (nI md)]))) (has : w as = some (eR cS 8 g0)) : mMi yX6_hash cX6_hash 4 (some .int) (rmL 4) [.ref ox, .int se, .int j, .int x] D cI cS w (fun r w1 => ((r = -1 ∧ ¬ (rg 999 se ∧ ixN 4 j ∧ rg 9999 x)) ∨ (∃ sa ja xa : Nat, sa ≤ 999 ∧ ja < 4 ∧ xa ≤ 9999 ∧ se = nI sa ∧ j = nI ja ∧ x = nI xa ∧ r = nI (hsN sa ja xa))) ∧ w1 = w) := by
  refine mMi.of (by decide) (Nat.le_of_ble_eq_true rfl) ?_
  intro X C hN hR
  refine mg_sub (lv' := [(0, .ref ox), (1, .int se), (2, .int j), (3, .int x)]) [0, 1, 2, 3] rfl ?_
  refine mg_iload_n C dX6_hash_0 rfl ?_
  refine mg_callS_i C (rest := []) (c_X6_isSeed D cI cS w se) yq_X6_isSeed kw_41 kw_42 ⟨by decide, by decide⟩ ⟨Nat.le_of_ble_eq_true rfl, Nat.le_of_ble_eq_true rfl⟩ (Nat.le_of_ble_eq_true rfl) rfl rfl dX6_hash_1 (fun r1 w1 ⟨xa1, xk1⟩ => ?_)
  rw [xk1]
  rcases xa1 with ⟨ra1, hy_seed⟩ | ⟨ra1, hy_seed⟩
  · rw [ra1]
    refine mg_ifN_eq C (tgt := 23) dX6_hash_4 (by decide) (by decide) (fun c_4 => absurd c_4 (by decide)) (fun c_4 => ?_)
    refine mg_iload_n C dX6_hash_7 rfl ?_
    refine mg_if_lt C (tgt := 23) dX6_hash_8 (by decide) (fun c_8 => ?_) (fun c_8 => ?_)
    · refine mg_iconst C (v := (-1 : Int32)) dX6_hash_23 (by decide) ?_
      exact hR _ _ _ _ dX6_hash_24 ⟨Or.inl ⟨rfl, fun q => ix_lt (by omega) c_8 q.2.1⟩, rfl⟩
    · refine mg_iload_n C dX6_hash_11 rfl ?_
      refine mg_iconst C (v := nI 4) dX6_hash_12 (by decide) ?_
      refine mg_icmp_ge C (tgt := 23) dX6_hash_13 (by decide) (fun c_13 => ?_) (fun c_13 => ?_)
      · refine mg_iconst C (v := (-1 : Int32)) dX6_hash_23 (by decide) ?_
        exact hR _ _ _ _ dX6_hash_24 ⟨Or.inl ⟨rfl, fun q => ix_ge (by omega) c_13 q.2.1⟩, rfl⟩
      · refine mg_iload_n C dX6_hash_16 rfl ?_
        refine mg_callS_i C (rest := []) (c_X6_isKey D cI cS w x) yq_X6_isKey kw_240 kw_241 ⟨by decide, by decide⟩ ⟨Nat.le_of_ble_eq_true rfl, Nat.le_of_ble_eq_true rfl⟩ (Nat.le_of_ble_eq_true rfl) rfl rfl dX6_hash_17 (fun r2 w2 ⟨xa2, xk2⟩ => ?_)
        rw [xk2]
        rcases xa2 with ⟨ra2, hy_key⟩ | ⟨ra2, hy_key⟩
        · rw [ra2]
          refine mg_ifN_ne C (tgt := 25) dX6_hash_20 (by decide) (by decide) (fun c_20 => ?_) (fun c_20 => absurd c_20 (by decide))
          obtain ⟨sa, hsa, rfl⟩ := hy_seed
          obtain ⟨xa, hxa, rfl⟩ := hy_key
          obtain ⟨ja, hja, rfl⟩ := ix_of (n := 4) (by omega) c_8 c_13
          refine mg_iload_n C dX6_hash_25 rfl ?_
          refine mg_iload_n C dX6_hash_26 rfl ?_
          refine mg_iload_n C dX6_hash_27 rfl ?_
          refine mg_callS_i C (rest := []) (c_X6_hashOf D cI cS w sa ja xa hsa (by omega) hxa) yq_X6_hashOf kw_264 kw_265 ⟨by decide, by decide⟩ ⟨Nat.le_of_ble_eq_true rfl, Nat.le_of_ble_eq_true rfl⟩ (Nat.le_of_ble_eq_true rfl) rfl rfl dX6_hash_28 (fun r3 w4 ⟨e_r3, e_w4⟩ => ?_)
          rw [e_w4, e_r3]
          exact hR _ _ _ _ dX6_hash_31 ⟨Or.inr ⟨sa, ja, xa, hsa, hja, hxa, rfl, rfl, rfl, rfl⟩, rfl⟩
        · rw [ra2]
          refine mg_ifN_ne C (tgt := 25) dX6_hash_20 (by decide) (by decide) (fun c_20 => absurd c_20 (by decide)) (fun c_20 => ?_)
          refine mg_iconst C (v := (-1 : Int32)) dX6_hash_23 (by decide) ?_
          exact hR _ _ _ _ dX6_hash_24 ⟨Or.inl ⟨rfl, fun q => hy_key q.2.2⟩, rfl⟩
  · rw [ra1]
    refine mg_ifN_eq C (tgt := 23) dX6_hash_4 (by decide) (by decide) (fun c_4 => ?_) (fun c_4 => absurd c_4 (by decide))
    refine mg_iconst C (v := (-1 : Int32)) dX6_hash_23 (by decide) ?_
    exact hR _ _ _ _ dX6_hash_24 ⟨Or.inl ⟨rfl, fun q => hy_seed q.1⟩, rfl⟩
