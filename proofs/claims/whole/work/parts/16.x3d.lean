theorem ix_m1 {i : Int32} {n : Nat} (hn : n < 2147483648) (h1 : ¬ i < -1) (h2 : ¬ i = -1) (h3 : i < nI n) : ixN n i := by
  have hx : ¬ i < 0 := by
    intro q
    rw [Int32.lt_iff_toInt_lt, show (-1 : Int32).toInt = -1 from by decide] at h1
    rw [Int32.lt_iff_toInt_lt, Int32.toInt_zero] at q
    exact h2 (Int32.toInt_inj.mp (by rw [show (-1 : Int32).toInt = -1 from by decide]; omega))
  obtain ⟨a, ha, rfl⟩ := nI_of hx
  exact ⟨a, (nI_ltI (by omega) (by omega)).mp h3, rfl⟩
theorem ix_lm {i : Int32} {n : Nat} (hn : n < 2147483648) (h1 : i < -1) : ¬ (i = -1 ∨ ixN n i) := by
  rintro (rfl | h)
  · exact absurd h1 (by decide)
  · refine ix_lt hn ?_ h
    rw [Int32.lt_iff_toInt_lt, show (-1 : Int32).toInt = -1 from by decide] at h1
    rw [Int32.lt_iff_toInt_lt, Int32.toInt_zero]
    omega
theorem ix_gm {i : Int32} {n : Nat} (hn : n < 2147483648) (h1 : ¬ i < nI n) : ¬ (i = -1 ∨ ixN n i) := by
  rintro (rfl | ⟨a, ha, rfl⟩)
  · refine h1 ?_
    rw [Int32.lt_iff_toInt_lt, nI_toInt hn, show (-1 : Int32).toInt = -1 from by decide]
    omega
  · exact h1 ((nI_ltI (by omega) (by omega)).mpr ha)
def clN (l : Nat → Nat) : Nat → Nat := fun i => if i < 31 then 0 else l i
theorem clN_F (l : Nat → Nat) : cpy0 (fun _ => 0) (lnF l) 31 = lnF (clN l) := by
  funext i
  unfold cpy0 lnF clN
  split
  · exact nI_0.symm
  · rfl

set_option maxHeartbeats 4000000 in
set_option maxRecDepth 20000 in
theorem c_X3_take (D : va_G) (cI cS : ClassId) (w : mwT) (h0 ak al aw k sd : Nat) (tot mov er : Int32) (f : Nat → Int32) (ln tr : Nat → Nat) (x : Int32) (n : Nat) (hh : w h0 = some (.inr (3, [.int (nI 4), .int (nI k), .int (nI sd), .int tot, .int mov, .ref ak, .ref al, .ref aw, .int er]))) (hak : w ak = some (eI cI (31 * k) f)) (hal : w al = some (eI cI 31 (lnF ln))) (haw : w aw = some (eI cI 31 (lnF tr))) (hk1 : 4 ≤ k) (hk2 : k ≤ 32) (hd1 : ak ≠ al) (hd2 : ak ≠ aw) (hd3 : al ≠ aw) (hok : rkOk k (f, ln, tr, er)) (hn : n ≤ 1000) : mMv yX3_take cX3_take 4 none (rmL 97) [.ref h0, .int x, .int (nI n)] D cI cS w (fun w1 => w1 h0 = some (.inr (3, [.int (nI 4), .int (nI k), .int (nI sd), .int tot, .int mov, .ref ak, .ref al, .ref aw, .int ((tkR k x (f, ln, tr, er) n).2.2.2)])) ∧ w1 ak = some (eI cI (31 * k) (tkR k x (f, ln, tr, er) n).1) ∧ w1 al = some (eI cI 31 (lnF (tkR k x (f, ln, tr, er) n).2.1)) ∧ w1 aw = some (eI cI 31 (lnF (tkR k x (f, ln, tr, er) n).2.2.1)) ∧ ∀ z : Nat, z ≠ h0 → z ≠ ak → z ≠ al → z ≠ aw → w1 z = w z) := by
  refine mMv.of (by decide) (Nat.le_of_ble_eq_true rfl) ?_
  intro X C hN hR
  have fr_w : ∀ zz : Nat, w zz = w zz := fun _ => rfl
  refine mg_sub (lv' := [(0, .ref h0), (1, .int x), (2, .int (nI n))]) [0, 1, 2] rfl ?_
  refine mg_iconst C (v := nI 0) dX3_take_0 (by decide) ?_
  refine mg_istore_n C (lv' := [(3, .int (nI 0)), (0, .ref h0), (1, .int x), (2, .int (nI n))]) dX3_take_1 rfl (by decide) rfl ?_
  have L2 : ∀ (M2 : Nat) (nz : Nat), n - nz < M2 → (nz ≤ n) → ∀ (w1 : mwT), w1 h0 = some (.inr (3, [.int (nI 4), .int (nI k), .int (nI sd), .int tot, .int mov, .ref ak, .ref al, .ref aw, .int ((tkR k x (f, ln, tr, er) nz).2.2.2)])) → w1 ak = some (eI cI (31 * k) ((tkR k x (f, ln, tr, er) nz).1)) → w1 al = some (eI cI 31 (lnF (tkR k x (f, ln, tr, er) nz).2.1)) → w1 aw = some (eI cI 31 (lnF (tkR k x (f, ln, tr, er) nz).2.2.1)) → (∀ zz : Nat, zz ≠ h0 → zz ≠ ak → zz ≠ al → zz ≠ aw → w1 zz = w zz) → mwG X 0 0 w1 [(0, .ref h0), (1, .int x), (2, .int (nI n)), (3, .int (nI nz))] [] 2 := by
    intro M2
    induction M2 with
    | zero => intro nz hm2; exact absurd hm2 (Nat.not_lt_zero _)
    | succ M2 ih2 =>
      intro nz hm2 hnz w1 h_w1_h0 h_w1_ak h_w1_al h_w1_aw fr_w1
      refine mg_iload_n C dX3_take_2 rfl ?_
      refine mg_iload_n C dX3_take_3 rfl ?_
      refine mg_icmpN_ge C (tgt := 19) dX3_take_4 (by decide) (by omega) (by omega) (fun c_4 => ?_) (fun c_4 => ?_)
      · have en : nz = n := by omega
        rw [en] at h_w1_h0
        rw [en] at h_w1_ak
        rw [en] at h_w1_al
        rw [en] at h_w1_aw
        exact hR _ _ _ dX3_take_19 ⟨h_w1_h0, h_w1_ak, h_w1_al, h_w1_aw, fun z q0 q1 q2 q3 => fr_w1 z q0 q1 q2 q3⟩
      · refine mg_aload_n C dX3_take_7 rfl ?_
        refine mg_iconst C (v := nI 0) dX3_take_8 (by decide) ?_
        refine mg_iload_n C dX3_take_9 rfl ?_
        refine mg_callV_v C h_w1_h0 rfl (rest := []) (c_X3_push_all 31 D cI cS w1 h0 ak al aw k sd tot mov (tkR k x (f, ln, tr, er) nz).2.2.2 (tkR k x (f, ln, tr, er) nz).1 (tkR k x (f, ln, tr, er) nz).2.1 (tkR k x (f, ln, tr, er) nz).2.2.1 0 x h_w1_h0 h_w1_ak h_w1_al h_w1_aw hk1 hk2 hd1 hd2 hd3 (tkR_ok hok nz) (by omega)) yq_X3_push kw_301 kw_302 kw_303 ⟨by decide, by decide⟩ ⟨Nat.le_of_ble_eq_true rfl, Nat.le_of_ble_eq_true rfl⟩ (Nat.le_of_ble_eq_true rfl) rfl rfl dX3_take_10 (fun w2 ⟨xh2, xk2, xl2, xw2, xf2⟩ => ?_)
        have fr_w2 : ∀ zz : Nat, zz ≠ h0 → zz ≠ ak → zz ≠ al → zz ≠ aw → w2 zz = w zz := fun zz g0 g1 g2 g3 => (xf2 zz g0 g1 g2 g3).trans (fr_w1 zz g0 g1 g2 g3)
        refine mg_iinc C (v := nI (nz + 1)) (lv' := [(3, .int (nI (nz + 1))), (0, .ref h0), (1, .int x), (2, .int (nI n))]) dX3_take_13 rfl (ni_inc _) (by decide) rfl ?_
        refine mg_goto C (tgt := 2) dX3_take_16 (by decide) ?_
        refine mg_sub (lv' := [(0, .ref h0), (1, .int x), (2, .int (nI n)), (3, .int (nI (nz + 1)))]) [1, 2, 3, 0] rfl ?_
        exact ih2 ((nz + 1)) (by omega) (by omega) w2 xh2 xk2 xl2 xw2 (fun zz g0 g1 g2 g3 => fr_w2 zz g0 g1 g2 g3)
  refine mg_sub (lv' := [(0, .ref h0), (1, .int x), (2, .int (nI n)), (3, .int (nI 0))]) [1, 2, 3, 0] rfl ?_
  exact L2 (_ + 1) 0 (Nat.lt_succ_self _) (Nat.zero_le _) w hh hak hal haw (fun zz g0 g1 g2 g3 => fr_w zz )

set_option maxHeartbeats 4000000 in
set_option maxRecDepth 20000 in
theorem c_X3_weightUpTo (D : va_G) (cI cS : ClassId) (w : mwT) (h0 ak al aw k sd : Nat) (tot mov er : Int32) (f : Nat → Int32) (ln tr : Nat → Nat) (x : Int32) (hh : w h0 = some (.inr (3, [.int (nI 4), .int (nI k), .int (nI sd), .int tot, .int mov, .ref ak, .ref al, .ref aw, .int er]))) (hak : w ak = some (eI cI (31 * k) f)) (hal : w al = some (eI cI 31 (lnF ln))) (haw : w aw = some (eI cI 31 (lnF tr))) (hk1 : 4 ≤ k) (hk2 : k ≤ 32) (hok : rkOk k (f, ln, tr, er)) : mMi yX3_weightUpTo cX3_weightUpTo 5 (some .int) (rmL 2) [.ref h0, .int x] D cI cS w (fun r w1 => r = wO f ln k x 31 ∧ w1 = w) := by
  refine mMi.of (by decide) (Nat.le_of_ble_eq_true rfl) ?_
  intro X C hN hR
  refine mg_sub (lv' := [(0, .ref h0), (1, .int x)]) [0, 1] rfl ?_
  refine mg_iconst C (v := nI 0) dX3_weightUpTo_0 (by decide) ?_
  refine mg_istore_n C (lv' := [(2, .int (nI 0)), (0, .ref h0), (1, .int x)]) dX3_weightUpTo_1 rfl (by decide) rfl ?_
  refine mg_iconst C (v := nI 0) dX3_weightUpTo_2 (by decide) ?_
  refine mg_istore_n C (lv' := [(3, .int (nI 0)), (2, .int (nI 0)), (0, .ref h0), (1, .int x)]) dX3_weightUpTo_3 rfl (by decide) rfl ?_
  have L4 : ∀ (M4 : Nat) (bz : Nat), 31 - bz < M4 → (bz ≤ 31) → mwG X 0 0 w [(0, .ref h0), (1, .int x), (2, .int (wO f ln k x bz)), (3, .int (nI bz))] [] 4 := by
    intro M4
    induction M4 with
    | zero => intro bz hm4; exact absurd hm4 (Nat.not_lt_zero _)
    | succ M4 ih4 =>
      intro bz hm4 hbz
      refine mg_iload_n C dX3_weightUpTo_4 rfl ?_
      refine mg_bipush C (v := nI 31) dX3_weightUpTo_5 (by decide) ?_
      refine mg_icmpN_ge C (tgt := 53) dX3_weightUpTo_7 (by decide) (by omega) (by omega) (fun c_7 => ?_) (fun c_7 => ?_)
      · refine mg_iload_n C dX3_weightUpTo_53 rfl ?_
        have eb : bz = 31 := by omega
        exact hR _ _ _ _ dX3_weightUpTo_54 ⟨by rw [eb], rfl⟩
      · have hlb : ln bz ≤ k := hok.2 bz
        refine mg_iconst C (v := nI 0) dX3_weightUpTo_10 (by decide) ?_
        refine mg_istore C (lv' := [(4, .int (nI 0)), (0, .ref h0), (1, .int x), (2, .int (wO f ln k x bz)), (3, .int (nI bz))]) dX3_weightUpTo_11 (by decide) rfl ?_
        have L13 : ∀ (M13 : Nat) (iz : Nat), ln bz - iz < M13 → (iz ≤ ln bz) → mwG X 0 0 w [(0, .ref h0), (1, .int x), (2, .int (wI f k bz x (wO f ln k x bz) iz)), (3, .int (nI bz)), (4, .int (nI iz))] [] 13 := by
          intro M13
          induction M13 with
          | zero => intro iz hm13; exact absurd hm13 (Nat.not_lt_zero _)
          | succ M13 ih13 =>
            intro iz hm13 hiz
            refine mg_iload C dX3_weightUpTo_13 rfl ?_
            refine mg_aload_n C dX3_weightUpTo_15 rfl ?_
            refine mg_get C inT3 hh rfl 6 (by decide) kw_99 (Or.inl rfl) rfl dX3_weightUpTo_16 ?_
            refine mg_iload_n C dX3_weightUpTo_19 rfl ?_
            refine mg_ialdN C hal (by omega) (by omega) dX3_weightUpTo_20 ?_
            refine mg_icmpN_ge C (tgt := 47) dX3_weightUpTo_21 (by decide) (by omega) (by omega) (fun c_21 => ?_) (fun c_21 => ?_)
            · have ei : iz = ln bz := by omega
              rw [ei]
              refine mg_iinc C (v := nI (bz + 1)) (lv' := [(3, .int (nI (bz + 1))), (0, .ref h0), (1, .int x), (2, .int (wO f ln k x (bz + 1))), (4, .int (nI (ln bz)))]) dX3_weightUpTo_47 rfl (ni_inc _) (by decide) rfl ?_
              refine mg_goto C (tgt := 4) dX3_weightUpTo_50 (by decide) ?_
              refine mg_sub (lv' := [(0, .ref h0), (1, .int x), (2, .int (wO f ln k x (bz + 1))), (3, .int (nI (bz + 1)))]) [1, 2, 3, 0] rfl ?_
              exact ih4 ((bz + 1)) (by omega) (by omega)
            · refine mg_aload_n C dX3_weightUpTo_24 rfl ?_
              refine mg_iload_n C dX3_weightUpTo_25 rfl ?_
              refine mg_iload C dX3_weightUpTo_26 rfl ?_
              refine mg_callV_i C hh rfl (rest := []) (c_X3_keyAt D cI cS w h0 ak al aw k sd tot mov er f ln tr bz iz hh hak hal haw hk1 hk2 (by omega) (by omega)) yq_X3_keyAt kw_313 kw_314 kw_315 ⟨by decide, by decide⟩ ⟨Nat.le_of_ble_eq_true rfl, Nat.le_of_ble_eq_true rfl⟩ (Nat.le_of_ble_eq_true rfl) rfl rfl dX3_weightUpTo_28 (fun r1 w2 ⟨e_r1, e_w2⟩ => ?_)
              rw [e_w2, e_r1]
              refine mg_iload_n C dX3_weightUpTo_31 rfl ?_
              refine mg_icmp_gt C (tgt := 41) dX3_weightUpTo_32 (by decide) (fun c_32 => ?_) (fun c_32 => ?_)
              · have ew : wI f k bz x (wO f ln k x bz) (iz + 1) = wI f k bz x (wO f ln k x bz) iz := (if_pos c_32)
                rw [← ew]
                refine mg_iinc C (v := nI (iz + 1)) (lv' := [(4, .int (nI (iz + 1))), (0, .ref h0), (1, .int x), (2, .int (wI f k bz x (wO f ln k x bz) (iz + 1))), (3, .int (nI bz))]) dX3_weightUpTo_41 rfl (ni_inc _) (by decide) rfl ?_
                refine mg_goto C (tgt := 13) dX3_weightUpTo_44 (by decide) ?_
                refine mg_sub (lv' := [(0, .ref h0), (1, .int x), (2, .int (wI f k bz x (wO f ln k x bz) (iz + 1))), (3, .int (nI bz)), (4, .int (nI (iz + 1)))]) [1, 2, 3, 4, 0] rfl ?_
                exact ih13 ((iz + 1)) (by omega) (by omega)
              · refine mg_iload_n C dX3_weightUpTo_35 rfl ?_
                refine mg_iconst C (v := nI 1) dX3_weightUpTo_36 (by decide) ?_
                refine mg_iload_n C dX3_weightUpTo_37 rfl ?_
                refine mg_ishl C (z := sh1 bz) dX3_weightUpTo_38 rfl ?_
                refine mg_iadd C (z := (wI f k bz x (wO f ln k x bz) iz) + (sh1 bz)) dX3_weightUpTo_39 rfl ?_
                refine mg_istore_n C (lv' := [(2, .int ((wI f k bz x (wO f ln k x bz) iz) + (sh1 bz))), (0, .ref h0), (1, .int x), (3, .int (nI bz)), (4, .int (nI iz))]) dX3_weightUpTo_40 rfl (by decide) rfl ?_
                have ew : wI f k bz x (wO f ln k x bz) (iz + 1) = (wI f k bz x (wO f ln k x bz) iz) + (sh1 bz) := (if_neg c_32)
                rw [← ew]
                refine mg_iinc C (v := nI (iz + 1)) (lv' := [(4, .int (nI (iz + 1))), (2, .int (wI f k bz x (wO f ln k x bz) (iz + 1))), (0, .ref h0), (1, .int x), (3, .int (nI bz))]) dX3_weightUpTo_41 rfl (ni_inc _) (by decide) rfl ?_
                refine mg_goto C (tgt := 13) dX3_weightUpTo_44 (by decide) ?_
                refine mg_sub (lv' := [(0, .ref h0), (1, .int x), (2, .int (wI f k bz x (wO f ln k x bz) (iz + 1))), (3, .int (nI bz)), (4, .int (nI (iz + 1)))]) [2, 3, 1, 4, 0] rfl ?_
                exact ih13 ((iz + 1)) (by omega) (by omega)
        refine mg_sub (lv' := [(0, .ref h0), (1, .int x), (2, .int (wO f ln k x bz)), (3, .int (nI bz)), (4, .int (nI 0))]) [1, 2, 3, 4, 0] rfl ?_
        exact L13 (_ + 1) 0 (Nat.lt_succ_self _) (Nat.zero_le _)
  refine mg_sub (lv' := [(0, .ref h0), (1, .int x), (2, .int (nI 0)), (3, .int (nI 0))]) [2, 3, 1, 0] rfl ?_
  exact L4 (_ + 1) 0 (Nat.lt_succ_self _) (Nat.zero_le _)

set_option maxHeartbeats 4000000 in
set_option maxRecDepth 20000 in
theorem c_X3_atLeast (D : va_G) (cI cS : ClassId) (w : mwT) (h0 ak al aw k sd : Nat) (tot mov er : Int32) (f : Nat → Int32) (ln tr : Nat → Nat) (x : Int32) (hh : w h0 = some (.inr (3, [.int (nI 4), .int (nI k), .int (nI sd), .int tot, .int mov, .ref ak, .ref al, .ref aw, .int er]))) (hak : w ak = some (eI cI (31 * k) f)) (hal : w al = some (eI cI 31 (lnF ln))) (haw : w aw = some (eI cI 31 (lnF tr))) (hk1 : 4 ≤ k) (hk2 : k ≤ 32) (hok : rkOk k (f, ln, tr, er)) : mMi yX3_atLeast cX3_atLeast 2 (some .int) (rmL 3) [.ref h0, .int x] D cI cS w (fun r w1 => r = (if nI 0 < wO f ln k x 31 - er then wO f ln k x 31 - er else nI 0) ∧ w1 = w) := by
  refine mMi.of (by decide) (Nat.le_of_ble_eq_true rfl) ?_
  intro X C hN hR
  refine mg_sub (lv' := [(0, .ref h0), (1, .int x)]) [0, 1] rfl ?_
  refine mg_iconst C (v := nI 0) dX3_atLeast_0 (by decide) ?_
  refine mg_aload_n C dX3_atLeast_1 rfl ?_
  refine mg_iload_n C dX3_atLeast_2 rfl ?_
  refine mg_callV_i C hh rfl (rest := [.int (nI 0)]) (c_X3_weightUpTo D cI cS w h0 ak al aw k sd tot mov er f ln tr x hh hak hal haw hk1 hk2 hok) yq_X3_weightUpTo kw_454 kw_455 kw_456 ⟨by decide, by decide⟩ ⟨Nat.le_of_ble_eq_true rfl, Nat.le_of_ble_eq_true rfl⟩ (Nat.le_of_ble_eq_true rfl) rfl rfl dX3_atLeast_3 (fun r1 w2 ⟨e_r1, e_w2⟩ => ?_)
  rw [e_w2, e_r1]
  refine mg_aload_n C dX3_atLeast_6 rfl ?_
  refine mg_get C inT3 hh rfl 8 (by decide) kw_101 (Or.inl rfl) rfl dX3_atLeast_7 ?_
  refine mg_isub C (z := (wO f ln k x 31) - er) dX3_atLeast_10 rfl ?_
  refine mg_mmax C (z := if nI 0 < (wO f ln k x 31) - er then (wO f ln k x 31) - er else nI 0) dX3_atLeast_11 kw_451 ⟨Nat.le_of_ble_eq_true rfl, Nat.le_of_ble_eq_true rfl⟩ ⟨by decide, by decide⟩ rfl ?_
  exact hR _ _ _ _ dX3_atLeast_14 ⟨rfl, rfl⟩

set_option maxHeartbeats 4000000 in
set_option maxRecDepth 20000 in
theorem c_X3_atMost (D : va_G) (cI cS : ClassId) (w : mwT) (h0 ak al aw k sd : Nat) (tot mov er : Int32) (f : Nat → Int32) (ln tr : Nat → Nat) (x : Int32) (hh : w h0 = some (.inr (3, [.int (nI 4), .int (nI k), .int (nI sd), .int tot, .int mov, .ref ak, .ref al, .ref aw, .int er]))) (hak : w ak = some (eI cI (31 * k) f)) (hal : w al = some (eI cI 31 (lnF ln))) (haw : w aw = some (eI cI 31 (lnF tr))) (hk1 : 4 ≤ k) (hk2 : k ≤ 32) (hok : rkOk k (f, ln, tr, er)) : mMi yX3_atMost cX3_atMost 2 (some .int) (rmL 3) [.ref h0, .int x] D cI cS w (fun r w1 => r = (if wO f ln k x 31 + er < tot then wO f ln k x 31 + er else tot) ∧ w1 = w) := by
  refine mMi.of (by decide) (Nat.le_of_ble_eq_true rfl) ?_
  intro X C hN hR
  refine mg_sub (lv' := [(0, .ref h0), (1, .int x)]) [0, 1] rfl ?_
  refine mg_aload_n C dX3_atMost_0 rfl ?_
  refine mg_get C inT3 hh rfl 3 (by decide) kw_498 (Or.inr kw_499) rfl dX3_atMost_1 ?_
  refine mg_aload_n C dX3_atMost_4 rfl ?_
  refine mg_iload_n C dX3_atMost_5 rfl ?_
  refine mg_callV_i C hh rfl (rest := [.int tot]) (c_X3_weightUpTo D cI cS w h0 ak al aw k sd tot mov er f ln tr x hh hak hal haw hk1 hk2 hok) yq_X3_weightUpTo kw_454 kw_455 kw_456 ⟨by decide, by decide⟩ ⟨Nat.le_of_ble_eq_true rfl, Nat.le_of_ble_eq_true rfl⟩ (Nat.le_of_ble_eq_true rfl) rfl rfl dX3_atMost_6 (fun r1 w2 ⟨e_r1, e_w2⟩ => ?_)
  rw [e_w2, e_r1]
  refine mg_aload_n C dX3_atMost_9 rfl ?_
  refine mg_get C inT3 hh rfl 8 (by decide) kw_101 (Or.inl rfl) rfl dX3_atMost_10 ?_
  refine mg_iadd C (z := (wO f ln k x 31) + er) dX3_atMost_13 rfl ?_
  refine mg_mmin C (z := if (wO f ln k x 31) + er < tot then (wO f ln k x 31) + er else tot) dX3_atMost_14 kw_500 ⟨Nat.le_of_ble_eq_true rfl, Nat.le_of_ble_eq_true rfl⟩ ⟨by decide, by decide⟩ rfl ?_
  exact hR _ _ _ _ dX3_atMost_17 ⟨rfl, rfl⟩

set_option maxHeartbeats 4000000 in
set_option maxRecDepth 20000 in
theorem c_X3_howManyKept (D : va_G) (cI cS : ClassId) (w : mwT) (h0 ak al aw k sd : Nat) (tot mov er : Int32) (f : Nat → Int32) (ln tr : Nat → Nat) (hh : w h0 = some (.inr (3, [.int (nI 4), .int (nI k), .int (nI sd), .int tot, .int mov, .ref ak, .ref al, .ref aw, .int er]))) (hak : w ak = some (eI cI (31 * k) f)) (hal : w al = some (eI cI 31 (lnF ln))) (haw : w aw = some (eI cI 31 (lnF tr))) (hk1 : 4 ≤ k) (hk2 : k ≤ 32) : mMi yX3_howManyKept cX3_howManyKept 3 (some .int) (rmL 1) [.ref h0] D cI cS w (fun r w1 => r = nI (smN ln 31) ∧ w1 = w) := by
  refine mMi.of (by decide) (Nat.le_of_ble_eq_true rfl) ?_
  intro X C hN hR
  refine mg_sub (lv' := [(0, .ref h0)]) [0] rfl ?_
  refine mg_iconst C (v := nI 0) dX3_howManyKept_0 (by decide) ?_
  refine mg_istore_n C (lv' := [(1, .int (nI 0)), (0, .ref h0)]) dX3_howManyKept_1 rfl (by decide) rfl ?_
  refine mg_iconst C (v := nI 0) dX3_howManyKept_2 (by decide) ?_
  refine mg_istore_n C (lv' := [(2, .int (nI 0)), (1, .int (nI 0)), (0, .ref h0)]) dX3_howManyKept_3 rfl (by decide) rfl ?_
  have L4 : ∀ (M4 : Nat) (bz : Nat), 31 - bz < M4 → (bz ≤ 31) → mwG X 0 0 w [(0, .ref h0), (1, .int (nI (smN ln bz))), (2, .int (nI bz))] [] 4 := by
    intro M4
    induction M4 with
    | zero => intro bz hm4; exact absurd hm4 (Nat.not_lt_zero _)
    | succ M4 ih4 =>
      intro bz hm4 hbz
      refine mg_iload_n C dX3_howManyKept_4 rfl ?_
      refine mg_bipush C (v := nI 31) dX3_howManyKept_5 (by decide) ?_
      refine mg_icmpN_ge C (tgt := 25) dX3_howManyKept_7 (by decide) (by omega) (by omega) (fun c_7 => ?_) (fun c_7 => ?_)
      · refine mg_iload_n C dX3_howManyKept_25 rfl ?_
        have eb : bz = 31 := by omega
        exact hR _ _ _ _ dX3_howManyKept_26 ⟨by rw [eb], rfl⟩
      · refine mg_iload_n C dX3_howManyKept_10 rfl ?_
        refine mg_aload_n C dX3_howManyKept_11 rfl ?_
        refine mg_get C inT3 hh rfl 6 (by decide) kw_99 (Or.inl rfl) rfl dX3_howManyKept_12 ?_
        refine mg_iload_n C dX3_howManyKept_15 rfl ?_
        refine mg_ialdN C hal (by omega) (by omega) dX3_howManyKept_16 ?_
        refine mg_iadd C (z := nI (smN ln bz + (ln bz))) dX3_howManyKept_17 (nI_add _ _) ?_
        refine mg_istore_n C (lv' := [(1, .int (nI (smN ln bz + (ln bz)))), (0, .ref h0), (2, .int (nI bz))]) dX3_howManyKept_18 rfl (by decide) rfl ?_
        refine mg_iinc C (v := nI (bz + 1)) (lv' := [(2, .int (nI (bz + 1))), (1, .int (nI (smN ln bz + (ln bz)))), (0, .ref h0)]) dX3_howManyKept_19 rfl (ni_inc _) (by decide) rfl ?_
        refine mg_goto C (tgt := 4) dX3_howManyKept_22 (by decide) ?_
        refine mg_sub (lv' := [(0, .ref h0), (1, .int (nI (smN ln bz + (ln bz)))), (2, .int (nI (bz + 1)))]) [2, 1, 0] rfl ?_
        exact ih4 ((bz + 1)) (by omega) (by omega)
  refine mg_sub (lv' := [(0, .ref h0), (1, .int (nI 0)), (2, .int (nI 0))]) [2, 1, 0] rfl ?_
  exact L4 (_ + 1) 0 (Nat.lt_succ_self _) (Nat.zero_le _)

set_option maxHeartbeats 4000000 in
set_option maxRecDepth 20000 in
theorem c_X3_keptAt (D : va_G) (cI cS : ClassId) (w : mwT) (h0 ak al aw k sd : Nat) (tot mov er : Int32) (f : Nat → Int32) (ln tr : Nat → Nat) (i pt : Int32) (hh : w h0 = some (.inr (3, [.int (nI 4), .int (nI k), .int (nI sd), .int tot, .int mov, .ref ak, .ref al, .ref aw, .int er]))) (hak : w ak = some (eI cI (31 * k) f)) (hal : w al = some (eI cI 31 (lnF ln))) (haw : w aw = some (eI cI 31 (lnF tr))) (hk1 : 4 ≤ k) (hk2 : k ≤ 32) (hok : rkOk k (f, ln, tr, er)) : mMi yX3_keptAt cX3_keptAt 3 (some .int) (rmL 2) [.ref h0, .int i, .int pt] D cI cS w (fun r w1 => ((r = -1 ∧ ¬ ixN 31 pt) ∨ (∃ b : Nat, b < 31 ∧ pt = nI b ∧ ((r = -1 ∧ ¬ (i = -1 ∨ ixN (ln b) i)) ∨ (i = -1 ∧ r = nI (ln b)) ∨ ∃ a : Nat, a < ln b ∧ i = nI a ∧ r = f (b * k + a)))) ∧ w1 = w) := by
  refine mMi.of (by decide) (Nat.le_of_ble_eq_true rfl) ?_
  intro X C hN hR
  refine mg_sub (lv' := [(0, .ref h0), (1, .int i), (2, .int pt)]) [0, 1, 2] rfl ?_
  refine mg_iload_n C dX3_keptAt_0 rfl ?_
  refine mg_if_lt C (tgt := 25) dX3_keptAt_1 (by decide) (fun c_1 => ?_) (fun c_1 => ?_)
  · refine mg_iconst C (v := (-1 : Int32)) dX3_keptAt_25 (by decide) ?_
    exact hR _ _ _ _ dX3_keptAt_26 ⟨Or.inl ⟨rfl, ix_lt (by omega) c_1⟩, rfl⟩
  · refine mg_iload_n C dX3_keptAt_4 rfl ?_
    refine mg_bipush C (v := nI 31) dX3_keptAt_5 (by decide) ?_
    refine mg_icmp_ge C (tgt := 25) dX3_keptAt_7 (by decide) (fun c_7 => ?_) (fun c_7 => ?_)
    · refine mg_iconst C (v := (-1 : Int32)) dX3_keptAt_25 (by decide) ?_
      exact hR _ _ _ _ dX3_keptAt_26 ⟨Or.inl ⟨rfl, ix_ge (by omega) c_7⟩, rfl⟩
    · obtain ⟨b, hb, rfl⟩ := ix_of (by omega) c_1 c_7
      have hlb : ln b ≤ k := hok.2 b
      refine mg_iload_n C dX3_keptAt_10 rfl ?_
      refine mg_iconst C (v := (-1 : Int32)) dX3_keptAt_11 (by decide) ?_
      refine mg_icmp_lt C (tgt := 25) dX3_keptAt_12 (by decide) (fun c_12 => ?_) (fun c_12 => ?_)
      · refine mg_iconst C (v := (-1 : Int32)) dX3_keptAt_25 (by decide) ?_
        exact hR _ _ _ _ dX3_keptAt_26 ⟨Or.inr ⟨b, hb, rfl, Or.inl ⟨rfl, ix_lm (by omega) c_12⟩⟩, rfl⟩
      · refine mg_iload_n C dX3_keptAt_15 rfl ?_
        refine mg_aload_n C dX3_keptAt_16 rfl ?_
        refine mg_get C inT3 hh rfl 6 (by decide) kw_99 (Or.inl rfl) rfl dX3_keptAt_17 ?_
        refine mg_iload_n C dX3_keptAt_20 rfl ?_
        refine mg_ialdN C hal (by omega) (by omega) dX3_keptAt_21 ?_
        refine mg_icmp_lt C (tgt := 27) dX3_keptAt_22 (by decide) (fun c_22 => ?_) (fun c_22 => ?_)
        · refine mg_iload_n C dX3_keptAt_27 rfl ?_
          refine mg_iconst C (v := (-1 : Int32)) dX3_keptAt_28 (by decide) ?_
          refine mg_icmp_ne C (tgt := 41) dX3_keptAt_29 (by decide) (fun c_29 => ?_) (fun c_29 => ?_)
          · obtain ⟨a, ha, rfl⟩ := ix_m1 (by omega) c_12 c_29 c_22
            refine mg_aload_n C dX3_keptAt_41 rfl ?_
            refine mg_iload_n C dX3_keptAt_42 rfl ?_
            refine mg_iload_n C dX3_keptAt_43 rfl ?_
            refine mg_callV_i C hh rfl (rest := []) (c_X3_keyAt D cI cS w h0 ak al aw k sd tot mov er f ln tr b a hh hak hal haw hk1 hk2 (by omega) (by omega)) yq_X3_keyAt kw_313 kw_314 kw_315 ⟨by decide, by decide⟩ ⟨Nat.le_of_ble_eq_true rfl, Nat.le_of_ble_eq_true rfl⟩ (Nat.le_of_ble_eq_true rfl) rfl rfl dX3_keptAt_44 (fun r1 w2 ⟨e_r1, e_w2⟩ => ?_)
            rw [e_w2, e_r1]
            exact hR _ _ _ _ dX3_keptAt_47 ⟨Or.inr ⟨b, hb, rfl, Or.inr (Or.inr ⟨a, ha, rfl, rfl⟩)⟩, rfl⟩
          · refine mg_aload_n C dX3_keptAt_32 rfl ?_
            refine mg_get C inT3 hh rfl 6 (by decide) kw_99 (Or.inl rfl) rfl dX3_keptAt_33 ?_
            refine mg_iload_n C dX3_keptAt_36 rfl ?_
            refine mg_ialdN C hal (by omega) (by omega) dX3_keptAt_37 ?_
            refine mg_goto C (tgt := 47) dX3_keptAt_38 (by decide) ?_
            exact hR _ _ _ _ dX3_keptAt_47 ⟨Or.inr ⟨b, hb, rfl, Or.inr (Or.inl ⟨c_29, rfl⟩)⟩, rfl⟩
        · refine mg_iconst C (v := (-1 : Int32)) dX3_keptAt_25 (by decide) ?_
          exact hR _ _ _ _ dX3_keptAt_26 ⟨Or.inr ⟨b, hb, rfl, Or.inl ⟨rfl, ix_gm (by omega) c_22⟩⟩, rfl⟩

set_option maxHeartbeats 4000000 in
set_option maxRecDepth 20000 in
theorem c_X3_keyAtRank (D : va_G) (cI cS : ClassId) (w : mwT) (h0 ak al aw k sd : Nat) (tot mov er : Int32) (f : Nat → Int32) (ln tr : Nat → Nat) (q : Int32) (hh : w h0 = some (.inr (3, [.int (nI 4), .int (nI k), .int (nI sd), .int tot, .int mov, .ref ak, .ref al, .ref aw, .int er]))) (hak : w ak = some (eI cI (31 * k) f)) (hal : w al = some (eI cI 31 (lnF ln))) (haw : w aw = some (eI cI 31 (lnF tr))) (hk1 : 4 ≤ k) (hk2 : k ≤ 32) (hok : rkOk k (f, ln, tr, er)) : mMi yX3_keyAtRank cX3_keyAtRank 6 (some .int) (rmL 3) [.ref h0, .int q] D cI cS w (fun r w1 => ((r = -1 ∧ (q < nI 1 ∨ ¬ q ≤ tot)) ∨ (¬ q < nI 1 ∧ q ≤ tot ∧ r = nI (bsR (fun m => wO f ln k (nI m) 31) q 14 0 9999))) ∧ w1 = w) := by
  refine mMi.of (by decide) (Nat.le_of_ble_eq_true rfl) ?_
  intro X C hN hR
  refine mg_sub (lv' := [(0, .ref h0), (1, .int q)]) [0, 1] rfl ?_
  refine mg_iload_n C dX3_keyAtRank_0 rfl ?_
  refine mg_iconst C (v := nI 1) dX3_keyAtRank_1 (by decide) ?_
  refine mg_icmp_lt C (tgt := 13) dX3_keyAtRank_2 (by decide) (fun c_2 => ?_) (fun c_2 => ?_)
  · refine mg_iconst C (v := (-1 : Int32)) dX3_keyAtRank_13 (by decide) ?_
    exact hR _ _ _ _ dX3_keyAtRank_14 ⟨Or.inl ⟨rfl, Or.inl c_2⟩, rfl⟩
  · refine mg_iload_n C dX3_keyAtRank_5 rfl ?_
    refine mg_aload_n C dX3_keyAtRank_6 rfl ?_
    refine mg_get C inT3 hh rfl 3 (by decide) kw_498 (Or.inr kw_499) rfl dX3_keyAtRank_7 ?_
    refine mg_icmp_le C (tgt := 15) dX3_keyAtRank_10 (by decide) (fun c_10 => ?_) (fun c_10 => ?_)
    · refine mg_iconst C (v := nI 0) dX3_keyAtRank_15 (by decide) ?_
      refine mg_istore_n C (lv' := [(2, .int (nI 0)), (0, .ref h0), (1, .int q)]) dX3_keyAtRank_16 rfl (by decide) rfl ?_
      refine mg_sipush C (v := nI 9999) dX3_keyAtRank_17 (by decide) ?_
      refine mg_istore_n C (lv' := [(3, .int (nI 9999)), (2, .int (nI 0)), (0, .ref h0), (1, .int q)]) dX3_keyAtRank_20 rfl (by decide) rfl ?_
      refine mg_iconst C (v := nI 0) dX3_keyAtRank_21 (by decide) ?_
      refine mg_istore C (lv' := [(4, .int (nI 0)), (3, .int (nI 9999)), (2, .int (nI 0)), (0, .ref h0), (1, .int q)]) dX3_keyAtRank_22 (by decide) rfl ?_
      have L24 : ∀ (M24 : Nat) (sz : Nat) (lz : Nat) (hz : Nat), 14 - sz < M24 → (sz ≤ 14) → (lz ≤ 10000) → (hz ≤ 9999) → (bsR (fun m => wO f ln k (nI m) 31) q (14 - sz) lz hz = bsR (fun m => wO f ln k (nI m) 31) q 14 0 9999) → mwG X 0 0 w [(0, .ref h0), (1, .int q), (2, .int (nI lz)), (3, .int (nI hz)), (4, .int (nI sz))] [] 24 := by
        intro M24
        induction M24 with
        | zero => intro sz lz hz hm24; exact absurd hm24 (Nat.not_lt_zero _)
        | succ M24 ih24 =>
          intro sz lz hz hm24 hsz hlz hhz hbs
          refine mg_iload C dX3_keyAtRank_24 rfl ?_
          refine mg_bipush C (v := nI 14) dX3_keyAtRank_26 (by decide) ?_
          refine mg_icmpN_ge C (tgt := 70) dX3_keyAtRank_28 (by decide) (by omega) (by omega) (fun c_28 => ?_) (fun c_28 => ?_)
          · refine mg_iload_n C dX3_keyAtRank_70 rfl ?_
            have er2 : lz = bsR (fun m => wO f ln k (nI m) 31) q 14 0 9999 := by
              rw [← hbs, show 14 - sz = 0 by omega]
              rfl
            exact hR _ _ _ _ dX3_keyAtRank_71 ⟨Or.inr ⟨c_2, c_10, congrArg nI er2⟩, rfl⟩
          · refine mg_iload_n C dX3_keyAtRank_31 rfl ?_
            refine mg_iload_n C dX3_keyAtRank_32 rfl ?_
            refine mg_icmpN_ge C (tgt := 70) dX3_keyAtRank_33 (by decide) (by omega) (by omega) (fun c_33 => ?_) (fun c_33 => ?_)
            · refine mg_iload_n C dX3_keyAtRank_70 rfl ?_
              have er2 : lz = bsR (fun m => wO f ln k (nI m) 31) q 14 0 9999 := by
                rw [← hbs]
                obtain ⟨n1, hn1⟩ : ∃ n1, 14 - sz = n1 + 1 := ⟨13 - sz, by omega⟩
                rw [hn1]
                exact (if_neg (Nat.not_lt.mpr c_33)).symm
              exact hR _ _ _ _ dX3_keyAtRank_71 ⟨Or.inr ⟨c_2, c_10, congrArg nI er2⟩, rfl⟩
            · refine mg_iload_n C dX3_keyAtRank_36 rfl ?_
              refine mg_iload_n C dX3_keyAtRank_37 rfl ?_
              refine mg_iadd C (z := nI (lz + hz)) dX3_keyAtRank_38 (nI_add _ _) ?_
              refine mg_iconst C (v := nI 2) dX3_keyAtRank_39 (by decide) ?_
              refine mg_idiv C (z := nI ((lz + hz) / 2)) dX3_keyAtRank_40 (nI_ne0 (by omega) (by omega)) (pk_div (by omega) (by omega) (by omega)) ?_
              refine mg_istore C (lv' := [(5, .int (nI ((lz + hz) / 2))), (0, .ref h0), (1, .int q), (2, .int (nI lz)), (3, .int (nI hz)), (4, .int (nI sz))]) dX3_keyAtRank_41 (by decide) rfl ?_
              refine mg_aload_n C dX3_keyAtRank_43 rfl ?_
              refine mg_iload C dX3_keyAtRank_44 rfl ?_
              refine mg_callV_i C hh rfl (rest := []) (c_X3_weightUpTo D cI cS w h0 ak al aw k sd tot mov er f ln tr (nI ((lz + hz) / 2)) hh hak hal haw hk1 hk2 hok) yq_X3_weightUpTo kw_454 kw_455 kw_456 ⟨by decide, by decide⟩ ⟨Nat.le_of_ble_eq_true rfl, Nat.le_of_ble_eq_true rfl⟩ (Nat.le_of_ble_eq_true rfl) rfl rfl dX3_keyAtRank_46 (fun r1 w2 ⟨e_r1, e_w2⟩ => ?_)
              rw [e_w2, e_r1]
              refine mg_iload_n C dX3_keyAtRank_49 rfl ?_
              refine mg_icmp_lt C (tgt := 59) dX3_keyAtRank_50 (by decide) (fun c_50 => ?_) (fun c_50 => ?_)
              · refine mg_iload C dX3_keyAtRank_59 rfl ?_
                refine mg_iconst C (v := nI 1) dX3_keyAtRank_61 (by decide) ?_
                refine mg_iadd C (z := nI (((lz + hz) / 2) + 1)) dX3_keyAtRank_62 (nI_add _ _) ?_
                refine mg_istore_n C (lv' := [(2, .int (nI (((lz + hz) / 2) + 1))), (5, .int (nI ((lz + hz) / 2))), (0, .ref h0), (1, .int q), (3, .int (nI hz)), (4, .int (nI sz))]) dX3_keyAtRank_63 rfl (by decide) rfl ?_
                have hb2 : bsR (fun m => wO f ln k (nI m) 31) q (14 - (sz + 1)) (((lz + hz) / 2) + 1) (hz) = bsR (fun m => wO f ln k (nI m) 31) q 14 0 9999 := by
                  rw [← hbs]
                  obtain ⟨n1, hn1⟩ : ∃ n1, 14 - sz = n1 + 1 := ⟨13 - sz, by omega⟩
                  rw [show 14 - (sz + 1) = n1 by omega, hn1]
                  exact ((if_pos c_33).trans (if_pos c_50)).symm
                refine mg_iinc C (v := nI (sz + 1)) (lv' := [(4, .int (nI (sz + 1))), (2, .int (nI (((lz + hz) / 2) + 1))), (5, .int (nI ((lz + hz) / 2))), (0, .ref h0), (1, .int q), (3, .int (nI hz))]) dX3_keyAtRank_64 rfl (ni_inc _) (by decide) rfl ?_
                refine mg_goto C (tgt := 24) dX3_keyAtRank_67 (by decide) ?_
                refine mg_sub (lv' := [(0, .ref h0), (1, .int q), (2, .int (nI (((lz + hz) / 2) + 1))), (3, .int (nI hz)), (4, .int (nI (sz + 1)))]) [3, 4, 1, 5, 0] rfl ?_
                exact ih24 ((sz + 1)) (((lz + hz) / 2) + 1) hz (by omega) (by omega) (by omega) (by omega) hb2
              · refine mg_iload C dX3_keyAtRank_53 rfl ?_
                refine mg_istore_n C (lv' := [(3, .int (nI ((lz + hz) / 2))), (5, .int (nI ((lz + hz) / 2))), (0, .ref h0), (1, .int q), (2, .int (nI lz)), (4, .int (nI sz))]) dX3_keyAtRank_55 rfl (by decide) rfl ?_
                refine mg_goto C (tgt := 64) dX3_keyAtRank_56 (by decide) ?_
                have hb2 : bsR (fun m => wO f ln k (nI m) 31) q (14 - (sz + 1)) (lz) ((lz + hz) / 2) = bsR (fun m => wO f ln k (nI m) 31) q 14 0 9999 := by
                  rw [← hbs]
                  obtain ⟨n1, hn1⟩ : ∃ n1, 14 - sz = n1 + 1 := ⟨13 - sz, by omega⟩
                  rw [show 14 - (sz + 1) = n1 by omega, hn1]
                  exact ((if_pos c_33).trans (if_neg c_50)).symm
                refine mg_iinc C (v := nI (sz + 1)) (lv' := [(4, .int (nI (sz + 1))), (3, .int (nI ((lz + hz) / 2))), (5, .int (nI ((lz + hz) / 2))), (0, .ref h0), (1, .int q), (2, .int (nI lz))]) dX3_keyAtRank_64 rfl (ni_inc _) (by decide) rfl ?_
                refine mg_goto C (tgt := 24) dX3_keyAtRank_67 (by decide) ?_
                refine mg_sub (lv' := [(0, .ref h0), (1, .int q), (2, .int (nI lz)), (3, .int (nI ((lz + hz) / 2))), (4, .int (nI (sz + 1)))]) [3, 4, 5, 1, 0] rfl ?_
                exact ih24 ((sz + 1)) lz ((lz + hz) / 2) (by omega) (by omega) (by omega) (by omega) hb2
      refine mg_sub (lv' := [(0, .ref h0), (1, .int q), (2, .int (nI 0)), (3, .int (nI 9999)), (4, .int (nI 0))]) [3, 4, 2, 1, 0] rfl ?_
      exact L24 (_ + 1) 0 0 9999 (Nat.lt_succ_self _) (by omega) (by omega) (by omega) rfl
    · refine mg_iconst C (v := (-1 : Int32)) dX3_keyAtRank_13 (by decide) ?_
      exact hR _ _ _ _ dX3_keyAtRank_14 ⟨Or.inl ⟨rfl, Or.inr c_10⟩, rfl⟩

set_option maxHeartbeats 4000000 in
set_option maxRecDepth 20000 in
theorem c_X3_mayTake (D : va_G) (cI cS : ClassId) (w : mwT) (h0 : Nat) (x : Int32) : mMi yX3_mayTake cX3_mayTake 2 (some .boolean) (rmL 1) [.ref h0, .int x] D cI cS w (fun r w1 => ((r = nI 1 ∧ rp 1 100 x) ∨ (r = nI 0 ∧ ¬ rp 1 100 x)) ∧ w1 = w) := by
  refine mMz.of (by decide) (Nat.le_of_ble_eq_true rfl) ?_
  intro X C hN hR
  refine mg_sub (lv' := [(0, .ref h0), (1, .int x)]) [0, 1] rfl ?_
  refine mg_iload_n C dX3_mayTake_0 rfl ?_
  refine mg_iconst C (v := nI 1) dX3_mayTake_1 (by decide) ?_
  refine mg_icmp_lt C (tgt := 15) dX3_mayTake_2 (by decide) (fun c_2 => ?_) (fun c_2 => ?_)
  · refine mg_iconst C (v := nI 0) dX3_mayTake_15 (by decide) ?_
    exact hR _ _ _ _ dX3_mayTake_16 (Or.inl rfl) ⟨Or.inr ⟨rfl, rp_lt (by decide) c_2⟩, rfl⟩
  · refine mg_iload_n C dX3_mayTake_5 rfl ?_
    refine mg_bipush C (v := nI 100) dX3_mayTake_6 (by decide) ?_
    refine mg_icmp_gt C (tgt := 15) dX3_mayTake_8 (by decide) (fun c_8 => ?_) (fun c_8 => ?_)
    · refine mg_iconst C (v := nI 0) dX3_mayTake_15 (by decide) ?_
      exact hR _ _ _ _ dX3_mayTake_16 (Or.inl rfl) ⟨Or.inr ⟨rfl, rp_gt (by decide) c_8⟩, rfl⟩
    · refine mg_iconst C (v := nI 1) dX3_mayTake_11 (by decide) ?_
      refine mg_goto C (tgt := 16) dX3_mayTake_12 (by decide) ?_
      exact hR _ _ _ _ dX3_mayTake_16 (Or.inr rfl) ⟨Or.inl ⟨rfl, rp_in (by decide) c_2 c_8⟩, rfl⟩

set_option maxHeartbeats 4000000 in
set_option maxRecDepth 20000 in
theorem c_X3_mayLack (D : va_G) (cI cS : ClassId) (w : mwT) (h0 ak al aw k sd : Nat) (tot mov er : Int32) (f : Nat → Int32) (ln tr : Nat → Nat) (hh : w h0 = some (.inr (3, [.int (nI 4), .int (nI k), .int (nI sd), .int tot, .int mov, .ref ak, .ref al, .ref aw, .int er]))) (hak : w ak = some (eI cI (31 * k) f)) (hal : w al = some (eI cI 31 (lnF ln))) (haw : w aw = some (eI cI 31 (lnF tr))) : mMi yX3_mayLack cX3_mayLack 1 (some .int) (rmL 1) [.ref h0] D cI cS w (fun r w1 => r = er ∧ w1 = w) := by
  refine mMi.of (by decide) (Nat.le_of_ble_eq_true rfl) ?_
  intro X C hN hR
  refine mg_sub (lv' := [(0, .ref h0)]) [0] rfl ?_
  refine mg_aload_n C dX3_mayLack_0 rfl ?_
  refine mg_get C inT3 hh rfl 8 (by decide) kw_101 (Or.inl rfl) rfl dX3_mayLack_1 ?_
  exact hR _ _ _ _ dX3_mayLack_4 ⟨rfl, rfl⟩

set_option maxHeartbeats 4000000 in
set_option maxRecDepth 20000 in
theorem c_X3_forget (D : va_G) (cI cS : ClassId) (w : mwT) (h0 ak al aw k sd : Nat) (tot mov er : Int32) (f : Nat → Int32) (ln tr : Nat → Nat) (hh : w h0 = some (.inr (3, [.int (nI 4), .int (nI k), .int (nI sd), .int tot, .int mov, .ref ak, .ref al, .ref aw, .int er]))) (hak : w ak = some (eI cI (31 * k) f)) (hal : w al = some (eI cI 31 (lnF ln))) (haw : w aw = some (eI cI 31 (lnF tr))) (hd1 : ak ≠ al) (hd2 : ak ≠ aw) (hd3 : al ≠ aw) : mMv yX3_forget cX3_forget 1 none (rmL 2) [.ref h0] D cI cS w (fun w1 => w1 h0 = some (.inr (3, [.int (nI 4), .int (nI k), .int (nI sd), .int tot, .int mov, .ref ak, .ref al, .ref aw, .int (nI 0)])) ∧ w1 al = some (eI cI 31 (lnF (clN ln))) ∧ w1 aw = some (eI cI 31 (lnF (clN tr))) ∧ ∀ z : Nat, z ≠ h0 → z ≠ al → z ≠ aw → w1 z = w z) := by
  refine mMv.of (by decide) (Nat.le_of_ble_eq_true rfl) ?_
  intro X C hN hR
  have fr_w : ∀ zz : Nat, w zz = w zz := fun _ => rfl
  refine mg_sub (lv' := [(0, .ref h0)]) [0] rfl ?_
  refine mg_aload_n C dX3_forget_0 rfl ?_
  refine mg_get C inT3 hh rfl 6 (by decide) kw_99 (Or.inl rfl) rfl dX3_forget_1 ?_
  refine mg_callN_v C (rest := []) (c_X6_clearRow D cI cS w al 31 (lnF ln) hal (by omega)) yq_X6_clearRow kn_9 kw_213 ⟨by decide, by decide⟩ ⟨Nat.le_of_ble_eq_true rfl, Nat.le_of_ble_eq_true rfl⟩ (Nat.le_of_ble_eq_true rfl) rfl rfl dX3_forget_4 (fun w1 ⟨xh1, xf1⟩ => ?_)
  rw [clN_F] at xh1
  have h_w1_h0 : w1 h0 = some (.inr (3, [.int (nI 4), .int (nI k), .int (nI sd), .int tot, .int mov, .ref ak, .ref al, .ref aw, .int er])) := (xf1 h0 (mw_oa hh hal)).trans hh
  have h_w1_ak : w1 ak = some (eI cI (31 * k) f) := (xf1 ak hd1).trans hak
  have h_w1_aw : w1 aw = some (eI cI 31 (lnF tr)) := (xf1 aw (Ne.symm hd3)).trans haw
  have fr_w1 : ∀ zz : Nat, zz ≠ al → w1 zz = w zz := fun zz g0 => (xf1 zz g0).trans (fr_w zz )
  refine mg_aload_n C dX3_forget_7 rfl ?_
  refine mg_get C inT3 h_w1_h0 rfl 7 (by decide) kw_100 (Or.inl rfl) rfl dX3_forget_8 ?_
  refine mg_callN_v C (rest := []) (c_X6_clearRow D cI cS w1 aw 31 (lnF tr) h_w1_aw (by omega)) yq_X6_clearRow kn_9 kw_213 ⟨by decide, by decide⟩ ⟨Nat.le_of_ble_eq_true rfl, Nat.le_of_ble_eq_true rfl⟩ (Nat.le_of_ble_eq_true rfl) rfl rfl dX3_forget_11 (fun w2 ⟨xh2, xf2⟩ => ?_)
  rw [clN_F] at xh2
  have h_w2_h0 : w2 h0 = some (.inr (3, [.int (nI 4), .int (nI k), .int (nI sd), .int tot, .int mov, .ref ak, .ref al, .ref aw, .int er])) := (xf2 h0 (mw_oa h_w1_h0 h_w1_aw)).trans h_w1_h0
  have h_w2_ak : w2 ak = some (eI cI (31 * k) f) := (xf2 ak hd2).trans h_w1_ak
  have h_w2_al : w2 al = some (eI cI 31 (lnF (clN ln))) := (xf2 al hd3).trans xh1
  have fr_w2 : ∀ zz : Nat, zz ≠ al → zz ≠ aw → w2 zz = w zz := fun zz g0 g1 => (xf2 zz g1).trans (fr_w1 zz g0)
  refine mg_aload_n C dX3_forget_14 rfl ?_
  refine mg_iconst C (v := nI 0) dX3_forget_15 (by decide) ?_
  refine mg_put C (fs' := [.int (nI 4), .int (nI k), .int (nI sd), .int tot, .int mov, .ref ak, .ref al, .ref aw, .int (nI 0)]) inT3 h_w2_h0 rfl 8 (by decide) kw_101 (Or.inl rfl) tyX3_ok nmX3 rfl rfl rfl rfl (Nat.le_of_ble_eq_true rfl) dX3_forget_16 (fun w3 e_w3 => ?_)
  have h_w3_h0 : w3 h0 = some (.inr (3, [.int (nI 4), .int (nI k), .int (nI sd), .int tot, .int mov, .ref ak, .ref al, .ref aw, .int (nI 0)])) := (congrFun e_w3 _).trans mwu_eq
  have h_w3_ak : w3 ak = some (eI cI (31 * k) f) := (congrFun e_w3 _).trans ((mwu_ne (mw_ao h_w2_ak h_w2_h0)).trans h_w2_ak)
  have h_w3_al : w3 al = some (eI cI 31 (lnF (clN ln))) := (congrFun e_w3 _).trans ((mwu_ne (mw_ao h_w2_al h_w2_h0)).trans h_w2_al)
  have h_w3_aw : w3 aw = some (eI cI 31 (lnF (clN tr))) := (congrFun e_w3 _).trans ((mwu_ne (mw_ao xh2 h_w2_h0)).trans xh2)
  have fr_w3 : ∀ zz : Nat, zz ≠ al → zz ≠ aw → zz ≠ h0 → w3 zz = w zz := fun zz g0 g1 g2 => (congrFun e_w3 zz).trans ((mwu_ne g2).trans (fr_w2 zz g0 g1))
  exact hR _ _ _ dX3_forget_19 ⟨h_w3_h0, h_w3_al, h_w3_aw, fun z q0 q1 q2 => fr_w3 z q1 q2 q0⟩

set_option maxHeartbeats 4000000 in
set_option maxRecDepth 20000 in
theorem c_X3_init (D : va_G) (cI cS : ClassId) (w : mwT) (h0 k sd : Nat) (hh : w h0 = some (.inr (3, [.int 0, .int 0, .int 0, .int 0, .int 0, .null, .null, .null, .int 0]))) (hk1 : 4 ≤ k) (hk2 : k ≤ 32) : mMv yX3_init cX3_init 3 none (rmA 2 3 1054) [.ref h0, .int (nI k), .int (nI sd)] D cI cS w (fun w1 => ∃ qa qb qc : Nat, w qa = none ∧ w qb = none ∧ w qc = none ∧ qa ≠ qb ∧ qa ≠ qc ∧ qb ≠ qc ∧ w1 h0 = some (.inr (3, [.int (nI 4), .int (nI k), .int (nI sd), .int (nI 0), .int (nI 0), .ref qa, .ref qb, .ref qc, .int (nI 0)])) ∧ w1 qa = some (eI cI (31 * k) (fun _ => 0)) ∧ w1 qb = some (eI cI 31 (fun _ => 0)) ∧ w1 qc = some (eI cI 31 (fun _ => 0)) ∧ ∀ z : Nat, z ≠ h0 → z ≠ qa → z ≠ qb → z ≠ qc → w1 z = w z) := by
  refine mMv.of (by decide) (Nat.le_of_ble_eq_true rfl) ?_
  intro X C hN hR
  have fr_w : ∀ zz : Nat, w zz = w zz := fun _ => rfl
  refine mg_sub (lv' := [(0, .ref h0), (1, .int (nI k)), (2, .int (nI sd))]) [0, 1, 2] rfl ?_
  refine mg_aload_n C dX3_init_0 rfl ?_
  refine mg_iconst C (v := nI 4) dX3_init_1 (by decide) ?_
  refine mg_iload_n C dX3_init_2 rfl ?_
  refine mg_iload_n C dX3_init_3 rfl ?_
  refine mg_callI_v C (rest := []) (c_X4_init_R D cI cS w h0 4 k sd hh) yq_X4_init kw_102 kw_70 rfl ⟨by decide, by decide⟩ ⟨Nat.le_of_ble_eq_true rfl, Nat.le_of_ble_eq_true rfl⟩ (Nat.le_of_ble_eq_true rfl) rfl rfl dX3_init_4 (fun w1 ⟨xh1, xf1⟩ => ?_)
  refine mg_widen (k := 0) (n := 0) (by decide) (by decide) ?_
  have fr_w1 : ∀ zz : Nat, zz ≠ h0 → w1 zz = w zz := fun zz g0 => (xf1 zz g0).trans (fr_w zz )
  refine mg_aload_n C dX3_init_7 rfl ?_
  refine mg_bipush C (v := nI 31) dX3_init_8 (by decide) ?_
  refine mg_iload_n C dX3_init_10 rfl ?_
  refine mg_imul C (z := nI (31 * k)) dX3_init_11 (pk_mul _ _) ?_
  refine mg_newa C kw_19 (by omega) ⟨by decide, by (show 0 + (31 * k) ≤ 1054; omega)⟩ dX3_init_12 (fun q2 w3 n_q2 e_w3 => ?_)
  refine mg_widen (k := 1) (n := 992) (by decide) (by omega) ?_
  have nd_q2_h0 : h0 ≠ q2 := mw_nn xh1 n_q2
  have nz_q2 : w q2 = none := (fr_w1 q2 (Ne.symm nd_q2_h0)).symm.trans n_q2
  have h_w3_h0 : w3 h0 = some (.inr (3, [.int (nI 4), .int (nI k), .int (nI sd), .int (nI 0), .int (nI 0), .null, .null, .null, .int 0])) := (congrFun e_w3 _).trans ((mwu_ne nd_q2_h0).trans xh1)
  have h_w3_q2 : w3 q2 = some (eI cI (31 * k) (fun _ => 0)) := (congrFun e_w3 _).trans mwu_eq
  have fr_w3 : ∀ zz : Nat, zz ≠ h0 → zz ≠ q2 → w3 zz = w zz := fun zz g0 g1 => (congrFun e_w3 zz).trans ((mwu_ne g1).trans (fr_w1 zz g0))
  refine mg_putF C (fs' := [.int (nI 4), .int (nI k), .int (nI sd), .int (nI 0), .int (nI 0), .ref q2, .null, .null, .int 0]) inT3 h_w3_h0 rfl 5 (by decide) kw_98 (Or.inl rfl) tyX3_ok nmX3 rfl hN rfl rfl rfl rfl (Nat.le_of_ble_eq_true rfl) dX3_init_14 (fun w4 e_w4 => ?_)
  have h_w4_h0 : w4 h0 = some (.inr (3, [.int (nI 4), .int (nI k), .int (nI sd), .int (nI 0), .int (nI 0), .ref q2, .null, .null, .int 0])) := (congrFun e_w4 _).trans mwu_eq
  have h_w4_q2 : w4 q2 = some (eI cI (31 * k) (fun _ => 0)) := (congrFun e_w4 _).trans ((mwu_ne (Ne.symm nd_q2_h0)).trans h_w3_q2)
  have fr_w4 : ∀ zz : Nat, zz ≠ h0 → zz ≠ q2 → w4 zz = w zz := fun zz g0 g1 => (congrFun e_w4 zz).trans ((mwu_ne g0).trans (fr_w3 zz g0 g1))
  refine mg_aload_n C dX3_init_17 rfl ?_
  refine mg_bipush C (v := nI 31) dX3_init_18 (by decide) ?_
  refine mg_newa C kw_19 (by omega) ⟨by decide, by (show 992 + 31 ≤ 1054; omega)⟩ dX3_init_20 (fun q5 w6 n_q5 e_w6 => ?_)
  refine mg_widen (k := 2) (n := 1023) (by decide) (by omega) ?_
  have nd_q5_h0 : h0 ≠ q5 := mw_nn h_w4_h0 n_q5
  have nd_q5_q2 : q2 ≠ q5 := mw_nn h_w4_q2 n_q5
  have nz_q5 : w q5 = none := (fr_w4 q5 (Ne.symm nd_q5_h0) (Ne.symm nd_q5_q2)).symm.trans n_q5
  have h_w6_h0 : w6 h0 = some (.inr (3, [.int (nI 4), .int (nI k), .int (nI sd), .int (nI 0), .int (nI 0), .ref q2, .null, .null, .int 0])) := (congrFun e_w6 _).trans ((mwu_ne nd_q5_h0).trans h_w4_h0)
  have h_w6_q2 : w6 q2 = some (eI cI (31 * k) (fun _ => 0)) := (congrFun e_w6 _).trans ((mwu_ne nd_q5_q2).trans h_w4_q2)
  have h_w6_q5 : w6 q5 = some (eI cI 31 (fun _ => 0)) := (congrFun e_w6 _).trans mwu_eq
  have fr_w6 : ∀ zz : Nat, zz ≠ h0 → zz ≠ q2 → zz ≠ q5 → w6 zz = w zz := fun zz g0 g1 g2 => (congrFun e_w6 zz).trans ((mwu_ne g2).trans (fr_w4 zz g0 g1))
  refine mg_putF C (fs' := [.int (nI 4), .int (nI k), .int (nI sd), .int (nI 0), .int (nI 0), .ref q2, .ref q5, .null, .int 0]) inT3 h_w6_h0 rfl 6 (by decide) kw_99 (Or.inl rfl) tyX3_ok nmX3 rfl hN rfl rfl rfl rfl (Nat.le_of_ble_eq_true rfl) dX3_init_22 (fun w7 e_w7 => ?_)
  have h_w7_h0 : w7 h0 = some (.inr (3, [.int (nI 4), .int (nI k), .int (nI sd), .int (nI 0), .int (nI 0), .ref q2, .ref q5, .null, .int 0])) := (congrFun e_w7 _).trans mwu_eq
  have h_w7_q2 : w7 q2 = some (eI cI (31 * k) (fun _ => 0)) := (congrFun e_w7 _).trans ((mwu_ne (Ne.symm nd_q2_h0)).trans h_w6_q2)
  have h_w7_q5 : w7 q5 = some (eI cI 31 (fun _ => 0)) := (congrFun e_w7 _).trans ((mwu_ne (Ne.symm nd_q5_h0)).trans h_w6_q5)
  have fr_w7 : ∀ zz : Nat, zz ≠ h0 → zz ≠ q2 → zz ≠ q5 → w7 zz = w zz := fun zz g0 g1 g2 => (congrFun e_w7 zz).trans ((mwu_ne g0).trans (fr_w6 zz g0 g1 g2))
  refine mg_aload_n C dX3_init_25 rfl ?_
  refine mg_bipush C (v := nI 31) dX3_init_26 (by decide) ?_
  refine mg_newa C kw_19 (by omega) ⟨by decide, by (show 1023 + 31 ≤ 1054; omega)⟩ dX3_init_28 (fun q8 w9 n_q8 e_w9 => ?_)
  refine mg_widen (k := 3) (n := 1054) (by decide) (by omega) ?_
  have nd_q8_h0 : h0 ≠ q8 := mw_nn h_w7_h0 n_q8
  have nd_q8_q2 : q2 ≠ q8 := mw_nn h_w7_q2 n_q8
  have nd_q8_q5 : q5 ≠ q8 := mw_nn h_w7_q5 n_q8
  have nz_q8 : w q8 = none := (fr_w7 q8 (Ne.symm nd_q8_h0) (Ne.symm nd_q8_q2) (Ne.symm nd_q8_q5)).symm.trans n_q8
  have h_w9_h0 : w9 h0 = some (.inr (3, [.int (nI 4), .int (nI k), .int (nI sd), .int (nI 0), .int (nI 0), .ref q2, .ref q5, .null, .int 0])) := (congrFun e_w9 _).trans ((mwu_ne nd_q8_h0).trans h_w7_h0)
  have h_w9_q2 : w9 q2 = some (eI cI (31 * k) (fun _ => 0)) := (congrFun e_w9 _).trans ((mwu_ne nd_q8_q2).trans h_w7_q2)
  have h_w9_q5 : w9 q5 = some (eI cI 31 (fun _ => 0)) := (congrFun e_w9 _).trans ((mwu_ne nd_q8_q5).trans h_w7_q5)
  have h_w9_q8 : w9 q8 = some (eI cI 31 (fun _ => 0)) := (congrFun e_w9 _).trans mwu_eq
  have fr_w9 : ∀ zz : Nat, zz ≠ h0 → zz ≠ q2 → zz ≠ q5 → zz ≠ q8 → w9 zz = w zz := fun zz g0 g1 g2 g3 => (congrFun e_w9 zz).trans ((mwu_ne g3).trans (fr_w7 zz g0 g1 g2))
  refine mg_putF C (fs' := [.int (nI 4), .int (nI k), .int (nI sd), .int (nI 0), .int (nI 0), .ref q2, .ref q5, .ref q8, .int 0]) inT3 h_w9_h0 rfl 7 (by decide) kw_100 (Or.inl rfl) tyX3_ok nmX3 rfl hN rfl rfl rfl rfl (Nat.le_of_ble_eq_true rfl) dX3_init_30 (fun w10 e_w10 => ?_)
  have h_w10_h0 : w10 h0 = some (.inr (3, [.int (nI 4), .int (nI k), .int (nI sd), .int (nI 0), .int (nI 0), .ref q2, .ref q5, .ref q8, .int 0])) := (congrFun e_w10 _).trans mwu_eq
  have h_w10_q2 : w10 q2 = some (eI cI (31 * k) (fun _ => 0)) := (congrFun e_w10 _).trans ((mwu_ne (Ne.symm nd_q2_h0)).trans h_w9_q2)
  have h_w10_q5 : w10 q5 = some (eI cI 31 (fun _ => 0)) := (congrFun e_w10 _).trans ((mwu_ne (Ne.symm nd_q5_h0)).trans h_w9_q5)
  have h_w10_q8 : w10 q8 = some (eI cI 31 (fun _ => 0)) := (congrFun e_w10 _).trans ((mwu_ne (Ne.symm nd_q8_h0)).trans h_w9_q8)
  have fr_w10 : ∀ zz : Nat, zz ≠ h0 → zz ≠ q2 → zz ≠ q5 → zz ≠ q8 → w10 zz = w zz := fun zz g0 g1 g2 g3 => (congrFun e_w10 zz).trans ((mwu_ne g0).trans (fr_w9 zz g0 g1 g2 g3))
  refine mg_aload_n C dX3_init_33 rfl ?_
  refine mg_iconst C (v := nI 0) dX3_init_34 (by decide) ?_
  refine mg_put C (fs' := [.int (nI 4), .int (nI k), .int (nI sd), .int (nI 0), .int (nI 0), .ref q2, .ref q5, .ref q8, .int (nI 0)]) inT3 h_w10_h0 rfl 8 (by decide) kw_101 (Or.inl rfl) tyX3_ok nmX3 rfl rfl rfl rfl (Nat.le_of_ble_eq_true rfl) dX3_init_35 (fun w11 e_w11 => ?_)
  have h_w11_h0 : w11 h0 = some (.inr (3, [.int (nI 4), .int (nI k), .int (nI sd), .int (nI 0), .int (nI 0), .ref q2, .ref q5, .ref q8, .int (nI 0)])) := (congrFun e_w11 _).trans mwu_eq
  have h_w11_q2 : w11 q2 = some (eI cI (31 * k) (fun _ => 0)) := (congrFun e_w11 _).trans ((mwu_ne (Ne.symm nd_q2_h0)).trans h_w10_q2)
  have h_w11_q5 : w11 q5 = some (eI cI 31 (fun _ => 0)) := (congrFun e_w11 _).trans ((mwu_ne (Ne.symm nd_q5_h0)).trans h_w10_q5)
  have h_w11_q8 : w11 q8 = some (eI cI 31 (fun _ => 0)) := (congrFun e_w11 _).trans ((mwu_ne (Ne.symm nd_q8_h0)).trans h_w10_q8)
  have fr_w11 : ∀ zz : Nat, zz ≠ h0 → zz ≠ q2 → zz ≠ q5 → zz ≠ q8 → w11 zz = w zz := fun zz g0 g1 g2 g3 => (congrFun e_w11 zz).trans ((mwu_ne g0).trans (fr_w10 zz g0 g1 g2 g3))
  exact hR _ _ _ dX3_init_38 ⟨q2, q5, q8, nz_q2, nz_q5, nz_q8, nd_q5_q2, nd_q8_q2, nd_q8_q5, h_w11_h0, h_w11_q2, h_w11_q5, h_w11_q8, fr_w11⟩

set_option maxHeartbeats 4000000 in
set_option maxRecDepth 20000 in
theorem c_X3_twin (D : va_G) (cI cS : ClassId) (w : mwT) (h0 ak al aw k sd : Nat) (tot mov er : Int32) (f : Nat → Int32) (ln tr : Nat → Nat) (hh : w h0 = some (.inr (3, [.int (nI 4), .int (nI k), .int (nI sd), .int tot, .int mov, .ref ak, .ref al, .ref aw, .int er]))) (h_ak : w ak = some (eI cI (31 * k) f)) (h_al : w al = some (eI cI 31 (lnF ln))) (h_aw : w aw = some (eI cI 31 (lnF tr))) (hk1 : 4 ≤ k) (hk2 : k ≤ 32) (hd_ak_al : ak ≠ al) (hd_ak_aw : ak ≠ aw) (hd_al_aw : al ≠ aw) : mMq yX3_twin cX3_twin 2 (some (.object "SketchSpans$Sketch")) (rmA 3 4 1063) [.ref h0] D cI cS w (fun r w1 => ∃ q qa qb qc : Nat, r = some q ∧ w q = none ∧ w qa = none ∧ w qb = none ∧ w qc = none ∧ q ≠ qa ∧ q ≠ qb ∧ q ≠ qc ∧ qa ≠ qb ∧ qa ≠ qc ∧ qb ≠ qc ∧ w1 q = some (.inr (3, [.int (nI 4), .int (nI k), .int (nI sd), .int tot, .int mov, .ref qa, .ref qb, .ref qc, .int er])) ∧ w1 qa = some (eI cI (31 * k) (cpy0 f (fun _ => 0) (31 * k))) ∧ w1 qb = some (eI cI 31 (cpy0 (lnF ln) (fun _ => 0) 31)) ∧ w1 qc = some (eI cI 31 (cpy0 (lnF tr) (fun _ => 0) 31)) ∧ ∀ z : Nat, z ≠ q → z ≠ qa → z ≠ qb → z ≠ qc → w1 z = w z) := by
  refine mMq.of (by decide) (Nat.le_of_ble_eq_true rfl) ?_
  intro X C hN hR
  have fr_w : ∀ zz : Nat, w zz = w zz := fun _ => rfl
  refine mg_sub (lv' := [(0, .ref h0)]) [0] rfl ?_
  refine mg_new C (ci := 3) (fs := [.int 0, .int 0, .int 0, .int 0, .int 0, .null, .null, .null, .int 0]) inT3 tyX3_ok kw_172 kw_60 kw_61 rfl df_X3 ⟨by decide, by decide⟩ dX3_twin_0 (fun q1 w2 n_q1 e_w2 => ?_)
  refine mg_widen (k := 1) (n := 9) (by decide) (by decide) ?_
  have nd_q1_h0 : h0 ≠ q1 := mw_nn hh n_q1
  have nd_q1_ak : ak ≠ q1 := mw_nn h_ak n_q1
  have nd_q1_al : al ≠ q1 := mw_nn h_al n_q1
  have nd_q1_aw : aw ≠ q1 := mw_nn h_aw n_q1
  have nz_q1 : w q1 = none := (fr_w q1 ).symm.trans n_q1
  have h_w2_h0 : w2 h0 = some (.inr (3, [.int (nI 4), .int (nI k), .int (nI sd), .int tot, .int mov, .ref ak, .ref al, .ref aw, .int er])) := (congrFun e_w2 _).trans ((mwu_ne nd_q1_h0).trans hh)
  have h_w2_ak : w2 ak = some (eI cI (31 * k) f) := (congrFun e_w2 _).trans ((mwu_ne nd_q1_ak).trans h_ak)
  have h_w2_al : w2 al = some (eI cI 31 (lnF ln)) := (congrFun e_w2 _).trans ((mwu_ne nd_q1_al).trans h_al)
  have h_w2_aw : w2 aw = some (eI cI 31 (lnF tr)) := (congrFun e_w2 _).trans ((mwu_ne nd_q1_aw).trans h_aw)
  have h_w2_q1 : w2 q1 = some (.inr (3, [.int 0, .int 0, .int 0, .int 0, .int 0, .null, .null, .null, .int 0])) := (congrFun e_w2 _).trans mwu_eq
  have fr_w2 : ∀ zz : Nat, zz ≠ q1 → w2 zz = w zz := fun zz g0 => (congrFun e_w2 zz).trans ((mwu_ne g0).trans (fr_w zz ))
  refine mg_dup C dX3_twin_3 rfl ?_
  refine mg_aload_n C dX3_twin_4 rfl ?_
  refine mg_get C inT3 h_w2_h0 rfl 1 (by decide) kw_173 (Or.inr kw_174) rfl dX3_twin_5 ?_
  refine mg_aload_n C dX3_twin_8 rfl ?_
  refine mg_get C inT3 h_w2_h0 rfl 2 (by decide) kw_175 (Or.inr kw_176) rfl dX3_twin_9 ?_
  refine mg_callI_v C (rest := [.ref q1]) (c_X3_init D cI cS w2 q1 k sd h_w2_q1 hk1 hk2) yq_X3_init kw_177 kw_96 rfl ⟨by decide, by decide⟩ ⟨Nat.le_of_ble_eq_true rfl, Nat.le_of_ble_eq_true rfl⟩ (Nat.le_of_ble_eq_true rfl) rfl rfl dX3_twin_12 (fun w3 ⟨q3a, q3b, q3c, n_q3a, n_q3b, n_q3c, dd_q3b_q3a, dd_q3c_q3a, dd_q3c_q3b, xh3, xkq3a, xkq3b, xkq3c, xf3⟩ => ?_)
  refine mg_widen (k := 4) (n := 1063) (by decide) (by decide) ?_
  have nd_q3a_h0 : h0 ≠ q3a := mw_nn h_w2_h0 n_q3a
  have nd_q3a_ak : ak ≠ q3a := mw_nn h_w2_ak n_q3a
  have nd_q3a_al : al ≠ q3a := mw_nn h_w2_al n_q3a
  have nd_q3a_aw : aw ≠ q3a := mw_nn h_w2_aw n_q3a
  have nd_q3a_q1 : q1 ≠ q3a := mw_nn h_w2_q1 n_q3a
  have nz_q3a : w q3a = none := (fr_w2 q3a (Ne.symm nd_q3a_q1)).symm.trans n_q3a
  have nd_q3b_h0 : h0 ≠ q3b := mw_nn h_w2_h0 n_q3b
  have nd_q3b_ak : ak ≠ q3b := mw_nn h_w2_ak n_q3b
  have nd_q3b_al : al ≠ q3b := mw_nn h_w2_al n_q3b
  have nd_q3b_aw : aw ≠ q3b := mw_nn h_w2_aw n_q3b
  have nd_q3b_q1 : q1 ≠ q3b := mw_nn h_w2_q1 n_q3b
  have nz_q3b : w q3b = none := (fr_w2 q3b (Ne.symm nd_q3b_q1)).symm.trans n_q3b
  have nd_q3c_h0 : h0 ≠ q3c := mw_nn h_w2_h0 n_q3c
  have nd_q3c_ak : ak ≠ q3c := mw_nn h_w2_ak n_q3c
  have nd_q3c_al : al ≠ q3c := mw_nn h_w2_al n_q3c
  have nd_q3c_aw : aw ≠ q3c := mw_nn h_w2_aw n_q3c
  have nd_q3c_q1 : q1 ≠ q3c := mw_nn h_w2_q1 n_q3c
  have nz_q3c : w q3c = none := (fr_w2 q3c (Ne.symm nd_q3c_q1)).symm.trans n_q3c
  have h_w3_h0 : w3 h0 = some (.inr (3, [.int (nI 4), .int (nI k), .int (nI sd), .int tot, .int mov, .ref ak, .ref al, .ref aw, .int er])) := (xf3 h0 nd_q1_h0 (mw_nn h_w2_h0 n_q3a) (mw_nn h_w2_h0 n_q3b) (mw_nn h_w2_h0 n_q3c)).trans h_w2_h0
  have h_w3_ak : w3 ak = some (eI cI (31 * k) f) := (xf3 ak nd_q1_ak (mw_nn h_w2_ak n_q3a) (mw_nn h_w2_ak n_q3b) (mw_nn h_w2_ak n_q3c)).trans h_w2_ak
  have h_w3_al : w3 al = some (eI cI 31 (lnF ln)) := (xf3 al nd_q1_al (mw_nn h_w2_al n_q3a) (mw_nn h_w2_al n_q3b) (mw_nn h_w2_al n_q3c)).trans h_w2_al
  have h_w3_aw : w3 aw = some (eI cI 31 (lnF tr)) := (xf3 aw nd_q1_aw (mw_nn h_w2_aw n_q3a) (mw_nn h_w2_aw n_q3b) (mw_nn h_w2_aw n_q3c)).trans h_w2_aw
  have fr_w3 : ∀ zz : Nat, zz ≠ q1 → zz ≠ q3a → zz ≠ q3b → zz ≠ q3c → w3 zz = w zz := fun zz g0 g1 g2 g3 => (xf3 zz g0 g1 g2 g3).trans (fr_w2 zz g0)
  refine mg_astore_n C (lv' := [(1, .ref q1), (0, .ref h0)]) dX3_twin_15 rfl (by decide) rfl ?_
  refine mg_aload_n C dX3_twin_16 rfl ?_
  refine mg_aload_n C dX3_twin_17 rfl ?_
  refine mg_callU_v C xh3 rfl (rest := []) (c_X4_copyTotals_R D cI cS w3 q1 h0 4 k sd (nI 0) (nI 0) tot mov (.ref q3a) (.ref ak) (.ref q3b) (.ref al) (.ref q3c) (.ref aw) (.int (nI 0)) (.int er) xh3 h_w3_h0 (Ne.symm nd_q1_h0)) yq_X4_copyTotals kw_178 kw_179 dq_copyTotals (by decide +kernel) kw_141 kw_180 ⟨by decide, by decide⟩ ⟨Nat.le_of_ble_eq_true rfl, Nat.le_of_ble_eq_true rfl⟩ (Nat.le_of_ble_eq_true rfl) rfl rfl dX3_twin_18 (fun w4 ⟨xh4, xf4⟩ => ?_)
  refine mg_widen (k := 4) (n := 1063) (by decide) (by decide) ?_
  have h_w4_h0 : w4 h0 = some (.inr (3, [.int (nI 4), .int (nI k), .int (nI sd), .int tot, .int mov, .ref ak, .ref al, .ref aw, .int er])) := (xf4 h0 nd_q1_h0).trans h_w3_h0
  have h_w4_ak : w4 ak = some (eI cI (31 * k) f) := (xf4 ak nd_q1_ak).trans h_w3_ak
  have h_w4_al : w4 al = some (eI cI 31 (lnF ln)) := (xf4 al nd_q1_al).trans h_w3_al
  have h_w4_aw : w4 aw = some (eI cI 31 (lnF tr)) := (xf4 aw nd_q1_aw).trans h_w3_aw
  have h_w4_q3a : w4 q3a = some (eI cI (31 * k) (fun _ => 0)) := (xf4 q3a (Ne.symm nd_q3a_q1)).trans xkq3a
  have h_w4_q3b : w4 q3b = some (eI cI 31 (fun _ => 0)) := (xf4 q3b (Ne.symm nd_q3b_q1)).trans xkq3b
  have h_w4_q3c : w4 q3c = some (eI cI 31 (fun _ => 0)) := (xf4 q3c (Ne.symm nd_q3c_q1)).trans xkq3c
  have fr_w4 : ∀ zz : Nat, zz ≠ q1 → zz ≠ q3a → zz ≠ q3b → zz ≠ q3c → w4 zz = w zz := fun zz g0 g1 g2 g3 => (xf4 zz g0).trans (fr_w3 zz g0 g1 g2 g3)
  refine mg_aload_n C dX3_twin_21 rfl ?_
  refine mg_get C inT3 h_w4_h0 rfl 5 (by decide) kw_98 (Or.inl rfl) rfl dX3_twin_22 ?_
  refine mg_aload_n C dX3_twin_25 rfl ?_
  refine mg_get C inT3 xh4 rfl 5 (by decide) kw_98 (Or.inl rfl) rfl dX3_twin_26 ?_
  refine mg_callN_v C (rest := []) (c_X6_copyRow D cI cS w4 ak q3a (31 * k) f (fun _ => 0) h_w4_ak h_w4_q3a (by omega) nd_q3a_ak) yq_X6_copyRow kn_5 kw_143 ⟨by decide, by decide⟩ ⟨Nat.le_of_ble_eq_true rfl, Nat.le_of_ble_eq_true rfl⟩ (Nat.le_of_ble_eq_true rfl) rfl rfl dX3_twin_29 (fun w5 ⟨xh5, xf5⟩ => ?_)
  refine mg_widen (k := 4) (n := 1063) (by decide) (by decide) ?_
  have h_w5_h0 : w5 h0 = some (.inr (3, [.int (nI 4), .int (nI k), .int (nI sd), .int tot, .int mov, .ref ak, .ref al, .ref aw, .int er])) := (xf5 h0 nd_q3a_h0).trans h_w4_h0
  have h_w5_ak : w5 ak = some (eI cI (31 * k) f) := (xf5 ak nd_q3a_ak).trans h_w4_ak
  have h_w5_al : w5 al = some (eI cI 31 (lnF ln)) := (xf5 al nd_q3a_al).trans h_w4_al
  have h_w5_aw : w5 aw = some (eI cI 31 (lnF tr)) := (xf5 aw nd_q3a_aw).trans h_w4_aw
  have h_w5_q1 : w5 q1 = some (.inr (3, [.int (nI 4), .int (nI k), .int (nI sd), .int tot, .int mov, .ref q3a, .ref q3b, .ref q3c, .int (nI 0)])) := (xf5 q1 nd_q3a_q1).trans xh4
  have h_w5_q3b : w5 q3b = some (eI cI 31 (fun _ => 0)) := (xf5 q3b (Ne.symm dd_q3b_q3a)).trans h_w4_q3b
  have h_w5_q3c : w5 q3c = some (eI cI 31 (fun _ => 0)) := (xf5 q3c (Ne.symm dd_q3c_q3a)).trans h_w4_q3c
  have fr_w5 : ∀ zz : Nat, zz ≠ q1 → zz ≠ q3a → zz ≠ q3b → zz ≠ q3c → w5 zz = w zz := fun zz g0 g1 g2 g3 => (xf5 zz g1).trans (fr_w4 zz g0 g1 g2 g3)
  refine mg_aload_n C dX3_twin_32 rfl ?_
  refine mg_get C inT3 h_w5_h0 rfl 6 (by decide) kw_99 (Or.inl rfl) rfl dX3_twin_33 ?_
  refine mg_aload_n C dX3_twin_36 rfl ?_
  refine mg_get C inT3 h_w5_q1 rfl 6 (by decide) kw_99 (Or.inl rfl) rfl dX3_twin_37 ?_
  refine mg_callN_v C (rest := []) (c_X6_copyRow D cI cS w5 al q3b 31 (lnF ln) (fun _ => 0) h_w5_al h_w5_q3b (by omega) nd_q3b_al) yq_X6_copyRow kn_5 kw_143 ⟨by decide, by decide⟩ ⟨Nat.le_of_ble_eq_true rfl, Nat.le_of_ble_eq_true rfl⟩ (Nat.le_of_ble_eq_true rfl) rfl rfl dX3_twin_40 (fun w6 ⟨xh6, xf6⟩ => ?_)
  refine mg_widen (k := 4) (n := 1063) (by decide) (by decide) ?_
  have h_w6_h0 : w6 h0 = some (.inr (3, [.int (nI 4), .int (nI k), .int (nI sd), .int tot, .int mov, .ref ak, .ref al, .ref aw, .int er])) := (xf6 h0 nd_q3b_h0).trans h_w5_h0
  have h_w6_ak : w6 ak = some (eI cI (31 * k) f) := (xf6 ak nd_q3b_ak).trans h_w5_ak
  have h_w6_al : w6 al = some (eI cI 31 (lnF ln)) := (xf6 al nd_q3b_al).trans h_w5_al
  have h_w6_aw : w6 aw = some (eI cI 31 (lnF tr)) := (xf6 aw nd_q3b_aw).trans h_w5_aw
  have h_w6_q1 : w6 q1 = some (.inr (3, [.int (nI 4), .int (nI k), .int (nI sd), .int tot, .int mov, .ref q3a, .ref q3b, .ref q3c, .int (nI 0)])) := (xf6 q1 nd_q3b_q1).trans h_w5_q1
  have h_w6_q3a : w6 q3a = some (eI cI (31 * k) (cpy0 f (fun _ => 0) (31 * k))) := (xf6 q3a dd_q3b_q3a).trans xh5
  have h_w6_q3c : w6 q3c = some (eI cI 31 (fun _ => 0)) := (xf6 q3c (Ne.symm dd_q3c_q3b)).trans h_w5_q3c
  have fr_w6 : ∀ zz : Nat, zz ≠ q1 → zz ≠ q3a → zz ≠ q3b → zz ≠ q3c → w6 zz = w zz := fun zz g0 g1 g2 g3 => (xf6 zz g2).trans (fr_w5 zz g0 g1 g2 g3)
  refine mg_aload_n C dX3_twin_43 rfl ?_
  refine mg_get C inT3 h_w6_h0 rfl 7 (by decide) kw_100 (Or.inl rfl) rfl dX3_twin_44 ?_
  refine mg_aload_n C dX3_twin_47 rfl ?_
  refine mg_get C inT3 h_w6_q1 rfl 7 (by decide) kw_100 (Or.inl rfl) rfl dX3_twin_48 ?_
  refine mg_callN_v C (rest := []) (c_X6_copyRow D cI cS w6 aw q3c 31 (lnF tr) (fun _ => 0) h_w6_aw h_w6_q3c (by omega) nd_q3c_aw) yq_X6_copyRow kn_5 kw_143 ⟨by decide, by decide⟩ ⟨Nat.le_of_ble_eq_true rfl, Nat.le_of_ble_eq_true rfl⟩ (Nat.le_of_ble_eq_true rfl) rfl rfl dX3_twin_51 (fun w7 ⟨xh7, xf7⟩ => ?_)
  refine mg_widen (k := 4) (n := 1063) (by decide) (by decide) ?_
  have h_w7_h0 : w7 h0 = some (.inr (3, [.int (nI 4), .int (nI k), .int (nI sd), .int tot, .int mov, .ref ak, .ref al, .ref aw, .int er])) := (xf7 h0 nd_q3c_h0).trans h_w6_h0
  have h_w7_ak : w7 ak = some (eI cI (31 * k) f) := (xf7 ak nd_q3c_ak).trans h_w6_ak
  have h_w7_al : w7 al = some (eI cI 31 (lnF ln)) := (xf7 al nd_q3c_al).trans h_w6_al
  have h_w7_aw : w7 aw = some (eI cI 31 (lnF tr)) := (xf7 aw nd_q3c_aw).trans h_w6_aw
  have h_w7_q1 : w7 q1 = some (.inr (3, [.int (nI 4), .int (nI k), .int (nI sd), .int tot, .int mov, .ref q3a, .ref q3b, .ref q3c, .int (nI 0)])) := (xf7 q1 nd_q3c_q1).trans h_w6_q1
  have h_w7_q3a : w7 q3a = some (eI cI (31 * k) (cpy0 f (fun _ => 0) (31 * k))) := (xf7 q3a dd_q3c_q3a).trans h_w6_q3a
  have h_w7_q3b : w7 q3b = some (eI cI 31 (cpy0 (lnF ln) (fun _ => 0) 31)) := (xf7 q3b dd_q3c_q3b).trans xh6
  have fr_w7 : ∀ zz : Nat, zz ≠ q1 → zz ≠ q3a → zz ≠ q3b → zz ≠ q3c → w7 zz = w zz := fun zz g0 g1 g2 g3 => (xf7 zz g3).trans (fr_w6 zz g0 g1 g2 g3)
  refine mg_aload_n C dX3_twin_54 rfl ?_
  refine mg_aload_n C dX3_twin_55 rfl ?_
  refine mg_get C inT3 h_w7_h0 rfl 8 (by decide) kw_101 (Or.inl rfl) rfl dX3_twin_56 ?_
  refine mg_put C (fs' := [.int (nI 4), .int (nI k), .int (nI sd), .int tot, .int mov, .ref q3a, .ref q3b, .ref q3c, .int er]) inT3 h_w7_q1 rfl 8 (by decide) kw_101 (Or.inl rfl) tyX3_ok nmX3 rfl rfl rfl rfl (Nat.le_of_ble_eq_true rfl) dX3_twin_59 (fun w8 e_w8 => ?_)
  have h_w8_h0 : w8 h0 = some (.inr (3, [.int (nI 4), .int (nI k), .int (nI sd), .int tot, .int mov, .ref ak, .ref al, .ref aw, .int er])) := (congrFun e_w8 _).trans ((mwu_ne nd_q1_h0).trans h_w7_h0)
  have h_w8_ak : w8 ak = some (eI cI (31 * k) f) := (congrFun e_w8 _).trans ((mwu_ne nd_q1_ak).trans h_w7_ak)
  have h_w8_al : w8 al = some (eI cI 31 (lnF ln)) := (congrFun e_w8 _).trans ((mwu_ne nd_q1_al).trans h_w7_al)
  have h_w8_aw : w8 aw = some (eI cI 31 (lnF tr)) := (congrFun e_w8 _).trans ((mwu_ne nd_q1_aw).trans h_w7_aw)
  have h_w8_q1 : w8 q1 = some (.inr (3, [.int (nI 4), .int (nI k), .int (nI sd), .int tot, .int mov, .ref q3a, .ref q3b, .ref q3c, .int er])) := (congrFun e_w8 _).trans mwu_eq
  have h_w8_q3a : w8 q3a = some (eI cI (31 * k) (cpy0 f (fun _ => 0) (31 * k))) := (congrFun e_w8 _).trans ((mwu_ne (Ne.symm nd_q3a_q1)).trans h_w7_q3a)
  have h_w8_q3b : w8 q3b = some (eI cI 31 (cpy0 (lnF ln) (fun _ => 0) 31)) := (congrFun e_w8 _).trans ((mwu_ne (Ne.symm nd_q3b_q1)).trans h_w7_q3b)
  have h_w8_q3c : w8 q3c = some (eI cI 31 (cpy0 (lnF tr) (fun _ => 0) 31)) := (congrFun e_w8 _).trans ((mwu_ne (Ne.symm nd_q3c_q1)).trans xh7)
  have fr_w8 : ∀ zz : Nat, zz ≠ q1 → zz ≠ q3a → zz ≠ q3b → zz ≠ q3c → w8 zz = w zz := fun zz g0 g1 g2 g3 => (congrFun e_w8 zz).trans ((mwu_ne g0).trans (fr_w7 zz g0 g1 g2 g3))
  refine mg_aload_n C dX3_twin_62 rfl ?_
  exact hR (some q1) _ _ _ dX3_twin_63 ⟨q1, q3a, q3b, q3c, rfl, nz_q1, nz_q3a, nz_q3b, nz_q3c, nd_q3a_q1, nd_q3b_q1, nd_q3c_q1, dd_q3b_q3a, dd_q3c_q3a, dd_q3c_q3b, h_w8_q1, h_w8_q3a, h_w8_q3b, h_w8_q3c, fr_w8⟩

set_option maxHeartbeats 4000000 in
set_option maxRecDepth 20000 in
theorem c_X3_join (D : va_G) (cI cS : ClassId) (w : mwT) (h0 h1 ak al aw ak2 al2 aw2 k sd : Nat) (tot mov er tot2 mov2 er2 : Int32) (f f2 : Nat → Int32) (ln tr ln2 tr2 : Nat → Nat) (hh : w h0 = some (.inr (3, [.int (nI 4), .int (nI k), .int (nI sd), .int tot, .int mov, .ref ak, .ref al, .ref aw, .int er]))) (hak : w ak = some (eI cI (31 * k) f)) (hal : w al = some (eI cI 31 (lnF ln))) (haw : w aw = some (eI cI 31 (lnF tr))) (hh1 : w h1 = some (.inr (3, [.int (nI 4), .int (nI k), .int (nI sd), .int tot2, .int mov2, .ref ak2, .ref al2, .ref aw2, .int er2]))) (hak2 : w ak2 = some (eI cI (31 * k) f2)) (hal2 : w al2 = some (eI cI 31 (lnF ln2))) (haw2 : w aw2 = some (eI cI 31 (lnF tr2))) (hk1 : 4 ≤ k) (hk2 : k ≤ 32) (hd1 : ak ≠ al) (hd2 : ak ≠ aw) (hd3 : al ≠ aw) (hok : rkOk k (f, ln, tr, er)) (hok2 : rkOk k (f2, ln2, tr2, er2)) (hx_ak_ak2 : ak ≠ ak2) (hx_ak_al2 : ak ≠ al2) (hx_ak_aw2 : ak ≠ aw2) (hx_al_ak2 : al ≠ ak2) (hx_al_al2 : al ≠ al2) (hx_al_aw2 : al ≠ aw2) (hx_aw_ak2 : aw ≠ ak2) (hx_aw_al2 : aw ≠ al2) (hx_aw_aw2 : aw ≠ aw2) (hn0 : h0 ≠ h1) : mMv yX3_join cX3_join 5 none (rmL 97) [.ref h0, .ref h1] D cI cS w (fun w1 => w1 h0 = some (.inr (3, [.int (nI 4), .int (nI k), .int (nI sd), .int tot, .int mov, .ref ak, .ref al, .ref aw, .int ((joR k f2 ln2 (f, ln, tr, er) 31).2.2.2 + er2)])) ∧ w1 ak = some (eI cI (31 * k) (joR k f2 ln2 (f, ln, tr, er) 31).1) ∧ w1 al = some (eI cI 31 (lnF (joR k f2 ln2 (f, ln, tr, er) 31).2.1)) ∧ w1 aw = some (eI cI 31 (lnF (joR k f2 ln2 (f, ln, tr, er) 31).2.2.1)) ∧ ∀ z : Nat, z ≠ h0 → z ≠ ak → z ≠ al → z ≠ aw → w1 z = w z) := by
  refine mMv.of (by decide) (Nat.le_of_ble_eq_true rfl) ?_
  intro X C hN hR
  have fr_w : ∀ zz : Nat, w zz = w zz := fun _ => rfl
  refine mg_sub (lv' := [(0, .ref h0), (1, .ref h1)]) [0, 1] rfl ?_
  refine mg_aload_n C dX3_join_0 rfl ?_
  refine mg_inst C hh1 rfl kw_172 dX3_join_1 ?_
  refine mg_ifN_eq C (tgt := 80) dX3_join_4 (by decide) (by decide) (fun c_4 => absurd c_4 (by decide)) (fun c_4 => ?_)
  refine mg_aload_n C dX3_join_7 rfl ?_
  refine mg_cast C hh1 rfl kw_172 dX3_join_8 ?_
  refine mg_astore_n C (lv' := [(2, .ref h1), (0, .ref h0), (1, .ref h1)]) dX3_join_11 rfl (by decide) rfl ?_
  refine mg_iconst C (v := nI 0) dX3_join_12 (by decide) ?_
  refine mg_istore_n C (lv' := [(3, .int (nI 0)), (2, .ref h1), (0, .ref h0), (1, .ref h1)]) dX3_join_13 rfl (by decide) rfl ?_
  have L14 : ∀ (M14 : Nat) (bz : Nat), 31 - bz < M14 → (bz ≤ 31) → ∀ (w1 : mwT), w1 h0 = some (.inr (3, [.int (nI 4), .int (nI k), .int (nI sd), .int tot, .int mov, .ref ak, .ref al, .ref aw, .int ((joR k f2 ln2 (f, ln, tr, er) bz).2.2.2)])) → w1 ak = some (eI cI (31 * k) ((joR k f2 ln2 (f, ln, tr, er) bz).1)) → w1 al = some (eI cI 31 (lnF (joR k f2 ln2 (f, ln, tr, er) bz).2.1)) → w1 aw = some (eI cI 31 (lnF (joR k f2 ln2 (f, ln, tr, er) bz).2.2.1)) → w1 h1 = some (.inr (3, [.int (nI 4), .int (nI k), .int (nI sd), .int tot2, .int mov2, .ref ak2, .ref al2, .ref aw2, .int er2])) → w1 ak2 = some (eI cI (31 * k) f2) → w1 al2 = some (eI cI 31 (lnF ln2)) → w1 aw2 = some (eI cI 31 (lnF tr2)) → (∀ zz : Nat, zz ≠ h0 → zz ≠ ak → zz ≠ al → zz ≠ aw → w1 zz = w zz) → mwG X 0 0 w1 [(0, .ref h0), (1, .ref h1), (2, .ref h1), (3, .int (nI bz))] [] 14 := by
    intro M14
    induction M14 with
    | zero => intro bz hm14; exact absurd hm14 (Nat.not_lt_zero _)
    | succ M14 ih14 =>
      intro bz hm14 hbz w1 h_w1_h0 h_w1_ak h_w1_al h_w1_aw h_w1_h1 h_w1_ak2 h_w1_al2 h_w1_aw2 fr_w1
      refine mg_iload_n C dX3_join_14 rfl ?_
      refine mg_bipush C (v := nI 31) dX3_join_15 (by decide) ?_
      refine mg_icmpN_ge C (tgt := 67) dX3_join_17 (by decide) (by omega) (by omega) (fun c_17 => ?_) (fun c_17 => ?_)
      · have eb : bz = 31 := by omega
        rw [eb] at h_w1_h0
        rw [eb] at h_w1_ak
        rw [eb] at h_w1_al
        rw [eb] at h_w1_aw
        refine mg_aload_n C dX3_join_67 rfl ?_
        refine mg_dup C dX3_join_68 rfl ?_
        refine mg_get C inT3 h_w1_h0 rfl 8 (by decide) kw_101 (Or.inl rfl) rfl dX3_join_69 ?_
        refine mg_aload_n C dX3_join_72 rfl ?_
        refine mg_get C inT3 h_w1_h1 rfl 8 (by decide) kw_101 (Or.inl rfl) rfl dX3_join_73 ?_
        refine mg_iadd C (z := ((joR k f2 ln2 (f, ln, tr, er) 31).2.2.2) + er2) dX3_join_76 rfl ?_
        refine mg_put C (fs' := [.int (nI 4), .int (nI k), .int (nI sd), .int tot, .int mov, .ref ak, .ref al, .ref aw, .int (((joR k f2 ln2 (f, ln, tr, er) 31).2.2.2) + er2)]) inT3 h_w1_h0 rfl 8 (by decide) kw_101 (Or.inl rfl) tyX3_ok nmX3 rfl rfl rfl rfl (Nat.le_of_ble_eq_true rfl) dX3_join_77 (fun w2 e_w2 => ?_)
        have h_w2_h0 : w2 h0 = some (.inr (3, [.int (nI 4), .int (nI k), .int (nI sd), .int tot, .int mov, .ref ak, .ref al, .ref aw, .int (((joR k f2 ln2 (f, ln, tr, er) 31).2.2.2) + er2)])) := (congrFun e_w2 _).trans mwu_eq
        have h_w2_ak : w2 ak = some (eI cI (31 * k) ((joR k f2 ln2 (f, ln, tr, er) 31).1)) := (congrFun e_w2 _).trans ((mwu_ne (mw_ao h_w1_ak h_w1_h0)).trans h_w1_ak)
        have h_w2_al : w2 al = some (eI cI 31 (lnF (joR k f2 ln2 (f, ln, tr, er) 31).2.1)) := (congrFun e_w2 _).trans ((mwu_ne (mw_ao h_w1_al h_w1_h0)).trans h_w1_al)
        have h_w2_aw : w2 aw = some (eI cI 31 (lnF (joR k f2 ln2 (f, ln, tr, er) 31).2.2.1)) := (congrFun e_w2 _).trans ((mwu_ne (mw_ao h_w1_aw h_w1_h0)).trans h_w1_aw)
        have h_w2_h1 : w2 h1 = some (.inr (3, [.int (nI 4), .int (nI k), .int (nI sd), .int tot2, .int mov2, .ref ak2, .ref al2, .ref aw2, .int er2])) := (congrFun e_w2 _).trans ((mwu_ne (Ne.symm hn0)).trans h_w1_h1)
        have h_w2_ak2 : w2 ak2 = some (eI cI (31 * k) f2) := (congrFun e_w2 _).trans ((mwu_ne (mw_ao h_w1_ak2 h_w1_h0)).trans h_w1_ak2)
        have h_w2_al2 : w2 al2 = some (eI cI 31 (lnF ln2)) := (congrFun e_w2 _).trans ((mwu_ne (mw_ao h_w1_al2 h_w1_h0)).trans h_w1_al2)
        have h_w2_aw2 : w2 aw2 = some (eI cI 31 (lnF tr2)) := (congrFun e_w2 _).trans ((mwu_ne (mw_ao h_w1_aw2 h_w1_h0)).trans h_w1_aw2)
        have fr_w2 : ∀ zz : Nat, zz ≠ h0 → zz ≠ ak → zz ≠ al → zz ≠ aw → w2 zz = w zz := fun zz g0 g1 g2 g3 => (congrFun e_w2 zz).trans ((mwu_ne g0).trans (fr_w1 zz g0 g1 g2 g3))
        exact hR _ _ _ dX3_join_80 ⟨h_w2_h0, h_w2_ak, h_w2_al, h_w2_aw, fun z q0 q1 q2 q3 => fr_w2 z q0 q1 q2 q3⟩
      · have hlb : ln2 bz ≤ k := hok2.2 bz
        refine mg_iconst C (v := nI 0) dX3_join_20 (by decide) ?_
        refine mg_istore C (lv' := [(4, .int (nI 0)), (0, .ref h0), (1, .ref h1), (2, .ref h1), (3, .int (nI bz))]) dX3_join_21 (by decide) rfl ?_
        have L23 : ∀ (M23 : Nat) (iz : Nat), ln2 bz - iz < M23 → (iz ≤ ln2 bz) → ∀ (w3 : mwT), w3 h0 = some (.inr (3, [.int (nI 4), .int (nI k), .int (nI sd), .int tot, .int mov, .ref ak, .ref al, .ref aw, .int ((jiR k bz f2 (joR k f2 ln2 (f, ln, tr, er) bz) iz).2.2.2)])) → w3 ak = some (eI cI (31 * k) ((jiR k bz f2 (joR k f2 ln2 (f, ln, tr, er) bz) iz).1)) → w3 al = some (eI cI 31 (lnF (jiR k bz f2 (joR k f2 ln2 (f, ln, tr, er) bz) iz).2.1)) → w3 aw = some (eI cI 31 (lnF (jiR k bz f2 (joR k f2 ln2 (f, ln, tr, er) bz) iz).2.2.1)) → w3 h1 = some (.inr (3, [.int (nI 4), .int (nI k), .int (nI sd), .int tot2, .int mov2, .ref ak2, .ref al2, .ref aw2, .int er2])) → w3 ak2 = some (eI cI (31 * k) f2) → w3 al2 = some (eI cI 31 (lnF ln2)) → w3 aw2 = some (eI cI 31 (lnF tr2)) → (∀ zz : Nat, zz ≠ h0 → zz ≠ ak → zz ≠ al → zz ≠ aw → w3 zz = w zz) → mwG X 0 0 w3 [(0, .ref h0), (1, .ref h1), (2, .ref h1), (3, .int (nI bz)), (4, .int (nI iz))] [] 23 := by
          intro M23
          induction M23 with
          | zero => intro iz hm23; exact absurd hm23 (Nat.not_lt_zero _)
          | succ M23 ih23 =>
            intro iz hm23 hiz w3 h_w3_h0 h_w3_ak h_w3_al h_w3_aw h_w3_h1 h_w3_ak2 h_w3_al2 h_w3_aw2 fr_w3
            refine mg_iload C dX3_join_23 rfl ?_
            refine mg_aload_n C dX3_join_25 rfl ?_
            refine mg_get C inT3 h_w3_h1 rfl 6 (by decide) kw_99 (Or.inl rfl) rfl dX3_join_26 ?_
            refine mg_iload_n C dX3_join_29 rfl ?_
            refine mg_ialdN C h_w3_al2 (by omega) (by omega) dX3_join_30 ?_
            refine mg_icmpN_ge C (tgt := 61) dX3_join_31 (by decide) (by omega) (by omega) (fun c_31 => ?_) (fun c_31 => ?_)
            · have ei : iz = ln2 bz := by omega
              rw [ei] at h_w3_h0
              rw [ei] at h_w3_ak
              rw [ei] at h_w3_al
              rw [ei] at h_w3_aw
              refine mg_iinc C (v := nI (bz + 1)) (lv' := [(3, .int (nI (bz + 1))), (0, .ref h0), (1, .ref h1), (2, .ref h1), (4, .int (nI iz))]) dX3_join_61 rfl (ni_inc _) (by decide) rfl ?_
              refine mg_goto C (tgt := 14) dX3_join_64 (by decide) ?_
              refine mg_sub (lv' := [(0, .ref h0), (1, .ref h1), (2, .ref h1), (3, .int (nI (bz + 1)))]) [1, 2, 3, 0] rfl ?_
              exact ih14 ((bz + 1)) (by omega) (by omega) w3 h_w3_h0 h_w3_ak h_w3_al h_w3_aw h_w3_h1 h_w3_ak2 h_w3_al2 h_w3_aw2 (fun zz g0 g1 g2 g3 => fr_w3 zz g0 g1 g2 g3)
            · refine mg_iload C dX3_join_34 rfl ?_
              refine mg_aload_n C dX3_join_36 rfl ?_
              refine mg_get C inT3 h_w3_h0 rfl 1 (by decide) kw_173 (Or.inr kw_174) rfl dX3_join_37 ?_
              refine mg_icmpN_ge C (tgt := 61) dX3_join_40 (by decide) (by omega) (by omega) (fun c_40 => absurd c_40 (by omega)) (fun c_40 => ?_)
              refine mg_aload_n C dX3_join_43 rfl ?_
              refine mg_iload_n C dX3_join_44 rfl ?_
              refine mg_aload_n C dX3_join_45 rfl ?_
              refine mg_iload_n C dX3_join_46 rfl ?_
              refine mg_iload C dX3_join_47 rfl ?_
              refine mg_callV_i C h_w3_h1 rfl (rest := [.int (nI bz), .ref h0]) (c_X3_keyAt D cI cS w3 h1 ak2 al2 aw2 k sd tot2 mov2 er2 f2 ln2 tr2 bz iz h_w3_h1 h_w3_ak2 h_w3_al2 h_w3_aw2 hk1 hk2 (by omega) (by omega)) yq_X3_keyAt kw_313 kw_314 kw_315 ⟨by (dsimp only; omega), by (dsimp only; omega)⟩ ⟨Nat.le_of_ble_eq_true rfl, Nat.le_of_ble_eq_true rfl⟩ (Nat.le_of_ble_eq_true rfl) rfl rfl dX3_join_49 (fun r4 w5 ⟨e_r4, e_w5⟩ => ?_)
              rw [e_w5, e_r4]
              refine mg_callV_v C h_w3_h0 rfl (rest := []) (c_X3_push_all (31 - bz) D cI cS w3 h0 ak al aw k sd tot mov (jiR k bz f2 (joR k f2 ln2 (f, ln, tr, er) bz) iz).2.2.2 (jiR k bz f2 (joR k f2 ln2 (f, ln, tr, er) bz) iz).1 (jiR k bz f2 (joR k f2 ln2 (f, ln, tr, er) bz) iz).2.1 (jiR k bz f2 (joR k f2 ln2 (f, ln, tr, er) bz) iz).2.2.1 bz (f2 (bz * k + iz)) h_w3_h0 h_w3_ak h_w3_al h_w3_aw hk1 hk2 hd1 hd2 hd3 (jiR_ok (joR_ok hok bz) iz) (by omega)) yq_X3_push kw_301 kw_302 kw_303 ⟨by (dsimp only; omega), by (dsimp only; omega)⟩ ⟨Nat.le_of_ble_eq_true rfl, Nat.le_of_ble_eq_true rfl⟩ (Nat.le_of_ble_eq_true rfl) rfl rfl dX3_join_52 (fun w6 ⟨xh6, xk6, xl6, xw6, xf6⟩ => ?_)
              have h_w6_h1 : w6 h1 = some (.inr (3, [.int (nI 4), .int (nI k), .int (nI sd), .int tot2, .int mov2, .ref ak2, .ref al2, .ref aw2, .int er2])) := (xf6 h1 (Ne.symm hn0) (mw_oa h_w3_h1 h_w3_ak) (mw_oa h_w3_h1 h_w3_al) (mw_oa h_w3_h1 h_w3_aw)).trans h_w3_h1
              have h_w6_ak2 : w6 ak2 = some (eI cI (31 * k) f2) := (xf6 ak2 (mw_ao h_w3_ak2 h_w3_h0) (Ne.symm hx_ak_ak2) (Ne.symm hx_al_ak2) (Ne.symm hx_aw_ak2)).trans h_w3_ak2
              have h_w6_al2 : w6 al2 = some (eI cI 31 (lnF ln2)) := (xf6 al2 (mw_ao h_w3_al2 h_w3_h0) (Ne.symm hx_ak_al2) (Ne.symm hx_al_al2) (Ne.symm hx_aw_al2)).trans h_w3_al2
              have h_w6_aw2 : w6 aw2 = some (eI cI 31 (lnF tr2)) := (xf6 aw2 (mw_ao h_w3_aw2 h_w3_h0) (Ne.symm hx_ak_aw2) (Ne.symm hx_al_aw2) (Ne.symm hx_aw_aw2)).trans h_w3_aw2
              have fr_w6 : ∀ zz : Nat, zz ≠ h0 → zz ≠ ak → zz ≠ al → zz ≠ aw → w6 zz = w zz := fun zz g0 g1 g2 g3 => (xf6 zz g0 g1 g2 g3).trans (fr_w3 zz g0 g1 g2 g3)
              refine mg_iinc C (v := nI (iz + 1)) (lv' := [(4, .int (nI (iz + 1))), (0, .ref h0), (1, .ref h1), (2, .ref h1), (3, .int (nI bz))]) dX3_join_55 rfl (ni_inc _) (by decide) rfl ?_
              refine mg_goto C (tgt := 23) dX3_join_58 (by decide) ?_
              refine mg_sub (lv' := [(0, .ref h0), (1, .ref h1), (2, .ref h1), (3, .int (nI bz)), (4, .int (nI (iz + 1)))]) [1, 2, 3, 4, 0] rfl ?_
              exact ih23 ((iz + 1)) (by omega) (by omega) w6 xh6 xk6 xl6 xw6 h_w6_h1 h_w6_ak2 h_w6_al2 h_w6_aw2 (fun zz g0 g1 g2 g3 => fr_w6 zz g0 g1 g2 g3)
        refine mg_sub (lv' := [(0, .ref h0), (1, .ref h1), (2, .ref h1), (3, .int (nI bz)), (4, .int (nI 0))]) [1, 2, 3, 4, 0] rfl ?_
        exact L23 (_ + 1) 0 (Nat.lt_succ_self _) (Nat.zero_le _) w1 h_w1_h0 h_w1_ak h_w1_al h_w1_aw h_w1_h1 h_w1_ak2 h_w1_al2 h_w1_aw2 (fun zz g0 g1 g2 g3 => fr_w1 zz g0 g1 g2 g3)
  refine mg_sub (lv' := [(0, .ref h0), (1, .ref h1), (2, .ref h1), (3, .int (nI 0))]) [2, 3, 1, 0] rfl ?_
  exact L14 (_ + 1) 0 (Nat.lt_succ_self _) (Nat.zero_le _) w hh hak hal haw hh1 hak2 hal2 haw2 (fun zz g0 g1 g2 g3 => fr_w zz )
