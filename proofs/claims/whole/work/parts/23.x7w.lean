theorem wt_push {ln : Nat → Nat} {b : Nat} (hb : b < 31) : wtS (updN ln b (ln b + 1)) 31 = wtS ln 31 + 2 ^ b := by
  have hw1 := wtS_upd (ln := ln) (b := b) (v := ln b + 1) 31 hb
  rw [Nat.succ_mul] at hw1
  omega
theorem wt_col {ln : Nat → Nat} {b k e t B : Nat} (hb : b < 31) (hk : k = 2 * e) (ht : t ≤ 1) (he : 2 ≤ e) (hln : ln b + 1 = k) (h : wtS ln 31 + 2 ^ b ≤ B) : wtS (updN (updN ln b (ln b + 1)) b 0) 31 + ((k - t + 1) / 2) * 2 ^ (b + 1) ≤ B := by
  have hw1 := wt_push (ln := ln) hb
  have hw2 := wtS_upd (ln := updN ln b (ln b + 1)) (b := b) (v := 0) 31 hb
  rw [updN_eq, hln, Nat.zero_mul] at hw2
  rw [hln] at hw1
  have eq2 : (k - t + 1) / 2 = e := by omega
  rw [eq2, ← half_pow (b := b) hk, hln]
  omega
