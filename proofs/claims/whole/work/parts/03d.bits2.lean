/-! KEYS AND TEXTS AS NUMBERS -/
theorem ub_n : ∀ n, n < 9 → (64 - 8 * nI n : Int32) = nI (64 - 8 * n) := by decide +kernel
theorem uN_lN {a : Nat} (h : a < 2 ^ 64) : uN (lN a) = a := wb_tn h
theorem uN_lt64 (x : Int64) : uN x < 2 ^ 64 := uN_lt x
theorem lN_uN (x : Int64) : lN (uN x) = x := uN_inj (uN_lN (uN_lt64 x))
theorem lm_n : ∀ n, n < 9 → (2 ^ 64 - 1) / 2 ^ (64 - 8 * n) = 2 ^ (8 * n) - 1 := by decide +kernel
theorem hdOf_n {q : Int64} {n : Nat} (h1 : 1 ≤ n) (h8 : n ≤ 8) : uN (hdOf q (nI n)) = (uN q % 2 ^ (8 * n)) * 2 ^ (64 - 8 * n) := by
  have e : hdOf (lN (uN q)) (nI n) = lN (uN q * 2 ^ (64 - 8 * n)) := by
    unfold hdOf
    rw [ub_n n (by omega)]
    exact wb_shl _ (by omega)
  rw [lN_uN] at e
  rw [e, wb_mod, uN_lN (Nat.mod_lt _ (by decide))]
  have p : 2 ^ 64 = 2 ^ (8 * n) * 2 ^ (64 - 8 * n) := wb_pw (by omega)
  rw [p, Nat.mul_mod_mul_right]
theorem unH_n {h : Int64} {n : Nat} (h1 : 1 ≤ n) (h8 : n ≤ 8) : uN (unH h (nI n)) = uN h / 2 ^ (64 - 8 * n) := by
  unfold unH
  rw [ub_n n (by omega)]
  exact uN_sk h (by omega)
theorem unH_hdOf {q : Int64} {n : Nat} (h1 : 1 ≤ n) (h8 : n ≤ 8) : uN (unH (hdOf q (nI n)) (nI n)) = uN q % 2 ^ (8 * n) := by
  rw [unH_n h1 h8, hdOf_n h1 h8]
  exact Nat.mul_div_cancel _ (Nat.two_pow_pos _)
theorem lowB_n {b : Int64} {n : Nat} (h8 : n ≤ 8) : uN (lowB b (nI n)) = uN b % 2 ^ (8 * n) := by
  unfold lowB
  by_cases e : n = 0
  · subst e
    rw [if_pos nI_0, show 2 ^ (8 * 0) = 1 by decide, Nat.mod_one]
    decide
  · rw [if_neg (nI_ne0 (by omega) (by omega)), ub_n n (by omega)]
    have hm : ((-1 : Int64).toUInt64 >>> ((nI (64 - 8 * n)).toInt64.toUInt64 &&& Int64.toUInt64 63)).toInt64 = lN (2 ^ (8 * n) - 1) := by
      rw [show (-1 : Int64) = lN (2 ^ 64 - 1) by decide, wb_shr (by decide) (by omega), lm_n n (by omega)]
    have hp : 2 ^ (8 * n) ≤ 2 ^ 64 := Nat.pow_le_pow_right (by decide) (by omega)
    rw [hm]
    show (b.toUInt64 &&& (lN (2 ^ (8 * n) - 1)).toUInt64).toNat = _
    have e2 : (lN (2 ^ (8 * n) - 1)).toUInt64.toNat = 2 ^ (8 * n) - 1 := uN_lN (by omega)
    rw [UInt64.toNat_and, e2]
    exact Nat.and_two_pow_sub_one_eq_mod _ _
/-- the number of a told key -/
theorem kc_n {q : Int64} {n : Nat} (h1 : 1 ≤ n) (h8 : n ≤ 8) : kc (hdOf q (nI n)) (nI n) = (uN q % 2 ^ (8 * n)) * 2 ^ (64 - 8 * n) * 16 + n := by
  unfold kc
  rw [hdOf_n h1 h8, nI_clamp (by omega)]
