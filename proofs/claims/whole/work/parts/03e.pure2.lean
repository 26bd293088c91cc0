/-! THE REFERENCE's OWN WORDS: a key's byte at a place, or -1 behind its end; its order is that of the numbers -/
def atI (k : Int64) (n i : Nat) : Int32 := if i < n then nI (uN k / 2 ^ (8 * (n - 1 - i)) % 256) else -1
def atZ (k : Int64) (n i : Nat) : Int := if i < n then ((uN k / 2 ^ (8 * (n - 1 - i)) % 256 : Nat) : Int) else -1
theorem atI_toInt (k : Int64) (n i : Nat) : (atI k n i).toInt = atZ k n i := by
  unfold atI atZ
  by_cases h : i < n
  · rw [if_pos h, if_pos h]
    exact nI_toInt (by omega)
  · rw [if_neg h, if_neg h]
    decide
theorem atZ_in (k : Int64) (n i : Nat) : -1 ≤ atZ k n i ∧ atZ k n i ≤ 255 := by
  unfold atZ
  by_cases h : i < n
  · rw [if_pos h]
    omega
  · rw [if_neg h]
    omega
theorem at_sub (a b : Int64) (n m i : Nat) : (atI a n i - atI b m i).toInt = atZ a n i - atZ b m i := by
  have h1 := atZ_in a n i
  have h2 := atZ_in b m i
  rw [Int32.toInt_sub, atI_toInt, atI_toInt, Int.bmod_def]
  omega
/-- a head's top i bytes -/
def tpB (H i : Nat) : Nat := H / 2 ^ (64 - 8 * i)
theorem hd_byte {K n i : Nat} (h1 : 1 ≤ n) (h8 : n ≤ 8) (hi : i < n) : (K % 2 ^ (8 * n) * 2 ^ (64 - 8 * n)) / 2 ^ (56 - 8 * i) % 256 = K / 2 ^ (8 * (n - 1 - i)) % 256 := by
  have e1 : 2 ^ (64 - 8 * n) * 2 ^ (8 * (n - 1 - i)) = 2 ^ (56 - 8 * i) := by
    rw [← Nat.pow_add]
    congr 1
    omega
  rw [← e1, ← Nat.div_div_eq_div_mul, Nat.mul_div_cancel _ (Nat.two_pow_pos _)]
  have e2 : 2 ^ (8 * n) = 2 ^ (8 * (n - 1 - i)) * 2 ^ (8 * (i + 1)) := by
    rw [← Nat.pow_add]
    congr 1
    omega
  rw [e2, Nat.mod_mul_right_div_self]
  have e3 : 2 ^ (8 * (i + 1)) = 256 * 2 ^ (8 * i) := by
    rw [show 8 * (i + 1) = 8 + 8 * i by omega, Nat.pow_add]
  rw [e3, Nat.mod_mul_right_mod]
theorem tp_step (H : Nat) {i : Nat} (hi : i < 8) : tpB H (i + 1) = tpB H i * 256 + H / 2 ^ (56 - 8 * i) % 256 := by
  unfold tpB
  rw [show 64 - 8 * (i + 1) = 56 - 8 * i by omega]
  have e : 2 ^ (64 - 8 * i) = 2 ^ (56 - 8 * i) * 256 := by
    rw [show 64 - 8 * i = 56 - 8 * i + 8 by omega, Nat.pow_add]
  rw [e, ← Nat.div_div_eq_div_mul]
  omega
theorem tp_lt {H G i : Nat} (h : tpB H i < tpB G i) : H < G := by
  rcases Nat.lt_or_ge H G with q | q
  · exact q
  · exact absurd (Nat.div_le_div_right q) (Nat.not_le.mpr h)
/-- as far as the bytes agree, the tops agree and so do the ends -/
theorem at_pre {a b : Int64} {n m : Nat} (n1 : 1 ≤ n) (n8 : n ≤ 8) (m1 : 1 ≤ m) (m8 : m ≤ 8) : ∀ i, i ≤ 8 → (∀ q, q < i → atZ a n q = atZ b m q) → tpB (uN (hdOf a (nI n))) i = tpB (uN (hdOf b (nI m))) i ∧ (i ≤ n ∧ i ≤ m ∨ n = m) := by
  intro i
  induction i with
  | zero =>
    intro _ _
    refine ⟨?_, Or.inl ⟨Nat.zero_le _, Nat.zero_le _⟩⟩
    unfold tpB
    have ha := uN_lt64 (hdOf a (nI n))
    have hb := uN_lt64 (hdOf b (nI m))
    rw [Nat.div_eq_of_lt ha, Nat.div_eq_of_lt hb]
  | succ i ih =>
    intro hi h
    obtain ⟨e1, e2⟩ := ih (by omega) (fun q hq => h q (by omega))
    have e3 := h i (by omega)
    have key : (i < n ∧ i < m ∧ uN (hdOf a (nI n)) / 2 ^ (56 - 8 * i) % 256 = uN (hdOf b (nI m)) / 2 ^ (56 - 8 * i) % 256) ∨ n = m := by
      by_cases hn : i < n
      · by_cases hm : i < m
        · refine Or.inl ⟨hn, hm, ?_⟩
          unfold atZ at e3
          rw [if_pos hn, if_pos hm] at e3
          rw [hdOf_n n1 n8, hdOf_n m1 m8, hd_byte n1 n8 hn, hd_byte m1 m8 hm]
          omega
        · unfold atZ at e3
          rw [if_pos hn, if_neg hm] at e3
          omega
      · by_cases hm : i < m
        · unfold atZ at e3
          rw [if_neg hn, if_pos hm] at e3
          omega
        · exact Or.inr (by omega)
    rcases key with ⟨k1, k2, k3⟩ | k
    · refine ⟨?_, Or.inl ⟨k1, k2⟩⟩
      rw [tp_step _ (by omega), tp_step _ (by omega), e1, k3]
    · subst k
      refine ⟨?_, Or.inr rfl⟩
      rw [tp_step _ (by omega), tp_step _ (by omega), e1]
      congr 1
      by_cases hn : i < n
      · unfold atZ at e3
        rw [if_pos hn, if_pos hn] at e3
        rw [hdOf_n n1 n8, hdOf_n n1 n8, hd_byte n1 n8 hn, hd_byte n1 n8 hn]
        omega
      · rw [hdOf_n n1 n8, hdOf_n n1 n8]
        have e5 : 2 ^ (64 - 8 * n) = 2 ^ (56 - 8 * i) * (256 * 2 ^ (8 * (i - n))) := by
          rw [← Nat.mul_assoc, show (256 : Nat) = 2 ^ 8 from rfl, ← Nat.pow_add, ← Nat.pow_add]
          congr 1
          omega
        have e6 : ∀ K : Nat, K % 2 ^ (8 * n) * 2 ^ (64 - 8 * n) / 2 ^ (56 - 8 * i) % 256 = 0 := fun K => by
          rw [e5, ← Nat.mul_assoc, Nat.mul_right_comm, Nat.mul_div_cancel _ (Nat.two_pow_pos _), ← Nat.mul_assoc, Nat.mul_right_comm, Nat.mul_mod_left]
        rw [e6, e6]
theorem hd_tail {a : Int64} {n : Nat} (n1 : 1 ≤ n) (n8 : n ≤ 8) : uN (hdOf a (nI n)) = tpB (uN (hdOf a (nI n))) n * 2 ^ (64 - 8 * n) := by
  unfold tpB
  rw [hdOf_n n1 n8, Nat.mul_div_cancel _ (Nat.two_pow_pos _)]
theorem tp_8 (H : Nat) : tpB H 8 = H := by
  unfold tpB
  rw [show 64 - 8 * 8 = 0 by decide, Nat.pow_zero, Nat.div_one]
/-- the order's end: no byte differs -/
theorem ord_end {a b : Int64} {n m : Nat} (n1 : 1 ≤ n) (n8 : n ≤ 8) (m1 : 1 ≤ m) (m8 : m ≤ 8) (h : ∀ q, q < 8 → atZ a n q = atZ b m q) : hdOf a (nI n) = hdOf b (nI m) ∧ n = m := by
  obtain ⟨e1, e2⟩ := at_pre n1 n8 m1 m8 8 (Nat.le_refl 8) h
  rw [tp_8, tp_8] at e1
  exact ⟨uN_inj e1, by omega⟩
/-- the first byte that differs decides -/
theorem ord_ne {a b : Int64} {n m i : Nat} (n1 : 1 ≤ n) (n8 : n ≤ 8) (m1 : 1 ≤ m) (m8 : m ≤ 8) (hi : i < 8) (h : ∀ q, q < i → atZ a n q = atZ b m q) (hd : atZ a n i ≠ atZ b m i) : (atZ a n i < atZ b m i ↔ kc (hdOf a (nI n)) (nI n) < kc (hdOf b (nI m)) (nI m)) ∧ kc (hdOf a (nI n)) (nI n) ≠ kc (hdOf b (nI m)) (nI m) := by
  obtain ⟨e1, e2⟩ := at_pre n1 n8 m1 m8 i (by omega) h
  unfold kc
  rw [nI_clamp (show n < 2 ^ 31 by omega), nI_clamp (show m < 2 ^ 31 by omega)]
  by_cases hn : i < n
  · by_cases hm : i < m
    · have s1 := tp_step (uN (hdOf a (nI n))) hi
      have s2 := tp_step (uN (hdOf b (nI m))) hi
      have b1 : uN (hdOf a (nI n)) / 2 ^ (56 - 8 * i) % 256 = uN a / 2 ^ (8 * (n - 1 - i)) % 256 := by rw [hdOf_n n1 n8, hd_byte n1 n8 hn]
      have b2 : uN (hdOf b (nI m)) / 2 ^ (56 - 8 * i) % 256 = uN b / 2 ^ (8 * (m - 1 - i)) % 256 := by rw [hdOf_n m1 m8, hd_byte m1 m8 hm]
      unfold atZ at hd ⊢
      rw [if_pos hn, if_pos hm] at hd ⊢
      rw [b1] at s1
      rw [b2] at s2
      rw [e1] at s1
      rcases Nat.lt_trichotomy (uN a / 2 ^ (8 * (n - 1 - i)) % 256) (uN b / 2 ^ (8 * (m - 1 - i)) % 256) with q | q | q
      · have := tp_lt (H := uN (hdOf a (nI n))) (G := uN (hdOf b (nI m))) (i := i + 1) (by omega)
        constructor
        · constructor <;> intro _ <;> omega
        · omega
      · exact absurd (by rw [q]) hd
      · have := tp_lt (H := uN (hdOf b (nI m))) (G := uN (hdOf a (nI n))) (i := i + 1) (by omega)
        constructor
        · constructor <;> intro _ <;> omega
        · omega
    · -- b ends here: it begins a
      have hmi : m = i := by omega
      have t1 := hd_tail (a := b) m1 m8
      have t2 : tpB (uN (hdOf a (nI n))) m * 2 ^ (64 - 8 * m) ≤ uN (hdOf a (nI n)) := Nat.div_mul_le_self _ _
      rw [← hmi] at e1
      rw [e1, ← t1] at t2
      unfold atZ
      rw [if_pos hn, if_neg hm]
      constructor
      · constructor <;> intro _ <;> omega
      · omega
  · by_cases hm : i < m
    · have hni : n = i := by omega
      have t1 := hd_tail (a := a) n1 n8
      have t2 : tpB (uN (hdOf b (nI m))) n * 2 ^ (64 - 8 * n) ≤ uN (hdOf b (nI m)) := Nat.div_mul_le_self _ _
      rw [← hni] at e1
      rw [← e1, ← t1] at t2
      unfold atZ
      rw [if_neg hn, if_pos hm]
      constructor
      · constructor <;> intro _ <;> omega
      · omega
    · unfold atZ at hd
      rw [if_neg hn, if_neg hm] at hd
      exact absurd rfl hd
/-- what 'order' answers -/
def ordQ (a : Int64) (n : Int32) (b : Int64) (m : Int32) (z : Int32) : Prop := (z < 0 ↔ bfr (hdOf a n) n (hdOf b m) m) ∧ (z = 0 ↔ hdOf a n = hdOf b m ∧ n = m)
theorem ordQ_end {a b : Int64} {n m : Nat} (n1 : 1 ≤ n) (n8 : n ≤ 8) (m1 : 1 ≤ m) (m8 : m ≤ 8) (h : ∀ q, q < 8 → atI a n q = atI b m q) : ordQ a (nI n) b (nI m) 0 := by
  obtain ⟨e1, e2⟩ := ord_end n1 n8 m1 m8 (a := a) (b := b) (fun q hq => by rw [← atI_toInt, ← atI_toInt, h q hq])
  subst e2
  refine ⟨⟨fun q => absurd q (by decide), fun q => ?_⟩, ⟨fun _ => ⟨e1, rfl⟩, fun _ => rfl⟩⟩
  rcases q with ⟨q, _⟩ | ⟨_, q⟩
  · exact absurd e1 q
  · exact absurd q (nI_nlt (Nat.le_refl _) (by omega))
theorem ordQ_ne {a b : Int64} {n m i : Nat} (n1 : 1 ≤ n) (n8 : n ≤ 8) (m1 : 1 ≤ m) (m8 : m ≤ 8) (hi : i < 8) (h : ∀ q, q < i → atI a n q = atI b m q) (hd : ¬ atI a n i - atI b m i = 0) : ordQ a (nI n) b (nI m) (atI a n i - atI b m i) := by
  have hs := at_sub a b n m i
  have e0 : (0 : Int32).toInt = 0 := by decide
  have hne : atZ a n i ≠ atZ b m i := fun q => hd (Int32.toInt_inj.mp (by rw [hs, e0]; omega))
  obtain ⟨e1, e2⟩ := ord_ne n1 n8 m1 m8 hi (a := a) (b := b) (fun q hq => by rw [← atI_toInt, ← atI_toInt, h q hq]) hne
  refine ⟨?_, ⟨fun q => absurd q hd, fun q => absurd (by rw [q.1, q.2]) e2⟩⟩
  rw [bfr_kc (okK_of n1 n8) (okK_of m1 m8), ← e1, Int32.lt_iff_toInt_lt, hs, e0]
  omega
/-- the reference's byte, out of its shifts -/
theorem at_val (k : Int64) {n i : Nat} (n8 : n ≤ 8) (hi : i < n) : ((k >>> ((8 * (nI n - 1 - nI i) : Int32).toInt64 &&& 63)) &&& 255).toInt32 = atI k n i := by
  unfold atI
  rw [if_pos hi]
  have hs : ∀ j, j < 8 → ((8 * nI j : Int32).toInt64 &&& 63) = lN (8 * j) := by decide +kernel
  have e : (nI n - 1 - nI i : Int32) = nI (n - 1 - i) := by rw [nI_s1 (by omega), pk_sub (by omega)]
  rw [e, hs _ (by omega)]
  generalize hj : n - 1 - i = j
  have hj8 : j < 8 := by omega
  have hb : ((lN (8 * j)).toBitVec.smod 64).toNat = 8 * j := by
    have : ∀ j, j < 8 → ((lN (8 * j)).toBitVec.smod 64).toNat = 8 * j := by decide +kernel
    exact this j hj8
  have hk := uN_lt64 k
  have hi2 := uN_int k
  have hz : (k >>> lN (8 * j)).toInt = k.toInt / ((2 ^ (8 * j) : Nat) : Int) := by
    show (k.toBitVec.sshiftRight' ((lN (8 * j)).toBitVec.smod 64)).toInt = _
    rw [BitVec.sshiftRight_eq', BitVec.toInt_sshiftRight, hb, Int.shiftRight_eq_div_pow]
    rfl
  have hu := uN_int (k >>> lN (8 * j))
  have hlt := uN_lt64 (k >>> lN (8 * j))
  have hm : uN (k >>> lN (8 * j)) % 256 = uN k / 2 ^ (8 * j) % 256 := by
    rcases (show j = 0 ∨ j = 1 ∨ j = 2 ∨ j = 3 ∨ j = 4 ∨ j = 5 ∨ j = 6 ∨ j = 7 by omega) with rfl | rfl | rfl | rfl | rfl | rfl | rfl | rfl <;> omega
  have hc : uN ((k >>> lN (8 * j)) &&& 255) = uN k / 2 ^ (8 * j) % 256 := by
    rw [← hm]
    show ((k >>> lN (8 * j)).toUInt64 &&& Int64.toUInt64 255).toNat = _
    rw [UInt64.toNat_and]
    exact Nat.and_two_pow_sub_one_eq_mod _ 8
  have hf : (k >>> lN (8 * j)) &&& 255 = lN (uN k / 2 ^ (8 * j) % 256) := by
    rw [← hc, lN_uN]
  rw [hf, lN_i]
theorem cut_val (b : Int64) {n : Nat} (n8 : n < 8) : b &&& (((1 : Int64) <<< ((8 * nI n : Int32).toInt64 &&& 63)) - 1) = lowB b (nI n) := by
  have hs : ∀ j, j < 8 → ((1 : Int64) <<< ((8 * nI j : Int32).toInt64 &&& 63)) - 1 = lN (2 ^ (8 * j) - 1) := by decide +kernel
  apply uN_inj
  rw [hs n n8, lowB_n (by omega)]
  show (b.toUInt64 &&& (lN (2 ^ (8 * n) - 1)).toUInt64).toNat = _
  have hp : 2 ^ (8 * n) ≤ 2 ^ 64 := Nat.pow_le_pow_right (by decide) (by omega)
  have e2 : (lN (2 ^ (8 * n) - 1)).toUInt64.toNat = 2 ^ (8 * n) - 1 := uN_lN (by omega)
  rw [UInt64.toNat_and, e2]
  exact Nat.and_two_pow_sub_one_eq_mod _ _
theorem cut_8 (b : Int64) : lowB b 8 = b := by
  apply uN_inj
  have e := lowB_n (b := b) (n := 8) (Nat.le_refl 8)
  have h := uN_lt64 b
  rw [show (8 : Int32) = nI 8 from rfl, e]
  exact Nat.mod_eq_of_lt h
/-! moving rows by one, a place at a time -/
theorem opn_full {α : Type} {f : Nat → α} {m : Nat} : opn f m m = f := by
  funext i
  exact pk_cpy_out (by omega)
theorem opn_out {α : Type} {f : Nat → α} {q m i : Nat} (h : m < i) (h2 : q ≤ m) : opn f q m i = f i := pk_cpy_out (Or.inr (by omega))
theorem opn_stepL {f : Nat → Int64} {q m : Nat} (h2 : q < m) : vp_updL (opn f (q + 1) m) (q + 1) (opn f (q + 1) m q) = opn f q m := by
  funext i
  by_cases e : i = q + 1
  · subst e
    rw [pk_uLs, opn_lo (by omega), opn_hi (by omega) (by omega)]
    rfl
  · rw [pk_uLn e]
    rcases Nat.lt_or_ge q i with h | h
    · rcases Nat.lt_or_ge m i with h3 | h3
      · rw [opn_out h3 (by omega), opn_out h3 (by omega)]
      · rw [opn_hi (by omega) h3, opn_hi (by omega) h3]
    · rw [opn_lo (by omega), opn_lo (by omega)]
theorem opn_stepI {f : Nat → Int32} {q m : Nat} (h2 : q < m) : upd (opn f (q + 1) m) (q + 1) (opn f (q + 1) m q) = opn f q m := by
  funext i
  by_cases e : i = q + 1
  · subst e
    rw [pk_us, opn_lo (by omega), opn_hi (by omega) (by omega)]
    rfl
  · rw [pk_un e]
    rcases Nat.lt_or_ge q i with h | h
    · rcases Nat.lt_or_ge m i with h3 | h3
      · rw [opn_out h3 (by omega), opn_out h3 (by omega)]
      · rw [opn_hi (by omega) h3, opn_hi (by omega) h3]
    · rw [opn_lo (by omega), opn_lo (by omega)]
/-- rows from j + 1 on moved down by one, as far as place q -/
def clq {α : Type} (f : Nat → α) (j q : Nat) : Nat → α := va_cpy f f (j + 1) j (q - j)
theorem clq_0 {α : Type} {f : Nat → α} {j : Nat} : clq f j j = f := by
  funext i
  exact pk_cpy_out (by omega)
theorem clq_lo {α : Type} {f : Nat → α} {j q i : Nat} (h : i < j) : clq f j q i = f i := pk_cpy_out (Or.inl h)
theorem clq_in {α : Type} {f : Nat → α} {j q i : Nat} (h : j ≤ i) (h2 : i < q) : clq f j q i = f (i + 1) := by
  unfold clq
  rw [pk_cpy_in h (by omega)]
  congr 1
  omega
theorem clq_hi {α : Type} {f : Nat → α} {j q i : Nat} (h : j ≤ q) (h2 : q ≤ i) : clq f j q i = f i := pk_cpy_out (Or.inr (by omega))
theorem clq_stepL {f : Nat → Int64} {j q : Nat} (h : j ≤ q) : vp_updL (clq f j q) q (clq f j q (q + 1)) = clq f j (q + 1) := by
  funext i
  by_cases e : i = q
  · subst e
    rw [pk_uLs, clq_hi h (by omega), clq_in h (by omega)]
  · rw [pk_uLn e]
    rcases Nat.lt_or_ge i j with h1 | h1
    · rw [clq_lo h1, clq_lo h1]
    · rcases Nat.lt_or_ge i q with h2 | h2
      · rw [clq_in h1 h2, clq_in h1 (by omega)]
      · rw [clq_hi h h2, clq_hi (by omega) (by omega)]
theorem clq_stepI {f : Nat → Int32} {j q : Nat} (h : j ≤ q) : upd (clq f j q) q (clq f j q (q + 1)) = clq f j (q + 1) := by
  funext i
  by_cases e : i = q
  · subst e
    rw [pk_us, clq_hi h (by omega), clq_in h (by omega)]
  · rw [pk_un e]
    rcases Nat.lt_or_ge i j with h1 | h1
    · rw [clq_lo h1, clq_lo h1]
    · rcases Nat.lt_or_ge i q with h2 | h2
      · rw [clq_in h1 h2, clq_in h1 (by omega)]
      · rw [clq_hi h h2, clq_hi (by omega) (by omega)]
theorem clq_end {α : Type} {f : Nat → α} {j m : Nat} : clq f j (m - 1) = clo f j m := by
  unfold clq clo
  rw [show m - 1 - j = m - j - 1 by omega]
theorem cpq_0 {α : Type} {f g : Nat → α} : va_cpy f g 0 0 0 = g := by
  funext i
  exact pk_cpy_out (by omega)
theorem cpq_stepL {f g : Nat → Int64} {i : Nat} : vp_updL (va_cpy f g 0 0 i) i (f i) = va_cpy f g 0 0 (i + 1) := by
  funext q
  by_cases e : q = i
  · subst e
    rw [pk_uLs, cpy_at (by omega)]
  · rw [pk_uLn e]
    rcases Nat.lt_or_ge q i with h | h
    · rw [cpy_at h, cpy_at (by omega)]
    · rw [pk_cpy_out (by omega), pk_cpy_out (by omega)]
theorem cpq_stepI {f g : Nat → Int32} {i : Nat} : upd (va_cpy f g 0 0 i) i (f i) = va_cpy f g 0 0 (i + 1) := by
  funext q
  by_cases e : q = i
  · subst e
    rw [pk_us, cpy_at (by omega)]
  · rw [pk_un e]
    rcases Nat.lt_or_ge q i with h | h
    · rw [cpy_at h, cpy_at (by omega)]
    · rw [pk_cpy_out (by omega), pk_cpy_out (by omega)]
