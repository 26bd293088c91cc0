/-! THE ROWS AS A MAP: from a key's number to its text and length -/
def kc (h : Int64) (t : Int32) : Nat := uN h * 16 + t.toNatClampNeg
theorem okK_nat {t : Int32} (h : okK t) : ∃ n, 1 ≤ n ∧ n ≤ 8 ∧ t = nI n := by
  obtain ⟨h1, h2⟩ := h
  have e0 : (0 : Int32).toInt = 0 := by decide
  have e1 : (1 : Int32).toInt = 1 := by decide
  have e8 : (8 : Int32).toInt = 8 := by decide
  rw [Int32.lt_iff_toInt_lt, e1] at h1
  rw [Int32.lt_iff_toInt_lt, e8] at h2
  obtain ⟨j, hj, rfl⟩ := nI_of (x := t) (fun q => by rw [Int32.lt_iff_toInt_lt, e0] at q; omega)
  rw [nI_toInt hj] at h1 h2
  exact ⟨j, by omega, by omega, rfl⟩
theorem okK_of0 : ∀ n, n < 9 → 1 ≤ n → (¬ nI n < 1 ∧ ¬ 8 < nI n) := by decide +kernel
theorem okK_of {n : Nat} (h1 : 1 ≤ n) (h2 : n ≤ 8) : okK (nI n) := okK_of0 n (by omega) h1
theorem uS (x y : Int64) : x + (-9223372036854775808) < y + (-9223372036854775808) ↔ uN x < uN y := by
  have hx := uN_lt x
  have hy := uN_lt y
  have hS : uN (-9223372036854775808) = 9223372036854775808 := by decide
  rw [Int64.lt_iff_toInt_lt, uN_int, uN_int, uN_add, uN_add, hS]
  omega
theorem bfr_kc {h1 h2 : Int64} {t1 t2 : Int32} (o1 : okK t1) (o2 : okK t2) : bfr h1 t1 h2 t2 ↔ kc h1 t1 < kc h2 t2 := by
  obtain ⟨n1, a1, b1, rfl⟩ := okK_nat o1
  obtain ⟨n2, a2, b2, rfl⟩ := okK_nat o2
  unfold bfr kc
  rw [nI_clamp (show n1 < 2 ^ 31 by omega), nI_clamp (show n2 < 2 ^ 31 by omega), uS, nI_ltI (by omega) (by omega)]
  constructor
  · rintro (⟨_, h⟩ | ⟨rfl, h⟩)
    · omega
    · omega
  · intro h
    by_cases e : h1 = h2
    · subst e
      exact Or.inr ⟨rfl, by omega⟩
    · refine Or.inl ⟨e, ?_⟩
      have e2 : uN h1 ≠ uN h2 := fun q => e (uN_inj q)
      omega
theorem kc_inj {h1 h2 : Int64} {t1 t2 : Int32} (o1 : okK t1) (o2 : okK t2) (e : kc h1 t1 = kc h2 t2) : h1 = h2 ∧ t1 = t2 := by
  obtain ⟨n1, a1, b1, rfl⟩ := okK_nat o1
  obtain ⟨n2, a2, b2, rfl⟩ := okK_nat o2
  unfold kc at e
  rw [nI_clamp (show n1 < 2 ^ 31 by omega), nI_clamp (show n2 < 2 ^ 31 by omega)] at e
  exact ⟨uN_inj (by omega), by rw [show n1 = n2 by omega]⟩
def cod (v : RS) (i : Nat) : Nat := kc (v.2.1 i) (v.2.2.1 i)
def Srt (v : RS) : Prop := v.1 ≤ 150 ∧ (∀ i, i < v.1 → okK (v.2.2.1 i)) ∧ ∀ i j, i < j → j < v.1 → cod v i < cod v j
def loQ (v : RS) (K j : Nat) : Prop := (∀ i, i < j → cod v i < K) ∧ ∀ i, j ≤ i → i < v.1 → K ≤ cod v i
theorem srt_spl {v : RS} {h : Int64} {t : Int32} (R : Srt v) (o : okK t) : ∃ j, spl v.1 v.2.1 v.2.2.1 h t j ∧ loQ v (kc h t) j := by
  obtain ⟨-, R2, R3⟩ := R
  obtain ⟨j, hj, hm⟩ := pk_least (fun i => v.1 ≤ i ∨ kc h t ≤ cod v i) ⟨v.1, Or.inl (Nat.le_refl _)⟩
  have hju : j ≤ v.1 := by
    rcases Nat.lt_or_ge v.1 j with q | q
    · exact absurd (Or.inl (Nat.le_refl _)) (hm _ q)
    · exact q
  have lo : ∀ i, i < j → cod v i < kc h t := fun i hi => by
    have q := hm i hi
    rcases Nat.lt_or_ge (cod v i) (kc h t) with g | g
    · exact g
    · exact absurd (Or.inr g) q
  have hi : ∀ i, j ≤ i → i < v.1 → kc h t ≤ cod v i := fun i h1 h2 => by
    rcases hj with q | q
    · omega
    · rcases Nat.lt_or_ge j i with g | g
      · have := R3 j i g h2
        omega
      · rw [show i = j by omega]
        exact q
  refine ⟨j, ⟨hju, fun i hi' => (bfr_kc (R2 i (by omega)) o).mpr (lo i hi'), fun i h1 h2 h3 => ?_⟩, lo, hi⟩
  have g1 : cod v i < kc h t := (bfr_kc (R2 i h2) o).mp h3
  have g2 := hi i h1 h2
  omega
theorem srt_ne {v : RS} {h : Int64} {t : Int32} {j : Nat} (R : Srt v) (o : okK t) (L : loQ v (kc h t) j) (n : ¬ hld v.1 v.2.1 v.2.2.1 j h t) : ∀ i, i < v.1 → cod v i ≠ kc h t := by
  obtain ⟨-, R2, R3⟩ := R
  obtain ⟨lo, hi⟩ := L
  intro i h1 h2
  have hij : i = j := by
    rcases Nat.lt_or_ge i j with g | g
    · have := lo i g
      omega
    · rcases Nat.lt_or_ge j i with g2 | g2
      · have := R3 j i g2 h1
        have := hi j (Nat.le_refl _) (by omega)
        omega
      · omega
  subst hij
  obtain ⟨e1, e2⟩ := kc_inj (R2 i h1) o h2
  exact n ⟨h1, e1, e2⟩
theorem srt_ext {v w : RS} (R : Srt v) (e1 : w.1 = v.1) (e2 : ∀ i, i < v.1 → w.2.1 i = v.2.1 i) (e3 : ∀ i, i < v.1 → w.2.2.1 i = v.2.2.1 i) : Srt w := by
  obtain ⟨R1, R2, R3⟩ := R
  have ec : ∀ i, i < v.1 → cod w i = cod v i := fun i hi => by unfold cod; rw [e2 i hi, e3 i hi]
  refine ⟨by omega, fun i hi => ?_, fun i j hi hj => ?_⟩
  · rw [e3 i (by omega)]
    exact R2 i (by omega)
  · rw [ec i (by omega), ec j (by omega)]
    exact R3 i j hi (by omega)
theorem srt_0 : Srt rs_0 := ⟨Nat.zero_le _, fun i h => absurd h (Nat.not_lt_zero i), fun i j _ h => absurd h (Nat.not_lt_zero j)⟩
theorem cpy_at {α : Type} {f g : Nat → α} {n i : Nat} (h : i < n) : va_cpy f g 0 0 n i = f i := by
  rw [pk_cpy_in (Nat.zero_le i) (by omega)]
  congr 1
  omega
theorem srt_cpy {v w : RS} (R : Srt v) : Srt (rs_cpy v w) := srt_ext R rfl (fun _ h => cpy_at h) (fun _ h => cpy_at h)
theorem opn_lo {α : Type} {f : Nat → α} {j u i : Nat} (h : i ≤ j) : opn f j u i = f i := pk_cpy_out (Or.inl (by omega))
theorem opn_hi {α : Type} {f : Nat → α} {j u i : Nat} (h : j < i) (h2 : i ≤ u) : opn f j u i = f (i - 1) := by
  unfold opn
  rw [pk_cpy_in (by omega) (by omega)]
  congr 1
  omega
theorem clo_lo {α : Type} {f : Nat → α} {j u i : Nat} (h : i < j) : clo f j u i = f i := pk_cpy_out (Or.inl h)
theorem clo_hi {α : Type} {f : Nat → α} {j u i : Nat} (h : j ≤ i) (h2 : i + 1 < u) : clo f j u i = f (i + 1) := by
  unfold clo
  rw [pk_cpy_in h (by omega)]
  congr 1
  omega
/-- rows with a new one at j -/
theorem srt_new {v w : RS} {h : Int64} {t : Int32} {j : Nat} (R : Srt v) (o : okK t) (hju : j ≤ v.1) (L : loQ v (kc h t) j) (hn : ¬ hld v.1 v.2.1 v.2.2.1 j h t) (h150 : v.1 < 150)
    (e1 : w.1 = v.1 + 1) (ej : w.2.1 j = h ∧ w.2.2.1 j = t)
    (el : ∀ i, i < j → w.2.1 i = v.2.1 i ∧ w.2.2.1 i = v.2.2.1 i)
    (eh : ∀ i, j ≤ i → i < v.1 → w.2.1 (i + 1) = v.2.1 i ∧ w.2.2.1 (i + 1) = v.2.2.1 i) : Srt w := by
  have hne := srt_ne R o L hn
  obtain ⟨R1, R2, R3⟩ := R
  obtain ⟨lo, hi⟩ := L
  have cj : cod w j = kc h t := by unfold cod; rw [ej.1, ej.2]
  have cl : ∀ i, i < j → cod w i = cod v i := fun i h1 => by unfold cod; rw [(el i h1).1, (el i h1).2]
  have ch : ∀ i, j ≤ i → i < v.1 → cod w (i + 1) = cod v i := fun i h1 h2 => by unfold cod; rw [(eh i h1 h2).1, (eh i h1 h2).2]
  have cases3 : ∀ i, i < v.1 + 1 → i < j ∨ i = j ∨ ∃ k, i = k + 1 ∧ j ≤ k ∧ k < v.1 := fun i h1 => by
    rcases Nat.lt_trichotomy i j with q | q | q
    · exact Or.inl q
    · exact Or.inr (Or.inl q)
    · exact Or.inr (Or.inr ⟨i - 1, by omega, by omega, by omega⟩)
  refine ⟨by omega, fun i h1 => ?_, fun i k h1 h2 => ?_⟩
  · rcases cases3 i (by omega) with q | rfl | ⟨k, rfl, q1, q2⟩
    · rw [(el i q).2]
      exact R2 i (by omega)
    · rw [ej.2]
      exact o
    · rw [(eh k q1 q2).2]
      exact R2 k q2
  · rcases cases3 k (by omega) with q | rfl | ⟨k, rfl, q1, q2⟩
    · rw [cl i (by omega), cl k q]
      exact R3 i k h1 (by omega)
    · rw [cl i h1, cj]
      exact lo i h1
    · rw [ch k q1 q2]
      have hk2 := hi k q1 q2
      have hk3 := hne k q2
      rcases cases3 i (by omega) with p | rfl | ⟨i, rfl, p1, p2⟩
      · rw [cl i p]
        have := lo i p
        omega
      · rw [cj]
        omega
      · rw [ch i p1 p2]
        exact R3 i k (by omega) q2
theorem srt_put {v : RS} {h : Int64} {t : Int32} {x : Int64} {n : Int32} {j : Nat} (R : Srt v) (q : hld v.1 v.2.1 v.2.2.1 j h t) : Srt (rs_put v j h t x n) := by
  refine srt_ext R rfl (fun i _ => ?_) (fun i _ => ?_)
  · by_cases e : i = j
    · subst e
      exact pk_uLs.trans q.2.1.symm
    · exact pk_uLn e
  · by_cases e : i = j
    · subst e
      exact pk_us.trans q.2.2.symm
    · exact pk_un e
theorem srt_ins {v : RS} {h : Int64} {t : Int32} {x : Int64} {n : Int32} {j : Nat} (R : Srt v) (o : okK t) (hju : j ≤ v.1) (L : loQ v (kc h t) j) (hn : ¬ hld v.1 v.2.1 v.2.2.1 j h t) (h150 : v.1 < 150) : Srt (rs_put (rs_opn v j) j h t x n) :=
  srt_new R o hju L hn h150 rfl ⟨pk_uLs, pk_us⟩
    (fun i e => ⟨(pk_uLn (by omega)).trans (opn_lo (by omega)), (pk_un (by omega)).trans (opn_lo (by omega))⟩)
    (fun i e1 e2 => ⟨(pk_uLn (by omega)).trans (opn_hi (by omega) (by omega)), (pk_un (by omega)).trans (opn_hi (by omega) (by omega))⟩)
theorem srt_rem {v : RS} {j : Nat} (R : Srt v) (hj : j < v.1) : Srt (rs_clo v j) := by
  obtain ⟨R1, R2, R3⟩ := R
  have cl : ∀ i, i < j → cod (rs_clo v j) i = cod v i := fun i h1 => by
    show kc (clo v.2.1 j v.1 i) (clo v.2.2.1 j v.1 i) = _
    rw [clo_lo h1, clo_lo h1]
    rfl
  have ch : ∀ i, j ≤ i → i + 1 < v.1 → cod (rs_clo v j) i = cod v (i + 1) := fun i h1 h2 => by
    show kc (clo v.2.1 j v.1 i) (clo v.2.2.1 j v.1 i) = _
    rw [clo_hi h1 h2, clo_hi h1 h2]
    rfl
  have e1 : (rs_clo v j).1 = v.1 - 1 := rfl
  refine ⟨by omega, fun i h1 => ?_, fun i k h1 h2 => ?_⟩
  · show okK (clo v.2.2.1 j v.1 i)
    rcases Nat.lt_or_ge i j with p | p
    · rw [clo_lo p]
      exact R2 i (by omega)
    · rw [clo_hi p (by omega)]
      exact R2 _ (by omega)
  · rcases Nat.lt_or_ge k j with p | p
    · rw [cl i (by omega), cl k p]
      exact R3 i k h1 (by omega)
    · rw [ch k p (by omega)]
      rcases Nat.lt_or_ge i j with p2 | p2
      · rw [cl i p2]
        exact R3 i (k + 1) (by omega) (by omega)
      · rw [ch i p2 (by omega)]
        exact R3 (i + 1) (k + 1) (by omega) (by omega)
