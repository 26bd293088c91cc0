/-! THE CLASS's ROWS AND THE REFERENCE's: the same rows, but that a key's bytes stand at the top of the long in the one, as they are told in the other -/
theorem hd_low {q : Int64} {t : Int32} (o : okK t) : hdOf (lowB q t) t = hdOf q t := by
  obtain ⟨n, n1, n8, rfl⟩ := okK_nat o
  apply uN_inj
  rw [hdOf_n n1 n8, hdOf_n n1 n8, lowB_n n8, Nat.mod_mod]
theorem low_low {q : Int64} {t : Int32} (o : okK t) : lowB (lowB q t) t = lowB q t := by
  obtain ⟨n, n1, n8, rfl⟩ := okK_nat o
  apply uN_inj
  rw [lowB_n n8, lowB_n n8, Nat.mod_mod]
theorem unH_low {k : Int64} {t : Int32} (o : okK t) : unH (hdOf k t) t = lowB k t := by
  obtain ⟨n, n1, n8, rfl⟩ := okK_nat o
  apply uN_inj
  rw [unH_hdOf n1 n8, lowB_n n8]
def rr (v w : RS) (i : Nat) : Prop := v.2.1 i = hdOf (w.2.1 i) (w.2.2.1 i) ∧ v.2.2.1 i = w.2.2.1 i ∧ v.2.2.2.1 i = w.2.2.2.1 i ∧ v.2.2.2.2 i = w.2.2.2.2 i ∧ lowB (w.2.1 i) (w.2.2.1 i) = w.2.1 i
def Sim (v w : RS) : Prop := v.1 = w.1 ∧ ∀ i, i < v.1 → rr v w i
theorem sim_0 : Sim rs_0 rs_0 := ⟨rfl, fun i h => absurd h (Nat.not_lt_zero i)⟩
/-- a row of new rows that is a row of old ones -/
theorem rr_of {v w v1 w1 : RS} {i k : Nat} (h : rr v w k) (a1 : v1.2.1 i = v.2.1 k) (a2 : v1.2.2.1 i = v.2.2.1 k) (a3 : v1.2.2.2.1 i = v.2.2.2.1 k) (a4 : v1.2.2.2.2 i = v.2.2.2.2 k) (b1 : w1.2.1 i = w.2.1 k) (b2 : w1.2.2.1 i = w.2.2.1 k) (b3 : w1.2.2.2.1 i = w.2.2.2.1 k) (b4 : w1.2.2.2.2 i = w.2.2.2.2 k) : rr v1 w1 i := by
  obtain ⟨h1, h2, h3, h4, h5⟩ := h
  unfold rr
  rw [a1, a2, a3, a4, b1, b2, b3, b4]
  exact ⟨h1, h2, h3, h4, h5⟩
theorem sim_cpy {v w v1 w1 : RS} (h : Sim v w) : Sim (rs_cpy v v1) (rs_cpy w w1) := by
  obtain ⟨e, h⟩ := h
  refine ⟨e, fun i hi => ?_⟩
  have hi : i < v.1 := hi
  exact rr_of (h i hi) (cpy_at hi) (cpy_at hi) (cpy_at hi) (cpy_at hi) (cpy_at (e ▸ hi)) (cpy_at (e ▸ hi)) (cpy_at (e ▸ hi)) (cpy_at (e ▸ hi))
theorem rr_new {v w : RS} {j : Nat} {q : Int64} {t : Int32} {x : Int64} {n : Int32} (o : okK t) : rr (rs_put v j (hdOf q t) t x n) (rs_put w j (lowB q t) t x n) j := by
  unfold rr
  show vp_updL _ j _ j = hdOf (vp_updL _ j _ j) (upd _ j _ j) ∧ upd _ j _ j = upd _ j _ j ∧ vp_updL _ j _ j = vp_updL _ j _ j ∧ upd _ j _ j = upd _ j _ j ∧ lowB (vp_updL _ j _ j) (upd _ j _ j) = vp_updL _ j _ j
  rw [pk_uLs, pk_uLs, pk_us, pk_us, pk_uLs, pk_uLs, pk_us, pk_us]
  exact ⟨(hd_low o).symm, rfl, rfl, rfl, low_low o⟩
theorem rr_put {v w v0 w0 : RS} {i j : Nat} {h k : Int64} {t : Int32} {x : Int64} {n : Int32} (e : i ≠ j) (hr : rr v w i) : rr (rs_put v j h t x n) (rs_put w j k t x n) i :=
  rr_of hr (pk_uLn e) (pk_un e) (pk_uLn e) (pk_un e) (pk_uLn e) (pk_un e) (pk_uLn e) (pk_un e)
theorem sim_put {v w : RS} {j : Nat} {q : Int64} {t : Int32} {x : Int64} {n : Int32} (o : okK t) (h : Sim v w) : Sim (rs_put v j (hdOf q t) t x n) (rs_put w j (lowB q t) t x n) := by
  obtain ⟨e, h⟩ := h
  refine ⟨e, fun i hi => ?_⟩
  by_cases ej : i = j
  · subst ej
    exact rr_new o
  · exact rr_put (v0 := v) (w0 := w) ej (h i hi)
theorem sim_opn {v w : RS} {j : Nat} (hj : j ≤ v.1) (h : Sim v w) : (rs_opn v j).1 = (rs_opn w j).1 ∧ ∀ i, i < v.1 + 1 → i ≠ j → rr (rs_opn v j) (rs_opn w j) i := by
  obtain ⟨e, h⟩ := h
  refine ⟨by show v.1 + 1 = w.1 + 1; rw [e], fun i hi hne => ?_⟩
  rcases Nat.lt_or_ge i j with p | p
  · exact rr_of (h i (by omega)) (opn_lo (by omega)) (opn_lo (by omega)) (opn_lo (by omega)) (opn_lo (by omega)) (opn_lo (by omega)) (opn_lo (by omega)) (opn_lo (by omega)) (opn_lo (by omega))
  · exact rr_of (h (i - 1) (by omega)) (opn_hi (by omega) (by omega)) (opn_hi (by omega) (by omega)) (opn_hi (by omega) (by omega)) (opn_hi (by omega) (by omega)) (opn_hi (by omega) (by omega)) (opn_hi (by omega) (by omega)) (opn_hi (by omega) (by omega)) (opn_hi (by omega) (by omega))
theorem sim_ins {v w : RS} {j : Nat} {q : Int64} {t : Int32} {x : Int64} {n : Int32} (o : okK t) (hj : j ≤ v.1) (h : Sim v w) : Sim (rs_put (rs_opn v j) j (hdOf q t) t x n) (rs_put (rs_opn w j) j (lowB q t) t x n) := by
  obtain ⟨e, h⟩ := sim_opn hj h
  refine ⟨e, fun i hi => ?_⟩
  by_cases ej : i = j
  · subst ej
    exact rr_new o
  · exact rr_put (v0 := v) (w0 := w) ej (h i hi ej)
theorem sim_clo {v w : RS} {j : Nat} (hj : j < v.1) (h : Sim v w) : Sim (rs_clo v j) (rs_clo w j) := by
  obtain ⟨e, h⟩ := h
  refine ⟨by show v.1 - 1 = w.1 - 1; rw [e], fun i hi => ?_⟩
  have hi : i < v.1 - 1 := hi
  rcases Nat.lt_or_ge i j with p | p
  · exact rr_of (h i (by omega)) (clo_lo p) (clo_lo p) (clo_lo p) (clo_lo p) (clo_lo p) (clo_lo p) (clo_lo p) (clo_lo p)
  · exact rr_of (h (i + 1) (by omega)) (clo_hi p (by omega)) (clo_hi p (by omega)) (clo_hi p (by omega)) (clo_hi p (by omega)) (clo_hi p (by omega)) (clo_hi p (by omega)) (clo_hi p (by omega)) (clo_hi p (by omega))
theorem sim_mok {v w : RS} (R : Srt v) (h : Sim v w) : mok w := by
  obtain ⟨e, h⟩ := h
  refine ⟨by rw [← e]; exact R.1, fun i hi => ?_⟩
  rw [← (h i (by omega)).2.1]
  exact R.2.1 i (by omega)
theorem sim_mpl {v w : RS} {h : Int64} {t : Int32} {j : Nat} (M : Sim v w) (p : spl v.1 v.2.1 v.2.2.1 h t j) : mpl w h t j := by
  obtain ⟨e, M⟩ := M
  obtain ⟨p1, p2, p3⟩ := p
  refine ⟨by omega, fun i hi => ?_, fun hj q => p3 j (Nat.le_refl _) (by omega) ?_⟩
  · have r := M i (by omega)
    have g := p2 i hi
    rw [r.1, r.2.1] at g
    exact g
  · have r := M j (by omega)
    rw [r.1, r.2.1]
    exact q
theorem sim_hld {v w : RS} {h : Int64} {t : Int32} {j : Nat} (M : Sim v w) : hld v.1 v.2.1 v.2.2.1 j h t ↔ mhl w j h t := by
  obtain ⟨e, M⟩ := M
  constructor
  · rintro ⟨h1, h2, h3⟩
    have r := M j h1
    rw [r.1] at h2
    rw [r.2.1] at h3
    exact ⟨by omega, h2, h3⟩
  · rintro ⟨h1, h2, h3⟩
    have r := M j (by omega)
    refine ⟨by omega, ?_, ?_⟩
    · rw [r.1]
      exact h2
    · rw [r.2.1]
      exact h3
theorem ex_j {v : RS} (R : Srt v) (q : Int64) (t : Int32) : ∃ j, okK t → spl v.1 v.2.1 v.2.2.1 (hdOf q t) t j ∧ loQ v (kc (hdOf q t) t) j := by
  by_cases o : okK t
  · obtain ⟨j, h⟩ := srt_spl (h := hdOf q t) R o
    exact ⟨j, fun _ => h⟩
  · exact ⟨0, fun g => absurd g o⟩
theorem eq_put {v w v1 w1 : RS} {q : Int64} {t : Int32} {b : Int64} {n : Int32} {j : Nat} {z1 z2 : Int32} (R : Srt v) (M : Sim v w) (hj : okK t → spl v.1 v.2.1 v.2.2.1 (hdOf q t) t j ∧ loQ v (kc (hdOf q t) t) j)
    (p1 : (okK t ∧ okT n ∧ setQ v j (hdOf q t) t (lowB b n) n z1 v1) ∨ (¬ (okK t ∧ okT n) ∧ z1 = 0 ∧ v1 = v))
    (p2 : (okK t ∧ okT n ∧ msQ w j (hdOf q t) (lowB q t) t (lowB b n) n z2 w1) ∨ (¬ (okK t ∧ okT n) ∧ z2 = 0 ∧ w1 = w)) : z1 = z2 ∧ Srt v1 ∧ Sim v1 w1 := by
  rcases p1 with ⟨o, oT, p1⟩ | ⟨no, rfl, rfl⟩
  · rcases p2 with ⟨_, _, p2⟩ | ⟨no, _⟩
    · obtain ⟨hs, L⟩ := hj o
      have hh := sim_hld (h := hdOf q t) (t := t) (j := j) M
      have e := M.1
      rcases p1 with ⟨h1, rfl, rfl⟩ | ⟨h1, h2, rfl, rfl⟩ | ⟨h1, h2, rfl, rfl⟩
      · rcases p2 with ⟨g1, rfl, rfl⟩ | ⟨g1, _⟩ | ⟨g1, _⟩
        · exact ⟨rfl, srt_put R h1, sim_put o M⟩
        · exact absurd (hh.mp h1) g1
        · exact absurd (hh.mp h1) g1
      · rcases p2 with ⟨g1, _⟩ | ⟨g1, g2, rfl, rfl⟩ | ⟨g1, g2, _⟩
        · exact absurd (hh.mpr g1) h1
        · exact ⟨rfl, srt_ins R o hs.1 L h1 h2, sim_ins o hs.1 M⟩
        · omega
      · rcases p2 with ⟨g1, _⟩ | ⟨g1, g2, _⟩ | ⟨g1, g2, rfl, rfl⟩
        · exact absurd (hh.mpr g1) h1
        · omega
        · exact ⟨rfl, R, M⟩
    · exact absurd ⟨o, oT⟩ no
  · rcases p2 with ⟨o, oT, _⟩ | ⟨_, rfl, rfl⟩
    · exact absurd ⟨o, oT⟩ no
    · exact ⟨rfl, R, M⟩
theorem eq_rem {v w v1 w1 : RS} {q : Int64} {t : Int32} {j : Nat} {z1 z2 : Int32} (R : Srt v) (M : Sim v w)
    (p1 : (okK t ∧ hld v.1 v.2.1 v.2.2.1 j (hdOf q t) t ∧ z1 = 1 ∧ v1 = rs_clo v j) ∨ (¬ (okK t ∧ hld v.1 v.2.1 v.2.2.1 j (hdOf q t) t) ∧ z1 = 0 ∧ v1 = v))
    (p2 : (okK t ∧ mhl w j (hdOf q t) t ∧ z2 = 1 ∧ w1 = rs_clo w j) ∨ (¬ (okK t ∧ mhl w j (hdOf q t) t) ∧ z2 = 0 ∧ w1 = w)) : z1 = z2 ∧ Srt v1 ∧ Sim v1 w1 := by
  have hh := sim_hld (h := hdOf q t) (t := t) (j := j) M
  rcases p1 with ⟨o, h1, rfl, rfl⟩ | ⟨no, rfl, rfl⟩
  · rcases p2 with ⟨_, g1, rfl, rfl⟩ | ⟨g1, _⟩
    · exact ⟨rfl, srt_rem R h1.1, sim_clo h1.1 M⟩
    · exact absurd ⟨o, hh.mp h1⟩ g1
  · rcases p2 with ⟨o, g1, _⟩ | ⟨_, rfl, rfl⟩
    · exact absurd ⟨o, hh.mpr g1⟩ no
    · exact ⟨rfl, R, M⟩
theorem eq_len {v w : RS} {q : Int64} {t : Int32} {j : Nat} {z1 z2 : Int32} (M : Sim v w)
    (p1 : (okK t ∧ hld v.1 v.2.1 v.2.2.1 j (hdOf q t) t ∧ z1 = v.2.2.2.2 j) ∨ (¬ (okK t ∧ hld v.1 v.2.1 v.2.2.1 j (hdOf q t) t) ∧ z1 = -1))
    (p2 : (okK t ∧ mhl w j (hdOf q t) t ∧ z2 = w.2.2.2.2 j) ∨ (¬ (okK t ∧ mhl w j (hdOf q t) t) ∧ z2 = -1)) : z1 = z2 := by
  have hh := sim_hld (h := hdOf q t) (t := t) (j := j) M
  rcases p1 with ⟨o, h1, rfl⟩ | ⟨no, rfl⟩
  · rcases p2 with ⟨_, g1, rfl⟩ | ⟨g1, _⟩
    · exact (M.2 j h1.1).2.2.2.1
    · exact absurd ⟨o, hh.mp h1⟩ g1
  · rcases p2 with ⟨o, g1, _⟩ | ⟨_, rfl⟩
    · exact absurd ⟨o, hh.mpr g1⟩ no
    · rfl
theorem eq_txt {v w : RS} {q : Int64} {t : Int32} {j : Nat} {z1 z2 : Int64} (M : Sim v w)
    (p1 : (okK t ∧ hld v.1 v.2.1 v.2.2.1 j (hdOf q t) t ∧ z1 = v.2.2.2.1 j) ∨ (¬ (okK t ∧ hld v.1 v.2.1 v.2.2.1 j (hdOf q t) t) ∧ z1 = 0))
    (p2 : (okK t ∧ mhl w j (hdOf q t) t ∧ z2 = w.2.2.2.1 j) ∨ (¬ (okK t ∧ mhl w j (hdOf q t) t) ∧ z2 = 0)) : z1 = z2 := by
  have hh := sim_hld (h := hdOf q t) (t := t) (j := j) M
  rcases p1 with ⟨o, h1, rfl⟩ | ⟨no, rfl⟩
  · rcases p2 with ⟨_, g1, rfl⟩ | ⟨g1, _⟩
    · exact (M.2 j h1.1).2.2.1
    · exact absurd ⟨o, hh.mp h1⟩ g1
  · rcases p2 with ⟨o, g1, _⟩ | ⟨_, rfl⟩
    · exact absurd ⟨o, hh.mpr g1⟩ no
    · rfl
theorem eq_nf {v w : RS} {i z1 z2 : Int32} {f1 f2 : Int64 × Int32} (R : Srt v) (M : Sim v w) (p1 : nfQ v.1 v.2.1 v.2.2.1 i z1 f1) (p2 : mfQ w i z2 f2) : z1 = z2 ∧ f1 = f2 := by
  have e := M.1
  have hu := R.1
  rcases p1 with ⟨j, h1, h2, rfl, rfl⟩ | ⟨h1, rfl, rfl⟩
  · rcases p2 with ⟨k, g1, g2, rfl, rfl⟩ | ⟨g1, _⟩
    · obtain rfl : j = k := nI_inj (u := w.1) (by omega) g1 (h2.symm.trans g2) (by omega)
      have r := M.2 j h1
      refine ⟨rfl, ?_⟩
      rw [r.1, r.2.1, unH_low (by rw [← r.2.1]; exact R.2.1 j h1), r.2.2.2.2]
    · exact absurd ⟨j, by omega, h2⟩ g1
  · rcases p2 with ⟨k, g1, g2, _⟩ | ⟨_, rfl, rfl⟩
    · exact absurd ⟨k, by omega, g2⟩ h1
    · exact ⟨rfl, rfl⟩
theorem eq_seek {v w : RS} {t i z1 z2 : Int32} {f1 f2 : Int64 × Int32} (R : Srt v) (M : Sim v w) (p1 : (okK t ∧ nfQ v.1 v.2.1 v.2.2.1 i z1 f1) ∨ (¬ okK t ∧ z1 = 0 ∧ f1 = (0, 0))) (p2 : (okK t ∧ mfQ w i z2 f2) ∨ (¬ okK t ∧ z2 = 0 ∧ f2 = (0, 0))) : z1 = z2 ∧ f1 = f2 := by
  rcases p1 with ⟨o, h⟩ | ⟨o, rfl, rfl⟩
  · rcases p2 with ⟨_, g⟩ | ⟨o2, _⟩
    · exact eq_nf R M h g
    · exact absurd o o2
  · rcases p2 with ⟨o2, _⟩ | ⟨_, rfl, rfl⟩
    · exact absurd o2 o
    · exact ⟨rfl, rfl⟩
