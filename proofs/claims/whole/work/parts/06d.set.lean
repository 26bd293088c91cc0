set_option maxHeartbeats 4000000 in
set_option maxRecDepth 100000 in
/-- set -/
theorem c_set (l : Launch) (dC : Nat → ClassId) (dI : Nat → Nat → Nat) (hz : Nat) (cL cI : ClassId) (r a1 a2 a3 a4 : Nat) (u : Nat) (hd : Nat → Int64) (sz : Nat → Int32) (tx : Nat → Int64) (ln : Nat → Int32) (hu : u ≤ 150) (h : Int64) (t : Int32) (x : Int64) (n : Int32) (j : Nat) (hj : spl u hd sz h t j) (hju : j ≤ u) : Met l yX0_set wsX0_set ({ frames := 3, cells := 0, slots := 0, locals := 70 }) (wrP (dC, dI) (kS cL cI) (rW cL cI r a1 a2 a3 a4 (u, hd, sz, tx, ln)) [.ref r, .long h, .int t, .long x, .int n] hz) (va_Qi (fun (z : Int32) (v : RS) => setQ (u, hd, sz, tx, ln) j h t x n z v) (wrB (dC, dI) (va_A (rW cL cI r a1 a2 a3 a4 (u, hd, sz, tx, ln)) hz) (fun (v : RS) => rW cL cI r a1 a2 a3 a4 v)) (va_A (rW cL cI r a1 a2 a3 a4 (u, hd, sz, tx, ln)) hz)) 0 0 (va_A (rW cL cI r a1 a2 a3 a4 (u, hd, sz, tx, ln)) hz) := by
  refine Met.ofW (cc := cX0_set) (maxL := 8) (ret := some .boolean) (by decide) rfl ?_
  intro p e s m args below meth c s₁ B hml hv
  obtain ⟨rfl, hsz, hP, hK, hD0⟩ := hv
  have hx := B.exec
  have hb := B.bytes
  have hr := B.returns
  have hts := atoms_spec (ws := wsX0_set) B.pre
  have hown : s.vm.findClass RX0 = some m.cls := findClass_of_methodNamed B.named
  have hlocks := B.notSynchronized
  subst hsz
  have hD := hD0.self (sz := s.heap.size)
  generalize hAe : va_A (rW cL cI r a1 a2 a3 a4 (u, hd, sz, tx, ln)) s.heap.size = A at hD ⊢
  have hA : ∀ q : Nat, s.heap.size ≤ q → A q := fun q h => by rw [← hAe]; exact Or.inr h
  have hS : va_S A s.heap s.heap [] := va_S.rf
  replace hP : va_P (dC, dI) vwCl [(r, .inr (0, [.ref a1, .ref a2, .ref a3, .ref a4, .int (nI u)])), (a1, .inl (cL, 150, .inr (.inl hd))), (a2, .inl (cI, 150, .inl sz)), (a3, .inl (cL, 150, .inr (.inl tx))), (a4, .inl (cI, 150, .inl ln))] s.heap := hP
  replace hD : va_D A [(r, .inr (0, [.ref a1, .ref a2, .ref a3, .ref a4, .int (nI u)])), (a1, .inl (cL, 150, .inr (.inl hd))), (a2, .inl (cI, 150, .inl sz)), (a3, .inl (cL, 150, .inr (.inl tx))), (a4, .inl (cI, 150, .inl ln))] := hD
  have hl := lv_entry ([.ref r, .long h, .int t, .long x, .int n]) (n := 8) (Nat.le_of_ble_eq_true rfl)
  rw [lg_entry_eq]
  generalize (lg_sl ([.ref r, .long h, .int t, .long x, .int n]) ++ List.replicate (8 - (lg_sl ([.ref r, .long h, .int t, .long x, .int n])).length) Slot.unset).toArray = ls at hl ⊢
  replace hl : lv_has ls 8 [(0, .ref r), (1, .long h), (3, .int t), (4, .long x), (6, .int n)] := hl
  refine lv_aload_n hx hb dX0_set_0 rfl (lv_at hl 0 rfl) ?_
  refine lv_lload_n hx hb dX0_set_1 rfl (lv_at hl 1 rfl) ?_
  refine lv_iload_n hx hb dX0_set_2 rfl (lv_at hl 2 rfl) ?_
  refine vp_callSi (va_Run.run (va_runV (As := [.long h, .int t]) (rest := []) ⟨hx, hb, hml, hown, hts⟩ (c_firstNotBefore l dC dI cL cI r a1 a2 a3 a4 u hd sz hu h t j hj) (cwV 2 hts gX0_set_X0_firstNotBefore rfl rfl rfl (by decide +kernel) ⟨Nat.le_of_ble_eq_true rfl, Nat.le_of_ble_eq_true rfl⟩) (rd_preV hK (hP.sub (ws' := [(r, .inr (0, [.ref a1, .ref a2, .ref a3, .ref a4, .int (nI u)])), (a1, .inl (cL, 150, .inr (.inl hd))), (a2, .inl (cI, 150, .inl sz))]) [0, 1, 2] rfl) (ci := 0) (q0 := 0) rfl rfl) rfl rfl hl.1 rfl (lv_room (Nat.le_of_ble_eq_true rfl)) dX0_set_3 ⟨Nat.le_of_ble_eq_true rfl, Nat.le_of_ble_eq_true rfl⟩)) (fun r1 hr1 => ?_)
  subst hr1
  refine lv_istore (lv' := [(7, .int (nI j)), (0, .ref r), (1, .long h), (3, .int t), (4, .long x), (6, .int n)]) hx hb dX0_set_6 hl (by decide) rfl (fun ls hl => ?_)
  refine lv_aload_n hx hb dX0_set_8 rfl (lv_at hl 1 rfl) ?_
  refine lv_iload hx hb dX0_set_9 (lv_at hl 0 rfl) ?_
  refine lv_lload_n hx hb dX0_set_11 rfl (lv_at hl 2 rfl) ?_
  refine lv_iload_n hx hb dX0_set_12 rfl (lv_at hl 3 rfl) ?_
  refine vp_callSi (va_Run.run (va_runV (As := [.int (nI j), .long h, .int t]) (rest := []) ⟨hx, hb, hml, hown, hts⟩ (c_holds l dC dI cL cI r a1 a2 a3 a4 u hd sz hu (nI j) h t) (cwV 3 hts gX0_set_X0_holds rfl rfl rfl (by decide +kernel) ⟨Nat.le_of_ble_eq_true rfl, Nat.le_of_ble_eq_true rfl⟩) (rd_preV hK (hP.sub (ws' := [(r, .inr (0, [.ref a1, .ref a2, .ref a3, .ref a4, .int (nI u)])), (a1, .inl (cL, 150, .inr (.inl hd))), (a2, .inl (cI, 150, .inl sz))]) [0, 1, 2] rfl) (ci := 0) (q0 := 0) rfl rfl) rfl rfl hl.1 rfl (lv_room (Nat.le_of_ble_eq_true rfl)) dX0_set_13 ⟨Nat.le_of_ble_eq_true rfl, Nat.le_of_ble_eq_true rfl⟩)) (fun r2 hr2 => ?_)
  rcases hr2 with ⟨rfl, i, hi, ei, hh1, hh2⟩ | ⟨rfl, hno⟩
  · skip
    obtain rfl : j = i := nI_inj hu hi ei (by omega)
    have hh : hld u hd sz j h t := ⟨hi, hh1, hh2⟩
    have hj150 : j < 150 := by omega
    refine lv_if_ne (tgt := 30) hx hb dX0_set_16 (by decide) (fun c_16 => ?_) (fun c_16 => absurd c_16 (by decide))
    refine lv_aload_n hx hb dX0_set_30 rfl (lv_at hl 1 rfl) ?_
    refine va_get (D := (dC, dI)) (ci := 0) (v := .ref a1) (C := RX0) (T := TX0) (N := 5) hx hb hts i_X0_set_X0 hown hK hP 0 rfl rfl 0 (by decide) (hts (.fieldLink RX0 9 "BlockTree$Rows" "heads" "[J") (by decide +kernel)) (fun _ h9 => h9) rfl dX0_set_31 ?_
    refine lv_iload hx hb dX0_set_34 (lv_at hl 0 rfl) ?_
    refine lv_lload_n hx hb dX0_set_36 rfl (lv_at hl 2 rfl) ?_
    refine va_last hx hb hK hP hD hS 1 0 rfl rfl (vp_in_nI (by omega) (by omega)) dX0_set_37 (fun H locs hP hD hS => ?_)
    rw [show ((nI j)).toNatClampNeg = j from (nI_clamp (by omega))] at hP hD
    replace hP : va_P (dC, dI) vwCl [(r, .inr (0, [.ref a1, .ref a2, .ref a3, .ref a4, .int (nI u)])), (a1, .inl (cL, 150, .inr (.inl (vp_updL hd j h)))), (a2, .inl (cI, 150, .inl sz)), (a3, .inl (cL, 150, .inr (.inl tx))), (a4, .inl (cI, 150, .inl ln))] H := hP
    replace hD : va_D A [(r, .inr (0, [.ref a1, .ref a2, .ref a3, .ref a4, .int (nI u)])), (a1, .inl (cL, 150, .inr (.inl (vp_updL hd j h)))), (a2, .inl (cI, 150, .inl sz)), (a3, .inl (cL, 150, .inr (.inl tx))), (a4, .inl (cI, 150, .inl ln))] := hD
    refine lv_aload_n hx hb dX0_set_38 rfl (lv_at hl 1 rfl) ?_
    refine va_get (D := (dC, dI)) (ci := 0) (v := .ref a2) (C := RX0) (T := TX0) (N := 5) hx hb hts i_X0_set_X0 hown hK hP 0 rfl rfl 1 (by decide) (hts (.fieldLink RX0 15 "BlockTree$Rows" "sizes" "[I") (by decide +kernel)) (fun _ h9 => h9) rfl dX0_set_39 ?_
    refine lv_iload hx hb dX0_set_42 (lv_at hl 0 rfl) ?_
    refine lv_iload_n hx hb dX0_set_44 rfl (lv_at hl 3 rfl) ?_
    refine va_iast hx hb hK hP hD hS 2 1 rfl rfl (vp_in_nI (by omega) (by omega)) dX0_set_45 (fun H locs hP hD hS => ?_)
    rw [show ((nI j)).toNatClampNeg = j from (nI_clamp (by omega))] at hP hD
    replace hP : va_P (dC, dI) vwCl [(r, .inr (0, [.ref a1, .ref a2, .ref a3, .ref a4, .int (nI u)])), (a1, .inl (cL, 150, .inr (.inl (vp_updL hd j h)))), (a2, .inl (cI, 150, .inl (upd sz j t))), (a3, .inl (cL, 150, .inr (.inl tx))), (a4, .inl (cI, 150, .inl ln))] H := hP
    replace hD : va_D A [(r, .inr (0, [.ref a1, .ref a2, .ref a3, .ref a4, .int (nI u)])), (a1, .inl (cL, 150, .inr (.inl (vp_updL hd j h)))), (a2, .inl (cI, 150, .inl (upd sz j t))), (a3, .inl (cL, 150, .inr (.inl tx))), (a4, .inl (cI, 150, .inl ln))] := hD
    refine lv_aload_n hx hb dX0_set_46 rfl (lv_at hl 1 rfl) ?_
    refine va_get (D := (dC, dI)) (ci := 0) (v := .ref a3) (C := RX0) (T := TX0) (N := 5) hx hb hts i_X0_set_X0 hown hK hP 0 rfl rfl 2 (by decide) (hts (.fieldLink RX0 19 "BlockTree$Rows" "texts" "[J") (by decide +kernel)) (fun _ h9 => h9) rfl dX0_set_47 ?_
    refine lv_iload hx hb dX0_set_50 (lv_at hl 0 rfl) ?_
    refine lv_lload hx hb dX0_set_52 (lv_at hl 4 rfl) ?_
    refine va_last hx hb hK hP hD hS 3 0 rfl rfl (vp_in_nI (by omega) (by omega)) dX0_set_54 (fun H locs hP hD hS => ?_)
    rw [show ((nI j)).toNatClampNeg = j from (nI_clamp (by omega))] at hP hD
    replace hP : va_P (dC, dI) vwCl [(r, .inr (0, [.ref a1, .ref a2, .ref a3, .ref a4, .int (nI u)])), (a1, .inl (cL, 150, .inr (.inl (vp_updL hd j h)))), (a2, .inl (cI, 150, .inl (upd sz j t))), (a3, .inl (cL, 150, .inr (.inl (vp_updL tx j x)))), (a4, .inl (cI, 150, .inl ln))] H := hP
    replace hD : va_D A [(r, .inr (0, [.ref a1, .ref a2, .ref a3, .ref a4, .int (nI u)])), (a1, .inl (cL, 150, .inr (.inl (vp_updL hd j h)))), (a2, .inl (cI, 150, .inl (upd sz j t))), (a3, .inl (cL, 150, .inr (.inl (vp_updL tx j x)))), (a4, .inl (cI, 150, .inl ln))] := hD
    refine lv_aload_n hx hb dX0_set_55 rfl (lv_at hl 1 rfl) ?_
    refine va_get (D := (dC, dI)) (ci := 0) (v := .ref a4) (C := RX0) (T := TX0) (N := 5) hx hb hts i_X0_set_X0 hown hK hP 0 rfl rfl 3 (by decide) (hts (.fieldLink RX0 22 "BlockTree$Rows" "lengths" "[I") (by decide +kernel)) (fun _ h9 => h9) rfl dX0_set_56 ?_
    refine lv_iload hx hb dX0_set_59 (lv_at hl 0 rfl) ?_
    refine lv_iload hx hb dX0_set_61 (lv_at hl 5 rfl) ?_
    refine va_iast hx hb hK hP hD hS 4 1 rfl rfl (vp_in_nI (by omega) (by omega)) dX0_set_63 (fun H locs hP hD hS => ?_)
    rw [show ((nI j)).toNatClampNeg = j from (nI_clamp (by omega))] at hP hD
    replace hP : va_P (dC, dI) vwCl [(r, .inr (0, [.ref a1, .ref a2, .ref a3, .ref a4, .int (nI u)])), (a1, .inl (cL, 150, .inr (.inl (vp_updL hd j h)))), (a2, .inl (cI, 150, .inl (upd sz j t))), (a3, .inl (cL, 150, .inr (.inl (vp_updL tx j x)))), (a4, .inl (cI, 150, .inl (upd ln j n)))] H := hP
    replace hD : va_D A [(r, .inr (0, [.ref a1, .ref a2, .ref a3, .ref a4, .int (nI u)])), (a1, .inl (cL, 150, .inr (.inl (vp_updL hd j h)))), (a2, .inl (cI, 150, .inl (upd sz j t))), (a3, .inl (cL, 150, .inr (.inl (vp_updL tx j x)))), (a4, .inl (cI, 150, .inl (upd ln j n)))] := hD
    refine lv_iconst (v := 1) hx hb dX0_set_64 (by decide) ?_
    exact W.zret (v := 1) hx hb hr (by first | rfl | decide +kernel | assumption) (fun t9 ht hW => ⟨⟨1, rs_put (u, hd, sz, tx, ln) j h t x n, rfl, Or.inl ⟨hh, rfl, rfl⟩, by rw [ht]; exact hP, hD⟩, hS.F ht⟩) hS.2.2 dX0_set_65
  · skip
    have hh : ¬ hld u hd sz j h t := fun q => hno ⟨j, q.1, rfl, q.2.1, q.2.2⟩
    refine lv_if_ne (tgt := 30) hx hb dX0_set_16 (by decide) (fun c_16 => absurd c_16 (by decide)) (fun c_16 => ?_)
    refine lv_aload_n hx hb dX0_set_19 rfl (lv_at hl 1 rfl) ?_
    refine lv_iload hx hb dX0_set_20 (lv_at hl 0 rfl) ?_
    refine wr_calli (wr := []) (va_runV (As := [.int (nI j)]) (rest := []) ⟨hx, hb, hml, hown, hts⟩ (c_makeRoom l dC dI _ cL cI r a1 a2 a3 a4 u hd sz tx ln hu j hju) (cwV 1 hts gX0_set_X0_makeRoom rfl rfl rfl (by decide +kernel) ⟨Nat.le_of_ble_eq_true rfl, Nat.le_of_ble_eq_true rfl⟩) (wr_preV hK (hP.sub (ws' := [(r, .inr (0, [.ref a1, .ref a2, .ref a3, .ref a4, .int (nI u)])), (a1, .inl (cL, 150, .inr (.inl hd))), (a2, .inl (cI, 150, .inl sz)), (a3, .inl (cL, 150, .inr (.inl tx))), (a4, .inl (cI, 150, .inl ln))]) [0, 1, 2, 3, 4] rfl) (hD.sub (ws' := [(r, .inr (0, [.ref a1, .ref a2, .ref a3, .ref a4, .int (nI u)])), (a1, .inl (cL, 150, .inr (.inl hd))), (a2, .inl (cI, 150, .inl sz)), (a3, .inl (cL, 150, .inr (.inl tx))), (a4, .inl (cI, 150, .inl ln))]) [0, 1, 2, 3, 4] (by decide) rfl) (ci := 0) (q0 := 0) rfl rfl) rfl rfl hl.1 rfl (lv_room (Nat.le_of_ble_eq_true rfl)) dX0_set_22 ⟨Nat.le_of_ble_eq_true rfl, Nat.le_of_ble_eq_true rfl⟩) hP hD hS hA [0, 1, 2, 3, 4] [] rfl rfl (by decide) (by decide) (fun r3 u_ H locs hr3 hP hD hS => ?_)
    replace hP := hP.sub (ws' := [(r, .inr (0, [.ref a1, .ref a2, .ref a3, .ref a4, .int (nI u_.1)])), (a1, .inl (cL, 150, .inr (.inl u_.2.1))), (a2, .inl (cI, 150, .inl u_.2.2.1)), (a3, .inl (cL, 150, .inr (.inl u_.2.2.2.1))), (a4, .inl (cI, 150, .inl u_.2.2.2.2))]) [0, 1, 2, 3, 4] rfl
    replace hD := hD.sub (ws' := [(r, .inr (0, [.ref a1, .ref a2, .ref a3, .ref a4, .int (nI u_.1)])), (a1, .inl (cL, 150, .inr (.inl u_.2.1))), (a2, .inl (cI, 150, .inl u_.2.2.1)), (a3, .inl (cL, 150, .inr (.inl u_.2.2.2.1))), (a4, .inl (cI, 150, .inl u_.2.2.2.2))]) [0, 1, 2, 3, 4] (by decide) rfl
    rcases hr3 with ⟨hlt, rfl, rfl⟩ | ⟨hlt, rfl, rfl⟩
    · skip
      have hj150 : j < 150 := by omega
      replace hP : va_P (dC, dI) vwCl [(r, .inr (0, [.ref a1, .ref a2, .ref a3, .ref a4, .int (nI (u + 1))])), (a1, .inl (cL, 150, .inr (.inl (opn hd j u)))), (a2, .inl (cI, 150, .inl (opn sz j u))), (a3, .inl (cL, 150, .inr (.inl (opn tx j u)))), (a4, .inl (cI, 150, .inl (opn ln j u)))] H := hP
      replace hD : va_D A [(r, .inr (0, [.ref a1, .ref a2, .ref a3, .ref a4, .int (nI (u + 1))])), (a1, .inl (cL, 150, .inr (.inl (opn hd j u)))), (a2, .inl (cI, 150, .inl (opn sz j u))), (a3, .inl (cL, 150, .inr (.inl (opn tx j u)))), (a4, .inl (cI, 150, .inl (opn ln j u)))] := hD
      refine lv_if_ne (tgt := 30) hx hb dX0_set_25 (by decide) (fun c_25 => ?_) (fun c_25 => absurd c_25 (by decide))
      refine lv_aload_n hx hb dX0_set_30 rfl (lv_at hl 1 rfl) ?_
      refine va_get (D := (dC, dI)) (ci := 0) (v := .ref a1) (C := RX0) (T := TX0) (N := 5) hx hb hts i_X0_set_X0 hown hK hP 0 rfl rfl 0 (by decide) (hts (.fieldLink RX0 9 "BlockTree$Rows" "heads" "[J") (by decide +kernel)) (fun _ h9 => h9) rfl dX0_set_31 ?_
      refine lv_iload hx hb dX0_set_34 (lv_at hl 0 rfl) ?_
      refine lv_lload_n hx hb dX0_set_36 rfl (lv_at hl 2 rfl) ?_
      refine va_last hx hb hK hP hD hS 1 0 rfl rfl (vp_in_nI (by omega) (by omega)) dX0_set_37 (fun H locs hP hD hS => ?_)
      rw [show ((nI j)).toNatClampNeg = j from (nI_clamp (by omega))] at hP hD
      replace hP : va_P (dC, dI) vwCl [(r, .inr (0, [.ref a1, .ref a2, .ref a3, .ref a4, .int (nI (u + 1))])), (a1, .inl (cL, 150, .inr (.inl (vp_updL (opn hd j u) j h)))), (a2, .inl (cI, 150, .inl (opn sz j u))), (a3, .inl (cL, 150, .inr (.inl (opn tx j u)))), (a4, .inl (cI, 150, .inl (opn ln j u)))] H := hP
      replace hD : va_D A [(r, .inr (0, [.ref a1, .ref a2, .ref a3, .ref a4, .int (nI (u + 1))])), (a1, .inl (cL, 150, .inr (.inl (vp_updL (opn hd j u) j h)))), (a2, .inl (cI, 150, .inl (opn sz j u))), (a3, .inl (cL, 150, .inr (.inl (opn tx j u)))), (a4, .inl (cI, 150, .inl (opn ln j u)))] := hD
      refine lv_aload_n hx hb dX0_set_38 rfl (lv_at hl 1 rfl) ?_
      refine va_get (D := (dC, dI)) (ci := 0) (v := .ref a2) (C := RX0) (T := TX0) (N := 5) hx hb hts i_X0_set_X0 hown hK hP 0 rfl rfl 1 (by decide) (hts (.fieldLink RX0 15 "BlockTree$Rows" "sizes" "[I") (by decide +kernel)) (fun _ h9 => h9) rfl dX0_set_39 ?_
      refine lv_iload hx hb dX0_set_42 (lv_at hl 0 rfl) ?_
      refine lv_iload_n hx hb dX0_set_44 rfl (lv_at hl 3 rfl) ?_
      refine va_iast hx hb hK hP hD hS 2 1 rfl rfl (vp_in_nI (by omega) (by omega)) dX0_set_45 (fun H locs hP hD hS => ?_)
      rw [show ((nI j)).toNatClampNeg = j from (nI_clamp (by omega))] at hP hD
      replace hP : va_P (dC, dI) vwCl [(r, .inr (0, [.ref a1, .ref a2, .ref a3, .ref a4, .int (nI (u + 1))])), (a1, .inl (cL, 150, .inr (.inl (vp_updL (opn hd j u) j h)))), (a2, .inl (cI, 150, .inl (upd (opn sz j u) j t))), (a3, .inl (cL, 150, .inr (.inl (opn tx j u)))), (a4, .inl (cI, 150, .inl (opn ln j u)))] H := hP
      replace hD : va_D A [(r, .inr (0, [.ref a1, .ref a2, .ref a3, .ref a4, .int (nI (u + 1))])), (a1, .inl (cL, 150, .inr (.inl (vp_updL (opn hd j u) j h)))), (a2, .inl (cI, 150, .inl (upd (opn sz j u) j t))), (a3, .inl (cL, 150, .inr (.inl (opn tx j u)))), (a4, .inl (cI, 150, .inl (opn ln j u)))] := hD
      refine lv_aload_n hx hb dX0_set_46 rfl (lv_at hl 1 rfl) ?_
      refine va_get (D := (dC, dI)) (ci := 0) (v := .ref a3) (C := RX0) (T := TX0) (N := 5) hx hb hts i_X0_set_X0 hown hK hP 0 rfl rfl 2 (by decide) (hts (.fieldLink RX0 19 "BlockTree$Rows" "texts" "[J") (by decide +kernel)) (fun _ h9 => h9) rfl dX0_set_47 ?_
      refine lv_iload hx hb dX0_set_50 (lv_at hl 0 rfl) ?_
      refine lv_lload hx hb dX0_set_52 (lv_at hl 4 rfl) ?_
      refine va_last hx hb hK hP hD hS 3 0 rfl rfl (vp_in_nI (by omega) (by omega)) dX0_set_54 (fun H locs hP hD hS => ?_)
      rw [show ((nI j)).toNatClampNeg = j from (nI_clamp (by omega))] at hP hD
      replace hP : va_P (dC, dI) vwCl [(r, .inr (0, [.ref a1, .ref a2, .ref a3, .ref a4, .int (nI (u + 1))])), (a1, .inl (cL, 150, .inr (.inl (vp_updL (opn hd j u) j h)))), (a2, .inl (cI, 150, .inl (upd (opn sz j u) j t))), (a3, .inl (cL, 150, .inr (.inl (vp_updL (opn tx j u) j x)))), (a4, .inl (cI, 150, .inl (opn ln j u)))] H := hP
      replace hD : va_D A [(r, .inr (0, [.ref a1, .ref a2, .ref a3, .ref a4, .int (nI (u + 1))])), (a1, .inl (cL, 150, .inr (.inl (vp_updL (opn hd j u) j h)))), (a2, .inl (cI, 150, .inl (upd (opn sz j u) j t))), (a3, .inl (cL, 150, .inr (.inl (vp_updL (opn tx j u) j x)))), (a4, .inl (cI, 150, .inl (opn ln j u)))] := hD
      refine lv_aload_n hx hb dX0_set_55 rfl (lv_at hl 1 rfl) ?_
      refine va_get (D := (dC, dI)) (ci := 0) (v := .ref a4) (C := RX0) (T := TX0) (N := 5) hx hb hts i_X0_set_X0 hown hK hP 0 rfl rfl 3 (by decide) (hts (.fieldLink RX0 22 "BlockTree$Rows" "lengths" "[I") (by decide +kernel)) (fun _ h9 => h9) rfl dX0_set_56 ?_
      refine lv_iload hx hb dX0_set_59 (lv_at hl 0 rfl) ?_
      refine lv_iload hx hb dX0_set_61 (lv_at hl 5 rfl) ?_
      refine va_iast hx hb hK hP hD hS 4 1 rfl rfl (vp_in_nI (by omega) (by omega)) dX0_set_63 (fun H locs hP hD hS => ?_)
      rw [show ((nI j)).toNatClampNeg = j from (nI_clamp (by omega))] at hP hD
      replace hP : va_P (dC, dI) vwCl [(r, .inr (0, [.ref a1, .ref a2, .ref a3, .ref a4, .int (nI (u + 1))])), (a1, .inl (cL, 150, .inr (.inl (vp_updL (opn hd j u) j h)))), (a2, .inl (cI, 150, .inl (upd (opn sz j u) j t))), (a3, .inl (cL, 150, .inr (.inl (vp_updL (opn tx j u) j x)))), (a4, .inl (cI, 150, .inl (upd (opn ln j u) j n)))] H := hP
      replace hD : va_D A [(r, .inr (0, [.ref a1, .ref a2, .ref a3, .ref a4, .int (nI (u + 1))])), (a1, .inl (cL, 150, .inr (.inl (vp_updL (opn hd j u) j h)))), (a2, .inl (cI, 150, .inl (upd (opn sz j u) j t))), (a3, .inl (cL, 150, .inr (.inl (vp_updL (opn tx j u) j x)))), (a4, .inl (cI, 150, .inl (upd (opn ln j u) j n)))] := hD
      refine lv_iconst (v := 1) hx hb dX0_set_64 (by decide) ?_
      exact W.zret (v := 1) hx hb hr (by first | rfl | decide +kernel | assumption) (fun t9 ht hW => ⟨⟨1, rs_put (rs_opn (u, hd, sz, tx, ln) j) j h t x n, rfl, Or.inr (Or.inl ⟨hh, hlt, rfl, rfl⟩), by rw [ht]; exact hP, hD⟩, hS.F ht⟩) hS.2.2 dX0_set_65
    · skip
      replace hP : va_P (dC, dI) vwCl [(r, .inr (0, [.ref a1, .ref a2, .ref a3, .ref a4, .int (nI u)])), (a1, .inl (cL, 150, .inr (.inl hd))), (a2, .inl (cI, 150, .inl sz)), (a3, .inl (cL, 150, .inr (.inl tx))), (a4, .inl (cI, 150, .inl ln))] H := hP
      replace hD : va_D A [(r, .inr (0, [.ref a1, .ref a2, .ref a3, .ref a4, .int (nI u)])), (a1, .inl (cL, 150, .inr (.inl hd))), (a2, .inl (cI, 150, .inl sz)), (a3, .inl (cL, 150, .inr (.inl tx))), (a4, .inl (cI, 150, .inl ln))] := hD
      refine lv_if_ne (tgt := 30) hx hb dX0_set_25 (by decide) (fun c_25 => absurd c_25 (by decide)) (fun c_25 => ?_)
      refine lv_iconst (v := 0) hx hb dX0_set_28 (by decide) ?_
      exact W.zret (v := 0) hx hb hr (by first | rfl | decide +kernel | assumption) (fun t9 ht hW => ⟨⟨0, (u, hd, sz, tx, ln), rfl, Or.inr (Or.inr ⟨hh, hlt, rfl, rfl⟩), by rw [ht]; exact hP, hD⟩, hS.F ht⟩) hS.2.2 dX0_set_29
