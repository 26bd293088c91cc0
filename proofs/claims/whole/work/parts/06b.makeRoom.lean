set_option maxHeartbeats 4000000 in
set_option maxRecDepth 100000 in
/-- makeRoom -/
theorem c_makeRoom (l : Launch) (dC : Nat → ClassId) (dI : Nat → Nat → Nat) (hz : Nat) (cL cI : ClassId) (r a1 a2 a3 a4 : Nat) (u : Nat) (hd : Nat → Int64) (sz : Nat → Int32) (tx : Nat → Int64) (ln : Nat → Int32) (hu : u ≤ 150) (j : Nat) (hj : j ≤ u) : Met l yX0_makeRoom wsX0_makeRoom ({ frames := 2, cells := 0, slots := 0, locals := 49 }) (wrP (dC, dI) (kS cL cI) (rW cL cI r a1 a2 a3 a4 (u, hd, sz, tx, ln)) [.ref r, .int (nI j)] hz) (va_Qi (fun (z : Int32) (v : RS) => (u < 150 ∧ z = 1 ∧ v = rs_opn (u, hd, sz, tx, ln) j) ∨ (¬ u < 150 ∧ z = 0 ∧ v = (u, hd, sz, tx, ln))) (wrB (dC, dI) (va_A (rW cL cI r a1 a2 a3 a4 (u, hd, sz, tx, ln)) hz) (fun (v : RS) => rW cL cI r a1 a2 a3 a4 v)) (va_A (rW cL cI r a1 a2 a3 a4 (u, hd, sz, tx, ln)) hz)) 0 0 (va_A (rW cL cI r a1 a2 a3 a4 (u, hd, sz, tx, ln)) hz) := by
  refine Met.ofW (cc := cX0_makeRoom) (maxL := 2) (ret := some .boolean) (by decide) rfl ?_
  intro p e s m args below meth c s₁ B hml hv
  obtain ⟨rfl, hsz, hP, hK, hD0⟩ := hv
  have hx := B.exec
  have hb := B.bytes
  have hr := B.returns
  have hts := atoms_spec (ws := wsX0_makeRoom) B.pre
  have hown : s.vm.findClass RX0 = some m.cls := findClass_of_methodNamed B.named
  have hlocks := B.notSynchronized
  subst hsz
  have hD := hD0.self (sz := s.heap.size)
  generalize hAe : va_A (rW cL cI r a1 a2 a3 a4 (u, hd, sz, tx, ln)) s.heap.size = A at hD ⊢
  have hA : ∀ q : Nat, s.heap.size ≤ q → A q := fun q h => by rw [← hAe]; exact Or.inr h
  have hS : va_S A s.heap s.heap [] := va_S.rf
  replace hP : va_P (dC, dI) vwCl [(r, .inr (0, [.ref a1, .ref a2, .ref a3, .ref a4, .int (nI u)])), (a1, .inl (cL, 150, .inr (.inl hd))), (a2, .inl (cI, 150, .inl sz)), (a3, .inl (cL, 150, .inr (.inl tx))), (a4, .inl (cI, 150, .inl ln))] s.heap := hP
  replace hD : va_D A [(r, .inr (0, [.ref a1, .ref a2, .ref a3, .ref a4, .int (nI u)])), (a1, .inl (cL, 150, .inr (.inl hd))), (a2, .inl (cI, 150, .inl sz)), (a3, .inl (cL, 150, .inr (.inl tx))), (a4, .inl (cI, 150, .inl ln))] := hD
  have hl := lv_entry ([.ref r, .int (nI j)]) (n := 2) (Nat.le_of_ble_eq_true rfl)
  rw [lg_entry_eq]
  generalize (lg_sl ([.ref r, .int (nI j)]) ++ List.replicate (2 - (lg_sl ([.ref r, .int (nI j)])).length) Slot.unset).toArray = ls at hl ⊢
  replace hl : lv_has ls 2 [(0, .ref r), (1, .int (nI j))] := hl
  refine lv_aload_n hx hb dX0_makeRoom_0 rfl (lv_at hl 0 rfl) ?_
  refine va_get (D := (dC, dI)) (ci := 0) (v := .int (nI u)) (C := RX0) (T := TX0) (N := 5) hx hb hts i_X0_makeRoom_X0 hown hK hP 0 rfl rfl 4 (by decide) (hts (.fieldLink RX0 25 "BlockTree$Rows" "used" "I") (by decide +kernel)) (fun _ h9 => h9) rfl dX0_makeRoom_1 ?_
  refine lv_sipush (v := 150) hx hb dX0_makeRoom_4 (by decide) ?_
  refine lv_icmp_ge (tgt := 22) hx hb dX0_makeRoom_7 (by decide) (fun c_7 => ?_) (fun c_7 => ?_)
  · skip
    have c_7 : ¬ u < 150 := fun q => nI_ge q (by decide) c_7
    refine lv_iconst (v := 0) hx hb dX0_makeRoom_22 (by decide) ?_
    exact W.zret (v := 0) hx hb hr (by first | rfl | decide +kernel | assumption) (fun t9 ht hW => ⟨⟨0, (u, hd, sz, tx, ln), rfl, Or.inr ⟨c_7, rfl, rfl⟩, by rw [ht]; exact hP, hD⟩, hS.F ht⟩) hS.2.2 dX0_makeRoom_23
  · skip
    have c_7 : u < 150 := by
      rcases Nat.lt_or_ge u 150 with q | q
      · exact q
      · exact absurd (nI_le q (by omega)) c_7
    refine lv_iload_n hx hb dX0_makeRoom_10 rfl (lv_at hl 1 rfl) ?_
    refine lv_if_lt (tgt := 22) hx hb dX0_makeRoom_11 (by decide) (fun c_11 => absurd c_11 (nI_pos (by omega))) (fun c_11 => ?_)
    refine lv_iload_n hx hb dX0_makeRoom_14 rfl (lv_at hl 1 rfl) ?_
    refine lv_aload_n hx hb dX0_makeRoom_15 rfl (lv_at hl 0 rfl) ?_
    refine va_get (D := (dC, dI)) (ci := 0) (v := .int (nI u)) (C := RX0) (T := TX0) (N := 5) hx hb hts i_X0_makeRoom_X0 hown hK hP 0 rfl rfl 4 (by decide) (hts (.fieldLink RX0 25 "BlockTree$Rows" "used" "I") (by decide +kernel)) (fun _ h9 => h9) rfl dX0_makeRoom_16 ?_
    refine lv_icmp_le (tgt := 24) hx hb dX0_makeRoom_19 (by decide) (fun c_19 => ?_) (fun c_19 => absurd (nI_le hj (by omega)) c_19)
    refine lv_aload_n hx hb dX0_makeRoom_24 rfl (lv_at hl 0 rfl) ?_
    refine lv_iload_n hx hb dX0_makeRoom_25 rfl (lv_at hl 1 rfl) ?_
    refine lv_iload_n hx hb dX0_makeRoom_26 rfl (lv_at hl 1 rfl) ?_
    refine lv_iconst (v := 1) hx hb dX0_makeRoom_27 (by decide) ?_
    refine lv_iadd hx hb dX0_makeRoom_28 ?_
    refine lv_topi (fun z_1 ez_1 => ?_)
    obtain rfl : z_1 = nI (j + 1) := ez_1.trans (nI_1 j)
    refine lv_aload_n hx hb dX0_makeRoom_29 rfl (lv_at hl 0 rfl) ?_
    refine va_get (D := (dC, dI)) (ci := 0) (v := .int (nI u)) (C := RX0) (T := TX0) (N := 5) hx hb hts i_X0_makeRoom_X0 hown hK hP 0 rfl rfl 4 (by decide) (hts (.fieldLink RX0 25 "BlockTree$Rows" "used" "I") (by decide +kernel)) (fun _ h9 => h9) rfl dX0_makeRoom_30 ?_
    refine lv_iload_n hx hb dX0_makeRoom_33 rfl (lv_at hl 1 rfl) ?_
    refine lv_isub hx hb dX0_makeRoom_34 ?_
    refine lv_topi (fun z_2 ez_2 => ?_)
    obtain rfl : z_2 = nI (u - j) := ez_2.trans (pk_sub hj)
    refine wr_callv (wr := []) (va_runV (As := [.int (nI j), .int (nI (j + 1)), .int (nI (u - j))]) (rest := []) ⟨hx, hb, hml, hown, hts⟩ (c_move l dC dI _ cL cI r a1 a2 a3 a4 u hd sz tx ln j (j + 1) (u - j) (by omega) (by omega)) (cwV 3 hts gX0_makeRoom_X0_move rfl rfl rfl (by decide +kernel) ⟨Nat.le_of_ble_eq_true rfl, Nat.le_of_ble_eq_true rfl⟩) (wr_preV hK (hP.sub (ws' := [(r, .inr (0, [.ref a1, .ref a2, .ref a3, .ref a4, .int (nI u)])), (a1, .inl (cL, 150, .inr (.inl hd))), (a2, .inl (cI, 150, .inl sz)), (a3, .inl (cL, 150, .inr (.inl tx))), (a4, .inl (cI, 150, .inl ln))]) [0, 1, 2, 3, 4] rfl) (hD.sub (ws' := [(r, .inr (0, [.ref a1, .ref a2, .ref a3, .ref a4, .int (nI u)])), (a1, .inl (cL, 150, .inr (.inl hd))), (a2, .inl (cI, 150, .inl sz)), (a3, .inl (cL, 150, .inr (.inl tx))), (a4, .inl (cI, 150, .inl ln))]) [0, 1, 2, 3, 4] (by decide) rfl) (ci := 0) (q0 := 0) rfl rfl) rfl rfl hl.1 rfl (lv_room (Nat.le_of_ble_eq_true rfl)) dX0_makeRoom_35 ⟨Nat.le_of_ble_eq_true rfl, Nat.le_of_ble_eq_true rfl⟩) hP hD hS hA [0, 1, 2, 3, 4] [] rfl rfl (by decide) (by decide) (fun u_ H locs hrm hP hD hS => ?_)
    subst hrm
    replace hP := hP.sub (ws' := [(r, .inr (0, [.ref a1, .ref a2, .ref a3, .ref a4, .int (nI u)])), (a1, .inl (cL, 150, .inr (.inl (opn hd j u)))), (a2, .inl (cI, 150, .inl (opn sz j u))), (a3, .inl (cL, 150, .inr (.inl (opn tx j u)))), (a4, .inl (cI, 150, .inl (opn ln j u)))]) [0, 1, 2, 3, 4] rfl
    replace hD := hD.sub (ws' := [(r, .inr (0, [.ref a1, .ref a2, .ref a3, .ref a4, .int (nI u)])), (a1, .inl (cL, 150, .inr (.inl (opn hd j u)))), (a2, .inl (cI, 150, .inl (opn sz j u))), (a3, .inl (cL, 150, .inr (.inl (opn tx j u)))), (a4, .inl (cI, 150, .inl (opn ln j u)))]) [0, 1, 2, 3, 4] (by decide) rfl
    refine lv_aload_n hx hb dX0_makeRoom_38 rfl (lv_at hl 0 rfl) ?_
    refine lv_dup hx hb dX0_makeRoom_39 rfl ?_
    refine va_get (D := (dC, dI)) (ci := 0) (v := .int (nI u)) (C := RX0) (T := TX0) (N := 5) hx hb hts i_X0_makeRoom_X0 hown hK hP 0 rfl rfl 4 (by decide) (hts (.fieldLink RX0 25 "BlockTree$Rows" "used" "I") (by decide +kernel)) (fun _ h9 => h9) rfl dX0_makeRoom_40 ?_
    refine lv_iconst (v := 1) hx hb dX0_makeRoom_43 (by decide) ?_
    refine lv_iadd hx hb dX0_makeRoom_44 ?_
    refine lv_topi (fun z_3 ez_3 => ?_)
    obtain rfl : z_3 = nI (u + 1) := ez_3.trans (nI_1 u)
    refine va_put (D := (dC, dI)) (ci := 0) (v := .int (nI (u + 1))) (ty := .int) (C := RX0) (T := TX0) (N := 5) hx hb hts i_X0_makeRoom_X0 tyX0 tyX0_ok nmX0 hown hK hP hD hS 0 rfl rfl 4 (by decide) (hts (.fieldLink RX0 25 "BlockTree$Rows" "used" "I") (by decide +kernel)) (fun _ h9 => h9) rfl (by decide +kernel) rfl rfl (Nat.le_of_ble_eq_true rfl) dX0_makeRoom_45 (fun H locs hP hD hS => ?_)
    replace hP : va_P (dC, dI) vwCl [(r, .inr (0, [.ref a1, .ref a2, .ref a3, .ref a4, .int (nI (u + 1))])), (a1, .inl (cL, 150, .inr (.inl (opn hd j u)))), (a2, .inl (cI, 150, .inl (opn sz j u))), (a3, .inl (cL, 150, .inr (.inl (opn tx j u)))), (a4, .inl (cI, 150, .inl (opn ln j u)))] H := hP
    replace hD : va_D A [(r, .inr (0, [.ref a1, .ref a2, .ref a3, .ref a4, .int (nI (u + 1))])), (a1, .inl (cL, 150, .inr (.inl (opn hd j u)))), (a2, .inl (cI, 150, .inl (opn sz j u))), (a3, .inl (cL, 150, .inr (.inl (opn tx j u)))), (a4, .inl (cI, 150, .inl (opn ln j u)))] := hD
    refine lv_iconst (v := 1) hx hb dX0_makeRoom_48 (by decide) ?_
    exact W.zret (v := 1) hx hb hr (by first | rfl | decide +kernel | assumption) (fun t9 ht hW => ⟨⟨1, rs_opn (u, hd, sz, tx, ln) j, rfl, Or.inl ⟨c_7, rfl, rfl⟩, by rw [ht]; exact hP, hD⟩, hS.F ht⟩) hS.2.2 dX0_makeRoom_49
set_option maxHeartbeats 4000000 in
set_option maxRecDepth 100000 in
/-- drop -/
theorem c_drop (l : Launch) (dC : Nat → ClassId) (dI : Nat → Nat → Nat) (hz : Nat) (cL cI : ClassId) (r a1 a2 a3 a4 : Nat) (u : Nat) (hd : Nat → Int64) (sz : Nat → Int32) (tx : Nat → Int64) (ln : Nat → Int32) (hu : u ≤ 150) (j : Nat) (hj : j < u) : Met l yX0_drop wsX0_drop ({ frames := 2, cells := 0, slots := 0, locals := 49 }) (wrP (dC, dI) (kS cL cI) (rW cL cI r a1 a2 a3 a4 (u, hd, sz, tx, ln)) [.ref r, .int (nI j)] hz) (va_Qv (fun (v : RS) => v = rs_clo (u, hd, sz, tx, ln) j) (wrB (dC, dI) (va_A (rW cL cI r a1 a2 a3 a4 (u, hd, sz, tx, ln)) hz) (fun (v : RS) => rW cL cI r a1 a2 a3 a4 v)) (va_A (rW cL cI r a1 a2 a3 a4 (u, hd, sz, tx, ln)) hz)) 0 0 (va_A (rW cL cI r a1 a2 a3 a4 (u, hd, sz, tx, ln)) hz) := by
  refine Met.ofW (cc := cX0_drop) (maxL := 2) (ret := none) (by decide) rfl ?_
  intro p e s m args below meth c s₁ B hml hv
  obtain ⟨rfl, hsz, hP, hK, hD0⟩ := hv
  have hx := B.exec
  have hb := B.bytes
  have hr := B.returns
  have hts := atoms_spec (ws := wsX0_drop) B.pre
  have hown : s.vm.findClass RX0 = some m.cls := findClass_of_methodNamed B.named
  have hlocks := B.notSynchronized
  subst hsz
  have hD := hD0.self (sz := s.heap.size)
  generalize hAe : va_A (rW cL cI r a1 a2 a3 a4 (u, hd, sz, tx, ln)) s.heap.size = A at hD ⊢
  have hA : ∀ q : Nat, s.heap.size ≤ q → A q := fun q h => by rw [← hAe]; exact Or.inr h
  have hS : va_S A s.heap s.heap [] := va_S.rf
  replace hP : va_P (dC, dI) vwCl [(r, .inr (0, [.ref a1, .ref a2, .ref a3, .ref a4, .int (nI u)])), (a1, .inl (cL, 150, .inr (.inl hd))), (a2, .inl (cI, 150, .inl sz)), (a3, .inl (cL, 150, .inr (.inl tx))), (a4, .inl (cI, 150, .inl ln))] s.heap := hP
  replace hD : va_D A [(r, .inr (0, [.ref a1, .ref a2, .ref a3, .ref a4, .int (nI u)])), (a1, .inl (cL, 150, .inr (.inl hd))), (a2, .inl (cI, 150, .inl sz)), (a3, .inl (cL, 150, .inr (.inl tx))), (a4, .inl (cI, 150, .inl ln))] := hD
  have hl := lv_entry ([.ref r, .int (nI j)]) (n := 2) (Nat.le_of_ble_eq_true rfl)
  rw [lg_entry_eq]
  generalize (lg_sl ([.ref r, .int (nI j)]) ++ List.replicate (2 - (lg_sl ([.ref r, .int (nI j)])).length) Slot.unset).toArray = ls at hl ⊢
  replace hl : lv_has ls 2 [(0, .ref r), (1, .int (nI j))] := hl
  refine lv_aload_n hx hb dX0_drop_0 rfl (lv_at hl 0 rfl) ?_
  refine lv_iload_n hx hb dX0_drop_1 rfl (lv_at hl 1 rfl) ?_
  refine vp_callSi (va_Run.run (va_runV (As := [.int (nI j)]) (rest := []) ⟨hx, hb, hml, hown, hts⟩ (c_has l dC dI cL cI r a1 a2 a3 a4 u hu (nI j)) (cwV 1 hts gX0_drop_X0_has rfl rfl rfl (by decide +kernel) ⟨Nat.le_of_ble_eq_true rfl, Nat.le_of_ble_eq_true rfl⟩) (rd_preV hK (hP.sub (ws' := [(r, .inr (0, [.ref a1, .ref a2, .ref a3, .ref a4, .int (nI u)]))]) [0] rfl) (ci := 0) (q0 := 0) rfl rfl) rfl rfl hl.1 rfl (lv_room (Nat.le_of_ble_eq_true rfl)) dX0_drop_2 ⟨Nat.le_of_ble_eq_true rfl, Nat.le_of_ble_eq_true rfl⟩)) (fun r2 hr2 => ?_)
  rcases hr2 with ⟨rfl, -⟩ | ⟨rfl, hno⟩
  · skip
    refine lv_if_eq (tgt := 34) hx hb dX0_drop_5 (by decide) (fun c_5 => absurd c_5 (by decide)) (fun c_5 => ?_)
    refine lv_aload_n hx hb dX0_drop_8 rfl (lv_at hl 0 rfl) ?_
    refine lv_iload_n hx hb dX0_drop_9 rfl (lv_at hl 1 rfl) ?_
    refine lv_iconst (v := 1) hx hb dX0_drop_10 (by decide) ?_
    refine lv_iadd hx hb dX0_drop_11 ?_
    refine lv_topi (fun z_1 ez_1 => ?_)
    obtain rfl : z_1 = nI (j + 1) := ez_1.trans (nI_1 j)
    refine lv_iload_n hx hb dX0_drop_12 rfl (lv_at hl 1 rfl) ?_
    refine lv_aload_n hx hb dX0_drop_13 rfl (lv_at hl 0 rfl) ?_
    refine va_get (D := (dC, dI)) (ci := 0) (v := .int (nI u)) (C := RX0) (T := TX0) (N := 5) hx hb hts i_X0_drop_X0 hown hK hP 0 rfl rfl 4 (by decide) (hts (.fieldLink RX0 25 "BlockTree$Rows" "used" "I") (by decide +kernel)) (fun _ h9 => h9) rfl dX0_drop_14 ?_
    refine lv_iload_n hx hb dX0_drop_17 rfl (lv_at hl 1 rfl) ?_
    refine lv_isub hx hb dX0_drop_18 ?_
    refine lv_topi (fun z_2 ez_2 => ?_)
    obtain rfl : z_2 = nI (u - j) := ez_2.trans (pk_sub (by omega))
    refine lv_iconst (v := 1) hx hb dX0_drop_19 (by decide) ?_
    refine lv_isub hx hb dX0_drop_20 ?_
    refine lv_topi (fun z_3 ez_3 => ?_)
    obtain rfl : z_3 = nI (u - j - 1) := ez_3.trans (nI_s1 (by omega))
    refine wr_callv (wr := []) (va_runV (As := [.int (nI (j + 1)), .int (nI j), .int (nI (u - j - 1))]) (rest := []) ⟨hx, hb, hml, hown, hts⟩ (c_move l dC dI _ cL cI r a1 a2 a3 a4 u hd sz tx ln (j + 1) j (u - j - 1) (by omega) (by omega)) (cwV 3 hts gX0_drop_X0_move rfl rfl rfl (by decide +kernel) ⟨Nat.le_of_ble_eq_true rfl, Nat.le_of_ble_eq_true rfl⟩) (wr_preV hK (hP.sub (ws' := [(r, .inr (0, [.ref a1, .ref a2, .ref a3, .ref a4, .int (nI u)])), (a1, .inl (cL, 150, .inr (.inl hd))), (a2, .inl (cI, 150, .inl sz)), (a3, .inl (cL, 150, .inr (.inl tx))), (a4, .inl (cI, 150, .inl ln))]) [0, 1, 2, 3, 4] rfl) (hD.sub (ws' := [(r, .inr (0, [.ref a1, .ref a2, .ref a3, .ref a4, .int (nI u)])), (a1, .inl (cL, 150, .inr (.inl hd))), (a2, .inl (cI, 150, .inl sz)), (a3, .inl (cL, 150, .inr (.inl tx))), (a4, .inl (cI, 150, .inl ln))]) [0, 1, 2, 3, 4] (by decide) rfl) (ci := 0) (q0 := 0) rfl rfl) rfl rfl hl.1 rfl (lv_room (Nat.le_of_ble_eq_true rfl)) dX0_drop_21 ⟨Nat.le_of_ble_eq_true rfl, Nat.le_of_ble_eq_true rfl⟩) hP hD hS hA [0, 1, 2, 3, 4] [] rfl rfl (by decide) (by decide) (fun u_ H locs hrm hP hD hS => ?_)
    subst hrm
    replace hP := hP.sub (ws' := [(r, .inr (0, [.ref a1, .ref a2, .ref a3, .ref a4, .int (nI u)])), (a1, .inl (cL, 150, .inr (.inl (clo hd j u)))), (a2, .inl (cI, 150, .inl (clo sz j u))), (a3, .inl (cL, 150, .inr (.inl (clo tx j u)))), (a4, .inl (cI, 150, .inl (clo ln j u)))]) [0, 1, 2, 3, 4] rfl
    replace hD := hD.sub (ws' := [(r, .inr (0, [.ref a1, .ref a2, .ref a3, .ref a4, .int (nI u)])), (a1, .inl (cL, 150, .inr (.inl (clo hd j u)))), (a2, .inl (cI, 150, .inl (clo sz j u))), (a3, .inl (cL, 150, .inr (.inl (clo tx j u)))), (a4, .inl (cI, 150, .inl (clo ln j u)))]) [0, 1, 2, 3, 4] (by decide) rfl
    refine lv_aload_n hx hb dX0_drop_24 rfl (lv_at hl 0 rfl) ?_
    refine lv_dup hx hb dX0_drop_25 rfl ?_
    refine va_get (D := (dC, dI)) (ci := 0) (v := .int (nI u)) (C := RX0) (T := TX0) (N := 5) hx hb hts i_X0_drop_X0 hown hK hP 0 rfl rfl 4 (by decide) (hts (.fieldLink RX0 25 "BlockTree$Rows" "used" "I") (by decide +kernel)) (fun _ h9 => h9) rfl dX0_drop_26 ?_
    refine lv_iconst (v := 1) hx hb dX0_drop_29 (by decide) ?_
    refine lv_isub hx hb dX0_drop_30 ?_
    refine lv_topi (fun z_4 ez_4 => ?_)
    obtain rfl : z_4 = nI (u - 1) := ez_4.trans (nI_s1 (by omega))
    refine va_put (D := (dC, dI)) (ci := 0) (v := .int (nI (u - 1))) (ty := .int) (C := RX0) (T := TX0) (N := 5) hx hb hts i_X0_drop_X0 tyX0 tyX0_ok nmX0 hown hK hP hD hS 0 rfl rfl 4 (by decide) (hts (.fieldLink RX0 25 "BlockTree$Rows" "used" "I") (by decide +kernel)) (fun _ h9 => h9) rfl (by decide +kernel) rfl rfl (Nat.le_of_ble_eq_true rfl) dX0_drop_31 (fun H locs hP hD hS => ?_)
    replace hP : va_P (dC, dI) vwCl [(r, .inr (0, [.ref a1, .ref a2, .ref a3, .ref a4, .int (nI (u - 1))])), (a1, .inl (cL, 150, .inr (.inl (clo hd j u)))), (a2, .inl (cI, 150, .inl (clo sz j u))), (a3, .inl (cL, 150, .inr (.inl (clo tx j u)))), (a4, .inl (cI, 150, .inl (clo ln j u)))] H := hP
    replace hD : va_D A [(r, .inr (0, [.ref a1, .ref a2, .ref a3, .ref a4, .int (nI (u - 1))])), (a1, .inl (cL, 150, .inr (.inl (clo hd j u)))), (a2, .inl (cI, 150, .inl (clo sz j u))), (a3, .inl (cL, 150, .inr (.inl (clo tx j u)))), (a4, .inl (cI, 150, .inl (clo ln j u)))] := hD
    exact W.vret hx hb hr (fun t9 ht hW => ⟨⟨rs_clo (u, hd, sz, tx, ln) j, rfl, rfl, by rw [ht]; exact hP, hD⟩, hS.F ht⟩) hS.2.2 dX0_drop_34
  · skip
    exact absurd ⟨j, hj, rfl⟩ hno
