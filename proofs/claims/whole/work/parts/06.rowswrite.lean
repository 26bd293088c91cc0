/-! ROWS: what writes -/
set_option maxHeartbeats 4000000 in
set_option maxRecDepth 100000 in
/-- move -/
theorem c_move (l : Launch) (dC : Nat → ClassId) (dI : Nat → Nat → Nat) (hz : Nat) (cL cI : ClassId) (r a1 a2 a3 a4 : Nat) (u : Nat) (hd : Nat → Int64) (sz : Nat → Int32) (tx : Nat → Int64) (ln : Nat → Int32) (a b n : Nat) (ha : a + n ≤ 150) (hbn : b + n ≤ 150) : Met l yX0_move wsX0_move ({ frames := 1, cells := 0, slots := 0, locals := 26 }) (wrP (dC, dI) (kS cL cI) (rW cL cI r a1 a2 a3 a4 (u, hd, sz, tx, ln)) [.ref r, .int (nI a), .int (nI b), .int (nI n)] hz) (va_Qv (fun (v : RS) => v = (u, va_cpy hd hd a b n, va_cpy sz sz a b n, va_cpy tx tx a b n, va_cpy ln ln a b n)) (wrB (dC, dI) (va_A (rW cL cI r a1 a2 a3 a4 (u, hd, sz, tx, ln)) hz) (fun (v : RS) => rW cL cI r a1 a2 a3 a4 v)) (va_A (rW cL cI r a1 a2 a3 a4 (u, hd, sz, tx, ln)) hz)) 0 0 (va_A (rW cL cI r a1 a2 a3 a4 (u, hd, sz, tx, ln)) hz) := by
  refine Met.ofW (cc := cX0_move) (maxL := 4) (ret := none) (by decide) rfl ?_
  intro p e s m args below meth c s₁ B hml hv
  obtain ⟨rfl, hsz, hP, hK, hD0⟩ := hv
  have hx := B.exec
  have hb := B.bytes
  have hr := B.returns
  have hts := atoms_spec (ws := wsX0_move) B.pre
  have hown : s.vm.findClass RX0 = some m.cls := findClass_of_methodNamed B.named
  have hlocks := B.notSynchronized
  subst hsz
  have hD := hD0.self (sz := s.heap.size)
  generalize hAe : va_A (rW cL cI r a1 a2 a3 a4 (u, hd, sz, tx, ln)) s.heap.size = A at hD ⊢
  have hA : ∀ q : Nat, s.heap.size ≤ q → A q := fun q h => by rw [← hAe]; exact Or.inr h
  have hS : va_S A s.heap s.heap [] := va_S.rf
  have hP : va_P (dC, dI) vwCl [(r, .inr (0, [.ref a1, .ref a2, .ref a3, .ref a4, .int (nI u)])), (a1, .inl (cL, 150, .inr (.inl hd))), (a2, .inl (cI, 150, .inl sz)), (a3, .inl (cL, 150, .inr (.inl tx))), (a4, .inl (cI, 150, .inl ln))] s.heap := hP
  have hD : va_D A [(r, .inr (0, [.ref a1, .ref a2, .ref a3, .ref a4, .int (nI u)])), (a1, .inl (cL, 150, .inr (.inl hd))), (a2, .inl (cI, 150, .inl sz)), (a3, .inl (cL, 150, .inr (.inl tx))), (a4, .inl (cI, 150, .inl ln))] := hD
  have hl := lv_entry ([.ref r, .int (nI a), .int (nI b), .int (nI n)]) (n := 4) (Nat.le_of_ble_eq_true rfl)
  rw [lg_entry_eq]
  generalize (lg_sl ([.ref r, .int (nI a), .int (nI b), .int (nI n)]) ++ List.replicate (4 - (lg_sl ([.ref r, .int (nI a), .int (nI b), .int (nI n)])).length) Slot.unset).toArray = ls at hl ⊢
  have hl : lv_has ls 4 [(0, .ref r), (1, .int (nI a)), (2, .int (nI b)), (3, .int (nI n))] := hl
  refine lv_aload_n hx hb dX0_move_0 rfl (lv_at hl 0 rfl) ?_
  refine va_get (D := (dC, dI)) (ci := 0) (v := .ref a1) (C := RX0) (T := TX0) (N := 5) hx hb hts i_X0_move_X0 hown hK hP 0 rfl rfl 0 (by decide) (hts (.fieldLink RX0 9 "BlockTree$Rows" "heads" "[J") (by decide +kernel)) (fun _ h9 => h9) rfl dX0_move_1 ?_
  refine lv_iload_n hx hb dX0_move_4 rfl (lv_at hl 1 rfl) ?_
  refine lv_aload_n hx hb dX0_move_5 rfl (lv_at hl 0 rfl) ?_
  refine va_get (D := (dC, dI)) (ci := 0) (v := .ref a1) (C := RX0) (T := TX0) (N := 5) hx hb hts i_X0_move_X0 hown hK hP 0 rfl rfl 0 (by decide) (hts (.fieldLink RX0 9 "BlockTree$Rows" "heads" "[J") (by decide +kernel)) (fun _ h9 => h9) rfl dX0_move_6 ?_
  refine lv_iload_n hx hb dX0_move_9 rfl (lv_at hl 2 rfl) ?_
  refine lv_iload_n hx hb dX0_move_10 rfl (lv_at hl 3 rfl) ?_
  refine va_copyl hx hb (by rw [hml]; exact hl.1.symm) hown (hts (.methodLink RX0 53 arraycopyName) (by decide +kernel)) (hts (.native arraycopyName) (by decide +kernel)) (hts (.static arraycopyName) (by decide +kernel)) (hts (.initialized "java/lang/System") (by decide +kernel)) hK hP hD hS 1 1 0 0 rfl rfl rfl rfl rfl (nI_pos (by omega)) (nI_pos (by omega)) (nI_pos (by omega)) (by rw [nI_clamp (show a < 2 ^ 31 by omega), nI_clamp (show n < 2 ^ 31 by omega)]; omega) (by rw [nI_clamp (show b < 2 ^ 31 by omega), nI_clamp (show n < 2 ^ 31 by omega)]; omega) (fun _ _ => rfl) (Nat.le_of_ble_eq_true rfl) (Nat.le_of_ble_eq_true rfl) dX0_move_11 (fun H locs hP hD hS => ?_)
  rw [nI_clamp (show a < 2 ^ 31 by omega), nI_clamp (show b < 2 ^ 31 by omega), nI_clamp (show n < 2 ^ 31 by omega)] at hP hD
  have hP : va_P (dC, dI) vwCl [(r, .inr (0, [.ref a1, .ref a2, .ref a3, .ref a4, .int (nI u)])), (a1, .inl (cL, 150, .inr (.inl (va_cpy hd hd a b n)))), (a2, .inl (cI, 150, .inl sz)), (a3, .inl (cL, 150, .inr (.inl tx))), (a4, .inl (cI, 150, .inl ln))] H := hP
  have hD : va_D A [(r, .inr (0, [.ref a1, .ref a2, .ref a3, .ref a4, .int (nI u)])), (a1, .inl (cL, 150, .inr (.inl (va_cpy hd hd a b n)))), (a2, .inl (cI, 150, .inl sz)), (a3, .inl (cL, 150, .inr (.inl tx))), (a4, .inl (cI, 150, .inl ln))] := hD
  refine lv_aload_n hx hb dX0_move_14 rfl (lv_at hl 0 rfl) ?_
  refine va_get (D := (dC, dI)) (ci := 0) (v := .ref a2) (C := RX0) (T := TX0) (N := 5) hx hb hts i_X0_move_X0 hown hK hP 0 rfl rfl 1 (by decide) (hts (.fieldLink RX0 15 "BlockTree$Rows" "sizes" "[I") (by decide +kernel)) (fun _ h9 => h9) rfl dX0_move_15 ?_
  refine lv_iload_n hx hb dX0_move_18 rfl (lv_at hl 1 rfl) ?_
  refine lv_aload_n hx hb dX0_move_19 rfl (lv_at hl 0 rfl) ?_
  refine va_get (D := (dC, dI)) (ci := 0) (v := .ref a2) (C := RX0) (T := TX0) (N := 5) hx hb hts i_X0_move_X0 hown hK hP 0 rfl rfl 1 (by decide) (hts (.fieldLink RX0 15 "BlockTree$Rows" "sizes" "[I") (by decide +kernel)) (fun _ h9 => h9) rfl dX0_move_20 ?_
  refine lv_iload_n hx hb dX0_move_23 rfl (lv_at hl 2 rfl) ?_
  refine lv_iload_n hx hb dX0_move_24 rfl (lv_at hl 3 rfl) ?_
  refine va_copyi hx hb (by rw [hml]; exact hl.1.symm) hown (hts (.methodLink RX0 53 arraycopyName) (by decide +kernel)) (hts (.native arraycopyName) (by decide +kernel)) (hts (.static arraycopyName) (by decide +kernel)) (hts (.initialized "java/lang/System") (by decide +kernel)) hK hP hD hS 2 2 1 1 rfl rfl rfl rfl rfl (nI_pos (by omega)) (nI_pos (by omega)) (nI_pos (by omega)) (by rw [nI_clamp (show a < 2 ^ 31 by omega), nI_clamp (show n < 2 ^ 31 by omega)]; omega) (by rw [nI_clamp (show b < 2 ^ 31 by omega), nI_clamp (show n < 2 ^ 31 by omega)]; omega) (fun _ _ => rfl) (Nat.le_of_ble_eq_true rfl) (Nat.le_of_ble_eq_true rfl) dX0_move_25 (fun H locs hP hD hS => ?_)
  rw [nI_clamp (show a < 2 ^ 31 by omega), nI_clamp (show b < 2 ^ 31 by omega), nI_clamp (show n < 2 ^ 31 by omega)] at hP hD
  have hP : va_P (dC, dI) vwCl [(r, .inr (0, [.ref a1, .ref a2, .ref a3, .ref a4, .int (nI u)])), (a1, .inl (cL, 150, .inr (.inl (va_cpy hd hd a b n)))), (a2, .inl (cI, 150, .inl (va_cpy sz sz a b n))), (a3, .inl (cL, 150, .inr (.inl tx))), (a4, .inl (cI, 150, .inl ln))] H := hP
  have hD : va_D A [(r, .inr (0, [.ref a1, .ref a2, .ref a3, .ref a4, .int (nI u)])), (a1, .inl (cL, 150, .inr (.inl (va_cpy hd hd a b n)))), (a2, .inl (cI, 150, .inl (va_cpy sz sz a b n))), (a3, .inl (cL, 150, .inr (.inl tx))), (a4, .inl (cI, 150, .inl ln))] := hD
  refine lv_aload_n hx hb dX0_move_28 rfl (lv_at hl 0 rfl) ?_
  refine va_get (D := (dC, dI)) (ci := 0) (v := .ref a3) (C := RX0) (T := TX0) (N := 5) hx hb hts i_X0_move_X0 hown hK hP 0 rfl rfl 2 (by decide) (hts (.fieldLink RX0 19 "BlockTree$Rows" "texts" "[J") (by decide +kernel)) (fun _ h9 => h9) rfl dX0_move_29 ?_
  refine lv_iload_n hx hb dX0_move_32 rfl (lv_at hl 1 rfl) ?_
  refine lv_aload_n hx hb dX0_move_33 rfl (lv_at hl 0 rfl) ?_
  refine va_get (D := (dC, dI)) (ci := 0) (v := .ref a3) (C := RX0) (T := TX0) (N := 5) hx hb hts i_X0_move_X0 hown hK hP 0 rfl rfl 2 (by decide) (hts (.fieldLink RX0 19 "BlockTree$Rows" "texts" "[J") (by decide +kernel)) (fun _ h9 => h9) rfl dX0_move_34 ?_
  refine lv_iload_n hx hb dX0_move_37 rfl (lv_at hl 2 rfl) ?_
  refine lv_iload_n hx hb dX0_move_38 rfl (lv_at hl 3 rfl) ?_
  refine va_copyl hx hb (by rw [hml]; exact hl.1.symm) hown (hts (.methodLink RX0 53 arraycopyName) (by decide +kernel)) (hts (.native arraycopyName) (by decide +kernel)) (hts (.static arraycopyName) (by decide +kernel)) (hts (.initialized "java/lang/System") (by decide +kernel)) hK hP hD hS 3 3 0 0 rfl rfl rfl rfl rfl (nI_pos (by omega)) (nI_pos (by omega)) (nI_pos (by omega)) (by rw [nI_clamp (show a < 2 ^ 31 by omega), nI_clamp (show n < 2 ^ 31 by omega)]; omega) (by rw [nI_clamp (show b < 2 ^ 31 by omega), nI_clamp (show n < 2 ^ 31 by omega)]; omega) (fun _ _ => rfl) (Nat.le_of_ble_eq_true rfl) (Nat.le_of_ble_eq_true rfl) dX0_move_39 (fun H locs hP hD hS => ?_)
  rw [nI_clamp (show a < 2 ^ 31 by omega), nI_clamp (show b < 2 ^ 31 by omega), nI_clamp (show n < 2 ^ 31 by omega)] at hP hD
  have hP : va_P (dC, dI) vwCl [(r, .inr (0, [.ref a1, .ref a2, .ref a3, .ref a4, .int (nI u)])), (a1, .inl (cL, 150, .inr (.inl (va_cpy hd hd a b n)))), (a2, .inl (cI, 150, .inl (va_cpy sz sz a b n))), (a3, .inl (cL, 150, .inr (.inl (va_cpy tx tx a b n)))), (a4, .inl (cI, 150, .inl ln))] H := hP
  have hD : va_D A [(r, .inr (0, [.ref a1, .ref a2, .ref a3, .ref a4, .int (nI u)])), (a1, .inl (cL, 150, .inr (.inl (va_cpy hd hd a b n)))), (a2, .inl (cI, 150, .inl (va_cpy sz sz a b n))), (a3, .inl (cL, 150, .inr (.inl (va_cpy tx tx a b n)))), (a4, .inl (cI, 150, .inl ln))] := hD
  refine lv_aload_n hx hb dX0_move_42 rfl (lv_at hl 0 rfl) ?_
  refine va_get (D := (dC, dI)) (ci := 0) (v := .ref a4) (C := RX0) (T := TX0) (N := 5) hx hb hts i_X0_move_X0 hown hK hP 0 rfl rfl 3 (by decide) (hts (.fieldLink RX0 22 "BlockTree$Rows" "lengths" "[I") (by decide +kernel)) (fun _ h9 => h9) rfl dX0_move_43 ?_
  refine lv_iload_n hx hb dX0_move_46 rfl (lv_at hl 1 rfl) ?_
  refine lv_aload_n hx hb dX0_move_47 rfl (lv_at hl 0 rfl) ?_
  refine va_get (D := (dC, dI)) (ci := 0) (v := .ref a4) (C := RX0) (T := TX0) (N := 5) hx hb hts i_X0_move_X0 hown hK hP 0 rfl rfl 3 (by decide) (hts (.fieldLink RX0 22 "BlockTree$Rows" "lengths" "[I") (by decide +kernel)) (fun _ h9 => h9) rfl dX0_move_48 ?_
  refine lv_iload_n hx hb dX0_move_51 rfl (lv_at hl 2 rfl) ?_
  refine lv_iload_n hx hb dX0_move_52 rfl (lv_at hl 3 rfl) ?_
  refine va_copyi hx hb (by rw [hml]; exact hl.1.symm) hown (hts (.methodLink RX0 53 arraycopyName) (by decide +kernel)) (hts (.native arraycopyName) (by decide +kernel)) (hts (.static arraycopyName) (by decide +kernel)) (hts (.initialized "java/lang/System") (by decide +kernel)) hK hP hD hS 4 4 1 1 rfl rfl rfl rfl rfl (nI_pos (by omega)) (nI_pos (by omega)) (nI_pos (by omega)) (by rw [nI_clamp (show a < 2 ^ 31 by omega), nI_clamp (show n < 2 ^ 31 by omega)]; omega) (by rw [nI_clamp (show b < 2 ^ 31 by omega), nI_clamp (show n < 2 ^ 31 by omega)]; omega) (fun _ _ => rfl) (Nat.le_of_ble_eq_true rfl) (Nat.le_of_ble_eq_true rfl) dX0_move_53 (fun H locs hP hD hS => ?_)
  rw [nI_clamp (show a < 2 ^ 31 by omega), nI_clamp (show b < 2 ^ 31 by omega), nI_clamp (show n < 2 ^ 31 by omega)] at hP hD
  have hP : va_P (dC, dI) vwCl [(r, .inr (0, [.ref a1, .ref a2, .ref a3, .ref a4, .int (nI u)])), (a1, .inl (cL, 150, .inr (.inl (va_cpy hd hd a b n)))), (a2, .inl (cI, 150, .inl (va_cpy sz sz a b n))), (a3, .inl (cL, 150, .inr (.inl (va_cpy tx tx a b n)))), (a4, .inl (cI, 150, .inl (va_cpy ln ln a b n)))] H := hP
  have hD : va_D A [(r, .inr (0, [.ref a1, .ref a2, .ref a3, .ref a4, .int (nI u)])), (a1, .inl (cL, 150, .inr (.inl (va_cpy hd hd a b n)))), (a2, .inl (cI, 150, .inl (va_cpy sz sz a b n))), (a3, .inl (cL, 150, .inr (.inl (va_cpy tx tx a b n)))), (a4, .inl (cI, 150, .inl (va_cpy ln ln a b n)))] := hD
  exact W.vret hx hb hr (fun t ht hW => ⟨⟨(u, va_cpy hd hd a b n, va_cpy sz sz a b n, va_cpy tx tx a b n, va_cpy ln ln a b n), rfl, rfl, by rw [ht]; exact hP, hD⟩, hS.F ht⟩) hS.2.2 dX0_move_56
set_option maxHeartbeats 4000000 in
set_option maxRecDepth 100000 in
/-- makeRoom -/
theorem c_makeRoom (l : Launch) (dC : Nat → ClassId) (dI : Nat → Nat → Nat) (hz : Nat) (cL cI : ClassId) (r a1 a2 a3 a4 : Nat) (u : Nat) (hd : Nat → Int64) (sz : Nat → Int32) (tx : Nat → Int64) (ln : Nat → Int32) (hu : u ≤ 150) (j : Nat) (hj : j ≤ u) : Met l yX0_makeRoom wsX0_makeRoom ({ frames := 2, cells := 0, slots := 0, locals := 49 }) (wrP (dC, dI) (kS cL cI) (rW cL cI r a1 a2 a3 a4 (u, hd, sz, tx, ln)) [.ref r, .int (nI j)] hz) (va_Qi (fun (z : Int32) (v : RS) => (u < 150 ∧ z = 1 ∧ v = rs_opn (u, hd, sz, tx, ln) j) ∨ (¬ u < 150 ∧ z = 0 ∧ v = (u, hd, sz, tx, ln))) (wrB (dC, dI) (va_A (rW cL cI r a1 a2 a3 a4 (u, hd, sz, tx, ln)) hz) (fun (v : RS) => rW cL cI r a1 a2 a3 a4 v)) (va_A (rW cL cI r a1 a2 a3 a4 (u, hd, sz, tx, ln)) hz)) 0 0 (va_A (rW cL cI r a1 a2 a3 a4 (u, hd, sz, tx, ln)) hz) := by
  refine Met.ofW (cc := cX0_makeRoom) (maxL := 2) (ret := some .boolean) (by decide) rfl ?_
  intro p e s m args below meth c s₁ B hml hv
  obtain ⟨rfl, hsz, hP, hK, hD0⟩ := hv
  have hx := B.exec
  have hb := B.bytes
  have hr := B.returns
  have hts := atoms_spec (ws := wsX0_makeRoom) B.pre
  have hown : s.vm.findClass RX0 = some m.cls := findClass_of_methodNamed B.named
  have hlocks := B.notSynchronized
  subst hsz
  have hD := hD0.self (sz := s.heap.size)
  generalize hAe : va_A (rW cL cI r a1 a2 a3 a4 (u, hd, sz, tx, ln)) s.heap.size = A at hD ⊢
  have hA : ∀ q : Nat, s.heap.size ≤ q → A q := fun q h => by rw [← hAe]; exact Or.inr h
  have hS : va_S A s.heap s.heap [] := va_S.rf
  have hP : va_P (dC, dI) vwCl [(r, .inr (0, [.ref a1, .ref a2, .ref a3, .ref a4, .int (nI u)])), (a1, .inl (cL, 150, .inr (.inl hd))), (a2, .inl (cI, 150, .inl sz)), (a3, .inl (cL, 150, .inr (.inl tx))), (a4, .inl (cI, 150, .inl ln))] s.heap := hP
  have hD : va_D A [(r, .inr (0, [.ref a1, .ref a2, .ref a3, .ref a4, .int (nI u)])), (a1, .inl (cL, 150, .inr (.inl hd))), (a2, .inl (cI, 150, .inl sz)), (a3, .inl (cL, 150, .inr (.inl tx))), (a4, .inl (cI, 150, .inl ln))] := hD
  have hl := lv_entry ([.ref r, .int (nI j)]) (n := 2) (Nat.le_of_ble_eq_true rfl)
  rw [lg_entry_eq]
  generalize (lg_sl ([.ref r, .int (nI j)]) ++ List.replicate (2 - (lg_sl ([.ref r, .int (nI j)])).length) Slot.unset).toArray = ls at hl ⊢
  have hl : lv_has ls 2 [(0, .ref r), (1, .int (nI j))] := hl
  refine lv_aload_n hx hb dX0_makeRoom_0 rfl (lv_at hl 0 rfl) ?_
  refine va_get (D := (dC, dI)) (ci := 0) (v := .int (nI u)) (C := RX0) (T := TX0) (N := 5) hx hb hts i_X0_makeRoom_X0 hown hK hP 0 rfl rfl 4 (by decide) (hts (.fieldLink RX0 25 "BlockTree$Rows" "used" "I") (by decide +kernel)) (fun _ h9 => h9) rfl dX0_makeRoom_1 ?_
  refine lv_sipush (v := 150) hx hb dX0_makeRoom_4 (by decide) ?_
  refine lv_icmp_ge (tgt := 22) hx hb dX0_makeRoom_7 (by decide) (fun c_7 => ?_) (fun c_7 => ?_)
  · skip
    have c_7 : ¬ u < 150 := fun q => nI_ge q (by decide) c_7
    refine lv_iconst (v := 0) hx hb dX0_makeRoom_22 (by decide) ?_
    exact W.zret (v := 0) hx hb hr (by first | rfl | decide +kernel | assumption) (fun t ht hW => ⟨⟨0, (u, hd, sz, tx, ln), rfl, Or.inr ⟨c_7, rfl, rfl⟩, by rw [ht]; exact hP, hD⟩, hS.F ht⟩) hS.2.2 dX0_makeRoom_23
  · skip
    have c_7 : u < 150 := by
      rcases Nat.lt_or_ge u 150 with q | q
      · exact q
      · exact absurd (nI_le q (by omega)) c_7
    refine lv_iload_n hx hb dX0_makeRoom_10 rfl (lv_at hl 1 rfl) ?_
    refine lv_if_lt (tgt := 22) hx hb dX0_makeRoom_11 (by decide) (fun c_11 => absurd c_11 (nI_pos (by omega))) (fun c_11 => ?_)
    refine lv_iload_n hx hb dX0_makeRoom_14 rfl (lv_at hl 1 rfl) ?_
    refine lv_aload_n hx hb dX0_makeRoom_15 rfl (lv_at hl 0 rfl) ?_
    refine va_get (D := (dC, dI)) (ci := 0) (v := .int (nI u)) (C := RX0) (T := TX0) (N := 5) hx hb hts i_X0_makeRoom_X0 hown hK hP 0 rfl rfl 4 (by decide) (hts (.fieldLink RX0 25 "BlockTree$Rows" "used" "I") (by decide +kernel)) (fun _ h9 => h9) rfl dX0_makeRoom_16 ?_
    refine lv_icmp_le (tgt := 24) hx hb dX0_makeRoom_19 (by decide) (fun c_19 => ?_) (fun c_19 => absurd (nI_le hj (by omega)) c_19)
    refine lv_aload_n hx hb dX0_makeRoom_24 rfl (lv_at hl 0 rfl) ?_
    refine lv_iload_n hx hb dX0_makeRoom_25 rfl (lv_at hl 1 rfl) ?_
    refine lv_iload_n hx hb dX0_makeRoom_26 rfl (lv_at hl 1 rfl) ?_
    refine lv_iconst (v := 1) hx hb dX0_makeRoom_27 (by decide) ?_
    refine lv_iadd hx hb dX0_makeRoom_28 ?_
    refine lv_topi (fun z_1 ez_1 => ?_)
    obtain rfl : z_1 = nI (j + 1) := ez_1.trans (nI_1 j)
    refine lv_aload_n hx hb dX0_makeRoom_29 rfl (lv_at hl 0 rfl) ?_
    refine va_get (D := (dC, dI)) (ci := 0) (v := .int (nI u)) (C := RX0) (T := TX0) (N := 5) hx hb hts i_X0_makeRoom_X0 hown hK hP 0 rfl rfl 4 (by decide) (hts (.fieldLink RX0 25 "BlockTree$Rows" "used" "I") (by decide +kernel)) (fun _ h9 => h9) rfl dX0_makeRoom_30 ?_
    refine lv_iload_n hx hb dX0_makeRoom_33 rfl (lv_at hl 1 rfl) ?_
    refine lv_isub hx hb dX0_makeRoom_34 ?_
    refine lv_topi (fun z_2 ez_2 => ?_)
    obtain rfl : z_2 = nI (u - j) := ez_2.trans (pk_sub hj)
    have hPc := hP.sub (ws' := [(r, .inr (0, [.ref a1, .ref a2, .ref a3, .ref a4, .int (nI u)])), (a1, .inl (cL, 150, .inr (.inl hd))), (a2, .inl (cI, 150, .inl sz)), (a3, .inl (cL, 150, .inr (.inl tx))), (a4, .inl (cI, 150, .inl ln))]) [0, 1, 2, 3, 4] rfl
    have hDc := hD.sub (ws' := [(r, .inr (0, [.ref a1, .ref a2, .ref a3, .ref a4, .int (nI u)])), (a1, .inl (cL, 150, .inr (.inl hd))), (a2, .inl (cI, 150, .inl sz)), (a3, .inl (cL, 150, .inr (.inl tx))), (a4, .inl (cI, 150, .inl ln))]) [0, 1, 2, 3, 4] (by decide) rfl
    refine wr_callv (va_runV (As := [.int (nI j), .int (nI (j + 1)), .int (nI (u - j))]) (rest := []) ⟨hx, hb, hml, hown, hts⟩ (c_move l dC dI _ cL cI r a1 a2 a3 a4 u hd sz tx ln j (j + 1) (u - j) (by omega) (by omega)) (cwV 3 hts gX0_makeRoom_X0_move rfl rfl rfl (by decide +kernel) ⟨Nat.le_of_ble_eq_true rfl, Nat.le_of_ble_eq_true rfl⟩) (wr_preV hK hPc hDc (ci := 0) (q0 := 0) rfl rfl) rfl rfl hl.1 rfl (lv_room (Nat.le_of_ble_eq_true rfl)) dX0_makeRoom_35 ⟨Nat.le_of_ble_eq_true rfl, Nat.le_of_ble_eq_true rfl⟩) hP hD hS hA [0, 1, 2, 3, 4] [] rfl rfl (by decide) (by decide) (fun u_ H locs hrm hP hD hS => ?_)
    subst hrm
    have hP := hP.sub (ws' := [(r, .inr (0, [.ref a1, .ref a2, .ref a3, .ref a4, .int (nI u)])), (a1, .inl (cL, 150, .inr (.inl (opn hd j u)))), (a2, .inl (cI, 150, .inl (opn sz j u))), (a3, .inl (cL, 150, .inr (.inl (opn tx j u)))), (a4, .inl (cI, 150, .inl (opn ln j u)))]) [0, 1, 2, 3, 4] rfl
    have hD := hD.sub (ws' := [(r, .inr (0, [.ref a1, .ref a2, .ref a3, .ref a4, .int (nI u)])), (a1, .inl (cL, 150, .inr (.inl (opn hd j u)))), (a2, .inl (cI, 150, .inl (opn sz j u))), (a3, .inl (cL, 150, .inr (.inl (opn tx j u)))), (a4, .inl (cI, 150, .inl (opn ln j u)))]) [0, 1, 2, 3, 4] (by decide) rfl
    refine lv_aload_n hx hb dX0_makeRoom_38 rfl (lv_at hl 0 rfl) ?_
    refine lv_dup hx hb dX0_makeRoom_39 rfl ?_
    refine va_get (D := (dC, dI)) (ci := 0) (v := .int (nI u)) (C := RX0) (T := TX0) (N := 5) hx hb hts i_X0_makeRoom_X0 hown hK hP 0 rfl rfl 4 (by decide) (hts (.fieldLink RX0 25 "BlockTree$Rows" "used" "I") (by decide +kernel)) (fun _ h9 => h9) rfl dX0_makeRoom_40 ?_
    refine lv_iconst (v := 1) hx hb dX0_makeRoom_43 (by decide) ?_
    refine lv_iadd hx hb dX0_makeRoom_44 ?_
    refine lv_topi (fun z_3 ez_3 => ?_)
    obtain rfl : z_3 = nI (u + 1) := ez_3.trans (nI_1 u)
    refine va_put (D := (dC, dI)) (ci := 0) (v := .int (nI (u + 1))) (ty := .int) (C := RX0) (T := TX0) (N := 5) hx hb hts i_X0_makeRoom_X0 tyX0 tyX0_ok nmX0 hown hK hP hD hS 0 rfl rfl 4 (by decide) (hts (.fieldLink RX0 25 "BlockTree$Rows" "used" "I") (by decide +kernel)) (fun _ h9 => h9) rfl (by decide +kernel) rfl rfl (Nat.le_of_ble_eq_true rfl) dX0_makeRoom_45 (fun H locs hP hD hS => ?_)
    have hP : va_P (dC, dI) vwCl [(r, .inr (0, [.ref a1, .ref a2, .ref a3, .ref a4, .int (nI (u + 1))])), (a1, .inl (cL, 150, .inr (.inl (opn hd j u)))), (a2, .inl (cI, 150, .inl (opn sz j u))), (a3, .inl (cL, 150, .inr (.inl (opn tx j u)))), (a4, .inl (cI, 150, .inl (opn ln j u)))] H := hP
    have hD : va_D A [(r, .inr (0, [.ref a1, .ref a2, .ref a3, .ref a4, .int (nI (u + 1))])), (a1, .inl (cL, 150, .inr (.inl (opn hd j u)))), (a2, .inl (cI, 150, .inl (opn sz j u))), (a3, .inl (cL, 150, .inr (.inl (opn tx j u)))), (a4, .inl (cI, 150, .inl (opn ln j u)))] := hD
    refine lv_iconst (v := 1) hx hb dX0_makeRoom_48 (by decide) ?_
    exact W.zret (v := 1) hx hb hr (by first | rfl | decide +kernel | assumption) (fun t ht hW => ⟨⟨1, rs_opn (u, hd, sz, tx, ln) j, rfl, Or.inl ⟨c_7, rfl, rfl⟩, by rw [ht]; exact hP, hD⟩, hS.F ht⟩) hS.2.2 dX0_makeRoom_49
set_option maxHeartbeats 4000000 in
set_option maxRecDepth 100000 in
/-- drop -/
theorem c_drop (l : Launch) (dC : Nat → ClassId) (dI : Nat → Nat → Nat) (hz : Nat) (cL cI : ClassId) (r a1 a2 a3 a4 : Nat) (u : Nat) (hd : Nat → Int64) (sz : Nat → Int32) (tx : Nat → Int64) (ln : Nat → Int32) (hu : u ≤ 150) (j : Nat) (hj : j < u) : Met l yX0_drop wsX0_drop ({ frames := 2, cells := 0, slots := 0, locals := 49 }) (wrP (dC, dI) (kS cL cI) (rW cL cI r a1 a2 a3 a4 (u, hd, sz, tx, ln)) [.ref r, .int (nI j)] hz) (va_Qv (fun (v : RS) => v = rs_clo (u, hd, sz, tx, ln) j) (wrB (dC, dI) (va_A (rW cL cI r a1 a2 a3 a4 (u, hd, sz, tx, ln)) hz) (fun (v : RS) => rW cL cI r a1 a2 a3 a4 v)) (va_A (rW cL cI r a1 a2 a3 a4 (u, hd, sz, tx, ln)) hz)) 0 0 (va_A (rW cL cI r a1 a2 a3 a4 (u, hd, sz, tx, ln)) hz) := by
  refine Met.ofW (cc := cX0_drop) (maxL := 2) (ret := none) (by decide) rfl ?_
  intro p e s m args below meth c s₁ B hml hv
  obtain ⟨rfl, hsz, hP, hK, hD0⟩ := hv
  have hx := B.exec
  have hb := B.bytes
  have hr := B.returns
  have hts := atoms_spec (ws := wsX0_drop) B.pre
  have hown : s.vm.findClass RX0 = some m.cls := findClass_of_methodNamed B.named
  have hlocks := B.notSynchronized
  subst hsz
  have hD := hD0.self (sz := s.heap.size)
  generalize hAe : va_A (rW cL cI r a1 a2 a3 a4 (u, hd, sz, tx, ln)) s.heap.size = A at hD ⊢
  have hA : ∀ q : Nat, s.heap.size ≤ q → A q := fun q h => by rw [← hAe]; exact Or.inr h
  have hS : va_S A s.heap s.heap [] := va_S.rf
  have hP : va_P (dC, dI) vwCl [(r, .inr (0, [.ref a1, .ref a2, .ref a3, .ref a4, .int (nI u)])), (a1, .inl (cL, 150, .inr (.inl hd))), (a2, .inl (cI, 150, .inl sz)), (a3, .inl (cL, 150, .inr (.inl tx))), (a4, .inl (cI, 150, .inl ln))] s.heap := hP
  have hD : va_D A [(r, .inr (0, [.ref a1, .ref a2, .ref a3, .ref a4, .int (nI u)])), (a1, .inl (cL, 150, .inr (.inl hd))), (a2, .inl (cI, 150, .inl sz)), (a3, .inl (cL, 150, .inr (.inl tx))), (a4, .inl (cI, 150, .inl ln))] := hD
  have hl := lv_entry ([.ref r, .int (nI j)]) (n := 2) (Nat.le_of_ble_eq_true rfl)
  rw [lg_entry_eq]
  generalize (lg_sl ([.ref r, .int (nI j)]) ++ List.replicate (2 - (lg_sl ([.ref r, .int (nI j)])).length) Slot.unset).toArray = ls at hl ⊢
  have hl : lv_has ls 2 [(0, .ref r), (1, .int (nI j))] := hl
  refine lv_aload_n hx hb dX0_drop_0 rfl (lv_at hl 0 rfl) ?_
  refine lv_iload_n hx hb dX0_drop_1 rfl (lv_at hl 1 rfl) ?_
  have hPc := hP.sub (ws' := [(r, .inr (0, [.ref a1, .ref a2, .ref a3, .ref a4, .int (nI u)]))]) [0] rfl
  refine vp_callSi (va_Run.run (va_runV (As := [.int (nI j)]) (rest := []) ⟨hx, hb, hml, hown, hts⟩ (c_has l dC dI cL cI r a1 a2 a3 a4 u hu (nI j)) (cwV 1 hts gX0_drop_X0_has rfl rfl rfl (by decide +kernel) ⟨Nat.le_of_ble_eq_true rfl, Nat.le_of_ble_eq_true rfl⟩) (rd_preV hK hPc (ci := 0) (q0 := 0) rfl rfl) rfl rfl hl.1 rfl (lv_room (Nat.le_of_ble_eq_true rfl)) dX0_drop_2 ⟨Nat.le_of_ble_eq_true rfl, Nat.le_of_ble_eq_true rfl⟩)) (fun r2 hr2 => ?_)
  rcases hr2 with ⟨rfl, -⟩ | ⟨rfl, hno⟩
  · skip
    refine lv_if_eq (tgt := 34) hx hb dX0_drop_5 (by decide) (fun c_5 => absurd c_5 (by decide)) (fun c_5 => ?_)
    refine lv_aload_n hx hb dX0_drop_8 rfl (lv_at hl 0 rfl) ?_
    refine lv_iload_n hx hb dX0_drop_9 rfl (lv_at hl 1 rfl) ?_
    refine lv_iconst (v := 1) hx hb dX0_drop_10 (by decide) ?_
    refine lv_iadd hx hb dX0_drop_11 ?_
    refine lv_topi (fun z_1 ez_1 => ?_)
    obtain rfl : z_1 = nI (j + 1) := ez_1.trans (nI_1 j)
    refine lv_iload_n hx hb dX0_drop_12 rfl (lv_at hl 1 rfl) ?_
    refine lv_aload_n hx hb dX0_drop_13 rfl (lv_at hl 0 rfl) ?_
    refine va_get (D := (dC, dI)) (ci := 0) (v := .int (nI u)) (C := RX0) (T := TX0) (N := 5) hx hb hts i_X0_drop_X0 hown hK hP 0 rfl rfl 4 (by decide) (hts (.fieldLink RX0 25 "BlockTree$Rows" "used" "I") (by decide +kernel)) (fun _ h9 => h9) rfl dX0_drop_14 ?_
    refine lv_iload_n hx hb dX0_drop_17 rfl (lv_at hl 1 rfl) ?_
    refine lv_isub hx hb dX0_drop_18 ?_
    refine lv_topi (fun z_2 ez_2 => ?_)
    obtain rfl : z_2 = nI (u - j) := ez_2.trans (pk_sub (by omega))
    refine lv_iconst (v := 1) hx hb dX0_drop_19 (by decide) ?_
    refine lv_isub hx hb dX0_drop_20 ?_
    refine lv_topi (fun z_3 ez_3 => ?_)
    obtain rfl : z_3 = nI (u - j - 1) := ez_3.trans (nI_s1 (by omega))
    have hPc := hP.sub (ws' := [(r, .inr (0, [.ref a1, .ref a2, .ref a3, .ref a4, .int (nI u)])), (a1, .inl (cL, 150, .inr (.inl hd))), (a2, .inl (cI, 150, .inl sz)), (a3, .inl (cL, 150, .inr (.inl tx))), (a4, .inl (cI, 150, .inl ln))]) [0, 1, 2, 3, 4] rfl
    have hDc := hD.sub (ws' := [(r, .inr (0, [.ref a1, .ref a2, .ref a3, .ref a4, .int (nI u)])), (a1, .inl (cL, 150, .inr (.inl hd))), (a2, .inl (cI, 150, .inl sz)), (a3, .inl (cL, 150, .inr (.inl tx))), (a4, .inl (cI, 150, .inl ln))]) [0, 1, 2, 3, 4] (by decide) rfl
    refine wr_callv (va_runV (As := [.int (nI (j + 1)), .int (nI j), .int (nI (u - j - 1))]) (rest := []) ⟨hx, hb, hml, hown, hts⟩ (c_move l dC dI _ cL cI r a1 a2 a3 a4 u hd sz tx ln (j + 1) j (u - j - 1) (by omega) (by omega)) (cwV 3 hts gX0_drop_X0_move rfl rfl rfl (by decide +kernel) ⟨Nat.le_of_ble_eq_true rfl, Nat.le_of_ble_eq_true rfl⟩) (wr_preV hK hPc hDc (ci := 0) (q0 := 0) rfl rfl) rfl rfl hl.1 rfl (lv_room (Nat.le_of_ble_eq_true rfl)) dX0_drop_21 ⟨Nat.le_of_ble_eq_true rfl, Nat.le_of_ble_eq_true rfl⟩) hP hD hS hA [0, 1, 2, 3, 4] [] rfl rfl (by decide) (by decide) (fun u_ H locs hrm hP hD hS => ?_)
    subst hrm
    have hP := hP.sub (ws' := [(r, .inr (0, [.ref a1, .ref a2, .ref a3, .ref a4, .int (nI u)])), (a1, .inl (cL, 150, .inr (.inl (clo hd j u)))), (a2, .inl (cI, 150, .inl (clo sz j u))), (a3, .inl (cL, 150, .inr (.inl (clo tx j u)))), (a4, .inl (cI, 150, .inl (clo ln j u)))]) [0, 1, 2, 3, 4] rfl
    have hD := hD.sub (ws' := [(r, .inr (0, [.ref a1, .ref a2, .ref a3, .ref a4, .int (nI u)])), (a1, .inl (cL, 150, .inr (.inl (clo hd j u)))), (a2, .inl (cI, 150, .inl (clo sz j u))), (a3, .inl (cL, 150, .inr (.inl (clo tx j u)))), (a4, .inl (cI, 150, .inl (clo ln j u)))]) [0, 1, 2, 3, 4] (by decide) rfl
    refine lv_aload_n hx hb dX0_drop_24 rfl (lv_at hl 0 rfl) ?_
    refine lv_dup hx hb dX0_drop_25 rfl ?_
    refine va_get (D := (dC, dI)) (ci := 0) (v := .int (nI u)) (C := RX0) (T := TX0) (N := 5) hx hb hts i_X0_drop_X0 hown hK hP 0 rfl rfl 4 (by decide) (hts (.fieldLink RX0 25 "BlockTree$Rows" "used" "I") (by decide +kernel)) (fun _ h9 => h9) rfl dX0_drop_26 ?_
    refine lv_iconst (v := 1) hx hb dX0_drop_29 (by decide) ?_
    refine lv_isub hx hb dX0_drop_30 ?_
    refine lv_topi (fun z_4 ez_4 => ?_)
    obtain rfl : z_4 = nI (u - 1) := ez_4.trans (nI_s1 (by omega))
    refine va_put (D := (dC, dI)) (ci := 0) (v := .int (nI (u - 1))) (ty := .int) (C := RX0) (T := TX0) (N := 5) hx hb hts i_X0_drop_X0 tyX0 tyX0_ok nmX0 hown hK hP hD hS 0 rfl rfl 4 (by decide) (hts (.fieldLink RX0 25 "BlockTree$Rows" "used" "I") (by decide +kernel)) (fun _ h9 => h9) rfl (by decide +kernel) rfl rfl (Nat.le_of_ble_eq_true rfl) dX0_drop_31 (fun H locs hP hD hS => ?_)
    have hP : va_P (dC, dI) vwCl [(r, .inr (0, [.ref a1, .ref a2, .ref a3, .ref a4, .int (nI (u - 1))])), (a1, .inl (cL, 150, .inr (.inl (clo hd j u)))), (a2, .inl (cI, 150, .inl (clo sz j u))), (a3, .inl (cL, 150, .inr (.inl (clo tx j u)))), (a4, .inl (cI, 150, .inl (clo ln j u)))] H := hP
    have hD : va_D A [(r, .inr (0, [.ref a1, .ref a2, .ref a3, .ref a4, .int (nI (u - 1))])), (a1, .inl (cL, 150, .inr (.inl (clo hd j u)))), (a2, .inl (cI, 150, .inl (clo sz j u))), (a3, .inl (cL, 150, .inr (.inl (clo tx j u)))), (a4, .inl (cI, 150, .inl (clo ln j u)))] := hD
    exact W.vret hx hb hr (fun t ht hW => ⟨⟨rs_clo (u, hd, sz, tx, ln) j, rfl, rfl, by rw [ht]; exact hP, hD⟩, hS.F ht⟩) hS.2.2 dX0_drop_34
  · skip
    exact absurd ⟨j, hj, rfl⟩ hno
set_option maxHeartbeats 4000000 in
set_option maxRecDepth 100000 in
/-- copyFrom -/
theorem c_copyFrom (l : Launch) (dC : Nat → ClassId) (dI : Nat → Nat → Nat) (hz : Nat) (cL cI : ClassId) (r a1 a2 a3 a4 q b1 b2 b3 b4 : Nat) (w v0 : RS) (hu : v0.1 ≤ 150) : Met l yX0_copyFrom wsX0_copyFrom ({ frames := 1, cells := 0, slots := 0, locals := 26 }) (wrP (dC, dI) (kS cL cI) (rW cL cI r a1 a2 a3 a4 w ++ rW cL cI q b1 b2 b3 b4 v0) [.ref r, .ref q] hz) (va_Qv (fun (v : RS) => v = rs_cpy v0 w) (wrB (dC, dI) (va_A (rW cL cI r a1 a2 a3 a4 w ++ rW cL cI q b1 b2 b3 b4 v0) hz) (fun (v : RS) => rW cL cI r a1 a2 a3 a4 v ++ rW cL cI q b1 b2 b3 b4 v0)) (va_A (rW cL cI r a1 a2 a3 a4 w ++ rW cL cI q b1 b2 b3 b4 v0) hz)) 0 0 (va_A (rW cL cI r a1 a2 a3 a4 w ++ rW cL cI q b1 b2 b3 b4 v0) hz) := by
  refine Met.ofW (cc := cX0_copyFrom) (maxL := 2) (ret := none) (by decide) rfl ?_
  intro p e s m args below meth c s₁ B hml hv
  obtain ⟨rfl, hsz, hP, hK, hD0⟩ := hv
  have hx := B.exec
  have hb := B.bytes
  have hr := B.returns
  have hts := atoms_spec (ws := wsX0_copyFrom) B.pre
  have hown : s.vm.findClass RX0 = some m.cls := findClass_of_methodNamed B.named
  have hlocks := B.notSynchronized
  subst hsz
  have hD := hD0.self (sz := s.heap.size)
  generalize hAe : va_A (rW cL cI r a1 a2 a3 a4 w ++ rW cL cI q b1 b2 b3 b4 v0) s.heap.size = A at hD ⊢
  have hA : ∀ q : Nat, s.heap.size ≤ q → A q := fun q h => by rw [← hAe]; exact Or.inr h
  have hS : va_S A s.heap s.heap [] := va_S.rf
  have hP : va_P (dC, dI) vwCl [(r, .inr (0, [.ref a1, .ref a2, .ref a3, .ref a4, .int (nI w.1)])), (a1, .inl (cL, 150, .inr (.inl w.2.1))), (a2, .inl (cI, 150, .inl w.2.2.1)), (a3, .inl (cL, 150, .inr (.inl w.2.2.2.1))), (a4, .inl (cI, 150, .inl w.2.2.2.2)), (q, .inr (0, [.ref b1, .ref b2, .ref b3, .ref b4, .int (nI v0.1)])), (b1, .inl (cL, 150, .inr (.inl v0.2.1))), (b2, .inl (cI, 150, .inl v0.2.2.1)), (b3, .inl (cL, 150, .inr (.inl v0.2.2.2.1))), (b4, .inl (cI, 150, .inl v0.2.2.2.2))] s.heap := hP
  have hD : va_D A [(r, .inr (0, [.ref a1, .ref a2, .ref a3, .ref a4, .int (nI w.1)])), (a1, .inl (cL, 150, .inr (.inl w.2.1))), (a2, .inl (cI, 150, .inl w.2.2.1)), (a3, .inl (cL, 150, .inr (.inl w.2.2.2.1))), (a4, .inl (cI, 150, .inl w.2.2.2.2)), (q, .inr (0, [.ref b1, .ref b2, .ref b3, .ref b4, .int (nI v0.1)])), (b1, .inl (cL, 150, .inr (.inl v0.2.1))), (b2, .inl (cI, 150, .inl v0.2.2.1)), (b3, .inl (cL, 150, .inr (.inl v0.2.2.2.1))), (b4, .inl (cI, 150, .inl v0.2.2.2.2))] := hD
  have hl := lv_entry ([.ref r, .ref q]) (n := 2) (Nat.le_of_ble_eq_true rfl)
  rw [lg_entry_eq]
  generalize (lg_sl ([.ref r, .ref q]) ++ List.replicate (2 - (lg_sl ([.ref r, .ref q])).length) Slot.unset).toArray = ls at hl ⊢
  have hl : lv_has ls 2 [(0, .ref r), (1, .ref q)] := hl
  refine lv_aload_n hx hb dX0_copyFrom_0 rfl (lv_at hl 1 rfl) ?_
  refine va_get (D := (dC, dI)) (ci := 0) (v := .ref b1) (C := RX0) (T := TX0) (N := 5) hx hb hts i_X0_copyFrom_X0 hown hK hP 5 rfl rfl 0 (by decide) (hts (.fieldLink RX0 9 "BlockTree$Rows" "heads" "[J") (by decide +kernel)) (fun _ h9 => h9) rfl dX0_copyFrom_1 ?_
  refine lv_iconst (v := 0) hx hb dX0_copyFrom_4 (by decide) ?_
  refine lv_aload_n hx hb dX0_copyFrom_5 rfl (lv_at hl 0 rfl) ?_
  refine va_get (D := (dC, dI)) (ci := 0) (v := .ref a1) (C := RX0) (T := TX0) (N := 5) hx hb hts i_X0_copyFrom_X0 hown hK hP 0 rfl rfl 0 (by decide) (hts (.fieldLink RX0 9 "BlockTree$Rows" "heads" "[J") (by decide +kernel)) (fun _ h9 => h9) rfl dX0_copyFrom_6 ?_
  refine lv_iconst (v := 0) hx hb dX0_copyFrom_9 (by decide) ?_
  refine lv_aload_n hx hb dX0_copyFrom_10 rfl (lv_at hl 1 rfl) ?_
  refine va_get (D := (dC, dI)) (ci := 0) (v := .int (nI v0.1)) (C := RX0) (T := TX0) (N := 5) hx hb hts i_X0_copyFrom_X0 hown hK hP 5 rfl rfl 4 (by decide) (hts (.fieldLink RX0 25 "BlockTree$Rows" "used" "I") (by decide +kernel)) (fun _ h9 => h9) rfl dX0_copyFrom_11 ?_
  refine va_copyl hx hb (by rw [hml]; exact hl.1.symm) hown (hts (.methodLink RX0 53 arraycopyName) (by decide +kernel)) (hts (.native arraycopyName) (by decide +kernel)) (hts (.static arraycopyName) (by decide +kernel)) (hts (.initialized "java/lang/System") (by decide +kernel)) hK hP hD hS 6 1 0 0 rfl rfl rfl rfl rfl (by decide) (by decide) (nI_pos (by omega)) (by rw [sb_cl0, nI_clamp (show v0.1 < 2 ^ 31 by omega)]; omega) (by rw [sb_cl0, nI_clamp (show v0.1 < 2 ^ 31 by omega)]; omega) (fun _ _ => rfl) (Nat.le_of_ble_eq_true rfl) (Nat.le_of_ble_eq_true rfl) dX0_copyFrom_14 (fun H locs hP hD hS => ?_)
  rw [sb_cl0, nI_clamp (show v0.1 < 2 ^ 31 by omega)] at hP hD
  have hP : va_P (dC, dI) vwCl [(r, .inr (0, [.ref a1, .ref a2, .ref a3, .ref a4, .int (nI w.1)])), (a1, .inl (cL, 150, .inr (.inl (va_cpy v0.2.1 w.2.1 0 0 v0.1)))), (a2, .inl (cI, 150, .inl w.2.2.1)), (a3, .inl (cL, 150, .inr (.inl w.2.2.2.1))), (a4, .inl (cI, 150, .inl w.2.2.2.2)), (q, .inr (0, [.ref b1, .ref b2, .ref b3, .ref b4, .int (nI v0.1)])), (b1, .inl (cL, 150, .inr (.inl v0.2.1))), (b2, .inl (cI, 150, .inl v0.2.2.1)), (b3, .inl (cL, 150, .inr (.inl v0.2.2.2.1))), (b4, .inl (cI, 150, .inl v0.2.2.2.2))] H := hP
  have hD : va_D A [(r, .inr (0, [.ref a1, .ref a2, .ref a3, .ref a4, .int (nI w.1)])), (a1, .inl (cL, 150, .inr (.inl (va_cpy v0.2.1 w.2.1 0 0 v0.1)))), (a2, .inl (cI, 150, .inl w.2.2.1)), (a3, .inl (cL, 150, .inr (.inl w.2.2.2.1))), (a4, .inl (cI, 150, .inl w.2.2.2.2)), (q, .inr (0, [.ref b1, .ref b2, .ref b3, .ref b4, .int (nI v0.1)])), (b1, .inl (cL, 150, .inr (.inl v0.2.1))), (b2, .inl (cI, 150, .inl v0.2.2.1)), (b3, .inl (cL, 150, .inr (.inl v0.2.2.2.1))), (b4, .inl (cI, 150, .inl v0.2.2.2.2))] := hD
  refine lv_aload_n hx hb dX0_copyFrom_17 rfl (lv_at hl 1 rfl) ?_
  refine va_get (D := (dC, dI)) (ci := 0) (v := .ref b2) (C := RX0) (T := TX0) (N := 5) hx hb hts i_X0_copyFrom_X0 hown hK hP 5 rfl rfl 1 (by decide) (hts (.fieldLink RX0 15 "BlockTree$Rows" "sizes" "[I") (by decide +kernel)) (fun _ h9 => h9) rfl dX0_copyFrom_18 ?_
  refine lv_iconst (v := 0) hx hb dX0_copyFrom_21 (by decide) ?_
  refine lv_aload_n hx hb dX0_copyFrom_22 rfl (lv_at hl 0 rfl) ?_
  refine va_get (D := (dC, dI)) (ci := 0) (v := .ref a2) (C := RX0) (T := TX0) (N := 5) hx hb hts i_X0_copyFrom_X0 hown hK hP 0 rfl rfl 1 (by decide) (hts (.fieldLink RX0 15 "BlockTree$Rows" "sizes" "[I") (by decide +kernel)) (fun _ h9 => h9) rfl dX0_copyFrom_23 ?_
  refine lv_iconst (v := 0) hx hb dX0_copyFrom_26 (by decide) ?_
  refine lv_aload_n hx hb dX0_copyFrom_27 rfl (lv_at hl 1 rfl) ?_
  refine va_get (D := (dC, dI)) (ci := 0) (v := .int (nI v0.1)) (C := RX0) (T := TX0) (N := 5) hx hb hts i_X0_copyFrom_X0 hown hK hP 5 rfl rfl 4 (by decide) (hts (.fieldLink RX0 25 "BlockTree$Rows" "used" "I") (by decide +kernel)) (fun _ h9 => h9) rfl dX0_copyFrom_28 ?_
  refine va_copyi hx hb (by rw [hml]; exact hl.1.symm) hown (hts (.methodLink RX0 53 arraycopyName) (by decide +kernel)) (hts (.native arraycopyName) (by decide +kernel)) (hts (.static arraycopyName) (by decide +kernel)) (hts (.initialized "java/lang/System") (by decide +kernel)) hK hP hD hS 7 2 1 1 rfl rfl rfl rfl rfl (by decide) (by decide) (nI_pos (by omega)) (by rw [sb_cl0, nI_clamp (show v0.1 < 2 ^ 31 by omega)]; omega) (by rw [sb_cl0, nI_clamp (show v0.1 < 2 ^ 31 by omega)]; omega) (fun _ _ => rfl) (Nat.le_of_ble_eq_true rfl) (Nat.le_of_ble_eq_true rfl) dX0_copyFrom_31 (fun H locs hP hD hS => ?_)
  rw [sb_cl0, nI_clamp (show v0.1 < 2 ^ 31 by omega)] at hP hD
  have hP : va_P (dC, dI) vwCl [(r, .inr (0, [.ref a1, .ref a2, .ref a3, .ref a4, .int (nI w.1)])), (a1, .inl (cL, 150, .inr (.inl (va_cpy v0.2.1 w.2.1 0 0 v0.1)))), (a2, .inl (cI, 150, .inl (va_cpy v0.2.2.1 w.2.2.1 0 0 v0.1))), (a3, .inl (cL, 150, .inr (.inl w.2.2.2.1))), (a4, .inl (cI, 150, .inl w.2.2.2.2)), (q, .inr (0, [.ref b1, .ref b2, .ref b3, .ref b4, .int (nI v0.1)])), (b1, .inl (cL, 150, .inr (.inl v0.2.1))), (b2, .inl (cI, 150, .inl v0.2.2.1)), (b3, .inl (cL, 150, .inr (.inl v0.2.2.2.1))), (b4, .inl (cI, 150, .inl v0.2.2.2.2))] H := hP
  have hD : va_D A [(r, .inr (0, [.ref a1, .ref a2, .ref a3, .ref a4, .int (nI w.1)])), (a1, .inl (cL, 150, .inr (.inl (va_cpy v0.2.1 w.2.1 0 0 v0.1)))), (a2, .inl (cI, 150, .inl (va_cpy v0.2.2.1 w.2.2.1 0 0 v0.1))), (a3, .inl (cL, 150, .inr (.inl w.2.2.2.1))), (a4, .inl (cI, 150, .inl w.2.2.2.2)), (q, .inr (0, [.ref b1, .ref b2, .ref b3, .ref b4, .int (nI v0.1)])), (b1, .inl (cL, 150, .inr (.inl v0.2.1))), (b2, .inl (cI, 150, .inl v0.2.2.1)), (b3, .inl (cL, 150, .inr (.inl v0.2.2.2.1))), (b4, .inl (cI, 150, .inl v0.2.2.2.2))] := hD
  refine lv_aload_n hx hb dX0_copyFrom_34 rfl (lv_at hl 1 rfl) ?_
  refine va_get (D := (dC, dI)) (ci := 0) (v := .ref b3) (C := RX0) (T := TX0) (N := 5) hx hb hts i_X0_copyFrom_X0 hown hK hP 5 rfl rfl 2 (by decide) (hts (.fieldLink RX0 19 "BlockTree$Rows" "texts" "[J") (by decide +kernel)) (fun _ h9 => h9) rfl dX0_copyFrom_35 ?_
  refine lv_iconst (v := 0) hx hb dX0_copyFrom_38 (by decide) ?_
  refine lv_aload_n hx hb dX0_copyFrom_39 rfl (lv_at hl 0 rfl) ?_
  refine va_get (D := (dC, dI)) (ci := 0) (v := .ref a3) (C := RX0) (T := TX0) (N := 5) hx hb hts i_X0_copyFrom_X0 hown hK hP 0 rfl rfl 2 (by decide) (hts (.fieldLink RX0 19 "BlockTree$Rows" "texts" "[J") (by decide +kernel)) (fun _ h9 => h9) rfl dX0_copyFrom_40 ?_
  refine lv_iconst (v := 0) hx hb dX0_copyFrom_43 (by decide) ?_
  refine lv_aload_n hx hb dX0_copyFrom_44 rfl (lv_at hl 1 rfl) ?_
  refine va_get (D := (dC, dI)) (ci := 0) (v := .int (nI v0.1)) (C := RX0) (T := TX0) (N := 5) hx hb hts i_X0_copyFrom_X0 hown hK hP 5 rfl rfl 4 (by decide) (hts (.fieldLink RX0 25 "BlockTree$Rows" "used" "I") (by decide +kernel)) (fun _ h9 => h9) rfl dX0_copyFrom_45 ?_
  refine va_copyl hx hb (by rw [hml]; exact hl.1.symm) hown (hts (.methodLink RX0 53 arraycopyName) (by decide +kernel)) (hts (.native arraycopyName) (by decide +kernel)) (hts (.static arraycopyName) (by decide +kernel)) (hts (.initialized "java/lang/System") (by decide +kernel)) hK hP hD hS 8 3 0 0 rfl rfl rfl rfl rfl (by decide) (by decide) (nI_pos (by omega)) (by rw [sb_cl0, nI_clamp (show v0.1 < 2 ^ 31 by omega)]; omega) (by rw [sb_cl0, nI_clamp (show v0.1 < 2 ^ 31 by omega)]; omega) (fun _ _ => rfl) (Nat.le_of_ble_eq_true rfl) (Nat.le_of_ble_eq_true rfl) dX0_copyFrom_48 (fun H locs hP hD hS => ?_)
  rw [sb_cl0, nI_clamp (show v0.1 < 2 ^ 31 by omega)] at hP hD
  have hP : va_P (dC, dI) vwCl [(r, .inr (0, [.ref a1, .ref a2, .ref a3, .ref a4, .int (nI w.1)])), (a1, .inl (cL, 150, .inr (.inl (va_cpy v0.2.1 w.2.1 0 0 v0.1)))), (a2, .inl (cI, 150, .inl (va_cpy v0.2.2.1 w.2.2.1 0 0 v0.1))), (a3, .inl (cL, 150, .inr (.inl (va_cpy v0.2.2.2.1 w.2.2.2.1 0 0 v0.1)))), (a4, .inl (cI, 150, .inl w.2.2.2.2)), (q, .inr (0, [.ref b1, .ref b2, .ref b3, .ref b4, .int (nI v0.1)])), (b1, .inl (cL, 150, .inr (.inl v0.2.1))), (b2, .inl (cI, 150, .inl v0.2.2.1)), (b3, .inl (cL, 150, .inr (.inl v0.2.2.2.1))), (b4, .inl (cI, 150, .inl v0.2.2.2.2))] H := hP
  have hD : va_D A [(r, .inr (0, [.ref a1, .ref a2, .ref a3, .ref a4, .int (nI w.1)])), (a1, .inl (cL, 150, .inr (.inl (va_cpy v0.2.1 w.2.1 0 0 v0.1)))), (a2, .inl (cI, 150, .inl (va_cpy v0.2.2.1 w.2.2.1 0 0 v0.1))), (a3, .inl (cL, 150, .inr (.inl (va_cpy v0.2.2.2.1 w.2.2.2.1 0 0 v0.1)))), (a4, .inl (cI, 150, .inl w.2.2.2.2)), (q, .inr (0, [.ref b1, .ref b2, .ref b3, .ref b4, .int (nI v0.1)])), (b1, .inl (cL, 150, .inr (.inl v0.2.1))), (b2, .inl (cI, 150, .inl v0.2.2.1)), (b3, .inl (cL, 150, .inr (.inl v0.2.2.2.1))), (b4, .inl (cI, 150, .inl v0.2.2.2.2))] := hD
  refine lv_aload_n hx hb dX0_copyFrom_51 rfl (lv_at hl 1 rfl) ?_
  refine va_get (D := (dC, dI)) (ci := 0) (v := .ref b4) (C := RX0) (T := TX0) (N := 5) hx hb hts i_X0_copyFrom_X0 hown hK hP 5 rfl rfl 3 (by decide) (hts (.fieldLink RX0 22 "BlockTree$Rows" "lengths" "[I") (by decide +kernel)) (fun _ h9 => h9) rfl dX0_copyFrom_52 ?_
  refine lv_iconst (v := 0) hx hb dX0_copyFrom_55 (by decide) ?_
  refine lv_aload_n hx hb dX0_copyFrom_56 rfl (lv_at hl 0 rfl) ?_
  refine va_get (D := (dC, dI)) (ci := 0) (v := .ref a4) (C := RX0) (T := TX0) (N := 5) hx hb hts i_X0_copyFrom_X0 hown hK hP 0 rfl rfl 3 (by decide) (hts (.fieldLink RX0 22 "BlockTree$Rows" "lengths" "[I") (by decide +kernel)) (fun _ h9 => h9) rfl dX0_copyFrom_57 ?_
  refine lv_iconst (v := 0) hx hb dX0_copyFrom_60 (by decide) ?_
  refine lv_aload_n hx hb dX0_copyFrom_61 rfl (lv_at hl 1 rfl) ?_
  refine va_get (D := (dC, dI)) (ci := 0) (v := .int (nI v0.1)) (C := RX0) (T := TX0) (N := 5) hx hb hts i_X0_copyFrom_X0 hown hK hP 5 rfl rfl 4 (by decide) (hts (.fieldLink RX0 25 "BlockTree$Rows" "used" "I") (by decide +kernel)) (fun _ h9 => h9) rfl dX0_copyFrom_62 ?_
  refine va_copyi hx hb (by rw [hml]; exact hl.1.symm) hown (hts (.methodLink RX0 53 arraycopyName) (by decide +kernel)) (hts (.native arraycopyName) (by decide +kernel)) (hts (.static arraycopyName) (by decide +kernel)) (hts (.initialized "java/lang/System") (by decide +kernel)) hK hP hD hS 9 4 1 1 rfl rfl rfl rfl rfl (by decide) (by decide) (nI_pos (by omega)) (by rw [sb_cl0, nI_clamp (show v0.1 < 2 ^ 31 by omega)]; omega) (by rw [sb_cl0, nI_clamp (show v0.1 < 2 ^ 31 by omega)]; omega) (fun _ _ => rfl) (Nat.le_of_ble_eq_true rfl) (Nat.le_of_ble_eq_true rfl) dX0_copyFrom_65 (fun H locs hP hD hS => ?_)
  rw [sb_cl0, nI_clamp (show v0.1 < 2 ^ 31 by omega)] at hP hD
  have hP : va_P (dC, dI) vwCl [(r, .inr (0, [.ref a1, .ref a2, .ref a3, .ref a4, .int (nI w.1)])), (a1, .inl (cL, 150, .inr (.inl (va_cpy v0.2.1 w.2.1 0 0 v0.1)))), (a2, .inl (cI, 150, .inl (va_cpy v0.2.2.1 w.2.2.1 0 0 v0.1))), (a3, .inl (cL, 150, .inr (.inl (va_cpy v0.2.2.2.1 w.2.2.2.1 0 0 v0.1)))), (a4, .inl (cI, 150, .inl (va_cpy v0.2.2.2.2 w.2.2.2.2 0 0 v0.1))), (q, .inr (0, [.ref b1, .ref b2, .ref b3, .ref b4, .int (nI v0.1)])), (b1, .inl (cL, 150, .inr (.inl v0.2.1))), (b2, .inl (cI, 150, .inl v0.2.2.1)), (b3, .inl (cL, 150, .inr (.inl v0.2.2.2.1))), (b4, .inl (cI, 150, .inl v0.2.2.2.2))] H := hP
  have hD : va_D A [(r, .inr (0, [.ref a1, .ref a2, .ref a3, .ref a4, .int (nI w.1)])), (a1, .inl (cL, 150, .inr (.inl (va_cpy v0.2.1 w.2.1 0 0 v0.1)))), (a2, .inl (cI, 150, .inl (va_cpy v0.2.2.1 w.2.2.1 0 0 v0.1))), (a3, .inl (cL, 150, .inr (.inl (va_cpy v0.2.2.2.1 w.2.2.2.1 0 0 v0.1)))), (a4, .inl (cI, 150, .inl (va_cpy v0.2.2.2.2 w.2.2.2.2 0 0 v0.1))), (q, .inr (0, [.ref b1, .ref b2, .ref b3, .ref b4, .int (nI v0.1)])), (b1, .inl (cL, 150, .inr (.inl v0.2.1))), (b2, .inl (cI, 150, .inl v0.2.2.1)), (b3, .inl (cL, 150, .inr (.inl v0.2.2.2.1))), (b4, .inl (cI, 150, .inl v0.2.2.2.2))] := hD
  refine lv_aload_n hx hb dX0_copyFrom_68 rfl (lv_at hl 0 rfl) ?_
  refine lv_aload_n hx hb dX0_copyFrom_69 rfl (lv_at hl 1 rfl) ?_
  refine va_get (D := (dC, dI)) (ci := 0) (v := .int (nI v0.1)) (C := RX0) (T := TX0) (N := 5) hx hb hts i_X0_copyFrom_X0 hown hK hP 5 rfl rfl 4 (by decide) (hts (.fieldLink RX0 25 "BlockTree$Rows" "used" "I") (by decide +kernel)) (fun _ h9 => h9) rfl dX0_copyFrom_70 ?_
  refine va_put (D := (dC, dI)) (ci := 0) (v := .int (nI v0.1)) (ty := .int) (C := RX0) (T := TX0) (N := 5) hx hb hts i_X0_copyFrom_X0 tyX0 tyX0_ok nmX0 hown hK hP hD hS 0 rfl rfl 4 (by decide) (hts (.fieldLink RX0 25 "BlockTree$Rows" "used" "I") (by decide +kernel)) (fun _ h9 => h9) rfl (by decide +kernel) rfl rfl (Nat.le_of_ble_eq_true rfl) dX0_copyFrom_73 (fun H locs hP hD hS => ?_)
  have hP : va_P (dC, dI) vwCl [(r, .inr (0, [.ref a1, .ref a2, .ref a3, .ref a4, .int (nI v0.1)])), (a1, .inl (cL, 150, .inr (.inl (va_cpy v0.2.1 w.2.1 0 0 v0.1)))), (a2, .inl (cI, 150, .inl (va_cpy v0.2.2.1 w.2.2.1 0 0 v0.1))), (a3, .inl (cL, 150, .inr (.inl (va_cpy v0.2.2.2.1 w.2.2.2.1 0 0 v0.1)))), (a4, .inl (cI, 150, .inl (va_cpy v0.2.2.2.2 w.2.2.2.2 0 0 v0.1))), (q, .inr (0, [.ref b1, .ref b2, .ref b3, .ref b4, .int (nI v0.1)])), (b1, .inl (cL, 150, .inr (.inl v0.2.1))), (b2, .inl (cI, 150, .inl v0.2.2.1)), (b3, .inl (cL, 150, .inr (.inl v0.2.2.2.1))), (b4, .inl (cI, 150, .inl v0.2.2.2.2))] H := hP
  have hD : va_D A [(r, .inr (0, [.ref a1, .ref a2, .ref a3, .ref a4, .int (nI v0.1)])), (a1, .inl (cL, 150, .inr (.inl (va_cpy v0.2.1 w.2.1 0 0 v0.1)))), (a2, .inl (cI, 150, .inl (va_cpy v0.2.2.1 w.2.2.1 0 0 v0.1))), (a3, .inl (cL, 150, .inr (.inl (va_cpy v0.2.2.2.1 w.2.2.2.1 0 0 v0.1)))), (a4, .inl (cI, 150, .inl (va_cpy v0.2.2.2.2 w.2.2.2.2 0 0 v0.1))), (q, .inr (0, [.ref b1, .ref b2, .ref b3, .ref b4, .int (nI v0.1)])), (b1, .inl (cL, 150, .inr (.inl v0.2.1))), (b2, .inl (cI, 150, .inl v0.2.2.1)), (b3, .inl (cL, 150, .inr (.inl v0.2.2.2.1))), (b4, .inl (cI, 150, .inl v0.2.2.2.2))] := hD
  exact W.vret hx hb hr (fun t ht hW => ⟨⟨rs_cpy v0 w, rfl, rfl, by rw [ht]; exact hP, hD⟩, hS.F ht⟩) hS.2.2 dX0_copyFrom_76
set_option maxHeartbeats 4000000 in
set_option maxRecDepth 100000 in
/-- set -/
theorem c_set (l : Launch) (dC : Nat → ClassId) (dI : Nat → Nat → Nat) (hz : Nat) (cL cI : ClassId) (r a1 a2 a3 a4 : Nat) (u : Nat) (hd : Nat → Int64) (sz : Nat → Int32) (tx : Nat → Int64) (ln : Nat → Int32) (hu : u ≤ 150) (h : Int64) (t : Int32) (x : Int64) (n : Int32) (j : Nat) (hj : spl u hd sz h t j) (hju : j ≤ u) : Met l yX0_set wsX0_set ({ frames := 3, cells := 0, slots := 0, locals := 70 }) (wrP (dC, dI) (kS cL cI) (rW cL cI r a1 a2 a3 a4 (u, hd, sz, tx, ln)) [.ref r, .long h, .int t, .long x, .int n] hz) (va_Qi (fun (z : Int32) (v : RS) => setQ (u, hd, sz, tx, ln) j h t x n z v) (wrB (dC, dI) (va_A (rW cL cI r a1 a2 a3 a4 (u, hd, sz, tx, ln)) hz) (fun (v : RS) => rW cL cI r a1 a2 a3 a4 v)) (va_A (rW cL cI r a1 a2 a3 a4 (u, hd, sz, tx, ln)) hz)) 0 0 (va_A (rW cL cI r a1 a2 a3 a4 (u, hd, sz, tx, ln)) hz) := by
  refine Met.ofW (cc := cX0_set) (maxL := 8) (ret := some .boolean) (by decide) rfl ?_
  intro p e s m args below meth c s₁ B hml hv
  obtain ⟨rfl, hsz, hP, hK, hD0⟩ := hv
  have hx := B.exec
  have hb := B.bytes
  have hr := B.returns
  have hts := atoms_spec (ws := wsX0_set) B.pre
  have hown : s.vm.findClass RX0 = some m.cls := findClass_of_methodNamed B.named
  have hlocks := B.notSynchronized
  subst hsz
  have hD := hD0.self (sz := s.heap.size)
  generalize hAe : va_A (rW cL cI r a1 a2 a3 a4 (u, hd, sz, tx, ln)) s.heap.size = A at hD ⊢
  have hA : ∀ q : Nat, s.heap.size ≤ q → A q := fun q h => by rw [← hAe]; exact Or.inr h
  have hS : va_S A s.heap s.heap [] := va_S.rf
  have hP : va_P (dC, dI) vwCl [(r, .inr (0, [.ref a1, .ref a2, .ref a3, .ref a4, .int (nI u)])), (a1, .inl (cL, 150, .inr (.inl hd))), (a2, .inl (cI, 150, .inl sz)), (a3, .inl (cL, 150, .inr (.inl tx))), (a4, .inl (cI, 150, .inl ln))] s.heap := hP
  have hD : va_D A [(r, .inr (0, [.ref a1, .ref a2, .ref a3, .ref a4, .int (nI u)])), (a1, .inl (cL, 150, .inr (.inl hd))), (a2, .inl (cI, 150, .inl sz)), (a3, .inl (cL, 150, .inr (.inl tx))), (a4, .inl (cI, 150, .inl ln))] := hD
  have hl := lv_entry ([.ref r, .long h, .int t, .long x, .int n]) (n := 8) (Nat.le_of_ble_eq_true rfl)
  rw [lg_entry_eq]
  generalize (lg_sl ([.ref r, .long h, .int t, .long x, .int n]) ++ List.replicate (8 - (lg_sl ([.ref r, .long h, .int t, .long x, .int n])).length) Slot.unset).toArray = ls at hl ⊢
  have hl : lv_has ls 8 [(0, .ref r), (1, .long h), (3, .int t), (4, .long x), (6, .int n)] := hl
  refine lv_aload_n hx hb dX0_set_0 rfl (lv_at hl 0 rfl) ?_
  refine lv_lload_n hx hb dX0_set_1 rfl (lv_at hl 1 rfl) ?_
  refine lv_iload_n hx hb dX0_set_2 rfl (lv_at hl 2 rfl) ?_
  have hPc := hP.sub (ws' := [(r, .inr (0, [.ref a1, .ref a2, .ref a3, .ref a4, .int (nI u)])), (a1, .inl (cL, 150, .inr (.inl hd))), (a2, .inl (cI, 150, .inl sz))]) [0, 1, 2] rfl
  refine vp_callSi (va_Run.run (va_runV (As := [.long h, .int t]) (rest := []) ⟨hx, hb, hml, hown, hts⟩ (c_firstNotBefore l dC dI cL cI r a1 a2 a3 a4 u hd sz hu h t j hj) (cwV 2 hts gX0_set_X0_firstNotBefore rfl rfl rfl (by decide +kernel) ⟨Nat.le_of_ble_eq_true rfl, Nat.le_of_ble_eq_true rfl⟩) (rd_preV hK hPc (ci := 0) (q0 := 0) rfl rfl) rfl rfl hl.1 rfl (lv_room (Nat.le_of_ble_eq_true rfl)) dX0_set_3 ⟨Nat.le_of_ble_eq_true rfl, Nat.le_of_ble_eq_true rfl⟩)) (fun r1 hr1 => ?_)
  subst hr1
  refine lv_istore (lv' := [(7, .int (nI j)), (0, .ref r), (1, .long h), (3, .int t), (4, .long x), (6, .int n)]) hx hb dX0_set_6 hl (by decide) rfl (fun ls hl => ?_)
  refine lv_aload_n hx hb dX0_set_8 rfl (lv_at hl 1 rfl) ?_
  refine lv_iload hx hb dX0_set_9 (lv_at hl 0 rfl) ?_
  refine lv_lload_n hx hb dX0_set_11 rfl (lv_at hl 2 rfl) ?_
  refine lv_iload_n hx hb dX0_set_12 rfl (lv_at hl 3 rfl) ?_
  have hPc := hP.sub (ws' := [(r, .inr (0, [.ref a1, .ref a2, .ref a3, .ref a4, .int (nI u)])), (a1, .inl (cL, 150, .inr (.inl hd))), (a2, .inl (cI, 150, .inl sz))]) [0, 1, 2] rfl
  refine vp_callSi (va_Run.run (va_runV (As := [.int (nI j), .long h, .int t]) (rest := []) ⟨hx, hb, hml, hown, hts⟩ (c_holds l dC dI cL cI r a1 a2 a3 a4 u hd sz hu (nI j) h t) (cwV 3 hts gX0_set_X0_holds rfl rfl rfl (by decide +kernel) ⟨Nat.le_of_ble_eq_true rfl, Nat.le_of_ble_eq_true rfl⟩) (rd_preV hK hPc (ci := 0) (q0 := 0) rfl rfl) rfl rfl hl.1 rfl (lv_room (Nat.le_of_ble_eq_true rfl)) dX0_set_13 ⟨Nat.le_of_ble_eq_true rfl, Nat.le_of_ble_eq_true rfl⟩)) (fun r2 hr2 => ?_)
  rcases hr2 with ⟨rfl, i, hi, ei, hh1, hh2⟩ | ⟨rfl, hno⟩
  · skip
    obtain rfl : j = i := nI_inj hu hi ei (by omega)
    have hh : hld u hd sz j h t := ⟨hi, hh1, hh2⟩
    have hj150 : j < 150 := by omega
    refine lv_if_ne (tgt := 30) hx hb dX0_set_16 (by decide) (fun c_16 => ?_) (fun c_16 => absurd c_16 (by decide))
    refine lv_aload_n hx hb dX0_set_30 rfl (lv_at hl 1 rfl) ?_
    refine va_get (D := (dC, dI)) (ci := 0) (v := .ref a1) (C := RX0) (T := TX0) (N := 5) hx hb hts i_X0_set_X0 hown hK hP 0 rfl rfl 0 (by decide) (hts (.fieldLink RX0 9 "BlockTree$Rows" "heads" "[J") (by decide +kernel)) (fun _ h9 => h9) rfl dX0_set_31 ?_
    refine lv_iload hx hb dX0_set_34 (lv_at hl 0 rfl) ?_
    refine lv_lload_n hx hb dX0_set_36 rfl (lv_at hl 2 rfl) ?_
    refine va_last hx hb hK hP hD hS 1 0 rfl rfl (vp_in_nI (by omega) (by omega)) dX0_set_37 (fun H locs hP hD hS => ?_)
    rw [show ((nI j)).toNatClampNeg = j from (nI_clamp (by omega))] at hP hD
    have hP : va_P (dC, dI) vwCl [(r, .inr (0, [.ref a1, .ref a2, .ref a3, .ref a4, .int (nI u)])), (a1, .inl (cL, 150, .inr (.inl (vp_updL hd j h)))), (a2, .inl (cI, 150, .inl sz)), (a3, .inl (cL, 150, .inr (.inl tx))), (a4, .inl (cI, 150, .inl ln))] H := hP
    have hD : va_D A [(r, .inr (0, [.ref a1, .ref a2, .ref a3, .ref a4, .int (nI u)])), (a1, .inl (cL, 150, .inr (.inl (vp_updL hd j h)))), (a2, .inl (cI, 150, .inl sz)), (a3, .inl (cL, 150, .inr (.inl tx))), (a4, .inl (cI, 150, .inl ln))] := hD
    refine lv_aload_n hx hb dX0_set_38 rfl (lv_at hl 1 rfl) ?_
    refine va_get (D := (dC, dI)) (ci := 0) (v := .ref a2) (C := RX0) (T := TX0) (N := 5) hx hb hts i_X0_set_X0 hown hK hP 0 rfl rfl 1 (by decide) (hts (.fieldLink RX0 15 "BlockTree$Rows" "sizes" "[I") (by decide +kernel)) (fun _ h9 => h9) rfl dX0_set_39 ?_
    refine lv_iload hx hb dX0_set_42 (lv_at hl 0 rfl) ?_
    refine lv_iload_n hx hb dX0_set_44 rfl (lv_at hl 3 rfl) ?_
    refine va_iast hx hb hK hP hD hS 2 1 rfl rfl (vp_in_nI (by omega) (by omega)) dX0_set_45 (fun H locs hP hD hS => ?_)
    rw [show ((nI j)).toNatClampNeg = j from (nI_clamp (by omega))] at hP hD
    have hP : va_P (dC, dI) vwCl [(r, .inr (0, [.ref a1, .ref a2, .ref a3, .ref a4, .int (nI u)])), (a1, .inl (cL, 150, .inr (.inl (vp_updL hd j h)))), (a2, .inl (cI, 150, .inl (upd sz j t))), (a3, .inl (cL, 150, .inr (.inl tx))), (a4, .inl (cI, 150, .inl ln))] H := hP
    have hD : va_D A [(r, .inr (0, [.ref a1, .ref a2, .ref a3, .ref a4, .int (nI u)])), (a1, .inl (cL, 150, .inr (.inl (vp_updL hd j h)))), (a2, .inl (cI, 150, .inl (upd sz j t))), (a3, .inl (cL, 150, .inr (.inl tx))), (a4, .inl (cI, 150, .inl ln))] := hD
    refine lv_aload_n hx hb dX0_set_46 rfl (lv_at hl 1 rfl) ?_
    refine va_get (D := (dC, dI)) (ci := 0) (v := .ref a3) (C := RX0) (T := TX0) (N := 5) hx hb hts i_X0_set_X0 hown hK hP 0 rfl rfl 2 (by decide) (hts (.fieldLink RX0 19 "BlockTree$Rows" "texts" "[J") (by decide +kernel)) (fun _ h9 => h9) rfl dX0_set_47 ?_
    refine lv_iload hx hb dX0_set_50 (lv_at hl 0 rfl) ?_
    refine lv_lload hx hb dX0_set_52 (lv_at hl 4 rfl) ?_
    refine va_last hx hb hK hP hD hS 3 0 rfl rfl (vp_in_nI (by omega) (by omega)) dX0_set_54 (fun H locs hP hD hS => ?_)
    rw [show ((nI j)).toNatClampNeg = j from (nI_clamp (by omega))] at hP hD
    have hP : va_P (dC, dI) vwCl [(r, .inr (0, [.ref a1, .ref a2, .ref a3, .ref a4, .int (nI u)])), (a1, .inl (cL, 150, .inr (.inl (vp_updL hd j h)))), (a2, .inl (cI, 150, .inl (upd sz j t))), (a3, .inl (cL, 150, .inr (.inl (vp_updL tx j x)))), (a4, .inl (cI, 150, .inl ln))] H := hP
    have hD : va_D A [(r, .inr (0, [.ref a1, .ref a2, .ref a3, .ref a4, .int (nI u)])), (a1, .inl (cL, 150, .inr (.inl (vp_updL hd j h)))), (a2, .inl (cI, 150, .inl (upd sz j t))), (a3, .inl (cL, 150, .inr (.inl (vp_updL tx j x)))), (a4, .inl (cI, 150, .inl ln))] := hD
    refine lv_aload_n hx hb dX0_set_55 rfl (lv_at hl 1 rfl) ?_
    refine va_get (D := (dC, dI)) (ci := 0) (v := .ref a4) (C := RX0) (T := TX0) (N := 5) hx hb hts i_X0_set_X0 hown hK hP 0 rfl rfl 3 (by decide) (hts (.fieldLink RX0 22 "BlockTree$Rows" "lengths" "[I") (by decide +kernel)) (fun _ h9 => h9) rfl dX0_set_56 ?_
    refine lv_iload hx hb dX0_set_59 (lv_at hl 0 rfl) ?_
    refine lv_iload hx hb dX0_set_61 (lv_at hl 5 rfl) ?_
    refine va_iast hx hb hK hP hD hS 4 1 rfl rfl (vp_in_nI (by omega) (by omega)) dX0_set_63 (fun H locs hP hD hS => ?_)
    rw [show ((nI j)).toNatClampNeg = j from (nI_clamp (by omega))] at hP hD
    have hP : va_P (dC, dI) vwCl [(r, .inr (0, [.ref a1, .ref a2, .ref a3, .ref a4, .int (nI u)])), (a1, .inl (cL, 150, .inr (.inl (vp_updL hd j h)))), (a2, .inl (cI, 150, .inl (upd sz j t))), (a3, .inl (cL, 150, .inr (.inl (vp_updL tx j x)))), (a4, .inl (cI, 150, .inl (upd ln j n)))] H := hP
    have hD : va_D A [(r, .inr (0, [.ref a1, .ref a2, .ref a3, .ref a4, .int (nI u)])), (a1, .inl (cL, 150, .inr (.inl (vp_updL hd j h)))), (a2, .inl (cI, 150, .inl (upd sz j t))), (a3, .inl (cL, 150, .inr (.inl (vp_updL tx j x)))), (a4, .inl (cI, 150, .inl (upd ln j n)))] := hD
    refine lv_iconst (v := 1) hx hb dX0_set_64 (by decide) ?_
    exact W.zret (v := 1) hx hb hr (by first | rfl | decide +kernel | assumption) (fun t ht hW => ⟨⟨1, rs_put (u, hd, sz, tx, ln) j h t x n, rfl, Or.inl ⟨hh, rfl, rfl⟩, by rw [ht]; exact hP, hD⟩, hS.F ht⟩) hS.2.2 dX0_set_65
  · skip
    have hh : ¬ hld u hd sz j h t := fun q => hno ⟨j, q.1, rfl, q.2.1, q.2.2⟩
    refine lv_if_ne (tgt := 30) hx hb dX0_set_16 (by decide) (fun c_16 => absurd c_16 (by decide)) (fun c_16 => ?_)
    refine lv_aload_n hx hb dX0_set_19 rfl (lv_at hl 1 rfl) ?_
    refine lv_iload hx hb dX0_set_20 (lv_at hl 0 rfl) ?_
    have hPc := hP.sub (ws' := [(r, .inr (0, [.ref a1, .ref a2, .ref a3, .ref a4, .int (nI u)])), (a1, .inl (cL, 150, .inr (.inl hd))), (a2, .inl (cI, 150, .inl sz)), (a3, .inl (cL, 150, .inr (.inl tx))), (a4, .inl (cI, 150, .inl ln))]) [0, 1, 2, 3, 4] rfl
    have hDc := hD.sub (ws' := [(r, .inr (0, [.ref a1, .ref a2, .ref a3, .ref a4, .int (nI u)])), (a1, .inl (cL, 150, .inr (.inl hd))), (a2, .inl (cI, 150, .inl sz)), (a3, .inl (cL, 150, .inr (.inl tx))), (a4, .inl (cI, 150, .inl ln))]) [0, 1, 2, 3, 4] (by decide) rfl
    refine wr_calli (va_runV (As := [.int (nI j)]) (rest := []) ⟨hx, hb, hml, hown, hts⟩ (c_makeRoom l dC dI _ cL cI r a1 a2 a3 a4 u hd sz tx ln hu j hju) (cwV 1 hts gX0_set_X0_makeRoom rfl rfl rfl (by decide +kernel) ⟨Nat.le_of_ble_eq_true rfl, Nat.le_of_ble_eq_true rfl⟩) (wr_preV hK hPc hDc (ci := 0) (q0 := 0) rfl rfl) rfl rfl hl.1 rfl (lv_room (Nat.le_of_ble_eq_true rfl)) dX0_set_22 ⟨Nat.le_of_ble_eq_true rfl, Nat.le_of_ble_eq_true rfl⟩) hP hD hS hA [0, 1, 2, 3, 4] [] rfl rfl (by decide) (by decide) (fun r3 u_ H locs hr3 hP hD hS => ?_)
    have hP := hP.sub (ws' := [(r, .inr (0, [.ref a1, .ref a2, .ref a3, .ref a4, .int (nI u_.1)])), (a1, .inl (cL, 150, .inr (.inl u_.2.1))), (a2, .inl (cI, 150, .inl u_.2.2.1)), (a3, .inl (cL, 150, .inr (.inl u_.2.2.2.1))), (a4, .inl (cI, 150, .inl u_.2.2.2.2))]) [0, 1, 2, 3, 4] rfl
    have hD := hD.sub (ws' := [(r, .inr (0, [.ref a1, .ref a2, .ref a3, .ref a4, .int (nI u_.1)])), (a1, .inl (cL, 150, .inr (.inl u_.2.1))), (a2, .inl (cI, 150, .inl u_.2.2.1)), (a3, .inl (cL, 150, .inr (.inl u_.2.2.2.1))), (a4, .inl (cI, 150, .inl u_.2.2.2.2))]) [0, 1, 2, 3, 4] (by decide) rfl
    rcases hr3 with ⟨hlt, rfl, rfl⟩ | ⟨hlt, rfl, rfl⟩
    · skip
      have hj150 : j < 150 := by omega
      have hP : va_P (dC, dI) vwCl [(r, .inr (0, [.ref a1, .ref a2, .ref a3, .ref a4, .int (nI (u + 1))])), (a1, .inl (cL, 150, .inr (.inl (opn hd j u)))), (a2, .inl (cI, 150, .inl (opn sz j u))), (a3, .inl (cL, 150, .inr (.inl (opn tx j u)))), (a4, .inl (cI, 150, .inl (opn ln j u)))] H := hP
      have hD : va_D A [(r, .inr (0, [.ref a1, .ref a2, .ref a3, .ref a4, .int (nI (u + 1))])), (a1, .inl (cL, 150, .inr (.inl (opn hd j u)))), (a2, .inl (cI, 150, .inl (opn sz j u))), (a3, .inl (cL, 150, .inr (.inl (opn tx j u)))), (a4, .inl (cI, 150, .inl (opn ln j u)))] := hD
      refine lv_if_ne (tgt := 30) hx hb dX0_set_25 (by decide) (fun c_25 => ?_) (fun c_25 => absurd c_25 (by decide))
      refine lv_aload_n hx hb dX0_set_30 rfl (lv_at hl 1 rfl) ?_
      refine va_get (D := (dC, dI)) (ci := 0) (v := .ref a1) (C := RX0) (T := TX0) (N := 5) hx hb hts i_X0_set_X0 hown hK hP 0 rfl rfl 0 (by decide) (hts (.fieldLink RX0 9 "BlockTree$Rows" "heads" "[J") (by decide +kernel)) (fun _ h9 => h9) rfl dX0_set_31 ?_
      refine lv_iload hx hb dX0_set_34 (lv_at hl 0 rfl) ?_
      refine lv_lload_n hx hb dX0_set_36 rfl (lv_at hl 2 rfl) ?_
      refine va_last hx hb hK hP hD hS 1 0 rfl rfl (vp_in_nI (by omega) (by omega)) dX0_set_37 (fun H locs hP hD hS => ?_)
      rw [show ((nI j)).toNatClampNeg = j from (nI_clamp (by omega))] at hP hD
      have hP : va_P (dC, dI) vwCl [(r, .inr (0, [.ref a1, .ref a2, .ref a3, .ref a4, .int (nI (u + 1))])), (a1, .inl (cL, 150, .inr (.inl (vp_updL (opn hd j u) j h)))), (a2, .inl (cI, 150, .inl (opn sz j u))), (a3, .inl (cL, 150, .inr (.inl (opn tx j u)))), (a4, .inl (cI, 150, .inl (opn ln j u)))] H := hP
      have hD : va_D A [(r, .inr (0, [.ref a1, .ref a2, .ref a3, .ref a4, .int (nI (u + 1))])), (a1, .inl (cL, 150, .inr (.inl (vp_updL (opn hd j u) j h)))), (a2, .inl (cI, 150, .inl (opn sz j u))), (a3, .inl (cL, 150, .inr (.inl (opn tx j u)))), (a4, .inl (cI, 150, .inl (opn ln j u)))] := hD
      refine lv_aload_n hx hb dX0_set_38 rfl (lv_at hl 1 rfl) ?_
      refine va_get (D := (dC, dI)) (ci := 0) (v := .ref a2) (C := RX0) (T := TX0) (N := 5) hx hb hts i_X0_set_X0 hown hK hP 0 rfl rfl 1 (by decide) (hts (.fieldLink RX0 15 "BlockTree$Rows" "sizes" "[I") (by decide +kernel)) (fun _ h9 => h9) rfl dX0_set_39 ?_
      refine lv_iload hx hb dX0_set_42 (lv_at hl 0 rfl) ?_
      refine lv_iload_n hx hb dX0_set_44 rfl (lv_at hl 3 rfl) ?_
      refine va_iast hx hb hK hP hD hS 2 1 rfl rfl (vp_in_nI (by omega) (by omega)) dX0_set_45 (fun H locs hP hD hS => ?_)
      rw [show ((nI j)).toNatClampNeg = j from (nI_clamp (by omega))] at hP hD
      have hP : va_P (dC, dI) vwCl [(r, .inr (0, [.ref a1, .ref a2, .ref a3, .ref a4, .int (nI (u + 1))])), (a1, .inl (cL, 150, .inr (.inl (vp_updL (opn hd j u) j h)))), (a2, .inl (cI, 150, .inl (upd (opn sz j u) j t))), (a3, .inl (cL, 150, .inr (.inl (opn tx j u)))), (a4, .inl (cI, 150, .inl (opn ln j u)))] H := hP
      have hD : va_D A [(r, .inr (0, [.ref a1, .ref a2, .ref a3, .ref a4, .int (nI (u + 1))])), (a1, .inl (cL, 150, .inr (.inl (vp_updL (opn hd j u) j h)))), (a2, .inl (cI, 150, .inl (upd (opn sz j u) j t))), (a3, .inl (cL, 150, .inr (.inl (opn tx j u)))), (a4, .inl (cI, 150, .inl (opn ln j u)))] := hD
      refine lv_aload_n hx hb dX0_set_46 rfl (lv_at hl 1 rfl) ?_
      refine va_get (D := (dC, dI)) (ci := 0) (v := .ref a3) (C := RX0) (T := TX0) (N := 5) hx hb hts i_X0_set_X0 hown hK hP 0 rfl rfl 2 (by decide) (hts (.fieldLink RX0 19 "BlockTree$Rows" "texts" "[J") (by decide +kernel)) (fun _ h9 => h9) rfl dX0_set_47 ?_
      refine lv_iload hx hb dX0_set_50 (lv_at hl 0 rfl) ?_
      refine lv_lload hx hb dX0_set_52 (lv_at hl 4 rfl) ?_
      refine va_last hx hb hK hP hD hS 3 0 rfl rfl (vp_in_nI (by omega) (by omega)) dX0_set_54 (fun H locs hP hD hS => ?_)
      rw [show ((nI j)).toNatClampNeg = j from (nI_clamp (by omega))] at hP hD
      have hP : va_P (dC, dI) vwCl [(r, .inr (0, [.ref a1, .ref a2, .ref a3, .ref a4, .int (nI (u + 1))])), (a1, .inl (cL, 150, .inr (.inl (vp_updL (opn hd j u) j h)))), (a2, .inl (cI, 150, .inl (upd (opn sz j u) j t))), (a3, .inl (cL, 150, .inr (.inl (vp_updL (opn tx j u) j x)))), (a4, .inl (cI, 150, .inl (opn ln j u)))] H := hP
      have hD : va_D A [(r, .inr (0, [.ref a1, .ref a2, .ref a3, .ref a4, .int (nI (u + 1))])), (a1, .inl (cL, 150, .inr (.inl (vp_updL (opn hd j u) j h)))), (a2, .inl (cI, 150, .inl (upd (opn sz j u) j t))), (a3, .inl (cL, 150, .inr (.inl (vp_updL (opn tx j u) j x)))), (a4, .inl (cI, 150, .inl (opn ln j u)))] := hD
      refine lv_aload_n hx hb dX0_set_55 rfl (lv_at hl 1 rfl) ?_
      refine va_get (D := (dC, dI)) (ci := 0) (v := .ref a4) (C := RX0) (T := TX0) (N := 5) hx hb hts i_X0_set_X0 hown hK hP 0 rfl rfl 3 (by decide) (hts (.fieldLink RX0 22 "BlockTree$Rows" "lengths" "[I") (by decide +kernel)) (fun _ h9 => h9) rfl dX0_set_56 ?_
      refine lv_iload hx hb dX0_set_59 (lv_at hl 0 rfl) ?_
      refine lv_iload hx hb dX0_set_61 (lv_at hl 5 rfl) ?_
      refine va_iast hx hb hK hP hD hS 4 1 rfl rfl (vp_in_nI (by omega) (by omega)) dX0_set_63 (fun H locs hP hD hS => ?_)
      rw [show ((nI j)).toNatClampNeg = j from (nI_clamp (by omega))] at hP hD
      have hP : va_P (dC, dI) vwCl [(r, .inr (0, [.ref a1, .ref a2, .ref a3, .ref a4, .int (nI (u + 1))])), (a1, .inl (cL, 150, .inr (.inl (vp_updL (opn hd j u) j h)))), (a2, .inl (cI, 150, .inl (upd (opn sz j u) j t))), (a3, .inl (cL, 150, .inr (.inl (vp_updL (opn tx j u) j x)))), (a4, .inl (cI, 150, .inl (upd (opn ln j u) j n)))] H := hP
      have hD : va_D A [(r, .inr (0, [.ref a1, .ref a2, .ref a3, .ref a4, .int (nI (u + 1))])), (a1, .inl (cL, 150, .inr (.inl (vp_updL (opn hd j u) j h)))), (a2, .inl (cI, 150, .inl (upd (opn sz j u) j t))), (a3, .inl (cL, 150, .inr (.inl (vp_updL (opn tx j u) j x)))), (a4, .inl (cI, 150, .inl (upd (opn ln j u) j n)))] := hD
      refine lv_iconst (v := 1) hx hb dX0_set_64 (by decide) ?_
      exact W.zret (v := 1) hx hb hr (by first | rfl | decide +kernel | assumption) (fun t ht hW => ⟨⟨1, rs_put (rs_opn (u, hd, sz, tx, ln) j) j h t x n, rfl, Or.inr (Or.inl ⟨hh, hlt, rfl, rfl⟩), by rw [ht]; exact hP, hD⟩, hS.F ht⟩) hS.2.2 dX0_set_65
    · skip
      have hP : va_P (dC, dI) vwCl [(r, .inr (0, [.ref a1, .ref a2, .ref a3, .ref a4, .int (nI u)])), (a1, .inl (cL, 150, .inr (.inl hd))), (a2, .inl (cI, 150, .inl sz)), (a3, .inl (cL, 150, .inr (.inl tx))), (a4, .inl (cI, 150, .inl ln))] H := hP
      have hD : va_D A [(r, .inr (0, [.ref a1, .ref a2, .ref a3, .ref a4, .int (nI u)])), (a1, .inl (cL, 150, .inr (.inl hd))), (a2, .inl (cI, 150, .inl sz)), (a3, .inl (cL, 150, .inr (.inl tx))), (a4, .inl (cI, 150, .inl ln))] := hD
      refine lv_if_ne (tgt := 30) hx hb dX0_set_25 (by decide) (fun c_25 => absurd c_25 (by decide)) (fun c_25 => ?_)
      refine lv_iconst (v := 0) hx hb dX0_set_28 (by decide) ?_
      exact W.zret (v := 0) hx hb hr (by first | rfl | decide +kernel | assumption) (fun t ht hW => ⟨⟨0, (u, hd, sz, tx, ln), rfl, Or.inr (Or.inr ⟨hh, hlt, rfl, rfl⟩), by rw [ht]; exact hP, hD⟩, hS.F ht⟩) hS.2.2 dX0_set_29
set_option maxHeartbeats 4000000 in
set_option maxRecDepth 100000 in
/-- Rows() -/
theorem c_Rows_init (l : Launch) (dC : Nat → ClassId) (dI : Nat → Nat → Nat) (hz : Nat) (cL cI : ClassId) (r : Nat) : Met l yX0_init wsX0_init ({ frames := 1, cells := 4, slots := 600, locals := 20 }) (wrP (dC, dI) (kS cL cI) ([(r, .inr (0, [.null, .null, .null, .null, .int 0]))]) [.ref r] hz) (va_Qv (fun (v : Nat × Nat × Nat × Nat) => True) (wrB (dC, dI) (va_A ([(r, .inr (0, [.null, .null, .null, .null, .int 0]))]) hz) (fun (v : Nat × Nat × Nat × Nat) => rW cL cI r v.1 v.2.1 v.2.2.1 v.2.2.2 rs_0)) (va_A ([(r, .inr (0, [.null, .null, .null, .null, .int 0]))]) hz)) 4 600 (va_A ([(r, .inr (0, [.null, .null, .null, .null, .int 0]))]) hz) := by
  refine Met.ofW (cc := cX0_init) (maxL := 1) (ret := none) (by decide) rfl ?_
  intro p e s m args below meth c s₁ B hml hv
  obtain ⟨rfl, hsz, hP, hK, hD0⟩ := hv
  have hx := B.exec
  have hb := B.bytes
  have hr := B.returns
  have hts := atoms_spec (ws := wsX0_init) B.pre
  have hown : s.vm.findClass RX0 = some m.cls := findClass_of_methodNamed B.named
  have hlocks := B.notSynchronized
  have hin : meth.name = "<init>" := (name_of_methodNamed B.named B.method).1
  subst hsz
  have hD := hD0.self (sz := s.heap.size)
  generalize hAe : va_A ([(r, .inr (0, [.null, .null, .null, .null, .int 0]))]) s.heap.size = A at hD ⊢
  have hA : ∀ q : Nat, s.heap.size ≤ q → A q := fun q h => by rw [← hAe]; exact Or.inr h
  have hS : va_S A s.heap s.heap [] := va_S.rf
  have hP : va_P (dC, dI) vwCl [(r, .inr (0, [.null, .null, .null, .null, .int 0]))] s.heap := hP
  have hD : va_D A [(r, .inr (0, [.null, .null, .null, .null, .int 0]))] := hD
  have hl := lv_entry ([.ref r]) (n := 1) (Nat.le_of_ble_eq_true rfl)
  rw [lg_entry_eq]
  generalize (lg_sl ([.ref r]) ++ List.replicate (1 - (lg_sl ([.ref r])).length) Slot.unset).toArray = ls at hl ⊢
  have hl : lv_has ls 1 [(0, .ref r)] := hl
  refine lv_aload_n hx hb dX0_init_0 rfl (lv_at hl 0 rfl) ?_
  refine W.objInit hx hb hown (hts (.methodLink RX0 3 objectInit) (by decide +kernel)) (hts (.instanceMethod objectInit) (by decide +kernel)) (hts _ (List.mem_cons_of_mem _ (List.mem_append_left _ (List.mem_of_getElem? (i := 2) rfl)))) rfl (by rw [hml]; exact hl.1) rfl dX0_init_1 (Nat.le_of_ble_eq_true rfl) (Nat.le_of_ble_eq_true rfl) ?_
  refine W.eq (g2 := F0 m 4 ls []) rfl ?_
  refine lv_aload_n hx hb dX0_init_4 rfl (lv_at hl 0 rfl) ?_
  refine lv_sipush (v := 150) hx hb dX0_init_5 (by decide) ?_
  refine va_newa (ty := .long) (N' := 150) (a0 := (150, .inr (.inl (fun _ => 0)))) hx hb (hts (.arrayClass .long) (by decide +kernel)) rfl hK hP hD hS hA (fun _ => rfl) (by decide) (by decide) (by decide) (by decide) (by decide) dX0_init_8 (fun a1 cA_a1 H hKn hP hD hS => ?_)
  obtain rfl : cL = cA_a1 := ka_long hKn hK 2 0 rfl rfl
  have hP : va_P (dC, dI) vwCl [(r, .inr (0, [.null, .null, .null, .null, .int 0])), (a1, .inl (cL, 150, .inr (.inl (fun _ => 0))))] H := hP
  have hD : va_D A [(r, .inr (0, [.null, .null, .null, .null, .int 0])), (a1, .inl (cL, 150, .inr (.inl (fun _ => 0))))] := hD
  refine W.widen (k := 1) (n := 150) (by omega) (by omega) ?_
  refine va_putF (D := (dC, dI)) (ci := 0) (v := .ref a1) (ty := .array .long) (C := RX0) (T := TX0) (N := 5) hx hb hts i_X0_init_X0 tyX0 tyX0_ok nmX0 hown hK hP hD hS 0 rfl rfl 0 (by decide) (hts (.fieldLink RX0 9 "BlockTree$Rows" "heads" "[J") (by decide +kernel)) (fun _ h9 => h9) rfl hin rfl (by decide +kernel) rfl rfl (Nat.le_of_ble_eq_true rfl) dX0_init_10 (fun H locs hP hD hS => ?_)
  have hP : va_P (dC, dI) vwCl [(r, .inr (0, [.ref a1, .null, .null, .null, .int 0])), (a1, .inl (cL, 150, .inr (.inl (fun _ => 0))))] H := hP
  have hD : va_D A [(r, .inr (0, [.ref a1, .null, .null, .null, .int 0])), (a1, .inl (cL, 150, .inr (.inl (fun _ => 0))))] := hD
  refine lv_aload_n hx hb dX0_init_13 rfl (lv_at hl 0 rfl) ?_
  refine lv_sipush (v := 150) hx hb dX0_init_14 (by decide) ?_
  refine va_newa (ty := .int) (N' := 150) (a0 := (150, .inl (fun _ => 0))) hx hb (hts (.arrayClass .int) (by decide +kernel)) rfl hK hP hD hS hA (fun _ => rfl) (by decide) (by decide) (by decide) (by decide) (by decide) dX0_init_17 (fun a2 cA_a2 H hKn hP hD hS => ?_)
  obtain rfl : cI = cA_a2 := ka_int hKn hK 2 1 rfl rfl
  have hP : va_P (dC, dI) vwCl [(r, .inr (0, [.ref a1, .null, .null, .null, .int 0])), (a1, .inl (cL, 150, .inr (.inl (fun _ => 0)))), (a2, .inl (cI, 150, .inl (fun _ => 0)))] H := hP
  have hD : va_D A [(r, .inr (0, [.ref a1, .null, .null, .null, .int 0])), (a1, .inl (cL, 150, .inr (.inl (fun _ => 0)))), (a2, .inl (cI, 150, .inl (fun _ => 0)))] := hD
  refine W.widen (k := 2) (n := 300) (by omega) (by omega) ?_
  refine va_putF (D := (dC, dI)) (ci := 0) (v := .ref a2) (ty := .array .int) (C := RX0) (T := TX0) (N := 5) hx hb hts i_X0_init_X0 tyX0 tyX0_ok nmX0 hown hK hP hD hS 0 rfl rfl 1 (by decide) (hts (.fieldLink RX0 15 "BlockTree$Rows" "sizes" "[I") (by decide +kernel)) (fun _ h9 => h9) rfl hin rfl (by decide +kernel) rfl rfl (Nat.le_of_ble_eq_true rfl) dX0_init_19 (fun H locs hP hD hS => ?_)
  have hP : va_P (dC, dI) vwCl [(r, .inr (0, [.ref a1, .ref a2, .null, .null, .int 0])), (a1, .inl (cL, 150, .inr (.inl (fun _ => 0)))), (a2, .inl (cI, 150, .inl (fun _ => 0)))] H := hP
  have hD : va_D A [(r, .inr (0, [.ref a1, .ref a2, .null, .null, .int 0])), (a1, .inl (cL, 150, .inr (.inl (fun _ => 0)))), (a2, .inl (cI, 150, .inl (fun _ => 0)))] := hD
  refine lv_aload_n hx hb dX0_init_22 rfl (lv_at hl 0 rfl) ?_
  refine lv_sipush (v := 150) hx hb dX0_init_23 (by decide) ?_
  refine va_newa (ty := .long) (N' := 150) (a0 := (150, .inr (.inl (fun _ => 0)))) hx hb (hts (.arrayClass .long) (by decide +kernel)) rfl hK hP hD hS hA (fun _ => rfl) (by decide) (by decide) (by decide) (by decide) (by decide) dX0_init_26 (fun a3 cA_a3 H hKn hP hD hS => ?_)
  obtain rfl : cL = cA_a3 := ka_long hKn hK 2 0 rfl rfl
  have hP : va_P (dC, dI) vwCl [(r, .inr (0, [.ref a1, .ref a2, .null, .null, .int 0])), (a1, .inl (cL, 150, .inr (.inl (fun _ => 0)))), (a2, .inl (cI, 150, .inl (fun _ => 0))), (a3, .inl (cL, 150, .inr (.inl (fun _ => 0))))] H := hP
  have hD : va_D A [(r, .inr (0, [.ref a1, .ref a2, .null, .null, .int 0])), (a1, .inl (cL, 150, .inr (.inl (fun _ => 0)))), (a2, .inl (cI, 150, .inl (fun _ => 0))), (a3, .inl (cL, 150, .inr (.inl (fun _ => 0))))] := hD
  refine W.widen (k := 3) (n := 450) (by omega) (by omega) ?_
  refine va_putF (D := (dC, dI)) (ci := 0) (v := .ref a3) (ty := .array .long) (C := RX0) (T := TX0) (N := 5) hx hb hts i_X0_init_X0 tyX0 tyX0_ok nmX0 hown hK hP hD hS 0 rfl rfl 2 (by decide) (hts (.fieldLink RX0 19 "BlockTree$Rows" "texts" "[J") (by decide +kernel)) (fun _ h9 => h9) rfl hin rfl (by decide +kernel) rfl rfl (Nat.le_of_ble_eq_true rfl) dX0_init_28 (fun H locs hP hD hS => ?_)
  have hP : va_P (dC, dI) vwCl [(r, .inr (0, [.ref a1, .ref a2, .ref a3, .null, .int 0])), (a1, .inl (cL, 150, .inr (.inl (fun _ => 0)))), (a2, .inl (cI, 150, .inl (fun _ => 0))), (a3, .inl (cL, 150, .inr (.inl (fun _ => 0))))] H := hP
  have hD : va_D A [(r, .inr (0, [.ref a1, .ref a2, .ref a3, .null, .int 0])), (a1, .inl (cL, 150, .inr (.inl (fun _ => 0)))), (a2, .inl (cI, 150, .inl (fun _ => 0))), (a3, .inl (cL, 150, .inr (.inl (fun _ => 0))))] := hD
  refine lv_aload_n hx hb dX0_init_31 rfl (lv_at hl 0 rfl) ?_
  refine lv_sipush (v := 150) hx hb dX0_init_32 (by decide) ?_
  refine va_newa (ty := .int) (N' := 150) (a0 := (150, .inl (fun _ => 0))) hx hb (hts (.arrayClass .int) (by decide +kernel)) rfl hK hP hD hS hA (fun _ => rfl) (by decide) (by decide) (by decide) (by decide) (by decide) dX0_init_35 (fun a4 cA_a4 H hKn hP hD hS => ?_)
  obtain rfl : cI = cA_a4 := ka_int hKn hK 2 1 rfl rfl
  have hP : va_P (dC, dI) vwCl [(r, .inr (0, [.ref a1, .ref a2, .ref a3, .null, .int 0])), (a1, .inl (cL, 150, .inr (.inl (fun _ => 0)))), (a2, .inl (cI, 150, .inl (fun _ => 0))), (a3, .inl (cL, 150, .inr (.inl (fun _ => 0)))), (a4, .inl (cI, 150, .inl (fun _ => 0)))] H := hP
  have hD : va_D A [(r, .inr (0, [.ref a1, .ref a2, .ref a3, .null, .int 0])), (a1, .inl (cL, 150, .inr (.inl (fun _ => 0)))), (a2, .inl (cI, 150, .inl (fun _ => 0))), (a3, .inl (cL, 150, .inr (.inl (fun _ => 0)))), (a4, .inl (cI, 150, .inl (fun _ => 0)))] := hD
  refine W.widen (k := 4) (n := 600) (by omega) (by omega) ?_
  refine va_putF (D := (dC, dI)) (ci := 0) (v := .ref a4) (ty := .array .int) (C := RX0) (T := TX0) (N := 5) hx hb hts i_X0_init_X0 tyX0 tyX0_ok nmX0 hown hK hP hD hS 0 rfl rfl 3 (by decide) (hts (.fieldLink RX0 22 "BlockTree$Rows" "lengths" "[I") (by decide +kernel)) (fun _ h9 => h9) rfl hin rfl (by decide +kernel) rfl rfl (Nat.le_of_ble_eq_true rfl) dX0_init_37 (fun H locs hP hD hS => ?_)
  have hP : va_P (dC, dI) vwCl [(r, .inr (0, [.ref a1, .ref a2, .ref a3, .ref a4, .int 0])), (a1, .inl (cL, 150, .inr (.inl (fun _ => 0)))), (a2, .inl (cI, 150, .inl (fun _ => 0))), (a3, .inl (cL, 150, .inr (.inl (fun _ => 0)))), (a4, .inl (cI, 150, .inl (fun _ => 0)))] H := hP
  have hD : va_D A [(r, .inr (0, [.ref a1, .ref a2, .ref a3, .ref a4, .int 0])), (a1, .inl (cL, 150, .inr (.inl (fun _ => 0)))), (a2, .inl (cI, 150, .inl (fun _ => 0))), (a3, .inl (cL, 150, .inr (.inl (fun _ => 0)))), (a4, .inl (cI, 150, .inl (fun _ => 0)))] := hD
  refine lv_aload_n hx hb dX0_init_40 rfl (lv_at hl 0 rfl) ?_
  refine lv_iconst (v := 0) hx hb dX0_init_41 (by decide) ?_
  refine va_put (D := (dC, dI)) (ci := 0) (v := .int 0) (ty := .int) (C := RX0) (T := TX0) (N := 5) hx hb hts i_X0_init_X0 tyX0 tyX0_ok nmX0 hown hK hP hD hS 0 rfl rfl 4 (by decide) (hts (.fieldLink RX0 25 "BlockTree$Rows" "used" "I") (by decide +kernel)) (fun _ h9 => h9) rfl (by decide +kernel) rfl rfl (Nat.le_of_ble_eq_true rfl) dX0_init_42 (fun H locs hP hD hS => ?_)
  have hP : va_P (dC, dI) vwCl [(r, .inr (0, [.ref a1, .ref a2, .ref a3, .ref a4, .int 0])), (a1, .inl (cL, 150, .inr (.inl (fun _ => 0)))), (a2, .inl (cI, 150, .inl (fun _ => 0))), (a3, .inl (cL, 150, .inr (.inl (fun _ => 0)))), (a4, .inl (cI, 150, .inl (fun _ => 0)))] H := hP
  have hD : va_D A [(r, .inr (0, [.ref a1, .ref a2, .ref a3, .ref a4, .int 0])), (a1, .inl (cL, 150, .inr (.inl (fun _ => 0)))), (a2, .inl (cI, 150, .inl (fun _ => 0))), (a3, .inl (cL, 150, .inr (.inl (fun _ => 0)))), (a4, .inl (cI, 150, .inl (fun _ => 0)))] := hD
  exact W.vret hx hb hr (fun t ht hW => ⟨⟨(a1, a2, a3, a4), rfl, trivial, by rw [ht]; exact hP, hD⟩, hS.F ht⟩) hS.2.2 dX0_init_45
