/-! ROWS: what writes -/
set_option maxHeartbeats 4000000 in
set_option maxRecDepth 100000 in
/-- move -/
theorem c_move (l : Launch) (dC : Nat → ClassId) (dI : Nat → Nat → Nat) (hz : Nat) (cL cI : ClassId) (r a1 a2 a3 a4 : Nat) (u : Nat) (hd : Nat → Int64) (sz : Nat → Int32) (tx : Nat → Int64) (ln : Nat → Int32) (a b n : Nat) (ha : a + n ≤ 150) (hbn : b + n ≤ 150) : Met l yX0_move wsX0_move ({ frames := 1, cells := 0, slots := 0, locals := 26 }) (wrP (dC, dI) (kS cL cI) (rW cL cI r a1 a2 a3 a4 (u, hd, sz, tx, ln)) [.ref r, .int (nI a), .int (nI b), .int (nI n)] hz) (va_Qv (fun (v : RS) => v = (u, va_cpy hd hd a b n, va_cpy sz sz a b n, va_cpy tx tx a b n, va_cpy ln ln a b n)) (wrB (dC, dI) (va_A (rW cL cI r a1 a2 a3 a4 (u, hd, sz, tx, ln)) hz) (fun (v : RS) => rW cL cI r a1 a2 a3 a4 v)) (va_A (rW cL cI r a1 a2 a3 a4 (u, hd, sz, tx, ln)) hz)) 0 0 (va_A (rW cL cI r a1 a2 a3 a4 (u, hd, sz, tx, ln)) hz) := by
  refine Met.ofW (cc := cX0_move) (maxL := 4) (ret := none) (by decide) rfl ?_
  intro p e s m args below meth c s₁ B hml hv
  obtain ⟨rfl, hsz, hP, hK, hD0⟩ := hv
  have hx := B.exec
  have hb := B.bytes
  have hr := B.returns
  have hts := atoms_spec (ws := wsX0_move) B.pre
  have hown : s.vm.findClass RX0 = some m.cls := findClass_of_methodNamed B.named
  have hlocks := B.notSynchronized
  subst hsz
  have hD := hD0.self (sz := s.heap.size)
  generalize hAe : va_A (rW cL cI r a1 a2 a3 a4 (u, hd, sz, tx, ln)) s.heap.size = A at hD ⊢
  have hA : ∀ q : Nat, s.heap.size ≤ q → A q := fun q h => by rw [← hAe]; exact Or.inr h
  have hS : va_S A s.heap s.heap [] := va_S.rf
  replace hP : va_P (dC, dI) vwCl [(r, .inr (0, [.ref a1, .ref a2, .ref a3, .ref a4, .int (nI u)])), (a1, .inl (cL, 150, .inr (.inl hd))), (a2, .inl (cI, 150, .inl sz)), (a3, .inl (cL, 150, .inr (.inl tx))), (a4, .inl (cI, 150, .inl ln))] s.heap := hP
  replace hD : va_D A [(r, .inr (0, [.ref a1, .ref a2, .ref a3, .ref a4, .int (nI u)])), (a1, .inl (cL, 150, .inr (.inl hd))), (a2, .inl (cI, 150, .inl sz)), (a3, .inl (cL, 150, .inr (.inl tx))), (a4, .inl (cI, 150, .inl ln))] := hD
  have hl := lv_entry ([.ref r, .int (nI a), .int (nI b), .int (nI n)]) (n := 4) (Nat.le_of_ble_eq_true rfl)
  rw [lg_entry_eq]
  generalize (lg_sl ([.ref r, .int (nI a), .int (nI b), .int (nI n)]) ++ List.replicate (4 - (lg_sl ([.ref r, .int (nI a), .int (nI b), .int (nI n)])).length) Slot.unset).toArray = ls at hl ⊢
  replace hl : lv_has ls 4 [(0, .ref r), (1, .int (nI a)), (2, .int (nI b)), (3, .int (nI n))] := hl
  refine lv_aload_n hx hb dX0_move_0 rfl (lv_at hl 0 rfl) ?_
  refine va_get (D := (dC, dI)) (ci := 0) (v := .ref a1) (C := RX0) (T := TX0) (N := 5) hx hb hts i_X0_move_X0 hown hK hP 0 rfl rfl 0 (by decide) (hts (.fieldLink RX0 9 "BlockTree$Rows" "heads" "[J") (by decide +kernel)) (fun _ h9 => h9) rfl dX0_move_1 ?_
  refine lv_iload_n hx hb dX0_move_4 rfl (lv_at hl 1 rfl) ?_
  refine lv_aload_n hx hb dX0_move_5 rfl (lv_at hl 0 rfl) ?_
  refine va_get (D := (dC, dI)) (ci := 0) (v := .ref a1) (C := RX0) (T := TX0) (N := 5) hx hb hts i_X0_move_X0 hown hK hP 0 rfl rfl 0 (by decide) (hts (.fieldLink RX0 9 "BlockTree$Rows" "heads" "[J") (by decide +kernel)) (fun _ h9 => h9) rfl dX0_move_6 ?_
  refine lv_iload_n hx hb dX0_move_9 rfl (lv_at hl 2 rfl) ?_
  refine lv_iload_n hx hb dX0_move_10 rfl (lv_at hl 3 rfl) ?_
  refine va_copyl hx hb (by rw [hml]; exact hl.1.symm) hown (hts (.methodLink RX0 53 arraycopyName) (by decide +kernel)) (hts (.native arraycopyName) (by decide +kernel)) (hts (.static arraycopyName) (by decide +kernel)) (hts (.initialized "java/lang/System") (by decide +kernel)) hK hP hD hS 1 1 0 0 rfl rfl rfl rfl rfl (nI_pos (by omega)) (nI_pos (by omega)) (nI_pos (by omega)) (by rw [nI_clamp (show a < 2 ^ 31 by omega), nI_clamp (show n < 2 ^ 31 by omega)]; omega) (by rw [nI_clamp (show b < 2 ^ 31 by omega), nI_clamp (show n < 2 ^ 31 by omega)]; omega) (fun _ _ => rfl) (Nat.le_of_ble_eq_true rfl) (Nat.le_of_ble_eq_true rfl) dX0_move_11 (fun H locs hP hD hS => ?_)
  rw [nI_clamp (show a < 2 ^ 31 by omega), nI_clamp (show b < 2 ^ 31 by omega), nI_clamp (show n < 2 ^ 31 by omega)] at hP hD
  replace hP : va_P (dC, dI) vwCl [(r, .inr (0, [.ref a1, .ref a2, .ref a3, .ref a4, .int (nI u)])), (a1, .inl (cL, 150, .inr (.inl (va_cpy hd hd a b n)))), (a2, .inl (cI, 150, .inl sz)), (a3, .inl (cL, 150, .inr (.inl tx))), (a4, .inl (cI, 150, .inl ln))] H := hP
  replace hD : va_D A [(r, .inr (0, [.ref a1, .ref a2, .ref a3, .ref a4, .int (nI u)])), (a1, .inl (cL, 150, .inr (.inl (va_cpy hd hd a b n)))), (a2, .inl (cI, 150, .inl sz)), (a3, .inl (cL, 150, .inr (.inl tx))), (a4, .inl (cI, 150, .inl ln))] := hD
  refine lv_aload_n hx hb dX0_move_14 rfl (lv_at hl 0 rfl) ?_
  refine va_get (D := (dC, dI)) (ci := 0) (v := .ref a2) (C := RX0) (T := TX0) (N := 5) hx hb hts i_X0_move_X0 hown hK hP 0 rfl rfl 1 (by decide) (hts (.fieldLink RX0 15 "BlockTree$Rows" "sizes" "[I") (by decide +kernel)) (fun _ h9 => h9) rfl dX0_move_15 ?_
  refine lv_iload_n hx hb dX0_move_18 rfl (lv_at hl 1 rfl) ?_
  refine lv_aload_n hx hb dX0_move_19 rfl (lv_at hl 0 rfl) ?_
  refine va_get (D := (dC, dI)) (ci := 0) (v := .ref a2) (C := RX0) (T := TX0) (N := 5) hx hb hts i_X0_move_X0 hown hK hP 0 rfl rfl 1 (by decide) (hts (.fieldLink RX0 15 "BlockTree$Rows" "sizes" "[I") (by decide +kernel)) (fun _ h9 => h9) rfl dX0_move_20 ?_
  refine lv_iload_n hx hb dX0_move_23 rfl (lv_at hl 2 rfl) ?_
  refine lv_iload_n hx hb dX0_move_24 rfl (lv_at hl 3 rfl) ?_
  refine va_copyi hx hb (by rw [hml]; exact hl.1.symm) hown (hts (.methodLink RX0 53 arraycopyName) (by decide +kernel)) (hts (.native arraycopyName) (by decide +kernel)) (hts (.static arraycopyName) (by decide +kernel)) (hts (.initialized "java/lang/System") (by decide +kernel)) hK hP hD hS 2 2 1 1 rfl rfl rfl rfl rfl (nI_pos (by omega)) (nI_pos (by omega)) (nI_pos (by omega)) (by rw [nI_clamp (show a < 2 ^ 31 by omega), nI_clamp (show n < 2 ^ 31 by omega)]; omega) (by rw [nI_clamp (show b < 2 ^ 31 by omega), nI_clamp (show n < 2 ^ 31 by omega)]; omega) (fun _ _ => rfl) (Nat.le_of_ble_eq_true rfl) (Nat.le_of_ble_eq_true rfl) dX0_move_25 (fun H locs hP hD hS => ?_)
  rw [nI_clamp (show a < 2 ^ 31 by omega), nI_clamp (show b < 2 ^ 31 by omega), nI_clamp (show n < 2 ^ 31 by omega)] at hP hD
  replace hP : va_P (dC, dI) vwCl [(r, .inr (0, [.ref a1, .ref a2, .ref a3, .ref a4, .int (nI u)])), (a1, .inl (cL, 150, .inr (.inl (va_cpy hd hd a b n)))), (a2, .inl (cI, 150, .inl (va_cpy sz sz a b n))), (a3, .inl (cL, 150, .inr (.inl tx))), (a4, .inl (cI, 150, .inl ln))] H := hP
  replace hD : va_D A [(r, .inr (0, [.ref a1, .ref a2, .ref a3, .ref a4, .int (nI u)])), (a1, .inl (cL, 150, .inr (.inl (va_cpy hd hd a b n)))), (a2, .inl (cI, 150, .inl (va_cpy sz sz a b n))), (a3, .inl (cL, 150, .inr (.inl tx))), (a4, .inl (cI, 150, .inl ln))] := hD
  refine lv_aload_n hx hb dX0_move_28 rfl (lv_at hl 0 rfl) ?_
  refine va_get (D := (dC, dI)) (ci := 0) (v := .ref a3) (C := RX0) (T := TX0) (N := 5) hx hb hts i_X0_move_X0 hown hK hP 0 rfl rfl 2 (by decide) (hts (.fieldLink RX0 19 "BlockTree$Rows" "texts" "[J") (by decide +kernel)) (fun _ h9 => h9) rfl dX0_move_29 ?_
  refine lv_iload_n hx hb dX0_move_32 rfl (lv_at hl 1 rfl) ?_
  refine lv_aload_n hx hb dX0_move_33 rfl (lv_at hl 0 rfl) ?_
  refine va_get (D := (dC, dI)) (ci := 0) (v := .ref a3) (C := RX0) (T := TX0) (N := 5) hx hb hts i_X0_move_X0 hown hK hP 0 rfl rfl 2 (by decide) (hts (.fieldLink RX0 19 "BlockTree$Rows" "texts" "[J") (by decide +kernel)) (fun _ h9 => h9) rfl dX0_move_34 ?_
  refine lv_iload_n hx hb dX0_move_37 rfl (lv_at hl 2 rfl) ?_
  refine lv_iload_n hx hb dX0_move_38 rfl (lv_at hl 3 rfl) ?_
  refine va_copyl hx hb (by rw [hml]; exact hl.1.symm) hown (hts (.methodLink RX0 53 arraycopyName) (by decide +kernel)) (hts (.native arraycopyName) (by decide +kernel)) (hts (.static arraycopyName) (by decide +kernel)) (hts (.initialized "java/lang/System") (by decide +kernel)) hK hP hD hS 3 3 0 0 rfl rfl rfl rfl rfl (nI_pos (by omega)) (nI_pos (by omega)) (nI_pos (by omega)) (by rw [nI_clamp (show a < 2 ^ 31 by omega), nI_clamp (show n < 2 ^ 31 by omega)]; omega) (by rw [nI_clamp (show b < 2 ^ 31 by omega), nI_clamp (show n < 2 ^ 31 by omega)]; omega) (fun _ _ => rfl) (Nat.le_of_ble_eq_true rfl) (Nat.le_of_ble_eq_true rfl) dX0_move_39 (fun H locs hP hD hS => ?_)
  rw [nI_clamp (show a < 2 ^ 31 by omega), nI_clamp (show b < 2 ^ 31 by omega), nI_clamp (show n < 2 ^ 31 by omega)] at hP hD
  replace hP : va_P (dC, dI) vwCl [(r, .inr (0, [.ref a1, .ref a2, .ref a3, .ref a4, .int (nI u)])), (a1, .inl (cL, 150, .inr (.inl (va_cpy hd hd a b n)))), (a2, .inl (cI, 150, .inl (va_cpy sz sz a b n))), (a3, .inl (cL, 150, .inr (.inl (va_cpy tx tx a b n)))), (a4, .inl (cI, 150, .inl ln))] H := hP
  replace hD : va_D A [(r, .inr (0, [.ref a1, .ref a2, .ref a3, .ref a4, .int (nI u)])), (a1, .inl (cL, 150, .inr (.inl (va_cpy hd hd a b n)))), (a2, .inl (cI, 150, .inl (va_cpy sz sz a b n))), (a3, .inl (cL, 150, .inr (.inl (va_cpy tx tx a b n)))), (a4, .inl (cI, 150, .inl ln))] := hD
  refine lv_aload_n hx hb dX0_move_42 rfl (lv_at hl 0 rfl) ?_
  refine va_get (D := (dC, dI)) (ci := 0) (v := .ref a4) (C := RX0) (T := TX0) (N := 5) hx hb hts i_X0_move_X0 hown hK hP 0 rfl rfl 3 (by decide) (hts (.fieldLink RX0 22 "BlockTree$Rows" "lengths" "[I") (by decide +kernel)) (fun _ h9 => h9) rfl dX0_move_43 ?_
  refine lv_iload_n hx hb dX0_move_46 rfl (lv_at hl 1 rfl) ?_
  refine lv_aload_n hx hb dX0_move_47 rfl (lv_at hl 0 rfl) ?_
  refine va_get (D := (dC, dI)) (ci := 0) (v := .ref a4) (C := RX0) (T := TX0) (N := 5) hx hb hts i_X0_move_X0 hown hK hP 0 rfl rfl 3 (by decide) (hts (.fieldLink RX0 22 "BlockTree$Rows" "lengths" "[I") (by decide +kernel)) (fun _ h9 => h9) rfl dX0_move_48 ?_
  refine lv_iload_n hx hb dX0_move_51 rfl (lv_at hl 2 rfl) ?_
  refine lv_iload_n hx hb dX0_move_52 rfl (lv_at hl 3 rfl) ?_
  refine va_copyi hx hb (by rw [hml]; exact hl.1.symm) hown (hts (.methodLink RX0 53 arraycopyName) (by decide +kernel)) (hts (.native arraycopyName) (by decide +kernel)) (hts (.static arraycopyName) (by decide +kernel)) (hts (.initialized "java/lang/System") (by decide +kernel)) hK hP hD hS 4 4 1 1 rfl rfl rfl rfl rfl (nI_pos (by omega)) (nI_pos (by omega)) (nI_pos (by omega)) (by rw [nI_clamp (show a < 2 ^ 31 by omega), nI_clamp (show n < 2 ^ 31 by omega)]; omega) (by rw [nI_clamp (show b < 2 ^ 31 by omega), nI_clamp (show n < 2 ^ 31 by omega)]; omega) (fun _ _ => rfl) (Nat.le_of_ble_eq_true rfl) (Nat.le_of_ble_eq_true rfl) dX0_move_53 (fun H locs hP hD hS => ?_)
  rw [nI_clamp (show a < 2 ^ 31 by omega), nI_clamp (show b < 2 ^ 31 by omega), nI_clamp (show n < 2 ^ 31 by omega)] at hP hD
  replace hP : va_P (dC, dI) vwCl [(r, .inr (0, [.ref a1, .ref a2, .ref a3, .ref a4, .int (nI u)])), (a1, .inl (cL, 150, .inr (.inl (va_cpy hd hd a b n)))), (a2, .inl (cI, 150, .inl (va_cpy sz sz a b n))), (a3, .inl (cL, 150, .inr (.inl (va_cpy tx tx a b n)))), (a4, .inl (cI, 150, .inl (va_cpy ln ln a b n)))] H := hP
  replace hD : va_D A [(r, .inr (0, [.ref a1, .ref a2, .ref a3, .ref a4, .int (nI u)])), (a1, .inl (cL, 150, .inr (.inl (va_cpy hd hd a b n)))), (a2, .inl (cI, 150, .inl (va_cpy sz sz a b n))), (a3, .inl (cL, 150, .inr (.inl (va_cpy tx tx a b n)))), (a4, .inl (cI, 150, .inl (va_cpy ln ln a b n)))] := hD
  exact W.vret hx hb hr (fun t9 ht hW => ⟨⟨(u, va_cpy hd hd a b n, va_cpy sz sz a b n, va_cpy tx tx a b n, va_cpy ln ln a b n), rfl, rfl, by rw [ht]; exact hP, hD⟩, hS.F ht⟩) hS.2.2 dX0_move_56
