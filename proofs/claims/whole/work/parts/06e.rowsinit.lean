set_option maxHeartbeats 4000000 in
set_option maxRecDepth 100000 in
/-- Rows() -/
theorem c_Rows_init (l : Launch) (dC : Nat → ClassId) (dI : Nat → Nat → Nat) (hz : Nat) (cL cI : ClassId) (r : Nat) : Met l yX0_init wsX0_init ({ frames := 1, cells := 4, slots := 600, locals := 20 }) (wrP (dC, dI) (kS cL cI) ([(r, .inr (0, [.null, .null, .null, .null, .int 0]))]) [.ref r] hz) (va_Qv (fun (v : Nat × Nat × Nat × Nat) => True) (wrB (dC, dI) (va_A ([(r, .inr (0, [.null, .null, .null, .null, .int 0]))]) hz) (fun (v : Nat × Nat × Nat × Nat) => rW cL cI r v.1 v.2.1 v.2.2.1 v.2.2.2 rs_0)) (va_A ([(r, .inr (0, [.null, .null, .null, .null, .int 0]))]) hz)) 4 600 (va_A ([(r, .inr (0, [.null, .null, .null, .null, .int 0]))]) hz) := by
  refine Met.ofW (cc := cX0_init) (maxL := 1) (ret := none) (by decide) rfl ?_
  intro p e s m args below meth c s₁ B hml hv
  obtain ⟨rfl, hsz, hP, hK, hD0⟩ := hv
  have hx := B.exec
  have hb := B.bytes
  have hr := B.returns
  have hts := atoms_spec (ws := wsX0_init) B.pre
  have hown : s.vm.findClass RX0 = some m.cls := findClass_of_methodNamed B.named
  have hlocks := B.notSynchronized
  have hin : meth.name = "<init>" := (name_of_methodNamed B.named B.method).1
  subst hsz
  have hD := hD0.self (sz := s.heap.size)
  generalize hAe : va_A ([(r, .inr (0, [.null, .null, .null, .null, .int 0]))]) s.heap.size = A at hD ⊢
  have hA : ∀ q : Nat, s.heap.size ≤ q → A q := fun q h => by rw [← hAe]; exact Or.inr h
  have hS : va_S A s.heap s.heap [] := va_S.rf
  replace hP : va_P (dC, dI) vwCl [(r, .inr (0, [.null, .null, .null, .null, .int 0]))] s.heap := hP
  replace hD : va_D A [(r, .inr (0, [.null, .null, .null, .null, .int 0]))] := hD
  have hl := lv_entry ([.ref r]) (n := 1) (Nat.le_of_ble_eq_true rfl)
  rw [lg_entry_eq]
  generalize (lg_sl ([.ref r]) ++ List.replicate (1 - (lg_sl ([.ref r])).length) Slot.unset).toArray = ls at hl ⊢
  replace hl : lv_has ls 1 [(0, .ref r)] := hl
  refine lv_aload_n hx hb dX0_init_0 rfl (lv_at hl 0 rfl) ?_
  refine W.objInit hx hb hown (hts (.methodLink RX0 3 objectInit) (by decide +kernel)) (hts (.instanceMethod objectInit) (by decide +kernel)) (hts _ (List.mem_cons_of_mem _ (List.mem_append_left _ (List.mem_of_getElem? (i := 2) rfl)))) rfl (by rw [hml]; exact hl.1) rfl dX0_init_1 (Nat.le_of_ble_eq_true rfl) (Nat.le_of_ble_eq_true rfl) ?_
  refine W.eq (g2 := F0 m 4 ls []) rfl ?_
  refine lv_aload_n hx hb dX0_init_4 rfl (lv_at hl 0 rfl) ?_
  refine lv_sipush (v := 150) hx hb dX0_init_5 (by decide) ?_
  refine va_newa (atype := .long) (N' := 150) (a0 := (150, .inr (.inl (fun _ => 0)))) (ty := .long) (n := 150) hx hb (hts (.arrayClass .long) (by decide +kernel)) rfl hK hP hD hS hA (fun _ => rfl) (by decide +kernel) (by decide +kernel) (by decide +kernel) (by decide +kernel) (by decide +kernel) dX0_init_8 (fun a1 cA_a1 H hKn hP hD hS => ?_)
  obtain rfl : cL = cA_a1 := ka_long hKn hK 2 0 rfl rfl
  replace hP : va_P (dC, dI) vwCl [(r, .inr (0, [.null, .null, .null, .null, .int 0])), (a1, .inl (cL, 150, .inr (.inl (fun _ => 0))))] H := hP
  replace hD : va_D A [(r, .inr (0, [.null, .null, .null, .null, .int 0])), (a1, .inl (cL, 150, .inr (.inl (fun _ => 0))))] := hD
  refine W.widen (k := 1) (n := 150) (by omega) (by omega) ?_
  refine va_putF (D := (dC, dI)) (ci := 0) (v := .ref a1) (ty := .array .long) (C := RX0) (T := TX0) (N := 5) hx hb hts i_X0_init_X0 tyX0 tyX0_ok nmX0 hown hK hP hD hS 0 rfl rfl 0 (by decide) (hts (.fieldLink RX0 9 "BlockTree$Rows" "heads" "[J") (by decide +kernel)) (fun _ h9 => h9) rfl hin rfl (by decide +kernel) rfl rfl (Nat.le_of_ble_eq_true rfl) dX0_init_10 (fun H locs hP hD hS => ?_)
  replace hP : va_P (dC, dI) vwCl [(r, .inr (0, [.ref a1, .null, .null, .null, .int 0])), (a1, .inl (cL, 150, .inr (.inl (fun _ => 0))))] H := hP
  replace hD : va_D A [(r, .inr (0, [.ref a1, .null, .null, .null, .int 0])), (a1, .inl (cL, 150, .inr (.inl (fun _ => 0))))] := hD
  refine lv_aload_n hx hb dX0_init_13 rfl (lv_at hl 0 rfl) ?_
  refine lv_sipush (v := 150) hx hb dX0_init_14 (by decide) ?_
  refine va_newa (atype := .int) (N' := 150) (a0 := (150, .inl (fun _ => 0))) (ty := .int) (n := 150) hx hb (hts (.arrayClass .int) (by decide +kernel)) rfl hK hP hD hS hA (fun _ => rfl) (by decide +kernel) (by decide +kernel) (by decide +kernel) (by decide +kernel) (by decide +kernel) dX0_init_17 (fun a2 cA_a2 H hKn hP hD hS => ?_)
  obtain rfl : cI = cA_a2 := ka_int hKn hK 2 1 rfl rfl
  replace hP : va_P (dC, dI) vwCl [(r, .inr (0, [.ref a1, .null, .null, .null, .int 0])), (a1, .inl (cL, 150, .inr (.inl (fun _ => 0)))), (a2, .inl (cI, 150, .inl (fun _ => 0)))] H := hP
  replace hD : va_D A [(r, .inr (0, [.ref a1, .null, .null, .null, .int 0])), (a1, .inl (cL, 150, .inr (.inl (fun _ => 0)))), (a2, .inl (cI, 150, .inl (fun _ => 0)))] := hD
  refine W.widen (k := 2) (n := 300) (by omega) (by omega) ?_
  refine va_putF (D := (dC, dI)) (ci := 0) (v := .ref a2) (ty := .array .int) (C := RX0) (T := TX0) (N := 5) hx hb hts i_X0_init_X0 tyX0 tyX0_ok nmX0 hown hK hP hD hS 0 rfl rfl 1 (by decide) (hts (.fieldLink RX0 15 "BlockTree$Rows" "sizes" "[I") (by decide +kernel)) (fun _ h9 => h9) rfl hin rfl (by decide +kernel) rfl rfl (Nat.le_of_ble_eq_true rfl) dX0_init_19 (fun H locs hP hD hS => ?_)
  replace hP : va_P (dC, dI) vwCl [(r, .inr (0, [.ref a1, .ref a2, .null, .null, .int 0])), (a1, .inl (cL, 150, .inr (.inl (fun _ => 0)))), (a2, .inl (cI, 150, .inl (fun _ => 0)))] H := hP
  replace hD : va_D A [(r, .inr (0, [.ref a1, .ref a2, .null, .null, .int 0])), (a1, .inl (cL, 150, .inr (.inl (fun _ => 0)))), (a2, .inl (cI, 150, .inl (fun _ => 0)))] := hD
  refine lv_aload_n hx hb dX0_init_22 rfl (lv_at hl 0 rfl) ?_
  refine lv_sipush (v := 150) hx hb dX0_init_23 (by decide) ?_
  refine va_newa (atype := .long) (N' := 150) (a0 := (150, .inr (.inl (fun _ => 0)))) (ty := .long) (n := 150) hx hb (hts (.arrayClass .long) (by decide +kernel)) rfl hK hP hD hS hA (fun _ => rfl) (by decide +kernel) (by decide +kernel) (by decide +kernel) (by decide +kernel) (by decide +kernel) dX0_init_26 (fun a3 cA_a3 H hKn hP hD hS => ?_)
  obtain rfl : cL = cA_a3 := ka_long hKn hK 2 0 rfl rfl
  replace hP : va_P (dC, dI) vwCl [(r, .inr (0, [.ref a1, .ref a2, .null, .null, .int 0])), (a1, .inl (cL, 150, .inr (.inl (fun _ => 0)))), (a2, .inl (cI, 150, .inl (fun _ => 0))), (a3, .inl (cL, 150, .inr (.inl (fun _ => 0))))] H := hP
  replace hD : va_D A [(r, .inr (0, [.ref a1, .ref a2, .null, .null, .int 0])), (a1, .inl (cL, 150, .inr (.inl (fun _ => 0)))), (a2, .inl (cI, 150, .inl (fun _ => 0))), (a3, .inl (cL, 150, .inr (.inl (fun _ => 0))))] := hD
  refine W.widen (k := 3) (n := 450) (by omega) (by omega) ?_
  refine va_putF (D := (dC, dI)) (ci := 0) (v := .ref a3) (ty := .array .long) (C := RX0) (T := TX0) (N := 5) hx hb hts i_X0_init_X0 tyX0 tyX0_ok nmX0 hown hK hP hD hS 0 rfl rfl 2 (by decide) (hts (.fieldLink RX0 19 "BlockTree$Rows" "texts" "[J") (by decide +kernel)) (fun _ h9 => h9) rfl hin rfl (by decide +kernel) rfl rfl (Nat.le_of_ble_eq_true rfl) dX0_init_28 (fun H locs hP hD hS => ?_)
  replace hP : va_P (dC, dI) vwCl [(r, .inr (0, [.ref a1, .ref a2, .ref a3, .null, .int 0])), (a1, .inl (cL, 150, .inr (.inl (fun _ => 0)))), (a2, .inl (cI, 150, .inl (fun _ => 0))), (a3, .inl (cL, 150, .inr (.inl (fun _ => 0))))] H := hP
  replace hD : va_D A [(r, .inr (0, [.ref a1, .ref a2, .ref a3, .null, .int 0])), (a1, .inl (cL, 150, .inr (.inl (fun _ => 0)))), (a2, .inl (cI, 150, .inl (fun _ => 0))), (a3, .inl (cL, 150, .inr (.inl (fun _ => 0))))] := hD
  refine lv_aload_n hx hb dX0_init_31 rfl (lv_at hl 0 rfl) ?_
  refine lv_sipush (v := 150) hx hb dX0_init_32 (by decide) ?_
  refine va_newa (atype := .int) (N' := 150) (a0 := (150, .inl (fun _ => 0))) (ty := .int) (n := 150) hx hb (hts (.arrayClass .int) (by decide +kernel)) rfl hK hP hD hS hA (fun _ => rfl) (by decide +kernel) (by decide +kernel) (by decide +kernel) (by decide +kernel) (by decide +kernel) dX0_init_35 (fun a4 cA_a4 H hKn hP hD hS => ?_)
  obtain rfl : cI = cA_a4 := ka_int hKn hK 2 1 rfl rfl
  replace hP : va_P (dC, dI) vwCl [(r, .inr (0, [.ref a1, .ref a2, .ref a3, .null, .int 0])), (a1, .inl (cL, 150, .inr (.inl (fun _ => 0)))), (a2, .inl (cI, 150, .inl (fun _ => 0))), (a3, .inl (cL, 150, .inr (.inl (fun _ => 0)))), (a4, .inl (cI, 150, .inl (fun _ => 0)))] H := hP
  replace hD : va_D A [(r, .inr (0, [.ref a1, .ref a2, .ref a3, .null, .int 0])), (a1, .inl (cL, 150, .inr (.inl (fun _ => 0)))), (a2, .inl (cI, 150, .inl (fun _ => 0))), (a3, .inl (cL, 150, .inr (.inl (fun _ => 0)))), (a4, .inl (cI, 150, .inl (fun _ => 0)))] := hD
  refine W.widen (k := 4) (n := 600) (by omega) (by omega) ?_
  refine va_putF (D := (dC, dI)) (ci := 0) (v := .ref a4) (ty := .array .int) (C := RX0) (T := TX0) (N := 5) hx hb hts i_X0_init_X0 tyX0 tyX0_ok nmX0 hown hK hP hD hS 0 rfl rfl 3 (by decide) (hts (.fieldLink RX0 22 "BlockTree$Rows" "lengths" "[I") (by decide +kernel)) (fun _ h9 => h9) rfl hin rfl (by decide +kernel) rfl rfl (Nat.le_of_ble_eq_true rfl) dX0_init_37 (fun H locs hP hD hS => ?_)
  replace hP : va_P (dC, dI) vwCl [(r, .inr (0, [.ref a1, .ref a2, .ref a3, .ref a4, .int 0])), (a1, .inl (cL, 150, .inr (.inl (fun _ => 0)))), (a2, .inl (cI, 150, .inl (fun _ => 0))), (a3, .inl (cL, 150, .inr (.inl (fun _ => 0)))), (a4, .inl (cI, 150, .inl (fun _ => 0)))] H := hP
  replace hD : va_D A [(r, .inr (0, [.ref a1, .ref a2, .ref a3, .ref a4, .int 0])), (a1, .inl (cL, 150, .inr (.inl (fun _ => 0)))), (a2, .inl (cI, 150, .inl (fun _ => 0))), (a3, .inl (cL, 150, .inr (.inl (fun _ => 0)))), (a4, .inl (cI, 150, .inl (fun _ => 0)))] := hD
  refine lv_aload_n hx hb dX0_init_40 rfl (lv_at hl 0 rfl) ?_
  refine lv_iconst (v := 0) hx hb dX0_init_41 (by decide) ?_
  refine va_put (D := (dC, dI)) (ci := 0) (v := .int 0) (ty := .int) (C := RX0) (T := TX0) (N := 5) hx hb hts i_X0_init_X0 tyX0 tyX0_ok nmX0 hown hK hP hD hS 0 rfl rfl 4 (by decide) (hts (.fieldLink RX0 25 "BlockTree$Rows" "used" "I") (by decide +kernel)) (fun _ h9 => h9) rfl (by decide +kernel) rfl rfl (Nat.le_of_ble_eq_true rfl) dX0_init_42 (fun H locs hP hD hS => ?_)
  replace hP : va_P (dC, dI) vwCl [(r, .inr (0, [.ref a1, .ref a2, .ref a3, .ref a4, .int 0])), (a1, .inl (cL, 150, .inr (.inl (fun _ => 0)))), (a2, .inl (cI, 150, .inl (fun _ => 0))), (a3, .inl (cL, 150, .inr (.inl (fun _ => 0)))), (a4, .inl (cI, 150, .inl (fun _ => 0)))] H := hP
  replace hD : va_D A [(r, .inr (0, [.ref a1, .ref a2, .ref a3, .ref a4, .int 0])), (a1, .inl (cL, 150, .inr (.inl (fun _ => 0)))), (a2, .inl (cI, 150, .inl (fun _ => 0))), (a3, .inl (cL, 150, .inr (.inl (fun _ => 0)))), (a4, .inl (cI, 150, .inl (fun _ => 0)))] := hD
  exact W.vret hx hb hr (fun t9 ht hW => ⟨⟨(a1, a2, a3, a4), rfl, trivial, by rw [ht]; exact hP, hD⟩, hS.F ht⟩) hS.2.2 dX0_init_45
