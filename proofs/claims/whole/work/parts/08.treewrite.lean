set_option maxHeartbeats 4000000 in
set_option maxRecDepth 100000 in
/-- noteFound -/
theorem c_noteFound (l : Launch) (dC : Nat → ClassId) (dI : Nat → Nat → Nat) (hz : Nat) (cL cI : ClassId) (x r k a1 a2 a3 a4 : Nat) (hk : Int64) (hs : Int32) (u : Nat) (hd : Nat → Int64) (sz : Nat → Int32) (tx : Nat → Int64) (ln : Nat → Int32) (hu : u ≤ 150) (i : Int32) : Met l yX1_noteFound wsX1_noteFound ({ frames := 1, cells := 0, slots := 0, locals := 21 }) (wrP (dC, dI) (kS cL cI) (tW cL cI x r k a1 a2 a3 a4 (hk, hs) (u, hd, sz, tx, ln)) [.ref x, .int i] hz) (va_Qi (fun (z : Int32) (v : Int64 × Int32) => nfQ u hd sz i z v) (wrB (dC, dI) (va_A (tW cL cI x r k a1 a2 a3 a4 (hk, hs) (u, hd, sz, tx, ln)) hz) (fun (v : Int64 × Int32) => tW cL cI x r k a1 a2 a3 a4 v (u, hd, sz, tx, ln))) (va_A (tW cL cI x r k a1 a2 a3 a4 (hk, hs) (u, hd, sz, tx, ln)) hz)) 0 0 (va_A (tW cL cI x r k a1 a2 a3 a4 (hk, hs) (u, hd, sz, tx, ln)) hz) := by
  refine Met.ofW (cc := cX1_noteFound) (maxL := 2) (ret := some .boolean) (by decide) rfl ?_
  intro p e s m args below meth c s₁ B hml hv
  obtain ⟨rfl, hsz, hP, hK, hD0⟩ := hv
  have hx := B.exec
  have hb := B.bytes
  have hr := B.returns
  have hts := atoms_spec (ws := wsX1_noteFound) B.pre
  have hown : s.vm.findClass RX1 = some m.cls := findClass_of_methodNamed B.named
  have hlocks := B.notSynchronized
  subst hsz
  have hD := hD0.self (sz := s.heap.size)
  generalize hAe : va_A (tW cL cI x r k a1 a2 a3 a4 (hk, hs) (u, hd, sz, tx, ln)) s.heap.size = A at hD ⊢
  have hA : ∀ q : Nat, s.heap.size ≤ q → A q := fun q h => by rw [← hAe]; exact Or.inr h
  have hS : va_S A s.heap s.heap [] := va_S.rf
  replace hP : va_P (dC, dI) vwCl [(x, .inr (1, [.ref r, .ref k, .long hk, .int hs])), (r, .inr (0, [.ref a1, .ref a2, .ref a3, .ref a4, .int (nI u)])), (a1, .inl (cL, 150, .inr (.inl hd))), (a2, .inl (cI, 150, .inl sz)), (a3, .inl (cL, 150, .inr (.inl tx))), (a4, .inl (cI, 150, .inl ln))] s.heap := hP
  replace hD : va_D A [(x, .inr (1, [.ref r, .ref k, .long hk, .int hs])), (r, .inr (0, [.ref a1, .ref a2, .ref a3, .ref a4, .int (nI u)])), (a1, .inl (cL, 150, .inr (.inl hd))), (a2, .inl (cI, 150, .inl sz)), (a3, .inl (cL, 150, .inr (.inl tx))), (a4, .inl (cI, 150, .inl ln))] := hD
  have hl := lv_entry ([.ref x, .int i]) (n := 2) (Nat.le_of_ble_eq_true rfl)
  rw [lg_entry_eq]
  generalize (lg_sl ([.ref x, .int i]) ++ List.replicate (2 - (lg_sl ([.ref x, .int i])).length) Slot.unset).toArray = ls at hl ⊢
  replace hl : lv_has ls 2 [(0, .ref x), (1, .int i)] := hl
  refine lv_aload_n hx hb dX1_noteFound_0 rfl (lv_at hl 0 rfl) ?_
  refine va_get (D := (dC, dI)) (ci := 1) (v := .ref r) (C := RX1) (T := TX1) (N := 4) hx hb hts i_X1_noteFound_X1 hown hK hP 0 rfl rfl 0 (by decide) (hts (.fieldLink RX1 10 "BlockTree" "now" "LBlockTree$Rows;") (by decide +kernel)) (fun _ h9 => h9) rfl dX1_noteFound_1 ?_
  refine lv_iload_n hx hb dX1_noteFound_4 rfl (lv_at hl 1 rfl) ?_
  refine vp_callSi (va_Run.run (va_runV (As := [.int i]) (rest := []) ⟨hx, hb, hml, hown, hts⟩ (c_has l dC dI cL cI r a1 a2 a3 a4 u hu i) (cwV 1 hts gX1_noteFound_X0_has rfl rfl rfl (by decide +kernel) ⟨Nat.le_of_ble_eq_true rfl, Nat.le_of_ble_eq_true rfl⟩) (rd_preV hK (hP.sub (ws' := [(r, .inr (0, [.ref a1, .ref a2, .ref a3, .ref a4, .int (nI u)]))]) [1] rfl) (ci := 0) (q0 := 0) rfl rfl) rfl rfl hl.1 rfl (lv_room (Nat.le_of_ble_eq_true rfl)) dX1_noteFound_5 ⟨Nat.le_of_ble_eq_true rfl, Nat.le_of_ble_eq_true rfl⟩)) (fun r2 hr2 => ?_)
  rcases hr2 with ⟨rfl, j, hju, ei⟩ | ⟨rfl, hno⟩
  · skip
    refine lv_if_ne (tgt := 23) hx hb dX1_noteFound_8 (by decide) (fun c_8 => ?_) (fun c_8 => absurd c_8 (by decide))
    refine lv_aload_n hx hb dX1_noteFound_23 rfl (lv_at hl 0 rfl) ?_
    refine lv_aload_n hx hb dX1_noteFound_24 rfl (lv_at hl 0 rfl) ?_
    refine va_get (D := (dC, dI)) (ci := 1) (v := .ref r) (C := RX1) (T := TX1) (N := 4) hx hb hts i_X1_noteFound_X1 hown hK hP 0 rfl rfl 0 (by decide) (hts (.fieldLink RX1 10 "BlockTree" "now" "LBlockTree$Rows;") (by decide +kernel)) (fun _ h9 => h9) rfl dX1_noteFound_25 ?_
    refine va_get (D := (dC, dI)) (ci := 0) (v := .ref a2) (C := RX0) (T := TX0) (N := 5) hx hb hts i_X1_noteFound_X0 hown hK hP 1 rfl rfl 1 (by decide) (hts (.fieldLink RX1 77 "BlockTree$Rows" "sizes" "[I") (by decide +kernel)) (fun _ h9 => h9) rfl dX1_noteFound_28 ?_
    refine lv_iload_n hx hb dX1_noteFound_31 rfl (lv_at hl 1 rfl) ?_
    refine va_iald hx hb hK hP 3 1 rfl rfl (by rw [ei]; exact vp_in_nI (by omega) (by omega)) dX1_noteFound_32 ?_
    refine lv_topi (fun z_1 ez_1 => ?_)
    rw [show (i).toNatClampNeg = j from (by rw [ei]; exact nI_clamp (by omega))] at ez_1
    subst ez_1
    refine va_put (D := (dC, dI)) (ci := 1) (v := .int (sz j)) (ty := .int) (C := RX1) (T := TX1) (N := 4) hx hb hts i_X1_noteFound_X1 tyX1 tyX1_ok nmX1 hown hK hP hD hS 0 rfl rfl 3 (by decide) (hts (.fieldLink RX1 23 "BlockTree" "hitSize" "I") (by decide +kernel)) (fun _ h9 => h9) rfl (by decide +kernel) rfl rfl (Nat.le_of_ble_eq_true rfl) dX1_noteFound_33 (fun H locs hP hD hS => ?_)
    replace hP : va_P (dC, dI) vwCl [(x, .inr (1, [.ref r, .ref k, .long hk, .int (sz j)])), (r, .inr (0, [.ref a1, .ref a2, .ref a3, .ref a4, .int (nI u)])), (a1, .inl (cL, 150, .inr (.inl hd))), (a2, .inl (cI, 150, .inl sz)), (a3, .inl (cL, 150, .inr (.inl tx))), (a4, .inl (cI, 150, .inl ln))] H := hP
    replace hD : va_D A [(x, .inr (1, [.ref r, .ref k, .long hk, .int (sz j)])), (r, .inr (0, [.ref a1, .ref a2, .ref a3, .ref a4, .int (nI u)])), (a1, .inl (cL, 150, .inr (.inl hd))), (a2, .inl (cI, 150, .inl sz)), (a3, .inl (cL, 150, .inr (.inl tx))), (a4, .inl (cI, 150, .inl ln))] := hD
    refine lv_aload_n hx hb dX1_noteFound_36 rfl (lv_at hl 0 rfl) ?_
    refine lv_aload_n hx hb dX1_noteFound_37 rfl (lv_at hl 0 rfl) ?_
    refine va_get (D := (dC, dI)) (ci := 1) (v := .ref r) (C := RX1) (T := TX1) (N := 4) hx hb hts i_X1_noteFound_X1 hown hK hP 0 rfl rfl 0 (by decide) (hts (.fieldLink RX1 10 "BlockTree" "now" "LBlockTree$Rows;") (by decide +kernel)) (fun _ h9 => h9) rfl dX1_noteFound_38 ?_
    refine va_get (D := (dC, dI)) (ci := 0) (v := .ref a1) (C := RX0) (T := TX0) (N := 5) hx hb hts i_X1_noteFound_X0 hown hK hP 1 rfl rfl 0 (by decide) (hts (.fieldLink RX1 80 "BlockTree$Rows" "heads" "[J") (by decide +kernel)) (fun _ h9 => h9) rfl dX1_noteFound_41 ?_
    refine lv_iload_n hx hb dX1_noteFound_44 rfl (lv_at hl 1 rfl) ?_
    refine va_lald hx hb hK hP 2 0 rfl rfl (by rw [ei]; exact vp_in_nI (by omega) (by omega)) dX1_noteFound_45 ?_
    refine lv_topl (fun z_2 ez_2 => ?_)
    rw [show (i).toNatClampNeg = j from (by rw [ei]; exact nI_clamp (by omega))] at ez_2
    subst ez_2
    refine lv_aload_n hx hb dX1_noteFound_46 rfl (lv_at hl 0 rfl) ?_
    refine va_get (D := (dC, dI)) (ci := 1) (v := .int (sz j)) (C := RX1) (T := TX1) (N := 4) hx hb hts i_X1_noteFound_X1 hown hK hP 0 rfl rfl 3 (by decide) (hts (.fieldLink RX1 23 "BlockTree" "hitSize" "I") (by decide +kernel)) (fun _ h9 => h9) rfl dX1_noteFound_47 ?_
    refine vp_callSi (va_Run.run (va_runS (As := [.int (sz j)]) (rest := [.long (hd j), .ref x]) ⟨hx, hb, hml, hown, hts⟩ (c_unusedBits l (sz j)) (va_cwS 1 hts gX1_noteFound_X1_unusedBits rfl rfl rfl (by decide +kernel) ⟨Nat.le_of_ble_eq_true rfl, Nat.le_of_ble_eq_true rfl⟩) (st_pre) rfl rfl hl.1 rfl (lv_room (Nat.le_of_ble_eq_true rfl)) dX1_noteFound_50 ⟨Nat.le_of_ble_eq_true rfl, Nat.le_of_ble_eq_true rfl⟩)) (fun rb hrb => ?_)
    subst hrb
    refine lv_lushr hx hb dX1_noteFound_53 rfl ?_
    refine lv_topl (fun z_3 ez_3 => ?_)
    obtain rfl : z_3 = unH (hd j) (sz j) := ez_3.trans (by unfold unH; rfl)
    refine va_put (D := (dC, dI)) (ci := 1) (v := .long (unH (hd j) (sz j))) (ty := .long) (C := RX1) (T := TX1) (N := 4) hx hb hts i_X1_noteFound_X1 tyX1 tyX1_ok nmX1 hown hK hP hD hS 0 rfl rfl 2 (by decide) (hts (.fieldLink RX1 19 "BlockTree" "hitKey" "J") (by decide +kernel)) (fun _ h9 => h9) rfl (by decide +kernel) rfl rfl (Nat.le_of_ble_eq_true rfl) dX1_noteFound_54 (fun H locs hP hD hS => ?_)
    replace hP : va_P (dC, dI) vwCl [(x, .inr (1, [.ref r, .ref k, .long (unH (hd j) (sz j)), .int (sz j)])), (r, .inr (0, [.ref a1, .ref a2, .ref a3, .ref a4, .int (nI u)])), (a1, .inl (cL, 150, .inr (.inl hd))), (a2, .inl (cI, 150, .inl sz)), (a3, .inl (cL, 150, .inr (.inl tx))), (a4, .inl (cI, 150, .inl ln))] H := hP
    replace hD : va_D A [(x, .inr (1, [.ref r, .ref k, .long (unH (hd j) (sz j)), .int (sz j)])), (r, .inr (0, [.ref a1, .ref a2, .ref a3, .ref a4, .int (nI u)])), (a1, .inl (cL, 150, .inr (.inl hd))), (a2, .inl (cI, 150, .inl sz)), (a3, .inl (cL, 150, .inr (.inl tx))), (a4, .inl (cI, 150, .inl ln))] := hD
    refine lv_iconst (v := 1) hx hb dX1_noteFound_57 (by decide) ?_
    exact W.zret (v := 1) hx hb hr (by first | rfl | decide +kernel | assumption) (fun t9 ht hW => ⟨⟨1, (unH (hd j) (sz j), sz j), rfl, Or.inl ⟨j, hju, ei, rfl, rfl⟩, by rw [ht]; exact hP, hD⟩, hS.F ht⟩) hS.2.2 dX1_noteFound_58
  · skip
    refine lv_if_ne (tgt := 23) hx hb dX1_noteFound_8 (by decide) (fun c_8 => absurd c_8 (by decide)) (fun c_8 => ?_)
    refine lv_aload_n hx hb dX1_noteFound_11 rfl (lv_at hl 0 rfl) ?_
    refine lv_lconst (v := 0) hx hb dX1_noteFound_12 (by decide) ?_
    refine va_put (D := (dC, dI)) (ci := 1) (v := .long 0) (ty := .long) (C := RX1) (T := TX1) (N := 4) hx hb hts i_X1_noteFound_X1 tyX1 tyX1_ok nmX1 hown hK hP hD hS 0 rfl rfl 2 (by decide) (hts (.fieldLink RX1 19 "BlockTree" "hitKey" "J") (by decide +kernel)) (fun _ h9 => h9) rfl (by decide +kernel) rfl rfl (Nat.le_of_ble_eq_true rfl) dX1_noteFound_13 (fun H locs hP hD hS => ?_)
    replace hP : va_P (dC, dI) vwCl [(x, .inr (1, [.ref r, .ref k, .long 0, .int hs])), (r, .inr (0, [.ref a1, .ref a2, .ref a3, .ref a4, .int (nI u)])), (a1, .inl (cL, 150, .inr (.inl hd))), (a2, .inl (cI, 150, .inl sz)), (a3, .inl (cL, 150, .inr (.inl tx))), (a4, .inl (cI, 150, .inl ln))] H := hP
    replace hD : va_D A [(x, .inr (1, [.ref r, .ref k, .long 0, .int hs])), (r, .inr (0, [.ref a1, .ref a2, .ref a3, .ref a4, .int (nI u)])), (a1, .inl (cL, 150, .inr (.inl hd))), (a2, .inl (cI, 150, .inl sz)), (a3, .inl (cL, 150, .inr (.inl tx))), (a4, .inl (cI, 150, .inl ln))] := hD
    refine lv_aload_n hx hb dX1_noteFound_16 rfl (lv_at hl 0 rfl) ?_
    refine lv_iconst (v := 0) hx hb dX1_noteFound_17 (by decide) ?_
    refine va_put (D := (dC, dI)) (ci := 1) (v := .int 0) (ty := .int) (C := RX1) (T := TX1) (N := 4) hx hb hts i_X1_noteFound_X1 tyX1 tyX1_ok nmX1 hown hK hP hD hS 0 rfl rfl 3 (by decide) (hts (.fieldLink RX1 23 "BlockTree" "hitSize" "I") (by decide +kernel)) (fun _ h9 => h9) rfl (by decide +kernel) rfl rfl (Nat.le_of_ble_eq_true rfl) dX1_noteFound_18 (fun H locs hP hD hS => ?_)
    replace hP : va_P (dC, dI) vwCl [(x, .inr (1, [.ref r, .ref k, .long 0, .int 0])), (r, .inr (0, [.ref a1, .ref a2, .ref a3, .ref a4, .int (nI u)])), (a1, .inl (cL, 150, .inr (.inl hd))), (a2, .inl (cI, 150, .inl sz)), (a3, .inl (cL, 150, .inr (.inl tx))), (a4, .inl (cI, 150, .inl ln))] H := hP
    replace hD : va_D A [(x, .inr (1, [.ref r, .ref k, .long 0, .int 0])), (r, .inr (0, [.ref a1, .ref a2, .ref a3, .ref a4, .int (nI u)])), (a1, .inl (cL, 150, .inr (.inl hd))), (a2, .inl (cI, 150, .inl sz)), (a3, .inl (cL, 150, .inr (.inl tx))), (a4, .inl (cI, 150, .inl ln))] := hD
    refine lv_iconst (v := 0) hx hb dX1_noteFound_21 (by decide) ?_
    exact W.zret (v := 0) hx hb hr (by first | rfl | decide +kernel | assumption) (fun t9 ht hW => ⟨⟨0, (0, 0), rfl, Or.inr ⟨hno, rfl, rfl⟩, by rw [ht]; exact hP, hD⟩, hS.F ht⟩) hS.2.2 dX1_noteFound_22
set_option maxHeartbeats 4000000 in
set_option maxRecDepth 100000 in
/-- seek -/
theorem c_seek (l : Launch) (dC : Nat → ClassId) (dI : Nat → Nat → Nat) (hz : Nat) (cL cI : ClassId) (x r k a1 a2 a3 a4 : Nat) (hk : Int64) (hs : Int32) (u : Nat) (hd : Nat → Int64) (sz : Nat → Int32) (tx : Nat → Int64) (ln : Nat → Int32) (hu : u ≤ 150) (q : Int64) (t : Int32) (j : Nat) (hj : okK t → spl u hd sz (hdOf q t) t j) : Met l yX1_seek wsX1_seek ({ frames := 3, cells := 0, slots := 0, locals := 70 }) (wrP (dC, dI) (kS cL cI) (tW cL cI x r k a1 a2 a3 a4 (hk, hs) (u, hd, sz, tx, ln)) [.ref x, .long q, .int t] hz) (va_Qi (fun (z : Int32) (v : Int64 × Int32) => (okK t ∧ nfQ u hd sz (nI j) z v) ∨ (¬ okK t ∧ z = 0 ∧ v = (0, 0))) (wrB (dC, dI) (va_A (tW cL cI x r k a1 a2 a3 a4 (hk, hs) (u, hd, sz, tx, ln)) hz) (fun (v : Int64 × Int32) => tW cL cI x r k a1 a2 a3 a4 v (u, hd, sz, tx, ln))) (va_A (tW cL cI x r k a1 a2 a3 a4 (hk, hs) (u, hd, sz, tx, ln)) hz)) 0 0 (va_A (tW cL cI x r k a1 a2 a3 a4 (hk, hs) (u, hd, sz, tx, ln)) hz) := by
  refine Met.ofW (cc := cX1_seek) (maxL := 4) (ret := some .boolean) (by decide) rfl ?_
  intro p e s m args below meth c s₁ B hml hv
  obtain ⟨rfl, hsz, hP, hK, hD0⟩ := hv
  have hx := B.exec
  have hb := B.bytes
  have hr := B.returns
  have hts := atoms_spec (ws := wsX1_seek) B.pre
  have hown : s.vm.findClass RX1 = some m.cls := findClass_of_methodNamed B.named
  have hlocks := B.notSynchronized
  subst hsz
  have hD := hD0.self (sz := s.heap.size)
  generalize hAe : va_A (tW cL cI x r k a1 a2 a3 a4 (hk, hs) (u, hd, sz, tx, ln)) s.heap.size = A at hD ⊢
  have hA : ∀ q : Nat, s.heap.size ≤ q → A q := fun q h => by rw [← hAe]; exact Or.inr h
  have hS : va_S A s.heap s.heap [] := va_S.rf
  replace hP : va_P (dC, dI) vwCl [(x, .inr (1, [.ref r, .ref k, .long hk, .int hs])), (r, .inr (0, [.ref a1, .ref a2, .ref a3, .ref a4, .int (nI u)])), (a1, .inl (cL, 150, .inr (.inl hd))), (a2, .inl (cI, 150, .inl sz)), (a3, .inl (cL, 150, .inr (.inl tx))), (a4, .inl (cI, 150, .inl ln))] s.heap := hP
  replace hD : va_D A [(x, .inr (1, [.ref r, .ref k, .long hk, .int hs])), (r, .inr (0, [.ref a1, .ref a2, .ref a3, .ref a4, .int (nI u)])), (a1, .inl (cL, 150, .inr (.inl hd))), (a2, .inl (cI, 150, .inl sz)), (a3, .inl (cL, 150, .inr (.inl tx))), (a4, .inl (cI, 150, .inl ln))] := hD
  have hl := lv_entry ([.ref x, .long q, .int t]) (n := 4) (Nat.le_of_ble_eq_true rfl)
  rw [lg_entry_eq]
  generalize (lg_sl ([.ref x, .long q, .int t]) ++ List.replicate (4 - (lg_sl ([.ref x, .long q, .int t])).length) Slot.unset).toArray = ls at hl ⊢
  replace hl : lv_has ls 4 [(0, .ref x), (1, .long q), (3, .int t)] := hl
  refine lv_iload_n hx hb dX1_seek_0 rfl (lv_at hl 2 rfl) ?_
  refine vp_callSi (va_Run.run (va_runS (As := [.int t]) (rest := []) ⟨hx, hb, hml, hown, hts⟩ (c_isKeySize l t) (va_cwS 1 hts gX1_seek_X1_isKeySize rfl rfl rfl (by decide +kernel) ⟨Nat.le_of_ble_eq_true rfl, Nat.le_of_ble_eq_true rfl⟩) (st_pre) rfl rfl hl.1 rfl (lv_room (Nat.le_of_ble_eq_true rfl)) dX1_seek_1 ⟨Nat.le_of_ble_eq_true rfl, Nat.le_of_ble_eq_true rfl⟩)) (fun r1 hr1 => ?_)
  rcases hr1 with ⟨rfl, hok⟩ | ⟨rfl, hok⟩
  · skip
    refine lv_if_ne (tgt := 13) hx hb dX1_seek_4 (by decide) (fun c_4 => ?_) (fun c_4 => absurd c_4 (by decide))
    refine lv_aload_n hx hb dX1_seek_13 rfl (lv_at hl 0 rfl) ?_
    refine lv_aload_n hx hb dX1_seek_14 rfl (lv_at hl 0 rfl) ?_
    refine va_get (D := (dC, dI)) (ci := 1) (v := .ref r) (C := RX1) (T := TX1) (N := 4) hx hb hts i_X1_seek_X1 hown hK hP 0 rfl rfl 0 (by decide) (hts (.fieldLink RX1 10 "BlockTree" "now" "LBlockTree$Rows;") (by decide +kernel)) (fun _ h9 => h9) rfl dX1_seek_15 ?_
    refine lv_lload_n hx hb dX1_seek_18 rfl (lv_at hl 1 rfl) ?_
    refine lv_iload_n hx hb dX1_seek_19 rfl (lv_at hl 2 rfl) ?_
    refine vp_callSl (va_Run.run (va_runS (As := [.long q, .int t]) (rest := [.ref r, .ref x]) ⟨hx, hb, hml, hown, hts⟩ (c_headOf l q t) (va_cwS 2 hts gX1_seek_X1_headOf rfl rfl rfl (by decide +kernel) ⟨Nat.le_of_ble_eq_true rfl, Nat.le_of_ble_eq_true rfl⟩) (st_pre) rfl rfl hl.1 rfl (lv_room (Nat.le_of_ble_eq_true rfl)) dX1_seek_20 ⟨Nat.le_of_ble_eq_true rfl, Nat.le_of_ble_eq_true rfl⟩)) (fun r2 hr2 => ?_)
    subst hr2
    refine lv_iload_n hx hb dX1_seek_23 rfl (lv_at hl 2 rfl) ?_
    refine vp_callSi (va_Run.run (va_runV (As := [.long (hdOf q t), .int t]) (rest := [.ref x]) ⟨hx, hb, hml, hown, hts⟩ (c_firstNotBefore l dC dI cL cI r a1 a2 a3 a4 u hd sz hu (hdOf q t) t j (hj hok)) (cwV 2 hts gX1_seek_X0_firstNotBefore rfl rfl rfl (by decide +kernel) ⟨Nat.le_of_ble_eq_true rfl, Nat.le_of_ble_eq_true rfl⟩) (rd_preV hK (hP.sub (ws' := [(r, .inr (0, [.ref a1, .ref a2, .ref a3, .ref a4, .int (nI u)])), (a1, .inl (cL, 150, .inr (.inl hd))), (a2, .inl (cI, 150, .inl sz))]) [1, 2, 3] rfl) (ci := 0) (q0 := 0) rfl rfl) rfl rfl hl.1 rfl (lv_room (Nat.le_of_ble_eq_true rfl)) dX1_seek_24 ⟨Nat.le_of_ble_eq_true rfl, Nat.le_of_ble_eq_true rfl⟩)) (fun r3 hr3 => ?_)
    subst hr3
    refine wr_calli (wr := []) (va_runV (As := [.int (nI j)]) (rest := []) ⟨hx, hb, hml, hown, hts⟩ (c_noteFound l dC dI _ cL cI x r k a1 a2 a3 a4 hk hs u hd sz tx ln hu (nI j)) (cwV 1 hts gX1_seek_X1_noteFound rfl rfl rfl (by decide +kernel) ⟨Nat.le_of_ble_eq_true rfl, Nat.le_of_ble_eq_true rfl⟩) (wr_preV hK (hP.sub (ws' := [(x, .inr (1, [.ref r, .ref k, .long hk, .int hs])), (r, .inr (0, [.ref a1, .ref a2, .ref a3, .ref a4, .int (nI u)])), (a1, .inl (cL, 150, .inr (.inl hd))), (a2, .inl (cI, 150, .inl sz)), (a3, .inl (cL, 150, .inr (.inl tx))), (a4, .inl (cI, 150, .inl ln))]) [0, 1, 2, 3, 4, 5] rfl) (hD.sub (ws' := [(x, .inr (1, [.ref r, .ref k, .long hk, .int hs])), (r, .inr (0, [.ref a1, .ref a2, .ref a3, .ref a4, .int (nI u)])), (a1, .inl (cL, 150, .inr (.inl hd))), (a2, .inl (cI, 150, .inl sz)), (a3, .inl (cL, 150, .inr (.inl tx))), (a4, .inl (cI, 150, .inl ln))]) [0, 1, 2, 3, 4, 5] (by decide) rfl) (ci := 1) (q0 := 0) rfl rfl) rfl rfl hl.1 rfl (lv_room (Nat.le_of_ble_eq_true rfl)) dX1_seek_27 ⟨Nat.le_of_ble_eq_true rfl, Nat.le_of_ble_eq_true rfl⟩) hP hD hS hA [0, 1, 2, 3, 4, 5] [] rfl rfl (by decide) (by decide) (fun r5 u_ H locs hr5 hP hD hS => ?_)
    replace hP := hP.sub (ws' := [(x, .inr (1, [.ref r, .ref k, .long u_.1, .int u_.2])), (r, .inr (0, [.ref a1, .ref a2, .ref a3, .ref a4, .int (nI u)])), (a1, .inl (cL, 150, .inr (.inl hd))), (a2, .inl (cI, 150, .inl sz)), (a3, .inl (cL, 150, .inr (.inl tx))), (a4, .inl (cI, 150, .inl ln))]) [0, 1, 2, 3, 4, 5] rfl
    replace hD := hD.sub (ws' := [(x, .inr (1, [.ref r, .ref k, .long u_.1, .int u_.2])), (r, .inr (0, [.ref a1, .ref a2, .ref a3, .ref a4, .int (nI u)])), (a1, .inl (cL, 150, .inr (.inl hd))), (a2, .inl (cI, 150, .inl sz)), (a3, .inl (cL, 150, .inr (.inl tx))), (a4, .inl (cI, 150, .inl ln))]) [0, 1, 2, 3, 4, 5] (by decide) rfl
    have hnar : narrow .boolean (.int r5) = .int r5 := by rcases hr5 with ⟨_, _, _, rfl, _⟩ | ⟨_, rfl, _⟩ <;> rfl
    exact W.zret (v := r5) hx hb hr (by first | rfl | decide +kernel | assumption) (fun t9 ht hW => ⟨⟨r5, u_, rfl, by first | exact Or.inl ⟨hok, hr5⟩ | exact Or.inr ⟨hok, by rcases hr5 with ⟨i0, h1, h2, _⟩ | ⟨_, h1, h2⟩; exact absurd ⟨i0, h1, h2⟩ (m1_no hu); exact ⟨h1, h2⟩⟩, by rw [ht]; exact hP, hD⟩, hS.F ht⟩) hS.2.2 dX1_seek_30
  · skip
    refine lv_if_ne (tgt := 13) hx hb dX1_seek_4 (by decide) (fun c_4 => absurd c_4 (by decide)) (fun c_4 => ?_)
    refine lv_aload_n hx hb dX1_seek_7 rfl (lv_at hl 0 rfl) ?_
    refine lv_iconst (v := (-1)) hx hb dX1_seek_8 (by decide) ?_
    refine wr_calli (wr := []) (va_runV (As := [.int (-1)]) (rest := []) ⟨hx, hb, hml, hown, hts⟩ (c_noteFound l dC dI _ cL cI x r k a1 a2 a3 a4 hk hs u hd sz tx ln hu (-1)) (cwV 1 hts gX1_seek_X1_noteFound rfl rfl rfl (by decide +kernel) ⟨Nat.le_of_ble_eq_true rfl, Nat.le_of_ble_eq_true rfl⟩) (wr_preV hK (hP.sub (ws' := [(x, .inr (1, [.ref r, .ref k, .long hk, .int hs])), (r, .inr (0, [.ref a1, .ref a2, .ref a3, .ref a4, .int (nI u)])), (a1, .inl (cL, 150, .inr (.inl hd))), (a2, .inl (cI, 150, .inl sz)), (a3, .inl (cL, 150, .inr (.inl tx))), (a4, .inl (cI, 150, .inl ln))]) [0, 1, 2, 3, 4, 5] rfl) (hD.sub (ws' := [(x, .inr (1, [.ref r, .ref k, .long hk, .int hs])), (r, .inr (0, [.ref a1, .ref a2, .ref a3, .ref a4, .int (nI u)])), (a1, .inl (cL, 150, .inr (.inl hd))), (a2, .inl (cI, 150, .inl sz)), (a3, .inl (cL, 150, .inr (.inl tx))), (a4, .inl (cI, 150, .inl ln))]) [0, 1, 2, 3, 4, 5] (by decide) rfl) (ci := 1) (q0 := 0) rfl rfl) rfl rfl hl.1 rfl (lv_room (Nat.le_of_ble_eq_true rfl)) dX1_seek_9 ⟨Nat.le_of_ble_eq_true rfl, Nat.le_of_ble_eq_true rfl⟩) hP hD hS hA [0, 1, 2, 3, 4, 5] [] rfl rfl (by decide) (by decide) (fun r5 u_ H locs hr5 hP hD hS => ?_)
    replace hP := hP.sub (ws' := [(x, .inr (1, [.ref r, .ref k, .long u_.1, .int u_.2])), (r, .inr (0, [.ref a1, .ref a2, .ref a3, .ref a4, .int (nI u)])), (a1, .inl (cL, 150, .inr (.inl hd))), (a2, .inl (cI, 150, .inl sz)), (a3, .inl (cL, 150, .inr (.inl tx))), (a4, .inl (cI, 150, .inl ln))]) [0, 1, 2, 3, 4, 5] rfl
    replace hD := hD.sub (ws' := [(x, .inr (1, [.ref r, .ref k, .long u_.1, .int u_.2])), (r, .inr (0, [.ref a1, .ref a2, .ref a3, .ref a4, .int (nI u)])), (a1, .inl (cL, 150, .inr (.inl hd))), (a2, .inl (cI, 150, .inl sz)), (a3, .inl (cL, 150, .inr (.inl tx))), (a4, .inl (cI, 150, .inl ln))]) [0, 1, 2, 3, 4, 5] (by decide) rfl
    have hnar : narrow .boolean (.int r5) = .int r5 := by rcases hr5 with ⟨_, _, _, rfl, _⟩ | ⟨_, rfl, _⟩ <;> rfl
    exact W.zret (v := r5) hx hb hr (by first | rfl | decide +kernel | assumption) (fun t9 ht hW => ⟨⟨r5, u_, rfl, by first | exact Or.inl ⟨hok, hr5⟩ | exact Or.inr ⟨hok, by rcases hr5 with ⟨i0, h1, h2, _⟩ | ⟨_, h1, h2⟩; exact absurd ⟨i0, h1, h2⟩ (m1_no hu); exact ⟨h1, h2⟩⟩, by rw [ht]; exact hP, hD⟩, hS.F ht⟩) hS.2.2 dX1_seek_12
set_option maxHeartbeats 4000000 in
set_option maxRecDepth 100000 in
/-- before -/
theorem c_before (l : Launch) (dC : Nat → ClassId) (dI : Nat → Nat → Nat) (hz : Nat) (cL cI : ClassId) (x r k a1 a2 a3 a4 : Nat) (hk : Int64) (hs : Int32) (u : Nat) (hd : Nat → Int64) (sz : Nat → Int32) (tx : Nat → Int64) (ln : Nat → Int32) (hu : u ≤ 150) (q : Int64) (t : Int32) (j : Nat) (hj : okK t → spl u hd sz (hdOf q t) t j) : Met l yX1_before wsX1_before ({ frames := 3, cells := 0, slots := 0, locals := 70 }) (wrP (dC, dI) (kS cL cI) (tW cL cI x r k a1 a2 a3 a4 (hk, hs) (u, hd, sz, tx, ln)) [.ref x, .long q, .int t] hz) (va_Qi (fun (z : Int32) (v : Int64 × Int32) => (okK t ∧ nfQ u hd sz (nI j - 1) z v) ∨ (¬ okK t ∧ z = 0 ∧ v = (0, 0))) (wrB (dC, dI) (va_A (tW cL cI x r k a1 a2 a3 a4 (hk, hs) (u, hd, sz, tx, ln)) hz) (fun (v : Int64 × Int32) => tW cL cI x r k a1 a2 a3 a4 v (u, hd, sz, tx, ln))) (va_A (tW cL cI x r k a1 a2 a3 a4 (hk, hs) (u, hd, sz, tx, ln)) hz)) 0 0 (va_A (tW cL cI x r k a1 a2 a3 a4 (hk, hs) (u, hd, sz, tx, ln)) hz) := by
  refine Met.ofW (cc := cX1_before) (maxL := 4) (ret := some .boolean) (by decide) rfl ?_
  intro p e s m args below meth c s₁ B hml hv
  obtain ⟨rfl, hsz, hP, hK, hD0⟩ := hv
  have hx := B.exec
  have hb := B.bytes
  have hr := B.returns
  have hts := atoms_spec (ws := wsX1_before) B.pre
  have hown : s.vm.findClass RX1 = some m.cls := findClass_of_methodNamed B.named
  have hlocks := B.notSynchronized
  subst hsz
  have hD := hD0.self (sz := s.heap.size)
  generalize hAe : va_A (tW cL cI x r k a1 a2 a3 a4 (hk, hs) (u, hd, sz, tx, ln)) s.heap.size = A at hD ⊢
  have hA : ∀ q : Nat, s.heap.size ≤ q → A q := fun q h => by rw [← hAe]; exact Or.inr h
  have hS : va_S A s.heap s.heap [] := va_S.rf
  replace hP : va_P (dC, dI) vwCl [(x, .inr (1, [.ref r, .ref k, .long hk, .int hs])), (r, .inr (0, [.ref a1, .ref a2, .ref a3, .ref a4, .int (nI u)])), (a1, .inl (cL, 150, .inr (.inl hd))), (a2, .inl (cI, 150, .inl sz)), (a3, .inl (cL, 150, .inr (.inl tx))), (a4, .inl (cI, 150, .inl ln))] s.heap := hP
  replace hD : va_D A [(x, .inr (1, [.ref r, .ref k, .long hk, .int hs])), (r, .inr (0, [.ref a1, .ref a2, .ref a3, .ref a4, .int (nI u)])), (a1, .inl (cL, 150, .inr (.inl hd))), (a2, .inl (cI, 150, .inl sz)), (a3, .inl (cL, 150, .inr (.inl tx))), (a4, .inl (cI, 150, .inl ln))] := hD
  have hl := lv_entry ([.ref x, .long q, .int t]) (n := 4) (Nat.le_of_ble_eq_true rfl)
  rw [lg_entry_eq]
  generalize (lg_sl ([.ref x, .long q, .int t]) ++ List.replicate (4 - (lg_sl ([.ref x, .long q, .int t])).length) Slot.unset).toArray = ls at hl ⊢
  replace hl : lv_has ls 4 [(0, .ref x), (1, .long q), (3, .int t)] := hl
  refine lv_iload_n hx hb dX1_before_0 rfl (lv_at hl 2 rfl) ?_
  refine vp_callSi (va_Run.run (va_runS (As := [.int t]) (rest := []) ⟨hx, hb, hml, hown, hts⟩ (c_isKeySize l t) (va_cwS 1 hts gX1_before_X1_isKeySize rfl rfl rfl (by decide +kernel) ⟨Nat.le_of_ble_eq_true rfl, Nat.le_of_ble_eq_true rfl⟩) (st_pre) rfl rfl hl.1 rfl (lv_room (Nat.le_of_ble_eq_true rfl)) dX1_before_1 ⟨Nat.le_of_ble_eq_true rfl, Nat.le_of_ble_eq_true rfl⟩)) (fun r1 hr1 => ?_)
  rcases hr1 with ⟨rfl, hok⟩ | ⟨rfl, hok⟩
  · skip
    refine lv_if_ne (tgt := 13) hx hb dX1_before_4 (by decide) (fun c_4 => ?_) (fun c_4 => absurd c_4 (by decide))
    refine lv_aload_n hx hb dX1_before_13 rfl (lv_at hl 0 rfl) ?_
    refine lv_aload_n hx hb dX1_before_14 rfl (lv_at hl 0 rfl) ?_
    refine va_get (D := (dC, dI)) (ci := 1) (v := .ref r) (C := RX1) (T := TX1) (N := 4) hx hb hts i_X1_before_X1 hown hK hP 0 rfl rfl 0 (by decide) (hts (.fieldLink RX1 10 "BlockTree" "now" "LBlockTree$Rows;") (by decide +kernel)) (fun _ h9 => h9) rfl dX1_before_15 ?_
    refine lv_lload_n hx hb dX1_before_18 rfl (lv_at hl 1 rfl) ?_
    refine lv_iload_n hx hb dX1_before_19 rfl (lv_at hl 2 rfl) ?_
    refine vp_callSl (va_Run.run (va_runS (As := [.long q, .int t]) (rest := [.ref r, .ref x]) ⟨hx, hb, hml, hown, hts⟩ (c_headOf l q t) (va_cwS 2 hts gX1_before_X1_headOf rfl rfl rfl (by decide +kernel) ⟨Nat.le_of_ble_eq_true rfl, Nat.le_of_ble_eq_true rfl⟩) (st_pre) rfl rfl hl.1 rfl (lv_room (Nat.le_of_ble_eq_true rfl)) dX1_before_20 ⟨Nat.le_of_ble_eq_true rfl, Nat.le_of_ble_eq_true rfl⟩)) (fun r2 hr2 => ?_)
    subst hr2
    refine lv_iload_n hx hb dX1_before_23 rfl (lv_at hl 2 rfl) ?_
    refine vp_callSi (va_Run.run (va_runV (As := [.long (hdOf q t), .int t]) (rest := [.ref x]) ⟨hx, hb, hml, hown, hts⟩ (c_firstNotBefore l dC dI cL cI r a1 a2 a3 a4 u hd sz hu (hdOf q t) t j (hj hok)) (cwV 2 hts gX1_before_X0_firstNotBefore rfl rfl rfl (by decide +kernel) ⟨Nat.le_of_ble_eq_true rfl, Nat.le_of_ble_eq_true rfl⟩) (rd_preV hK (hP.sub (ws' := [(r, .inr (0, [.ref a1, .ref a2, .ref a3, .ref a4, .int (nI u)])), (a1, .inl (cL, 150, .inr (.inl hd))), (a2, .inl (cI, 150, .inl sz))]) [1, 2, 3] rfl) (ci := 0) (q0 := 0) rfl rfl) rfl rfl hl.1 rfl (lv_room (Nat.le_of_ble_eq_true rfl)) dX1_before_24 ⟨Nat.le_of_ble_eq_true rfl, Nat.le_of_ble_eq_true rfl⟩)) (fun r3 hr3 => ?_)
    subst hr3
    refine lv_iconst (v := 1) hx hb dX1_before_27 (by decide) ?_
    refine lv_isub hx hb dX1_before_28 ?_
    refine wr_calli (wr := []) (va_runV (As := [.int ((nI j) - 1)]) (rest := []) ⟨hx, hb, hml, hown, hts⟩ (c_noteFound l dC dI _ cL cI x r k a1 a2 a3 a4 hk hs u hd sz tx ln hu ((nI j) - 1)) (cwV 1 hts gX1_before_X1_noteFound rfl rfl rfl (by decide +kernel) ⟨Nat.le_of_ble_eq_true rfl, Nat.le_of_ble_eq_true rfl⟩) (wr_preV hK (hP.sub (ws' := [(x, .inr (1, [.ref r, .ref k, .long hk, .int hs])), (r, .inr (0, [.ref a1, .ref a2, .ref a3, .ref a4, .int (nI u)])), (a1, .inl (cL, 150, .inr (.inl hd))), (a2, .inl (cI, 150, .inl sz)), (a3, .inl (cL, 150, .inr (.inl tx))), (a4, .inl (cI, 150, .inl ln))]) [0, 1, 2, 3, 4, 5] rfl) (hD.sub (ws' := [(x, .inr (1, [.ref r, .ref k, .long hk, .int hs])), (r, .inr (0, [.ref a1, .ref a2, .ref a3, .ref a4, .int (nI u)])), (a1, .inl (cL, 150, .inr (.inl hd))), (a2, .inl (cI, 150, .inl sz)), (a3, .inl (cL, 150, .inr (.inl tx))), (a4, .inl (cI, 150, .inl ln))]) [0, 1, 2, 3, 4, 5] (by decide) rfl) (ci := 1) (q0 := 0) rfl rfl) rfl rfl hl.1 rfl (lv_room (Nat.le_of_ble_eq_true rfl)) dX1_before_29 ⟨Nat.le_of_ble_eq_true rfl, Nat.le_of_ble_eq_true rfl⟩) hP hD hS hA [0, 1, 2, 3, 4, 5] [] rfl rfl (by decide) (by decide) (fun r5 u_ H locs hr5 hP hD hS => ?_)
    replace hP := hP.sub (ws' := [(x, .inr (1, [.ref r, .ref k, .long u_.1, .int u_.2])), (r, .inr (0, [.ref a1, .ref a2, .ref a3, .ref a4, .int (nI u)])), (a1, .inl (cL, 150, .inr (.inl hd))), (a2, .inl (cI, 150, .inl sz)), (a3, .inl (cL, 150, .inr (.inl tx))), (a4, .inl (cI, 150, .inl ln))]) [0, 1, 2, 3, 4, 5] rfl
    replace hD := hD.sub (ws' := [(x, .inr (1, [.ref r, .ref k, .long u_.1, .int u_.2])), (r, .inr (0, [.ref a1, .ref a2, .ref a3, .ref a4, .int (nI u)])), (a1, .inl (cL, 150, .inr (.inl hd))), (a2, .inl (cI, 150, .inl sz)), (a3, .inl (cL, 150, .inr (.inl tx))), (a4, .inl (cI, 150, .inl ln))]) [0, 1, 2, 3, 4, 5] (by decide) rfl
    have hnar : narrow .boolean (.int r5) = .int r5 := by rcases hr5 with ⟨_, _, _, rfl, _⟩ | ⟨_, rfl, _⟩ <;> rfl
    exact W.zret (v := r5) hx hb hr (by first | rfl | decide +kernel | assumption) (fun t9 ht hW => ⟨⟨r5, u_, rfl, by first | exact Or.inl ⟨hok, hr5⟩ | exact Or.inr ⟨hok, by rcases hr5 with ⟨i0, h1, h2, _⟩ | ⟨_, h1, h2⟩; exact absurd ⟨i0, h1, h2⟩ (m1_no hu); exact ⟨h1, h2⟩⟩, by rw [ht]; exact hP, hD⟩, hS.F ht⟩) hS.2.2 dX1_before_32
  · skip
    refine lv_if_ne (tgt := 13) hx hb dX1_before_4 (by decide) (fun c_4 => absurd c_4 (by decide)) (fun c_4 => ?_)
    refine lv_aload_n hx hb dX1_before_7 rfl (lv_at hl 0 rfl) ?_
    refine lv_iconst (v := (-1)) hx hb dX1_before_8 (by decide) ?_
    refine wr_calli (wr := []) (va_runV (As := [.int (-1)]) (rest := []) ⟨hx, hb, hml, hown, hts⟩ (c_noteFound l dC dI _ cL cI x r k a1 a2 a3 a4 hk hs u hd sz tx ln hu (-1)) (cwV 1 hts gX1_before_X1_noteFound rfl rfl rfl (by decide +kernel) ⟨Nat.le_of_ble_eq_true rfl, Nat.le_of_ble_eq_true rfl⟩) (wr_preV hK (hP.sub (ws' := [(x, .inr (1, [.ref r, .ref k, .long hk, .int hs])), (r, .inr (0, [.ref a1, .ref a2, .ref a3, .ref a4, .int (nI u)])), (a1, .inl (cL, 150, .inr (.inl hd))), (a2, .inl (cI, 150, .inl sz)), (a3, .inl (cL, 150, .inr (.inl tx))), (a4, .inl (cI, 150, .inl ln))]) [0, 1, 2, 3, 4, 5] rfl) (hD.sub (ws' := [(x, .inr (1, [.ref r, .ref k, .long hk, .int hs])), (r, .inr (0, [.ref a1, .ref a2, .ref a3, .ref a4, .int (nI u)])), (a1, .inl (cL, 150, .inr (.inl hd))), (a2, .inl (cI, 150, .inl sz)), (a3, .inl (cL, 150, .inr (.inl tx))), (a4, .inl (cI, 150, .inl ln))]) [0, 1, 2, 3, 4, 5] (by decide) rfl) (ci := 1) (q0 := 0) rfl rfl) rfl rfl hl.1 rfl (lv_room (Nat.le_of_ble_eq_true rfl)) dX1_before_9 ⟨Nat.le_of_ble_eq_true rfl, Nat.le_of_ble_eq_true rfl⟩) hP hD hS hA [0, 1, 2, 3, 4, 5] [] rfl rfl (by decide) (by decide) (fun r5 u_ H locs hr5 hP hD hS => ?_)
    replace hP := hP.sub (ws' := [(x, .inr (1, [.ref r, .ref k, .long u_.1, .int u_.2])), (r, .inr (0, [.ref a1, .ref a2, .ref a3, .ref a4, .int (nI u)])), (a1, .inl (cL, 150, .inr (.inl hd))), (a2, .inl (cI, 150, .inl sz)), (a3, .inl (cL, 150, .inr (.inl tx))), (a4, .inl (cI, 150, .inl ln))]) [0, 1, 2, 3, 4, 5] rfl
    replace hD := hD.sub (ws' := [(x, .inr (1, [.ref r, .ref k, .long u_.1, .int u_.2])), (r, .inr (0, [.ref a1, .ref a2, .ref a3, .ref a4, .int (nI u)])), (a1, .inl (cL, 150, .inr (.inl hd))), (a2, .inl (cI, 150, .inl sz)), (a3, .inl (cL, 150, .inr (.inl tx))), (a4, .inl (cI, 150, .inl ln))]) [0, 1, 2, 3, 4, 5] (by decide) rfl
    have hnar : narrow .boolean (.int r5) = .int r5 := by rcases hr5 with ⟨_, _, _, rfl, _⟩ | ⟨_, rfl, _⟩ <;> rfl
    exact W.zret (v := r5) hx hb hr (by first | rfl | decide +kernel | assumption) (fun t9 ht hW => ⟨⟨r5, u_, rfl, by first | exact Or.inl ⟨hok, hr5⟩ | exact Or.inr ⟨hok, by rcases hr5 with ⟨i0, h1, h2, _⟩ | ⟨_, h1, h2⟩; exact absurd ⟨i0, h1, h2⟩ (m1_no hu); exact ⟨h1, h2⟩⟩, by rw [ht]; exact hP, hD⟩, hS.F ht⟩) hS.2.2 dX1_before_12
set_option maxHeartbeats 4000000 in
set_option maxRecDepth 100000 in
/-- put -/
theorem c_put (l : Launch) (dC : Nat → ClassId) (dI : Nat → Nat → Nat) (hz : Nat) (cL cI : ClassId) (x r k a1 a2 a3 a4 : Nat) (hk : Int64) (hs : Int32) (u : Nat) (hd : Nat → Int64) (sz : Nat → Int32) (tx : Nat → Int64) (ln : Nat → Int32) (hu : u ≤ 150) (q : Int64) (t : Int32) (b : Int64) (n : Int32) (j : Nat) (hj : okK t → spl u hd sz (hdOf q t) t j) : Met l yX1_put wsX1_put ({ frames := 4, cells := 0, slots := 0, locals := 97 }) (wrP (dC, dI) (kS cL cI) (tW cL cI x r k a1 a2 a3 a4 (hk, hs) (u, hd, sz, tx, ln)) [.ref x, .long q, .int t, .long b, .int n] hz) (va_Qi (fun (z : Int32) (v : RS) => (okK t ∧ okT n ∧ setQ (u, hd, sz, tx, ln) j (hdOf q t) t (lowB b n) n z v) ∨ (¬ (okK t ∧ okT n) ∧ z = 0 ∧ v = (u, hd, sz, tx, ln))) (wrB (dC, dI) (va_A (tW cL cI x r k a1 a2 a3 a4 (hk, hs) (u, hd, sz, tx, ln)) hz) (fun (v : RS) => tW cL cI x r k a1 a2 a3 a4 (hk, hs) v)) (va_A (tW cL cI x r k a1 a2 a3 a4 (hk, hs) (u, hd, sz, tx, ln)) hz)) 0 0 (va_A (tW cL cI x r k a1 a2 a3 a4 (hk, hs) (u, hd, sz, tx, ln)) hz) := by
  refine Met.ofW (cc := cX1_put) (maxL := 7) (ret := some .boolean) (by decide) rfl ?_
  intro p e s m args below meth c s₁ B hml hv
  obtain ⟨rfl, hsz, hP, hK, hD0⟩ := hv
  have hx := B.exec
  have hb := B.bytes
  have hr := B.returns
  have hts := atoms_spec (ws := wsX1_put) B.pre
  have hown : s.vm.findClass RX1 = some m.cls := findClass_of_methodNamed B.named
  have hlocks := B.notSynchronized
  subst hsz
  have hD := hD0.self (sz := s.heap.size)
  generalize hAe : va_A (tW cL cI x r k a1 a2 a3 a4 (hk, hs) (u, hd, sz, tx, ln)) s.heap.size = A at hD ⊢
  have hA : ∀ q : Nat, s.heap.size ≤ q → A q := fun q h => by rw [← hAe]; exact Or.inr h
  have hS : va_S A s.heap s.heap [] := va_S.rf
  replace hP : va_P (dC, dI) vwCl [(x, .inr (1, [.ref r, .ref k, .long hk, .int hs])), (r, .inr (0, [.ref a1, .ref a2, .ref a3, .ref a4, .int (nI u)])), (a1, .inl (cL, 150, .inr (.inl hd))), (a2, .inl (cI, 150, .inl sz)), (a3, .inl (cL, 150, .inr (.inl tx))), (a4, .inl (cI, 150, .inl ln))] s.heap := hP
  replace hD : va_D A [(x, .inr (1, [.ref r, .ref k, .long hk, .int hs])), (r, .inr (0, [.ref a1, .ref a2, .ref a3, .ref a4, .int (nI u)])), (a1, .inl (cL, 150, .inr (.inl hd))), (a2, .inl (cI, 150, .inl sz)), (a3, .inl (cL, 150, .inr (.inl tx))), (a4, .inl (cI, 150, .inl ln))] := hD
  have hl := lv_entry ([.ref x, .long q, .int t, .long b, .int n]) (n := 7) (Nat.le_of_ble_eq_true rfl)
  rw [lg_entry_eq]
  generalize (lg_sl ([.ref x, .long q, .int t, .long b, .int n]) ++ List.replicate (7 - (lg_sl ([.ref x, .long q, .int t, .long b, .int n])).length) Slot.unset).toArray = ls at hl ⊢
  replace hl : lv_has ls 7 [(0, .ref x), (1, .long q), (3, .int t), (4, .long b), (6, .int n)] := hl
  refine lv_iload_n hx hb dX1_put_0 rfl (lv_at hl 2 rfl) ?_
  refine vp_callSi (va_Run.run (va_runS (As := [.int t]) (rest := []) ⟨hx, hb, hml, hown, hts⟩ (c_isKeySize l t) (va_cwS 1 hts gX1_put_X1_isKeySize rfl rfl rfl (by decide +kernel) ⟨Nat.le_of_ble_eq_true rfl, Nat.le_of_ble_eq_true rfl⟩) (st_pre) rfl rfl hl.1 rfl (lv_room (Nat.le_of_ble_eq_true rfl)) dX1_put_1 ⟨Nat.le_of_ble_eq_true rfl, Nat.le_of_ble_eq_true rfl⟩)) (fun r1 hr1 => ?_)
  rcases hr1 with ⟨rfl, hok⟩ | ⟨rfl, hok⟩
  · skip
    refine lv_if_eq (tgt := 15) hx hb dX1_put_4 (by decide) (fun c_4 => absurd c_4 (by decide)) (fun c_4 => ?_)
    refine lv_iload hx hb dX1_put_7 (lv_at hl 4 rfl) ?_
    refine vp_callSi (va_Run.run (va_runS (As := [.int n]) (rest := []) ⟨hx, hb, hml, hown, hts⟩ (c_isTextLength l n) (va_cwS 1 hts gX1_put_X1_isTextLength rfl rfl rfl (by decide +kernel) ⟨Nat.le_of_ble_eq_true rfl, Nat.le_of_ble_eq_true rfl⟩) (st_pre) rfl rfl hl.1 rfl (lv_room (Nat.le_of_ble_eq_true rfl)) dX1_put_9 ⟨Nat.le_of_ble_eq_true rfl, Nat.le_of_ble_eq_true rfl⟩)) (fun r2 hr2 => ?_)
    rcases hr2 with ⟨rfl, hokT⟩ | ⟨rfl, hokT⟩
    · skip
      refine lv_if_ne (tgt := 17) hx hb dX1_put_12 (by decide) (fun c_12 => ?_) (fun c_12 => absurd c_12 (by decide))
      refine lv_aload_n hx hb dX1_put_17 rfl (lv_at hl 0 rfl) ?_
      refine va_get (D := (dC, dI)) (ci := 1) (v := .ref r) (C := RX1) (T := TX1) (N := 4) hx hb hts i_X1_put_X1 hown hK hP 0 rfl rfl 0 (by decide) (hts (.fieldLink RX1 10 "BlockTree" "now" "LBlockTree$Rows;") (by decide +kernel)) (fun _ h9 => h9) rfl dX1_put_18 ?_
      refine lv_lload_n hx hb dX1_put_21 rfl (lv_at hl 1 rfl) ?_
      refine lv_iload_n hx hb dX1_put_22 rfl (lv_at hl 2 rfl) ?_
      refine vp_callSl (va_Run.run (va_runS (As := [.long q, .int t]) (rest := [.ref r]) ⟨hx, hb, hml, hown, hts⟩ (c_headOf l q t) (va_cwS 2 hts gX1_put_X1_headOf rfl rfl rfl (by decide +kernel) ⟨Nat.le_of_ble_eq_true rfl, Nat.le_of_ble_eq_true rfl⟩) (st_pre) rfl rfl hl.1 rfl (lv_room (Nat.le_of_ble_eq_true rfl)) dX1_put_23 ⟨Nat.le_of_ble_eq_true rfl, Nat.le_of_ble_eq_true rfl⟩)) (fun r3 hr3 => ?_)
      subst hr3
      refine lv_iload_n hx hb dX1_put_26 rfl (lv_at hl 2 rfl) ?_
      refine lv_lload hx hb dX1_put_27 (lv_at hl 3 rfl) ?_
      refine lv_iload hx hb dX1_put_29 (lv_at hl 4 rfl) ?_
      refine vp_callSl (va_Run.run (va_runS (As := [.long b, .int n]) (rest := [.int t, .long (hdOf q t), .ref r]) ⟨hx, hb, hml, hown, hts⟩ (c_lowestBytes l b n) (va_cwS 2 hts gX1_put_X1_lowestBytes rfl rfl rfl (by decide +kernel) ⟨Nat.le_of_ble_eq_true rfl, Nat.le_of_ble_eq_true rfl⟩) (st_pre) rfl rfl hl.1 rfl (lv_room (Nat.le_of_ble_eq_true rfl)) dX1_put_31 ⟨Nat.le_of_ble_eq_true rfl, Nat.le_of_ble_eq_true rfl⟩)) (fun r4 hr4 => ?_)
      subst hr4
      refine lv_iload hx hb dX1_put_34 (lv_at hl 4 rfl) ?_
      refine wr_calli (wr := [(x, .inr (1, [.ref r, .ref k, .long hk, .int hs]))]) (va_runV (As := [.long (hdOf q t), .int t, .long (lowB b n), .int n]) (rest := []) ⟨hx, hb, hml, hown, hts⟩ (c_set l dC dI _ cL cI r a1 a2 a3 a4 u hd sz tx ln hu (hdOf q t) t (lowB b n) n j (hj hok) (hj hok).1) (cwV 4 hts gX1_put_X0_set rfl rfl rfl (by decide +kernel) ⟨Nat.le_of_ble_eq_true rfl, Nat.le_of_ble_eq_true rfl⟩) (wr_preV hK (hP.sub (ws' := [(r, .inr (0, [.ref a1, .ref a2, .ref a3, .ref a4, .int (nI u)])), (a1, .inl (cL, 150, .inr (.inl hd))), (a2, .inl (cI, 150, .inl sz)), (a3, .inl (cL, 150, .inr (.inl tx))), (a4, .inl (cI, 150, .inl ln))]) [1, 2, 3, 4, 5] rfl) (hD.sub (ws' := [(r, .inr (0, [.ref a1, .ref a2, .ref a3, .ref a4, .int (nI u)])), (a1, .inl (cL, 150, .inr (.inl hd))), (a2, .inl (cI, 150, .inl sz)), (a3, .inl (cL, 150, .inr (.inl tx))), (a4, .inl (cI, 150, .inl ln))]) [1, 2, 3, 4, 5] (by decide) rfl) (ci := 0) (q0 := 0) rfl rfl) rfl rfl hl.1 rfl (lv_room (Nat.le_of_ble_eq_true rfl)) dX1_put_36 ⟨Nat.le_of_ble_eq_true rfl, Nat.le_of_ble_eq_true rfl⟩) hP hD hS hA [1, 2, 3, 4, 5] [0] rfl rfl (by decide) (by decide) (fun r5 u_ H locs hr5 hP hD hS => ?_)
      replace hP := hP.sub (ws' := [(x, .inr (1, [.ref r, .ref k, .long hk, .int hs])), (r, .inr (0, [.ref a1, .ref a2, .ref a3, .ref a4, .int (nI u_.1)])), (a1, .inl (cL, 150, .inr (.inl u_.2.1))), (a2, .inl (cI, 150, .inl u_.2.2.1)), (a3, .inl (cL, 150, .inr (.inl u_.2.2.2.1))), (a4, .inl (cI, 150, .inl u_.2.2.2.2))]) [0, 1, 2, 3, 4, 5] rfl
      replace hD := hD.sub (ws' := [(x, .inr (1, [.ref r, .ref k, .long hk, .int hs])), (r, .inr (0, [.ref a1, .ref a2, .ref a3, .ref a4, .int (nI u_.1)])), (a1, .inl (cL, 150, .inr (.inl u_.2.1))), (a2, .inl (cI, 150, .inl u_.2.2.1)), (a3, .inl (cL, 150, .inr (.inl u_.2.2.2.1))), (a4, .inl (cI, 150, .inl u_.2.2.2.2))]) [0, 1, 2, 3, 4, 5] (by decide) rfl
      have hnar : narrow .boolean (.int r5) = .int r5 := by rcases hr5 with ⟨_, rfl, _⟩ | ⟨_, _, rfl, _⟩ | ⟨_, _, rfl, _⟩ <;> rfl
      exact W.zret (v := r5) hx hb hr (by first | rfl | decide +kernel | assumption) (fun t9 ht hW => ⟨⟨r5, u_, rfl, Or.inl ⟨hok, hokT, hr5⟩, by rw [ht]; exact hP, hD⟩, hS.F ht⟩) hS.2.2 dX1_put_39
    · skip
      have hbad : ¬ (okK t ∧ okT n) := fun g => hokT g.2
      refine lv_if_ne (tgt := 17) hx hb dX1_put_12 (by decide) (fun c_12 => absurd c_12 (by decide)) (fun c_12 => ?_)
      refine lv_iconst (v := 0) hx hb dX1_put_15 (by decide) ?_
      exact W.zret (v := 0) hx hb hr (by first | rfl | decide +kernel | assumption) (fun t9 ht hW => ⟨⟨0, (u, hd, sz, tx, ln), rfl, Or.inr ⟨hbad, rfl, rfl⟩, by rw [ht]; exact hP, hD⟩, hS.F ht⟩) hS.2.2 dX1_put_16
  · skip
    have hbad : ¬ (okK t ∧ okT n) := fun g => hok g.1
    refine lv_if_eq (tgt := 15) hx hb dX1_put_4 (by decide) (fun c_4 => ?_) (fun c_4 => absurd c_4 (by decide))
    refine lv_iconst (v := 0) hx hb dX1_put_15 (by decide) ?_
    exact W.zret (v := 0) hx hb hr (by first | rfl | decide +kernel | assumption) (fun t9 ht hW => ⟨⟨0, (u, hd, sz, tx, ln), rfl, Or.inr ⟨hbad, rfl, rfl⟩, by rw [ht]; exact hP, hD⟩, hS.F ht⟩) hS.2.2 dX1_put_16
set_option maxHeartbeats 4000000 in
set_option maxRecDepth 100000 in
/-- remove -/
theorem c_remove (l : Launch) (dC : Nat → ClassId) (dI : Nat → Nat → Nat) (hz : Nat) (cL cI : ClassId) (x r k a1 a2 a3 a4 : Nat) (hk : Int64) (hs : Int32) (u : Nat) (hd : Nat → Int64) (sz : Nat → Int32) (tx : Nat → Int64) (ln : Nat → Int32) (hu : u ≤ 150) (q : Int64) (t : Int32) (j : Nat) (hj : okK t → spl u hd sz (hdOf q t) t j) : Met l yX1_remove wsX1_remove ({ frames := 4, cells := 0, slots := 0, locals := 96 }) (wrP (dC, dI) (kS cL cI) (tW cL cI x r k a1 a2 a3 a4 (hk, hs) (u, hd, sz, tx, ln)) [.ref x, .long q, .int t] hz) (va_Qi (fun (z : Int32) (v : RS) => (okK t ∧ hld u hd sz j (hdOf q t) t ∧ z = 1 ∧ v = rs_clo (u, hd, sz, tx, ln) j) ∨ (¬ (okK t ∧ hld u hd sz j (hdOf q t) t) ∧ z = 0 ∧ v = (u, hd, sz, tx, ln))) (wrB (dC, dI) (va_A (tW cL cI x r k a1 a2 a3 a4 (hk, hs) (u, hd, sz, tx, ln)) hz) (fun (v : RS) => tW cL cI x r k a1 a2 a3 a4 (hk, hs) v)) (va_A (tW cL cI x r k a1 a2 a3 a4 (hk, hs) (u, hd, sz, tx, ln)) hz)) 0 0 (va_A (tW cL cI x r k a1 a2 a3 a4 (hk, hs) (u, hd, sz, tx, ln)) hz) := by
  refine Met.ofW (cc := cX1_remove) (maxL := 5) (ret := some .boolean) (by decide) rfl ?_
  intro p e s m args below meth c s₁ B hml hv
  obtain ⟨rfl, hsz, hP, hK, hD0⟩ := hv
  have hx := B.exec
  have hb := B.bytes
  have hr := B.returns
  have hts := atoms_spec (ws := wsX1_remove) B.pre
  have hown : s.vm.findClass RX1 = some m.cls := findClass_of_methodNamed B.named
  have hlocks := B.notSynchronized
  subst hsz
  have hD := hD0.self (sz := s.heap.size)
  generalize hAe : va_A (tW cL cI x r k a1 a2 a3 a4 (hk, hs) (u, hd, sz, tx, ln)) s.heap.size = A at hD ⊢
  have hA : ∀ q : Nat, s.heap.size ≤ q → A q := fun q h => by rw [← hAe]; exact Or.inr h
  have hS : va_S A s.heap s.heap [] := va_S.rf
  replace hP : va_P (dC, dI) vwCl [(x, .inr (1, [.ref r, .ref k, .long hk, .int hs])), (r, .inr (0, [.ref a1, .ref a2, .ref a3, .ref a4, .int (nI u)])), (a1, .inl (cL, 150, .inr (.inl hd))), (a2, .inl (cI, 150, .inl sz)), (a3, .inl (cL, 150, .inr (.inl tx))), (a4, .inl (cI, 150, .inl ln))] s.heap := hP
  replace hD : va_D A [(x, .inr (1, [.ref r, .ref k, .long hk, .int hs])), (r, .inr (0, [.ref a1, .ref a2, .ref a3, .ref a4, .int (nI u)])), (a1, .inl (cL, 150, .inr (.inl hd))), (a2, .inl (cI, 150, .inl sz)), (a3, .inl (cL, 150, .inr (.inl tx))), (a4, .inl (cI, 150, .inl ln))] := hD
  have hl := lv_entry ([.ref x, .long q, .int t]) (n := 5) (Nat.le_of_ble_eq_true rfl)
  rw [lg_entry_eq]
  generalize (lg_sl ([.ref x, .long q, .int t]) ++ List.replicate (5 - (lg_sl ([.ref x, .long q, .int t])).length) Slot.unset).toArray = ls at hl ⊢
  replace hl : lv_has ls 5 [(0, .ref x), (1, .long q), (3, .int t)] := hl
  refine lv_aload_n hx hb dX1_remove_0 rfl (lv_at hl 0 rfl) ?_
  refine lv_lload_n hx hb dX1_remove_1 rfl (lv_at hl 1 rfl) ?_
  refine lv_iload_n hx hb dX1_remove_2 rfl (lv_at hl 2 rfl) ?_
  refine vp_callSi (va_Run.run (va_runV (As := [.long q, .int t]) (rest := []) ⟨hx, hb, hml, hown, hts⟩ (c_placeOf l dC dI cL cI x r k a1 a2 a3 a4 hk hs u hd sz tx ln hu q t j hj) (cwV 2 hts gX1_remove_X1_placeOf rfl rfl rfl (by decide +kernel) ⟨Nat.le_of_ble_eq_true rfl, Nat.le_of_ble_eq_true rfl⟩) (rd_preV hK (hP.sub (ws' := [(x, .inr (1, [.ref r, .ref k, .long hk, .int hs])), (r, .inr (0, [.ref a1, .ref a2, .ref a3, .ref a4, .int (nI u)])), (a1, .inl (cL, 150, .inr (.inl hd))), (a2, .inl (cI, 150, .inl sz)), (a3, .inl (cL, 150, .inr (.inl tx))), (a4, .inl (cI, 150, .inl ln))]) [0, 1, 2, 3, 4, 5] rfl) (ci := 1) (q0 := 0) rfl rfl) rfl rfl hl.1 rfl (lv_room (Nat.le_of_ble_eq_true rfl)) dX1_remove_3 ⟨Nat.le_of_ble_eq_true rfl, Nat.le_of_ble_eq_true rfl⟩)) (fun r1 hr1 => ?_)
  rcases hr1 with ⟨hok, hh, rfl⟩ | ⟨hh, rfl⟩
  · skip
    have hju : j < u := hh.1
    refine lv_istore (lv' := [(4, .int (nI j)), (0, .ref x), (1, .long q), (3, .int t)]) hx hb dX1_remove_6 hl (by decide) rfl (fun ls hl => ?_)
    refine lv_aload_n hx hb dX1_remove_8 rfl (lv_at hl 1 rfl) ?_
    refine va_get (D := (dC, dI)) (ci := 1) (v := .ref r) (C := RX1) (T := TX1) (N := 4) hx hb hts i_X1_remove_X1 hown hK hP 0 rfl rfl 0 (by decide) (hts (.fieldLink RX1 10 "BlockTree" "now" "LBlockTree$Rows;") (by decide +kernel)) (fun _ h9 => h9) rfl dX1_remove_9 ?_
    refine lv_iload hx hb dX1_remove_12 (lv_at hl 0 rfl) ?_
    refine vp_callSi (va_Run.run (va_runV (As := [.int (nI j)]) (rest := []) ⟨hx, hb, hml, hown, hts⟩ (c_has l dC dI cL cI r a1 a2 a3 a4 u hu (nI j)) (cwV 1 hts gX1_remove_X0_has rfl rfl rfl (by decide +kernel) ⟨Nat.le_of_ble_eq_true rfl, Nat.le_of_ble_eq_true rfl⟩) (rd_preV hK (hP.sub (ws' := [(r, .inr (0, [.ref a1, .ref a2, .ref a3, .ref a4, .int (nI u)]))]) [1] rfl) (ci := 0) (q0 := 0) rfl rfl) rfl rfl hl.1 rfl (lv_room (Nat.le_of_ble_eq_true rfl)) dX1_remove_14 ⟨Nat.le_of_ble_eq_true rfl, Nat.le_of_ble_eq_true rfl⟩)) (fun r2 hr2 => ?_)
    rcases hr2 with ⟨rfl, -⟩ | ⟨rfl, hno⟩
    · skip
      refine lv_if_ne (tgt := 22) hx hb dX1_remove_17 (by decide) (fun c_17 => ?_) (fun c_17 => absurd c_17 (by decide))
      refine lv_aload_n hx hb dX1_remove_22 rfl (lv_at hl 1 rfl) ?_
      refine va_get (D := (dC, dI)) (ci := 1) (v := .ref r) (C := RX1) (T := TX1) (N := 4) hx hb hts i_X1_remove_X1 hown hK hP 0 rfl rfl 0 (by decide) (hts (.fieldLink RX1 10 "BlockTree" "now" "LBlockTree$Rows;") (by decide +kernel)) (fun _ h9 => h9) rfl dX1_remove_23 ?_
      refine lv_iload hx hb dX1_remove_26 (lv_at hl 0 rfl) ?_
      refine wr_callv (wr := [(x, .inr (1, [.ref r, .ref k, .long hk, .int hs]))]) (va_runV (As := [.int (nI j)]) (rest := []) ⟨hx, hb, hml, hown, hts⟩ (c_drop l dC dI _ cL cI r a1 a2 a3 a4 u hd sz tx ln hu j hju) (cwV 1 hts gX1_remove_X0_drop rfl rfl rfl (by decide +kernel) ⟨Nat.le_of_ble_eq_true rfl, Nat.le_of_ble_eq_true rfl⟩) (wr_preV hK (hP.sub (ws' := [(r, .inr (0, [.ref a1, .ref a2, .ref a3, .ref a4, .int (nI u)])), (a1, .inl (cL, 150, .inr (.inl hd))), (a2, .inl (cI, 150, .inl sz)), (a3, .inl (cL, 150, .inr (.inl tx))), (a4, .inl (cI, 150, .inl ln))]) [1, 2, 3, 4, 5] rfl) (hD.sub (ws' := [(r, .inr (0, [.ref a1, .ref a2, .ref a3, .ref a4, .int (nI u)])), (a1, .inl (cL, 150, .inr (.inl hd))), (a2, .inl (cI, 150, .inl sz)), (a3, .inl (cL, 150, .inr (.inl tx))), (a4, .inl (cI, 150, .inl ln))]) [1, 2, 3, 4, 5] (by decide) rfl) (ci := 0) (q0 := 0) rfl rfl) rfl rfl hl.1 rfl (lv_room (Nat.le_of_ble_eq_true rfl)) dX1_remove_28 ⟨Nat.le_of_ble_eq_true rfl, Nat.le_of_ble_eq_true rfl⟩) hP hD hS hA [1, 2, 3, 4, 5] [0] rfl rfl (by decide) (by decide) (fun u_ H locs hr5 hP hD hS => ?_)
      subst hr5
      replace hP := hP.sub (ws' := [(x, .inr (1, [.ref r, .ref k, .long hk, .int hs])), (r, .inr (0, [.ref a1, .ref a2, .ref a3, .ref a4, .int (nI (u - 1))])), (a1, .inl (cL, 150, .inr (.inl (clo hd j u)))), (a2, .inl (cI, 150, .inl (clo sz j u))), (a3, .inl (cL, 150, .inr (.inl (clo tx j u)))), (a4, .inl (cI, 150, .inl (clo ln j u)))]) [0, 1, 2, 3, 4, 5] rfl
      replace hD := hD.sub (ws' := [(x, .inr (1, [.ref r, .ref k, .long hk, .int hs])), (r, .inr (0, [.ref a1, .ref a2, .ref a3, .ref a4, .int (nI (u - 1))])), (a1, .inl (cL, 150, .inr (.inl (clo hd j u)))), (a2, .inl (cI, 150, .inl (clo sz j u))), (a3, .inl (cL, 150, .inr (.inl (clo tx j u)))), (a4, .inl (cI, 150, .inl (clo ln j u)))]) [0, 1, 2, 3, 4, 5] (by decide) rfl
      refine lv_iconst (v := 1) hx hb dX1_remove_31 (by decide) ?_
      exact W.zret (v := 1) hx hb hr (by first | rfl | decide +kernel | assumption) (fun t9 ht hW => ⟨⟨1, rs_clo (u, hd, sz, tx, ln) j, rfl, Or.inl ⟨hok, hh, rfl, rfl⟩, by rw [ht]; exact hP, hD⟩, hS.F ht⟩) hS.2.2 dX1_remove_32
    · skip
      exact absurd ⟨j, hju, rfl⟩ hno
  · skip
    refine lv_istore (lv' := [(4, .int (-1)), (0, .ref x), (1, .long q), (3, .int t)]) hx hb dX1_remove_6 hl (by decide) rfl (fun ls hl => ?_)
    refine lv_aload_n hx hb dX1_remove_8 rfl (lv_at hl 1 rfl) ?_
    refine va_get (D := (dC, dI)) (ci := 1) (v := .ref r) (C := RX1) (T := TX1) (N := 4) hx hb hts i_X1_remove_X1 hown hK hP 0 rfl rfl 0 (by decide) (hts (.fieldLink RX1 10 "BlockTree" "now" "LBlockTree$Rows;") (by decide +kernel)) (fun _ h9 => h9) rfl dX1_remove_9 ?_
    refine lv_iload hx hb dX1_remove_12 (lv_at hl 0 rfl) ?_
    refine vp_callSi (va_Run.run (va_runV (As := [.int (-1)]) (rest := []) ⟨hx, hb, hml, hown, hts⟩ (c_has l dC dI cL cI r a1 a2 a3 a4 u hu (-1)) (cwV 1 hts gX1_remove_X0_has rfl rfl rfl (by decide +kernel) ⟨Nat.le_of_ble_eq_true rfl, Nat.le_of_ble_eq_true rfl⟩) (rd_preV hK (hP.sub (ws' := [(r, .inr (0, [.ref a1, .ref a2, .ref a3, .ref a4, .int (nI u)]))]) [1] rfl) (ci := 0) (q0 := 0) rfl rfl) rfl rfl hl.1 rfl (lv_room (Nat.le_of_ble_eq_true rfl)) dX1_remove_14 ⟨Nat.le_of_ble_eq_true rfl, Nat.le_of_ble_eq_true rfl⟩)) (fun r2 hr2 => ?_)
    rcases hr2 with ⟨rfl, hyes⟩ | ⟨rfl, -⟩
    · skip
      exact absurd hyes (m1_no hu)
    · skip
      refine lv_if_ne (tgt := 22) hx hb dX1_remove_17 (by decide) (fun c_17 => absurd c_17 (by decide)) (fun c_17 => ?_)
      refine lv_iconst (v := 0) hx hb dX1_remove_20 (by decide) ?_
      exact W.zret (v := 0) hx hb hr (by first | rfl | decide +kernel | assumption) (fun t9 ht hW => ⟨⟨0, (u, hd, sz, tx, ln), rfl, Or.inr ⟨hh, rfl, rfl⟩, by rw [ht]; exact hP, hD⟩, hS.F ht⟩) hS.2.2 dX1_remove_21
set_option maxHeartbeats 4000000 in
set_option maxRecDepth 100000 in
/-- commit -/
theorem c_commit (l : Launch) (dC : Nat → ClassId) (dI : Nat → Nat → Nat) (hz : Nat) (cL cI : ClassId) (x r k a1 a2 a3 a4 b1 b2 b3 b4 : Nat) (hk : Int64) (hs : Int32) (w v0 : RS) (hu : w.1 ≤ 150) : Met l yX1_commit wsX1_commit ({ frames := 2, cells := 0, slots := 0, locals := 47 }) (wrP (dC, dI) (kS cL cI) (tW cL cI x r k a1 a2 a3 a4 (hk, hs) w ++ rW cL cI k b1 b2 b3 b4 v0) [.ref x] hz) (va_Qv (fun (v : RS) => v = rs_cpy w v0) (wrB (dC, dI) (va_A (tW cL cI x r k a1 a2 a3 a4 (hk, hs) w ++ rW cL cI k b1 b2 b3 b4 v0) hz) (fun (v : RS) => tW cL cI x r k a1 a2 a3 a4 (hk, hs) w ++ rW cL cI k b1 b2 b3 b4 v)) (va_A (tW cL cI x r k a1 a2 a3 a4 (hk, hs) w ++ rW cL cI k b1 b2 b3 b4 v0) hz)) 0 0 (va_A (tW cL cI x r k a1 a2 a3 a4 (hk, hs) w ++ rW cL cI k b1 b2 b3 b4 v0) hz) := by
  refine Met.ofW (cc := cX1_commit) (maxL := 1) (ret := none) (by decide) rfl ?_
  intro p e s m args below meth c s₁ B hml hv
  obtain ⟨rfl, hsz, hP, hK, hD0⟩ := hv
  have hx := B.exec
  have hb := B.bytes
  have hr := B.returns
  have hts := atoms_spec (ws := wsX1_commit) B.pre
  have hown : s.vm.findClass RX1 = some m.cls := findClass_of_methodNamed B.named
  have hlocks := B.notSynchronized
  subst hsz
  have hD := hD0.self (sz := s.heap.size)
  generalize hAe : va_A (tW cL cI x r k a1 a2 a3 a4 (hk, hs) w ++ rW cL cI k b1 b2 b3 b4 v0) s.heap.size = A at hD ⊢
  have hA : ∀ q : Nat, s.heap.size ≤ q → A q := fun q h => by rw [← hAe]; exact Or.inr h
  have hS : va_S A s.heap s.heap [] := va_S.rf
  replace hP : va_P (dC, dI) vwCl [(x, .inr (1, [.ref r, .ref k, .long hk, .int hs])), (r, .inr (0, [.ref a1, .ref a2, .ref a3, .ref a4, .int (nI w.1)])), (a1, .inl (cL, 150, .inr (.inl w.2.1))), (a2, .inl (cI, 150, .inl w.2.2.1)), (a3, .inl (cL, 150, .inr (.inl w.2.2.2.1))), (a4, .inl (cI, 150, .inl w.2.2.2.2)), (k, .inr (0, [.ref b1, .ref b2, .ref b3, .ref b4, .int (nI v0.1)])), (b1, .inl (cL, 150, .inr (.inl v0.2.1))), (b2, .inl (cI, 150, .inl v0.2.2.1)), (b3, .inl (cL, 150, .inr (.inl v0.2.2.2.1))), (b4, .inl (cI, 150, .inl v0.2.2.2.2))] s.heap := hP
  replace hD : va_D A [(x, .inr (1, [.ref r, .ref k, .long hk, .int hs])), (r, .inr (0, [.ref a1, .ref a2, .ref a3, .ref a4, .int (nI w.1)])), (a1, .inl (cL, 150, .inr (.inl w.2.1))), (a2, .inl (cI, 150, .inl w.2.2.1)), (a3, .inl (cL, 150, .inr (.inl w.2.2.2.1))), (a4, .inl (cI, 150, .inl w.2.2.2.2)), (k, .inr (0, [.ref b1, .ref b2, .ref b3, .ref b4, .int (nI v0.1)])), (b1, .inl (cL, 150, .inr (.inl v0.2.1))), (b2, .inl (cI, 150, .inl v0.2.2.1)), (b3, .inl (cL, 150, .inr (.inl v0.2.2.2.1))), (b4, .inl (cI, 150, .inl v0.2.2.2.2))] := hD
  have hl := lv_entry ([.ref x]) (n := 1) (Nat.le_of_ble_eq_true rfl)
  rw [lg_entry_eq]
  generalize (lg_sl ([.ref x]) ++ List.replicate (1 - (lg_sl ([.ref x])).length) Slot.unset).toArray = ls at hl ⊢
  replace hl : lv_has ls 1 [(0, .ref x)] := hl
  refine lv_aload_n hx hb dX1_commit_0 rfl (lv_at hl 0 rfl) ?_
  refine va_get (D := (dC, dI)) (ci := 1) (v := .ref k) (C := RX1) (T := TX1) (N := 4) hx hb hts i_X1_commit_X1 hown hK hP 0 rfl rfl 1 (by decide) (hts (.fieldLink RX1 16 "BlockTree" "kept" "LBlockTree$Rows;") (by decide +kernel)) (fun _ h9 => h9) rfl dX1_commit_1 ?_
  refine lv_aload_n hx hb dX1_commit_4 rfl (lv_at hl 0 rfl) ?_
  refine va_get (D := (dC, dI)) (ci := 1) (v := .ref r) (C := RX1) (T := TX1) (N := 4) hx hb hts i_X1_commit_X1 hown hK hP 0 rfl rfl 0 (by decide) (hts (.fieldLink RX1 10 "BlockTree" "now" "LBlockTree$Rows;") (by decide +kernel)) (fun _ h9 => h9) rfl dX1_commit_5 ?_
  refine wr_callv (wr := [(x, .inr (1, [.ref r, .ref k, .long hk, .int hs]))]) (va_runV (As := [.ref r]) (rest := []) ⟨hx, hb, hml, hown, hts⟩ (c_copyFrom l dC dI _ cL cI k b1 b2 b3 b4 r a1 a2 a3 a4 v0 w hu) (cwV 1 hts gX1_commit_X0_copyFrom rfl rfl rfl (by decide +kernel) ⟨Nat.le_of_ble_eq_true rfl, Nat.le_of_ble_eq_true rfl⟩) (wr_preV hK (hP.sub (ws' := [(k, .inr (0, [.ref b1, .ref b2, .ref b3, .ref b4, .int (nI v0.1)])), (b1, .inl (cL, 150, .inr (.inl v0.2.1))), (b2, .inl (cI, 150, .inl v0.2.2.1)), (b3, .inl (cL, 150, .inr (.inl v0.2.2.2.1))), (b4, .inl (cI, 150, .inl v0.2.2.2.2)), (r, .inr (0, [.ref a1, .ref a2, .ref a3, .ref a4, .int (nI w.1)])), (a1, .inl (cL, 150, .inr (.inl w.2.1))), (a2, .inl (cI, 150, .inl w.2.2.1)), (a3, .inl (cL, 150, .inr (.inl w.2.2.2.1))), (a4, .inl (cI, 150, .inl w.2.2.2.2))]) [6, 7, 8, 9, 10, 1, 2, 3, 4, 5] rfl) (hD.sub (ws' := [(k, .inr (0, [.ref b1, .ref b2, .ref b3, .ref b4, .int (nI v0.1)])), (b1, .inl (cL, 150, .inr (.inl v0.2.1))), (b2, .inl (cI, 150, .inl v0.2.2.1)), (b3, .inl (cL, 150, .inr (.inl v0.2.2.2.1))), (b4, .inl (cI, 150, .inl v0.2.2.2.2)), (r, .inr (0, [.ref a1, .ref a2, .ref a3, .ref a4, .int (nI w.1)])), (a1, .inl (cL, 150, .inr (.inl w.2.1))), (a2, .inl (cI, 150, .inl w.2.2.1)), (a3, .inl (cL, 150, .inr (.inl w.2.2.2.1))), (a4, .inl (cI, 150, .inl w.2.2.2.2))]) [6, 7, 8, 9, 10, 1, 2, 3, 4, 5] (by decide) rfl) (ci := 0) (q0 := 0) rfl rfl) rfl rfl hl.1 rfl (lv_room (Nat.le_of_ble_eq_true rfl)) dX1_commit_8 ⟨Nat.le_of_ble_eq_true rfl, Nat.le_of_ble_eq_true rfl⟩) hP hD hS hA [6, 7, 8, 9, 10, 1, 2, 3, 4, 5] [0] rfl rfl (by decide) (by decide) (fun u_ H locs hr5 hP hD hS => ?_)
  subst hr5
  replace hP := hP.sub (ws' := [(x, .inr (1, [.ref r, .ref k, .long hk, .int hs])), (r, .inr (0, [.ref a1, .ref a2, .ref a3, .ref a4, .int (nI w.1)])), (a1, .inl (cL, 150, .inr (.inl w.2.1))), (a2, .inl (cI, 150, .inl w.2.2.1)), (a3, .inl (cL, 150, .inr (.inl w.2.2.2.1))), (a4, .inl (cI, 150, .inl w.2.2.2.2)), (k, .inr (0, [.ref b1, .ref b2, .ref b3, .ref b4, .int (nI w.1)])), (b1, .inl (cL, 150, .inr (.inl (va_cpy w.2.1 v0.2.1 0 0 w.1)))), (b2, .inl (cI, 150, .inl (va_cpy w.2.2.1 v0.2.2.1 0 0 w.1))), (b3, .inl (cL, 150, .inr (.inl (va_cpy w.2.2.2.1 v0.2.2.2.1 0 0 w.1)))), (b4, .inl (cI, 150, .inl (va_cpy w.2.2.2.2 v0.2.2.2.2 0 0 w.1)))]) [0, 6, 7, 8, 9, 10, 1, 2, 3, 4, 5] rfl
  replace hD := hD.sub (ws' := [(x, .inr (1, [.ref r, .ref k, .long hk, .int hs])), (r, .inr (0, [.ref a1, .ref a2, .ref a3, .ref a4, .int (nI w.1)])), (a1, .inl (cL, 150, .inr (.inl w.2.1))), (a2, .inl (cI, 150, .inl w.2.2.1)), (a3, .inl (cL, 150, .inr (.inl w.2.2.2.1))), (a4, .inl (cI, 150, .inl w.2.2.2.2)), (k, .inr (0, [.ref b1, .ref b2, .ref b3, .ref b4, .int (nI w.1)])), (b1, .inl (cL, 150, .inr (.inl (va_cpy w.2.1 v0.2.1 0 0 w.1)))), (b2, .inl (cI, 150, .inl (va_cpy w.2.2.1 v0.2.2.1 0 0 w.1))), (b3, .inl (cL, 150, .inr (.inl (va_cpy w.2.2.2.1 v0.2.2.2.1 0 0 w.1)))), (b4, .inl (cI, 150, .inl (va_cpy w.2.2.2.2 v0.2.2.2.2 0 0 w.1)))]) [0, 6, 7, 8, 9, 10, 1, 2, 3, 4, 5] (by decide) rfl
  exact W.vret hx hb hr (fun t9 ht hW => ⟨⟨rs_cpy w v0, rfl, rfl, by rw [ht]; exact hP, hD⟩, hS.F ht⟩) hS.2.2 dX1_commit_11
set_option maxHeartbeats 4000000 in
set_option maxRecDepth 100000 in
/-- revert -/
theorem c_revert (l : Launch) (dC : Nat → ClassId) (dI : Nat → Nat → Nat) (hz : Nat) (cL cI : ClassId) (x r k a1 a2 a3 a4 b1 b2 b3 b4 : Nat) (hk : Int64) (hs : Int32) (w v0 : RS) (hu : v0.1 ≤ 150) : Met l yX1_revert wsX1_revert ({ frames := 2, cells := 0, slots := 0, locals := 47 }) (wrP (dC, dI) (kS cL cI) (tW cL cI x r k a1 a2 a3 a4 (hk, hs) w ++ rW cL cI k b1 b2 b3 b4 v0) [.ref x] hz) (va_Qv (fun (v : RS) => v = rs_cpy v0 w) (wrB (dC, dI) (va_A (tW cL cI x r k a1 a2 a3 a4 (hk, hs) w ++ rW cL cI k b1 b2 b3 b4 v0) hz) (fun (v : RS) => tW cL cI x r k a1 a2 a3 a4 (hk, hs) v ++ rW cL cI k b1 b2 b3 b4 v0)) (va_A (tW cL cI x r k a1 a2 a3 a4 (hk, hs) w ++ rW cL cI k b1 b2 b3 b4 v0) hz)) 0 0 (va_A (tW cL cI x r k a1 a2 a3 a4 (hk, hs) w ++ rW cL cI k b1 b2 b3 b4 v0) hz) := by
  refine Met.ofW (cc := cX1_revert) (maxL := 1) (ret := none) (by decide) rfl ?_
  intro p e s m args below meth c s₁ B hml hv
  obtain ⟨rfl, hsz, hP, hK, hD0⟩ := hv
  have hx := B.exec
  have hb := B.bytes
  have hr := B.returns
  have hts := atoms_spec (ws := wsX1_revert) B.pre
  have hown : s.vm.findClass RX1 = some m.cls := findClass_of_methodNamed B.named
  have hlocks := B.notSynchronized
  subst hsz
  have hD := hD0.self (sz := s.heap.size)
  generalize hAe : va_A (tW cL cI x r k a1 a2 a3 a4 (hk, hs) w ++ rW cL cI k b1 b2 b3 b4 v0) s.heap.size = A at hD ⊢
  have hA : ∀ q : Nat, s.heap.size ≤ q → A q := fun q h => by rw [← hAe]; exact Or.inr h
  have hS : va_S A s.heap s.heap [] := va_S.rf
  replace hP : va_P (dC, dI) vwCl [(x, .inr (1, [.ref r, .ref k, .long hk, .int hs])), (r, .inr (0, [.ref a1, .ref a2, .ref a3, .ref a4, .int (nI w.1)])), (a1, .inl (cL, 150, .inr (.inl w.2.1))), (a2, .inl (cI, 150, .inl w.2.2.1)), (a3, .inl (cL, 150, .inr (.inl w.2.2.2.1))), (a4, .inl (cI, 150, .inl w.2.2.2.2)), (k, .inr (0, [.ref b1, .ref b2, .ref b3, .ref b4, .int (nI v0.1)])), (b1, .inl (cL, 150, .inr (.inl v0.2.1))), (b2, .inl (cI, 150, .inl v0.2.2.1)), (b3, .inl (cL, 150, .inr (.inl v0.2.2.2.1))), (b4, .inl (cI, 150, .inl v0.2.2.2.2))] s.heap := hP
  replace hD : va_D A [(x, .inr (1, [.ref r, .ref k, .long hk, .int hs])), (r, .inr (0, [.ref a1, .ref a2, .ref a3, .ref a4, .int (nI w.1)])), (a1, .inl (cL, 150, .inr (.inl w.2.1))), (a2, .inl (cI, 150, .inl w.2.2.1)), (a3, .inl (cL, 150, .inr (.inl w.2.2.2.1))), (a4, .inl (cI, 150, .inl w.2.2.2.2)), (k, .inr (0, [.ref b1, .ref b2, .ref b3, .ref b4, .int (nI v0.1)])), (b1, .inl (cL, 150, .inr (.inl v0.2.1))), (b2, .inl (cI, 150, .inl v0.2.2.1)), (b3, .inl (cL, 150, .inr (.inl v0.2.2.2.1))), (b4, .inl (cI, 150, .inl v0.2.2.2.2))] := hD
  have hl := lv_entry ([.ref x]) (n := 1) (Nat.le_of_ble_eq_true rfl)
  rw [lg_entry_eq]
  generalize (lg_sl ([.ref x]) ++ List.replicate (1 - (lg_sl ([.ref x])).length) Slot.unset).toArray = ls at hl ⊢
  replace hl : lv_has ls 1 [(0, .ref x)] := hl
  refine lv_aload_n hx hb dX1_revert_0 rfl (lv_at hl 0 rfl) ?_
  refine va_get (D := (dC, dI)) (ci := 1) (v := .ref r) (C := RX1) (T := TX1) (N := 4) hx hb hts i_X1_revert_X1 hown hK hP 0 rfl rfl 0 (by decide) (hts (.fieldLink RX1 10 "BlockTree" "now" "LBlockTree$Rows;") (by decide +kernel)) (fun _ h9 => h9) rfl dX1_revert_1 ?_
  refine lv_aload_n hx hb dX1_revert_4 rfl (lv_at hl 0 rfl) ?_
  refine va_get (D := (dC, dI)) (ci := 1) (v := .ref k) (C := RX1) (T := TX1) (N := 4) hx hb hts i_X1_revert_X1 hown hK hP 0 rfl rfl 1 (by decide) (hts (.fieldLink RX1 16 "BlockTree" "kept" "LBlockTree$Rows;") (by decide +kernel)) (fun _ h9 => h9) rfl dX1_revert_5 ?_
  refine wr_callv (wr := [(x, .inr (1, [.ref r, .ref k, .long hk, .int hs]))]) (va_runV (As := [.ref k]) (rest := []) ⟨hx, hb, hml, hown, hts⟩ (c_copyFrom l dC dI _ cL cI r a1 a2 a3 a4 k b1 b2 b3 b4 w v0 hu) (cwV 1 hts gX1_revert_X0_copyFrom rfl rfl rfl (by decide +kernel) ⟨Nat.le_of_ble_eq_true rfl, Nat.le_of_ble_eq_true rfl⟩) (wr_preV hK (hP.sub (ws' := [(r, .inr (0, [.ref a1, .ref a2, .ref a3, .ref a4, .int (nI w.1)])), (a1, .inl (cL, 150, .inr (.inl w.2.1))), (a2, .inl (cI, 150, .inl w.2.2.1)), (a3, .inl (cL, 150, .inr (.inl w.2.2.2.1))), (a4, .inl (cI, 150, .inl w.2.2.2.2)), (k, .inr (0, [.ref b1, .ref b2, .ref b3, .ref b4, .int (nI v0.1)])), (b1, .inl (cL, 150, .inr (.inl v0.2.1))), (b2, .inl (cI, 150, .inl v0.2.2.1)), (b3, .inl (cL, 150, .inr (.inl v0.2.2.2.1))), (b4, .inl (cI, 150, .inl v0.2.2.2.2))]) [1, 2, 3, 4, 5, 6, 7, 8, 9, 10] rfl) (hD.sub (ws' := [(r, .inr (0, [.ref a1, .ref a2, .ref a3, .ref a4, .int (nI w.1)])), (a1, .inl (cL, 150, .inr (.inl w.2.1))), (a2, .inl (cI, 150, .inl w.2.2.1)), (a3, .inl (cL, 150, .inr (.inl w.2.2.2.1))), (a4, .inl (cI, 150, .inl w.2.2.2.2)), (k, .inr (0, [.ref b1, .ref b2, .ref b3, .ref b4, .int (nI v0.1)])), (b1, .inl (cL, 150, .inr (.inl v0.2.1))), (b2, .inl (cI, 150, .inl v0.2.2.1)), (b3, .inl (cL, 150, .inr (.inl v0.2.2.2.1))), (b4, .inl (cI, 150, .inl v0.2.2.2.2))]) [1, 2, 3, 4, 5, 6, 7, 8, 9, 10] (by decide) rfl) (ci := 0) (q0 := 0) rfl rfl) rfl rfl hl.1 rfl (lv_room (Nat.le_of_ble_eq_true rfl)) dX1_revert_8 ⟨Nat.le_of_ble_eq_true rfl, Nat.le_of_ble_eq_true rfl⟩) hP hD hS hA [1, 2, 3, 4, 5, 6, 7, 8, 9, 10] [0] rfl rfl (by decide) (by decide) (fun u_ H locs hr5 hP hD hS => ?_)
  subst hr5
  replace hP := hP.sub (ws' := [(x, .inr (1, [.ref r, .ref k, .long hk, .int hs])), (r, .inr (0, [.ref a1, .ref a2, .ref a3, .ref a4, .int (nI v0.1)])), (a1, .inl (cL, 150, .inr (.inl (va_cpy v0.2.1 w.2.1 0 0 v0.1)))), (a2, .inl (cI, 150, .inl (va_cpy v0.2.2.1 w.2.2.1 0 0 v0.1))), (a3, .inl (cL, 150, .inr (.inl (va_cpy v0.2.2.2.1 w.2.2.2.1 0 0 v0.1)))), (a4, .inl (cI, 150, .inl (va_cpy v0.2.2.2.2 w.2.2.2.2 0 0 v0.1))), (k, .inr (0, [.ref b1, .ref b2, .ref b3, .ref b4, .int (nI v0.1)])), (b1, .inl (cL, 150, .inr (.inl v0.2.1))), (b2, .inl (cI, 150, .inl v0.2.2.1)), (b3, .inl (cL, 150, .inr (.inl v0.2.2.2.1))), (b4, .inl (cI, 150, .inl v0.2.2.2.2))]) [0, 1, 2, 3, 4, 5, 6, 7, 8, 9, 10] rfl
  replace hD := hD.sub (ws' := [(x, .inr (1, [.ref r, .ref k, .long hk, .int hs])), (r, .inr (0, [.ref a1, .ref a2, .ref a3, .ref a4, .int (nI v0.1)])), (a1, .inl (cL, 150, .inr (.inl (va_cpy v0.2.1 w.2.1 0 0 v0.1)))), (a2, .inl (cI, 150, .inl (va_cpy v0.2.2.1 w.2.2.1 0 0 v0.1))), (a3, .inl (cL, 150, .inr (.inl (va_cpy v0.2.2.2.1 w.2.2.2.1 0 0 v0.1)))), (a4, .inl (cI, 150, .inl (va_cpy v0.2.2.2.2 w.2.2.2.2 0 0 v0.1))), (k, .inr (0, [.ref b1, .ref b2, .ref b3, .ref b4, .int (nI v0.1)])), (b1, .inl (cL, 150, .inr (.inl v0.2.1))), (b2, .inl (cI, 150, .inl v0.2.2.1)), (b3, .inl (cL, 150, .inr (.inl v0.2.2.2.1))), (b4, .inl (cI, 150, .inl v0.2.2.2.2))]) [0, 1, 2, 3, 4, 5, 6, 7, 8, 9, 10] (by decide) rfl
  exact W.vret hx hb hr (fun t9 ht hW => ⟨⟨rs_cpy v0 w, rfl, rfl, by rw [ht]; exact hP, hD⟩, hS.F ht⟩) hS.2.2 dX1_revert_11
set_option maxHeartbeats 4000000 in
set_option maxRecDepth 100000 in
/-- BlockTree() -/
theorem c_BlockTree_init (l : Launch) (dC : Nat → ClassId) (dI : Nat → Nat → Nat) (hz : Nat) (cL cI : ClassId) (x : Nat) : Met l yX1_init wsX1_init ({ frames := 2, cells := 10, slots := 1210, locals := 40 }) (wrP (dC, dI) (kS cL cI) ([(x, .inr (1, [.null, .null, .long 0, .int 0]))]) [.ref x] hz) (va_Qv (fun (v : (Nat × Nat) × (Nat × Nat × Nat × Nat) × (Nat × Nat × Nat × Nat)) => True) (wrB (dC, dI) (va_A ([(x, .inr (1, [.null, .null, .long 0, .int 0]))]) hz) (fun (v : (Nat × Nat) × (Nat × Nat × Nat × Nat) × (Nat × Nat × Nat × Nat)) => tW cL cI x v.1.1 v.1.2 v.2.1.1 v.2.1.2.1 v.2.1.2.2.1 v.2.1.2.2.2 (0, 0) rs_0 ++ rW cL cI v.1.2 v.2.2.1 v.2.2.2.1 v.2.2.2.2.1 v.2.2.2.2.2 rs_0)) (va_A ([(x, .inr (1, [.null, .null, .long 0, .int 0]))]) hz)) 10 1210 (va_A ([(x, .inr (1, [.null, .null, .long 0, .int 0]))]) hz) := by
  refine Met.ofW (cc := cX1_init) (maxL := 1) (ret := none) (by decide) rfl ?_
  intro p e s m args below meth c s₁ B hml hv
  obtain ⟨rfl, hsz, hP, hK, hD0⟩ := hv
  have hx := B.exec
  have hb := B.bytes
  have hr := B.returns
  have hts := atoms_spec (ws := wsX1_init) B.pre
  have hown : s.vm.findClass RX1 = some m.cls := findClass_of_methodNamed B.named
  have hlocks := B.notSynchronized
  have hin : meth.name = "<init>" := (name_of_methodNamed B.named B.method).1
  subst hsz
  have hD := hD0.self (sz := s.heap.size)
  generalize hAe : va_A ([(x, .inr (1, [.null, .null, .long 0, .int 0]))]) s.heap.size = A at hD ⊢
  have hA : ∀ q : Nat, s.heap.size ≤ q → A q := fun q h => by rw [← hAe]; exact Or.inr h
  have hS : va_S A s.heap s.heap [] := va_S.rf
  replace hP : va_P (dC, dI) vwCl [(x, .inr (1, [.null, .null, .long 0, .int 0]))] s.heap := hP
  replace hD : va_D A [(x, .inr (1, [.null, .null, .long 0, .int 0]))] := hD
  have hl := lv_entry ([.ref x]) (n := 1) (Nat.le_of_ble_eq_true rfl)
  rw [lg_entry_eq]
  generalize (lg_sl ([.ref x]) ++ List.replicate (1 - (lg_sl ([.ref x])).length) Slot.unset).toArray = ls at hl ⊢
  replace hl : lv_has ls 1 [(0, .ref x)] := hl
  refine lv_aload_n hx hb dX1_init_0 rfl (lv_at hl 0 rfl) ?_
  refine W.objInit hx hb hown (hts (.methodLink RX1 1 objectInit) (by decide +kernel)) (hts (.instanceMethod objectInit) (by decide +kernel)) (hts _ (List.mem_cons_of_mem _ (List.mem_append_left _ (List.mem_of_getElem? (i := 2) rfl)))) rfl (by rw [hml]; exact hl.1) rfl dX1_init_1 (Nat.le_of_ble_eq_true rfl) (Nat.le_of_ble_eq_true rfl) ?_
  refine W.eq (g2 := F0 m 4 ls []) rfl ?_
  refine lv_aload_n hx hb dX1_init_4 rfl (lv_at hl 0 rfl) ?_
  refine va_new (ci := 0) (fs := [.null, .null, .null, .null, .int 0]) (C := RX0) (T := TX0) (N := 5) hx hb hts (by decide +kernel) tyX0 tyX0_ok hown (hts (.classLink RX1 7 RX0) (by decide +kernel)) (hts (.instantiable RX0 5) (by decide +kernel)) (hts (.initialized RX0) (by decide +kernel)) hK hP hD hS hA rfl (fun j hj => by rcases (show j = 0 ∨ j = 1 ∨ j = 2 ∨ j = 3 ∨ j = 4 by omega) with rfl | rfl | rfl | rfl | rfl <;> rfl) (by decide +kernel) (by decide +kernel) dX1_init_5 (fun r H hP hD hS => ?_)
  replace hP : va_P (dC, dI) vwCl [(x, .inr (1, [.null, .null, .long 0, .int 0])), (r, .inr (0, [.null, .null, .null, .null, .int 0]))] H := hP
  replace hD : va_D A [(x, .inr (1, [.null, .null, .long 0, .int 0])), (r, .inr (0, [.null, .null, .null, .null, .int 0]))] := hD
  refine W.widen (k := 1) (n := 5) (by omega) (by omega) ?_
  refine lv_dup hx hb dX1_init_8 rfl ?_
  refine wr_callv (wr := [(x, .inr (1, [.null, .null, .long 0, .int 0]))]) (va_runI (As := []) (rest := [.ref r, .ref x]) ⟨hx, hb, hml, hown, hts⟩ (c_Rows_init l dC dI _ cL cI r) (cwI 0 hts gX1_init_X0_init rfl rfl rfl (hts (.initialized RX0) (by decide +kernel)) (hts (.methodLink RX1 9 yX0_init) (by decide +kernel)) (hts (.instanceMethod yX0_init) (by decide +kernel)) rfl (by decide +kernel) ⟨Nat.le_of_ble_eq_true rfl, Nat.le_of_ble_eq_true rfl⟩) (wr_preI hK (hP.sub (ws' := [(r, .inr (0, [.null, .null, .null, .null, .int 0]))]) [1] rfl) (hD.sub (ws' := [(r, .inr (0, [.null, .null, .null, .null, .int 0]))]) [1] (by decide) rfl)) rfl rfl hl.1 rfl (lv_room (Nat.le_of_ble_eq_true rfl)) dX1_init_9 ⟨by decide +kernel, by decide +kernel⟩) hP hD hS hA [1] [0] rfl rfl (by decide) (by decide) (fun u_ H locs hr5 hP hD hS => ?_)
  obtain ⟨u_r, eu_r⟩ : ∃ y : Nat × Nat × Nat × Nat, y = u_ := ⟨_, rfl⟩
  subst eu_r
  replace hP := hP.sub (ws' := [(x, .inr (1, [.null, .null, .long 0, .int 0])), (r, .inr (0, [.ref u_r.1, .ref u_r.2.1, .ref u_r.2.2.1, .ref u_r.2.2.2, .int (nI 0)])), (u_r.1, .inl (cL, 150, .inr (.inl (fun _ => 0)))), (u_r.2.1, .inl (cI, 150, .inl (fun _ => 0))), (u_r.2.2.1, .inl (cL, 150, .inr (.inl (fun _ => 0)))), (u_r.2.2.2, .inl (cI, 150, .inl (fun _ => 0)))]) [0, 1, 2, 3, 4, 5] rfl
  replace hD := hD.sub (ws' := [(x, .inr (1, [.null, .null, .long 0, .int 0])), (r, .inr (0, [.ref u_r.1, .ref u_r.2.1, .ref u_r.2.2.1, .ref u_r.2.2.2, .int (nI 0)])), (u_r.1, .inl (cL, 150, .inr (.inl (fun _ => 0)))), (u_r.2.1, .inl (cI, 150, .inl (fun _ => 0))), (u_r.2.2.1, .inl (cL, 150, .inr (.inl (fun _ => 0)))), (u_r.2.2.2, .inl (cI, 150, .inl (fun _ => 0)))]) [0, 1, 2, 3, 4, 5] (by decide) rfl
  refine va_putF (D := (dC, dI)) (ci := 1) (v := .ref r) (ty := .object "BlockTree$Rows") (C := RX1) (T := TX1) (N := 4) hx hb hts i_X1_init_X1 tyX1 tyX1_ok nmX1 hown hK hP hD hS 0 rfl rfl 0 (by decide) (hts (.fieldLink RX1 10 "BlockTree" "now" "LBlockTree$Rows;") (by decide +kernel)) (fun _ h9 => h9) rfl hin rfl (by decide +kernel) rfl rfl (Nat.le_of_ble_eq_true rfl) dX1_init_12 (fun H locs hP hD hS => ?_)
  replace hP : va_P (dC, dI) vwCl [(x, .inr (1, [.ref r, .null, .long 0, .int 0])), (r, .inr (0, [.ref u_r.1, .ref u_r.2.1, .ref u_r.2.2.1, .ref u_r.2.2.2, .int (nI 0)])), (u_r.1, .inl (cL, 150, .inr (.inl (fun _ => 0)))), (u_r.2.1, .inl (cI, 150, .inl (fun _ => 0))), (u_r.2.2.1, .inl (cL, 150, .inr (.inl (fun _ => 0)))), (u_r.2.2.2, .inl (cI, 150, .inl (fun _ => 0)))] H := hP
  replace hD : va_D A [(x, .inr (1, [.ref r, .null, .long 0, .int 0])), (r, .inr (0, [.ref u_r.1, .ref u_r.2.1, .ref u_r.2.2.1, .ref u_r.2.2.2, .int (nI 0)])), (u_r.1, .inl (cL, 150, .inr (.inl (fun _ => 0)))), (u_r.2.1, .inl (cI, 150, .inl (fun _ => 0))), (u_r.2.2.1, .inl (cL, 150, .inr (.inl (fun _ => 0)))), (u_r.2.2.2, .inl (cI, 150, .inl (fun _ => 0)))] := hD
  refine lv_aload_n hx hb dX1_init_15 rfl (lv_at hl 0 rfl) ?_
  refine va_new (ci := 0) (fs := [.null, .null, .null, .null, .int 0]) (C := RX0) (T := TX0) (N := 5) hx hb hts (by decide +kernel) tyX0 tyX0_ok hown (hts (.classLink RX1 7 RX0) (by decide +kernel)) (hts (.instantiable RX0 5) (by decide +kernel)) (hts (.initialized RX0) (by decide +kernel)) hK hP hD hS hA rfl (fun j hj => by rcases (show j = 0 ∨ j = 1 ∨ j = 2 ∨ j = 3 ∨ j = 4 by omega) with rfl | rfl | rfl | rfl | rfl <;> rfl) (by decide +kernel) (by decide +kernel) dX1_init_16 (fun k H hP hD hS => ?_)
  replace hP : va_P (dC, dI) vwCl [(x, .inr (1, [.ref r, .null, .long 0, .int 0])), (r, .inr (0, [.ref u_r.1, .ref u_r.2.1, .ref u_r.2.2.1, .ref u_r.2.2.2, .int (nI 0)])), (u_r.1, .inl (cL, 150, .inr (.inl (fun _ => 0)))), (u_r.2.1, .inl (cI, 150, .inl (fun _ => 0))), (u_r.2.2.1, .inl (cL, 150, .inr (.inl (fun _ => 0)))), (u_r.2.2.2, .inl (cI, 150, .inl (fun _ => 0))), (k, .inr (0, [.null, .null, .null, .null, .int 0]))] H := hP
  replace hD : va_D A [(x, .inr (1, [.ref r, .null, .long 0, .int 0])), (r, .inr (0, [.ref u_r.1, .ref u_r.2.1, .ref u_r.2.2.1, .ref u_r.2.2.2, .int (nI 0)])), (u_r.1, .inl (cL, 150, .inr (.inl (fun _ => 0)))), (u_r.2.1, .inl (cI, 150, .inl (fun _ => 0))), (u_r.2.2.1, .inl (cL, 150, .inr (.inl (fun _ => 0)))), (u_r.2.2.2, .inl (cI, 150, .inl (fun _ => 0))), (k, .inr (0, [.null, .null, .null, .null, .int 0]))] := hD
  refine W.widen (k := 6) (n := 610) (by omega) (by omega) ?_
  refine lv_dup hx hb dX1_init_19 rfl ?_
  refine wr_callv (wr := [(x, .inr (1, [.ref r, .null, .long 0, .int 0])), (r, .inr (0, [.ref u_r.1, .ref u_r.2.1, .ref u_r.2.2.1, .ref u_r.2.2.2, .int (nI 0)])), (u_r.1, .inl (cL, 150, .inr (.inl (fun _ => 0)))), (u_r.2.1, .inl (cI, 150, .inl (fun _ => 0))), (u_r.2.2.1, .inl (cL, 150, .inr (.inl (fun _ => 0)))), (u_r.2.2.2, .inl (cI, 150, .inl (fun _ => 0)))]) (va_runI (As := []) (rest := [.ref k, .ref x]) ⟨hx, hb, hml, hown, hts⟩ (c_Rows_init l dC dI _ cL cI k) (cwI 0 hts gX1_init_X0_init rfl rfl rfl (hts (.initialized RX0) (by decide +kernel)) (hts (.methodLink RX1 9 yX0_init) (by decide +kernel)) (hts (.instanceMethod yX0_init) (by decide +kernel)) rfl (by decide +kernel) ⟨Nat.le_of_ble_eq_true rfl, Nat.le_of_ble_eq_true rfl⟩) (wr_preI hK (hP.sub (ws' := [(k, .inr (0, [.null, .null, .null, .null, .int 0]))]) [6] rfl) (hD.sub (ws' := [(k, .inr (0, [.null, .null, .null, .null, .int 0]))]) [6] (by decide) rfl)) rfl rfl hl.1 rfl (lv_room (Nat.le_of_ble_eq_true rfl)) dX1_init_20 ⟨by decide +kernel, by decide +kernel⟩) hP hD hS hA [6] [0, 1, 2, 3, 4, 5] rfl rfl (by decide) (by decide) (fun u_ H locs hr5 hP hD hS => ?_)
  obtain ⟨u_k, eu_k⟩ : ∃ y : Nat × Nat × Nat × Nat, y = u_ := ⟨_, rfl⟩
  subst eu_k
  replace hP := hP.sub (ws' := [(x, .inr (1, [.ref r, .null, .long 0, .int 0])), (r, .inr (0, [.ref u_r.1, .ref u_r.2.1, .ref u_r.2.2.1, .ref u_r.2.2.2, .int (nI 0)])), (u_r.1, .inl (cL, 150, .inr (.inl (fun _ => 0)))), (u_r.2.1, .inl (cI, 150, .inl (fun _ => 0))), (u_r.2.2.1, .inl (cL, 150, .inr (.inl (fun _ => 0)))), (u_r.2.2.2, .inl (cI, 150, .inl (fun _ => 0))), (k, .inr (0, [.ref u_k.1, .ref u_k.2.1, .ref u_k.2.2.1, .ref u_k.2.2.2, .int (nI 0)])), (u_k.1, .inl (cL, 150, .inr (.inl (fun _ => 0)))), (u_k.2.1, .inl (cI, 150, .inl (fun _ => 0))), (u_k.2.2.1, .inl (cL, 150, .inr (.inl (fun _ => 0)))), (u_k.2.2.2, .inl (cI, 150, .inl (fun _ => 0)))]) [0, 1, 2, 3, 4, 5, 6, 7, 8, 9, 10] rfl
  replace hD := hD.sub (ws' := [(x, .inr (1, [.ref r, .null, .long 0, .int 0])), (r, .inr (0, [.ref u_r.1, .ref u_r.2.1, .ref u_r.2.2.1, .ref u_r.2.2.2, .int (nI 0)])), (u_r.1, .inl (cL, 150, .inr (.inl (fun _ => 0)))), (u_r.2.1, .inl (cI, 150, .inl (fun _ => 0))), (u_r.2.2.1, .inl (cL, 150, .inr (.inl (fun _ => 0)))), (u_r.2.2.2, .inl (cI, 150, .inl (fun _ => 0))), (k, .inr (0, [.ref u_k.1, .ref u_k.2.1, .ref u_k.2.2.1, .ref u_k.2.2.2, .int (nI 0)])), (u_k.1, .inl (cL, 150, .inr (.inl (fun _ => 0)))), (u_k.2.1, .inl (cI, 150, .inl (fun _ => 0))), (u_k.2.2.1, .inl (cL, 150, .inr (.inl (fun _ => 0)))), (u_k.2.2.2, .inl (cI, 150, .inl (fun _ => 0)))]) [0, 1, 2, 3, 4, 5, 6, 7, 8, 9, 10] (by decide) rfl
  refine va_putF (D := (dC, dI)) (ci := 1) (v := .ref k) (ty := .object "BlockTree$Rows") (C := RX1) (T := TX1) (N := 4) hx hb hts i_X1_init_X1 tyX1 tyX1_ok nmX1 hown hK hP hD hS 0 rfl rfl 1 (by decide) (hts (.fieldLink RX1 16 "BlockTree" "kept" "LBlockTree$Rows;") (by decide +kernel)) (fun _ h9 => h9) rfl hin rfl (by decide +kernel) rfl rfl (Nat.le_of_ble_eq_true rfl) dX1_init_23 (fun H locs hP hD hS => ?_)
  replace hP : va_P (dC, dI) vwCl [(x, .inr (1, [.ref r, .ref k, .long 0, .int 0])), (r, .inr (0, [.ref u_r.1, .ref u_r.2.1, .ref u_r.2.2.1, .ref u_r.2.2.2, .int (nI 0)])), (u_r.1, .inl (cL, 150, .inr (.inl (fun _ => 0)))), (u_r.2.1, .inl (cI, 150, .inl (fun _ => 0))), (u_r.2.2.1, .inl (cL, 150, .inr (.inl (fun _ => 0)))), (u_r.2.2.2, .inl (cI, 150, .inl (fun _ => 0))), (k, .inr (0, [.ref u_k.1, .ref u_k.2.1, .ref u_k.2.2.1, .ref u_k.2.2.2, .int (nI 0)])), (u_k.1, .inl (cL, 150, .inr (.inl (fun _ => 0)))), (u_k.2.1, .inl (cI, 150, .inl (fun _ => 0))), (u_k.2.2.1, .inl (cL, 150, .inr (.inl (fun _ => 0)))), (u_k.2.2.2, .inl (cI, 150, .inl (fun _ => 0)))] H := hP
  replace hD : va_D A [(x, .inr (1, [.ref r, .ref k, .long 0, .int 0])), (r, .inr (0, [.ref u_r.1, .ref u_r.2.1, .ref u_r.2.2.1, .ref u_r.2.2.2, .int (nI 0)])), (u_r.1, .inl (cL, 150, .inr (.inl (fun _ => 0)))), (u_r.2.1, .inl (cI, 150, .inl (fun _ => 0))), (u_r.2.2.1, .inl (cL, 150, .inr (.inl (fun _ => 0)))), (u_r.2.2.2, .inl (cI, 150, .inl (fun _ => 0))), (k, .inr (0, [.ref u_k.1, .ref u_k.2.1, .ref u_k.2.2.1, .ref u_k.2.2.2, .int (nI 0)])), (u_k.1, .inl (cL, 150, .inr (.inl (fun _ => 0)))), (u_k.2.1, .inl (cI, 150, .inl (fun _ => 0))), (u_k.2.2.1, .inl (cL, 150, .inr (.inl (fun _ => 0)))), (u_k.2.2.2, .inl (cI, 150, .inl (fun _ => 0)))] := hD
  refine lv_aload_n hx hb dX1_init_26 rfl (lv_at hl 0 rfl) ?_
  refine lv_lconst (v := 0) hx hb dX1_init_27 (by decide) ?_
  refine va_put (D := (dC, dI)) (ci := 1) (v := .long 0) (ty := .long) (C := RX1) (T := TX1) (N := 4) hx hb hts i_X1_init_X1 tyX1 tyX1_ok nmX1 hown hK hP hD hS 0 rfl rfl 2 (by decide) (hts (.fieldLink RX1 19 "BlockTree" "hitKey" "J") (by decide +kernel)) (fun _ h9 => h9) rfl (by decide +kernel) rfl rfl (Nat.le_of_ble_eq_true rfl) dX1_init_28 (fun H locs hP hD hS => ?_)
  replace hP : va_P (dC, dI) vwCl [(x, .inr (1, [.ref r, .ref k, .long 0, .int 0])), (r, .inr (0, [.ref u_r.1, .ref u_r.2.1, .ref u_r.2.2.1, .ref u_r.2.2.2, .int (nI 0)])), (u_r.1, .inl (cL, 150, .inr (.inl (fun _ => 0)))), (u_r.2.1, .inl (cI, 150, .inl (fun _ => 0))), (u_r.2.2.1, .inl (cL, 150, .inr (.inl (fun _ => 0)))), (u_r.2.2.2, .inl (cI, 150, .inl (fun _ => 0))), (k, .inr (0, [.ref u_k.1, .ref u_k.2.1, .ref u_k.2.2.1, .ref u_k.2.2.2, .int (nI 0)])), (u_k.1, .inl (cL, 150, .inr (.inl (fun _ => 0)))), (u_k.2.1, .inl (cI, 150, .inl (fun _ => 0))), (u_k.2.2.1, .inl (cL, 150, .inr (.inl (fun _ => 0)))), (u_k.2.2.2, .inl (cI, 150, .inl (fun _ => 0)))] H := hP
  replace hD : va_D A [(x, .inr (1, [.ref r, .ref k, .long 0, .int 0])), (r, .inr (0, [.ref u_r.1, .ref u_r.2.1, .ref u_r.2.2.1, .ref u_r.2.2.2, .int (nI 0)])), (u_r.1, .inl (cL, 150, .inr (.inl (fun _ => 0)))), (u_r.2.1, .inl (cI, 150, .inl (fun _ => 0))), (u_r.2.2.1, .inl (cL, 150, .inr (.inl (fun _ => 0)))), (u_r.2.2.2, .inl (cI, 150, .inl (fun _ => 0))), (k, .inr (0, [.ref u_k.1, .ref u_k.2.1, .ref u_k.2.2.1, .ref u_k.2.2.2, .int (nI 0)])), (u_k.1, .inl (cL, 150, .inr (.inl (fun _ => 0)))), (u_k.2.1, .inl (cI, 150, .inl (fun _ => 0))), (u_k.2.2.1, .inl (cL, 150, .inr (.inl (fun _ => 0)))), (u_k.2.2.2, .inl (cI, 150, .inl (fun _ => 0)))] := hD
  refine lv_aload_n hx hb dX1_init_31 rfl (lv_at hl 0 rfl) ?_
  refine lv_iconst (v := 0) hx hb dX1_init_32 (by decide) ?_
  refine va_put (D := (dC, dI)) (ci := 1) (v := .int 0) (ty := .int) (C := RX1) (T := TX1) (N := 4) hx hb hts i_X1_init_X1 tyX1 tyX1_ok nmX1 hown hK hP hD hS 0 rfl rfl 3 (by decide) (hts (.fieldLink RX1 23 "BlockTree" "hitSize" "I") (by decide +kernel)) (fun _ h9 => h9) rfl (by decide +kernel) rfl rfl (Nat.le_of_ble_eq_true rfl) dX1_init_33 (fun H locs hP hD hS => ?_)
  replace hP : va_P (dC, dI) vwCl [(x, .inr (1, [.ref r, .ref k, .long 0, .int 0])), (r, .inr (0, [.ref u_r.1, .ref u_r.2.1, .ref u_r.2.2.1, .ref u_r.2.2.2, .int (nI 0)])), (u_r.1, .inl (cL, 150, .inr (.inl (fun _ => 0)))), (u_r.2.1, .inl (cI, 150, .inl (fun _ => 0))), (u_r.2.2.1, .inl (cL, 150, .inr (.inl (fun _ => 0)))), (u_r.2.2.2, .inl (cI, 150, .inl (fun _ => 0))), (k, .inr (0, [.ref u_k.1, .ref u_k.2.1, .ref u_k.2.2.1, .ref u_k.2.2.2, .int (nI 0)])), (u_k.1, .inl (cL, 150, .inr (.inl (fun _ => 0)))), (u_k.2.1, .inl (cI, 150, .inl (fun _ => 0))), (u_k.2.2.1, .inl (cL, 150, .inr (.inl (fun _ => 0)))), (u_k.2.2.2, .inl (cI, 150, .inl (fun _ => 0)))] H := hP
  replace hD : va_D A [(x, .inr (1, [.ref r, .ref k, .long 0, .int 0])), (r, .inr (0, [.ref u_r.1, .ref u_r.2.1, .ref u_r.2.2.1, .ref u_r.2.2.2, .int (nI 0)])), (u_r.1, .inl (cL, 150, .inr (.inl (fun _ => 0)))), (u_r.2.1, .inl (cI, 150, .inl (fun _ => 0))), (u_r.2.2.1, .inl (cL, 150, .inr (.inl (fun _ => 0)))), (u_r.2.2.2, .inl (cI, 150, .inl (fun _ => 0))), (k, .inr (0, [.ref u_k.1, .ref u_k.2.1, .ref u_k.2.2.1, .ref u_k.2.2.2, .int (nI 0)])), (u_k.1, .inl (cL, 150, .inr (.inl (fun _ => 0)))), (u_k.2.1, .inl (cI, 150, .inl (fun _ => 0))), (u_k.2.2.1, .inl (cL, 150, .inr (.inl (fun _ => 0)))), (u_k.2.2.2, .inl (cI, 150, .inl (fun _ => 0)))] := hD
  exact W.vret hx hb hr (fun t9 ht hW => ⟨⟨((r, k), u_r, u_k), rfl, trivial, by rw [ht]; exact hP, hD⟩, hS.F ht⟩) hS.2.2 dX1_init_36
