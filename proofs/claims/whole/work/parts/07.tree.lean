/-! THE TREE: reads, then writes. Its world: itself, then the rows that are now (and, where they are touched, those that are kept) -/
abbrev tW (cL cI : ClassId) (x r k a1 a2 a3 a4 : Nat) (f : Int64 × Int32) (v : RS) : va_W := (x, .inr (1, [.ref r, .ref k, .long f.1, .int f.2])) :: rW cL cI r a1 a2 a3 a4 v
/-- what 'placeOf' answers -/
def plQ (u : Nat) (hd : Nat → Int64) (sz : Nat → Int32) (k : Int64) (t : Int32) (j : Nat) (z : Int32) : Prop := (okK t ∧ hld u hd sz j (hdOf k t) t ∧ z = nI j) ∨ (¬ (okK t ∧ hld u hd sz j (hdOf k t) t) ∧ z = -1)
/-- what 'noteFound' finds -/
def nfQ (u : Nat) (hd : Nat → Int64) (sz : Nat → Int32) (i : Int32) (z : Int32) (f : Int64 × Int32) : Prop := (∃ j, j < u ∧ i = nI j ∧ z = 1 ∧ f = (unH (hd j) (sz j), sz j)) ∨ ((¬ ∃ j, j < u ∧ i = nI j) ∧ z = 0 ∧ f = (0, 0))
theorem m1_no {u : Nat} (hu : u ≤ 150) : ¬ ∃ j, j < u ∧ (-1 : Int32) = nI j := has_a hu (by decide)
set_option maxHeartbeats 4000000 in
set_option maxRecDepth 100000 in
/-- placeOf -/
theorem c_placeOf (l : Launch) (dC : Nat → ClassId) (dI : Nat → Nat → Nat) (cL cI : ClassId) (x r k a1 a2 a3 a4 : Nat) (hk : Int64) (hs : Int32) (u : Nat) (hd : Nat → Int64) (sz : Nat → Int32) (tx : Nat → Int64) (ln : Nat → Int32) (hu : u ≤ 150) (q : Int64) (t : Int32) (j : Nat) (hj : okK t → spl u hd sz (hdOf q t) t j) : Met l yX1_placeOf wsX1_placeOf ({ frames := 3, cells := 0, slots := 0, locals := 70 }) (rdP (dC, dI) (kS cL cI) (tW cL cI x r k a1 a2 a3 a4 (hk, hs) (u, hd, sz, tx, ln)) [.ref x, .long q, .int t]) (vp_Si (fun z => plQ u hd sz q t j z)) 0 0 (fun _ => False) := by
  refine Met.ofW (cc := cX1_placeOf) (maxL := 7) (ret := some .int) (by decide) rfl ?_
  intro p e s m args below meth c s₁ B hml hv
  obtain ⟨rfl, hP, hK⟩ := hv
  have hx := B.exec
  have hb := B.bytes
  have hr := B.returns
  have hts := atoms_spec (ws := wsX1_placeOf) B.pre
  have hown : s.vm.findClass RX1 = some m.cls := findClass_of_methodNamed B.named
  have hlocks := B.notSynchronized
  replace hP : va_P (dC, dI) vwCl [(x, .inr (1, [.ref r, .ref k, .long hk, .int hs])), (r, .inr (0, [.ref a1, .ref a2, .ref a3, .ref a4, .int (nI u)])), (a1, .inl (cL, 150, .inr (.inl hd))), (a2, .inl (cI, 150, .inl sz)), (a3, .inl (cL, 150, .inr (.inl tx))), (a4, .inl (cI, 150, .inl ln))] s.heap := hP
  have hl := lv_entry ([.ref x, .long q, .int t]) (n := 7) (Nat.le_of_ble_eq_true rfl)
  rw [lg_entry_eq]
  generalize (lg_sl ([.ref x, .long q, .int t]) ++ List.replicate (7 - (lg_sl ([.ref x, .long q, .int t])).length) Slot.unset).toArray = ls at hl ⊢
  replace hl : lv_has ls 7 [(0, .ref x), (1, .long q), (3, .int t)] := hl
  refine lv_iload_n hx hb dX1_placeOf_0 rfl (lv_at hl 2 rfl) ?_
  refine vp_callSi (va_Run.run (va_runS (As := [.int t]) (rest := []) ⟨hx, hb, hml, hown, hts⟩ (c_isKeySize l t) (va_cwS 1 hts gX1_placeOf_X1_isKeySize rfl rfl rfl (by decide +kernel) ⟨Nat.le_of_ble_eq_true rfl, Nat.le_of_ble_eq_true rfl⟩) (st_pre) rfl rfl hl.1 rfl (lv_room (Nat.le_of_ble_eq_true rfl)) dX1_placeOf_1 ⟨Nat.le_of_ble_eq_true rfl, Nat.le_of_ble_eq_true rfl⟩)) (fun r1 hr1 => ?_)
  rcases hr1 with ⟨rfl, hok⟩ | ⟨rfl, hok⟩
  · skip
    refine lv_if_ne (tgt := 9) hx hb dX1_placeOf_4 (by decide) (fun c_4 => ?_) (fun c_4 => absurd c_4 (by decide))
    refine lv_lload_n hx hb dX1_placeOf_9 rfl (lv_at hl 1 rfl) ?_
    refine lv_iload_n hx hb dX1_placeOf_10 rfl (lv_at hl 2 rfl) ?_
    refine vp_callSl (va_Run.run (va_runS (As := [.long q, .int t]) (rest := []) ⟨hx, hb, hml, hown, hts⟩ (c_headOf l q t) (va_cwS 2 hts gX1_placeOf_X1_headOf rfl rfl rfl (by decide +kernel) ⟨Nat.le_of_ble_eq_true rfl, Nat.le_of_ble_eq_true rfl⟩) (st_pre) rfl rfl hl.1 rfl (lv_room (Nat.le_of_ble_eq_true rfl)) dX1_placeOf_11 ⟨Nat.le_of_ble_eq_true rfl, Nat.le_of_ble_eq_true rfl⟩)) (fun r2 hr2 => ?_)
    subst hr2
    refine lv_lstore (lv' := [(4, .long (hdOf q t)), (0, .ref x), (1, .long q), (3, .int t)]) hx hb dX1_placeOf_14 hl (by decide) rfl (fun ls hl => ?_)
    refine lv_aload_n hx hb dX1_placeOf_16 rfl (lv_at hl 1 rfl) ?_
    refine va_get (D := (dC, dI)) (ci := 1) (v := .ref r) (C := RX1) (T := TX1) (N := 4) hx hb hts i_X1_placeOf_X1 hown hK hP 0 rfl rfl 0 (by decide) (hts (.fieldLink RX1 10 "BlockTree" "now" "LBlockTree$Rows;") (by decide +kernel)) (fun _ h9 => h9) rfl dX1_placeOf_17 ?_
    refine lv_lload hx hb dX1_placeOf_20 (lv_at hl 0 rfl) ?_
    refine lv_iload_n hx hb dX1_placeOf_22 rfl (lv_at hl 3 rfl) ?_
    refine vp_callSi (va_Run.run (va_runV (As := [.long (hdOf q t), .int t]) (rest := []) ⟨hx, hb, hml, hown, hts⟩ (c_firstNotBefore l dC dI cL cI r a1 a2 a3 a4 u hd sz hu (hdOf q t) t j (hj hok)) (cwV 2 hts gX1_placeOf_X0_firstNotBefore rfl rfl rfl (by decide +kernel) ⟨Nat.le_of_ble_eq_true rfl, Nat.le_of_ble_eq_true rfl⟩) (rd_preV hK (hP.sub (ws' := [(r, .inr (0, [.ref a1, .ref a2, .ref a3, .ref a4, .int (nI u)])), (a1, .inl (cL, 150, .inr (.inl hd))), (a2, .inl (cI, 150, .inl sz))]) [1, 2, 3] rfl) (ci := 0) (q0 := 0) rfl rfl) rfl rfl hl.1 rfl (lv_room (Nat.le_of_ble_eq_true rfl)) dX1_placeOf_23 ⟨Nat.le_of_ble_eq_true rfl, Nat.le_of_ble_eq_true rfl⟩)) (fun r3 hr3 => ?_)
    subst hr3
    refine lv_istore (lv' := [(6, .int (nI j)), (4, .long (hdOf q t)), (0, .ref x), (1, .long q), (3, .int t)]) hx hb dX1_placeOf_26 hl (by decide) rfl (fun ls hl => ?_)
    refine lv_aload_n hx hb dX1_placeOf_28 rfl (lv_at hl 2 rfl) ?_
    refine va_get (D := (dC, dI)) (ci := 1) (v := .ref r) (C := RX1) (T := TX1) (N := 4) hx hb hts i_X1_placeOf_X1 hown hK hP 0 rfl rfl 0 (by decide) (hts (.fieldLink RX1 10 "BlockTree" "now" "LBlockTree$Rows;") (by decide +kernel)) (fun _ h9 => h9) rfl dX1_placeOf_29 ?_
    refine lv_iload hx hb dX1_placeOf_32 (lv_at hl 0 rfl) ?_
    refine lv_lload hx hb dX1_placeOf_34 (lv_at hl 1 rfl) ?_
    refine lv_iload_n hx hb dX1_placeOf_36 rfl (lv_at hl 4 rfl) ?_
    refine vp_callSi (va_Run.run (va_runV (As := [.int (nI j), .long (hdOf q t), .int t]) (rest := []) ⟨hx, hb, hml, hown, hts⟩ (c_holds l dC dI cL cI r a1 a2 a3 a4 u hd sz hu (nI j) (hdOf q t) t) (cwV 3 hts gX1_placeOf_X0_holds rfl rfl rfl (by decide +kernel) ⟨Nat.le_of_ble_eq_true rfl, Nat.le_of_ble_eq_true rfl⟩) (rd_preV hK (hP.sub (ws' := [(r, .inr (0, [.ref a1, .ref a2, .ref a3, .ref a4, .int (nI u)])), (a1, .inl (cL, 150, .inr (.inl hd))), (a2, .inl (cI, 150, .inl sz))]) [1, 2, 3] rfl) (ci := 0) (q0 := 0) rfl rfl) rfl rfl hl.1 rfl (lv_room (Nat.le_of_ble_eq_true rfl)) dX1_placeOf_37 ⟨Nat.le_of_ble_eq_true rfl, Nat.le_of_ble_eq_true rfl⟩)) (fun r4 hr4 => ?_)
    rcases hr4 with ⟨rfl, i, hi, ei, hh1, hh2⟩ | ⟨rfl, hno⟩
    · skip
      have hjb : j ≤ u := (hj hok).1
      obtain rfl : j = i := nI_inj hu hi ei (by omega)
      have hh : hld u hd sz j (hdOf q t) t := ⟨hi, hh1, hh2⟩
      refine lv_if_eq (tgt := 48) hx hb dX1_placeOf_40 (by decide) (fun c_40 => absurd c_40 (by decide)) (fun c_40 => ?_)
      refine lv_iload hx hb dX1_placeOf_43 (lv_at hl 0 rfl) ?_
      refine lv_goto (tgt := 49) hx hb dX1_placeOf_45 (by decide) ?_
      exact W.iret (v := (nI j)) hx hb hr (fun t9 ht hW => ⟨(nI j), rfl, by first | exact Or.inl ⟨hok, hh, rfl⟩ | exact Or.inr ⟨fun g => hh g.2, rfl⟩ | exact Or.inr ⟨fun g => hok g.1, rfl⟩, ht⟩) (fun q h => absurd h List.not_mem_nil) dX1_placeOf_49
    · skip
      have hh : ¬ hld u hd sz j (hdOf q t) t := fun q => hno ⟨j, q.1, rfl, q.2.1, q.2.2⟩
      refine lv_if_eq (tgt := 48) hx hb dX1_placeOf_40 (by decide) (fun c_40 => ?_) (fun c_40 => absurd c_40 (by decide))
      refine lv_iconst (v := (-1)) hx hb dX1_placeOf_48 (by decide) ?_
      exact W.iret (v := (-1)) hx hb hr (fun t9 ht hW => ⟨(-1), rfl, by first | exact Or.inl ⟨hok, hh, rfl⟩ | exact Or.inr ⟨fun g => hh g.2, rfl⟩ | exact Or.inr ⟨fun g => hok g.1, rfl⟩, ht⟩) (fun q h => absurd h List.not_mem_nil) dX1_placeOf_49
  · skip
    refine lv_if_ne (tgt := 9) hx hb dX1_placeOf_4 (by decide) (fun c_4 => absurd c_4 (by decide)) (fun c_4 => ?_)
    refine lv_iconst (v := (-1)) hx hb dX1_placeOf_7 (by decide) ?_
    exact W.iret (v := (-1)) hx hb hr (fun t9 ht hW => ⟨(-1), rfl, by first | exact Or.inl ⟨hok, hh, rfl⟩ | exact Or.inr ⟨fun g => hh g.2, rfl⟩ | exact Or.inr ⟨fun g => hok g.1, rfl⟩, ht⟩) (fun q h => absurd h List.not_mem_nil) dX1_placeOf_8
set_option maxHeartbeats 4000000 in
set_option maxRecDepth 100000 in
/-- length -/
theorem c_length (l : Launch) (dC : Nat → ClassId) (dI : Nat → Nat → Nat) (cL cI : ClassId) (x r k a1 a2 a3 a4 : Nat) (hk : Int64) (hs : Int32) (u : Nat) (hd : Nat → Int64) (sz : Nat → Int32) (tx : Nat → Int64) (ln : Nat → Int32) (hu : u ≤ 150) (q : Int64) (t : Int32) (j : Nat) (hj : okK t → spl u hd sz (hdOf q t) t j) : Met l yX1_length wsX1_length ({ frames := 4, cells := 0, slots := 0, locals := 96 }) (rdP (dC, dI) (kS cL cI) (tW cL cI x r k a1 a2 a3 a4 (hk, hs) (u, hd, sz, tx, ln)) [.ref x, .long q, .int t]) (vp_Si (fun z => (okK t ∧ hld u hd sz j (hdOf q t) t ∧ z = ln j) ∨ (¬ (okK t ∧ hld u hd sz j (hdOf q t) t) ∧ z = -1))) 0 0 (fun _ => False) := by
  refine Met.ofW (cc := cX1_length) (maxL := 5) (ret := some .int) (by decide) rfl ?_
  intro p e s m args below meth c s₁ B hml hv
  obtain ⟨rfl, hP, hK⟩ := hv
  have hx := B.exec
  have hb := B.bytes
  have hr := B.returns
  have hts := atoms_spec (ws := wsX1_length) B.pre
  have hown : s.vm.findClass RX1 = some m.cls := findClass_of_methodNamed B.named
  have hlocks := B.notSynchronized
  replace hP : va_P (dC, dI) vwCl [(x, .inr (1, [.ref r, .ref k, .long hk, .int hs])), (r, .inr (0, [.ref a1, .ref a2, .ref a3, .ref a4, .int (nI u)])), (a1, .inl (cL, 150, .inr (.inl hd))), (a2, .inl (cI, 150, .inl sz)), (a3, .inl (cL, 150, .inr (.inl tx))), (a4, .inl (cI, 150, .inl ln))] s.heap := hP
  have hl := lv_entry ([.ref x, .long q, .int t]) (n := 5) (Nat.le_of_ble_eq_true rfl)
  rw [lg_entry_eq]
  generalize (lg_sl ([.ref x, .long q, .int t]) ++ List.replicate (5 - (lg_sl ([.ref x, .long q, .int t])).length) Slot.unset).toArray = ls at hl ⊢
  replace hl : lv_has ls 5 [(0, .ref x), (1, .long q), (3, .int t)] := hl
  refine lv_aload_n hx hb dX1_length_0 rfl (lv_at hl 0 rfl) ?_
  refine lv_lload_n hx hb dX1_length_1 rfl (lv_at hl 1 rfl) ?_
  refine lv_iload_n hx hb dX1_length_2 rfl (lv_at hl 2 rfl) ?_
  refine vp_callSi (va_Run.run (va_runV (As := [.long q, .int t]) (rest := []) ⟨hx, hb, hml, hown, hts⟩ (c_placeOf l dC dI cL cI x r k a1 a2 a3 a4 hk hs u hd sz tx ln hu q t j hj) (cwV 2 hts gX1_length_X1_placeOf rfl rfl rfl (by decide +kernel) ⟨Nat.le_of_ble_eq_true rfl, Nat.le_of_ble_eq_true rfl⟩) (rd_preV hK (hP.sub (ws' := [(x, .inr (1, [.ref r, .ref k, .long hk, .int hs])), (r, .inr (0, [.ref a1, .ref a2, .ref a3, .ref a4, .int (nI u)])), (a1, .inl (cL, 150, .inr (.inl hd))), (a2, .inl (cI, 150, .inl sz)), (a3, .inl (cL, 150, .inr (.inl tx))), (a4, .inl (cI, 150, .inl ln))]) [0, 1, 2, 3, 4, 5] rfl) (ci := 1) (q0 := 0) rfl rfl) rfl rfl hl.1 rfl (lv_room (Nat.le_of_ble_eq_true rfl)) dX1_length_3 ⟨Nat.le_of_ble_eq_true rfl, Nat.le_of_ble_eq_true rfl⟩)) (fun r1 hr1 => ?_)
  rcases hr1 with ⟨hok, hh, rfl⟩ | ⟨hh, rfl⟩
  · skip
    have hju : j < u := hh.1
    refine lv_istore (lv' := [(4, .int (nI j)), (0, .ref x), (1, .long q), (3, .int t)]) hx hb dX1_length_6 hl (by decide) rfl (fun ls hl => ?_)
    refine lv_aload_n hx hb dX1_length_8 rfl (lv_at hl 1 rfl) ?_
    refine va_get (D := (dC, dI)) (ci := 1) (v := .ref r) (C := RX1) (T := TX1) (N := 4) hx hb hts i_X1_length_X1 hown hK hP 0 rfl rfl 0 (by decide) (hts (.fieldLink RX1 10 "BlockTree" "now" "LBlockTree$Rows;") (by decide +kernel)) (fun _ h9 => h9) rfl dX1_length_9 ?_
    refine lv_iload hx hb dX1_length_12 (lv_at hl 0 rfl) ?_
    refine vp_callSi (va_Run.run (va_runV (As := [.int (nI j)]) (rest := []) ⟨hx, hb, hml, hown, hts⟩ (c_has l dC dI cL cI r a1 a2 a3 a4 u hu (nI j)) (cwV 1 hts gX1_length_X0_has rfl rfl rfl (by decide +kernel) ⟨Nat.le_of_ble_eq_true rfl, Nat.le_of_ble_eq_true rfl⟩) (rd_preV hK (hP.sub (ws' := [(r, .inr (0, [.ref a1, .ref a2, .ref a3, .ref a4, .int (nI u)]))]) [1] rfl) (ci := 0) (q0 := 0) rfl rfl) rfl rfl hl.1 rfl (lv_room (Nat.le_of_ble_eq_true rfl)) dX1_length_14 ⟨Nat.le_of_ble_eq_true rfl, Nat.le_of_ble_eq_true rfl⟩)) (fun r2 hr2 => ?_)
    rcases hr2 with ⟨rfl, -⟩ | ⟨rfl, hno⟩
    · skip
      refine lv_if_eq (tgt := 33) hx hb dX1_length_17 (by decide) (fun c_17 => absurd c_17 (by decide)) (fun c_17 => ?_)
      refine lv_aload_n hx hb dX1_length_20 rfl (lv_at hl 1 rfl) ?_
      refine va_get (D := (dC, dI)) (ci := 1) (v := .ref r) (C := RX1) (T := TX1) (N := 4) hx hb hts i_X1_length_X1 hown hK hP 0 rfl rfl 0 (by decide) (hts (.fieldLink RX1 10 "BlockTree" "now" "LBlockTree$Rows;") (by decide +kernel)) (fun _ h9 => h9) rfl dX1_length_21 ?_
      refine va_get (D := (dC, dI)) (ci := 0) (v := .ref a4) (C := RX0) (T := TX0) (N := 5) hx hb hts i_X1_length_X0 hown hK hP 1 rfl rfl 3 (by decide) (hts (.fieldLink RX1 56 "BlockTree$Rows" "lengths" "[I") (by decide +kernel)) (fun _ h9 => h9) rfl dX1_length_24 ?_
      refine lv_iload hx hb dX1_length_27 (lv_at hl 0 rfl) ?_
      refine va_iald hx hb hK hP 5 1 rfl rfl (vp_in_nI (by omega) (by omega)) dX1_length_29 ?_
      refine lv_topi (fun z_1 ez_1 => ?_)
      rw [show ((nI j)).toNatClampNeg = j from (nI_clamp (by omega))] at ez_1
      subst ez_1
      refine lv_goto (tgt := 34) hx hb dX1_length_30 (by decide) ?_
      exact W.iret (v := (ln j)) hx hb hr (fun t9 ht hW => ⟨(ln j), rfl, by first | exact Or.inl ⟨hok, hh, rfl⟩ | exact Or.inr ⟨hh, rfl⟩, ht⟩) (fun q h => absurd h List.not_mem_nil) dX1_length_34
    · skip
      exact absurd ⟨j, hju, rfl⟩ hno
  · skip
    refine lv_istore (lv' := [(4, .int (-1)), (0, .ref x), (1, .long q), (3, .int t)]) hx hb dX1_length_6 hl (by decide) rfl (fun ls hl => ?_)
    refine lv_aload_n hx hb dX1_length_8 rfl (lv_at hl 1 rfl) ?_
    refine va_get (D := (dC, dI)) (ci := 1) (v := .ref r) (C := RX1) (T := TX1) (N := 4) hx hb hts i_X1_length_X1 hown hK hP 0 rfl rfl 0 (by decide) (hts (.fieldLink RX1 10 "BlockTree" "now" "LBlockTree$Rows;") (by decide +kernel)) (fun _ h9 => h9) rfl dX1_length_9 ?_
    refine lv_iload hx hb dX1_length_12 (lv_at hl 0 rfl) ?_
    refine vp_callSi (va_Run.run (va_runV (As := [.int (-1)]) (rest := []) ⟨hx, hb, hml, hown, hts⟩ (c_has l dC dI cL cI r a1 a2 a3 a4 u hu (-1)) (cwV 1 hts gX1_length_X0_has rfl rfl rfl (by decide +kernel) ⟨Nat.le_of_ble_eq_true rfl, Nat.le_of_ble_eq_true rfl⟩) (rd_preV hK (hP.sub (ws' := [(r, .inr (0, [.ref a1, .ref a2, .ref a3, .ref a4, .int (nI u)]))]) [1] rfl) (ci := 0) (q0 := 0) rfl rfl) rfl rfl hl.1 rfl (lv_room (Nat.le_of_ble_eq_true rfl)) dX1_length_14 ⟨Nat.le_of_ble_eq_true rfl, Nat.le_of_ble_eq_true rfl⟩)) (fun r2 hr2 => ?_)
    rcases hr2 with ⟨rfl, hyes⟩ | ⟨rfl, -⟩
    · skip
      exact absurd hyes (m1_no hu)
    · skip
      refine lv_if_eq (tgt := 33) hx hb dX1_length_17 (by decide) (fun c_17 => ?_) (fun c_17 => absurd c_17 (by decide))
      refine lv_iconst (v := (-1)) hx hb dX1_length_33 (by decide) ?_
      exact W.iret (v := (-1)) hx hb hr (fun t9 ht hW => ⟨(-1), rfl, by first | exact Or.inl ⟨hok, hh, rfl⟩ | exact Or.inr ⟨hh, rfl⟩, ht⟩) (fun q h => absurd h List.not_mem_nil) dX1_length_34
set_option maxHeartbeats 4000000 in
set_option maxRecDepth 100000 in
/-- text -/
theorem c_text (l : Launch) (dC : Nat → ClassId) (dI : Nat → Nat → Nat) (cL cI : ClassId) (x r k a1 a2 a3 a4 : Nat) (hk : Int64) (hs : Int32) (u : Nat) (hd : Nat → Int64) (sz : Nat → Int32) (tx : Nat → Int64) (ln : Nat → Int32) (hu : u ≤ 150) (q : Int64) (t : Int32) (j : Nat) (hj : okK t → spl u hd sz (hdOf q t) t j) : Met l yX1_text wsX1_text ({ frames := 4, cells := 0, slots := 0, locals := 96 }) (rdP (dC, dI) (kS cL cI) (tW cL cI x r k a1 a2 a3 a4 (hk, hs) (u, hd, sz, tx, ln)) [.ref x, .long q, .int t]) (vp_Sl (fun z => (okK t ∧ hld u hd sz j (hdOf q t) t ∧ z = tx j) ∨ (¬ (okK t ∧ hld u hd sz j (hdOf q t) t) ∧ z = 0))) 0 0 (fun _ => False) := by
  refine Met.ofW (cc := cX1_text) (maxL := 5) (ret := some .long) (by decide) rfl ?_
  intro p e s m args below meth c s₁ B hml hv
  obtain ⟨rfl, hP, hK⟩ := hv
  have hx := B.exec
  have hb := B.bytes
  have hr := B.returns
  have hts := atoms_spec (ws := wsX1_text) B.pre
  have hown : s.vm.findClass RX1 = some m.cls := findClass_of_methodNamed B.named
  have hlocks := B.notSynchronized
  replace hP : va_P (dC, dI) vwCl [(x, .inr (1, [.ref r, .ref k, .long hk, .int hs])), (r, .inr (0, [.ref a1, .ref a2, .ref a3, .ref a4, .int (nI u)])), (a1, .inl (cL, 150, .inr (.inl hd))), (a2, .inl (cI, 150, .inl sz)), (a3, .inl (cL, 150, .inr (.inl tx))), (a4, .inl (cI, 150, .inl ln))] s.heap := hP
  have hl := lv_entry ([.ref x, .long q, .int t]) (n := 5) (Nat.le_of_ble_eq_true rfl)
  rw [lg_entry_eq]
  generalize (lg_sl ([.ref x, .long q, .int t]) ++ List.replicate (5 - (lg_sl ([.ref x, .long q, .int t])).length) Slot.unset).toArray = ls at hl ⊢
  replace hl : lv_has ls 5 [(0, .ref x), (1, .long q), (3, .int t)] := hl
  refine lv_aload_n hx hb dX1_text_0 rfl (lv_at hl 0 rfl) ?_
  refine lv_lload_n hx hb dX1_text_1 rfl (lv_at hl 1 rfl) ?_
  refine lv_iload_n hx hb dX1_text_2 rfl (lv_at hl 2 rfl) ?_
  refine vp_callSi (va_Run.run (va_runV (As := [.long q, .int t]) (rest := []) ⟨hx, hb, hml, hown, hts⟩ (c_placeOf l dC dI cL cI x r k a1 a2 a3 a4 hk hs u hd sz tx ln hu q t j hj) (cwV 2 hts gX1_text_X1_placeOf rfl rfl rfl (by decide +kernel) ⟨Nat.le_of_ble_eq_true rfl, Nat.le_of_ble_eq_true rfl⟩) (rd_preV hK (hP.sub (ws' := [(x, .inr (1, [.ref r, .ref k, .long hk, .int hs])), (r, .inr (0, [.ref a1, .ref a2, .ref a3, .ref a4, .int (nI u)])), (a1, .inl (cL, 150, .inr (.inl hd))), (a2, .inl (cI, 150, .inl sz)), (a3, .inl (cL, 150, .inr (.inl tx))), (a4, .inl (cI, 150, .inl ln))]) [0, 1, 2, 3, 4, 5] rfl) (ci := 1) (q0 := 0) rfl rfl) rfl rfl hl.1 rfl (lv_room (Nat.le_of_ble_eq_true rfl)) dX1_text_3 ⟨Nat.le_of_ble_eq_true rfl, Nat.le_of_ble_eq_true rfl⟩)) (fun r1 hr1 => ?_)
  rcases hr1 with ⟨hok, hh, rfl⟩ | ⟨hh, rfl⟩
  · skip
    have hju : j < u := hh.1
    refine lv_istore (lv' := [(4, .int (nI j)), (0, .ref x), (1, .long q), (3, .int t)]) hx hb dX1_text_6 hl (by decide) rfl (fun ls hl => ?_)
    refine lv_aload_n hx hb dX1_text_8 rfl (lv_at hl 1 rfl) ?_
    refine va_get (D := (dC, dI)) (ci := 1) (v := .ref r) (C := RX1) (T := TX1) (N := 4) hx hb hts i_X1_text_X1 hown hK hP 0 rfl rfl 0 (by decide) (hts (.fieldLink RX1 10 "BlockTree" "now" "LBlockTree$Rows;") (by decide +kernel)) (fun _ h9 => h9) rfl dX1_text_9 ?_
    refine lv_iload hx hb dX1_text_12 (lv_at hl 0 rfl) ?_
    refine vp_callSi (va_Run.run (va_runV (As := [.int (nI j)]) (rest := []) ⟨hx, hb, hml, hown, hts⟩ (c_has l dC dI cL cI r a1 a2 a3 a4 u hu (nI j)) (cwV 1 hts gX1_text_X0_has rfl rfl rfl (by decide +kernel) ⟨Nat.le_of_ble_eq_true rfl, Nat.le_of_ble_eq_true rfl⟩) (rd_preV hK (hP.sub (ws' := [(r, .inr (0, [.ref a1, .ref a2, .ref a3, .ref a4, .int (nI u)]))]) [1] rfl) (ci := 0) (q0 := 0) rfl rfl) rfl rfl hl.1 rfl (lv_room (Nat.le_of_ble_eq_true rfl)) dX1_text_14 ⟨Nat.le_of_ble_eq_true rfl, Nat.le_of_ble_eq_true rfl⟩)) (fun r2 hr2 => ?_)
    rcases hr2 with ⟨rfl, -⟩ | ⟨rfl, hno⟩
    · skip
      refine lv_if_eq (tgt := 33) hx hb dX1_text_17 (by decide) (fun c_17 => absurd c_17 (by decide)) (fun c_17 => ?_)
      refine lv_aload_n hx hb dX1_text_20 rfl (lv_at hl 1 rfl) ?_
      refine va_get (D := (dC, dI)) (ci := 1) (v := .ref r) (C := RX1) (T := TX1) (N := 4) hx hb hts i_X1_text_X1 hown hK hP 0 rfl rfl 0 (by decide) (hts (.fieldLink RX1 10 "BlockTree" "now" "LBlockTree$Rows;") (by decide +kernel)) (fun _ h9 => h9) rfl dX1_text_21 ?_
      refine va_get (D := (dC, dI)) (ci := 0) (v := .ref a3) (C := RX0) (T := TX0) (N := 5) hx hb hts i_X1_text_X0 hown hK hP 1 rfl rfl 2 (by decide) (hts (.fieldLink RX1 60 "BlockTree$Rows" "texts" "[J") (by decide +kernel)) (fun _ h9 => h9) rfl dX1_text_24 ?_
      refine lv_iload hx hb dX1_text_27 (lv_at hl 0 rfl) ?_
      refine va_lald hx hb hK hP 4 0 rfl rfl (vp_in_nI (by omega) (by omega)) dX1_text_29 ?_
      refine lv_topl (fun z_1 ez_1 => ?_)
      rw [show ((nI j)).toNatClampNeg = j from (nI_clamp (by omega))] at ez_1
      subst ez_1
      refine lv_goto (tgt := 34) hx hb dX1_text_30 (by decide) ?_
      exact W.lret (v := (tx j)) hx hb hr (fun t9 ht hW => ⟨(tx j), rfl, by first | exact Or.inl ⟨hok, hh, rfl⟩ | exact Or.inr ⟨hh, rfl⟩, ht⟩) (fun q h => absurd h List.not_mem_nil) dX1_text_34
    · skip
      exact absurd ⟨j, hju, rfl⟩ hno
  · skip
    refine lv_istore (lv' := [(4, .int (-1)), (0, .ref x), (1, .long q), (3, .int t)]) hx hb dX1_text_6 hl (by decide) rfl (fun ls hl => ?_)
    refine lv_aload_n hx hb dX1_text_8 rfl (lv_at hl 1 rfl) ?_
    refine va_get (D := (dC, dI)) (ci := 1) (v := .ref r) (C := RX1) (T := TX1) (N := 4) hx hb hts i_X1_text_X1 hown hK hP 0 rfl rfl 0 (by decide) (hts (.fieldLink RX1 10 "BlockTree" "now" "LBlockTree$Rows;") (by decide +kernel)) (fun _ h9 => h9) rfl dX1_text_9 ?_
    refine lv_iload hx hb dX1_text_12 (lv_at hl 0 rfl) ?_
    refine vp_callSi (va_Run.run (va_runV (As := [.int (-1)]) (rest := []) ⟨hx, hb, hml, hown, hts⟩ (c_has l dC dI cL cI r a1 a2 a3 a4 u hu (-1)) (cwV 1 hts gX1_text_X0_has rfl rfl rfl (by decide +kernel) ⟨Nat.le_of_ble_eq_true rfl, Nat.le_of_ble_eq_true rfl⟩) (rd_preV hK (hP.sub (ws' := [(r, .inr (0, [.ref a1, .ref a2, .ref a3, .ref a4, .int (nI u)]))]) [1] rfl) (ci := 0) (q0 := 0) rfl rfl) rfl rfl hl.1 rfl (lv_room (Nat.le_of_ble_eq_true rfl)) dX1_text_14 ⟨Nat.le_of_ble_eq_true rfl, Nat.le_of_ble_eq_true rfl⟩)) (fun r2 hr2 => ?_)
    rcases hr2 with ⟨rfl, hyes⟩ | ⟨rfl, -⟩
    · skip
      exact absurd hyes (m1_no hu)
    · skip
      refine lv_if_eq (tgt := 33) hx hb dX1_text_17 (by decide) (fun c_17 => ?_) (fun c_17 => absurd c_17 (by decide))
      refine lv_lconst (v := 0) hx hb dX1_text_33 (by decide) ?_
      exact W.lret (v := 0) hx hb hr (fun t9 ht hW => ⟨0, rfl, by first | exact Or.inl ⟨hok, hh, rfl⟩ | exact Or.inr ⟨hh, rfl⟩, ht⟩) (fun q h => absurd h List.not_mem_nil) dX1_text_34
set_option maxHeartbeats 4000000 in
set_option maxRecDepth 100000 in
/-- foundSize -/
theorem c_foundSize (l : Launch) (dC : Nat → ClassId) (dI : Nat → Nat → Nat) (cL cI : ClassId) (x r k a1 a2 a3 a4 : Nat) (hk : Int64) (hs : Int32) (u : Nat) (hd : Nat → Int64) (sz : Nat → Int32) (tx : Nat → Int64) (ln : Nat → Int32) : Met l yX1_foundSize wsX1_foundSize ({ frames := 0, cells := 0, slots := 0, locals := 0 }) (rdP (dC, dI) (kS cL cI) (tW cL cI x r k a1 a2 a3 a4 (hk, hs) (u, hd, sz, tx, ln)) [.ref x]) (vp_Si (fun z => z = hs)) 0 0 (fun _ => False) := by
  refine Met.ofW (cc := cX1_foundSize) (maxL := 1) (ret := some .int) (by decide) rfl ?_
  intro p e s m args below meth c s₁ B hml hv
  obtain ⟨rfl, hP, hK⟩ := hv
  have hx := B.exec
  have hb := B.bytes
  have hr := B.returns
  have hts := atoms_spec (ws := wsX1_foundSize) B.pre
  have hown : s.vm.findClass RX1 = some m.cls := findClass_of_methodNamed B.named
  have hlocks := B.notSynchronized
  replace hP : va_P (dC, dI) vwCl [(x, .inr (1, [.ref r, .ref k, .long hk, .int hs])), (r, .inr (0, [.ref a1, .ref a2, .ref a3, .ref a4, .int (nI u)])), (a1, .inl (cL, 150, .inr (.inl hd))), (a2, .inl (cI, 150, .inl sz)), (a3, .inl (cL, 150, .inr (.inl tx))), (a4, .inl (cI, 150, .inl ln))] s.heap := hP
  have hl := lv_entry ([.ref x]) (n := 1) (Nat.le_of_ble_eq_true rfl)
  rw [lg_entry_eq]
  generalize (lg_sl ([.ref x]) ++ List.replicate (1 - (lg_sl ([.ref x])).length) Slot.unset).toArray = ls at hl ⊢
  replace hl : lv_has ls 1 [(0, .ref x)] := hl
  refine lv_aload_n hx hb dX1_foundSize_0 rfl (lv_at hl 0 rfl) ?_
  refine va_get (D := (dC, dI)) (ci := 1) (v := .int hs) (C := RX1) (T := TX1) (N := 4) hx hb hts i_X1_foundSize_X1 hown hK hP 0 rfl rfl 3 (by decide) (hts (.fieldLink RX1 23 "BlockTree" "hitSize" "I") (by decide +kernel)) (fun _ h9 => h9) rfl dX1_foundSize_1 ?_
  exact W.iret (v := hs) hx hb hr (fun t9 ht hW => ⟨hs, rfl, rfl, ht⟩) (fun q h => absurd h List.not_mem_nil) dX1_foundSize_4
set_option maxHeartbeats 4000000 in
set_option maxRecDepth 100000 in
/-- found -/
theorem c_found (l : Launch) (dC : Nat → ClassId) (dI : Nat → Nat → Nat) (cL cI : ClassId) (x r k a1 a2 a3 a4 : Nat) (hk : Int64) (hs : Int32) (u : Nat) (hd : Nat → Int64) (sz : Nat → Int32) (tx : Nat → Int64) (ln : Nat → Int32) : Met l yX1_found wsX1_found ({ frames := 0, cells := 0, slots := 0, locals := 0 }) (rdP (dC, dI) (kS cL cI) (tW cL cI x r k a1 a2 a3 a4 (hk, hs) (u, hd, sz, tx, ln)) [.ref x]) (vp_Sl (fun z => z = hk)) 0 0 (fun _ => False) := by
  refine Met.ofW (cc := cX1_found) (maxL := 1) (ret := some .long) (by decide) rfl ?_
  intro p e s m args below meth c s₁ B hml hv
  obtain ⟨rfl, hP, hK⟩ := hv
  have hx := B.exec
  have hb := B.bytes
  have hr := B.returns
  have hts := atoms_spec (ws := wsX1_found) B.pre
  have hown : s.vm.findClass RX1 = some m.cls := findClass_of_methodNamed B.named
  have hlocks := B.notSynchronized
  replace hP : va_P (dC, dI) vwCl [(x, .inr (1, [.ref r, .ref k, .long hk, .int hs])), (r, .inr (0, [.ref a1, .ref a2, .ref a3, .ref a4, .int (nI u)])), (a1, .inl (cL, 150, .inr (.inl hd))), (a2, .inl (cI, 150, .inl sz)), (a3, .inl (cL, 150, .inr (.inl tx))), (a4, .inl (cI, 150, .inl ln))] s.heap := hP
  have hl := lv_entry ([.ref x]) (n := 1) (Nat.le_of_ble_eq_true rfl)
  rw [lg_entry_eq]
  generalize (lg_sl ([.ref x]) ++ List.replicate (1 - (lg_sl ([.ref x])).length) Slot.unset).toArray = ls at hl ⊢
  replace hl : lv_has ls 1 [(0, .ref x)] := hl
  refine lv_aload_n hx hb dX1_found_0 rfl (lv_at hl 0 rfl) ?_
  refine va_get (D := (dC, dI)) (ci := 1) (v := .long hk) (C := RX1) (T := TX1) (N := 4) hx hb hts i_X1_found_X1 hown hK hP 0 rfl rfl 2 (by decide) (hts (.fieldLink RX1 19 "BlockTree" "hitKey" "J") (by decide +kernel)) (fun _ h9 => h9) rfl dX1_found_1 ?_
  exact W.lret (v := hk) hx hb hr (fun t9 ht hW => ⟨hk, rfl, rfl, ht⟩) (fun q h => absurd h List.not_mem_nil) dX1_found_4
set_option maxHeartbeats 4000000 in
set_option maxRecDepth 100000 in
/-- count -/
theorem c_count (l : Launch) (dC : Nat → ClassId) (dI : Nat → Nat → Nat) (cL cI : ClassId) (x r k a1 a2 a3 a4 : Nat) (hk : Int64) (hs : Int32) (u : Nat) (hd : Nat → Int64) (sz : Nat → Int32) (tx : Nat → Int64) (ln : Nat → Int32) : Met l yX1_count wsX1_count ({ frames := 0, cells := 0, slots := 0, locals := 0 }) (rdP (dC, dI) (kS cL cI) (tW cL cI x r k a1 a2 a3 a4 (hk, hs) (u, hd, sz, tx, ln)) [.ref x]) (vp_Si (fun z => z = nI u)) 0 0 (fun _ => False) := by
  refine Met.ofW (cc := cX1_count) (maxL := 1) (ret := some .int) (by decide) rfl ?_
  intro p e s m args below meth c s₁ B hml hv
  obtain ⟨rfl, hP, hK⟩ := hv
  have hx := B.exec
  have hb := B.bytes
  have hr := B.returns
  have hts := atoms_spec (ws := wsX1_count) B.pre
  have hown : s.vm.findClass RX1 = some m.cls := findClass_of_methodNamed B.named
  have hlocks := B.notSynchronized
  replace hP : va_P (dC, dI) vwCl [(x, .inr (1, [.ref r, .ref k, .long hk, .int hs])), (r, .inr (0, [.ref a1, .ref a2, .ref a3, .ref a4, .int (nI u)])), (a1, .inl (cL, 150, .inr (.inl hd))), (a2, .inl (cI, 150, .inl sz)), (a3, .inl (cL, 150, .inr (.inl tx))), (a4, .inl (cI, 150, .inl ln))] s.heap := hP
  have hl := lv_entry ([.ref x]) (n := 1) (Nat.le_of_ble_eq_true rfl)
  rw [lg_entry_eq]
  generalize (lg_sl ([.ref x]) ++ List.replicate (1 - (lg_sl ([.ref x])).length) Slot.unset).toArray = ls at hl ⊢
  replace hl : lv_has ls 1 [(0, .ref x)] := hl
  refine lv_aload_n hx hb dX1_count_0 rfl (lv_at hl 0 rfl) ?_
  refine va_get (D := (dC, dI)) (ci := 1) (v := .ref r) (C := RX1) (T := TX1) (N := 4) hx hb hts i_X1_count_X1 hown hK hP 0 rfl rfl 0 (by decide) (hts (.fieldLink RX1 10 "BlockTree" "now" "LBlockTree$Rows;") (by decide +kernel)) (fun _ h9 => h9) rfl dX1_count_1 ?_
  refine va_get (D := (dC, dI)) (ci := 0) (v := .int (nI u)) (C := RX0) (T := TX0) (N := 5) hx hb hts i_X1_count_X0 hown hK hP 1 rfl rfl 4 (by decide) (hts (.fieldLink RX1 70 "BlockTree$Rows" "used" "I") (by decide +kernel)) (fun _ h9 => h9) rfl dX1_count_4 ?_
  exact W.iret (v := (nI u)) hx hb hr (fun t9 ht hW => ⟨(nI u), rfl, rfl, ht⟩) (fun q h => absurd h List.not_mem_nil) dX1_count_7
