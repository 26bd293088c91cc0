/-! ROWS: what only reads -/
set_option maxHeartbeats 4000000 in
set_option maxRecDepth 100000 in
/-- has -/
theorem c_has (l : Launch) (dC : Nat → ClassId) (dI : Nat → Nat → Nat) (cL cI : ClassId) (r a1 a2 a3 a4 : Nat) (u : Nat) (hu : u ≤ 150) (i : Int32) : Met l yX0_has wsX0_has ({ frames := 0, cells := 0, slots := 0, locals := 0 }) (rdP (dC, dI) (kS cL cI) [(r, .inr (0, [.ref a1, .ref a2, .ref a3, .ref a4, .int (nI u)]))] [.ref r, .int i]) (vp_Si (fun z => bq z (∃ j, j < u ∧ i = nI j))) 0 0 (fun _ => False) := by
  refine Met.ofW (cc := cX0_has) (maxL := 2) (ret := some .boolean) (by decide) rfl ?_
  intro p e s m args below meth c s₁ B hml hv
  obtain ⟨rfl, hP, hK⟩ := hv
  have hx := B.exec
  have hb := B.bytes
  have hr := B.returns
  have hts := atoms_spec (ws := wsX0_has) B.pre
  have hown : s.vm.findClass RX0 = some m.cls := findClass_of_methodNamed B.named
  have hlocks := B.notSynchronized
  replace hP : va_P (dC, dI) vwCl [(r, .inr (0, [.ref a1, .ref a2, .ref a3, .ref a4, .int (nI u)]))] s.heap := hP
  have hl := lv_entry ([.ref r, .int i]) (n := 2) (Nat.le_of_ble_eq_true rfl)
  rw [lg_entry_eq]
  generalize (lg_sl ([.ref r, .int i]) ++ List.replicate (2 - (lg_sl ([.ref r, .int i])).length) Slot.unset).toArray = ls at hl ⊢
  replace hl : lv_has ls 2 [(0, .ref r), (1, .int i)] := hl
  refine lv_iload_n hx hb dX0_has_0 rfl (lv_at hl 1 rfl) ?_
  refine lv_if_lt (tgt := 16) hx hb dX0_has_1 (by decide) (fun c_1 => ?_) (fun c_1 => ?_)
  · skip
    refine lv_iconst (v := 0) hx hb dX0_has_16 (by decide) ?_
    exact W.zret (v := 0) hx hb hr (by first | rfl | decide +kernel) (fun t9 ht hW => ⟨0, rfl, by first | exact bq_f (has_a hu c_1) | exact bq_f (has_b hu c_9) | exact bq_t (has_c hu c_1 c_9), ht⟩) (fun q h => absurd h List.not_mem_nil) dX0_has_17
  · skip
    refine lv_iload_n hx hb dX0_has_4 rfl (lv_at hl 1 rfl) ?_
    refine lv_aload_n hx hb dX0_has_5 rfl (lv_at hl 0 rfl) ?_
    refine va_get (D := (dC, dI)) (ci := 0) (v := .int (nI u)) (C := RX0) (T := TX0) (N := 5) hx hb hts i_X0_has_X0 hown hK hP 0 rfl rfl 4 (by decide) (hts (.fieldLink RX0 25 "BlockTree$Rows" "used" "I") (by decide +kernel)) (fun _ h9 => h9) rfl dX0_has_6 ?_
    refine lv_icmp_ge (tgt := 16) hx hb dX0_has_9 (by decide) (fun c_9 => ?_) (fun c_9 => ?_)
    · skip
      refine lv_iconst (v := 0) hx hb dX0_has_16 (by decide) ?_
      exact W.zret (v := 0) hx hb hr (by first | rfl | decide +kernel) (fun t9 ht hW => ⟨0, rfl, by first | exact bq_f (has_a hu c_1) | exact bq_f (has_b hu c_9) | exact bq_t (has_c hu c_1 c_9), ht⟩) (fun q h => absurd h List.not_mem_nil) dX0_has_17
    · skip
      refine lv_iconst (v := 1) hx hb dX0_has_12 (by decide) ?_
      refine lv_goto (tgt := 17) hx hb dX0_has_13 (by decide) ?_
      exact W.zret (v := 1) hx hb hr (by first | rfl | decide +kernel) (fun t9 ht hW => ⟨1, rfl, by first | exact bq_f (has_a hu c_1) | exact bq_f (has_b hu c_9) | exact bq_t (has_c hu c_1 c_9), ht⟩) (fun q h => absurd h List.not_mem_nil) dX0_has_17
set_option maxHeartbeats 4000000 in
set_option maxRecDepth 100000 in
/-- holds -/
theorem c_holds (l : Launch) (dC : Nat → ClassId) (dI : Nat → Nat → Nat) (cL cI : ClassId) (r a1 a2 a3 a4 : Nat) (u : Nat) (hd : Nat → Int64) (sz : Nat → Int32) (hu : u ≤ 150) (i : Int32) (h : Int64) (t : Int32) : Met l yX0_holds wsX0_holds ({ frames := 1, cells := 0, slots := 0, locals := 21 }) (rdP (dC, dI) (kS cL cI) [(r, .inr (0, [.ref a1, .ref a2, .ref a3, .ref a4, .int (nI u)])), (a1, .inl (cL, 150, .inr (.inl hd))), (a2, .inl (cI, 150, .inl sz))] [.ref r, .int i, .long h, .int t]) (vp_Si (fun z => bq z (∃ j, j < u ∧ i = nI j ∧ hd j = h ∧ sz j = t))) 0 0 (fun _ => False) := by
  refine Met.ofW (cc := cX0_holds) (maxL := 5) (ret := some .boolean) (by decide) rfl ?_
  intro p e s m args below meth c s₁ B hml hv
  obtain ⟨rfl, hP, hK⟩ := hv
  have hx := B.exec
  have hb := B.bytes
  have hr := B.returns
  have hts := atoms_spec (ws := wsX0_holds) B.pre
  have hown : s.vm.findClass RX0 = some m.cls := findClass_of_methodNamed B.named
  have hlocks := B.notSynchronized
  replace hP : va_P (dC, dI) vwCl [(r, .inr (0, [.ref a1, .ref a2, .ref a3, .ref a4, .int (nI u)])), (a1, .inl (cL, 150, .inr (.inl hd))), (a2, .inl (cI, 150, .inl sz))] s.heap := hP
  have hl := lv_entry ([.ref r, .int i, .long h, .int t]) (n := 5) (Nat.le_of_ble_eq_true rfl)
  rw [lg_entry_eq]
  generalize (lg_sl ([.ref r, .int i, .long h, .int t]) ++ List.replicate (5 - (lg_sl ([.ref r, .int i, .long h, .int t])).length) Slot.unset).toArray = ls at hl ⊢
  replace hl : lv_has ls 5 [(0, .ref r), (1, .int i), (2, .long h), (4, .int t)] := hl
  refine lv_aload_n hx hb dX0_holds_0 rfl (lv_at hl 0 rfl) ?_
  refine lv_iload_n hx hb dX0_holds_1 rfl (lv_at hl 1 rfl) ?_
  refine vp_callSi (va_Run.run (va_runV (As := [.int i]) (rest := []) ⟨hx, hb, hml, hown, hts⟩ (c_has l dC dI cL cI r a1 a2 a3 a4 u hu i) (cwV 1 hts gX0_holds_X0_has rfl rfl rfl (by decide +kernel) ⟨Nat.le_of_ble_eq_true rfl, Nat.le_of_ble_eq_true rfl⟩) (rd_preV hK (hP.sub (ws' := [(r, .inr (0, [.ref a1, .ref a2, .ref a3, .ref a4, .int (nI u)]))]) [0] rfl) (ci := 0) (q0 := 0) rfl rfl) rfl rfl hl.1 rfl (lv_room (Nat.le_of_ble_eq_true rfl)) dX0_holds_2 ⟨Nat.le_of_ble_eq_true rfl, Nat.le_of_ble_eq_true rfl⟩)) (fun r2 hr2 => ?_)
  rcases hr2 with ⟨rfl, j, hj, ei⟩ | ⟨rfl, hno⟩
  · skip
    refine lv_if_eq (tgt := 34) hx hb dX0_holds_5 (by decide) (fun c_5 => absurd c_5 (by decide)) (fun c_5 => ?_)
    refine lv_aload_n hx hb dX0_holds_8 rfl (lv_at hl 0 rfl) ?_
    refine va_get (D := (dC, dI)) (ci := 0) (v := .ref a1) (C := RX0) (T := TX0) (N := 5) hx hb hts i_X0_holds_X0 hown hK hP 0 rfl rfl 0 (by decide) (hts (.fieldLink RX0 9 "BlockTree$Rows" "heads" "[J") (by decide +kernel)) (fun _ h9 => h9) rfl dX0_holds_9 ?_
    refine lv_iload_n hx hb dX0_holds_12 rfl (lv_at hl 1 rfl) ?_
    refine va_lald hx hb hK hP 1 0 rfl rfl (by rw [ei]; exact vp_in_nI (by omega) (by omega)) dX0_holds_13 ?_
    refine lv_topl (fun z_1 ez_1 => ?_)
    rw [show (i).toNatClampNeg = j from (by rw [ei]; exact nI_clamp (by omega))] at ez_1
    subst ez_1
    refine lv_lload_n hx hb dX0_holds_14 rfl (lv_at hl 2 rfl) ?_
    refine W.lcmp hx hb dX0_holds_15 ?_
    refine lv_if_ne (tgt := 34) hx hb dX0_holds_16 (by decide) (fun c_16 => ?_) (fun c_16 => ?_)
    · skip
      have c_16 := fun q => c_16 ((lg_cmp_eq _ _).mpr q)
      refine lv_iconst (v := 0) hx hb dX0_holds_34 (by decide) ?_
      exact W.zret (v := 0) hx hb hr (by first | rfl | decide +kernel) (fun t9 ht hW => ⟨0, rfl, by first | exact bq_t ⟨j, hj, ei, c_16, c_27⟩ | exact bq_f (fun ⟨j2, h1, h2, h3, h4⟩ => by have e2 : j2 = j := nI_inj hu hj (h2.symm.trans ei) (by omega); subst e2; first | exact c_16 h3 | exact c_27 h4) | exact bq_f (fun ⟨j2, h1, h2, _⟩ => hno ⟨j2, h1, h2⟩), ht⟩) (fun q h => absurd h List.not_mem_nil) dX0_holds_35
    · skip
      have c_16 := (lg_cmp_eq _ _).mp c_16
      refine lv_aload_n hx hb dX0_holds_19 rfl (lv_at hl 0 rfl) ?_
      refine va_get (D := (dC, dI)) (ci := 0) (v := .ref a2) (C := RX0) (T := TX0) (N := 5) hx hb hts i_X0_holds_X0 hown hK hP 0 rfl rfl 1 (by decide) (hts (.fieldLink RX0 15 "BlockTree$Rows" "sizes" "[I") (by decide +kernel)) (fun _ h9 => h9) rfl dX0_holds_20 ?_
      refine lv_iload_n hx hb dX0_holds_23 rfl (lv_at hl 1 rfl) ?_
      refine va_iald hx hb hK hP 2 1 rfl rfl (by rw [ei]; exact vp_in_nI (by omega) (by omega)) dX0_holds_24 ?_
      refine lv_topi (fun z_2 ez_2 => ?_)
      rw [show (i).toNatClampNeg = j from (by rw [ei]; exact nI_clamp (by omega))] at ez_2
      subst ez_2
      refine lv_iload hx hb dX0_holds_25 (lv_at hl 3 rfl) ?_
      refine lv_icmp_ne (tgt := 34) hx hb dX0_holds_27 (by decide) (fun c_27 => ?_) (fun c_27 => ?_)
      · skip
        refine lv_iconst (v := 0) hx hb dX0_holds_34 (by decide) ?_
        exact W.zret (v := 0) hx hb hr (by first | rfl | decide +kernel) (fun t9 ht hW => ⟨0, rfl, by first | exact bq_t ⟨j, hj, ei, c_16, c_27⟩ | exact bq_f (fun ⟨j2, h1, h2, h3, h4⟩ => by have e2 : j2 = j := nI_inj hu hj (h2.symm.trans ei) (by omega); subst e2; first | exact c_16 h3 | exact c_27 h4) | exact bq_f (fun ⟨j2, h1, h2, _⟩ => hno ⟨j2, h1, h2⟩), ht⟩) (fun q h => absurd h List.not_mem_nil) dX0_holds_35
      · skip
        refine lv_iconst (v := 1) hx hb dX0_holds_30 (by decide) ?_
        refine lv_goto (tgt := 35) hx hb dX0_holds_31 (by decide) ?_
        exact W.zret (v := 1) hx hb hr (by first | rfl | decide +kernel) (fun t9 ht hW => ⟨1, rfl, by first | exact bq_t ⟨j, hj, ei, c_16, c_27⟩ | exact bq_f (fun ⟨j2, h1, h2, h3, h4⟩ => by have e2 : j2 = j := nI_inj hu hj (h2.symm.trans ei) (by omega); subst e2; first | exact c_16 h3 | exact c_27 h4) | exact bq_f (fun ⟨j2, h1, h2, _⟩ => hno ⟨j2, h1, h2⟩), ht⟩) (fun q h => absurd h List.not_mem_nil) dX0_holds_35
  · skip
    refine lv_if_eq (tgt := 34) hx hb dX0_holds_5 (by decide) (fun c_5 => ?_) (fun c_5 => absurd c_5 (by decide))
    refine lv_iconst (v := 0) hx hb dX0_holds_34 (by decide) ?_
    exact W.zret (v := 0) hx hb hr (by first | rfl | decide +kernel) (fun t9 ht hW => ⟨0, rfl, by first | exact bq_t ⟨j, hj, ei, c_16, c_27⟩ | exact bq_f (fun ⟨j2, h1, h2, h3, h4⟩ => by have e2 : j2 = j := nI_inj hu hj (h2.symm.trans ei) (by omega); subst e2; first | exact c_16 h3 | exact c_27 h4) | exact bq_f (fun ⟨j2, h1, h2, _⟩ => hno ⟨j2, h1, h2⟩), ht⟩) (fun q h => absurd h List.not_mem_nil) dX0_holds_35
set_option maxHeartbeats 4000000 in
set_option maxRecDepth 100000 in
/-- isBefore -/
theorem c_isBefore (l : Launch) (dC : Nat → ClassId) (dI : Nat → Nat → Nat) (cL cI : ClassId) (r a1 a2 a3 a4 : Nat) (u : Nat) (hd : Nat → Int64) (sz : Nat → Int32) (hu : u ≤ 150) (i : Int32) (h : Int64) (t : Int32) : Met l yX0_isBefore wsX0_isBefore ({ frames := 1, cells := 0, slots := 0, locals := 21 }) (rdP (dC, dI) (kS cL cI) [(r, .inr (0, [.ref a1, .ref a2, .ref a3, .ref a4, .int (nI u)])), (a1, .inl (cL, 150, .inr (.inl hd))), (a2, .inl (cI, 150, .inl sz))] [.ref r, .int i, .long h, .int t]) (vp_Si (fun z => bq z (∃ j, j < u ∧ i = nI j ∧ bfr (hd j) (sz j) h t))) 0 0 (fun _ => False) := by
  refine Met.ofW (cc := cX0_isBefore) (maxL := 5) (ret := some .boolean) (by decide) rfl ?_
  intro p e s m args below meth c s₁ B hml hv
  obtain ⟨rfl, hP, hK⟩ := hv
  have hx := B.exec
  have hb := B.bytes
  have hr := B.returns
  have hts := atoms_spec (ws := wsX0_isBefore) B.pre
  have hown : s.vm.findClass RX0 = some m.cls := findClass_of_methodNamed B.named
  have hlocks := B.notSynchronized
  replace hP : va_P (dC, dI) vwCl [(r, .inr (0, [.ref a1, .ref a2, .ref a3, .ref a4, .int (nI u)])), (a1, .inl (cL, 150, .inr (.inl hd))), (a2, .inl (cI, 150, .inl sz))] s.heap := hP
  have hl := lv_entry ([.ref r, .int i, .long h, .int t]) (n := 5) (Nat.le_of_ble_eq_true rfl)
  rw [lg_entry_eq]
  generalize (lg_sl ([.ref r, .int i, .long h, .int t]) ++ List.replicate (5 - (lg_sl ([.ref r, .int i, .long h, .int t])).length) Slot.unset).toArray = ls at hl ⊢
  replace hl : lv_has ls 5 [(0, .ref r), (1, .int i), (2, .long h), (4, .int t)] := hl
  refine lv_aload_n hx hb dX0_isBefore_0 rfl (lv_at hl 0 rfl) ?_
  refine lv_iload_n hx hb dX0_isBefore_1 rfl (lv_at hl 1 rfl) ?_
  refine vp_callSi (va_Run.run (va_runV (As := [.int i]) (rest := []) ⟨hx, hb, hml, hown, hts⟩ (c_has l dC dI cL cI r a1 a2 a3 a4 u hu i) (cwV 1 hts gX0_isBefore_X0_has rfl rfl rfl (by decide +kernel) ⟨Nat.le_of_ble_eq_true rfl, Nat.le_of_ble_eq_true rfl⟩) (rd_preV hK (hP.sub (ws' := [(r, .inr (0, [.ref a1, .ref a2, .ref a3, .ref a4, .int (nI u)]))]) [0] rfl) (ci := 0) (q0 := 0) rfl rfl) rfl rfl hl.1 rfl (lv_room (Nat.le_of_ble_eq_true rfl)) dX0_isBefore_2 ⟨Nat.le_of_ble_eq_true rfl, Nat.le_of_ble_eq_true rfl⟩)) (fun r2 hr2 => ?_)
  rcases hr2 with ⟨rfl, j, hj, ei⟩ | ⟨rfl, hno⟩
  · skip
    refine lv_if_ne (tgt := 10) hx hb dX0_isBefore_5 (by decide) (fun c_5 => ?_) (fun c_5 => absurd c_5 (by decide))
    refine lv_aload_n hx hb dX0_isBefore_10 rfl (lv_at hl 0 rfl) ?_
    refine va_get (D := (dC, dI)) (ci := 0) (v := .ref a1) (C := RX0) (T := TX0) (N := 5) hx hb hts i_X0_isBefore_X0 hown hK hP 0 rfl rfl 0 (by decide) (hts (.fieldLink RX0 9 "BlockTree$Rows" "heads" "[J") (by decide +kernel)) (fun _ h9 => h9) rfl dX0_isBefore_11 ?_
    refine lv_iload_n hx hb dX0_isBefore_14 rfl (lv_at hl 1 rfl) ?_
    refine va_lald hx hb hK hP 1 0 rfl rfl (by rw [ei]; exact vp_in_nI (by omega) (by omega)) dX0_isBefore_15 ?_
    refine lv_topl (fun z_1 ez_1 => ?_)
    rw [show (i).toNatClampNeg = j from (by rw [ei]; exact nI_clamp (by omega))] at ez_1
    subst ez_1
    refine lv_lload_n hx hb dX0_isBefore_16 rfl (lv_at hl 2 rfl) ?_
    refine W.lcmp hx hb dX0_isBefore_17 ?_
    refine lv_if_eq (tgt := 46) hx hb dX0_isBefore_18 (by decide) (fun c_18 => ?_) (fun c_18 => ?_)
    · skip
      have c_18 := (lg_cmp_eq _ _).mp c_18
      refine lv_aload_n hx hb dX0_isBefore_46 rfl (lv_at hl 0 rfl) ?_
      refine va_get (D := (dC, dI)) (ci := 0) (v := .ref a2) (C := RX0) (T := TX0) (N := 5) hx hb hts i_X0_isBefore_X0 hown hK hP 0 rfl rfl 1 (by decide) (hts (.fieldLink RX0 15 "BlockTree$Rows" "sizes" "[I") (by decide +kernel)) (fun _ h9 => h9) rfl dX0_isBefore_47 ?_
      refine lv_iload_n hx hb dX0_isBefore_50 rfl (lv_at hl 1 rfl) ?_
      refine va_iald hx hb hK hP 2 1 rfl rfl (by rw [ei]; exact vp_in_nI (by omega) (by omega)) dX0_isBefore_51 ?_
      refine lv_topi (fun z_2 ez_2 => ?_)
      rw [show (i).toNatClampNeg = j from (by rw [ei]; exact nI_clamp (by omega))] at ez_2
      subst ez_2
      refine lv_iload hx hb dX0_isBefore_52 (lv_at hl 3 rfl) ?_
      refine lv_icmp_ge (tgt := 61) hx hb dX0_isBefore_54 (by decide) (fun c_54 => ?_) (fun c_54 => ?_)
      · skip
        refine lv_iconst (v := 0) hx hb dX0_isBefore_61 (by decide) ?_
        exact W.zret (v := 0) hx hb hr (by first | rfl | decide +kernel) (fun t9 ht hW => ⟨0, rfl, bq_f (fun ⟨j2, h1, h2, h3⟩ => by have e2 : j2 = j := nI_inj hu hj (h2.symm.trans ei) (by omega); subst e2; rcases h3 with ⟨h3, h4⟩ | ⟨h3, h4⟩; exact absurd c_18 h3; exact absurd h4 (Int32.not_lt.mpr c_54)), ht⟩) (fun q h => absurd h List.not_mem_nil) dX0_isBefore_62
      · skip
        refine lv_iconst (v := 1) hx hb dX0_isBefore_57 (by decide) ?_
        refine lv_goto (tgt := 62) hx hb dX0_isBefore_58 (by decide) ?_
        exact W.zret (v := 1) hx hb hr (by first | rfl | decide +kernel) (fun t9 ht hW => ⟨1, rfl, bq_t ⟨j, hj, ei, Or.inr ⟨c_18, Int32.not_le.mp c_54⟩⟩, ht⟩) (fun q h => absurd h List.not_mem_nil) dX0_isBefore_62
    · skip
      have c_18 := fun q => c_18 ((lg_cmp_eq _ _).mpr q)
      refine lv_aload_n hx hb dX0_isBefore_21 rfl (lv_at hl 0 rfl) ?_
      refine va_get (D := (dC, dI)) (ci := 0) (v := .ref a1) (C := RX0) (T := TX0) (N := 5) hx hb hts i_X0_isBefore_X0 hown hK hP 0 rfl rfl 0 (by decide) (hts (.fieldLink RX0 9 "BlockTree$Rows" "heads" "[J") (by decide +kernel)) (fun _ h9 => h9) rfl dX0_isBefore_22 ?_
      refine lv_iload_n hx hb dX0_isBefore_25 rfl (lv_at hl 1 rfl) ?_
      refine va_lald hx hb hK hP 1 0 rfl rfl (by rw [ei]; exact vp_in_nI (by omega) (by omega)) dX0_isBefore_26 ?_
      refine lv_topl (fun z_3 ez_3 => ?_)
      rw [show (i).toNatClampNeg = j from (by rw [ei]; exact nI_clamp (by omega))] at ez_3
      subst ez_3
      refine lv_ldc2 (v := (-9223372036854775808)) hx hb hown (hts (.constantLong RX0 37 (-9223372036854775808)) (by decide +kernel)) dX0_isBefore_27 ?_
      refine lv_ladd hx hb dX0_isBefore_30 ?_
      refine lv_lload_n hx hb dX0_isBefore_31 rfl (lv_at hl 2 rfl) ?_
      refine lv_ldc2 (v := (-9223372036854775808)) hx hb hown (hts (.constantLong RX0 37 (-9223372036854775808)) (by decide +kernel)) dX0_isBefore_32 ?_
      refine lv_ladd hx hb dX0_isBefore_35 ?_
      refine W.lcmp hx hb dX0_isBefore_36 ?_
      refine lv_if_ge (tgt := 44) hx hb dX0_isBefore_37 (by decide) (fun c_37 => ?_) (fun c_37 => ?_)
      · skip
        have c_37 := (lg_cmp_ge _ _).mp c_37
        refine lv_iconst (v := 0) hx hb dX0_isBefore_44 (by decide) ?_
        exact W.zret (v := 0) hx hb hr (by first | rfl | decide +kernel) (fun t9 ht hW => ⟨0, rfl, bq_f (fun ⟨j2, h1, h2, h3⟩ => by have e2 : j2 = j := nI_inj hu hj (h2.symm.trans ei) (by omega); subst e2; rcases h3 with ⟨h3, h4⟩ | ⟨h3, h4⟩; exact absurd h4 (Int64.not_lt.mpr c_37); exact absurd h3 c_18), ht⟩) (fun q h => absurd h List.not_mem_nil) dX0_isBefore_45
      · skip
        have c_37 := fun q => c_37 ((lg_cmp_ge _ _).mpr q)
        refine lv_iconst (v := 1) hx hb dX0_isBefore_40 (by decide) ?_
        refine lv_goto (tgt := 45) hx hb dX0_isBefore_41 (by decide) ?_
        exact W.zret (v := 1) hx hb hr (by first | rfl | decide +kernel) (fun t9 ht hW => ⟨1, rfl, bq_t ⟨j, hj, ei, Or.inl ⟨c_18, Int64.not_le.mp c_37⟩⟩, ht⟩) (fun q h => absurd h List.not_mem_nil) dX0_isBefore_45
  · skip
    refine lv_if_ne (tgt := 10) hx hb dX0_isBefore_5 (by decide) (fun c_5 => absurd c_5 (by decide)) (fun c_5 => ?_)
    refine lv_iconst (v := 0) hx hb dX0_isBefore_8 (by decide) ?_
    exact W.zret (v := 0) hx hb hr (by first | rfl | decide +kernel) (fun t9 ht hW => ⟨0, rfl, bq_f (fun ⟨j2, h1, h2, _⟩ => hno ⟨j2, h1, h2⟩), ht⟩) (fun q h => absurd h List.not_mem_nil) dX0_isBefore_9
set_option maxHeartbeats 4000000 in
set_option maxRecDepth 100000 in
/-- firstNotBefore: the place that parts the rows -/
theorem c_firstNotBefore (l : Launch) (dC : Nat → ClassId) (dI : Nat → Nat → Nat) (cL cI : ClassId) (r a1 a2 a3 a4 : Nat) (u : Nat) (hd : Nat → Int64) (sz : Nat → Int32) (hu : u ≤ 150) (h : Int64) (t : Int32) (j : Nat) (hj : spl u hd sz h t j) : Met l yX0_firstNotBefore wsX0_firstNotBefore ({ frames := 2, cells := 0, slots := 0, locals := 45 }) (rdP (dC, dI) (kS cL cI) [(r, .inr (0, [.ref a1, .ref a2, .ref a3, .ref a4, .int (nI u)])), (a1, .inl (cL, 150, .inr (.inl hd))), (a2, .inl (cI, 150, .inl sz))] [.ref r, .long h, .int t]) (vp_Si (fun z => z = nI j)) 0 0 (fun _ => False) := by
  refine Met.ofW (cc := cX0_firstNotBefore) (maxL := 6) (ret := some .int) (by decide) rfl ?_
  intro p e s m args below meth c s₁ B hml hv
  obtain ⟨rfl, hP, hK⟩ := hv
  have hx := B.exec
  have hb := B.bytes
  have hr := B.returns
  have hts := atoms_spec (ws := wsX0_firstNotBefore) B.pre
  have hown : s.vm.findClass RX0 = some m.cls := findClass_of_methodNamed B.named
  have hlocks := B.notSynchronized
  replace hP : va_P (dC, dI) vwCl [(r, .inr (0, [.ref a1, .ref a2, .ref a3, .ref a4, .int (nI u)])), (a1, .inl (cL, 150, .inr (.inl hd))), (a2, .inl (cI, 150, .inl sz))] s.heap := hP
  obtain ⟨hju, hlo, hhi⟩ := hj
  have hl := lv_entry ([.ref r, .long h, .int t]) (n := 6) (Nat.le_of_ble_eq_true rfl)
  rw [lg_entry_eq]
  generalize (lg_sl ([.ref r, .long h, .int t]) ++ List.replicate (6 - (lg_sl ([.ref r, .long h, .int t])).length) Slot.unset).toArray = ls at hl ⊢
  replace hl : lv_has ls 6 [(0, .ref r), (1, .long h), (3, .int t)] := hl
  refine lv_iconst (v := 0) hx hb dX0_firstNotBefore_0 (by decide) ?_
  refine lv_istore (lv' := [(4, .int 0), (0, .ref r), (1, .long h), (3, .int t)]) hx hb dX0_firstNotBefore_1 hl (by decide) rfl (fun ls hl => ?_)
  refine lv_sipush (v := 128) hx hb dX0_firstNotBefore_3 (by decide) ?_
  refine lv_istore (lv' := [(5, .int 128), (4, .int 0), (0, .ref r), (1, .long h), (3, .int t)]) hx hb dX0_firstNotBefore_6 hl (by decide) rfl (fun ls hl => ?_)
  obtain ⟨a, ha⟩ : ∃ a : Nat, a = 0 := ⟨0, rfl⟩
  obtain ⟨k, hk⟩ : ∃ k : Nat, k = 8 := ⟨8, rfl⟩
  replace hl : lv_has ls 6 [(0, .ref r), (1, .long h), (3, .int t), (4, .int (nI a)), (5, .int (stp k))] := by subst ha; subst hk; exact lv_sub hl [2, 3, 4, 1, 0] rfl
  have i1 : a ≤ j := by omega
  have i2 : j ≤ a + (2 ^ k - 1) := by subst hk; omega
  have i3 : k ≤ 8 := by omega
  clear ha hk
  induction k generalizing a ls with
  | zero =>
    have hl : lv_has ls 6 [(0, .ref r), (1, .long h), (3, .int t), (4, .int (nI a)), (5, .int 0)] := hl
    refine lv_iload hx hb dX0_firstNotBefore_8 (lv_at hl 4 rfl) ?_
    refine lv_if_le (tgt := 45) hx hb dX0_firstNotBefore_10 (by decide) (fun c_10 => ?_) (fun c_10 => absurd c_10 (by decide))
    refine lv_iload hx hb dX0_firstNotBefore_45 (lv_at hl 3 rfl) ?_
    exact W.iret (v := nI a) hx hb hr (fun t9 ht hW => ⟨nI a, rfl, by rw [show a = j by omega], ht⟩) (fun q h => absurd h List.not_mem_nil) dX0_firstNotBefore_47
  | succ k ih =>
    have hp2 : 2 ^ (k + 1) = 2 * 2 ^ k := by rw [Nat.pow_succ]; omega
    have hp0 : 0 < 2 ^ k := Nat.pow_pos (by decide)
    have hp9 : 2 ^ k ≤ 2 ^ 7 := Nat.pow_le_pow_right (by decide) (by omega)
    refine lv_iload hx hb dX0_firstNotBefore_8 (lv_at hl 4 rfl) ?_
    refine lv_if_le (tgt := 45) hx hb dX0_firstNotBefore_10 (by decide) (fun c_10 => absurd c_10 (stp_pos k (by omega))) (fun c_10 => ?_)
    refine lv_aload_n hx hb dX0_firstNotBefore_13 rfl (lv_at hl 0 rfl) ?_
    refine lv_iload hx hb dX0_firstNotBefore_14 (lv_at hl 3 rfl) ?_
    refine lv_iload hx hb dX0_firstNotBefore_16 (lv_at hl 4 rfl) ?_
    refine lv_iadd hx hb dX0_firstNotBefore_18 ?_
    refine lv_topi (fun z_1 ez_1 => ?_)
    obtain rfl : z_1 = nI (a + 2 ^ k) := ez_1.trans (nI_add a (2 ^ k))
    refine lv_iconst (v := 1) hx hb dX0_firstNotBefore_19 (by decide) ?_
    refine lv_isub hx hb dX0_firstNotBefore_20 ?_
    refine lv_topi (fun z_2 ez_2 => ?_)
    obtain rfl : z_2 = nI (a + 2 ^ k - 1) := ez_2.trans (nI_s1 (by omega))
    refine lv_lload_n hx hb dX0_firstNotBefore_21 rfl (lv_at hl 1 rfl) ?_
    refine lv_iload_n hx hb dX0_firstNotBefore_22 rfl (lv_at hl 2 rfl) ?_
    refine vp_callSi (va_Run.run (va_runV (As := [.int (nI (a + 2 ^ k - 1)), .long h, .int t]) (rest := []) ⟨hx, hb, hml, hown, hts⟩ (c_isBefore l dC dI cL cI r a1 a2 a3 a4 u hd sz hu (nI (a + 2 ^ k - 1)) h t) (cwV 3 hts gX0_firstNotBefore_X0_isBefore rfl rfl rfl (by decide +kernel) ⟨Nat.le_of_ble_eq_true rfl, Nat.le_of_ble_eq_true rfl⟩) (rd_preV hK (hP.sub (ws' := [(r, .inr (0, [.ref a1, .ref a2, .ref a3, .ref a4, .int (nI u)])), (a1, .inl (cL, 150, .inr (.inl hd))), (a2, .inl (cI, 150, .inl sz))]) [0, 1, 2] rfl) (ci := 0) (q0 := 0) rfl rfl) rfl rfl hl.1 rfl (lv_room (Nat.le_of_ble_eq_true rfl)) dX0_firstNotBefore_23 ⟨Nat.le_of_ble_eq_true rfl, Nat.le_of_ble_eq_true rfl⟩)) (fun rq hrq => ?_)
    rcases hrq with ⟨rfl, i, hi, ei, hbf⟩ | ⟨rfl, hno⟩
    · skip
      obtain rfl : a + 2 ^ k - 1 = i := nI_inj hu hi ei (by omega)
      have i4 : a + 2 ^ k ≤ j := by
        rcases Nat.lt_or_ge (a + 2 ^ k - 1) j with q | q
        · omega
        · exact absurd hbf (hhi _ q hi)
      refine lv_if_eq (tgt := 36) hx hb dX0_firstNotBefore_26 (by decide) (fun c_26 => absurd c_26 (by decide)) (fun c_26 => ?_)
      refine lv_iload hx hb dX0_firstNotBefore_29 (lv_at hl 3 rfl) ?_
      refine lv_iload hx hb dX0_firstNotBefore_31 (lv_at hl 4 rfl) ?_
      refine lv_iadd hx hb dX0_firstNotBefore_33 ?_
      refine lv_topi (fun z_3 ez_3 => ?_)
      obtain rfl : z_3 = nI (a + 2 ^ k) := ez_3.trans (nI_add a (2 ^ k))
      refine lv_istore (lv' := [(4, .int (nI (a + 2 ^ k))), (0, .ref r), (1, .long h), (3, .int t), (5, .int (stp (k + 1)))]) hx hb dX0_firstNotBefore_34 hl (by decide) rfl (fun ls hl => ?_)
      refine lv_iload hx hb dX0_firstNotBefore_36 (lv_at hl 4 rfl) ?_
      refine lv_iconst (v := 2) hx hb dX0_firstNotBefore_38 (by decide) ?_
      refine lv_idiv hx hb dX0_firstNotBefore_39 (by decide) ?_
      refine lv_topi (fun z_4 ez_4 => ?_)
      obtain rfl : z_4 = stp k := ez_4.trans (stp_half k (by omega))
      refine lv_istore (lv' := [(5, .int (stp k)), (4, .int (nI (a + 2 ^ k))), (0, .ref r), (1, .long h), (3, .int t)]) hx hb dX0_firstNotBefore_40 hl (by decide) rfl (fun ls hl => ?_)
      refine lv_goto (tgt := 8) hx hb dX0_firstNotBefore_42 (by decide) ?_
      apply ih (ls := ls) (a := a + 2 ^ k)
      all_goals first | omega | exact lv_sub hl [2, 3, 4, 1, 0] rfl
    · skip
      have i4 : j ≤ a + 2 ^ k - 1 := by
        rcases Nat.lt_or_ge (a + 2 ^ k - 1) j with q | q
        · exact absurd ⟨a + 2 ^ k - 1, by omega, rfl, hlo _ q⟩ hno
        · exact q
      refine lv_if_eq (tgt := 36) hx hb dX0_firstNotBefore_26 (by decide) (fun c_26 => ?_) (fun c_26 => absurd c_26 (by decide))
      refine lv_iload hx hb dX0_firstNotBefore_36 (lv_at hl 4 rfl) ?_
      refine lv_iconst (v := 2) hx hb dX0_firstNotBefore_38 (by decide) ?_
      refine lv_idiv hx hb dX0_firstNotBefore_39 (by decide) ?_
      refine lv_topi (fun z_5 ez_5 => ?_)
      obtain rfl : z_5 = stp k := ez_5.trans (stp_half k (by omega))
      refine lv_istore (lv' := [(5, .int (stp k)), (0, .ref r), (1, .long h), (3, .int t), (4, .int (nI a))]) hx hb dX0_firstNotBefore_40 hl (by decide) rfl (fun ls hl => ?_)
      refine lv_goto (tgt := 8) hx hb dX0_firstNotBefore_42 (by decide) ?_
      apply ih (ls := ls) (a := a)
      all_goals first | omega | exact lv_sub hl [1, 2, 3, 4, 0] rfl
