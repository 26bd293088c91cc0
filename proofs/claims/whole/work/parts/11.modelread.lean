set_option maxHeartbeats 4000000 in
set_option maxRecDepth 100000 in
/-- place: the first row that is not before -/
theorem c_place (l : Launch) (dC : Nat → ClassId) (dI : Nat → Nat → Nat) (cL cI : ClassId) (y p1 p2 p3 p4 p5 p6 p7 p8 : Nat) (mv mk : RS) (f : Int64 × Int32) (hm : mok mv) (q : Int64) (nq : Nat) (nq1 : 1 ≤ nq) (nq8 : nq ≤ 8) (j : Nat) (hj : mpl mv (hdOf q (nI nq)) (nI nq) j) : Met l yX2_place wsX2_place ({ frames := 2, cells := 0, slots := 0, locals := 50 }) (rdP (dC, dI) (kS cL cI) (mW cL cI y p1 p2 p3 p4 p5 p6 p7 p8 mv mk f) [.ref y, .long q, .int (nI nq)]) (vp_Si (fun z => z = nI j)) 0 0 (fun _ => False) := by
  refine Met.ofW (cc := cX2_place) (maxL := 5) (ret := some .int) (by decide) rfl ?_
  intro p e s m args below meth c s₁ B hml hv
  obtain ⟨rfl, hP, hK⟩ := hv
  have hx := B.exec
  have hb := B.bytes
  have hr := B.returns
  have hts := atoms_spec (ws := wsX2_place) B.pre
  have hown : s.vm.findClass RX2 = some m.cls := findClass_of_methodNamed B.named
  have hlocks := B.notSynchronized
  replace hP : va_P (dC, dI) vwCl [(y, .inr (2, [.int (nI mv.1), .int (nI mk.1), .ref p1, .ref p2, .ref p3, .ref p4, .ref p5, .ref p6, .ref p7, .ref p8, .long f.1, .int f.2])), (p1, .inl (cL, 151, .inr (.inl mv.2.1))), (p2, .inl (cL, 151, .inr (.inl mv.2.2.2.1))), (p3, .inl (cL, 150, .inr (.inl mk.2.1))), (p4, .inl (cL, 150, .inr (.inl mk.2.2.2.1))), (p5, .inl (cI, 151, .inl mv.2.2.1)), (p6, .inl (cI, 151, .inl mv.2.2.2.2)), (p7, .inl (cI, 150, .inl mk.2.2.1)), (p8, .inl (cI, 150, .inl mk.2.2.2.2))] s.heap := hP
  obtain ⟨hj1, hj2, hj3⟩ := hj
  obtain ⟨hm1, hm2⟩ := hm
  have hl := lv_entry ([.ref y, .long q, .int (nI nq)]) (n := 5) (Nat.le_of_ble_eq_true rfl)
  rw [lg_entry_eq]
  generalize (lg_sl ([.ref y, .long q, .int (nI nq)]) ++ List.replicate (5 - (lg_sl ([.ref y, .long q, .int (nI nq)])).length) Slot.unset).toArray = ls at hl ⊢
  replace hl : lv_has ls 5 [(0, .ref y), (1, .long q), (3, .int (nI nq))] := hl
  refine lv_iconst (v := 0) hx hb dX2_place_0 (by decide) ?_
  refine lv_istore (lv' := [(4, .int 0), (0, .ref y), (1, .long q), (3, .int (nI nq))]) hx hb dX2_place_1 hl (by decide) rfl (fun ls hl => ?_)
  obtain ⟨i, hi0⟩ : ∃ i : Nat, i = 0 := ⟨0, rfl⟩
  obtain ⟨g, hg⟩ : ∃ g : Nat, i + g = j := ⟨j, by omega⟩
  replace hl : lv_has ls 5 [(0, .ref y), (1, .long q), (3, .int (nI nq)), (4, .int (nI i))] := by subst hi0; exact lv_sub hl [1, 2, 3, 0] rfl
  clear hi0
  induction g generalizing i ls with
  | zero =>
    refine lv_iload hx hb dX2_place_3 (lv_at hl 3 rfl) ?_
    refine lv_aload_n hx hb dX2_place_5 rfl (lv_at hl 0 rfl) ?_
    refine va_get (D := (dC, dI)) (ci := 2) (v := .int (nI mv.1)) (C := RX2) (T := TX2) (N := 12) hx hb hts i_X2_place_X2 hown hK hP 0 rfl rfl 0 (by decide) (hts (.fieldLink RX2 41 "BlockTreeModel" "many" "I") (by decide +kernel)) (fun _ h9 => h9) rfl dX2_place_6 ?_
    refine lv_icmp_ge (tgt := 40) hx hb dX2_place_9 (by decide) (fun c_9 => ?_) (fun c_9 => ?_)
    · skip
      refine lv_iload hx hb dX2_place_40 (lv_at hl 3 rfl) ?_
      exact W.iret (v := nI i) hx hb hr (fun t9 ht hW => ⟨nI i, rfl, by rw [show i = j by omega], ht⟩) (fun q h => absurd h List.not_mem_nil) dX2_place_42
    · skip
      have c_9 : i < mv.1 := by
        rcases Nat.lt_or_ge i mv.1 with q2 | q2
        · exact q2
        · exact absurd (nI_le q2 (by omega)) c_9
      refine lv_aload_n hx hb dX2_place_12 rfl (lv_at hl 0 rfl) ?_
      refine va_get (D := (dC, dI)) (ci := 2) (v := .ref p1) (C := RX2) (T := TX2) (N := 12) hx hb hts i_X2_place_X2 hown hK hP 0 rfl rfl 2 (by decide) (hts (.fieldLink RX2 7 "BlockTreeModel" "key" "[J") (by decide +kernel)) (fun _ h9 => h9) rfl dX2_place_13 ?_
      refine lv_iload hx hb dX2_place_16 (lv_at hl 3 rfl) ?_
      refine va_lald hx hb hK hP 1 0 rfl rfl (vp_in_nI (by omega) (by omega)) dX2_place_18 ?_
      refine lv_topl (fun z_1 ez_1 => ?_)
      rw [show ((nI i)).toNatClampNeg = i from (nI_clamp (by omega))] at ez_1
      subst ez_1
      refine lv_aload_n hx hb dX2_place_19 rfl (lv_at hl 0 rfl) ?_
      refine va_get (D := (dC, dI)) (ci := 2) (v := .ref p5) (C := RX2) (T := TX2) (N := 12) hx hb hts i_X2_place_X2 hown hK hP 0 rfl rfl 6 (by decide) (hts (.fieldLink RX2 22 "BlockTreeModel" "size" "[I") (by decide +kernel)) (fun _ h9 => h9) rfl dX2_place_20 ?_
      refine lv_iload hx hb dX2_place_23 (lv_at hl 3 rfl) ?_
      refine va_iald hx hb hK hP 5 1 rfl rfl (vp_in_nI (by omega) (by omega)) dX2_place_25 ?_
      refine lv_topi (fun z_2 ez_2 => ?_)
      rw [show ((nI i)).toNatClampNeg = i from (nI_clamp (by omega))] at ez_2
      subst ez_2
      refine lv_lload_n hx hb dX2_place_26 rfl (lv_at hl 1 rfl) ?_
      refine lv_iload_n hx hb dX2_place_27 rfl (lv_at hl 2 rfl) ?_
      obtain ⟨ns, ns1, ns8, es⟩ := okK_nat (hm2 i (by omega))
      rw [es]
      have hes : mv.2.2.1 i = nI ns := es
      refine vp_callSi (va_Run.run (va_runS (As := [.long (mv.2.1 i), .int (nI ns), .long q, .int (nI nq)]) (rest := []) ⟨hx, hb, hml, hown, hts⟩ (c_order l (mv.2.1 i) ns q nq ns1 ns8 nq1 nq8) (va_cwS 4 hts gX2_place_X2_order rfl rfl rfl (by decide +kernel) ⟨Nat.le_of_ble_eq_true rfl, Nat.le_of_ble_eq_true rfl⟩) (st_pre) rfl rfl hl.1 rfl (lv_room (Nat.le_of_ble_eq_true rfl)) dX2_place_28 ⟨Nat.le_of_ble_eq_true rfl, Nat.le_of_ble_eq_true rfl⟩)) (fun ro hro => ?_)
      rw [← es] at hro
      refine lv_if_ge (tgt := 40) hx hb dX2_place_31 (by decide) (fun c_31 => ?_) (fun c_31 => absurd (Int32.not_le.mp c_31) (fun q2 => hj3 (by omega) (by rw [← (show i = j by omega)]; exact hro.1.mp q2)))
      refine lv_iload hx hb dX2_place_40 (lv_at hl 3 rfl) ?_
      exact W.iret (v := nI i) hx hb hr (fun t9 ht hW => ⟨nI i, rfl, by rw [show i = j by omega], ht⟩) (fun q h => absurd h List.not_mem_nil) dX2_place_42
  | succ g ih =>
    refine lv_iload hx hb dX2_place_3 (lv_at hl 3 rfl) ?_
    refine lv_aload_n hx hb dX2_place_5 rfl (lv_at hl 0 rfl) ?_
    refine va_get (D := (dC, dI)) (ci := 2) (v := .int (nI mv.1)) (C := RX2) (T := TX2) (N := 12) hx hb hts i_X2_place_X2 hown hK hP 0 rfl rfl 0 (by decide) (hts (.fieldLink RX2 41 "BlockTreeModel" "many" "I") (by decide +kernel)) (fun _ h9 => h9) rfl dX2_place_6 ?_
    refine lv_icmp_ge (tgt := 40) hx hb dX2_place_9 (by decide) (fun c_9 => absurd c_9 (nI_ge (by omega) (by omega))) (fun c_9 => ?_)
    refine lv_aload_n hx hb dX2_place_12 rfl (lv_at hl 0 rfl) ?_
    refine va_get (D := (dC, dI)) (ci := 2) (v := .ref p1) (C := RX2) (T := TX2) (N := 12) hx hb hts i_X2_place_X2 hown hK hP 0 rfl rfl 2 (by decide) (hts (.fieldLink RX2 7 "BlockTreeModel" "key" "[J") (by decide +kernel)) (fun _ h9 => h9) rfl dX2_place_13 ?_
    refine lv_iload hx hb dX2_place_16 (lv_at hl 3 rfl) ?_
    refine va_lald hx hb hK hP 1 0 rfl rfl (vp_in_nI (by omega) (by omega)) dX2_place_18 ?_
    refine lv_topl (fun z_1 ez_1 => ?_)
    rw [show ((nI i)).toNatClampNeg = i from (nI_clamp (by omega))] at ez_1
    subst ez_1
    refine lv_aload_n hx hb dX2_place_19 rfl (lv_at hl 0 rfl) ?_
    refine va_get (D := (dC, dI)) (ci := 2) (v := .ref p5) (C := RX2) (T := TX2) (N := 12) hx hb hts i_X2_place_X2 hown hK hP 0 rfl rfl 6 (by decide) (hts (.fieldLink RX2 22 "BlockTreeModel" "size" "[I") (by decide +kernel)) (fun _ h9 => h9) rfl dX2_place_20 ?_
    refine lv_iload hx hb dX2_place_23 (lv_at hl 3 rfl) ?_
    refine va_iald hx hb hK hP 5 1 rfl rfl (vp_in_nI (by omega) (by omega)) dX2_place_25 ?_
    refine lv_topi (fun z_2 ez_2 => ?_)
    rw [show ((nI i)).toNatClampNeg = i from (nI_clamp (by omega))] at ez_2
    subst ez_2
    refine lv_lload_n hx hb dX2_place_26 rfl (lv_at hl 1 rfl) ?_
    refine lv_iload_n hx hb dX2_place_27 rfl (lv_at hl 2 rfl) ?_
    obtain ⟨ns, ns1, ns8, es⟩ := okK_nat (hm2 i (by omega))
    rw [es]
    have hes : mv.2.2.1 i = nI ns := es
    refine vp_callSi (va_Run.run (va_runS (As := [.long (mv.2.1 i), .int (nI ns), .long q, .int (nI nq)]) (rest := []) ⟨hx, hb, hml, hown, hts⟩ (c_order l (mv.2.1 i) ns q nq ns1 ns8 nq1 nq8) (va_cwS 4 hts gX2_place_X2_order rfl rfl rfl (by decide +kernel) ⟨Nat.le_of_ble_eq_true rfl, Nat.le_of_ble_eq_true rfl⟩) (st_pre) rfl rfl hl.1 rfl (lv_room (Nat.le_of_ble_eq_true rfl)) dX2_place_28 ⟨Nat.le_of_ble_eq_true rfl, Nat.le_of_ble_eq_true rfl⟩)) (fun ro hro => ?_)
    rw [← es] at hro
    refine lv_if_ge (tgt := 40) hx hb dX2_place_31 (by decide) (fun c_31 => absurd (hro.1.mpr (hj2 i (by omega))) (Int32.not_lt.mpr c_31)) (fun c_31 => ?_)
    refine lv_iinc (v := nI (i + 1)) (lv' := [(4, .int (nI (i + 1))), (0, .ref y), (1, .long q), (3, .int (nI nq))]) hx hb dX2_place_34 hl (k := 3) rfl (nI_1 i) (by decide) rfl (fun ls hl => ?_)
    refine lv_goto (tgt := 3) hx hb dX2_place_37 (by decide) ?_
    apply ih (ls := ls) (i := i + 1)
    all_goals first | omega | exact lv_sub hl [1, 2, 3, 0] rfl
set_option maxHeartbeats 4000000 in
set_option maxRecDepth 100000 in
/-- isAt -/
theorem c_isAt (l : Launch) (dC : Nat → ClassId) (dI : Nat → Nat → Nat) (cL cI : ClassId) (y p1 p2 p3 p4 p5 p6 p7 p8 : Nat) (mv mk : RS) (f : Int64 × Int32) (hm : mok mv) (j : Nat) (hj : j ≤ mv.1) (q : Int64) (n : Int32) (hn : j < mv.1 → okK n) : Met l yX2_isAt wsX2_isAt ({ frames := 2, cells := 0, slots := 0, locals := 50 }) (rdP (dC, dI) (kS cL cI) (mW cL cI y p1 p2 p3 p4 p5 p6 p7 p8 mv mk f) [.ref y, .int (nI j), .long q, .int n]) (vp_Si (fun z => bq z (mhl mv j (hdOf q n) n))) 0 0 (fun _ => False) := by
  refine Met.ofW (cc := cX2_isAt) (maxL := 5) (ret := some .boolean) (by decide) rfl ?_
  intro p e s m args below meth c s₁ B hml hv
  obtain ⟨rfl, hP, hK⟩ := hv
  have hx := B.exec
  have hb := B.bytes
  have hr := B.returns
  have hts := atoms_spec (ws := wsX2_isAt) B.pre
  have hown : s.vm.findClass RX2 = some m.cls := findClass_of_methodNamed B.named
  have hlocks := B.notSynchronized
  replace hP : va_P (dC, dI) vwCl [(y, .inr (2, [.int (nI mv.1), .int (nI mk.1), .ref p1, .ref p2, .ref p3, .ref p4, .ref p5, .ref p6, .ref p7, .ref p8, .long f.1, .int f.2])), (p1, .inl (cL, 151, .inr (.inl mv.2.1))), (p2, .inl (cL, 151, .inr (.inl mv.2.2.2.1))), (p3, .inl (cL, 150, .inr (.inl mk.2.1))), (p4, .inl (cL, 150, .inr (.inl mk.2.2.2.1))), (p5, .inl (cI, 151, .inl mv.2.2.1)), (p6, .inl (cI, 151, .inl mv.2.2.2.2)), (p7, .inl (cI, 150, .inl mk.2.2.1)), (p8, .inl (cI, 150, .inl mk.2.2.2.2))] s.heap := hP
  have hl := lv_entry ([.ref y, .int (nI j), .long q, .int n]) (n := 5) (Nat.le_of_ble_eq_true rfl)
  rw [lg_entry_eq]
  generalize (lg_sl ([.ref y, .int (nI j), .long q, .int n]) ++ List.replicate (5 - (lg_sl ([.ref y, .int (nI j), .long q, .int n])).length) Slot.unset).toArray = ls at hl ⊢
  replace hl : lv_has ls 5 [(0, .ref y), (1, .int (nI j)), (2, .long q), (4, .int n)] := hl
  obtain ⟨hm1, hm2⟩ := hm
  refine lv_iload_n hx hb dX2_isAt_0 rfl (lv_at hl 1 rfl) ?_
  refine lv_aload_n hx hb dX2_isAt_1 rfl (lv_at hl 0 rfl) ?_
  refine va_get (D := (dC, dI)) (ci := 2) (v := .int (nI mv.1)) (C := RX2) (T := TX2) (N := 12) hx hb hts i_X2_isAt_X2 hown hK hP 0 rfl rfl 0 (by decide) (hts (.fieldLink RX2 41 "BlockTreeModel" "many" "I") (by decide +kernel)) (fun _ h9 => h9) rfl dX2_isAt_2 ?_
  refine lv_icmp_ge (tgt := 33) hx hb dX2_isAt_5 (by decide) (fun c_5 => ?_) (fun c_5 => ?_)
  · skip
    have c_5 : ¬ j < mv.1 := fun q2 => nI_ge q2 (by omega) c_5
    refine lv_iconst (v := 0) hx hb dX2_isAt_33 (by decide) ?_
    exact W.zret (v := 0) hx hb hr (by first | rfl | decide +kernel) (fun t9 ht hW => ⟨0, rfl, by first | exact bq_t ⟨c_5, c_26.1, c_26.2⟩ | exact bq_f (fun g => c_5 g.1) | exact bq_f (fun g => c_26 ⟨g.2.1, g.2.2⟩), ht⟩) (fun q h => absurd h List.not_mem_nil) dX2_isAt_34
  · skip
    have c_5 : j < mv.1 := by
      rcases Nat.lt_or_ge j mv.1 with q2 | q2
      · exact q2
      · exact absurd (nI_le q2 (by omega)) c_5
    refine lv_aload_n hx hb dX2_isAt_8 rfl (lv_at hl 0 rfl) ?_
    refine va_get (D := (dC, dI)) (ci := 2) (v := .ref p1) (C := RX2) (T := TX2) (N := 12) hx hb hts i_X2_isAt_X2 hown hK hP 0 rfl rfl 2 (by decide) (hts (.fieldLink RX2 7 "BlockTreeModel" "key" "[J") (by decide +kernel)) (fun _ h9 => h9) rfl dX2_isAt_9 ?_
    refine lv_iload_n hx hb dX2_isAt_12 rfl (lv_at hl 1 rfl) ?_
    refine va_lald hx hb hK hP 1 0 rfl rfl (vp_in_nI (by omega) (by omega)) dX2_isAt_13 ?_
    refine lv_topl (fun z_1 ez_1 => ?_)
    rw [show ((nI j)).toNatClampNeg = j from (nI_clamp (by omega))] at ez_1
    subst ez_1
    refine lv_aload_n hx hb dX2_isAt_14 rfl (lv_at hl 0 rfl) ?_
    refine va_get (D := (dC, dI)) (ci := 2) (v := .ref p5) (C := RX2) (T := TX2) (N := 12) hx hb hts i_X2_isAt_X2 hown hK hP 0 rfl rfl 6 (by decide) (hts (.fieldLink RX2 22 "BlockTreeModel" "size" "[I") (by decide +kernel)) (fun _ h9 => h9) rfl dX2_isAt_15 ?_
    refine lv_iload_n hx hb dX2_isAt_18 rfl (lv_at hl 1 rfl) ?_
    refine va_iald hx hb hK hP 5 1 rfl rfl (vp_in_nI (by omega) (by omega)) dX2_isAt_19 ?_
    refine lv_topi (fun z_2 ez_2 => ?_)
    rw [show ((nI j)).toNatClampNeg = j from (nI_clamp (by omega))] at ez_2
    subst ez_2
    refine lv_lload_n hx hb dX2_isAt_20 rfl (lv_at hl 2 rfl) ?_
    refine lv_iload hx hb dX2_isAt_21 (lv_at hl 3 rfl) ?_
    obtain ⟨ns, ns1, ns8, es⟩ := okK_nat (hm2 j c_5)
    obtain ⟨nq, nq1, nq8, rfl⟩ := okK_nat (hn c_5)
    rw [es]
    refine vp_callSi (va_Run.run (va_runS (As := [.long (mv.2.1 j), .int (nI ns), .long q, .int (nI nq)]) (rest := []) ⟨hx, hb, hml, hown, hts⟩ (c_order l (mv.2.1 j) ns q nq ns1 ns8 nq1 nq8) (va_cwS 4 hts gX2_isAt_X2_order rfl rfl rfl (by decide +kernel) ⟨Nat.le_of_ble_eq_true rfl, Nat.le_of_ble_eq_true rfl⟩) (st_pre) rfl rfl hl.1 rfl (lv_room (Nat.le_of_ble_eq_true rfl)) dX2_isAt_23 ⟨Nat.le_of_ble_eq_true rfl, Nat.le_of_ble_eq_true rfl⟩)) (fun ro hro => ?_)
    rw [← es] at hro
    refine lv_if_ne (tgt := 33) hx hb dX2_isAt_26 (by decide) (fun c_26 => ?_) (fun c_26 => ?_)
    · skip
      have c_26 := fun q2 => c_26 (hro.2.mpr q2)
      refine lv_iconst (v := 0) hx hb dX2_isAt_33 (by decide) ?_
      exact W.zret (v := 0) hx hb hr (by first | rfl | decide +kernel) (fun t9 ht hW => ⟨0, rfl, by first | exact bq_t ⟨c_5, c_26.1, c_26.2⟩ | exact bq_f (fun g => c_5 g.1) | exact bq_f (fun g => c_26 ⟨g.2.1, g.2.2⟩), ht⟩) (fun q h => absurd h List.not_mem_nil) dX2_isAt_34
    · skip
      have c_26 := hro.2.mp c_26
      refine lv_iconst (v := 1) hx hb dX2_isAt_29 (by decide) ?_
      refine lv_goto (tgt := 34) hx hb dX2_isAt_30 (by decide) ?_
      exact W.zret (v := 1) hx hb hr (by first | rfl | decide +kernel) (fun t9 ht hW => ⟨1, rfl, by first | exact bq_t ⟨c_5, c_26.1, c_26.2⟩ | exact bq_f (fun g => c_5 g.1) | exact bq_f (fun g => c_26 ⟨g.2.1, g.2.2⟩), ht⟩) (fun q h => absurd h List.not_mem_nil) dX2_isAt_34
set_option maxHeartbeats 4000000 in
set_option maxRecDepth 100000 in
/-- length -/
theorem m_length (l : Launch) (dC : Nat → ClassId) (dI : Nat → Nat → Nat) (cL cI : ClassId) (y p1 p2 p3 p4 p5 p6 p7 p8 : Nat) (mv mk : RS) (f : Int64 × Int32) (hm : mok mv) (q : Int64) (t : Int32) (j : Nat) (hj : okK t → mpl mv (hdOf q t) t j) : Met l yX2_length wsX2_length ({ frames := 3, cells := 0, slots := 0, locals := 74 }) (rdP (dC, dI) (kS cL cI) (mW cL cI y p1 p2 p3 p4 p5 p6 p7 p8 mv mk f) [.ref y, .long q, .int t]) (vp_Si (fun z => (okK t ∧ mhl mv j (hdOf q t) t ∧ z = mv.2.2.2.2 j) ∨ (¬ (okK t ∧ mhl mv j (hdOf q t) t) ∧ z = -1))) 0 0 (fun _ => False) := by
  refine Met.ofW (cc := cX2_length) (maxL := 5) (ret := some .int) (by decide) rfl ?_
  intro p e s m args below meth c s₁ B hml hv
  obtain ⟨rfl, hP, hK⟩ := hv
  have hx := B.exec
  have hb := B.bytes
  have hr := B.returns
  have hts := atoms_spec (ws := wsX2_length) B.pre
  have hown : s.vm.findClass RX2 = some m.cls := findClass_of_methodNamed B.named
  have hlocks := B.notSynchronized
  replace hP : va_P (dC, dI) vwCl [(y, .inr (2, [.int (nI mv.1), .int (nI mk.1), .ref p1, .ref p2, .ref p3, .ref p4, .ref p5, .ref p6, .ref p7, .ref p8, .long f.1, .int f.2])), (p1, .inl (cL, 151, .inr (.inl mv.2.1))), (p2, .inl (cL, 151, .inr (.inl mv.2.2.2.1))), (p3, .inl (cL, 150, .inr (.inl mk.2.1))), (p4, .inl (cL, 150, .inr (.inl mk.2.2.2.1))), (p5, .inl (cI, 151, .inl mv.2.2.1)), (p6, .inl (cI, 151, .inl mv.2.2.2.2)), (p7, .inl (cI, 150, .inl mk.2.2.1)), (p8, .inl (cI, 150, .inl mk.2.2.2.2))] s.heap := hP
  have hl := lv_entry ([.ref y, .long q, .int t]) (n := 5) (Nat.le_of_ble_eq_true rfl)
  rw [lg_entry_eq]
  generalize (lg_sl ([.ref y, .long q, .int t]) ++ List.replicate (5 - (lg_sl ([.ref y, .long q, .int t])).length) Slot.unset).toArray = ls at hl ⊢
  replace hl : lv_has ls 5 [(0, .ref y), (1, .long q), (3, .int t)] := hl
  refine lv_iload_n hx hb dX2_length_0 rfl (lv_at hl 2 rfl) ?_
  refine vp_callSi (va_Run.run (va_runS (As := [.int t]) (rest := []) ⟨hx, hb, hml, hown, hts⟩ (c_isSize l t) (va_cwS 1 hts gX2_length_X2_isSize rfl rfl rfl (by decide +kernel) ⟨Nat.le_of_ble_eq_true rfl, Nat.le_of_ble_eq_true rfl⟩) (st_pre) rfl rfl hl.1 rfl (lv_room (Nat.le_of_ble_eq_true rfl)) dX2_length_1 ⟨Nat.le_of_ble_eq_true rfl, Nat.le_of_ble_eq_true rfl⟩)) (fun r1 hr1 => ?_)
  rcases hr1 with ⟨rfl, hok⟩ | ⟨rfl, hok⟩
  · skip
    obtain ⟨nq, nq1, nq8, rfl⟩ := okK_nat hok
    refine lv_if_eq (tgt := 16) hx hb dX2_length_4 (by decide) (fun c_4 => absurd c_4 (by decide)) (fun c_4 => ?_)
    refine lv_aload_n hx hb dX2_length_7 rfl (lv_at hl 0 rfl) ?_
    refine lv_lload_n hx hb dX2_length_8 rfl (lv_at hl 1 rfl) ?_
    refine lv_iload_n hx hb dX2_length_9 rfl (lv_at hl 2 rfl) ?_
    refine vp_callSi (va_Run.run (va_runV (As := [.long q, .int (nI nq)]) (rest := []) ⟨hx, hb, hml, hown, hts⟩ (c_place l dC dI cL cI y p1 p2 p3 p4 p5 p6 p7 p8 mv mk f hm q nq nq1 nq8 j (hj hok)) (cwV 2 hts gX2_length_X2_place rfl rfl rfl (by decide +kernel) ⟨Nat.le_of_ble_eq_true rfl, Nat.le_of_ble_eq_true rfl⟩) (rd_preV hK (hP.sub (ws' := [(y, .inr (2, [.int (nI mv.1), .int (nI mk.1), .ref p1, .ref p2, .ref p3, .ref p4, .ref p5, .ref p6, .ref p7, .ref p8, .long f.1, .int f.2])), (p1, .inl (cL, 151, .inr (.inl mv.2.1))), (p2, .inl (cL, 151, .inr (.inl mv.2.2.2.1))), (p3, .inl (cL, 150, .inr (.inl mk.2.1))), (p4, .inl (cL, 150, .inr (.inl mk.2.2.2.1))), (p5, .inl (cI, 151, .inl mv.2.2.1)), (p6, .inl (cI, 151, .inl mv.2.2.2.2)), (p7, .inl (cI, 150, .inl mk.2.2.1)), (p8, .inl (cI, 150, .inl mk.2.2.2.2))]) [0, 1, 2, 3, 4, 5, 6, 7, 8] rfl) (ci := 2) (q0 := 0) rfl rfl) rfl rfl hl.1 rfl (lv_room (Nat.le_of_ble_eq_true rfl)) dX2_length_10 ⟨Nat.le_of_ble_eq_true rfl, Nat.le_of_ble_eq_true rfl⟩)) (fun r2 hr2 => ?_)
    subst hr2
    refine lv_goto (tgt := 20) hx hb dX2_length_13 (by decide) ?_
    refine lv_istore (lv' := [(4, .int (nI j)), (0, .ref y), (1, .long q), (3, .int (nI nq))]) hx hb dX2_length_20 hl (by decide) rfl (fun ls hl => ?_)
    refine lv_aload_n hx hb dX2_length_22 rfl (lv_at hl 1 rfl) ?_
    refine lv_iload hx hb dX2_length_23 (lv_at hl 0 rfl) ?_
    refine lv_lload_n hx hb dX2_length_25 rfl (lv_at hl 2 rfl) ?_
    refine lv_iload_n hx hb dX2_length_26 rfl (lv_at hl 3 rfl) ?_
    refine vp_callSi (va_Run.run (va_runV (As := [.int (nI j), .long q, .int (nI nq)]) (rest := []) ⟨hx, hb, hml, hown, hts⟩ (c_isAt l dC dI cL cI y p1 p2 p3 p4 p5 p6 p7 p8 mv mk f hm j (hj hok).1 q (nI nq) (fun _ => hok)) (cwV 3 hts gX2_length_X2_isAt rfl rfl rfl (by decide +kernel) ⟨Nat.le_of_ble_eq_true rfl, Nat.le_of_ble_eq_true rfl⟩) (rd_preV hK (hP.sub (ws' := [(y, .inr (2, [.int (nI mv.1), .int (nI mk.1), .ref p1, .ref p2, .ref p3, .ref p4, .ref p5, .ref p6, .ref p7, .ref p8, .long f.1, .int f.2])), (p1, .inl (cL, 151, .inr (.inl mv.2.1))), (p2, .inl (cL, 151, .inr (.inl mv.2.2.2.1))), (p3, .inl (cL, 150, .inr (.inl mk.2.1))), (p4, .inl (cL, 150, .inr (.inl mk.2.2.2.1))), (p5, .inl (cI, 151, .inl mv.2.2.1)), (p6, .inl (cI, 151, .inl mv.2.2.2.2)), (p7, .inl (cI, 150, .inl mk.2.2.1)), (p8, .inl (cI, 150, .inl mk.2.2.2.2))]) [0, 1, 2, 3, 4, 5, 6, 7, 8] rfl) (ci := 2) (q0 := 0) rfl rfl) rfl rfl hl.1 rfl (lv_room (Nat.le_of_ble_eq_true rfl)) dX2_length_27 ⟨Nat.le_of_ble_eq_true rfl, Nat.le_of_ble_eq_true rfl⟩)) (fun r3 hr3 => ?_)
    rcases hr3 with ⟨rfl, hh⟩ | ⟨rfl, hh⟩
    · skip
      have hju : j < mv.1 := hh.1
      have hm1 := hm.1
      refine lv_if_eq (tgt := 43) hx hb dX2_length_30 (by decide) (fun c_30 => absurd c_30 (by decide)) (fun c_30 => ?_)
      refine lv_aload_n hx hb dX2_length_33 rfl (lv_at hl 1 rfl) ?_
      refine va_get (D := (dC, dI)) (ci := 2) (v := .ref p6) (C := RX2) (T := TX2) (N := 12) hx hb hts i_X2_length_X2 hown hK hP 0 rfl rfl 7 (by decide) (hts (.fieldLink RX2 26 "BlockTreeModel" "length" "[I") (by decide +kernel)) (fun _ h9 => h9) rfl dX2_length_34 ?_
      refine lv_iload hx hb dX2_length_37 (lv_at hl 0 rfl) ?_
      refine va_iald hx hb hK hP 6 1 rfl rfl (vp_in_nI (by omega) (by omega)) dX2_length_39 ?_
      refine lv_topi (fun z_1 ez_1 => ?_)
      rw [show ((nI j)).toNatClampNeg = j from (nI_clamp (by omega))] at ez_1
      subst ez_1
      refine lv_goto (tgt := 44) hx hb dX2_length_40 (by decide) ?_
      exact W.iret (v := (mv.2.2.2.2 j)) hx hb hr (fun t9 ht hW => ⟨(mv.2.2.2.2 j), rfl, Or.inl ⟨hok, hh, rfl⟩, ht⟩) (fun q h => absurd h List.not_mem_nil) dX2_length_44
    · skip
      have hbad : ¬ (okK (nI nq) ∧ mhl mv j (hdOf q (nI nq)) (nI nq)) := fun g => hh g.2
      refine lv_if_eq (tgt := 43) hx hb dX2_length_30 (by decide) (fun c_30 => ?_) (fun c_30 => absurd c_30 (by decide))
      refine lv_iconst (v := (-1)) hx hb dX2_length_43 (by decide) ?_
      exact W.iret (v := (-1)) hx hb hr (fun t9 ht hW => ⟨(-1), rfl, Or.inr ⟨hbad, rfl⟩, ht⟩) (fun q h => absurd h List.not_mem_nil) dX2_length_44
  · skip
    refine lv_if_eq (tgt := 16) hx hb dX2_length_4 (by decide) (fun c_4 => ?_) (fun c_4 => absurd c_4 (by decide))
    refine lv_aload_n hx hb dX2_length_16 rfl (lv_at hl 0 rfl) ?_
    refine va_get (D := (dC, dI)) (ci := 2) (v := .int (nI mv.1)) (C := RX2) (T := TX2) (N := 12) hx hb hts i_X2_length_X2 hown hK hP 0 rfl rfl 0 (by decide) (hts (.fieldLink RX2 41 "BlockTreeModel" "many" "I") (by decide +kernel)) (fun _ h9 => h9) rfl dX2_length_17 ?_
    refine lv_istore (lv' := [(4, .int (nI mv.1)), (0, .ref y), (1, .long q), (3, .int t)]) hx hb dX2_length_20 hl (by decide) rfl (fun ls hl => ?_)
    refine lv_aload_n hx hb dX2_length_22 rfl (lv_at hl 1 rfl) ?_
    refine lv_iload hx hb dX2_length_23 (lv_at hl 0 rfl) ?_
    refine lv_lload_n hx hb dX2_length_25 rfl (lv_at hl 2 rfl) ?_
    refine lv_iload_n hx hb dX2_length_26 rfl (lv_at hl 3 rfl) ?_
    refine vp_callSi (va_Run.run (va_runV (As := [.int (nI mv.1), .long q, .int t]) (rest := []) ⟨hx, hb, hml, hown, hts⟩ (c_isAt l dC dI cL cI y p1 p2 p3 p4 p5 p6 p7 p8 mv mk f hm mv.1 (Nat.le_refl _) q t (fun g => absurd g (Nat.lt_irrefl _))) (cwV 3 hts gX2_length_X2_isAt rfl rfl rfl (by decide +kernel) ⟨Nat.le_of_ble_eq_true rfl, Nat.le_of_ble_eq_true rfl⟩) (rd_preV hK (hP.sub (ws' := [(y, .inr (2, [.int (nI mv.1), .int (nI mk.1), .ref p1, .ref p2, .ref p3, .ref p4, .ref p5, .ref p6, .ref p7, .ref p8, .long f.1, .int f.2])), (p1, .inl (cL, 151, .inr (.inl mv.2.1))), (p2, .inl (cL, 151, .inr (.inl mv.2.2.2.1))), (p3, .inl (cL, 150, .inr (.inl mk.2.1))), (p4, .inl (cL, 150, .inr (.inl mk.2.2.2.1))), (p5, .inl (cI, 151, .inl mv.2.2.1)), (p6, .inl (cI, 151, .inl mv.2.2.2.2)), (p7, .inl (cI, 150, .inl mk.2.2.1)), (p8, .inl (cI, 150, .inl mk.2.2.2.2))]) [0, 1, 2, 3, 4, 5, 6, 7, 8] rfl) (ci := 2) (q0 := 0) rfl rfl) rfl rfl hl.1 rfl (lv_room (Nat.le_of_ble_eq_true rfl)) dX2_length_27 ⟨Nat.le_of_ble_eq_true rfl, Nat.le_of_ble_eq_true rfl⟩)) (fun r3 hr3 => ?_)
    rcases hr3 with ⟨rfl, hh⟩ | ⟨rfl, hh⟩
    · skip
      exact absurd hh.1 (Nat.lt_irrefl _)
    · skip
      have hbad : ¬ (okK t ∧ mhl mv j (hdOf q t) t) := fun g => hok g.1
      refine lv_if_eq (tgt := 43) hx hb dX2_length_30 (by decide) (fun c_30 => ?_) (fun c_30 => absurd c_30 (by decide))
      refine lv_iconst (v := (-1)) hx hb dX2_length_43 (by decide) ?_
      exact W.iret (v := (-1)) hx hb hr (fun t9 ht hW => ⟨(-1), rfl, Or.inr ⟨hbad, rfl⟩, ht⟩) (fun q h => absurd h List.not_mem_nil) dX2_length_44
set_option maxHeartbeats 4000000 in
set_option maxRecDepth 100000 in
/-- text -/
theorem m_text (l : Launch) (dC : Nat → ClassId) (dI : Nat → Nat → Nat) (cL cI : ClassId) (y p1 p2 p3 p4 p5 p6 p7 p8 : Nat) (mv mk : RS) (f : Int64 × Int32) (hm : mok mv) (q : Int64) (t : Int32) (j : Nat) (hj : okK t → mpl mv (hdOf q t) t j) : Met l yX2_text wsX2_text ({ frames := 3, cells := 0, slots := 0, locals := 74 }) (rdP (dC, dI) (kS cL cI) (mW cL cI y p1 p2 p3 p4 p5 p6 p7 p8 mv mk f) [.ref y, .long q, .int t]) (vp_Sl (fun z => (okK t ∧ mhl mv j (hdOf q t) t ∧ z = mv.2.2.2.1 j) ∨ (¬ (okK t ∧ mhl mv j (hdOf q t) t) ∧ z = 0))) 0 0 (fun _ => False) := by
  refine Met.ofW (cc := cX2_text) (maxL := 5) (ret := some .long) (by decide) rfl ?_
  intro p e s m args below meth c s₁ B hml hv
  obtain ⟨rfl, hP, hK⟩ := hv
  have hx := B.exec
  have hb := B.bytes
  have hr := B.returns
  have hts := atoms_spec (ws := wsX2_text) B.pre
  have hown : s.vm.findClass RX2 = some m.cls := findClass_of_methodNamed B.named
  have hlocks := B.notSynchronized
  replace hP : va_P (dC, dI) vwCl [(y, .inr (2, [.int (nI mv.1), .int (nI mk.1), .ref p1, .ref p2, .ref p3, .ref p4, .ref p5, .ref p6, .ref p7, .ref p8, .long f.1, .int f.2])), (p1, .inl (cL, 151, .inr (.inl mv.2.1))), (p2, .inl (cL, 151, .inr (.inl mv.2.2.2.1))), (p3, .inl (cL, 150, .inr (.inl mk.2.1))), (p4, .inl (cL, 150, .inr (.inl mk.2.2.2.1))), (p5, .inl (cI, 151, .inl mv.2.2.1)), (p6, .inl (cI, 151, .inl mv.2.2.2.2)), (p7, .inl (cI, 150, .inl mk.2.2.1)), (p8, .inl (cI, 150, .inl mk.2.2.2.2))] s.heap := hP
  have hl := lv_entry ([.ref y, .long q, .int t]) (n := 5) (Nat.le_of_ble_eq_true rfl)
  rw [lg_entry_eq]
  generalize (lg_sl ([.ref y, .long q, .int t]) ++ List.replicate (5 - (lg_sl ([.ref y, .long q, .int t])).length) Slot.unset).toArray = ls at hl ⊢
  replace hl : lv_has ls 5 [(0, .ref y), (1, .long q), (3, .int t)] := hl
  refine lv_iload_n hx hb dX2_text_0 rfl (lv_at hl 2 rfl) ?_
  refine vp_callSi (va_Run.run (va_runS (As := [.int t]) (rest := []) ⟨hx, hb, hml, hown, hts⟩ (c_isSize l t) (va_cwS 1 hts gX2_text_X2_isSize rfl rfl rfl (by decide +kernel) ⟨Nat.le_of_ble_eq_true rfl, Nat.le_of_ble_eq_true rfl⟩) (st_pre) rfl rfl hl.1 rfl (lv_room (Nat.le_of_ble_eq_true rfl)) dX2_text_1 ⟨Nat.le_of_ble_eq_true rfl, Nat.le_of_ble_eq_true rfl⟩)) (fun r1 hr1 => ?_)
  rcases hr1 with ⟨rfl, hok⟩ | ⟨rfl, hok⟩
  · skip
    obtain ⟨nq, nq1, nq8, rfl⟩ := okK_nat hok
    refine lv_if_eq (tgt := 16) hx hb dX2_text_4 (by decide) (fun c_4 => absurd c_4 (by decide)) (fun c_4 => ?_)
    refine lv_aload_n hx hb dX2_text_7 rfl (lv_at hl 0 rfl) ?_
    refine lv_lload_n hx hb dX2_text_8 rfl (lv_at hl 1 rfl) ?_
    refine lv_iload_n hx hb dX2_text_9 rfl (lv_at hl 2 rfl) ?_
    refine vp_callSi (va_Run.run (va_runV (As := [.long q, .int (nI nq)]) (rest := []) ⟨hx, hb, hml, hown, hts⟩ (c_place l dC dI cL cI y p1 p2 p3 p4 p5 p6 p7 p8 mv mk f hm q nq nq1 nq8 j (hj hok)) (cwV 2 hts gX2_text_X2_place rfl rfl rfl (by decide +kernel) ⟨Nat.le_of_ble_eq_true rfl, Nat.le_of_ble_eq_true rfl⟩) (rd_preV hK (hP.sub (ws' := [(y, .inr (2, [.int (nI mv.1), .int (nI mk.1), .ref p1, .ref p2, .ref p3, .ref p4, .ref p5, .ref p6, .ref p7, .ref p8, .long f.1, .int f.2])), (p1, .inl (cL, 151, .inr (.inl mv.2.1))), (p2, .inl (cL, 151, .inr (.inl mv.2.2.2.1))), (p3, .inl (cL, 150, .inr (.inl mk.2.1))), (p4, .inl (cL, 150, .inr (.inl mk.2.2.2.1))), (p5, .inl (cI, 151, .inl mv.2.2.1)), (p6, .inl (cI, 151, .inl mv.2.2.2.2)), (p7, .inl (cI, 150, .inl mk.2.2.1)), (p8, .inl (cI, 150, .inl mk.2.2.2.2))]) [0, 1, 2, 3, 4, 5, 6, 7, 8] rfl) (ci := 2) (q0 := 0) rfl rfl) rfl rfl hl.1 rfl (lv_room (Nat.le_of_ble_eq_true rfl)) dX2_text_10 ⟨Nat.le_of_ble_eq_true rfl, Nat.le_of_ble_eq_true rfl⟩)) (fun r2 hr2 => ?_)
    subst hr2
    refine lv_goto (tgt := 20) hx hb dX2_text_13 (by decide) ?_
    refine lv_istore (lv' := [(4, .int (nI j)), (0, .ref y), (1, .long q), (3, .int (nI nq))]) hx hb dX2_text_20 hl (by decide) rfl (fun ls hl => ?_)
    refine lv_aload_n hx hb dX2_text_22 rfl (lv_at hl 1 rfl) ?_
    refine lv_iload hx hb dX2_text_23 (lv_at hl 0 rfl) ?_
    refine lv_lload_n hx hb dX2_text_25 rfl (lv_at hl 2 rfl) ?_
    refine lv_iload_n hx hb dX2_text_26 rfl (lv_at hl 3 rfl) ?_
    refine vp_callSi (va_Run.run (va_runV (As := [.int (nI j), .long q, .int (nI nq)]) (rest := []) ⟨hx, hb, hml, hown, hts⟩ (c_isAt l dC dI cL cI y p1 p2 p3 p4 p5 p6 p7 p8 mv mk f hm j (hj hok).1 q (nI nq) (fun _ => hok)) (cwV 3 hts gX2_text_X2_isAt rfl rfl rfl (by decide +kernel) ⟨Nat.le_of_ble_eq_true rfl, Nat.le_of_ble_eq_true rfl⟩) (rd_preV hK (hP.sub (ws' := [(y, .inr (2, [.int (nI mv.1), .int (nI mk.1), .ref p1, .ref p2, .ref p3, .ref p4, .ref p5, .ref p6, .ref p7, .ref p8, .long f.1, .int f.2])), (p1, .inl (cL, 151, .inr (.inl mv.2.1))), (p2, .inl (cL, 151, .inr (.inl mv.2.2.2.1))), (p3, .inl (cL, 150, .inr (.inl mk.2.1))), (p4, .inl (cL, 150, .inr (.inl mk.2.2.2.1))), (p5, .inl (cI, 151, .inl mv.2.2.1)), (p6, .inl (cI, 151, .inl mv.2.2.2.2)), (p7, .inl (cI, 150, .inl mk.2.2.1)), (p8, .inl (cI, 150, .inl mk.2.2.2.2))]) [0, 1, 2, 3, 4, 5, 6, 7, 8] rfl) (ci := 2) (q0 := 0) rfl rfl) rfl rfl hl.1 rfl (lv_room (Nat.le_of_ble_eq_true rfl)) dX2_text_27 ⟨Nat.le_of_ble_eq_true rfl, Nat.le_of_ble_eq_true rfl⟩)) (fun r3 hr3 => ?_)
    rcases hr3 with ⟨rfl, hh⟩ | ⟨rfl, hh⟩
    · skip
      have hju : j < mv.1 := hh.1
      have hm1 := hm.1
      refine lv_if_eq (tgt := 43) hx hb dX2_text_30 (by decide) (fun c_30 => absurd c_30 (by decide)) (fun c_30 => ?_)
      refine lv_aload_n hx hb dX2_text_33 rfl (lv_at hl 1 rfl) ?_
      refine va_get (D := (dC, dI)) (ci := 2) (v := .ref p2) (C := RX2) (T := TX2) (N := 12) hx hb hts i_X2_text_X2 hown hK hP 0 rfl rfl 3 (by decide) (hts (.fieldLink RX2 13 "BlockTreeModel" "text" "[J") (by decide +kernel)) (fun _ h9 => h9) rfl dX2_text_34 ?_
      refine lv_iload hx hb dX2_text_37 (lv_at hl 0 rfl) ?_
      refine va_lald hx hb hK hP 2 0 rfl rfl (vp_in_nI (by omega) (by omega)) dX2_text_39 ?_
      refine lv_topl (fun z_1 ez_1 => ?_)
      rw [show ((nI j)).toNatClampNeg = j from (nI_clamp (by omega))] at ez_1
      subst ez_1
      refine lv_goto (tgt := 44) hx hb dX2_text_40 (by decide) ?_
      exact W.lret (v := (mv.2.2.2.1 j)) hx hb hr (fun t9 ht hW => ⟨(mv.2.2.2.1 j), rfl, Or.inl ⟨hok, hh, rfl⟩, ht⟩) (fun q h => absurd h List.not_mem_nil) dX2_text_44
    · skip
      have hbad : ¬ (okK (nI nq) ∧ mhl mv j (hdOf q (nI nq)) (nI nq)) := fun g => hh g.2
      refine lv_if_eq (tgt := 43) hx hb dX2_text_30 (by decide) (fun c_30 => ?_) (fun c_30 => absurd c_30 (by decide))
      refine lv_lconst (v := 0) hx hb dX2_text_43 (by decide) ?_
      exact W.lret (v := 0) hx hb hr (fun t9 ht hW => ⟨0, rfl, Or.inr ⟨hbad, rfl⟩, ht⟩) (fun q h => absurd h List.not_mem_nil) dX2_text_44
  · skip
    refine lv_if_eq (tgt := 16) hx hb dX2_text_4 (by decide) (fun c_4 => ?_) (fun c_4 => absurd c_4 (by decide))
    refine lv_aload_n hx hb dX2_text_16 rfl (lv_at hl 0 rfl) ?_
    refine va_get (D := (dC, dI)) (ci := 2) (v := .int (nI mv.1)) (C := RX2) (T := TX2) (N := 12) hx hb hts i_X2_text_X2 hown hK hP 0 rfl rfl 0 (by decide) (hts (.fieldLink RX2 41 "BlockTreeModel" "many" "I") (by decide +kernel)) (fun _ h9 => h9) rfl dX2_text_17 ?_
    refine lv_istore (lv' := [(4, .int (nI mv.1)), (0, .ref y), (1, .long q), (3, .int t)]) hx hb dX2_text_20 hl (by decide) rfl (fun ls hl => ?_)
    refine lv_aload_n hx hb dX2_text_22 rfl (lv_at hl 1 rfl) ?_
    refine lv_iload hx hb dX2_text_23 (lv_at hl 0 rfl) ?_
    refine lv_lload_n hx hb dX2_text_25 rfl (lv_at hl 2 rfl) ?_
    refine lv_iload_n hx hb dX2_text_26 rfl (lv_at hl 3 rfl) ?_
    refine vp_callSi (va_Run.run (va_runV (As := [.int (nI mv.1), .long q, .int t]) (rest := []) ⟨hx, hb, hml, hown, hts⟩ (c_isAt l dC dI cL cI y p1 p2 p3 p4 p5 p6 p7 p8 mv mk f hm mv.1 (Nat.le_refl _) q t (fun g => absurd g (Nat.lt_irrefl _))) (cwV 3 hts gX2_text_X2_isAt rfl rfl rfl (by decide +kernel) ⟨Nat.le_of_ble_eq_true rfl, Nat.le_of_ble_eq_true rfl⟩) (rd_preV hK (hP.sub (ws' := [(y, .inr (2, [.int (nI mv.1), .int (nI mk.1), .ref p1, .ref p2, .ref p3, .ref p4, .ref p5, .ref p6, .ref p7, .ref p8, .long f.1, .int f.2])), (p1, .inl (cL, 151, .inr (.inl mv.2.1))), (p2, .inl (cL, 151, .inr (.inl mv.2.2.2.1))), (p3, .inl (cL, 150, .inr (.inl mk.2.1))), (p4, .inl (cL, 150, .inr (.inl mk.2.2.2.1))), (p5, .inl (cI, 151, .inl mv.2.2.1)), (p6, .inl (cI, 151, .inl mv.2.2.2.2)), (p7, .inl (cI, 150, .inl mk.2.2.1)), (p8, .inl (cI, 150, .inl mk.2.2.2.2))]) [0, 1, 2, 3, 4, 5, 6, 7, 8] rfl) (ci := 2) (q0 := 0) rfl rfl) rfl rfl hl.1 rfl (lv_room (Nat.le_of_ble_eq_true rfl)) dX2_text_27 ⟨Nat.le_of_ble_eq_true rfl, Nat.le_of_ble_eq_true rfl⟩)) (fun r3 hr3 => ?_)
    rcases hr3 with ⟨rfl, hh⟩ | ⟨rfl, hh⟩
    · skip
      exact absurd hh.1 (Nat.lt_irrefl _)
    · skip
      have hbad : ¬ (okK t ∧ mhl mv j (hdOf q t) t) := fun g => hok g.1
      refine lv_if_eq (tgt := 43) hx hb dX2_text_30 (by decide) (fun c_30 => ?_) (fun c_30 => absurd c_30 (by decide))
      refine lv_lconst (v := 0) hx hb dX2_text_43 (by decide) ?_
      exact W.lret (v := 0) hx hb hr (fun t9 ht hW => ⟨0, rfl, Or.inr ⟨hbad, rfl⟩, ht⟩) (fun q h => absurd h List.not_mem_nil) dX2_text_44
set_option maxHeartbeats 4000000 in
set_option maxRecDepth 100000 in
/-- foundSize -/
theorem m_foundSize (l : Launch) (dC : Nat → ClassId) (dI : Nat → Nat → Nat) (cL cI : ClassId) (y p1 p2 p3 p4 p5 p6 p7 p8 : Nat) (mv mk : RS) (f : Int64 × Int32) : Met l yX2_foundSize wsX2_foundSize ({ frames := 0, cells := 0, slots := 0, locals := 0 }) (rdP (dC, dI) (kS cL cI) (mW cL cI y p1 p2 p3 p4 p5 p6 p7 p8 mv mk f) [.ref y]) (vp_Si (fun z => z = f.2)) 0 0 (fun _ => False) := by
  refine Met.ofW (cc := cX2_foundSize) (maxL := 1) (ret := some .int) (by decide) rfl ?_
  intro p e s m args below meth c s₁ B hml hv
  obtain ⟨rfl, hP, hK⟩ := hv
  have hx := B.exec
  have hb := B.bytes
  have hr := B.returns
  have hts := atoms_spec (ws := wsX2_foundSize) B.pre
  have hown : s.vm.findClass RX2 = some m.cls := findClass_of_methodNamed B.named
  have hlocks := B.notSynchronized
  replace hP : va_P (dC, dI) vwCl [(y, .inr (2, [.int (nI mv.1), .int (nI mk.1), .ref p1, .ref p2, .ref p3, .ref p4, .ref p5, .ref p6, .ref p7, .ref p8, .long f.1, .int f.2])), (p1, .inl (cL, 151, .inr (.inl mv.2.1))), (p2, .inl (cL, 151, .inr (.inl mv.2.2.2.1))), (p3, .inl (cL, 150, .inr (.inl mk.2.1))), (p4, .inl (cL, 150, .inr (.inl mk.2.2.2.1))), (p5, .inl (cI, 151, .inl mv.2.2.1)), (p6, .inl (cI, 151, .inl mv.2.2.2.2)), (p7, .inl (cI, 150, .inl mk.2.2.1)), (p8, .inl (cI, 150, .inl mk.2.2.2.2))] s.heap := hP
  have hl := lv_entry ([.ref y]) (n := 1) (Nat.le_of_ble_eq_true rfl)
  rw [lg_entry_eq]
  generalize (lg_sl ([.ref y]) ++ List.replicate (1 - (lg_sl ([.ref y])).length) Slot.unset).toArray = ls at hl ⊢
  replace hl : lv_has ls 1 [(0, .ref y)] := hl
  refine lv_aload_n hx hb dX2_foundSize_0 rfl (lv_at hl 0 rfl) ?_
  refine va_get (D := (dC, dI)) (ci := 2) (v := .int f.2) (C := RX2) (T := TX2) (N := 12) hx hb hts i_X2_foundSize_X2 hown hK hP 0 rfl rfl 11 (by decide) (hts (.fieldLink RX2 69 "BlockTreeModel" "foundSize" "I") (by decide +kernel)) (fun _ h9 => h9) rfl dX2_foundSize_1 ?_
  exact W.iret (v := f.2) hx hb hr (fun t9 ht hW => ⟨f.2, rfl, rfl, ht⟩) (fun q h => absurd h List.not_mem_nil) dX2_foundSize_4
set_option maxHeartbeats 4000000 in
set_option maxRecDepth 100000 in
/-- found -/
theorem m_found (l : Launch) (dC : Nat → ClassId) (dI : Nat → Nat → Nat) (cL cI : ClassId) (y p1 p2 p3 p4 p5 p6 p7 p8 : Nat) (mv mk : RS) (f : Int64 × Int32) : Met l yX2_found wsX2_found ({ frames := 0, cells := 0, slots := 0, locals := 0 }) (rdP (dC, dI) (kS cL cI) (mW cL cI y p1 p2 p3 p4 p5 p6 p7 p8 mv mk f) [.ref y]) (vp_Sl (fun z => z = f.1)) 0 0 (fun _ => False) := by
  refine Met.ofW (cc := cX2_found) (maxL := 1) (ret := some .long) (by decide) rfl ?_
  intro p e s m args below meth c s₁ B hml hv
  obtain ⟨rfl, hP, hK⟩ := hv
  have hx := B.exec
  have hb := B.bytes
  have hr := B.returns
  have hts := atoms_spec (ws := wsX2_found) B.pre
  have hown : s.vm.findClass RX2 = some m.cls := findClass_of_methodNamed B.named
  have hlocks := B.notSynchronized
  replace hP : va_P (dC, dI) vwCl [(y, .inr (2, [.int (nI mv.1), .int (nI mk.1), .ref p1, .ref p2, .ref p3, .ref p4, .ref p5, .ref p6, .ref p7, .ref p8, .long f.1, .int f.2])), (p1, .inl (cL, 151, .inr (.inl mv.2.1))), (p2, .inl (cL, 151, .inr (.inl mv.2.2.2.1))), (p3, .inl (cL, 150, .inr (.inl mk.2.1))), (p4, .inl (cL, 150, .inr (.inl mk.2.2.2.1))), (p5, .inl (cI, 151, .inl mv.2.2.1)), (p6, .inl (cI, 151, .inl mv.2.2.2.2)), (p7, .inl (cI, 150, .inl mk.2.2.1)), (p8, .inl (cI, 150, .inl mk.2.2.2.2))] s.heap := hP
  have hl := lv_entry ([.ref y]) (n := 1) (Nat.le_of_ble_eq_true rfl)
  rw [lg_entry_eq]
  generalize (lg_sl ([.ref y]) ++ List.replicate (1 - (lg_sl ([.ref y])).length) Slot.unset).toArray = ls at hl ⊢
  replace hl : lv_has ls 1 [(0, .ref y)] := hl
  refine lv_aload_n hx hb dX2_found_0 rfl (lv_at hl 0 rfl) ?_
  refine va_get (D := (dC, dI)) (ci := 2) (v := .long f.1) (C := RX2) (T := TX2) (N := 12) hx hb hts i_X2_found_X2 hown hK hP 0 rfl rfl 10 (by decide) (hts (.fieldLink RX2 65 "BlockTreeModel" "found" "J") (by decide +kernel)) (fun _ h9 => h9) rfl dX2_found_1 ?_
  exact W.lret (v := f.1) hx hb hr (fun t9 ht hW => ⟨f.1, rfl, rfl, ht⟩) (fun q h => absurd h List.not_mem_nil) dX2_found_4
set_option maxHeartbeats 4000000 in
set_option maxRecDepth 100000 in
/-- count -/
theorem m_count (l : Launch) (dC : Nat → ClassId) (dI : Nat → Nat → Nat) (cL cI : ClassId) (y p1 p2 p3 p4 p5 p6 p7 p8 : Nat) (mv mk : RS) (f : Int64 × Int32) : Met l yX2_count wsX2_count ({ frames := 0, cells := 0, slots := 0, locals := 0 }) (rdP (dC, dI) (kS cL cI) (mW cL cI y p1 p2 p3 p4 p5 p6 p7 p8 mv mk f) [.ref y]) (vp_Si (fun z => z = nI mv.1)) 0 0 (fun _ => False) := by
  refine Met.ofW (cc := cX2_count) (maxL := 1) (ret := some .int) (by decide) rfl ?_
  intro p e s m args below meth c s₁ B hml hv
  obtain ⟨rfl, hP, hK⟩ := hv
  have hx := B.exec
  have hb := B.bytes
  have hr := B.returns
  have hts := atoms_spec (ws := wsX2_count) B.pre
  have hown : s.vm.findClass RX2 = some m.cls := findClass_of_methodNamed B.named
  have hlocks := B.notSynchronized
  replace hP : va_P (dC, dI) vwCl [(y, .inr (2, [.int (nI mv.1), .int (nI mk.1), .ref p1, .ref p2, .ref p3, .ref p4, .ref p5, .ref p6, .ref p7, .ref p8, .long f.1, .int f.2])), (p1, .inl (cL, 151, .inr (.inl mv.2.1))), (p2, .inl (cL, 151, .inr (.inl mv.2.2.2.1))), (p3, .inl (cL, 150, .inr (.inl mk.2.1))), (p4, .inl (cL, 150, .inr (.inl mk.2.2.2.1))), (p5, .inl (cI, 151, .inl mv.2.2.1)), (p6, .inl (cI, 151, .inl mv.2.2.2.2)), (p7, .inl (cI, 150, .inl mk.2.2.1)), (p8, .inl (cI, 150, .inl mk.2.2.2.2))] s.heap := hP
  have hl := lv_entry ([.ref y]) (n := 1) (Nat.le_of_ble_eq_true rfl)
  rw [lg_entry_eq]
  generalize (lg_sl ([.ref y]) ++ List.replicate (1 - (lg_sl ([.ref y])).length) Slot.unset).toArray = ls at hl ⊢
  replace hl : lv_has ls 1 [(0, .ref y)] := hl
  refine lv_aload_n hx hb dX2_count_0 rfl (lv_at hl 0 rfl) ?_
  refine va_get (D := (dC, dI)) (ci := 2) (v := .int (nI mv.1)) (C := RX2) (T := TX2) (N := 12) hx hb hts i_X2_count_X2 hown hK hP 0 rfl rfl 0 (by decide) (hts (.fieldLink RX2 41 "BlockTreeModel" "many" "I") (by decide +kernel)) (fun _ h9 => h9) rfl dX2_count_1 ?_
  exact W.iret (v := (nI mv.1)) hx hb hr (fun t9 ht hW => ⟨(nI mv.1), rfl, rfl, ht⟩) (fun q h => absurd h List.not_mem_nil) dX2_count_4
