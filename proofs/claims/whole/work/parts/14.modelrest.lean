set_option maxHeartbeats 4000000 in
set_option maxRecDepth 100000 in
/-- remove -/
theorem m_remove (l : Launch) (dC : Nat → ClassId) (dI : Nat → Nat → Nat) (hz : Nat) (cL cI : ClassId) (y p1 p2 p3 p4 p5 p6 p7 p8 : Nat) (mv mk : RS) (f : Int64 × Int32) (hm : mok mv) (q : Int64) (t : Int32) (j : Nat) (hj : okK t → mpl mv (hdOf q t) t j) : Met l yX2_remove wsX2_remove ({ frames := 3, cells := 0, slots := 0, locals := 74 }) (wrP (dC, dI) (kS cL cI) (mW cL cI y p1 p2 p3 p4 p5 p6 p7 p8 mv mk f) [.ref y, .long q, .int t] hz) (va_Qi (fun (z : Int32) (v : RS) => (okK t ∧ mhl mv j (hdOf q t) t ∧ z = 1 ∧ v = rs_clo mv j) ∨ (¬ (okK t ∧ mhl mv j (hdOf q t) t) ∧ z = 0 ∧ v = mv)) (wrB (dC, dI) (va_A (mW cL cI y p1 p2 p3 p4 p5 p6 p7 p8 mv mk f) hz) (fun (v : RS) => mW cL cI y p1 p2 p3 p4 p5 p6 p7 p8 v mk f)) (va_A (mW cL cI y p1 p2 p3 p4 p5 p6 p7 p8 mv mk f) hz)) 0 0 (va_A (mW cL cI y p1 p2 p3 p4 p5 p6 p7 p8 mv mk f) hz) := by
  refine Met.ofW (cc := cX2_remove) (maxL := 6) (ret := some .boolean) (by decide) rfl ?_
  intro p e s m args below meth c s₁ B hml hv
  obtain ⟨rfl, hsz, hP, hK, hD0⟩ := hv
  have hx := B.exec
  have hb := B.bytes
  have hr := B.returns
  have hts := atoms_spec (ws := wsX2_remove) B.pre
  have hown : s.vm.findClass RX2 = some m.cls := findClass_of_methodNamed B.named
  have hlocks := B.notSynchronized
  subst hsz
  have hD := hD0.self (sz := s.heap.size)
  generalize hAe : va_A (mW cL cI y p1 p2 p3 p4 p5 p6 p7 p8 mv mk f) s.heap.size = A at hD ⊢
  have hA : ∀ q : Nat, s.heap.size ≤ q → A q := fun q h => by rw [← hAe]; exact Or.inr h
  have hS : va_S A s.heap s.heap [] := va_S.rf
  replace hP : va_P (dC, dI) vwCl [(y, .inr (2, [.int (nI mv.1), .int (nI mk.1), .ref p1, .ref p2, .ref p3, .ref p4, .ref p5, .ref p6, .ref p7, .ref p8, .long f.1, .int f.2])), (p1, .inl (cL, 151, .inr (.inl mv.2.1))), (p2, .inl (cL, 151, .inr (.inl mv.2.2.2.1))), (p3, .inl (cL, 150, .inr (.inl mk.2.1))), (p4, .inl (cL, 150, .inr (.inl mk.2.2.2.1))), (p5, .inl (cI, 151, .inl mv.2.2.1)), (p6, .inl (cI, 151, .inl mv.2.2.2.2)), (p7, .inl (cI, 150, .inl mk.2.2.1)), (p8, .inl (cI, 150, .inl mk.2.2.2.2))] s.heap := hP
  replace hD : va_D A [(y, .inr (2, [.int (nI mv.1), .int (nI mk.1), .ref p1, .ref p2, .ref p3, .ref p4, .ref p5, .ref p6, .ref p7, .ref p8, .long f.1, .int f.2])), (p1, .inl (cL, 151, .inr (.inl mv.2.1))), (p2, .inl (cL, 151, .inr (.inl mv.2.2.2.1))), (p3, .inl (cL, 150, .inr (.inl mk.2.1))), (p4, .inl (cL, 150, .inr (.inl mk.2.2.2.1))), (p5, .inl (cI, 151, .inl mv.2.2.1)), (p6, .inl (cI, 151, .inl mv.2.2.2.2)), (p7, .inl (cI, 150, .inl mk.2.2.1)), (p8, .inl (cI, 150, .inl mk.2.2.2.2))] := hD
  clear hD0
  refine w_gen _ _ (fun H locs hH hlo => ?_)
  replace hP : va_P (dC, dI) vwCl [(y, .inr (2, [.int (nI mv.1), .int (nI mk.1), .ref p1, .ref p2, .ref p3, .ref p4, .ref p5, .ref p6, .ref p7, .ref p8, .long f.1, .int f.2])), (p1, .inl (cL, 151, .inr (.inl mv.2.1))), (p2, .inl (cL, 151, .inr (.inl mv.2.2.2.1))), (p3, .inl (cL, 150, .inr (.inl mk.2.1))), (p4, .inl (cL, 150, .inr (.inl mk.2.2.2.1))), (p5, .inl (cI, 151, .inl mv.2.2.1)), (p6, .inl (cI, 151, .inl mv.2.2.2.2)), (p7, .inl (cI, 150, .inl mk.2.2.1)), (p8, .inl (cI, 150, .inl mk.2.2.2.2))] H := by rw [hH]; exact hP
  replace hS : va_S A s.heap H locs := by rw [hH, hlo]; exact hS
  clear hH hlo
  have hl := lv_entry ([.ref y, .long q, .int t]) (n := 6) (Nat.le_of_ble_eq_true rfl)
  rw [lg_entry_eq]
  generalize (lg_sl ([.ref y, .long q, .int t]) ++ List.replicate (6 - (lg_sl ([.ref y, .long q, .int t])).length) Slot.unset).toArray = ls at hl ⊢
  replace hl : lv_has ls 6 [(0, .ref y), (1, .long q), (3, .int t)] := hl
  refine lv_iload_n hx hb dX2_remove_0 rfl (lv_at hl 2 rfl) ?_
  refine vp_callSi (va_Run.run (va_runS (As := [.int t]) (rest := []) ⟨hx, hb, hml, hown, hts⟩ (c_isSize l t) (va_cwS 1 hts gX2_remove_X2_isSize rfl rfl rfl (by decide +kernel) ⟨Nat.le_of_ble_eq_true rfl, Nat.le_of_ble_eq_true rfl⟩) (st_pre) rfl rfl hl.1 rfl (lv_room (Nat.le_of_ble_eq_true rfl)) dX2_remove_1 ⟨Nat.le_of_ble_eq_true rfl, Nat.le_of_ble_eq_true rfl⟩)) (fun r1 hr1 => ?_)
  rcases hr1 with ⟨rfl, hok⟩ | ⟨rfl, hok⟩
  · skip
    obtain ⟨nq, nq1, nq8, rfl⟩ := okK_nat hok
    refine lv_if_eq (tgt := 16) hx hb dX2_remove_4 (by decide) (fun c_4 => absurd c_4 (by decide)) (fun c_4 => ?_)
    refine lv_aload_n hx hb dX2_remove_7 rfl (lv_at hl 0 rfl) ?_
    refine lv_lload_n hx hb dX2_remove_8 rfl (lv_at hl 1 rfl) ?_
    refine lv_iload_n hx hb dX2_remove_9 rfl (lv_at hl 2 rfl) ?_
    refine vp_callSi (va_Run.run (va_runV (As := [.long q, .int (nI nq)]) (rest := []) ⟨hx, hb, hml, hown, hts⟩ (c_place l dC dI cL cI y p1 p2 p3 p4 p5 p6 p7 p8 mv mk f hm q nq nq1 nq8 j (hj hok)) (cwV 2 hts gX2_remove_X2_place rfl rfl rfl (by decide +kernel) ⟨Nat.le_of_ble_eq_true rfl, Nat.le_of_ble_eq_true rfl⟩) (rd_preV hK (hP.sub (ws' := [(y, .inr (2, [.int (nI mv.1), .int (nI mk.1), .ref p1, .ref p2, .ref p3, .ref p4, .ref p5, .ref p6, .ref p7, .ref p8, .long f.1, .int f.2])), (p1, .inl (cL, 151, .inr (.inl mv.2.1))), (p2, .inl (cL, 151, .inr (.inl mv.2.2.2.1))), (p3, .inl (cL, 150, .inr (.inl mk.2.1))), (p4, .inl (cL, 150, .inr (.inl mk.2.2.2.1))), (p5, .inl (cI, 151, .inl mv.2.2.1)), (p6, .inl (cI, 151, .inl mv.2.2.2.2)), (p7, .inl (cI, 150, .inl mk.2.2.1)), (p8, .inl (cI, 150, .inl mk.2.2.2.2))]) [0, 1, 2, 3, 4, 5, 6, 7, 8] rfl) (ci := 2) (q0 := 0) rfl rfl) rfl rfl hl.1 rfl (lv_room (Nat.le_of_ble_eq_true rfl)) dX2_remove_10 ⟨Nat.le_of_ble_eq_true rfl, Nat.le_of_ble_eq_true rfl⟩)) (fun r2 hr2 => ?_)
    subst hr2
    refine lv_goto (tgt := 20) hx hb dX2_remove_13 (by decide) ?_
    refine lv_istore (lv' := [(4, .int (nI j)), (0, .ref y), (1, .long q), (3, .int (nI nq))]) hx hb dX2_remove_20 hl (by decide) rfl (fun ls hl => ?_)
    refine lv_aload_n hx hb dX2_remove_22 rfl (lv_at hl 1 rfl) ?_
    refine lv_iload hx hb dX2_remove_23 (lv_at hl 0 rfl) ?_
    refine lv_lload_n hx hb dX2_remove_25 rfl (lv_at hl 2 rfl) ?_
    refine lv_iload_n hx hb dX2_remove_26 rfl (lv_at hl 3 rfl) ?_
    refine vp_callSi (va_Run.run (va_runV (As := [.int (nI j), .long q, .int (nI nq)]) (rest := []) ⟨hx, hb, hml, hown, hts⟩ (c_isAt l dC dI cL cI y p1 p2 p3 p4 p5 p6 p7 p8 mv mk f hm j (hj hok).1 q (nI nq) (fun _ => hok)) (cwV 3 hts gX2_remove_X2_isAt rfl rfl rfl (by decide +kernel) ⟨Nat.le_of_ble_eq_true rfl, Nat.le_of_ble_eq_true rfl⟩) (rd_preV hK (hP.sub (ws' := [(y, .inr (2, [.int (nI mv.1), .int (nI mk.1), .ref p1, .ref p2, .ref p3, .ref p4, .ref p5, .ref p6, .ref p7, .ref p8, .long f.1, .int f.2])), (p1, .inl (cL, 151, .inr (.inl mv.2.1))), (p2, .inl (cL, 151, .inr (.inl mv.2.2.2.1))), (p3, .inl (cL, 150, .inr (.inl mk.2.1))), (p4, .inl (cL, 150, .inr (.inl mk.2.2.2.1))), (p5, .inl (cI, 151, .inl mv.2.2.1)), (p6, .inl (cI, 151, .inl mv.2.2.2.2)), (p7, .inl (cI, 150, .inl mk.2.2.1)), (p8, .inl (cI, 150, .inl mk.2.2.2.2))]) [0, 1, 2, 3, 4, 5, 6, 7, 8] rfl) (ci := 2) (q0 := 0) rfl rfl) rfl rfl hl.1 rfl (lv_room (Nat.le_of_ble_eq_true rfl)) dX2_remove_27 ⟨Nat.le_of_ble_eq_true rfl, Nat.le_of_ble_eq_true rfl⟩)) (fun r3 hr3 => ?_)
    rcases hr3 with ⟨rfl, hh⟩ | ⟨rfl, hh⟩
    · skip
      have hju : j < mv.1 := hh.1
      have hm1 := hm.1
      refine lv_if_ne (tgt := 35) hx hb dX2_remove_30 (by decide) (fun c_30 => ?_) (fun c_30 => absurd c_30 (by decide))
      refine lv_aload_n hx hb dX2_remove_35 rfl (lv_at hl 1 rfl) ?_
      refine lv_dup hx hb dX2_remove_36 rfl ?_
      refine va_get (D := (dC, dI)) (ci := 2) (v := .int (nI mv.1)) (C := RX2) (T := TX2) (N := 12) hx hb hts i_X2_remove_X2 hown hK hP 0 rfl rfl 0 (by decide) (hts (.fieldLink RX2 41 "BlockTreeModel" "many" "I") (by decide +kernel)) (fun _ h9 => h9) rfl dX2_remove_37 ?_
      refine lv_iconst (v := 1) hx hb dX2_remove_40 (by decide) ?_
      refine lv_isub hx hb dX2_remove_41 ?_
      refine lv_topi (fun z_1 ez_1 => ?_)
      obtain rfl : z_1 = nI (mv.1 - 1) := ez_1.trans (nI_s1 (by omega))
      refine va_put (D := (dC, dI)) (ci := 2) (v := .int (nI (mv.1 - 1))) (ty := .int) (C := RX2) (T := TX2) (N := 12) hx hb hts i_X2_remove_X2 tyX2 tyX2_ok nmX2 hown hK hP hD hS 0 rfl rfl 0 (by decide) (hts (.fieldLink RX2 41 "BlockTreeModel" "many" "I") (by decide +kernel)) (fun _ h9 => h9) rfl (by decide +kernel) rfl rfl (Nat.le_of_ble_eq_true rfl) dX2_remove_42 (fun H locs hP hD hS => ?_)
      replace hP : va_P (dC, dI) vwCl [(y, .inr (2, [.int (nI (mv.1 - 1)), .int (nI mk.1), .ref p1, .ref p2, .ref p3, .ref p4, .ref p5, .ref p6, .ref p7, .ref p8, .long f.1, .int f.2])), (p1, .inl (cL, 151, .inr (.inl mv.2.1))), (p2, .inl (cL, 151, .inr (.inl mv.2.2.2.1))), (p3, .inl (cL, 150, .inr (.inl mk.2.1))), (p4, .inl (cL, 150, .inr (.inl mk.2.2.2.1))), (p5, .inl (cI, 151, .inl mv.2.2.1)), (p6, .inl (cI, 151, .inl mv.2.2.2.2)), (p7, .inl (cI, 150, .inl mk.2.2.1)), (p8, .inl (cI, 150, .inl mk.2.2.2.2))] H := hP
      replace hD : va_D A [(y, .inr (2, [.int (nI (mv.1 - 1)), .int (nI mk.1), .ref p1, .ref p2, .ref p3, .ref p4, .ref p5, .ref p6, .ref p7, .ref p8, .long f.1, .int f.2])), (p1, .inl (cL, 151, .inr (.inl mv.2.1))), (p2, .inl (cL, 151, .inr (.inl mv.2.2.2.1))), (p3, .inl (cL, 150, .inr (.inl mk.2.1))), (p4, .inl (cL, 150, .inr (.inl mk.2.2.2.1))), (p5, .inl (cI, 151, .inl mv.2.2.1)), (p6, .inl (cI, 151, .inl mv.2.2.2.2)), (p7, .inl (cI, 150, .inl mk.2.2.1)), (p8, .inl (cI, 150, .inl mk.2.2.2.2))] := hD
      refine lv_iload hx hb dX2_remove_45 (lv_at hl 0 rfl) ?_
      refine lv_istore (lv' := [(5, .int (nI j)), (4, .int (nI j)), (0, .ref y), (1, .long q), (3, .int (nI nq))]) hx hb dX2_remove_47 hl (by decide) rfl (fun ls hl => ?_)
      obtain ⟨w, hw⟩ : ∃ w : Nat, w = j := ⟨_, rfl⟩
      obtain ⟨g, hg⟩ : ∃ g : Nat, w + g = mv.1 - 1 := ⟨mv.1 - 1 - j, by omega⟩
      have hwj : j ≤ w := by omega
      replace hl : lv_has ls 6 [(0, .ref y), (1, .long q), (3, .int (nI nq)), (4, .int (nI j)), (5, .int (nI w))] := by rw [hw]; exact lv_sub hl [2, 3, 4, 1, 0] rfl
      replace hP : va_P (dC, dI) vwCl [(y, .inr (2, [.int (nI (mv.1 - 1)), .int (nI mk.1), .ref p1, .ref p2, .ref p3, .ref p4, .ref p5, .ref p6, .ref p7, .ref p8, .long f.1, .int f.2])), (p1, .inl (cL, 151, .inr (.inl (clq mv.2.1 j w)))), (p2, .inl (cL, 151, .inr (.inl (clq mv.2.2.2.1 j w)))), (p3, .inl (cL, 150, .inr (.inl mk.2.1))), (p4, .inl (cL, 150, .inr (.inl mk.2.2.2.1))), (p5, .inl (cI, 151, .inl (clq mv.2.2.1 j w))), (p6, .inl (cI, 151, .inl (clq mv.2.2.2.2 j w))), (p7, .inl (cI, 150, .inl mk.2.2.1)), (p8, .inl (cI, 150, .inl mk.2.2.2.2))] H := by rw [hw, clq_0, clq_0, clq_0, clq_0]; exact hP
      replace hD : va_D A [(y, .inr (2, [.int (nI (mv.1 - 1)), .int (nI mk.1), .ref p1, .ref p2, .ref p3, .ref p4, .ref p5, .ref p6, .ref p7, .ref p8, .long f.1, .int f.2])), (p1, .inl (cL, 151, .inr (.inl (clq mv.2.1 j w)))), (p2, .inl (cL, 151, .inr (.inl (clq mv.2.2.2.1 j w)))), (p3, .inl (cL, 150, .inr (.inl mk.2.1))), (p4, .inl (cL, 150, .inr (.inl mk.2.2.2.1))), (p5, .inl (cI, 151, .inl (clq mv.2.2.1 j w))), (p6, .inl (cI, 151, .inl (clq mv.2.2.2.2 j w))), (p7, .inl (cI, 150, .inl mk.2.2.1)), (p8, .inl (cI, 150, .inl mk.2.2.2.2))] := by rw [hw, clq_0, clq_0, clq_0, clq_0]; exact hD
      clear hw
      induction g generalizing w ls H locs with
      | zero =>
        refine lv_iload hx hb dX2_remove_49 (lv_at hl 4 rfl) ?_
        refine lv_aload_n hx hb dX2_remove_51 rfl (lv_at hl 0 rfl) ?_
        refine va_get (D := (dC, dI)) (ci := 2) (v := .int (nI (mv.1 - 1))) (C := RX2) (T := TX2) (N := 12) hx hb hts i_X2_remove_X2 hown hK hP 0 rfl rfl 0 (by decide) (hts (.fieldLink RX2 41 "BlockTreeModel" "many" "I") (by decide +kernel)) (fun _ h9 => h9) rfl dX2_remove_52 ?_
        refine lv_icmp_ge (tgt := 128) hx hb dX2_remove_55 (by decide) (fun c_55 => ?_) (fun c_55 => absurd (nI_le (show mv.1 - 1 ≤ w by omega) (by omega)) c_55)
        refine lv_iconst (v := 1) hx hb dX2_remove_128 (by decide) ?_
        obtain rfl : w = mv.1 - 1 := hg
        rw [clq_end, clq_end, clq_end, clq_end] at hP hD
        exact W.zret (v := 1) hx hb hr rfl (fun t9 ht hW => ⟨⟨1, rs_clo mv j, rfl, Or.inl ⟨hok, hh, rfl, rfl⟩, by rw [ht]; exact hP, hD⟩, hS.F ht⟩) hS.2.2 dX2_remove_129
      | succ g ih =>
        refine lv_iload hx hb dX2_remove_49 (lv_at hl 4 rfl) ?_
        refine lv_aload_n hx hb dX2_remove_51 rfl (lv_at hl 0 rfl) ?_
        refine va_get (D := (dC, dI)) (ci := 2) (v := .int (nI (mv.1 - 1))) (C := RX2) (T := TX2) (N := 12) hx hb hts i_X2_remove_X2 hown hK hP 0 rfl rfl 0 (by decide) (hts (.fieldLink RX2 41 "BlockTreeModel" "many" "I") (by decide +kernel)) (fun _ h9 => h9) rfl dX2_remove_52 ?_
        refine lv_icmp_ge (tgt := 128) hx hb dX2_remove_55 (by decide) (fun c_55 => absurd c_55 (nI_ge (by omega) (by omega))) (fun c_55 => ?_)
        refine lv_aload_n hx hb dX2_remove_58 rfl (lv_at hl 0 rfl) ?_
        refine va_get (D := (dC, dI)) (ci := 2) (v := .ref p1) (C := RX2) (T := TX2) (N := 12) hx hb hts i_X2_remove_X2 hown hK hP 0 rfl rfl 2 (by decide) (hts (.fieldLink RX2 7 "BlockTreeModel" "key" "[J") (by decide +kernel)) (fun _ h9 => h9) rfl dX2_remove_59 ?_
        refine lv_iload hx hb dX2_remove_62 (lv_at hl 4 rfl) ?_
        refine lv_aload_n hx hb dX2_remove_64 rfl (lv_at hl 0 rfl) ?_
        refine va_get (D := (dC, dI)) (ci := 2) (v := .ref p1) (C := RX2) (T := TX2) (N := 12) hx hb hts i_X2_remove_X2 hown hK hP 0 rfl rfl 2 (by decide) (hts (.fieldLink RX2 7 "BlockTreeModel" "key" "[J") (by decide +kernel)) (fun _ h9 => h9) rfl dX2_remove_65 ?_
        refine lv_iload hx hb dX2_remove_68 (lv_at hl 4 rfl) ?_
        refine lv_iconst (v := 1) hx hb dX2_remove_70 (by decide) ?_
        refine lv_iadd hx hb dX2_remove_71 ?_
        refine lv_topi (fun z_1 ez_1 => ?_)
        obtain rfl : z_1 = nI (w + 1) := ez_1.trans (nI_1 w)
        refine va_lald hx hb hK hP 1 0 rfl rfl (vp_in_nI (by omega) (by omega)) dX2_remove_72 ?_
        refine lv_topl (fun z_2 ez_2 => ?_)
        rw [show (nI (w + 1)).toNatClampNeg = (w + 1) from (nI_clamp (by omega))] at ez_2
        subst ez_2
        refine va_last hx hb hK hP hD hS 1 0 rfl rfl (vp_in_nI (by omega) (by omega)) dX2_remove_73 (fun H locs hP hD hS => ?_)
        rw [show ((nI w)).toNatClampNeg = w from (nI_clamp (by omega))] at hP hD
        replace hP : va_P (dC, dI) vwCl [(y, .inr (2, [.int (nI (mv.1 - 1)), .int (nI mk.1), .ref p1, .ref p2, .ref p3, .ref p4, .ref p5, .ref p6, .ref p7, .ref p8, .long f.1, .int f.2])), (p1, .inl (cL, 151, .inr (.inl (vp_updL (clq mv.2.1 j w) w ((clq mv.2.1 j w) (w + 1)))))), (p2, .inl (cL, 151, .inr (.inl (clq mv.2.2.2.1 j w)))), (p3, .inl (cL, 150, .inr (.inl mk.2.1))), (p4, .inl (cL, 150, .inr (.inl mk.2.2.2.1))), (p5, .inl (cI, 151, .inl (clq mv.2.2.1 j w))), (p6, .inl (cI, 151, .inl (clq mv.2.2.2.2 j w))), (p7, .inl (cI, 150, .inl mk.2.2.1)), (p8, .inl (cI, 150, .inl mk.2.2.2.2))] H := hP
        replace hD : va_D A [(y, .inr (2, [.int (nI (mv.1 - 1)), .int (nI mk.1), .ref p1, .ref p2, .ref p3, .ref p4, .ref p5, .ref p6, .ref p7, .ref p8, .long f.1, .int f.2])), (p1, .inl (cL, 151, .inr (.inl (vp_updL (clq mv.2.1 j w) w ((clq mv.2.1 j w) (w + 1)))))), (p2, .inl (cL, 151, .inr (.inl (clq mv.2.2.2.1 j w)))), (p3, .inl (cL, 150, .inr (.inl mk.2.1))), (p4, .inl (cL, 150, .inr (.inl mk.2.2.2.1))), (p5, .inl (cI, 151, .inl (clq mv.2.2.1 j w))), (p6, .inl (cI, 151, .inl (clq mv.2.2.2.2 j w))), (p7, .inl (cI, 150, .inl mk.2.2.1)), (p8, .inl (cI, 150, .inl mk.2.2.2.2))] := hD
        refine lv_aload_n hx hb dX2_remove_74 rfl (lv_at hl 0 rfl) ?_
        refine va_get (D := (dC, dI)) (ci := 2) (v := .ref p5) (C := RX2) (T := TX2) (N := 12) hx hb hts i_X2_remove_X2 hown hK hP 0 rfl rfl 6 (by decide) (hts (.fieldLink RX2 22 "BlockTreeModel" "size" "[I") (by decide +kernel)) (fun _ h9 => h9) rfl dX2_remove_75 ?_
        refine lv_iload hx hb dX2_remove_78 (lv_at hl 4 rfl) ?_
        refine lv_aload_n hx hb dX2_remove_80 rfl (lv_at hl 0 rfl) ?_
        refine va_get (D := (dC, dI)) (ci := 2) (v := .ref p5) (C := RX2) (T := TX2) (N := 12) hx hb hts i_X2_remove_X2 hown hK hP 0 rfl rfl 6 (by decide) (hts (.fieldLink RX2 22 "BlockTreeModel" "size" "[I") (by decide +kernel)) (fun _ h9 => h9) rfl dX2_remove_81 ?_
        refine lv_iload hx hb dX2_remove_84 (lv_at hl 4 rfl) ?_
        refine lv_iconst (v := 1) hx hb dX2_remove_86 (by decide) ?_
        refine lv_iadd hx hb dX2_remove_87 ?_
        refine lv_topi (fun z_3 ez_3 => ?_)
        obtain rfl : z_3 = nI (w + 1) := ez_3.trans (nI_1 w)
        refine va_iald hx hb hK hP 5 1 rfl rfl (vp_in_nI (by omega) (by omega)) dX2_remove_88 ?_
        refine lv_topi (fun z_4 ez_4 => ?_)
        rw [show (nI (w + 1)).toNatClampNeg = (w + 1) from (nI_clamp (by omega))] at ez_4
        subst ez_4
        refine va_iast hx hb hK hP hD hS 5 1 rfl rfl (vp_in_nI (by omega) (by omega)) dX2_remove_89 (fun H locs hP hD hS => ?_)
        rw [show ((nI w)).toNatClampNeg = w from (nI_clamp (by omega))] at hP hD
        replace hP : va_P (dC, dI) vwCl [(y, .inr (2, [.int (nI (mv.1 - 1)), .int (nI mk.1), .ref p1, .ref p2, .ref p3, .ref p4, .ref p5, .ref p6, .ref p7, .ref p8, .long f.1, .int f.2])), (p1, .inl (cL, 151, .inr (.inl (vp_updL (clq mv.2.1 j w) w ((clq mv.2.1 j w) (w + 1)))))), (p2, .inl (cL, 151, .inr (.inl (clq mv.2.2.2.1 j w)))), (p3, .inl (cL, 150, .inr (.inl mk.2.1))), (p4, .inl (cL, 150, .inr (.inl mk.2.2.2.1))), (p5, .inl (cI, 151, .inl (upd (clq mv.2.2.1 j w) w ((clq mv.2.2.1 j w) (w + 1))))), (p6, .inl (cI, 151, .inl (clq mv.2.2.2.2 j w))), (p7, .inl (cI, 150, .inl mk.2.2.1)), (p8, .inl (cI, 150, .inl mk.2.2.2.2))] H := hP
        replace hD : va_D A [(y, .inr (2, [.int (nI (mv.1 - 1)), .int (nI mk.1), .ref p1, .ref p2, .ref p3, .ref p4, .ref p5, .ref p6, .ref p7, .ref p8, .long f.1, .int f.2])), (p1, .inl (cL, 151, .inr (.inl (vp_updL (clq mv.2.1 j w) w ((clq mv.2.1 j w) (w + 1)))))), (p2, .inl (cL, 151, .inr (.inl (clq mv.2.2.2.1 j w)))), (p3, .inl (cL, 150, .inr (.inl mk.2.1))), (p4, .inl (cL, 150, .inr (.inl mk.2.2.2.1))), (p5, .inl (cI, 151, .inl (upd (clq mv.2.2.1 j w) w ((clq mv.2.2.1 j w) (w + 1))))), (p6, .inl (cI, 151, .inl (clq mv.2.2.2.2 j w))), (p7, .inl (cI, 150, .inl mk.2.2.1)), (p8, .inl (cI, 150, .inl mk.2.2.2.2))] := hD
        refine lv_aload_n hx hb dX2_remove_90 rfl (lv_at hl 0 rfl) ?_
        refine va_get (D := (dC, dI)) (ci := 2) (v := .ref p2) (C := RX2) (T := TX2) (N := 12) hx hb hts i_X2_remove_X2 hown hK hP 0 rfl rfl 3 (by decide) (hts (.fieldLink RX2 13 "BlockTreeModel" "text" "[J") (by decide +kernel)) (fun _ h9 => h9) rfl dX2_remove_91 ?_
        refine lv_iload hx hb dX2_remove_94 (lv_at hl 4 rfl) ?_
        refine lv_aload_n hx hb dX2_remove_96 rfl (lv_at hl 0 rfl) ?_
        refine va_get (D := (dC, dI)) (ci := 2) (v := .ref p2) (C := RX2) (T := TX2) (N := 12) hx hb hts i_X2_remove_X2 hown hK hP 0 rfl rfl 3 (by decide) (hts (.fieldLink RX2 13 "BlockTreeModel" "text" "[J") (by decide +kernel)) (fun _ h9 => h9) rfl dX2_remove_97 ?_
        refine lv_iload hx hb dX2_remove_100 (lv_at hl 4 rfl) ?_
        refine lv_iconst (v := 1) hx hb dX2_remove_102 (by decide) ?_
        refine lv_iadd hx hb dX2_remove_103 ?_
        refine lv_topi (fun z_5 ez_5 => ?_)
        obtain rfl : z_5 = nI (w + 1) := ez_5.trans (nI_1 w)
        refine va_lald hx hb hK hP 2 0 rfl rfl (vp_in_nI (by omega) (by omega)) dX2_remove_104 ?_
        refine lv_topl (fun z_6 ez_6 => ?_)
        rw [show (nI (w + 1)).toNatClampNeg = (w + 1) from (nI_clamp (by omega))] at ez_6
        subst ez_6
        refine va_last hx hb hK hP hD hS 2 0 rfl rfl (vp_in_nI (by omega) (by omega)) dX2_remove_105 (fun H locs hP hD hS => ?_)
        rw [show ((nI w)).toNatClampNeg = w from (nI_clamp (by omega))] at hP hD
        replace hP : va_P (dC, dI) vwCl [(y, .inr (2, [.int (nI (mv.1 - 1)), .int (nI mk.1), .ref p1, .ref p2, .ref p3, .ref p4, .ref p5, .ref p6, .ref p7, .ref p8, .long f.1, .int f.2])), (p1, .inl (cL, 151, .inr (.inl (vp_updL (clq mv.2.1 j w) w ((clq mv.2.1 j w) (w + 1)))))), (p2, .inl (cL, 151, .inr (.inl (vp_updL (clq mv.2.2.2.1 j w) w ((clq mv.2.2.2.1 j w) (w + 1)))))), (p3, .inl (cL, 150, .inr (.inl mk.2.1))), (p4, .inl (cL, 150, .inr (.inl mk.2.2.2.1))), (p5, .inl (cI, 151, .inl (upd (clq mv.2.2.1 j w) w ((clq mv.2.2.1 j w) (w + 1))))), (p6, .inl (cI, 151, .inl (clq mv.2.2.2.2 j w))), (p7, .inl (cI, 150, .inl mk.2.2.1)), (p8, .inl (cI, 150, .inl mk.2.2.2.2))] H := hP
        replace hD : va_D A [(y, .inr (2, [.int (nI (mv.1 - 1)), .int (nI mk.1), .ref p1, .ref p2, .ref p3, .ref p4, .ref p5, .ref p6, .ref p7, .ref p8, .long f.1, .int f.2])), (p1, .inl (cL, 151, .inr (.inl (vp_updL (clq mv.2.1 j w) w ((clq mv.2.1 j w) (w + 1)))))), (p2, .inl (cL, 151, .inr (.inl (vp_updL (clq mv.2.2.2.1 j w) w ((clq mv.2.2.2.1 j w) (w + 1)))))), (p3, .inl (cL, 150, .inr (.inl mk.2.1))), (p4, .inl (cL, 150, .inr (.inl mk.2.2.2.1))), (p5, .inl (cI, 151, .inl (upd (clq mv.2.2.1 j w) w ((clq mv.2.2.1 j w) (w + 1))))), (p6, .inl (cI, 151, .inl (clq mv.2.2.2.2 j w))), (p7, .inl (cI, 150, .inl mk.2.2.1)), (p8, .inl (cI, 150, .inl mk.2.2.2.2))] := hD
        refine lv_aload_n hx hb dX2_remove_106 rfl (lv_at hl 0 rfl) ?_
        refine va_get (D := (dC, dI)) (ci := 2) (v := .ref p6) (C := RX2) (T := TX2) (N := 12) hx hb hts i_X2_remove_X2 hown hK hP 0 rfl rfl 7 (by decide) (hts (.fieldLink RX2 26 "BlockTreeModel" "length" "[I") (by decide +kernel)) (fun _ h9 => h9) rfl dX2_remove_107 ?_
        refine lv_iload hx hb dX2_remove_110 (lv_at hl 4 rfl) ?_
        refine lv_aload_n hx hb dX2_remove_112 rfl (lv_at hl 0 rfl) ?_
        refine va_get (D := (dC, dI)) (ci := 2) (v := .ref p6) (C := RX2) (T := TX2) (N := 12) hx hb hts i_X2_remove_X2 hown hK hP 0 rfl rfl 7 (by decide) (hts (.fieldLink RX2 26 "BlockTreeModel" "length" "[I") (by decide +kernel)) (fun _ h9 => h9) rfl dX2_remove_113 ?_
        refine lv_iload hx hb dX2_remove_116 (lv_at hl 4 rfl) ?_
        refine lv_iconst (v := 1) hx hb dX2_remove_118 (by decide) ?_
        refine lv_iadd hx hb dX2_remove_119 ?_
        refine lv_topi (fun z_7 ez_7 => ?_)
        obtain rfl : z_7 = nI (w + 1) := ez_7.trans (nI_1 w)
        refine va_iald hx hb hK hP 6 1 rfl rfl (vp_in_nI (by omega) (by omega)) dX2_remove_120 ?_
        refine lv_topi (fun z_8 ez_8 => ?_)
        rw [show (nI (w + 1)).toNatClampNeg = (w + 1) from (nI_clamp (by omega))] at ez_8
        subst ez_8
        refine va_iast hx hb hK hP hD hS 6 1 rfl rfl (vp_in_nI (by omega) (by omega)) dX2_remove_121 (fun H locs hP hD hS => ?_)
        rw [show ((nI w)).toNatClampNeg = w from (nI_clamp (by omega))] at hP hD
        replace hP : va_P (dC, dI) vwCl [(y, .inr (2, [.int (nI (mv.1 - 1)), .int (nI mk.1), .ref p1, .ref p2, .ref p3, .ref p4, .ref p5, .ref p6, .ref p7, .ref p8, .long f.1, .int f.2])), (p1, .inl (cL, 151, .inr (.inl (vp_updL (clq mv.2.1 j w) w ((clq mv.2.1 j w) (w + 1)))))), (p2, .inl (cL, 151, .inr (.inl (vp_updL (clq mv.2.2.2.1 j w) w ((clq mv.2.2.2.1 j w) (w + 1)))))), (p3, .inl (cL, 150, .inr (.inl mk.2.1))), (p4, .inl (cL, 150, .inr (.inl mk.2.2.2.1))), (p5, .inl (cI, 151, .inl (upd (clq mv.2.2.1 j w) w ((clq mv.2.2.1 j w) (w + 1))))), (p6, .inl (cI, 151, .inl (upd (clq mv.2.2.2.2 j w) w ((clq mv.2.2.2.2 j w) (w + 1))))), (p7, .inl (cI, 150, .inl mk.2.2.1)), (p8, .inl (cI, 150, .inl mk.2.2.2.2))] H := hP
        replace hD : va_D A [(y, .inr (2, [.int (nI (mv.1 - 1)), .int (nI mk.1), .ref p1, .ref p2, .ref p3, .ref p4, .ref p5, .ref p6, .ref p7, .ref p8, .long f.1, .int f.2])), (p1, .inl (cL, 151, .inr (.inl (vp_updL (clq mv.2.1 j w) w ((clq mv.2.1 j w) (w + 1)))))), (p2, .inl (cL, 151, .inr (.inl (vp_updL (clq mv.2.2.2.1 j w) w ((clq mv.2.2.2.1 j w) (w + 1)))))), (p3, .inl (cL, 150, .inr (.inl mk.2.1))), (p4, .inl (cL, 150, .inr (.inl mk.2.2.2.1))), (p5, .inl (cI, 151, .inl (upd (clq mv.2.2.1 j w) w ((clq mv.2.2.1 j w) (w + 1))))), (p6, .inl (cI, 151, .inl (upd (clq mv.2.2.2.2 j w) w ((clq mv.2.2.2.2 j w) (w + 1))))), (p7, .inl (cI, 150, .inl mk.2.2.1)), (p8, .inl (cI, 150, .inl mk.2.2.2.2))] := hD
        refine lv_iinc (v := nI (w + 1)) (lv' := [(5, .int (nI (w + 1))), (0, .ref y), (1, .long q), (3, .int (nI nq)), (4, .int (nI j))]) hx hb dX2_remove_122 hl (k := 4) rfl (nI_1 w) (by decide) rfl (fun ls hl => ?_)
        refine lv_goto (tgt := 49) hx hb dX2_remove_125 (by decide) ?_
        replace hP : va_P (dC, dI) vwCl [(y, .inr (2, [.int (nI (mv.1 - 1)), .int (nI mk.1), .ref p1, .ref p2, .ref p3, .ref p4, .ref p5, .ref p6, .ref p7, .ref p8, .long f.1, .int f.2])), (p1, .inl (cL, 151, .inr (.inl (clq mv.2.1 j (w + 1))))), (p2, .inl (cL, 151, .inr (.inl (clq mv.2.2.2.1 j (w + 1))))), (p3, .inl (cL, 150, .inr (.inl mk.2.1))), (p4, .inl (cL, 150, .inr (.inl mk.2.2.2.1))), (p5, .inl (cI, 151, .inl (clq mv.2.2.1 j (w + 1)))), (p6, .inl (cI, 151, .inl (clq mv.2.2.2.2 j (w + 1)))), (p7, .inl (cI, 150, .inl mk.2.2.1)), (p8, .inl (cI, 150, .inl mk.2.2.2.2))] H := by rw [← clq_stepL (f := mv.2.1) (q := w) (by omega), ← clq_stepI (f := mv.2.2.1) (q := w) (by omega), ← clq_stepL (f := mv.2.2.2.1) (q := w) (by omega), ← clq_stepI (f := mv.2.2.2.2) (q := w) (by omega)]; exact hP
        replace hD : va_D A [(y, .inr (2, [.int (nI (mv.1 - 1)), .int (nI mk.1), .ref p1, .ref p2, .ref p3, .ref p4, .ref p5, .ref p6, .ref p7, .ref p8, .long f.1, .int f.2])), (p1, .inl (cL, 151, .inr (.inl (clq mv.2.1 j (w + 1))))), (p2, .inl (cL, 151, .inr (.inl (clq mv.2.2.2.1 j (w + 1))))), (p3, .inl (cL, 150, .inr (.inl mk.2.1))), (p4, .inl (cL, 150, .inr (.inl mk.2.2.2.1))), (p5, .inl (cI, 151, .inl (clq mv.2.2.1 j (w + 1)))), (p6, .inl (cI, 151, .inl (clq mv.2.2.2.2 j (w + 1)))), (p7, .inl (cI, 150, .inl mk.2.2.1)), (p8, .inl (cI, 150, .inl mk.2.2.2.2))] := by rw [← clq_stepL (f := mv.2.1) (q := w) (by omega), ← clq_stepI (f := mv.2.2.1) (q := w) (by omega), ← clq_stepL (f := mv.2.2.2.1) (q := w) (by omega), ← clq_stepI (f := mv.2.2.2.2) (q := w) (by omega)]; exact hD
        apply ih (w := w + 1) (ls := ls) (H := H) (locs := locs)
        all_goals first | omega | exact lv_sub hl [1, 2, 3, 4, 0] rfl | exact hP | exact hD | exact hS
    · skip
      have hbad : ¬ (okK (nI nq) ∧ mhl mv j (hdOf q (nI nq)) (nI nq)) := fun g => hh g.2
      refine lv_if_ne (tgt := 35) hx hb dX2_remove_30 (by decide) (fun c_30 => absurd c_30 (by decide)) (fun c_30 => ?_)
      refine lv_iconst (v := 0) hx hb dX2_remove_33 (by decide) ?_
      exact W.zret (v := 0) hx hb hr rfl (fun t9 ht hW => ⟨⟨0, mv, rfl, Or.inr ⟨hbad, rfl, rfl⟩, by rw [ht]; exact hP, hD⟩, hS.F ht⟩) hS.2.2 dX2_remove_34
  · skip
    refine lv_if_eq (tgt := 16) hx hb dX2_remove_4 (by decide) (fun c_4 => ?_) (fun c_4 => absurd c_4 (by decide))
    refine lv_aload_n hx hb dX2_remove_16 rfl (lv_at hl 0 rfl) ?_
    refine va_get (D := (dC, dI)) (ci := 2) (v := .int (nI mv.1)) (C := RX2) (T := TX2) (N := 12) hx hb hts i_X2_remove_X2 hown hK hP 0 rfl rfl 0 (by decide) (hts (.fieldLink RX2 41 "BlockTreeModel" "many" "I") (by decide +kernel)) (fun _ h9 => h9) rfl dX2_remove_17 ?_
    refine lv_istore (lv' := [(4, .int (nI mv.1)), (0, .ref y), (1, .long q), (3, .int t)]) hx hb dX2_remove_20 hl (by decide) rfl (fun ls hl => ?_)
    refine lv_aload_n hx hb dX2_remove_22 rfl (lv_at hl 1 rfl) ?_
    refine lv_iload hx hb dX2_remove_23 (lv_at hl 0 rfl) ?_
    refine lv_lload_n hx hb dX2_remove_25 rfl (lv_at hl 2 rfl) ?_
    refine lv_iload_n hx hb dX2_remove_26 rfl (lv_at hl 3 rfl) ?_
    refine vp_callSi (va_Run.run (va_runV (As := [.int (nI mv.1), .long q, .int t]) (rest := []) ⟨hx, hb, hml, hown, hts⟩ (c_isAt l dC dI cL cI y p1 p2 p3 p4 p5 p6 p7 p8 mv mk f hm mv.1 (Nat.le_refl _) q t (fun g => absurd g (Nat.lt_irrefl _))) (cwV 3 hts gX2_remove_X2_isAt rfl rfl rfl (by decide +kernel) ⟨Nat.le_of_ble_eq_true rfl, Nat.le_of_ble_eq_true rfl⟩) (rd_preV hK (hP.sub (ws' := [(y, .inr (2, [.int (nI mv.1), .int (nI mk.1), .ref p1, .ref p2, .ref p3, .ref p4, .ref p5, .ref p6, .ref p7, .ref p8, .long f.1, .int f.2])), (p1, .inl (cL, 151, .inr (.inl mv.2.1))), (p2, .inl (cL, 151, .inr (.inl mv.2.2.2.1))), (p3, .inl (cL, 150, .inr (.inl mk.2.1))), (p4, .inl (cL, 150, .inr (.inl mk.2.2.2.1))), (p5, .inl (cI, 151, .inl mv.2.2.1)), (p6, .inl (cI, 151, .inl mv.2.2.2.2)), (p7, .inl (cI, 150, .inl mk.2.2.1)), (p8, .inl (cI, 150, .inl mk.2.2.2.2))]) [0, 1, 2, 3, 4, 5, 6, 7, 8] rfl) (ci := 2) (q0 := 0) rfl rfl) rfl rfl hl.1 rfl (lv_room (Nat.le_of_ble_eq_true rfl)) dX2_remove_27 ⟨Nat.le_of_ble_eq_true rfl, Nat.le_of_ble_eq_true rfl⟩)) (fun r3 hr3 => ?_)
    rcases hr3 with ⟨rfl, hh⟩ | ⟨rfl, hh⟩
    · skip
      exact absurd hh.1 (Nat.lt_irrefl _)
    · skip
      have hbad : ¬ (okK t ∧ mhl mv j (hdOf q t) t) := fun g => hok g.1
      refine lv_if_ne (tgt := 35) hx hb dX2_remove_30 (by decide) (fun c_30 => absurd c_30 (by decide)) (fun c_30 => ?_)
      refine lv_iconst (v := 0) hx hb dX2_remove_33 (by decide) ?_
      exact W.zret (v := 0) hx hb hr rfl (fun t9 ht hW => ⟨⟨0, mv, rfl, Or.inr ⟨hbad, rfl, rfl⟩, by rw [ht]; exact hP, hD⟩, hS.F ht⟩) hS.2.2 dX2_remove_34
set_option maxHeartbeats 4000000 in
set_option maxRecDepth 100000 in
/-- commit -/
theorem m_commit (l : Launch) (dC : Nat → ClassId) (dI : Nat → Nat → Nat) (hz : Nat) (cL cI : ClassId) (y p1 p2 p3 p4 p5 p6 p7 p8 : Nat) (mv mk : RS) (f : Int64 × Int32) (hm1 : mv.1 ≤ 150) : Met l yX2_commit wsX2_commit ({ frames := 0, cells := 0, slots := 0, locals := 0 }) (wrP (dC, dI) (kS cL cI) (mW cL cI y p1 p2 p3 p4 p5 p6 p7 p8 mv mk f) [.ref y] hz) (va_Qv (fun (v : RS) => v = rs_cpy mv mk) (wrB (dC, dI) (va_A (mW cL cI y p1 p2 p3 p4 p5 p6 p7 p8 mv mk f) hz) (fun (v : RS) => mW cL cI y p1 p2 p3 p4 p5 p6 p7 p8 mv v f)) (va_A (mW cL cI y p1 p2 p3 p4 p5 p6 p7 p8 mv mk f) hz)) 0 0 (va_A (mW cL cI y p1 p2 p3 p4 p5 p6 p7 p8 mv mk f) hz) := by
  refine Met.ofW (cc := cX2_commit) (maxL := 2) (ret := none) (by decide) rfl ?_
  intro p e s m args below meth c s₁ B hml hv
  obtain ⟨rfl, hsz, hP, hK, hD0⟩ := hv
  have hx := B.exec
  have hb := B.bytes
  have hr := B.returns
  have hts := atoms_spec (ws := wsX2_commit) B.pre
  have hown : s.vm.findClass RX2 = some m.cls := findClass_of_methodNamed B.named
  have hlocks := B.notSynchronized
  subst hsz
  have hD := hD0.self (sz := s.heap.size)
  generalize hAe : va_A (mW cL cI y p1 p2 p3 p4 p5 p6 p7 p8 mv mk f) s.heap.size = A at hD ⊢
  have hA : ∀ q : Nat, s.heap.size ≤ q → A q := fun q h => by rw [← hAe]; exact Or.inr h
  have hS : va_S A s.heap s.heap [] := va_S.rf
  replace hP : va_P (dC, dI) vwCl [(y, .inr (2, [.int (nI mv.1), .int (nI mk.1), .ref p1, .ref p2, .ref p3, .ref p4, .ref p5, .ref p6, .ref p7, .ref p8, .long f.1, .int f.2])), (p1, .inl (cL, 151, .inr (.inl mv.2.1))), (p2, .inl (cL, 151, .inr (.inl mv.2.2.2.1))), (p3, .inl (cL, 150, .inr (.inl mk.2.1))), (p4, .inl (cL, 150, .inr (.inl mk.2.2.2.1))), (p5, .inl (cI, 151, .inl mv.2.2.1)), (p6, .inl (cI, 151, .inl mv.2.2.2.2)), (p7, .inl (cI, 150, .inl mk.2.2.1)), (p8, .inl (cI, 150, .inl mk.2.2.2.2))] s.heap := hP
  replace hD : va_D A [(y, .inr (2, [.int (nI mv.1), .int (nI mk.1), .ref p1, .ref p2, .ref p3, .ref p4, .ref p5, .ref p6, .ref p7, .ref p8, .long f.1, .int f.2])), (p1, .inl (cL, 151, .inr (.inl mv.2.1))), (p2, .inl (cL, 151, .inr (.inl mv.2.2.2.1))), (p3, .inl (cL, 150, .inr (.inl mk.2.1))), (p4, .inl (cL, 150, .inr (.inl mk.2.2.2.1))), (p5, .inl (cI, 151, .inl mv.2.2.1)), (p6, .inl (cI, 151, .inl mv.2.2.2.2)), (p7, .inl (cI, 150, .inl mk.2.2.1)), (p8, .inl (cI, 150, .inl mk.2.2.2.2))] := hD
  clear hD0
  refine w_gen _ _ (fun H locs hH hlo => ?_)
  replace hP : va_P (dC, dI) vwCl [(y, .inr (2, [.int (nI mv.1), .int (nI mk.1), .ref p1, .ref p2, .ref p3, .ref p4, .ref p5, .ref p6, .ref p7, .ref p8, .long f.1, .int f.2])), (p1, .inl (cL, 151, .inr (.inl mv.2.1))), (p2, .inl (cL, 151, .inr (.inl mv.2.2.2.1))), (p3, .inl (cL, 150, .inr (.inl mk.2.1))), (p4, .inl (cL, 150, .inr (.inl mk.2.2.2.1))), (p5, .inl (cI, 151, .inl mv.2.2.1)), (p6, .inl (cI, 151, .inl mv.2.2.2.2)), (p7, .inl (cI, 150, .inl mk.2.2.1)), (p8, .inl (cI, 150, .inl mk.2.2.2.2))] H := by rw [hH]; exact hP
  replace hS : va_S A s.heap H locs := by rw [hH, hlo]; exact hS
  clear hH hlo
  have hl := lv_entry ([.ref y]) (n := 2) (Nat.le_of_ble_eq_true rfl)
  rw [lg_entry_eq]
  generalize (lg_sl ([.ref y]) ++ List.replicate (2 - (lg_sl ([.ref y])).length) Slot.unset).toArray = ls at hl ⊢
  replace hl : lv_has ls 2 [(0, .ref y)] := hl
  refine lv_aload_n hx hb dX2_commit_0 rfl (lv_at hl 0 rfl) ?_
  refine lv_aload_n hx hb dX2_commit_1 rfl (lv_at hl 0 rfl) ?_
  refine va_get (D := (dC, dI)) (ci := 2) (v := .int (nI mv.1)) (C := RX2) (T := TX2) (N := 12) hx hb hts i_X2_commit_X2 hown hK hP 0 rfl rfl 0 (by decide) (hts (.fieldLink RX2 41 "BlockTreeModel" "many" "I") (by decide +kernel)) (fun _ h9 => h9) rfl dX2_commit_2 ?_
  refine va_put (D := (dC, dI)) (ci := 2) (v := .int (nI mv.1)) (ty := .int) (C := RX2) (T := TX2) (N := 12) hx hb hts i_X2_commit_X2 tyX2 tyX2_ok nmX2 hown hK hP hD hS 0 rfl rfl 1 (by decide) (hts (.fieldLink RX2 75 "BlockTreeModel" "kept" "I") (by decide +kernel)) (fun _ h9 => h9) rfl (by decide +kernel) rfl rfl (Nat.le_of_ble_eq_true rfl) dX2_commit_5 (fun H locs hP hD hS => ?_)
  replace hP : va_P (dC, dI) vwCl [(y, .inr (2, [.int (nI mv.1), .int (nI mv.1), .ref p1, .ref p2, .ref p3, .ref p4, .ref p5, .ref p6, .ref p7, .ref p8, .long f.1, .int f.2])), (p1, .inl (cL, 151, .inr (.inl mv.2.1))), (p2, .inl (cL, 151, .inr (.inl mv.2.2.2.1))), (p3, .inl (cL, 150, .inr (.inl mk.2.1))), (p4, .inl (cL, 150, .inr (.inl mk.2.2.2.1))), (p5, .inl (cI, 151, .inl mv.2.2.1)), (p6, .inl (cI, 151, .inl mv.2.2.2.2)), (p7, .inl (cI, 150, .inl mk.2.2.1)), (p8, .inl (cI, 150, .inl mk.2.2.2.2))] H := hP
  replace hD : va_D A [(y, .inr (2, [.int (nI mv.1), .int (nI mv.1), .ref p1, .ref p2, .ref p3, .ref p4, .ref p5, .ref p6, .ref p7, .ref p8, .long f.1, .int f.2])), (p1, .inl (cL, 151, .inr (.inl mv.2.1))), (p2, .inl (cL, 151, .inr (.inl mv.2.2.2.1))), (p3, .inl (cL, 150, .inr (.inl mk.2.1))), (p4, .inl (cL, 150, .inr (.inl mk.2.2.2.1))), (p5, .inl (cI, 151, .inl mv.2.2.1)), (p6, .inl (cI, 151, .inl mv.2.2.2.2)), (p7, .inl (cI, 150, .inl mk.2.2.1)), (p8, .inl (cI, 150, .inl mk.2.2.2.2))] := hD
  refine lv_iconst (v := 0) hx hb dX2_commit_8 (by decide) ?_
  refine lv_istore_n (lv' := [(1, .int 0), (0, .ref y)]) hx hb dX2_commit_9 rfl hl (by decide) rfl (fun ls hl => ?_)
  obtain ⟨w, hw⟩ : ∃ w : Nat, w = 0 := ⟨_, rfl⟩
  obtain ⟨g, hg⟩ : ∃ g : Nat, w + g = mv.1 := ⟨mv.1, by omega⟩
  replace hl : lv_has ls 2 [(0, .ref y), (1, .int (nI w))] := by rw [hw]; exact lv_sub hl [1, 0] rfl
  replace hP : va_P (dC, dI) vwCl [(y, .inr (2, [.int (nI mv.1), .int (nI mv.1), .ref p1, .ref p2, .ref p3, .ref p4, .ref p5, .ref p6, .ref p7, .ref p8, .long f.1, .int f.2])), (p1, .inl (cL, 151, .inr (.inl mv.2.1))), (p2, .inl (cL, 151, .inr (.inl mv.2.2.2.1))), (p3, .inl (cL, 150, .inr (.inl (va_cpy mv.2.1 mk.2.1 0 0 w)))), (p4, .inl (cL, 150, .inr (.inl (va_cpy mv.2.2.2.1 mk.2.2.2.1 0 0 w)))), (p5, .inl (cI, 151, .inl mv.2.2.1)), (p6, .inl (cI, 151, .inl mv.2.2.2.2)), (p7, .inl (cI, 150, .inl (va_cpy mv.2.2.1 mk.2.2.1 0 0 w))), (p8, .inl (cI, 150, .inl (va_cpy mv.2.2.2.2 mk.2.2.2.2 0 0 w)))] H := by rw [hw, cpq_0, cpq_0, cpq_0, cpq_0]; exact hP
  replace hD : va_D A [(y, .inr (2, [.int (nI mv.1), .int (nI mv.1), .ref p1, .ref p2, .ref p3, .ref p4, .ref p5, .ref p6, .ref p7, .ref p8, .long f.1, .int f.2])), (p1, .inl (cL, 151, .inr (.inl mv.2.1))), (p2, .inl (cL, 151, .inr (.inl mv.2.2.2.1))), (p3, .inl (cL, 150, .inr (.inl (va_cpy mv.2.1 mk.2.1 0 0 w)))), (p4, .inl (cL, 150, .inr (.inl (va_cpy mv.2.2.2.1 mk.2.2.2.1 0 0 w)))), (p5, .inl (cI, 151, .inl mv.2.2.1)), (p6, .inl (cI, 151, .inl mv.2.2.2.2)), (p7, .inl (cI, 150, .inl (va_cpy mv.2.2.1 mk.2.2.1 0 0 w))), (p8, .inl (cI, 150, .inl (va_cpy mv.2.2.2.2 mk.2.2.2.2 0 0 w)))] := by rw [hw, cpq_0, cpq_0, cpq_0, cpq_0]; exact hD
  clear hw
  induction g generalizing w ls H locs with
  | zero =>
    refine lv_iload_n hx hb dX2_commit_10 rfl (lv_at hl 1 rfl) ?_
    refine lv_aload_n hx hb dX2_commit_11 rfl (lv_at hl 0 rfl) ?_
    refine va_get (D := (dC, dI)) (ci := 2) (v := .int (nI mv.1)) (C := RX2) (T := TX2) (N := 12) hx hb hts i_X2_commit_X2 hown hK hP 0 rfl rfl 0 (by decide) (hts (.fieldLink RX2 41 "BlockTreeModel" "many" "I") (by decide +kernel)) (fun _ h9 => h9) rfl dX2_commit_12 ?_
    refine lv_icmp_ge (tgt := 72) hx hb dX2_commit_15 (by decide) (fun c_15 => ?_) (fun c_15 => absurd (nI_le (show mv.1 ≤ w by omega) (by omega)) c_15)
    obtain rfl : w = mv.1 := hg
    exact W.vret hx hb hr (fun t9 ht hW => ⟨⟨rs_cpy mv mk, rfl, rfl, by rw [ht]; exact hP, hD⟩, hS.F ht⟩) hS.2.2 dX2_commit_72
  | succ g ih =>
    refine lv_iload_n hx hb dX2_commit_10 rfl (lv_at hl 1 rfl) ?_
    refine lv_aload_n hx hb dX2_commit_11 rfl (lv_at hl 0 rfl) ?_
    refine va_get (D := (dC, dI)) (ci := 2) (v := .int (nI mv.1)) (C := RX2) (T := TX2) (N := 12) hx hb hts i_X2_commit_X2 hown hK hP 0 rfl rfl 0 (by decide) (hts (.fieldLink RX2 41 "BlockTreeModel" "many" "I") (by decide +kernel)) (fun _ h9 => h9) rfl dX2_commit_12 ?_
    refine lv_icmp_ge (tgt := 72) hx hb dX2_commit_15 (by decide) (fun c_15 => absurd c_15 (nI_ge (by omega) (by omega))) (fun c_15 => ?_)
    refine lv_aload_n hx hb dX2_commit_18 rfl (lv_at hl 0 rfl) ?_
    refine va_get (D := (dC, dI)) (ci := 2) (v := .ref p3) (C := RX2) (T := TX2) (N := 12) hx hb hts i_X2_commit_X2 hown hK hP 0 rfl rfl 4 (by decide) (hts (.fieldLink RX2 16 "BlockTreeModel" "keptKey" "[J") (by decide +kernel)) (fun _ h9 => h9) rfl dX2_commit_19 ?_
    refine lv_iload_n hx hb dX2_commit_22 rfl (lv_at hl 1 rfl) ?_
    refine lv_aload_n hx hb dX2_commit_23 rfl (lv_at hl 0 rfl) ?_
    refine va_get (D := (dC, dI)) (ci := 2) (v := .ref p1) (C := RX2) (T := TX2) (N := 12) hx hb hts i_X2_commit_X2 hown hK hP 0 rfl rfl 2 (by decide) (hts (.fieldLink RX2 7 "BlockTreeModel" "key" "[J") (by decide +kernel)) (fun _ h9 => h9) rfl dX2_commit_24 ?_
    refine lv_iload_n hx hb dX2_commit_27 rfl (lv_at hl 1 rfl) ?_
    refine va_lald hx hb hK hP 1 0 rfl rfl (vp_in_nI (by omega) (by omega)) dX2_commit_28 ?_
    refine lv_topl (fun z_1 ez_1 => ?_)
    rw [show ((nI w)).toNatClampNeg = w from (nI_clamp (by omega))] at ez_1
    subst ez_1
    refine va_last hx hb hK hP hD hS 3 0 rfl rfl (vp_in_nI (by omega) (by omega)) dX2_commit_29 (fun H locs hP hD hS => ?_)
    rw [show ((nI w)).toNatClampNeg = w from (nI_clamp (by omega))] at hP hD
    replace hP : va_P (dC, dI) vwCl [(y, .inr (2, [.int (nI mv.1), .int (nI mv.1), .ref p1, .ref p2, .ref p3, .ref p4, .ref p5, .ref p6, .ref p7, .ref p8, .long f.1, .int f.2])), (p1, .inl (cL, 151, .inr (.inl mv.2.1))), (p2, .inl (cL, 151, .inr (.inl mv.2.2.2.1))), (p3, .inl (cL, 150, .inr (.inl (vp_updL (va_cpy mv.2.1 mk.2.1 0 0 w) w (mv.2.1 w))))), (p4, .inl (cL, 150, .inr (.inl (va_cpy mv.2.2.2.1 mk.2.2.2.1 0 0 w)))), (p5, .inl (cI, 151, .inl mv.2.2.1)), (p6, .inl (cI, 151, .inl mv.2.2.2.2)), (p7, .inl (cI, 150, .inl (va_cpy mv.2.2.1 mk.2.2.1 0 0 w))), (p8, .inl (cI, 150, .inl (va_cpy mv.2.2.2.2 mk.2.2.2.2 0 0 w)))] H := hP
    replace hD : va_D A [(y, .inr (2, [.int (nI mv.1), .int (nI mv.1), .ref p1, .ref p2, .ref p3, .ref p4, .ref p5, .ref p6, .ref p7, .ref p8, .long f.1, .int f.2])), (p1, .inl (cL, 151, .inr (.inl mv.2.1))), (p2, .inl (cL, 151, .inr (.inl mv.2.2.2.1))), (p3, .inl (cL, 150, .inr (.inl (vp_updL (va_cpy mv.2.1 mk.2.1 0 0 w) w (mv.2.1 w))))), (p4, .inl (cL, 150, .inr (.inl (va_cpy mv.2.2.2.1 mk.2.2.2.1 0 0 w)))), (p5, .inl (cI, 151, .inl mv.2.2.1)), (p6, .inl (cI, 151, .inl mv.2.2.2.2)), (p7, .inl (cI, 150, .inl (va_cpy mv.2.2.1 mk.2.2.1 0 0 w))), (p8, .inl (cI, 150, .inl (va_cpy mv.2.2.2.2 mk.2.2.2.2 0 0 w)))] := hD
    refine lv_aload_n hx hb dX2_commit_30 rfl (lv_at hl 0 rfl) ?_
    refine va_get (D := (dC, dI)) (ci := 2) (v := .ref p7) (C := RX2) (T := TX2) (N := 12) hx hb hts i_X2_commit_X2 hown hK hP 0 rfl rfl 8 (by decide) (hts (.fieldLink RX2 29 "BlockTreeModel" "keptSize" "[I") (by decide +kernel)) (fun _ h9 => h9) rfl dX2_commit_31 ?_
    refine lv_iload_n hx hb dX2_commit_34 rfl (lv_at hl 1 rfl) ?_
    refine lv_aload_n hx hb dX2_commit_35 rfl (lv_at hl 0 rfl) ?_
    refine va_get (D := (dC, dI)) (ci := 2) (v := .ref p5) (C := RX2) (T := TX2) (N := 12) hx hb hts i_X2_commit_X2 hown hK hP 0 rfl rfl 6 (by decide) (hts (.fieldLink RX2 22 "BlockTreeModel" "size" "[I") (by decide +kernel)) (fun _ h9 => h9) rfl dX2_commit_36 ?_
    refine lv_iload_n hx hb dX2_commit_39 rfl (lv_at hl 1 rfl) ?_
    refine va_iald hx hb hK hP 5 1 rfl rfl (vp_in_nI (by omega) (by omega)) dX2_commit_40 ?_
    refine lv_topi (fun z_2 ez_2 => ?_)
    rw [show ((nI w)).toNatClampNeg = w from (nI_clamp (by omega))] at ez_2
    subst ez_2
    refine va_iast hx hb hK hP hD hS 7 1 rfl rfl (vp_in_nI (by omega) (by omega)) dX2_commit_41 (fun H locs hP hD hS => ?_)
    rw [show ((nI w)).toNatClampNeg = w from (nI_clamp (by omega))] at hP hD
    replace hP : va_P (dC, dI) vwCl [(y, .inr (2, [.int (nI mv.1), .int (nI mv.1), .ref p1, .ref p2, .ref p3, .ref p4, .ref p5, .ref p6, .ref p7, .ref p8, .long f.1, .int f.2])), (p1, .inl (cL, 151, .inr (.inl mv.2.1))), (p2, .inl (cL, 151, .inr (.inl mv.2.2.2.1))), (p3, .inl (cL, 150, .inr (.inl (vp_updL (va_cpy mv.2.1 mk.2.1 0 0 w) w (mv.2.1 w))))), (p4, .inl (cL, 150, .inr (.inl (va_cpy mv.2.2.2.1 mk.2.2.2.1 0 0 w)))), (p5, .inl (cI, 151, .inl mv.2.2.1)), (p6, .inl (cI, 151, .inl mv.2.2.2.2)), (p7, .inl (cI, 150, .inl (upd (va_cpy mv.2.2.1 mk.2.2.1 0 0 w) w (mv.2.2.1 w)))), (p8, .inl (cI, 150, .inl (va_cpy mv.2.2.2.2 mk.2.2.2.2 0 0 w)))] H := hP
    replace hD : va_D A [(y, .inr (2, [.int (nI mv.1), .int (nI mv.1), .ref p1, .ref p2, .ref p3, .ref p4, .ref p5, .ref p6, .ref p7, .ref p8, .long f.1, .int f.2])), (p1, .inl (cL, 151, .inr (.inl mv.2.1))), (p2, .inl (cL, 151, .inr (.inl mv.2.2.2.1))), (p3, .inl (cL, 150, .inr (.inl (vp_updL (va_cpy mv.2.1 mk.2.1 0 0 w) w (mv.2.1 w))))), (p4, .inl (cL, 150, .inr (.inl (va_cpy mv.2.2.2.1 mk.2.2.2.1 0 0 w)))), (p5, .inl (cI, 151, .inl mv.2.2.1)), (p6, .inl (cI, 151, .inl mv.2.2.2.2)), (p7, .inl (cI, 150, .inl (upd (va_cpy mv.2.2.1 mk.2.2.1 0 0 w) w (mv.2.2.1 w)))), (p8, .inl (cI, 150, .inl (va_cpy mv.2.2.2.2 mk.2.2.2.2 0 0 w)))] := hD
    refine lv_aload_n hx hb dX2_commit_42 rfl (lv_at hl 0 rfl) ?_
    refine va_get (D := (dC, dI)) (ci := 2) (v := .ref p4) (C := RX2) (T := TX2) (N := 12) hx hb hts i_X2_commit_X2 hown hK hP 0 rfl rfl 5 (by decide) (hts (.fieldLink RX2 19 "BlockTreeModel" "keptText" "[J") (by decide +kernel)) (fun _ h9 => h9) rfl dX2_commit_43 ?_
    refine lv_iload_n hx hb dX2_commit_46 rfl (lv_at hl 1 rfl) ?_
    refine lv_aload_n hx hb dX2_commit_47 rfl (lv_at hl 0 rfl) ?_
    refine va_get (D := (dC, dI)) (ci := 2) (v := .ref p2) (C := RX2) (T := TX2) (N := 12) hx hb hts i_X2_commit_X2 hown hK hP 0 rfl rfl 3 (by decide) (hts (.fieldLink RX2 13 "BlockTreeModel" "text" "[J") (by decide +kernel)) (fun _ h9 => h9) rfl dX2_commit_48 ?_
    refine lv_iload_n hx hb dX2_commit_51 rfl (lv_at hl 1 rfl) ?_
    refine va_lald hx hb hK hP 2 0 rfl rfl (vp_in_nI (by omega) (by omega)) dX2_commit_52 ?_
    refine lv_topl (fun z_3 ez_3 => ?_)
    rw [show ((nI w)).toNatClampNeg = w from (nI_clamp (by omega))] at ez_3
    subst ez_3
    refine va_last hx hb hK hP hD hS 4 0 rfl rfl (vp_in_nI (by omega) (by omega)) dX2_commit_53 (fun H locs hP hD hS => ?_)
    rw [show ((nI w)).toNatClampNeg = w from (nI_clamp (by omega))] at hP hD
    replace hP : va_P (dC, dI) vwCl [(y, .inr (2, [.int (nI mv.1), .int (nI mv.1), .ref p1, .ref p2, .ref p3, .ref p4, .ref p5, .ref p6, .ref p7, .ref p8, .long f.1, .int f.2])), (p1, .inl (cL, 151, .inr (.inl mv.2.1))), (p2, .inl (cL, 151, .inr (.inl mv.2.2.2.1))), (p3, .inl (cL, 150, .inr (.inl (vp_updL (va_cpy mv.2.1 mk.2.1 0 0 w) w (mv.2.1 w))))), (p4, .inl (cL, 150, .inr (.inl (vp_updL (va_cpy mv.2.2.2.1 mk.2.2.2.1 0 0 w) w (mv.2.2.2.1 w))))), (p5, .inl (cI, 151, .inl mv.2.2.1)), (p6, .inl (cI, 151, .inl mv.2.2.2.2)), (p7, .inl (cI, 150, .inl (upd (va_cpy mv.2.2.1 mk.2.2.1 0 0 w) w (mv.2.2.1 w)))), (p8, .inl (cI, 150, .inl (va_cpy mv.2.2.2.2 mk.2.2.2.2 0 0 w)))] H := hP
    replace hD : va_D A [(y, .inr (2, [.int (nI mv.1), .int (nI mv.1), .ref p1, .ref p2, .ref p3, .ref p4, .ref p5, .ref p6, .ref p7, .ref p8, .long f.1, .int f.2])), (p1, .inl (cL, 151, .inr (.inl mv.2.1))), (p2, .inl (cL, 151, .inr (.inl mv.2.2.2.1))), (p3, .inl (cL, 150, .inr (.inl (vp_updL (va_cpy mv.2.1 mk.2.1 0 0 w) w (mv.2.1 w))))), (p4, .inl (cL, 150, .inr (.inl (vp_updL (va_cpy mv.2.2.2.1 mk.2.2.2.1 0 0 w) w (mv.2.2.2.1 w))))), (p5, .inl (cI, 151, .inl mv.2.2.1)), (p6, .inl (cI, 151, .inl mv.2.2.2.2)), (p7, .inl (cI, 150, .inl (upd (va_cpy mv.2.2.1 mk.2.2.1 0 0 w) w (mv.2.2.1 w)))), (p8, .inl (cI, 150, .inl (va_cpy mv.2.2.2.2 mk.2.2.2.2 0 0 w)))] := hD
    refine lv_aload_n hx hb dX2_commit_54 rfl (lv_at hl 0 rfl) ?_
    refine va_get (D := (dC, dI)) (ci := 2) (v := .ref p8) (C := RX2) (T := TX2) (N := 12) hx hb hts i_X2_commit_X2 hown hK hP 0 rfl rfl 9 (by decide) (hts (.fieldLink RX2 32 "BlockTreeModel" "keptLength" "[I") (by decide +kernel)) (fun _ h9 => h9) rfl dX2_commit_55 ?_
    refine lv_iload_n hx hb dX2_commit_58 rfl (lv_at hl 1 rfl) ?_
    refine lv_aload_n hx hb dX2_commit_59 rfl (lv_at hl 0 rfl) ?_
    refine va_get (D := (dC, dI)) (ci := 2) (v := .ref p6) (C := RX2) (T := TX2) (N := 12) hx hb hts i_X2_commit_X2 hown hK hP 0 rfl rfl 7 (by decide) (hts (.fieldLink RX2 26 "BlockTreeModel" "length" "[I") (by decide +kernel)) (fun _ h9 => h9) rfl dX2_commit_60 ?_
    refine lv_iload_n hx hb dX2_commit_63 rfl (lv_at hl 1 rfl) ?_
    refine va_iald hx hb hK hP 6 1 rfl rfl (vp_in_nI (by omega) (by omega)) dX2_commit_64 ?_
    refine lv_topi (fun z_4 ez_4 => ?_)
    rw [show ((nI w)).toNatClampNeg = w from (nI_clamp (by omega))] at ez_4
    subst ez_4
    refine va_iast hx hb hK hP hD hS 8 1 rfl rfl (vp_in_nI (by omega) (by omega)) dX2_commit_65 (fun H locs hP hD hS => ?_)
    rw [show ((nI w)).toNatClampNeg = w from (nI_clamp (by omega))] at hP hD
    replace hP : va_P (dC, dI) vwCl [(y, .inr (2, [.int (nI mv.1), .int (nI mv.1), .ref p1, .ref p2, .ref p3, .ref p4, .ref p5, .ref p6, .ref p7, .ref p8, .long f.1, .int f.2])), (p1, .inl (cL, 151, .inr (.inl mv.2.1))), (p2, .inl (cL, 151, .inr (.inl mv.2.2.2.1))), (p3, .inl (cL, 150, .inr (.inl (vp_updL (va_cpy mv.2.1 mk.2.1 0 0 w) w (mv.2.1 w))))), (p4, .inl (cL, 150, .inr (.inl (vp_updL (va_cpy mv.2.2.2.1 mk.2.2.2.1 0 0 w) w (mv.2.2.2.1 w))))), (p5, .inl (cI, 151, .inl mv.2.2.1)), (p6, .inl (cI, 151, .inl mv.2.2.2.2)), (p7, .inl (cI, 150, .inl (upd (va_cpy mv.2.2.1 mk.2.2.1 0 0 w) w (mv.2.2.1 w)))), (p8, .inl (cI, 150, .inl (upd (va_cpy mv.2.2.2.2 mk.2.2.2.2 0 0 w) w (mv.2.2.2.2 w))))] H := hP
    replace hD : va_D A [(y, .inr (2, [.int (nI mv.1), .int (nI mv.1), .ref p1, .ref p2, .ref p3, .ref p4, .ref p5, .ref p6, .ref p7, .ref p8, .long f.1, .int f.2])), (p1, .inl (cL, 151, .inr (.inl mv.2.1))), (p2, .inl (cL, 151, .inr (.inl mv.2.2.2.1))), (p3, .inl (cL, 150, .inr (.inl (vp_updL (va_cpy mv.2.1 mk.2.1 0 0 w) w (mv.2.1 w))))), (p4, .inl (cL, 150, .inr (.inl (vp_updL (va_cpy mv.2.2.2.1 mk.2.2.2.1 0 0 w) w (mv.2.2.2.1 w))))), (p5, .inl (cI, 151, .inl mv.2.2.1)), (p6, .inl (cI, 151, .inl mv.2.2.2.2)), (p7, .inl (cI, 150, .inl (upd (va_cpy mv.2.2.1 mk.2.2.1 0 0 w) w (mv.2.2.1 w)))), (p8, .inl (cI, 150, .inl (upd (va_cpy mv.2.2.2.2 mk.2.2.2.2 0 0 w) w (mv.2.2.2.2 w))))] := hD
    refine lv_iinc (v := nI (w + 1)) (lv' := [(1, .int (nI (w + 1))), (0, .ref y)]) hx hb dX2_commit_66 hl (k := 1) rfl (nI_1 w) (by decide) rfl (fun ls hl => ?_)
    refine lv_goto (tgt := 10) hx hb dX2_commit_69 (by decide) ?_
    replace hP : va_P (dC, dI) vwCl [(y, .inr (2, [.int (nI mv.1), .int (nI mv.1), .ref p1, .ref p2, .ref p3, .ref p4, .ref p5, .ref p6, .ref p7, .ref p8, .long f.1, .int f.2])), (p1, .inl (cL, 151, .inr (.inl mv.2.1))), (p2, .inl (cL, 151, .inr (.inl mv.2.2.2.1))), (p3, .inl (cL, 150, .inr (.inl (va_cpy mv.2.1 mk.2.1 0 0 (w + 1))))), (p4, .inl (cL, 150, .inr (.inl (va_cpy mv.2.2.2.1 mk.2.2.2.1 0 0 (w + 1))))), (p5, .inl (cI, 151, .inl mv.2.2.1)), (p6, .inl (cI, 151, .inl mv.2.2.2.2)), (p7, .inl (cI, 150, .inl (va_cpy mv.2.2.1 mk.2.2.1 0 0 (w + 1)))), (p8, .inl (cI, 150, .inl (va_cpy mv.2.2.2.2 mk.2.2.2.2 0 0 (w + 1))))] H := by rw [← cpq_stepL (f := mv.2.1) (g := mk.2.1), ← cpq_stepI (f := mv.2.2.1) (g := mk.2.2.1), ← cpq_stepL (f := mv.2.2.2.1) (g := mk.2.2.2.1), ← cpq_stepI (f := mv.2.2.2.2) (g := mk.2.2.2.2)]; exact hP
    replace hD : va_D A [(y, .inr (2, [.int (nI mv.1), .int (nI mv.1), .ref p1, .ref p2, .ref p3, .ref p4, .ref p5, .ref p6, .ref p7, .ref p8, .long f.1, .int f.2])), (p1, .inl (cL, 151, .inr (.inl mv.2.1))), (p2, .inl (cL, 151, .inr (.inl mv.2.2.2.1))), (p3, .inl (cL, 150, .inr (.inl (va_cpy mv.2.1 mk.2.1 0 0 (w + 1))))), (p4, .inl (cL, 150, .inr (.inl (va_cpy mv.2.2.2.1 mk.2.2.2.1 0 0 (w + 1))))), (p5, .inl (cI, 151, .inl mv.2.2.1)), (p6, .inl (cI, 151, .inl mv.2.2.2.2)), (p7, .inl (cI, 150, .inl (va_cpy mv.2.2.1 mk.2.2.1 0 0 (w + 1)))), (p8, .inl (cI, 150, .inl (va_cpy mv.2.2.2.2 mk.2.2.2.2 0 0 (w + 1))))] := by rw [← cpq_stepL (f := mv.2.1) (g := mk.2.1), ← cpq_stepI (f := mv.2.2.1) (g := mk.2.2.1), ← cpq_stepL (f := mv.2.2.2.1) (g := mk.2.2.2.1), ← cpq_stepI (f := mv.2.2.2.2) (g := mk.2.2.2.2)]; exact hD
    apply ih (w := w + 1) (ls := ls) (H := H) (locs := locs)
    all_goals first | omega | exact lv_sub hl [1, 0] rfl | exact hP | exact hD | exact hS
set_option maxHeartbeats 4000000 in
set_option maxRecDepth 100000 in
/-- revert -/
theorem m_revert (l : Launch) (dC : Nat → ClassId) (dI : Nat → Nat → Nat) (hz : Nat) (cL cI : ClassId) (y p1 p2 p3 p4 p5 p6 p7 p8 : Nat) (mv mk : RS) (f : Int64 × Int32) (hm1 : mk.1 ≤ 150) : Met l yX2_revert wsX2_revert ({ frames := 0, cells := 0, slots := 0, locals := 0 }) (wrP (dC, dI) (kS cL cI) (mW cL cI y p1 p2 p3 p4 p5 p6 p7 p8 mv mk f) [.ref y] hz) (va_Qv (fun (v : RS) => v = rs_cpy mk mv) (wrB (dC, dI) (va_A (mW cL cI y p1 p2 p3 p4 p5 p6 p7 p8 mv mk f) hz) (fun (v : RS) => mW cL cI y p1 p2 p3 p4 p5 p6 p7 p8 v mk f)) (va_A (mW cL cI y p1 p2 p3 p4 p5 p6 p7 p8 mv mk f) hz)) 0 0 (va_A (mW cL cI y p1 p2 p3 p4 p5 p6 p7 p8 mv mk f) hz) := by
  refine Met.ofW (cc := cX2_revert) (maxL := 2) (ret := none) (by decide) rfl ?_
  intro p e s m args below meth c s₁ B hml hv
  obtain ⟨rfl, hsz, hP, hK, hD0⟩ := hv
  have hx := B.exec
  have hb := B.bytes
  have hr := B.returns
  have hts := atoms_spec (ws := wsX2_revert) B.pre
  have hown : s.vm.findClass RX2 = some m.cls := findClass_of_methodNamed B.named
  have hlocks := B.notSynchronized
  subst hsz
  have hD := hD0.self (sz := s.heap.size)
  generalize hAe : va_A (mW cL cI y p1 p2 p3 p4 p5 p6 p7 p8 mv mk f) s.heap.size = A at hD ⊢
  have hA : ∀ q : Nat, s.heap.size ≤ q → A q := fun q h => by rw [← hAe]; exact Or.inr h
  have hS : va_S A s.heap s.heap [] := va_S.rf
  replace hP : va_P (dC, dI) vwCl [(y, .inr (2, [.int (nI mv.1), .int (nI mk.1), .ref p1, .ref p2, .ref p3, .ref p4, .ref p5, .ref p6, .ref p7, .ref p8, .long f.1, .int f.2])), (p1, .inl (cL, 151, .inr (.inl mv.2.1))), (p2, .inl (cL, 151, .inr (.inl mv.2.2.2.1))), (p3, .inl (cL, 150, .inr (.inl mk.2.1))), (p4, .inl (cL, 150, .inr (.inl mk.2.2.2.1))), (p5, .inl (cI, 151, .inl mv.2.2.1)), (p6, .inl (cI, 151, .inl mv.2.2.2.2)), (p7, .inl (cI, 150, .inl mk.2.2.1)), (p8, .inl (cI, 150, .inl mk.2.2.2.2))] s.heap := hP
  replace hD : va_D A [(y, .inr (2, [.int (nI mv.1), .int (nI mk.1), .ref p1, .ref p2, .ref p3, .ref p4, .ref p5, .ref p6, .ref p7, .ref p8, .long f.1, .int f.2])), (p1, .inl (cL, 151, .inr (.inl mv.2.1))), (p2, .inl (cL, 151, .inr (.inl mv.2.2.2.1))), (p3, .inl (cL, 150, .inr (.inl mk.2.1))), (p4, .inl (cL, 150, .inr (.inl mk.2.2.2.1))), (p5, .inl (cI, 151, .inl mv.2.2.1)), (p6, .inl (cI, 151, .inl mv.2.2.2.2)), (p7, .inl (cI, 150, .inl mk.2.2.1)), (p8, .inl (cI, 150, .inl mk.2.2.2.2))] := hD
  clear hD0
  refine w_gen _ _ (fun H locs hH hlo => ?_)
  replace hP : va_P (dC, dI) vwCl [(y, .inr (2, [.int (nI mv.1), .int (nI mk.1), .ref p1, .ref p2, .ref p3, .ref p4, .ref p5, .ref p6, .ref p7, .ref p8, .long f.1, .int f.2])), (p1, .inl (cL, 151, .inr (.inl mv.2.1))), (p2, .inl (cL, 151, .inr (.inl mv.2.2.2.1))), (p3, .inl (cL, 150, .inr (.inl mk.2.1))), (p4, .inl (cL, 150, .inr (.inl mk.2.2.2.1))), (p5, .inl (cI, 151, .inl mv.2.2.1)), (p6, .inl (cI, 151, .inl mv.2.2.2.2)), (p7, .inl (cI, 150, .inl mk.2.2.1)), (p8, .inl (cI, 150, .inl mk.2.2.2.2))] H := by rw [hH]; exact hP
  replace hS : va_S A s.heap H locs := by rw [hH, hlo]; exact hS
  clear hH hlo
  have hl := lv_entry ([.ref y]) (n := 2) (Nat.le_of_ble_eq_true rfl)
  rw [lg_entry_eq]
  generalize (lg_sl ([.ref y]) ++ List.replicate (2 - (lg_sl ([.ref y])).length) Slot.unset).toArray = ls at hl ⊢
  replace hl : lv_has ls 2 [(0, .ref y)] := hl
  refine lv_aload_n hx hb dX2_revert_0 rfl (lv_at hl 0 rfl) ?_
  refine lv_aload_n hx hb dX2_revert_1 rfl (lv_at hl 0 rfl) ?_
  refine va_get (D := (dC, dI)) (ci := 2) (v := .int (nI mk.1)) (C := RX2) (T := TX2) (N := 12) hx hb hts i_X2_revert_X2 hown hK hP 0 rfl rfl 1 (by decide) (hts (.fieldLink RX2 75 "BlockTreeModel" "kept" "I") (by decide +kernel)) (fun _ h9 => h9) rfl dX2_revert_2 ?_
  refine va_put (D := (dC, dI)) (ci := 2) (v := .int (nI mk.1)) (ty := .int) (C := RX2) (T := TX2) (N := 12) hx hb hts i_X2_revert_X2 tyX2 tyX2_ok nmX2 hown hK hP hD hS 0 rfl rfl 0 (by decide) (hts (.fieldLink RX2 41 "BlockTreeModel" "many" "I") (by decide +kernel)) (fun _ h9 => h9) rfl (by decide +kernel) rfl rfl (Nat.le_of_ble_eq_true rfl) dX2_revert_5 (fun H locs hP hD hS => ?_)
  replace hP : va_P (dC, dI) vwCl [(y, .inr (2, [.int (nI mk.1), .int (nI mk.1), .ref p1, .ref p2, .ref p3, .ref p4, .ref p5, .ref p6, .ref p7, .ref p8, .long f.1, .int f.2])), (p1, .inl (cL, 151, .inr (.inl mv.2.1))), (p2, .inl (cL, 151, .inr (.inl mv.2.2.2.1))), (p3, .inl (cL, 150, .inr (.inl mk.2.1))), (p4, .inl (cL, 150, .inr (.inl mk.2.2.2.1))), (p5, .inl (cI, 151, .inl mv.2.2.1)), (p6, .inl (cI, 151, .inl mv.2.2.2.2)), (p7, .inl (cI, 150, .inl mk.2.2.1)), (p8, .inl (cI, 150, .inl mk.2.2.2.2))] H := hP
  replace hD : va_D A [(y, .inr (2, [.int (nI mk.1), .int (nI mk.1), .ref p1, .ref p2, .ref p3, .ref p4, .ref p5, .ref p6, .ref p7, .ref p8, .long f.1, .int f.2])), (p1, .inl (cL, 151, .inr (.inl mv.2.1))), (p2, .inl (cL, 151, .inr (.inl mv.2.2.2.1))), (p3, .inl (cL, 150, .inr (.inl mk.2.1))), (p4, .inl (cL, 150, .inr (.inl mk.2.2.2.1))), (p5, .inl (cI, 151, .inl mv.2.2.1)), (p6, .inl (cI, 151, .inl mv.2.2.2.2)), (p7, .inl (cI, 150, .inl mk.2.2.1)), (p8, .inl (cI, 150, .inl mk.2.2.2.2))] := hD
  refine lv_iconst (v := 0) hx hb dX2_revert_8 (by decide) ?_
  refine lv_istore_n (lv' := [(1, .int 0), (0, .ref y)]) hx hb dX2_revert_9 rfl hl (by decide) rfl (fun ls hl => ?_)
  obtain ⟨w, hw⟩ : ∃ w : Nat, w = 0 := ⟨_, rfl⟩
  obtain ⟨g, hg⟩ : ∃ g : Nat, w + g = mk.1 := ⟨mk.1, by omega⟩
  replace hl : lv_has ls 2 [(0, .ref y), (1, .int (nI w))] := by rw [hw]; exact lv_sub hl [1, 0] rfl
  replace hP : va_P (dC, dI) vwCl [(y, .inr (2, [.int (nI mk.1), .int (nI mk.1), .ref p1, .ref p2, .ref p3, .ref p4, .ref p5, .ref p6, .ref p7, .ref p8, .long f.1, .int f.2])), (p1, .inl (cL, 151, .inr (.inl (va_cpy mk.2.1 mv.2.1 0 0 w)))), (p2, .inl (cL, 151, .inr (.inl (va_cpy mk.2.2.2.1 mv.2.2.2.1 0 0 w)))), (p3, .inl (cL, 150, .inr (.inl mk.2.1))), (p4, .inl (cL, 150, .inr (.inl mk.2.2.2.1))), (p5, .inl (cI, 151, .inl (va_cpy mk.2.2.1 mv.2.2.1 0 0 w))), (p6, .inl (cI, 151, .inl (va_cpy mk.2.2.2.2 mv.2.2.2.2 0 0 w))), (p7, .inl (cI, 150, .inl mk.2.2.1)), (p8, .inl (cI, 150, .inl mk.2.2.2.2))] H := by rw [hw, cpq_0, cpq_0, cpq_0, cpq_0]; exact hP
  replace hD : va_D A [(y, .inr (2, [.int (nI mk.1), .int (nI mk.1), .ref p1, .ref p2, .ref p3, .ref p4, .ref p5, .ref p6, .ref p7, .ref p8, .long f.1, .int f.2])), (p1, .inl (cL, 151, .inr (.inl (va_cpy mk.2.1 mv.2.1 0 0 w)))), (p2, .inl (cL, 151, .inr (.inl (va_cpy mk.2.2.2.1 mv.2.2.2.1 0 0 w)))), (p3, .inl (cL, 150, .inr (.inl mk.2.1))), (p4, .inl (cL, 150, .inr (.inl mk.2.2.2.1))), (p5, .inl (cI, 151, .inl (va_cpy mk.2.2.1 mv.2.2.1 0 0 w))), (p6, .inl (cI, 151, .inl (va_cpy mk.2.2.2.2 mv.2.2.2.2 0 0 w))), (p7, .inl (cI, 150, .inl mk.2.2.1)), (p8, .inl (cI, 150, .inl mk.2.2.2.2))] := by rw [hw, cpq_0, cpq_0, cpq_0, cpq_0]; exact hD
  clear hw
  induction g generalizing w ls H locs with
  | zero =>
    refine lv_iload_n hx hb dX2_revert_10 rfl (lv_at hl 1 rfl) ?_
    refine lv_aload_n hx hb dX2_revert_11 rfl (lv_at hl 0 rfl) ?_
    refine va_get (D := (dC, dI)) (ci := 2) (v := .int (nI mk.1)) (C := RX2) (T := TX2) (N := 12) hx hb hts i_X2_revert_X2 hown hK hP 0 rfl rfl 0 (by decide) (hts (.fieldLink RX2 41 "BlockTreeModel" "many" "I") (by decide +kernel)) (fun _ h9 => h9) rfl dX2_revert_12 ?_
    refine lv_icmp_ge (tgt := 72) hx hb dX2_revert_15 (by decide) (fun c_15 => ?_) (fun c_15 => absurd (nI_le (show mk.1 ≤ w by omega) (by omega)) c_15)
    obtain rfl : w = mk.1 := hg
    exact W.vret hx hb hr (fun t9 ht hW => ⟨⟨rs_cpy mk mv, rfl, rfl, by rw [ht]; exact hP, hD⟩, hS.F ht⟩) hS.2.2 dX2_revert_72
  | succ g ih =>
    refine lv_iload_n hx hb dX2_revert_10 rfl (lv_at hl 1 rfl) ?_
    refine lv_aload_n hx hb dX2_revert_11 rfl (lv_at hl 0 rfl) ?_
    refine va_get (D := (dC, dI)) (ci := 2) (v := .int (nI mk.1)) (C := RX2) (T := TX2) (N := 12) hx hb hts i_X2_revert_X2 hown hK hP 0 rfl rfl 0 (by decide) (hts (.fieldLink RX2 41 "BlockTreeModel" "many" "I") (by decide +kernel)) (fun _ h9 => h9) rfl dX2_revert_12 ?_
    refine lv_icmp_ge (tgt := 72) hx hb dX2_revert_15 (by decide) (fun c_15 => absurd c_15 (nI_ge (by omega) (by omega))) (fun c_15 => ?_)
    refine lv_aload_n hx hb dX2_revert_18 rfl (lv_at hl 0 rfl) ?_
    refine va_get (D := (dC, dI)) (ci := 2) (v := .ref p1) (C := RX2) (T := TX2) (N := 12) hx hb hts i_X2_revert_X2 hown hK hP 0 rfl rfl 2 (by decide) (hts (.fieldLink RX2 7 "BlockTreeModel" "key" "[J") (by decide +kernel)) (fun _ h9 => h9) rfl dX2_revert_19 ?_
    refine lv_iload_n hx hb dX2_revert_22 rfl (lv_at hl 1 rfl) ?_
    refine lv_aload_n hx hb dX2_revert_23 rfl (lv_at hl 0 rfl) ?_
    refine va_get (D := (dC, dI)) (ci := 2) (v := .ref p3) (C := RX2) (T := TX2) (N := 12) hx hb hts i_X2_revert_X2 hown hK hP 0 rfl rfl 4 (by decide) (hts (.fieldLink RX2 16 "BlockTreeModel" "keptKey" "[J") (by decide +kernel)) (fun _ h9 => h9) rfl dX2_revert_24 ?_
    refine lv_iload_n hx hb dX2_revert_27 rfl (lv_at hl 1 rfl) ?_
    refine va_lald hx hb hK hP 3 0 rfl rfl (vp_in_nI (by omega) (by omega)) dX2_revert_28 ?_
    refine lv_topl (fun z_1 ez_1 => ?_)
    rw [show ((nI w)).toNatClampNeg = w from (nI_clamp (by omega))] at ez_1
    subst ez_1
    refine va_last hx hb hK hP hD hS 1 0 rfl rfl (vp_in_nI (by omega) (by omega)) dX2_revert_29 (fun H locs hP hD hS => ?_)
    rw [show ((nI w)).toNatClampNeg = w from (nI_clamp (by omega))] at hP hD
    replace hP : va_P (dC, dI) vwCl [(y, .inr (2, [.int (nI mk.1), .int (nI mk.1), .ref p1, .ref p2, .ref p3, .ref p4, .ref p5, .ref p6, .ref p7, .ref p8, .long f.1, .int f.2])), (p1, .inl (cL, 151, .inr (.inl (vp_updL (va_cpy mk.2.1 mv.2.1 0 0 w) w (mk.2.1 w))))), (p2, .inl (cL, 151, .inr (.inl (va_cpy mk.2.2.2.1 mv.2.2.2.1 0 0 w)))), (p3, .inl (cL, 150, .inr (.inl mk.2.1))), (p4, .inl (cL, 150, .inr (.inl mk.2.2.2.1))), (p5, .inl (cI, 151, .inl (va_cpy mk.2.2.1 mv.2.2.1 0 0 w))), (p6, .inl (cI, 151, .inl (va_cpy mk.2.2.2.2 mv.2.2.2.2 0 0 w))), (p7, .inl (cI, 150, .inl mk.2.2.1)), (p8, .inl (cI, 150, .inl mk.2.2.2.2))] H := hP
    replace hD : va_D A [(y, .inr (2, [.int (nI mk.1), .int (nI mk.1), .ref p1, .ref p2, .ref p3, .ref p4, .ref p5, .ref p6, .ref p7, .ref p8, .long f.1, .int f.2])), (p1, .inl (cL, 151, .inr (.inl (vp_updL (va_cpy mk.2.1 mv.2.1 0 0 w) w (mk.2.1 w))))), (p2, .inl (cL, 151, .inr (.inl (va_cpy mk.2.2.2.1 mv.2.2.2.1 0 0 w)))), (p3, .inl (cL, 150, .inr (.inl mk.2.1))), (p4, .inl (cL, 150, .inr (.inl mk.2.2.2.1))), (p5, .inl (cI, 151, .inl (va_cpy mk.2.2.1 mv.2.2.1 0 0 w))), (p6, .inl (cI, 151, .inl (va_cpy mk.2.2.2.2 mv.2.2.2.2 0 0 w))), (p7, .inl (cI, 150, .inl mk.2.2.1)), (p8, .inl (cI, 150, .inl mk.2.2.2.2))] := hD
    refine lv_aload_n hx hb dX2_revert_30 rfl (lv_at hl 0 rfl) ?_
    refine va_get (D := (dC, dI)) (ci := 2) (v := .ref p5) (C := RX2) (T := TX2) (N := 12) hx hb hts i_X2_revert_X2 hown hK hP 0 rfl rfl 6 (by decide) (hts (.fieldLink RX2 22 "BlockTreeModel" "size" "[I") (by decide +kernel)) (fun _ h9 => h9) rfl dX2_revert_31 ?_
    refine lv_iload_n hx hb dX2_revert_34 rfl (lv_at hl 1 rfl) ?_
    refine lv_aload_n hx hb dX2_revert_35 rfl (lv_at hl 0 rfl) ?_
    refine va_get (D := (dC, dI)) (ci := 2) (v := .ref p7) (C := RX2) (T := TX2) (N := 12) hx hb hts i_X2_revert_X2 hown hK hP 0 rfl rfl 8 (by decide) (hts (.fieldLink RX2 29 "BlockTreeModel" "keptSize" "[I") (by decide +kernel)) (fun _ h9 => h9) rfl dX2_revert_36 ?_
    refine lv_iload_n hx hb dX2_revert_39 rfl (lv_at hl 1 rfl) ?_
    refine va_iald hx hb hK hP 7 1 rfl rfl (vp_in_nI (by omega) (by omega)) dX2_revert_40 ?_
    refine lv_topi (fun z_2 ez_2 => ?_)
    rw [show ((nI w)).toNatClampNeg = w from (nI_clamp (by omega))] at ez_2
    subst ez_2
    refine va_iast hx hb hK hP hD hS 5 1 rfl rfl (vp_in_nI (by omega) (by omega)) dX2_revert_41 (fun H locs hP hD hS => ?_)
    rw [show ((nI w)).toNatClampNeg = w from (nI_clamp (by omega))] at hP hD
    replace hP : va_P (dC, dI) vwCl [(y, .inr (2, [.int (nI mk.1), .int (nI mk.1), .ref p1, .ref p2, .ref p3, .ref p4, .ref p5, .ref p6, .ref p7, .ref p8, .long f.1, .int f.2])), (p1, .inl (cL, 151, .inr (.inl (vp_updL (va_cpy mk.2.1 mv.2.1 0 0 w) w (mk.2.1 w))))), (p2, .inl (cL, 151, .inr (.inl (va_cpy mk.2.2.2.1 mv.2.2.2.1 0 0 w)))), (p3, .inl (cL, 150, .inr (.inl mk.2.1))), (p4, .inl (cL, 150, .inr (.inl mk.2.2.2.1))), (p5, .inl (cI, 151, .inl (upd (va_cpy mk.2.2.1 mv.2.2.1 0 0 w) w (mk.2.2.1 w)))), (p6, .inl (cI, 151, .inl (va_cpy mk.2.2.2.2 mv.2.2.2.2 0 0 w))), (p7, .inl (cI, 150, .inl mk.2.2.1)), (p8, .inl (cI, 150, .inl mk.2.2.2.2))] H := hP
    replace hD : va_D A [(y, .inr (2, [.int (nI mk.1), .int (nI mk.1), .ref p1, .ref p2, .ref p3, .ref p4, .ref p5, .ref p6, .ref p7, .ref p8, .long f.1, .int f.2])), (p1, .inl (cL, 151, .inr (.inl (vp_updL (va_cpy mk.2.1 mv.2.1 0 0 w) w (mk.2.1 w))))), (p2, .inl (cL, 151, .inr (.inl (va_cpy mk.2.2.2.1 mv.2.2.2.1 0 0 w)))), (p3, .inl (cL, 150, .inr (.inl mk.2.1))), (p4, .inl (cL, 150, .inr (.inl mk.2.2.2.1))), (p5, .inl (cI, 151, .inl (upd (va_cpy mk.2.2.1 mv.2.2.1 0 0 w) w (mk.2.2.1 w)))), (p6, .inl (cI, 151, .inl (va_cpy mk.2.2.2.2 mv.2.2.2.2 0 0 w))), (p7, .inl (cI, 150, .inl mk.2.2.1)), (p8, .inl (cI, 150, .inl mk.2.2.2.2))] := hD
    refine lv_aload_n hx hb dX2_revert_42 rfl (lv_at hl 0 rfl) ?_
    refine va_get (D := (dC, dI)) (ci := 2) (v := .ref p2) (C := RX2) (T := TX2) (N := 12) hx hb hts i_X2_revert_X2 hown hK hP 0 rfl rfl 3 (by decide) (hts (.fieldLink RX2 13 "BlockTreeModel" "text" "[J") (by decide +kernel)) (fun _ h9 => h9) rfl dX2_revert_43 ?_
    refine lv_iload_n hx hb dX2_revert_46 rfl (lv_at hl 1 rfl) ?_
    refine lv_aload_n hx hb dX2_revert_47 rfl (lv_at hl 0 rfl) ?_
    refine va_get (D := (dC, dI)) (ci := 2) (v := .ref p4) (C := RX2) (T := TX2) (N := 12) hx hb hts i_X2_revert_X2 hown hK hP 0 rfl rfl 5 (by decide) (hts (.fieldLink RX2 19 "BlockTreeModel" "keptText" "[J") (by decide +kernel)) (fun _ h9 => h9) rfl dX2_revert_48 ?_
    refine lv_iload_n hx hb dX2_revert_51 rfl (lv_at hl 1 rfl) ?_
    refine va_lald hx hb hK hP 4 0 rfl rfl (vp_in_nI (by omega) (by omega)) dX2_revert_52 ?_
    refine lv_topl (fun z_3 ez_3 => ?_)
    rw [show ((nI w)).toNatClampNeg = w from (nI_clamp (by omega))] at ez_3
    subst ez_3
    refine va_last hx hb hK hP hD hS 2 0 rfl rfl (vp_in_nI (by omega) (by omega)) dX2_revert_53 (fun H locs hP hD hS => ?_)
    rw [show ((nI w)).toNatClampNeg = w from (nI_clamp (by omega))] at hP hD
    replace hP : va_P (dC, dI) vwCl [(y, .inr (2, [.int (nI mk.1), .int (nI mk.1), .ref p1, .ref p2, .ref p3, .ref p4, .ref p5, .ref p6, .ref p7, .ref p8, .long f.1, .int f.2])), (p1, .inl (cL, 151, .inr (.inl (vp_updL (va_cpy mk.2.1 mv.2.1 0 0 w) w (mk.2.1 w))))), (p2, .inl (cL, 151, .inr (.inl (vp_updL (va_cpy mk.2.2.2.1 mv.2.2.2.1 0 0 w) w (mk.2.2.2.1 w))))), (p3, .inl (cL, 150, .inr (.inl mk.2.1))), (p4, .inl (cL, 150, .inr (.inl mk.2.2.2.1))), (p5, .inl (cI, 151, .inl (upd (va_cpy mk.2.2.1 mv.2.2.1 0 0 w) w (mk.2.2.1 w)))), (p6, .inl (cI, 151, .inl (va_cpy mk.2.2.2.2 mv.2.2.2.2 0 0 w))), (p7, .inl (cI, 150, .inl mk.2.2.1)), (p8, .inl (cI, 150, .inl mk.2.2.2.2))] H := hP
    replace hD : va_D A [(y, .inr (2, [.int (nI mk.1), .int (nI mk.1), .ref p1, .ref p2, .ref p3, .ref p4, .ref p5, .ref p6, .ref p7, .ref p8, .long f.1, .int f.2])), (p1, .inl (cL, 151, .inr (.inl (vp_updL (va_cpy mk.2.1 mv.2.1 0 0 w) w (mk.2.1 w))))), (p2, .inl (cL, 151, .inr (.inl (vp_updL (va_cpy mk.2.2.2.1 mv.2.2.2.1 0 0 w) w (mk.2.2.2.1 w))))), (p3, .inl (cL, 150, .inr (.inl mk.2.1))), (p4, .inl (cL, 150, .inr (.inl mk.2.2.2.1))), (p5, .inl (cI, 151, .inl (upd (va_cpy mk.2.2.1 mv.2.2.1 0 0 w) w (mk.2.2.1 w)))), (p6, .inl (cI, 151, .inl (va_cpy mk.2.2.2.2 mv.2.2.2.2 0 0 w))), (p7, .inl (cI, 150, .inl mk.2.2.1)), (p8, .inl (cI, 150, .inl mk.2.2.2.2))] := hD
    refine lv_aload_n hx hb dX2_revert_54 rfl (lv_at hl 0 rfl) ?_
    refine va_get (D := (dC, dI)) (ci := 2) (v := .ref p6) (C := RX2) (T := TX2) (N := 12) hx hb hts i_X2_revert_X2 hown hK hP 0 rfl rfl 7 (by decide) (hts (.fieldLink RX2 26 "BlockTreeModel" "length" "[I") (by decide +kernel)) (fun _ h9 => h9) rfl dX2_revert_55 ?_
    refine lv_iload_n hx hb dX2_revert_58 rfl (lv_at hl 1 rfl) ?_
    refine lv_aload_n hx hb dX2_revert_59 rfl (lv_at hl 0 rfl) ?_
    refine va_get (D := (dC, dI)) (ci := 2) (v := .ref p8) (C := RX2) (T := TX2) (N := 12) hx hb hts i_X2_revert_X2 hown hK hP 0 rfl rfl 9 (by decide) (hts (.fieldLink RX2 32 "BlockTreeModel" "keptLength" "[I") (by decide +kernel)) (fun _ h9 => h9) rfl dX2_revert_60 ?_
    refine lv_iload_n hx hb dX2_revert_63 rfl (lv_at hl 1 rfl) ?_
    refine va_iald hx hb hK hP 8 1 rfl rfl (vp_in_nI (by omega) (by omega)) dX2_revert_64 ?_
    refine lv_topi (fun z_4 ez_4 => ?_)
    rw [show ((nI w)).toNatClampNeg = w from (nI_clamp (by omega))] at ez_4
    subst ez_4
    refine va_iast hx hb hK hP hD hS 6 1 rfl rfl (vp_in_nI (by omega) (by omega)) dX2_revert_65 (fun H locs hP hD hS => ?_)
    rw [show ((nI w)).toNatClampNeg = w from (nI_clamp (by omega))] at hP hD
    replace hP : va_P (dC, dI) vwCl [(y, .inr (2, [.int (nI mk.1), .int (nI mk.1), .ref p1, .ref p2, .ref p3, .ref p4, .ref p5, .ref p6, .ref p7, .ref p8, .long f.1, .int f.2])), (p1, .inl (cL, 151, .inr (.inl (vp_updL (va_cpy mk.2.1 mv.2.1 0 0 w) w (mk.2.1 w))))), (p2, .inl (cL, 151, .inr (.inl (vp_updL (va_cpy mk.2.2.2.1 mv.2.2.2.1 0 0 w) w (mk.2.2.2.1 w))))), (p3, .inl (cL, 150, .inr (.inl mk.2.1))), (p4, .inl (cL, 150, .inr (.inl mk.2.2.2.1))), (p5, .inl (cI, 151, .inl (upd (va_cpy mk.2.2.1 mv.2.2.1 0 0 w) w (mk.2.2.1 w)))), (p6, .inl (cI, 151, .inl (upd (va_cpy mk.2.2.2.2 mv.2.2.2.2 0 0 w) w (mk.2.2.2.2 w)))), (p7, .inl (cI, 150, .inl mk.2.2.1)), (p8, .inl (cI, 150, .inl mk.2.2.2.2))] H := hP
    replace hD : va_D A [(y, .inr (2, [.int (nI mk.1), .int (nI mk.1), .ref p1, .ref p2, .ref p3, .ref p4, .ref p5, .ref p6, .ref p7, .ref p8, .long f.1, .int f.2])), (p1, .inl (cL, 151, .inr (.inl (vp_updL (va_cpy mk.2.1 mv.2.1 0 0 w) w (mk.2.1 w))))), (p2, .inl (cL, 151, .inr (.inl (vp_updL (va_cpy mk.2.2.2.1 mv.2.2.2.1 0 0 w) w (mk.2.2.2.1 w))))), (p3, .inl (cL, 150, .inr (.inl mk.2.1))), (p4, .inl (cL, 150, .inr (.inl mk.2.2.2.1))), (p5, .inl (cI, 151, .inl (upd (va_cpy mk.2.2.1 mv.2.2.1 0 0 w) w (mk.2.2.1 w)))), (p6, .inl (cI, 151, .inl (upd (va_cpy mk.2.2.2.2 mv.2.2.2.2 0 0 w) w (mk.2.2.2.2 w)))), (p7, .inl (cI, 150, .inl mk.2.2.1)), (p8, .inl (cI, 150, .inl mk.2.2.2.2))] := hD
    refine lv_iinc (v := nI (w + 1)) (lv' := [(1, .int (nI (w + 1))), (0, .ref y)]) hx hb dX2_revert_66 hl (k := 1) rfl (nI_1 w) (by decide) rfl (fun ls hl => ?_)
    refine lv_goto (tgt := 10) hx hb dX2_revert_69 (by decide) ?_
    replace hP : va_P (dC, dI) vwCl [(y, .inr (2, [.int (nI mk.1), .int (nI mk.1), .ref p1, .ref p2, .ref p3, .ref p4, .ref p5, .ref p6, .ref p7, .ref p8, .long f.1, .int f.2])), (p1, .inl (cL, 151, .inr (.inl (va_cpy mk.2.1 mv.2.1 0 0 (w + 1))))), (p2, .inl (cL, 151, .inr (.inl (va_cpy mk.2.2.2.1 mv.2.2.2.1 0 0 (w + 1))))), (p3, .inl (cL, 150, .inr (.inl mk.2.1))), (p4, .inl (cL, 150, .inr (.inl mk.2.2.2.1))), (p5, .inl (cI, 151, .inl (va_cpy mk.2.2.1 mv.2.2.1 0 0 (w + 1)))), (p6, .inl (cI, 151, .inl (va_cpy mk.2.2.2.2 mv.2.2.2.2 0 0 (w + 1)))), (p7, .inl (cI, 150, .inl mk.2.2.1)), (p8, .inl (cI, 150, .inl mk.2.2.2.2))] H := by rw [← cpq_stepL (f := mk.2.1) (g := mv.2.1), ← cpq_stepI (f := mk.2.2.1) (g := mv.2.2.1), ← cpq_stepL (f := mk.2.2.2.1) (g := mv.2.2.2.1), ← cpq_stepI (f := mk.2.2.2.2) (g := mv.2.2.2.2)]; exact hP
    replace hD : va_D A [(y, .inr (2, [.int (nI mk.1), .int (nI mk.1), .ref p1, .ref p2, .ref p3, .ref p4, .ref p5, .ref p6, .ref p7, .ref p8, .long f.1, .int f.2])), (p1, .inl (cL, 151, .inr (.inl (va_cpy mk.2.1 mv.2.1 0 0 (w + 1))))), (p2, .inl (cL, 151, .inr (.inl (va_cpy mk.2.2.2.1 mv.2.2.2.1 0 0 (w + 1))))), (p3, .inl (cL, 150, .inr (.inl mk.2.1))), (p4, .inl (cL, 150, .inr (.inl mk.2.2.2.1))), (p5, .inl (cI, 151, .inl (va_cpy mk.2.2.1 mv.2.2.1 0 0 (w + 1)))), (p6, .inl (cI, 151, .inl (va_cpy mk.2.2.2.2 mv.2.2.2.2 0 0 (w + 1)))), (p7, .inl (cI, 150, .inl mk.2.2.1)), (p8, .inl (cI, 150, .inl mk.2.2.2.2))] := by rw [← cpq_stepL (f := mk.2.1) (g := mv.2.1), ← cpq_stepI (f := mk.2.2.1) (g := mv.2.2.1), ← cpq_stepL (f := mk.2.2.2.1) (g := mv.2.2.2.1), ← cpq_stepI (f := mk.2.2.2.2) (g := mv.2.2.2.2)]; exact hD
    apply ih (w := w + 1) (ls := ls) (H := H) (locs := locs)
    all_goals first | omega | exact lv_sub hl [1, 0] rfl | exact hP | exact hD | exact hS
set_option maxHeartbeats 4000000 in
set_option maxRecDepth 100000 in
/-- BlockTreeModel() -/
theorem m_init (l : Launch) (dC : Nat → ClassId) (dI : Nat → Nat → Nat) (hz : Nat) (cL cI : ClassId) (y : Nat) : Met l yX2_init wsX2_init ({ frames := 1, cells := 8, slots := 1204, locals := 20 }) (wrP (dC, dI) (kS cL cI) ([(y, .inr (2, [.int 0, .int 0, .null, .null, .null, .null, .null, .null, .null, .null, .long 0, .int 0]))]) [.ref y] hz) (va_Qv (fun (v : Nat × Nat × Nat × Nat × Nat × Nat × Nat × Nat) => True) (wrB (dC, dI) (va_A ([(y, .inr (2, [.int 0, .int 0, .null, .null, .null, .null, .null, .null, .null, .null, .long 0, .int 0]))]) hz) (fun (v : Nat × Nat × Nat × Nat × Nat × Nat × Nat × Nat) => mW cL cI y v.1 v.2.1 v.2.2.1 v.2.2.2.1 v.2.2.2.2.1 v.2.2.2.2.2.1 v.2.2.2.2.2.2.1 v.2.2.2.2.2.2.2 rs_0 rs_0 (0, 0))) (va_A ([(y, .inr (2, [.int 0, .int 0, .null, .null, .null, .null, .null, .null, .null, .null, .long 0, .int 0]))]) hz)) 8 1204 (va_A ([(y, .inr (2, [.int 0, .int 0, .null, .null, .null, .null, .null, .null, .null, .null, .long 0, .int 0]))]) hz) := by
  refine Met.ofW (cc := cX2_init) (maxL := 1) (ret := none) (by decide) rfl ?_
  intro p e s m args below meth c s₁ B hml hv
  obtain ⟨rfl, hsz, hP, hK, hD0⟩ := hv
  have hx := B.exec
  have hb := B.bytes
  have hr := B.returns
  have hts := atoms_spec (ws := wsX2_init) B.pre
  have hown : s.vm.findClass RX2 = some m.cls := findClass_of_methodNamed B.named
  have hlocks := B.notSynchronized
  have hin : meth.name = "<init>" := (name_of_methodNamed B.named B.method).1
  subst hsz
  have hD := hD0.self (sz := s.heap.size)
  generalize hAe : va_A ([(y, .inr (2, [.int 0, .int 0, .null, .null, .null, .null, .null, .null, .null, .null, .long 0, .int 0]))]) s.heap.size = A at hD ⊢
  have hA : ∀ q : Nat, s.heap.size ≤ q → A q := fun q h => by rw [← hAe]; exact Or.inr h
  have hS : va_S A s.heap s.heap [] := va_S.rf
  replace hP : va_P (dC, dI) vwCl [(y, .inr (2, [.int 0, .int 0, .null, .null, .null, .null, .null, .null, .null, .null, .long 0, .int 0]))] s.heap := hP
  replace hD : va_D A [(y, .inr (2, [.int 0, .int 0, .null, .null, .null, .null, .null, .null, .null, .null, .long 0, .int 0]))] := hD
  have hl := lv_entry ([.ref y]) (n := 1) (Nat.le_of_ble_eq_true rfl)
  rw [lg_entry_eq]
  generalize (lg_sl ([.ref y]) ++ List.replicate (1 - (lg_sl ([.ref y])).length) Slot.unset).toArray = ls at hl ⊢
  replace hl : lv_has ls 1 [(0, .ref y)] := hl
  refine lv_aload_n hx hb dX2_init_0 rfl (lv_at hl 0 rfl) ?_
  refine W.objInit hx hb hown (hts (.methodLink RX2 1 objectInit) (by decide +kernel)) (hts (.instanceMethod objectInit) (by decide +kernel)) (hts _ (List.mem_cons_of_mem _ (List.mem_append_left _ (List.mem_of_getElem? (i := 2) rfl)))) rfl (by rw [hml]; exact hl.1) rfl dX2_init_1 (Nat.le_of_ble_eq_true rfl) (Nat.le_of_ble_eq_true rfl) ?_
  refine W.eq (g2 := F0 m 4 ls []) rfl ?_
  refine lv_aload_n hx hb dX2_init_4 rfl (lv_at hl 0 rfl) ?_
  refine lv_sipush (v := 151) hx hb dX2_init_5 (by decide) ?_
  refine va_newa (atype := .long) (N' := 151) (a0 := (151, .inr (.inl (fun _ => 0)))) (ty := .long) (n := 151) hx hb (hts (.arrayClass .long) (by decide +kernel)) rfl hK hP hD hS hA (fun _ => rfl) (by decide +kernel) (by decide +kernel) (by decide +kernel) (by decide +kernel) (by decide +kernel) dX2_init_8 (fun p1 cA_p1 H hKn hP hD hS => ?_)
  obtain rfl : cL = cA_p1 := ka_long hKn hK 2 0 rfl rfl
  replace hP : va_P (dC, dI) vwCl [(y, .inr (2, [.int 0, .int 0, .null, .null, .null, .null, .null, .null, .null, .null, .long 0, .int 0])), (p1, .inl (cL, 151, .inr (.inl (fun _ => 0))))] H := hP
  replace hD : va_D A [(y, .inr (2, [.int 0, .int 0, .null, .null, .null, .null, .null, .null, .null, .null, .long 0, .int 0])), (p1, .inl (cL, 151, .inr (.inl (fun _ => 0))))] := hD
  refine W.widen (k := 1) (n := 151) (by omega) (by omega) ?_
  refine va_putF (D := (dC, dI)) (ci := 2) (v := .ref p1) (ty := .array .long) (C := RX2) (T := TX2) (N := 12) hx hb hts i_X2_init_X2 tyX2 tyX2_ok nmX2 hown hK hP hD hS 0 rfl rfl 2 (by decide) (hts (.fieldLink RX2 7 "BlockTreeModel" "key" "[J") (by decide +kernel)) (fun _ h9 => h9) rfl hin rfl (by decide +kernel) rfl rfl (Nat.le_of_ble_eq_true rfl) dX2_init_10 (fun H locs hP hD hS => ?_)
  replace hP : va_P (dC, dI) vwCl [(y, .inr (2, [.int 0, .int 0, .ref p1, .null, .null, .null, .null, .null, .null, .null, .long 0, .int 0])), (p1, .inl (cL, 151, .inr (.inl (fun _ => 0))))] H := hP
  replace hD : va_D A [(y, .inr (2, [.int 0, .int 0, .ref p1, .null, .null, .null, .null, .null, .null, .null, .long 0, .int 0])), (p1, .inl (cL, 151, .inr (.inl (fun _ => 0))))] := hD
  refine lv_aload_n hx hb dX2_init_13 rfl (lv_at hl 0 rfl) ?_
  refine lv_sipush (v := 151) hx hb dX2_init_14 (by decide) ?_
  refine va_newa (atype := .long) (N' := 151) (a0 := (151, .inr (.inl (fun _ => 0)))) (ty := .long) (n := 151) hx hb (hts (.arrayClass .long) (by decide +kernel)) rfl hK hP hD hS hA (fun _ => rfl) (by decide +kernel) (by decide +kernel) (by decide +kernel) (by decide +kernel) (by decide +kernel) dX2_init_17 (fun p2 cA_p2 H hKn hP hD hS => ?_)
  obtain rfl : cL = cA_p2 := ka_long hKn hK 2 0 rfl rfl
  replace hP : va_P (dC, dI) vwCl [(y, .inr (2, [.int 0, .int 0, .ref p1, .null, .null, .null, .null, .null, .null, .null, .long 0, .int 0])), (p1, .inl (cL, 151, .inr (.inl (fun _ => 0)))), (p2, .inl (cL, 151, .inr (.inl (fun _ => 0))))] H := hP
  replace hD : va_D A [(y, .inr (2, [.int 0, .int 0, .ref p1, .null, .null, .null, .null, .null, .null, .null, .long 0, .int 0])), (p1, .inl (cL, 151, .inr (.inl (fun _ => 0)))), (p2, .inl (cL, 151, .inr (.inl (fun _ => 0))))] := hD
  refine W.widen (k := 2) (n := 302) (by omega) (by omega) ?_
  refine va_putF (D := (dC, dI)) (ci := 2) (v := .ref p2) (ty := .array .long) (C := RX2) (T := TX2) (N := 12) hx hb hts i_X2_init_X2 tyX2 tyX2_ok nmX2 hown hK hP hD hS 0 rfl rfl 3 (by decide) (hts (.fieldLink RX2 13 "BlockTreeModel" "text" "[J") (by decide +kernel)) (fun _ h9 => h9) rfl hin rfl (by decide +kernel) rfl rfl (Nat.le_of_ble_eq_true rfl) dX2_init_19 (fun H locs hP hD hS => ?_)
  replace hP : va_P (dC, dI) vwCl [(y, .inr (2, [.int 0, .int 0, .ref p1, .ref p2, .null, .null, .null, .null, .null, .null, .long 0, .int 0])), (p1, .inl (cL, 151, .inr (.inl (fun _ => 0)))), (p2, .inl (cL, 151, .inr (.inl (fun _ => 0))))] H := hP
  replace hD : va_D A [(y, .inr (2, [.int 0, .int 0, .ref p1, .ref p2, .null, .null, .null, .null, .null, .null, .long 0, .int 0])), (p1, .inl (cL, 151, .inr (.inl (fun _ => 0)))), (p2, .inl (cL, 151, .inr (.inl (fun _ => 0))))] := hD
  refine lv_aload_n hx hb dX2_init_22 rfl (lv_at hl 0 rfl) ?_
  refine lv_sipush (v := 150) hx hb dX2_init_23 (by decide) ?_
  refine va_newa (atype := .long) (N' := 150) (a0 := (150, .inr (.inl (fun _ => 0)))) (ty := .long) (n := 150) hx hb (hts (.arrayClass .long) (by decide +kernel)) rfl hK hP hD hS hA (fun _ => rfl) (by decide +kernel) (by decide +kernel) (by decide +kernel) (by decide +kernel) (by decide +kernel) dX2_init_26 (fun p3 cA_p3 H hKn hP hD hS => ?_)
  obtain rfl : cL = cA_p3 := ka_long hKn hK 2 0 rfl rfl
  replace hP : va_P (dC, dI) vwCl [(y, .inr (2, [.int 0, .int 0, .ref p1, .ref p2, .null, .null, .null, .null, .null, .null, .long 0, .int 0])), (p1, .inl (cL, 151, .inr (.inl (fun _ => 0)))), (p2, .inl (cL, 151, .inr (.inl (fun _ => 0)))), (p3, .inl (cL, 150, .inr (.inl (fun _ => 0))))] H := hP
  replace hD : va_D A [(y, .inr (2, [.int 0, .int 0, .ref p1, .ref p2, .null, .null, .null, .null, .null, .null, .long 0, .int 0])), (p1, .inl (cL, 151, .inr (.inl (fun _ => 0)))), (p2, .inl (cL, 151, .inr (.inl (fun _ => 0)))), (p3, .inl (cL, 150, .inr (.inl (fun _ => 0))))] := hD
  refine W.widen (k := 3) (n := 452) (by omega) (by omega) ?_
  refine va_putF (D := (dC, dI)) (ci := 2) (v := .ref p3) (ty := .array .long) (C := RX2) (T := TX2) (N := 12) hx hb hts i_X2_init_X2 tyX2 tyX2_ok nmX2 hown hK hP hD hS 0 rfl rfl 4 (by decide) (hts (.fieldLink RX2 16 "BlockTreeModel" "keptKey" "[J") (by decide +kernel)) (fun _ h9 => h9) rfl hin rfl (by decide +kernel) rfl rfl (Nat.le_of_ble_eq_true rfl) dX2_init_28 (fun H locs hP hD hS => ?_)
  replace hP : va_P (dC, dI) vwCl [(y, .inr (2, [.int 0, .int 0, .ref p1, .ref p2, .ref p3, .null, .null, .null, .null, .null, .long 0, .int 0])), (p1, .inl (cL, 151, .inr (.inl (fun _ => 0)))), (p2, .inl (cL, 151, .inr (.inl (fun _ => 0)))), (p3, .inl (cL, 150, .inr (.inl (fun _ => 0))))] H := hP
  replace hD : va_D A [(y, .inr (2, [.int 0, .int 0, .ref p1, .ref p2, .ref p3, .null, .null, .null, .null, .null, .long 0, .int 0])), (p1, .inl (cL, 151, .inr (.inl (fun _ => 0)))), (p2, .inl (cL, 151, .inr (.inl (fun _ => 0)))), (p3, .inl (cL, 150, .inr (.inl (fun _ => 0))))] := hD
  refine lv_aload_n hx hb dX2_init_31 rfl (lv_at hl 0 rfl) ?_
  refine lv_sipush (v := 150) hx hb dX2_init_32 (by decide) ?_
  refine va_newa (atype := .long) (N' := 150) (a0 := (150, .inr (.inl (fun _ => 0)))) (ty := .long) (n := 150) hx hb (hts (.arrayClass .long) (by decide +kernel)) rfl hK hP hD hS hA (fun _ => rfl) (by decide +kernel) (by decide +kernel) (by decide +kernel) (by decide +kernel) (by decide +kernel) dX2_init_35 (fun p4 cA_p4 H hKn hP hD hS => ?_)
  obtain rfl : cL = cA_p4 := ka_long hKn hK 2 0 rfl rfl
  replace hP : va_P (dC, dI) vwCl [(y, .inr (2, [.int 0, .int 0, .ref p1, .ref p2, .ref p3, .null, .null, .null, .null, .null, .long 0, .int 0])), (p1, .inl (cL, 151, .inr (.inl (fun _ => 0)))), (p2, .inl (cL, 151, .inr (.inl (fun _ => 0)))), (p3, .inl (cL, 150, .inr (.inl (fun _ => 0)))), (p4, .inl (cL, 150, .inr (.inl (fun _ => 0))))] H := hP
  replace hD : va_D A [(y, .inr (2, [.int 0, .int 0, .ref p1, .ref p2, .ref p3, .null, .null, .null, .null, .null, .long 0, .int 0])), (p1, .inl (cL, 151, .inr (.inl (fun _ => 0)))), (p2, .inl (cL, 151, .inr (.inl (fun _ => 0)))), (p3, .inl (cL, 150, .inr (.inl (fun _ => 0)))), (p4, .inl (cL, 150, .inr (.inl (fun _ => 0))))] := hD
  refine W.widen (k := 4) (n := 602) (by omega) (by omega) ?_
  refine va_putF (D := (dC, dI)) (ci := 2) (v := .ref p4) (ty := .array .long) (C := RX2) (T := TX2) (N := 12) hx hb hts i_X2_init_X2 tyX2 tyX2_ok nmX2 hown hK hP hD hS 0 rfl rfl 5 (by decide) (hts (.fieldLink RX2 19 "BlockTreeModel" "keptText" "[J") (by decide +kernel)) (fun _ h9 => h9) rfl hin rfl (by decide +kernel) rfl rfl (Nat.le_of_ble_eq_true rfl) dX2_init_37 (fun H locs hP hD hS => ?_)
  replace hP : va_P (dC, dI) vwCl [(y, .inr (2, [.int 0, .int 0, .ref p1, .ref p2, .ref p3, .ref p4, .null, .null, .null, .null, .long 0, .int 0])), (p1, .inl (cL, 151, .inr (.inl (fun _ => 0)))), (p2, .inl (cL, 151, .inr (.inl (fun _ => 0)))), (p3, .inl (cL, 150, .inr (.inl (fun _ => 0)))), (p4, .inl (cL, 150, .inr (.inl (fun _ => 0))))] H := hP
  replace hD : va_D A [(y, .inr (2, [.int 0, .int 0, .ref p1, .ref p2, .ref p3, .ref p4, .null, .null, .null, .null, .long 0, .int 0])), (p1, .inl (cL, 151, .inr (.inl (fun _ => 0)))), (p2, .inl (cL, 151, .inr (.inl (fun _ => 0)))), (p3, .inl (cL, 150, .inr (.inl (fun _ => 0)))), (p4, .inl (cL, 150, .inr (.inl (fun _ => 0))))] := hD
  refine lv_aload_n hx hb dX2_init_40 rfl (lv_at hl 0 rfl) ?_
  refine lv_sipush (v := 151) hx hb dX2_init_41 (by decide) ?_
  refine va_newa (atype := .int) (N' := 151) (a0 := (151, .inl (fun _ => 0))) (ty := .int) (n := 151) hx hb (hts (.arrayClass .int) (by decide +kernel)) rfl hK hP hD hS hA (fun _ => rfl) (by decide +kernel) (by decide +kernel) (by decide +kernel) (by decide +kernel) (by decide +kernel) dX2_init_44 (fun p5 cA_p5 H hKn hP hD hS => ?_)
  obtain rfl : cI = cA_p5 := ka_int hKn hK 2 1 rfl rfl
  replace hP : va_P (dC, dI) vwCl [(y, .inr (2, [.int 0, .int 0, .ref p1, .ref p2, .ref p3, .ref p4, .null, .null, .null, .null, .long 0, .int 0])), (p1, .inl (cL, 151, .inr (.inl (fun _ => 0)))), (p2, .inl (cL, 151, .inr (.inl (fun _ => 0)))), (p3, .inl (cL, 150, .inr (.inl (fun _ => 0)))), (p4, .inl (cL, 150, .inr (.inl (fun _ => 0)))), (p5, .inl (cI, 151, .inl (fun _ => 0)))] H := hP
  replace hD : va_D A [(y, .inr (2, [.int 0, .int 0, .ref p1, .ref p2, .ref p3, .ref p4, .null, .null, .null, .null, .long 0, .int 0])), (p1, .inl (cL, 151, .inr (.inl (fun _ => 0)))), (p2, .inl (cL, 151, .inr (.inl (fun _ => 0)))), (p3, .inl (cL, 150, .inr (.inl (fun _ => 0)))), (p4, .inl (cL, 150, .inr (.inl (fun _ => 0)))), (p5, .inl (cI, 151, .inl (fun _ => 0)))] := hD
  refine W.widen (k := 5) (n := 753) (by omega) (by omega) ?_
  refine va_putF (D := (dC, dI)) (ci := 2) (v := .ref p5) (ty := .array .int) (C := RX2) (T := TX2) (N := 12) hx hb hts i_X2_init_X2 tyX2 tyX2_ok nmX2 hown hK hP hD hS 0 rfl rfl 6 (by decide) (hts (.fieldLink RX2 22 "BlockTreeModel" "size" "[I") (by decide +kernel)) (fun _ h9 => h9) rfl hin rfl (by decide +kernel) rfl rfl (Nat.le_of_ble_eq_true rfl) dX2_init_46 (fun H locs hP hD hS => ?_)
  replace hP : va_P (dC, dI) vwCl [(y, .inr (2, [.int 0, .int 0, .ref p1, .ref p2, .ref p3, .ref p4, .ref p5, .null, .null, .null, .long 0, .int 0])), (p1, .inl (cL, 151, .inr (.inl (fun _ => 0)))), (p2, .inl (cL, 151, .inr (.inl (fun _ => 0)))), (p3, .inl (cL, 150, .inr (.inl (fun _ => 0)))), (p4, .inl (cL, 150, .inr (.inl (fun _ => 0)))), (p5, .inl (cI, 151, .inl (fun _ => 0)))] H := hP
  replace hD : va_D A [(y, .inr (2, [.int 0, .int 0, .ref p1, .ref p2, .ref p3, .ref p4, .ref p5, .null, .null, .null, .long 0, .int 0])), (p1, .inl (cL, 151, .inr (.inl (fun _ => 0)))), (p2, .inl (cL, 151, .inr (.inl (fun _ => 0)))), (p3, .inl (cL, 150, .inr (.inl (fun _ => 0)))), (p4, .inl (cL, 150, .inr (.inl (fun _ => 0)))), (p5, .inl (cI, 151, .inl (fun _ => 0)))] := hD
  refine lv_aload_n hx hb dX2_init_49 rfl (lv_at hl 0 rfl) ?_
  refine lv_sipush (v := 151) hx hb dX2_init_50 (by decide) ?_
  refine va_newa (atype := .int) (N' := 151) (a0 := (151, .inl (fun _ => 0))) (ty := .int) (n := 151) hx hb (hts (.arrayClass .int) (by decide +kernel)) rfl hK hP hD hS hA (fun _ => rfl) (by decide +kernel) (by decide +kernel) (by decide +kernel) (by decide +kernel) (by decide +kernel) dX2_init_53 (fun p6 cA_p6 H hKn hP hD hS => ?_)
  obtain rfl : cI = cA_p6 := ka_int hKn hK 2 1 rfl rfl
  replace hP : va_P (dC, dI) vwCl [(y, .inr (2, [.int 0, .int 0, .ref p1, .ref p2, .ref p3, .ref p4, .ref p5, .null, .null, .null, .long 0, .int 0])), (p1, .inl (cL, 151, .inr (.inl (fun _ => 0)))), (p2, .inl (cL, 151, .inr (.inl (fun _ => 0)))), (p3, .inl (cL, 150, .inr (.inl (fun _ => 0)))), (p4, .inl (cL, 150, .inr (.inl (fun _ => 0)))), (p5, .inl (cI, 151, .inl (fun _ => 0))), (p6, .inl (cI, 151, .inl (fun _ => 0)))] H := hP
  replace hD : va_D A [(y, .inr (2, [.int 0, .int 0, .ref p1, .ref p2, .ref p3, .ref p4, .ref p5, .null, .null, .null, .long 0, .int 0])), (p1, .inl (cL, 151, .inr (.inl (fun _ => 0)))), (p2, .inl (cL, 151, .inr (.inl (fun _ => 0)))), (p3, .inl (cL, 150, .inr (.inl (fun _ => 0)))), (p4, .inl (cL, 150, .inr (.inl (fun _ => 0)))), (p5, .inl (cI, 151, .inl (fun _ => 0))), (p6, .inl (cI, 151, .inl (fun _ => 0)))] := hD
  refine W.widen (k := 6) (n := 904) (by omega) (by omega) ?_
  refine va_putF (D := (dC, dI)) (ci := 2) (v := .ref p6) (ty := .array .int) (C := RX2) (T := TX2) (N := 12) hx hb hts i_X2_init_X2 tyX2 tyX2_ok nmX2 hown hK hP hD hS 0 rfl rfl 7 (by decide) (hts (.fieldLink RX2 26 "BlockTreeModel" "length" "[I") (by decide +kernel)) (fun _ h9 => h9) rfl hin rfl (by decide +kernel) rfl rfl (Nat.le_of_ble_eq_true rfl) dX2_init_55 (fun H locs hP hD hS => ?_)
  replace hP : va_P (dC, dI) vwCl [(y, .inr (2, [.int 0, .int 0, .ref p1, .ref p2, .ref p3, .ref p4, .ref p5, .ref p6, .null, .null, .long 0, .int 0])), (p1, .inl (cL, 151, .inr (.inl (fun _ => 0)))), (p2, .inl (cL, 151, .inr (.inl (fun _ => 0)))), (p3, .inl (cL, 150, .inr (.inl (fun _ => 0)))), (p4, .inl (cL, 150, .inr (.inl (fun _ => 0)))), (p5, .inl (cI, 151, .inl (fun _ => 0))), (p6, .inl (cI, 151, .inl (fun _ => 0)))] H := hP
  replace hD : va_D A [(y, .inr (2, [.int 0, .int 0, .ref p1, .ref p2, .ref p3, .ref p4, .ref p5, .ref p6, .null, .null, .long 0, .int 0])), (p1, .inl (cL, 151, .inr (.inl (fun _ => 0)))), (p2, .inl (cL, 151, .inr (.inl (fun _ => 0)))), (p3, .inl (cL, 150, .inr (.inl (fun _ => 0)))), (p4, .inl (cL, 150, .inr (.inl (fun _ => 0)))), (p5, .inl (cI, 151, .inl (fun _ => 0))), (p6, .inl (cI, 151, .inl (fun _ => 0)))] := hD
  refine lv_aload_n hx hb dX2_init_58 rfl (lv_at hl 0 rfl) ?_
  refine lv_sipush (v := 150) hx hb dX2_init_59 (by decide) ?_
  refine va_newa (atype := .int) (N' := 150) (a0 := (150, .inl (fun _ => 0))) (ty := .int) (n := 150) hx hb (hts (.arrayClass .int) (by decide +kernel)) rfl hK hP hD hS hA (fun _ => rfl) (by decide +kernel) (by decide +kernel) (by decide +kernel) (by decide +kernel) (by decide +kernel) dX2_init_62 (fun p7 cA_p7 H hKn hP hD hS => ?_)
  obtain rfl : cI = cA_p7 := ka_int hKn hK 2 1 rfl rfl
  replace hP : va_P (dC, dI) vwCl [(y, .inr (2, [.int 0, .int 0, .ref p1, .ref p2, .ref p3, .ref p4, .ref p5, .ref p6, .null, .null, .long 0, .int 0])), (p1, .inl (cL, 151, .inr (.inl (fun _ => 0)))), (p2, .inl (cL, 151, .inr (.inl (fun _ => 0)))), (p3, .inl (cL, 150, .inr (.inl (fun _ => 0)))), (p4, .inl (cL, 150, .inr (.inl (fun _ => 0)))), (p5, .inl (cI, 151, .inl (fun _ => 0))), (p6, .inl (cI, 151, .inl (fun _ => 0))), (p7, .inl (cI, 150, .inl (fun _ => 0)))] H := hP
  replace hD : va_D A [(y, .inr (2, [.int 0, .int 0, .ref p1, .ref p2, .ref p3, .ref p4, .ref p5, .ref p6, .null, .null, .long 0, .int 0])), (p1, .inl (cL, 151, .inr (.inl (fun _ => 0)))), (p2, .inl (cL, 151, .inr (.inl (fun _ => 0)))), (p3, .inl (cL, 150, .inr (.inl (fun _ => 0)))), (p4, .inl (cL, 150, .inr (.inl (fun _ => 0)))), (p5, .inl (cI, 151, .inl (fun _ => 0))), (p6, .inl (cI, 151, .inl (fun _ => 0))), (p7, .inl (cI, 150, .inl (fun _ => 0)))] := hD
  refine W.widen (k := 7) (n := 1054) (by omega) (by omega) ?_
  refine va_putF (D := (dC, dI)) (ci := 2) (v := .ref p7) (ty := .array .int) (C := RX2) (T := TX2) (N := 12) hx hb hts i_X2_init_X2 tyX2 tyX2_ok nmX2 hown hK hP hD hS 0 rfl rfl 8 (by decide) (hts (.fieldLink RX2 29 "BlockTreeModel" "keptSize" "[I") (by decide +kernel)) (fun _ h9 => h9) rfl hin rfl (by decide +kernel) rfl rfl (Nat.le_of_ble_eq_true rfl) dX2_init_64 (fun H locs hP hD hS => ?_)
  replace hP : va_P (dC, dI) vwCl [(y, .inr (2, [.int 0, .int 0, .ref p1, .ref p2, .ref p3, .ref p4, .ref p5, .ref p6, .ref p7, .null, .long 0, .int 0])), (p1, .inl (cL, 151, .inr (.inl (fun _ => 0)))), (p2, .inl (cL, 151, .inr (.inl (fun _ => 0)))), (p3, .inl (cL, 150, .inr (.inl (fun _ => 0)))), (p4, .inl (cL, 150, .inr (.inl (fun _ => 0)))), (p5, .inl (cI, 151, .inl (fun _ => 0))), (p6, .inl (cI, 151, .inl (fun _ => 0))), (p7, .inl (cI, 150, .inl (fun _ => 0)))] H := hP
  replace hD : va_D A [(y, .inr (2, [.int 0, .int 0, .ref p1, .ref p2, .ref p3, .ref p4, .ref p5, .ref p6, .ref p7, .null, .long 0, .int 0])), (p1, .inl (cL, 151, .inr (.inl (fun _ => 0)))), (p2, .inl (cL, 151, .inr (.inl (fun _ => 0)))), (p3, .inl (cL, 150, .inr (.inl (fun _ => 0)))), (p4, .inl (cL, 150, .inr (.inl (fun _ => 0)))), (p5, .inl (cI, 151, .inl (fun _ => 0))), (p6, .inl (cI, 151, .inl (fun _ => 0))), (p7, .inl (cI, 150, .inl (fun _ => 0)))] := hD
  refine lv_aload_n hx hb dX2_init_67 rfl (lv_at hl 0 rfl) ?_
  refine lv_sipush (v := 150) hx hb dX2_init_68 (by decide) ?_
  refine va_newa (atype := .int) (N' := 150) (a0 := (150, .inl (fun _ => 0))) (ty := .int) (n := 150) hx hb (hts (.arrayClass .int) (by decide +kernel)) rfl hK hP hD hS hA (fun _ => rfl) (by decide +kernel) (by decide +kernel) (by decide +kernel) (by decide +kernel) (by decide +kernel) dX2_init_71 (fun p8 cA_p8 H hKn hP hD hS => ?_)
  obtain rfl : cI = cA_p8 := ka_int hKn hK 2 1 rfl rfl
  replace hP : va_P (dC, dI) vwCl [(y, .inr (2, [.int 0, .int 0, .ref p1, .ref p2, .ref p3, .ref p4, .ref p5, .ref p6, .ref p7, .null, .long 0, .int 0])), (p1, .inl (cL, 151, .inr (.inl (fun _ => 0)))), (p2, .inl (cL, 151, .inr (.inl (fun _ => 0)))), (p3, .inl (cL, 150, .inr (.inl (fun _ => 0)))), (p4, .inl (cL, 150, .inr (.inl (fun _ => 0)))), (p5, .inl (cI, 151, .inl (fun _ => 0))), (p6, .inl (cI, 151, .inl (fun _ => 0))), (p7, .inl (cI, 150, .inl (fun _ => 0))), (p8, .inl (cI, 150, .inl (fun _ => 0)))] H := hP
  replace hD : va_D A [(y, .inr (2, [.int 0, .int 0, .ref p1, .ref p2, .ref p3, .ref p4, .ref p5, .ref p6, .ref p7, .null, .long 0, .int 0])), (p1, .inl (cL, 151, .inr (.inl (fun _ => 0)))), (p2, .inl (cL, 151, .inr (.inl (fun _ => 0)))), (p3, .inl (cL, 150, .inr (.inl (fun _ => 0)))), (p4, .inl (cL, 150, .inr (.inl (fun _ => 0)))), (p5, .inl (cI, 151, .inl (fun _ => 0))), (p6, .inl (cI, 151, .inl (fun _ => 0))), (p7, .inl (cI, 150, .inl (fun _ => 0))), (p8, .inl (cI, 150, .inl (fun _ => 0)))] := hD
  refine W.widen (k := 8) (n := 1204) (by omega) (by omega) ?_
  refine va_putF (D := (dC, dI)) (ci := 2) (v := .ref p8) (ty := .array .int) (C := RX2) (T := TX2) (N := 12) hx hb hts i_X2_init_X2 tyX2 tyX2_ok nmX2 hown hK hP hD hS 0 rfl rfl 9 (by decide) (hts (.fieldLink RX2 32 "BlockTreeModel" "keptLength" "[I") (by decide +kernel)) (fun _ h9 => h9) rfl hin rfl (by decide +kernel) rfl rfl (Nat.le_of_ble_eq_true rfl) dX2_init_73 (fun H locs hP hD hS => ?_)
  replace hP : va_P (dC, dI) vwCl [(y, .inr (2, [.int 0, .int 0, .ref p1, .ref p2, .ref p3, .ref p4, .ref p5, .ref p6, .ref p7, .ref p8, .long 0, .int 0])), (p1, .inl (cL, 151, .inr (.inl (fun _ => 0)))), (p2, .inl (cL, 151, .inr (.inl (fun _ => 0)))), (p3, .inl (cL, 150, .inr (.inl (fun _ => 0)))), (p4, .inl (cL, 150, .inr (.inl (fun _ => 0)))), (p5, .inl (cI, 151, .inl (fun _ => 0))), (p6, .inl (cI, 151, .inl (fun _ => 0))), (p7, .inl (cI, 150, .inl (fun _ => 0))), (p8, .inl (cI, 150, .inl (fun _ => 0)))] H := hP
  replace hD : va_D A [(y, .inr (2, [.int 0, .int 0, .ref p1, .ref p2, .ref p3, .ref p4, .ref p5, .ref p6, .ref p7, .ref p8, .long 0, .int 0])), (p1, .inl (cL, 151, .inr (.inl (fun _ => 0)))), (p2, .inl (cL, 151, .inr (.inl (fun _ => 0)))), (p3, .inl (cL, 150, .inr (.inl (fun _ => 0)))), (p4, .inl (cL, 150, .inr (.inl (fun _ => 0)))), (p5, .inl (cI, 151, .inl (fun _ => 0))), (p6, .inl (cI, 151, .inl (fun _ => 0))), (p7, .inl (cI, 150, .inl (fun _ => 0))), (p8, .inl (cI, 150, .inl (fun _ => 0)))] := hD
  exact W.vret hx hb hr (fun t9 ht hW => ⟨⟨(p1, p2, p3, p4, p5, p6, p7, p8), rfl, trivial, by rw [ht]; exact hP, hD⟩, hS.F ht⟩) hS.2.2 dX2_init_76
