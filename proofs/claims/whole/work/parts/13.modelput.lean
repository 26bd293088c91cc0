theorem okT_nat {t : Int32} (h : okT t) : ∃ n, n ≤ 8 ∧ t = nI n := by
  obtain ⟨h1, h2⟩ := h
  have e8 : (8 : Int32).toInt = 8 := by decide
  rw [Int32.lt_iff_toInt_lt, e8] at h2
  obtain ⟨j, hj, rfl⟩ := nI_of h1
  rw [nI_toInt hj] at h2
  exact ⟨j, by omega, rfl⟩
set_option maxHeartbeats 4000000 in
set_option maxRecDepth 100000 in
/-- put -/
theorem m_put (l : Launch) (dC : Nat → ClassId) (dI : Nat → Nat → Nat) (hz : Nat) (cL cI : ClassId) (y p1 p2 p3 p4 p5 p6 p7 p8 : Nat) (mv mk : RS) (f : Int64 × Int32) (hm : mok mv) (q : Int64) (t : Int32) (b : Int64) (n : Int32) (j : Nat) (hj : okK t → mpl mv (hdOf q t) t j) : Met l yX2_put wsX2_put ({ frames := 3, cells := 0, slots := 0, locals := 74 }) (wrP (dC, dI) (kS cL cI) (mW cL cI y p1 p2 p3 p4 p5 p6 p7 p8 mv mk f) [.ref y, .long q, .int t, .long b, .int n] hz) (va_Qi (fun (z : Int32) (v : RS) => (okK t ∧ okT n ∧ msQ mv j (hdOf q t) (lowB q t) t (lowB b n) n z v) ∨ (¬ (okK t ∧ okT n) ∧ z = 0 ∧ v = mv)) (wrB (dC, dI) (va_A (mW cL cI y p1 p2 p3 p4 p5 p6 p7 p8 mv mk f) hz) (fun (v : RS) => mW cL cI y p1 p2 p3 p4 p5 p6 p7 p8 v mk f)) (va_A (mW cL cI y p1 p2 p3 p4 p5 p6 p7 p8 mv mk f) hz)) 0 0 (va_A (mW cL cI y p1 p2 p3 p4 p5 p6 p7 p8 mv mk f) hz) := by
  refine Met.ofW (cc := cX2_put) (maxL := 9) (ret := some .boolean) (by decide) rfl ?_
  intro p e s m args below meth c s₁ B hml hv
  obtain ⟨rfl, hsz, hP, hK, hD0⟩ := hv
  have hx := B.exec
  have hb := B.bytes
  have hr := B.returns
  have hts := atoms_spec (ws := wsX2_put) B.pre
  have hown : s.vm.findClass RX2 = some m.cls := findClass_of_methodNamed B.named
  have hlocks := B.notSynchronized
  subst hsz
  have hD := hD0.self (sz := s.heap.size)
  generalize hAe : va_A (mW cL cI y p1 p2 p3 p4 p5 p6 p7 p8 mv mk f) s.heap.size = A at hD ⊢
  have hA : ∀ q : Nat, s.heap.size ≤ q → A q := fun q h => by rw [← hAe]; exact Or.inr h
  have hS : va_S A s.heap s.heap [] := va_S.rf
  replace hP : va_P (dC, dI) vwCl [(y, .inr (2, [.int (nI mv.1), .int (nI mk.1), .ref p1, .ref p2, .ref p3, .ref p4, .ref p5, .ref p6, .ref p7, .ref p8, .long f.1, .int f.2])), (p1, .inl (cL, 151, .inr (.inl mv.2.1))), (p2, .inl (cL, 151, .inr (.inl mv.2.2.2.1))), (p3, .inl (cL, 150, .inr (.inl mk.2.1))), (p4, .inl (cL, 150, .inr (.inl mk.2.2.2.1))), (p5, .inl (cI, 151, .inl mv.2.2.1)), (p6, .inl (cI, 151, .inl mv.2.2.2.2)), (p7, .inl (cI, 150, .inl mk.2.2.1)), (p8, .inl (cI, 150, .inl mk.2.2.2.2))] s.heap := hP
  replace hD : va_D A [(y, .inr (2, [.int (nI mv.1), .int (nI mk.1), .ref p1, .ref p2, .ref p3, .ref p4, .ref p5, .ref p6, .ref p7, .ref p8, .long f.1, .int f.2])), (p1, .inl (cL, 151, .inr (.inl mv.2.1))), (p2, .inl (cL, 151, .inr (.inl mv.2.2.2.1))), (p3, .inl (cL, 150, .inr (.inl mk.2.1))), (p4, .inl (cL, 150, .inr (.inl mk.2.2.2.1))), (p5, .inl (cI, 151, .inl mv.2.2.1)), (p6, .inl (cI, 151, .inl mv.2.2.2.2)), (p7, .inl (cI, 150, .inl mk.2.2.1)), (p8, .inl (cI, 150, .inl mk.2.2.2.2))] := hD
  clear hD0
  refine w_gen _ _ (fun H locs hH hlo => ?_)
  replace hP : va_P (dC, dI) vwCl [(y, .inr (2, [.int (nI mv.1), .int (nI mk.1), .ref p1, .ref p2, .ref p3, .ref p4, .ref p5, .ref p6, .ref p7, .ref p8, .long f.1, .int f.2])), (p1, .inl (cL, 151, .inr (.inl mv.2.1))), (p2, .inl (cL, 151, .inr (.inl mv.2.2.2.1))), (p3, .inl (cL, 150, .inr (.inl mk.2.1))), (p4, .inl (cL, 150, .inr (.inl mk.2.2.2.1))), (p5, .inl (cI, 151, .inl mv.2.2.1)), (p6, .inl (cI, 151, .inl mv.2.2.2.2)), (p7, .inl (cI, 150, .inl mk.2.2.1)), (p8, .inl (cI, 150, .inl mk.2.2.2.2))] H := by rw [hH]; exact hP
  replace hS : va_S A s.heap H locs := by rw [hH, hlo]; exact hS
  clear hH hlo
  have hl := lv_entry ([.ref y, .long q, .int t, .long b, .int n]) (n := 9) (Nat.le_of_ble_eq_true rfl)
  rw [lg_entry_eq]
  generalize (lg_sl ([.ref y, .long q, .int t, .long b, .int n]) ++ List.replicate (9 - (lg_sl ([.ref y, .long q, .int t, .long b, .int n])).length) Slot.unset).toArray = ls at hl ⊢
  replace hl : lv_has ls 9 [(0, .ref y), (1, .long q), (3, .int t), (4, .long b), (6, .int n)] := hl
  refine lv_iload_n hx hb dX2_put_0 rfl (lv_at hl 2 rfl) ?_
  refine vp_callSi (va_Run.run (va_runS (As := [.int t]) (rest := []) ⟨hx, hb, hml, hown, hts⟩ (c_isSize l t) (va_cwS 1 hts gX2_put_X2_isSize rfl rfl rfl (by decide +kernel) ⟨Nat.le_of_ble_eq_true rfl, Nat.le_of_ble_eq_true rfl⟩) (st_pre) rfl rfl hl.1 rfl (lv_room (Nat.le_of_ble_eq_true rfl)) dX2_put_1 ⟨Nat.le_of_ble_eq_true rfl, Nat.le_of_ble_eq_true rfl⟩)) (fun r1 hr1 => ?_)
  rcases hr1 with ⟨rfl, hok⟩ | ⟨rfl, hok⟩
  · skip
    obtain ⟨nq, nq1, nq8, rfl⟩ := okK_nat hok
    refine lv_if_eq (tgt := 19) hx hb dX2_put_4 (by decide) (fun c_4 => absurd c_4 (by decide)) (fun c_4 => ?_)
    refine lv_iload hx hb dX2_put_7 (lv_at hl 4 rfl) ?_
    refine lv_if_lt (tgt := 19) hx hb dX2_put_9 (by decide) (fun c_9 => ?_) (fun c_9 => ?_)
    · skip
      have hbad : ¬ (okK (nI nq) ∧ okT n) := fun g => g.2.1 c_9
      refine lv_iconst (v := 0) hx hb dX2_put_19 (by decide) ?_
      exact W.zret (v := 0) hx hb hr rfl (fun t9 ht hW => ⟨⟨0, mv, rfl, Or.inr ⟨hbad, rfl, rfl⟩, by rw [ht]; exact hP, hD⟩, hS.F ht⟩) hS.2.2 dX2_put_20
    · skip
      refine lv_iload hx hb dX2_put_12 (lv_at hl 4 rfl) ?_
      refine lv_bipush (v := 8) hx hb dX2_put_14 (by decide) ?_
      refine lv_icmp_le (tgt := 21) hx hb dX2_put_16 (by decide) (fun c_16 => ?_) (fun c_16 => ?_)
      · skip
        have hokT : okT n := ⟨c_9, Int32.not_lt.mpr c_16⟩
        obtain ⟨nt, nt8, rfl⟩ := okT_nat hokT
        refine lv_aload_n hx hb dX2_put_21 rfl (lv_at hl 0 rfl) ?_
        refine lv_lload_n hx hb dX2_put_22 rfl (lv_at hl 1 rfl) ?_
        refine lv_iload_n hx hb dX2_put_23 rfl (lv_at hl 2 rfl) ?_
        refine vp_callSi (va_Run.run (va_runV (As := [.long q, .int (nI nq)]) (rest := []) ⟨hx, hb, hml, hown, hts⟩ (c_place l dC dI cL cI y p1 p2 p3 p4 p5 p6 p7 p8 mv mk f hm q nq nq1 nq8 j (hj hok)) (cwV 2 hts gX2_put_X2_place rfl rfl rfl (by decide +kernel) ⟨Nat.le_of_ble_eq_true rfl, Nat.le_of_ble_eq_true rfl⟩) (rd_preV hK (hP.sub (ws' := [(y, .inr (2, [.int (nI mv.1), .int (nI mk.1), .ref p1, .ref p2, .ref p3, .ref p4, .ref p5, .ref p6, .ref p7, .ref p8, .long f.1, .int f.2])), (p1, .inl (cL, 151, .inr (.inl mv.2.1))), (p2, .inl (cL, 151, .inr (.inl mv.2.2.2.1))), (p3, .inl (cL, 150, .inr (.inl mk.2.1))), (p4, .inl (cL, 150, .inr (.inl mk.2.2.2.1))), (p5, .inl (cI, 151, .inl mv.2.2.1)), (p6, .inl (cI, 151, .inl mv.2.2.2.2)), (p7, .inl (cI, 150, .inl mk.2.2.1)), (p8, .inl (cI, 150, .inl mk.2.2.2.2))]) [0, 1, 2, 3, 4, 5, 6, 7, 8] rfl) (ci := 2) (q0 := 0) rfl rfl) rfl rfl hl.1 rfl (lv_room (Nat.le_of_ble_eq_true rfl)) dX2_put_24 ⟨Nat.le_of_ble_eq_true rfl, Nat.le_of_ble_eq_true rfl⟩)) (fun r2 hr2 => ?_)
        subst hr2
        refine lv_istore (lv' := [(7, .int (nI j)), (0, .ref y), (1, .long q), (3, .int (nI nq)), (4, .long b), (6, .int (nI nt))]) hx hb dX2_put_27 hl (by decide) rfl (fun ls hl => ?_)
        refine lv_aload_n hx hb dX2_put_29 rfl (lv_at hl 1 rfl) ?_
        refine lv_iload hx hb dX2_put_30 (lv_at hl 0 rfl) ?_
        refine lv_lload_n hx hb dX2_put_32 rfl (lv_at hl 2 rfl) ?_
        refine lv_iload_n hx hb dX2_put_33 rfl (lv_at hl 3 rfl) ?_
        refine vp_callSi (va_Run.run (va_runV (As := [.int (nI j), .long q, .int (nI nq)]) (rest := []) ⟨hx, hb, hml, hown, hts⟩ (c_isAt l dC dI cL cI y p1 p2 p3 p4 p5 p6 p7 p8 mv mk f hm j (hj hok).1 q (nI nq) (fun _ => hok)) (cwV 3 hts gX2_put_X2_isAt rfl rfl rfl (by decide +kernel) ⟨Nat.le_of_ble_eq_true rfl, Nat.le_of_ble_eq_true rfl⟩) (rd_preV hK (hP.sub (ws' := [(y, .inr (2, [.int (nI mv.1), .int (nI mk.1), .ref p1, .ref p2, .ref p3, .ref p4, .ref p5, .ref p6, .ref p7, .ref p8, .long f.1, .int f.2])), (p1, .inl (cL, 151, .inr (.inl mv.2.1))), (p2, .inl (cL, 151, .inr (.inl mv.2.2.2.1))), (p3, .inl (cL, 150, .inr (.inl mk.2.1))), (p4, .inl (cL, 150, .inr (.inl mk.2.2.2.1))), (p5, .inl (cI, 151, .inl mv.2.2.1)), (p6, .inl (cI, 151, .inl mv.2.2.2.2)), (p7, .inl (cI, 150, .inl mk.2.2.1)), (p8, .inl (cI, 150, .inl mk.2.2.2.2))]) [0, 1, 2, 3, 4, 5, 6, 7, 8] rfl) (ci := 2) (q0 := 0) rfl rfl) rfl rfl hl.1 rfl (lv_room (Nat.le_of_ble_eq_true rfl)) dX2_put_34 ⟨Nat.le_of_ble_eq_true rfl, Nat.le_of_ble_eq_true rfl⟩)) (fun r3 hr3 => ?_)
        rcases hr3 with ⟨rfl, hh⟩ | ⟨rfl, hh⟩
        · skip
          have hju : j < mv.1 := hh.1
          have hm1 := hm.1
          refine lv_if_ne (tgt := 145) hx hb dX2_put_37 (by decide) (fun c_37 => ?_) (fun c_37 => absurd c_37 (by decide))
          refine lv_aload_n hx hb dX2_put_145 rfl (lv_at hl 1 rfl) ?_
          refine va_get (D := (dC, dI)) (ci := 2) (v := .ref p1) (C := RX2) (T := TX2) (N := 12) hx hb hts i_X2_put_X2 hown hK hP 0 rfl rfl 2 (by decide) (hts (.fieldLink RX2 7 "BlockTreeModel" "key" "[J") (by decide +kernel)) (fun _ h9 => h9) rfl dX2_put_146 ?_
          refine lv_iload hx hb dX2_put_149 (lv_at hl 0 rfl) ?_
          refine lv_lload_n hx hb dX2_put_151 rfl (lv_at hl 2 rfl) ?_
          refine lv_iload_n hx hb dX2_put_152 rfl (lv_at hl 3 rfl) ?_
          refine vp_callSl (va_Run.run (va_runS (As := [.long q, .int (nI nq)]) (rest := [.int (nI j), .ref p1]) ⟨hx, hb, hml, hown, hts⟩ (c_cut l q nq nq8) (va_cwS 2 hts gX2_put_X2_cut rfl rfl rfl (by decide +kernel) ⟨Nat.le_of_ble_eq_true rfl, Nat.le_of_ble_eq_true rfl⟩) (st_pre) rfl rfl hl.1 rfl (lv_room (Nat.le_of_ble_eq_true rfl)) dX2_put_153 ⟨Nat.le_of_ble_eq_true rfl, Nat.le_of_ble_eq_true rfl⟩)) (fun rc hrc => ?_)
          subst hrc
          refine va_last hx hb hK hP hD hS 1 0 rfl rfl (vp_in_nI (by omega) (by omega)) dX2_put_156 (fun H locs hP hD hS => ?_)
          rw [show ((nI j)).toNatClampNeg = j from (nI_clamp (by omega))] at hP hD
          replace hP : va_P (dC, dI) vwCl [(y, .inr (2, [.int (nI mv.1), .int (nI mk.1), .ref p1, .ref p2, .ref p3, .ref p4, .ref p5, .ref p6, .ref p7, .ref p8, .long f.1, .int f.2])), (p1, .inl (cL, 151, .inr (.inl (vp_updL mv.2.1 j (lowB q (nI nq)))))), (p2, .inl (cL, 151, .inr (.inl mv.2.2.2.1))), (p3, .inl (cL, 150, .inr (.inl mk.2.1))), (p4, .inl (cL, 150, .inr (.inl mk.2.2.2.1))), (p5, .inl (cI, 151, .inl mv.2.2.1)), (p6, .inl (cI, 151, .inl mv.2.2.2.2)), (p7, .inl (cI, 150, .inl mk.2.2.1)), (p8, .inl (cI, 150, .inl mk.2.2.2.2))] H := hP
          replace hD : va_D A [(y, .inr (2, [.int (nI mv.1), .int (nI mk.1), .ref p1, .ref p2, .ref p3, .ref p4, .ref p5, .ref p6, .ref p7, .ref p8, .long f.1, .int f.2])), (p1, .inl (cL, 151, .inr (.inl (vp_updL mv.2.1 j (lowB q (nI nq)))))), (p2, .inl (cL, 151, .inr (.inl mv.2.2.2.1))), (p3, .inl (cL, 150, .inr (.inl mk.2.1))), (p4, .inl (cL, 150, .inr (.inl mk.2.2.2.1))), (p5, .inl (cI, 151, .inl mv.2.2.1)), (p6, .inl (cI, 151, .inl mv.2.2.2.2)), (p7, .inl (cI, 150, .inl mk.2.2.1)), (p8, .inl (cI, 150, .inl mk.2.2.2.2))] := hD
          refine lv_aload_n hx hb dX2_put_157 rfl (lv_at hl 1 rfl) ?_
          refine va_get (D := (dC, dI)) (ci := 2) (v := .ref p5) (C := RX2) (T := TX2) (N := 12) hx hb hts i_X2_put_X2 hown hK hP 0 rfl rfl 6 (by decide) (hts (.fieldLink RX2 22 "BlockTreeModel" "size" "[I") (by decide +kernel)) (fun _ h9 => h9) rfl dX2_put_158 ?_
          refine lv_iload hx hb dX2_put_161 (lv_at hl 0 rfl) ?_
          refine lv_iload_n hx hb dX2_put_163 rfl (lv_at hl 3 rfl) ?_
          refine va_iast hx hb hK hP hD hS 5 1 rfl rfl (vp_in_nI (by omega) (by omega)) dX2_put_164 (fun H locs hP hD hS => ?_)
          rw [show ((nI j)).toNatClampNeg = j from (nI_clamp (by omega))] at hP hD
          replace hP : va_P (dC, dI) vwCl [(y, .inr (2, [.int (nI mv.1), .int (nI mk.1), .ref p1, .ref p2, .ref p3, .ref p4, .ref p5, .ref p6, .ref p7, .ref p8, .long f.1, .int f.2])), (p1, .inl (cL, 151, .inr (.inl (vp_updL mv.2.1 j (lowB q (nI nq)))))), (p2, .inl (cL, 151, .inr (.inl mv.2.2.2.1))), (p3, .inl (cL, 150, .inr (.inl mk.2.1))), (p4, .inl (cL, 150, .inr (.inl mk.2.2.2.1))), (p5, .inl (cI, 151, .inl (upd mv.2.2.1 j (nI nq)))), (p6, .inl (cI, 151, .inl mv.2.2.2.2)), (p7, .inl (cI, 150, .inl mk.2.2.1)), (p8, .inl (cI, 150, .inl mk.2.2.2.2))] H := hP
          replace hD : va_D A [(y, .inr (2, [.int (nI mv.1), .int (nI mk.1), .ref p1, .ref p2, .ref p3, .ref p4, .ref p5, .ref p6, .ref p7, .ref p8, .long f.1, .int f.2])), (p1, .inl (cL, 151, .inr (.inl (vp_updL mv.2.1 j (lowB q (nI nq)))))), (p2, .inl (cL, 151, .inr (.inl mv.2.2.2.1))), (p3, .inl (cL, 150, .inr (.inl mk.2.1))), (p4, .inl (cL, 150, .inr (.inl mk.2.2.2.1))), (p5, .inl (cI, 151, .inl (upd mv.2.2.1 j (nI nq)))), (p6, .inl (cI, 151, .inl mv.2.2.2.2)), (p7, .inl (cI, 150, .inl mk.2.2.1)), (p8, .inl (cI, 150, .inl mk.2.2.2.2))] := hD
          refine lv_aload_n hx hb dX2_put_165 rfl (lv_at hl 1 rfl) ?_
          refine va_get (D := (dC, dI)) (ci := 2) (v := .ref p2) (C := RX2) (T := TX2) (N := 12) hx hb hts i_X2_put_X2 hown hK hP 0 rfl rfl 3 (by decide) (hts (.fieldLink RX2 13 "BlockTreeModel" "text" "[J") (by decide +kernel)) (fun _ h9 => h9) rfl dX2_put_166 ?_
          refine lv_iload hx hb dX2_put_169 (lv_at hl 0 rfl) ?_
          refine lv_lload hx hb dX2_put_171 (lv_at hl 4 rfl) ?_
          refine lv_iload hx hb dX2_put_173 (lv_at hl 5 rfl) ?_
          refine vp_callSl (va_Run.run (va_runS (As := [.long b, .int (nI nt)]) (rest := [.int (nI j), .ref p2]) ⟨hx, hb, hml, hown, hts⟩ (c_cut l b nt nt8) (va_cwS 2 hts gX2_put_X2_cut rfl rfl rfl (by decide +kernel) ⟨Nat.le_of_ble_eq_true rfl, Nat.le_of_ble_eq_true rfl⟩) (st_pre) rfl rfl hl.1 rfl (lv_room (Nat.le_of_ble_eq_true rfl)) dX2_put_175 ⟨Nat.le_of_ble_eq_true rfl, Nat.le_of_ble_eq_true rfl⟩)) (fun rd hrd => ?_)
          subst hrd
          refine va_last hx hb hK hP hD hS 2 0 rfl rfl (vp_in_nI (by omega) (by omega)) dX2_put_178 (fun H locs hP hD hS => ?_)
          rw [show ((nI j)).toNatClampNeg = j from (nI_clamp (by omega))] at hP hD
          replace hP : va_P (dC, dI) vwCl [(y, .inr (2, [.int (nI mv.1), .int (nI mk.1), .ref p1, .ref p2, .ref p3, .ref p4, .ref p5, .ref p6, .ref p7, .ref p8, .long f.1, .int f.2])), (p1, .inl (cL, 151, .inr (.inl (vp_updL mv.2.1 j (lowB q (nI nq)))))), (p2, .inl (cL, 151, .inr (.inl (vp_updL mv.2.2.2.1 j (lowB b (nI nt)))))), (p3, .inl (cL, 150, .inr (.inl mk.2.1))), (p4, .inl (cL, 150, .inr (.inl mk.2.2.2.1))), (p5, .inl (cI, 151, .inl (upd mv.2.2.1 j (nI nq)))), (p6, .inl (cI, 151, .inl mv.2.2.2.2)), (p7, .inl (cI, 150, .inl mk.2.2.1)), (p8, .inl (cI, 150, .inl mk.2.2.2.2))] H := hP
          replace hD : va_D A [(y, .inr (2, [.int (nI mv.1), .int (nI mk.1), .ref p1, .ref p2, .ref p3, .ref p4, .ref p5, .ref p6, .ref p7, .ref p8, .long f.1, .int f.2])), (p1, .inl (cL, 151, .inr (.inl (vp_updL mv.2.1 j (lowB q (nI nq)))))), (p2, .inl (cL, 151, .inr (.inl (vp_updL mv.2.2.2.1 j (lowB b (nI nt)))))), (p3, .inl (cL, 150, .inr (.inl mk.2.1))), (p4, .inl (cL, 150, .inr (.inl mk.2.2.2.1))), (p5, .inl (cI, 151, .inl (upd mv.2.2.1 j (nI nq)))), (p6, .inl (cI, 151, .inl mv.2.2.2.2)), (p7, .inl (cI, 150, .inl mk.2.2.1)), (p8, .inl (cI, 150, .inl mk.2.2.2.2))] := hD
          refine lv_aload_n hx hb dX2_put_179 rfl (lv_at hl 1 rfl) ?_
          refine va_get (D := (dC, dI)) (ci := 2) (v := .ref p6) (C := RX2) (T := TX2) (N := 12) hx hb hts i_X2_put_X2 hown hK hP 0 rfl rfl 7 (by decide) (hts (.fieldLink RX2 26 "BlockTreeModel" "length" "[I") (by decide +kernel)) (fun _ h9 => h9) rfl dX2_put_180 ?_
          refine lv_iload hx hb dX2_put_183 (lv_at hl 0 rfl) ?_
          refine lv_iload hx hb dX2_put_185 (lv_at hl 5 rfl) ?_
          refine va_iast hx hb hK hP hD hS 6 1 rfl rfl (vp_in_nI (by omega) (by omega)) dX2_put_187 (fun H locs hP hD hS => ?_)
          rw [show ((nI j)).toNatClampNeg = j from (nI_clamp (by omega))] at hP hD
          replace hP : va_P (dC, dI) vwCl [(y, .inr (2, [.int (nI mv.1), .int (nI mk.1), .ref p1, .ref p2, .ref p3, .ref p4, .ref p5, .ref p6, .ref p7, .ref p8, .long f.1, .int f.2])), (p1, .inl (cL, 151, .inr (.inl (vp_updL mv.2.1 j (lowB q (nI nq)))))), (p2, .inl (cL, 151, .inr (.inl (vp_updL mv.2.2.2.1 j (lowB b (nI nt)))))), (p3, .inl (cL, 150, .inr (.inl mk.2.1))), (p4, .inl (cL, 150, .inr (.inl mk.2.2.2.1))), (p5, .inl (cI, 151, .inl (upd mv.2.2.1 j (nI nq)))), (p6, .inl (cI, 151, .inl (upd mv.2.2.2.2 j (nI nt)))), (p7, .inl (cI, 150, .inl mk.2.2.1)), (p8, .inl (cI, 150, .inl mk.2.2.2.2))] H := hP
          replace hD : va_D A [(y, .inr (2, [.int (nI mv.1), .int (nI mk.1), .ref p1, .ref p2, .ref p3, .ref p4, .ref p5, .ref p6, .ref p7, .ref p8, .long f.1, .int f.2])), (p1, .inl (cL, 151, .inr (.inl (vp_updL mv.2.1 j (lowB q (nI nq)))))), (p2, .inl (cL, 151, .inr (.inl (vp_updL mv.2.2.2.1 j (lowB b (nI nt)))))), (p3, .inl (cL, 150, .inr (.inl mk.2.1))), (p4, .inl (cL, 150, .inr (.inl mk.2.2.2.1))), (p5, .inl (cI, 151, .inl (upd mv.2.2.1 j (nI nq)))), (p6, .inl (cI, 151, .inl (upd mv.2.2.2.2 j (nI nt)))), (p7, .inl (cI, 150, .inl mk.2.2.1)), (p8, .inl (cI, 150, .inl mk.2.2.2.2))] := hD
          refine lv_iconst (v := 1) hx hb dX2_put_188 (by decide) ?_
          exact W.zret (v := 1) hx hb hr rfl (fun t9 ht hW => ⟨⟨1, rs_put mv j (lowB q (nI nq)) (nI nq) (lowB b (nI nt)) (nI nt), rfl, Or.inl ⟨hok, hokT, Or.inl ⟨hh, rfl, rfl⟩⟩, by rw [ht]; exact hP, hD⟩, hS.F ht⟩) hS.2.2 dX2_put_189
        · skip
          have hju : j ≤ mv.1 := (hj hok).1
          have hm1 := hm.1
          refine lv_if_ne (tgt := 145) hx hb dX2_put_37 (by decide) (fun c_37 => absurd c_37 (by decide)) (fun c_37 => ?_)
          refine lv_aload_n hx hb dX2_put_40 rfl (lv_at hl 1 rfl) ?_
          refine va_get (D := (dC, dI)) (ci := 2) (v := .int (nI mv.1)) (C := RX2) (T := TX2) (N := 12) hx hb hts i_X2_put_X2 hown hK hP 0 rfl rfl 0 (by decide) (hts (.fieldLink RX2 41 "BlockTreeModel" "many" "I") (by decide +kernel)) (fun _ h9 => h9) rfl dX2_put_41 ?_
          refine lv_sipush (v := 150) hx hb dX2_put_44 (by decide) ?_
          refine lv_icmp_ne (tgt := 52) hx hb dX2_put_47 (by decide) (fun c_47 => ?_) (fun c_47 => ?_)
          · skip
            have hlt : mv.1 < 150 := by
              rcases Nat.lt_or_ge mv.1 150 with q2 | q2
              · exact q2
              · exact absurd (by rw [show mv.1 = 150 by omega]; rfl) c_47
            refine lv_aload_n hx hb dX2_put_52 rfl (lv_at hl 1 rfl) ?_
            refine va_get (D := (dC, dI)) (ci := 2) (v := .int (nI mv.1)) (C := RX2) (T := TX2) (N := 12) hx hb hts i_X2_put_X2 hown hK hP 0 rfl rfl 0 (by decide) (hts (.fieldLink RX2 41 "BlockTreeModel" "many" "I") (by decide +kernel)) (fun _ h9 => h9) rfl dX2_put_53 ?_
            refine lv_istore (lv' := [(8, .int (nI mv.1)), (7, .int (nI j)), (0, .ref y), (1, .long q), (3, .int (nI nq)), (4, .long b), (6, .int (nI nt))]) hx hb dX2_put_56 hl (by decide) rfl (fun ls hl => ?_)
            obtain ⟨w, hw⟩ : ∃ w : Nat, w = mv.1 := ⟨_, rfl⟩
            obtain ⟨g, hg⟩ : ∃ g : Nat, w = j + g := ⟨mv.1 - j, by omega⟩
            have hwm : w ≤ mv.1 := by omega
            replace hl : lv_has ls 9 [(0, .ref y), (1, .long q), (3, .int (nI nq)), (4, .long b), (6, .int (nI nt)), (7, .int (nI j)), (8, .int (nI w))] := by rw [hw]; exact lv_sub hl [2, 3, 4, 5, 6, 1, 0] rfl
            replace hP : va_P (dC, dI) vwCl [(y, .inr (2, [.int (nI mv.1), .int (nI mk.1), .ref p1, .ref p2, .ref p3, .ref p4, .ref p5, .ref p6, .ref p7, .ref p8, .long f.1, .int f.2])), (p1, .inl (cL, 151, .inr (.inl (opn mv.2.1 w mv.1)))), (p2, .inl (cL, 151, .inr (.inl (opn mv.2.2.2.1 w mv.1)))), (p3, .inl (cL, 150, .inr (.inl mk.2.1))), (p4, .inl (cL, 150, .inr (.inl mk.2.2.2.1))), (p5, .inl (cI, 151, .inl (opn mv.2.2.1 w mv.1))), (p6, .inl (cI, 151, .inl (opn mv.2.2.2.2 w mv.1))), (p7, .inl (cI, 150, .inl mk.2.2.1)), (p8, .inl (cI, 150, .inl mk.2.2.2.2))] H := by rw [hw, opn_full, opn_full, opn_full, opn_full]; exact hP
            replace hD : va_D A [(y, .inr (2, [.int (nI mv.1), .int (nI mk.1), .ref p1, .ref p2, .ref p3, .ref p4, .ref p5, .ref p6, .ref p7, .ref p8, .long f.1, .int f.2])), (p1, .inl (cL, 151, .inr (.inl (opn mv.2.1 w mv.1)))), (p2, .inl (cL, 151, .inr (.inl (opn mv.2.2.2.1 w mv.1)))), (p3, .inl (cL, 150, .inr (.inl mk.2.1))), (p4, .inl (cL, 150, .inr (.inl mk.2.2.2.1))), (p5, .inl (cI, 151, .inl (opn mv.2.2.1 w mv.1))), (p6, .inl (cI, 151, .inl (opn mv.2.2.2.2 w mv.1))), (p7, .inl (cI, 150, .inl mk.2.2.1)), (p8, .inl (cI, 150, .inl mk.2.2.2.2))] := by rw [hw, opn_full, opn_full, opn_full, opn_full]; exact hD
            clear hw
            induction g generalizing w ls H locs with
            | zero =>
              obtain rfl : w = j := hg
              refine lv_iload hx hb dX2_put_58 (lv_at hl 6 rfl) ?_
              refine lv_iload hx hb dX2_put_60 (lv_at hl 5 rfl) ?_
              refine lv_icmp_le (tgt := 135) hx hb dX2_put_62 (by decide) (fun c_62 => ?_) (fun c_62 => absurd (nI_le (Nat.le_refl w) (by omega)) c_62)
              refine lv_aload_n hx hb dX2_put_135 rfl (lv_at hl 0 rfl) ?_
              refine lv_dup hx hb dX2_put_136 rfl ?_
              refine va_get (D := (dC, dI)) (ci := 2) (v := .int (nI mv.1)) (C := RX2) (T := TX2) (N := 12) hx hb hts i_X2_put_X2 hown hK hP 0 rfl rfl 0 (by decide) (hts (.fieldLink RX2 41 "BlockTreeModel" "many" "I") (by decide +kernel)) (fun _ h9 => h9) rfl dX2_put_137 ?_
              refine lv_iconst (v := 1) hx hb dX2_put_140 (by decide) ?_
              refine lv_iadd hx hb dX2_put_141 ?_
              refine lv_topi (fun z_1 ez_1 => ?_)
              obtain rfl : z_1 = nI (mv.1 + 1) := ez_1.trans (nI_1 mv.1)
              refine va_put (D := (dC, dI)) (ci := 2) (v := .int (nI (mv.1 + 1))) (ty := .int) (C := RX2) (T := TX2) (N := 12) hx hb hts i_X2_put_X2 tyX2 tyX2_ok nmX2 hown hK hP hD hS 0 rfl rfl 0 (by decide) (hts (.fieldLink RX2 41 "BlockTreeModel" "many" "I") (by decide +kernel)) (fun _ h9 => h9) rfl (by decide +kernel) rfl rfl (Nat.le_of_ble_eq_true rfl) dX2_put_142 (fun H locs hP hD hS => ?_)
              replace hP : va_P (dC, dI) vwCl [(y, .inr (2, [.int (nI (mv.1 + 1)), .int (nI mk.1), .ref p1, .ref p2, .ref p3, .ref p4, .ref p5, .ref p6, .ref p7, .ref p8, .long f.1, .int f.2])), (p1, .inl (cL, 151, .inr (.inl (opn mv.2.1 w mv.1)))), (p2, .inl (cL, 151, .inr (.inl (opn mv.2.2.2.1 w mv.1)))), (p3, .inl (cL, 150, .inr (.inl mk.2.1))), (p4, .inl (cL, 150, .inr (.inl mk.2.2.2.1))), (p5, .inl (cI, 151, .inl (opn mv.2.2.1 w mv.1))), (p6, .inl (cI, 151, .inl (opn mv.2.2.2.2 w mv.1))), (p7, .inl (cI, 150, .inl mk.2.2.1)), (p8, .inl (cI, 150, .inl mk.2.2.2.2))] H := hP
              replace hD : va_D A [(y, .inr (2, [.int (nI (mv.1 + 1)), .int (nI mk.1), .ref p1, .ref p2, .ref p3, .ref p4, .ref p5, .ref p6, .ref p7, .ref p8, .long f.1, .int f.2])), (p1, .inl (cL, 151, .inr (.inl (opn mv.2.1 w mv.1)))), (p2, .inl (cL, 151, .inr (.inl (opn mv.2.2.2.1 w mv.1)))), (p3, .inl (cL, 150, .inr (.inl mk.2.1))), (p4, .inl (cL, 150, .inr (.inl mk.2.2.2.1))), (p5, .inl (cI, 151, .inl (opn mv.2.2.1 w mv.1))), (p6, .inl (cI, 151, .inl (opn mv.2.2.2.2 w mv.1))), (p7, .inl (cI, 150, .inl mk.2.2.1)), (p8, .inl (cI, 150, .inl mk.2.2.2.2))] := hD
              refine lv_aload_n hx hb dX2_put_145 rfl (lv_at hl 0 rfl) ?_
              refine va_get (D := (dC, dI)) (ci := 2) (v := .ref p1) (C := RX2) (T := TX2) (N := 12) hx hb hts i_X2_put_X2 hown hK hP 0 rfl rfl 2 (by decide) (hts (.fieldLink RX2 7 "BlockTreeModel" "key" "[J") (by decide +kernel)) (fun _ h9 => h9) rfl dX2_put_146 ?_
              refine lv_iload hx hb dX2_put_149 (lv_at hl 5 rfl) ?_
              refine lv_lload_n hx hb dX2_put_151 rfl (lv_at hl 1 rfl) ?_
              refine lv_iload_n hx hb dX2_put_152 rfl (lv_at hl 2 rfl) ?_
              refine vp_callSl (va_Run.run (va_runS (As := [.long q, .int (nI nq)]) (rest := [.int (nI w), .ref p1]) ⟨hx, hb, hml, hown, hts⟩ (c_cut l q nq nq8) (va_cwS 2 hts gX2_put_X2_cut rfl rfl rfl (by decide +kernel) ⟨Nat.le_of_ble_eq_true rfl, Nat.le_of_ble_eq_true rfl⟩) (st_pre) rfl rfl hl.1 rfl (lv_room (Nat.le_of_ble_eq_true rfl)) dX2_put_153 ⟨Nat.le_of_ble_eq_true rfl, Nat.le_of_ble_eq_true rfl⟩)) (fun rc hrc => ?_)
              subst hrc
              refine va_last hx hb hK hP hD hS 1 0 rfl rfl (vp_in_nI (by omega) (by omega)) dX2_put_156 (fun H locs hP hD hS => ?_)
              rw [show ((nI w)).toNatClampNeg = w from (nI_clamp (by omega))] at hP hD
              replace hP : va_P (dC, dI) vwCl [(y, .inr (2, [.int (nI (mv.1 + 1)), .int (nI mk.1), .ref p1, .ref p2, .ref p3, .ref p4, .ref p5, .ref p6, .ref p7, .ref p8, .long f.1, .int f.2])), (p1, .inl (cL, 151, .inr (.inl (vp_updL (opn mv.2.1 w mv.1) w (lowB q (nI nq)))))), (p2, .inl (cL, 151, .inr (.inl (opn mv.2.2.2.1 w mv.1)))), (p3, .inl (cL, 150, .inr (.inl mk.2.1))), (p4, .inl (cL, 150, .inr (.inl mk.2.2.2.1))), (p5, .inl (cI, 151, .inl (opn mv.2.2.1 w mv.1))), (p6, .inl (cI, 151, .inl (opn mv.2.2.2.2 w mv.1))), (p7, .inl (cI, 150, .inl mk.2.2.1)), (p8, .inl (cI, 150, .inl mk.2.2.2.2))] H := hP
              replace hD : va_D A [(y, .inr (2, [.int (nI (mv.1 + 1)), .int (nI mk.1), .ref p1, .ref p2, .ref p3, .ref p4, .ref p5, .ref p6, .ref p7, .ref p8, .long f.1, .int f.2])), (p1, .inl (cL, 151, .inr (.inl (vp_updL (opn mv.2.1 w mv.1) w (lowB q (nI nq)))))), (p2, .inl (cL, 151, .inr (.inl (opn mv.2.2.2.1 w mv.1)))), (p3, .inl (cL, 150, .inr (.inl mk.2.1))), (p4, .inl (cL, 150, .inr (.inl mk.2.2.2.1))), (p5, .inl (cI, 151, .inl (opn mv.2.2.1 w mv.1))), (p6, .inl (cI, 151, .inl (opn mv.2.2.2.2 w mv.1))), (p7, .inl (cI, 150, .inl mk.2.2.1)), (p8, .inl (cI, 150, .inl mk.2.2.2.2))] := hD
              refine lv_aload_n hx hb dX2_put_157 rfl (lv_at hl 0 rfl) ?_
              refine va_get (D := (dC, dI)) (ci := 2) (v := .ref p5) (C := RX2) (T := TX2) (N := 12) hx hb hts i_X2_put_X2 hown hK hP 0 rfl rfl 6 (by decide) (hts (.fieldLink RX2 22 "BlockTreeModel" "size" "[I") (by decide +kernel)) (fun _ h9 => h9) rfl dX2_put_158 ?_
              refine lv_iload hx hb dX2_put_161 (lv_at hl 5 rfl) ?_
              refine lv_iload_n hx hb dX2_put_163 rfl (lv_at hl 2 rfl) ?_
              refine va_iast hx hb hK hP hD hS 5 1 rfl rfl (vp_in_nI (by omega) (by omega)) dX2_put_164 (fun H locs hP hD hS => ?_)
              rw [show ((nI w)).toNatClampNeg = w from (nI_clamp (by omega))] at hP hD
              replace hP : va_P (dC, dI) vwCl [(y, .inr (2, [.int (nI (mv.1 + 1)), .int (nI mk.1), .ref p1, .ref p2, .ref p3, .ref p4, .ref p5, .ref p6, .ref p7, .ref p8, .long f.1, .int f.2])), (p1, .inl (cL, 151, .inr (.inl (vp_updL (opn mv.2.1 w mv.1) w (lowB q (nI nq)))))), (p2, .inl (cL, 151, .inr (.inl (opn mv.2.2.2.1 w mv.1)))), (p3, .inl (cL, 150, .inr (.inl mk.2.1))), (p4, .inl (cL, 150, .inr (.inl mk.2.2.2.1))), (p5, .inl (cI, 151, .inl (upd (opn mv.2.2.1 w mv.1) w (nI nq)))), (p6, .inl (cI, 151, .inl (opn mv.2.2.2.2 w mv.1))), (p7, .inl (cI, 150, .inl mk.2.2.1)), (p8, .inl (cI, 150, .inl mk.2.2.2.2))] H := hP
              replace hD : va_D A [(y, .inr (2, [.int (nI (mv.1 + 1)), .int (nI mk.1), .ref p1, .ref p2, .ref p3, .ref p4, .ref p5, .ref p6, .ref p7, .ref p8, .long f.1, .int f.2])), (p1, .inl (cL, 151, .inr (.inl (vp_updL (opn mv.2.1 w mv.1) w (lowB q (nI nq)))))), (p2, .inl (cL, 151, .inr (.inl (opn mv.2.2.2.1 w mv.1)))), (p3, .inl (cL, 150, .inr (.inl mk.2.1))), (p4, .inl (cL, 150, .inr (.inl mk.2.2.2.1))), (p5, .inl (cI, 151, .inl (upd (opn mv.2.2.1 w mv.1) w (nI nq)))), (p6, .inl (cI, 151, .inl (opn mv.2.2.2.2 w mv.1))), (p7, .inl (cI, 150, .inl mk.2.2.1)), (p8, .inl (cI, 150, .inl mk.2.2.2.2))] := hD
              refine lv_aload_n hx hb dX2_put_165 rfl (lv_at hl 0 rfl) ?_
              refine va_get (D := (dC, dI)) (ci := 2) (v := .ref p2) (C := RX2) (T := TX2) (N := 12) hx hb hts i_X2_put_X2 hown hK hP 0 rfl rfl 3 (by decide) (hts (.fieldLink RX2 13 "BlockTreeModel" "text" "[J") (by decide +kernel)) (fun _ h9 => h9) rfl dX2_put_166 ?_
              refine lv_iload hx hb dX2_put_169 (lv_at hl 5 rfl) ?_
              refine lv_lload hx hb dX2_put_171 (lv_at hl 3 rfl) ?_
              refine lv_iload hx hb dX2_put_173 (lv_at hl 4 rfl) ?_
              refine vp_callSl (va_Run.run (va_runS (As := [.long b, .int (nI nt)]) (rest := [.int (nI w), .ref p2]) ⟨hx, hb, hml, hown, hts⟩ (c_cut l b nt nt8) (va_cwS 2 hts gX2_put_X2_cut rfl rfl rfl (by decide +kernel) ⟨Nat.le_of_ble_eq_true rfl, Nat.le_of_ble_eq_true rfl⟩) (st_pre) rfl rfl hl.1 rfl (lv_room (Nat.le_of_ble_eq_true rfl)) dX2_put_175 ⟨Nat.le_of_ble_eq_true rfl, Nat.le_of_ble_eq_true rfl⟩)) (fun rd hrd => ?_)
              subst hrd
              refine va_last hx hb hK hP hD hS 2 0 rfl rfl (vp_in_nI (by omega) (by omega)) dX2_put_178 (fun H locs hP hD hS => ?_)
              rw [show ((nI w)).toNatClampNeg = w from (nI_clamp (by omega))] at hP hD
              replace hP : va_P (dC, dI) vwCl [(y, .inr (2, [.int (nI (mv.1 + 1)), .int (nI mk.1), .ref p1, .ref p2, .ref p3, .ref p4, .ref p5, .ref p6, .ref p7, .ref p8, .long f.1, .int f.2])), (p1, .inl (cL, 151, .inr (.inl (vp_updL (opn mv.2.1 w mv.1) w (lowB q (nI nq)))))), (p2, .inl (cL, 151, .inr (.inl (vp_updL (opn mv.2.2.2.1 w mv.1) w (lowB b (nI nt)))))), (p3, .inl (cL, 150, .inr (.inl mk.2.1))), (p4, .inl (cL, 150, .inr (.inl mk.2.2.2.1))), (p5, .inl (cI, 151, .inl (upd (opn mv.2.2.1 w mv.1) w (nI nq)))), (p6, .inl (cI, 151, .inl (opn mv.2.2.2.2 w mv.1))), (p7, .inl (cI, 150, .inl mk.2.2.1)), (p8, .inl (cI, 150, .inl mk.2.2.2.2))] H := hP
              replace hD : va_D A [(y, .inr (2, [.int (nI (mv.1 + 1)), .int (nI mk.1), .ref p1, .ref p2, .ref p3, .ref p4, .ref p5, .ref p6, .ref p7, .ref p8, .long f.1, .int f.2])), (p1, .inl (cL, 151, .inr (.inl (vp_updL (opn mv.2.1 w mv.1) w (lowB q (nI nq)))))), (p2, .inl (cL, 151, .inr (.inl (vp_updL (opn mv.2.2.2.1 w mv.1) w (lowB b (nI nt)))))), (p3, .inl (cL, 150, .inr (.inl mk.2.1))), (p4, .inl (cL, 150, .inr (.inl mk.2.2.2.1))), (p5, .inl (cI, 151, .inl (upd (opn mv.2.2.1 w mv.1) w (nI nq)))), (p6, .inl (cI, 151, .inl (opn mv.2.2.2.2 w mv.1))), (p7, .inl (cI, 150, .inl mk.2.2.1)), (p8, .inl (cI, 150, .inl mk.2.2.2.2))] := hD
              refine lv_aload_n hx hb dX2_put_179 rfl (lv_at hl 0 rfl) ?_
              refine va_get (D := (dC, dI)) (ci := 2) (v := .ref p6) (C := RX2) (T := TX2) (N := 12) hx hb hts i_X2_put_X2 hown hK hP 0 rfl rfl 7 (by decide) (hts (.fieldLink RX2 26 "BlockTreeModel" "length" "[I") (by decide +kernel)) (fun _ h9 => h9) rfl dX2_put_180 ?_
              refine lv_iload hx hb dX2_put_183 (lv_at hl 5 rfl) ?_
              refine lv_iload hx hb dX2_put_185 (lv_at hl 4 rfl) ?_
              refine va_iast hx hb hK hP hD hS 6 1 rfl rfl (vp_in_nI (by omega) (by omega)) dX2_put_187 (fun H locs hP hD hS => ?_)
              rw [show ((nI w)).toNatClampNeg = w from (nI_clamp (by omega))] at hP hD
              replace hP : va_P (dC, dI) vwCl [(y, .inr (2, [.int (nI (mv.1 + 1)), .int (nI mk.1), .ref p1, .ref p2, .ref p3, .ref p4, .ref p5, .ref p6, .ref p7, .ref p8, .long f.1, .int f.2])), (p1, .inl (cL, 151, .inr (.inl (vp_updL (opn mv.2.1 w mv.1) w (lowB q (nI nq)))))), (p2, .inl (cL, 151, .inr (.inl (vp_updL (opn mv.2.2.2.1 w mv.1) w (lowB b (nI nt)))))), (p3, .inl (cL, 150, .inr (.inl mk.2.1))), (p4, .inl (cL, 150, .inr (.inl mk.2.2.2.1))), (p5, .inl (cI, 151, .inl (upd (opn mv.2.2.1 w mv.1) w (nI nq)))), (p6, .inl (cI, 151, .inl (upd (opn mv.2.2.2.2 w mv.1) w (nI nt)))), (p7, .inl (cI, 150, .inl mk.2.2.1)), (p8, .inl (cI, 150, .inl mk.2.2.2.2))] H := hP
              replace hD : va_D A [(y, .inr (2, [.int (nI (mv.1 + 1)), .int (nI mk.1), .ref p1, .ref p2, .ref p3, .ref p4, .ref p5, .ref p6, .ref p7, .ref p8, .long f.1, .int f.2])), (p1, .inl (cL, 151, .inr (.inl (vp_updL (opn mv.2.1 w mv.1) w (lowB q (nI nq)))))), (p2, .inl (cL, 151, .inr (.inl (vp_updL (opn mv.2.2.2.1 w mv.1) w (lowB b (nI nt)))))), (p3, .inl (cL, 150, .inr (.inl mk.2.1))), (p4, .inl (cL, 150, .inr (.inl mk.2.2.2.1))), (p5, .inl (cI, 151, .inl (upd (opn mv.2.2.1 w mv.1) w (nI nq)))), (p6, .inl (cI, 151, .inl (upd (opn mv.2.2.2.2 w mv.1) w (nI nt)))), (p7, .inl (cI, 150, .inl mk.2.2.1)), (p8, .inl (cI, 150, .inl mk.2.2.2.2))] := hD
              refine lv_iconst (v := 1) hx hb dX2_put_188 (by decide) ?_
              exact W.zret (v := 1) hx hb hr rfl (fun t9 ht hW => ⟨⟨1, rs_put (rs_opn mv w) w (lowB q (nI nq)) (nI nq) (lowB b (nI nt)) (nI nt), rfl, Or.inl ⟨hok, hokT, Or.inr (Or.inl ⟨hh, hlt, rfl, rfl⟩)⟩, by rw [ht]; exact hP, hD⟩, hS.F ht⟩) hS.2.2 dX2_put_189
            | succ g ih =>
              obtain ⟨d, rfl⟩ : ∃ d, w = d + 1 := ⟨j + g, by omega⟩
              refine lv_iload hx hb dX2_put_58 (lv_at hl 6 rfl) ?_
              refine lv_iload hx hb dX2_put_60 (lv_at hl 5 rfl) ?_
              refine lv_icmp_le (tgt := 135) hx hb dX2_put_62 (by decide) (fun c_62 => absurd c_62 (nI_ge (by omega) (by omega))) (fun c_62 => ?_)
              refine lv_aload_n hx hb dX2_put_65 rfl (lv_at hl 0 rfl) ?_
              refine va_get (D := (dC, dI)) (ci := 2) (v := .ref p1) (C := RX2) (T := TX2) (N := 12) hx hb hts i_X2_put_X2 hown hK hP 0 rfl rfl 2 (by decide) (hts (.fieldLink RX2 7 "BlockTreeModel" "key" "[J") (by decide +kernel)) (fun _ h9 => h9) rfl dX2_put_66 ?_
              refine lv_iload hx hb dX2_put_69 (lv_at hl 6 rfl) ?_
              refine lv_aload_n hx hb dX2_put_71 rfl (lv_at hl 0 rfl) ?_
              refine va_get (D := (dC, dI)) (ci := 2) (v := .ref p1) (C := RX2) (T := TX2) (N := 12) hx hb hts i_X2_put_X2 hown hK hP 0 rfl rfl 2 (by decide) (hts (.fieldLink RX2 7 "BlockTreeModel" "key" "[J") (by decide +kernel)) (fun _ h9 => h9) rfl dX2_put_72 ?_
              refine lv_iload hx hb dX2_put_75 (lv_at hl 6 rfl) ?_
              refine lv_iconst (v := 1) hx hb dX2_put_77 (by decide) ?_
              refine lv_isub hx hb dX2_put_78 ?_
              refine lv_topi (fun z_1 ez_1 => ?_)
              obtain rfl : z_1 = nI d := ez_1.trans (nI_pred d)
              refine va_lald hx hb hK hP 1 0 rfl rfl (vp_in_nI (by omega) (by omega)) dX2_put_79 ?_
              refine lv_topl (fun z_2 ez_2 => ?_)
              rw [show (nI d).toNatClampNeg = d from (nI_clamp (by omega))] at ez_2
              subst ez_2
              refine va_last hx hb hK hP hD hS 1 0 rfl rfl (vp_in_nI (by omega) (by omega)) dX2_put_80 (fun H locs hP hD hS => ?_)
              rw [show ((nI (d + 1))).toNatClampNeg = (d + 1) from (nI_clamp (by omega))] at hP hD
              replace hP : va_P (dC, dI) vwCl [(y, .inr (2, [.int (nI mv.1), .int (nI mk.1), .ref p1, .ref p2, .ref p3, .ref p4, .ref p5, .ref p6, .ref p7, .ref p8, .long f.1, .int f.2])), (p1, .inl (cL, 151, .inr (.inl (vp_updL (opn mv.2.1 (d + 1) mv.1) (d + 1) ((opn mv.2.1 (d + 1) mv.1) d))))), (p2, .inl (cL, 151, .inr (.inl (opn mv.2.2.2.1 (d + 1) mv.1)))), (p3, .inl (cL, 150, .inr (.inl mk.2.1))), (p4, .inl (cL, 150, .inr (.inl mk.2.2.2.1))), (p5, .inl (cI, 151, .inl (opn mv.2.2.1 (d + 1) mv.1))), (p6, .inl (cI, 151, .inl (opn mv.2.2.2.2 (d + 1) mv.1))), (p7, .inl (cI, 150, .inl mk.2.2.1)), (p8, .inl (cI, 150, .inl mk.2.2.2.2))] H := hP
              replace hD : va_D A [(y, .inr (2, [.int (nI mv.1), .int (nI mk.1), .ref p1, .ref p2, .ref p3, .ref p4, .ref p5, .ref p6, .ref p7, .ref p8, .long f.1, .int f.2])), (p1, .inl (cL, 151, .inr (.inl (vp_updL (opn mv.2.1 (d + 1) mv.1) (d + 1) ((opn mv.2.1 (d + 1) mv.1) d))))), (p2, .inl (cL, 151, .inr (.inl (opn mv.2.2.2.1 (d + 1) mv.1)))), (p3, .inl (cL, 150, .inr (.inl mk.2.1))), (p4, .inl (cL, 150, .inr (.inl mk.2.2.2.1))), (p5, .inl (cI, 151, .inl (opn mv.2.2.1 (d + 1) mv.1))), (p6, .inl (cI, 151, .inl (opn mv.2.2.2.2 (d + 1) mv.1))), (p7, .inl (cI, 150, .inl mk.2.2.1)), (p8, .inl (cI, 150, .inl mk.2.2.2.2))] := hD
              refine lv_aload_n hx hb dX2_put_81 rfl (lv_at hl 0 rfl) ?_
              refine va_get (D := (dC, dI)) (ci := 2) (v := .ref p5) (C := RX2) (T := TX2) (N := 12) hx hb hts i_X2_put_X2 hown hK hP 0 rfl rfl 6 (by decide) (hts (.fieldLink RX2 22 "BlockTreeModel" "size" "[I") (by decide +kernel)) (fun _ h9 => h9) rfl dX2_put_82 ?_
              refine lv_iload hx hb dX2_put_85 (lv_at hl 6 rfl) ?_
              refine lv_aload_n hx hb dX2_put_87 rfl (lv_at hl 0 rfl) ?_
              refine va_get (D := (dC, dI)) (ci := 2) (v := .ref p5) (C := RX2) (T := TX2) (N := 12) hx hb hts i_X2_put_X2 hown hK hP 0 rfl rfl 6 (by decide) (hts (.fieldLink RX2 22 "BlockTreeModel" "size" "[I") (by decide +kernel)) (fun _ h9 => h9) rfl dX2_put_88 ?_
              refine lv_iload hx hb dX2_put_91 (lv_at hl 6 rfl) ?_
              refine lv_iconst (v := 1) hx hb dX2_put_93 (by decide) ?_
              refine lv_isub hx hb dX2_put_94 ?_
              refine lv_topi (fun z_3 ez_3 => ?_)
              obtain rfl : z_3 = nI d := ez_3.trans (nI_pred d)
              refine va_iald hx hb hK hP 5 1 rfl rfl (vp_in_nI (by omega) (by omega)) dX2_put_95 ?_
              refine lv_topi (fun z_4 ez_4 => ?_)
              rw [show (nI d).toNatClampNeg = d from (nI_clamp (by omega))] at ez_4
              subst ez_4
              refine va_iast hx hb hK hP hD hS 5 1 rfl rfl (vp_in_nI (by omega) (by omega)) dX2_put_96 (fun H locs hP hD hS => ?_)
              rw [show ((nI (d + 1))).toNatClampNeg = (d + 1) from (nI_clamp (by omega))] at hP hD
              replace hP : va_P (dC, dI) vwCl [(y, .inr (2, [.int (nI mv.1), .int (nI mk.1), .ref p1, .ref p2, .ref p3, .ref p4, .ref p5, .ref p6, .ref p7, .ref p8, .long f.1, .int f.2])), (p1, .inl (cL, 151, .inr (.inl (vp_updL (opn mv.2.1 (d + 1) mv.1) (d + 1) ((opn mv.2.1 (d + 1) mv.1) d))))), (p2, .inl (cL, 151, .inr (.inl (opn mv.2.2.2.1 (d + 1) mv.1)))), (p3, .inl (cL, 150, .inr (.inl mk.2.1))), (p4, .inl (cL, 150, .inr (.inl mk.2.2.2.1))), (p5, .inl (cI, 151, .inl (upd (opn mv.2.2.1 (d + 1) mv.1) (d + 1) ((opn mv.2.2.1 (d + 1) mv.1) d)))), (p6, .inl (cI, 151, .inl (opn mv.2.2.2.2 (d + 1) mv.1))), (p7, .inl (cI, 150, .inl mk.2.2.1)), (p8, .inl (cI, 150, .inl mk.2.2.2.2))] H := hP
              replace hD : va_D A [(y, .inr (2, [.int (nI mv.1), .int (nI mk.1), .ref p1, .ref p2, .ref p3, .ref p4, .ref p5, .ref p6, .ref p7, .ref p8, .long f.1, .int f.2])), (p1, .inl (cL, 151, .inr (.inl (vp_updL (opn mv.2.1 (d + 1) mv.1) (d + 1) ((opn mv.2.1 (d + 1) mv.1) d))))), (p2, .inl (cL, 151, .inr (.inl (opn mv.2.2.2.1 (d + 1) mv.1)))), (p3, .inl (cL, 150, .inr (.inl mk.2.1))), (p4, .inl (cL, 150, .inr (.inl mk.2.2.2.1))), (p5, .inl (cI, 151, .inl (upd (opn mv.2.2.1 (d + 1) mv.1) (d + 1) ((opn mv.2.2.1 (d + 1) mv.1) d)))), (p6, .inl (cI, 151, .inl (opn mv.2.2.2.2 (d + 1) mv.1))), (p7, .inl (cI, 150, .inl mk.2.2.1)), (p8, .inl (cI, 150, .inl mk.2.2.2.2))] := hD
              refine lv_aload_n hx hb dX2_put_97 rfl (lv_at hl 0 rfl) ?_
              refine va_get (D := (dC, dI)) (ci := 2) (v := .ref p2) (C := RX2) (T := TX2) (N := 12) hx hb hts i_X2_put_X2 hown hK hP 0 rfl rfl 3 (by decide) (hts (.fieldLink RX2 13 "BlockTreeModel" "text" "[J") (by decide +kernel)) (fun _ h9 => h9) rfl dX2_put_98 ?_
              refine lv_iload hx hb dX2_put_101 (lv_at hl 6 rfl) ?_
              refine lv_aload_n hx hb dX2_put_103 rfl (lv_at hl 0 rfl) ?_
              refine va_get (D := (dC, dI)) (ci := 2) (v := .ref p2) (C := RX2) (T := TX2) (N := 12) hx hb hts i_X2_put_X2 hown hK hP 0 rfl rfl 3 (by decide) (hts (.fieldLink RX2 13 "BlockTreeModel" "text" "[J") (by decide +kernel)) (fun _ h9 => h9) rfl dX2_put_104 ?_
              refine lv_iload hx hb dX2_put_107 (lv_at hl 6 rfl) ?_
              refine lv_iconst (v := 1) hx hb dX2_put_109 (by decide) ?_
              refine lv_isub hx hb dX2_put_110 ?_
              refine lv_topi (fun z_5 ez_5 => ?_)
              obtain rfl : z_5 = nI d := ez_5.trans (nI_pred d)
              refine va_lald hx hb hK hP 2 0 rfl rfl (vp_in_nI (by omega) (by omega)) dX2_put_111 ?_
              refine lv_topl (fun z_6 ez_6 => ?_)
              rw [show (nI d).toNatClampNeg = d from (nI_clamp (by omega))] at ez_6
              subst ez_6
              refine va_last hx hb hK hP hD hS 2 0 rfl rfl (vp_in_nI (by omega) (by omega)) dX2_put_112 (fun H locs hP hD hS => ?_)
              rw [show ((nI (d + 1))).toNatClampNeg = (d + 1) from (nI_clamp (by omega))] at hP hD
              replace hP : va_P (dC, dI) vwCl [(y, .inr (2, [.int (nI mv.1), .int (nI mk.1), .ref p1, .ref p2, .ref p3, .ref p4, .ref p5, .ref p6, .ref p7, .ref p8, .long f.1, .int f.2])), (p1, .inl (cL, 151, .inr (.inl (vp_updL (opn mv.2.1 (d + 1) mv.1) (d + 1) ((opn mv.2.1 (d + 1) mv.1) d))))), (p2, .inl (cL, 151, .inr (.inl (vp_updL (opn mv.2.2.2.1 (d + 1) mv.1) (d + 1) ((opn mv.2.2.2.1 (d + 1) mv.1) d))))), (p3, .inl (cL, 150, .inr (.inl mk.2.1))), (p4, .inl (cL, 150, .inr (.inl mk.2.2.2.1))), (p5, .inl (cI, 151, .inl (upd (opn mv.2.2.1 (d + 1) mv.1) (d + 1) ((opn mv.2.2.1 (d + 1) mv.1) d)))), (p6, .inl (cI, 151, .inl (opn mv.2.2.2.2 (d + 1) mv.1))), (p7, .inl (cI, 150, .inl mk.2.2.1)), (p8, .inl (cI, 150, .inl mk.2.2.2.2))] H := hP
              replace hD : va_D A [(y, .inr (2, [.int (nI mv.1), .int (nI mk.1), .ref p1, .ref p2, .ref p3, .ref p4, .ref p5, .ref p6, .ref p7, .ref p8, .long f.1, .int f.2])), (p1, .inl (cL, 151, .inr (.inl (vp_updL (opn mv.2.1 (d + 1) mv.1) (d + 1) ((opn mv.2.1 (d + 1) mv.1) d))))), (p2, .inl (cL, 151, .inr (.inl (vp_updL (opn mv.2.2.2.1 (d + 1) mv.1) (d + 1) ((opn mv.2.2.2.1 (d + 1) mv.1) d))))), (p3, .inl (cL, 150, .inr (.inl mk.2.1))), (p4, .inl (cL, 150, .inr (.inl mk.2.2.2.1))), (p5, .inl (cI, 151, .inl (upd (opn mv.2.2.1 (d + 1) mv.1) (d + 1) ((opn mv.2.2.1 (d + 1) mv.1) d)))), (p6, .inl (cI, 151, .inl (opn mv.2.2.2.2 (d + 1) mv.1))), (p7, .inl (cI, 150, .inl mk.2.2.1)), (p8, .inl (cI, 150, .inl mk.2.2.2.2))] := hD
              refine lv_aload_n hx hb dX2_put_113 rfl (lv_at hl 0 rfl) ?_
              refine va_get (D := (dC, dI)) (ci := 2) (v := .ref p6) (C := RX2) (T := TX2) (N := 12) hx hb hts i_X2_put_X2 hown hK hP 0 rfl rfl 7 (by decide) (hts (.fieldLink RX2 26 "BlockTreeModel" "length" "[I") (by decide +kernel)) (fun _ h9 => h9) rfl dX2_put_114 ?_
              refine lv_iload hx hb dX2_put_117 (lv_at hl 6 rfl) ?_
              refine lv_aload_n hx hb dX2_put_119 rfl (lv_at hl 0 rfl) ?_
              refine va_get (D := (dC, dI)) (ci := 2) (v := .ref p6) (C := RX2) (T := TX2) (N := 12) hx hb hts i_X2_put_X2 hown hK hP 0 rfl rfl 7 (by decide) (hts (.fieldLink RX2 26 "BlockTreeModel" "length" "[I") (by decide +kernel)) (fun _ h9 => h9) rfl dX2_put_120 ?_
              refine lv_iload hx hb dX2_put_123 (lv_at hl 6 rfl) ?_
              refine lv_iconst (v := 1) hx hb dX2_put_125 (by decide) ?_
              refine lv_isub hx hb dX2_put_126 ?_
              refine lv_topi (fun z_7 ez_7 => ?_)
              obtain rfl : z_7 = nI d := ez_7.trans (nI_pred d)
              refine va_iald hx hb hK hP 6 1 rfl rfl (vp_in_nI (by omega) (by omega)) dX2_put_127 ?_
              refine lv_topi (fun z_8 ez_8 => ?_)
              rw [show (nI d).toNatClampNeg = d from (nI_clamp (by omega))] at ez_8
              subst ez_8
              refine va_iast hx hb hK hP hD hS 6 1 rfl rfl (vp_in_nI (by omega) (by omega)) dX2_put_128 (fun H locs hP hD hS => ?_)
              rw [show ((nI (d + 1))).toNatClampNeg = (d + 1) from (nI_clamp (by omega))] at hP hD
              replace hP : va_P (dC, dI) vwCl [(y, .inr (2, [.int (nI mv.1), .int (nI mk.1), .ref p1, .ref p2, .ref p3, .ref p4, .ref p5, .ref p6, .ref p7, .ref p8, .long f.1, .int f.2])), (p1, .inl (cL, 151, .inr (.inl (vp_updL (opn mv.2.1 (d + 1) mv.1) (d + 1) ((opn mv.2.1 (d + 1) mv.1) d))))), (p2, .inl (cL, 151, .inr (.inl (vp_updL (opn mv.2.2.2.1 (d + 1) mv.1) (d + 1) ((opn mv.2.2.2.1 (d + 1) mv.1) d))))), (p3, .inl (cL, 150, .inr (.inl mk.2.1))), (p4, .inl (cL, 150, .inr (.inl mk.2.2.2.1))), (p5, .inl (cI, 151, .inl (upd (opn mv.2.2.1 (d + 1) mv.1) (d + 1) ((opn mv.2.2.1 (d + 1) mv.1) d)))), (p6, .inl (cI, 151, .inl (upd (opn mv.2.2.2.2 (d + 1) mv.1) (d + 1) ((opn mv.2.2.2.2 (d + 1) mv.1) d)))), (p7, .inl (cI, 150, .inl mk.2.2.1)), (p8, .inl (cI, 150, .inl mk.2.2.2.2))] H := hP
              replace hD : va_D A [(y, .inr (2, [.int (nI mv.1), .int (nI mk.1), .ref p1, .ref p2, .ref p3, .ref p4, .ref p5, .ref p6, .ref p7, .ref p8, .long f.1, .int f.2])), (p1, .inl (cL, 151, .inr (.inl (vp_updL (opn mv.2.1 (d + 1) mv.1) (d + 1) ((opn mv.2.1 (d + 1) mv.1) d))))), (p2, .inl (cL, 151, .inr (.inl (vp_updL (opn mv.2.2.2.1 (d + 1) mv.1) (d + 1) ((opn mv.2.2.2.1 (d + 1) mv.1) d))))), (p3, .inl (cL, 150, .inr (.inl mk.2.1))), (p4, .inl (cL, 150, .inr (.inl mk.2.2.2.1))), (p5, .inl (cI, 151, .inl (upd (opn mv.2.2.1 (d + 1) mv.1) (d + 1) ((opn mv.2.2.1 (d + 1) mv.1) d)))), (p6, .inl (cI, 151, .inl (upd (opn mv.2.2.2.2 (d + 1) mv.1) (d + 1) ((opn mv.2.2.2.2 (d + 1) mv.1) d)))), (p7, .inl (cI, 150, .inl mk.2.2.1)), (p8, .inl (cI, 150, .inl mk.2.2.2.2))] := hD
              refine lv_iinc (v := nI d) (lv' := [(8, .int (nI d)), (0, .ref y), (1, .long q), (3, .int (nI nq)), (4, .long b), (6, .int (nI nt)), (7, .int (nI j))]) hx hb dX2_put_129 hl (k := 6) rfl (pk_m1 d) (by decide) rfl (fun ls hl => ?_)
              refine lv_goto (tgt := 58) hx hb dX2_put_132 (by decide) ?_
              replace hP : va_P (dC, dI) vwCl [(y, .inr (2, [.int (nI mv.1), .int (nI mk.1), .ref p1, .ref p2, .ref p3, .ref p4, .ref p5, .ref p6, .ref p7, .ref p8, .long f.1, .int f.2])), (p1, .inl (cL, 151, .inr (.inl (opn mv.2.1 d mv.1)))), (p2, .inl (cL, 151, .inr (.inl (opn mv.2.2.2.1 d mv.1)))), (p3, .inl (cL, 150, .inr (.inl mk.2.1))), (p4, .inl (cL, 150, .inr (.inl mk.2.2.2.1))), (p5, .inl (cI, 151, .inl (opn mv.2.2.1 d mv.1))), (p6, .inl (cI, 151, .inl (opn mv.2.2.2.2 d mv.1))), (p7, .inl (cI, 150, .inl mk.2.2.1)), (p8, .inl (cI, 150, .inl mk.2.2.2.2))] H := by rw [← opn_stepL (f := mv.2.1) (q := d) (by omega), ← opn_stepI (f := mv.2.2.1) (q := d) (by omega), ← opn_stepL (f := mv.2.2.2.1) (q := d) (by omega), ← opn_stepI (f := mv.2.2.2.2) (q := d) (by omega)]; exact hP
              replace hD : va_D A [(y, .inr (2, [.int (nI mv.1), .int (nI mk.1), .ref p1, .ref p2, .ref p3, .ref p4, .ref p5, .ref p6, .ref p7, .ref p8, .long f.1, .int f.2])), (p1, .inl (cL, 151, .inr (.inl (opn mv.2.1 d mv.1)))), (p2, .inl (cL, 151, .inr (.inl (opn mv.2.2.2.1 d mv.1)))), (p3, .inl (cL, 150, .inr (.inl mk.2.1))), (p4, .inl (cL, 150, .inr (.inl mk.2.2.2.1))), (p5, .inl (cI, 151, .inl (opn mv.2.2.1 d mv.1))), (p6, .inl (cI, 151, .inl (opn mv.2.2.2.2 d mv.1))), (p7, .inl (cI, 150, .inl mk.2.2.1)), (p8, .inl (cI, 150, .inl mk.2.2.2.2))] := by rw [← opn_stepL (f := mv.2.1) (q := d) (by omega), ← opn_stepI (f := mv.2.2.1) (q := d) (by omega), ← opn_stepL (f := mv.2.2.2.1) (q := d) (by omega), ← opn_stepI (f := mv.2.2.2.2) (q := d) (by omega)]; exact hD
              apply ih (w := d) (ls := ls) (H := H) (locs := locs)
              all_goals first | omega | exact lv_sub hl [1, 2, 3, 4, 5, 6, 0] rfl | exact hP | exact hD | exact hS
          · skip
            have hlt : ¬ mv.1 < 150 := fun q2 => by
              have e9 : mv.1 = 150 := (nI_eq (by omega) (by decide)).mp c_47
              omega
            refine lv_iconst (v := 0) hx hb dX2_put_50 (by decide) ?_
            exact W.zret (v := 0) hx hb hr rfl (fun t9 ht hW => ⟨⟨0, mv, rfl, Or.inl ⟨hok, hokT, Or.inr (Or.inr ⟨hh, hlt, rfl, rfl⟩)⟩, by rw [ht]; exact hP, hD⟩, hS.F ht⟩) hS.2.2 dX2_put_51
      · skip
        have hbad : ¬ (okK (nI nq) ∧ okT n) := fun g => c_16 (Int32.not_lt.mp g.2.2)
        refine lv_iconst (v := 0) hx hb dX2_put_19 (by decide) ?_
        exact W.zret (v := 0) hx hb hr rfl (fun t9 ht hW => ⟨⟨0, mv, rfl, Or.inr ⟨hbad, rfl, rfl⟩, by rw [ht]; exact hP, hD⟩, hS.F ht⟩) hS.2.2 dX2_put_20
  · skip
    have hbad : ¬ (okK t ∧ okT n) := fun g => hok g.1
    refine lv_if_eq (tgt := 19) hx hb dX2_put_4 (by decide) (fun c_4 => ?_) (fun c_4 => absurd c_4 (by decide))
    refine lv_iconst (v := 0) hx hb dX2_put_19 (by decide) ?_
    exact W.zret (v := 0) hx hb hr rfl (fun t9 ht hW => ⟨⟨0, mv, rfl, Or.inr ⟨hbad, rfl, rfl⟩, by rw [ht]; exact hP, hD⟩, hS.F ht⟩) hS.2.2 dX2_put_20
