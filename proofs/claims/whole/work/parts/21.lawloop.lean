set_option maxHeartbeats 4000000 in
set_option maxRecDepth 100000 in
/-- behind a case: seven ints on -/
theorem lw_next {p : Program} {l : Launch} {e : Env} {s : State} {m : MethodId} {below : List Frame} {meth : Method} {c : Code} {b L : Nat} {xs : Nat → Int32} (hL : L ≤ 3584) (C0 : lw_At p s m meth c b L xs) {dC : Nat → ClassId} {dI : Nat → Nat → Nat} {cL cI : ClassId} (hK : va_K (dC, dI) vwCl (kS cL cI) s) {x r k a1 a2 a3 a4 b1 b2 b3 b4 y p1 p2 p3 p4 p5 p6 p7 p8 : Nat} {i : Nat} (hi : i + 7 ≤ L) (K : LK p l e s m below meth c b dC dI cL cI x r k a1 a2 a3 a4 b1 b2 b3 b4 y p1 p2 p3 p4 p5 p6 p7 p8 (i + 7) 18) : LK p l e s m below meth c b dC dI cL cI x r k a1 a2 a3 a4 b1 b2 b3 b4 y p1 p2 p3 p4 p5 p6 p7 p8 i 585 := by
  intro v vk mv mk f H locs ls hI hP hD hS hl
  obtain ⟨hx, hb, hr, hml, hown, hts, hX, hbl, hlocks, hgv⟩ := C0
  have hA : ∀ q : Nat, s.heap.size ≤ q → (fun q : Nat => s.heap.size ≤ q) q := fun _ h => h
  have hbA : ¬ (fun q : Nat => s.heap.size ≤ q) b := Nat.not_le.mpr hbl
  have htl : ∀ w ∈ wsL_law, w.before #[Value.ref b] s = true := fun w h => hts w (wsL_law_in w h)
  replace hown : s.vm.findClass RL = some m.cls := hown
  replace hP : va_P (dC, dI) vwCl [(x, .inr (1, [.ref r, .ref k, .long f.1, .int f.2])), (r, .inr (0, [.ref a1, .ref a2, .ref a3, .ref a4, .int (nI v.1)])), (a1, .inl (cL, 150, .inr (.inl v.2.1))), (a2, .inl (cI, 150, .inl v.2.2.1)), (a3, .inl (cL, 150, .inr (.inl v.2.2.2.1))), (a4, .inl (cI, 150, .inl v.2.2.2.2)), (k, .inr (0, [.ref b1, .ref b2, .ref b3, .ref b4, .int (nI vk.1)])), (b1, .inl (cL, 150, .inr (.inl vk.2.1))), (b2, .inl (cI, 150, .inl vk.2.2.1)), (b3, .inl (cL, 150, .inr (.inl vk.2.2.2.1))), (b4, .inl (cI, 150, .inl vk.2.2.2.2)), (y, .inr (2, [.int (nI mv.1), .int (nI mk.1), .ref p1, .ref p2, .ref p3, .ref p4, .ref p5, .ref p6, .ref p7, .ref p8, .long f.1, .int f.2])), (p1, .inl (cL, 151, .inr (.inl mv.2.1))), (p2, .inl (cL, 151, .inr (.inl mv.2.2.2.1))), (p3, .inl (cL, 150, .inr (.inl mk.2.1))), (p4, .inl (cL, 150, .inr (.inl mk.2.2.2.1))), (p5, .inl (cI, 151, .inl mv.2.2.1)), (p6, .inl (cI, 151, .inl mv.2.2.2.2)), (p7, .inl (cI, 150, .inl mk.2.2.1)), (p8, .inl (cI, 150, .inl mk.2.2.2.2))] H := hP
  replace hD : va_D (fun q : Nat => s.heap.size ≤ q) [(x, .inr (1, [.ref r, .ref k, .long f.1, .int f.2])), (r, .inr (0, [.ref a1, .ref a2, .ref a3, .ref a4, .int (nI v.1)])), (a1, .inl (cL, 150, .inr (.inl v.2.1))), (a2, .inl (cI, 150, .inl v.2.2.1)), (a3, .inl (cL, 150, .inr (.inl v.2.2.2.1))), (a4, .inl (cI, 150, .inl v.2.2.2.2)), (k, .inr (0, [.ref b1, .ref b2, .ref b3, .ref b4, .int (nI vk.1)])), (b1, .inl (cL, 150, .inr (.inl vk.2.1))), (b2, .inl (cI, 150, .inl vk.2.2.1)), (b3, .inl (cL, 150, .inr (.inl vk.2.2.2.1))), (b4, .inl (cI, 150, .inl vk.2.2.2.2)), (y, .inr (2, [.int (nI mv.1), .int (nI mk.1), .ref p1, .ref p2, .ref p3, .ref p4, .ref p5, .ref p6, .ref p7, .ref p8, .long f.1, .int f.2])), (p1, .inl (cL, 151, .inr (.inl mv.2.1))), (p2, .inl (cL, 151, .inr (.inl mv.2.2.2.1))), (p3, .inl (cL, 150, .inr (.inl mk.2.1))), (p4, .inl (cL, 150, .inr (.inl mk.2.2.2.1))), (p5, .inl (cI, 151, .inl mv.2.2.1)), (p6, .inl (cI, 151, .inl mv.2.2.2.2)), (p7, .inl (cI, 150, .inl mk.2.2.1)), (p8, .inl (cI, 150, .inl mk.2.2.2.2))] := hD
  have hi31 : i + 7 < 2 ^ 31 := by omega
  refine lv_iinc (v := nI (i + 7)) (lv' := [(3, .int (nI (i + 7))), (0, .ref b), (1, .ref x), (2, .ref y)]) hx hb dL_law_585 hl (k := 3) rfl (nI_add i 7) (by decide) rfl (fun ls hl => ?_)
  refine lv_goto (tgt := 18) hx hb dL_law_588 (by decide) ?_
  exact K v vk mv mk f H locs ls hI hP hD hS (lv_sub hl [1, 2, 3, 0] rfl)
set_option maxHeartbeats 4000000 in
set_option maxRecDepth 100000 in
/-- THE LAW'S LOOP -/
theorem lw_loop {p : Program} {l : Launch} {e : Env} {s : State} {m : MethodId} {below : List Frame} {meth : Method} {c : Code} {b L : Nat} {xs : Nat → Int32} (hL : L ≤ 3584) (C0 : lw_At p s m meth c b L xs) {dC : Nat → ClassId} {dI : Nat → Nat → Nat} {cL cI : ClassId} (hK : va_K (dC, dI) vwCl (kS cL cI) s) {x r k a1 a2 a3 a4 b1 b2 b3 b4 y p1 p2 p3 p4 p5 p6 p7 p8 : Nat} : ∀ (g i : Nat), L ≤ i + g → i ≤ 3584 → LK p l e s m below meth c b dC dI cL cI x r k a1 a2 a3 a4 b1 b2 b3 b4 y p1 p2 p3 p4 p5 p6 p7 p8 i 18 := by
  intro g
  induction g with
  | zero =>
    intro i hg hi
    intro v vk mv mk f H locs ls hI hP hD hS hl
    obtain ⟨hx, hb, hr, hml, hown, hts, hX, hbl, hlocks, hgv⟩ := id C0
    have hA : ∀ q : Nat, s.heap.size ≤ q → (fun q : Nat => s.heap.size ≤ q) q := fun _ h => h
    have hbA : ¬ (fun q : Nat => s.heap.size ≤ q) b := Nat.not_le.mpr hbl
    have htl : ∀ w ∈ wsL_law, w.before #[Value.ref b] s = true := fun w h => hts w (wsL_law_in w h)
    replace hown : s.vm.findClass RL = some m.cls := hown
    replace hP : va_P (dC, dI) vwCl [(x, .inr (1, [.ref r, .ref k, .long f.1, .int f.2])), (r, .inr (0, [.ref a1, .ref a2, .ref a3, .ref a4, .int (nI v.1)])), (a1, .inl (cL, 150, .inr (.inl v.2.1))), (a2, .inl (cI, 150, .inl v.2.2.1)), (a3, .inl (cL, 150, .inr (.inl v.2.2.2.1))), (a4, .inl (cI, 150, .inl v.2.2.2.2)), (k, .inr (0, [.ref b1, .ref b2, .ref b3, .ref b4, .int (nI vk.1)])), (b1, .inl (cL, 150, .inr (.inl vk.2.1))), (b2, .inl (cI, 150, .inl vk.2.2.1)), (b3, .inl (cL, 150, .inr (.inl vk.2.2.2.1))), (b4, .inl (cI, 150, .inl vk.2.2.2.2)), (y, .inr (2, [.int (nI mv.1), .int (nI mk.1), .ref p1, .ref p2, .ref p3, .ref p4, .ref p5, .ref p6, .ref p7, .ref p8, .long f.1, .int f.2])), (p1, .inl (cL, 151, .inr (.inl mv.2.1))), (p2, .inl (cL, 151, .inr (.inl mv.2.2.2.1))), (p3, .inl (cL, 150, .inr (.inl mk.2.1))), (p4, .inl (cL, 150, .inr (.inl mk.2.2.2.1))), (p5, .inl (cI, 151, .inl mv.2.2.1)), (p6, .inl (cI, 151, .inl mv.2.2.2.2)), (p7, .inl (cI, 150, .inl mk.2.2.1)), (p8, .inl (cI, 150, .inl mk.2.2.2.2))] H := hP
    replace hD : va_D (fun q : Nat => s.heap.size ≤ q) [(x, .inr (1, [.ref r, .ref k, .long f.1, .int f.2])), (r, .inr (0, [.ref a1, .ref a2, .ref a3, .ref a4, .int (nI v.1)])), (a1, .inl (cL, 150, .inr (.inl v.2.1))), (a2, .inl (cI, 150, .inl v.2.2.1)), (a3, .inl (cL, 150, .inr (.inl v.2.2.2.1))), (a4, .inl (cI, 150, .inl v.2.2.2.2)), (k, .inr (0, [.ref b1, .ref b2, .ref b3, .ref b4, .int (nI vk.1)])), (b1, .inl (cL, 150, .inr (.inl vk.2.1))), (b2, .inl (cI, 150, .inl vk.2.2.1)), (b3, .inl (cL, 150, .inr (.inl vk.2.2.2.1))), (b4, .inl (cI, 150, .inl vk.2.2.2.2)), (y, .inr (2, [.int (nI mv.1), .int (nI mk.1), .ref p1, .ref p2, .ref p3, .ref p4, .ref p5, .ref p6, .ref p7, .ref p8, .long f.1, .int f.2])), (p1, .inl (cL, 151, .inr (.inl mv.2.1))), (p2, .inl (cL, 151, .inr (.inl mv.2.2.2.1))), (p3, .inl (cL, 150, .inr (.inl mk.2.1))), (p4, .inl (cL, 150, .inr (.inl mk.2.2.2.1))), (p5, .inl (cI, 151, .inl mv.2.2.1)), (p6, .inl (cI, 151, .inl mv.2.2.2.2)), (p7, .inl (cI, 150, .inl mk.2.2.1)), (p8, .inl (cI, 150, .inl mk.2.2.2.2))] := hD
    have hi31 : i + 7 < 2 ^ 31 := by omega
    refine lv_iload_n hx hb dL_law_18 rfl (lv_at hl 3 rfl) ?_
    refine lv_aload_n hx hb dL_law_19 rfl (lv_at hl 0 rfl) ?_
    refine va_slen hx hb hX hbl hbA hS dL_law_20 ?_
    refine lv_bipush (v := 7) hx hb dL_law_21 (by decide) ?_
    refine lv_isub hx hb dL_law_23 ?_
    refine lv_icmp_gt (tgt := 591) hx hb dL_law_24 (by decide) (fun c_24 => ?_) (fun c_24 => ?_)
    · skip
      refine lv_iconst (v := 1) hx hb dL_law_591 (by decide) ?_
      refine va_forget (fun q hq => hS.2.2 q hq) ?_
      exact lw_ret hx hb hr hlocks dL_law_592
    · skip
      have hi7 : i + 7 ≤ L := lw_ge hi hL c_24
      exact absurd hi7 (by omega) --STOP
  | succ g ih =>
    intro i hg hi
    intro v vk mv mk f H locs ls hI hP hD hS hl
    obtain ⟨hx, hb, hr, hml, hown, hts, hX, hbl, hlocks, hgv⟩ := id C0
    have hA : ∀ q : Nat, s.heap.size ≤ q → (fun q : Nat => s.heap.size ≤ q) q := fun _ h => h
    have hbA : ¬ (fun q : Nat => s.heap.size ≤ q) b := Nat.not_le.mpr hbl
    have htl : ∀ w ∈ wsL_law, w.before #[Value.ref b] s = true := fun w h => hts w (wsL_law_in w h)
    replace hown : s.vm.findClass RL = some m.cls := hown
    replace hP : va_P (dC, dI) vwCl [(x, .inr (1, [.ref r, .ref k, .long f.1, .int f.2])), (r, .inr (0, [.ref a1, .ref a2, .ref a3, .ref a4, .int (nI v.1)])), (a1, .inl (cL, 150, .inr (.inl v.2.1))), (a2, .inl (cI, 150, .inl v.2.2.1)), (a3, .inl (cL, 150, .inr (.inl v.2.2.2.1))), (a4, .inl (cI, 150, .inl v.2.2.2.2)), (k, .inr (0, [.ref b1, .ref b2, .ref b3, .ref b4, .int (nI vk.1)])), (b1, .inl (cL, 150, .inr (.inl vk.2.1))), (b2, .inl (cI, 150, .inl vk.2.2.1)), (b3, .inl (cL, 150, .inr (.inl vk.2.2.2.1))), (b4, .inl (cI, 150, .inl vk.2.2.2.2)), (y, .inr (2, [.int (nI mv.1), .int (nI mk.1), .ref p1, .ref p2, .ref p3, .ref p4, .ref p5, .ref p6, .ref p7, .ref p8, .long f.1, .int f.2])), (p1, .inl (cL, 151, .inr (.inl mv.2.1))), (p2, .inl (cL, 151, .inr (.inl mv.2.2.2.1))), (p3, .inl (cL, 150, .inr (.inl mk.2.1))), (p4, .inl (cL, 150, .inr (.inl mk.2.2.2.1))), (p5, .inl (cI, 151, .inl mv.2.2.1)), (p6, .inl (cI, 151, .inl mv.2.2.2.2)), (p7, .inl (cI, 150, .inl mk.2.2.1)), (p8, .inl (cI, 150, .inl mk.2.2.2.2))] H := hP
    replace hD : va_D (fun q : Nat => s.heap.size ≤ q) [(x, .inr (1, [.ref r, .ref k, .long f.1, .int f.2])), (r, .inr (0, [.ref a1, .ref a2, .ref a3, .ref a4, .int (nI v.1)])), (a1, .inl (cL, 150, .inr (.inl v.2.1))), (a2, .inl (cI, 150, .inl v.2.2.1)), (a3, .inl (cL, 150, .inr (.inl v.2.2.2.1))), (a4, .inl (cI, 150, .inl v.2.2.2.2)), (k, .inr (0, [.ref b1, .ref b2, .ref b3, .ref b4, .int (nI vk.1)])), (b1, .inl (cL, 150, .inr (.inl vk.2.1))), (b2, .inl (cI, 150, .inl vk.2.2.1)), (b3, .inl (cL, 150, .inr (.inl vk.2.2.2.1))), (b4, .inl (cI, 150, .inl vk.2.2.2.2)), (y, .inr (2, [.int (nI mv.1), .int (nI mk.1), .ref p1, .ref p2, .ref p3, .ref p4, .ref p5, .ref p6, .ref p7, .ref p8, .long f.1, .int f.2])), (p1, .inl (cL, 151, .inr (.inl mv.2.1))), (p2, .inl (cL, 151, .inr (.inl mv.2.2.2.1))), (p3, .inl (cL, 150, .inr (.inl mk.2.1))), (p4, .inl (cL, 150, .inr (.inl mk.2.2.2.1))), (p5, .inl (cI, 151, .inl mv.2.2.1)), (p6, .inl (cI, 151, .inl mv.2.2.2.2)), (p7, .inl (cI, 150, .inl mk.2.2.1)), (p8, .inl (cI, 150, .inl mk.2.2.2.2))] := hD
    have hi31 : i + 7 < 2 ^ 31 := by omega
    refine lv_iload_n hx hb dL_law_18 rfl (lv_at hl 3 rfl) ?_
    refine lv_aload_n hx hb dL_law_19 rfl (lv_at hl 0 rfl) ?_
    refine va_slen hx hb hX hbl hbA hS dL_law_20 ?_
    refine lv_bipush (v := 7) hx hb dL_law_21 (by decide) ?_
    refine lv_isub hx hb dL_law_23 ?_
    refine lv_icmp_gt (tgt := 591) hx hb dL_law_24 (by decide) (fun c_24 => ?_) (fun c_24 => ?_)
    · skip
      refine lv_iconst (v := 1) hx hb dL_law_591 (by decide) ?_
      refine va_forget (fun q hq => hS.2.2 q hq) ?_
      exact lw_ret hx hb hr hlocks dL_law_592
    · skip
      have hi7 : i + 7 ≤ L := lw_ge hi hL c_24
      refine lv_aload_n hx hb dL_law_27 rfl (lv_at hl 0 rfl) ?_
      refine lv_iload_n hx hb dL_law_28 rfl (lv_at hl 3 rfl) ?_
      refine va_sld hx hb hX hbl hbA hS (vp_in_nI (show i < L by omega) (by omega)) dL_law_29 ?_
      refine lv_topi (fun z_1 ez_1 => ?_)
      obtain rfl : z_1 = xs i := ez_1.trans (by rw [nI_clamp (by omega)])
      refine lv_bipush (v := 15) hx hb dL_law_30 (by decide) ?_
      refine lv_iand hx hb dL_law_32 ?_
      obtain ⟨sw, hsw, esw⟩ := pk_andE (xs i) (m := 15) 4 (by decide)
      refine lv_topi (fun zw ezw => ?_)
      obtain rfl : zw = nI sw := ezw.trans esw
      have hN := lw_next (l := l) (below := below) hL C0 hK hi7 (ih (i + 7) (by omega) (by omega))
      rcases (show sw = 0 ∨ sw = 1 ∨ sw = 2 ∨ sw = 3 ∨ sw = 4 ∨ sw = 5 ∨ sw = 6 ∨ sw = 7 ∨ sw = 8 ∨ sw = 9 ∨ sw = 10 ∨ sw = 11 ∨ sw = 12 ∨ sw = 13 ∨ sw = 14 ∨ sw = 15 by omega) with rfl | rfl | rfl | rfl | rfl | rfl | rfl | rfl | rfl | rfl | rfl | rfl | rfl | rfl | rfl | rfl
      · refine lv_tableIn (off := 59) (tgt := 92) hx hb dL_law_33 (by decide) (by decide) (by decide) (by decide) ?_
        exact lw_c0 hL C0 hK hi7 hN v vk mv mk f H locs ls hI hP hD hS hl
      · refine lv_tableIn (off := 174) (tgt := 207) hx hb dL_law_33 (by decide) (by decide) (by decide) (by decide) ?_
        exact lw_c1 hL C0 hK hi7 hN v vk mv mk f H locs ls hI hP hD hS hl
      · refine lv_tableIn (off := 237) (tgt := 270) hx hb dL_law_33 (by decide) (by decide) (by decide) (by decide) ?_
        exact lw_c2 hL C0 hK hi7 hN v vk mv mk f H locs ls hI hP hD hS hl
      · refine lv_tableIn (off := 300) (tgt := 333) hx hb dL_law_33 (by decide) (by decide) (by decide) (by decide) ?_
        exact lw_c3 hL C0 hK hi7 hN v vk mv mk f H locs ls hI hP hD hS hl
      · refine lv_tableIn (off := 364) (tgt := 397) hx hb dL_law_33 (by decide) (by decide) (by decide) (by decide) ?_
        exact lw_c4 hL C0 hK hi7 hN v vk mv mk f H locs ls hI hP hD hS hl
      · refine lv_tableIn (off := 427) (tgt := 460) hx hb dL_law_33 (by decide) (by decide) (by decide) (by decide) ?_
        exact lw_c5 hL C0 hK hi7 hN v vk mv mk f H locs ls hI hP hD hS hl
      · refine lv_tableIn (off := 490) (tgt := 523) hx hb dL_law_33 (by decide) (by decide) (by decide) (by decide) ?_
        exact lw_c6 hL C0 hK hi7 hN v vk mv mk f H locs ls hI hP hD hS hl
      · refine lv_tableIn (off := 503) (tgt := 536) hx hb dL_law_33 (by decide) (by decide) (by decide) (by decide) ?_
        exact lw_c7 hL C0 hK hi7 hN v vk mv mk f H locs ls hI hP hD hS hl
      · refine lv_tableIn (off := 517) (tgt := 550) hx hb dL_law_33 (by decide) (by decide) (by decide) (by decide) ?_
        exact lw_c8 hL C0 hK hi7 hN v vk mv mk f H locs ls hI hP hD hS hl
      · refine lv_tableIn (off := 530) (tgt := 563) hx hb dL_law_33 (by decide) (by decide) (by decide) (by decide) ?_
        exact lw_c9 hL C0 hK hi7 hN v vk mv mk f H locs ls hI hP hD hS hl
      · refine lv_tableIn (off := 541) (tgt := 574) hx hb dL_law_33 (by decide) (by decide) (by decide) (by decide) ?_
        exact lw_c10 hL C0 hK hi7 hN v vk mv mk f H locs ls hI hP hD hS hl
      · refine lv_tableOut (tgt := 585) hx hb dL_law_33 (by decide) (by decide) ?_
        exact hN v vk mv mk f H locs ls hI hP hD hS hl
      · refine lv_tableOut (tgt := 585) hx hb dL_law_33 (by decide) (by decide) ?_
        exact hN v vk mv mk f H locs ls hI hP hD hS hl
      · refine lv_tableOut (tgt := 585) hx hb dL_law_33 (by decide) (by decide) ?_
        exact hN v vk mv mk f H locs ls hI hP hD hS hl
      · refine lv_tableOut (tgt := 585) hx hb dL_law_33 (by decide) (by decide) ?_
        exact hN v vk mv mk f H locs ls hI hP hD hS hl
      · refine lv_tableOut (tgt := 585) hx hb dL_law_33 (by decide) (by decide) ?_
        exact hN v vk mv mk f H locs ls hI hP hD hS hl
