set_option maxHeartbeats 4000000 in
set_option maxRecDepth 100000 in
/-- before -/
theorem lw_c5 {p : Program} {l : Launch} {e : Env} {s : State} {m : MethodId} {below : List Frame} {meth : Method} {c : Code} {b L : Nat} {xs : Nat → Int32} (hL : L ≤ 3584) (C0 : lw_At p s m meth c b L xs) {dC : Nat → ClassId} {dI : Nat → Nat → Nat} {cL cI : ClassId} (hK : va_K (dC, dI) vwCl (kS cL cI) s) {x r k a1 a2 a3 a4 b1 b2 b3 b4 y p1 p2 p3 p4 p5 p6 p7 p8 : Nat} {i : Nat} (hi : i + 7 ≤ L) (K : LK p l e s m below meth c b dC dI cL cI x r k a1 a2 a3 a4 b1 b2 b3 b4 y p1 p2 p3 p4 p5 p6 p7 p8 i 585) : LK p l e s m below meth c b dC dI cL cI x r k a1 a2 a3 a4 b1 b2 b3 b4 y p1 p2 p3 p4 p5 p6 p7 p8 i 460 := by
  intro v vk mv mk f H locs ls hI hP hD hS hl
  obtain ⟨hx, hb, hr, hml, hown, hts, hX, hbl, hlocks, hgv⟩ := C0
  have hA : ∀ q : Nat, s.heap.size ≤ q → (fun q : Nat => s.heap.size ≤ q) q := fun _ h => h
  have hbA : ¬ (fun q : Nat => s.heap.size ≤ q) b := Nat.not_le.mpr hbl
  have htl : ∀ w ∈ wsL_law, w.before #[Value.ref b] s = true := fun w h => hts w (wsL_law_in w h)
  replace hown : s.vm.findClass RL = some m.cls := hown
  replace hP : va_P (dC, dI) vwCl [(x, .inr (1, [.ref r, .ref k, .long f.1, .int f.2])), (r, .inr (0, [.ref a1, .ref a2, .ref a3, .ref a4, .int (nI v.1)])), (a1, .inl (cL, 150, .inr (.inl v.2.1))), (a2, .inl (cI, 150, .inl v.2.2.1)), (a3, .inl (cL, 150, .inr (.inl v.2.2.2.1))), (a4, .inl (cI, 150, .inl v.2.2.2.2)), (k, .inr (0, [.ref b1, .ref b2, .ref b3, .ref b4, .int (nI vk.1)])), (b1, .inl (cL, 150, .inr (.inl vk.2.1))), (b2, .inl (cI, 150, .inl vk.2.2.1)), (b3, .inl (cL, 150, .inr (.inl vk.2.2.2.1))), (b4, .inl (cI, 150, .inl vk.2.2.2.2)), (y, .inr (2, [.int (nI mv.1), .int (nI mk.1), .ref p1, .ref p2, .ref p3, .ref p4, .ref p5, .ref p6, .ref p7, .ref p8, .long f.1, .int f.2])), (p1, .inl (cL, 151, .inr (.inl mv.2.1))), (p2, .inl (cL, 151, .inr (.inl mv.2.2.2.1))), (p3, .inl (cL, 150, .inr (.inl mk.2.1))), (p4, .inl (cL, 150, .inr (.inl mk.2.2.2.1))), (p5, .inl (cI, 151, .inl mv.2.2.1)), (p6, .inl (cI, 151, .inl mv.2.2.2.2)), (p7, .inl (cI, 150, .inl mk.2.2.1)), (p8, .inl (cI, 150, .inl mk.2.2.2.2))] H := hP
  replace hD : va_D (fun q : Nat => s.heap.size ≤ q) [(x, .inr (1, [.ref r, .ref k, .long f.1, .int f.2])), (r, .inr (0, [.ref a1, .ref a2, .ref a3, .ref a4, .int (nI v.1)])), (a1, .inl (cL, 150, .inr (.inl v.2.1))), (a2, .inl (cI, 150, .inl v.2.2.1)), (a3, .inl (cL, 150, .inr (.inl v.2.2.2.1))), (a4, .inl (cI, 150, .inl v.2.2.2.2)), (k, .inr (0, [.ref b1, .ref b2, .ref b3, .ref b4, .int (nI vk.1)])), (b1, .inl (cL, 150, .inr (.inl vk.2.1))), (b2, .inl (cI, 150, .inl vk.2.2.1)), (b3, .inl (cL, 150, .inr (.inl vk.2.2.2.1))), (b4, .inl (cI, 150, .inl vk.2.2.2.2)), (y, .inr (2, [.int (nI mv.1), .int (nI mk.1), .ref p1, .ref p2, .ref p3, .ref p4, .ref p5, .ref p6, .ref p7, .ref p8, .long f.1, .int f.2])), (p1, .inl (cL, 151, .inr (.inl mv.2.1))), (p2, .inl (cL, 151, .inr (.inl mv.2.2.2.1))), (p3, .inl (cL, 150, .inr (.inl mk.2.1))), (p4, .inl (cL, 150, .inr (.inl mk.2.2.2.1))), (p5, .inl (cI, 151, .inl mv.2.2.1)), (p6, .inl (cI, 151, .inl mv.2.2.2.2)), (p7, .inl (cI, 150, .inl mk.2.2.1)), (p8, .inl (cI, 150, .inl mk.2.2.2.2))] := hD
  have hi31 : i + 7 < 2 ^ 31 := by omega
  refine lv_aload_n hx hb dL_law_460 rfl (lv_at hl 1 rfl) ?_
  refine lv_aload_n hx hb dL_law_461 rfl (lv_at hl 0 rfl) ?_
  refine lv_iload_n hx hb dL_law_462 rfl (lv_at hl 3 rfl) ?_
  refine lv_iconst (v := 1) hx hb dL_law_463 (by decide) ?_
  refine lv_iadd hx hb dL_law_464 ?_
  refine lv_topi (fun z_1 ez_1 => ?_)
  obtain rfl : z_1 = nI (i + 1) := ez_1.trans (nI_add i 1)
  refine va_sld hx hb hX hbl hbA hS (vp_in_nI (show i + 1 < L by omega) (by omega)) dL_law_465 ?_
  refine lv_topi (fun z_2 ez_2 => ?_)
  obtain rfl : z_2 = xs (i + 1) := ez_2.trans (by rw [nI_clamp (by omega)])
  refine lv_i2l hx hb dL_law_466 rfl ?_
  refine lv_bipush (v := 32) hx hb dL_law_467 (by decide) ?_
  refine lv_lshl hx hb dL_law_469 rfl ?_
  refine lv_aload_n hx hb dL_law_470 rfl (lv_at hl 0 rfl) ?_
  refine lv_iload_n hx hb dL_law_471 rfl (lv_at hl 3 rfl) ?_
  refine lv_iconst (v := 2) hx hb dL_law_472 (by decide) ?_
  refine lv_iadd hx hb dL_law_473 ?_
  refine lv_topi (fun z_3 ez_3 => ?_)
  obtain rfl : z_3 = nI (i + 2) := ez_3.trans (nI_add i 2)
  refine va_sld hx hb hX hbl hbA hS (vp_in_nI (show i + 2 < L by omega) (by omega)) dL_law_474 ?_
  refine lv_topi (fun z_4 ez_4 => ?_)
  obtain rfl : z_4 = xs (i + 2) := ez_4.trans (by rw [nI_clamp (by omega)])
  refine lv_i2l hx hb dL_law_475 rfl ?_
  refine lv_ldc2 (v := 4294967295) hx hb hown (hts (.constantLong RL 13 4294967295) (by decide +kernel)) dL_law_476 ?_
  refine lv_land hx hb dL_law_479 ?_
  refine lv_lor hx hb dL_law_480 ?_
  refine lv_topl (fun ky eky => ?_)
  refine lv_aload_n hx hb dL_law_481 rfl (lv_at hl 0 rfl) ?_
  refine lv_iload_n hx hb dL_law_482 rfl (lv_at hl 3 rfl) ?_
  refine lv_iconst (v := 3) hx hb dL_law_483 (by decide) ?_
  refine lv_iadd hx hb dL_law_484 ?_
  refine lv_topi (fun z_5 ez_5 => ?_)
  obtain rfl : z_5 = nI (i + 3) := ez_5.trans (nI_add i 3)
  refine va_sld hx hb hX hbl hbA hS (vp_in_nI (show i + 3 < L by omega) (by omega)) dL_law_485 ?_
  refine lv_topi (fun z_6 ez_6 => ?_)
  obtain rfl : z_6 = xs (i + 3) := ez_6.trans (by rw [nI_clamp (by omega)])
  obtain ⟨j, hj⟩ := ex_j hI.1 ky (xs (i + 3))
  refine wr_calli (wr := [(k, .inr (0, [.ref b1, .ref b2, .ref b3, .ref b4, .int (nI vk.1)])), (b1, .inl (cL, 150, .inr (.inl vk.2.1))), (b2, .inl (cI, 150, .inl vk.2.2.1)), (b3, .inl (cL, 150, .inr (.inl vk.2.2.2.1))), (b4, .inl (cI, 150, .inl vk.2.2.2.2)), (y, .inr (2, [.int (nI mv.1), .int (nI mk.1), .ref p1, .ref p2, .ref p3, .ref p4, .ref p5, .ref p6, .ref p7, .ref p8, .long f.1, .int f.2])), (p1, .inl (cL, 151, .inr (.inl mv.2.1))), (p2, .inl (cL, 151, .inr (.inl mv.2.2.2.1))), (p3, .inl (cL, 150, .inr (.inl mk.2.1))), (p4, .inl (cL, 150, .inr (.inl mk.2.2.2.1))), (p5, .inl (cI, 151, .inl mv.2.2.1)), (p6, .inl (cI, 151, .inl mv.2.2.2.2)), (p7, .inl (cI, 150, .inl mk.2.2.1)), (p8, .inl (cI, 150, .inl mk.2.2.2.2))]) (va_runV (As := [.long ky, .int (xs (i + 3))]) (rest := []) ⟨hx, hb, hml, hown, hts⟩ (c_before l dC dI _ cL cI x r k a1 a2 a3 a4 f.1 f.2 v.1 v.2.1 v.2.2.1 v.2.2.2.1 v.2.2.2.2 hI.1.1 ky (xs (i + 3)) j (fun o => (hj o).1)) (cwV 2 htl gL_law_X1_before rfl rfl rfl (by decide +kernel) ⟨Nat.le_of_ble_eq_true rfl, Nat.le_of_ble_eq_true rfl⟩) (wr_preV hK (hP.sub (ws' := [(x, .inr (1, [.ref r, .ref k, .long f.1, .int f.2])), (r, .inr (0, [.ref a1, .ref a2, .ref a3, .ref a4, .int (nI v.1)])), (a1, .inl (cL, 150, .inr (.inl v.2.1))), (a2, .inl (cI, 150, .inl v.2.2.1)), (a3, .inl (cL, 150, .inr (.inl v.2.2.2.1))), (a4, .inl (cI, 150, .inl v.2.2.2.2))]) [0, 1, 2, 3, 4, 5] rfl) (hD.sub (ws' := [(x, .inr (1, [.ref r, .ref k, .long f.1, .int f.2])), (r, .inr (0, [.ref a1, .ref a2, .ref a3, .ref a4, .int (nI v.1)])), (a1, .inl (cL, 150, .inr (.inl v.2.1))), (a2, .inl (cI, 150, .inl v.2.2.1)), (a3, .inl (cL, 150, .inr (.inl v.2.2.2.1))), (a4, .inl (cI, 150, .inl v.2.2.2.2))]) [0, 1, 2, 3, 4, 5] (by decide) rfl) (ci := 1) (q0 := 0) rfl rfl) rfl rfl hl.1 rfl (lv_room (Nat.le_of_ble_eq_true rfl)) dL_law_486 ⟨Nat.le_of_ble_eq_true rfl, Nat.le_of_ble_eq_true rfl⟩) hP hD hS hA [0, 1, 2, 3, 4, 5] [6, 7, 8, 9, 10, 11, 12, 13, 14, 15, 16, 17, 18, 19] rfl rfl (by decide) (by decide) (fun r1 f1 H locs hr1 hP hD hS => ?_)
  replace hP := hP.sub (ws' := [(x, .inr (1, [.ref r, .ref k, .long f1.1, .int f1.2])), (r, .inr (0, [.ref a1, .ref a2, .ref a3, .ref a4, .int (nI v.1)])), (a1, .inl (cL, 150, .inr (.inl v.2.1))), (a2, .inl (cI, 150, .inl v.2.2.1)), (a3, .inl (cL, 150, .inr (.inl v.2.2.2.1))), (a4, .inl (cI, 150, .inl v.2.2.2.2)), (k, .inr (0, [.ref b1, .ref b2, .ref b3, .ref b4, .int (nI vk.1)])), (b1, .inl (cL, 150, .inr (.inl vk.2.1))), (b2, .inl (cI, 150, .inl vk.2.2.1)), (b3, .inl (cL, 150, .inr (.inl vk.2.2.2.1))), (b4, .inl (cI, 150, .inl vk.2.2.2.2)), (y, .inr (2, [.int (nI mv.1), .int (nI mk.1), .ref p1, .ref p2, .ref p3, .ref p4, .ref p5, .ref p6, .ref p7, .ref p8, .long f.1, .int f.2])), (p1, .inl (cL, 151, .inr (.inl mv.2.1))), (p2, .inl (cL, 151, .inr (.inl mv.2.2.2.1))), (p3, .inl (cL, 150, .inr (.inl mk.2.1))), (p4, .inl (cL, 150, .inr (.inl mk.2.2.2.1))), (p5, .inl (cI, 151, .inl mv.2.2.1)), (p6, .inl (cI, 151, .inl mv.2.2.2.2)), (p7, .inl (cI, 150, .inl mk.2.2.1)), (p8, .inl (cI, 150, .inl mk.2.2.2.2))]) [14, 15, 16, 17, 18, 19, 0, 1, 2, 3, 4, 5, 6, 7, 8, 9, 10, 11, 12, 13] rfl
  replace hD := hD.sub (ws' := [(x, .inr (1, [.ref r, .ref k, .long f1.1, .int f1.2])), (r, .inr (0, [.ref a1, .ref a2, .ref a3, .ref a4, .int (nI v.1)])), (a1, .inl (cL, 150, .inr (.inl v.2.1))), (a2, .inl (cI, 150, .inl v.2.2.1)), (a3, .inl (cL, 150, .inr (.inl v.2.2.2.1))), (a4, .inl (cI, 150, .inl v.2.2.2.2)), (k, .inr (0, [.ref b1, .ref b2, .ref b3, .ref b4, .int (nI vk.1)])), (b1, .inl (cL, 150, .inr (.inl vk.2.1))), (b2, .inl (cI, 150, .inl vk.2.2.1)), (b3, .inl (cL, 150, .inr (.inl vk.2.2.2.1))), (b4, .inl (cI, 150, .inl vk.2.2.2.2)), (y, .inr (2, [.int (nI mv.1), .int (nI mk.1), .ref p1, .ref p2, .ref p3, .ref p4, .ref p5, .ref p6, .ref p7, .ref p8, .long f.1, .int f.2])), (p1, .inl (cL, 151, .inr (.inl mv.2.1))), (p2, .inl (cL, 151, .inr (.inl mv.2.2.2.1))), (p3, .inl (cL, 150, .inr (.inl mk.2.1))), (p4, .inl (cL, 150, .inr (.inl mk.2.2.2.1))), (p5, .inl (cI, 151, .inl mv.2.2.1)), (p6, .inl (cI, 151, .inl mv.2.2.2.2)), (p7, .inl (cI, 150, .inl mk.2.2.1)), (p8, .inl (cI, 150, .inl mk.2.2.2.2))]) [14, 15, 16, 17, 18, 19, 0, 1, 2, 3, 4, 5, 6, 7, 8, 9, 10, 11, 12, 13] (by decide) rfl
  refine lv_aload_n hx hb dL_law_489 rfl (lv_at hl 2 rfl) ?_
  refine lv_aload_n hx hb dL_law_490 rfl (lv_at hl 0 rfl) ?_
  refine lv_iload_n hx hb dL_law_491 rfl (lv_at hl 3 rfl) ?_
  refine lv_iconst (v := 1) hx hb dL_law_492 (by decide) ?_
  refine lv_iadd hx hb dL_law_493 ?_
  refine lv_topi (fun z_7 ez_7 => ?_)
  obtain rfl : z_7 = nI (i + 1) := ez_7.trans (nI_add i 1)
  refine va_sld hx hb hX hbl hbA hS (vp_in_nI (show i + 1 < L by omega) (by omega)) dL_law_494 ?_
  refine lv_topi (fun z_8 ez_8 => ?_)
  obtain rfl : z_8 = xs (i + 1) := ez_8.trans (by rw [nI_clamp (by omega)])
  refine lv_i2l hx hb dL_law_495 rfl ?_
  refine lv_bipush (v := 32) hx hb dL_law_496 (by decide) ?_
  refine lv_lshl hx hb dL_law_498 rfl ?_
  refine lv_aload_n hx hb dL_law_499 rfl (lv_at hl 0 rfl) ?_
  refine lv_iload_n hx hb dL_law_500 rfl (lv_at hl 3 rfl) ?_
  refine lv_iconst (v := 2) hx hb dL_law_501 (by decide) ?_
  refine lv_iadd hx hb dL_law_502 ?_
  refine lv_topi (fun z_9 ez_9 => ?_)
  obtain rfl : z_9 = nI (i + 2) := ez_9.trans (nI_add i 2)
  refine va_sld hx hb hX hbl hbA hS (vp_in_nI (show i + 2 < L by omega) (by omega)) dL_law_503 ?_
  refine lv_topi (fun z_10 ez_10 => ?_)
  obtain rfl : z_10 = xs (i + 2) := ez_10.trans (by rw [nI_clamp (by omega)])
  refine lv_i2l hx hb dL_law_504 rfl ?_
  refine lv_ldc2 (v := 4294967295) hx hb hown (hts (.constantLong RL 13 4294967295) (by decide +kernel)) dL_law_505 ?_
  refine lv_land hx hb dL_law_508 ?_
  refine lv_lor hx hb dL_law_509 ?_
  refine lv_topl (fun ky2 eky2 => ?_)
  obtain rfl : ky = ky2 := eky.trans eky2.symm
  refine lv_aload_n hx hb dL_law_510 rfl (lv_at hl 0 rfl) ?_
  refine lv_iload_n hx hb dL_law_511 rfl (lv_at hl 3 rfl) ?_
  refine lv_iconst (v := 3) hx hb dL_law_512 (by decide) ?_
  refine lv_iadd hx hb dL_law_513 ?_
  refine lv_topi (fun z_11 ez_11 => ?_)
  obtain rfl : z_11 = nI (i + 3) := ez_11.trans (nI_add i 3)
  refine va_sld hx hb hX hbl hbA hS (vp_in_nI (show i + 3 < L by omega) (by omega)) dL_law_514 ?_
  refine lv_topi (fun z_12 ez_12 => ?_)
  obtain rfl : z_12 = xs (i + 3) := ez_12.trans (by rw [nI_clamp (by omega)])
  refine wr_calli (wr := [(x, .inr (1, [.ref r, .ref k, .long f1.1, .int f1.2])), (r, .inr (0, [.ref a1, .ref a2, .ref a3, .ref a4, .int (nI v.1)])), (a1, .inl (cL, 150, .inr (.inl v.2.1))), (a2, .inl (cI, 150, .inl v.2.2.1)), (a3, .inl (cL, 150, .inr (.inl v.2.2.2.1))), (a4, .inl (cI, 150, .inl v.2.2.2.2)), (k, .inr (0, [.ref b1, .ref b2, .ref b3, .ref b4, .int (nI vk.1)])), (b1, .inl (cL, 150, .inr (.inl vk.2.1))), (b2, .inl (cI, 150, .inl vk.2.2.1)), (b3, .inl (cL, 150, .inr (.inl vk.2.2.2.1))), (b4, .inl (cI, 150, .inl vk.2.2.2.2))]) (va_runV (As := [.long ky, .int (xs (i + 3))]) (rest := [.int r1]) ⟨hx, hb, hml, hown, hts⟩ (m_before l dC dI _ cL cI y p1 p2 p3 p4 p5 p6 p7 p8 mv mk f (sim_mok hI.1 hI.2.2.1) ky (xs (i + 3)) j (fun o => sim_mpl hI.2.2.1 (hj o).1)) (cwV 2 hts gL_law_X2_before rfl rfl rfl (by decide +kernel) ⟨Nat.le_of_ble_eq_true rfl, Nat.le_of_ble_eq_true rfl⟩) (wr_preV hK (hP.sub (ws' := [(y, .inr (2, [.int (nI mv.1), .int (nI mk.1), .ref p1, .ref p2, .ref p3, .ref p4, .ref p5, .ref p6, .ref p7, .ref p8, .long f.1, .int f.2])), (p1, .inl (cL, 151, .inr (.inl mv.2.1))), (p2, .inl (cL, 151, .inr (.inl mv.2.2.2.1))), (p3, .inl (cL, 150, .inr (.inl mk.2.1))), (p4, .inl (cL, 150, .inr (.inl mk.2.2.2.1))), (p5, .inl (cI, 151, .inl mv.2.2.1)), (p6, .inl (cI, 151, .inl mv.2.2.2.2)), (p7, .inl (cI, 150, .inl mk.2.2.1)), (p8, .inl (cI, 150, .inl mk.2.2.2.2))]) [11, 12, 13, 14, 15, 16, 17, 18, 19] rfl) (hD.sub (ws' := [(y, .inr (2, [.int (nI mv.1), .int (nI mk.1), .ref p1, .ref p2, .ref p3, .ref p4, .ref p5, .ref p6, .ref p7, .ref p8, .long f.1, .int f.2])), (p1, .inl (cL, 151, .inr (.inl mv.2.1))), (p2, .inl (cL, 151, .inr (.inl mv.2.2.2.1))), (p3, .inl (cL, 150, .inr (.inl mk.2.1))), (p4, .inl (cL, 150, .inr (.inl mk.2.2.2.1))), (p5, .inl (cI, 151, .inl mv.2.2.1)), (p6, .inl (cI, 151, .inl mv.2.2.2.2)), (p7, .inl (cI, 150, .inl mk.2.2.1)), (p8, .inl (cI, 150, .inl mk.2.2.2.2))]) [11, 12, 13, 14, 15, 16, 17, 18, 19] (by decide) rfl) (ci := 2) (q0 := 0) rfl rfl) rfl rfl hl.1 rfl (lv_room (Nat.le_of_ble_eq_true rfl)) dL_law_515 ⟨Nat.le_of_ble_eq_true rfl, Nat.le_of_ble_eq_true rfl⟩) hP hD hS hA [11, 12, 13, 14, 15, 16, 17, 18, 19] [0, 1, 2, 3, 4, 5, 6, 7, 8, 9, 10] rfl rfl (by decide) (by decide) (fun r2 w1 H locs hr2 hP hD hS => ?_)
  replace hP := hP.sub (ws' := [(x, .inr (1, [.ref r, .ref k, .long f1.1, .int f1.2])), (r, .inr (0, [.ref a1, .ref a2, .ref a3, .ref a4, .int (nI v.1)])), (a1, .inl (cL, 150, .inr (.inl v.2.1))), (a2, .inl (cI, 150, .inl v.2.2.1)), (a3, .inl (cL, 150, .inr (.inl v.2.2.2.1))), (a4, .inl (cI, 150, .inl v.2.2.2.2)), (k, .inr (0, [.ref b1, .ref b2, .ref b3, .ref b4, .int (nI vk.1)])), (b1, .inl (cL, 150, .inr (.inl vk.2.1))), (b2, .inl (cI, 150, .inl vk.2.2.1)), (b3, .inl (cL, 150, .inr (.inl vk.2.2.2.1))), (b4, .inl (cI, 150, .inl vk.2.2.2.2)), (y, .inr (2, [.int (nI mv.1), .int (nI mk.1), .ref p1, .ref p2, .ref p3, .ref p4, .ref p5, .ref p6, .ref p7, .ref p8, .long w1.1, .int w1.2])), (p1, .inl (cL, 151, .inr (.inl mv.2.1))), (p2, .inl (cL, 151, .inr (.inl mv.2.2.2.1))), (p3, .inl (cL, 150, .inr (.inl mk.2.1))), (p4, .inl (cL, 150, .inr (.inl mk.2.2.2.1))), (p5, .inl (cI, 151, .inl mv.2.2.1)), (p6, .inl (cI, 151, .inl mv.2.2.2.2)), (p7, .inl (cI, 150, .inl mk.2.2.1)), (p8, .inl (cI, 150, .inl mk.2.2.2.2))]) [0, 1, 2, 3, 4, 5, 6, 7, 8, 9, 10, 11, 12, 13, 14, 15, 16, 17, 18, 19] rfl
  replace hD := hD.sub (ws' := [(x, .inr (1, [.ref r, .ref k, .long f1.1, .int f1.2])), (r, .inr (0, [.ref a1, .ref a2, .ref a3, .ref a4, .int (nI v.1)])), (a1, .inl (cL, 150, .inr (.inl v.2.1))), (a2, .inl (cI, 150, .inl v.2.2.1)), (a3, .inl (cL, 150, .inr (.inl v.2.2.2.1))), (a4, .inl (cI, 150, .inl v.2.2.2.2)), (k, .inr (0, [.ref b1, .ref b2, .ref b3, .ref b4, .int (nI vk.1)])), (b1, .inl (cL, 150, .inr (.inl vk.2.1))), (b2, .inl (cI, 150, .inl vk.2.2.1)), (b3, .inl (cL, 150, .inr (.inl vk.2.2.2.1))), (b4, .inl (cI, 150, .inl vk.2.2.2.2)), (y, .inr (2, [.int (nI mv.1), .int (nI mk.1), .ref p1, .ref p2, .ref p3, .ref p4, .ref p5, .ref p6, .ref p7, .ref p8, .long w1.1, .int w1.2])), (p1, .inl (cL, 151, .inr (.inl mv.2.1))), (p2, .inl (cL, 151, .inr (.inl mv.2.2.2.1))), (p3, .inl (cL, 150, .inr (.inl mk.2.1))), (p4, .inl (cL, 150, .inr (.inl mk.2.2.2.1))), (p5, .inl (cI, 151, .inl mv.2.2.1)), (p6, .inl (cI, 151, .inl mv.2.2.2.2)), (p7, .inl (cI, 150, .inl mk.2.2.1)), (p8, .inl (cI, 150, .inl mk.2.2.2.2))]) [0, 1, 2, 3, 4, 5, 6, 7, 8, 9, 10, 11, 12, 13, 14, 15, 16, 17, 18, 19] (by decide) rfl
  have hE := eq_seek hI.1 hI.2.2.1 hr1 hr2
  refine lv_icmp_eq (tgt := 585) hx hb dL_law_518 (by decide) (fun c_518 => ?_) (fun c_518 => absurd hE.1 c_518)
  obtain ⟨-, rfl⟩ := hE
  exact K v vk mv mk f1 H locs ls hI hP hD hS (lv_sub hl [0, 1, 2, 3] rfl)
