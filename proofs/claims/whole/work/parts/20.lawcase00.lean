/-! THE LAW: its invariant, a case a theorem -/
abbrev lW (cL cI : ClassId) (x r k a1 a2 a3 a4 b1 b2 b3 b4 y p1 p2 p3 p4 p5 p6 p7 p8 : Nat) (v vk mv mk : RS) (f : Int64 × Int32) : va_W := tW cL cI x r k a1 a2 a3 a4 f v ++ (rW cL cI k b1 b2 b3 b4 vk ++ mW cL cI y p1 p2 p3 p4 p5 p6 p7 p8 mv mk f)
def LI (v vk mv mk : RS) : Prop := Srt v ∧ Srt vk ∧ Sim v mv ∧ Sim vk mk
abbrev LK (p : Program) (l : Launch) (e : Env) (s : State) (m : MethodId) (below : List Frame) (meth : Method) (c : Code) (b : Nat) (dC : Nat → ClassId) (dI : Nat → Nat → Nat) (cL cI : ClassId) (x r k a1 a2 a3 a4 b1 b2 b3 b4 y p1 p2 p3 p4 p5 p6 p7 p8 : Nat) (i pc : Nat) : Prop :=
  ∀ (v vk mv mk : RS) (f : Int64 × Int32) (H : Heap) (locs : List Loc) (ls : Array Slot), LI v vk mv mk → va_P (dC, dI) vwCl (lW cL cI x r k a1 a2 a3 a4 b1 b2 b3 b4 y p1 p2 p3 p4 p5 p6 p7 p8 v vk mv mk f) H → va_D (fun q : Nat => s.heap.size ≤ q) (lW cL cI x r k a1 a2 a3 a4 b1 b2 b3 b4 y p1 p2 p3 p4 p5 p6 p7 p8 v vk mv mk f) → va_S (fun q : Nat => s.heap.size ≤ q) s.heap H locs → lv_has ls 4 [(0, .ref b), (1, .ref x), (2, .ref y), (3, .int (nI i))] →
    W p l e room_1 s m #[Value.ref b] below meth c H locs 20 2430 (lw_Z below #[Value.ref b] s) (F0 m pc ls [])
theorem lw_ge {i L : Nat} (hi : i ≤ 3584) (hL : L ≤ 3584) (h : ¬ (Int32.ofNat L - 7 < nI i)) : i + 7 ≤ L := by
  have h1 : nI i ≤ nI L - nI 7 := Int32.not_lt.mp h
  rw [Int32.le_iff_toInt_le, pk_sub_toInt (by omega) (by omega), nI_toInt (by omega)] at h1
  omega
set_option maxHeartbeats 4000000 in
set_option maxRecDepth 100000 in
/-- put -/
theorem lw_c0 {p : Program} {l : Launch} {e : Env} {s : State} {m : MethodId} {below : List Frame} {meth : Method} {c : Code} {b L : Nat} {xs : Nat → Int32} (hL : L ≤ 3584) (C0 : lw_At p s m meth c b L xs) {dC : Nat → ClassId} {dI : Nat → Nat → Nat} {cL cI : ClassId} (hK : va_K (dC, dI) vwCl (kS cL cI) s) {x r k a1 a2 a3 a4 b1 b2 b3 b4 y p1 p2 p3 p4 p5 p6 p7 p8 : Nat} {i : Nat} (hi : i + 7 ≤ L) (K : LK p l e s m below meth c b dC dI cL cI x r k a1 a2 a3 a4 b1 b2 b3 b4 y p1 p2 p3 p4 p5 p6 p7 p8 i 585) : LK p l e s m below meth c b dC dI cL cI x r k a1 a2 a3 a4 b1 b2 b3 b4 y p1 p2 p3 p4 p5 p6 p7 p8 i 92 := by
  intro v vk mv mk f H locs ls hI hP hD hS hl
  obtain ⟨hx, hb, hr, hml, hown, hts, hX, hbl, hlocks, hgv⟩ := C0
  have hA : ∀ q : Nat, s.heap.size ≤ q → (fun q : Nat => s.heap.size ≤ q) q := fun _ h => h
  have hbA : ¬ (fun q : Nat => s.heap.size ≤ q) b := Nat.not_le.mpr hbl
  have htl : ∀ w ∈ wsL_law, w.before #[Value.ref b] s = true := fun w h => hts w (wsL_law_in w h)
  replace hown : s.vm.findClass RL = some m.cls := hown
  replace hP : va_P (dC, dI) vwCl [(x, .inr (1, [.ref r, .ref k, .long f.1, .int f.2])), (r, .inr (0, [.ref a1, .ref a2, .ref a3, .ref a4, .int (nI v.1)])), (a1, .inl (cL, 150, .inr (.inl v.2.1))), (a2, .inl (cI, 150, .inl v.2.2.1)), (a3, .inl (cL, 150, .inr (.inl v.2.2.2.1))), (a4, .inl (cI, 150, .inl v.2.2.2.2)), (k, .inr (0, [.ref b1, .ref b2, .ref b3, .ref b4, .int (nI vk.1)])), (b1, .inl (cL, 150, .inr (.inl vk.2.1))), (b2, .inl (cI, 150, .inl vk.2.2.1)), (b3, .inl (cL, 150, .inr (.inl vk.2.2.2.1))), (b4, .inl (cI, 150, .inl vk.2.2.2.2)), (y, .inr (2, [.int (nI mv.1), .int (nI mk.1), .ref p1, .ref p2, .ref p3, .ref p4, .ref p5, .ref p6, .ref p7, .ref p8, .long f.1, .int f.2])), (p1, .inl (cL, 151, .inr (.inl mv.2.1))), (p2, .inl (cL, 151, .inr (.inl mv.2.2.2.1))), (p3, .inl (cL, 150, .inr (.inl mk.2.1))), (p4, .inl (cL, 150, .inr (.inl mk.2.2.2.1))), (p5, .inl (cI, 151, .inl mv.2.2.1)), (p6, .inl (cI, 151, .inl mv.2.2.2.2)), (p7, .inl (cI, 150, .inl mk.2.2.1)), (p8, .inl (cI, 150, .inl mk.2.2.2.2))] H := hP
  replace hD : va_D (fun q : Nat => s.heap.size ≤ q) [(x, .inr (1, [.ref r, .ref k, .long f.1, .int f.2])), (r, .inr (0, [.ref a1, .ref a2, .ref a3, .ref a4, .int (nI v.1)])), (a1, .inl (cL, 150, .inr (.inl v.2.1))), (a2, .inl (cI, 150, .inl v.2.2.1)), (a3, .inl (cL, 150, .inr (.inl v.2.2.2.1))), (a4, .inl (cI, 150, .inl v.2.2.2.2)), (k, .inr (0, [.ref b1, .ref b2, .ref b3, .ref b4, .int (nI vk.1)])), (b1, .inl (cL, 150, .inr (.inl vk.2.1))), (b2, .inl (cI, 150, .inl vk.2.2.1)), (b3, .inl (cL, 150, .inr (.inl vk.2.2.2.1))), (b4, .inl (cI, 150, .inl vk.2.2.2.2)), (y, .inr (2, [.int (nI mv.1), .int (nI mk.1), .ref p1, .ref p2, .ref p3, .ref p4, .ref p5, .ref p6, .ref p7, .ref p8, .long f.1, .int f.2])), (p1, .inl (cL, 151, .inr (.inl mv.2.1))), (p2, .inl (cL, 151, .inr (.inl mv.2.2.2.1))), (p3, .inl (cL, 150, .inr (.inl mk.2.1))), (p4, .inl (cL, 150, .inr (.inl mk.2.2.2.1))), (p5, .inl (cI, 151, .inl mv.2.2.1)), (p6, .inl (cI, 151, .inl mv.2.2.2.2)), (p7, .inl (cI, 150, .inl mk.2.2.1)), (p8, .inl (cI, 150, .inl mk.2.2.2.2))] := hD
  have hi31 : i + 7 < 2 ^ 31 := by omega
  refine lv_aload_n hx hb dL_law_92 rfl (lv_at hl 1 rfl) ?_
  refine lv_aload_n hx hb dL_law_93 rfl (lv_at hl 0 rfl) ?_
  refine lv_iload_n hx hb dL_law_94 rfl (lv_at hl 3 rfl) ?_
  refine lv_iconst (v := 1) hx hb dL_law_95 (by decide) ?_
  refine lv_iadd hx hb dL_law_96 ?_
  refine lv_topi (fun z_1 ez_1 => ?_)
  obtain rfl : z_1 = nI (i + 1) := ez_1.trans (nI_add i 1)
  refine va_sld hx hb hX hbl hbA hS (vp_in_nI (show i + 1 < L by omega) (by omega)) dL_law_97 ?_
  refine lv_topi (fun z_2 ez_2 => ?_)
  obtain rfl : z_2 = xs (i + 1) := ez_2.trans (by rw [nI_clamp (by omega)])
  refine lv_i2l hx hb dL_law_98 rfl ?_
  refine lv_bipush (v := 32) hx hb dL_law_99 (by decide) ?_
  refine lv_lshl hx hb dL_law_101 rfl ?_
  refine lv_aload_n hx hb dL_law_102 rfl (lv_at hl 0 rfl) ?_
  refine lv_iload_n hx hb dL_law_103 rfl (lv_at hl 3 rfl) ?_
  refine lv_iconst (v := 2) hx hb dL_law_104 (by decide) ?_
  refine lv_iadd hx hb dL_law_105 ?_
  refine lv_topi (fun z_3 ez_3 => ?_)
  obtain rfl : z_3 = nI (i + 2) := ez_3.trans (nI_add i 2)
  refine va_sld hx hb hX hbl hbA hS (vp_in_nI (show i + 2 < L by omega) (by omega)) dL_law_106 ?_
  refine lv_topi (fun z_4 ez_4 => ?_)
  obtain rfl : z_4 = xs (i + 2) := ez_4.trans (by rw [nI_clamp (by omega)])
  refine lv_i2l hx hb dL_law_107 rfl ?_
  refine lv_ldc2 (v := 4294967295) hx hb hown (hts (.constantLong RL 13 4294967295) (by decide +kernel)) dL_law_108 ?_
  refine lv_land hx hb dL_law_111 ?_
  refine lv_lor hx hb dL_law_112 ?_
  refine lv_topl (fun ky eky => ?_)
  refine lv_aload_n hx hb dL_law_113 rfl (lv_at hl 0 rfl) ?_
  refine lv_iload_n hx hb dL_law_114 rfl (lv_at hl 3 rfl) ?_
  refine lv_iconst (v := 3) hx hb dL_law_115 (by decide) ?_
  refine lv_iadd hx hb dL_law_116 ?_
  refine lv_topi (fun z_5 ez_5 => ?_)
  obtain rfl : z_5 = nI (i + 3) := ez_5.trans (nI_add i 3)
  refine va_sld hx hb hX hbl hbA hS (vp_in_nI (show i + 3 < L by omega) (by omega)) dL_law_117 ?_
  refine lv_topi (fun z_6 ez_6 => ?_)
  obtain rfl : z_6 = xs (i + 3) := ez_6.trans (by rw [nI_clamp (by omega)])
  refine lv_aload_n hx hb dL_law_118 rfl (lv_at hl 0 rfl) ?_
  refine lv_iload_n hx hb dL_law_119 rfl (lv_at hl 3 rfl) ?_
  refine lv_iconst (v := 4) hx hb dL_law_120 (by decide) ?_
  refine lv_iadd hx hb dL_law_121 ?_
  refine lv_topi (fun z_7 ez_7 => ?_)
  obtain rfl : z_7 = nI (i + 4) := ez_7.trans (nI_add i 4)
  refine va_sld hx hb hX hbl hbA hS (vp_in_nI (show i + 4 < L by omega) (by omega)) dL_law_122 ?_
  refine lv_topi (fun z_8 ez_8 => ?_)
  obtain rfl : z_8 = xs (i + 4) := ez_8.trans (by rw [nI_clamp (by omega)])
  refine lv_i2l hx hb dL_law_123 rfl ?_
  refine lv_bipush (v := 32) hx hb dL_law_124 (by decide) ?_
  refine lv_lshl hx hb dL_law_126 rfl ?_
  refine lv_aload_n hx hb dL_law_127 rfl (lv_at hl 0 rfl) ?_
  refine lv_iload_n hx hb dL_law_128 rfl (lv_at hl 3 rfl) ?_
  refine lv_iconst (v := 5) hx hb dL_law_129 (by decide) ?_
  refine lv_iadd hx hb dL_law_130 ?_
  refine lv_topi (fun z_9 ez_9 => ?_)
  obtain rfl : z_9 = nI (i + 5) := ez_9.trans (nI_add i 5)
  refine va_sld hx hb hX hbl hbA hS (vp_in_nI (show i + 5 < L by omega) (by omega)) dL_law_131 ?_
  refine lv_topi (fun z_10 ez_10 => ?_)
  obtain rfl : z_10 = xs (i + 5) := ez_10.trans (by rw [nI_clamp (by omega)])
  refine lv_i2l hx hb dL_law_132 rfl ?_
  refine lv_ldc2 (v := 4294967295) hx hb hown (hts (.constantLong RL 13 4294967295) (by decide +kernel)) dL_law_133 ?_
  refine lv_land hx hb dL_law_136 ?_
  refine lv_lor hx hb dL_law_137 ?_
  refine lv_topl (fun tv etv => ?_)
  refine lv_aload_n hx hb dL_law_138 rfl (lv_at hl 0 rfl) ?_
  refine lv_iload_n hx hb dL_law_139 rfl (lv_at hl 3 rfl) ?_
  refine lv_bipush (v := 6) hx hb dL_law_140 (by decide) ?_
  refine lv_iadd hx hb dL_law_142 ?_
  refine lv_topi (fun z_11 ez_11 => ?_)
  obtain rfl : z_11 = nI (i + 6) := ez_11.trans (nI_add i 6)
  refine va_sld hx hb hX hbl hbA hS (vp_in_nI (show i + 6 < L by omega) (by omega)) dL_law_143 ?_
  refine lv_topi (fun z_12 ez_12 => ?_)
  obtain rfl : z_12 = xs (i + 6) := ez_12.trans (by rw [nI_clamp (by omega)])
  obtain ⟨j, hj⟩ := ex_j hI.1 ky (xs (i + 3))
  refine wr_calli (wr := [(k, .inr (0, [.ref b1, .ref b2, .ref b3, .ref b4, .int (nI vk.1)])), (b1, .inl (cL, 150, .inr (.inl vk.2.1))), (b2, .inl (cI, 150, .inl vk.2.2.1)), (b3, .inl (cL, 150, .inr (.inl vk.2.2.2.1))), (b4, .inl (cI, 150, .inl vk.2.2.2.2)), (y, .inr (2, [.int (nI mv.1), .int (nI mk.1), .ref p1, .ref p2, .ref p3, .ref p4, .ref p5, .ref p6, .ref p7, .ref p8, .long f.1, .int f.2])), (p1, .inl (cL, 151, .inr (.inl mv.2.1))), (p2, .inl (cL, 151, .inr (.inl mv.2.2.2.1))), (p3, .inl (cL, 150, .inr (.inl mk.2.1))), (p4, .inl (cL, 150, .inr (.inl mk.2.2.2.1))), (p5, .inl (cI, 151, .inl mv.2.2.1)), (p6, .inl (cI, 151, .inl mv.2.2.2.2)), (p7, .inl (cI, 150, .inl mk.2.2.1)), (p8, .inl (cI, 150, .inl mk.2.2.2.2))]) (va_runV (As := [.long ky, .int (xs (i + 3)), .long tv, .int (xs (i + 6))]) (rest := []) ⟨hx, hb, hml, hown, hts⟩ (c_put l dC dI _ cL cI x r k a1 a2 a3 a4 f.1 f.2 v.1 v.2.1 v.2.2.1 v.2.2.2.1 v.2.2.2.2 hI.1.1 ky (xs (i + 3)) tv (xs (i + 6)) j (fun o => (hj o).1)) (cwV 4 htl gL_law_X1_put rfl rfl rfl (by decide +kernel) ⟨Nat.le_of_ble_eq_true rfl, Nat.le_of_ble_eq_true rfl⟩) (wr_preV hK (hP.sub (ws' := [(x, .inr (1, [.ref r, .ref k, .long f.1, .int f.2])), (r, .inr (0, [.ref a1, .ref a2, .ref a3, .ref a4, .int (nI v.1)])), (a1, .inl (cL, 150, .inr (.inl v.2.1))), (a2, .inl (cI, 150, .inl v.2.2.1)), (a3, .inl (cL, 150, .inr (.inl v.2.2.2.1))), (a4, .inl (cI, 150, .inl v.2.2.2.2))]) [0, 1, 2, 3, 4, 5] rfl) (hD.sub (ws' := [(x, .inr (1, [.ref r, .ref k, .long f.1, .int f.2])), (r, .inr (0, [.ref a1, .ref a2, .ref a3, .ref a4, .int (nI v.1)])), (a1, .inl (cL, 150, .inr (.inl v.2.1))), (a2, .inl (cI, 150, .inl v.2.2.1)), (a3, .inl (cL, 150, .inr (.inl v.2.2.2.1))), (a4, .inl (cI, 150, .inl v.2.2.2.2))]) [0, 1, 2, 3, 4, 5] (by decide) rfl) (ci := 1) (q0 := 0) rfl rfl) rfl rfl hl.1 rfl (lv_room (Nat.le_of_ble_eq_true rfl)) dL_law_144 ⟨Nat.le_of_ble_eq_true rfl, Nat.le_of_ble_eq_true rfl⟩) hP hD hS hA [0, 1, 2, 3, 4, 5] [6, 7, 8, 9, 10, 11, 12, 13, 14, 15, 16, 17, 18, 19] rfl rfl (by decide) (by decide) (fun r1 v1 H locs hr1 hP hD hS => ?_)
  replace hP := hP.sub (ws' := [(x, .inr (1, [.ref r, .ref k, .long f.1, .int f.2])), (r, .inr (0, [.ref a1, .ref a2, .ref a3, .ref a4, .int (nI v1.1)])), (a1, .inl (cL, 150, .inr (.inl v1.2.1))), (a2, .inl (cI, 150, .inl v1.2.2.1)), (a3, .inl (cL, 150, .inr (.inl v1.2.2.2.1))), (a4, .inl (cI, 150, .inl v1.2.2.2.2)), (k, .inr (0, [.ref b1, .ref b2, .ref b3, .ref b4, .int (nI vk.1)])), (b1, .inl (cL, 150, .inr (.inl vk.2.1))), (b2, .inl (cI, 150, .inl vk.2.2.1)), (b3, .inl (cL, 150, .inr (.inl vk.2.2.2.1))), (b4, .inl (cI, 150, .inl vk.2.2.2.2)), (y, .inr (2, [.int (nI mv.1), .int (nI mk.1), .ref p1, .ref p2, .ref p3, .ref p4, .ref p5, .ref p6, .ref p7, .ref p8, .long f.1, .int f.2])), (p1, .inl (cL, 151, .inr (.inl mv.2.1))), (p2, .inl (cL, 151, .inr (.inl mv.2.2.2.1))), (p3, .inl (cL, 150, .inr (.inl mk.2.1))), (p4, .inl (cL, 150, .inr (.inl mk.2.2.2.1))), (p5, .inl (cI, 151, .inl mv.2.2.1)), (p6, .inl (cI, 151, .inl mv.2.2.2.2)), (p7, .inl (cI, 150, .inl mk.2.2.1)), (p8, .inl (cI, 150, .inl mk.2.2.2.2))]) [14, 15, 16, 17, 18, 19, 0, 1, 2, 3, 4, 5, 6, 7, 8, 9, 10, 11, 12, 13] rfl
  replace hD := hD.sub (ws' := [(x, .inr (1, [.ref r, .ref k, .long f.1, .int f.2])), (r, .inr (0, [.ref a1, .ref a2, .ref a3, .ref a4, .int (nI v1.1)])), (a1, .inl (cL, 150, .inr (.inl v1.2.1))), (a2, .inl (cI, 150, .inl v1.2.2.1)), (a3, .inl (cL, 150, .inr (.inl v1.2.2.2.1))), (a4, .inl (cI, 150, .inl v1.2.2.2.2)), (k, .inr (0, [.ref b1, .ref b2, .ref b3, .ref b4, .int (nI vk.1)])), (b1, .inl (cL, 150, .inr (.inl vk.2.1))), (b2, .inl (cI, 150, .inl vk.2.2.1)), (b3, .inl (cL, 150, .inr (.inl vk.2.2.2.1))), (b4, .inl (cI, 150, .inl vk.2.2.2.2)), (y, .inr (2, [.int (nI mv.1), .int (nI mk.1), .ref p1, .ref p2, .ref p3, .ref p4, .ref p5, .ref p6, .ref p7, .ref p8, .long f.1, .int f.2])), (p1, .inl (cL, 151, .inr (.inl mv.2.1))), (p2, .inl (cL, 151, .inr (.inl mv.2.2.2.1))), (p3, .inl (cL, 150, .inr (.inl mk.2.1))), (p4, .inl (cL, 150, .inr (.inl mk.2.2.2.1))), (p5, .inl (cI, 151, .inl mv.2.2.1)), (p6, .inl (cI, 151, .inl mv.2.2.2.2)), (p7, .inl (cI, 150, .inl mk.2.2.1)), (p8, .inl (cI, 150, .inl mk.2.2.2.2))]) [14, 15, 16, 17, 18, 19, 0, 1, 2, 3, 4, 5, 6, 7, 8, 9, 10, 11, 12, 13] (by decide) rfl
  refine lv_aload_n hx hb dL_law_147 rfl (lv_at hl 2 rfl) ?_
  refine lv_aload_n hx hb dL_law_148 rfl (lv_at hl 0 rfl) ?_
  refine lv_iload_n hx hb dL_law_149 rfl (lv_at hl 3 rfl) ?_
  refine lv_iconst (v := 1) hx hb dL_law_150 (by decide) ?_
  refine lv_iadd hx hb dL_law_151 ?_
  refine lv_topi (fun z_13 ez_13 => ?_)
  obtain rfl : z_13 = nI (i + 1) := ez_13.trans (nI_add i 1)
  refine va_sld hx hb hX hbl hbA hS (vp_in_nI (show i + 1 < L by omega) (by omega)) dL_law_152 ?_
  refine lv_topi (fun z_14 ez_14 => ?_)
  obtain rfl : z_14 = xs (i + 1) := ez_14.trans (by rw [nI_clamp (by omega)])
  refine lv_i2l hx hb dL_law_153 rfl ?_
  refine lv_bipush (v := 32) hx hb dL_law_154 (by decide) ?_
  refine lv_lshl hx hb dL_law_156 rfl ?_
  refine lv_aload_n hx hb dL_law_157 rfl (lv_at hl 0 rfl) ?_
  refine lv_iload_n hx hb dL_law_158 rfl (lv_at hl 3 rfl) ?_
  refine lv_iconst (v := 2) hx hb dL_law_159 (by decide) ?_
  refine lv_iadd hx hb dL_law_160 ?_
  refine lv_topi (fun z_15 ez_15 => ?_)
  obtain rfl : z_15 = nI (i + 2) := ez_15.trans (nI_add i 2)
  refine va_sld hx hb hX hbl hbA hS (vp_in_nI (show i + 2 < L by omega) (by omega)) dL_law_161 ?_
  refine lv_topi (fun z_16 ez_16 => ?_)
  obtain rfl : z_16 = xs (i + 2) := ez_16.trans (by rw [nI_clamp (by omega)])
  refine lv_i2l hx hb dL_law_162 rfl ?_
  refine lv_ldc2 (v := 4294967295) hx hb hown (hts (.constantLong RL 13 4294967295) (by decide +kernel)) dL_law_163 ?_
  refine lv_land hx hb dL_law_166 ?_
  refine lv_lor hx hb dL_law_167 ?_
  refine lv_topl (fun ky2 eky2 => ?_)
  obtain rfl : ky = ky2 := eky.trans eky2.symm
  refine lv_aload_n hx hb dL_law_168 rfl (lv_at hl 0 rfl) ?_
  refine lv_iload_n hx hb dL_law_169 rfl (lv_at hl 3 rfl) ?_
  refine lv_iconst (v := 3) hx hb dL_law_170 (by decide) ?_
  refine lv_iadd hx hb dL_law_171 ?_
  refine lv_topi (fun z_17 ez_17 => ?_)
  obtain rfl : z_17 = nI (i + 3) := ez_17.trans (nI_add i 3)
  refine va_sld hx hb hX hbl hbA hS (vp_in_nI (show i + 3 < L by omega) (by omega)) dL_law_172 ?_
  refine lv_topi (fun z_18 ez_18 => ?_)
  obtain rfl : z_18 = xs (i + 3) := ez_18.trans (by rw [nI_clamp (by omega)])
  refine lv_aload_n hx hb dL_law_173 rfl (lv_at hl 0 rfl) ?_
  refine lv_iload_n hx hb dL_law_174 rfl (lv_at hl 3 rfl) ?_
  refine lv_iconst (v := 4) hx hb dL_law_175 (by decide) ?_
  refine lv_iadd hx hb dL_law_176 ?_
  refine lv_topi (fun z_19 ez_19 => ?_)
  obtain rfl : z_19 = nI (i + 4) := ez_19.trans (nI_add i 4)
  refine va_sld hx hb hX hbl hbA hS (vp_in_nI (show i + 4 < L by omega) (by omega)) dL_law_177 ?_
  refine lv_topi (fun z_20 ez_20 => ?_)
  obtain rfl : z_20 = xs (i + 4) := ez_20.trans (by rw [nI_clamp (by omega)])
  refine lv_i2l hx hb dL_law_178 rfl ?_
  refine lv_bipush (v := 32) hx hb dL_law_179 (by decide) ?_
  refine lv_lshl hx hb dL_law_181 rfl ?_
  refine lv_aload_n hx hb dL_law_182 rfl (lv_at hl 0 rfl) ?_
  refine lv_iload_n hx hb dL_law_183 rfl (lv_at hl 3 rfl) ?_
  refine lv_iconst (v := 5) hx hb dL_law_184 (by decide) ?_
  refine lv_iadd hx hb dL_law_185 ?_
  refine lv_topi (fun z_21 ez_21 => ?_)
  obtain rfl : z_21 = nI (i + 5) := ez_21.trans (nI_add i 5)
  refine va_sld hx hb hX hbl hbA hS (vp_in_nI (show i + 5 < L by omega) (by omega)) dL_law_186 ?_
  refine lv_topi (fun z_22 ez_22 => ?_)
  obtain rfl : z_22 = xs (i + 5) := ez_22.trans (by rw [nI_clamp (by omega)])
  refine lv_i2l hx hb dL_law_187 rfl ?_
  refine lv_ldc2 (v := 4294967295) hx hb hown (hts (.constantLong RL 13 4294967295) (by decide +kernel)) dL_law_188 ?_
  refine lv_land hx hb dL_law_191 ?_
  refine lv_lor hx hb dL_law_192 ?_
  refine lv_topl (fun tv2 etv2 => ?_)
  obtain rfl : tv = tv2 := etv.trans etv2.symm
  refine lv_aload_n hx hb dL_law_193 rfl (lv_at hl 0 rfl) ?_
  refine lv_iload_n hx hb dL_law_194 rfl (lv_at hl 3 rfl) ?_
  refine lv_bipush (v := 6) hx hb dL_law_195 (by decide) ?_
  refine lv_iadd hx hb dL_law_197 ?_
  refine lv_topi (fun z_23 ez_23 => ?_)
  obtain rfl : z_23 = nI (i + 6) := ez_23.trans (nI_add i 6)
  refine va_sld hx hb hX hbl hbA hS (vp_in_nI (show i + 6 < L by omega) (by omega)) dL_law_198 ?_
  refine lv_topi (fun z_24 ez_24 => ?_)
  obtain rfl : z_24 = xs (i + 6) := ez_24.trans (by rw [nI_clamp (by omega)])
  refine wr_calli (wr := [(x, .inr (1, [.ref r, .ref k, .long f.1, .int f.2])), (r, .inr (0, [.ref a1, .ref a2, .ref a3, .ref a4, .int (nI v1.1)])), (a1, .inl (cL, 150, .inr (.inl v1.2.1))), (a2, .inl (cI, 150, .inl v1.2.2.1)), (a3, .inl (cL, 150, .inr (.inl v1.2.2.2.1))), (a4, .inl (cI, 150, .inl v1.2.2.2.2)), (k, .inr (0, [.ref b1, .ref b2, .ref b3, .ref b4, .int (nI vk.1)])), (b1, .inl (cL, 150, .inr (.inl vk.2.1))), (b2, .inl (cI, 150, .inl vk.2.2.1)), (b3, .inl (cL, 150, .inr (.inl vk.2.2.2.1))), (b4, .inl (cI, 150, .inl vk.2.2.2.2))]) (va_runV (As := [.long ky, .int (xs (i + 3)), .long tv, .int (xs (i + 6))]) (rest := [.int r1]) ⟨hx, hb, hml, hown, hts⟩ (m_put l dC dI _ cL cI y p1 p2 p3 p4 p5 p6 p7 p8 mv mk f (sim_mok hI.1 hI.2.2.1) ky (xs (i + 3)) tv (xs (i + 6)) j (fun o => sim_mpl hI.2.2.1 (hj o).1)) (cwV 4 htl gL_law_X2_put rfl rfl rfl (by decide +kernel) ⟨Nat.le_of_ble_eq_true rfl, Nat.le_of_ble_eq_true rfl⟩) (wr_preV hK (hP.sub (ws' := [(y, .inr (2, [.int (nI mv.1), .int (nI mk.1), .ref p1, .ref p2, .ref p3, .ref p4, .ref p5, .ref p6, .ref p7, .ref p8, .long f.1, .int f.2])), (p1, .inl (cL, 151, .inr (.inl mv.2.1))), (p2, .inl (cL, 151, .inr (.inl mv.2.2.2.1))), (p3, .inl (cL, 150, .inr (.inl mk.2.1))), (p4, .inl (cL, 150, .inr (.inl mk.2.2.2.1))), (p5, .inl (cI, 151, .inl mv.2.2.1)), (p6, .inl (cI, 151, .inl mv.2.2.2.2)), (p7, .inl (cI, 150, .inl mk.2.2.1)), (p8, .inl (cI, 150, .inl mk.2.2.2.2))]) [11, 12, 13, 14, 15, 16, 17, 18, 19] rfl) (hD.sub (ws' := [(y, .inr (2, [.int (nI mv.1), .int (nI mk.1), .ref p1, .ref p2, .ref p3, .ref p4, .ref p5, .ref p6, .ref p7, .ref p8, .long f.1, .int f.2])), (p1, .inl (cL, 151, .inr (.inl mv.2.1))), (p2, .inl (cL, 151, .inr (.inl mv.2.2.2.1))), (p3, .inl (cL, 150, .inr (.inl mk.2.1))), (p4, .inl (cL, 150, .inr (.inl mk.2.2.2.1))), (p5, .inl (cI, 151, .inl mv.2.2.1)), (p6, .inl (cI, 151, .inl mv.2.2.2.2)), (p7, .inl (cI, 150, .inl mk.2.2.1)), (p8, .inl (cI, 150, .inl mk.2.2.2.2))]) [11, 12, 13, 14, 15, 16, 17, 18, 19] (by decide) rfl) (ci := 2) (q0 := 0) rfl rfl) rfl rfl hl.1 rfl (lv_room (Nat.le_of_ble_eq_true rfl)) dL_law_199 ⟨Nat.le_of_ble_eq_true rfl, Nat.le_of_ble_eq_true rfl⟩) hP hD hS hA [11, 12, 13, 14, 15, 16, 17, 18, 19] [0, 1, 2, 3, 4, 5, 6, 7, 8, 9, 10] rfl rfl (by decide) (by decide) (fun r2 w1 H locs hr2 hP hD hS => ?_)
  replace hP := hP.sub (ws' := [(x, .inr (1, [.ref r, .ref k, .long f.1, .int f.2])), (r, .inr (0, [.ref a1, .ref a2, .ref a3, .ref a4, .int (nI v1.1)])), (a1, .inl (cL, 150, .inr (.inl v1.2.1))), (a2, .inl (cI, 150, .inl v1.2.2.1)), (a3, .inl (cL, 150, .inr (.inl v1.2.2.2.1))), (a4, .inl (cI, 150, .inl v1.2.2.2.2)), (k, .inr (0, [.ref b1, .ref b2, .ref b3, .ref b4, .int (nI vk.1)])), (b1, .inl (cL, 150, .inr (.inl vk.2.1))), (b2, .inl (cI, 150, .inl vk.2.2.1)), (b3, .inl (cL, 150, .inr (.inl vk.2.2.2.1))), (b4, .inl (cI, 150, .inl vk.2.2.2.2)), (y, .inr (2, [.int (nI w1.1), .int (nI mk.1), .ref p1, .ref p2, .ref p3, .ref p4, .ref p5, .ref p6, .ref p7, .ref p8, .long f.1, .int f.2])), (p1, .inl (cL, 151, .inr (.inl w1.2.1))), (p2, .inl (cL, 151, .inr (.inl w1.2.2.2.1))), (p3, .inl (cL, 150, .inr (.inl mk.2.1))), (p4, .inl (cL, 150, .inr (.inl mk.2.2.2.1))), (p5, .inl (cI, 151, .inl w1.2.2.1)), (p6, .inl (cI, 151, .inl w1.2.2.2.2)), (p7, .inl (cI, 150, .inl mk.2.2.1)), (p8, .inl (cI, 150, .inl mk.2.2.2.2))]) [0, 1, 2, 3, 4, 5, 6, 7, 8, 9, 10, 11, 12, 13, 14, 15, 16, 17, 18, 19] rfl
  replace hD := hD.sub (ws' := [(x, .inr (1, [.ref r, .ref k, .long f.1, .int f.2])), (r, .inr (0, [.ref a1, .ref a2, .ref a3, .ref a4, .int (nI v1.1)])), (a1, .inl (cL, 150, .inr (.inl v1.2.1))), (a2, .inl (cI, 150, .inl v1.2.2.1)), (a3, .inl (cL, 150, .inr (.inl v1.2.2.2.1))), (a4, .inl (cI, 150, .inl v1.2.2.2.2)), (k, .inr (0, [.ref b1, .ref b2, .ref b3, .ref b4, .int (nI vk.1)])), (b1, .inl (cL, 150, .inr (.inl vk.2.1))), (b2, .inl (cI, 150, .inl vk.2.2.1)), (b3, .inl (cL, 150, .inr (.inl vk.2.2.2.1))), (b4, .inl (cI, 150, .inl vk.2.2.2.2)), (y, .inr (2, [.int (nI w1.1), .int (nI mk.1), .ref p1, .ref p2, .ref p3, .ref p4, .ref p5, .ref p6, .ref p7, .ref p8, .long f.1, .int f.2])), (p1, .inl (cL, 151, .inr (.inl w1.2.1))), (p2, .inl (cL, 151, .inr (.inl w1.2.2.2.1))), (p3, .inl (cL, 150, .inr (.inl mk.2.1))), (p4, .inl (cL, 150, .inr (.inl mk.2.2.2.1))), (p5, .inl (cI, 151, .inl w1.2.2.1)), (p6, .inl (cI, 151, .inl w1.2.2.2.2)), (p7, .inl (cI, 150, .inl mk.2.2.1)), (p8, .inl (cI, 150, .inl mk.2.2.2.2))]) [0, 1, 2, 3, 4, 5, 6, 7, 8, 9, 10, 11, 12, 13, 14, 15, 16, 17, 18, 19] (by decide) rfl
  have hE := eq_put hI.1 hI.2.2.1 hj hr1 hr2
  refine lv_icmp_eq (tgt := 585) hx hb dL_law_202 (by decide) (fun c_202 => ?_) (fun c_202 => absurd hE.1 c_202)
  exact K v1 vk w1 mk f H locs ls ⟨hE.2.1, hI.2.1, hE.2.2, hI.2.2.2⟩ hP hD hS (lv_sub hl [0, 1, 2, 3] rfl)
