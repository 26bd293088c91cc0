/-! THE REFERENCE: its world; what is now and what is kept are rows of the same kind as the class has, but that a key stands as it is told -/
abbrev mW (cL cI : ClassId) (y p1 p2 p3 p4 p5 p6 p7 p8 : Nat) (mv mk : RS) (f : Int64 × Int32) : va_W := [(y, .inr (2, [.int (nI mv.1), .int (nI mk.1), .ref p1, .ref p2, .ref p3, .ref p4, .ref p5, .ref p6, .ref p7, .ref p8, .long f.1, .int f.2])), (p1, .inl (cL, 151, .inr (.inl mv.2.1))), (p2, .inl (cL, 151, .inr (.inl mv.2.2.2.1))), (p3, .inl (cL, 150, .inr (.inl mk.2.1))), (p4, .inl (cL, 150, .inr (.inl mk.2.2.2.1))), (p5, .inl (cI, 151, .inl mv.2.2.1)), (p6, .inl (cI, 151, .inl mv.2.2.2.2)), (p7, .inl (cI, 150, .inl mk.2.2.1)), (p8, .inl (cI, 150, .inl mk.2.2.2.2))]
def mhl (mv : RS) (j : Nat) (h : Int64) (t : Int32) : Prop := j < mv.1 ∧ hdOf (mv.2.1 j) (mv.2.2.1 j) = h ∧ mv.2.2.1 j = t
def mpl (mv : RS) (h : Int64) (t : Int32) (j : Nat) : Prop := j ≤ mv.1 ∧ (∀ i, i < j → bfr (hdOf (mv.2.1 i) (mv.2.2.1 i)) (mv.2.2.1 i) h t) ∧ (j < mv.1 → ¬ bfr (hdOf (mv.2.1 j) (mv.2.2.1 j)) (mv.2.2.1 j) h t)
def mok (mv : RS) : Prop := mv.1 ≤ 150 ∧ ∀ i, i < mv.1 → okK (mv.2.2.1 i)
def mfQ (mv : RS) (i : Int32) (z : Int32) (f : Int64 × Int32) : Prop := (∃ j, j < mv.1 ∧ i = nI j ∧ z = 1 ∧ f = (mv.2.1 j, mv.2.2.1 j)) ∨ ((¬ ∃ j, j < mv.1 ∧ i = nI j) ∧ z = 0 ∧ f = (0, 0))
def msQ (v : RS) (j : Nat) (h : Int64) (k : Int64) (t : Int32) (x : Int64) (n : Int32) (z : Int32) (w : RS) : Prop :=
  (mhl v j h t ∧ z = 1 ∧ w = rs_put v j k t x n) ∨ (¬ mhl v j h t ∧ v.1 < 150 ∧ z = 1 ∧ w = rs_put (rs_opn v j) j k t x n) ∨ (¬ mhl v j h t ∧ ¬ v.1 < 150 ∧ z = 0 ∧ w = v)
set_option maxHeartbeats 4000000 in
set_option maxRecDepth 100000 in
/-- isSize -/
theorem c_isSize (l : Launch) (i : Int32) : Met l yX2_isSize wsX2_isSize ({ frames := 0, cells := 0, slots := 0, locals := 0 }) (stP [.int i]) (vp_Si (fun z => bq z (okK i))) 0 0 (fun _ => False) := by
  refine Met.ofW (cc := cX2_isSize) (maxL := 1) (ret := some .boolean) (by decide) rfl ?_
  intro p e s m args below meth c s₁ B hml hv
  obtain ⟨rfl, -⟩ := hv
  have hx := B.exec
  have hb := B.bytes
  have hr := B.returns
  have hts := atoms_spec (ws := wsX2_isSize) B.pre
  have hown : s.vm.findClass RX2 = some m.cls := findClass_of_methodNamed B.named
  have hlocks := B.notSynchronized
  have hl := lv_entry ([.int i]) (n := 1) (Nat.le_of_ble_eq_true rfl)
  rw [lg_entry_eq]
  generalize (lg_sl ([.int i]) ++ List.replicate (1 - (lg_sl ([.int i])).length) Slot.unset).toArray = ls at hl ⊢
  replace hl : lv_has ls 1 [(0, .int i)] := hl
  refine lv_iload_n hx hb dX2_isSize_0 rfl (lv_at hl 0 rfl) ?_
  refine lv_iconst (v := 1) hx hb dX2_isSize_1 (by decide) ?_
  refine lv_icmp_lt (tgt := 15) hx hb dX2_isSize_2 (by decide) (fun c_2 => ?_) (fun c_2 => ?_)
  · skip
    refine lv_iconst (v := 0) hx hb dX2_isSize_15 (by decide) ?_
    exact W.zret (v := 0) hx hb hr (by first | rfl | decide +kernel) (fun t9 ht hW => ⟨0, rfl, by first | exact bq_f (fun h => h.1 c_2) | exact bq_f (fun h => h.2 c_8) | exact bq_t ⟨c_2, c_8⟩, ht⟩) (fun q h => absurd h List.not_mem_nil) dX2_isSize_16
  · skip
    refine lv_iload_n hx hb dX2_isSize_5 rfl (lv_at hl 0 rfl) ?_
    refine lv_bipush (v := 8) hx hb dX2_isSize_6 (by decide) ?_
    refine lv_icmp_gt (tgt := 15) hx hb dX2_isSize_8 (by decide) (fun c_8 => ?_) (fun c_8 => ?_)
    · skip
      refine lv_iconst (v := 0) hx hb dX2_isSize_15 (by decide) ?_
      exact W.zret (v := 0) hx hb hr (by first | rfl | decide +kernel) (fun t9 ht hW => ⟨0, rfl, by first | exact bq_f (fun h => h.1 c_2) | exact bq_f (fun h => h.2 c_8) | exact bq_t ⟨c_2, c_8⟩, ht⟩) (fun q h => absurd h List.not_mem_nil) dX2_isSize_16
    · skip
      refine lv_iconst (v := 1) hx hb dX2_isSize_11 (by decide) ?_
      refine lv_goto (tgt := 16) hx hb dX2_isSize_12 (by decide) ?_
      exact W.zret (v := 1) hx hb hr (by first | rfl | decide +kernel) (fun t9 ht hW => ⟨1, rfl, by first | exact bq_f (fun h => h.1 c_2) | exact bq_f (fun h => h.2 c_8) | exact bq_t ⟨c_2, c_8⟩, ht⟩) (fun q h => absurd h List.not_mem_nil) dX2_isSize_16
set_option maxHeartbeats 4000000 in
set_option maxRecDepth 100000 in
/-- cut -/
theorem c_cut (l : Launch) (b : Int64) (n : Nat) (hn : n ≤ 8) : Met l yX2_cut wsX2_cut ({ frames := 0, cells := 0, slots := 0, locals := 0 }) (stP [.long b, .int (nI n)]) (vp_Sl (fun z => z = lowB b (nI n))) 0 0 (fun _ => False) := by
  refine Met.ofW (cc := cX2_cut) (maxL := 3) (ret := some .long) (by decide) rfl ?_
  intro p e s m args below meth c s₁ B hml hv
  obtain ⟨rfl, -⟩ := hv
  have hx := B.exec
  have hb := B.bytes
  have hr := B.returns
  have hts := atoms_spec (ws := wsX2_cut) B.pre
  have hown : s.vm.findClass RX2 = some m.cls := findClass_of_methodNamed B.named
  have hlocks := B.notSynchronized
  have hl := lv_entry ([.long b, .int (nI n)]) (n := 3) (Nat.le_of_ble_eq_true rfl)
  rw [lg_entry_eq]
  generalize (lg_sl ([.long b, .int (nI n)]) ++ List.replicate (3 - (lg_sl ([.long b, .int (nI n)])).length) Slot.unset).toArray = ls at hl ⊢
  replace hl : lv_has ls 3 [(0, .long b), (2, .int (nI n))] := hl
  refine lv_iload_n hx hb dX2_cut_0 rfl (lv_at hl 1 rfl) ?_
  refine lv_bipush (v := 8) hx hb dX2_cut_1 (by decide) ?_
  refine lv_icmp_ne (tgt := 10) hx hb dX2_cut_3 (by decide) (fun c_3 => ?_) (fun c_3 => ?_)
  · skip
    have hn8 : n < 8 := by
      rcases Nat.lt_or_ge n 8 with q | q
      · exact q
      · exact absurd (by rw [show n = 8 by omega]; rfl) c_3
    refine lv_lload_n hx hb dX2_cut_10 rfl (lv_at hl 0 rfl) ?_
    refine lv_lconst (v := 1) hx hb dX2_cut_11 (by decide) ?_
    refine lv_bipush (v := 8) hx hb dX2_cut_12 (by decide) ?_
    refine lv_iload_n hx hb dX2_cut_14 rfl (lv_at hl 1 rfl) ?_
    refine lv_imul hx hb dX2_cut_15 ?_
    refine lv_lshl hx hb dX2_cut_16 rfl ?_
    refine lv_lconst (v := 1) hx hb dX2_cut_17 (by decide) ?_
    refine lv_lsub hx hb dX2_cut_18 ?_
    refine lv_land hx hb dX2_cut_19 ?_
    exact W.lret (v := (b &&& (((1 : Int64) <<< ((8 * (nI n)).toInt64 &&& 63)) - 1))) hx hb hr (fun t9 ht hW => ⟨(b &&& (((1 : Int64) <<< ((8 * (nI n)).toInt64 &&& 63)) - 1)), rfl, by first | exact cut_val b hn8 | (rw [c_3]; exact (cut_8 b).symm), ht⟩) (fun q h => absurd h List.not_mem_nil) dX2_cut_20
  · skip
    refine lv_lload_n hx hb dX2_cut_6 rfl (lv_at hl 0 rfl) ?_
    refine lv_goto (tgt := 20) hx hb dX2_cut_7 (by decide) ?_
    exact W.lret (v := b) hx hb hr (fun t9 ht hW => ⟨b, rfl, by first | exact cut_val b hn8 | (rw [c_3]; exact (cut_8 b).symm), ht⟩) (fun q h => absurd h List.not_mem_nil) dX2_cut_20
set_option maxHeartbeats 4000000 in
set_option maxRecDepth 100000 in
/-- at -/
theorem c_at (l : Launch) (k : Int64) (n i : Nat) (hn : n ≤ 8) (hi : i < 8) : Met l yX2_at wsX2_at ({ frames := 0, cells := 0, slots := 0, locals := 0 }) (stP [.long k, .int (nI n), .int (nI i)]) (vp_Si (fun z => z = atI k n i)) 0 0 (fun _ => False) := by
  refine Met.ofW (cc := cX2_at) (maxL := 4) (ret := some .int) (by decide) rfl ?_
  intro p e s m args below meth c s₁ B hml hv
  obtain ⟨rfl, -⟩ := hv
  have hx := B.exec
  have hb := B.bytes
  have hr := B.returns
  have hts := atoms_spec (ws := wsX2_at) B.pre
  have hown : s.vm.findClass RX2 = some m.cls := findClass_of_methodNamed B.named
  have hlocks := B.notSynchronized
  have hl := lv_entry ([.long k, .int (nI n), .int (nI i)]) (n := 4) (Nat.le_of_ble_eq_true rfl)
  rw [lg_entry_eq]
  generalize (lg_sl ([.long k, .int (nI n), .int (nI i)]) ++ List.replicate (4 - (lg_sl ([.long k, .int (nI n), .int (nI i)])).length) Slot.unset).toArray = ls at hl ⊢
  replace hl : lv_has ls 4 [(0, .long k), (2, .int (nI n)), (3, .int (nI i))] := hl
  refine lv_iload_n hx hb dX2_at_0 rfl (lv_at hl 2 rfl) ?_
  refine lv_iload_n hx hb dX2_at_1 rfl (lv_at hl 1 rfl) ?_
  refine lv_icmp_ge (tgt := 23) hx hb dX2_at_2 (by decide) (fun c_2 => ?_) (fun c_2 => ?_)
  · skip
    have c_2 : ¬ i < n := fun q => nI_ge q (by omega) c_2
    refine lv_iconst (v := (-1)) hx hb dX2_at_23 (by decide) ?_
    exact W.iret (v := (-1)) hx hb hr (fun t9 ht hW => ⟨(-1), rfl, by first | exact at_val k hn c_2 | exact (if_neg c_2).symm, ht⟩) (fun q h => absurd h List.not_mem_nil) dX2_at_24
  · skip
    have c_2 : i < n := by
      rcases Nat.lt_or_ge i n with q | q
      · exact q
      · exact absurd (nI_le q (by omega)) c_2
    refine lv_lload_n hx hb dX2_at_5 rfl (lv_at hl 0 rfl) ?_
    refine lv_bipush (v := 8) hx hb dX2_at_6 (by decide) ?_
    refine lv_iload_n hx hb dX2_at_8 rfl (lv_at hl 1 rfl) ?_
    refine lv_iconst (v := 1) hx hb dX2_at_9 (by decide) ?_
    refine lv_isub hx hb dX2_at_10 ?_
    refine lv_iload_n hx hb dX2_at_11 rfl (lv_at hl 2 rfl) ?_
    refine lv_isub hx hb dX2_at_12 ?_
    refine lv_imul hx hb dX2_at_13 ?_
    refine lv_lshr hx hb dX2_at_14 rfl ?_
    refine lv_ldc2 (v := 255) hx hb hown (hts (.constantLong RX2 35 255) (by decide +kernel)) dX2_at_15 ?_
    refine lv_land hx hb dX2_at_18 ?_
    refine lv_l2i hx hb dX2_at_19 rfl ?_
    refine lv_goto (tgt := 24) hx hb dX2_at_20 (by decide) ?_
    exact W.iret (v := (((k >>> ((8 * (((nI n) - 1) - (nI i))).toInt64 &&& 63)) &&& 255).toInt32)) hx hb hr (fun t9 ht hW => ⟨((k >>> ((8 * (((nI n) - 1) - (nI i))).toInt64 &&& 63)) &&& 255).toInt32, rfl, by first | exact at_val k hn c_2 | exact (if_neg c_2).symm, ht⟩) (fun q h => absurd h List.not_mem_nil) dX2_at_24
set_option maxHeartbeats 4000000 in
set_option maxRecDepth 100000 in
/-- order: the first byte that differs decides -/
theorem c_order (l : Launch) (a : Int64) (n : Nat) (b : Int64) (k : Nat) (n1 : 1 ≤ n) (n8 : n ≤ 8) (k1 : 1 ≤ k) (k8 : k ≤ 8) : Met l yX2_order wsX2_order ({ frames := 1, cells := 0, slots := 0, locals := 23 }) (stP [.long a, .int (nI n), .long b, .int (nI k)]) (vp_Si (fun z => ordQ a (nI n) b (nI k) z)) 0 0 (fun _ => False) := by
  refine Met.ofW (cc := cX2_order) (maxL := 8) (ret := some .int) (by decide) rfl ?_
  intro p e s m args below meth c s₁ B hml hv
  obtain ⟨rfl, -⟩ := hv
  have hx := B.exec
  have hb := B.bytes
  have hr := B.returns
  have hts := atoms_spec (ws := wsX2_order) B.pre
  have hown : s.vm.findClass RX2 = some m.cls := findClass_of_methodNamed B.named
  have hlocks := B.notSynchronized
  have hl := lv_entry ([.long a, .int (nI n), .long b, .int (nI k)]) (n := 8) (Nat.le_of_ble_eq_true rfl)
  rw [lg_entry_eq]
  generalize (lg_sl ([.long a, .int (nI n), .long b, .int (nI k)]) ++ List.replicate (8 - (lg_sl ([.long a, .int (nI n), .long b, .int (nI k)])).length) Slot.unset).toArray = ls at hl ⊢
  replace hl : lv_has ls 8 [(0, .long a), (2, .int (nI n)), (3, .long b), (5, .int (nI k))] := hl
  refine lv_iconst (v := 0) hx hb dX2_order_0 (by decide) ?_
  refine lv_istore (lv' := [(6, .int 0), (0, .long a), (2, .int (nI n)), (3, .long b), (5, .int (nI k))]) hx hb dX2_order_1 hl (by decide) rfl (fun ls hl => ?_)
  obtain ⟨i, hi0⟩ : ∃ i : Nat, i = 0 := ⟨0, rfl⟩
  obtain ⟨g, hg⟩ : ∃ g : Nat, i + g = 8 := ⟨8, by omega⟩
  replace hl : lv_has ls 8 [(0, .long a), (2, .int (nI n)), (3, .long b), (5, .int (nI k)), (6, .int (nI i))] := by subst hi0; exact lv_sub hl [1, 2, 3, 4, 0] rfl
  have hq : ∀ q, q < i → atI a n q = atI b k q := fun q h => by omega
  clear hi0
  induction g generalizing i ls with
  | zero =>
    refine lv_iload hx hb dX2_order_3 (lv_at hl 4 rfl) ?_
    refine lv_bipush (v := 8) hx hb dX2_order_5 (by decide) ?_
    refine lv_icmp_ge (tgt := 42) hx hb dX2_order_7 (by decide) (fun c_7 => ?_) (fun c_7 => absurd (nI_le (show 8 ≤ i by omega) (by omega)) c_7)
    refine lv_iconst (v := 0) hx hb dX2_order_42 (by decide) ?_
    exact W.iret (v := 0) hx hb hr (fun t9 ht hW => ⟨0, rfl, ordQ_end n1 n8 k1 k8 (fun q h => hq q (by omega)), ht⟩) (fun q h => absurd h List.not_mem_nil) dX2_order_43
  | succ g ih =>
    refine lv_iload hx hb dX2_order_3 (lv_at hl 4 rfl) ?_
    refine lv_bipush (v := 8) hx hb dX2_order_5 (by decide) ?_
    refine lv_icmp_ge (tgt := 42) hx hb dX2_order_7 (by decide) (fun c_7 => absurd c_7 (nI_ge (show i < 8 by omega) (by decide))) (fun c_7 => ?_)
    refine lv_lload_n hx hb dX2_order_10 rfl (lv_at hl 0 rfl) ?_
    refine lv_iload_n hx hb dX2_order_11 rfl (lv_at hl 1 rfl) ?_
    refine lv_iload hx hb dX2_order_12 (lv_at hl 4 rfl) ?_
    refine vp_callSi (va_Run.run (va_runS (As := [.long a, .int (nI n), .int (nI i)]) (rest := []) ⟨hx, hb, hml, hown, hts⟩ (c_at l a n i n8 (by omega)) (va_cwS 3 hts gX2_order_X2_at rfl rfl rfl (by decide +kernel) ⟨Nat.le_of_ble_eq_true rfl, Nat.le_of_ble_eq_true rfl⟩) (st_pre) rfl rfl hl.1 rfl (lv_room (Nat.le_of_ble_eq_true rfl)) dX2_order_14 ⟨Nat.le_of_ble_eq_true rfl, Nat.le_of_ble_eq_true rfl⟩)) (fun r1 hr1 => ?_)
    subst hr1
    refine lv_lload_n hx hb dX2_order_17 rfl (lv_at hl 2 rfl) ?_
    refine lv_iload hx hb dX2_order_18 (lv_at hl 3 rfl) ?_
    refine lv_iload hx hb dX2_order_20 (lv_at hl 4 rfl) ?_
    refine vp_callSi (va_Run.run (va_runS (As := [.long b, .int (nI k), .int (nI i)]) (rest := [.int (atI a n i)]) ⟨hx, hb, hml, hown, hts⟩ (c_at l b k i k8 (by omega)) (va_cwS 3 hts gX2_order_X2_at rfl rfl rfl (by decide +kernel) ⟨Nat.le_of_ble_eq_true rfl, Nat.le_of_ble_eq_true rfl⟩) (st_pre) rfl rfl hl.1 rfl (lv_room (Nat.le_of_ble_eq_true rfl)) dX2_order_22 ⟨Nat.le_of_ble_eq_true rfl, Nat.le_of_ble_eq_true rfl⟩)) (fun r2 hr2 => ?_)
    subst hr2
    refine lv_isub hx hb dX2_order_25 ?_
    refine lv_istore (lv' := [(7, .int ((atI a n i) - (atI b k i))), (0, .long a), (2, .int (nI n)), (3, .long b), (5, .int (nI k)), (6, .int (nI i))]) hx hb dX2_order_26 hl (by decide) rfl (fun ls hl => ?_)
    refine lv_iload hx hb dX2_order_28 (lv_at hl 0 rfl) ?_
    refine lv_if_eq (tgt := 36) hx hb dX2_order_30 (by decide) (fun c_30 => ?_) (fun c_30 => ?_)
    · skip
      have c_30 : atI a n i = atI b k i := by
        apply Int32.toInt_inj.mp
        have h1 := congrArg Int32.toInt c_30
        rw [at_sub, show (0 : Int32).toInt = 0 by decide] at h1
        rw [atI_toInt, atI_toInt]
        omega
      refine lv_iinc (v := nI (i + 1)) (lv' := [(6, .int (nI (i + 1))), (7, .int ((atI a n i) - (atI b k i))), (0, .long a), (2, .int (nI n)), (3, .long b), (5, .int (nI k))]) hx hb dX2_order_36 hl (k := 5) rfl (nI_1 i) (by decide) rfl (fun ls hl => ?_)
      refine lv_goto (tgt := 3) hx hb dX2_order_39 (by decide) ?_
      have hq2 : ∀ q, q < i + 1 → atI a n q = atI b k q := fun q h => by
        rcases Nat.lt_or_ge q i with h2 | h2
        · exact hq q h2
        · rw [show q = i by omega]; exact c_30
      apply ih (ls := ls) (i := i + 1)
      all_goals first | omega | exact lv_sub hl [2, 3, 4, 5, 0] rfl | exact hq2
    · skip
      refine lv_iload hx hb dX2_order_33 (lv_at hl 0 rfl) ?_
      exact W.iret (v := atI a n i - atI b k i) hx hb hr (fun t9 ht hW => ⟨_, rfl, ordQ_ne n1 n8 k1 k8 (by omega) hq c_30, ht⟩) (fun q h => absurd h List.not_mem_nil) dX2_order_35
