/-! THE CLASS's STATIC METHODS -/
set_option maxHeartbeats 4000000 in
set_option maxRecDepth 100000 in
/-- unusedBits -/
theorem c_unusedBits (l : Launch) (i : Int32) : Met l yX1_unusedBits wsX1_unusedBits ({ frames := 0, cells := 0, slots := 0, locals := 0 }) (stP [.int i]) (vp_Si (fun z => z = 64 - 8 * i)) 0 0 (fun _ => False) := by
  refine Met.ofW (cc := cX1_unusedBits) (maxL := 1) (ret := some .int) (by decide) rfl ?_
  intro p e s m args below meth c s₁ B hml hv
  obtain ⟨rfl, -⟩ := hv
  have hx := B.exec
  have hb := B.bytes
  have hr := B.returns
  have hts := atoms_spec (ws := wsX1_unusedBits) B.pre
  have hown : s.vm.findClass RX1 = some m.cls := findClass_of_methodNamed B.named
  have hlocks := B.notSynchronized
  have hl := lv_entry ([.int i]) (n := 1) (Nat.le_of_ble_eq_true rfl)
  rw [lg_entry_eq]
  generalize (lg_sl ([.int i]) ++ List.replicate (1 - (lg_sl ([.int i])).length) Slot.unset).toArray = ls at hl ⊢
  replace hl : lv_has ls 1 [(0, .int i)] := hl
  refine lv_bipush (v := 64) hx hb dX1_unusedBits_0 (by decide) ?_
  refine lv_bipush (v := 8) hx hb dX1_unusedBits_2 (by decide) ?_
  refine lv_iload_n hx hb dX1_unusedBits_4 rfl (lv_at hl 0 rfl) ?_
  refine lv_imul hx hb dX1_unusedBits_5 ?_
  refine lv_isub hx hb dX1_unusedBits_6 ?_
  exact W.iret (v := (64 - (8 * i))) hx hb hr (fun t9 ht hW => ⟨(64 - (8 * i)), rfl, rfl, ht⟩) (fun q h => absurd h List.not_mem_nil) dX1_unusedBits_7
set_option maxHeartbeats 4000000 in
set_option maxRecDepth 100000 in
/-- isKeySize -/
theorem c_isKeySize (l : Launch) (i : Int32) : Met l yX1_isKeySize wsX1_isKeySize ({ frames := 0, cells := 0, slots := 0, locals := 0 }) (stP [.int i]) (vp_Si (fun z => bq z (okK i))) 0 0 (fun _ => False) := by
  refine Met.ofW (cc := cX1_isKeySize) (maxL := 1) (ret := some .boolean) (by decide) rfl ?_
  intro p e s m args below meth c s₁ B hml hv
  obtain ⟨rfl, -⟩ := hv
  have hx := B.exec
  have hb := B.bytes
  have hr := B.returns
  have hts := atoms_spec (ws := wsX1_isKeySize) B.pre
  have hown : s.vm.findClass RX1 = some m.cls := findClass_of_methodNamed B.named
  have hlocks := B.notSynchronized
  have hl := lv_entry ([.int i]) (n := 1) (Nat.le_of_ble_eq_true rfl)
  rw [lg_entry_eq]
  generalize (lg_sl ([.int i]) ++ List.replicate (1 - (lg_sl ([.int i])).length) Slot.unset).toArray = ls at hl ⊢
  replace hl : lv_has ls 1 [(0, .int i)] := hl
  refine lv_iload_n hx hb dX1_isKeySize_0 rfl (lv_at hl 0 rfl) ?_
  refine lv_iconst (v := 1) hx hb dX1_isKeySize_1 (by decide) ?_
  refine lv_icmp_lt (tgt := 15) hx hb dX1_isKeySize_2 (by decide) (fun c_2 => ?_) (fun c_2 => ?_)
  · skip
    refine lv_iconst (v := 0) hx hb dX1_isKeySize_15 (by decide) ?_
    exact W.zret (v := 0) hx hb hr (by first | rfl | decide +kernel) (fun t9 ht hW => ⟨0, rfl, by first | exact bq_f (fun h => h.1 c_2) | exact bq_f (fun h => h.2 c_8) | exact bq_t ⟨c_2, c_8⟩, ht⟩) (fun q h => absurd h List.not_mem_nil) dX1_isKeySize_16
  · skip
    refine lv_iload_n hx hb dX1_isKeySize_5 rfl (lv_at hl 0 rfl) ?_
    refine lv_bipush (v := 8) hx hb dX1_isKeySize_6 (by decide) ?_
    refine lv_icmp_gt (tgt := 15) hx hb dX1_isKeySize_8 (by decide) (fun c_8 => ?_) (fun c_8 => ?_)
    · skip
      refine lv_iconst (v := 0) hx hb dX1_isKeySize_15 (by decide) ?_
      exact W.zret (v := 0) hx hb hr (by first | rfl | decide +kernel) (fun t9 ht hW => ⟨0, rfl, by first | exact bq_f (fun h => h.1 c_2) | exact bq_f (fun h => h.2 c_8) | exact bq_t ⟨c_2, c_8⟩, ht⟩) (fun q h => absurd h List.not_mem_nil) dX1_isKeySize_16
    · skip
      refine lv_iconst (v := 1) hx hb dX1_isKeySize_11 (by decide) ?_
      refine lv_goto (tgt := 16) hx hb dX1_isKeySize_12 (by decide) ?_
      exact W.zret (v := 1) hx hb hr (by first | rfl | decide +kernel) (fun t9 ht hW => ⟨1, rfl, by first | exact bq_f (fun h => h.1 c_2) | exact bq_f (fun h => h.2 c_8) | exact bq_t ⟨c_2, c_8⟩, ht⟩) (fun q h => absurd h List.not_mem_nil) dX1_isKeySize_16
set_option maxHeartbeats 4000000 in
set_option maxRecDepth 100000 in
/-- isTextLength -/
theorem c_isTextLength (l : Launch) (i : Int32) : Met l yX1_isTextLength wsX1_isTextLength ({ frames := 0, cells := 0, slots := 0, locals := 0 }) (stP [.int i]) (vp_Si (fun z => bq z (okT i))) 0 0 (fun _ => False) := by
  refine Met.ofW (cc := cX1_isTextLength) (maxL := 1) (ret := some .boolean) (by decide) rfl ?_
  intro p e s m args below meth c s₁ B hml hv
  obtain ⟨rfl, -⟩ := hv
  have hx := B.exec
  have hb := B.bytes
  have hr := B.returns
  have hts := atoms_spec (ws := wsX1_isTextLength) B.pre
  have hown : s.vm.findClass RX1 = some m.cls := findClass_of_methodNamed B.named
  have hlocks := B.notSynchronized
  have hl := lv_entry ([.int i]) (n := 1) (Nat.le_of_ble_eq_true rfl)
  rw [lg_entry_eq]
  generalize (lg_sl ([.int i]) ++ List.replicate (1 - (lg_sl ([.int i])).length) Slot.unset).toArray = ls at hl ⊢
  replace hl : lv_has ls 1 [(0, .int i)] := hl
  refine lv_iload_n hx hb dX1_isTextLength_0 rfl (lv_at hl 0 rfl) ?_
  refine lv_if_lt (tgt := 14) hx hb dX1_isTextLength_1 (by decide) (fun c_1 => ?_) (fun c_1 => ?_)
  · skip
    refine lv_iconst (v := 0) hx hb dX1_isTextLength_14 (by decide) ?_
    exact W.zret (v := 0) hx hb hr (by first | rfl | decide +kernel) (fun t9 ht hW => ⟨0, rfl, by first | exact bq_f (fun h => h.1 c_1) | exact bq_f (fun h => h.2 c_7) | exact bq_t ⟨c_1, c_7⟩, ht⟩) (fun q h => absurd h List.not_mem_nil) dX1_isTextLength_15
  · skip
    refine lv_iload_n hx hb dX1_isTextLength_4 rfl (lv_at hl 0 rfl) ?_
    refine lv_bipush (v := 8) hx hb dX1_isTextLength_5 (by decide) ?_
    refine lv_icmp_gt (tgt := 14) hx hb dX1_isTextLength_7 (by decide) (fun c_7 => ?_) (fun c_7 => ?_)
    · skip
      refine lv_iconst (v := 0) hx hb dX1_isTextLength_14 (by decide) ?_
      exact W.zret (v := 0) hx hb hr (by first | rfl | decide +kernel) (fun t9 ht hW => ⟨0, rfl, by first | exact bq_f (fun h => h.1 c_1) | exact bq_f (fun h => h.2 c_7) | exact bq_t ⟨c_1, c_7⟩, ht⟩) (fun q h => absurd h List.not_mem_nil) dX1_isTextLength_15
    · skip
      refine lv_iconst (v := 1) hx hb dX1_isTextLength_10 (by decide) ?_
      refine lv_goto (tgt := 15) hx hb dX1_isTextLength_11 (by decide) ?_
      exact W.zret (v := 1) hx hb hr (by first | rfl | decide +kernel) (fun t9 ht hW => ⟨1, rfl, by first | exact bq_f (fun h => h.1 c_1) | exact bq_f (fun h => h.2 c_7) | exact bq_t ⟨c_1, c_7⟩, ht⟩) (fun q h => absurd h List.not_mem_nil) dX1_isTextLength_15
set_option maxHeartbeats 4000000 in
set_option maxRecDepth 100000 in
/-- headOf -/
theorem c_headOf (l : Launch) (k : Int64) (t : Int32) : Met l yX1_headOf wsX1_headOf ({ frames := 1, cells := 0, slots := 0, locals := 20 }) (stP [.long k, .int t]) (vp_Sl (fun z => z = hdOf k t)) 0 0 (fun _ => False) := by
  refine Met.ofW (cc := cX1_headOf) (maxL := 3) (ret := some .long) (by decide) rfl ?_
  intro p e s m args below meth c s₁ B hml hv
  obtain ⟨rfl, -⟩ := hv
  have hx := B.exec
  have hb := B.bytes
  have hr := B.returns
  have hts := atoms_spec (ws := wsX1_headOf) B.pre
  have hown : s.vm.findClass RX1 = some m.cls := findClass_of_methodNamed B.named
  have hlocks := B.notSynchronized
  have hl := lv_entry ([.long k, .int t]) (n := 3) (Nat.le_of_ble_eq_true rfl)
  rw [lg_entry_eq]
  generalize (lg_sl ([.long k, .int t]) ++ List.replicate (3 - (lg_sl ([.long k, .int t])).length) Slot.unset).toArray = ls at hl ⊢
  replace hl : lv_has ls 3 [(0, .long k), (2, .int t)] := hl
  refine lv_lload_n hx hb dX1_headOf_0 rfl (lv_at hl 0 rfl) ?_
  refine lv_iload_n hx hb dX1_headOf_1 rfl (lv_at hl 1 rfl) ?_
  refine vp_callSi (va_Run.run (va_runS (As := [.int t]) (rest := [.long k]) ⟨hx, hb, hml, hown, hts⟩ (c_unusedBits l t) (va_cwS 1 hts gX1_headOf_X1_unusedBits rfl rfl rfl (by decide +kernel) ⟨Nat.le_of_ble_eq_true rfl, Nat.le_of_ble_eq_true rfl⟩) (st_pre) rfl rfl hl.1 rfl (lv_room (Nat.le_of_ble_eq_true rfl)) dX1_headOf_2 ⟨Nat.le_of_ble_eq_true rfl, Nat.le_of_ble_eq_true rfl⟩)) (fun rb hrb => ?_)
  subst hrb
  refine lv_lshl hx hb dX1_headOf_5 rfl ?_
  refine lv_topl (fun z_1 ez_1 => ?_)
  obtain rfl : z_1 = hdOf k t := ez_1.trans (by unfold hdOf; rfl)
  exact W.lret (v := (hdOf k t)) hx hb hr (fun t9 ht hW => ⟨hdOf k t, rfl, rfl, ht⟩) (fun q h => absurd h List.not_mem_nil) dX1_headOf_6
set_option maxHeartbeats 4000000 in
set_option maxRecDepth 100000 in
/-- lowestBytes -/
theorem c_lowestBytes (l : Launch) (b : Int64) (n : Int32) : Met l yX1_lowestBytes wsX1_lowestBytes ({ frames := 1, cells := 0, slots := 0, locals := 20 }) (stP [.long b, .int n]) (vp_Sl (fun z => z = lowB b n)) 0 0 (fun _ => False) := by
  refine Met.ofW (cc := cX1_lowestBytes) (maxL := 3) (ret := some .long) (by decide) rfl ?_
  intro p e s m args below meth c s₁ B hml hv
  obtain ⟨rfl, -⟩ := hv
  have hx := B.exec
  have hb := B.bytes
  have hr := B.returns
  have hts := atoms_spec (ws := wsX1_lowestBytes) B.pre
  have hown : s.vm.findClass RX1 = some m.cls := findClass_of_methodNamed B.named
  have hlocks := B.notSynchronized
  have hl := lv_entry ([.long b, .int n]) (n := 3) (Nat.le_of_ble_eq_true rfl)
  rw [lg_entry_eq]
  generalize (lg_sl ([.long b, .int n]) ++ List.replicate (3 - (lg_sl ([.long b, .int n])).length) Slot.unset).toArray = ls at hl ⊢
  replace hl : lv_has ls 3 [(0, .long b), (2, .int n)] := hl
  refine lv_iload_n hx hb dX1_lowestBytes_0 rfl (lv_at hl 1 rfl) ?_
  refine lv_if_ne (tgt := 8) hx hb dX1_lowestBytes_1 (by decide) (fun c_1 => ?_) (fun c_1 => ?_)
  · skip
    refine lv_lload_n hx hb dX1_lowestBytes_8 rfl (lv_at hl 0 rfl) ?_
    refine lv_ldc2 (v := (-1)) hx hb hown (hts (.constantLong RX1 91 (-1)) (by decide +kernel)) dX1_lowestBytes_9 ?_
    refine lv_iload_n hx hb dX1_lowestBytes_12 rfl (lv_at hl 1 rfl) ?_
    refine vp_callSi (va_Run.run (va_runS (As := [.int n]) (rest := [.long (-1), .long b]) ⟨hx, hb, hml, hown, hts⟩ (c_unusedBits l n) (va_cwS 1 hts gX1_lowestBytes_X1_unusedBits rfl rfl rfl (by decide +kernel) ⟨Nat.le_of_ble_eq_true rfl, Nat.le_of_ble_eq_true rfl⟩) (st_pre) rfl rfl hl.1 rfl (lv_room (Nat.le_of_ble_eq_true rfl)) dX1_lowestBytes_13 ⟨Nat.le_of_ble_eq_true rfl, Nat.le_of_ble_eq_true rfl⟩)) (fun rb hrb => ?_)
    subst hrb
    refine lv_lushr hx hb dX1_lowestBytes_16 rfl ?_
    refine lv_land hx hb dX1_lowestBytes_17 ?_
    exact W.lret (v := (b &&& ((-1 : Int64).toUInt64 >>> ((64 - 8 * n).toInt64.toUInt64 &&& Int64.toUInt64 63)).toInt64)) hx hb hr (fun t9 ht hW => ⟨(b &&& ((-1 : Int64).toUInt64 >>> ((64 - 8 * n).toInt64.toUInt64 &&& Int64.toUInt64 63)).toInt64), rfl, by first | exact (if_neg c_1).symm | exact (if_pos c_1).symm, ht⟩) (fun q h => absurd h List.not_mem_nil) dX1_lowestBytes_18
  · skip
    refine lv_lconst (v := 0) hx hb dX1_lowestBytes_4 (by decide) ?_
    refine lv_goto (tgt := 18) hx hb dX1_lowestBytes_5 (by decide) ?_
    exact W.lret (v := 0) hx hb hr (fun t9 ht hW => ⟨0, rfl, by first | exact (if_neg c_1).symm | exact (if_pos c_1).symm, ht⟩) (fun q h => absurd h List.not_mem_nil) dX1_lowestBytes_18
