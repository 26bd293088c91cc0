/-! BASICS: contracts that only read, contracts that write; how they are called -/
abbrev kS (cL cI : ClassId) : List (ClassId × FieldType) := [(cL, .long), (cI, .int)]
/-- r is 1 or 0, as P holds or not -/
def bq (r : Int32) (P : Prop) : Prop := (r = 1 ∧ P) ∨ (r = 0 ∧ ¬ P)
theorem bq_t {P : Prop} (h : P) : bq 1 P := Or.inl ⟨rfl, h⟩
theorem bq_f {P : Prop} (h : ¬ P) : bq 0 P := Or.inr ⟨rfl, h⟩
def stP (av : List Value) : Array Value → State → Prop := va_Pc av (fun _ => True)
theorem st_pre {s : State} {H : Heap} {As : List Value} : PreS s H (stP As) As := ⟨fun _ _ _ _ q => q, fun _ _ _ => ⟨rfl, trivial⟩⟩
def rdP (D : va_G) (ks : List (ClassId × FieldType)) (ws : va_W) (av : List Value) : Array Value → State → Prop := va_Pc av (fun U => va_P D vwCl ws U.heap ∧ va_K D vwCl ks U)
theorem rd_preV {s : State} {H : Heap} {D : va_G} {ks : List (ClassId × FieldType)} {ws : va_W} {a ci q0 : Nat} {C : String} {T : u_T} {N : Nat} {fs As : List Value} (hK : va_K D vwCl ks s) (hP : va_P D vwCl ws H) (hc : vwCl[ci]? = some (C, T, N)) (he : ws[q0]? = some (a, .inr (ci, fs))) : PreV s H C a (rdP D ks ws (.ref a :: As)) As :=
  ⟨fun x U g mk q => ⟨q.1, q.2.1, va_K.moved (u := U) (U := U.calling g mk x) (Vm.Alike.refl U.vm) q.2.2⟩, va_recv hK hP hc he, fun U hU hW => ⟨rfl, by rw [hU]; exact hP, va_K.moved hW.alike hK⟩⟩
theorem rd_preS {s : State} {H : Heap} {D : va_G} {ks : List (ClassId × FieldType)} {ws : va_W} {As : List Value} (hK : va_K D vwCl ks s) (hP : va_P D vwCl ws H) : PreS s H (rdP D ks ws As) As :=
  ⟨fun x U g mk q => ⟨q.1, q.2.1, va_K.moved (u := U) (U := U.calling g mk x) (Vm.Alike.refl U.vm) q.2.2⟩, fun U hU hW => ⟨rfl, by rw [hU]; exact hP, va_K.moved hW.alike hK⟩⟩
def wrP (D : va_G) (ks : List (ClassId × FieldType)) (ws : va_W) (av : List Value) (sz : Nat) : Array Value → State → Prop := va_Pc av (fun U => U.heap.size = sz ∧ va_P D vwCl ws U.heap ∧ va_K D vwCl ks U ∧ va_D (fun _ => True) ws)
abbrev wrB {S : Type} (D : va_G) (A : Nat → Prop) (w1 : S → va_W) : S → State → Prop := fun u t => va_P D vwCl (w1 u) t.heap ∧ va_D A (w1 u)
theorem wr_preV {s : State} {H : Heap} {D : va_G} {ks : List (ClassId × FieldType)} {ws : va_W} {A : Nat → Prop} {a ci q0 : Nat} {C : String} {T : u_T} {N : Nat} {fs As : List Value} (hK : va_K D vwCl ks s) (hP : va_P D vwCl ws H) (hD : va_D A ws) (hc : vwCl[ci]? = some (C, T, N)) (he : ws[q0]? = some (a, .inr (ci, fs))) : PreV s H C a (wrP D ks ws (.ref a :: As) H.size) As :=
  ⟨fun x U g mk q => ⟨q.1, q.2.1, q.2.2.1, va_K.moved (u := U) (U := U.calling g mk x) (Vm.Alike.refl U.vm) q.2.2.2.1, q.2.2.2.2⟩, va_recv hK hP hc he, fun U hU hW => ⟨rfl, by rw [hU], by rw [hU]; exact hP, va_K.moved hW.alike hK, hD.weaken (fun _ _ _ _ => trivial)⟩⟩
theorem wr_preI {s : State} {H : Heap} {D : va_G} {ks : List (ClassId × FieldType)} {ws : va_W} {A : Nat → Prop} {a : Nat} {As : List Value} (hK : va_K D vwCl ks s) (hP : va_P D vwCl ws H) (hD : va_D A ws) : PreS s H (wrP D ks ws (.ref a :: As) H.size) (.ref a :: As) :=
  ⟨fun x U g mk q => ⟨q.1, q.2.1, q.2.2.1, va_K.moved (u := U) (U := U.calling g mk x) (Vm.Alike.refl U.vm) q.2.2.2.1, q.2.2.2.2⟩, fun U hU hW => ⟨rfl, by rw [hU], by rw [hU]; exact hP, va_K.moved hW.alike hK, hD.weaken (fun _ _ _ _ => trivial)⟩⟩
section WRC
variable {p : Program} {l : Launch} {e : Env} {R : Room} {s : State} {m : MethodId} {args : Array Value} {below : List Frame} {meth : Method} {c : Code} {H : Heap} {locs : List Loc} {cells slots : Nat} {Q : State → Prop}
variable {pc : Nat} {ls : Array Slot} {rest st0 : List Value} {a : Array Value} {A : Nat → Prop} {H0 : Heap} {mc ms : Nat} {D : va_G} {ws wc wr : va_W}
theorem wr_calli {S : Type} {post : Int32 → S → Prop} {w1 : S → va_W} (hr : va_Run p l e R s m args below meth c H locs cells slots mc ms (F0 m pc ls st0) rest (va_Qi post (wrB D (va_A wc H.size) w1) (va_A wc H.size) a) (va_A wc H.size))
    (hP : va_P D vwCl ws H) (hD : va_D A ws) (hS : va_S A H0 H locs) (hA : ∀ q, H0.size ≤ q → A q) (isC isR : List Nat) (hC : isC.map (fun i => ws[i]?) = wc.map some) (hR : isR.map (fun i => ws[i]?) = wr.map some) (hn : va_nd isR = true) (hdis : ∀ i ∈ isR, i ∉ isC)
    (kk : ∀ (r : Int32) (u : S) (H1 : Heap) (locs1 : List Loc), post r u → va_P D vwCl (wr ++ w1 u) H1 → va_D A (wr ++ w1 u) → va_S A H0 H1 locs1 → W p l e R s m args below meth c H1 locs1 (cells + mc) (slots + ms) Q (F0 m (pc + 3) ls (.int r :: rest))) : W p l e R s m args below meth c H locs cells slots Q (F0 m pc ls st0) := by
  have hF := va_free hD hS hA isC hC
  refine va_calli hr hS (fun q _ h => hF q h) hF (fun r u t H1 locs1 ht hvm hw hB hz1 hk1 hS1 => ?_)
  obtain ⟨hP1, hD1⟩ := hB
  rw [ht] at hP1
  obtain ⟨hP2, hD2⟩ := va_join hP hD isC isR hC hR hn hdis hk1 hF hP1 hD1
  exact kk r u H1 locs1 hw hP2 hD2 hS1
theorem wr_callv {S : Type} {post : S → Prop} {w1 : S → va_W} (hr : va_Run p l e R s m args below meth c H locs cells slots mc ms (F0 m pc ls st0) rest (va_Qv post (wrB D (va_A wc H.size) w1) (va_A wc H.size) a) (va_A wc H.size))
    (hP : va_P D vwCl ws H) (hD : va_D A ws) (hS : va_S A H0 H locs) (hA : ∀ q, H0.size ≤ q → A q) (isC isR : List Nat) (hC : isC.map (fun i => ws[i]?) = wc.map some) (hR : isR.map (fun i => ws[i]?) = wr.map some) (hn : va_nd isR = true) (hdis : ∀ i ∈ isR, i ∉ isC)
    (kk : ∀ (u : S) (H1 : Heap) (locs1 : List Loc), post u → va_P D vwCl (wr ++ w1 u) H1 → va_D A (wr ++ w1 u) → va_S A H0 H1 locs1 → W p l e R s m args below meth c H1 locs1 (cells + mc) (slots + ms) Q (F0 m (pc + 3) ls rest)) : W p l e R s m args below meth c H locs cells slots Q (F0 m pc ls st0) := by
  have hF := va_free hD hS hA isC hC
  refine va_callv hr hS (fun q _ h => hF q h) hF (fun u t H1 locs1 ht hvm hw hB hz1 hk1 hS1 => ?_)
  obtain ⟨hP1, hD1⟩ := hB
  rw [ht] at hP1
  obtain ⟨hP2, hD2⟩ := va_join hP hD isC isR hC hR hn hdis hk1 hF hP1 hD1
  exact kk u H1 locs1 hw hP2 hD2 hS1
end WRC
theorem ka_long {D : va_G} {cl : List vw_C} {t1 t2 : List (ClassId × FieldType)} {s : State} {c1 c2 : ClassId} (h1 : va_K D cl t1 s) (h2 : va_K D cl t2 s) (i j : Nat) (hi : t1[i]? = some (c1, .long)) (hj : t2[j]? = some (c2, .long)) : c2 = c1 :=
  Option.some.inj ((show s.vm.findClass _ = some c2 from (h2.2 j _ hj).2).symm.trans (show s.vm.findClass _ = some c1 from (h1.2 i _ hi).2))
theorem ka_int {D : va_G} {cl : List vw_C} {t1 t2 : List (ClassId × FieldType)} {s : State} {c1 c2 : ClassId} (h1 : va_K D cl t1 s) (h2 : va_K D cl t2 s) (i j : Nat) (hi : t1[i]? = some (c1, .int)) (hj : t2[j]? = some (c2, .int)) : c2 = c1 :=
  Option.some.inj ((show s.vm.findClass _ = some c2 from (h2.2 j _ hj).2).symm.trans (show s.vm.findClass _ = some c1 from (h1.2 i _ hi).2))
/-- the array classes, out of the tables' words -/
theorem ka_get {s : State} {args : Array Value} {ty : FieldType} (hp : ∀ (U : State) (c : ClassId), U.vm.findClass ("[" ++ ty.toString) = some c → va_RA U c ty) (h : (Cond.arrayClass ty).before args s = true) : ∃ cA : ClassId, ArrOfT s cA ty ∧ va_RA s cA ty := by
  obtain ⟨cA, kA, comp, h1, h2, h3⟩ := Cond.arrayClass_spec h
  exact ⟨cA, fun n z => ⟨fun k h => (by cases h), kA, h2, comp, h3⟩, hp s cA h1⟩
/-- a heap and what was written so far, by names -/
theorem w_gen {p : Program} {l : Launch} {e : Env} {R : Room} {s : State} {m : MethodId} {args : Array Value} {below : List Frame} {meth : Method} {c : Code} {cells slots : Nat} {Q : State → Prop} {g : JFrame} (H0 : Heap) (l0 : List Loc) (k : ∀ (H : Heap) (locs : List Loc), H = H0 → locs = l0 → W p l e R s m args below meth c H locs cells slots Q g) : W p l e R s m args below meth c H0 l0 cells slots Q g := k H0 l0 rfl rfl
/-! THE CLASS's STATE: rows of keys' heads, sizes, texts and lengths, and how many are used -/
abbrev RS : Type := Nat × (Nat → Int64) × (Nat → Int32) × (Nat → Int64) × (Nat → Int32)
abbrev rW (cL cI : ClassId) (r a1 a2 a3 a4 : Nat) (v : RS) : va_W := [(r, .inr (0, [.ref a1, .ref a2, .ref a3, .ref a4, .int (nI v.1)])), (a1, .inl (cL, 150, .inr (.inl v.2.1))), (a2, .inl (cI, 150, .inl v.2.2.1)), (a3, .inl (cL, 150, .inr (.inl v.2.2.2.1))), (a4, .inl (cI, 150, .inl v.2.2.2.2))]
def okK (i : Int32) : Prop := ¬ i < 1 ∧ ¬ 8 < i
def okT (i : Int32) : Prop := ¬ i < 0 ∧ ¬ 8 < i
/-- the key's bytes at the top of a long -/
def hdOf (k : Int64) (t : Int32) : Int64 := k <<< ((64 - 8 * t).toInt64 &&& 63)
def unH (h : Int64) (t : Int32) : Int64 := (h.toUInt64 >>> ((64 - 8 * t).toInt64.toUInt64 &&& Int64.toUInt64 63)).toInt64
def lowB (b : Int64) (n : Int32) : Int64 := if n = 0 then 0 else b &&& ((-1 : Int64).toUInt64 >>> ((64 - 8 * n).toInt64.toUInt64 &&& Int64.toUInt64 63)).toInt64
/-- a row is before another one -/
def bfr (h1 : Int64) (t1 : Int32) (h2 : Int64) (t2 : Int32) : Prop := (¬ h1 = h2 ∧ h1 + (-9223372036854775808) < h2 + (-9223372036854775808)) ∨ (h1 = h2 ∧ t1 < t2)
/-- j parts the rows: those ahead are before, those from j on are not -/
def spl (u : Nat) (hd : Nat → Int64) (sz : Nat → Int32) (h : Int64) (t : Int32) (j : Nat) : Prop := j ≤ u ∧ (∀ i, i < j → bfr (hd i) (sz i) h t) ∧ ∀ i, j ≤ i → i < u → ¬ bfr (hd i) (sz i) h t
def hld (u : Nat) (hd : Nat → Int64) (sz : Nat → Int32) (j : Nat) (h : Int64) (t : Int32) : Prop := j < u ∧ hd j = h ∧ sz j = t
def opn {α : Type} (f : Nat → α) (j u : Nat) : Nat → α := va_cpy f f j (j + 1) (u - j)
def clo {α : Type} (f : Nat → α) (j u : Nat) : Nat → α := va_cpy f f (j + 1) j (u - j - 1)
def rs_put (v : RS) (j : Nat) (h : Int64) (t : Int32) (x : Int64) (n : Int32) : RS := (v.1, vp_updL v.2.1 j h, upd v.2.2.1 j t, vp_updL v.2.2.2.1 j x, upd v.2.2.2.2 j n)
def rs_opn (v : RS) (j : Nat) : RS := (v.1 + 1, opn v.2.1 j v.1, opn v.2.2.1 j v.1, opn v.2.2.2.1 j v.1, opn v.2.2.2.2 j v.1)
def rs_clo (v : RS) (j : Nat) : RS := (v.1 - 1, clo v.2.1 j v.1, clo v.2.2.1 j v.1, clo v.2.2.2.1 j v.1, clo v.2.2.2.2 j v.1)
def rs_cpy (v w : RS) : RS := (v.1, va_cpy v.2.1 w.2.1 0 0 v.1, va_cpy v.2.2.1 w.2.2.1 0 0 v.1, va_cpy v.2.2.2.1 w.2.2.2.1 0 0 v.1, va_cpy v.2.2.2.2 w.2.2.2.2 0 0 v.1)
def rs_0 : RS := (0, fun _ => 0, fun _ => 0, fun _ => 0, fun _ => 0)
/-- what 'set' answers, and what comes of the rows -/
def setQ (v : RS) (j : Nat) (h : Int64) (t : Int32) (x : Int64) (n : Int32) (z : Int32) (w : RS) : Prop :=
  (hld v.1 v.2.1 v.2.2.1 j h t ∧ z = 1 ∧ w = rs_put v j h t x n) ∨ (¬ hld v.1 v.2.1 v.2.2.1 j h t ∧ v.1 < 150 ∧ z = 1 ∧ w = rs_put (rs_opn v j) j h t x n) ∨ (¬ hld v.1 v.2.1 v.2.2.1 j h t ∧ ¬ v.1 < 150 ∧ z = 0 ∧ w = v)
def stp : Nat → Int32
  | 0 => 0
  | k + 1 => nI (2 ^ k)
theorem stp_half : ∀ k, k < 8 → stp (k + 1) / 2 = stp k := by decide +kernel
theorem stp_pos : ∀ k, k < 8 → ¬ stp (k + 1) ≤ 0 := by decide +kernel
theorem nI_s1 {u : Nat} (h : 0 < u) : nI u - 1 = nI (u - 1) := by
  obtain ⟨w, rfl⟩ : ∃ w, u = w + 1 := ⟨u - 1, by omega⟩
  exact nI_pred w
theorem has_a {u : Nat} {i : Int32} (hu : u ≤ 150) (h : i < 0) : ¬ ∃ j, j < u ∧ i = nI j := by
  rintro ⟨j, hj, rfl⟩
  exact nI_pos (by omega) h
theorem has_b {u : Nat} {i : Int32} (hu : u ≤ 150) (h : nI u ≤ i) : ¬ ∃ j, j < u ∧ i = nI j := by
  rintro ⟨j, hj, rfl⟩
  exact nI_ge hj (by omega) h
theorem has_c {u : Nat} {i : Int32} (hu : u ≤ 150) (h1 : ¬ i < 0) (h2 : ¬ nI u ≤ i) : ∃ j, j < u ∧ i = nI j := by
  obtain ⟨j, hj, rfl⟩ := nI_of h1
  refine ⟨j, ?_, rfl⟩
  rcases Nat.lt_or_ge j u with h | h
  · exact h
  · exact absurd (nI_le h hj) h2
theorem nI_inj {u i j : Nat} (hu : u ≤ 150) (hi : i < u) (h : nI j = nI i) (hj : j < 2 ^ 31) : j = i := (nI_eq hj (by omega)).mp h
