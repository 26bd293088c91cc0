section
-- ===== PART A: goes FIRST, ahead of the names: the tables' words, and 'selects' of the private methods out of them =====
/-- a private method of a class that the tables say can be made, by its rows of tables_1 -/
def lw_okq (q : MethodName × Nat) : Prop := (q.1.cls ≠ "java/lang/invoke/MethodHandle" ∧ q.1.cls ≠ "java/lang/invoke/VarHandle") ∧ Cond.instantiable q.1.cls q.2 ∈ tables_1 ∧ Cond.privateMethod q.1 ∈ tables_1 ∧ Cond.instanceMethod q.1 ∈ tables_1
theorem lw_p0 : lw_okq (⟨"BlockTree", "placeOf", "(JI)I"⟩, 4) := ⟨⟨by decide +kernel, by decide +kernel⟩, List.mem_of_getElem? (i := 6) (by decide +kernel), List.mem_of_getElem? (i := 112) (by decide +kernel), List.mem_of_getElem? (i := 113) (by decide +kernel)⟩
theorem lw_p1 : lw_okq (⟨"BlockTree", "noteFound", "(I)Z"⟩, 4) := ⟨⟨by decide +kernel, by decide +kernel⟩, List.mem_of_getElem? (i := 6) (by decide +kernel), List.mem_of_getElem? (i := 135) (by decide +kernel), List.mem_of_getElem? (i := 136) (by decide +kernel)⟩
theorem lw_p2 : lw_okq (⟨"BlockTreeModel", "place", "(JI)I"⟩, 12) := ⟨⟨by decide +kernel, by decide +kernel⟩, List.mem_of_getElem? (i := 167) (by decide +kernel), List.mem_of_getElem? (i := 217) (by decide +kernel), List.mem_of_getElem? (i := 218) (by decide +kernel)⟩
theorem lw_p3 : lw_okq (⟨"BlockTreeModel", "isAt", "(IJI)Z"⟩, 12) := ⟨⟨by decide +kernel, by decide +kernel⟩, List.mem_of_getElem? (i := 167) (by decide +kernel), List.mem_of_getElem? (i := 228) (by decide +kernel), List.mem_of_getElem? (i := 229) (by decide +kernel)⟩
theorem lw_p4 : lw_okq (⟨"BlockTreeModel", "find", "(I)Z"⟩, 12) := ⟨⟨by decide +kernel, by decide +kernel⟩, List.mem_of_getElem? (i := 167) (by decide +kernel), List.mem_of_getElem? (i := 251) (by decide +kernel), List.mem_of_getElem? (i := 252) (by decide +kernel)⟩
def lw_privs_1 : List (MethodName × Nat) := [(⟨"BlockTree", "placeOf", "(JI)I"⟩, 4), (⟨"BlockTree", "noteFound", "(I)Z"⟩, 4), (⟨"BlockTreeModel", "place", "(JI)I"⟩, 12), (⟨"BlockTreeModel", "isAt", "(IJI)Z"⟩, 12), (⟨"BlockTreeModel", "find", "(I)Z"⟩, 12)]
theorem lw_r1 : ∀ q ∈ lw_privs_1, lw_okq q := List.forall_mem_cons.mpr ⟨lw_p0, List.forall_mem_cons.mpr ⟨lw_p1, List.forall_mem_cons.mpr ⟨lw_p2, List.forall_mem_cons.mpr ⟨lw_p3, List.forall_mem_cons.mpr ⟨lw_p4, fun _ h => absurd h List.not_mem_nil⟩⟩⟩⟩⟩
def lw_privs : List (MethodName × Nat) := lw_privs_1
def lw_tbl : List Cond := k2_sels lw_privs ++ tables_1
theorem lw_privs_ok : ∀ q ∈ lw_privs, lw_okq q := lw_r1
/-! ===== BEGIN words of one list among another's, by their places ===== -/
theorem goodIn_r {big : List Cond} (ws : List Cond) (ps : List Nat) (hp : ws = ps.filterMap (fun i => big[i]?)) (h : ws.all goodWord = true) : GoodIn big ws := by
  intro w hw
  have h1 := List.all_eq_true.mp h w hw
  rw [hp] at hw
  obtain ⟨i, -, hi⟩ := List.mem_filterMap.mp hw
  have hm : w ∈ big := by first | exact List.mem_of_getElem? hi | exact List.getElem?_mem hi
  exact ⟨hm, good_of_word h1⟩
theorem goodIn_app {big a b : List Cond} (ha : GoodIn big a) (hb : GoodIn big b) : GoodIn big (a ++ b) := fun w h => (List.mem_append.mp h).elim (ha w) (hb w)
theorem goodIn_ca {big a b : List Cond} {c : Cond} (ha : GoodIn big (c :: a)) (hb : GoodIn big b) : GoodIn big (c :: (a ++ b)) := fun w h => (List.mem_cons.mp h).elim (fun e => ha w (List.mem_cons.mpr (Or.inl e))) (fun h => (List.mem_append.mp h).elim (fun h => ha w (List.mem_cons.mpr (Or.inr h))) (hb w))
theorem goodIn_sub {big ws : List Cond} (hm : ∀ w ∈ ws, w ∈ big) (h : ws.all goodWord = true) : GoodIn big ws := fun w hw => ⟨hm w hw, good_of_word (List.all_eq_true.mp h w hw)⟩
/-! ===== END ===== -/

/-! ===== BEGIN printed: names, fields, word lists, decode rows ===== -/
def RX0 : String := "BlockTree$Rows"
def TX0 : u_T := fun k => match k with
  | 0 => ("BlockTree$Rows", "heads", "[J", true)
  | 1 => ("BlockTree$Rows", "sizes", "[I", true)
  | 2 => ("BlockTree$Rows", "texts", "[J", true)
  | 3 => ("BlockTree$Rows", "lengths", "[I", true)
  | _ => ("BlockTree$Rows", "used", "I", false)
def tyX0 : Nat → FieldType := fun k => match k with
  | 0 => .array .long
  | 1 => .array .int
  | 2 => .array .long
  | 3 => .array .int
  | _ => .int
abbrev wsX00 : List Cond := u_ws RX0 TX0 5
theorem nmX0 : ∀ a, a < 5 → ∀ b, b < 5 → a ≠ b → (TX0 a).2.1 ≠ (TX0 b).2.1 := by decide +kernel
theorem tyX0_ok : ∀ k, k < 5 → parseFieldDescriptor (TX0 k).2.2.1 = some (tyX0 k) := by decide +kernel
abbrev cX0_init : ByteArray := prog_2_method_1_code
def yX0_init : MethodName := ⟨RX0, "<init>", "()V"⟩
abbrev cX0_has : ByteArray := prog_2_method_2_code
def yX0_has : MethodName := ⟨RX0, "has", "(I)Z"⟩
abbrev cX0_holds : ByteArray := prog_2_method_3_code
def yX0_holds : MethodName := ⟨RX0, "holds", "(IJI)Z"⟩
abbrev cX0_firstNotBefore : ByteArray := prog_2_method_4_code
def yX0_firstNotBefore : MethodName := ⟨RX0, "firstNotBefore", "(JI)I"⟩
abbrev cX0_isBefore : ByteArray := prog_2_method_5_code
def yX0_isBefore : MethodName := ⟨RX0, "isBefore", "(IJI)Z"⟩
abbrev cX0_set : ByteArray := prog_2_method_6_code
def yX0_set : MethodName := ⟨RX0, "set", "(JIJI)Z"⟩
abbrev cX0_makeRoom : ByteArray := prog_2_method_7_code
def yX0_makeRoom : MethodName := ⟨RX0, "makeRoom", "(I)Z"⟩
abbrev cX0_drop : ByteArray := prog_2_method_8_code
def yX0_drop : MethodName := ⟨RX0, "drop", "(I)V"⟩
abbrev cX0_move : ByteArray := prog_2_method_9_code
def yX0_move : MethodName := ⟨RX0, "move", "(III)V"⟩
abbrev cX0_copyFrom : ByteArray := prog_2_method_10_code
def yX0_copyFrom : MethodName := ⟨RX0, "copyFrom", "(LBlockTree$Rows;)V"⟩
def RX1 : String := "BlockTree"
def TX1 : u_T := fun k => match k with
  | 0 => ("BlockTree", "now", "LBlockTree$Rows;", true)
  | 1 => ("BlockTree", "kept", "LBlockTree$Rows;", true)
  | 2 => ("BlockTree", "hitKey", "J", false)
  | _ => ("BlockTree", "hitSize", "I", false)
def tyX1 : Nat → FieldType := fun k => match k with
  | 0 => .object "BlockTree$Rows"
  | 1 => .object "BlockTree$Rows"
  | 2 => .long
  | _ => .int
abbrev wsX10 : List Cond := u_ws RX1 TX1 4
theorem nmX1 : ∀ a, a < 4 → ∀ b, b < 4 → a ≠ b → (TX1 a).2.1 ≠ (TX1 b).2.1 := by decide +kernel
theorem tyX1_ok : ∀ k, k < 4 → parseFieldDescriptor (TX1 k).2.2.1 = some (tyX1 k) := by decide +kernel
abbrev cX1_init : ByteArray := prog_1_method_1_code
def yX1_init : MethodName := ⟨RX1, "<init>", "()V"⟩
abbrev cX1_put : ByteArray := prog_1_method_2_code
def yX1_put : MethodName := ⟨RX1, "put", "(JIJI)Z"⟩
abbrev cX1_remove : ByteArray := prog_1_method_3_code
def yX1_remove : MethodName := ⟨RX1, "remove", "(JI)Z"⟩
abbrev cX1_length : ByteArray := prog_1_method_4_code
def yX1_length : MethodName := ⟨RX1, "length", "(JI)I"⟩
abbrev cX1_text : ByteArray := prog_1_method_5_code
def yX1_text : MethodName := ⟨RX1, "text", "(JI)J"⟩
abbrev cX1_seek : ByteArray := prog_1_method_6_code
def yX1_seek : MethodName := ⟨RX1, "seek", "(JI)Z"⟩
abbrev cX1_before : ByteArray := prog_1_method_7_code
def yX1_before : MethodName := ⟨RX1, "before", "(JI)Z"⟩
abbrev cX1_foundSize : ByteArray := prog_1_method_8_code
def yX1_foundSize : MethodName := ⟨RX1, "foundSize", "()I"⟩
abbrev cX1_found : ByteArray := prog_1_method_9_code
def yX1_found : MethodName := ⟨RX1, "found", "()J"⟩
abbrev cX1_count : ByteArray := prog_1_method_10_code
def yX1_count : MethodName := ⟨RX1, "count", "()I"⟩
abbrev cX1_commit : ByteArray := prog_1_method_11_code
def yX1_commit : MethodName := ⟨RX1, "commit", "()V"⟩
abbrev cX1_revert : ByteArray := prog_1_method_12_code
def yX1_revert : MethodName := ⟨RX1, "revert", "()V"⟩
abbrev cX1_noteFound : ByteArray := prog_1_method_13_code
def yX1_noteFound : MethodName := ⟨RX1, "noteFound", "(I)Z"⟩
abbrev cX1_placeOf : ByteArray := prog_1_method_14_code
def yX1_placeOf : MethodName := ⟨RX1, "placeOf", "(JI)I"⟩
abbrev cX1_isKeySize : ByteArray := prog_1_method_15_code
def yX1_isKeySize : MethodName := ⟨RX1, "isKeySize", "(I)Z"⟩
abbrev cX1_isTextLength : ByteArray := prog_1_method_16_code
def yX1_isTextLength : MethodName := ⟨RX1, "isTextLength", "(I)Z"⟩
abbrev cX1_headOf : ByteArray := prog_1_method_17_code
def yX1_headOf : MethodName := ⟨RX1, "headOf", "(JI)J"⟩
abbrev cX1_lowestBytes : ByteArray := prog_1_method_18_code
def yX1_lowestBytes : MethodName := ⟨RX1, "lowestBytes", "(JI)J"⟩
abbrev cX1_unusedBits : ByteArray := prog_1_method_19_code
def yX1_unusedBits : MethodName := ⟨RX1, "unusedBits", "(I)I"⟩
def RX2 : String := "BlockTreeModel"
def TX2 : u_T := fun k => match k with
  | 0 => ("BlockTreeModel", "many", "I", false)
  | 1 => ("BlockTreeModel", "kept", "I", false)
  | 2 => ("BlockTreeModel", "key", "[J", true)
  | 3 => ("BlockTreeModel", "text", "[J", true)
  | 4 => ("BlockTreeModel", "keptKey", "[J", true)
  | 5 => ("BlockTreeModel", "keptText", "[J", true)
  | 6 => ("BlockTreeModel", "size", "[I", true)
  | 7 => ("BlockTreeModel", "length", "[I", true)
  | 8 => ("BlockTreeModel", "keptSize", "[I", true)
  | 9 => ("BlockTreeModel", "keptLength", "[I", true)
  | 10 => ("BlockTreeModel", "found", "J", false)
  | _ => ("BlockTreeModel", "foundSize", "I", false)
def tyX2 : Nat → FieldType := fun k => match k with
  | 0 => .int
  | 1 => .int
  | 2 => .array .long
  | 3 => .array .long
  | 4 => .array .long
  | 5 => .array .long
  | 6 => .array .int
  | 7 => .array .int
  | 8 => .array .int
  | 9 => .array .int
  | 10 => .long
  | _ => .int
abbrev wsX20 : List Cond := u_ws RX2 TX2 12
theorem nmX2 : ∀ a, a < 12 → ∀ b, b < 12 → a ≠ b → (TX2 a).2.1 ≠ (TX2 b).2.1 := by decide +kernel
theorem tyX2_ok : ∀ k, k < 12 → parseFieldDescriptor (TX2 k).2.2.1 = some (tyX2 k) := by decide +kernel
abbrev cX2_init : ByteArray := prog_4_method_1_code
def yX2_init : MethodName := ⟨RX2, "<init>", "()V"⟩
abbrev cX2_isSize : ByteArray := prog_4_method_2_code
def yX2_isSize : MethodName := ⟨RX2, "isSize", "(I)Z"⟩
abbrev cX2_cut : ByteArray := prog_4_method_3_code
def yX2_cut : MethodName := ⟨RX2, "cut", "(JI)J"⟩
abbrev cX2_at : ByteArray := prog_4_method_4_code
def yX2_at : MethodName := ⟨RX2, "at", "(JII)I"⟩
abbrev cX2_order : ByteArray := prog_4_method_5_code
def yX2_order : MethodName := ⟨RX2, "order", "(JIJI)I"⟩
abbrev cX2_place : ByteArray := prog_4_method_6_code
def yX2_place : MethodName := ⟨RX2, "place", "(JI)I"⟩
abbrev cX2_isAt : ByteArray := prog_4_method_7_code
def yX2_isAt : MethodName := ⟨RX2, "isAt", "(IJI)Z"⟩
abbrev cX2_put : ByteArray := prog_4_method_8_code
def yX2_put : MethodName := ⟨RX2, "put", "(JIJI)Z"⟩
abbrev cX2_remove : ByteArray := prog_4_method_9_code
def yX2_remove : MethodName := ⟨RX2, "remove", "(JI)Z"⟩
def RJ10 : String := "java/lang/System"
def TJ10 : u_T := fun k => match k with
  | _ => ("", "", "", false)
def tyJ10 : Nat → FieldType := fun k => match k with
  | _ => .int
abbrev wsJ100 : List Cond := u_ws RJ10 TJ10 0
theorem nmJ10 : ∀ a, a < 0 → ∀ b, b < 0 → a ≠ b → (TJ10 a).2.1 ≠ (TJ10 b).2.1 := by decide +kernel
theorem tyJ10_ok : ∀ k, k < 0 → parseFieldDescriptor (TJ10 k).2.2.1 = some (tyJ10 k) := by decide +kernel
def RL : String := "BlockTreeLaw"
abbrev cL_law : ByteArray := code
def yL_law : MethodName := ⟨RL, "law", "([I)Z"⟩
def wsX0_init : List Cond := .code yX0_init cX0_init 1 none :: ([.methodLink RX0 3 objectInit, .instanceMethod objectInit, .code objectInit ⟨#[0xb1]⟩ 1 none, .arrayClass .long, .fieldLink RX0 9 "BlockTree$Rows" "heads" "[J", .arrayClass .int, .fieldLink RX0 15 "BlockTree$Rows" "sizes" "[I", .fieldLink RX0 19 "BlockTree$Rows" "texts" "[J", .fieldLink RX0 22 "BlockTree$Rows" "lengths" "[I", .fieldLink RX0 25 "BlockTree$Rows" "used" "I"] ++ wsX00)
def wsX0_has : List Cond := .code yX0_has cX0_has 2 (some .boolean) :: ([.fieldLink RX0 25 "BlockTree$Rows" "used" "I"] ++ wsX00)
def wsX0_holds : List Cond := .code yX0_holds cX0_holds 5 (some .boolean) :: ([.fieldLink RX0 9 "BlockTree$Rows" "heads" "[J", .fieldLink RX0 15 "BlockTree$Rows" "sizes" "[I", .methodLink RX0 29 yX0_has, .instanceMethod yX0_has, .selects RX0 yX0_has yX0_has, .initialized RX0, .code yX0_has cX0_has 2 (some .boolean), .fieldLink RX0 25 "BlockTree$Rows" "used" "I"] ++ wsX00)
def wsX0_isBefore : List Cond := .code yX0_isBefore cX0_isBefore 5 (some .boolean) :: ([.fieldLink RX0 9 "BlockTree$Rows" "heads" "[J", .constantLong RX0 37 (-9223372036854775808), .fieldLink RX0 15 "BlockTree$Rows" "sizes" "[I", .methodLink RX0 29 yX0_has, .instanceMethod yX0_has, .selects RX0 yX0_has yX0_has, .initialized RX0, .code yX0_has cX0_has 2 (some .boolean), .fieldLink RX0 25 "BlockTree$Rows" "used" "I"] ++ wsX00)
def wsX0_firstNotBefore : List Cond := .code yX0_firstNotBefore cX0_firstNotBefore 6 (some .int) :: ([.methodLink RX0 33 yX0_isBefore, .instanceMethod yX0_isBefore, .selects RX0 yX0_isBefore yX0_isBefore, .initialized RX0, .code yX0_isBefore cX0_isBefore 5 (some .boolean), .fieldLink RX0 9 "BlockTree$Rows" "heads" "[J", .constantLong RX0 37 (-9223372036854775808), .fieldLink RX0 15 "BlockTree$Rows" "sizes" "[I", .methodLink RX0 29 yX0_has, .instanceMethod yX0_has, .selects RX0 yX0_has yX0_has, .code yX0_has cX0_has 2 (some .boolean), .fieldLink RX0 25 "BlockTree$Rows" "used" "I"] ++ wsX00)
def wsX0_move : List Cond := .code yX0_move cX0_move 4 none :: ([.fieldLink RX0 9 "BlockTree$Rows" "heads" "[J", .methodLink RX0 53 arraycopyName, .native arraycopyName, .static arraycopyName, .initialized "java/lang/System", .fieldLink RX0 15 "BlockTree$Rows" "sizes" "[I", .fieldLink RX0 19 "BlockTree$Rows" "texts" "[J", .fieldLink RX0 22 "BlockTree$Rows" "lengths" "[I"] ++ wsX00)
def wsX0_makeRoom : List Cond := .code yX0_makeRoom cX0_makeRoom 2 (some .boolean) :: ([.fieldLink RX0 25 "BlockTree$Rows" "used" "I", .methodLink RX0 49 yX0_move, .instanceMethod yX0_move, .selects RX0 yX0_move yX0_move, .initialized RX0, .code yX0_move cX0_move 4 none, .fieldLink RX0 9 "BlockTree$Rows" "heads" "[J", .methodLink RX0 53 arraycopyName, .native arraycopyName, .static arraycopyName, .initialized "java/lang/System", .fieldLink RX0 15 "BlockTree$Rows" "sizes" "[I", .fieldLink RX0 19 "BlockTree$Rows" "texts" "[J", .fieldLink RX0 22 "BlockTree$Rows" "lengths" "[I"] ++ wsX00)
def wsX0_set_r1 : List Cond := [Cond.fieldLink RX0 9 "BlockTree$Rows" "heads" "[J", Cond.fieldLink RX0 15 "BlockTree$Rows" "sizes" "[I", Cond.fieldLink RX0 19 "BlockTree$Rows" "texts" "[J", Cond.fieldLink RX0 22 "BlockTree$Rows" "lengths" "[I", Cond.methodLink RX0 39 yX0_firstNotBefore, Cond.instanceMethod yX0_firstNotBefore, Cond.selects RX0 yX0_firstNotBefore yX0_firstNotBefore, Cond.initialized RX0, Cond.code yX0_firstNotBefore cX0_firstNotBefore 6 (some .int), Cond.methodLink RX0 33 yX0_isBefore, Cond.instanceMethod yX0_isBefore, Cond.selects RX0 yX0_isBefore yX0_isBefore, Cond.code yX0_isBefore cX0_isBefore 5 (some .boolean), Cond.constantLong RX0 37 (-9223372036854775808), Cond.methodLink RX0 29 yX0_has, Cond.instanceMethod yX0_has, Cond.selects RX0 yX0_has yX0_has, Cond.code yX0_has cX0_has 2 (some .boolean), Cond.fieldLink RX0 25 "BlockTree$Rows" "used" "I", Cond.methodLink RX0 43 yX0_holds, Cond.instanceMethod yX0_holds, Cond.selects RX0 yX0_holds yX0_holds, Cond.code yX0_holds cX0_holds 5 (some .boolean), Cond.methodLink RX0 46 yX0_makeRoom]
def wsX0_set_r2 : List Cond := [Cond.instanceMethod yX0_makeRoom, Cond.selects RX0 yX0_makeRoom yX0_makeRoom, Cond.code yX0_makeRoom cX0_makeRoom 2 (some .boolean), Cond.methodLink RX0 49 yX0_move, Cond.instanceMethod yX0_move, Cond.selects RX0 yX0_move yX0_move, Cond.code yX0_move cX0_move 4 none, Cond.methodLink RX0 53 arraycopyName, Cond.native arraycopyName, Cond.static arraycopyName, Cond.initialized "java/lang/System"]
def wsX0_set : List Cond := .code yX0_set cX0_set 8 (some .boolean) :: ((wsX0_set_r1 ++ wsX0_set_r2) ++ wsX00)
def wsX0_drop : List Cond := .code yX0_drop cX0_drop 2 none :: ([.fieldLink RX0 25 "BlockTree$Rows" "used" "I", .methodLink RX0 29 yX0_has, .instanceMethod yX0_has, .selects RX0 yX0_has yX0_has, .initialized RX0, .code yX0_has cX0_has 2 (some .boolean), .methodLink RX0 49 yX0_move, .instanceMethod yX0_move, .selects RX0 yX0_move yX0_move, .code yX0_move cX0_move 4 none, .fieldLink RX0 9 "BlockTree$Rows" "heads" "[J", .methodLink RX0 53 arraycopyName, .native arraycopyName, .static arraycopyName, .initialized "java/lang/System", .fieldLink RX0 15 "BlockTree$Rows" "sizes" "[I", .fieldLink RX0 19 "BlockTree$Rows" "texts" "[J", .fieldLink RX0 22 "BlockTree$Rows" "lengths" "[I"] ++ wsX00)
def wsX0_copyFrom : List Cond := .code yX0_copyFrom cX0_copyFrom 2 none :: ([.fieldLink RX0 9 "BlockTree$Rows" "heads" "[J", .fieldLink RX0 25 "BlockTree$Rows" "used" "I", .methodLink RX0 53 arraycopyName, .native arraycopyName, .static arraycopyName, .initialized "java/lang/System", .fieldLink RX0 15 "BlockTree$Rows" "sizes" "[I", .fieldLink RX0 19 "BlockTree$Rows" "texts" "[J", .fieldLink RX0 22 "BlockTree$Rows" "lengths" "[I"] ++ wsX00)
def wsX1_init : List Cond := .code yX1_init cX1_init 1 none :: ([.methodLink RX1 1 objectInit, .instanceMethod objectInit, .code objectInit ⟨#[0xb1]⟩ 1 none, .classLink RX1 7 RX0, .instantiable RX0 5, .initialized RX0, .fieldLink RX1 10 "BlockTree" "now" "LBlockTree$Rows;", .fieldLink RX1 16 "BlockTree" "kept" "LBlockTree$Rows;", .fieldLink RX1 19 "BlockTree" "hitKey" "J", .fieldLink RX1 23 "BlockTree" "hitSize" "I", .methodLink RX1 9 yX0_init, .instanceMethod yX0_init, .code yX0_init cX0_init 1 none, .methodLink RX0 3 objectInit, .arrayClass .long, .fieldLink RX0 9 "BlockTree$Rows" "heads" "[J", .arrayClass .int, .fieldLink RX0 15 "BlockTree$Rows" "sizes" "[I", .fieldLink RX0 19 "BlockTree$Rows" "texts" "[J", .fieldLink RX0 22 "BlockTree$Rows" "lengths" "[I", .fieldLink RX0 25 "BlockTree$Rows" "used" "I"] ++ wsX00 ++ wsX10)
def wsX1_isKeySize : List Cond := .code yX1_isKeySize cX1_isKeySize 1 (some .boolean) :: ([])
def wsX1_isTextLength : List Cond := .code yX1_isTextLength cX1_isTextLength 1 (some .boolean) :: ([])
def wsX1_unusedBits : List Cond := .code yX1_unusedBits cX1_unusedBits 1 (some .int) :: ([])
def wsX1_headOf : List Cond := .code yX1_headOf cX1_headOf 3 (some .long) :: ([.methodLink RX1 83 yX1_unusedBits, .static yX1_unusedBits, .initialized RX1, .code yX1_unusedBits cX1_unusedBits 1 (some .int)])
def wsX1_lowestBytes : List Cond := .code yX1_lowestBytes cX1_lowestBytes 3 (some .long) :: ([.constantLong RX1 91 (-1), .methodLink RX1 83 yX1_unusedBits, .static yX1_unusedBits, .initialized RX1, .code yX1_unusedBits cX1_unusedBits 1 (some .int)])
def wsX1_put_r1 : List Cond := [Cond.fieldLink RX1 10 "BlockTree" "now" "LBlockTree$Rows;", Cond.methodLink RX1 27 yX1_isKeySize, Cond.static yX1_isKeySize, Cond.initialized RX1, Cond.code yX1_isKeySize cX1_isKeySize 1 (some .boolean), Cond.methodLink RX1 31 yX1_isTextLength, Cond.static yX1_isTextLength, Cond.code yX1_isTextLength cX1_isTextLength 1 (some .boolean), Cond.methodLink RX1 34 yX1_headOf, Cond.static yX1_headOf, Cond.code yX1_headOf cX1_headOf 3 (some .long), Cond.methodLink RX1 83 yX1_unusedBits, Cond.static yX1_unusedBits, Cond.code yX1_unusedBits cX1_unusedBits 1 (some .int), Cond.methodLink RX1 38 yX1_lowestBytes, Cond.static yX1_lowestBytes, Cond.code yX1_lowestBytes cX1_lowestBytes 3 (some .long), Cond.constantLong RX1 91 (-1), Cond.methodLink RX1 41 yX0_set, Cond.instanceMethod yX0_set, Cond.selects RX0 yX0_set yX0_set, Cond.initialized RX0, Cond.code yX0_set cX0_set 8 (some .boolean), Cond.fieldLink RX0 9 "BlockTree$Rows" "heads" "[J"]
def wsX1_put_r2 : List Cond := [Cond.fieldLink RX0 15 "BlockTree$Rows" "sizes" "[I", Cond.fieldLink RX0 19 "BlockTree$Rows" "texts" "[J", Cond.fieldLink RX0 22 "BlockTree$Rows" "lengths" "[I", Cond.methodLink RX0 39 yX0_firstNotBefore, Cond.instanceMethod yX0_firstNotBefore, Cond.selects RX0 yX0_firstNotBefore yX0_firstNotBefore, Cond.code yX0_firstNotBefore cX0_firstNotBefore 6 (some .int), Cond.methodLink RX0 33 yX0_isBefore, Cond.instanceMethod yX0_isBefore, Cond.selects RX0 yX0_isBefore yX0_isBefore, Cond.code yX0_isBefore cX0_isBefore 5 (some .boolean), Cond.constantLong RX0 37 (-9223372036854775808), Cond.methodLink RX0 29 yX0_has, Cond.instanceMethod yX0_has, Cond.selects RX0 yX0_has yX0_has, Cond.code yX0_has cX0_has 2 (some .boolean), Cond.fieldLink RX0 25 "BlockTree$Rows" "used" "I", Cond.methodLink RX0 43 yX0_holds, Cond.instanceMethod yX0_holds, Cond.selects RX0 yX0_holds yX0_holds, Cond.code yX0_holds cX0_holds 5 (some .boolean), Cond.methodLink RX0 46 yX0_makeRoom, Cond.instanceMethod yX0_makeRoom, Cond.selects RX0 yX0_makeRoom yX0_makeRoom]
def wsX1_put_r3 : List Cond := [Cond.code yX0_makeRoom cX0_makeRoom 2 (some .boolean), Cond.methodLink RX0 49 yX0_move, Cond.instanceMethod yX0_move, Cond.selects RX0 yX0_move yX0_move, Cond.code yX0_move cX0_move 4 none, Cond.methodLink RX0 53 arraycopyName, Cond.native arraycopyName, Cond.static arraycopyName, Cond.initialized "java/lang/System"]
def wsX1_put : List Cond := .code yX1_put cX1_put 7 (some .boolean) :: ((wsX1_put_r1 ++ (wsX1_put_r2 ++ wsX1_put_r3)) ++ wsX10 ++ wsX00)
def wsX1_placeOf_r1 : List Cond := [Cond.fieldLink RX1 10 "BlockTree" "now" "LBlockTree$Rows;", Cond.methodLink RX1 27 yX1_isKeySize, Cond.static yX1_isKeySize, Cond.initialized RX1, Cond.code yX1_isKeySize cX1_isKeySize 1 (some .boolean), Cond.methodLink RX1 34 yX1_headOf, Cond.static yX1_headOf, Cond.code yX1_headOf cX1_headOf 3 (some .long), Cond.methodLink RX1 83 yX1_unusedBits, Cond.static yX1_unusedBits, Cond.code yX1_unusedBits cX1_unusedBits 1 (some .int), Cond.methodLink RX1 67 yX0_firstNotBefore, Cond.instanceMethod yX0_firstNotBefore, Cond.selects RX0 yX0_firstNotBefore yX0_firstNotBefore, Cond.initialized RX0, Cond.code yX0_firstNotBefore cX0_firstNotBefore 6 (some .int), Cond.methodLink RX0 33 yX0_isBefore, Cond.instanceMethod yX0_isBefore, Cond.selects RX0 yX0_isBefore yX0_isBefore, Cond.code yX0_isBefore cX0_isBefore 5 (some .boolean), Cond.fieldLink RX0 9 "BlockTree$Rows" "heads" "[J", Cond.constantLong RX0 37 (-9223372036854775808), Cond.fieldLink RX0 15 "BlockTree$Rows" "sizes" "[I", Cond.methodLink RX0 29 yX0_has]
def wsX1_placeOf_r2 : List Cond := [Cond.instanceMethod yX0_has, Cond.selects RX0 yX0_has yX0_has, Cond.code yX0_has cX0_has 2 (some .boolean), Cond.fieldLink RX0 25 "BlockTree$Rows" "used" "I", Cond.methodLink RX1 87 yX0_holds, Cond.instanceMethod yX0_holds, Cond.selects RX0 yX0_holds yX0_holds, Cond.code yX0_holds cX0_holds 5 (some .boolean)]
def wsX1_placeOf : List Cond := .code yX1_placeOf cX1_placeOf 7 (some .int) :: ((wsX1_placeOf_r1 ++ wsX1_placeOf_r2) ++ wsX10 ++ wsX00)
def wsX1_remove_r1 : List Cond := [Cond.fieldLink RX1 10 "BlockTree" "now" "LBlockTree$Rows;", Cond.methodLink RX1 45 yX1_placeOf, Cond.instanceMethod yX1_placeOf, Cond.selects RX1 yX1_placeOf yX1_placeOf, Cond.initialized RX1, Cond.code yX1_placeOf cX1_placeOf 7 (some .int), Cond.methodLink RX1 27 yX1_isKeySize, Cond.static yX1_isKeySize, Cond.code yX1_isKeySize cX1_isKeySize 1 (some .boolean), Cond.methodLink RX1 34 yX1_headOf, Cond.static yX1_headOf, Cond.code yX1_headOf cX1_headOf 3 (some .long), Cond.methodLink RX1 83 yX1_unusedBits, Cond.static yX1_unusedBits, Cond.code yX1_unusedBits cX1_unusedBits 1 (some .int), Cond.methodLink RX1 67 yX0_firstNotBefore, Cond.instanceMethod yX0_firstNotBefore, Cond.selects RX0 yX0_firstNotBefore yX0_firstNotBefore, Cond.initialized RX0, Cond.code yX0_firstNotBefore cX0_firstNotBefore 6 (some .int), Cond.methodLink RX0 33 yX0_isBefore, Cond.instanceMethod yX0_isBefore, Cond.selects RX0 yX0_isBefore yX0_isBefore, Cond.code yX0_isBefore cX0_isBefore 5 (some .boolean)]
def wsX1_remove_r2 : List Cond := [Cond.fieldLink RX0 9 "BlockTree$Rows" "heads" "[J", Cond.constantLong RX0 37 (-9223372036854775808), Cond.fieldLink RX0 15 "BlockTree$Rows" "sizes" "[I", Cond.methodLink RX0 29 yX0_has, Cond.instanceMethod yX0_has, Cond.selects RX0 yX0_has yX0_has, Cond.code yX0_has cX0_has 2 (some .boolean), Cond.fieldLink RX0 25 "BlockTree$Rows" "used" "I", Cond.methodLink RX1 87 yX0_holds, Cond.instanceMethod yX0_holds, Cond.selects RX0 yX0_holds yX0_holds, Cond.code yX0_holds cX0_holds 5 (some .boolean), Cond.methodLink RX1 49 yX0_has, Cond.methodLink RX1 52 yX0_drop, Cond.instanceMethod yX0_drop, Cond.selects RX0 yX0_drop yX0_drop, Cond.code yX0_drop cX0_drop 2 none, Cond.methodLink RX0 49 yX0_move, Cond.instanceMethod yX0_move, Cond.selects RX0 yX0_move yX0_move, Cond.code yX0_move cX0_move 4 none, Cond.methodLink RX0 53 arraycopyName, Cond.native arraycopyName, Cond.static arraycopyName]
def wsX1_remove_r3 : List Cond := [Cond.initialized "java/lang/System", Cond.fieldLink RX0 19 "BlockTree$Rows" "texts" "[J", Cond.fieldLink RX0 22 "BlockTree$Rows" "lengths" "[I"]
def wsX1_remove : List Cond := .code yX1_remove cX1_remove 5 (some .boolean) :: ((wsX1_remove_r1 ++ (wsX1_remove_r2 ++ wsX1_remove_r3)) ++ wsX10 ++ wsX00)
def wsX1_length_r1 : List Cond := [Cond.fieldLink RX1 10 "BlockTree" "now" "LBlockTree$Rows;", Cond.fieldLink RX1 56 "BlockTree$Rows" "lengths" "[I", Cond.methodLink RX1 45 yX1_placeOf, Cond.instanceMethod yX1_placeOf, Cond.selects RX1 yX1_placeOf yX1_placeOf, Cond.initialized RX1, Cond.code yX1_placeOf cX1_placeOf 7 (some .int), Cond.methodLink RX1 27 yX1_isKeySize, Cond.static yX1_isKeySize, Cond.code yX1_isKeySize cX1_isKeySize 1 (some .boolean), Cond.methodLink RX1 34 yX1_headOf, Cond.static yX1_headOf, Cond.code yX1_headOf cX1_headOf 3 (some .long), Cond.methodLink RX1 83 yX1_unusedBits, Cond.static yX1_unusedBits, Cond.code yX1_unusedBits cX1_unusedBits 1 (some .int), Cond.methodLink RX1 67 yX0_firstNotBefore, Cond.instanceMethod yX0_firstNotBefore, Cond.selects RX0 yX0_firstNotBefore yX0_firstNotBefore, Cond.initialized RX0, Cond.code yX0_firstNotBefore cX0_firstNotBefore 6 (some .int), Cond.methodLink RX0 33 yX0_isBefore, Cond.instanceMethod yX0_isBefore, Cond.selects RX0 yX0_isBefore yX0_isBefore]
def wsX1_length_r2 : List Cond := [Cond.code yX0_isBefore cX0_isBefore 5 (some .boolean), Cond.fieldLink RX0 9 "BlockTree$Rows" "heads" "[J", Cond.constantLong RX0 37 (-9223372036854775808), Cond.fieldLink RX0 15 "BlockTree$Rows" "sizes" "[I", Cond.methodLink RX0 29 yX0_has, Cond.instanceMethod yX0_has, Cond.selects RX0 yX0_has yX0_has, Cond.code yX0_has cX0_has 2 (some .boolean), Cond.fieldLink RX0 25 "BlockTree$Rows" "used" "I", Cond.methodLink RX1 87 yX0_holds, Cond.instanceMethod yX0_holds, Cond.selects RX0 yX0_holds yX0_holds, Cond.code yX0_holds cX0_holds 5 (some .boolean), Cond.methodLink RX1 49 yX0_has]
def wsX1_length : List Cond := .code yX1_length cX1_length 5 (some .int) :: ((wsX1_length_r1 ++ wsX1_length_r2) ++ wsX10 ++ wsX00)
def wsX1_text_r1 : List Cond := [Cond.fieldLink RX1 10 "BlockTree" "now" "LBlockTree$Rows;", Cond.fieldLink RX1 60 "BlockTree$Rows" "texts" "[J", Cond.methodLink RX1 45 yX1_placeOf, Cond.instanceMethod yX1_placeOf, Cond.selects RX1 yX1_placeOf yX1_placeOf, Cond.initialized RX1, Cond.code yX1_placeOf cX1_placeOf 7 (some .int), Cond.methodLink RX1 27 yX1_isKeySize, Cond.static yX1_isKeySize, Cond.code yX1_isKeySize cX1_isKeySize 1 (some .boolean), Cond.methodLink RX1 34 yX1_headOf, Cond.static yX1_headOf, Cond.code yX1_headOf cX1_headOf 3 (some .long), Cond.methodLink RX1 83 yX1_unusedBits, Cond.static yX1_unusedBits, Cond.code yX1_unusedBits cX1_unusedBits 1 (some .int), Cond.methodLink RX1 67 yX0_firstNotBefore, Cond.instanceMethod yX0_firstNotBefore, Cond.selects RX0 yX0_firstNotBefore yX0_firstNotBefore, Cond.initialized RX0, Cond.code yX0_firstNotBefore cX0_firstNotBefore 6 (some .int), Cond.methodLink RX0 33 yX0_isBefore, Cond.instanceMethod yX0_isBefore, Cond.selects RX0 yX0_isBefore yX0_isBefore]
def wsX1_text_r2 : List Cond := [Cond.code yX0_isBefore cX0_isBefore 5 (some .boolean), Cond.fieldLink RX0 9 "BlockTree$Rows" "heads" "[J", Cond.constantLong RX0 37 (-9223372036854775808), Cond.fieldLink RX0 15 "BlockTree$Rows" "sizes" "[I", Cond.methodLink RX0 29 yX0_has, Cond.instanceMethod yX0_has, Cond.selects RX0 yX0_has yX0_has, Cond.code yX0_has cX0_has 2 (some .boolean), Cond.fieldLink RX0 25 "BlockTree$Rows" "used" "I", Cond.methodLink RX1 87 yX0_holds, Cond.instanceMethod yX0_holds, Cond.selects RX0 yX0_holds yX0_holds, Cond.code yX0_holds cX0_holds 5 (some .boolean), Cond.methodLink RX1 49 yX0_has]
def wsX1_text : List Cond := .code yX1_text cX1_text 5 (some .long) :: ((wsX1_text_r1 ++ wsX1_text_r2) ++ wsX10 ++ wsX00)
def wsX1_noteFound : List Cond := .code yX1_noteFound cX1_noteFound 2 (some .boolean) :: ([.fieldLink RX1 10 "BlockTree" "now" "LBlockTree$Rows;", .fieldLink RX1 19 "BlockTree" "hitKey" "J", .fieldLink RX1 23 "BlockTree" "hitSize" "I", .fieldLink RX1 77 "BlockTree$Rows" "sizes" "[I", .fieldLink RX1 80 "BlockTree$Rows" "heads" "[J", .methodLink RX1 49 yX0_has, .instanceMethod yX0_has, .selects RX0 yX0_has yX0_has, .initialized RX0, .code yX0_has cX0_has 2 (some .boolean), .fieldLink RX0 25 "BlockTree$Rows" "used" "I", .methodLink RX1 83 yX1_unusedBits, .static yX1_unusedBits, .initialized RX1, .code yX1_unusedBits cX1_unusedBits 1 (some .int)] ++ wsX10 ++ wsX00)
def wsX1_seek_r1 : List Cond := [Cond.fieldLink RX1 10 "BlockTree" "now" "LBlockTree$Rows;", Cond.methodLink RX1 27 yX1_isKeySize, Cond.static yX1_isKeySize, Cond.initialized RX1, Cond.code yX1_isKeySize cX1_isKeySize 1 (some .boolean), Cond.methodLink RX1 64 yX1_noteFound, Cond.instanceMethod yX1_noteFound, Cond.selects RX1 yX1_noteFound yX1_noteFound, Cond.code yX1_noteFound cX1_noteFound 2 (some .boolean), Cond.fieldLink RX1 19 "BlockTree" "hitKey" "J", Cond.fieldLink RX1 23 "BlockTree" "hitSize" "I", Cond.fieldLink RX1 77 "BlockTree$Rows" "sizes" "[I", Cond.fieldLink RX1 80 "BlockTree$Rows" "heads" "[J", Cond.methodLink RX1 49 yX0_has, Cond.instanceMethod yX0_has, Cond.selects RX0 yX0_has yX0_has, Cond.initialized RX0, Cond.code yX0_has cX0_has 2 (some .boolean), Cond.fieldLink RX0 25 "BlockTree$Rows" "used" "I", Cond.methodLink RX1 83 yX1_unusedBits, Cond.static yX1_unusedBits, Cond.code yX1_unusedBits cX1_unusedBits 1 (some .int), Cond.methodLink RX1 34 yX1_headOf, Cond.static yX1_headOf]
def wsX1_seek_r2 : List Cond := [Cond.code yX1_headOf cX1_headOf 3 (some .long), Cond.methodLink RX1 67 yX0_firstNotBefore, Cond.instanceMethod yX0_firstNotBefore, Cond.selects RX0 yX0_firstNotBefore yX0_firstNotBefore, Cond.code yX0_firstNotBefore cX0_firstNotBefore 6 (some .int), Cond.methodLink RX0 33 yX0_isBefore, Cond.instanceMethod yX0_isBefore, Cond.selects RX0 yX0_isBefore yX0_isBefore, Cond.code yX0_isBefore cX0_isBefore 5 (some .boolean), Cond.fieldLink RX0 9 "BlockTree$Rows" "heads" "[J", Cond.constantLong RX0 37 (-9223372036854775808), Cond.fieldLink RX0 15 "BlockTree$Rows" "sizes" "[I", Cond.methodLink RX0 29 yX0_has]
def wsX1_seek : List Cond := .code yX1_seek cX1_seek 4 (some .boolean) :: ((wsX1_seek_r1 ++ wsX1_seek_r2) ++ wsX10 ++ wsX00)
def wsX1_before_r1 : List Cond := [Cond.fieldLink RX1 10 "BlockTree" "now" "LBlockTree$Rows;", Cond.methodLink RX1 27 yX1_isKeySize, Cond.static yX1_isKeySize, Cond.initialized RX1, Cond.code yX1_isKeySize cX1_isKeySize 1 (some .boolean), Cond.methodLink RX1 64 yX1_noteFound, Cond.instanceMethod yX1_noteFound, Cond.selects RX1 yX1_noteFound yX1_noteFound, Cond.code yX1_noteFound cX1_noteFound 2 (some .boolean), Cond.fieldLink RX1 19 "BlockTree" "hitKey" "J", Cond.fieldLink RX1 23 "BlockTree" "hitSize" "I", Cond.fieldLink RX1 77 "BlockTree$Rows" "sizes" "[I", Cond.fieldLink RX1 80 "BlockTree$Rows" "heads" "[J", Cond.methodLink RX1 49 yX0_has, Cond.instanceMethod yX0_has, Cond.selects RX0 yX0_has yX0_has, Cond.initialized RX0, Cond.code yX0_has cX0_has 2 (some .boolean), Cond.fieldLink RX0 25 "BlockTree$Rows" "used" "I", Cond.methodLink RX1 83 yX1_unusedBits, Cond.static yX1_unusedBits, Cond.code yX1_unusedBits cX1_unusedBits 1 (some .int), Cond.methodLink RX1 34 yX1_headOf, Cond.static yX1_headOf]
def wsX1_before_r2 : List Cond := [Cond.code yX1_headOf cX1_headOf 3 (some .long), Cond.methodLink RX1 67 yX0_firstNotBefore, Cond.instanceMethod yX0_firstNotBefore, Cond.selects RX0 yX0_firstNotBefore yX0_firstNotBefore, Cond.code yX0_firstNotBefore cX0_firstNotBefore 6 (some .int), Cond.methodLink RX0 33 yX0_isBefore, Cond.instanceMethod yX0_isBefore, Cond.selects RX0 yX0_isBefore yX0_isBefore, Cond.code yX0_isBefore cX0_isBefore 5 (some .boolean), Cond.fieldLink RX0 9 "BlockTree$Rows" "heads" "[J", Cond.constantLong RX0 37 (-9223372036854775808), Cond.fieldLink RX0 15 "BlockTree$Rows" "sizes" "[I", Cond.methodLink RX0 29 yX0_has]
def wsX1_before : List Cond := .code yX1_before cX1_before 4 (some .boolean) :: ((wsX1_before_r1 ++ wsX1_before_r2) ++ wsX10 ++ wsX00)
def wsX1_foundSize : List Cond := .code yX1_foundSize cX1_foundSize 1 (some .int) :: ([.fieldLink RX1 23 "BlockTree" "hitSize" "I"] ++ wsX10)
def wsX1_found : List Cond := .code yX1_found cX1_found 1 (some .long) :: ([.fieldLink RX1 19 "BlockTree" "hitKey" "J"] ++ wsX10)
def wsX1_count : List Cond := .code yX1_count cX1_count 1 (some .int) :: ([.fieldLink RX1 10 "BlockTree" "now" "LBlockTree$Rows;", .fieldLink RX1 70 "BlockTree$Rows" "used" "I"] ++ wsX10 ++ wsX00)
def wsX1_commit : List Cond := .code yX1_commit cX1_commit 1 none :: ([.fieldLink RX1 16 "BlockTree" "kept" "LBlockTree$Rows;", .fieldLink RX1 10 "BlockTree" "now" "LBlockTree$Rows;", .methodLink RX1 73 yX0_copyFrom, .instanceMethod yX0_copyFrom, .selects RX0 yX0_copyFrom yX0_copyFrom, .initialized RX0, .code yX0_copyFrom cX0_copyFrom 2 none, .fieldLink RX0 9 "BlockTree$Rows" "heads" "[J", .fieldLink RX0 25 "BlockTree$Rows" "used" "I", .methodLink RX0 53 arraycopyName, .native arraycopyName, .static arraycopyName, .initialized "java/lang/System", .fieldLink RX0 15 "BlockTree$Rows" "sizes" "[I", .fieldLink RX0 19 "BlockTree$Rows" "texts" "[J", .fieldLink RX0 22 "BlockTree$Rows" "lengths" "[I"] ++ wsX10 ++ wsX00)
def wsX1_revert : List Cond := .code yX1_revert cX1_revert 1 none :: ([.fieldLink RX1 10 "BlockTree" "now" "LBlockTree$Rows;", .fieldLink RX1 16 "BlockTree" "kept" "LBlockTree$Rows;", .methodLink RX1 73 yX0_copyFrom, .instanceMethod yX0_copyFrom, .selects RX0 yX0_copyFrom yX0_copyFrom, .initialized RX0, .code yX0_copyFrom cX0_copyFrom 2 none, .fieldLink RX0 9 "BlockTree$Rows" "heads" "[J", .fieldLink RX0 25 "BlockTree$Rows" "used" "I", .methodLink RX0 53 arraycopyName, .native arraycopyName, .static arraycopyName, .initialized "java/lang/System", .fieldLink RX0 15 "BlockTree$Rows" "sizes" "[I", .fieldLink RX0 19 "BlockTree$Rows" "texts" "[J", .fieldLink RX0 22 "BlockTree$Rows" "lengths" "[I"] ++ wsX10 ++ wsX00)
def wsX2_init : List Cond := .code yX2_init cX2_init 1 none :: ([.methodLink RX2 1 objectInit, .instanceMethod objectInit, .code objectInit ⟨#[0xb1]⟩ 1 none, .arrayClass .long, .fieldLink RX2 7 "BlockTreeModel" "key" "[J", .fieldLink RX2 13 "BlockTreeModel" "text" "[J", .fieldLink RX2 16 "BlockTreeModel" "keptKey" "[J", .fieldLink RX2 19 "BlockTreeModel" "keptText" "[J", .arrayClass .int, .fieldLink RX2 22 "BlockTreeModel" "size" "[I", .fieldLink RX2 26 "BlockTreeModel" "length" "[I", .fieldLink RX2 29 "BlockTreeModel" "keptSize" "[I", .fieldLink RX2 32 "BlockTreeModel" "keptLength" "[I"] ++ wsX20)
def wsX2_isSize : List Cond := .code yX2_isSize cX2_isSize 1 (some .boolean) :: ([])
def wsX2_cut : List Cond := .code yX2_cut cX2_cut 3 (some .long) :: ([])
def wsX2_at : List Cond := .code yX2_at cX2_at 4 (some .int) :: ([.constantLong RX2 35 (255)])
def wsX2_order : List Cond := .code yX2_order cX2_order 8 (some .int) :: ([.methodLink RX2 37 yX2_at, .static yX2_at, .initialized RX2, .code yX2_at cX2_at 4 (some .int), .constantLong RX2 35 (255)])
def wsX2_place : List Cond := .code yX2_place cX2_place 5 (some .int) :: ([.fieldLink RX2 41 "BlockTreeModel" "many" "I", .fieldLink RX2 7 "BlockTreeModel" "key" "[J", .fieldLink RX2 22 "BlockTreeModel" "size" "[I", .methodLink RX2 45 yX2_order, .static yX2_order, .initialized RX2, .code yX2_order cX2_order 8 (some .int), .methodLink RX2 37 yX2_at, .static yX2_at, .code yX2_at cX2_at 4 (some .int), .constantLong RX2 35 (255)] ++ wsX20)
def wsX2_isAt : List Cond := .code yX2_isAt cX2_isAt 5 (some .boolean) :: ([.fieldLink RX2 41 "BlockTreeModel" "many" "I", .fieldLink RX2 7 "BlockTreeModel" "key" "[J", .fieldLink RX2 22 "BlockTreeModel" "size" "[I", .methodLink RX2 45 yX2_order, .static yX2_order, .initialized RX2, .code yX2_order cX2_order 8 (some .int), .methodLink RX2 37 yX2_at, .static yX2_at, .code yX2_at cX2_at 4 (some .int), .constantLong RX2 35 (255)] ++ wsX20)
def wsX2_put_r1 : List Cond := [Cond.fieldLink RX2 41 "BlockTreeModel" "many" "I", Cond.fieldLink RX2 7 "BlockTreeModel" "key" "[J", Cond.fieldLink RX2 22 "BlockTreeModel" "size" "[I", Cond.fieldLink RX2 13 "BlockTreeModel" "text" "[J", Cond.fieldLink RX2 26 "BlockTreeModel" "length" "[I", Cond.methodLink RX2 49 yX2_isSize, Cond.static yX2_isSize, Cond.initialized RX2, Cond.code yX2_isSize cX2_isSize 1 (some .boolean), Cond.methodLink RX2 53 yX2_place, Cond.instanceMethod yX2_place, Cond.selects RX2 yX2_place yX2_place, Cond.code yX2_place cX2_place 5 (some .int), Cond.methodLink RX2 45 yX2_order, Cond.static yX2_order, Cond.code yX2_order cX2_order 8 (some .int), Cond.methodLink RX2 37 yX2_at, Cond.static yX2_at, Cond.code yX2_at cX2_at 4 (some .int), Cond.constantLong RX2 35 (255), Cond.methodLink RX2 57 yX2_isAt, Cond.instanceMethod yX2_isAt, Cond.selects RX2 yX2_isAt yX2_isAt, Cond.code yX2_isAt cX2_isAt 5 (some .boolean)]
def wsX2_put_r2 : List Cond := [Cond.methodLink RX2 61 yX2_cut, Cond.static yX2_cut, Cond.code yX2_cut cX2_cut 3 (some .long)]
def wsX2_put : List Cond := .code yX2_put cX2_put 9 (some .boolean) :: ((wsX2_put_r1 ++ wsX2_put_r2) ++ wsX20)
def wsX2_remove : List Cond := .code yX2_remove cX2_remove 6 (some .boolean) :: ([.fieldLink RX2 41 "BlockTreeModel" "many" "I", .fieldLink RX2 7 "BlockTreeModel" "key" "[J", .fieldLink RX2 22 "BlockTreeModel" "size" "[I", .fieldLink RX2 13 "BlockTreeModel" "text" "[J", .fieldLink RX2 26 "BlockTreeModel" "length" "[I", .methodLink RX2 49 yX2_isSize, .static yX2_isSize, .initialized RX2, .code yX2_isSize cX2_isSize 1 (some .boolean), .methodLink RX2 53 yX2_place, .instanceMethod yX2_place, .selects RX2 yX2_place yX2_place, .code yX2_place cX2_place 5 (some .int), .methodLink RX2 45 yX2_order, .static yX2_order, .code yX2_order cX2_order 8 (some .int), .methodLink RX2 37 yX2_at, .static yX2_at, .code yX2_at cX2_at 4 (some .int), .constantLong RX2 35 (255), .methodLink RX2 57 yX2_isAt, .instanceMethod yX2_isAt, .selects RX2 yX2_isAt yX2_isAt, .code yX2_isAt cX2_isAt 5 (some .boolean)] ++ wsX20)
def wsL_law_r1 : List Cond := [Cond.classLink RL 7 RX1, Cond.instantiable RX1 4, Cond.initialized RX1, Cond.classLink RL 10 RX2, Cond.instantiable RX2 12, Cond.initialized RX2, Cond.methodLink RL 9 yX1_init, Cond.instanceMethod yX1_init, Cond.code yX1_init cX1_init 1 none, Cond.methodLink RX1 1 objectInit, Cond.instanceMethod objectInit, Cond.code objectInit ⟨#[0xb1]⟩ 1 none, Cond.classLink RX1 7 RX0, Cond.instantiable RX0 5, Cond.initialized RX0, Cond.fieldLink RX1 10 "BlockTree" "now" "LBlockTree$Rows;", Cond.fieldLink RX1 16 "BlockTree" "kept" "LBlockTree$Rows;", Cond.fieldLink RX1 19 "BlockTree" "hitKey" "J", Cond.fieldLink RX1 23 "BlockTree" "hitSize" "I", Cond.methodLink RX1 9 yX0_init, Cond.instanceMethod yX0_init, Cond.code yX0_init cX0_init 1 none, Cond.methodLink RX0 3 objectInit, Cond.arrayClass .long]
def wsL_law_r2 : List Cond := [Cond.fieldLink RX0 9 "BlockTree$Rows" "heads" "[J", Cond.arrayClass .int, Cond.fieldLink RX0 15 "BlockTree$Rows" "sizes" "[I", Cond.fieldLink RX0 19 "BlockTree$Rows" "texts" "[J", Cond.fieldLink RX0 22 "BlockTree$Rows" "lengths" "[I", Cond.fieldLink RX0 25 "BlockTree$Rows" "used" "I", Cond.methodLink RL 12 yX2_init, Cond.instanceMethod yX2_init, Cond.code yX2_init cX2_init 1 none, Cond.methodLink RX2 1 objectInit, Cond.fieldLink RX2 7 "BlockTreeModel" "key" "[J", Cond.fieldLink RX2 13 "BlockTreeModel" "text" "[J", Cond.fieldLink RX2 16 "BlockTreeModel" "keptKey" "[J", Cond.fieldLink RX2 19 "BlockTreeModel" "keptText" "[J", Cond.fieldLink RX2 22 "BlockTreeModel" "size" "[I", Cond.fieldLink RX2 26 "BlockTreeModel" "length" "[I", Cond.fieldLink RX2 29 "BlockTreeModel" "keptSize" "[I", Cond.fieldLink RX2 32 "BlockTreeModel" "keptLength" "[I", Cond.methodLink RL 15 yX1_put, Cond.instanceMethod yX1_put, Cond.selects RX1 yX1_put yX1_put, Cond.code yX1_put cX1_put 7 (some .boolean), Cond.methodLink RX1 27 yX1_isKeySize, Cond.static yX1_isKeySize]
def wsL_law_r3 : List Cond := [Cond.code yX1_isKeySize cX1_isKeySize 1 (some .boolean), Cond.methodLink RX1 31 yX1_isTextLength, Cond.static yX1_isTextLength, Cond.code yX1_isTextLength cX1_isTextLength 1 (some .boolean), Cond.methodLink RX1 34 yX1_headOf, Cond.static yX1_headOf, Cond.code yX1_headOf cX1_headOf 3 (some .long), Cond.methodLink RX1 83 yX1_unusedBits, Cond.static yX1_unusedBits, Cond.code yX1_unusedBits cX1_unusedBits 1 (some .int), Cond.methodLink RX1 38 yX1_lowestBytes, Cond.static yX1_lowestBytes, Cond.code yX1_lowestBytes cX1_lowestBytes 3 (some .long), Cond.constantLong RX1 91 (-1), Cond.methodLink RX1 41 yX0_set, Cond.instanceMethod yX0_set, Cond.selects RX0 yX0_set yX0_set, Cond.code yX0_set cX0_set 8 (some .boolean), Cond.methodLink RX0 39 yX0_firstNotBefore, Cond.instanceMethod yX0_firstNotBefore, Cond.selects RX0 yX0_firstNotBefore yX0_firstNotBefore, Cond.code yX0_firstNotBefore cX0_firstNotBefore 6 (some .int), Cond.methodLink RX0 33 yX0_isBefore, Cond.instanceMethod yX0_isBefore]
def wsL_law_r4 : List Cond := [Cond.selects RX0 yX0_isBefore yX0_isBefore, Cond.code yX0_isBefore cX0_isBefore 5 (some .boolean), Cond.constantLong RX0 37 (-9223372036854775808), Cond.methodLink RX0 29 yX0_has, Cond.instanceMethod yX0_has, Cond.selects RX0 yX0_has yX0_has, Cond.code yX0_has cX0_has 2 (some .boolean), Cond.methodLink RX0 43 yX0_holds, Cond.instanceMethod yX0_holds, Cond.selects RX0 yX0_holds yX0_holds, Cond.code yX0_holds cX0_holds 5 (some .boolean), Cond.methodLink RX0 46 yX0_makeRoom, Cond.instanceMethod yX0_makeRoom, Cond.selects RX0 yX0_makeRoom yX0_makeRoom, Cond.code yX0_makeRoom cX0_makeRoom 2 (some .boolean), Cond.methodLink RX0 49 yX0_move, Cond.instanceMethod yX0_move, Cond.selects RX0 yX0_move yX0_move, Cond.code yX0_move cX0_move 4 none, Cond.methodLink RX0 53 arraycopyName, Cond.native arraycopyName, Cond.static arraycopyName, Cond.initialized "java/lang/System", Cond.methodLink RL 19 yX2_put]
def wsL_law_r5 : List Cond := [Cond.instanceMethod yX2_put, Cond.selects RX2 yX2_put yX2_put, Cond.code yX2_put cX2_put 9 (some .boolean), Cond.fieldLink RX2 41 "BlockTreeModel" "many" "I", Cond.methodLink RX2 49 yX2_isSize, Cond.static yX2_isSize, Cond.code yX2_isSize cX2_isSize 1 (some .boolean), Cond.methodLink RX2 53 yX2_place, Cond.instanceMethod yX2_place, Cond.selects RX2 yX2_place yX2_place, Cond.code yX2_place cX2_place 5 (some .int), Cond.methodLink RX2 45 yX2_order, Cond.static yX2_order, Cond.code yX2_order cX2_order 8 (some .int), Cond.methodLink RX2 37 yX2_at, Cond.static yX2_at, Cond.code yX2_at cX2_at 4 (some .int), Cond.constantLong RX2 35 (255), Cond.methodLink RX2 57 yX2_isAt, Cond.instanceMethod yX2_isAt, Cond.selects RX2 yX2_isAt yX2_isAt, Cond.code yX2_isAt cX2_isAt 5 (some .boolean), Cond.methodLink RX2 61 yX2_cut, Cond.static yX2_cut]
def wsL_law_r6 : List Cond := [Cond.code yX2_cut cX2_cut 3 (some .long), Cond.methodLink RL 20 yX1_remove, Cond.instanceMethod yX1_remove, Cond.selects RX1 yX1_remove yX1_remove, Cond.code yX1_remove cX1_remove 5 (some .boolean), Cond.methodLink RX1 45 yX1_placeOf, Cond.instanceMethod yX1_placeOf, Cond.selects RX1 yX1_placeOf yX1_placeOf, Cond.code yX1_placeOf cX1_placeOf 7 (some .int), Cond.methodLink RX1 67 yX0_firstNotBefore, Cond.methodLink RX1 87 yX0_holds, Cond.methodLink RX1 49 yX0_has, Cond.methodLink RX1 52 yX0_drop, Cond.instanceMethod yX0_drop, Cond.selects RX0 yX0_drop yX0_drop, Cond.code yX0_drop cX0_drop 2 none, Cond.methodLink RL 24 yX2_remove, Cond.instanceMethod yX2_remove, Cond.selects RX2 yX2_remove yX2_remove, Cond.code yX2_remove cX2_remove 6 (some .boolean), Cond.methodLink RL 25 yX1_length, Cond.instanceMethod yX1_length, Cond.selects RX1 yX1_length yX1_length, Cond.code yX1_length cX1_length 5 (some .int)]
def wsL_law_r7 : List Cond := [Cond.fieldLink RX1 56 "BlockTree$Rows" "lengths" "[I", Cond.methodLink RL 30 yX1_text, Cond.instanceMethod yX1_text, Cond.selects RX1 yX1_text yX1_text, Cond.code yX1_text cX1_text 5 (some .long), Cond.fieldLink RX1 60 "BlockTree$Rows" "texts" "[J", Cond.methodLink RL 35 yX1_seek, Cond.instanceMethod yX1_seek, Cond.selects RX1 yX1_seek yX1_seek, Cond.code yX1_seek cX1_seek 4 (some .boolean), Cond.methodLink RX1 64 yX1_noteFound, Cond.instanceMethod yX1_noteFound, Cond.selects RX1 yX1_noteFound yX1_noteFound, Cond.code yX1_noteFound cX1_noteFound 2 (some .boolean), Cond.fieldLink RX1 77 "BlockTree$Rows" "sizes" "[I", Cond.fieldLink RX1 80 "BlockTree$Rows" "heads" "[J", Cond.methodLink RL 39 yX1_before, Cond.instanceMethod yX1_before, Cond.selects RX1 yX1_before yX1_before, Cond.code yX1_before cX1_before 4 (some .boolean), Cond.methodLink RL 43 yX1_foundSize, Cond.instanceMethod yX1_foundSize, Cond.selects RX1 yX1_foundSize yX1_foundSize, Cond.code yX1_foundSize cX1_foundSize 1 (some .int)]
def wsL_law_r8 : List Cond := [Cond.methodLink RL 48 yX1_found, Cond.instanceMethod yX1_found, Cond.selects RX1 yX1_found yX1_found, Cond.code yX1_found cX1_found 1 (some .long), Cond.methodLink RL 53 yX1_count, Cond.instanceMethod yX1_count, Cond.selects RX1 yX1_count yX1_count, Cond.code yX1_count cX1_count 1 (some .int), Cond.fieldLink RX1 70 "BlockTree$Rows" "used" "I", Cond.methodLink RL 57 yX1_commit, Cond.instanceMethod yX1_commit, Cond.selects RX1 yX1_commit yX1_commit, Cond.code yX1_commit cX1_commit 1 none, Cond.methodLink RX1 73 yX0_copyFrom, Cond.instanceMethod yX0_copyFrom, Cond.selects RX0 yX0_copyFrom yX0_copyFrom, Cond.code yX0_copyFrom cX0_copyFrom 2 none, Cond.methodLink RL 61 yX1_revert, Cond.instanceMethod yX1_revert, Cond.selects RX1 yX1_revert yX1_revert, Cond.code yX1_revert cX1_revert 1 none]
def wsL_law : List Cond := (wsL_law_r1 ++ (wsL_law_r2 ++ (wsL_law_r3 ++ (wsL_law_r4 ++ (wsL_law_r5 ++ (wsL_law_r6 ++ (wsL_law_r7 ++ wsL_law_r8))))))) ++ wsX10 ++ wsX20 ++ wsX00 ++ ([] : List Cond)
set_option maxRecDepth 20000 in
theorem wsL_law_in : ∀ w ∈ wsL_law, w ∈ lw_tbl := fun w h => (goodIn_p wsL_law [14, 17, 22, 175, 63, 66, 69, 72, 75, 78, 83, 87, 91, 95, 100, 104, 108, 217, 220, 224, 227, 230, 235, 238, 115, 119, 126, 242, 130, 134, 138, 142, 146, 150, 154, 158, 162, 166, 170] (by decide +kernel) (by decide +kernel) w h).1
theorem inlX0 : ∀ w ∈ wsX00, w ∈ wsL_law := fun _ h => List.mem_append_left _ (List.mem_append_right _ h)
theorem inX0 : ∀ w ∈ wsX00, w ∈ lw_tbl := fun w h => wsL_law_in w (inlX0 w h)
theorem inlX1 : ∀ w ∈ wsX10, w ∈ wsL_law := fun _ h => List.mem_append_left _ (List.mem_append_left _ (List.mem_append_left _ (List.mem_append_right _ h)))
theorem inX1 : ∀ w ∈ wsX10, w ∈ lw_tbl := fun w h => wsL_law_in w (inlX1 w h)
theorem inlX2 : ∀ w ∈ wsX20, w ∈ wsL_law := fun _ h => List.mem_append_left _ (List.mem_append_left _ (List.mem_append_right _ h))
theorem inX2 : ∀ w ∈ wsX20, w ∈ lw_tbl := fun w h => wsL_law_in w (inlX2 w h)
theorem inJ10 : ∀ w ∈ wsJ100, w ∈ lw_tbl := by decide +kernel
theorem dX0_init_0 : decode cX0_init 0 = .ok (.aload_n 0, 1) := by decide +kernel
theorem dX0_init_1 : decode cX0_init 1 = .ok (.invokespecial 3, 3) := by decide +kernel
theorem dX0_init_4 : decode cX0_init 4 = .ok (.aload_n 0, 1) := by decide +kernel
theorem dX0_init_5 : decode cX0_init 5 = .ok (.sipush 150, 3) := by decide +kernel
theorem dX0_init_8 : decode cX0_init 8 = .ok (.newarray .long, 2) := by decide +kernel
theorem dX0_init_10 : decode cX0_init 10 = .ok (.putfield 9, 3) := by decide +kernel
theorem dX0_init_13 : decode cX0_init 13 = .ok (.aload_n 0, 1) := by decide +kernel
theorem dX0_init_14 : decode cX0_init 14 = .ok (.sipush 150, 3) := by decide +kernel
theorem dX0_init_17 : decode cX0_init 17 = .ok (.newarray .int, 2) := by decide +kernel
theorem dX0_init_19 : decode cX0_init 19 = .ok (.putfield 15, 3) := by decide +kernel
theorem dX0_init_22 : decode cX0_init 22 = .ok (.aload_n 0, 1) := by decide +kernel
theorem dX0_init_23 : decode cX0_init 23 = .ok (.sipush 150, 3) := by decide +kernel
theorem dX0_init_26 : decode cX0_init 26 = .ok (.newarray .long, 2) := by decide +kernel
theorem dX0_init_28 : decode cX0_init 28 = .ok (.putfield 19, 3) := by decide +kernel
theorem dX0_init_31 : decode cX0_init 31 = .ok (.aload_n 0, 1) := by decide +kernel
theorem dX0_init_32 : decode cX0_init 32 = .ok (.sipush 150, 3) := by decide +kernel
theorem dX0_init_35 : decode cX0_init 35 = .ok (.newarray .int, 2) := by decide +kernel
theorem dX0_init_37 : decode cX0_init 37 = .ok (.putfield 22, 3) := by decide +kernel
theorem dX0_init_40 : decode cX0_init 40 = .ok (.aload_n 0, 1) := by decide +kernel
theorem dX0_init_41 : decode cX0_init 41 = .ok (.iconst 0, 1) := by decide +kernel
theorem dX0_init_42 : decode cX0_init 42 = .ok (.putfield 25, 3) := by decide +kernel
theorem dX0_init_45 : decode cX0_init 45 = .ok (.return_, 1) := by decide +kernel
theorem dX0_has_0 : decode cX0_has 0 = .ok (.iload_n 1, 1) := by decide +kernel
theorem dX0_has_1 : decode cX0_has 1 = .ok (.ifCond .lt 15, 3) := by decide +kernel
theorem dX0_has_4 : decode cX0_has 4 = .ok (.iload_n 1, 1) := by decide +kernel
theorem dX0_has_5 : decode cX0_has 5 = .ok (.aload_n 0, 1) := by decide +kernel
theorem dX0_has_6 : decode cX0_has 6 = .ok (.getfield 25, 3) := by decide +kernel
theorem dX0_has_9 : decode cX0_has 9 = .ok (.if_icmp .ge 7, 3) := by decide +kernel
theorem dX0_has_12 : decode cX0_has 12 = .ok (.iconst 1, 1) := by decide +kernel
theorem dX0_has_13 : decode cX0_has 13 = .ok (.goto 4, 3) := by decide +kernel
theorem dX0_has_16 : decode cX0_has 16 = .ok (.iconst 0, 1) := by decide +kernel
theorem dX0_has_17 : decode cX0_has 17 = .ok (.ireturn, 1) := by decide +kernel
set_option maxRecDepth 20000 in
theorem ggX0_holds_X0_has : GoodIn wsX0_holds wsX0_has := goodIn_r _ [7, 8, 9, 10, 11, 12, 13] (by decide +kernel) (by decide +kernel)
set_option maxRecDepth 20000 in
theorem gX0_holds_X0_has : GoodIn wsX0_holds (wsV RX0 29 RX0 yX0_has wsX0_has) := goodIn_app (goodIn_of _ (by decide +kernel)) ggX0_holds_X0_has
theorem dX0_holds_0 : decode cX0_holds 0 = .ok (.aload_n 0, 1) := by decide +kernel
theorem dX0_holds_1 : decode cX0_holds 1 = .ok (.iload_n 1, 1) := by decide +kernel
theorem dX0_holds_2 : decode cX0_holds 2 = .ok (.invokevirtual 29, 3) := by decide +kernel
theorem dX0_holds_5 : decode cX0_holds 5 = .ok (.ifCond .eq 29, 3) := by decide +kernel
theorem dX0_holds_8 : decode cX0_holds 8 = .ok (.aload_n 0, 1) := by decide +kernel
theorem dX0_holds_9 : decode cX0_holds 9 = .ok (.getfield 9, 3) := by decide +kernel
theorem dX0_holds_12 : decode cX0_holds 12 = .ok (.iload_n 1, 1) := by decide +kernel
theorem dX0_holds_13 : decode cX0_holds 13 = .ok (.laload, 1) := by decide +kernel
theorem dX0_holds_14 : decode cX0_holds 14 = .ok (.lload_n 2, 1) := by decide +kernel
theorem dX0_holds_15 : decode cX0_holds 15 = .ok (.lcmp, 1) := by decide +kernel
theorem dX0_holds_16 : decode cX0_holds 16 = .ok (.ifCond .ne 18, 3) := by decide +kernel
theorem dX0_holds_19 : decode cX0_holds 19 = .ok (.aload_n 0, 1) := by decide +kernel
theorem dX0_holds_20 : decode cX0_holds 20 = .ok (.getfield 15, 3) := by decide +kernel
theorem dX0_holds_23 : decode cX0_holds 23 = .ok (.iload_n 1, 1) := by decide +kernel
theorem dX0_holds_24 : decode cX0_holds 24 = .ok (.iaload, 1) := by decide +kernel
theorem dX0_holds_25 : decode cX0_holds 25 = .ok (.iload 4, 2) := by decide +kernel
theorem dX0_holds_27 : decode cX0_holds 27 = .ok (.if_icmp .ne 7, 3) := by decide +kernel
theorem dX0_holds_30 : decode cX0_holds 30 = .ok (.iconst 1, 1) := by decide +kernel
theorem dX0_holds_31 : decode cX0_holds 31 = .ok (.goto 4, 3) := by decide +kernel
theorem dX0_holds_34 : decode cX0_holds 34 = .ok (.iconst 0, 1) := by decide +kernel
theorem dX0_holds_35 : decode cX0_holds 35 = .ok (.ireturn, 1) := by decide +kernel
set_option maxRecDepth 20000 in
theorem ggX0_firstNotBefore_X0_isBefore : GoodIn wsX0_firstNotBefore wsX0_isBefore := goodIn_r _ [5, 6, 7, 8, 9, 10, 11, 4, 12, 13, 14, 15, 16, 17, 18] (by decide +kernel) (by decide +kernel)
set_option maxRecDepth 20000 in
theorem gX0_firstNotBefore_X0_isBefore : GoodIn wsX0_firstNotBefore (wsV RX0 33 RX0 yX0_isBefore wsX0_isBefore) := goodIn_app (goodIn_of _ (by decide +kernel)) ggX0_firstNotBefore_X0_isBefore
theorem dX0_firstNotBefore_0 : decode cX0_firstNotBefore 0 = .ok (.iconst 0, 1) := by decide +kernel
theorem dX0_firstNotBefore_1 : decode cX0_firstNotBefore 1 = .ok (.istore 4, 2) := by decide +kernel
theorem dX0_firstNotBefore_3 : decode cX0_firstNotBefore 3 = .ok (.sipush 128, 3) := by decide +kernel
theorem dX0_firstNotBefore_6 : decode cX0_firstNotBefore 6 = .ok (.istore 5, 2) := by decide +kernel
theorem dX0_firstNotBefore_8 : decode cX0_firstNotBefore 8 = .ok (.iload 5, 2) := by decide +kernel
theorem dX0_firstNotBefore_10 : decode cX0_firstNotBefore 10 = .ok (.ifCond .le 35, 3) := by decide +kernel
theorem dX0_firstNotBefore_13 : decode cX0_firstNotBefore 13 = .ok (.aload_n 0, 1) := by decide +kernel
theorem dX0_firstNotBefore_14 : decode cX0_firstNotBefore 14 = .ok (.iload 4, 2) := by decide +kernel
theorem dX0_firstNotBefore_16 : decode cX0_firstNotBefore 16 = .ok (.iload 5, 2) := by decide +kernel
theorem dX0_firstNotBefore_18 : decode cX0_firstNotBefore 18 = .ok (.iadd, 1) := by decide +kernel
theorem dX0_firstNotBefore_19 : decode cX0_firstNotBefore 19 = .ok (.iconst 1, 1) := by decide +kernel
theorem dX0_firstNotBefore_20 : decode cX0_firstNotBefore 20 = .ok (.isub, 1) := by decide +kernel
theorem dX0_firstNotBefore_21 : decode cX0_firstNotBefore 21 = .ok (.lload_n 1, 1) := by decide +kernel
theorem dX0_firstNotBefore_22 : decode cX0_firstNotBefore 22 = .ok (.iload_n 3, 1) := by decide +kernel
theorem dX0_firstNotBefore_23 : decode cX0_firstNotBefore 23 = .ok (.invokevirtual 33, 3) := by decide +kernel
theorem dX0_firstNotBefore_26 : decode cX0_firstNotBefore 26 = .ok (.ifCond .eq 10, 3) := by decide +kernel
theorem dX0_firstNotBefore_29 : decode cX0_firstNotBefore 29 = .ok (.iload 4, 2) := by decide +kernel
theorem dX0_firstNotBefore_31 : decode cX0_firstNotBefore 31 = .ok (.iload 5, 2) := by decide +kernel
theorem dX0_firstNotBefore_33 : decode cX0_firstNotBefore 33 = .ok (.iadd, 1) := by decide +kernel
theorem dX0_firstNotBefore_34 : decode cX0_firstNotBefore 34 = .ok (.istore 4, 2) := by decide +kernel
theorem dX0_firstNotBefore_36 : decode cX0_firstNotBefore 36 = .ok (.iload 5, 2) := by decide +kernel
theorem dX0_firstNotBefore_38 : decode cX0_firstNotBefore 38 = .ok (.iconst 2, 1) := by decide +kernel
theorem dX0_firstNotBefore_39 : decode cX0_firstNotBefore 39 = .ok (.idiv, 1) := by decide +kernel
theorem dX0_firstNotBefore_40 : decode cX0_firstNotBefore 40 = .ok (.istore 5, 2) := by decide +kernel
theorem dX0_firstNotBefore_42 : decode cX0_firstNotBefore 42 = .ok (.goto (-34), 3) := by decide +kernel
theorem dX0_firstNotBefore_45 : decode cX0_firstNotBefore 45 = .ok (.iload 4, 2) := by decide +kernel
theorem dX0_firstNotBefore_47 : decode cX0_firstNotBefore 47 = .ok (.ireturn, 1) := by decide +kernel
set_option maxRecDepth 20000 in
theorem ggX0_isBefore_X0_has : GoodIn wsX0_isBefore wsX0_has := goodIn_r _ [8, 9, 10, 11, 12, 13, 14] (by decide +kernel) (by decide +kernel)
set_option maxRecDepth 20000 in
theorem gX0_isBefore_X0_has : GoodIn wsX0_isBefore (wsV RX0 29 RX0 yX0_has wsX0_has) := goodIn_app (goodIn_of _ (by decide +kernel)) ggX0_isBefore_X0_has
theorem dX0_isBefore_0 : decode cX0_isBefore 0 = .ok (.aload_n 0, 1) := by decide +kernel
theorem dX0_isBefore_1 : decode cX0_isBefore 1 = .ok (.iload_n 1, 1) := by decide +kernel
theorem dX0_isBefore_2 : decode cX0_isBefore 2 = .ok (.invokevirtual 29, 3) := by decide +kernel
theorem dX0_isBefore_5 : decode cX0_isBefore 5 = .ok (.ifCond .ne 5, 3) := by decide +kernel
theorem dX0_isBefore_8 : decode cX0_isBefore 8 = .ok (.iconst 0, 1) := by decide +kernel
theorem dX0_isBefore_9 : decode cX0_isBefore 9 = .ok (.ireturn, 1) := by decide +kernel
theorem dX0_isBefore_10 : decode cX0_isBefore 10 = .ok (.aload_n 0, 1) := by decide +kernel
theorem dX0_isBefore_11 : decode cX0_isBefore 11 = .ok (.getfield 9, 3) := by decide +kernel
theorem dX0_isBefore_14 : decode cX0_isBefore 14 = .ok (.iload_n 1, 1) := by decide +kernel
theorem dX0_isBefore_15 : decode cX0_isBefore 15 = .ok (.laload, 1) := by decide +kernel
theorem dX0_isBefore_16 : decode cX0_isBefore 16 = .ok (.lload_n 2, 1) := by decide +kernel
theorem dX0_isBefore_17 : decode cX0_isBefore 17 = .ok (.lcmp, 1) := by decide +kernel
theorem dX0_isBefore_18 : decode cX0_isBefore 18 = .ok (.ifCond .eq 28, 3) := by decide +kernel
theorem dX0_isBefore_21 : decode cX0_isBefore 21 = .ok (.aload_n 0, 1) := by decide +kernel
theorem dX0_isBefore_22 : decode cX0_isBefore 22 = .ok (.getfield 9, 3) := by decide +kernel
theorem dX0_isBefore_25 : decode cX0_isBefore 25 = .ok (.iload_n 1, 1) := by decide +kernel
theorem dX0_isBefore_26 : decode cX0_isBefore 26 = .ok (.laload, 1) := by decide +kernel
theorem dX0_isBefore_27 : decode cX0_isBefore 27 = .ok (.ldc2_w 37, 3) := by decide +kernel
theorem dX0_isBefore_30 : decode cX0_isBefore 30 = .ok (.ladd, 1) := by decide +kernel
theorem dX0_isBefore_31 : decode cX0_isBefore 31 = .ok (.lload_n 2, 1) := by decide +kernel
theorem dX0_isBefore_32 : decode cX0_isBefore 32 = .ok (.ldc2_w 37, 3) := by decide +kernel
theorem dX0_isBefore_35 : decode cX0_isBefore 35 = .ok (.ladd, 1) := by decide +kernel
theorem dX0_isBefore_36 : decode cX0_isBefore 36 = .ok (.lcmp, 1) := by decide +kernel
theorem dX0_isBefore_37 : decode cX0_isBefore 37 = .ok (.ifCond .ge 7, 3) := by decide +kernel
theorem dX0_isBefore_40 : decode cX0_isBefore 40 = .ok (.iconst 1, 1) := by decide +kernel
theorem dX0_isBefore_41 : decode cX0_isBefore 41 = .ok (.goto 4, 3) := by decide +kernel
theorem dX0_isBefore_44 : decode cX0_isBefore 44 = .ok (.iconst 0, 1) := by decide +kernel
theorem dX0_isBefore_45 : decode cX0_isBefore 45 = .ok (.ireturn, 1) := by decide +kernel
theorem dX0_isBefore_46 : decode cX0_isBefore 46 = .ok (.aload_n 0, 1) := by decide +kernel
theorem dX0_isBefore_47 : decode cX0_isBefore 47 = .ok (.getfield 15, 3) := by decide +kernel
theorem dX0_isBefore_50 : decode cX0_isBefore 50 = .ok (.iload_n 1, 1) := by decide +kernel
theorem dX0_isBefore_51 : decode cX0_isBefore 51 = .ok (.iaload, 1) := by decide +kernel
theorem dX0_isBefore_52 : decode cX0_isBefore 52 = .ok (.iload 4, 2) := by decide +kernel
theorem dX0_isBefore_54 : decode cX0_isBefore 54 = .ok (.if_icmp .ge 7, 3) := by decide +kernel
theorem dX0_isBefore_57 : decode cX0_isBefore 57 = .ok (.iconst 1, 1) := by decide +kernel
theorem dX0_isBefore_58 : decode cX0_isBefore 58 = .ok (.goto 4, 3) := by decide +kernel
theorem dX0_isBefore_61 : decode cX0_isBefore 61 = .ok (.iconst 0, 1) := by decide +kernel
theorem dX0_isBefore_62 : decode cX0_isBefore 62 = .ok (.ireturn, 1) := by decide +kernel
set_option maxRecDepth 20000 in
theorem ggX0_set_X0_firstNotBefore : GoodIn wsX0_set wsX0_firstNotBefore := goodIn_r _ [9, 10, 11, 12, 8, 13, 1, 14, 2, 15, 16, 17, 18, 19, 36, 37, 38, 39, 40] (by decide +kernel) (by decide +kernel)
set_option maxRecDepth 20000 in
theorem gX0_set_X0_firstNotBefore : GoodIn wsX0_set (wsV RX0 39 RX0 yX0_firstNotBefore wsX0_firstNotBefore) := goodIn_app (goodIn_of _ (by decide +kernel)) ggX0_set_X0_firstNotBefore
set_option maxRecDepth 20000 in
theorem ggX0_set_X0_holds : GoodIn wsX0_set wsX0_holds := goodIn_r _ [23, 1, 2, 15, 16, 17, 8, 18, 19, 36, 37, 38, 39, 40] (by decide +kernel) (by decide +kernel)
set_option maxRecDepth 20000 in
theorem gX0_set_X0_holds : GoodIn wsX0_set (wsV RX0 43 RX0 yX0_holds wsX0_holds) := goodIn_app (goodIn_of _ (by decide +kernel)) ggX0_set_X0_holds
set_option maxRecDepth 20000 in
theorem ggX0_set_X0_makeRoom : GoodIn wsX0_set wsX0_makeRoom := goodIn_r _ [27, 19, 28, 29, 30, 8, 31, 1, 32, 33, 34, 35, 2, 3, 4, 36, 37, 38, 39, 40] (by decide +kernel) (by decide +kernel)
set_option maxRecDepth 20000 in
theorem gX0_set_X0_makeRoom : GoodIn wsX0_set (wsV RX0 46 RX0 yX0_makeRoom wsX0_makeRoom) := goodIn_app (goodIn_of _ (by decide +kernel)) ggX0_set_X0_makeRoom
theorem dX0_set_0 : decode cX0_set 0 = .ok (.aload_n 0, 1) := by decide +kernel
theorem dX0_set_1 : decode cX0_set 1 = .ok (.lload_n 1, 1) := by decide +kernel
theorem dX0_set_2 : decode cX0_set 2 = .ok (.iload_n 3, 1) := by decide +kernel
theorem dX0_set_3 : decode cX0_set 3 = .ok (.invokevirtual 39, 3) := by decide +kernel
theorem dX0_set_6 : decode cX0_set 6 = .ok (.istore 7, 2) := by decide +kernel
theorem dX0_set_8 : decode cX0_set 8 = .ok (.aload_n 0, 1) := by decide +kernel
theorem dX0_set_9 : decode cX0_set 9 = .ok (.iload 7, 2) := by decide +kernel
theorem dX0_set_11 : decode cX0_set 11 = .ok (.lload_n 1, 1) := by decide +kernel
theorem dX0_set_12 : decode cX0_set 12 = .ok (.iload_n 3, 1) := by decide +kernel
theorem dX0_set_13 : decode cX0_set 13 = .ok (.invokevirtual 43, 3) := by decide +kernel
theorem dX0_set_16 : decode cX0_set 16 = .ok (.ifCond .ne 14, 3) := by decide +kernel
theorem dX0_set_19 : decode cX0_set 19 = .ok (.aload_n 0, 1) := by decide +kernel
theorem dX0_set_20 : decode cX0_set 20 = .ok (.iload 7, 2) := by decide +kernel
theorem dX0_set_22 : decode cX0_set 22 = .ok (.invokevirtual 46, 3) := by decide +kernel
theorem dX0_set_25 : decode cX0_set 25 = .ok (.ifCond .ne 5, 3) := by decide +kernel
theorem dX0_set_28 : decode cX0_set 28 = .ok (.iconst 0, 1) := by decide +kernel
theorem dX0_set_29 : decode cX0_set 29 = .ok (.ireturn, 1) := by decide +kernel
theorem dX0_set_30 : decode cX0_set 30 = .ok (.aload_n 0, 1) := by decide +kernel
theorem dX0_set_31 : decode cX0_set 31 = .ok (.getfield 9, 3) := by decide +kernel
theorem dX0_set_34 : decode cX0_set 34 = .ok (.iload 7, 2) := by decide +kernel
theorem dX0_set_36 : decode cX0_set 36 = .ok (.lload_n 1, 1) := by decide +kernel
theorem dX0_set_37 : decode cX0_set 37 = .ok (.lastore, 1) := by decide +kernel
theorem dX0_set_38 : decode cX0_set 38 = .ok (.aload_n 0, 1) := by decide +kernel
theorem dX0_set_39 : decode cX0_set 39 = .ok (.getfield 15, 3) := by decide +kernel
theorem dX0_set_42 : decode cX0_set 42 = .ok (.iload 7, 2) := by decide +kernel
theorem dX0_set_44 : decode cX0_set 44 = .ok (.iload_n 3, 1) := by decide +kernel
theorem dX0_set_45 : decode cX0_set 45 = .ok (.iastore, 1) := by decide +kernel
theorem dX0_set_46 : decode cX0_set 46 = .ok (.aload_n 0, 1) := by decide +kernel
theorem dX0_set_47 : decode cX0_set 47 = .ok (.getfield 19, 3) := by decide +kernel
theorem dX0_set_50 : decode cX0_set 50 = .ok (.iload 7, 2) := by decide +kernel
theorem dX0_set_52 : decode cX0_set 52 = .ok (.lload 4, 2) := by decide +kernel
theorem dX0_set_54 : decode cX0_set 54 = .ok (.lastore, 1) := by decide +kernel
theorem dX0_set_55 : decode cX0_set 55 = .ok (.aload_n 0, 1) := by decide +kernel
theorem dX0_set_56 : decode cX0_set 56 = .ok (.getfield 22, 3) := by decide +kernel
theorem dX0_set_59 : decode cX0_set 59 = .ok (.iload 7, 2) := by decide +kernel
theorem dX0_set_61 : decode cX0_set 61 = .ok (.iload 6, 2) := by decide +kernel
theorem dX0_set_63 : decode cX0_set 63 = .ok (.iastore, 1) := by decide +kernel
theorem dX0_set_64 : decode cX0_set 64 = .ok (.iconst 1, 1) := by decide +kernel
theorem dX0_set_65 : decode cX0_set 65 = .ok (.ireturn, 1) := by decide +kernel
set_option maxRecDepth 20000 in
theorem ggX0_makeRoom_X0_move : GoodIn wsX0_makeRoom wsX0_move := goodIn_r _ [6, 7, 8, 9, 10, 11, 12, 13, 14, 15, 16, 17, 18, 19] (by decide +kernel) (by decide +kernel)
set_option maxRecDepth 20000 in
theorem gX0_makeRoom_X0_move : GoodIn wsX0_makeRoom (wsV RX0 49 RX0 yX0_move wsX0_move) := goodIn_app (goodIn_of _ (by decide +kernel)) ggX0_makeRoom_X0_move
theorem dX0_makeRoom_0 : decode cX0_makeRoom 0 = .ok (.aload_n 0, 1) := by decide +kernel
theorem dX0_makeRoom_1 : decode cX0_makeRoom 1 = .ok (.getfield 25, 3) := by decide +kernel
theorem dX0_makeRoom_4 : decode cX0_makeRoom 4 = .ok (.sipush 150, 3) := by decide +kernel
theorem dX0_makeRoom_7 : decode cX0_makeRoom 7 = .ok (.if_icmp .ge 15, 3) := by decide +kernel
theorem dX0_makeRoom_10 : decode cX0_makeRoom 10 = .ok (.iload_n 1, 1) := by decide +kernel
theorem dX0_makeRoom_11 : decode cX0_makeRoom 11 = .ok (.ifCond .lt 11, 3) := by decide +kernel
theorem dX0_makeRoom_14 : decode cX0_makeRoom 14 = .ok (.iload_n 1, 1) := by decide +kernel
theorem dX0_makeRoom_15 : decode cX0_makeRoom 15 = .ok (.aload_n 0, 1) := by decide +kernel
theorem dX0_makeRoom_16 : decode cX0_makeRoom 16 = .ok (.getfield 25, 3) := by decide +kernel
theorem dX0_makeRoom_19 : decode cX0_makeRoom 19 = .ok (.if_icmp .le 5, 3) := by decide +kernel
theorem dX0_makeRoom_22 : decode cX0_makeRoom 22 = .ok (.iconst 0, 1) := by decide +kernel
theorem dX0_makeRoom_23 : decode cX0_makeRoom 23 = .ok (.ireturn, 1) := by decide +kernel
theorem dX0_makeRoom_24 : decode cX0_makeRoom 24 = .ok (.aload_n 0, 1) := by decide +kernel
theorem dX0_makeRoom_25 : decode cX0_makeRoom 25 = .ok (.iload_n 1, 1) := by decide +kernel
theorem dX0_makeRoom_26 : decode cX0_makeRoom 26 = .ok (.iload_n 1, 1) := by decide +kernel
theorem dX0_makeRoom_27 : decode cX0_makeRoom 27 = .ok (.iconst 1, 1) := by decide +kernel
theorem dX0_makeRoom_28 : decode cX0_makeRoom 28 = .ok (.iadd, 1) := by decide +kernel
theorem dX0_makeRoom_29 : decode cX0_makeRoom 29 = .ok (.aload_n 0, 1) := by decide +kernel
theorem dX0_makeRoom_30 : decode cX0_makeRoom 30 = .ok (.getfield 25, 3) := by decide +kernel
theorem dX0_makeRoom_33 : decode cX0_makeRoom 33 = .ok (.iload_n 1, 1) := by decide +kernel
theorem dX0_makeRoom_34 : decode cX0_makeRoom 34 = .ok (.isub, 1) := by decide +kernel
theorem dX0_makeRoom_35 : decode cX0_makeRoom 35 = .ok (.invokevirtual 49, 3) := by decide +kernel
theorem dX0_makeRoom_38 : decode cX0_makeRoom 38 = .ok (.aload_n 0, 1) := by decide +kernel
theorem dX0_makeRoom_39 : decode cX0_makeRoom 39 = .ok (.dup, 1) := by decide +kernel
theorem dX0_makeRoom_40 : decode cX0_makeRoom 40 = .ok (.getfield 25, 3) := by decide +kernel
theorem dX0_makeRoom_43 : decode cX0_makeRoom 43 = .ok (.iconst 1, 1) := by decide +kernel
theorem dX0_makeRoom_44 : decode cX0_makeRoom 44 = .ok (.iadd, 1) := by decide +kernel
theorem dX0_makeRoom_45 : decode cX0_makeRoom 45 = .ok (.putfield 25, 3) := by decide +kernel
theorem dX0_makeRoom_48 : decode cX0_makeRoom 48 = .ok (.iconst 1, 1) := by decide +kernel
theorem dX0_makeRoom_49 : decode cX0_makeRoom 49 = .ok (.ireturn, 1) := by decide +kernel
set_option maxRecDepth 20000 in
theorem ggX0_drop_X0_has : GoodIn wsX0_drop wsX0_has := goodIn_r _ [6, 1, 19, 20, 21, 22, 23] (by decide +kernel) (by decide +kernel)
set_option maxRecDepth 20000 in
theorem gX0_drop_X0_has : GoodIn wsX0_drop (wsV RX0 29 RX0 yX0_has wsX0_has) := goodIn_app (goodIn_of _ (by decide +kernel)) ggX0_drop_X0_has
set_option maxRecDepth 20000 in
theorem ggX0_drop_X0_move : GoodIn wsX0_drop wsX0_move := goodIn_r _ [10, 11, 12, 13, 14, 15, 16, 17, 18, 19, 20, 21, 22, 23] (by decide +kernel) (by decide +kernel)
set_option maxRecDepth 20000 in
theorem gX0_drop_X0_move : GoodIn wsX0_drop (wsV RX0 49 RX0 yX0_move wsX0_move) := goodIn_app (goodIn_of _ (by decide +kernel)) ggX0_drop_X0_move
theorem dX0_drop_0 : decode cX0_drop 0 = .ok (.aload_n 0, 1) := by decide +kernel
theorem dX0_drop_1 : decode cX0_drop 1 = .ok (.iload_n 1, 1) := by decide +kernel
theorem dX0_drop_2 : decode cX0_drop 2 = .ok (.invokevirtual 29, 3) := by decide +kernel
theorem dX0_drop_5 : decode cX0_drop 5 = .ok (.ifCond .eq 29, 3) := by decide +kernel
theorem dX0_drop_8 : decode cX0_drop 8 = .ok (.aload_n 0, 1) := by decide +kernel
theorem dX0_drop_9 : decode cX0_drop 9 = .ok (.iload_n 1, 1) := by decide +kernel
theorem dX0_drop_10 : decode cX0_drop 10 = .ok (.iconst 1, 1) := by decide +kernel
theorem dX0_drop_11 : decode cX0_drop 11 = .ok (.iadd, 1) := by decide +kernel
theorem dX0_drop_12 : decode cX0_drop 12 = .ok (.iload_n 1, 1) := by decide +kernel
theorem dX0_drop_13 : decode cX0_drop 13 = .ok (.aload_n 0, 1) := by decide +kernel
theorem dX0_drop_14 : decode cX0_drop 14 = .ok (.getfield 25, 3) := by decide +kernel
theorem dX0_drop_17 : decode cX0_drop 17 = .ok (.iload_n 1, 1) := by decide +kernel
theorem dX0_drop_18 : decode cX0_drop 18 = .ok (.isub, 1) := by decide +kernel
theorem dX0_drop_19 : decode cX0_drop 19 = .ok (.iconst 1, 1) := by decide +kernel
theorem dX0_drop_20 : decode cX0_drop 20 = .ok (.isub, 1) := by decide +kernel
theorem dX0_drop_21 : decode cX0_drop 21 = .ok (.invokevirtual 49, 3) := by decide +kernel
theorem dX0_drop_24 : decode cX0_drop 24 = .ok (.aload_n 0, 1) := by decide +kernel
theorem dX0_drop_25 : decode cX0_drop 25 = .ok (.dup, 1) := by decide +kernel
theorem dX0_drop_26 : decode cX0_drop 26 = .ok (.getfield 25, 3) := by decide +kernel
theorem dX0_drop_29 : decode cX0_drop 29 = .ok (.iconst 1, 1) := by decide +kernel
theorem dX0_drop_30 : decode cX0_drop 30 = .ok (.isub, 1) := by decide +kernel
theorem dX0_drop_31 : decode cX0_drop 31 = .ok (.putfield 25, 3) := by decide +kernel
theorem dX0_drop_34 : decode cX0_drop 34 = .ok (.return_, 1) := by decide +kernel
theorem dX0_move_0 : decode cX0_move 0 = .ok (.aload_n 0, 1) := by decide +kernel
theorem dX0_move_1 : decode cX0_move 1 = .ok (.getfield 9, 3) := by decide +kernel
theorem dX0_move_4 : decode cX0_move 4 = .ok (.iload_n 1, 1) := by decide +kernel
theorem dX0_move_5 : decode cX0_move 5 = .ok (.aload_n 0, 1) := by decide +kernel
theorem dX0_move_6 : decode cX0_move 6 = .ok (.getfield 9, 3) := by decide +kernel
theorem dX0_move_9 : decode cX0_move 9 = .ok (.iload_n 2, 1) := by decide +kernel
theorem dX0_move_10 : decode cX0_move 10 = .ok (.iload_n 3, 1) := by decide +kernel
theorem dX0_move_11 : decode cX0_move 11 = .ok (.invokestatic 53, 3) := by decide +kernel
theorem dX0_move_14 : decode cX0_move 14 = .ok (.aload_n 0, 1) := by decide +kernel
theorem dX0_move_15 : decode cX0_move 15 = .ok (.getfield 15, 3) := by decide +kernel
theorem dX0_move_18 : decode cX0_move 18 = .ok (.iload_n 1, 1) := by decide +kernel
theorem dX0_move_19 : decode cX0_move 19 = .ok (.aload_n 0, 1) := by decide +kernel
theorem dX0_move_20 : decode cX0_move 20 = .ok (.getfield 15, 3) := by decide +kernel
theorem dX0_move_23 : decode cX0_move 23 = .ok (.iload_n 2, 1) := by decide +kernel
theorem dX0_move_24 : decode cX0_move 24 = .ok (.iload_n 3, 1) := by decide +kernel
theorem dX0_move_25 : decode cX0_move 25 = .ok (.invokestatic 53, 3) := by decide +kernel
theorem dX0_move_28 : decode cX0_move 28 = .ok (.aload_n 0, 1) := by decide +kernel
theorem dX0_move_29 : decode cX0_move 29 = .ok (.getfield 19, 3) := by decide +kernel
theorem dX0_move_32 : decode cX0_move 32 = .ok (.iload_n 1, 1) := by decide +kernel
theorem dX0_move_33 : decode cX0_move 33 = .ok (.aload_n 0, 1) := by decide +kernel
theorem dX0_move_34 : decode cX0_move 34 = .ok (.getfield 19, 3) := by decide +kernel
theorem dX0_move_37 : decode cX0_move 37 = .ok (.iload_n 2, 1) := by decide +kernel
theorem dX0_move_38 : decode cX0_move 38 = .ok (.iload_n 3, 1) := by decide +kernel
theorem dX0_move_39 : decode cX0_move 39 = .ok (.invokestatic 53, 3) := by decide +kernel
theorem dX0_move_42 : decode cX0_move 42 = .ok (.aload_n 0, 1) := by decide +kernel
theorem dX0_move_43 : decode cX0_move 43 = .ok (.getfield 22, 3) := by decide +kernel
theorem dX0_move_46 : decode cX0_move 46 = .ok (.iload_n 1, 1) := by decide +kernel
theorem dX0_move_47 : decode cX0_move 47 = .ok (.aload_n 0, 1) := by decide +kernel
theorem dX0_move_48 : decode cX0_move 48 = .ok (.getfield 22, 3) := by decide +kernel
theorem dX0_move_51 : decode cX0_move 51 = .ok (.iload_n 2, 1) := by decide +kernel
theorem dX0_move_52 : decode cX0_move 52 = .ok (.iload_n 3, 1) := by decide +kernel
theorem dX0_move_53 : decode cX0_move 53 = .ok (.invokestatic 53, 3) := by decide +kernel
theorem dX0_move_56 : decode cX0_move 56 = .ok (.return_, 1) := by decide +kernel
theorem dX0_copyFrom_0 : decode cX0_copyFrom 0 = .ok (.aload_n 1, 1) := by decide +kernel
theorem dX0_copyFrom_1 : decode cX0_copyFrom 1 = .ok (.getfield 9, 3) := by decide +kernel
theorem dX0_copyFrom_4 : decode cX0_copyFrom 4 = .ok (.iconst 0, 1) := by decide +kernel
theorem dX0_copyFrom_5 : decode cX0_copyFrom 5 = .ok (.aload_n 0, 1) := by decide +kernel
theorem dX0_copyFrom_6 : decode cX0_copyFrom 6 = .ok (.getfield 9, 3) := by decide +kernel
theorem dX0_copyFrom_9 : decode cX0_copyFrom 9 = .ok (.iconst 0, 1) := by decide +kernel
theorem dX0_copyFrom_10 : decode cX0_copyFrom 10 = .ok (.aload_n 1, 1) := by decide +kernel
theorem dX0_copyFrom_11 : decode cX0_copyFrom 11 = .ok (.getfield 25, 3) := by decide +kernel
theorem dX0_copyFrom_14 : decode cX0_copyFrom 14 = .ok (.invokestatic 53, 3) := by decide +kernel
theorem dX0_copyFrom_17 : decode cX0_copyFrom 17 = .ok (.aload_n 1, 1) := by decide +kernel
theorem dX0_copyFrom_18 : decode cX0_copyFrom 18 = .ok (.getfield 15, 3) := by decide +kernel
theorem dX0_copyFrom_21 : decode cX0_copyFrom 21 = .ok (.iconst 0, 1) := by decide +kernel
theorem dX0_copyFrom_22 : decode cX0_copyFrom 22 = .ok (.aload_n 0, 1) := by decide +kernel
theorem dX0_copyFrom_23 : decode cX0_copyFrom 23 = .ok (.getfield 15, 3) := by decide +kernel
theorem dX0_copyFrom_26 : decode cX0_copyFrom 26 = .ok (.iconst 0, 1) := by decide +kernel
theorem dX0_copyFrom_27 : decode cX0_copyFrom 27 = .ok (.aload_n 1, 1) := by decide +kernel
theorem dX0_copyFrom_28 : decode cX0_copyFrom 28 = .ok (.getfield 25, 3) := by decide +kernel
theorem dX0_copyFrom_31 : decode cX0_copyFrom 31 = .ok (.invokestatic 53, 3) := by decide +kernel
theorem dX0_copyFrom_34 : decode cX0_copyFrom 34 = .ok (.aload_n 1, 1) := by decide +kernel
theorem dX0_copyFrom_35 : decode cX0_copyFrom 35 = .ok (.getfield 19, 3) := by decide +kernel
theorem dX0_copyFrom_38 : decode cX0_copyFrom 38 = .ok (.iconst 0, 1) := by decide +kernel
theorem dX0_copyFrom_39 : decode cX0_copyFrom 39 = .ok (.aload_n 0, 1) := by decide +kernel
theorem dX0_copyFrom_40 : decode cX0_copyFrom 40 = .ok (.getfield 19, 3) := by decide +kernel
theorem dX0_copyFrom_43 : decode cX0_copyFrom 43 = .ok (.iconst 0, 1) := by decide +kernel
theorem dX0_copyFrom_44 : decode cX0_copyFrom 44 = .ok (.aload_n 1, 1) := by decide +kernel
theorem dX0_copyFrom_45 : decode cX0_copyFrom 45 = .ok (.getfield 25, 3) := by decide +kernel
theorem dX0_copyFrom_48 : decode cX0_copyFrom 48 = .ok (.invokestatic 53, 3) := by decide +kernel
theorem dX0_copyFrom_51 : decode cX0_copyFrom 51 = .ok (.aload_n 1, 1) := by decide +kernel
theorem dX0_copyFrom_52 : decode cX0_copyFrom 52 = .ok (.getfield 22, 3) := by decide +kernel
theorem dX0_copyFrom_55 : decode cX0_copyFrom 55 = .ok (.iconst 0, 1) := by decide +kernel
theorem dX0_copyFrom_56 : decode cX0_copyFrom 56 = .ok (.aload_n 0, 1) := by decide +kernel
theorem dX0_copyFrom_57 : decode cX0_copyFrom 57 = .ok (.getfield 22, 3) := by decide +kernel
theorem dX0_copyFrom_60 : decode cX0_copyFrom 60 = .ok (.iconst 0, 1) := by decide +kernel
theorem dX0_copyFrom_61 : decode cX0_copyFrom 61 = .ok (.aload_n 1, 1) := by decide +kernel
theorem dX0_copyFrom_62 : decode cX0_copyFrom 62 = .ok (.getfield 25, 3) := by decide +kernel
theorem dX0_copyFrom_65 : decode cX0_copyFrom 65 = .ok (.invokestatic 53, 3) := by decide +kernel
theorem dX0_copyFrom_68 : decode cX0_copyFrom 68 = .ok (.aload_n 0, 1) := by decide +kernel
theorem dX0_copyFrom_69 : decode cX0_copyFrom 69 = .ok (.aload_n 1, 1) := by decide +kernel
theorem dX0_copyFrom_70 : decode cX0_copyFrom 70 = .ok (.getfield 25, 3) := by decide +kernel
theorem dX0_copyFrom_73 : decode cX0_copyFrom 73 = .ok (.putfield 25, 3) := by decide +kernel
theorem dX0_copyFrom_76 : decode cX0_copyFrom 76 = .ok (.return_, 1) := by decide +kernel
set_option maxRecDepth 20000 in
theorem ggX1_init_X0_init : GoodIn wsX1_init wsX0_init := goodIn_r _ [13, 14, 2, 3, 15, 16, 17, 18, 19, 20, 21, 22, 23, 24, 25, 26] (by decide +kernel) (by decide +kernel)
set_option maxRecDepth 20000 in
theorem gX1_init_X0_init : GoodIn wsX1_init (wsX0_init) := ggX1_init_X0_init
theorem dX1_init_0 : decode cX1_init 0 = .ok (.aload_n 0, 1) := by decide +kernel
theorem dX1_init_1 : decode cX1_init 1 = .ok (.invokespecial 1, 3) := by decide +kernel
theorem dX1_init_4 : decode cX1_init 4 = .ok (.aload_n 0, 1) := by decide +kernel
theorem dX1_init_5 : decode cX1_init 5 = .ok (.new 7, 3) := by decide +kernel
theorem dX1_init_8 : decode cX1_init 8 = .ok (.dup, 1) := by decide +kernel
theorem dX1_init_9 : decode cX1_init 9 = .ok (.invokespecial 9, 3) := by decide +kernel
theorem dX1_init_12 : decode cX1_init 12 = .ok (.putfield 10, 3) := by decide +kernel
theorem dX1_init_15 : decode cX1_init 15 = .ok (.aload_n 0, 1) := by decide +kernel
theorem dX1_init_16 : decode cX1_init 16 = .ok (.new 7, 3) := by decide +kernel
theorem dX1_init_19 : decode cX1_init 19 = .ok (.dup, 1) := by decide +kernel
theorem dX1_init_20 : decode cX1_init 20 = .ok (.invokespecial 9, 3) := by decide +kernel
theorem dX1_init_23 : decode cX1_init 23 = .ok (.putfield 16, 3) := by decide +kernel
theorem dX1_init_26 : decode cX1_init 26 = .ok (.aload_n 0, 1) := by decide +kernel
theorem dX1_init_27 : decode cX1_init 27 = .ok (.lconst 0, 1) := by decide +kernel
theorem dX1_init_28 : decode cX1_init 28 = .ok (.putfield 19, 3) := by decide +kernel
theorem dX1_init_31 : decode cX1_init 31 = .ok (.aload_n 0, 1) := by decide +kernel
theorem dX1_init_32 : decode cX1_init 32 = .ok (.iconst 0, 1) := by decide +kernel
theorem dX1_init_33 : decode cX1_init 33 = .ok (.putfield 23, 3) := by decide +kernel
theorem dX1_init_36 : decode cX1_init 36 = .ok (.return_, 1) := by decide +kernel
set_option maxRecDepth 20000 in
theorem ggX1_put_X1_isKeySize : GoodIn wsX1_put wsX1_isKeySize := goodIn_r _ [5] (by decide +kernel) (by decide +kernel)
set_option maxRecDepth 20000 in
theorem gX1_put_X1_isKeySize : GoodIn wsX1_put (va_wsS RX1 27 yX1_isKeySize wsX1_isKeySize) := goodIn_app (goodIn_of _ (by decide +kernel)) ggX1_put_X1_isKeySize
set_option maxRecDepth 20000 in
theorem ggX1_put_X1_isTextLength : GoodIn wsX1_put wsX1_isTextLength := goodIn_r _ [8] (by decide +kernel) (by decide +kernel)
set_option maxRecDepth 20000 in
theorem gX1_put_X1_isTextLength : GoodIn wsX1_put (va_wsS RX1 31 yX1_isTextLength wsX1_isTextLength) := goodIn_app (goodIn_of _ (by decide +kernel)) ggX1_put_X1_isTextLength
set_option maxRecDepth 20000 in
theorem ggX1_put_X1_headOf : GoodIn wsX1_put wsX1_headOf := goodIn_r _ [11, 12, 13, 4, 14] (by decide +kernel) (by decide +kernel)
set_option maxRecDepth 20000 in
theorem gX1_put_X1_headOf : GoodIn wsX1_put (va_wsS RX1 34 yX1_headOf wsX1_headOf) := goodIn_app (goodIn_of _ (by decide +kernel)) ggX1_put_X1_headOf
set_option maxRecDepth 20000 in
theorem ggX1_put_X1_lowestBytes : GoodIn wsX1_put wsX1_lowestBytes := goodIn_r _ [17, 18, 12, 13, 4, 14] (by decide +kernel) (by decide +kernel)
set_option maxRecDepth 20000 in
theorem gX1_put_X1_lowestBytes : GoodIn wsX1_put (va_wsS RX1 38 yX1_lowestBytes wsX1_lowestBytes) := goodIn_app (goodIn_of _ (by decide +kernel)) ggX1_put_X1_lowestBytes
set_option maxRecDepth 20000 in
theorem ggX1_put_X0_set : GoodIn wsX1_put wsX0_set := goodIn_r _ [23, 24, 25, 26, 27, 28, 29, 30, 22, 31, 32, 33, 34, 35, 36, 37, 38, 39, 40, 41, 42, 43, 44, 45, 46, 47, 48, 49, 50, 51, 52, 53, 54, 55, 56, 57, 62, 63, 64, 65, 66] (by decide +kernel) (by decide +kernel)
set_option maxRecDepth 20000 in
theorem gX1_put_X0_set : GoodIn wsX1_put (wsV RX1 41 RX0 yX0_set wsX0_set) := goodIn_app (goodIn_of _ (by decide +kernel)) ggX1_put_X0_set
theorem dX1_put_0 : decode cX1_put 0 = .ok (.iload_n 3, 1) := by decide +kernel
theorem dX1_put_1 : decode cX1_put 1 = .ok (.invokestatic 27, 3) := by decide +kernel
theorem dX1_put_4 : decode cX1_put 4 = .ok (.ifCond .eq 11, 3) := by decide +kernel
theorem dX1_put_7 : decode cX1_put 7 = .ok (.iload 6, 2) := by decide +kernel
theorem dX1_put_9 : decode cX1_put 9 = .ok (.invokestatic 31, 3) := by decide +kernel
theorem dX1_put_12 : decode cX1_put 12 = .ok (.ifCond .ne 5, 3) := by decide +kernel
theorem dX1_put_15 : decode cX1_put 15 = .ok (.iconst 0, 1) := by decide +kernel
theorem dX1_put_16 : decode cX1_put 16 = .ok (.ireturn, 1) := by decide +kernel
theorem dX1_put_17 : decode cX1_put 17 = .ok (.aload_n 0, 1) := by decide +kernel
theorem dX1_put_18 : decode cX1_put 18 = .ok (.getfield 10, 3) := by decide +kernel
theorem dX1_put_21 : decode cX1_put 21 = .ok (.lload_n 1, 1) := by decide +kernel
theorem dX1_put_22 : decode cX1_put 22 = .ok (.iload_n 3, 1) := by decide +kernel
theorem dX1_put_23 : decode cX1_put 23 = .ok (.invokestatic 34, 3) := by decide +kernel
theorem dX1_put_26 : decode cX1_put 26 = .ok (.iload_n 3, 1) := by decide +kernel
theorem dX1_put_27 : decode cX1_put 27 = .ok (.lload 4, 2) := by decide +kernel
theorem dX1_put_29 : decode cX1_put 29 = .ok (.iload 6, 2) := by decide +kernel
theorem dX1_put_31 : decode cX1_put 31 = .ok (.invokestatic 38, 3) := by decide +kernel
theorem dX1_put_34 : decode cX1_put 34 = .ok (.iload 6, 2) := by decide +kernel
theorem dX1_put_36 : decode cX1_put 36 = .ok (.invokevirtual 41, 3) := by decide +kernel
theorem dX1_put_39 : decode cX1_put 39 = .ok (.ireturn, 1) := by decide +kernel
set_option maxRecDepth 20000 in
theorem ggX1_remove_X1_placeOf : GoodIn wsX1_remove wsX1_placeOf := goodIn_r _ [6, 1, 7, 8, 5, 9, 10, 11, 12, 13, 14, 15, 16, 17, 18, 19, 20, 21, 22, 23, 24, 25, 26, 27, 28, 29, 30, 31, 32, 33, 34, 35, 36, 52, 53, 54, 55, 56, 57, 58, 59, 60] (by decide +kernel) (by decide +kernel)
set_option maxRecDepth 20000 in
theorem gX1_remove_X1_placeOf : GoodIn wsX1_remove (wsV RX1 45 RX1 yX1_placeOf wsX1_placeOf) := goodIn_app (goodIn_of _ (by decide +kernel)) ggX1_remove_X1_placeOf
set_option maxRecDepth 20000 in
theorem ggX1_remove_X0_has : GoodIn wsX1_remove wsX0_has := goodIn_r _ [31, 32, 56, 57, 58, 59, 60] (by decide +kernel) (by decide +kernel)
set_option maxRecDepth 20000 in
theorem gX1_remove_X0_has : GoodIn wsX1_remove (wsV RX1 49 RX0 yX0_has wsX0_has) := goodIn_app (goodIn_of _ (by decide +kernel)) ggX1_remove_X0_has
set_option maxRecDepth 20000 in
theorem ggX1_remove_X0_drop : GoodIn wsX1_remove wsX0_drop := goodIn_r _ [41, 32, 28, 29, 30, 19, 31, 42, 43, 44, 45, 25, 46, 47, 48, 49, 27, 50, 51, 56, 57, 58, 59, 60] (by decide +kernel) (by decide +kernel)
set_option maxRecDepth 20000 in
theorem gX1_remove_X0_drop : GoodIn wsX1_remove (wsV RX1 52 RX0 yX0_drop wsX0_drop) := goodIn_app (goodIn_of _ (by decide +kernel)) ggX1_remove_X0_drop
theorem dX1_remove_0 : decode cX1_remove 0 = .ok (.aload_n 0, 1) := by decide +kernel
theorem dX1_remove_1 : decode cX1_remove 1 = .ok (.lload_n 1, 1) := by decide +kernel
theorem dX1_remove_2 : decode cX1_remove 2 = .ok (.iload_n 3, 1) := by decide +kernel
theorem dX1_remove_3 : decode cX1_remove 3 = .ok (.invokevirtual 45, 3) := by decide +kernel
theorem dX1_remove_6 : decode cX1_remove 6 = .ok (.istore 4, 2) := by decide +kernel
theorem dX1_remove_8 : decode cX1_remove 8 = .ok (.aload_n 0, 1) := by decide +kernel
theorem dX1_remove_9 : decode cX1_remove 9 = .ok (.getfield 10, 3) := by decide +kernel
theorem dX1_remove_12 : decode cX1_remove 12 = .ok (.iload 4, 2) := by decide +kernel
theorem dX1_remove_14 : decode cX1_remove 14 = .ok (.invokevirtual 49, 3) := by decide +kernel
theorem dX1_remove_17 : decode cX1_remove 17 = .ok (.ifCond .ne 5, 3) := by decide +kernel
theorem dX1_remove_20 : decode cX1_remove 20 = .ok (.iconst 0, 1) := by decide +kernel
theorem dX1_remove_21 : decode cX1_remove 21 = .ok (.ireturn, 1) := by decide +kernel
theorem dX1_remove_22 : decode cX1_remove 22 = .ok (.aload_n 0, 1) := by decide +kernel
theorem dX1_remove_23 : decode cX1_remove 23 = .ok (.getfield 10, 3) := by decide +kernel
theorem dX1_remove_26 : decode cX1_remove 26 = .ok (.iload 4, 2) := by decide +kernel
theorem dX1_remove_28 : decode cX1_remove 28 = .ok (.invokevirtual 52, 3) := by decide +kernel
theorem dX1_remove_31 : decode cX1_remove 31 = .ok (.iconst 1, 1) := by decide +kernel
theorem dX1_remove_32 : decode cX1_remove 32 = .ok (.ireturn, 1) := by decide +kernel
set_option maxRecDepth 20000 in
theorem ggX1_length_X1_placeOf : GoodIn wsX1_length wsX1_placeOf := goodIn_r _ [7, 1, 8, 9, 6, 10, 11, 12, 13, 14, 15, 16, 17, 18, 19, 20, 21, 22, 23, 24, 25, 26, 27, 28, 29, 30, 31, 32, 33, 34, 35, 36, 37, 39, 40, 41, 42, 43, 44, 45, 46, 47] (by decide +kernel) (by decide +kernel)
set_option maxRecDepth 20000 in
theorem gX1_length_X1_placeOf : GoodIn wsX1_length (wsV RX1 45 RX1 yX1_placeOf wsX1_placeOf) := goodIn_app (goodIn_of _ (by decide +kernel)) ggX1_length_X1_placeOf
set_option maxRecDepth 20000 in
theorem ggX1_length_X0_has : GoodIn wsX1_length wsX0_has := goodIn_r _ [32, 33, 43, 44, 45, 46, 47] (by decide +kernel) (by decide +kernel)
set_option maxRecDepth 20000 in
theorem gX1_length_X0_has : GoodIn wsX1_length (wsV RX1 49 RX0 yX0_has wsX0_has) := goodIn_app (goodIn_of _ (by decide +kernel)) ggX1_length_X0_has
theorem dX1_length_0 : decode cX1_length 0 = .ok (.aload_n 0, 1) := by decide +kernel
theorem dX1_length_1 : decode cX1_length 1 = .ok (.lload_n 1, 1) := by decide +kernel
theorem dX1_length_2 : decode cX1_length 2 = .ok (.iload_n 3, 1) := by decide +kernel
theorem dX1_length_3 : decode cX1_length 3 = .ok (.invokevirtual 45, 3) := by decide +kernel
theorem dX1_length_6 : decode cX1_length 6 = .ok (.istore 4, 2) := by decide +kernel
theorem dX1_length_8 : decode cX1_length 8 = .ok (.aload_n 0, 1) := by decide +kernel
theorem dX1_length_9 : decode cX1_length 9 = .ok (.getfield 10, 3) := by decide +kernel
theorem dX1_length_12 : decode cX1_length 12 = .ok (.iload 4, 2) := by decide +kernel
theorem dX1_length_14 : decode cX1_length 14 = .ok (.invokevirtual 49, 3) := by decide +kernel
theorem dX1_length_17 : decode cX1_length 17 = .ok (.ifCond .eq 16, 3) := by decide +kernel
theorem dX1_length_20 : decode cX1_length 20 = .ok (.aload_n 0, 1) := by decide +kernel
theorem dX1_length_21 : decode cX1_length 21 = .ok (.getfield 10, 3) := by decide +kernel
theorem dX1_length_24 : decode cX1_length 24 = .ok (.getfield 56, 3) := by decide +kernel
theorem dX1_length_27 : decode cX1_length 27 = .ok (.iload 4, 2) := by decide +kernel
theorem dX1_length_29 : decode cX1_length 29 = .ok (.iaload, 1) := by decide +kernel
theorem dX1_length_30 : decode cX1_length 30 = .ok (.goto 4, 3) := by decide +kernel
theorem dX1_length_33 : decode cX1_length 33 = .ok (.iconst (-1), 1) := by decide +kernel
theorem dX1_length_34 : decode cX1_length 34 = .ok (.ireturn, 1) := by decide +kernel
set_option maxRecDepth 20000 in
theorem ggX1_text_X1_placeOf : GoodIn wsX1_text wsX1_placeOf := goodIn_r _ [7, 1, 8, 9, 6, 10, 11, 12, 13, 14, 15, 16, 17, 18, 19, 20, 21, 22, 23, 24, 25, 26, 27, 28, 29, 30, 31, 32, 33, 34, 35, 36, 37, 39, 40, 41, 42, 43, 44, 45, 46, 47] (by decide +kernel) (by decide +kernel)
set_option maxRecDepth 20000 in
theorem gX1_text_X1_placeOf : GoodIn wsX1_text (wsV RX1 45 RX1 yX1_placeOf wsX1_placeOf) := goodIn_app (goodIn_of _ (by decide +kernel)) ggX1_text_X1_placeOf
set_option maxRecDepth 20000 in
theorem ggX1_text_X0_has : GoodIn wsX1_text wsX0_has := goodIn_r _ [32, 33, 43, 44, 45, 46, 47] (by decide +kernel) (by decide +kernel)
set_option maxRecDepth 20000 in
theorem gX1_text_X0_has : GoodIn wsX1_text (wsV RX1 49 RX0 yX0_has wsX0_has) := goodIn_app (goodIn_of _ (by decide +kernel)) ggX1_text_X0_has
theorem dX1_text_0 : decode cX1_text 0 = .ok (.aload_n 0, 1) := by decide +kernel
theorem dX1_text_1 : decode cX1_text 1 = .ok (.lload_n 1, 1) := by decide +kernel
theorem dX1_text_2 : decode cX1_text 2 = .ok (.iload_n 3, 1) := by decide +kernel
theorem dX1_text_3 : decode cX1_text 3 = .ok (.invokevirtual 45, 3) := by decide +kernel
theorem dX1_text_6 : decode cX1_text 6 = .ok (.istore 4, 2) := by decide +kernel
theorem dX1_text_8 : decode cX1_text 8 = .ok (.aload_n 0, 1) := by decide +kernel
theorem dX1_text_9 : decode cX1_text 9 = .ok (.getfield 10, 3) := by decide +kernel
theorem dX1_text_12 : decode cX1_text 12 = .ok (.iload 4, 2) := by decide +kernel
theorem dX1_text_14 : decode cX1_text 14 = .ok (.invokevirtual 49, 3) := by decide +kernel
theorem dX1_text_17 : decode cX1_text 17 = .ok (.ifCond .eq 16, 3) := by decide +kernel
theorem dX1_text_20 : decode cX1_text 20 = .ok (.aload_n 0, 1) := by decide +kernel
theorem dX1_text_21 : decode cX1_text 21 = .ok (.getfield 10, 3) := by decide +kernel
theorem dX1_text_24 : decode cX1_text 24 = .ok (.getfield 60, 3) := by decide +kernel
theorem dX1_text_27 : decode cX1_text 27 = .ok (.iload 4, 2) := by decide +kernel
theorem dX1_text_29 : decode cX1_text 29 = .ok (.laload, 1) := by decide +kernel
theorem dX1_text_30 : decode cX1_text 30 = .ok (.goto 4, 3) := by decide +kernel
theorem dX1_text_33 : decode cX1_text 33 = .ok (.lconst 0, 1) := by decide +kernel
theorem dX1_text_34 : decode cX1_text 34 = .ok (.lreturn, 1) := by decide +kernel
set_option maxRecDepth 20000 in
theorem ggX1_seek_X1_isKeySize : GoodIn wsX1_seek wsX1_isKeySize := goodIn_r _ [5] (by decide +kernel) (by decide +kernel)
set_option maxRecDepth 20000 in
theorem gX1_seek_X1_isKeySize : GoodIn wsX1_seek (va_wsS RX1 27 yX1_isKeySize wsX1_isKeySize) := goodIn_app (goodIn_of _ (by decide +kernel)) ggX1_seek_X1_isKeySize
set_option maxRecDepth 20000 in
theorem ggX1_seek_X1_noteFound : GoodIn wsX1_seek wsX1_noteFound := goodIn_r _ [9, 1, 10, 11, 12, 13, 14, 15, 16, 17, 18, 19, 20, 21, 4, 22, 38, 39, 40, 41, 42, 43, 44, 45, 46] (by decide +kernel) (by decide +kernel)
set_option maxRecDepth 20000 in
theorem gX1_seek_X1_noteFound : GoodIn wsX1_seek (wsV RX1 64 RX1 yX1_noteFound wsX1_noteFound) := goodIn_app (goodIn_of _ (by decide +kernel)) ggX1_seek_X1_noteFound
set_option maxRecDepth 20000 in
theorem ggX1_seek_X1_headOf : GoodIn wsX1_seek wsX1_headOf := goodIn_r _ [25, 20, 21, 4, 22] (by decide +kernel) (by decide +kernel)
set_option maxRecDepth 20000 in
theorem gX1_seek_X1_headOf : GoodIn wsX1_seek (va_wsS RX1 34 yX1_headOf wsX1_headOf) := goodIn_app (goodIn_of _ (by decide +kernel)) ggX1_seek_X1_headOf
set_option maxRecDepth 20000 in
theorem ggX1_seek_X0_firstNotBefore : GoodIn wsX1_seek wsX0_firstNotBefore := goodIn_r _ [29, 30, 31, 32, 17, 33, 34, 35, 36, 37, 15, 16, 18, 19, 42, 43, 44, 45, 46] (by decide +kernel) (by decide +kernel)
set_option maxRecDepth 20000 in
theorem gX1_seek_X0_firstNotBefore : GoodIn wsX1_seek (wsV RX1 67 RX0 yX0_firstNotBefore wsX0_firstNotBefore) := goodIn_app (goodIn_of _ (by decide +kernel)) ggX1_seek_X0_firstNotBefore
theorem dX1_seek_0 : decode cX1_seek 0 = .ok (.iload_n 3, 1) := by decide +kernel
theorem dX1_seek_1 : decode cX1_seek 1 = .ok (.invokestatic 27, 3) := by decide +kernel
theorem dX1_seek_4 : decode cX1_seek 4 = .ok (.ifCond .ne 9, 3) := by decide +kernel
theorem dX1_seek_7 : decode cX1_seek 7 = .ok (.aload_n 0, 1) := by decide +kernel
theorem dX1_seek_8 : decode cX1_seek 8 = .ok (.iconst (-1), 1) := by decide +kernel
theorem dX1_seek_9 : decode cX1_seek 9 = .ok (.invokevirtual 64, 3) := by decide +kernel
theorem dX1_seek_12 : decode cX1_seek 12 = .ok (.ireturn, 1) := by decide +kernel
theorem dX1_seek_13 : decode cX1_seek 13 = .ok (.aload_n 0, 1) := by decide +kernel
theorem dX1_seek_14 : decode cX1_seek 14 = .ok (.aload_n 0, 1) := by decide +kernel
theorem dX1_seek_15 : decode cX1_seek 15 = .ok (.getfield 10, 3) := by decide +kernel
theorem dX1_seek_18 : decode cX1_seek 18 = .ok (.lload_n 1, 1) := by decide +kernel
theorem dX1_seek_19 : decode cX1_seek 19 = .ok (.iload_n 3, 1) := by decide +kernel
theorem dX1_seek_20 : decode cX1_seek 20 = .ok (.invokestatic 34, 3) := by decide +kernel
theorem dX1_seek_23 : decode cX1_seek 23 = .ok (.iload_n 3, 1) := by decide +kernel
theorem dX1_seek_24 : decode cX1_seek 24 = .ok (.invokevirtual 67, 3) := by decide +kernel
theorem dX1_seek_27 : decode cX1_seek 27 = .ok (.invokevirtual 64, 3) := by decide +kernel
theorem dX1_seek_30 : decode cX1_seek 30 = .ok (.ireturn, 1) := by decide +kernel
set_option maxRecDepth 20000 in
theorem ggX1_before_X1_isKeySize : GoodIn wsX1_before wsX1_isKeySize := goodIn_r _ [5] (by decide +kernel) (by decide +kernel)
set_option maxRecDepth 20000 in
theorem gX1_before_X1_isKeySize : GoodIn wsX1_before (va_wsS RX1 27 yX1_isKeySize wsX1_isKeySize) := goodIn_app (goodIn_of _ (by decide +kernel)) ggX1_before_X1_isKeySize
set_option maxRecDepth 20000 in
theorem ggX1_before_X1_noteFound : GoodIn wsX1_before wsX1_noteFound := goodIn_r _ [9, 1, 10, 11, 12, 13, 14, 15, 16, 17, 18, 19, 20, 21, 4, 22, 38, 39, 40, 41, 42, 43, 44, 45, 46] (by decide +kernel) (by decide +kernel)
set_option maxRecDepth 20000 in
theorem gX1_before_X1_noteFound : GoodIn wsX1_before (wsV RX1 64 RX1 yX1_noteFound wsX1_noteFound) := goodIn_app (goodIn_of _ (by decide +kernel)) ggX1_before_X1_noteFound
set_option maxRecDepth 20000 in
theorem ggX1_before_X1_headOf : GoodIn wsX1_before wsX1_headOf := goodIn_r _ [25, 20, 21, 4, 22] (by decide +kernel) (by decide +kernel)
set_option maxRecDepth 20000 in
theorem gX1_before_X1_headOf : GoodIn wsX1_before (va_wsS RX1 34 yX1_headOf wsX1_headOf) := goodIn_app (goodIn_of _ (by decide +kernel)) ggX1_before_X1_headOf
set_option maxRecDepth 20000 in
theorem ggX1_before_X0_firstNotBefore : GoodIn wsX1_before wsX0_firstNotBefore := goodIn_r _ [29, 30, 31, 32, 17, 33, 34, 35, 36, 37, 15, 16, 18, 19, 42, 43, 44, 45, 46] (by decide +kernel) (by decide +kernel)
set_option maxRecDepth 20000 in
theorem gX1_before_X0_firstNotBefore : GoodIn wsX1_before (wsV RX1 67 RX0 yX0_firstNotBefore wsX0_firstNotBefore) := goodIn_app (goodIn_of _ (by decide +kernel)) ggX1_before_X0_firstNotBefore
theorem dX1_before_0 : decode cX1_before 0 = .ok (.iload_n 3, 1) := by decide +kernel
theorem dX1_before_1 : decode cX1_before 1 = .ok (.invokestatic 27, 3) := by decide +kernel
theorem dX1_before_4 : decode cX1_before 4 = .ok (.ifCond .ne 9, 3) := by decide +kernel
theorem dX1_before_7 : decode cX1_before 7 = .ok (.aload_n 0, 1) := by decide +kernel
theorem dX1_before_8 : decode cX1_before 8 = .ok (.iconst (-1), 1) := by decide +kernel
theorem dX1_before_9 : decode cX1_before 9 = .ok (.invokevirtual 64, 3) := by decide +kernel
theorem dX1_before_12 : decode cX1_before 12 = .ok (.ireturn, 1) := by decide +kernel
theorem dX1_before_13 : decode cX1_before 13 = .ok (.aload_n 0, 1) := by decide +kernel
theorem dX1_before_14 : decode cX1_before 14 = .ok (.aload_n 0, 1) := by decide +kernel
theorem dX1_before_15 : decode cX1_before 15 = .ok (.getfield 10, 3) := by decide +kernel
theorem dX1_before_18 : decode cX1_before 18 = .ok (.lload_n 1, 1) := by decide +kernel
theorem dX1_before_19 : decode cX1_before 19 = .ok (.iload_n 3, 1) := by decide +kernel
theorem dX1_before_20 : decode cX1_before 20 = .ok (.invokestatic 34, 3) := by decide +kernel
theorem dX1_before_23 : decode cX1_before 23 = .ok (.iload_n 3, 1) := by decide +kernel
theorem dX1_before_24 : decode cX1_before 24 = .ok (.invokevirtual 67, 3) := by decide +kernel
theorem dX1_before_27 : decode cX1_before 27 = .ok (.iconst 1, 1) := by decide +kernel
theorem dX1_before_28 : decode cX1_before 28 = .ok (.isub, 1) := by decide +kernel
theorem dX1_before_29 : decode cX1_before 29 = .ok (.invokevirtual 64, 3) := by decide +kernel
theorem dX1_before_32 : decode cX1_before 32 = .ok (.ireturn, 1) := by decide +kernel
theorem dX1_foundSize_0 : decode cX1_foundSize 0 = .ok (.aload_n 0, 1) := by decide +kernel
theorem dX1_foundSize_1 : decode cX1_foundSize 1 = .ok (.getfield 23, 3) := by decide +kernel
theorem dX1_foundSize_4 : decode cX1_foundSize 4 = .ok (.ireturn, 1) := by decide +kernel
theorem dX1_found_0 : decode cX1_found 0 = .ok (.aload_n 0, 1) := by decide +kernel
theorem dX1_found_1 : decode cX1_found 1 = .ok (.getfield 19, 3) := by decide +kernel
theorem dX1_found_4 : decode cX1_found 4 = .ok (.lreturn, 1) := by decide +kernel
theorem dX1_count_0 : decode cX1_count 0 = .ok (.aload_n 0, 1) := by decide +kernel
theorem dX1_count_1 : decode cX1_count 1 = .ok (.getfield 10, 3) := by decide +kernel
theorem dX1_count_4 : decode cX1_count 4 = .ok (.getfield 70, 3) := by decide +kernel
theorem dX1_count_7 : decode cX1_count 7 = .ok (.ireturn, 1) := by decide +kernel
set_option maxRecDepth 20000 in
theorem ggX1_commit_X0_copyFrom : GoodIn wsX1_commit wsX0_copyFrom := goodIn_r _ [7, 8, 9, 10, 11, 12, 13, 14, 15, 16, 21, 22, 23, 24, 25] (by decide +kernel) (by decide +kernel)
set_option maxRecDepth 20000 in
theorem gX1_commit_X0_copyFrom : GoodIn wsX1_commit (wsV RX1 73 RX0 yX0_copyFrom wsX0_copyFrom) := goodIn_app (goodIn_of _ (by decide +kernel)) ggX1_commit_X0_copyFrom
theorem dX1_commit_0 : decode cX1_commit 0 = .ok (.aload_n 0, 1) := by decide +kernel
theorem dX1_commit_1 : decode cX1_commit 1 = .ok (.getfield 16, 3) := by decide +kernel
theorem dX1_commit_4 : decode cX1_commit 4 = .ok (.aload_n 0, 1) := by decide +kernel
theorem dX1_commit_5 : decode cX1_commit 5 = .ok (.getfield 10, 3) := by decide +kernel
theorem dX1_commit_8 : decode cX1_commit 8 = .ok (.invokevirtual 73, 3) := by decide +kernel
theorem dX1_commit_11 : decode cX1_commit 11 = .ok (.return_, 1) := by decide +kernel
set_option maxRecDepth 20000 in
theorem ggX1_revert_X0_copyFrom : GoodIn wsX1_revert wsX0_copyFrom := goodIn_r _ [7, 8, 9, 10, 11, 12, 13, 14, 15, 16, 21, 22, 23, 24, 25] (by decide +kernel) (by decide +kernel)
set_option maxRecDepth 20000 in
theorem gX1_revert_X0_copyFrom : GoodIn wsX1_revert (wsV RX1 73 RX0 yX0_copyFrom wsX0_copyFrom) := goodIn_app (goodIn_of _ (by decide +kernel)) ggX1_revert_X0_copyFrom
theorem dX1_revert_0 : decode cX1_revert 0 = .ok (.aload_n 0, 1) := by decide +kernel
theorem dX1_revert_1 : decode cX1_revert 1 = .ok (.getfield 10, 3) := by decide +kernel
theorem dX1_revert_4 : decode cX1_revert 4 = .ok (.aload_n 0, 1) := by decide +kernel
theorem dX1_revert_5 : decode cX1_revert 5 = .ok (.getfield 16, 3) := by decide +kernel
theorem dX1_revert_8 : decode cX1_revert 8 = .ok (.invokevirtual 73, 3) := by decide +kernel
theorem dX1_revert_11 : decode cX1_revert 11 = .ok (.return_, 1) := by decide +kernel
set_option maxRecDepth 20000 in
theorem ggX1_noteFound_X0_has : GoodIn wsX1_noteFound wsX0_has := goodIn_r _ [10, 11, 20, 21, 22, 23, 24] (by decide +kernel) (by decide +kernel)
set_option maxRecDepth 20000 in
theorem gX1_noteFound_X0_has : GoodIn wsX1_noteFound (wsV RX1 49 RX0 yX0_has wsX0_has) := goodIn_app (goodIn_of _ (by decide +kernel)) ggX1_noteFound_X0_has
set_option maxRecDepth 20000 in
theorem ggX1_noteFound_X1_unusedBits : GoodIn wsX1_noteFound wsX1_unusedBits := goodIn_r _ [15] (by decide +kernel) (by decide +kernel)
set_option maxRecDepth 20000 in
theorem gX1_noteFound_X1_unusedBits : GoodIn wsX1_noteFound (va_wsS RX1 83 yX1_unusedBits wsX1_unusedBits) := goodIn_app (goodIn_of _ (by decide +kernel)) ggX1_noteFound_X1_unusedBits
theorem dX1_noteFound_0 : decode cX1_noteFound 0 = .ok (.aload_n 0, 1) := by decide +kernel
theorem dX1_noteFound_1 : decode cX1_noteFound 1 = .ok (.getfield 10, 3) := by decide +kernel
theorem dX1_noteFound_4 : decode cX1_noteFound 4 = .ok (.iload_n 1, 1) := by decide +kernel
theorem dX1_noteFound_5 : decode cX1_noteFound 5 = .ok (.invokevirtual 49, 3) := by decide +kernel
theorem dX1_noteFound_8 : decode cX1_noteFound 8 = .ok (.ifCond .ne 15, 3) := by decide +kernel
theorem dX1_noteFound_11 : decode cX1_noteFound 11 = .ok (.aload_n 0, 1) := by decide +kernel
theorem dX1_noteFound_12 : decode cX1_noteFound 12 = .ok (.lconst 0, 1) := by decide +kernel
theorem dX1_noteFound_13 : decode cX1_noteFound 13 = .ok (.putfield 19, 3) := by decide +kernel
theorem dX1_noteFound_16 : decode cX1_noteFound 16 = .ok (.aload_n 0, 1) := by decide +kernel
theorem dX1_noteFound_17 : decode cX1_noteFound 17 = .ok (.iconst 0, 1) := by decide +kernel
theorem dX1_noteFound_18 : decode cX1_noteFound 18 = .ok (.putfield 23, 3) := by decide +kernel
theorem dX1_noteFound_21 : decode cX1_noteFound 21 = .ok (.iconst 0, 1) := by decide +kernel
theorem dX1_noteFound_22 : decode cX1_noteFound 22 = .ok (.ireturn, 1) := by decide +kernel
theorem dX1_noteFound_23 : decode cX1_noteFound 23 = .ok (.aload_n 0, 1) := by decide +kernel
theorem dX1_noteFound_24 : decode cX1_noteFound 24 = .ok (.aload_n 0, 1) := by decide +kernel
theorem dX1_noteFound_25 : decode cX1_noteFound 25 = .ok (.getfield 10, 3) := by decide +kernel
theorem dX1_noteFound_28 : decode cX1_noteFound 28 = .ok (.getfield 77, 3) := by decide +kernel
theorem dX1_noteFound_31 : decode cX1_noteFound 31 = .ok (.iload_n 1, 1) := by decide +kernel
theorem dX1_noteFound_32 : decode cX1_noteFound 32 = .ok (.iaload, 1) := by decide +kernel
theorem dX1_noteFound_33 : decode cX1_noteFound 33 = .ok (.putfield 23, 3) := by decide +kernel
theorem dX1_noteFound_36 : decode cX1_noteFound 36 = .ok (.aload_n 0, 1) := by decide +kernel
theorem dX1_noteFound_37 : decode cX1_noteFound 37 = .ok (.aload_n 0, 1) := by decide +kernel
theorem dX1_noteFound_38 : decode cX1_noteFound 38 = .ok (.getfield 10, 3) := by decide +kernel
theorem dX1_noteFound_41 : decode cX1_noteFound 41 = .ok (.getfield 80, 3) := by decide +kernel
theorem dX1_noteFound_44 : decode cX1_noteFound 44 = .ok (.iload_n 1, 1) := by decide +kernel
theorem dX1_noteFound_45 : decode cX1_noteFound 45 = .ok (.laload, 1) := by decide +kernel
theorem dX1_noteFound_46 : decode cX1_noteFound 46 = .ok (.aload_n 0, 1) := by decide +kernel
theorem dX1_noteFound_47 : decode cX1_noteFound 47 = .ok (.getfield 23, 3) := by decide +kernel
theorem dX1_noteFound_50 : decode cX1_noteFound 50 = .ok (.invokestatic 83, 3) := by decide +kernel
theorem dX1_noteFound_53 : decode cX1_noteFound 53 = .ok (.lushr, 1) := by decide +kernel
theorem dX1_noteFound_54 : decode cX1_noteFound 54 = .ok (.putfield 19, 3) := by decide +kernel
theorem dX1_noteFound_57 : decode cX1_noteFound 57 = .ok (.iconst 1, 1) := by decide +kernel
theorem dX1_noteFound_58 : decode cX1_noteFound 58 = .ok (.ireturn, 1) := by decide +kernel
set_option maxRecDepth 20000 in
theorem ggX1_placeOf_X1_isKeySize : GoodIn wsX1_placeOf wsX1_isKeySize := goodIn_r _ [5] (by decide +kernel) (by decide +kernel)
set_option maxRecDepth 20000 in
theorem gX1_placeOf_X1_isKeySize : GoodIn wsX1_placeOf (va_wsS RX1 27 yX1_isKeySize wsX1_isKeySize) := goodIn_app (goodIn_of _ (by decide +kernel)) ggX1_placeOf_X1_isKeySize
set_option maxRecDepth 20000 in
theorem ggX1_placeOf_X1_headOf : GoodIn wsX1_placeOf wsX1_headOf := goodIn_r _ [8, 9, 10, 4, 11] (by decide +kernel) (by decide +kernel)
set_option maxRecDepth 20000 in
theorem gX1_placeOf_X1_headOf : GoodIn wsX1_placeOf (va_wsS RX1 34 yX1_headOf wsX1_headOf) := goodIn_app (goodIn_of _ (by decide +kernel)) ggX1_placeOf_X1_headOf
set_option maxRecDepth 20000 in
theorem ggX1_placeOf_X0_firstNotBefore : GoodIn wsX1_placeOf wsX0_firstNotBefore := goodIn_r _ [16, 17, 18, 19, 15, 20, 21, 22, 23, 24, 25, 26, 27, 28, 37, 38, 39, 40, 41] (by decide +kernel) (by decide +kernel)
set_option maxRecDepth 20000 in
theorem gX1_placeOf_X0_firstNotBefore : GoodIn wsX1_placeOf (wsV RX1 67 RX0 yX0_firstNotBefore wsX0_firstNotBefore) := goodIn_app (goodIn_of _ (by decide +kernel)) ggX1_placeOf_X0_firstNotBefore
set_option maxRecDepth 20000 in
theorem ggX1_placeOf_X0_holds : GoodIn wsX1_placeOf wsX0_holds := goodIn_r _ [32, 21, 23, 24, 25, 26, 15, 27, 28, 37, 38, 39, 40, 41] (by decide +kernel) (by decide +kernel)
set_option maxRecDepth 20000 in
theorem gX1_placeOf_X0_holds : GoodIn wsX1_placeOf (wsV RX1 87 RX0 yX0_holds wsX0_holds) := goodIn_app (goodIn_of _ (by decide +kernel)) ggX1_placeOf_X0_holds
theorem dX1_placeOf_0 : decode cX1_placeOf 0 = .ok (.iload_n 3, 1) := by decide +kernel
theorem dX1_placeOf_1 : decode cX1_placeOf 1 = .ok (.invokestatic 27, 3) := by decide +kernel
theorem dX1_placeOf_4 : decode cX1_placeOf 4 = .ok (.ifCond .ne 5, 3) := by decide +kernel
theorem dX1_placeOf_7 : decode cX1_placeOf 7 = .ok (.iconst (-1), 1) := by decide +kernel
theorem dX1_placeOf_8 : decode cX1_placeOf 8 = .ok (.ireturn, 1) := by decide +kernel
theorem dX1_placeOf_9 : decode cX1_placeOf 9 = .ok (.lload_n 1, 1) := by decide +kernel
theorem dX1_placeOf_10 : decode cX1_placeOf 10 = .ok (.iload_n 3, 1) := by decide +kernel
theorem dX1_placeOf_11 : decode cX1_placeOf 11 = .ok (.invokestatic 34, 3) := by decide +kernel
theorem dX1_placeOf_14 : decode cX1_placeOf 14 = .ok (.lstore 4, 2) := by decide +kernel
theorem dX1_placeOf_16 : decode cX1_placeOf 16 = .ok (.aload_n 0, 1) := by decide +kernel
theorem dX1_placeOf_17 : decode cX1_placeOf 17 = .ok (.getfield 10, 3) := by decide +kernel
theorem dX1_placeOf_20 : decode cX1_placeOf 20 = .ok (.lload 4, 2) := by decide +kernel
theorem dX1_placeOf_22 : decode cX1_placeOf 22 = .ok (.iload_n 3, 1) := by decide +kernel
theorem dX1_placeOf_23 : decode cX1_placeOf 23 = .ok (.invokevirtual 67, 3) := by decide +kernel
theorem dX1_placeOf_26 : decode cX1_placeOf 26 = .ok (.istore 6, 2) := by decide +kernel
theorem dX1_placeOf_28 : decode cX1_placeOf 28 = .ok (.aload_n 0, 1) := by decide +kernel
theorem dX1_placeOf_29 : decode cX1_placeOf 29 = .ok (.getfield 10, 3) := by decide +kernel
theorem dX1_placeOf_32 : decode cX1_placeOf 32 = .ok (.iload 6, 2) := by decide +kernel
theorem dX1_placeOf_34 : decode cX1_placeOf 34 = .ok (.lload 4, 2) := by decide +kernel
theorem dX1_placeOf_36 : decode cX1_placeOf 36 = .ok (.iload_n 3, 1) := by decide +kernel
theorem dX1_placeOf_37 : decode cX1_placeOf 37 = .ok (.invokevirtual 87, 3) := by decide +kernel
theorem dX1_placeOf_40 : decode cX1_placeOf 40 = .ok (.ifCond .eq 8, 3) := by decide +kernel
theorem dX1_placeOf_43 : decode cX1_placeOf 43 = .ok (.iload 6, 2) := by decide +kernel
theorem dX1_placeOf_45 : decode cX1_placeOf 45 = .ok (.goto 4, 3) := by decide +kernel
theorem dX1_placeOf_48 : decode cX1_placeOf 48 = .ok (.iconst (-1), 1) := by decide +kernel
theorem dX1_placeOf_49 : decode cX1_placeOf 49 = .ok (.ireturn, 1) := by decide +kernel
theorem dX1_isKeySize_0 : decode cX1_isKeySize 0 = .ok (.iload_n 0, 1) := by decide +kernel
theorem dX1_isKeySize_1 : decode cX1_isKeySize 1 = .ok (.iconst 1, 1) := by decide +kernel
theorem dX1_isKeySize_2 : decode cX1_isKeySize 2 = .ok (.if_icmp .lt 13, 3) := by decide +kernel
theorem dX1_isKeySize_5 : decode cX1_isKeySize 5 = .ok (.iload_n 0, 1) := by decide +kernel
theorem dX1_isKeySize_6 : decode cX1_isKeySize 6 = .ok (.bipush 8, 2) := by decide +kernel
theorem dX1_isKeySize_8 : decode cX1_isKeySize 8 = .ok (.if_icmp .gt 7, 3) := by decide +kernel
theorem dX1_isKeySize_11 : decode cX1_isKeySize 11 = .ok (.iconst 1, 1) := by decide +kernel
theorem dX1_isKeySize_12 : decode cX1_isKeySize 12 = .ok (.goto 4, 3) := by decide +kernel
theorem dX1_isKeySize_15 : decode cX1_isKeySize 15 = .ok (.iconst 0, 1) := by decide +kernel
theorem dX1_isKeySize_16 : decode cX1_isKeySize 16 = .ok (.ireturn, 1) := by decide +kernel
theorem dX1_isTextLength_0 : decode cX1_isTextLength 0 = .ok (.iload_n 0, 1) := by decide +kernel
theorem dX1_isTextLength_1 : decode cX1_isTextLength 1 = .ok (.ifCond .lt 13, 3) := by decide +kernel
theorem dX1_isTextLength_4 : decode cX1_isTextLength 4 = .ok (.iload_n 0, 1) := by decide +kernel
theorem dX1_isTextLength_5 : decode cX1_isTextLength 5 = .ok (.bipush 8, 2) := by decide +kernel
theorem dX1_isTextLength_7 : decode cX1_isTextLength 7 = .ok (.if_icmp .gt 7, 3) := by decide +kernel
theorem dX1_isTextLength_10 : decode cX1_isTextLength 10 = .ok (.iconst 1, 1) := by decide +kernel
theorem dX1_isTextLength_11 : decode cX1_isTextLength 11 = .ok (.goto 4, 3) := by decide +kernel
theorem dX1_isTextLength_14 : decode cX1_isTextLength 14 = .ok (.iconst 0, 1) := by decide +kernel
theorem dX1_isTextLength_15 : decode cX1_isTextLength 15 = .ok (.ireturn, 1) := by decide +kernel
set_option maxRecDepth 20000 in
theorem ggX1_headOf_X1_unusedBits : GoodIn wsX1_headOf wsX1_unusedBits := goodIn_r _ [4] (by decide +kernel) (by decide +kernel)
set_option maxRecDepth 20000 in
theorem gX1_headOf_X1_unusedBits : GoodIn wsX1_headOf (va_wsS RX1 83 yX1_unusedBits wsX1_unusedBits) := goodIn_app (goodIn_of _ (by decide +kernel)) ggX1_headOf_X1_unusedBits
theorem dX1_headOf_0 : decode cX1_headOf 0 = .ok (.lload_n 0, 1) := by decide +kernel
theorem dX1_headOf_1 : decode cX1_headOf 1 = .ok (.iload_n 2, 1) := by decide +kernel
theorem dX1_headOf_2 : decode cX1_headOf 2 = .ok (.invokestatic 83, 3) := by decide +kernel
theorem dX1_headOf_5 : decode cX1_headOf 5 = .ok (.lshl, 1) := by decide +kernel
theorem dX1_headOf_6 : decode cX1_headOf 6 = .ok (.lreturn, 1) := by decide +kernel
set_option maxRecDepth 20000 in
theorem ggX1_lowestBytes_X1_unusedBits : GoodIn wsX1_lowestBytes wsX1_unusedBits := goodIn_r _ [5] (by decide +kernel) (by decide +kernel)
set_option maxRecDepth 20000 in
theorem gX1_lowestBytes_X1_unusedBits : GoodIn wsX1_lowestBytes (va_wsS RX1 83 yX1_unusedBits wsX1_unusedBits) := goodIn_app (goodIn_of _ (by decide +kernel)) ggX1_lowestBytes_X1_unusedBits
theorem dX1_lowestBytes_0 : decode cX1_lowestBytes 0 = .ok (.iload_n 2, 1) := by decide +kernel
theorem dX1_lowestBytes_1 : decode cX1_lowestBytes 1 = .ok (.ifCond .ne 7, 3) := by decide +kernel
theorem dX1_lowestBytes_4 : decode cX1_lowestBytes 4 = .ok (.lconst 0, 1) := by decide +kernel
theorem dX1_lowestBytes_5 : decode cX1_lowestBytes 5 = .ok (.goto 13, 3) := by decide +kernel
theorem dX1_lowestBytes_8 : decode cX1_lowestBytes 8 = .ok (.lload_n 0, 1) := by decide +kernel
theorem dX1_lowestBytes_9 : decode cX1_lowestBytes 9 = .ok (.ldc2_w 91, 3) := by decide +kernel
theorem dX1_lowestBytes_12 : decode cX1_lowestBytes 12 = .ok (.iload_n 2, 1) := by decide +kernel
theorem dX1_lowestBytes_13 : decode cX1_lowestBytes 13 = .ok (.invokestatic 83, 3) := by decide +kernel
theorem dX1_lowestBytes_16 : decode cX1_lowestBytes 16 = .ok (.lushr, 1) := by decide +kernel
theorem dX1_lowestBytes_17 : decode cX1_lowestBytes 17 = .ok (.land, 1) := by decide +kernel
theorem dX1_lowestBytes_18 : decode cX1_lowestBytes 18 = .ok (.lreturn, 1) := by decide +kernel
theorem dX1_unusedBits_0 : decode cX1_unusedBits 0 = .ok (.bipush 64, 2) := by decide +kernel
theorem dX1_unusedBits_2 : decode cX1_unusedBits 2 = .ok (.bipush 8, 2) := by decide +kernel
theorem dX1_unusedBits_4 : decode cX1_unusedBits 4 = .ok (.iload_n 0, 1) := by decide +kernel
theorem dX1_unusedBits_5 : decode cX1_unusedBits 5 = .ok (.imul, 1) := by decide +kernel
theorem dX1_unusedBits_6 : decode cX1_unusedBits 6 = .ok (.isub, 1) := by decide +kernel
theorem dX1_unusedBits_7 : decode cX1_unusedBits 7 = .ok (.ireturn, 1) := by decide +kernel
theorem dX2_init_0 : decode cX2_init 0 = .ok (.aload_n 0, 1) := by decide +kernel
theorem dX2_init_1 : decode cX2_init 1 = .ok (.invokespecial 1, 3) := by decide +kernel
theorem dX2_init_4 : decode cX2_init 4 = .ok (.aload_n 0, 1) := by decide +kernel
theorem dX2_init_5 : decode cX2_init 5 = .ok (.sipush 151, 3) := by decide +kernel
theorem dX2_init_8 : decode cX2_init 8 = .ok (.newarray .long, 2) := by decide +kernel
theorem dX2_init_10 : decode cX2_init 10 = .ok (.putfield 7, 3) := by decide +kernel
theorem dX2_init_13 : decode cX2_init 13 = .ok (.aload_n 0, 1) := by decide +kernel
theorem dX2_init_14 : decode cX2_init 14 = .ok (.sipush 151, 3) := by decide +kernel
theorem dX2_init_17 : decode cX2_init 17 = .ok (.newarray .long, 2) := by decide +kernel
theorem dX2_init_19 : decode cX2_init 19 = .ok (.putfield 13, 3) := by decide +kernel
theorem dX2_init_22 : decode cX2_init 22 = .ok (.aload_n 0, 1) := by decide +kernel
theorem dX2_init_23 : decode cX2_init 23 = .ok (.sipush 150, 3) := by decide +kernel
theorem dX2_init_26 : decode cX2_init 26 = .ok (.newarray .long, 2) := by decide +kernel
theorem dX2_init_28 : decode cX2_init 28 = .ok (.putfield 16, 3) := by decide +kernel
theorem dX2_init_31 : decode cX2_init 31 = .ok (.aload_n 0, 1) := by decide +kernel
theorem dX2_init_32 : decode cX2_init 32 = .ok (.sipush 150, 3) := by decide +kernel
theorem dX2_init_35 : decode cX2_init 35 = .ok (.newarray .long, 2) := by decide +kernel
theorem dX2_init_37 : decode cX2_init 37 = .ok (.putfield 19, 3) := by decide +kernel
theorem dX2_init_40 : decode cX2_init 40 = .ok (.aload_n 0, 1) := by decide +kernel
theorem dX2_init_41 : decode cX2_init 41 = .ok (.sipush 151, 3) := by decide +kernel
theorem dX2_init_44 : decode cX2_init 44 = .ok (.newarray .int, 2) := by decide +kernel
theorem dX2_init_46 : decode cX2_init 46 = .ok (.putfield 22, 3) := by decide +kernel
theorem dX2_init_49 : decode cX2_init 49 = .ok (.aload_n 0, 1) := by decide +kernel
theorem dX2_init_50 : decode cX2_init 50 = .ok (.sipush 151, 3) := by decide +kernel
theorem dX2_init_53 : decode cX2_init 53 = .ok (.newarray .int, 2) := by decide +kernel
theorem dX2_init_55 : decode cX2_init 55 = .ok (.putfield 26, 3) := by decide +kernel
theorem dX2_init_58 : decode cX2_init 58 = .ok (.aload_n 0, 1) := by decide +kernel
theorem dX2_init_59 : decode cX2_init 59 = .ok (.sipush 150, 3) := by decide +kernel
theorem dX2_init_62 : decode cX2_init 62 = .ok (.newarray .int, 2) := by decide +kernel
theorem dX2_init_64 : decode cX2_init 64 = .ok (.putfield 29, 3) := by decide +kernel
theorem dX2_init_67 : decode cX2_init 67 = .ok (.aload_n 0, 1) := by decide +kernel
theorem dX2_init_68 : decode cX2_init 68 = .ok (.sipush 150, 3) := by decide +kernel
theorem dX2_init_71 : decode cX2_init 71 = .ok (.newarray .int, 2) := by decide +kernel
theorem dX2_init_73 : decode cX2_init 73 = .ok (.putfield 32, 3) := by decide +kernel
theorem dX2_init_76 : decode cX2_init 76 = .ok (.return_, 1) := by decide +kernel
theorem dX2_isSize_0 : decode cX2_isSize 0 = .ok (.iload_n 0, 1) := by decide +kernel
theorem dX2_isSize_1 : decode cX2_isSize 1 = .ok (.iconst 1, 1) := by decide +kernel
theorem dX2_isSize_2 : decode cX2_isSize 2 = .ok (.if_icmp .lt 13, 3) := by decide +kernel
theorem dX2_isSize_5 : decode cX2_isSize 5 = .ok (.iload_n 0, 1) := by decide +kernel
theorem dX2_isSize_6 : decode cX2_isSize 6 = .ok (.bipush 8, 2) := by decide +kernel
theorem dX2_isSize_8 : decode cX2_isSize 8 = .ok (.if_icmp .gt 7, 3) := by decide +kernel
theorem dX2_isSize_11 : decode cX2_isSize 11 = .ok (.iconst 1, 1) := by decide +kernel
theorem dX2_isSize_12 : decode cX2_isSize 12 = .ok (.goto 4, 3) := by decide +kernel
theorem dX2_isSize_15 : decode cX2_isSize 15 = .ok (.iconst 0, 1) := by decide +kernel
theorem dX2_isSize_16 : decode cX2_isSize 16 = .ok (.ireturn, 1) := by decide +kernel
theorem dX2_cut_0 : decode cX2_cut 0 = .ok (.iload_n 2, 1) := by decide +kernel
theorem dX2_cut_1 : decode cX2_cut 1 = .ok (.bipush 8, 2) := by decide +kernel
theorem dX2_cut_3 : decode cX2_cut 3 = .ok (.if_icmp .ne 7, 3) := by decide +kernel
theorem dX2_cut_6 : decode cX2_cut 6 = .ok (.lload_n 0, 1) := by decide +kernel
theorem dX2_cut_7 : decode cX2_cut 7 = .ok (.goto 13, 3) := by decide +kernel
theorem dX2_cut_10 : decode cX2_cut 10 = .ok (.lload_n 0, 1) := by decide +kernel
theorem dX2_cut_11 : decode cX2_cut 11 = .ok (.lconst 1, 1) := by decide +kernel
theorem dX2_cut_12 : decode cX2_cut 12 = .ok (.bipush 8, 2) := by decide +kernel
theorem dX2_cut_14 : decode cX2_cut 14 = .ok (.iload_n 2, 1) := by decide +kernel
theorem dX2_cut_15 : decode cX2_cut 15 = .ok (.imul, 1) := by decide +kernel
theorem dX2_cut_16 : decode cX2_cut 16 = .ok (.lshl, 1) := by decide +kernel
theorem dX2_cut_17 : decode cX2_cut 17 = .ok (.lconst 1, 1) := by decide +kernel
theorem dX2_cut_18 : decode cX2_cut 18 = .ok (.lsub, 1) := by decide +kernel
theorem dX2_cut_19 : decode cX2_cut 19 = .ok (.land, 1) := by decide +kernel
theorem dX2_cut_20 : decode cX2_cut 20 = .ok (.lreturn, 1) := by decide +kernel
theorem dX2_at_0 : decode cX2_at 0 = .ok (.iload_n 3, 1) := by decide +kernel
theorem dX2_at_1 : decode cX2_at 1 = .ok (.iload_n 2, 1) := by decide +kernel
theorem dX2_at_2 : decode cX2_at 2 = .ok (.if_icmp .ge 21, 3) := by decide +kernel
theorem dX2_at_5 : decode cX2_at 5 = .ok (.lload_n 0, 1) := by decide +kernel
theorem dX2_at_6 : decode cX2_at 6 = .ok (.bipush 8, 2) := by decide +kernel
theorem dX2_at_8 : decode cX2_at 8 = .ok (.iload_n 2, 1) := by decide +kernel
theorem dX2_at_9 : decode cX2_at 9 = .ok (.iconst 1, 1) := by decide +kernel
theorem dX2_at_10 : decode cX2_at 10 = .ok (.isub, 1) := by decide +kernel
theorem dX2_at_11 : decode cX2_at 11 = .ok (.iload_n 3, 1) := by decide +kernel
theorem dX2_at_12 : decode cX2_at 12 = .ok (.isub, 1) := by decide +kernel
theorem dX2_at_13 : decode cX2_at 13 = .ok (.imul, 1) := by decide +kernel
theorem dX2_at_14 : decode cX2_at 14 = .ok (.lshr, 1) := by decide +kernel
theorem dX2_at_15 : decode cX2_at 15 = .ok (.ldc2_w 35, 3) := by decide +kernel
theorem dX2_at_18 : decode cX2_at 18 = .ok (.land, 1) := by decide +kernel
theorem dX2_at_19 : decode cX2_at 19 = .ok (.l2i, 1) := by decide +kernel
theorem dX2_at_20 : decode cX2_at 20 = .ok (.goto 4, 3) := by decide +kernel
theorem dX2_at_23 : decode cX2_at 23 = .ok (.iconst (-1), 1) := by decide +kernel
theorem dX2_at_24 : decode cX2_at 24 = .ok (.ireturn, 1) := by decide +kernel
set_option maxRecDepth 20000 in
theorem ggX2_order_X2_at : GoodIn wsX2_order wsX2_at := goodIn_r _ [4, 5] (by decide +kernel) (by decide +kernel)
set_option maxRecDepth 20000 in
theorem gX2_order_X2_at : GoodIn wsX2_order (va_wsS RX2 37 yX2_at wsX2_at) := goodIn_app (goodIn_of _ (by decide +kernel)) ggX2_order_X2_at
theorem dX2_order_0 : decode cX2_order 0 = .ok (.iconst 0, 1) := by decide +kernel
theorem dX2_order_1 : decode cX2_order 1 = .ok (.istore 6, 2) := by decide +kernel
theorem dX2_order_3 : decode cX2_order 3 = .ok (.iload 6, 2) := by decide +kernel
theorem dX2_order_5 : decode cX2_order 5 = .ok (.bipush 8, 2) := by decide +kernel
theorem dX2_order_7 : decode cX2_order 7 = .ok (.if_icmp .ge 35, 3) := by decide +kernel
theorem dX2_order_10 : decode cX2_order 10 = .ok (.lload_n 0, 1) := by decide +kernel
theorem dX2_order_11 : decode cX2_order 11 = .ok (.iload_n 2, 1) := by decide +kernel
theorem dX2_order_12 : decode cX2_order 12 = .ok (.iload 6, 2) := by decide +kernel
theorem dX2_order_14 : decode cX2_order 14 = .ok (.invokestatic 37, 3) := by decide +kernel
theorem dX2_order_17 : decode cX2_order 17 = .ok (.lload_n 3, 1) := by decide +kernel
theorem dX2_order_18 : decode cX2_order 18 = .ok (.iload 5, 2) := by decide +kernel
theorem dX2_order_20 : decode cX2_order 20 = .ok (.iload 6, 2) := by decide +kernel
theorem dX2_order_22 : decode cX2_order 22 = .ok (.invokestatic 37, 3) := by decide +kernel
theorem dX2_order_25 : decode cX2_order 25 = .ok (.isub, 1) := by decide +kernel
theorem dX2_order_26 : decode cX2_order 26 = .ok (.istore 7, 2) := by decide +kernel
theorem dX2_order_28 : decode cX2_order 28 = .ok (.iload 7, 2) := by decide +kernel
theorem dX2_order_30 : decode cX2_order 30 = .ok (.ifCond .eq 6, 3) := by decide +kernel
theorem dX2_order_33 : decode cX2_order 33 = .ok (.iload 7, 2) := by decide +kernel
theorem dX2_order_35 : decode cX2_order 35 = .ok (.ireturn, 1) := by decide +kernel
theorem dX2_order_36 : decode cX2_order 36 = .ok (.iinc 6 1, 3) := by decide +kernel
theorem dX2_order_39 : decode cX2_order 39 = .ok (.goto (-36), 3) := by decide +kernel
theorem dX2_order_42 : decode cX2_order 42 = .ok (.iconst 0, 1) := by decide +kernel
theorem dX2_order_43 : decode cX2_order 43 = .ok (.ireturn, 1) := by decide +kernel
set_option maxRecDepth 20000 in
theorem ggX2_place_X2_order : GoodIn wsX2_place wsX2_order := goodIn_r _ [7, 8, 9, 6, 10, 11] (by decide +kernel) (by decide +kernel)
set_option maxRecDepth 20000 in
theorem gX2_place_X2_order : GoodIn wsX2_place (va_wsS RX2 45 yX2_order wsX2_order) := goodIn_app (goodIn_of _ (by decide +kernel)) ggX2_place_X2_order
theorem dX2_place_0 : decode cX2_place 0 = .ok (.iconst 0, 1) := by decide +kernel
theorem dX2_place_1 : decode cX2_place 1 = .ok (.istore 4, 2) := by decide +kernel
theorem dX2_place_3 : decode cX2_place 3 = .ok (.iload 4, 2) := by decide +kernel
theorem dX2_place_5 : decode cX2_place 5 = .ok (.aload_n 0, 1) := by decide +kernel
theorem dX2_place_6 : decode cX2_place 6 = .ok (.getfield 41, 3) := by decide +kernel
theorem dX2_place_9 : decode cX2_place 9 = .ok (.if_icmp .ge 31, 3) := by decide +kernel
theorem dX2_place_12 : decode cX2_place 12 = .ok (.aload_n 0, 1) := by decide +kernel
theorem dX2_place_13 : decode cX2_place 13 = .ok (.getfield 7, 3) := by decide +kernel
theorem dX2_place_16 : decode cX2_place 16 = .ok (.iload 4, 2) := by decide +kernel
theorem dX2_place_18 : decode cX2_place 18 = .ok (.laload, 1) := by decide +kernel
theorem dX2_place_19 : decode cX2_place 19 = .ok (.aload_n 0, 1) := by decide +kernel
theorem dX2_place_20 : decode cX2_place 20 = .ok (.getfield 22, 3) := by decide +kernel
theorem dX2_place_23 : decode cX2_place 23 = .ok (.iload 4, 2) := by decide +kernel
theorem dX2_place_25 : decode cX2_place 25 = .ok (.iaload, 1) := by decide +kernel
theorem dX2_place_26 : decode cX2_place 26 = .ok (.lload_n 1, 1) := by decide +kernel
theorem dX2_place_27 : decode cX2_place 27 = .ok (.iload_n 3, 1) := by decide +kernel
theorem dX2_place_28 : decode cX2_place 28 = .ok (.invokestatic 45, 3) := by decide +kernel
theorem dX2_place_31 : decode cX2_place 31 = .ok (.ifCond .ge 9, 3) := by decide +kernel
theorem dX2_place_34 : decode cX2_place 34 = .ok (.iinc 4 1, 3) := by decide +kernel
theorem dX2_place_37 : decode cX2_place 37 = .ok (.goto (-34), 3) := by decide +kernel
theorem dX2_place_40 : decode cX2_place 40 = .ok (.iload 4, 2) := by decide +kernel
theorem dX2_place_42 : decode cX2_place 42 = .ok (.ireturn, 1) := by decide +kernel
set_option maxRecDepth 20000 in
theorem ggX2_isAt_X2_order : GoodIn wsX2_isAt wsX2_order := goodIn_r _ [7, 8, 9, 6, 10, 11] (by decide +kernel) (by decide +kernel)
set_option maxRecDepth 20000 in
theorem gX2_isAt_X2_order : GoodIn wsX2_isAt (va_wsS RX2 45 yX2_order wsX2_order) := goodIn_app (goodIn_of _ (by decide +kernel)) ggX2_isAt_X2_order
theorem dX2_isAt_0 : decode cX2_isAt 0 = .ok (.iload_n 1, 1) := by decide +kernel
theorem dX2_isAt_1 : decode cX2_isAt 1 = .ok (.aload_n 0, 1) := by decide +kernel
theorem dX2_isAt_2 : decode cX2_isAt 2 = .ok (.getfield 41, 3) := by decide +kernel
theorem dX2_isAt_5 : decode cX2_isAt 5 = .ok (.if_icmp .ge 28, 3) := by decide +kernel
theorem dX2_isAt_8 : decode cX2_isAt 8 = .ok (.aload_n 0, 1) := by decide +kernel
theorem dX2_isAt_9 : decode cX2_isAt 9 = .ok (.getfield 7, 3) := by decide +kernel
theorem dX2_isAt_12 : decode cX2_isAt 12 = .ok (.iload_n 1, 1) := by decide +kernel
theorem dX2_isAt_13 : decode cX2_isAt 13 = .ok (.laload, 1) := by decide +kernel
theorem dX2_isAt_14 : decode cX2_isAt 14 = .ok (.aload_n 0, 1) := by decide +kernel
theorem dX2_isAt_15 : decode cX2_isAt 15 = .ok (.getfield 22, 3) := by decide +kernel
theorem dX2_isAt_18 : decode cX2_isAt 18 = .ok (.iload_n 1, 1) := by decide +kernel
theorem dX2_isAt_19 : decode cX2_isAt 19 = .ok (.iaload, 1) := by decide +kernel
theorem dX2_isAt_20 : decode cX2_isAt 20 = .ok (.lload_n 2, 1) := by decide +kernel
theorem dX2_isAt_21 : decode cX2_isAt 21 = .ok (.iload 4, 2) := by decide +kernel
theorem dX2_isAt_23 : decode cX2_isAt 23 = .ok (.invokestatic 45, 3) := by decide +kernel
theorem dX2_isAt_26 : decode cX2_isAt 26 = .ok (.ifCond .ne 7, 3) := by decide +kernel
theorem dX2_isAt_29 : decode cX2_isAt 29 = .ok (.iconst 1, 1) := by decide +kernel
theorem dX2_isAt_30 : decode cX2_isAt 30 = .ok (.goto 4, 3) := by decide +kernel
theorem dX2_isAt_33 : decode cX2_isAt 33 = .ok (.iconst 0, 1) := by decide +kernel
theorem dX2_isAt_34 : decode cX2_isAt 34 = .ok (.ireturn, 1) := by decide +kernel
set_option maxRecDepth 20000 in
theorem ggX2_put_X2_isSize : GoodIn wsX2_put wsX2_isSize := goodIn_r _ [9] (by decide +kernel) (by decide +kernel)
set_option maxRecDepth 20000 in
theorem gX2_put_X2_isSize : GoodIn wsX2_put (va_wsS RX2 49 yX2_isSize wsX2_isSize) := goodIn_app (goodIn_of _ (by decide +kernel)) ggX2_put_X2_isSize
set_option maxRecDepth 20000 in
theorem ggX2_put_X2_place : GoodIn wsX2_put wsX2_place := goodIn_r _ [13, 1, 2, 3, 14, 15, 8, 16, 17, 18, 19, 20, 28, 29, 30, 31, 32, 33, 34, 35, 36, 37, 38, 39] (by decide +kernel) (by decide +kernel)
set_option maxRecDepth 20000 in
theorem gX2_put_X2_place : GoodIn wsX2_put (wsV RX2 53 RX2 yX2_place wsX2_place) := goodIn_app (goodIn_of _ (by decide +kernel)) ggX2_put_X2_place
set_option maxRecDepth 20000 in
theorem ggX2_put_X2_isAt : GoodIn wsX2_put wsX2_isAt := goodIn_r _ [24, 1, 2, 3, 14, 15, 8, 16, 17, 18, 19, 20, 28, 29, 30, 31, 32, 33, 34, 35, 36, 37, 38, 39] (by decide +kernel) (by decide +kernel)
set_option maxRecDepth 20000 in
theorem gX2_put_X2_isAt : GoodIn wsX2_put (wsV RX2 57 RX2 yX2_isAt wsX2_isAt) := goodIn_app (goodIn_of _ (by decide +kernel)) ggX2_put_X2_isAt
set_option maxRecDepth 20000 in
theorem ggX2_put_X2_cut : GoodIn wsX2_put wsX2_cut := goodIn_r _ [27] (by decide +kernel) (by decide +kernel)
set_option maxRecDepth 20000 in
theorem gX2_put_X2_cut : GoodIn wsX2_put (va_wsS RX2 61 yX2_cut wsX2_cut) := goodIn_app (goodIn_of _ (by decide +kernel)) ggX2_put_X2_cut
theorem dX2_put_0 : decode cX2_put 0 = .ok (.iload_n 3, 1) := by decide +kernel
theorem dX2_put_1 : decode cX2_put 1 = .ok (.invokestatic 49, 3) := by decide +kernel
theorem dX2_put_4 : decode cX2_put 4 = .ok (.ifCond .eq 15, 3) := by decide +kernel
theorem dX2_put_7 : decode cX2_put 7 = .ok (.iload 6, 2) := by decide +kernel
theorem dX2_put_9 : decode cX2_put 9 = .ok (.ifCond .lt 10, 3) := by decide +kernel
theorem dX2_put_12 : decode cX2_put 12 = .ok (.iload 6, 2) := by decide +kernel
theorem dX2_put_14 : decode cX2_put 14 = .ok (.bipush 8, 2) := by decide +kernel
theorem dX2_put_16 : decode cX2_put 16 = .ok (.if_icmp .le 5, 3) := by decide +kernel
theorem dX2_put_19 : decode cX2_put 19 = .ok (.iconst 0, 1) := by decide +kernel
theorem dX2_put_20 : decode cX2_put 20 = .ok (.ireturn, 1) := by decide +kernel
theorem dX2_put_21 : decode cX2_put 21 = .ok (.aload_n 0, 1) := by decide +kernel
theorem dX2_put_22 : decode cX2_put 22 = .ok (.lload_n 1, 1) := by decide +kernel
theorem dX2_put_23 : decode cX2_put 23 = .ok (.iload_n 3, 1) := by decide +kernel
theorem dX2_put_24 : decode cX2_put 24 = .ok (.invokevirtual 53, 3) := by decide +kernel
theorem dX2_put_27 : decode cX2_put 27 = .ok (.istore 7, 2) := by decide +kernel
theorem dX2_put_29 : decode cX2_put 29 = .ok (.aload_n 0, 1) := by decide +kernel
theorem dX2_put_30 : decode cX2_put 30 = .ok (.iload 7, 2) := by decide +kernel
theorem dX2_put_32 : decode cX2_put 32 = .ok (.lload_n 1, 1) := by decide +kernel
theorem dX2_put_33 : decode cX2_put 33 = .ok (.iload_n 3, 1) := by decide +kernel
theorem dX2_put_34 : decode cX2_put 34 = .ok (.invokevirtual 57, 3) := by decide +kernel
theorem dX2_put_37 : decode cX2_put 37 = .ok (.ifCond .ne 108, 3) := by decide +kernel
theorem dX2_put_40 : decode cX2_put 40 = .ok (.aload_n 0, 1) := by decide +kernel
theorem dX2_put_41 : decode cX2_put 41 = .ok (.getfield 41, 3) := by decide +kernel
theorem dX2_put_44 : decode cX2_put 44 = .ok (.sipush 150, 3) := by decide +kernel
theorem dX2_put_47 : decode cX2_put 47 = .ok (.if_icmp .ne 5, 3) := by decide +kernel
theorem dX2_put_50 : decode cX2_put 50 = .ok (.iconst 0, 1) := by decide +kernel
theorem dX2_put_51 : decode cX2_put 51 = .ok (.ireturn, 1) := by decide +kernel
theorem dX2_put_52 : decode cX2_put 52 = .ok (.aload_n 0, 1) := by decide +kernel
theorem dX2_put_53 : decode cX2_put 53 = .ok (.getfield 41, 3) := by decide +kernel
theorem dX2_put_56 : decode cX2_put 56 = .ok (.istore 8, 2) := by decide +kernel
theorem dX2_put_58 : decode cX2_put 58 = .ok (.iload 8, 2) := by decide +kernel
theorem dX2_put_60 : decode cX2_put 60 = .ok (.iload 7, 2) := by decide +kernel
theorem dX2_put_62 : decode cX2_put 62 = .ok (.if_icmp .le 73, 3) := by decide +kernel
theorem dX2_put_65 : decode cX2_put 65 = .ok (.aload_n 0, 1) := by decide +kernel
theorem dX2_put_66 : decode cX2_put 66 = .ok (.getfield 7, 3) := by decide +kernel
theorem dX2_put_69 : decode cX2_put 69 = .ok (.iload 8, 2) := by decide +kernel
theorem dX2_put_71 : decode cX2_put 71 = .ok (.aload_n 0, 1) := by decide +kernel
theorem dX2_put_72 : decode cX2_put 72 = .ok (.getfield 7, 3) := by decide +kernel
theorem dX2_put_75 : decode cX2_put 75 = .ok (.iload 8, 2) := by decide +kernel
theorem dX2_put_77 : decode cX2_put 77 = .ok (.iconst 1, 1) := by decide +kernel
theorem dX2_put_78 : decode cX2_put 78 = .ok (.isub, 1) := by decide +kernel
theorem dX2_put_79 : decode cX2_put 79 = .ok (.laload, 1) := by decide +kernel
theorem dX2_put_80 : decode cX2_put 80 = .ok (.lastore, 1) := by decide +kernel
theorem dX2_put_81 : decode cX2_put 81 = .ok (.aload_n 0, 1) := by decide +kernel
theorem dX2_put_82 : decode cX2_put 82 = .ok (.getfield 22, 3) := by decide +kernel
theorem dX2_put_85 : decode cX2_put 85 = .ok (.iload 8, 2) := by decide +kernel
theorem dX2_put_87 : decode cX2_put 87 = .ok (.aload_n 0, 1) := by decide +kernel
theorem dX2_put_88 : decode cX2_put 88 = .ok (.getfield 22, 3) := by decide +kernel
theorem dX2_put_91 : decode cX2_put 91 = .ok (.iload 8, 2) := by decide +kernel
theorem dX2_put_93 : decode cX2_put 93 = .ok (.iconst 1, 1) := by decide +kernel
theorem dX2_put_94 : decode cX2_put 94 = .ok (.isub, 1) := by decide +kernel
theorem dX2_put_95 : decode cX2_put 95 = .ok (.iaload, 1) := by decide +kernel
theorem dX2_put_96 : decode cX2_put 96 = .ok (.iastore, 1) := by decide +kernel
theorem dX2_put_97 : decode cX2_put 97 = .ok (.aload_n 0, 1) := by decide +kernel
theorem dX2_put_98 : decode cX2_put 98 = .ok (.getfield 13, 3) := by decide +kernel
theorem dX2_put_101 : decode cX2_put 101 = .ok (.iload 8, 2) := by decide +kernel
theorem dX2_put_103 : decode cX2_put 103 = .ok (.aload_n 0, 1) := by decide +kernel
theorem dX2_put_104 : decode cX2_put 104 = .ok (.getfield 13, 3) := by decide +kernel
theorem dX2_put_107 : decode cX2_put 107 = .ok (.iload 8, 2) := by decide +kernel
theorem dX2_put_109 : decode cX2_put 109 = .ok (.iconst 1, 1) := by decide +kernel
theorem dX2_put_110 : decode cX2_put 110 = .ok (.isub, 1) := by decide +kernel
theorem dX2_put_111 : decode cX2_put 111 = .ok (.laload, 1) := by decide +kernel
theorem dX2_put_112 : decode cX2_put 112 = .ok (.lastore, 1) := by decide +kernel
theorem dX2_put_113 : decode cX2_put 113 = .ok (.aload_n 0, 1) := by decide +kernel
theorem dX2_put_114 : decode cX2_put 114 = .ok (.getfield 26, 3) := by decide +kernel
theorem dX2_put_117 : decode cX2_put 117 = .ok (.iload 8, 2) := by decide +kernel
theorem dX2_put_119 : decode cX2_put 119 = .ok (.aload_n 0, 1) := by decide +kernel
theorem dX2_put_120 : decode cX2_put 120 = .ok (.getfield 26, 3) := by decide +kernel
theorem dX2_put_123 : decode cX2_put 123 = .ok (.iload 8, 2) := by decide +kernel
theorem dX2_put_125 : decode cX2_put 125 = .ok (.iconst 1, 1) := by decide +kernel
theorem dX2_put_126 : decode cX2_put 126 = .ok (.isub, 1) := by decide +kernel
theorem dX2_put_127 : decode cX2_put 127 = .ok (.iaload, 1) := by decide +kernel
theorem dX2_put_128 : decode cX2_put 128 = .ok (.iastore, 1) := by decide +kernel
theorem dX2_put_129 : decode cX2_put 129 = .ok (.iinc 8 (-1), 3) := by decide +kernel
theorem dX2_put_132 : decode cX2_put 132 = .ok (.goto (-74), 3) := by decide +kernel
theorem dX2_put_135 : decode cX2_put 135 = .ok (.aload_n 0, 1) := by decide +kernel
theorem dX2_put_136 : decode cX2_put 136 = .ok (.dup, 1) := by decide +kernel
theorem dX2_put_137 : decode cX2_put 137 = .ok (.getfield 41, 3) := by decide +kernel
theorem dX2_put_140 : decode cX2_put 140 = .ok (.iconst 1, 1) := by decide +kernel
theorem dX2_put_141 : decode cX2_put 141 = .ok (.iadd, 1) := by decide +kernel
theorem dX2_put_142 : decode cX2_put 142 = .ok (.putfield 41, 3) := by decide +kernel
theorem dX2_put_145 : decode cX2_put 145 = .ok (.aload_n 0, 1) := by decide +kernel
theorem dX2_put_146 : decode cX2_put 146 = .ok (.getfield 7, 3) := by decide +kernel
theorem dX2_put_149 : decode cX2_put 149 = .ok (.iload 7, 2) := by decide +kernel
theorem dX2_put_151 : decode cX2_put 151 = .ok (.lload_n 1, 1) := by decide +kernel
theorem dX2_put_152 : decode cX2_put 152 = .ok (.iload_n 3, 1) := by decide +kernel
theorem dX2_put_153 : decode cX2_put 153 = .ok (.invokestatic 61, 3) := by decide +kernel
theorem dX2_put_156 : decode cX2_put 156 = .ok (.lastore, 1) := by decide +kernel
theorem dX2_put_157 : decode cX2_put 157 = .ok (.aload_n 0, 1) := by decide +kernel
theorem dX2_put_158 : decode cX2_put 158 = .ok (.getfield 22, 3) := by decide +kernel
theorem dX2_put_161 : decode cX2_put 161 = .ok (.iload 7, 2) := by decide +kernel
theorem dX2_put_163 : decode cX2_put 163 = .ok (.iload_n 3, 1) := by decide +kernel
theorem dX2_put_164 : decode cX2_put 164 = .ok (.iastore, 1) := by decide +kernel
theorem dX2_put_165 : decode cX2_put 165 = .ok (.aload_n 0, 1) := by decide +kernel
theorem dX2_put_166 : decode cX2_put 166 = .ok (.getfield 13, 3) := by decide +kernel
theorem dX2_put_169 : decode cX2_put 169 = .ok (.iload 7, 2) := by decide +kernel
theorem dX2_put_171 : decode cX2_put 171 = .ok (.lload 4, 2) := by decide +kernel
theorem dX2_put_173 : decode cX2_put 173 = .ok (.iload 6, 2) := by decide +kernel
theorem dX2_put_175 : decode cX2_put 175 = .ok (.invokestatic 61, 3) := by decide +kernel
theorem dX2_put_178 : decode cX2_put 178 = .ok (.lastore, 1) := by decide +kernel
theorem dX2_put_179 : decode cX2_put 179 = .ok (.aload_n 0, 1) := by decide +kernel
theorem dX2_put_180 : decode cX2_put 180 = .ok (.getfield 26, 3) := by decide +kernel
theorem dX2_put_183 : decode cX2_put 183 = .ok (.iload 7, 2) := by decide +kernel
theorem dX2_put_185 : decode cX2_put 185 = .ok (.iload 6, 2) := by decide +kernel
theorem dX2_put_187 : decode cX2_put 187 = .ok (.iastore, 1) := by decide +kernel
theorem dX2_put_188 : decode cX2_put 188 = .ok (.iconst 1, 1) := by decide +kernel
theorem dX2_put_189 : decode cX2_put 189 = .ok (.ireturn, 1) := by decide +kernel
set_option maxRecDepth 20000 in
theorem ggX2_remove_X2_isSize : GoodIn wsX2_remove wsX2_isSize := goodIn_r _ [9] (by decide +kernel) (by decide +kernel)
set_option maxRecDepth 20000 in
theorem gX2_remove_X2_isSize : GoodIn wsX2_remove (va_wsS RX2 49 yX2_isSize wsX2_isSize) := goodIn_app (goodIn_of _ (by decide +kernel)) ggX2_remove_X2_isSize
set_option maxRecDepth 20000 in
theorem ggX2_remove_X2_place : GoodIn wsX2_remove wsX2_place := goodIn_r _ [13, 1, 2, 3, 14, 15, 8, 16, 17, 18, 19, 20, 25, 26, 27, 28, 29, 30, 31, 32, 33, 34, 35, 36] (by decide +kernel) (by decide +kernel)
set_option maxRecDepth 20000 in
theorem gX2_remove_X2_place : GoodIn wsX2_remove (wsV RX2 53 RX2 yX2_place wsX2_place) := goodIn_app (goodIn_of _ (by decide +kernel)) ggX2_remove_X2_place
set_option maxRecDepth 20000 in
theorem ggX2_remove_X2_isAt : GoodIn wsX2_remove wsX2_isAt := goodIn_r _ [24, 1, 2, 3, 14, 15, 8, 16, 17, 18, 19, 20, 25, 26, 27, 28, 29, 30, 31, 32, 33, 34, 35, 36] (by decide +kernel) (by decide +kernel)
set_option maxRecDepth 20000 in
theorem gX2_remove_X2_isAt : GoodIn wsX2_remove (wsV RX2 57 RX2 yX2_isAt wsX2_isAt) := goodIn_app (goodIn_of _ (by decide +kernel)) ggX2_remove_X2_isAt
theorem dX2_remove_0 : decode cX2_remove 0 = .ok (.iload_n 3, 1) := by decide +kernel
theorem dX2_remove_1 : decode cX2_remove 1 = .ok (.invokestatic 49, 3) := by decide +kernel
theorem dX2_remove_4 : decode cX2_remove 4 = .ok (.ifCond .eq 12, 3) := by decide +kernel
theorem dX2_remove_7 : decode cX2_remove 7 = .ok (.aload_n 0, 1) := by decide +kernel
theorem dX2_remove_8 : decode cX2_remove 8 = .ok (.lload_n 1, 1) := by decide +kernel
theorem dX2_remove_9 : decode cX2_remove 9 = .ok (.iload_n 3, 1) := by decide +kernel
theorem dX2_remove_10 : decode cX2_remove 10 = .ok (.invokevirtual 53, 3) := by decide +kernel
theorem dX2_remove_13 : decode cX2_remove 13 = .ok (.goto 7, 3) := by decide +kernel
theorem dX2_remove_16 : decode cX2_remove 16 = .ok (.aload_n 0, 1) := by decide +kernel
theorem dX2_remove_17 : decode cX2_remove 17 = .ok (.getfield 41, 3) := by decide +kernel
theorem dX2_remove_20 : decode cX2_remove 20 = .ok (.istore 4, 2) := by decide +kernel
theorem dX2_remove_22 : decode cX2_remove 22 = .ok (.aload_n 0, 1) := by decide +kernel
theorem dX2_remove_23 : decode cX2_remove 23 = .ok (.iload 4, 2) := by decide +kernel
theorem dX2_remove_25 : decode cX2_remove 25 = .ok (.lload_n 1, 1) := by decide +kernel
theorem dX2_remove_26 : decode cX2_remove 26 = .ok (.iload_n 3, 1) := by decide +kernel
theorem dX2_remove_27 : decode cX2_remove 27 = .ok (.invokevirtual 57, 3) := by decide +kernel
theorem dX2_remove_30 : decode cX2_remove 30 = .ok (.ifCond .ne 5, 3) := by decide +kernel
theorem dX2_remove_33 : decode cX2_remove 33 = .ok (.iconst 0, 1) := by decide +kernel
theorem dX2_remove_34 : decode cX2_remove 34 = .ok (.ireturn, 1) := by decide +kernel
theorem dX2_remove_35 : decode cX2_remove 35 = .ok (.aload_n 0, 1) := by decide +kernel
theorem dX2_remove_36 : decode cX2_remove 36 = .ok (.dup, 1) := by decide +kernel
theorem dX2_remove_37 : decode cX2_remove 37 = .ok (.getfield 41, 3) := by decide +kernel
theorem dX2_remove_40 : decode cX2_remove 40 = .ok (.iconst 1, 1) := by decide +kernel
theorem dX2_remove_41 : decode cX2_remove 41 = .ok (.isub, 1) := by decide +kernel
theorem dX2_remove_42 : decode cX2_remove 42 = .ok (.putfield 41, 3) := by decide +kernel
theorem dX2_remove_45 : decode cX2_remove 45 = .ok (.iload 4, 2) := by decide +kernel
theorem dX2_remove_47 : decode cX2_remove 47 = .ok (.istore 5, 2) := by decide +kernel
theorem dX2_remove_49 : decode cX2_remove 49 = .ok (.iload 5, 2) := by decide +kernel
theorem dX2_remove_51 : decode cX2_remove 51 = .ok (.aload_n 0, 1) := by decide +kernel
theorem dX2_remove_52 : decode cX2_remove 52 = .ok (.getfield 41, 3) := by decide +kernel
theorem dX2_remove_55 : decode cX2_remove 55 = .ok (.if_icmp .ge 73, 3) := by decide +kernel
theorem dX2_remove_58 : decode cX2_remove 58 = .ok (.aload_n 0, 1) := by decide +kernel
theorem dX2_remove_59 : decode cX2_remove 59 = .ok (.getfield 7, 3) := by decide +kernel
theorem dX2_remove_62 : decode cX2_remove 62 = .ok (.iload 5, 2) := by decide +kernel
theorem dX2_remove_64 : decode cX2_remove 64 = .ok (.aload_n 0, 1) := by decide +kernel
theorem dX2_remove_65 : decode cX2_remove 65 = .ok (.getfield 7, 3) := by decide +kernel
theorem dX2_remove_68 : decode cX2_remove 68 = .ok (.iload 5, 2) := by decide +kernel
theorem dX2_remove_70 : decode cX2_remove 70 = .ok (.iconst 1, 1) := by decide +kernel
theorem dX2_remove_71 : decode cX2_remove 71 = .ok (.iadd, 1) := by decide +kernel
theorem dX2_remove_72 : decode cX2_remove 72 = .ok (.laload, 1) := by decide +kernel
theorem dX2_remove_73 : decode cX2_remove 73 = .ok (.lastore, 1) := by decide +kernel
theorem dX2_remove_74 : decode cX2_remove 74 = .ok (.aload_n 0, 1) := by decide +kernel
theorem dX2_remove_75 : decode cX2_remove 75 = .ok (.getfield 22, 3) := by decide +kernel
theorem dX2_remove_78 : decode cX2_remove 78 = .ok (.iload 5, 2) := by decide +kernel
theorem dX2_remove_80 : decode cX2_remove 80 = .ok (.aload_n 0, 1) := by decide +kernel
theorem dX2_remove_81 : decode cX2_remove 81 = .ok (.getfield 22, 3) := by decide +kernel
theorem dX2_remove_84 : decode cX2_remove 84 = .ok (.iload 5, 2) := by decide +kernel
theorem dX2_remove_86 : decode cX2_remove 86 = .ok (.iconst 1, 1) := by decide +kernel
theorem dX2_remove_87 : decode cX2_remove 87 = .ok (.iadd, 1) := by decide +kernel
theorem dX2_remove_88 : decode cX2_remove 88 = .ok (.iaload, 1) := by decide +kernel
theorem dX2_remove_89 : decode cX2_remove 89 = .ok (.iastore, 1) := by decide +kernel
theorem dX2_remove_90 : decode cX2_remove 90 = .ok (.aload_n 0, 1) := by decide +kernel
theorem dX2_remove_91 : decode cX2_remove 91 = .ok (.getfield 13, 3) := by decide +kernel
theorem dX2_remove_94 : decode cX2_remove 94 = .ok (.iload 5, 2) := by decide +kernel
theorem dX2_remove_96 : decode cX2_remove 96 = .ok (.aload_n 0, 1) := by decide +kernel
theorem dX2_remove_97 : decode cX2_remove 97 = .ok (.getfield 13, 3) := by decide +kernel
theorem dX2_remove_100 : decode cX2_remove 100 = .ok (.iload 5, 2) := by decide +kernel
theorem dX2_remove_102 : decode cX2_remove 102 = .ok (.iconst 1, 1) := by decide +kernel
theorem dX2_remove_103 : decode cX2_remove 103 = .ok (.iadd, 1) := by decide +kernel
theorem dX2_remove_104 : decode cX2_remove 104 = .ok (.laload, 1) := by decide +kernel
theorem dX2_remove_105 : decode cX2_remove 105 = .ok (.lastore, 1) := by decide +kernel
theorem dX2_remove_106 : decode cX2_remove 106 = .ok (.aload_n 0, 1) := by decide +kernel
theorem dX2_remove_107 : decode cX2_remove 107 = .ok (.getfield 26, 3) := by decide +kernel
theorem dX2_remove_110 : decode cX2_remove 110 = .ok (.iload 5, 2) := by decide +kernel
theorem dX2_remove_112 : decode cX2_remove 112 = .ok (.aload_n 0, 1) := by decide +kernel
theorem dX2_remove_113 : decode cX2_remove 113 = .ok (.getfield 26, 3) := by decide +kernel
theorem dX2_remove_116 : decode cX2_remove 116 = .ok (.iload 5, 2) := by decide +kernel
theorem dX2_remove_118 : decode cX2_remove 118 = .ok (.iconst 1, 1) := by decide +kernel
theorem dX2_remove_119 : decode cX2_remove 119 = .ok (.iadd, 1) := by decide +kernel
theorem dX2_remove_120 : decode cX2_remove 120 = .ok (.iaload, 1) := by decide +kernel
theorem dX2_remove_121 : decode cX2_remove 121 = .ok (.iastore, 1) := by decide +kernel
theorem dX2_remove_122 : decode cX2_remove 122 = .ok (.iinc 5 1, 3) := by decide +kernel
theorem dX2_remove_125 : decode cX2_remove 125 = .ok (.goto (-76), 3) := by decide +kernel
theorem dX2_remove_128 : decode cX2_remove 128 = .ok (.iconst 1, 1) := by decide +kernel
theorem dX2_remove_129 : decode cX2_remove 129 = .ok (.ireturn, 1) := by decide +kernel
set_option maxRecDepth 20000 in
theorem ggL_law_X1_init : GoodIn wsL_law wsX1_init := goodIn_r _ [8, 9, 10, 11, 12, 13, 14, 15, 16, 17, 18, 19, 20, 21, 22, 23, 24, 25, 26, 27, 28, 29, 205, 206, 207, 208, 209, 189, 190, 191, 192] (by decide +kernel) (by decide +kernel)
set_option maxRecDepth 20000 in
theorem gL_law_X1_init : GoodIn wsL_law (wsX1_init) := ggL_law_X1_init
set_option maxRecDepth 20000 in
theorem ggL_law_X2_init : GoodIn wsL_law wsX2_init := goodIn_r _ [32, 33, 10, 11, 23, 34, 35, 36, 37, 25, 38, 39, 40, 41, 193, 194, 195, 196, 197, 198, 199, 200, 201, 202, 203, 204] (by decide +kernel) (by decide +kernel)
set_option maxRecDepth 20000 in
theorem gL_law_X2_init : GoodIn wsL_law (wsX2_init) := ggL_law_X2_init
set_option maxRecDepth 20000 in
theorem ggL_law_X1_put : GoodIn wsL_law wsX1_put := goodIn_r _ [45, 15, 46, 47, 2, 48, 49, 50, 51, 52, 53, 54, 55, 56, 57, 58, 59, 60, 61, 62, 63, 64, 14, 65, 24, 26, 27, 28, 66, 67, 68, 69, 70, 71, 72, 73, 74, 75, 76, 77, 78, 29, 79, 80, 81, 82, 83, 84, 85, 86, 87, 88, 89, 90, 91, 92, 93, 94, 189, 190, 191, 192, 205, 206, 207, 208, 209] (by decide +kernel) (by decide +kernel)
set_option maxRecDepth 20000 in
theorem gL_law_X1_put : GoodIn wsL_law (wsV RL 15 RX1 yX1_put wsX1_put) := goodIn_app (goodIn_of _ (by decide +kernel)) ggL_law_X1_put
set_option maxRecDepth 20000 in
theorem ggL_law_X2_put : GoodIn wsL_law wsX2_put := goodIn_r _ [98, 99, 34, 38, 35, 39, 100, 101, 5, 102, 103, 104, 105, 106, 107, 108, 109, 110, 111, 112, 113, 114, 115, 116, 117, 118, 119, 120, 193, 194, 195, 196, 197, 198, 199, 200, 201, 202, 203, 204] (by decide +kernel) (by decide +kernel)
set_option maxRecDepth 20000 in
theorem gL_law_X2_put : GoodIn wsL_law (wsV RL 19 RX2 yX2_put wsX2_put) := goodIn_app (goodIn_of _ (by decide +kernel)) ggL_law_X2_put
set_option maxRecDepth 20000 in
theorem ggL_law_X1_remove : GoodIn wsL_law wsX1_remove := goodIn_r _ [124, 15, 125, 126, 127, 2, 128, 46, 47, 48, 52, 53, 54, 55, 56, 57, 129, 67, 68, 14, 69, 70, 71, 72, 73, 24, 74, 26, 75, 76, 77, 78, 29, 130, 80, 81, 82, 131, 132, 133, 134, 135, 87, 88, 89, 90, 91, 92, 93, 94, 27, 28, 189, 190, 191, 192, 205, 206, 207, 208, 209] (by decide +kernel) (by decide +kernel)
set_option maxRecDepth 20000 in
theorem gL_law_X1_remove : GoodIn wsL_law (wsV RL 20 RX1 yX1_remove wsX1_remove) := goodIn_app (goodIn_of _ (by decide +kernel)) ggL_law_X1_remove
set_option maxRecDepth 20000 in
theorem ggL_law_X2_remove : GoodIn wsL_law wsX2_remove := goodIn_r _ [139, 99, 34, 38, 35, 39, 100, 101, 5, 102, 103, 104, 105, 106, 107, 108, 109, 110, 111, 112, 113, 114, 115, 116, 117, 193, 194, 195, 196, 197, 198, 199, 200, 201, 202, 203, 204] (by decide +kernel) (by decide +kernel)
set_option maxRecDepth 20000 in
theorem gL_law_X2_remove : GoodIn wsL_law (wsV RL 24 RX2 yX2_remove wsX2_remove) := goodIn_app (goodIn_of _ (by decide +kernel)) ggL_law_X2_remove
set_option maxRecDepth 20000 in
theorem ggL_law_X1_length : GoodIn wsL_law wsX1_length := goodIn_r _ [143, 15, 144, 125, 126, 127, 2, 128, 46, 47, 48, 52, 53, 54, 55, 56, 57, 129, 67, 68, 14, 69, 70, 71, 72, 73, 24, 74, 26, 75, 76, 77, 78, 29, 130, 80, 81, 82, 131, 189, 190, 191, 192, 205, 206, 207, 208, 209] (by decide +kernel) (by decide +kernel)
set_option maxRecDepth 20000 in
theorem gL_law_X1_length : GoodIn wsL_law (wsV RL 25 RX1 yX1_length wsX1_length) := goodIn_app (goodIn_of _ (by decide +kernel)) ggL_law_X1_length
set_option maxRecDepth 20000 in
theorem ggL_law_X1_text : GoodIn wsL_law wsX1_text := goodIn_r _ [148, 15, 149, 125, 126, 127, 2, 128, 46, 47, 48, 52, 53, 54, 55, 56, 57, 129, 67, 68, 14, 69, 70, 71, 72, 73, 24, 74, 26, 75, 76, 77, 78, 29, 130, 80, 81, 82, 131, 189, 190, 191, 192, 205, 206, 207, 208, 209] (by decide +kernel) (by decide +kernel)
set_option maxRecDepth 20000 in
theorem gL_law_X1_text : GoodIn wsL_law (wsV RL 30 RX1 yX1_text wsX1_text) := goodIn_app (goodIn_of _ (by decide +kernel)) ggL_law_X1_text
set_option maxRecDepth 20000 in
theorem ggL_law_X1_seek : GoodIn wsL_law wsX1_seek := goodIn_r _ [153, 15, 46, 47, 2, 48, 154, 155, 156, 157, 17, 18, 158, 159, 131, 76, 77, 14, 78, 29, 55, 56, 57, 52, 53, 54, 129, 67, 68, 69, 70, 71, 72, 73, 24, 74, 26, 75, 189, 190, 191, 192, 205, 206, 207, 208, 209] (by decide +kernel) (by decide +kernel)
set_option maxRecDepth 20000 in
theorem gL_law_X1_seek : GoodIn wsL_law (wsV RL 35 RX1 yX1_seek wsX1_seek) := goodIn_app (goodIn_of _ (by decide +kernel)) ggL_law_X1_seek
set_option maxRecDepth 20000 in
theorem ggL_law_X1_before : GoodIn wsL_law wsX1_before := goodIn_r _ [163, 15, 46, 47, 2, 48, 154, 155, 156, 157, 17, 18, 158, 159, 131, 76, 77, 14, 78, 29, 55, 56, 57, 52, 53, 54, 129, 67, 68, 69, 70, 71, 72, 73, 24, 74, 26, 75, 189, 190, 191, 192, 205, 206, 207, 208, 209] (by decide +kernel) (by decide +kernel)
set_option maxRecDepth 20000 in
theorem gL_law_X1_before : GoodIn wsL_law (wsV RL 39 RX1 yX1_before wsX1_before) := goodIn_app (goodIn_of _ (by decide +kernel)) ggL_law_X1_before
set_option maxRecDepth 20000 in
theorem ggL_law_X1_foundSize : GoodIn wsL_law wsX1_foundSize := goodIn_r _ [167, 18, 189, 190, 191, 192] (by decide +kernel) (by decide +kernel)
set_option maxRecDepth 20000 in
theorem gL_law_X1_foundSize : GoodIn wsL_law (wsV RL 43 RX1 yX1_foundSize wsX1_foundSize) := goodIn_app (goodIn_of _ (by decide +kernel)) ggL_law_X1_foundSize
set_option maxRecDepth 20000 in
theorem ggL_law_X1_found : GoodIn wsL_law wsX1_found := goodIn_r _ [171, 17, 189, 190, 191, 192] (by decide +kernel) (by decide +kernel)
set_option maxRecDepth 20000 in
theorem gL_law_X1_found : GoodIn wsL_law (wsV RL 48 RX1 yX1_found wsX1_found) := goodIn_app (goodIn_of _ (by decide +kernel)) ggL_law_X1_found
set_option maxRecDepth 20000 in
theorem ggL_law_X1_count : GoodIn wsL_law wsX1_count := goodIn_r _ [175, 15, 176, 189, 190, 191, 192, 205, 206, 207, 208, 209] (by decide +kernel) (by decide +kernel)
set_option maxRecDepth 20000 in
theorem gL_law_X1_count : GoodIn wsL_law (wsV RL 53 RX1 yX1_count wsX1_count) := goodIn_app (goodIn_of _ (by decide +kernel)) ggL_law_X1_count
set_option maxRecDepth 20000 in
theorem ggL_law_X1_commit : GoodIn wsL_law wsX1_commit := goodIn_r _ [180, 16, 15, 181, 182, 183, 14, 184, 24, 29, 91, 92, 93, 94, 26, 27, 28, 189, 190, 191, 192, 205, 206, 207, 208, 209] (by decide +kernel) (by decide +kernel)
set_option maxRecDepth 20000 in
theorem gL_law_X1_commit : GoodIn wsL_law (wsV RL 57 RX1 yX1_commit wsX1_commit) := goodIn_app (goodIn_of _ (by decide +kernel)) ggL_law_X1_commit
set_option maxRecDepth 20000 in
theorem ggL_law_X1_revert : GoodIn wsL_law wsX1_revert := goodIn_r _ [188, 15, 16, 181, 182, 183, 14, 184, 24, 29, 91, 92, 93, 94, 26, 27, 28, 189, 190, 191, 192, 205, 206, 207, 208, 209] (by decide +kernel) (by decide +kernel)
set_option maxRecDepth 20000 in
theorem gL_law_X1_revert : GoodIn wsL_law (wsV RL 61 RX1 yX1_revert wsX1_revert) := goodIn_app (goodIn_of _ (by decide +kernel)) ggL_law_X1_revert
theorem dL_law_0 : decode cL_law 0 = .ok (.new 7, 3) := by decide +kernel
theorem dL_law_3 : decode cL_law 3 = .ok (.dup, 1) := by decide +kernel
theorem dL_law_4 : decode cL_law 4 = .ok (.invokespecial 9, 3) := by decide +kernel
theorem dL_law_7 : decode cL_law 7 = .ok (.astore_n 1, 1) := by decide +kernel
theorem dL_law_8 : decode cL_law 8 = .ok (.new 10, 3) := by decide +kernel
theorem dL_law_11 : decode cL_law 11 = .ok (.dup, 1) := by decide +kernel
theorem dL_law_12 : decode cL_law 12 = .ok (.invokespecial 12, 3) := by decide +kernel
theorem dL_law_15 : decode cL_law 15 = .ok (.astore_n 2, 1) := by decide +kernel
theorem dL_law_16 : decode cL_law 16 = .ok (.iconst 0, 1) := by decide +kernel
theorem dL_law_17 : decode cL_law 17 = .ok (.istore_n 3, 1) := by decide +kernel
theorem dL_law_18 : decode cL_law 18 = .ok (.iload_n 3, 1) := by decide +kernel
theorem dL_law_19 : decode cL_law 19 = .ok (.aload_n 0, 1) := by decide +kernel
theorem dL_law_20 : decode cL_law 20 = .ok (.arraylength, 1) := by decide +kernel
theorem dL_law_21 : decode cL_law 21 = .ok (.bipush 7, 2) := by decide +kernel
theorem dL_law_23 : decode cL_law 23 = .ok (.isub, 1) := by decide +kernel
theorem dL_law_24 : decode cL_law 24 = .ok (.if_icmp .gt 567, 3) := by decide +kernel
theorem dL_law_27 : decode cL_law 27 = .ok (.aload_n 0, 1) := by decide +kernel
theorem dL_law_28 : decode cL_law 28 = .ok (.iload_n 3, 1) := by decide +kernel
theorem dL_law_29 : decode cL_law 29 = .ok (.iaload, 1) := by decide +kernel
theorem dL_law_30 : decode cL_law 30 = .ok (.bipush 15, 2) := by decide +kernel
theorem dL_law_32 : decode cL_law 32 = .ok (.iand, 1) := by decide +kernel
theorem dL_law_33 : decode cL_law 33 = .ok (.tableswitch 552 0 10 #[59, 174, 237, 300, 364, 427, 490, 503, 517, 530, 541], 59) := by decide +kernel
theorem dL_law_92 : decode cL_law 92 = .ok (.aload_n 1, 1) := by decide +kernel
theorem dL_law_93 : decode cL_law 93 = .ok (.aload_n 0, 1) := by decide +kernel
theorem dL_law_94 : decode cL_law 94 = .ok (.iload_n 3, 1) := by decide +kernel
theorem dL_law_95 : decode cL_law 95 = .ok (.iconst 1, 1) := by decide +kernel
theorem dL_law_96 : decode cL_law 96 = .ok (.iadd, 1) := by decide +kernel
theorem dL_law_97 : decode cL_law 97 = .ok (.iaload, 1) := by decide +kernel
theorem dL_law_98 : decode cL_law 98 = .ok (.i2l, 1) := by decide +kernel
theorem dL_law_99 : decode cL_law 99 = .ok (.bipush 32, 2) := by decide +kernel
theorem dL_law_101 : decode cL_law 101 = .ok (.lshl, 1) := by decide +kernel
theorem dL_law_102 : decode cL_law 102 = .ok (.aload_n 0, 1) := by decide +kernel
theorem dL_law_103 : decode cL_law 103 = .ok (.iload_n 3, 1) := by decide +kernel
theorem dL_law_104 : decode cL_law 104 = .ok (.iconst 2, 1) := by decide +kernel
theorem dL_law_105 : decode cL_law 105 = .ok (.iadd, 1) := by decide +kernel
theorem dL_law_106 : decode cL_law 106 = .ok (.iaload, 1) := by decide +kernel
theorem dL_law_107 : decode cL_law 107 = .ok (.i2l, 1) := by decide +kernel
theorem dL_law_108 : decode cL_law 108 = .ok (.ldc2_w 13, 3) := by decide +kernel
theorem dL_law_111 : decode cL_law 111 = .ok (.land, 1) := by decide +kernel
theorem dL_law_112 : decode cL_law 112 = .ok (.lor, 1) := by decide +kernel
theorem dL_law_113 : decode cL_law 113 = .ok (.aload_n 0, 1) := by decide +kernel
theorem dL_law_114 : decode cL_law 114 = .ok (.iload_n 3, 1) := by decide +kernel
theorem dL_law_115 : decode cL_law 115 = .ok (.iconst 3, 1) := by decide +kernel
theorem dL_law_116 : decode cL_law 116 = .ok (.iadd, 1) := by decide +kernel
theorem dL_law_117 : decode cL_law 117 = .ok (.iaload, 1) := by decide +kernel
theorem dL_law_118 : decode cL_law 118 = .ok (.aload_n 0, 1) := by decide +kernel
theorem dL_law_119 : decode cL_law 119 = .ok (.iload_n 3, 1) := by decide +kernel
theorem dL_law_120 : decode cL_law 120 = .ok (.iconst 4, 1) := by decide +kernel
theorem dL_law_121 : decode cL_law 121 = .ok (.iadd, 1) := by decide +kernel
theorem dL_law_122 : decode cL_law 122 = .ok (.iaload, 1) := by decide +kernel
theorem dL_law_123 : decode cL_law 123 = .ok (.i2l, 1) := by decide +kernel
theorem dL_law_124 : decode cL_law 124 = .ok (.bipush 32, 2) := by decide +kernel
theorem dL_law_126 : decode cL_law 126 = .ok (.lshl, 1) := by decide +kernel
theorem dL_law_127 : decode cL_law 127 = .ok (.aload_n 0, 1) := by decide +kernel
theorem dL_law_128 : decode cL_law 128 = .ok (.iload_n 3, 1) := by decide +kernel
theorem dL_law_129 : decode cL_law 129 = .ok (.iconst 5, 1) := by decide +kernel
theorem dL_law_130 : decode cL_law 130 = .ok (.iadd, 1) := by decide +kernel
theorem dL_law_131 : decode cL_law 131 = .ok (.iaload, 1) := by decide +kernel
theorem dL_law_132 : decode cL_law 132 = .ok (.i2l, 1) := by decide +kernel
theorem dL_law_133 : decode cL_law 133 = .ok (.ldc2_w 13, 3) := by decide +kernel
theorem dL_law_136 : decode cL_law 136 = .ok (.land, 1) := by decide +kernel
theorem dL_law_137 : decode cL_law 137 = .ok (.lor, 1) := by decide +kernel
theorem dL_law_138 : decode cL_law 138 = .ok (.aload_n 0, 1) := by decide +kernel
theorem dL_law_139 : decode cL_law 139 = .ok (.iload_n 3, 1) := by decide +kernel
theorem dL_law_140 : decode cL_law 140 = .ok (.bipush 6, 2) := by decide +kernel
theorem dL_law_142 : decode cL_law 142 = .ok (.iadd, 1) := by decide +kernel
theorem dL_law_143 : decode cL_law 143 = .ok (.iaload, 1) := by decide +kernel
theorem dL_law_144 : decode cL_law 144 = .ok (.invokevirtual 15, 3) := by decide +kernel
theorem dL_law_147 : decode cL_law 147 = .ok (.aload_n 2, 1) := by decide +kernel
theorem dL_law_148 : decode cL_law 148 = .ok (.aload_n 0, 1) := by decide +kernel
theorem dL_law_149 : decode cL_law 149 = .ok (.iload_n 3, 1) := by decide +kernel
theorem dL_law_150 : decode cL_law 150 = .ok (.iconst 1, 1) := by decide +kernel
theorem dL_law_151 : decode cL_law 151 = .ok (.iadd, 1) := by decide +kernel
theorem dL_law_152 : decode cL_law 152 = .ok (.iaload, 1) := by decide +kernel
theorem dL_law_153 : decode cL_law 153 = .ok (.i2l, 1) := by decide +kernel
theorem dL_law_154 : decode cL_law 154 = .ok (.bipush 32, 2) := by decide +kernel
theorem dL_law_156 : decode cL_law 156 = .ok (.lshl, 1) := by decide +kernel
theorem dL_law_157 : decode cL_law 157 = .ok (.aload_n 0, 1) := by decide +kernel
theorem dL_law_158 : decode cL_law 158 = .ok (.iload_n 3, 1) := by decide +kernel
theorem dL_law_159 : decode cL_law 159 = .ok (.iconst 2, 1) := by decide +kernel
theorem dL_law_160 : decode cL_law 160 = .ok (.iadd, 1) := by decide +kernel
theorem dL_law_161 : decode cL_law 161 = .ok (.iaload, 1) := by decide +kernel
theorem dL_law_162 : decode cL_law 162 = .ok (.i2l, 1) := by decide +kernel
theorem dL_law_163 : decode cL_law 163 = .ok (.ldc2_w 13, 3) := by decide +kernel
theorem dL_law_166 : decode cL_law 166 = .ok (.land, 1) := by decide +kernel
theorem dL_law_167 : decode cL_law 167 = .ok (.lor, 1) := by decide +kernel
theorem dL_law_168 : decode cL_law 168 = .ok (.aload_n 0, 1) := by decide +kernel
theorem dL_law_169 : decode cL_law 169 = .ok (.iload_n 3, 1) := by decide +kernel
theorem dL_law_170 : decode cL_law 170 = .ok (.iconst 3, 1) := by decide +kernel
theorem dL_law_171 : decode cL_law 171 = .ok (.iadd, 1) := by decide +kernel
theorem dL_law_172 : decode cL_law 172 = .ok (.iaload, 1) := by decide +kernel
theorem dL_law_173 : decode cL_law 173 = .ok (.aload_n 0, 1) := by decide +kernel
theorem dL_law_174 : decode cL_law 174 = .ok (.iload_n 3, 1) := by decide +kernel
theorem dL_law_175 : decode cL_law 175 = .ok (.iconst 4, 1) := by decide +kernel
theorem dL_law_176 : decode cL_law 176 = .ok (.iadd, 1) := by decide +kernel
theorem dL_law_177 : decode cL_law 177 = .ok (.iaload, 1) := by decide +kernel
theorem dL_law_178 : decode cL_law 178 = .ok (.i2l, 1) := by decide +kernel
theorem dL_law_179 : decode cL_law 179 = .ok (.bipush 32, 2) := by decide +kernel
theorem dL_law_181 : decode cL_law 181 = .ok (.lshl, 1) := by decide +kernel
theorem dL_law_182 : decode cL_law 182 = .ok (.aload_n 0, 1) := by decide +kernel
theorem dL_law_183 : decode cL_law 183 = .ok (.iload_n 3, 1) := by decide +kernel
theorem dL_law_184 : decode cL_law 184 = .ok (.iconst 5, 1) := by decide +kernel
theorem dL_law_185 : decode cL_law 185 = .ok (.iadd, 1) := by decide +kernel
theorem dL_law_186 : decode cL_law 186 = .ok (.iaload, 1) := by decide +kernel
theorem dL_law_187 : decode cL_law 187 = .ok (.i2l, 1) := by decide +kernel
theorem dL_law_188 : decode cL_law 188 = .ok (.ldc2_w 13, 3) := by decide +kernel
theorem dL_law_191 : decode cL_law 191 = .ok (.land, 1) := by decide +kernel
theorem dL_law_192 : decode cL_law 192 = .ok (.lor, 1) := by decide +kernel
theorem dL_law_193 : decode cL_law 193 = .ok (.aload_n 0, 1) := by decide +kernel
theorem dL_law_194 : decode cL_law 194 = .ok (.iload_n 3, 1) := by decide +kernel
theorem dL_law_195 : decode cL_law 195 = .ok (.bipush 6, 2) := by decide +kernel
theorem dL_law_197 : decode cL_law 197 = .ok (.iadd, 1) := by decide +kernel
theorem dL_law_198 : decode cL_law 198 = .ok (.iaload, 1) := by decide +kernel
theorem dL_law_199 : decode cL_law 199 = .ok (.invokevirtual 19, 3) := by decide +kernel
theorem dL_law_202 : decode cL_law 202 = .ok (.if_icmp .eq 383, 3) := by decide +kernel
theorem dL_law_205 : decode cL_law 205 = .ok (.iconst 0, 1) := by decide +kernel
theorem dL_law_206 : decode cL_law 206 = .ok (.ireturn, 1) := by decide +kernel
theorem dL_law_207 : decode cL_law 207 = .ok (.aload_n 1, 1) := by decide +kernel
theorem dL_law_208 : decode cL_law 208 = .ok (.aload_n 0, 1) := by decide +kernel
theorem dL_law_209 : decode cL_law 209 = .ok (.iload_n 3, 1) := by decide +kernel
theorem dL_law_210 : decode cL_law 210 = .ok (.iconst 1, 1) := by decide +kernel
theorem dL_law_211 : decode cL_law 211 = .ok (.iadd, 1) := by decide +kernel
theorem dL_law_212 : decode cL_law 212 = .ok (.iaload, 1) := by decide +kernel
theorem dL_law_213 : decode cL_law 213 = .ok (.i2l, 1) := by decide +kernel
theorem dL_law_214 : decode cL_law 214 = .ok (.bipush 32, 2) := by decide +kernel
theorem dL_law_216 : decode cL_law 216 = .ok (.lshl, 1) := by decide +kernel
theorem dL_law_217 : decode cL_law 217 = .ok (.aload_n 0, 1) := by decide +kernel
theorem dL_law_218 : decode cL_law 218 = .ok (.iload_n 3, 1) := by decide +kernel
theorem dL_law_219 : decode cL_law 219 = .ok (.iconst 2, 1) := by decide +kernel
theorem dL_law_220 : decode cL_law 220 = .ok (.iadd, 1) := by decide +kernel
theorem dL_law_221 : decode cL_law 221 = .ok (.iaload, 1) := by decide +kernel
theorem dL_law_222 : decode cL_law 222 = .ok (.i2l, 1) := by decide +kernel
theorem dL_law_223 : decode cL_law 223 = .ok (.ldc2_w 13, 3) := by decide +kernel
theorem dL_law_226 : decode cL_law 226 = .ok (.land, 1) := by decide +kernel
theorem dL_law_227 : decode cL_law 227 = .ok (.lor, 1) := by decide +kernel
theorem dL_law_228 : decode cL_law 228 = .ok (.aload_n 0, 1) := by decide +kernel
theorem dL_law_229 : decode cL_law 229 = .ok (.iload_n 3, 1) := by decide +kernel
theorem dL_law_230 : decode cL_law 230 = .ok (.iconst 3, 1) := by decide +kernel
theorem dL_law_231 : decode cL_law 231 = .ok (.iadd, 1) := by decide +kernel
theorem dL_law_232 : decode cL_law 232 = .ok (.iaload, 1) := by decide +kernel
theorem dL_law_233 : decode cL_law 233 = .ok (.invokevirtual 20, 3) := by decide +kernel
theorem dL_law_236 : decode cL_law 236 = .ok (.aload_n 2, 1) := by decide +kernel
theorem dL_law_237 : decode cL_law 237 = .ok (.aload_n 0, 1) := by decide +kernel
theorem dL_law_238 : decode cL_law 238 = .ok (.iload_n 3, 1) := by decide +kernel
theorem dL_law_239 : decode cL_law 239 = .ok (.iconst 1, 1) := by decide +kernel
theorem dL_law_240 : decode cL_law 240 = .ok (.iadd, 1) := by decide +kernel
theorem dL_law_241 : decode cL_law 241 = .ok (.iaload, 1) := by decide +kernel
theorem dL_law_242 : decode cL_law 242 = .ok (.i2l, 1) := by decide +kernel
theorem dL_law_243 : decode cL_law 243 = .ok (.bipush 32, 2) := by decide +kernel
theorem dL_law_245 : decode cL_law 245 = .ok (.lshl, 1) := by decide +kernel
theorem dL_law_246 : decode cL_law 246 = .ok (.aload_n 0, 1) := by decide +kernel
theorem dL_law_247 : decode cL_law 247 = .ok (.iload_n 3, 1) := by decide +kernel
theorem dL_law_248 : decode cL_law 248 = .ok (.iconst 2, 1) := by decide +kernel
theorem dL_law_249 : decode cL_law 249 = .ok (.iadd, 1) := by decide +kernel
theorem dL_law_250 : decode cL_law 250 = .ok (.iaload, 1) := by decide +kernel
theorem dL_law_251 : decode cL_law 251 = .ok (.i2l, 1) := by decide +kernel
theorem dL_law_252 : decode cL_law 252 = .ok (.ldc2_w 13, 3) := by decide +kernel
theorem dL_law_255 : decode cL_law 255 = .ok (.land, 1) := by decide +kernel
theorem dL_law_256 : decode cL_law 256 = .ok (.lor, 1) := by decide +kernel
theorem dL_law_257 : decode cL_law 257 = .ok (.aload_n 0, 1) := by decide +kernel
theorem dL_law_258 : decode cL_law 258 = .ok (.iload_n 3, 1) := by decide +kernel
theorem dL_law_259 : decode cL_law 259 = .ok (.iconst 3, 1) := by decide +kernel
theorem dL_law_260 : decode cL_law 260 = .ok (.iadd, 1) := by decide +kernel
theorem dL_law_261 : decode cL_law 261 = .ok (.iaload, 1) := by decide +kernel
theorem dL_law_262 : decode cL_law 262 = .ok (.invokevirtual 24, 3) := by decide +kernel
theorem dL_law_265 : decode cL_law 265 = .ok (.if_icmp .eq 320, 3) := by decide +kernel
theorem dL_law_268 : decode cL_law 268 = .ok (.iconst 0, 1) := by decide +kernel
theorem dL_law_269 : decode cL_law 269 = .ok (.ireturn, 1) := by decide +kernel
theorem dL_law_270 : decode cL_law 270 = .ok (.aload_n 1, 1) := by decide +kernel
theorem dL_law_271 : decode cL_law 271 = .ok (.aload_n 0, 1) := by decide +kernel
theorem dL_law_272 : decode cL_law 272 = .ok (.iload_n 3, 1) := by decide +kernel
theorem dL_law_273 : decode cL_law 273 = .ok (.iconst 1, 1) := by decide +kernel
theorem dL_law_274 : decode cL_law 274 = .ok (.iadd, 1) := by decide +kernel
theorem dL_law_275 : decode cL_law 275 = .ok (.iaload, 1) := by decide +kernel
theorem dL_law_276 : decode cL_law 276 = .ok (.i2l, 1) := by decide +kernel
theorem dL_law_277 : decode cL_law 277 = .ok (.bipush 32, 2) := by decide +kernel
theorem dL_law_279 : decode cL_law 279 = .ok (.lshl, 1) := by decide +kernel
theorem dL_law_280 : decode cL_law 280 = .ok (.aload_n 0, 1) := by decide +kernel
theorem dL_law_281 : decode cL_law 281 = .ok (.iload_n 3, 1) := by decide +kernel
theorem dL_law_282 : decode cL_law 282 = .ok (.iconst 2, 1) := by decide +kernel
theorem dL_law_283 : decode cL_law 283 = .ok (.iadd, 1) := by decide +kernel
theorem dL_law_284 : decode cL_law 284 = .ok (.iaload, 1) := by decide +kernel
theorem dL_law_285 : decode cL_law 285 = .ok (.i2l, 1) := by decide +kernel
theorem dL_law_286 : decode cL_law 286 = .ok (.ldc2_w 13, 3) := by decide +kernel
theorem dL_law_289 : decode cL_law 289 = .ok (.land, 1) := by decide +kernel
theorem dL_law_290 : decode cL_law 290 = .ok (.lor, 1) := by decide +kernel
theorem dL_law_291 : decode cL_law 291 = .ok (.aload_n 0, 1) := by decide +kernel
theorem dL_law_292 : decode cL_law 292 = .ok (.iload_n 3, 1) := by decide +kernel
theorem dL_law_293 : decode cL_law 293 = .ok (.iconst 3, 1) := by decide +kernel
theorem dL_law_294 : decode cL_law 294 = .ok (.iadd, 1) := by decide +kernel
theorem dL_law_295 : decode cL_law 295 = .ok (.iaload, 1) := by decide +kernel
theorem dL_law_296 : decode cL_law 296 = .ok (.invokevirtual 25, 3) := by decide +kernel
theorem dL_law_299 : decode cL_law 299 = .ok (.aload_n 2, 1) := by decide +kernel
theorem dL_law_300 : decode cL_law 300 = .ok (.aload_n 0, 1) := by decide +kernel
theorem dL_law_301 : decode cL_law 301 = .ok (.iload_n 3, 1) := by decide +kernel
theorem dL_law_302 : decode cL_law 302 = .ok (.iconst 1, 1) := by decide +kernel
theorem dL_law_303 : decode cL_law 303 = .ok (.iadd, 1) := by decide +kernel
theorem dL_law_304 : decode cL_law 304 = .ok (.iaload, 1) := by decide +kernel
theorem dL_law_305 : decode cL_law 305 = .ok (.i2l, 1) := by decide +kernel
theorem dL_law_306 : decode cL_law 306 = .ok (.bipush 32, 2) := by decide +kernel
theorem dL_law_308 : decode cL_law 308 = .ok (.lshl, 1) := by decide +kernel
theorem dL_law_309 : decode cL_law 309 = .ok (.aload_n 0, 1) := by decide +kernel
theorem dL_law_310 : decode cL_law 310 = .ok (.iload_n 3, 1) := by decide +kernel
theorem dL_law_311 : decode cL_law 311 = .ok (.iconst 2, 1) := by decide +kernel
theorem dL_law_312 : decode cL_law 312 = .ok (.iadd, 1) := by decide +kernel
theorem dL_law_313 : decode cL_law 313 = .ok (.iaload, 1) := by decide +kernel
theorem dL_law_314 : decode cL_law 314 = .ok (.i2l, 1) := by decide +kernel
theorem dL_law_315 : decode cL_law 315 = .ok (.ldc2_w 13, 3) := by decide +kernel
theorem dL_law_318 : decode cL_law 318 = .ok (.land, 1) := by decide +kernel
theorem dL_law_319 : decode cL_law 319 = .ok (.lor, 1) := by decide +kernel
theorem dL_law_320 : decode cL_law 320 = .ok (.aload_n 0, 1) := by decide +kernel
theorem dL_law_321 : decode cL_law 321 = .ok (.iload_n 3, 1) := by decide +kernel
theorem dL_law_322 : decode cL_law 322 = .ok (.iconst 3, 1) := by decide +kernel
theorem dL_law_323 : decode cL_law 323 = .ok (.iadd, 1) := by decide +kernel
theorem dL_law_324 : decode cL_law 324 = .ok (.iaload, 1) := by decide +kernel
theorem dL_law_325 : decode cL_law 325 = .ok (.invokevirtual 29, 3) := by decide +kernel
theorem dL_law_328 : decode cL_law 328 = .ok (.if_icmp .eq 257, 3) := by decide +kernel
theorem dL_law_331 : decode cL_law 331 = .ok (.iconst 0, 1) := by decide +kernel
theorem dL_law_332 : decode cL_law 332 = .ok (.ireturn, 1) := by decide +kernel
theorem dL_law_333 : decode cL_law 333 = .ok (.aload_n 1, 1) := by decide +kernel
theorem dL_law_334 : decode cL_law 334 = .ok (.aload_n 0, 1) := by decide +kernel
theorem dL_law_335 : decode cL_law 335 = .ok (.iload_n 3, 1) := by decide +kernel
theorem dL_law_336 : decode cL_law 336 = .ok (.iconst 1, 1) := by decide +kernel
theorem dL_law_337 : decode cL_law 337 = .ok (.iadd, 1) := by decide +kernel
theorem dL_law_338 : decode cL_law 338 = .ok (.iaload, 1) := by decide +kernel
theorem dL_law_339 : decode cL_law 339 = .ok (.i2l, 1) := by decide +kernel
theorem dL_law_340 : decode cL_law 340 = .ok (.bipush 32, 2) := by decide +kernel
theorem dL_law_342 : decode cL_law 342 = .ok (.lshl, 1) := by decide +kernel
theorem dL_law_343 : decode cL_law 343 = .ok (.aload_n 0, 1) := by decide +kernel
theorem dL_law_344 : decode cL_law 344 = .ok (.iload_n 3, 1) := by decide +kernel
theorem dL_law_345 : decode cL_law 345 = .ok (.iconst 2, 1) := by decide +kernel
theorem dL_law_346 : decode cL_law 346 = .ok (.iadd, 1) := by decide +kernel
theorem dL_law_347 : decode cL_law 347 = .ok (.iaload, 1) := by decide +kernel
theorem dL_law_348 : decode cL_law 348 = .ok (.i2l, 1) := by decide +kernel
theorem dL_law_349 : decode cL_law 349 = .ok (.ldc2_w 13, 3) := by decide +kernel
theorem dL_law_352 : decode cL_law 352 = .ok (.land, 1) := by decide +kernel
theorem dL_law_353 : decode cL_law 353 = .ok (.lor, 1) := by decide +kernel
theorem dL_law_354 : decode cL_law 354 = .ok (.aload_n 0, 1) := by decide +kernel
theorem dL_law_355 : decode cL_law 355 = .ok (.iload_n 3, 1) := by decide +kernel
theorem dL_law_356 : decode cL_law 356 = .ok (.iconst 3, 1) := by decide +kernel
theorem dL_law_357 : decode cL_law 357 = .ok (.iadd, 1) := by decide +kernel
theorem dL_law_358 : decode cL_law 358 = .ok (.iaload, 1) := by decide +kernel
theorem dL_law_359 : decode cL_law 359 = .ok (.invokevirtual 30, 3) := by decide +kernel
theorem dL_law_362 : decode cL_law 362 = .ok (.aload_n 2, 1) := by decide +kernel
theorem dL_law_363 : decode cL_law 363 = .ok (.aload_n 0, 1) := by decide +kernel
theorem dL_law_364 : decode cL_law 364 = .ok (.iload_n 3, 1) := by decide +kernel
theorem dL_law_365 : decode cL_law 365 = .ok (.iconst 1, 1) := by decide +kernel
theorem dL_law_366 : decode cL_law 366 = .ok (.iadd, 1) := by decide +kernel
theorem dL_law_367 : decode cL_law 367 = .ok (.iaload, 1) := by decide +kernel
theorem dL_law_368 : decode cL_law 368 = .ok (.i2l, 1) := by decide +kernel
theorem dL_law_369 : decode cL_law 369 = .ok (.bipush 32, 2) := by decide +kernel
theorem dL_law_371 : decode cL_law 371 = .ok (.lshl, 1) := by decide +kernel
theorem dL_law_372 : decode cL_law 372 = .ok (.aload_n 0, 1) := by decide +kernel
theorem dL_law_373 : decode cL_law 373 = .ok (.iload_n 3, 1) := by decide +kernel
theorem dL_law_374 : decode cL_law 374 = .ok (.iconst 2, 1) := by decide +kernel
theorem dL_law_375 : decode cL_law 375 = .ok (.iadd, 1) := by decide +kernel
theorem dL_law_376 : decode cL_law 376 = .ok (.iaload, 1) := by decide +kernel
theorem dL_law_377 : decode cL_law 377 = .ok (.i2l, 1) := by decide +kernel
theorem dL_law_378 : decode cL_law 378 = .ok (.ldc2_w 13, 3) := by decide +kernel
theorem dL_law_381 : decode cL_law 381 = .ok (.land, 1) := by decide +kernel
theorem dL_law_382 : decode cL_law 382 = .ok (.lor, 1) := by decide +kernel
theorem dL_law_383 : decode cL_law 383 = .ok (.aload_n 0, 1) := by decide +kernel
theorem dL_law_384 : decode cL_law 384 = .ok (.iload_n 3, 1) := by decide +kernel
theorem dL_law_385 : decode cL_law 385 = .ok (.iconst 3, 1) := by decide +kernel
theorem dL_law_386 : decode cL_law 386 = .ok (.iadd, 1) := by decide +kernel
theorem dL_law_387 : decode cL_law 387 = .ok (.iaload, 1) := by decide +kernel
theorem dL_law_388 : decode cL_law 388 = .ok (.invokevirtual 34, 3) := by decide +kernel
theorem dL_law_391 : decode cL_law 391 = .ok (.lcmp, 1) := by decide +kernel
theorem dL_law_392 : decode cL_law 392 = .ok (.ifCond .eq 193, 3) := by decide +kernel
theorem dL_law_395 : decode cL_law 395 = .ok (.iconst 0, 1) := by decide +kernel
theorem dL_law_396 : decode cL_law 396 = .ok (.ireturn, 1) := by decide +kernel
theorem dL_law_397 : decode cL_law 397 = .ok (.aload_n 1, 1) := by decide +kernel
theorem dL_law_398 : decode cL_law 398 = .ok (.aload_n 0, 1) := by decide +kernel
theorem dL_law_399 : decode cL_law 399 = .ok (.iload_n 3, 1) := by decide +kernel
theorem dL_law_400 : decode cL_law 400 = .ok (.iconst 1, 1) := by decide +kernel
theorem dL_law_401 : decode cL_law 401 = .ok (.iadd, 1) := by decide +kernel
theorem dL_law_402 : decode cL_law 402 = .ok (.iaload, 1) := by decide +kernel
theorem dL_law_403 : decode cL_law 403 = .ok (.i2l, 1) := by decide +kernel
theorem dL_law_404 : decode cL_law 404 = .ok (.bipush 32, 2) := by decide +kernel
theorem dL_law_406 : decode cL_law 406 = .ok (.lshl, 1) := by decide +kernel
theorem dL_law_407 : decode cL_law 407 = .ok (.aload_n 0, 1) := by decide +kernel
theorem dL_law_408 : decode cL_law 408 = .ok (.iload_n 3, 1) := by decide +kernel
theorem dL_law_409 : decode cL_law 409 = .ok (.iconst 2, 1) := by decide +kernel
theorem dL_law_410 : decode cL_law 410 = .ok (.iadd, 1) := by decide +kernel
theorem dL_law_411 : decode cL_law 411 = .ok (.iaload, 1) := by decide +kernel
theorem dL_law_412 : decode cL_law 412 = .ok (.i2l, 1) := by decide +kernel
theorem dL_law_413 : decode cL_law 413 = .ok (.ldc2_w 13, 3) := by decide +kernel
theorem dL_law_416 : decode cL_law 416 = .ok (.land, 1) := by decide +kernel
theorem dL_law_417 : decode cL_law 417 = .ok (.lor, 1) := by decide +kernel
theorem dL_law_418 : decode cL_law 418 = .ok (.aload_n 0, 1) := by decide +kernel
theorem dL_law_419 : decode cL_law 419 = .ok (.iload_n 3, 1) := by decide +kernel
theorem dL_law_420 : decode cL_law 420 = .ok (.iconst 3, 1) := by decide +kernel
theorem dL_law_421 : decode cL_law 421 = .ok (.iadd, 1) := by decide +kernel
theorem dL_law_422 : decode cL_law 422 = .ok (.iaload, 1) := by decide +kernel
theorem dL_law_423 : decode cL_law 423 = .ok (.invokevirtual 35, 3) := by decide +kernel
theorem dL_law_426 : decode cL_law 426 = .ok (.aload_n 2, 1) := by decide +kernel
theorem dL_law_427 : decode cL_law 427 = .ok (.aload_n 0, 1) := by decide +kernel
theorem dL_law_428 : decode cL_law 428 = .ok (.iload_n 3, 1) := by decide +kernel
theorem dL_law_429 : decode cL_law 429 = .ok (.iconst 1, 1) := by decide +kernel
theorem dL_law_430 : decode cL_law 430 = .ok (.iadd, 1) := by decide +kernel
theorem dL_law_431 : decode cL_law 431 = .ok (.iaload, 1) := by decide +kernel
theorem dL_law_432 : decode cL_law 432 = .ok (.i2l, 1) := by decide +kernel
theorem dL_law_433 : decode cL_law 433 = .ok (.bipush 32, 2) := by decide +kernel
theorem dL_law_435 : decode cL_law 435 = .ok (.lshl, 1) := by decide +kernel
theorem dL_law_436 : decode cL_law 436 = .ok (.aload_n 0, 1) := by decide +kernel
theorem dL_law_437 : decode cL_law 437 = .ok (.iload_n 3, 1) := by decide +kernel
theorem dL_law_438 : decode cL_law 438 = .ok (.iconst 2, 1) := by decide +kernel
theorem dL_law_439 : decode cL_law 439 = .ok (.iadd, 1) := by decide +kernel
theorem dL_law_440 : decode cL_law 440 = .ok (.iaload, 1) := by decide +kernel
theorem dL_law_441 : decode cL_law 441 = .ok (.i2l, 1) := by decide +kernel
theorem dL_law_442 : decode cL_law 442 = .ok (.ldc2_w 13, 3) := by decide +kernel
theorem dL_law_445 : decode cL_law 445 = .ok (.land, 1) := by decide +kernel
theorem dL_law_446 : decode cL_law 446 = .ok (.lor, 1) := by decide +kernel
theorem dL_law_447 : decode cL_law 447 = .ok (.aload_n 0, 1) := by decide +kernel
theorem dL_law_448 : decode cL_law 448 = .ok (.iload_n 3, 1) := by decide +kernel
theorem dL_law_449 : decode cL_law 449 = .ok (.iconst 3, 1) := by decide +kernel
theorem dL_law_450 : decode cL_law 450 = .ok (.iadd, 1) := by decide +kernel
theorem dL_law_451 : decode cL_law 451 = .ok (.iaload, 1) := by decide +kernel
theorem dL_law_452 : decode cL_law 452 = .ok (.invokevirtual 38, 3) := by decide +kernel
theorem dL_law_455 : decode cL_law 455 = .ok (.if_icmp .eq 130, 3) := by decide +kernel
theorem dL_law_458 : decode cL_law 458 = .ok (.iconst 0, 1) := by decide +kernel
theorem dL_law_459 : decode cL_law 459 = .ok (.ireturn, 1) := by decide +kernel
theorem dL_law_460 : decode cL_law 460 = .ok (.aload_n 1, 1) := by decide +kernel
theorem dL_law_461 : decode cL_law 461 = .ok (.aload_n 0, 1) := by decide +kernel
theorem dL_law_462 : decode cL_law 462 = .ok (.iload_n 3, 1) := by decide +kernel
theorem dL_law_463 : decode cL_law 463 = .ok (.iconst 1, 1) := by decide +kernel
theorem dL_law_464 : decode cL_law 464 = .ok (.iadd, 1) := by decide +kernel
theorem dL_law_465 : decode cL_law 465 = .ok (.iaload, 1) := by decide +kernel
theorem dL_law_466 : decode cL_law 466 = .ok (.i2l, 1) := by decide +kernel
theorem dL_law_467 : decode cL_law 467 = .ok (.bipush 32, 2) := by decide +kernel
theorem dL_law_469 : decode cL_law 469 = .ok (.lshl, 1) := by decide +kernel
theorem dL_law_470 : decode cL_law 470 = .ok (.aload_n 0, 1) := by decide +kernel
theorem dL_law_471 : decode cL_law 471 = .ok (.iload_n 3, 1) := by decide +kernel
theorem dL_law_472 : decode cL_law 472 = .ok (.iconst 2, 1) := by decide +kernel
theorem dL_law_473 : decode cL_law 473 = .ok (.iadd, 1) := by decide +kernel
theorem dL_law_474 : decode cL_law 474 = .ok (.iaload, 1) := by decide +kernel
theorem dL_law_475 : decode cL_law 475 = .ok (.i2l, 1) := by decide +kernel
theorem dL_law_476 : decode cL_law 476 = .ok (.ldc2_w 13, 3) := by decide +kernel
theorem dL_law_479 : decode cL_law 479 = .ok (.land, 1) := by decide +kernel
theorem dL_law_480 : decode cL_law 480 = .ok (.lor, 1) := by decide +kernel
theorem dL_law_481 : decode cL_law 481 = .ok (.aload_n 0, 1) := by decide +kernel
theorem dL_law_482 : decode cL_law 482 = .ok (.iload_n 3, 1) := by decide +kernel
theorem dL_law_483 : decode cL_law 483 = .ok (.iconst 3, 1) := by decide +kernel
theorem dL_law_484 : decode cL_law 484 = .ok (.iadd, 1) := by decide +kernel
theorem dL_law_485 : decode cL_law 485 = .ok (.iaload, 1) := by decide +kernel
theorem dL_law_486 : decode cL_law 486 = .ok (.invokevirtual 39, 3) := by decide +kernel
theorem dL_law_489 : decode cL_law 489 = .ok (.aload_n 2, 1) := by decide +kernel
theorem dL_law_490 : decode cL_law 490 = .ok (.aload_n 0, 1) := by decide +kernel
theorem dL_law_491 : decode cL_law 491 = .ok (.iload_n 3, 1) := by decide +kernel
theorem dL_law_492 : decode cL_law 492 = .ok (.iconst 1, 1) := by decide +kernel
theorem dL_law_493 : decode cL_law 493 = .ok (.iadd, 1) := by decide +kernel
theorem dL_law_494 : decode cL_law 494 = .ok (.iaload, 1) := by decide +kernel
theorem dL_law_495 : decode cL_law 495 = .ok (.i2l, 1) := by decide +kernel
theorem dL_law_496 : decode cL_law 496 = .ok (.bipush 32, 2) := by decide +kernel
theorem dL_law_498 : decode cL_law 498 = .ok (.lshl, 1) := by decide +kernel
theorem dL_law_499 : decode cL_law 499 = .ok (.aload_n 0, 1) := by decide +kernel
theorem dL_law_500 : decode cL_law 500 = .ok (.iload_n 3, 1) := by decide +kernel
theorem dL_law_501 : decode cL_law 501 = .ok (.iconst 2, 1) := by decide +kernel
theorem dL_law_502 : decode cL_law 502 = .ok (.iadd, 1) := by decide +kernel
theorem dL_law_503 : decode cL_law 503 = .ok (.iaload, 1) := by decide +kernel
theorem dL_law_504 : decode cL_law 504 = .ok (.i2l, 1) := by decide +kernel
theorem dL_law_505 : decode cL_law 505 = .ok (.ldc2_w 13, 3) := by decide +kernel
theorem dL_law_508 : decode cL_law 508 = .ok (.land, 1) := by decide +kernel
theorem dL_law_509 : decode cL_law 509 = .ok (.lor, 1) := by decide +kernel
theorem dL_law_510 : decode cL_law 510 = .ok (.aload_n 0, 1) := by decide +kernel
theorem dL_law_511 : decode cL_law 511 = .ok (.iload_n 3, 1) := by decide +kernel
theorem dL_law_512 : decode cL_law 512 = .ok (.iconst 3, 1) := by decide +kernel
theorem dL_law_513 : decode cL_law 513 = .ok (.iadd, 1) := by decide +kernel
theorem dL_law_514 : decode cL_law 514 = .ok (.iaload, 1) := by decide +kernel
theorem dL_law_515 : decode cL_law 515 = .ok (.invokevirtual 42, 3) := by decide +kernel
theorem dL_law_518 : decode cL_law 518 = .ok (.if_icmp .eq 67, 3) := by decide +kernel
theorem dL_law_521 : decode cL_law 521 = .ok (.iconst 0, 1) := by decide +kernel
theorem dL_law_522 : decode cL_law 522 = .ok (.ireturn, 1) := by decide +kernel
theorem dL_law_523 : decode cL_law 523 = .ok (.aload_n 1, 1) := by decide +kernel
theorem dL_law_524 : decode cL_law 524 = .ok (.invokevirtual 43, 3) := by decide +kernel
theorem dL_law_527 : decode cL_law 527 = .ok (.aload_n 2, 1) := by decide +kernel
theorem dL_law_528 : decode cL_law 528 = .ok (.invokevirtual 47, 3) := by decide +kernel
theorem dL_law_531 : decode cL_law 531 = .ok (.if_icmp .eq 54, 3) := by decide +kernel
theorem dL_law_534 : decode cL_law 534 = .ok (.iconst 0, 1) := by decide +kernel
theorem dL_law_535 : decode cL_law 535 = .ok (.ireturn, 1) := by decide +kernel
theorem dL_law_536 : decode cL_law 536 = .ok (.aload_n 1, 1) := by decide +kernel
theorem dL_law_537 : decode cL_law 537 = .ok (.invokevirtual 48, 3) := by decide +kernel
theorem dL_law_540 : decode cL_law 540 = .ok (.aload_n 2, 1) := by decide +kernel
theorem dL_law_541 : decode cL_law 541 = .ok (.invokevirtual 52, 3) := by decide +kernel
theorem dL_law_544 : decode cL_law 544 = .ok (.lcmp, 1) := by decide +kernel
theorem dL_law_545 : decode cL_law 545 = .ok (.ifCond .eq 40, 3) := by decide +kernel
theorem dL_law_548 : decode cL_law 548 = .ok (.iconst 0, 1) := by decide +kernel
theorem dL_law_549 : decode cL_law 549 = .ok (.ireturn, 1) := by decide +kernel
theorem dL_law_550 : decode cL_law 550 = .ok (.aload_n 1, 1) := by decide +kernel
theorem dL_law_551 : decode cL_law 551 = .ok (.invokevirtual 53, 3) := by decide +kernel
theorem dL_law_554 : decode cL_law 554 = .ok (.aload_n 2, 1) := by decide +kernel
theorem dL_law_555 : decode cL_law 555 = .ok (.invokevirtual 56, 3) := by decide +kernel
theorem dL_law_558 : decode cL_law 558 = .ok (.if_icmp .eq 27, 3) := by decide +kernel
theorem dL_law_561 : decode cL_law 561 = .ok (.iconst 0, 1) := by decide +kernel
theorem dL_law_562 : decode cL_law 562 = .ok (.ireturn, 1) := by decide +kernel
theorem dL_law_563 : decode cL_law 563 = .ok (.aload_n 1, 1) := by decide +kernel
theorem dL_law_564 : decode cL_law 564 = .ok (.invokevirtual 57, 3) := by decide +kernel
theorem dL_law_567 : decode cL_law 567 = .ok (.aload_n 2, 1) := by decide +kernel
theorem dL_law_568 : decode cL_law 568 = .ok (.invokevirtual 60, 3) := by decide +kernel
theorem dL_law_571 : decode cL_law 571 = .ok (.goto 14, 3) := by decide +kernel
theorem dL_law_574 : decode cL_law 574 = .ok (.aload_n 1, 1) := by decide +kernel
theorem dL_law_575 : decode cL_law 575 = .ok (.invokevirtual 61, 3) := by decide +kernel
theorem dL_law_578 : decode cL_law 578 = .ok (.aload_n 2, 1) := by decide +kernel
theorem dL_law_579 : decode cL_law 579 = .ok (.invokevirtual 64, 3) := by decide +kernel
theorem dL_law_582 : decode cL_law 582 = .ok (.goto 3, 3) := by decide +kernel
theorem dL_law_585 : decode cL_law 585 = .ok (.iinc 3 7, 3) := by decide +kernel
theorem dL_law_588 : decode cL_law 588 = .ok (.goto (-570), 3) := by decide +kernel
theorem dL_law_591 : decode cL_law 591 = .ok (.iconst 1, 1) := by decide +kernel
theorem dL_law_592 : decode cL_law 592 = .ok (.ireturn, 1) := by decide +kernel
abbrev vwCl : List vw_C := [(RX0, TX0, 5), (RX1, TX1, 4), (RX2, TX2, 12)]
end
section
/-! OWN NAMES: methods of the reference that the printed list lacks (their words lie in the second run of the tables) -/
abbrev cX2_length : ByteArray := prog_4_method_10_code
def yX2_length : MethodName := ⟨RX2, "length", "(JI)I"⟩
abbrev cX2_text : ByteArray := prog_4_method_11_code
def yX2_text : MethodName := ⟨RX2, "text", "(JI)J"⟩
abbrev cX2_find : ByteArray := prog_4_method_12_code
def yX2_find : MethodName := ⟨RX2, "find", "(I)Z"⟩
abbrev cX2_seek : ByteArray := prog_4_method_13_code
def yX2_seek : MethodName := ⟨RX2, "seek", "(JI)Z"⟩
abbrev cX2_before : ByteArray := prog_4_method_14_code
def yX2_before : MethodName := ⟨RX2, "before", "(JI)Z"⟩
abbrev cX2_foundSize : ByteArray := prog_4_method_15_code
def yX2_foundSize : MethodName := ⟨RX2, "foundSize", "()I"⟩
abbrev cX2_found : ByteArray := prog_4_method_16_code
def yX2_found : MethodName := ⟨RX2, "found", "()J"⟩
abbrev cX2_count : ByteArray := prog_4_method_17_code
def yX2_count : MethodName := ⟨RX2, "count", "()I"⟩
abbrev cX2_commit : ByteArray := prog_4_method_18_code
def yX2_commit : MethodName := ⟨RX2, "commit", "()V"⟩
abbrev cX2_revert : ByteArray := prog_4_method_19_code
def yX2_revert : MethodName := ⟨RX2, "revert", "()V"⟩
def wsX2_length : List Cond := .code yX2_length cX2_length 5 (some .int) :: ([.fieldLink RX2 41 "BlockTreeModel" "many" "I", .fieldLink RX2 26 "BlockTreeModel" "length" "[I", .methodLink RX2 49 yX2_isSize, .static yX2_isSize, .methodLink RX2 53 yX2_place, .instanceMethod yX2_place, .selects RX2 yX2_place yX2_place, .methodLink RX2 57 yX2_isAt, .instanceMethod yX2_isAt, .selects RX2 yX2_isAt yX2_isAt, .initialized RX2] ++ wsX2_isSize ++ wsX2_place ++ wsX2_isAt ++ wsX20)
def wsX2_text : List Cond := .code yX2_text cX2_text 5 (some .long) :: ([.fieldLink RX2 41 "BlockTreeModel" "many" "I", .fieldLink RX2 13 "BlockTreeModel" "text" "[J", .methodLink RX2 49 yX2_isSize, .static yX2_isSize, .methodLink RX2 53 yX2_place, .instanceMethod yX2_place, .selects RX2 yX2_place yX2_place, .methodLink RX2 57 yX2_isAt, .instanceMethod yX2_isAt, .selects RX2 yX2_isAt yX2_isAt, .initialized RX2] ++ wsX2_isSize ++ wsX2_place ++ wsX2_isAt ++ wsX20)
def wsX2_find : List Cond := .code yX2_find cX2_find 3 (some .boolean) :: ([.fieldLink RX2 41 "BlockTreeModel" "many" "I", .fieldLink RX2 7 "BlockTreeModel" "key" "[J", .fieldLink RX2 65 "BlockTreeModel" "found" "J", .fieldLink RX2 22 "BlockTreeModel" "size" "[I", .fieldLink RX2 69 "BlockTreeModel" "foundSize" "I"] ++ wsX20)
def wsX2_seek : List Cond := .code yX2_seek cX2_seek 4 (some .boolean) :: ([.methodLink RX2 49 yX2_isSize, .static yX2_isSize, .methodLink RX2 53 yX2_place, .instanceMethod yX2_place, .selects RX2 yX2_place yX2_place, .methodLink RX2 72 yX2_find, .instanceMethod yX2_find, .selects RX2 yX2_find yX2_find, .initialized RX2] ++ wsX2_isSize ++ wsX2_place ++ wsX2_find ++ wsX20)
def wsX2_before : List Cond := .code yX2_before cX2_before 4 (some .boolean) :: ([.methodLink RX2 49 yX2_isSize, .static yX2_isSize, .methodLink RX2 53 yX2_place, .instanceMethod yX2_place, .selects RX2 yX2_place yX2_place, .methodLink RX2 72 yX2_find, .instanceMethod yX2_find, .selects RX2 yX2_find yX2_find, .initialized RX2] ++ wsX2_isSize ++ wsX2_place ++ wsX2_find ++ wsX20)
def wsX2_foundSize : List Cond := .code yX2_foundSize cX2_foundSize 1 (some .int) :: ([.fieldLink RX2 69 "BlockTreeModel" "foundSize" "I"] ++ wsX20)
def wsX2_found : List Cond := .code yX2_found cX2_found 1 (some .long) :: ([.fieldLink RX2 65 "BlockTreeModel" "found" "J"] ++ wsX20)
def wsX2_count : List Cond := .code yX2_count cX2_count 1 (some .int) :: ([.fieldLink RX2 41 "BlockTreeModel" "many" "I"] ++ wsX20)
def wsX2_commit : List Cond := .code yX2_commit cX2_commit 2 none :: ([.fieldLink RX2 41 "BlockTreeModel" "many" "I", .fieldLink RX2 75 "BlockTreeModel" "kept" "I", .fieldLink RX2 16 "BlockTreeModel" "keptKey" "[J", .fieldLink RX2 7 "BlockTreeModel" "key" "[J", .fieldLink RX2 29 "BlockTreeModel" "keptSize" "[I", .fieldLink RX2 22 "BlockTreeModel" "size" "[I", .fieldLink RX2 19 "BlockTreeModel" "keptText" "[J", .fieldLink RX2 13 "BlockTreeModel" "text" "[J", .fieldLink RX2 32 "BlockTreeModel" "keptLength" "[I", .fieldLink RX2 26 "BlockTreeModel" "length" "[I"] ++ wsX20)
def wsX2_revert : List Cond := .code yX2_revert cX2_revert 2 none :: ([.fieldLink RX2 75 "BlockTreeModel" "kept" "I", .fieldLink RX2 41 "BlockTreeModel" "many" "I", .fieldLink RX2 7 "BlockTreeModel" "key" "[J", .fieldLink RX2 16 "BlockTreeModel" "keptKey" "[J", .fieldLink RX2 22 "BlockTreeModel" "size" "[I", .fieldLink RX2 29 "BlockTreeModel" "keptSize" "[I", .fieldLink RX2 13 "BlockTreeModel" "text" "[J", .fieldLink RX2 19 "BlockTreeModel" "keptText" "[J", .fieldLink RX2 26 "BlockTreeModel" "length" "[I", .fieldLink RX2 32 "BlockTreeModel" "keptLength" "[I"] ++ wsX20)
set_option maxRecDepth 20000 in
theorem gX2_length_X2_isSize : GoodIn wsX2_length (va_wsS RX2 49 yX2_isSize wsX2_isSize) := goodIn_sub (by decide +kernel) (by decide +kernel)
set_option maxRecDepth 20000 in
theorem gX2_length_X2_place : GoodIn wsX2_length (wsV RX2 53 RX2 yX2_place wsX2_place) := goodIn_sub (by decide +kernel) (by decide +kernel)
set_option maxRecDepth 20000 in
theorem gX2_length_X2_isAt : GoodIn wsX2_length (wsV RX2 57 RX2 yX2_isAt wsX2_isAt) := goodIn_sub (by decide +kernel) (by decide +kernel)
theorem dX2_length_0 : decode cX2_length 0 = .ok (.iload_n 3, 1) := by decide +kernel
theorem dX2_length_1 : decode cX2_length 1 = .ok (.invokestatic 49, 3) := by decide +kernel
theorem dX2_length_4 : decode cX2_length 4 = .ok (.ifCond .eq 12, 3) := by decide +kernel
theorem dX2_length_7 : decode cX2_length 7 = .ok (.aload_n 0, 1) := by decide +kernel
theorem dX2_length_8 : decode cX2_length 8 = .ok (.lload_n 1, 1) := by decide +kernel
theorem dX2_length_9 : decode cX2_length 9 = .ok (.iload_n 3, 1) := by decide +kernel
theorem dX2_length_10 : decode cX2_length 10 = .ok (.invokevirtual 53, 3) := by decide +kernel
theorem dX2_length_13 : decode cX2_length 13 = .ok (.goto 7, 3) := by decide +kernel
theorem dX2_length_16 : decode cX2_length 16 = .ok (.aload_n 0, 1) := by decide +kernel
theorem dX2_length_17 : decode cX2_length 17 = .ok (.getfield 41, 3) := by decide +kernel
theorem dX2_length_20 : decode cX2_length 20 = .ok (.istore 4, 2) := by decide +kernel
theorem dX2_length_22 : decode cX2_length 22 = .ok (.aload_n 0, 1) := by decide +kernel
theorem dX2_length_23 : decode cX2_length 23 = .ok (.iload 4, 2) := by decide +kernel
theorem dX2_length_25 : decode cX2_length 25 = .ok (.lload_n 1, 1) := by decide +kernel
theorem dX2_length_26 : decode cX2_length 26 = .ok (.iload_n 3, 1) := by decide +kernel
theorem dX2_length_27 : decode cX2_length 27 = .ok (.invokevirtual 57, 3) := by decide +kernel
theorem dX2_length_30 : decode cX2_length 30 = .ok (.ifCond .eq 13, 3) := by decide +kernel
theorem dX2_length_33 : decode cX2_length 33 = .ok (.aload_n 0, 1) := by decide +kernel
theorem dX2_length_34 : decode cX2_length 34 = .ok (.getfield 26, 3) := by decide +kernel
theorem dX2_length_37 : decode cX2_length 37 = .ok (.iload 4, 2) := by decide +kernel
theorem dX2_length_39 : decode cX2_length 39 = .ok (.iaload, 1) := by decide +kernel
theorem dX2_length_40 : decode cX2_length 40 = .ok (.goto 4, 3) := by decide +kernel
theorem dX2_length_43 : decode cX2_length 43 = .ok (.iconst (-1), 1) := by decide +kernel
theorem dX2_length_44 : decode cX2_length 44 = .ok (.ireturn, 1) := by decide +kernel
set_option maxRecDepth 20000 in
theorem gX2_text_X2_isSize : GoodIn wsX2_text (va_wsS RX2 49 yX2_isSize wsX2_isSize) := goodIn_sub (by decide +kernel) (by decide +kernel)
set_option maxRecDepth 20000 in
theorem gX2_text_X2_place : GoodIn wsX2_text (wsV RX2 53 RX2 yX2_place wsX2_place) := goodIn_sub (by decide +kernel) (by decide +kernel)
set_option maxRecDepth 20000 in
theorem gX2_text_X2_isAt : GoodIn wsX2_text (wsV RX2 57 RX2 yX2_isAt wsX2_isAt) := goodIn_sub (by decide +kernel) (by decide +kernel)
theorem dX2_text_0 : decode cX2_text 0 = .ok (.iload_n 3, 1) := by decide +kernel
theorem dX2_text_1 : decode cX2_text 1 = .ok (.invokestatic 49, 3) := by decide +kernel
theorem dX2_text_4 : decode cX2_text 4 = .ok (.ifCond .eq 12, 3) := by decide +kernel
theorem dX2_text_7 : decode cX2_text 7 = .ok (.aload_n 0, 1) := by decide +kernel
theorem dX2_text_8 : decode cX2_text 8 = .ok (.lload_n 1, 1) := by decide +kernel
theorem dX2_text_9 : decode cX2_text 9 = .ok (.iload_n 3, 1) := by decide +kernel
theorem dX2_text_10 : decode cX2_text 10 = .ok (.invokevirtual 53, 3) := by decide +kernel
theorem dX2_text_13 : decode cX2_text 13 = .ok (.goto 7, 3) := by decide +kernel
theorem dX2_text_16 : decode cX2_text 16 = .ok (.aload_n 0, 1) := by decide +kernel
theorem dX2_text_17 : decode cX2_text 17 = .ok (.getfield 41, 3) := by decide +kernel
theorem dX2_text_20 : decode cX2_text 20 = .ok (.istore 4, 2) := by decide +kernel
theorem dX2_text_22 : decode cX2_text 22 = .ok (.aload_n 0, 1) := by decide +kernel
theorem dX2_text_23 : decode cX2_text 23 = .ok (.iload 4, 2) := by decide +kernel
theorem dX2_text_25 : decode cX2_text 25 = .ok (.lload_n 1, 1) := by decide +kernel
theorem dX2_text_26 : decode cX2_text 26 = .ok (.iload_n 3, 1) := by decide +kernel
theorem dX2_text_27 : decode cX2_text 27 = .ok (.invokevirtual 57, 3) := by decide +kernel
theorem dX2_text_30 : decode cX2_text 30 = .ok (.ifCond .eq 13, 3) := by decide +kernel
theorem dX2_text_33 : decode cX2_text 33 = .ok (.aload_n 0, 1) := by decide +kernel
theorem dX2_text_34 : decode cX2_text 34 = .ok (.getfield 13, 3) := by decide +kernel
theorem dX2_text_37 : decode cX2_text 37 = .ok (.iload 4, 2) := by decide +kernel
theorem dX2_text_39 : decode cX2_text 39 = .ok (.laload, 1) := by decide +kernel
theorem dX2_text_40 : decode cX2_text 40 = .ok (.goto 4, 3) := by decide +kernel
theorem dX2_text_43 : decode cX2_text 43 = .ok (.lconst 0, 1) := by decide +kernel
theorem dX2_text_44 : decode cX2_text 44 = .ok (.lreturn, 1) := by decide +kernel
theorem dX2_find_0 : decode cX2_find 0 = .ok (.iload_n 1, 1) := by decide +kernel
theorem dX2_find_1 : decode cX2_find 1 = .ok (.ifCond .lt 15, 3) := by decide +kernel
theorem dX2_find_4 : decode cX2_find 4 = .ok (.iload_n 1, 1) := by decide +kernel
theorem dX2_find_5 : decode cX2_find 5 = .ok (.aload_n 0, 1) := by decide +kernel
theorem dX2_find_6 : decode cX2_find 6 = .ok (.getfield 41, 3) := by decide +kernel
theorem dX2_find_9 : decode cX2_find 9 = .ok (.if_icmp .ge 7, 3) := by decide +kernel
theorem dX2_find_12 : decode cX2_find 12 = .ok (.iconst 1, 1) := by decide +kernel
theorem dX2_find_13 : decode cX2_find 13 = .ok (.goto 4, 3) := by decide +kernel
theorem dX2_find_16 : decode cX2_find 16 = .ok (.iconst 0, 1) := by decide +kernel
theorem dX2_find_17 : decode cX2_find 17 = .ok (.istore_n 2, 1) := by decide +kernel
theorem dX2_find_18 : decode cX2_find 18 = .ok (.aload_n 0, 1) := by decide +kernel
theorem dX2_find_19 : decode cX2_find 19 = .ok (.iload_n 2, 1) := by decide +kernel
theorem dX2_find_20 : decode cX2_find 20 = .ok (.ifCond .eq 12, 3) := by decide +kernel
theorem dX2_find_23 : decode cX2_find 23 = .ok (.aload_n 0, 1) := by decide +kernel
theorem dX2_find_24 : decode cX2_find 24 = .ok (.getfield 7, 3) := by decide +kernel
theorem dX2_find_27 : decode cX2_find 27 = .ok (.iload_n 1, 1) := by decide +kernel
theorem dX2_find_28 : decode cX2_find 28 = .ok (.laload, 1) := by decide +kernel
theorem dX2_find_29 : decode cX2_find 29 = .ok (.goto 4, 3) := by decide +kernel
theorem dX2_find_32 : decode cX2_find 32 = .ok (.lconst 0, 1) := by decide +kernel
theorem dX2_find_33 : decode cX2_find 33 = .ok (.putfield 65, 3) := by decide +kernel
theorem dX2_find_36 : decode cX2_find 36 = .ok (.aload_n 0, 1) := by decide +kernel
theorem dX2_find_37 : decode cX2_find 37 = .ok (.iload_n 2, 1) := by decide +kernel
theorem dX2_find_38 : decode cX2_find 38 = .ok (.ifCond .eq 12, 3) := by decide +kernel
theorem dX2_find_41 : decode cX2_find 41 = .ok (.aload_n 0, 1) := by decide +kernel
theorem dX2_find_42 : decode cX2_find 42 = .ok (.getfield 22, 3) := by decide +kernel
theorem dX2_find_45 : decode cX2_find 45 = .ok (.iload_n 1, 1) := by decide +kernel
theorem dX2_find_46 : decode cX2_find 46 = .ok (.iaload, 1) := by decide +kernel
theorem dX2_find_47 : decode cX2_find 47 = .ok (.goto 4, 3) := by decide +kernel
theorem dX2_find_50 : decode cX2_find 50 = .ok (.iconst 0, 1) := by decide +kernel
theorem dX2_find_51 : decode cX2_find 51 = .ok (.putfield 69, 3) := by decide +kernel
theorem dX2_find_54 : decode cX2_find 54 = .ok (.iload_n 2, 1) := by decide +kernel
theorem dX2_find_55 : decode cX2_find 55 = .ok (.ireturn, 1) := by decide +kernel
set_option maxRecDepth 20000 in
theorem gX2_seek_X2_isSize : GoodIn wsX2_seek (va_wsS RX2 49 yX2_isSize wsX2_isSize) := goodIn_sub (by decide +kernel) (by decide +kernel)
set_option maxRecDepth 20000 in
theorem gX2_seek_X2_place : GoodIn wsX2_seek (wsV RX2 53 RX2 yX2_place wsX2_place) := goodIn_sub (by decide +kernel) (by decide +kernel)
set_option maxRecDepth 20000 in
theorem gX2_seek_X2_find : GoodIn wsX2_seek (wsV RX2 72 RX2 yX2_find wsX2_find) := goodIn_sub (by decide +kernel) (by decide +kernel)
theorem dX2_seek_0 : decode cX2_seek 0 = .ok (.aload_n 0, 1) := by decide +kernel
theorem dX2_seek_1 : decode cX2_seek 1 = .ok (.iload_n 3, 1) := by decide +kernel
theorem dX2_seek_2 : decode cX2_seek 2 = .ok (.invokestatic 49, 3) := by decide +kernel
theorem dX2_seek_5 : decode cX2_seek 5 = .ok (.ifCond .eq 12, 3) := by decide +kernel
theorem dX2_seek_8 : decode cX2_seek 8 = .ok (.aload_n 0, 1) := by decide +kernel
theorem dX2_seek_9 : decode cX2_seek 9 = .ok (.lload_n 1, 1) := by decide +kernel
theorem dX2_seek_10 : decode cX2_seek 10 = .ok (.iload_n 3, 1) := by decide +kernel
theorem dX2_seek_11 : decode cX2_seek 11 = .ok (.invokevirtual 53, 3) := by decide +kernel
theorem dX2_seek_14 : decode cX2_seek 14 = .ok (.goto 4, 3) := by decide +kernel
theorem dX2_seek_17 : decode cX2_seek 17 = .ok (.iconst (-1), 1) := by decide +kernel
theorem dX2_seek_18 : decode cX2_seek 18 = .ok (.invokevirtual 72, 3) := by decide +kernel
theorem dX2_seek_21 : decode cX2_seek 21 = .ok (.ireturn, 1) := by decide +kernel
set_option maxRecDepth 20000 in
theorem gX2_before_X2_isSize : GoodIn wsX2_before (va_wsS RX2 49 yX2_isSize wsX2_isSize) := goodIn_sub (by decide +kernel) (by decide +kernel)
set_option maxRecDepth 20000 in
theorem gX2_before_X2_place : GoodIn wsX2_before (wsV RX2 53 RX2 yX2_place wsX2_place) := goodIn_sub (by decide +kernel) (by decide +kernel)
set_option maxRecDepth 20000 in
theorem gX2_before_X2_find : GoodIn wsX2_before (wsV RX2 72 RX2 yX2_find wsX2_find) := goodIn_sub (by decide +kernel) (by decide +kernel)
theorem dX2_before_0 : decode cX2_before 0 = .ok (.aload_n 0, 1) := by decide +kernel
theorem dX2_before_1 : decode cX2_before 1 = .ok (.iload_n 3, 1) := by decide +kernel
theorem dX2_before_2 : decode cX2_before 2 = .ok (.invokestatic 49, 3) := by decide +kernel
theorem dX2_before_5 : decode cX2_before 5 = .ok (.ifCond .eq 14, 3) := by decide +kernel
theorem dX2_before_8 : decode cX2_before 8 = .ok (.aload_n 0, 1) := by decide +kernel
theorem dX2_before_9 : decode cX2_before 9 = .ok (.lload_n 1, 1) := by decide +kernel
theorem dX2_before_10 : decode cX2_before 10 = .ok (.iload_n 3, 1) := by decide +kernel
theorem dX2_before_11 : decode cX2_before 11 = .ok (.invokevirtual 53, 3) := by decide +kernel
theorem dX2_before_14 : decode cX2_before 14 = .ok (.iconst 1, 1) := by decide +kernel
theorem dX2_before_15 : decode cX2_before 15 = .ok (.isub, 1) := by decide +kernel
theorem dX2_before_16 : decode cX2_before 16 = .ok (.goto 4, 3) := by decide +kernel
theorem dX2_before_19 : decode cX2_before 19 = .ok (.iconst (-1), 1) := by decide +kernel
theorem dX2_before_20 : decode cX2_before 20 = .ok (.invokevirtual 72, 3) := by decide +kernel
theorem dX2_before_23 : decode cX2_before 23 = .ok (.ireturn, 1) := by decide +kernel
theorem dX2_foundSize_0 : decode cX2_foundSize 0 = .ok (.aload_n 0, 1) := by decide +kernel
theorem dX2_foundSize_1 : decode cX2_foundSize 1 = .ok (.getfield 69, 3) := by decide +kernel
theorem dX2_foundSize_4 : decode cX2_foundSize 4 = .ok (.ireturn, 1) := by decide +kernel
theorem dX2_found_0 : decode cX2_found 0 = .ok (.aload_n 0, 1) := by decide +kernel
theorem dX2_found_1 : decode cX2_found 1 = .ok (.getfield 65, 3) := by decide +kernel
theorem dX2_found_4 : decode cX2_found 4 = .ok (.lreturn, 1) := by decide +kernel
theorem dX2_count_0 : decode cX2_count 0 = .ok (.aload_n 0, 1) := by decide +kernel
theorem dX2_count_1 : decode cX2_count 1 = .ok (.getfield 41, 3) := by decide +kernel
theorem dX2_count_4 : decode cX2_count 4 = .ok (.ireturn, 1) := by decide +kernel
theorem dX2_commit_0 : decode cX2_commit 0 = .ok (.aload_n 0, 1) := by decide +kernel
theorem dX2_commit_1 : decode cX2_commit 1 = .ok (.aload_n 0, 1) := by decide +kernel
theorem dX2_commit_2 : decode cX2_commit 2 = .ok (.getfield 41, 3) := by decide +kernel
theorem dX2_commit_5 : decode cX2_commit 5 = .ok (.putfield 75, 3) := by decide +kernel
theorem dX2_commit_8 : decode cX2_commit 8 = .ok (.iconst 0, 1) := by decide +kernel
theorem dX2_commit_9 : decode cX2_commit 9 = .ok (.istore_n 1, 1) := by decide +kernel
theorem dX2_commit_10 : decode cX2_commit 10 = .ok (.iload_n 1, 1) := by decide +kernel
theorem dX2_commit_11 : decode cX2_commit 11 = .ok (.aload_n 0, 1) := by decide +kernel
theorem dX2_commit_12 : decode cX2_commit 12 = .ok (.getfield 41, 3) := by decide +kernel
theorem dX2_commit_15 : decode cX2_commit 15 = .ok (.if_icmp .ge 57, 3) := by decide +kernel
theorem dX2_commit_18 : decode cX2_commit 18 = .ok (.aload_n 0, 1) := by decide +kernel
theorem dX2_commit_19 : decode cX2_commit 19 = .ok (.getfield 16, 3) := by decide +kernel
theorem dX2_commit_22 : decode cX2_commit 22 = .ok (.iload_n 1, 1) := by decide +kernel
theorem dX2_commit_23 : decode cX2_commit 23 = .ok (.aload_n 0, 1) := by decide +kernel
theorem dX2_commit_24 : decode cX2_commit 24 = .ok (.getfield 7, 3) := by decide +kernel
theorem dX2_commit_27 : decode cX2_commit 27 = .ok (.iload_n 1, 1) := by decide +kernel
theorem dX2_commit_28 : decode cX2_commit 28 = .ok (.laload, 1) := by decide +kernel
theorem dX2_commit_29 : decode cX2_commit 29 = .ok (.lastore, 1) := by decide +kernel
theorem dX2_commit_30 : decode cX2_commit 30 = .ok (.aload_n 0, 1) := by decide +kernel
theorem dX2_commit_31 : decode cX2_commit 31 = .ok (.getfield 29, 3) := by decide +kernel
theorem dX2_commit_34 : decode cX2_commit 34 = .ok (.iload_n 1, 1) := by decide +kernel
theorem dX2_commit_35 : decode cX2_commit 35 = .ok (.aload_n 0, 1) := by decide +kernel
theorem dX2_commit_36 : decode cX2_commit 36 = .ok (.getfield 22, 3) := by decide +kernel
theorem dX2_commit_39 : decode cX2_commit 39 = .ok (.iload_n 1, 1) := by decide +kernel
theorem dX2_commit_40 : decode cX2_commit 40 = .ok (.iaload, 1) := by decide +kernel
theorem dX2_commit_41 : decode cX2_commit 41 = .ok (.iastore, 1) := by decide +kernel
theorem dX2_commit_42 : decode cX2_commit 42 = .ok (.aload_n 0, 1) := by decide +kernel
theorem dX2_commit_43 : decode cX2_commit 43 = .ok (.getfield 19, 3) := by decide +kernel
theorem dX2_commit_46 : decode cX2_commit 46 = .ok (.iload_n 1, 1) := by decide +kernel
theorem dX2_commit_47 : decode cX2_commit 47 = .ok (.aload_n 0, 1) := by decide +kernel
theorem dX2_commit_48 : decode cX2_commit 48 = .ok (.getfield 13, 3) := by decide +kernel
theorem dX2_commit_51 : decode cX2_commit 51 = .ok (.iload_n 1, 1) := by decide +kernel
theorem dX2_commit_52 : decode cX2_commit 52 = .ok (.laload, 1) := by decide +kernel
theorem dX2_commit_53 : decode cX2_commit 53 = .ok (.lastore, 1) := by decide +kernel
theorem dX2_commit_54 : decode cX2_commit 54 = .ok (.aload_n 0, 1) := by decide +kernel
theorem dX2_commit_55 : decode cX2_commit 55 = .ok (.getfield 32, 3) := by decide +kernel
theorem dX2_commit_58 : decode cX2_commit 58 = .ok (.iload_n 1, 1) := by decide +kernel
theorem dX2_commit_59 : decode cX2_commit 59 = .ok (.aload_n 0, 1) := by decide +kernel
theorem dX2_commit_60 : decode cX2_commit 60 = .ok (.getfield 26, 3) := by decide +kernel
theorem dX2_commit_63 : decode cX2_commit 63 = .ok (.iload_n 1, 1) := by decide +kernel
theorem dX2_commit_64 : decode cX2_commit 64 = .ok (.iaload, 1) := by decide +kernel
theorem dX2_commit_65 : decode cX2_commit 65 = .ok (.iastore, 1) := by decide +kernel
theorem dX2_commit_66 : decode cX2_commit 66 = .ok (.iinc 1 1, 3) := by decide +kernel
theorem dX2_commit_69 : decode cX2_commit 69 = .ok (.goto (-59), 3) := by decide +kernel
theorem dX2_commit_72 : decode cX2_commit 72 = .ok (.return_, 1) := by decide +kernel
theorem dX2_revert_0 : decode cX2_revert 0 = .ok (.aload_n 0, 1) := by decide +kernel
theorem dX2_revert_1 : decode cX2_revert 1 = .ok (.aload_n 0, 1) := by decide +kernel
theorem dX2_revert_2 : decode cX2_revert 2 = .ok (.getfield 75, 3) := by decide +kernel
theorem dX2_revert_5 : decode cX2_revert 5 = .ok (.putfield 41, 3) := by decide +kernel
theorem dX2_revert_8 : decode cX2_revert 8 = .ok (.iconst 0, 1) := by decide +kernel
theorem dX2_revert_9 : decode cX2_revert 9 = .ok (.istore_n 1, 1) := by decide +kernel
theorem dX2_revert_10 : decode cX2_revert 10 = .ok (.iload_n 1, 1) := by decide +kernel
theorem dX2_revert_11 : decode cX2_revert 11 = .ok (.aload_n 0, 1) := by decide +kernel
theorem dX2_revert_12 : decode cX2_revert 12 = .ok (.getfield 41, 3) := by decide +kernel
theorem dX2_revert_15 : decode cX2_revert 15 = .ok (.if_icmp .ge 57, 3) := by decide +kernel
theorem dX2_revert_18 : decode cX2_revert 18 = .ok (.aload_n 0, 1) := by decide +kernel
theorem dX2_revert_19 : decode cX2_revert 19 = .ok (.getfield 7, 3) := by decide +kernel
theorem dX2_revert_22 : decode cX2_revert 22 = .ok (.iload_n 1, 1) := by decide +kernel
theorem dX2_revert_23 : decode cX2_revert 23 = .ok (.aload_n 0, 1) := by decide +kernel
theorem dX2_revert_24 : decode cX2_revert 24 = .ok (.getfield 16, 3) := by decide +kernel
theorem dX2_revert_27 : decode cX2_revert 27 = .ok (.iload_n 1, 1) := by decide +kernel
theorem dX2_revert_28 : decode cX2_revert 28 = .ok (.laload, 1) := by decide +kernel
theorem dX2_revert_29 : decode cX2_revert 29 = .ok (.lastore, 1) := by decide +kernel
theorem dX2_revert_30 : decode cX2_revert 30 = .ok (.aload_n 0, 1) := by decide +kernel
theorem dX2_revert_31 : decode cX2_revert 31 = .ok (.getfield 22, 3) := by decide +kernel
theorem dX2_revert_34 : decode cX2_revert 34 = .ok (.iload_n 1, 1) := by decide +kernel
theorem dX2_revert_35 : decode cX2_revert 35 = .ok (.aload_n 0, 1) := by decide +kernel
theorem dX2_revert_36 : decode cX2_revert 36 = .ok (.getfield 29, 3) := by decide +kernel
theorem dX2_revert_39 : decode cX2_revert 39 = .ok (.iload_n 1, 1) := by decide +kernel
theorem dX2_revert_40 : decode cX2_revert 40 = .ok (.iaload, 1) := by decide +kernel
theorem dX2_revert_41 : decode cX2_revert 41 = .ok (.iastore, 1) := by decide +kernel
theorem dX2_revert_42 : decode cX2_revert 42 = .ok (.aload_n 0, 1) := by decide +kernel
theorem dX2_revert_43 : decode cX2_revert 43 = .ok (.getfield 13, 3) := by decide +kernel
theorem dX2_revert_46 : decode cX2_revert 46 = .ok (.iload_n 1, 1) := by decide +kernel
theorem dX2_revert_47 : decode cX2_revert 47 = .ok (.aload_n 0, 1) := by decide +kernel
theorem dX2_revert_48 : decode cX2_revert 48 = .ok (.getfield 19, 3) := by decide +kernel
theorem dX2_revert_51 : decode cX2_revert 51 = .ok (.iload_n 1, 1) := by decide +kernel
theorem dX2_revert_52 : decode cX2_revert 52 = .ok (.laload, 1) := by decide +kernel
theorem dX2_revert_53 : decode cX2_revert 53 = .ok (.lastore, 1) := by decide +kernel
theorem dX2_revert_54 : decode cX2_revert 54 = .ok (.aload_n 0, 1) := by decide +kernel
theorem dX2_revert_55 : decode cX2_revert 55 = .ok (.getfield 26, 3) := by decide +kernel
theorem dX2_revert_58 : decode cX2_revert 58 = .ok (.iload_n 1, 1) := by decide +kernel
theorem dX2_revert_59 : decode cX2_revert 59 = .ok (.aload_n 0, 1) := by decide +kernel
theorem dX2_revert_60 : decode cX2_revert 60 = .ok (.getfield 32, 3) := by decide +kernel
theorem dX2_revert_63 : decode cX2_revert 63 = .ok (.iload_n 1, 1) := by decide +kernel
theorem dX2_revert_64 : decode cX2_revert 64 = .ok (.iaload, 1) := by decide +kernel
theorem dX2_revert_65 : decode cX2_revert 65 = .ok (.iastore, 1) := by decide +kernel
theorem dX2_revert_66 : decode cX2_revert 66 = .ok (.iinc 1 1, 3) := by decide +kernel
theorem dX2_revert_69 : decode cX2_revert 69 = .ok (.goto (-59), 3) := by decide +kernel
theorem dX2_revert_72 : decode cX2_revert 72 = .ok (.return_, 1) := by decide +kernel
set_option maxRecDepth 20000 in
theorem gL_law_X2_length : GoodIn lw_tbl (wsV RL 29 RX2 yX2_length wsX2_length) := goodIn_sub (by decide +kernel) (by decide +kernel)
set_option maxRecDepth 20000 in
theorem gL_law_X2_text : GoodIn lw_tbl (wsV RL 34 RX2 yX2_text wsX2_text) := goodIn_sub (by decide +kernel) (by decide +kernel)
set_option maxRecDepth 20000 in
theorem gL_law_X2_seek : GoodIn lw_tbl (wsV RL 38 RX2 yX2_seek wsX2_seek) := goodIn_sub (by decide +kernel) (by decide +kernel)
set_option maxRecDepth 20000 in
theorem gL_law_X2_before : GoodIn lw_tbl (wsV RL 42 RX2 yX2_before wsX2_before) := goodIn_sub (by decide +kernel) (by decide +kernel)
set_option maxRecDepth 20000 in
theorem gL_law_X2_foundSize : GoodIn lw_tbl (wsV RL 47 RX2 yX2_foundSize wsX2_foundSize) := goodIn_sub (by decide +kernel) (by decide +kernel)
set_option maxRecDepth 20000 in
theorem gL_law_X2_found : GoodIn lw_tbl (wsV RL 52 RX2 yX2_found wsX2_found) := goodIn_sub (by decide +kernel) (by decide +kernel)
set_option maxRecDepth 20000 in
theorem gL_law_X2_count : GoodIn lw_tbl (wsV RL 56 RX2 yX2_count wsX2_count) := goodIn_sub (by decide +kernel) (by decide +kernel)
set_option maxRecDepth 20000 in
theorem gL_law_X2_commit : GoodIn lw_tbl (wsV RL 60 RX2 yX2_commit wsX2_commit) := goodIn_sub (by decide +kernel) (by decide +kernel)
set_option maxRecDepth 20000 in
theorem gL_law_X2_revert : GoodIn lw_tbl (wsV RL 64 RX2 yX2_revert wsX2_revert) := goodIn_sub (by decide +kernel) (by decide +kernel)
theorem i_X0_init_X0 : ∀ w ∈ wsX00, w ∈ wsX0_init := by decide +kernel
theorem i_X0_has_X0 : ∀ w ∈ wsX00, w ∈ wsX0_has := by decide +kernel
theorem i_X0_holds_X0 : ∀ w ∈ wsX00, w ∈ wsX0_holds := by decide +kernel
theorem i_X0_isBefore_X0 : ∀ w ∈ wsX00, w ∈ wsX0_isBefore := by decide +kernel
theorem i_X0_set_X0 : ∀ w ∈ wsX00, w ∈ wsX0_set := by decide +kernel
theorem i_X0_makeRoom_X0 : ∀ w ∈ wsX00, w ∈ wsX0_makeRoom := by decide +kernel
theorem i_X0_drop_X0 : ∀ w ∈ wsX00, w ∈ wsX0_drop := by decide +kernel
theorem i_X0_move_X0 : ∀ w ∈ wsX00, w ∈ wsX0_move := by decide +kernel
theorem i_X0_copyFrom_X0 : ∀ w ∈ wsX00, w ∈ wsX0_copyFrom := by decide +kernel
theorem i_X1_init_X1 : ∀ w ∈ wsX10, w ∈ wsX1_init := by decide +kernel
theorem i_X1_put_X1 : ∀ w ∈ wsX10, w ∈ wsX1_put := by decide +kernel
theorem i_X1_remove_X1 : ∀ w ∈ wsX10, w ∈ wsX1_remove := by decide +kernel
theorem i_X1_length_X1 : ∀ w ∈ wsX10, w ∈ wsX1_length := by decide +kernel
theorem i_X1_length_X0 : ∀ w ∈ wsX00, w ∈ wsX1_length := by decide +kernel
theorem i_X1_text_X1 : ∀ w ∈ wsX10, w ∈ wsX1_text := by decide +kernel
theorem i_X1_text_X0 : ∀ w ∈ wsX00, w ∈ wsX1_text := by decide +kernel
theorem i_X1_seek_X1 : ∀ w ∈ wsX10, w ∈ wsX1_seek := by decide +kernel
theorem i_X1_before_X1 : ∀ w ∈ wsX10, w ∈ wsX1_before := by decide +kernel
theorem i_X1_foundSize_X1 : ∀ w ∈ wsX10, w ∈ wsX1_foundSize := by decide +kernel
theorem i_X1_found_X1 : ∀ w ∈ wsX10, w ∈ wsX1_found := by decide +kernel
theorem i_X1_count_X1 : ∀ w ∈ wsX10, w ∈ wsX1_count := by decide +kernel
theorem i_X1_count_X0 : ∀ w ∈ wsX00, w ∈ wsX1_count := by decide +kernel
theorem i_X1_commit_X1 : ∀ w ∈ wsX10, w ∈ wsX1_commit := by decide +kernel
theorem i_X1_revert_X1 : ∀ w ∈ wsX10, w ∈ wsX1_revert := by decide +kernel
theorem i_X1_noteFound_X1 : ∀ w ∈ wsX10, w ∈ wsX1_noteFound := by decide +kernel
theorem i_X1_noteFound_X0 : ∀ w ∈ wsX00, w ∈ wsX1_noteFound := by decide +kernel
theorem i_X1_placeOf_X1 : ∀ w ∈ wsX10, w ∈ wsX1_placeOf := by decide +kernel
theorem i_X2_init_X2 : ∀ w ∈ wsX20, w ∈ wsX2_init := by decide +kernel
theorem i_X2_place_X2 : ∀ w ∈ wsX20, w ∈ wsX2_place := by decide +kernel
theorem i_X2_isAt_X2 : ∀ w ∈ wsX20, w ∈ wsX2_isAt := by decide +kernel
theorem i_X2_put_X2 : ∀ w ∈ wsX20, w ∈ wsX2_put := by decide +kernel
theorem i_X2_remove_X2 : ∀ w ∈ wsX20, w ∈ wsX2_remove := by decide +kernel
theorem i_X2_length_X2 : ∀ w ∈ wsX20, w ∈ wsX2_length := by decide +kernel
theorem i_X2_text_X2 : ∀ w ∈ wsX20, w ∈ wsX2_text := by decide +kernel
theorem i_X2_find_X2 : ∀ w ∈ wsX20, w ∈ wsX2_find := by decide +kernel
theorem i_X2_foundSize_X2 : ∀ w ∈ wsX20, w ∈ wsX2_foundSize := by decide +kernel
theorem i_X2_found_X2 : ∀ w ∈ wsX20, w ∈ wsX2_found := by decide +kernel
theorem i_X2_count_X2 : ∀ w ∈ wsX20, w ∈ wsX2_count := by decide +kernel
theorem i_X2_commit_X2 : ∀ w ∈ wsX20, w ∈ wsX2_commit := by decide +kernel
theorem i_X2_revert_X2 : ∀ w ∈ wsX20, w ∈ wsX2_revert := by decide +kernel
end
section
/-! BASICS: contracts that only read, contracts that write; how they are called -/
abbrev kS (cL cI : ClassId) : List (ClassId × FieldType) := [(cL, .long), (cI, .int)]
/-- r is 1 or 0, as P holds or not -/
def bq (r : Int32) (P : Prop) : Prop := (r = 1 ∧ P) ∨ (r = 0 ∧ ¬ P)
theorem bq_t {P : Prop} (h : P) : bq 1 P := Or.inl ⟨rfl, h⟩
theorem bq_f {P : Prop} (h : ¬ P) : bq 0 P := Or.inr ⟨rfl, h⟩
def stP (av : List Value) : Array Value → State → Prop := va_Pc av (fun _ => True)
theorem st_pre {s : State} {H : Heap} {As : List Value} : PreS s H (stP As) As := ⟨fun _ _ _ _ q => q, fun _ _ _ => ⟨rfl, trivial⟩⟩
def rdP (D : va_G) (ks : List (ClassId × FieldType)) (ws : va_W) (av : List Value) : Array Value → State → Prop := va_Pc av (fun U => va_P D vwCl ws U.heap ∧ va_K D vwCl ks U)
theorem rd_preV {s : State} {H : Heap} {D : va_G} {ks : List (ClassId × FieldType)} {ws : va_W} {a ci q0 : Nat} {C : String} {T : u_T} {N : Nat} {fs As : List Value} (hK : va_K D vwCl ks s) (hP : va_P D vwCl ws H) (hc : vwCl[ci]? = some (C, T, N)) (he : ws[q0]? = some (a, .inr (ci, fs))) : PreV s H C a (rdP D ks ws (.ref a :: As)) As :=
  ⟨fun x U g mk q => ⟨q.1, q.2.1, va_K.moved (u := U) (U := U.calling g mk x) (Vm.Alike.refl U.vm) q.2.2⟩, va_recv hK hP hc he, fun U hU hW => ⟨rfl, by rw [hU]; exact hP, va_K.moved hW.alike hK⟩⟩
theorem rd_preS {s : State} {H : Heap} {D : va_G} {ks : List (ClassId × FieldType)} {ws : va_W} {As : List Value} (hK : va_K D vwCl ks s) (hP : va_P D vwCl ws H) : PreS s H (rdP D ks ws As) As :=
  ⟨fun x U g mk q => ⟨q.1, q.2.1, va_K.moved (u := U) (U := U.calling g mk x) (Vm.Alike.refl U.vm) q.2.2⟩, fun U hU hW => ⟨rfl, by rw [hU]; exact hP, va_K.moved hW.alike hK⟩⟩
def wrP (D : va_G) (ks : List (ClassId × FieldType)) (ws : va_W) (av : List Value) (sz : Nat) : Array Value → State → Prop := va_Pc av (fun U => U.heap.size = sz ∧ va_P D vwCl ws U.heap ∧ va_K D vwCl ks U ∧ va_D (fun _ => True) ws)
abbrev wrB {S : Type} (D : va_G) (A : Nat → Prop) (w1 : S → va_W) : S → State → Prop := fun u t => va_P D vwCl (w1 u) t.heap ∧ va_D A (w1 u)
theorem wr_preV {s : State} {H : Heap} {D : va_G} {ks : List (ClassId × FieldType)} {ws : va_W} {A : Nat → Prop} {a ci q0 : Nat} {C : String} {T : u_T} {N : Nat} {fs As : List Value} (hK : va_K D vwCl ks s) (hP : va_P D vwCl ws H) (hD : va_D A ws) (hc : vwCl[ci]? = some (C, T, N)) (he : ws[q0]? = some (a, .inr (ci, fs))) : PreV s H C a (wrP D ks ws (.ref a :: As) H.size) As :=
  ⟨fun x U g mk q => ⟨q.1, q.2.1, q.2.2.1, va_K.moved (u := U) (U := U.calling g mk x) (Vm.Alike.refl U.vm) q.2.2.2.1, q.2.2.2.2⟩, va_recv hK hP hc he, fun U hU hW => ⟨rfl, by rw [hU], by rw [hU]; exact hP, va_K.moved hW.alike hK, hD.weaken (fun _ _ _ _ => trivial)⟩⟩
theorem wr_preI {s : State} {H : Heap} {D : va_G} {ks : List (ClassId × FieldType)} {ws : va_W} {A : Nat → Prop} {a : Nat} {As : List Value} (hK : va_K D vwCl ks s) (hP : va_P D vwCl ws H) (hD : va_D A ws) : PreS s H (wrP D ks ws (.ref a :: As) H.size) (.ref a :: As) :=
  ⟨fun x U g mk q => ⟨q.1, q.2.1, q.2.2.1, va_K.moved (u := U) (U := U.calling g mk x) (Vm.Alike.refl U.vm) q.2.2.2.1, q.2.2.2.2⟩, fun U hU hW => ⟨rfl, by rw [hU], by rw [hU]; exact hP, va_K.moved hW.alike hK, hD.weaken (fun _ _ _ _ => trivial)⟩⟩
section WRC
variable {p : Program} {l : Launch} {e : Env} {R : Room} {s : State} {m : MethodId} {args : Array Value} {below : List Frame} {meth : Method} {c : Code} {H : Heap} {locs : List Loc} {cells slots : Nat} {Q : State → Prop}
variable {pc : Nat} {ls : Array Slot} {rest st0 : List Value} {a : Array Value} {A : Nat → Prop} {H0 : Heap} {mc ms : Nat} {D : va_G} {ws wc wr : va_W}
theorem wr_calli {S : Type} {post : Int32 → S → Prop} {w1 : S → va_W} (hr : va_Run p l e R s m args below meth c H locs cells slots mc ms (F0 m pc ls st0) rest (va_Qi post (wrB D (va_A wc H.size) w1) (va_A wc H.size) a) (va_A wc H.size))
    (hP : va_P D vwCl ws H) (hD : va_D A ws) (hS : va_S A H0 H locs) (hA : ∀ q, H0.size ≤ q → A q) (isC isR : List Nat) (hC : isC.map (fun i => ws[i]?) = wc.map some) (hR : isR.map (fun i => ws[i]?) = wr.map some) (hn : va_nd isR = true) (hdis : ∀ i ∈ isR, i ∉ isC)
    (kk : ∀ (r : Int32) (u : S) (H1 : Heap) (locs1 : List Loc), post r u → va_P D vwCl (wr ++ w1 u) H1 → va_D A (wr ++ w1 u) → va_S A H0 H1 locs1 → W p l e R s m args below meth c H1 locs1 (cells + mc) (slots + ms) Q (F0 m (pc + 3) ls (.int r :: rest))) : W p l e R s m args below meth c H locs cells slots Q (F0 m pc ls st0) := by
  have hF := va_free hD hS hA isC hC
  refine va_calli hr hS (fun q _ h => hF q h) hF (fun r u t H1 locs1 ht hvm hw hB hz1 hk1 hS1 => ?_)
  obtain ⟨hP1, hD1⟩ := hB
  rw [ht] at hP1
  obtain ⟨hP2, hD2⟩ := va_join hP hD isC isR hC hR hn hdis hk1 hF hP1 hD1
  exact kk r u H1 locs1 hw hP2 hD2 hS1
theorem wr_callv {S : Type} {post : S → Prop} {w1 : S → va_W} (hr : va_Run p l e R s m args below meth c H locs cells slots mc ms (F0 m pc ls st0) rest (va_Qv post (wrB D (va_A wc H.size) w1) (va_A wc H.size) a) (va_A wc H.size))
    (hP : va_P D vwCl ws H) (hD : va_D A ws) (hS : va_S A H0 H locs) (hA : ∀ q, H0.size ≤ q → A q) (isC isR : List Nat) (hC : isC.map (fun i => ws[i]?) = wc.map some) (hR : isR.map (fun i => ws[i]?) = wr.map some) (hn : va_nd isR = true) (hdis : ∀ i ∈ isR, i ∉ isC)
    (kk : ∀ (u : S) (H1 : Heap) (locs1 : List Loc), post u → va_P D vwCl (wr ++ w1 u) H1 → va_D A (wr ++ w1 u) → va_S A H0 H1 locs1 → W p l e R s m args below meth c H1 locs1 (cells + mc) (slots + ms) Q (F0 m (pc + 3) ls rest)) : W p l e R s m args below meth c H locs cells slots Q (F0 m pc ls st0) := by
  have hF := va_free hD hS hA isC hC
  refine va_callv hr hS (fun q _ h => hF q h) hF (fun u t H1 locs1 ht hvm hw hB hz1 hk1 hS1 => ?_)
  obtain ⟨hP1, hD1⟩ := hB
  rw [ht] at hP1
  obtain ⟨hP2, hD2⟩ := va_join hP hD isC isR hC hR hn hdis hk1 hF hP1 hD1
  exact kk u H1 locs1 hw hP2 hD2 hS1
end WRC
theorem ka_long {D : va_G} {cl : List vw_C} {t1 t2 : List (ClassId × FieldType)} {s : State} {c1 c2 : ClassId} (h1 : va_K D cl t1 s) (h2 : va_K D cl t2 s) (i j : Nat) (hi : t1[i]? = some (c1, .long)) (hj : t2[j]? = some (c2, .long)) : c2 = c1 :=
  Option.some.inj ((show s.vm.findClass _ = some c2 from (h2.2 j _ hj).2).symm.trans (show s.vm.findClass _ = some c1 from (h1.2 i _ hi).2))
theorem ka_int {D : va_G} {cl : List vw_C} {t1 t2 : List (ClassId × FieldType)} {s : State} {c1 c2 : ClassId} (h1 : va_K D cl t1 s) (h2 : va_K D cl t2 s) (i j : Nat) (hi : t1[i]? = some (c1, .int)) (hj : t2[j]? = some (c2, .int)) : c2 = c1 :=
  Option.some.inj ((show s.vm.findClass _ = some c2 from (h2.2 j _ hj).2).symm.trans (show s.vm.findClass _ = some c1 from (h1.2 i _ hi).2))
/-- the array classes, out of the tables' words -/
theorem ka_get {s : State} {args : Array Value} {ty : FieldType} (hp : ∀ (U : State) (c : ClassId), U.vm.findClass ("[" ++ ty.toString) = some c → va_RA U c ty) (h : (Cond.arrayClass ty).before args s = true) : ∃ cA : ClassId, ArrOfT s cA ty ∧ va_RA s cA ty := by
  obtain ⟨cA, kA, comp, h1, h2, h3⟩ := Cond.arrayClass_spec h
  exact ⟨cA, fun n z => ⟨fun k h => (by cases h), kA, h2, comp, h3⟩, hp s cA h1⟩
/-- a heap and what was written so far, by names -/
theorem w_gen {p : Program} {l : Launch} {e : Env} {R : Room} {s : State} {m : MethodId} {args : Array Value} {below : List Frame} {meth : Method} {c : Code} {cells slots : Nat} {Q : State → Prop} {g : JFrame} (H0 : Heap) (l0 : List Loc) (k : ∀ (H : Heap) (locs : List Loc), H = H0 → locs = l0 → W p l e R s m args below meth c H locs cells slots Q g) : W p l e R s m args below meth c H0 l0 cells slots Q g := k H0 l0 rfl rfl
/-! THE CLASS's STATE: rows of keys' heads, sizes, texts and lengths, and how many are used -/
abbrev RS : Type := Nat × (Nat → Int64) × (Nat → Int32) × (Nat → Int64) × (Nat → Int32)
abbrev rW (cL cI : ClassId) (r a1 a2 a3 a4 : Nat) (v : RS) : va_W := [(r, .inr (0, [.ref a1, .ref a2, .ref a3, .ref a4, .int (nI v.1)])), (a1, .inl (cL, 150, .inr (.inl v.2.1))), (a2, .inl (cI, 150, .inl v.2.2.1)), (a3, .inl (cL, 150, .inr (.inl v.2.2.2.1))), (a4, .inl (cI, 150, .inl v.2.2.2.2))]
def okK (i : Int32) : Prop := ¬ i < 1 ∧ ¬ 8 < i
def okT (i : Int32) : Prop := ¬ i < 0 ∧ ¬ 8 < i
/-- the key's bytes at the top of a long -/
def hdOf (k : Int64) (t : Int32) : Int64 := k <<< ((64 - 8 * t).toInt64 &&& 63)
def unH (h : Int64) (t : Int32) : Int64 := (h.toUInt64 >>> ((64 - 8 * t).toInt64.toUInt64 &&& Int64.toUInt64 63)).toInt64
def lowB (b : Int64) (n : Int32) : Int64 := if n = 0 then 0 else b &&& ((-1 : Int64).toUInt64 >>> ((64 - 8 * n).toInt64.toUInt64 &&& Int64.toUInt64 63)).toInt64
/-- a row is before another one -/
def bfr (h1 : Int64) (t1 : Int32) (h2 : Int64) (t2 : Int32) : Prop := (¬ h1 = h2 ∧ h1 + (-9223372036854775808) < h2 + (-9223372036854775808)) ∨ (h1 = h2 ∧ t1 < t2)
/-- j parts the rows: those ahead are before, those from j on are not -/
def spl (u : Nat) (hd : Nat → Int64) (sz : Nat → Int32) (h : Int64) (t : Int32) (j : Nat) : Prop := j ≤ u ∧ (∀ i, i < j → bfr (hd i) (sz i) h t) ∧ ∀ i, j ≤ i → i < u → ¬ bfr (hd i) (sz i) h t
def hld (u : Nat) (hd : Nat → Int64) (sz : Nat → Int32) (j : Nat) (h : Int64) (t : Int32) : Prop := j < u ∧ hd j = h ∧ sz j = t
def opn {α : Type} (f : Nat → α) (j u : Nat) : Nat → α := va_cpy f f j (j + 1) (u - j)
def clo {α : Type} (f : Nat → α) (j u : Nat) : Nat → α := va_cpy f f (j + 1) j (u - j - 1)
def rs_put (v : RS) (j : Nat) (h : Int64) (t : Int32) (x : Int64) (n : Int32) : RS := (v.1, vp_updL v.2.1 j h, upd v.2.2.1 j t, vp_updL v.2.2.2.1 j x, upd v.2.2.2.2 j n)
def rs_opn (v : RS) (j : Nat) : RS := (v.1 + 1, opn v.2.1 j v.1, opn v.2.2.1 j v.1, opn v.2.2.2.1 j v.1, opn v.2.2.2.2 j v.1)
def rs_clo (v : RS) (j : Nat) : RS := (v.1 - 1, clo v.2.1 j v.1, clo v.2.2.1 j v.1, clo v.2.2.2.1 j v.1, clo v.2.2.2.2 j v.1)
def rs_cpy (v w : RS) : RS := (v.1, va_cpy v.2.1 w.2.1 0 0 v.1, va_cpy v.2.2.1 w.2.2.1 0 0 v.1, va_cpy v.2.2.2.1 w.2.2.2.1 0 0 v.1, va_cpy v.2.2.2.2 w.2.2.2.2 0 0 v.1)
def rs_0 : RS := (0, fun _ => 0, fun _ => 0, fun _ => 0, fun _ => 0)
/-- what 'set' answers, and what comes of the rows -/
def setQ (v : RS) (j : Nat) (h : Int64) (t : Int32) (x : Int64) (n : Int32) (z : Int32) (w : RS) : Prop :=
  (hld v.1 v.2.1 v.2.2.1 j h t ∧ z = 1 ∧ w = rs_put v j h t x n) ∨ (¬ hld v.1 v.2.1 v.2.2.1 j h t ∧ v.1 < 150 ∧ z = 1 ∧ w = rs_put (rs_opn v j) j h t x n) ∨ (¬ hld v.1 v.2.1 v.2.2.1 j h t ∧ ¬ v.1 < 150 ∧ z = 0 ∧ w = v)
def stp : Nat → Int32
  | 0 => 0
  | k + 1 => nI (2 ^ k)
theorem stp_half : ∀ k, k < 8 → stp (k + 1) / 2 = stp k := by decide +kernel
theorem stp_pos : ∀ k, k < 8 → ¬ stp (k + 1) ≤ 0 := by decide +kernel
theorem nI_s1 {u : Nat} (h : 0 < u) : nI u - 1 = nI (u - 1) := by
  obtain ⟨w, rfl⟩ : ∃ w, u = w + 1 := ⟨u - 1, by omega⟩
  exact nI_pred w
theorem has_a {u : Nat} {i : Int32} (hu : u ≤ 150) (h : i < 0) : ¬ ∃ j, j < u ∧ i = nI j := by
  rintro ⟨j, hj, rfl⟩
  exact nI_pos (by omega) h
theorem has_b {u : Nat} {i : Int32} (hu : u ≤ 150) (h : nI u ≤ i) : ¬ ∃ j, j < u ∧ i = nI j := by
  rintro ⟨j, hj, rfl⟩
  exact nI_ge hj (by omega) h
theorem has_c {u : Nat} {i : Int32} (hu : u ≤ 150) (h1 : ¬ i < 0) (h2 : ¬ nI u ≤ i) : ∃ j, j < u ∧ i = nI j := by
  obtain ⟨j, hj, rfl⟩ := nI_of h1
  refine ⟨j, ?_, rfl⟩
  rcases Nat.lt_or_ge j u with h | h
  · exact h
  · exact absurd (nI_le h hj) h2
theorem nI_inj {u i j : Nat} (hu : u ≤ 150) (hi : i < u) (h : nI j = nI i) (hj : j < 2 ^ 31) : j = i := (nI_eq hj (by omega)).mp h
end
section
/-! ===== lN n to 2^64: shifts, and, or, masks, one bit ===== -/
theorem wb_tb (n : Nat) : (lN n).toBitVec = BitVec.ofNat 64 n := rfl
theorem wb_inj {a b : Int64} (h : a.toBitVec = b.toBitVec) : a = b := Int64.toBitVec_inj.mp h
theorem wb_tn {n : Nat} (h : n < 2 ^ 64) : (lN n).toBitVec.toNat = n := by rw [wb_tb, BitVec.toNat_ofNat, Nat.mod_eq_of_lt h]
theorem wb_of (x : Int64) : ∃ n, n < 2 ^ 64 ∧ x = lN n := ⟨x.toBitVec.toNat, x.toBitVec.isLt, wb_inj (by rw [wb_tb]; simp)⟩
theorem wb_of32 (x : Int32) : ∃ n, n < 2 ^ 32 ∧ x = nI n := ⟨x.toBitVec.toNat, x.toBitVec.isLt, Int32.toBitVec_inj.mp (by show _ = BitVec.ofNat 32 _; simp)⟩
theorem wb_c : ∀ k, k < 64 → ((nI k).toInt64 &&& 63) = lN k := by decide +kernel
theorem wb_cu : ∀ k, k < 64 → ((nI k).toInt64.toUInt64 &&& Int64.toUInt64 63) = UInt64.ofNat k := by decide +kernel
theorem wb_sm : ∀ k, k < 64 → (BitVec.ofNat 64 k).smod 64 = BitVec.ofNat 64 k := by decide +kernel
theorem wb_pw {a b : Nat} (h : a ≤ b) : 2 ^ b = 2 ^ a * 2 ^ (b - a) := by rw [← Nat.pow_add]; congr 1; omega
theorem wb_lt2 {a b : Nat} (h : a < b) : 2 ^ a < 2 ^ b := Nat.pow_lt_pow_right (by decide) h
theorem wb_mod (n : Nat) : lN n = lN (n % 2 ^ 64) := wb_inj (by rw [wb_tb, wb_tb]; apply BitVec.eq_of_toNat_eq; rw [BitVec.toNat_ofNat, BitVec.toNat_ofNat, Nat.mod_mod])
theorem wb_shr {n k : Nat} (hn : n < 2 ^ 64) (hk : k < 64) : ((lN n).toUInt64 >>> ((nI k).toInt64.toUInt64 &&& Int64.toUInt64 63)).toInt64 = lN (n / 2 ^ k) := by
  rw [wb_cu k hk]
  apply wb_inj
  apply BitVec.eq_of_toNat_eq
  show ((lN n).toUInt64 >>> UInt64.ofNat k).toNat = (BitVec.ofNat 64 _).toNat
  have h1 : (UInt64.ofNat k).toNat = k := by
    show (BitVec.ofNat 64 k).toNat = k
    rw [BitVec.toNat_ofNat, Nat.mod_eq_of_lt (by omega)]
  have h2 : (lN n).toUInt64.toNat = n := wb_tn hn
  rw [UInt64.toNat_shiftRight, h1, h2, Nat.mod_eq_of_lt hk, Nat.shiftRight_eq_div_pow, BitVec.toNat_ofNat, Nat.mod_eq_of_lt (Nat.lt_of_le_of_lt (Nat.div_le_self _ _) hn)]
theorem wb_shl (n : Nat) {k : Nat} (hk : k < 64) : lN n <<< ((nI k).toInt64 &&& 63) = lN (n * 2 ^ k) := by
  rw [wb_c k hk]
  apply wb_inj
  rw [Int64.toBitVec_shiftLeft, wb_tb, wb_tb, wb_tb, wb_sm k hk]
  apply BitVec.eq_of_toNat_eq
  rw [BitVec.shiftLeft_eq', BitVec.toNat_shiftLeft, BitVec.toNat_ofNat, BitVec.toNat_ofNat, BitVec.toNat_ofNat, Nat.mod_eq_of_lt (show k < 2 ^ 64 by omega), Nat.shiftLeft_eq, Nat.mul_mod, Nat.mod_mod, ← Nat.mul_mod]
theorem wb_and {a b : Nat} (ha : a < 2 ^ 64) (hb : b < 2 ^ 64) : lN a &&& lN b = lN (a &&& b) := by
  apply wb_inj
  rw [Int64.toBitVec_and, wb_tb, wb_tb, wb_tb]
  apply BitVec.eq_of_toNat_eq
  rw [BitVec.toNat_and, BitVec.toNat_ofNat, BitVec.toNat_ofNat, BitVec.toNat_ofNat, Nat.mod_eq_of_lt ha, Nat.mod_eq_of_lt hb, Nat.mod_eq_of_lt (Nat.and_lt_two_pow _ hb)]
theorem wb_or {a b : Nat} (ha : a < 2 ^ 64) (hb : b < 2 ^ 64) : lN a ||| lN b = lN (a ||| b) := by
  apply wb_inj
  rw [Int64.toBitVec_or, wb_tb, wb_tb, wb_tb]
  apply BitVec.eq_of_toNat_eq
  rw [BitVec.toNat_or, BitVec.toNat_ofNat, BitVec.toNat_ofNat, BitVec.toNat_ofNat, Nat.mod_eq_of_lt ha, Nat.mod_eq_of_lt hb, Nat.mod_eq_of_lt (Nat.or_lt_two_pow ha hb)]
theorem wb_mask {n k : Nat} (hn : n < 2 ^ 64) (hk : k < 64) : lN n &&& lN (2 ^ k - 1) = lN (n % 2 ^ k) := by
  rw [wb_and hn (by have := wb_lt2 hk; omega), Nat.and_two_pow_sub_one_eq_mod]
theorem wb_a1 {n : Nat} (hn : n < 2 ^ 64) : lN n &&& 1 = lN (n % 2) := wb_mask (k := 1) hn (by decide)
theorem wb_bit {n k : Nat} (hn : n < 2 ^ 64) (hk : k < 64) : ((lN n).toUInt64 >>> ((nI k).toInt64.toUInt64 &&& Int64.toUInt64 63)).toInt64 &&& 1 = lN (n / 2 ^ k % 2) := by
  rw [wb_shr hn hk, wb_a1 (Nat.lt_of_le_of_lt (Nat.div_le_self _ _) hn)]
theorem wb_xor {q k : Nat} (hk : k < 63) (h : 2 ^ k ≤ q) (h2 : q < 2 ^ (k + 1)) : lN q ^^^ lN (2 ^ k) = lN (q - 2 ^ k) := by
  obtain ⟨r, rfl⟩ : ∃ r, q = 2 ^ k + r := ⟨q - 2 ^ k, by omega⟩
  have hr : r < 2 ^ k := by rw [Nat.pow_succ] at h2; omega
  have hx : (2 ^ k + r) ^^^ 2 ^ k = r := by
    apply Nat.eq_of_testBit_eq
    intro i
    rw [Nat.testBit_xor, Nat.testBit_two_pow]
    rcases Nat.lt_trichotomy i k with h | h | h
    · rw [Nat.testBit_two_pow_add_gt h]
      simp [show ¬ k = i by omega]
    · subst h
      rw [Nat.testBit_two_pow_add_eq]
      simp
    · have a1 : 2 ^ (k + 1) ≤ 2 ^ i := Nat.pow_le_pow_right (by decide) h
      rw [Nat.testBit_lt_two_pow (show 2 ^ k + r < 2 ^ i by omega), Nat.testBit_lt_two_pow (show r < 2 ^ i by omega)]
      simp [show ¬ k = i by omega]
  have b1 := wb_lt2 (show k + 1 < 64 by omega)
  have b2 := wb_lt2 (show k < 64 by omega)
  apply wb_inj
  rw [Int64.toBitVec_xor, wb_tb, wb_tb, wb_tb]
  apply BitVec.eq_of_toNat_eq
  rw [BitVec.toNat_xor, BitVec.toNat_ofNat, BitVec.toNat_ofNat, BitVec.toNat_ofNat, Nat.mod_eq_of_lt (by omega : 2 ^ k + r < 2 ^ 64), Nat.mod_eq_of_lt b2, hx, Nat.add_sub_cancel_left, Nat.mod_eq_of_lt (by omega)]
/-! ===== Int64 as an unsigned number: uN x ===== -/
def uN (x : Int64) : Nat := x.toUInt64.toNat
theorem uN_lt (x : Int64) : uN x < 18446744073709551616 := x.toUInt64.toNat_lt
theorem uN_inj {x y : Int64} (h : uN x = uN y) : x = y := congrArg UInt64.toInt64 (UInt64.toNat_inj.mp h)
theorem uN_add (x y : Int64) : uN (x + y) = (uN x + uN y) % 18446744073709551616 := by
  show (x.toUInt64 + y.toUInt64).toNat = _
  exact UInt64.toNat_add _ _
theorem uN_mul (x y : Int64) : uN (x * y) = (uN x * uN y) % 18446744073709551616 := by
  show (x.toUInt64 * y.toUInt64).toNat = _
  exact UInt64.toNat_mul _ _
theorem uN_shl (x : Int64) : uN (x <<< ((1 : Int32).toInt64 &&& 63)) = (2 * uN x) % 18446744073709551616 := by
  have h : (((1 : Int32).toInt64 &&& 63).toBitVec.smod 64).toNat = 1 := by decide
  show (x.toBitVec <<< (((1 : Int32).toInt64 &&& 63).toBitVec.smod 64).toNat).toNat = _
  rw [h, BitVec.toNat_shiftLeft, Nat.shiftLeft_eq, Nat.mul_comm]
  rfl
theorem uN_shr (x : Int64) (s : UInt64) : uN (x.toUInt64 >>> s).toInt64 = uN x / 2 ^ (s.toNat % 64) := by
  show (x.toUInt64 >>> s).toNat = _
  rw [UInt64.toNat_shiftRight, Nat.shiftRight_eq_div_pow]
  rfl
theorem uN_s32 (x : Int64) : uN (x.toUInt64 >>> ((32 : Int32).toInt64.toUInt64 &&& Int64.toUInt64 63)).toInt64 = uN x / 4294967296 := by
  have h : ((32 : Int32).toInt64.toUInt64 &&& Int64.toUInt64 63).toNat % 64 = 32 := by decide
  rw [uN_shr, h]
theorem uN_s63 (x : Int64) : uN (x.toUInt64 >>> ((63 : Int32).toInt64.toUInt64 &&& Int64.toUInt64 63)).toInt64 = uN x / 9223372036854775808 := by
  have h : ((63 : Int32).toInt64.toUInt64 &&& Int64.toUInt64 63).toNat % 64 = 63 := by decide
  rw [uN_shr, h]
theorem uN_lo (x : Int64) : uN (x &&& 4294967295) = uN x % 4294967296 := by
  show (x.toUInt64 &&& Int64.toUInt64 4294967295).toNat = _
  rw [UInt64.toNat_and]
  exact Nat.and_two_pow_sub_one_eq_mod _ 32
theorem uN_bit (x : Int64) : (x &&& 1) = 0 ↔ uN x % 2 = 0 := by
  have h : uN (x &&& 1) = uN x % 2 := by
    show (x.toUInt64 &&& Int64.toUInt64 1).toNat = _
    rw [UInt64.toNat_and]
    exact Nat.and_two_pow_sub_one_eq_mod _ 1
  rw [← h]
  exact ⟨fun z => by rw [z]; rfl, fun z => uN_inj (z.trans rfl)⟩
theorem uN_or {x y : Int64} (hy : uN y < 2) : uN ((x <<< ((1 : Int32).toInt64 &&& 63)) ||| y) = (2 * uN x) % 18446744073709551616 + uN y := by
  have h1 : uN ((x <<< ((1 : Int32).toInt64 &&& 63)) ||| y) = uN (x <<< ((1 : Int32).toInt64 &&& 63)) ||| uN y := UInt64.toNat_or _ _
  have h2 : (2 * uN x) % 18446744073709551616 = 2 ^ 1 * (uN x % 9223372036854775808) := by omega
  rw [h1, uN_shl, h2]
  exact (Nat.two_pow_add_eq_or_of_lt (i := 1) hy _).symm
theorem nat_xor {a : Nat} (h : a < 18446744073709551616) : a ^^^ 2 ^ 63 = (a + 9223372036854775808) % 18446744073709551616 := by
  have h1 : (a ^^^ 2 ^ 63) % 2 ^ 63 = a % 2 ^ 63 := by rw [Nat.xor_mod_two_pow, Nat.mod_self, Nat.xor_zero]
  have h2 : (a ^^^ 2 ^ 63) / 2 ^ 63 = (a / 2 ^ 63) ^^^ 1 := by rw [Nat.xor_div_two_pow, Nat.div_self (Nat.two_pow_pos 63)]
  have h3 : a / 2 ^ 63 = 0 ∨ a / 2 ^ 63 = 1 := by omega
  generalize a ^^^ 2 ^ 63 = t at h1 h2
  rcases h3 with h3 | h3
  · rw [h3] at h2
    have h2 : t / 2 ^ 63 = 1 := h2
    omega
  · rw [h3] at h2
    have h2 : t / 2 ^ 63 = 0 := h2
    omega
theorem uN_xor (x : Int64) : uN (x ^^^ (-9223372036854775808)) = (uN x + 9223372036854775808) % 18446744073709551616 := by
  rw [← nat_xor (uN_lt x)]
  exact UInt64.toNat_xor _ _
theorem uN_int (x : Int64) : x.toInt = if 2 * uN x < 18446744073709551616 then (uN x : Int) else (uN x : Int) - 18446744073709551616 := BitVec.toInt_eq_toNat_cond _
theorem uN_le (x y : Int64) : (x ^^^ (-9223372036854775808)) ≤ (y ^^^ (-9223372036854775808)) ↔ uN x ≤ uN y := by
  have hx := uN_lt x
  have hy := uN_lt y
  rw [Int64.le_iff_toInt_le, uN_int, uN_int, uN_xor, uN_xor]
  omega
theorem uN_sk (x : Int64) {k : Nat} (hk : k < 64) : uN (x.toUInt64 >>> ((nI k).toInt64.toUInt64 &&& Int64.toUInt64 63)).toInt64 = uN x / 2 ^ k := by
  have h : ((nI k).toInt64.toUInt64 &&& Int64.toUInt64 63).toNat % 64 = k := by
    rw [nI_l (by omega), UInt64.toNat_and]
    have e : (lN k).toUInt64.toNat = k % 2 ^ 64 := rfl
    have e2 : (Int64.toUInt64 63).toNat = 2 ^ 6 - 1 := by decide
    rw [e, e2, Nat.and_two_pow_sub_one_eq_mod]
    omega
  rw [uN_shr, h]
end
section
/-! THE ROWS AS A MAP: from a key's number to its text and length -/
def kc (h : Int64) (t : Int32) : Nat := uN h * 16 + t.toNatClampNeg
theorem okK_nat {t : Int32} (h : okK t) : ∃ n, 1 ≤ n ∧ n ≤ 8 ∧ t = nI n := by
  obtain ⟨h1, h2⟩ := h
  have e0 : (0 : Int32).toInt = 0 := by decide
  have e1 : (1 : Int32).toInt = 1 := by decide
  have e8 : (8 : Int32).toInt = 8 := by decide
  rw [Int32.lt_iff_toInt_lt, e1] at h1
  rw [Int32.lt_iff_toInt_lt, e8] at h2
  obtain ⟨j, hj, rfl⟩ := nI_of (x := t) (fun q => by rw [Int32.lt_iff_toInt_lt, e0] at q; omega)
  rw [nI_toInt hj] at h1 h2
  exact ⟨j, by omega, by omega, rfl⟩
theorem okK_of0 : ∀ n, n < 9 → 1 ≤ n → (¬ nI n < 1 ∧ ¬ 8 < nI n) := by decide +kernel
theorem okK_of {n : Nat} (h1 : 1 ≤ n) (h2 : n ≤ 8) : okK (nI n) := okK_of0 n (by omega) h1
theorem uS (x y : Int64) : x + (-9223372036854775808) < y + (-9223372036854775808) ↔ uN x < uN y := by
  have hx := uN_lt x
  have hy := uN_lt y
  have hS : uN (-9223372036854775808) = 9223372036854775808 := by decide
  rw [Int64.lt_iff_toInt_lt, uN_int, uN_int, uN_add, uN_add, hS]
  omega
theorem bfr_kc {h1 h2 : Int64} {t1 t2 : Int32} (o1 : okK t1) (o2 : okK t2) : bfr h1 t1 h2 t2 ↔ kc h1 t1 < kc h2 t2 := by
  obtain ⟨n1, a1, b1, rfl⟩ := okK_nat o1
  obtain ⟨n2, a2, b2, rfl⟩ := okK_nat o2
  unfold bfr kc
  rw [nI_clamp (show n1 < 2 ^ 31 by omega), nI_clamp (show n2 < 2 ^ 31 by omega), uS, nI_ltI (by omega) (by omega)]
  constructor
  · rintro (⟨_, h⟩ | ⟨rfl, h⟩)
    · omega
    · omega
  · intro h
    by_cases e : h1 = h2
    · subst e
      exact Or.inr ⟨rfl, by omega⟩
    · refine Or.inl ⟨e, ?_⟩
      have e2 : uN h1 ≠ uN h2 := fun q => e (uN_inj q)
      omega
theorem kc_inj {h1 h2 : Int64} {t1 t2 : Int32} (o1 : okK t1) (o2 : okK t2) (e : kc h1 t1 = kc h2 t2) : h1 = h2 ∧ t1 = t2 := by
  obtain ⟨n1, a1, b1, rfl⟩ := okK_nat o1
  obtain ⟨n2, a2, b2, rfl⟩ := okK_nat o2
  unfold kc at e
  rw [nI_clamp (show n1 < 2 ^ 31 by omega), nI_clamp (show n2 < 2 ^ 31 by omega)] at e
  exact ⟨uN_inj (by omega), by rw [show n1 = n2 by omega]⟩
def cod (v : RS) (i : Nat) : Nat := kc (v.2.1 i) (v.2.2.1 i)
def Srt (v : RS) : Prop := v.1 ≤ 150 ∧ (∀ i, i < v.1 → okK (v.2.2.1 i)) ∧ ∀ i j, i < j → j < v.1 → cod v i < cod v j
def loQ (v : RS) (K j : Nat) : Prop := (∀ i, i < j → cod v i < K) ∧ ∀ i, j ≤ i → i < v.1 → K ≤ cod v i
theorem srt_spl {v : RS} {h : Int64} {t : Int32} (R : Srt v) (o : okK t) : ∃ j, spl v.1 v.2.1 v.2.2.1 h t j ∧ loQ v (kc h t) j := by
  obtain ⟨-, R2, R3⟩ := R
  obtain ⟨j, hj, hm⟩ := pk_least (fun i => v.1 ≤ i ∨ kc h t ≤ cod v i) ⟨v.1, Or.inl (Nat.le_refl _)⟩
  have hju : j ≤ v.1 := by
    rcases Nat.lt_or_ge v.1 j with q | q
    · exact absurd (Or.inl (Nat.le_refl _)) (hm _ q)
    · exact q
  have lo : ∀ i, i < j → cod v i < kc h t := fun i hi => by
    have q := hm i hi
    rcases Nat.lt_or_ge (cod v i) (kc h t) with g | g
    · exact g
    · exact absurd (Or.inr g) q
  have hi : ∀ i, j ≤ i → i < v.1 → kc h t ≤ cod v i := fun i h1 h2 => by
    rcases hj with q | q
    · omega
    · rcases Nat.lt_or_ge j i with g | g
      · have := R3 j i g h2
        omega
      · rw [show i = j by omega]
        exact q
  refine ⟨j, ⟨hju, fun i hi' => (bfr_kc (R2 i (by omega)) o).mpr (lo i hi'), fun i h1 h2 h3 => ?_⟩, lo, hi⟩
  have g1 : cod v i < kc h t := (bfr_kc (R2 i h2) o).mp h3
  have g2 := hi i h1 h2
  omega
theorem srt_ne {v : RS} {h : Int64} {t : Int32} {j : Nat} (R : Srt v) (o : okK t) (L : loQ v (kc h t) j) (n : ¬ hld v.1 v.2.1 v.2.2.1 j h t) : ∀ i, i < v.1 → cod v i ≠ kc h t := by
  obtain ⟨-, R2, R3⟩ := R
  obtain ⟨lo, hi⟩ := L
  intro i h1 h2
  have hij : i = j := by
    rcases Nat.lt_or_ge i j with g | g
    · have := lo i g
      omega
    · rcases Nat.lt_or_ge j i with g2 | g2
      · have := R3 j i g2 h1
        have := hi j (Nat.le_refl _) (by omega)
        omega
      · omega
  subst hij
  obtain ⟨e1, e2⟩ := kc_inj (R2 i h1) o h2
  exact n ⟨h1, e1, e2⟩
theorem srt_ext {v w : RS} (R : Srt v) (e1 : w.1 = v.1) (e2 : ∀ i, i < v.1 → w.2.1 i = v.2.1 i) (e3 : ∀ i, i < v.1 → w.2.2.1 i = v.2.2.1 i) : Srt w := by
  obtain ⟨R1, R2, R3⟩ := R
  have ec : ∀ i, i < v.1 → cod w i = cod v i := fun i hi => by unfold cod; rw [e2 i hi, e3 i hi]
  refine ⟨by omega, fun i hi => ?_, fun i j hi hj => ?_⟩
  · rw [e3 i (by omega)]
    exact R2 i (by omega)
  · rw [ec i (by omega), ec j (by omega)]
    exact R3 i j hi (by omega)
theorem srt_0 : Srt rs_0 := ⟨Nat.zero_le _, fun i h => absurd h (Nat.not_lt_zero i), fun i j _ h => absurd h (Nat.not_lt_zero j)⟩
theorem cpy_at {α : Type} {f g : Nat → α} {n i : Nat} (h : i < n) : va_cpy f g 0 0 n i = f i := by
  rw [pk_cpy_in (Nat.zero_le i) (by omega)]
  congr 1
  omega
theorem srt_cpy {v w : RS} (R : Srt v) : Srt (rs_cpy v w) := srt_ext R rfl (fun _ h => cpy_at h) (fun _ h => cpy_at h)
theorem opn_lo {α : Type} {f : Nat → α} {j u i : Nat} (h : i ≤ j) : opn f j u i = f i := pk_cpy_out (Or.inl (by omega))
theorem opn_hi {α : Type} {f : Nat → α} {j u i : Nat} (h : j < i) (h2 : i ≤ u) : opn f j u i = f (i - 1) := by
  unfold opn
  rw [pk_cpy_in (by omega) (by omega)]
  congr 1
  omega
theorem clo_lo {α : Type} {f : Nat → α} {j u i : Nat} (h : i < j) : clo f j u i = f i := pk_cpy_out (Or.inl h)
theorem clo_hi {α : Type} {f : Nat → α} {j u i : Nat} (h : j ≤ i) (h2 : i + 1 < u) : clo f j u i = f (i + 1) := by
  unfold clo
  rw [pk_cpy_in h (by omega)]
  congr 1
  omega
/-- rows with a new one at j -/
theorem srt_new {v w : RS} {h : Int64} {t : Int32} {j : Nat} (R : Srt v) (o : okK t) (hju : j ≤ v.1) (L : loQ v (kc h t) j) (hn : ¬ hld v.1 v.2.1 v.2.2.1 j h t) (h150 : v.1 < 150)
    (e1 : w.1 = v.1 + 1) (ej : w.2.1 j = h ∧ w.2.2.1 j = t)
    (el : ∀ i, i < j → w.2.1 i = v.2.1 i ∧ w.2.2.1 i = v.2.2.1 i)
    (eh : ∀ i, j ≤ i → i < v.1 → w.2.1 (i + 1) = v.2.1 i ∧ w.2.2.1 (i + 1) = v.2.2.1 i) : Srt w := by
  have hne := srt_ne R o L hn
  obtain ⟨R1, R2, R3⟩ := R
  obtain ⟨lo, hi⟩ := L
  have cj : cod w j = kc h t := by unfold cod; rw [ej.1, ej.2]
  have cl : ∀ i, i < j → cod w i = cod v i := fun i h1 => by unfold cod; rw [(el i h1).1, (el i h1).2]
  have ch : ∀ i, j ≤ i → i < v.1 → cod w (i + 1) = cod v i := fun i h1 h2 => by unfold cod; rw [(eh i h1 h2).1, (eh i h1 h2).2]
  have cases3 : ∀ i, i < v.1 + 1 → i < j ∨ i = j ∨ ∃ k, i = k + 1 ∧ j ≤ k ∧ k < v.1 := fun i h1 => by
    rcases Nat.lt_trichotomy i j with q | q | q
    · exact Or.inl q
    · exact Or.inr (Or.inl q)
    · exact Or.inr (Or.inr ⟨i - 1, by omega, by omega, by omega⟩)
  refine ⟨by omega, fun i h1 => ?_, fun i k h1 h2 => ?_⟩
  · rcases cases3 i (by omega) with q | rfl | ⟨k, rfl, q1, q2⟩
    · rw [(el i q).2]
      exact R2 i (by omega)
    · rw [ej.2]
      exact o
    · rw [(eh k q1 q2).2]
      exact R2 k q2
  · rcases cases3 k (by omega) with q | rfl | ⟨k, rfl, q1, q2⟩
    · rw [cl i (by omega), cl k q]
      exact R3 i k h1 (by omega)
    · rw [cl i h1, cj]
      exact lo i h1
    · rw [ch k q1 q2]
      have hk2 := hi k q1 q2
      have hk3 := hne k q2
      rcases cases3 i (by omega) with p | rfl | ⟨i, rfl, p1, p2⟩
      · rw [cl i p]
        have := lo i p
        omega
      · rw [cj]
        omega
      · rw [ch i p1 p2]
        exact R3 i k (by omega) q2
theorem srt_put {v : RS} {h : Int64} {t : Int32} {x : Int64} {n : Int32} {j : Nat} (R : Srt v) (q : hld v.1 v.2.1 v.2.2.1 j h t) : Srt (rs_put v j h t x n) := by
  refine srt_ext R rfl (fun i _ => ?_) (fun i _ => ?_)
  · by_cases e : i = j
    · subst e
      exact pk_uLs.trans q.2.1.symm
    · exact pk_uLn e
  · by_cases e : i = j
    · subst e
      exact pk_us.trans q.2.2.symm
    · exact pk_un e
theorem srt_ins {v : RS} {h : Int64} {t : Int32} {x : Int64} {n : Int32} {j : Nat} (R : Srt v) (o : okK t) (hju : j ≤ v.1) (L : loQ v (kc h t) j) (hn : ¬ hld v.1 v.2.1 v.2.2.1 j h t) (h150 : v.1 < 150) : Srt (rs_put (rs_opn v j) j h t x n) :=
  srt_new R o hju L hn h150 rfl ⟨pk_uLs, pk_us⟩
    (fun i e => ⟨(pk_uLn (by omega)).trans (opn_lo (by omega)), (pk_un (by omega)).trans (opn_lo (by omega))⟩)
    (fun i e1 e2 => ⟨(pk_uLn (by omega)).trans (opn_hi (by omega) (by omega)), (pk_un (by omega)).trans (opn_hi (by omega) (by omega))⟩)
theorem srt_rem {v : RS} {j : Nat} (R : Srt v) (hj : j < v.1) : Srt (rs_clo v j) := by
  obtain ⟨R1, R2, R3⟩ := R
  have cl : ∀ i, i < j → cod (rs_clo v j) i = cod v i := fun i h1 => by
    show kc (clo v.2.1 j v.1 i) (clo v.2.2.1 j v.1 i) = _
    rw [clo_lo h1, clo_lo h1]
    rfl
  have ch : ∀ i, j ≤ i → i + 1 < v.1 → cod (rs_clo v j) i = cod v (i + 1) := fun i h1 h2 => by
    show kc (clo v.2.1 j v.1 i) (clo v.2.2.1 j v.1 i) = _
    rw [clo_hi h1 h2, clo_hi h1 h2]
    rfl
  have e1 : (rs_clo v j).1 = v.1 - 1 := rfl
  refine ⟨by omega, fun i h1 => ?_, fun i k h1 h2 => ?_⟩
  · show okK (clo v.2.2.1 j v.1 i)
    rcases Nat.lt_or_ge i j with p | p
    · rw [clo_lo p]
      exact R2 i (by omega)
    · rw [clo_hi p (by omega)]
      exact R2 _ (by omega)
  · rcases Nat.lt_or_ge k j with p | p
    · rw [cl i (by omega), cl k p]
      exact R3 i k h1 (by omega)
    · rw [ch k p (by omega)]
      rcases Nat.lt_or_ge i j with p2 | p2
      · rw [cl i p2]
        exact R3 i (k + 1) (by omega) (by omega)
      · rw [ch i p2 (by omega)]
        exact R3 (i + 1) (k + 1) (by omega) (by omega)
end
section
/-! KEYS AND TEXTS AS NUMBERS -/
theorem ub_n : ∀ n, n < 9 → (64 - 8 * nI n : Int32) = nI (64 - 8 * n) := by decide +kernel
theorem uN_lN {a : Nat} (h : a < 2 ^ 64) : uN (lN a) = a := wb_tn h
theorem uN_lt64 (x : Int64) : uN x < 2 ^ 64 := uN_lt x
theorem lN_uN (x : Int64) : lN (uN x) = x := uN_inj (uN_lN (uN_lt64 x))
theorem lm_n : ∀ n, n < 9 → (2 ^ 64 - 1) / 2 ^ (64 - 8 * n) = 2 ^ (8 * n) - 1 := by decide +kernel
theorem hdOf_n {q : Int64} {n : Nat} (h1 : 1 ≤ n) (h8 : n ≤ 8) : uN (hdOf q (nI n)) = (uN q % 2 ^ (8 * n)) * 2 ^ (64 - 8 * n) := by
  have e : hdOf (lN (uN q)) (nI n) = lN (uN q * 2 ^ (64 - 8 * n)) := by
    unfold hdOf
    rw [ub_n n (by omega)]
    exact wb_shl _ (by omega)
  rw [lN_uN] at e
  rw [e, wb_mod, uN_lN (Nat.mod_lt _ (by decide))]
  have p : 2 ^ 64 = 2 ^ (8 * n) * 2 ^ (64 - 8 * n) := wb_pw (by omega)
  rw [p, Nat.mul_mod_mul_right]
theorem unH_n {h : Int64} {n : Nat} (h1 : 1 ≤ n) (h8 : n ≤ 8) : uN (unH h (nI n)) = uN h / 2 ^ (64 - 8 * n) := by
  unfold unH
  rw [ub_n n (by omega)]
  exact uN_sk h (by omega)
theorem unH_hdOf {q : Int64} {n : Nat} (h1 : 1 ≤ n) (h8 : n ≤ 8) : uN (unH (hdOf q (nI n)) (nI n)) = uN q % 2 ^ (8 * n) := by
  rw [unH_n h1 h8, hdOf_n h1 h8]
  exact Nat.mul_div_cancel _ (Nat.two_pow_pos _)
theorem lowB_n {b : Int64} {n : Nat} (h8 : n ≤ 8) : uN (lowB b (nI n)) = uN b % 2 ^ (8 * n) := by
  unfold lowB
  by_cases e : n = 0
  · subst e
    rw [if_pos nI_0, show 2 ^ (8 * 0) = 1 by decide, Nat.mod_one]
    decide
  · rw [if_neg (nI_ne0 (by omega) (by omega)), ub_n n (by omega)]
    have hm : ((-1 : Int64).toUInt64 >>> ((nI (64 - 8 * n)).toInt64.toUInt64 &&& Int64.toUInt64 63)).toInt64 = lN (2 ^ (8 * n) - 1) := by
      rw [show (-1 : Int64) = lN (2 ^ 64 - 1) by decide, wb_shr (by decide) (by omega), lm_n n (by omega)]
    have hp : 2 ^ (8 * n) ≤ 2 ^ 64 := Nat.pow_le_pow_right (by decide) (by omega)
    rw [hm]
    show (b.toUInt64 &&& (lN (2 ^ (8 * n) - 1)).toUInt64).toNat = _
    have e2 : (lN (2 ^ (8 * n) - 1)).toUInt64.toNat = 2 ^ (8 * n) - 1 := uN_lN (by omega)
    rw [UInt64.toNat_and, e2]
    exact Nat.and_two_pow_sub_one_eq_mod _ _
/-- the number of a told key -/
theorem kc_n {q : Int64} {n : Nat} (h1 : 1 ≤ n) (h8 : n ≤ 8) : kc (hdOf q (nI n)) (nI n) = (uN q % 2 ^ (8 * n)) * 2 ^ (64 - 8 * n) * 16 + n := by
  unfold kc
  rw [hdOf_n h1 h8, nI_clamp (by omega)]
end
section
/-! THE REFERENCE's OWN WORDS: a key's byte at a place, or -1 behind its end; its order is that of the numbers -/
def atI (k : Int64) (n i : Nat) : Int32 := if i < n then nI (uN k / 2 ^ (8 * (n - 1 - i)) % 256) else -1
def atZ (k : Int64) (n i : Nat) : Int := if i < n then ((uN k / 2 ^ (8 * (n - 1 - i)) % 256 : Nat) : Int) else -1
theorem atI_toInt (k : Int64) (n i : Nat) : (atI k n i).toInt = atZ k n i := by
  unfold atI atZ
  by_cases h : i < n
  · rw [if_pos h, if_pos h]
    exact nI_toInt (by omega)
  · rw [if_neg h, if_neg h]
    decide
theorem atZ_in (k : Int64) (n i : Nat) : -1 ≤ atZ k n i ∧ atZ k n i ≤ 255 := by
  unfold atZ
  by_cases h : i < n
  · rw [if_pos h]
    omega
  · rw [if_neg h]
    omega
theorem at_sub (a b : Int64) (n m i : Nat) : (atI a n i - atI b m i).toInt = atZ a n i - atZ b m i := by
  have h1 := atZ_in a n i
  have h2 := atZ_in b m i
  rw [Int32.toInt_sub, atI_toInt, atI_toInt, Int.bmod_def]
  omega
/-- a head's top i bytes -/
def tpB (H i : Nat) : Nat := H / 2 ^ (64 - 8 * i)
theorem hd_byte {K n i : Nat} (h1 : 1 ≤ n) (h8 : n ≤ 8) (hi : i < n) : (K % 2 ^ (8 * n) * 2 ^ (64 - 8 * n)) / 2 ^ (56 - 8 * i) % 256 = K / 2 ^ (8 * (n - 1 - i)) % 256 := by
  have e1 : 2 ^ (64 - 8 * n) * 2 ^ (8 * (n - 1 - i)) = 2 ^ (56 - 8 * i) := by
    rw [← Nat.pow_add]
    congr 1
    omega
  rw [← e1, ← Nat.div_div_eq_div_mul, Nat.mul_div_cancel _ (Nat.two_pow_pos _)]
  have e2 : 2 ^ (8 * n) = 2 ^ (8 * (n - 1 - i)) * 2 ^ (8 * (i + 1)) := by
    rw [← Nat.pow_add]
    congr 1
    omega
  rw [e2, Nat.mod_mul_right_div_self]
  have e3 : 2 ^ (8 * (i + 1)) = 256 * 2 ^ (8 * i) := by
    rw [show 8 * (i + 1) = 8 + 8 * i by omega, Nat.pow_add]
  rw [e3, Nat.mod_mul_right_mod]
theorem tp_step (H : Nat) {i : Nat} (hi : i < 8) : tpB H (i + 1) = tpB H i * 256 + H / 2 ^ (56 - 8 * i) % 256 := by
  unfold tpB
  rw [show 64 - 8 * (i + 1) = 56 - 8 * i by omega]
  have e : 2 ^ (64 - 8 * i) = 2 ^ (56 - 8 * i) * 256 := by
    rw [show 64 - 8 * i = 56 - 8 * i + 8 by omega, Nat.pow_add]
  rw [e, ← Nat.div_div_eq_div_mul]
  omega
theorem tp_lt {H G i : Nat} (h : tpB H i < tpB G i) : H < G := by
  rcases Nat.lt_or_ge H G with q | q
  · exact q
  · exact absurd (Nat.div_le_div_right q) (Nat.not_le.mpr h)
/-- as far as the bytes agree, the tops agree and so do the ends -/
theorem at_pre {a b : Int64} {n m : Nat} (n1 : 1 ≤ n) (n8 : n ≤ 8) (m1 : 1 ≤ m) (m8 : m ≤ 8) : ∀ i, i ≤ 8 → (∀ q, q < i → atZ a n q = atZ b m q) → tpB (uN (hdOf a (nI n))) i = tpB (uN (hdOf b (nI m))) i ∧ (i ≤ n ∧ i ≤ m ∨ n = m) := by
  intro i
  induction i with
  | zero =>
    intro _ _
    refine ⟨?_, Or.inl ⟨Nat.zero_le _, Nat.zero_le _⟩⟩
    unfold tpB
    have ha := uN_lt64 (hdOf a (nI n))
    have hb := uN_lt64 (hdOf b (nI m))
    rw [Nat.div_eq_of_lt ha, Nat.div_eq_of_lt hb]
  | succ i ih =>
    intro hi h
    obtain ⟨e1, e2⟩ := ih (by omega) (fun q hq => h q (by omega))
    have e3 := h i (by omega)
    have key : (i < n ∧ i < m ∧ uN (hdOf a (nI n)) / 2 ^ (56 - 8 * i) % 256 = uN (hdOf b (nI m)) / 2 ^ (56 - 8 * i) % 256) ∨ n = m := by
      by_cases hn : i < n
      · by_cases hm : i < m
        · refine Or.inl ⟨hn, hm, ?_⟩
          unfold atZ at e3
          rw [if_pos hn, if_pos hm] at e3
          rw [hdOf_n n1 n8, hdOf_n m1 m8, hd_byte n1 n8 hn, hd_byte m1 m8 hm]
          omega
        · unfold atZ at e3
          rw [if_pos hn, if_neg hm] at e3
          omega
      · by_cases hm : i < m
        · unfold atZ at e3
          rw [if_neg hn, if_pos hm] at e3
          omega
        · exact Or.inr (by omega)
    rcases key with ⟨k1, k2, k3⟩ | k
    · refine ⟨?_, Or.inl ⟨k1, k2⟩⟩
      rw [tp_step _ (by omega), tp_step _ (by omega), e1, k3]
    · subst k
      refine ⟨?_, Or.inr rfl⟩
      rw [tp_step _ (by omega), tp_step _ (by omega), e1]
      congr 1
      by_cases hn : i < n
      · unfold atZ at e3
        rw [if_pos hn, if_pos hn] at e3
        rw [hdOf_n n1 n8, hdOf_n n1 n8, hd_byte n1 n8 hn, hd_byte n1 n8 hn]
        omega
      · rw [hdOf_n n1 n8, hdOf_n n1 n8]
        have e5 : 2 ^ (64 - 8 * n) = 2 ^ (56 - 8 * i) * (256 * 2 ^ (8 * (i - n))) := by
          rw [← Nat.mul_assoc, show (256 : Nat) = 2 ^ 8 from rfl, ← Nat.pow_add, ← Nat.pow_add]
          congr 1
          omega
        have e6 : ∀ K : Nat, K % 2 ^ (8 * n) * 2 ^ (64 - 8 * n) / 2 ^ (56 - 8 * i) % 256 = 0 := fun K => by
          rw [e5, ← Nat.mul_assoc, Nat.mul_right_comm, Nat.mul_div_cancel _ (Nat.two_pow_pos _), ← Nat.mul_assoc, Nat.mul_right_comm, Nat.mul_mod_left]
        rw [e6, e6]
theorem hd_tail {a : Int64} {n : Nat} (n1 : 1 ≤ n) (n8 : n ≤ 8) : uN (hdOf a (nI n)) = tpB (uN (hdOf a (nI n))) n * 2 ^ (64 - 8 * n) := by
  unfold tpB
  rw [hdOf_n n1 n8, Nat.mul_div_cancel _ (Nat.two_pow_pos _)]
theorem tp_8 (H : Nat) : tpB H 8 = H := by
  unfold tpB
  rw [show 64 - 8 * 8 = 0 by decide, Nat.pow_zero, Nat.div_one]
/-- the order's end: no byte differs -/
theorem ord_end {a b : Int64} {n m : Nat} (n1 : 1 ≤ n) (n8 : n ≤ 8) (m1 : 1 ≤ m) (m8 : m ≤ 8) (h : ∀ q, q < 8 → atZ a n q = atZ b m q) : hdOf a (nI n) = hdOf b (nI m) ∧ n = m := by
  obtain ⟨e1, e2⟩ := at_pre n1 n8 m1 m8 8 (Nat.le_refl 8) h
  rw [tp_8, tp_8] at e1
  exact ⟨uN_inj e1, by omega⟩
/-- the first byte that differs decides -/
theorem ord_ne {a b : Int64} {n m i : Nat} (n1 : 1 ≤ n) (n8 : n ≤ 8) (m1 : 1 ≤ m) (m8 : m ≤ 8) (hi : i < 8) (h : ∀ q, q < i → atZ a n q = atZ b m q) (hd : atZ a n i ≠ atZ b m i) : (atZ a n i < atZ b m i ↔ kc (hdOf a (nI n)) (nI n) < kc (hdOf b (nI m)) (nI m)) ∧ kc (hdOf a (nI n)) (nI n) ≠ kc (hdOf b (nI m)) (nI m) := by
  obtain ⟨e1, e2⟩ := at_pre n1 n8 m1 m8 i (by omega) h
  unfold kc
  rw [nI_clamp (show n < 2 ^ 31 by omega), nI_clamp (show m < 2 ^ 31 by omega)]
  by_cases hn : i < n
  · by_cases hm : i < m
    · have s1 := tp_step (uN (hdOf a (nI n))) hi
      have s2 := tp_step (uN (hdOf b (nI m))) hi
      have b1 : uN (hdOf a (nI n)) / 2 ^ (56 - 8 * i) % 256 = uN a / 2 ^ (8 * (n - 1 - i)) % 256 := by rw [hdOf_n n1 n8, hd_byte n1 n8 hn]
      have b2 : uN (hdOf b (nI m)) / 2 ^ (56 - 8 * i) % 256 = uN b / 2 ^ (8 * (m - 1 - i)) % 256 := by rw [hdOf_n m1 m8, hd_byte m1 m8 hm]
      unfold atZ at hd ⊢
      rw [if_pos hn, if_pos hm] at hd ⊢
      rw [b1] at s1
      rw [b2] at s2
      rw [e1] at s1
      rcases Nat.lt_trichotomy (uN a / 2 ^ (8 * (n - 1 - i)) % 256) (uN b / 2 ^ (8 * (m - 1 - i)) % 256) with q | q | q
      · have := tp_lt (H := uN (hdOf a (nI n))) (G := uN (hdOf b (nI m))) (i := i + 1) (by omega)
        constructor
        · constructor <;> intro _ <;> omega
        · omega
      · exact absurd (by rw [q]) hd
      · have := tp_lt (H := uN (hdOf b (nI m))) (G := uN (hdOf a (nI n))) (i := i + 1) (by omega)
        constructor
        · constructor <;> intro _ <;> omega
        · omega
    · -- b ends here: it begins a
      have hmi : m = i := by omega
      have t1 := hd_tail (a := b) m1 m8
      have t2 : tpB (uN (hdOf a (nI n))) m * 2 ^ (64 - 8 * m) ≤ uN (hdOf a (nI n)) := Nat.div_mul_le_self _ _
      rw [← hmi] at e1
      rw [e1, ← t1] at t2
      unfold atZ
      rw [if_pos hn, if_neg hm]
      constructor
      · constructor <;> intro _ <;> omega
      · omega
  · by_cases hm : i < m
    · have hni : n = i := by omega
      have t1 := hd_tail (a := a) n1 n8
      have t2 : tpB (uN (hdOf b (nI m))) n * 2 ^ (64 - 8 * n) ≤ uN (hdOf b (nI m)) := Nat.div_mul_le_self _ _
      rw [← hni] at e1
      rw [← e1, ← t1] at t2
      unfold atZ
      rw [if_neg hn, if_pos hm]
      constructor
      · constructor <;> intro _ <;> omega
      · omega
    · unfold atZ at hd
      rw [if_neg hn, if_neg hm] at hd
      exact absurd rfl hd
/-- what 'order' answers -/
def ordQ (a : Int64) (n : Int32) (b : Int64) (m : Int32) (z : Int32) : Prop := (z < 0 ↔ bfr (hdOf a n) n (hdOf b m) m) ∧ (z = 0 ↔ hdOf a n = hdOf b m ∧ n = m)
theorem ordQ_end {a b : Int64} {n m : Nat} (n1 : 1 ≤ n) (n8 : n ≤ 8) (m1 : 1 ≤ m) (m8 : m ≤ 8) (h : ∀ q, q < 8 → atI a n q = atI b m q) : ordQ a (nI n) b (nI m) 0 := by
  obtain ⟨e1, e2⟩ := ord_end n1 n8 m1 m8 (a := a) (b := b) (fun q hq => by rw [← atI_toInt, ← atI_toInt, h q hq])
  subst e2
  refine ⟨⟨fun q => absurd q (by decide), fun q => ?_⟩, ⟨fun _ => ⟨e1, rfl⟩, fun _ => rfl⟩⟩
  rcases q with ⟨q, _⟩ | ⟨_, q⟩
  · exact absurd e1 q
  · exact absurd q (nI_nlt (Nat.le_refl _) (by omega))
theorem ordQ_ne {a b : Int64} {n m i : Nat} (n1 : 1 ≤ n) (n8 : n ≤ 8) (m1 : 1 ≤ m) (m8 : m ≤ 8) (hi : i < 8) (h : ∀ q, q < i → atI a n q = atI b m q) (hd : ¬ atI a n i - atI b m i = 0) : ordQ a (nI n) b (nI m) (atI a n i - atI b m i) := by
  have hs := at_sub a b n m i
  have e0 : (0 : Int32).toInt = 0 := by decide
  have hne : atZ a n i ≠ atZ b m i := fun q => hd (Int32.toInt_inj.mp (by rw [hs, e0]; omega))
  obtain ⟨e1, e2⟩ := ord_ne n1 n8 m1 m8 hi (a := a) (b := b) (fun q hq => by rw [← atI_toInt, ← atI_toInt, h q hq]) hne
  refine ⟨?_, ⟨fun q => absurd q hd, fun q => absurd (by rw [q.1, q.2]) e2⟩⟩
  rw [bfr_kc (okK_of n1 n8) (okK_of m1 m8), ← e1, Int32.lt_iff_toInt_lt, hs, e0]
  omega
/-- the reference's byte, out of its shifts -/
theorem at_val (k : Int64) {n i : Nat} (n8 : n ≤ 8) (hi : i < n) : ((k >>> ((8 * (nI n - 1 - nI i) : Int32).toInt64 &&& 63)) &&& 255).toInt32 = atI k n i := by
  unfold atI
  rw [if_pos hi]
  have hs : ∀ j, j < 8 → ((8 * nI j : Int32).toInt64 &&& 63) = lN (8 * j) := by decide +kernel
  have e : (nI n - 1 - nI i : Int32) = nI (n - 1 - i) := by rw [nI_s1 (by omega), pk_sub (by omega)]
  rw [e, hs _ (by omega)]
  generalize hj : n - 1 - i = j
  have hj8 : j < 8 := by omega
  have hb : ((lN (8 * j)).toBitVec.smod 64).toNat = 8 * j := by
    have : ∀ j, j < 8 → ((lN (8 * j)).toBitVec.smod 64).toNat = 8 * j := by decide +kernel
    exact this j hj8
  have hk := uN_lt64 k
  have hi2 := uN_int k
  have hz : (k >>> lN (8 * j)).toInt = k.toInt / ((2 ^ (8 * j) : Nat) : Int) := by
    show (k.toBitVec.sshiftRight' ((lN (8 * j)).toBitVec.smod 64)).toInt = _
    rw [BitVec.sshiftRight_eq', BitVec.toInt_sshiftRight, hb, Int.shiftRight_eq_div_pow]
    rfl
  have hu := uN_int (k >>> lN (8 * j))
  have hlt := uN_lt64 (k >>> lN (8 * j))
  have hm : uN (k >>> lN (8 * j)) % 256 = uN k / 2 ^ (8 * j) % 256 := by
    rcases (show j = 0 ∨ j = 1 ∨ j = 2 ∨ j = 3 ∨ j = 4 ∨ j = 5 ∨ j = 6 ∨ j = 7 by omega) with rfl | rfl | rfl | rfl | rfl | rfl | rfl | rfl <;> omega
  have hc : uN ((k >>> lN (8 * j)) &&& 255) = uN k / 2 ^ (8 * j) % 256 := by
    rw [← hm]
    show ((k >>> lN (8 * j)).toUInt64 &&& Int64.toUInt64 255).toNat = _
    rw [UInt64.toNat_and]
    exact Nat.and_two_pow_sub_one_eq_mod _ 8
  have hf : (k >>> lN (8 * j)) &&& 255 = lN (uN k / 2 ^ (8 * j) % 256) := by
    rw [← hc, lN_uN]
  rw [hf, lN_i]
theorem cut_val (b : Int64) {n : Nat} (n8 : n < 8) : b &&& (((1 : Int64) <<< ((8 * nI n : Int32).toInt64 &&& 63)) - 1) = lowB b (nI n) := by
  have hs : ∀ j, j < 8 → ((1 : Int64) <<< ((8 * nI j : Int32).toInt64 &&& 63)) - 1 = lN (2 ^ (8 * j) - 1) := by decide +kernel
  apply uN_inj
  rw [hs n n8, lowB_n (by omega)]
  show (b.toUInt64 &&& (lN (2 ^ (8 * n) - 1)).toUInt64).toNat = _
  have hp : 2 ^ (8 * n) ≤ 2 ^ 64 := Nat.pow_le_pow_right (by decide) (by omega)
  have e2 : (lN (2 ^ (8 * n) - 1)).toUInt64.toNat = 2 ^ (8 * n) - 1 := uN_lN (by omega)
  rw [UInt64.toNat_and, e2]
  exact Nat.and_two_pow_sub_one_eq_mod _ _
theorem cut_8 (b : Int64) : lowB b 8 = b := by
  apply uN_inj
  have e := lowB_n (b := b) (n := 8) (Nat.le_refl 8)
  have h := uN_lt64 b
  rw [show (8 : Int32) = nI 8 from rfl, e]
  exact Nat.mod_eq_of_lt h
/-! moving rows by one, a place at a time -/
theorem opn_full {α : Type} {f : Nat → α} {m : Nat} : opn f m m = f := by
  funext i
  exact pk_cpy_out (by omega)
theorem opn_out {α : Type} {f : Nat → α} {q m i : Nat} (h : m < i) (h2 : q ≤ m) : opn f q m i = f i := pk_cpy_out (Or.inr (by omega))
theorem opn_stepL {f : Nat → Int64} {q m : Nat} (h2 : q < m) : vp_updL (opn f (q + 1) m) (q + 1) (opn f (q + 1) m q) = opn f q m := by
  funext i
  by_cases e : i = q + 1
  · subst e
    rw [pk_uLs, opn_lo (by omega), opn_hi (by omega) (by omega)]
    rfl
  · rw [pk_uLn e]
    rcases Nat.lt_or_ge q i with h | h
    · rcases Nat.lt_or_ge m i with h3 | h3
      · rw [opn_out h3 (by omega), opn_out h3 (by omega)]
      · rw [opn_hi (by omega) h3, opn_hi (by omega) h3]
    · rw [opn_lo (by omega), opn_lo (by omega)]
theorem opn_stepI {f : Nat → Int32} {q m : Nat} (h2 : q < m) : upd (opn f (q + 1) m) (q + 1) (opn f (q + 1) m q) = opn f q m := by
  funext i
  by_cases e : i = q + 1
  · subst e
    rw [pk_us, opn_lo (by omega), opn_hi (by omega) (by omega)]
    rfl
  · rw [pk_un e]
    rcases Nat.lt_or_ge q i with h | h
    · rcases Nat.lt_or_ge m i with h3 | h3
      · rw [opn_out h3 (by omega), opn_out h3 (by omega)]
      · rw [opn_hi (by omega) h3, opn_hi (by omega) h3]
    · rw [opn_lo (by omega), opn_lo (by omega)]
/-- rows from j + 1 on moved down by one, as far as place q -/
def clq {α : Type} (f : Nat → α) (j q : Nat) : Nat → α := va_cpy f f (j + 1) j (q - j)
theorem clq_0 {α : Type} {f : Nat → α} {j : Nat} : clq f j j = f := by
  funext i
  exact pk_cpy_out (by omega)
theorem clq_lo {α : Type} {f : Nat → α} {j q i : Nat} (h : i < j) : clq f j q i = f i := pk_cpy_out (Or.inl h)
theorem clq_in {α : Type} {f : Nat → α} {j q i : Nat} (h : j ≤ i) (h2 : i < q) : clq f j q i = f (i + 1) := by
  unfold clq
  rw [pk_cpy_in h (by omega)]
  congr 1
  omega
theorem clq_hi {α : Type} {f : Nat → α} {j q i : Nat} (h : j ≤ q) (h2 : q ≤ i) : clq f j q i = f i := pk_cpy_out (Or.inr (by omega))
theorem clq_stepL {f : Nat → Int64} {j q : Nat} (h : j ≤ q) : vp_updL (clq f j q) q (clq f j q (q + 1)) = clq f j (q + 1) := by
  funext i
  by_cases e : i = q
  · subst e
    rw [pk_uLs, clq_hi h (by omega), clq_in h (by omega)]
  · rw [pk_uLn e]
    rcases Nat.lt_or_ge i j with h1 | h1
    · rw [clq_lo h1, clq_lo h1]
    · rcases Nat.lt_or_ge i q with h2 | h2
      · rw [clq_in h1 h2, clq_in h1 (by omega)]
      · rw [clq_hi h h2, clq_hi (by omega) (by omega)]
theorem clq_stepI {f : Nat → Int32} {j q : Nat} (h : j ≤ q) : upd (clq f j q) q (clq f j q (q + 1)) = clq f j (q + 1) := by
  funext i
  by_cases e : i = q
  · subst e
    rw [pk_us, clq_hi h (by omega), clq_in h (by omega)]
  · rw [pk_un e]
    rcases Nat.lt_or_ge i j with h1 | h1
    · rw [clq_lo h1, clq_lo h1]
    · rcases Nat.lt_or_ge i q with h2 | h2
      · rw [clq_in h1 h2, clq_in h1 (by omega)]
      · rw [clq_hi h h2, clq_hi (by omega) (by omega)]
theorem clq_end {α : Type} {f : Nat → α} {j m : Nat} : clq f j (m - 1) = clo f j m := by
  unfold clq clo
  rw [show m - 1 - j = m - j - 1 by omega]
theorem cpq_0 {α : Type} {f g : Nat → α} : va_cpy f g 0 0 0 = g := by
  funext i
  exact pk_cpy_out (by omega)
theorem cpq_stepL {f g : Nat → Int64} {i : Nat} : vp_updL (va_cpy f g 0 0 i) i (f i) = va_cpy f g 0 0 (i + 1) := by
  funext q
  by_cases e : q = i
  · subst e
    rw [pk_uLs, cpy_at (by omega)]
  · rw [pk_uLn e]
    rcases Nat.lt_or_ge q i with h | h
    · rw [cpy_at h, cpy_at (by omega)]
    · rw [pk_cpy_out (by omega), pk_cpy_out (by omega)]
theorem cpq_stepI {f g : Nat → Int32} {i : Nat} : upd (va_cpy f g 0 0 i) i (f i) = va_cpy f g 0 0 (i + 1) := by
  funext q
  by_cases e : q = i
  · subst e
    rw [pk_us, cpy_at (by omega)]
  · rw [pk_un e]
    rcases Nat.lt_or_ge q i with h | h
    · rw [cpy_at h, cpy_at (by omega)]
    · rw [pk_cpy_out (by omega), pk_cpy_out (by omega)]
end
section
/-! THE CLASS's STATIC METHODS -/
set_option maxHeartbeats 4000000 in
set_option maxRecDepth 100000 in
/-- unusedBits -/
theorem c_unusedBits (l : Launch) (i : Int32) : Met l yX1_unusedBits wsX1_unusedBits ({ frames := 0, cells := 0, slots := 0, locals := 0 }) (stP [.int i]) (vp_Si (fun z => z = 64 - 8 * i)) 0 0 (fun _ => False) := by
  refine Met.ofW (cc := cX1_unusedBits) (maxL := 1) (ret := some .int) (by decide) rfl ?_
  intro p e s m args below meth c s₁ B hml hv
  obtain ⟨rfl, -⟩ := hv
  have hx := B.exec
  have hb := B.bytes
  have hr := B.returns
  have hts := atoms_spec (ws := wsX1_unusedBits) B.pre
  have hown : s.vm.findClass RX1 = some m.cls := findClass_of_methodNamed B.named
  have hlocks := B.notSynchronized
  have hl := lv_entry ([.int i]) (n := 1) (Nat.le_of_ble_eq_true rfl)
  rw [lg_entry_eq]
  generalize (lg_sl ([.int i]) ++ List.replicate (1 - (lg_sl ([.int i])).length) Slot.unset).toArray = ls at hl ⊢
  replace hl : lv_has ls 1 [(0, .int i)] := hl
  refine lv_bipush (v := 64) hx hb dX1_unusedBits_0 (by decide) ?_
  refine lv_bipush (v := 8) hx hb dX1_unusedBits_2 (by decide) ?_
  refine lv_iload_n hx hb dX1_unusedBits_4 rfl (lv_at hl 0 rfl) ?_
  refine lv_imul hx hb dX1_unusedBits_5 ?_
  refine lv_isub hx hb dX1_unusedBits_6 ?_
  exact W.iret (v := (64 - (8 * i))) hx hb hr (fun t9 ht hW => ⟨(64 - (8 * i)), rfl, rfl, ht⟩) (fun q h => absurd h List.not_mem_nil) dX1_unusedBits_7
set_option maxHeartbeats 4000000 in
set_option maxRecDepth 100000 in
/-- isKeySize -/
theorem c_isKeySize (l : Launch) (i : Int32) : Met l yX1_isKeySize wsX1_isKeySize ({ frames := 0, cells := 0, slots := 0, locals := 0 }) (stP [.int i]) (vp_Si (fun z => bq z (okK i))) 0 0 (fun _ => False) := by
  refine Met.ofW (cc := cX1_isKeySize) (maxL := 1) (ret := some .boolean) (by decide) rfl ?_
  intro p e s m args below meth c s₁ B hml hv
  obtain ⟨rfl, -⟩ := hv
  have hx := B.exec
  have hb := B.bytes
  have hr := B.returns
  have hts := atoms_spec (ws := wsX1_isKeySize) B.pre
  have hown : s.vm.findClass RX1 = some m.cls := findClass_of_methodNamed B.named
  have hlocks := B.notSynchronized
  have hl := lv_entry ([.int i]) (n := 1) (Nat.le_of_ble_eq_true rfl)
  rw [lg_entry_eq]
  generalize (lg_sl ([.int i]) ++ List.replicate (1 - (lg_sl ([.int i])).length) Slot.unset).toArray = ls at hl ⊢
  replace hl : lv_has ls 1 [(0, .int i)] := hl
  refine lv_iload_n hx hb dX1_isKeySize_0 rfl (lv_at hl 0 rfl) ?_
  refine lv_iconst (v := 1) hx hb dX1_isKeySize_1 (by decide) ?_
  refine lv_icmp_lt (tgt := 15) hx hb dX1_isKeySize_2 (by decide) (fun c_2 => ?_) (fun c_2 => ?_)
  · skip
    refine lv_iconst (v := 0) hx hb dX1_isKeySize_15 (by decide) ?_
    exact W.zret (v := 0) hx hb hr (by first | rfl | decide +kernel) (fun t9 ht hW => ⟨0, rfl, by first | exact bq_f (fun h => h.1 c_2) | exact bq_f (fun h => h.2 c_8) | exact bq_t ⟨c_2, c_8⟩, ht⟩) (fun q h => absurd h List.not_mem_nil) dX1_isKeySize_16
  · skip
    refine lv_iload_n hx hb dX1_isKeySize_5 rfl (lv_at hl 0 rfl) ?_
    refine lv_bipush (v := 8) hx hb dX1_isKeySize_6 (by decide) ?_
    refine lv_icmp_gt (tgt := 15) hx hb dX1_isKeySize_8 (by decide) (fun c_8 => ?_) (fun c_8 => ?_)
    · skip
      refine lv_iconst (v := 0) hx hb dX1_isKeySize_15 (by decide) ?_
      exact W.zret (v := 0) hx hb hr (by first | rfl | decide +kernel) (fun t9 ht hW => ⟨0, rfl, by first | exact bq_f (fun h => h.1 c_2) | exact bq_f (fun h => h.2 c_8) | exact bq_t ⟨c_2, c_8⟩, ht⟩) (fun q h => absurd h List.not_mem_nil) dX1_isKeySize_16
    · skip
      refine lv_iconst (v := 1) hx hb dX1_isKeySize_11 (by decide) ?_
      refine lv_goto (tgt := 16) hx hb dX1_isKeySize_12 (by decide) ?_
      exact W.zret (v := 1) hx hb hr (by first | rfl | decide +kernel) (fun t9 ht hW => ⟨1, rfl, by first | exact bq_f (fun h => h.1 c_2) | exact bq_f (fun h => h.2 c_8) | exact bq_t ⟨c_2, c_8⟩, ht⟩) (fun q h => absurd h List.not_mem_nil) dX1_isKeySize_16
set_option maxHeartbeats 4000000 in
set_option maxRecDepth 100000 in
/-- isTextLength -/
theorem c_isTextLength (l : Launch) (i : Int32) : Met l yX1_isTextLength wsX1_isTextLength ({ frames := 0, cells := 0, slots := 0, locals := 0 }) (stP [.int i]) (vp_Si (fun z => bq z (okT i))) 0 0 (fun _ => False) := by
  refine Met.ofW (cc := cX1_isTextLength) (maxL := 1) (ret := some .boolean) (by decide) rfl ?_
  intro p e s m args below meth c s₁ B hml hv
  obtain ⟨rfl, -⟩ := hv
  have hx := B.exec
  have hb := B.bytes
  have hr := B.returns
  have hts := atoms_spec (ws := wsX1_isTextLength) B.pre
  have hown : s.vm.findClass RX1 = some m.cls := findClass_of_methodNamed B.named
  have hlocks := B.notSynchronized
  have hl := lv_entry ([.int i]) (n := 1) (Nat.le_of_ble_eq_true rfl)
  rw [lg_entry_eq]
  generalize (lg_sl ([.int i]) ++ List.replicate (1 - (lg_sl ([.int i])).length) Slot.unset).toArray = ls at hl ⊢
  replace hl : lv_has ls 1 [(0, .int i)] := hl
  refine lv_iload_n hx hb dX1_isTextLength_0 rfl (lv_at hl 0 rfl) ?_
  refine lv_if_lt (tgt := 14) hx hb dX1_isTextLength_1 (by decide) (fun c_1 => ?_) (fun c_1 => ?_)
  · skip
    refine lv_iconst (v := 0) hx hb dX1_isTextLength_14 (by decide) ?_
    exact W.zret (v := 0) hx hb hr (by first | rfl | decide +kernel) (fun t9 ht hW => ⟨0, rfl, by first | exact bq_f (fun h => h.1 c_1) | exact bq_f (fun h => h.2 c_7) | exact bq_t ⟨c_1, c_7⟩, ht⟩) (fun q h => absurd h List.not_mem_nil) dX1_isTextLength_15
  · skip
    refine lv_iload_n hx hb dX1_isTextLength_4 rfl (lv_at hl 0 rfl) ?_
    refine lv_bipush (v := 8) hx hb dX1_isTextLength_5 (by decide) ?_
    refine lv_icmp_gt (tgt := 14) hx hb dX1_isTextLength_7 (by decide) (fun c_7 => ?_) (fun c_7 => ?_)
    · skip
      refine lv_iconst (v := 0) hx hb dX1_isTextLength_14 (by decide) ?_
      exact W.zret (v := 0) hx hb hr (by first | rfl | decide +kernel) (fun t9 ht hW => ⟨0, rfl, by first | exact bq_f (fun h => h.1 c_1) | exact bq_f (fun h => h.2 c_7) | exact bq_t ⟨c_1, c_7⟩, ht⟩) (fun q h => absurd h List.not_mem_nil) dX1_isTextLength_15
    · skip
      refine lv_iconst (v := 1) hx hb dX1_isTextLength_10 (by decide) ?_
      refine lv_goto (tgt := 15) hx hb dX1_isTextLength_11 (by decide) ?_
      exact W.zret (v := 1) hx hb hr (by first | rfl | decide +kernel) (fun t9 ht hW => ⟨1, rfl, by first | exact bq_f (fun h => h.1 c_1) | exact bq_f (fun h => h.2 c_7) | exact bq_t ⟨c_1, c_7⟩, ht⟩) (fun q h => absurd h List.not_mem_nil) dX1_isTextLength_15
set_option maxHeartbeats 4000000 in
set_option maxRecDepth 100000 in
/-- headOf -/
theorem c_headOf (l : Launch) (k : Int64) (t : Int32) : Met l yX1_headOf wsX1_headOf ({ frames := 1, cells := 0, slots := 0, locals := 20 }) (stP [.long k, .int t]) (vp_Sl (fun z => z = hdOf k t)) 0 0 (fun _ => False) := by
  refine Met.ofW (cc := cX1_headOf) (maxL := 3) (ret := some .long) (by decide) rfl ?_
  intro p e s m args below meth c s₁ B hml hv
  obtain ⟨rfl, -⟩ := hv
  have hx := B.exec
  have hb := B.bytes
  have hr := B.returns
  have hts := atoms_spec (ws := wsX1_headOf) B.pre
  have hown : s.vm.findClass RX1 = some m.cls := findClass_of_methodNamed B.named
  have hlocks := B.notSynchronized
  have hl := lv_entry ([.long k, .int t]) (n := 3) (Nat.le_of_ble_eq_true rfl)
  rw [lg_entry_eq]
  generalize (lg_sl ([.long k, .int t]) ++ List.replicate (3 - (lg_sl ([.long k, .int t])).length) Slot.unset).toArray = ls at hl ⊢
  replace hl : lv_has ls 3 [(0, .long k), (2, .int t)] := hl
  refine lv_lload_n hx hb dX1_headOf_0 rfl (lv_at hl 0 rfl) ?_
  refine lv_iload_n hx hb dX1_headOf_1 rfl (lv_at hl 1 rfl) ?_
  refine vp_callSi (va_Run.run (va_runS (As := [.int t]) (rest := [.long k]) ⟨hx, hb, hml, hown, hts⟩ (c_unusedBits l t) (va_cwS 1 hts gX1_headOf_X1_unusedBits rfl rfl rfl (by decide +kernel) ⟨Nat.le_of_ble_eq_true rfl, Nat.le_of_ble_eq_true rfl⟩) (st_pre) rfl rfl hl.1 rfl (lv_room (Nat.le_of_ble_eq_true rfl)) dX1_headOf_2 ⟨Nat.le_of_ble_eq_true rfl, Nat.le_of_ble_eq_true rfl⟩)) (fun rb hrb => ?_)
  subst hrb
  refine lv_lshl hx hb dX1_headOf_5 rfl ?_
  refine lv_topl (fun z_1 ez_1 => ?_)
  obtain rfl : z_1 = hdOf k t := ez_1.trans (by unfold hdOf; rfl)
  exact W.lret (v := (hdOf k t)) hx hb hr (fun t9 ht hW => ⟨hdOf k t, rfl, rfl, ht⟩) (fun q h => absurd h List.not_mem_nil) dX1_headOf_6
set_option maxHeartbeats 4000000 in
set_option maxRecDepth 100000 in
/-- lowestBytes -/
theorem c_lowestBytes (l : Launch) (b : Int64) (n : Int32) : Met l yX1_lowestBytes wsX1_lowestBytes ({ frames := 1, cells := 0, slots := 0, locals := 20 }) (stP [.long b, .int n]) (vp_Sl (fun z => z = lowB b n)) 0 0 (fun _ => False) := by
  refine Met.ofW (cc := cX1_lowestBytes) (maxL := 3) (ret := some .long) (by decide) rfl ?_
  intro p e s m args below meth c s₁ B hml hv
  obtain ⟨rfl, -⟩ := hv
  have hx := B.exec
  have hb := B.bytes
  have hr := B.returns
  have hts := atoms_spec (ws := wsX1_lowestBytes) B.pre
  have hown : s.vm.findClass RX1 = some m.cls := findClass_of_methodNamed B.named
  have hlocks := B.notSynchronized
  have hl := lv_entry ([.long b, .int n]) (n := 3) (Nat.le_of_ble_eq_true rfl)
  rw [lg_entry_eq]
  generalize (lg_sl ([.long b, .int n]) ++ List.replicate (3 - (lg_sl ([.long b, .int n])).length) Slot.unset).toArray = ls at hl ⊢
  replace hl : lv_has ls 3 [(0, .long b), (2, .int n)] := hl
  refine lv_iload_n hx hb dX1_lowestBytes_0 rfl (lv_at hl 1 rfl) ?_
  refine lv_if_ne (tgt := 8) hx hb dX1_lowestBytes_1 (by decide) (fun c_1 => ?_) (fun c_1 => ?_)
  · skip
    refine lv_lload_n hx hb dX1_lowestBytes_8 rfl (lv_at hl 0 rfl) ?_
    refine lv_ldc2 (v := (-1)) hx hb hown (hts (.constantLong RX1 91 (-1)) (by decide +kernel)) dX1_lowestBytes_9 ?_
    refine lv_iload_n hx hb dX1_lowestBytes_12 rfl (lv_at hl 1 rfl) ?_
    refine vp_callSi (va_Run.run (va_runS (As := [.int n]) (rest := [.long (-1), .long b]) ⟨hx, hb, hml, hown, hts⟩ (c_unusedBits l n) (va_cwS 1 hts gX1_lowestBytes_X1_unusedBits rfl rfl rfl (by decide +kernel) ⟨Nat.le_of_ble_eq_true rfl, Nat.le_of_ble_eq_true rfl⟩) (st_pre) rfl rfl hl.1 rfl (lv_room (Nat.le_of_ble_eq_true rfl)) dX1_lowestBytes_13 ⟨Nat.le_of_ble_eq_true rfl, Nat.le_of_ble_eq_true rfl⟩)) (fun rb hrb => ?_)
    subst hrb
    refine lv_lushr hx hb dX1_lowestBytes_16 rfl ?_
    refine lv_land hx hb dX1_lowestBytes_17 ?_
    exact W.lret (v := (b &&& ((-1 : Int64).toUInt64 >>> ((64 - 8 * n).toInt64.toUInt64 &&& Int64.toUInt64 63)).toInt64)) hx hb hr (fun t9 ht hW => ⟨(b &&& ((-1 : Int64).toUInt64 >>> ((64 - 8 * n).toInt64.toUInt64 &&& Int64.toUInt64 63)).toInt64), rfl, by first | exact (if_neg c_1).symm | exact (if_pos c_1).symm, ht⟩) (fun q h => absurd h List.not_mem_nil) dX1_lowestBytes_18
  · skip
    refine lv_lconst (v := 0) hx hb dX1_lowestBytes_4 (by decide) ?_
    refine lv_goto (tgt := 18) hx hb dX1_lowestBytes_5 (by decide) ?_
    exact W.lret (v := 0) hx hb hr (fun t9 ht hW => ⟨0, rfl, by first | exact (if_neg c_1).symm | exact (if_pos c_1).symm, ht⟩) (fun q h => absurd h List.not_mem_nil) dX1_lowestBytes_18
end
section
/-! ROWS: what only reads -/
set_option maxHeartbeats 4000000 in
set_option maxRecDepth 100000 in
/-- has -/
theorem c_has (l : Launch) (dC : Nat → ClassId) (dI : Nat → Nat → Nat) (cL cI : ClassId) (r a1 a2 a3 a4 : Nat) (u : Nat) (hu : u ≤ 150) (i : Int32) : Met l yX0_has wsX0_has ({ frames := 0, cells := 0, slots := 0, locals := 0 }) (rdP (dC, dI) (kS cL cI) [(r, .inr (0, [.ref a1, .ref a2, .ref a3, .ref a4, .int (nI u)]))] [.ref r, .int i]) (vp_Si (fun z => bq z (∃ j, j < u ∧ i = nI j))) 0 0 (fun _ => False) := by
  refine Met.ofW (cc := cX0_has) (maxL := 2) (ret := some .boolean) (by decide) rfl ?_
  intro p e s m args below meth c s₁ B hml hv
  obtain ⟨rfl, hP, hK⟩ := hv
  have hx := B.exec
  have hb := B.bytes
  have hr := B.returns
  have hts := atoms_spec (ws := wsX0_has) B.pre
  have hown : s.vm.findClass RX0 = some m.cls := findClass_of_methodNamed B.named
  have hlocks := B.notSynchronized
  replace hP : va_P (dC, dI) vwCl [(r, .inr (0, [.ref a1, .ref a2, .ref a3, .ref a4, .int (nI u)]))] s.heap := hP
  have hl := lv_entry ([.ref r, .int i]) (n := 2) (Nat.le_of_ble_eq_true rfl)
  rw [lg_entry_eq]
  generalize (lg_sl ([.ref r, .int i]) ++ List.replicate (2 - (lg_sl ([.ref r, .int i])).length) Slot.unset).toArray = ls at hl ⊢
  replace hl : lv_has ls 2 [(0, .ref r), (1, .int i)] := hl
  refine lv_iload_n hx hb dX0_has_0 rfl (lv_at hl 1 rfl) ?_
  refine lv_if_lt (tgt := 16) hx hb dX0_has_1 (by decide) (fun c_1 => ?_) (fun c_1 => ?_)
  · skip
    refine lv_iconst (v := 0) hx hb dX0_has_16 (by decide) ?_
    exact W.zret (v := 0) hx hb hr (by first | rfl | decide +kernel) (fun t9 ht hW => ⟨0, rfl, by first | exact bq_f (has_a hu c_1) | exact bq_f (has_b hu c_9) | exact bq_t (has_c hu c_1 c_9), ht⟩) (fun q h => absurd h List.not_mem_nil) dX0_has_17
  · skip
    refine lv_iload_n hx hb dX0_has_4 rfl (lv_at hl 1 rfl) ?_
    refine lv_aload_n hx hb dX0_has_5 rfl (lv_at hl 0 rfl) ?_
    refine va_get (D := (dC, dI)) (ci := 0) (v := .int (nI u)) (C := RX0) (T := TX0) (N := 5) hx hb hts i_X0_has_X0 hown hK hP 0 rfl rfl 4 (by decide) (hts (.fieldLink RX0 25 "BlockTree$Rows" "used" "I") (by decide +kernel)) (fun _ h9 => h9) rfl dX0_has_6 ?_
    refine lv_icmp_ge (tgt := 16) hx hb dX0_has_9 (by decide) (fun c_9 => ?_) (fun c_9 => ?_)
    · skip
      refine lv_iconst (v := 0) hx hb dX0_has_16 (by decide) ?_
      exact W.zret (v := 0) hx hb hr (by first | rfl | decide +kernel) (fun t9 ht hW => ⟨0, rfl, by first | exact bq_f (has_a hu c_1) | exact bq_f (has_b hu c_9) | exact bq_t (has_c hu c_1 c_9), ht⟩) (fun q h => absurd h List.not_mem_nil) dX0_has_17
    · skip
      refine lv_iconst (v := 1) hx hb dX0_has_12 (by decide) ?_
      refine lv_goto (tgt := 17) hx hb dX0_has_13 (by decide) ?_
      exact W.zret (v := 1) hx hb hr (by first | rfl | decide +kernel) (fun t9 ht hW => ⟨1, rfl, by first | exact bq_f (has_a hu c_1) | exact bq_f (has_b hu c_9) | exact bq_t (has_c hu c_1 c_9), ht⟩) (fun q h => absurd h List.not_mem_nil) dX0_has_17
set_option maxHeartbeats 4000000 in
set_option maxRecDepth 100000 in
/-- holds -/
theorem c_holds (l : Launch) (dC : Nat → ClassId) (dI : Nat → Nat → Nat) (cL cI : ClassId) (r a1 a2 a3 a4 : Nat) (u : Nat) (hd : Nat → Int64) (sz : Nat → Int32) (hu : u ≤ 150) (i : Int32) (h : Int64) (t : Int32) : Met l yX0_holds wsX0_holds ({ frames := 1, cells := 0, slots := 0, locals := 21 }) (rdP (dC, dI) (kS cL cI) [(r, .inr (0, [.ref a1, .ref a2, .ref a3, .ref a4, .int (nI u)])), (a1, .inl (cL, 150, .inr (.inl hd))), (a2, .inl (cI, 150, .inl sz))] [.ref r, .int i, .long h, .int t]) (vp_Si (fun z => bq z (∃ j, j < u ∧ i = nI j ∧ hd j = h ∧ sz j = t))) 0 0 (fun _ => False) := by
  refine Met.ofW (cc := cX0_holds) (maxL := 5) (ret := some .boolean) (by decide) rfl ?_
  intro p e s m args below meth c s₁ B hml hv
  obtain ⟨rfl, hP, hK⟩ := hv
  have hx := B.exec
  have hb := B.bytes
  have hr := B.returns
  have hts := atoms_spec (ws := wsX0_holds) B.pre
  have hown : s.vm.findClass RX0 = some m.cls := findClass_of_methodNamed B.named
  have hlocks := B.notSynchronized
  replace hP : va_P (dC, dI) vwCl [(r, .inr (0, [.ref a1, .ref a2, .ref a3, .ref a4, .int (nI u)])), (a1, .inl (cL, 150, .inr (.inl hd))), (a2, .inl (cI, 150, .inl sz))] s.heap := hP
  have hl := lv_entry ([.ref r, .int i, .long h, .int t]) (n := 5) (Nat.le_of_ble_eq_true rfl)
  rw [lg_entry_eq]
  generalize (lg_sl ([.ref r, .int i, .long h, .int t]) ++ List.replicate (5 - (lg_sl ([.ref r, .int i, .long h, .int t])).length) Slot.unset).toArray = ls at hl ⊢
  replace hl : lv_has ls 5 [(0, .ref r), (1, .int i), (2, .long h), (4, .int t)] := hl
  refine lv_aload_n hx hb dX0_holds_0 rfl (lv_at hl 0 rfl) ?_
  refine lv_iload_n hx hb dX0_holds_1 rfl (lv_at hl 1 rfl) ?_
  refine vp_callSi (va_Run.run (va_runV (As := [.int i]) (rest := []) ⟨hx, hb, hml, hown, hts⟩ (c_has l dC dI cL cI r a1 a2 a3 a4 u hu i) (cwV 1 hts gX0_holds_X0_has rfl rfl rfl (by decide +kernel) ⟨Nat.le_of_ble_eq_true rfl, Nat.le_of_ble_eq_true rfl⟩) (rd_preV hK (hP.sub (ws' := [(r, .inr (0, [.ref a1, .ref a2, .ref a3, .ref a4, .int (nI u)]))]) [0] rfl) (ci := 0) (q0 := 0) rfl rfl) rfl rfl hl.1 rfl (lv_room (Nat.le_of_ble_eq_true rfl)) dX0_holds_2 ⟨Nat.le_of_ble_eq_true rfl, Nat.le_of_ble_eq_true rfl⟩)) (fun r2 hr2 => ?_)
  rcases hr2 with ⟨rfl, j, hj, ei⟩ | ⟨rfl, hno⟩
  · skip
    refine lv_if_eq (tgt := 34) hx hb dX0_holds_5 (by decide) (fun c_5 => absurd c_5 (by decide)) (fun c_5 => ?_)
    refine lv_aload_n hx hb dX0_holds_8 rfl (lv_at hl 0 rfl) ?_
    refine va_get (D := (dC, dI)) (ci := 0) (v := .ref a1) (C := RX0) (T := TX0) (N := 5) hx hb hts i_X0_holds_X0 hown hK hP 0 rfl rfl 0 (by decide) (hts (.fieldLink RX0 9 "BlockTree$Rows" "heads" "[J") (by decide +kernel)) (fun _ h9 => h9) rfl dX0_holds_9 ?_
    refine lv_iload_n hx hb dX0_holds_12 rfl (lv_at hl 1 rfl) ?_
    refine va_lald hx hb hK hP 1 0 rfl rfl (by rw [ei]; exact vp_in_nI (by omega) (by omega)) dX0_holds_13 ?_
    refine lv_topl (fun z_1 ez_1 => ?_)
    rw [show (i).toNatClampNeg = j from (by rw [ei]; exact nI_clamp (by omega))] at ez_1
    subst ez_1
    refine lv_lload_n hx hb dX0_holds_14 rfl (lv_at hl 2 rfl) ?_
    refine W.lcmp hx hb dX0_holds_15 ?_
    refine lv_if_ne (tgt := 34) hx hb dX0_holds_16 (by decide) (fun c_16 => ?_) (fun c_16 => ?_)
    · skip
      have c_16 := fun q => c_16 ((lg_cmp_eq _ _).mpr q)
      refine lv_iconst (v := 0) hx hb dX0_holds_34 (by decide) ?_
      exact W.zret (v := 0) hx hb hr (by first | rfl | decide +kernel) (fun t9 ht hW => ⟨0, rfl, by first | exact bq_t ⟨j, hj, ei, c_16, c_27⟩ | exact bq_f (fun ⟨j2, h1, h2, h3, h4⟩ => by have e2 : j2 = j := nI_inj hu hj (h2.symm.trans ei) (by omega); subst e2; first | exact c_16 h3 | exact c_27 h4) | exact bq_f (fun ⟨j2, h1, h2, _⟩ => hno ⟨j2, h1, h2⟩), ht⟩) (fun q h => absurd h List.not_mem_nil) dX0_holds_35
    · skip
      have c_16 := (lg_cmp_eq _ _).mp c_16
      refine lv_aload_n hx hb dX0_holds_19 rfl (lv_at hl 0 rfl) ?_
      refine va_get (D := (dC, dI)) (ci := 0) (v := .ref a2) (C := RX0) (T := TX0) (N := 5) hx hb hts i_X0_holds_X0 hown hK hP 0 rfl rfl 1 (by decide) (hts (.fieldLink RX0 15 "BlockTree$Rows" "sizes" "[I") (by decide +kernel)) (fun _ h9 => h9) rfl dX0_holds_20 ?_
      refine lv_iload_n hx hb dX0_holds_23 rfl (lv_at hl 1 rfl) ?_
      refine va_iald hx hb hK hP 2 1 rfl rfl (by rw [ei]; exact vp_in_nI (by omega) (by omega)) dX0_holds_24 ?_
      refine lv_topi (fun z_2 ez_2 => ?_)
      rw [show (i).toNatClampNeg = j from (by rw [ei]; exact nI_clamp (by omega))] at ez_2
      subst ez_2
      refine lv_iload hx hb dX0_holds_25 (lv_at hl 3 rfl) ?_
      refine lv_icmp_ne (tgt := 34) hx hb dX0_holds_27 (by decide) (fun c_27 => ?_) (fun c_27 => ?_)
      · skip
        refine lv_iconst (v := 0) hx hb dX0_holds_34 (by decide) ?_
        exact W.zret (v := 0) hx hb hr (by first | rfl | decide +kernel) (fun t9 ht hW => ⟨0, rfl, by first | exact bq_t ⟨j, hj, ei, c_16, c_27⟩ | exact bq_f (fun ⟨j2, h1, h2, h3, h4⟩ => by have e2 : j2 = j := nI_inj hu hj (h2.symm.trans ei) (by omega); subst e2; first | exact c_16 h3 | exact c_27 h4) | exact bq_f (fun ⟨j2, h1, h2, _⟩ => hno ⟨j2, h1, h2⟩), ht⟩) (fun q h => absurd h List.not_mem_nil) dX0_holds_35
      · skip
        refine lv_iconst (v := 1) hx hb dX0_holds_30 (by decide) ?_
        refine lv_goto (tgt := 35) hx hb dX0_holds_31 (by decide) ?_
        exact W.zret (v := 1) hx hb hr (by first | rfl | decide +kernel) (fun t9 ht hW => ⟨1, rfl, by first | exact bq_t ⟨j, hj, ei, c_16, c_27⟩ | exact bq_f (fun ⟨j2, h1, h2, h3, h4⟩ => by have e2 : j2 = j := nI_inj hu hj (h2.symm.trans ei) (by omega); subst e2; first | exact c_16 h3 | exact c_27 h4) | exact bq_f (fun ⟨j2, h1, h2, _⟩ => hno ⟨j2, h1, h2⟩), ht⟩) (fun q h => absurd h List.not_mem_nil) dX0_holds_35
  · skip
    refine lv_if_eq (tgt := 34) hx hb dX0_holds_5 (by decide) (fun c_5 => ?_) (fun c_5 => absurd c_5 (by decide))
    refine lv_iconst (v := 0) hx hb dX0_holds_34 (by decide) ?_
    exact W.zret (v := 0) hx hb hr (by first | rfl | decide +kernel) (fun t9 ht hW => ⟨0, rfl, by first | exact bq_t ⟨j, hj, ei, c_16, c_27⟩ | exact bq_f (fun ⟨j2, h1, h2, h3, h4⟩ => by have e2 : j2 = j := nI_inj hu hj (h2.symm.trans ei) (by omega); subst e2; first | exact c_16 h3 | exact c_27 h4) | exact bq_f (fun ⟨j2, h1, h2, _⟩ => hno ⟨j2, h1, h2⟩), ht⟩) (fun q h => absurd h List.not_mem_nil) dX0_holds_35
set_option maxHeartbeats 4000000 in
set_option maxRecDepth 100000 in
/-- isBefore -/
theorem c_isBefore (l : Launch) (dC : Nat → ClassId) (dI : Nat → Nat → Nat) (cL cI : ClassId) (r a1 a2 a3 a4 : Nat) (u : Nat) (hd : Nat → Int64) (sz : Nat → Int32) (hu : u ≤ 150) (i : Int32) (h : Int64) (t : Int32) : Met l yX0_isBefore wsX0_isBefore ({ frames := 1, cells := 0, slots := 0, locals := 21 }) (rdP (dC, dI) (kS cL cI) [(r, .inr (0, [.ref a1, .ref a2, .ref a3, .ref a4, .int (nI u)])), (a1, .inl (cL, 150, .inr (.inl hd))), (a2, .inl (cI, 150, .inl sz))] [.ref r, .int i, .long h, .int t]) (vp_Si (fun z => bq z (∃ j, j < u ∧ i = nI j ∧ bfr (hd j) (sz j) h t))) 0 0 (fun _ => False) := by
  refine Met.ofW (cc := cX0_isBefore) (maxL := 5) (ret := some .boolean) (by decide) rfl ?_
  intro p e s m args below meth c s₁ B hml hv
  obtain ⟨rfl, hP, hK⟩ := hv
  have hx := B.exec
  have hb := B.bytes
  have hr := B.returns
  have hts := atoms_spec (ws := wsX0_isBefore) B.pre
  have hown : s.vm.findClass RX0 = some m.cls := findClass_of_methodNamed B.named
  have hlocks := B.notSynchronized
  replace hP : va_P (dC, dI) vwCl [(r, .inr (0, [.ref a1, .ref a2, .ref a3, .ref a4, .int (nI u)])), (a1, .inl (cL, 150, .inr (.inl hd))), (a2, .inl (cI, 150, .inl sz))] s.heap := hP
  have hl := lv_entry ([.ref r, .int i, .long h, .int t]) (n := 5) (Nat.le_of_ble_eq_true rfl)
  rw [lg_entry_eq]
  generalize (lg_sl ([.ref r, .int i, .long h, .int t]) ++ List.replicate (5 - (lg_sl ([.ref r, .int i, .long h, .int t])).length) Slot.unset).toArray = ls at hl ⊢
  replace hl : lv_has ls 5 [(0, .ref r), (1, .int i), (2, .long h), (4, .int t)] := hl
  refine lv_aload_n hx hb dX0_isBefore_0 rfl (lv_at hl 0 rfl) ?_
  refine lv_iload_n hx hb dX0_isBefore_1 rfl (lv_at hl 1 rfl) ?_
  refine vp_callSi (va_Run.run (va_runV (As := [.int i]) (rest := []) ⟨hx, hb, hml, hown, hts⟩ (c_has l dC dI cL cI r a1 a2 a3 a4 u hu i) (cwV 1 hts gX0_isBefore_X0_has rfl rfl rfl (by decide +kernel) ⟨Nat.le_of_ble_eq_true rfl, Nat.le_of_ble_eq_true rfl⟩) (rd_preV hK (hP.sub (ws' := [(r, .inr (0, [.ref a1, .ref a2, .ref a3, .ref a4, .int (nI u)]))]) [0] rfl) (ci := 0) (q0 := 0) rfl rfl) rfl rfl hl.1 rfl (lv_room (Nat.le_of_ble_eq_true rfl)) dX0_isBefore_2 ⟨Nat.le_of_ble_eq_true rfl, Nat.le_of_ble_eq_true rfl⟩)) (fun r2 hr2 => ?_)
  rcases hr2 with ⟨rfl, j, hj, ei⟩ | ⟨rfl, hno⟩
  · skip
    refine lv_if_ne (tgt := 10) hx hb dX0_isBefore_5 (by decide) (fun c_5 => ?_) (fun c_5 => absurd c_5 (by decide))
    refine lv_aload_n hx hb dX0_isBefore_10 rfl (lv_at hl 0 rfl) ?_
    refine va_get (D := (dC, dI)) (ci := 0) (v := .ref a1) (C := RX0) (T := TX0) (N := 5) hx hb hts i_X0_isBefore_X0 hown hK hP 0 rfl rfl 0 (by decide) (hts (.fieldLink RX0 9 "BlockTree$Rows" "heads" "[J") (by decide +kernel)) (fun _ h9 => h9) rfl dX0_isBefore_11 ?_
    refine lv_iload_n hx hb dX0_isBefore_14 rfl (lv_at hl 1 rfl) ?_
    refine va_lald hx hb hK hP 1 0 rfl rfl (by rw [ei]; exact vp_in_nI (by omega) (by omega)) dX0_isBefore_15 ?_
    refine lv_topl (fun z_1 ez_1 => ?_)
    rw [show (i).toNatClampNeg = j from (by rw [ei]; exact nI_clamp (by omega))] at ez_1
    subst ez_1
    refine lv_lload_n hx hb dX0_isBefore_16 rfl (lv_at hl 2 rfl) ?_
    refine W.lcmp hx hb dX0_isBefore_17 ?_
    refine lv_if_eq (tgt := 46) hx hb dX0_isBefore_18 (by decide) (fun c_18 => ?_) (fun c_18 => ?_)
    · skip
      have c_18 := (lg_cmp_eq _ _).mp c_18
      refine lv_aload_n hx hb dX0_isBefore_46 rfl (lv_at hl 0 rfl) ?_
      refine va_get (D := (dC, dI)) (ci := 0) (v := .ref a2) (C := RX0) (T := TX0) (N := 5) hx hb hts i_X0_isBefore_X0 hown hK hP 0 rfl rfl 1 (by decide) (hts (.fieldLink RX0 15 "BlockTree$Rows" "sizes" "[I") (by decide +kernel)) (fun _ h9 => h9) rfl dX0_isBefore_47 ?_
      refine lv_iload_n hx hb dX0_isBefore_50 rfl (lv_at hl 1 rfl) ?_
      refine va_iald hx hb hK hP 2 1 rfl rfl (by rw [ei]; exact vp_in_nI (by omega) (by omega)) dX0_isBefore_51 ?_
      refine lv_topi (fun z_2 ez_2 => ?_)
      rw [show (i).toNatClampNeg = j from (by rw [ei]; exact nI_clamp (by omega))] at ez_2
      subst ez_2
      refine lv_iload hx hb dX0_isBefore_52 (lv_at hl 3 rfl) ?_
      refine lv_icmp_ge (tgt := 61) hx hb dX0_isBefore_54 (by decide) (fun c_54 => ?_) (fun c_54 => ?_)
      · skip
        refine lv_iconst (v := 0) hx hb dX0_isBefore_61 (by decide) ?_
        exact W.zret (v := 0) hx hb hr (by first | rfl | decide +kernel) (fun t9 ht hW => ⟨0, rfl, bq_f (fun ⟨j2, h1, h2, h3⟩ => by have e2 : j2 = j := nI_inj hu hj (h2.symm.trans ei) (by omega); subst e2; rcases h3 with ⟨h3, h4⟩ | ⟨h3, h4⟩; exact absurd c_18 h3; exact absurd h4 (Int32.not_lt.mpr c_54)), ht⟩) (fun q h => absurd h List.not_mem_nil) dX0_isBefore_62
      · skip
        refine lv_iconst (v := 1) hx hb dX0_isBefore_57 (by decide) ?_
        refine lv_goto (tgt := 62) hx hb dX0_isBefore_58 (by decide) ?_
        exact W.zret (v := 1) hx hb hr (by first | rfl | decide +kernel) (fun t9 ht hW => ⟨1, rfl, bq_t ⟨j, hj, ei, Or.inr ⟨c_18, Int32.not_le.mp c_54⟩⟩, ht⟩) (fun q h => absurd h List.not_mem_nil) dX0_isBefore_62
    · skip
      have c_18 := fun q => c_18 ((lg_cmp_eq _ _).mpr q)
      refine lv_aload_n hx hb dX0_isBefore_21 rfl (lv_at hl 0 rfl) ?_
      refine va_get (D := (dC, dI)) (ci := 0) (v := .ref a1) (C := RX0) (T := TX0) (N := 5) hx hb hts i_X0_isBefore_X0 hown hK hP 0 rfl rfl 0 (by decide) (hts (.fieldLink RX0 9 "BlockTree$Rows" "heads" "[J") (by decide +kernel)) (fun _ h9 => h9) rfl dX0_isBefore_22 ?_
      refine lv_iload_n hx hb dX0_isBefore_25 rfl (lv_at hl 1 rfl) ?_
      refine va_lald hx hb hK hP 1 0 rfl rfl (by rw [ei]; exact vp_in_nI (by omega) (by omega)) dX0_isBefore_26 ?_
      refine lv_topl (fun z_3 ez_3 => ?_)
      rw [show (i).toNatClampNeg = j from (by rw [ei]; exact nI_clamp (by omega))] at ez_3
      subst ez_3
      refine lv_ldc2 (v := (-9223372036854775808)) hx hb hown (hts (.constantLong RX0 37 (-9223372036854775808)) (by decide +kernel)) dX0_isBefore_27 ?_
      refine lv_ladd hx hb dX0_isBefore_30 ?_
      refine lv_lload_n hx hb dX0_isBefore_31 rfl (lv_at hl 2 rfl) ?_
      refine lv_ldc2 (v := (-9223372036854775808)) hx hb hown (hts (.constantLong RX0 37 (-9223372036854775808)) (by decide +kernel)) dX0_isBefore_32 ?_
      refine lv_ladd hx hb dX0_isBefore_35 ?_
      refine W.lcmp hx hb dX0_isBefore_36 ?_
      refine lv_if_ge (tgt := 44) hx hb dX0_isBefore_37 (by decide) (fun c_37 => ?_) (fun c_37 => ?_)
      · skip
        have c_37 := (lg_cmp_ge _ _).mp c_37
        refine lv_iconst (v := 0) hx hb dX0_isBefore_44 (by decide) ?_
        exact W.zret (v := 0) hx hb hr (by first | rfl | decide +kernel) (fun t9 ht hW => ⟨0, rfl, bq_f (fun ⟨j2, h1, h2, h3⟩ => by have e2 : j2 = j := nI_inj hu hj (h2.symm.trans ei) (by omega); subst e2; rcases h3 with ⟨h3, h4⟩ | ⟨h3, h4⟩; exact absurd h4 (Int64.not_lt.mpr c_37); exact absurd h3 c_18), ht⟩) (fun q h => absurd h List.not_mem_nil) dX0_isBefore_45
      · skip
        have c_37 := fun q => c_37 ((lg_cmp_ge _ _).mpr q)
        refine lv_iconst (v := 1) hx hb dX0_isBefore_40 (by decide) ?_
        refine lv_goto (tgt := 45) hx hb dX0_isBefore_41 (by decide) ?_
        exact W.zret (v := 1) hx hb hr (by first | rfl | decide +kernel) (fun t9 ht hW => ⟨1, rfl, bq_t ⟨j, hj, ei, Or.inl ⟨c_18, Int64.not_le.mp c_37⟩⟩, ht⟩) (fun q h => absurd h List.not_mem_nil) dX0_isBefore_45
  · skip
    refine lv_if_ne (tgt := 10) hx hb dX0_isBefore_5 (by decide) (fun c_5 => absurd c_5 (by decide)) (fun c_5 => ?_)
    refine lv_iconst (v := 0) hx hb dX0_isBefore_8 (by decide) ?_
    exact W.zret (v := 0) hx hb hr (by first | rfl | decide +kernel) (fun t9 ht hW => ⟨0, rfl, bq_f (fun ⟨j2, h1, h2, _⟩ => hno ⟨j2, h1, h2⟩), ht⟩) (fun q h => absurd h List.not_mem_nil) dX0_isBefore_9
set_option maxHeartbeats 4000000 in
set_option maxRecDepth 100000 in
/-- firstNotBefore: the place that parts the rows -/
theorem c_firstNotBefore (l : Launch) (dC : Nat → ClassId) (dI : Nat → Nat → Nat) (cL cI : ClassId) (r a1 a2 a3 a4 : Nat) (u : Nat) (hd : Nat → Int64) (sz : Nat → Int32) (hu : u ≤ 150) (h : Int64) (t : Int32) (j : Nat) (hj : spl u hd sz h t j) : Met l yX0_firstNotBefore wsX0_firstNotBefore ({ frames := 2, cells := 0, slots := 0, locals := 45 }) (rdP (dC, dI) (kS cL cI) [(r, .inr (0, [.ref a1, .ref a2, .ref a3, .ref a4, .int (nI u)])), (a1, .inl (cL, 150, .inr (.inl hd))), (a2, .inl (cI, 150, .inl sz))] [.ref r, .long h, .int t]) (vp_Si (fun z => z = nI j)) 0 0 (fun _ => False) := by
  refine Met.ofW (cc := cX0_firstNotBefore) (maxL := 6) (ret := some .int) (by decide) rfl ?_
  intro p e s m args below meth c s₁ B hml hv
  obtain ⟨rfl, hP, hK⟩ := hv
  have hx := B.exec
  have hb := B.bytes
  have hr := B.returns
  have hts := atoms_spec (ws := wsX0_firstNotBefore) B.pre
  have hown : s.vm.findClass RX0 = some m.cls := findClass_of_methodNamed B.named
  have hlocks := B.notSynchronized
  replace hP : va_P (dC, dI) vwCl [(r, .inr (0, [.ref a1, .ref a2, .ref a3, .ref a4, .int (nI u)])), (a1, .inl (cL, 150, .inr (.inl hd))), (a2, .inl (cI, 150, .inl sz))] s.heap := hP
  obtain ⟨hju, hlo, hhi⟩ := hj
  have hl := lv_entry ([.ref r, .long h, .int t]) (n := 6) (Nat.le_of_ble_eq_true rfl)
  rw [lg_entry_eq]
  generalize (lg_sl ([.ref r, .long h, .int t]) ++ List.replicate (6 - (lg_sl ([.ref r, .long h, .int t])).length) Slot.unset).toArray = ls at hl ⊢
  replace hl : lv_has ls 6 [(0, .ref r), (1, .long h), (3, .int t)] := hl
  refine lv_iconst (v := 0) hx hb dX0_firstNotBefore_0 (by decide) ?_
  refine lv_istore (lv' := [(4, .int 0), (0, .ref r), (1, .long h), (3, .int t)]) hx hb dX0_firstNotBefore_1 hl (by decide) rfl (fun ls hl => ?_)
  refine lv_sipush (v := 128) hx hb dX0_firstNotBefore_3 (by decide) ?_
  refine lv_istore (lv' := [(5, .int 128), (4, .int 0), (0, .ref r), (1, .long h), (3, .int t)]) hx hb dX0_firstNotBefore_6 hl (by decide) rfl (fun ls hl => ?_)
  obtain ⟨a, ha⟩ : ∃ a : Nat, a = 0 := ⟨0, rfl⟩
  obtain ⟨k, hk⟩ : ∃ k : Nat, k = 8 := ⟨8, rfl⟩
  replace hl : lv_has ls 6 [(0, .ref r), (1, .long h), (3, .int t), (4, .int (nI a)), (5, .int (stp k))] := by subst ha; subst hk; exact lv_sub hl [2, 3, 4, 1, 0] rfl
  have i1 : a ≤ j := by omega
  have i2 : j ≤ a + (2 ^ k - 1) := by subst hk; omega
  have i3 : k ≤ 8 := by omega
  clear ha hk
  induction k generalizing a ls with
  | zero =>
    have hl : lv_has ls 6 [(0, .ref r), (1, .long h), (3, .int t), (4, .int (nI a)), (5, .int 0)] := hl
    refine lv_iload hx hb dX0_firstNotBefore_8 (lv_at hl 4 rfl) ?_
    refine lv_if_le (tgt := 45) hx hb dX0_firstNotBefore_10 (by decide) (fun c_10 => ?_) (fun c_10 => absurd c_10 (by decide))
    refine lv_iload hx hb dX0_firstNotBefore_45 (lv_at hl 3 rfl) ?_
    exact W.iret (v := nI a) hx hb hr (fun t9 ht hW => ⟨nI a, rfl, by rw [show a = j by omega], ht⟩) (fun q h => absurd h List.not_mem_nil) dX0_firstNotBefore_47
  | succ k ih =>
    have hp2 : 2 ^ (k + 1) = 2 * 2 ^ k := by rw [Nat.pow_succ]; omega
    have hp0 : 0 < 2 ^ k := Nat.pow_pos (by decide)
    have hp9 : 2 ^ k ≤ 2 ^ 7 := Nat.pow_le_pow_right (by decide) (by omega)
    refine lv_iload hx hb dX0_firstNotBefore_8 (lv_at hl 4 rfl) ?_
    refine lv_if_le (tgt := 45) hx hb dX0_firstNotBefore_10 (by decide) (fun c_10 => absurd c_10 (stp_pos k (by omega))) (fun c_10 => ?_)
    refine lv_aload_n hx hb dX0_firstNotBefore_13 rfl (lv_at hl 0 rfl) ?_
    refine lv_iload hx hb dX0_firstNotBefore_14 (lv_at hl 3 rfl) ?_
    refine lv_iload hx hb dX0_firstNotBefore_16 (lv_at hl 4 rfl) ?_
    refine lv_iadd hx hb dX0_firstNotBefore_18 ?_
    refine lv_topi (fun z_1 ez_1 => ?_)
    obtain rfl : z_1 = nI (a + 2 ^ k) := ez_1.trans (nI_add a (2 ^ k))
    refine lv_iconst (v := 1) hx hb dX0_firstNotBefore_19 (by decide) ?_
    refine lv_isub hx hb dX0_firstNotBefore_20 ?_
    refine lv_topi (fun z_2 ez_2 => ?_)
    obtain rfl : z_2 = nI (a + 2 ^ k - 1) := ez_2.trans (nI_s1 (by omega))
    refine lv_lload_n hx hb dX0_firstNotBefore_21 rfl (lv_at hl 1 rfl) ?_
    refine lv_iload_n hx hb dX0_firstNotBefore_22 rfl (lv_at hl 2 rfl) ?_
    refine vp_callSi (va_Run.run (va_runV (As := [.int (nI (a + 2 ^ k - 1)), .long h, .int t]) (rest := []) ⟨hx, hb, hml, hown, hts⟩ (c_isBefore l dC dI cL cI r a1 a2 a3 a4 u hd sz hu (nI (a + 2 ^ k - 1)) h t) (cwV 3 hts gX0_firstNotBefore_X0_isBefore rfl rfl rfl (by decide +kernel) ⟨Nat.le_of_ble_eq_true rfl, Nat.le_of_ble_eq_true rfl⟩) (rd_preV hK (hP.sub (ws' := [(r, .inr (0, [.ref a1, .ref a2, .ref a3, .ref a4, .int (nI u)])), (a1, .inl (cL, 150, .inr (.inl hd))), (a2, .inl (cI, 150, .inl sz))]) [0, 1, 2] rfl) (ci := 0) (q0 := 0) rfl rfl) rfl rfl hl.1 rfl (lv_room (Nat.le_of_ble_eq_true rfl)) dX0_firstNotBefore_23 ⟨Nat.le_of_ble_eq_true rfl, Nat.le_of_ble_eq_true rfl⟩)) (fun rq hrq => ?_)
    rcases hrq with ⟨rfl, i, hi, ei, hbf⟩ | ⟨rfl, hno⟩
    · skip
      obtain rfl : a + 2 ^ k - 1 = i := nI_inj hu hi ei (by omega)
      have i4 : a + 2 ^ k ≤ j := by
        rcases Nat.lt_or_ge (a + 2 ^ k - 1) j with q | q
        · omega
        · exact absurd hbf (hhi _ q hi)
      refine lv_if_eq (tgt := 36) hx hb dX0_firstNotBefore_26 (by decide) (fun c_26 => absurd c_26 (by decide)) (fun c_26 => ?_)
      refine lv_iload hx hb dX0_firstNotBefore_29 (lv_at hl 3 rfl) ?_
      refine lv_iload hx hb dX0_firstNotBefore_31 (lv_at hl 4 rfl) ?_
      refine lv_iadd hx hb dX0_firstNotBefore_33 ?_
      refine lv_topi (fun z_3 ez_3 => ?_)
      obtain rfl : z_3 = nI (a + 2 ^ k) := ez_3.trans (nI_add a (2 ^ k))
      refine lv_istore (lv' := [(4, .int (nI (a + 2 ^ k))), (0, .ref r), (1, .long h), (3, .int t), (5, .int (stp (k + 1)))]) hx hb dX0_firstNotBefore_34 hl (by decide) rfl (fun ls hl => ?_)
      refine lv_iload hx hb dX0_firstNotBefore_36 (lv_at hl 4 rfl) ?_
      refine lv_iconst (v := 2) hx hb dX0_firstNotBefore_38 (by decide) ?_
      refine lv_idiv hx hb dX0_firstNotBefore_39 (by decide) ?_
      refine lv_topi (fun z_4 ez_4 => ?_)
      obtain rfl : z_4 = stp k := ez_4.trans (stp_half k (by omega))
      refine lv_istore (lv' := [(5, .int (stp k)), (4, .int (nI (a + 2 ^ k))), (0, .ref r), (1, .long h), (3, .int t)]) hx hb dX0_firstNotBefore_40 hl (by decide) rfl (fun ls hl => ?_)
      refine lv_goto (tgt := 8) hx hb dX0_firstNotBefore_42 (by decide) ?_
      apply ih (ls := ls) (a := a + 2 ^ k)
      all_goals first | omega | exact lv_sub hl [2, 3, 4, 1, 0] rfl
    · skip
      have i4 : j ≤ a + 2 ^ k - 1 := by
        rcases Nat.lt_or_ge (a + 2 ^ k - 1) j with q | q
        · exact absurd ⟨a + 2 ^ k - 1, by omega, rfl, hlo _ q⟩ hno
        · exact q
      refine lv_if_eq (tgt := 36) hx hb dX0_firstNotBefore_26 (by decide) (fun c_26 => ?_) (fun c_26 => absurd c_26 (by decide))
      refine lv_iload hx hb dX0_firstNotBefore_36 (lv_at hl 4 rfl) ?_
      refine lv_iconst (v := 2) hx hb dX0_firstNotBefore_38 (by decide) ?_
      refine lv_idiv hx hb dX0_firstNotBefore_39 (by decide) ?_
      refine lv_topi (fun z_5 ez_5 => ?_)
      obtain rfl : z_5 = stp k := ez_5.trans (stp_half k (by omega))
      refine lv_istore (lv' := [(5, .int (stp k)), (0, .ref r), (1, .long h), (3, .int t), (4, .int (nI a))]) hx hb dX0_firstNotBefore_40 hl (by decide) rfl (fun ls hl => ?_)
      refine lv_goto (tgt := 8) hx hb dX0_firstNotBefore_42 (by decide) ?_
      apply ih (ls := ls) (a := a)
      all_goals first | omega | exact lv_sub hl [1, 2, 3, 4, 0] rfl
end
section
/-! ROWS: what writes -/
set_option maxHeartbeats 4000000 in
set_option maxRecDepth 100000 in
/-- move -/
theorem c_move (l : Launch) (dC : Nat → ClassId) (dI : Nat → Nat → Nat) (hz : Nat) (cL cI : ClassId) (r a1 a2 a3 a4 : Nat) (u : Nat) (hd : Nat → Int64) (sz : Nat → Int32) (tx : Nat → Int64) (ln : Nat → Int32) (a b n : Nat) (ha : a + n ≤ 150) (hbn : b + n ≤ 150) : Met l yX0_move wsX0_move ({ frames := 1, cells := 0, slots := 0, locals := 26 }) (wrP (dC, dI) (kS cL cI) (rW cL cI r a1 a2 a3 a4 (u, hd, sz, tx, ln)) [.ref r, .int (nI a), .int (nI b), .int (nI n)] hz) (va_Qv (fun (v : RS) => v = (u, va_cpy hd hd a b n, va_cpy sz sz a b n, va_cpy tx tx a b n, va_cpy ln ln a b n)) (wrB (dC, dI) (va_A (rW cL cI r a1 a2 a3 a4 (u, hd, sz, tx, ln)) hz) (fun (v : RS) => rW cL cI r a1 a2 a3 a4 v)) (va_A (rW cL cI r a1 a2 a3 a4 (u, hd, sz, tx, ln)) hz)) 0 0 (va_A (rW cL cI r a1 a2 a3 a4 (u, hd, sz, tx, ln)) hz) := by
  refine Met.ofW (cc := cX0_move) (maxL := 4) (ret := none) (by decide) rfl ?_
  intro p e s m args below meth c s₁ B hml hv
  obtain ⟨rfl, hsz, hP, hK, hD0⟩ := hv
  have hx := B.exec
  have hb := B.bytes
  have hr := B.returns
  have hts := atoms_spec (ws := wsX0_move) B.pre
  have hown : s.vm.findClass RX0 = some m.cls := findClass_of_methodNamed B.named
  have hlocks := B.notSynchronized
  subst hsz
  have hD := hD0.self (sz := s.heap.size)
  generalize hAe : va_A (rW cL cI r a1 a2 a3 a4 (u, hd, sz, tx, ln)) s.heap.size = A at hD ⊢
  have hA : ∀ q : Nat, s.heap.size ≤ q → A q := fun q h => by rw [← hAe]; exact Or.inr h
  have hS : va_S A s.heap s.heap [] := va_S.rf
  replace hP : va_P (dC, dI) vwCl [(r, .inr (0, [.ref a1, .ref a2, .ref a3, .ref a4, .int (nI u)])), (a1, .inl (cL, 150, .inr (.inl hd))), (a2, .inl (cI, 150, .inl sz)), (a3, .inl (cL, 150, .inr (.inl tx))), (a4, .inl (cI, 150, .inl ln))] s.heap := hP
  replace hD : va_D A [(r, .inr (0, [.ref a1, .ref a2, .ref a3, .ref a4, .int (nI u)])), (a1, .inl (cL, 150, .inr (.inl hd))), (a2, .inl (cI, 150, .inl sz)), (a3, .inl (cL, 150, .inr (.inl tx))), (a4, .inl (cI, 150, .inl ln))] := hD
  have hl := lv_entry ([.ref r, .int (nI a), .int (nI b), .int (nI n)]) (n := 4) (Nat.le_of_ble_eq_true rfl)
  rw [lg_entry_eq]
  generalize (lg_sl ([.ref r, .int (nI a), .int (nI b), .int (nI n)]) ++ List.replicate (4 - (lg_sl ([.ref r, .int (nI a), .int (nI b), .int (nI n)])).length) Slot.unset).toArray = ls at hl ⊢
  replace hl : lv_has ls 4 [(0, .ref r), (1, .int (nI a)), (2, .int (nI b)), (3, .int (nI n))] := hl
  refine lv_aload_n hx hb dX0_move_0 rfl (lv_at hl 0 rfl) ?_
  refine va_get (D := (dC, dI)) (ci := 0) (v := .ref a1) (C := RX0) (T := TX0) (N := 5) hx hb hts i_X0_move_X0 hown hK hP 0 rfl rfl 0 (by decide) (hts (.fieldLink RX0 9 "BlockTree$Rows" "heads" "[J") (by decide +kernel)) (fun _ h9 => h9) rfl dX0_move_1 ?_
  refine lv_iload_n hx hb dX0_move_4 rfl (lv_at hl 1 rfl) ?_
  refine lv_aload_n hx hb dX0_move_5 rfl (lv_at hl 0 rfl) ?_
  refine va_get (D := (dC, dI)) (ci := 0) (v := .ref a1) (C := RX0) (T := TX0) (N := 5) hx hb hts i_X0_move_X0 hown hK hP 0 rfl rfl 0 (by decide) (hts (.fieldLink RX0 9 "BlockTree$Rows" "heads" "[J") (by decide +kernel)) (fun _ h9 => h9) rfl dX0_move_6 ?_
  refine lv_iload_n hx hb dX0_move_9 rfl (lv_at hl 2 rfl) ?_
  refine lv_iload_n hx hb dX0_move_10 rfl (lv_at hl 3 rfl) ?_
  refine va_copyl hx hb (by rw [hml]; exact hl.1.symm) hown (hts (.methodLink RX0 53 arraycopyName) (by decide +kernel)) (hts (.native arraycopyName) (by decide +kernel)) (hts (.static arraycopyName) (by decide +kernel)) (hts (.initialized "java/lang/System") (by decide +kernel)) hK hP hD hS 1 1 0 0 rfl rfl rfl rfl rfl (nI_pos (by omega)) (nI_pos (by omega)) (nI_pos (by omega)) (by rw [nI_clamp (show a < 2 ^ 31 by omega), nI_clamp (show n < 2 ^ 31 by omega)]; omega) (by rw [nI_clamp (show b < 2 ^ 31 by omega), nI_clamp (show n < 2 ^ 31 by omega)]; omega) (fun _ _ => rfl) (Nat.le_of_ble_eq_true rfl) (Nat.le_of_ble_eq_true rfl) dX0_move_11 (fun H locs hP hD hS => ?_)
  rw [nI_clamp (show a < 2 ^ 31 by omega), nI_clamp (show b < 2 ^ 31 by omega), nI_clamp (show n < 2 ^ 31 by omega)] at hP hD
  replace hP : va_P (dC, dI) vwCl [(r, .inr (0, [.ref a1, .ref a2, .ref a3, .ref a4, .int (nI u)])), (a1, .inl (cL, 150, .inr (.inl (va_cpy hd hd a b n)))), (a2, .inl (cI, 150, .inl sz)), (a3, .inl (cL, 150, .inr (.inl tx))), (a4, .inl (cI, 150, .inl ln))] H := hP
  replace hD : va_D A [(r, .inr (0, [.ref a1, .ref a2, .ref a3, .ref a4, .int (nI u)])), (a1, .inl (cL, 150, .inr (.inl (va_cpy hd hd a b n)))), (a2, .inl (cI, 150, .inl sz)), (a3, .inl (cL, 150, .inr (.inl tx))), (a4, .inl (cI, 150, .inl ln))] := hD
  refine lv_aload_n hx hb dX0_move_14 rfl (lv_at hl 0 rfl) ?_
  refine va_get (D := (dC, dI)) (ci := 0) (v := .ref a2) (C := RX0) (T := TX0) (N := 5) hx hb hts i_X0_move_X0 hown hK hP 0 rfl rfl 1 (by decide) (hts (.fieldLink RX0 15 "BlockTree$Rows" "sizes" "[I") (by decide +kernel)) (fun _ h9 => h9) rfl dX0_move_15 ?_
  refine lv_iload_n hx hb dX0_move_18 rfl (lv_at hl 1 rfl) ?_
  refine lv_aload_n hx hb dX0_move_19 rfl (lv_at hl 0 rfl) ?_
  refine va_get (D := (dC, dI)) (ci := 0) (v := .ref a2) (C := RX0) (T := TX0) (N := 5) hx hb hts i_X0_move_X0 hown hK hP 0 rfl rfl 1 (by decide) (hts (.fieldLink RX0 15 "BlockTree$Rows" "sizes" "[I") (by decide +kernel)) (fun _ h9 => h9) rfl dX0_move_20 ?_
  refine lv_iload_n hx hb dX0_move_23 rfl (lv_at hl 2 rfl) ?_
  refine lv_iload_n hx hb dX0_move_24 rfl (lv_at hl 3 rfl) ?_
  refine va_copyi hx hb (by rw [hml]; exact hl.1.symm) hown (hts (.methodLink RX0 53 arraycopyName) (by decide +kernel)) (hts (.native arraycopyName) (by decide +kernel)) (hts (.static arraycopyName) (by decide +kernel)) (hts (.initialized "java/lang/System") (by decide +kernel)) hK hP hD hS 2 2 1 1 rfl rfl rfl rfl rfl (nI_pos (by omega)) (nI_pos (by omega)) (nI_pos (by omega)) (by rw [nI_clamp (show a < 2 ^ 31 by omega), nI_clamp (show n < 2 ^ 31 by omega)]; omega) (by rw [nI_clamp (show b < 2 ^ 31 by omega), nI_clamp (show n < 2 ^ 31 by omega)]; omega) (fun _ _ => rfl) (Nat.le_of_ble_eq_true rfl) (Nat.le_of_ble_eq_true rfl) dX0_move_25 (fun H locs hP hD hS => ?_)
  rw [nI_clamp (show a < 2 ^ 31 by omega), nI_clamp (show b < 2 ^ 31 by omega), nI_clamp (show n < 2 ^ 31 by omega)] at hP hD
  replace hP : va_P (dC, dI) vwCl [(r, .inr (0, [.ref a1, .ref a2, .ref a3, .ref a4, .int (nI u)])), (a1, .inl (cL, 150, .inr (.inl (va_cpy hd hd a b n)))), (a2, .inl (cI, 150, .inl (va_cpy sz sz a b n))), (a3, .inl (cL, 150, .inr (.inl tx))), (a4, .inl (cI, 150, .inl ln))] H := hP
  replace hD : va_D A [(r, .inr (0, [.ref a1, .ref a2, .ref a3, .ref a4, .int (nI u)])), (a1, .inl (cL, 150, .inr (.inl (va_cpy hd hd a b n)))), (a2, .inl (cI, 150, .inl (va_cpy sz sz a b n))), (a3, .inl (cL, 150, .inr (.inl tx))), (a4, .inl (cI, 150, .inl ln))] := hD
  refine lv_aload_n hx hb dX0_move_28 rfl (lv_at hl 0 rfl) ?_
  refine va_get (D := (dC, dI)) (ci := 0) (v := .ref a3) (C := RX0) (T := TX0) (N := 5) hx hb hts i_X0_move_X0 hown hK hP 0 rfl rfl 2 (by decide) (hts (.fieldLink RX0 19 "BlockTree$Rows" "texts" "[J") (by decide +kernel)) (fun _ h9 => h9) rfl dX0_move_29 ?_
  refine lv_iload_n hx hb dX0_move_32 rfl (lv_at hl 1 rfl) ?_
  refine lv_aload_n hx hb dX0_move_33 rfl (lv_at hl 0 rfl) ?_
  refine va_get (D := (dC, dI)) (ci := 0) (v := .ref a3) (C := RX0) (T := TX0) (N := 5) hx hb hts i_X0_move_X0 hown hK hP 0 rfl rfl 2 (by decide) (hts (.fieldLink RX0 19 "BlockTree$Rows" "texts" "[J") (by decide +kernel)) (fun _ h9 => h9) rfl dX0_move_34 ?_
  refine lv_iload_n hx hb dX0_move_37 rfl (lv_at hl 2 rfl) ?_
  refine lv_iload_n hx hb dX0_move_38 rfl (lv_at hl 3 rfl) ?_
  refine va_copyl hx hb (by rw [hml]; exact hl.1.symm) hown (hts (.methodLink RX0 53 arraycopyName) (by decide +kernel)) (hts (.native arraycopyName) (by decide +kernel)) (hts (.static arraycopyName) (by decide +kernel)) (hts (.initialized "java/lang/System") (by decide +kernel)) hK hP hD hS 3 3 0 0 rfl rfl rfl rfl rfl (nI_pos (by omega)) (nI_pos (by omega)) (nI_pos (by omega)) (by rw [nI_clamp (show a < 2 ^ 31 by omega), nI_clamp (show n < 2 ^ 31 by omega)]; omega) (by rw [nI_clamp (show b < 2 ^ 31 by omega), nI_clamp (show n < 2 ^ 31 by omega)]; omega) (fun _ _ => rfl) (Nat.le_of_ble_eq_true rfl) (Nat.le_of_ble_eq_true rfl) dX0_move_39 (fun H locs hP hD hS => ?_)
  rw [nI_clamp (show a < 2 ^ 31 by omega), nI_clamp (show b < 2 ^ 31 by omega), nI_clamp (show n < 2 ^ 31 by omega)] at hP hD
  replace hP : va_P (dC, dI) vwCl [(r, .inr (0, [.ref a1, .ref a2, .ref a3, .ref a4, .int (nI u)])), (a1, .inl (cL, 150, .inr (.inl (va_cpy hd hd a b n)))), (a2, .inl (cI, 150, .inl (va_cpy sz sz a b n))), (a3, .inl (cL, 150, .inr (.inl (va_cpy tx tx a b n)))), (a4, .inl (cI, 150, .inl ln))] H := hP
  replace hD : va_D A [(r, .inr (0, [.ref a1, .ref a2, .ref a3, .ref a4, .int (nI u)])), (a1, .inl (cL, 150, .inr (.inl (va_cpy hd hd a b n)))), (a2, .inl (cI, 150, .inl (va_cpy sz sz a b n))), (a3, .inl (cL, 150, .inr (.inl (va_cpy tx tx a b n)))), (a4, .inl (cI, 150, .inl ln))] := hD
  refine lv_aload_n hx hb dX0_move_42 rfl (lv_at hl 0 rfl) ?_
  refine va_get (D := (dC, dI)) (ci := 0) (v := .ref a4) (C := RX0) (T := TX0) (N := 5) hx hb hts i_X0_move_X0 hown hK hP 0 rfl rfl 3 (by decide) (hts (.fieldLink RX0 22 "BlockTree$Rows" "lengths" "[I") (by decide +kernel)) (fun _ h9 => h9) rfl dX0_move_43 ?_
  refine lv_iload_n hx hb dX0_move_46 rfl (lv_at hl 1 rfl) ?_
  refine lv_aload_n hx hb dX0_move_47 rfl (lv_at hl 0 rfl) ?_
  refine va_get (D := (dC, dI)) (ci := 0) (v := .ref a4) (C := RX0) (T := TX0) (N := 5) hx hb hts i_X0_move_X0 hown hK hP 0 rfl rfl 3 (by decide) (hts (.fieldLink RX0 22 "BlockTree$Rows" "lengths" "[I") (by decide +kernel)) (fun _ h9 => h9) rfl dX0_move_48 ?_
  refine lv_iload_n hx hb dX0_move_51 rfl (lv_at hl 2 rfl) ?_
  refine lv_iload_n hx hb dX0_move_52 rfl (lv_at hl 3 rfl) ?_
  refine va_copyi hx hb (by rw [hml]; exact hl.1.symm) hown (hts (.methodLink RX0 53 arraycopyName) (by decide +kernel)) (hts (.native arraycopyName) (by decide +kernel)) (hts (.static arraycopyName) (by decide +kernel)) (hts (.initialized "java/lang/System") (by decide +kernel)) hK hP hD hS 4 4 1 1 rfl rfl rfl rfl rfl (nI_pos (by omega)) (nI_pos (by omega)) (nI_pos (by omega)) (by rw [nI_clamp (show a < 2 ^ 31 by omega), nI_clamp (show n < 2 ^ 31 by omega)]; omega) (by rw [nI_clamp (show b < 2 ^ 31 by omega), nI_clamp (show n < 2 ^ 31 by omega)]; omega) (fun _ _ => rfl) (Nat.le_of_ble_eq_true rfl) (Nat.le_of_ble_eq_true rfl) dX0_move_53 (fun H locs hP hD hS => ?_)
  rw [nI_clamp (show a < 2 ^ 31 by omega), nI_clamp (show b < 2 ^ 31 by omega), nI_clamp (show n < 2 ^ 31 by omega)] at hP hD
  replace hP : va_P (dC, dI) vwCl [(r, .inr (0, [.ref a1, .ref a2, .ref a3, .ref a4, .int (nI u)])), (a1, .inl (cL, 150, .inr (.inl (va_cpy hd hd a b n)))), (a2, .inl (cI, 150, .inl (va_cpy sz sz a b n))), (a3, .inl (cL, 150, .inr (.inl (va_cpy tx tx a b n)))), (a4, .inl (cI, 150, .inl (va_cpy ln ln a b n)))] H := hP
  replace hD : va_D A [(r, .inr (0, [.ref a1, .ref a2, .ref a3, .ref a4, .int (nI u)])), (a1, .inl (cL, 150, .inr (.inl (va_cpy hd hd a b n)))), (a2, .inl (cI, 150, .inl (va_cpy sz sz a b n))), (a3, .inl (cL, 150, .inr (.inl (va_cpy tx tx a b n)))), (a4, .inl (cI, 150, .inl (va_cpy ln ln a b n)))] := hD
  exact W.vret hx hb hr (fun t9 ht hW => ⟨⟨(u, va_cpy hd hd a b n, va_cpy sz sz a b n, va_cpy tx tx a b n, va_cpy ln ln a b n), rfl, rfl, by rw [ht]; exact hP, hD⟩, hS.F ht⟩) hS.2.2 dX0_move_56
end
section
set_option maxHeartbeats 4000000 in
set_option maxRecDepth 100000 in
/-- makeRoom -/
theorem c_makeRoom (l : Launch) (dC : Nat → ClassId) (dI : Nat → Nat → Nat) (hz : Nat) (cL cI : ClassId) (r a1 a2 a3 a4 : Nat) (u : Nat) (hd : Nat → Int64) (sz : Nat → Int32) (tx : Nat → Int64) (ln : Nat → Int32) (hu : u ≤ 150) (j : Nat) (hj : j ≤ u) : Met l yX0_makeRoom wsX0_makeRoom ({ frames := 2, cells := 0, slots := 0, locals := 49 }) (wrP (dC, dI) (kS cL cI) (rW cL cI r a1 a2 a3 a4 (u, hd, sz, tx, ln)) [.ref r, .int (nI j)] hz) (va_Qi (fun (z : Int32) (v : RS) => (u < 150 ∧ z = 1 ∧ v = rs_opn (u, hd, sz, tx, ln) j) ∨ (¬ u < 150 ∧ z = 0 ∧ v = (u, hd, sz, tx, ln))) (wrB (dC, dI) (va_A (rW cL cI r a1 a2 a3 a4 (u, hd, sz, tx, ln)) hz) (fun (v : RS) => rW cL cI r a1 a2 a3 a4 v)) (va_A (rW cL cI r a1 a2 a3 a4 (u, hd, sz, tx, ln)) hz)) 0 0 (va_A (rW cL cI r a1 a2 a3 a4 (u, hd, sz, tx, ln)) hz) := by
  refine Met.ofW (cc := cX0_makeRoom) (maxL := 2) (ret := some .boolean) (by decide) rfl ?_
  intro p e s m args below meth c s₁ B hml hv
  obtain ⟨rfl, hsz, hP, hK, hD0⟩ := hv
  have hx := B.exec
  have hb := B.bytes
  have hr := B.returns
  have hts := atoms_spec (ws := wsX0_makeRoom) B.pre
  have hown : s.vm.findClass RX0 = some m.cls := findClass_of_methodNamed B.named
  have hlocks := B.notSynchronized
  subst hsz
  have hD := hD0.self (sz := s.heap.size)
  generalize hAe : va_A (rW cL cI r a1 a2 a3 a4 (u, hd, sz, tx, ln)) s.heap.size = A at hD ⊢
  have hA : ∀ q : Nat, s.heap.size ≤ q → A q := fun q h => by rw [← hAe]; exact Or.inr h
  have hS : va_S A s.heap s.heap [] := va_S.rf
  replace hP : va_P (dC, dI) vwCl [(r, .inr (0, [.ref a1, .ref a2, .ref a3, .ref a4, .int (nI u)])), (a1, .inl (cL, 150, .inr (.inl hd))), (a2, .inl (cI, 150, .inl sz)), (a3, .inl (cL, 150, .inr (.inl tx))), (a4, .inl (cI, 150, .inl ln))] s.heap := hP
  replace hD : va_D A [(r, .inr (0, [.ref a1, .ref a2, .ref a3, .ref a4, .int (nI u)])), (a1, .inl (cL, 150, .inr (.inl hd))), (a2, .inl (cI, 150, .inl sz)), (a3, .inl (cL, 150, .inr (.inl tx))), (a4, .inl (cI, 150, .inl ln))] := hD
  have hl := lv_entry ([.ref r, .int (nI j)]) (n := 2) (Nat.le_of_ble_eq_true rfl)
  rw [lg_entry_eq]
  generalize (lg_sl ([.ref r, .int (nI j)]) ++ List.replicate (2 - (lg_sl ([.ref r, .int (nI j)])).length) Slot.unset).toArray = ls at hl ⊢
  replace hl : lv_has ls 2 [(0, .ref r), (1, .int (nI j))] := hl
  refine lv_aload_n hx hb dX0_makeRoom_0 rfl (lv_at hl 0 rfl) ?_
  refine va_get (D := (dC, dI)) (ci := 0) (v := .int (nI u)) (C := RX0) (T := TX0) (N := 5) hx hb hts i_X0_makeRoom_X0 hown hK hP 0 rfl rfl 4 (by decide) (hts (.fieldLink RX0 25 "BlockTree$Rows" "used" "I") (by decide +kernel)) (fun _ h9 => h9) rfl dX0_makeRoom_1 ?_
  refine lv_sipush (v := 150) hx hb dX0_makeRoom_4 (by decide) ?_
  refine lv_icmp_ge (tgt := 22) hx hb dX0_makeRoom_7 (by decide) (fun c_7 => ?_) (fun c_7 => ?_)
  · skip
    have c_7 : ¬ u < 150 := fun q => nI_ge q (by decide) c_7
    refine lv_iconst (v := 0) hx hb dX0_makeRoom_22 (by decide) ?_
    exact W.zret (v := 0) hx hb hr (by first | rfl | decide +kernel | assumption) (fun t9 ht hW => ⟨⟨0, (u, hd, sz, tx, ln), rfl, Or.inr ⟨c_7, rfl, rfl⟩, by rw [ht]; exact hP, hD⟩, hS.F ht⟩) hS.2.2 dX0_makeRoom_23
  · skip
    have c_7 : u < 150 := by
      rcases Nat.lt_or_ge u 150 with q | q
      · exact q
      · exact absurd (nI_le q (by omega)) c_7
    refine lv_iload_n hx hb dX0_makeRoom_10 rfl (lv_at hl 1 rfl) ?_
    refine lv_if_lt (tgt := 22) hx hb dX0_makeRoom_11 (by decide) (fun c_11 => absurd c_11 (nI_pos (by omega))) (fun c_11 => ?_)
    refine lv_iload_n hx hb dX0_makeRoom_14 rfl (lv_at hl 1 rfl) ?_
    refine lv_aload_n hx hb dX0_makeRoom_15 rfl (lv_at hl 0 rfl) ?_
    refine va_get (D := (dC, dI)) (ci := 0) (v := .int (nI u)) (C := RX0) (T := TX0) (N := 5) hx hb hts i_X0_makeRoom_X0 hown hK hP 0 rfl rfl 4 (by decide) (hts (.fieldLink RX0 25 "BlockTree$Rows" "used" "I") (by decide +kernel)) (fun _ h9 => h9) rfl dX0_makeRoom_16 ?_
    refine lv_icmp_le (tgt := 24) hx hb dX0_makeRoom_19 (by decide) (fun c_19 => ?_) (fun c_19 => absurd (nI_le hj (by omega)) c_19)
    refine lv_aload_n hx hb dX0_makeRoom_24 rfl (lv_at hl 0 rfl) ?_
    refine lv_iload_n hx hb dX0_makeRoom_25 rfl (lv_at hl 1 rfl) ?_
    refine lv_iload_n hx hb dX0_makeRoom_26 rfl (lv_at hl 1 rfl) ?_
    refine lv_iconst (v := 1) hx hb dX0_makeRoom_27 (by decide) ?_
    refine lv_iadd hx hb dX0_makeRoom_28 ?_
    refine lv_topi (fun z_1 ez_1 => ?_)
    obtain rfl : z_1 = nI (j + 1) := ez_1.trans (nI_1 j)
    refine lv_aload_n hx hb dX0_makeRoom_29 rfl (lv_at hl 0 rfl) ?_
    refine va_get (D := (dC, dI)) (ci := 0) (v := .int (nI u)) (C := RX0) (T := TX0) (N := 5) hx hb hts i_X0_makeRoom_X0 hown hK hP 0 rfl rfl 4 (by decide) (hts (.fieldLink RX0 25 "BlockTree$Rows" "used" "I") (by decide +kernel)) (fun _ h9 => h9) rfl dX0_makeRoom_30 ?_
    refine lv_iload_n hx hb dX0_makeRoom_33 rfl (lv_at hl 1 rfl) ?_
    refine lv_isub hx hb dX0_makeRoom_34 ?_
    refine lv_topi (fun z_2 ez_2 => ?_)
    obtain rfl : z_2 = nI (u - j) := ez_2.trans (pk_sub hj)
    refine wr_callv (wr := []) (va_runV (As := [.int (nI j), .int (nI (j + 1)), .int (nI (u - j))]) (rest := []) ⟨hx, hb, hml, hown, hts⟩ (c_move l dC dI _ cL cI r a1 a2 a3 a4 u hd sz tx ln j (j + 1) (u - j) (by omega) (by omega)) (cwV 3 hts gX0_makeRoom_X0_move rfl rfl rfl (by decide +kernel) ⟨Nat.le_of_ble_eq_true rfl, Nat.le_of_ble_eq_true rfl⟩) (wr_preV hK (hP.sub (ws' := [(r, .inr (0, [.ref a1, .ref a2, .ref a3, .ref a4, .int (nI u)])), (a1, .inl (cL, 150, .inr (.inl hd))), (a2, .inl (cI, 150, .inl sz)), (a3, .inl (cL, 150, .inr (.inl tx))), (a4, .inl (cI, 150, .inl ln))]) [0, 1, 2, 3, 4] rfl) (hD.sub (ws' := [(r, .inr (0, [.ref a1, .ref a2, .ref a3, .ref a4, .int (nI u)])), (a1, .inl (cL, 150, .inr (.inl hd))), (a2, .inl (cI, 150, .inl sz)), (a3, .inl (cL, 150, .inr (.inl tx))), (a4, .inl (cI, 150, .inl ln))]) [0, 1, 2, 3, 4] (by decide) rfl) (ci := 0) (q0 := 0) rfl rfl) rfl rfl hl.1 rfl (lv_room (Nat.le_of_ble_eq_true rfl)) dX0_makeRoom_35 ⟨Nat.le_of_ble_eq_true rfl, Nat.le_of_ble_eq_true rfl⟩) hP hD hS hA [0, 1, 2, 3, 4] [] rfl rfl (by decide) (by decide) (fun u_ H locs hrm hP hD hS => ?_)
    subst hrm
    replace hP := hP.sub (ws' := [(r, .inr (0, [.ref a1, .ref a2, .ref a3, .ref a4, .int (nI u)])), (a1, .inl (cL, 150, .inr (.inl (opn hd j u)))), (a2, .inl (cI, 150, .inl (opn sz j u))), (a3, .inl (cL, 150, .inr (.inl (opn tx j u)))), (a4, .inl (cI, 150, .inl (opn ln j u)))]) [0, 1, 2, 3, 4] rfl
    replace hD := hD.sub (ws' := [(r, .inr (0, [.ref a1, .ref a2, .ref a3, .ref a4, .int (nI u)])), (a1, .inl (cL, 150, .inr (.inl (opn hd j u)))), (a2, .inl (cI, 150, .inl (opn sz j u))), (a3, .inl (cL, 150, .inr (.inl (opn tx j u)))), (a4, .inl (cI, 150, .inl (opn ln j u)))]) [0, 1, 2, 3, 4] (by decide) rfl
    refine lv_aload_n hx hb dX0_makeRoom_38 rfl (lv_at hl 0 rfl) ?_
    refine lv_dup hx hb dX0_makeRoom_39 rfl ?_
    refine va_get (D := (dC, dI)) (ci := 0) (v := .int (nI u)) (C := RX0) (T := TX0) (N := 5) hx hb hts i_X0_makeRoom_X0 hown hK hP 0 rfl rfl 4 (by decide) (hts (.fieldLink RX0 25 "BlockTree$Rows" "used" "I") (by decide +kernel)) (fun _ h9 => h9) rfl dX0_makeRoom_40 ?_
    refine lv_iconst (v := 1) hx hb dX0_makeRoom_43 (by decide) ?_
    refine lv_iadd hx hb dX0_makeRoom_44 ?_
    refine lv_topi (fun z_3 ez_3 => ?_)
    obtain rfl : z_3 = nI (u + 1) := ez_3.trans (nI_1 u)
    refine va_put (D := (dC, dI)) (ci := 0) (v := .int (nI (u + 1))) (ty := .int) (C := RX0) (T := TX0) (N := 5) hx hb hts i_X0_makeRoom_X0 tyX0 tyX0_ok nmX0 hown hK hP hD hS 0 rfl rfl 4 (by decide) (hts (.fieldLink RX0 25 "BlockTree$Rows" "used" "I") (by decide +kernel)) (fun _ h9 => h9) rfl (by decide +kernel) rfl rfl (Nat.le_of_ble_eq_true rfl) dX0_makeRoom_45 (fun H locs hP hD hS => ?_)
    replace hP : va_P (dC, dI) vwCl [(r, .inr (0, [.ref a1, .ref a2, .ref a3, .ref a4, .int (nI (u + 1))])), (a1, .inl (cL, 150, .inr (.inl (opn hd j u)))), (a2, .inl (cI, 150, .inl (opn sz j u))), (a3, .inl (cL, 150, .inr (.inl (opn tx j u)))), (a4, .inl (cI, 150, .inl (opn ln j u)))] H := hP
    replace hD : va_D A [(r, .inr (0, [.ref a1, .ref a2, .ref a3, .ref a4, .int (nI (u + 1))])), (a1, .inl (cL, 150, .inr (.inl (opn hd j u)))), (a2, .inl (cI, 150, .inl (opn sz j u))), (a3, .inl (cL, 150, .inr (.inl (opn tx j u)))), (a4, .inl (cI, 150, .inl (opn ln j u)))] := hD
    refine lv_iconst (v := 1) hx hb dX0_makeRoom_48 (by decide) ?_
    exact W.zret (v := 1) hx hb hr (by first | rfl | decide +kernel | assumption) (fun t9 ht hW => ⟨⟨1, rs_opn (u, hd, sz, tx, ln) j, rfl, Or.inl ⟨c_7, rfl, rfl⟩, by rw [ht]; exact hP, hD⟩, hS.F ht⟩) hS.2.2 dX0_makeRoom_49
set_option maxHeartbeats 4000000 in
set_option maxRecDepth 100000 in
/-- drop -/
theorem c_drop (l : Launch) (dC : Nat → ClassId) (dI : Nat → Nat → Nat) (hz : Nat) (cL cI : ClassId) (r a1 a2 a3 a4 : Nat) (u : Nat) (hd : Nat → Int64) (sz : Nat → Int32) (tx : Nat → Int64) (ln : Nat → Int32) (hu : u ≤ 150) (j : Nat) (hj : j < u) : Met l yX0_drop wsX0_drop ({ frames := 2, cells := 0, slots := 0, locals := 49 }) (wrP (dC, dI) (kS cL cI) (rW cL cI r a1 a2 a3 a4 (u, hd, sz, tx, ln)) [.ref r, .int (nI j)] hz) (va_Qv (fun (v : RS) => v = rs_clo (u, hd, sz, tx, ln) j) (wrB (dC, dI) (va_A (rW cL cI r a1 a2 a3 a4 (u, hd, sz, tx, ln)) hz) (fun (v : RS) => rW cL cI r a1 a2 a3 a4 v)) (va_A (rW cL cI r a1 a2 a3 a4 (u, hd, sz, tx, ln)) hz)) 0 0 (va_A (rW cL cI r a1 a2 a3 a4 (u, hd, sz, tx, ln)) hz) := by
  refine Met.ofW (cc := cX0_drop) (maxL := 2) (ret := none) (by decide) rfl ?_
  intro p e s m args below meth c s₁ B hml hv
  obtain ⟨rfl, hsz, hP, hK, hD0⟩ := hv
  have hx := B.exec
  have hb := B.bytes
  have hr := B.returns
  have hts := atoms_spec (ws := wsX0_drop) B.pre
  have hown : s.vm.findClass RX0 = some m.cls := findClass_of_methodNamed B.named
  have hlocks := B.notSynchronized
  subst hsz
  have hD := hD0.self (sz := s.heap.size)
  generalize hAe : va_A (rW cL cI r a1 a2 a3 a4 (u, hd, sz, tx, ln)) s.heap.size = A at hD ⊢
  have hA : ∀ q : Nat, s.heap.size ≤ q → A q := fun q h => by rw [← hAe]; exact Or.inr h
  have hS : va_S A s.heap s.heap [] := va_S.rf
  replace hP : va_P (dC, dI) vwCl [(r, .inr (0, [.ref a1, .ref a2, .ref a3, .ref a4, .int (nI u)])), (a1, .inl (cL, 150, .inr (.inl hd))), (a2, .inl (cI, 150, .inl sz)), (a3, .inl (cL, 150, .inr (.inl tx))), (a4, .inl (cI, 150, .inl ln))] s.heap := hP
  replace hD : va_D A [(r, .inr (0, [.ref a1, .ref a2, .ref a3, .ref a4, .int (nI u)])), (a1, .inl (cL, 150, .inr (.inl hd))), (a2, .inl (cI, 150, .inl sz)), (a3, .inl (cL, 150, .inr (.inl tx))), (a4, .inl (cI, 150, .inl ln))] := hD
  have hl := lv_entry ([.ref r, .int (nI j)]) (n := 2) (Nat.le_of_ble_eq_true rfl)
  rw [lg_entry_eq]
  generalize (lg_sl ([.ref r, .int (nI j)]) ++ List.replicate (2 - (lg_sl ([.ref r, .int (nI j)])).length) Slot.unset).toArray = ls at hl ⊢
  replace hl : lv_has ls 2 [(0, .ref r), (1, .int (nI j))] := hl
  refine lv_aload_n hx hb dX0_drop_0 rfl (lv_at hl 0 rfl) ?_
  refine lv_iload_n hx hb dX0_drop_1 rfl (lv_at hl 1 rfl) ?_
  refine vp_callSi (va_Run.run (va_runV (As := [.int (nI j)]) (rest := []) ⟨hx, hb, hml, hown, hts⟩ (c_has l dC dI cL cI r a1 a2 a3 a4 u hu (nI j)) (cwV 1 hts gX0_drop_X0_has rfl rfl rfl (by decide +kernel) ⟨Nat.le_of_ble_eq_true rfl, Nat.le_of_ble_eq_true rfl⟩) (rd_preV hK (hP.sub (ws' := [(r, .inr (0, [.ref a1, .ref a2, .ref a3, .ref a4, .int (nI u)]))]) [0] rfl) (ci := 0) (q0 := 0) rfl rfl) rfl rfl hl.1 rfl (lv_room (Nat.le_of_ble_eq_true rfl)) dX0_drop_2 ⟨Nat.le_of_ble_eq_true rfl, Nat.le_of_ble_eq_true rfl⟩)) (fun r2 hr2 => ?_)
  rcases hr2 with ⟨rfl, -⟩ | ⟨rfl, hno⟩
  · skip
    refine lv_if_eq (tgt := 34) hx hb dX0_drop_5 (by decide) (fun c_5 => absurd c_5 (by decide)) (fun c_5 => ?_)
    refine lv_aload_n hx hb dX0_drop_8 rfl (lv_at hl 0 rfl) ?_
    refine lv_iload_n hx hb dX0_drop_9 rfl (lv_at hl 1 rfl) ?_
    refine lv_iconst (v := 1) hx hb dX0_drop_10 (by decide) ?_
    refine lv_iadd hx hb dX0_drop_11 ?_
    refine lv_topi (fun z_1 ez_1 => ?_)
    obtain rfl : z_1 = nI (j + 1) := ez_1.trans (nI_1 j)
    refine lv_iload_n hx hb dX0_drop_12 rfl (lv_at hl 1 rfl) ?_
    refine lv_aload_n hx hb dX0_drop_13 rfl (lv_at hl 0 rfl) ?_
    refine va_get (D := (dC, dI)) (ci := 0) (v := .int (nI u)) (C := RX0) (T := TX0) (N := 5) hx hb hts i_X0_drop_X0 hown hK hP 0 rfl rfl 4 (by decide) (hts (.fieldLink RX0 25 "BlockTree$Rows" "used" "I") (by decide +kernel)) (fun _ h9 => h9) rfl dX0_drop_14 ?_
    refine lv_iload_n hx hb dX0_drop_17 rfl (lv_at hl 1 rfl) ?_
    refine lv_isub hx hb dX0_drop_18 ?_
    refine lv_topi (fun z_2 ez_2 => ?_)
    obtain rfl : z_2 = nI (u - j) := ez_2.trans (pk_sub (by omega))
    refine lv_iconst (v := 1) hx hb dX0_drop_19 (by decide) ?_
    refine lv_isub hx hb dX0_drop_20 ?_
    refine lv_topi (fun z_3 ez_3 => ?_)
    obtain rfl : z_3 = nI (u - j - 1) := ez_3.trans (nI_s1 (by omega))
    refine wr_callv (wr := []) (va_runV (As := [.int (nI (j + 1)), .int (nI j), .int (nI (u - j - 1))]) (rest := []) ⟨hx, hb, hml, hown, hts⟩ (c_move l dC dI _ cL cI r a1 a2 a3 a4 u hd sz tx ln (j + 1) j (u - j - 1) (by omega) (by omega)) (cwV 3 hts gX0_drop_X0_move rfl rfl rfl (by decide +kernel) ⟨Nat.le_of_ble_eq_true rfl, Nat.le_of_ble_eq_true rfl⟩) (wr_preV hK (hP.sub (ws' := [(r, .inr (0, [.ref a1, .ref a2, .ref a3, .ref a4, .int (nI u)])), (a1, .inl (cL, 150, .inr (.inl hd))), (a2, .inl (cI, 150, .inl sz)), (a3, .inl (cL, 150, .inr (.inl tx))), (a4, .inl (cI, 150, .inl ln))]) [0, 1, 2, 3, 4] rfl) (hD.sub (ws' := [(r, .inr (0, [.ref a1, .ref a2, .ref a3, .ref a4, .int (nI u)])), (a1, .inl (cL, 150, .inr (.inl hd))), (a2, .inl (cI, 150, .inl sz)), (a3, .inl (cL, 150, .inr (.inl tx))), (a4, .inl (cI, 150, .inl ln))]) [0, 1, 2, 3, 4] (by decide) rfl) (ci := 0) (q0 := 0) rfl rfl) rfl rfl hl.1 rfl (lv_room (Nat.le_of_ble_eq_true rfl)) dX0_drop_21 ⟨Nat.le_of_ble_eq_true rfl, Nat.le_of_ble_eq_true rfl⟩) hP hD hS hA [0, 1, 2, 3, 4] [] rfl rfl (by decide) (by decide) (fun u_ H locs hrm hP hD hS => ?_)
    subst hrm
    replace hP := hP.sub (ws' := [(r, .inr (0, [.ref a1, .ref a2, .ref a3, .ref a4, .int (nI u)])), (a1, .inl (cL, 150, .inr (.inl (clo hd j u)))), (a2, .inl (cI, 150, .inl (clo sz j u))), (a3, .inl (cL, 150, .inr (.inl (clo tx j u)))), (a4, .inl (cI, 150, .inl (clo ln j u)))]) [0, 1, 2, 3, 4] rfl
    replace hD := hD.sub (ws' := [(r, .inr (0, [.ref a1, .ref a2, .ref a3, .ref a4, .int (nI u)])), (a1, .inl (cL, 150, .inr (.inl (clo hd j u)))), (a2, .inl (cI, 150, .inl (clo sz j u))), (a3, .inl (cL, 150, .inr (.inl (clo tx j u)))), (a4, .inl (cI, 150, .inl (clo ln j u)))]) [0, 1, 2, 3, 4] (by decide) rfl
    refine lv_aload_n hx hb dX0_drop_24 rfl (lv_at hl 0 rfl) ?_
    refine lv_dup hx hb dX0_drop_25 rfl ?_
    refine va_get (D := (dC, dI)) (ci := 0) (v := .int (nI u)) (C := RX0) (T := TX0) (N := 5) hx hb hts i_X0_drop_X0 hown hK hP 0 rfl rfl 4 (by decide) (hts (.fieldLink RX0 25 "BlockTree$Rows" "used" "I") (by decide +kernel)) (fun _ h9 => h9) rfl dX0_drop_26 ?_
    refine lv_iconst (v := 1) hx hb dX0_drop_29 (by decide) ?_
    refine lv_isub hx hb dX0_drop_30 ?_
    refine lv_topi (fun z_4 ez_4 => ?_)
    obtain rfl : z_4 = nI (u - 1) := ez_4.trans (nI_s1 (by omega))
    refine va_put (D := (dC, dI)) (ci := 0) (v := .int (nI (u - 1))) (ty := .int) (C := RX0) (T := TX0) (N := 5) hx hb hts i_X0_drop_X0 tyX0 tyX0_ok nmX0 hown hK hP hD hS 0 rfl rfl 4 (by decide) (hts (.fieldLink RX0 25 "BlockTree$Rows" "used" "I") (by decide +kernel)) (fun _ h9 => h9) rfl (by decide +kernel) rfl rfl (Nat.le_of_ble_eq_true rfl) dX0_drop_31 (fun H locs hP hD hS => ?_)
    replace hP : va_P (dC, dI) vwCl [(r, .inr (0, [.ref a1, .ref a2, .ref a3, .ref a4, .int (nI (u - 1))])), (a1, .inl (cL, 150, .inr (.inl (clo hd j u)))), (a2, .inl (cI, 150, .inl (clo sz j u))), (a3, .inl (cL, 150, .inr (.inl (clo tx j u)))), (a4, .inl (cI, 150, .inl (clo ln j u)))] H := hP
    replace hD : va_D A [(r, .inr (0, [.ref a1, .ref a2, .ref a3, .ref a4, .int (nI (u - 1))])), (a1, .inl (cL, 150, .inr (.inl (clo hd j u)))), (a2, .inl (cI, 150, .inl (clo sz j u))), (a3, .inl (cL, 150, .inr (.inl (clo tx j u)))), (a4, .inl (cI, 150, .inl (clo ln j u)))] := hD
    exact W.vret hx hb hr (fun t9 ht hW => ⟨⟨rs_clo (u, hd, sz, tx, ln) j, rfl, rfl, by rw [ht]; exact hP, hD⟩, hS.F ht⟩) hS.2.2 dX0_drop_34
  · skip
    exact absurd ⟨j, hj, rfl⟩ hno
end
section
set_option maxHeartbeats 4000000 in
set_option maxRecDepth 100000 in
/-- copyFrom -/
theorem c_copyFrom (l : Launch) (dC : Nat → ClassId) (dI : Nat → Nat → Nat) (hz : Nat) (cL cI : ClassId) (r a1 a2 a3 a4 q b1 b2 b3 b4 : Nat) (w v0 : RS) (hu : v0.1 ≤ 150) : Met l yX0_copyFrom wsX0_copyFrom ({ frames := 1, cells := 0, slots := 0, locals := 26 }) (wrP (dC, dI) (kS cL cI) (rW cL cI r a1 a2 a3 a4 w ++ rW cL cI q b1 b2 b3 b4 v0) [.ref r, .ref q] hz) (va_Qv (fun (v : RS) => v = rs_cpy v0 w) (wrB (dC, dI) (va_A (rW cL cI r a1 a2 a3 a4 w ++ rW cL cI q b1 b2 b3 b4 v0) hz) (fun (v : RS) => rW cL cI r a1 a2 a3 a4 v ++ rW cL cI q b1 b2 b3 b4 v0)) (va_A (rW cL cI r a1 a2 a3 a4 w ++ rW cL cI q b1 b2 b3 b4 v0) hz)) 0 0 (va_A (rW cL cI r a1 a2 a3 a4 w ++ rW cL cI q b1 b2 b3 b4 v0) hz) := by
  refine Met.ofW (cc := cX0_copyFrom) (maxL := 2) (ret := none) (by decide) rfl ?_
  intro p e s m args below meth c s₁ B hml hv
  obtain ⟨rfl, hsz, hP, hK, hD0⟩ := hv
  have hx := B.exec
  have hb := B.bytes
  have hr := B.returns
  have hts := atoms_spec (ws := wsX0_copyFrom) B.pre
  have hown : s.vm.findClass RX0 = some m.cls := findClass_of_methodNamed B.named
  have hlocks := B.notSynchronized
  subst hsz
  have hD := hD0.self (sz := s.heap.size)
  generalize hAe : va_A (rW cL cI r a1 a2 a3 a4 w ++ rW cL cI q b1 b2 b3 b4 v0) s.heap.size = A at hD ⊢
  have hA : ∀ q : Nat, s.heap.size ≤ q → A q := fun q h => by rw [← hAe]; exact Or.inr h
  have hS : va_S A s.heap s.heap [] := va_S.rf
  replace hP : va_P (dC, dI) vwCl [(r, .inr (0, [.ref a1, .ref a2, .ref a3, .ref a4, .int (nI w.1)])), (a1, .inl (cL, 150, .inr (.inl w.2.1))), (a2, .inl (cI, 150, .inl w.2.2.1)), (a3, .inl (cL, 150, .inr (.inl w.2.2.2.1))), (a4, .inl (cI, 150, .inl w.2.2.2.2)), (q, .inr (0, [.ref b1, .ref b2, .ref b3, .ref b4, .int (nI v0.1)])), (b1, .inl (cL, 150, .inr (.inl v0.2.1))), (b2, .inl (cI, 150, .inl v0.2.2.1)), (b3, .inl (cL, 150, .inr (.inl v0.2.2.2.1))), (b4, .inl (cI, 150, .inl v0.2.2.2.2))] s.heap := hP
  replace hD : va_D A [(r, .inr (0, [.ref a1, .ref a2, .ref a3, .ref a4, .int (nI w.1)])), (a1, .inl (cL, 150, .inr (.inl w.2.1))), (a2, .inl (cI, 150, .inl w.2.2.1)), (a3, .inl (cL, 150, .inr (.inl w.2.2.2.1))), (a4, .inl (cI, 150, .inl w.2.2.2.2)), (q, .inr (0, [.ref b1, .ref b2, .ref b3, .ref b4, .int (nI v0.1)])), (b1, .inl (cL, 150, .inr (.inl v0.2.1))), (b2, .inl (cI, 150, .inl v0.2.2.1)), (b3, .inl (cL, 150, .inr (.inl v0.2.2.2.1))), (b4, .inl (cI, 150, .inl v0.2.2.2.2))] := hD
  have hl := lv_entry ([.ref r, .ref q]) (n := 2) (Nat.le_of_ble_eq_true rfl)
  rw [lg_entry_eq]
  generalize (lg_sl ([.ref r, .ref q]) ++ List.replicate (2 - (lg_sl ([.ref r, .ref q])).length) Slot.unset).toArray = ls at hl ⊢
  replace hl : lv_has ls 2 [(0, .ref r), (1, .ref q)] := hl
  refine lv_aload_n hx hb dX0_copyFrom_0 rfl (lv_at hl 1 rfl) ?_
  refine va_get (D := (dC, dI)) (ci := 0) (v := .ref b1) (C := RX0) (T := TX0) (N := 5) hx hb hts i_X0_copyFrom_X0 hown hK hP 5 rfl rfl 0 (by decide) (hts (.fieldLink RX0 9 "BlockTree$Rows" "heads" "[J") (by decide +kernel)) (fun _ h9 => h9) rfl dX0_copyFrom_1 ?_
  refine lv_iconst (v := 0) hx hb dX0_copyFrom_4 (by decide) ?_
  refine lv_aload_n hx hb dX0_copyFrom_5 rfl (lv_at hl 0 rfl) ?_
  refine va_get (D := (dC, dI)) (ci := 0) (v := .ref a1) (C := RX0) (T := TX0) (N := 5) hx hb hts i_X0_copyFrom_X0 hown hK hP 0 rfl rfl 0 (by decide) (hts (.fieldLink RX0 9 "BlockTree$Rows" "heads" "[J") (by decide +kernel)) (fun _ h9 => h9) rfl dX0_copyFrom_6 ?_
  refine lv_iconst (v := 0) hx hb dX0_copyFrom_9 (by decide) ?_
  refine lv_aload_n hx hb dX0_copyFrom_10 rfl (lv_at hl 1 rfl) ?_
  refine va_get (D := (dC, dI)) (ci := 0) (v := .int (nI v0.1)) (C := RX0) (T := TX0) (N := 5) hx hb hts i_X0_copyFrom_X0 hown hK hP 5 rfl rfl 4 (by decide) (hts (.fieldLink RX0 25 "BlockTree$Rows" "used" "I") (by decide +kernel)) (fun _ h9 => h9) rfl dX0_copyFrom_11 ?_
  refine va_copyl hx hb (by rw [hml]; exact hl.1.symm) hown (hts (.methodLink RX0 53 arraycopyName) (by decide +kernel)) (hts (.native arraycopyName) (by decide +kernel)) (hts (.static arraycopyName) (by decide +kernel)) (hts (.initialized "java/lang/System") (by decide +kernel)) hK hP hD hS 6 1 0 0 rfl rfl rfl rfl rfl (by decide) (by decide) (nI_pos (by omega)) (by rw [sb_cl0, nI_clamp (show v0.1 < 2 ^ 31 by omega)]; omega) (by rw [sb_cl0, nI_clamp (show v0.1 < 2 ^ 31 by omega)]; omega) (fun _ _ => rfl) (Nat.le_of_ble_eq_true rfl) (Nat.le_of_ble_eq_true rfl) dX0_copyFrom_14 (fun H locs hP hD hS => ?_)
  rw [sb_cl0, nI_clamp (show v0.1 < 2 ^ 31 by omega)] at hP hD
  replace hP : va_P (dC, dI) vwCl [(r, .inr (0, [.ref a1, .ref a2, .ref a3, .ref a4, .int (nI w.1)])), (a1, .inl (cL, 150, .inr (.inl (va_cpy v0.2.1 w.2.1 0 0 v0.1)))), (a2, .inl (cI, 150, .inl w.2.2.1)), (a3, .inl (cL, 150, .inr (.inl w.2.2.2.1))), (a4, .inl (cI, 150, .inl w.2.2.2.2)), (q, .inr (0, [.ref b1, .ref b2, .ref b3, .ref b4, .int (nI v0.1)])), (b1, .inl (cL, 150, .inr (.inl v0.2.1))), (b2, .inl (cI, 150, .inl v0.2.2.1)), (b3, .inl (cL, 150, .inr (.inl v0.2.2.2.1))), (b4, .inl (cI, 150, .inl v0.2.2.2.2))] H := hP
  replace hD : va_D A [(r, .inr (0, [.ref a1, .ref a2, .ref a3, .ref a4, .int (nI w.1)])), (a1, .inl (cL, 150, .inr (.inl (va_cpy v0.2.1 w.2.1 0 0 v0.1)))), (a2, .inl (cI, 150, .inl w.2.2.1)), (a3, .inl (cL, 150, .inr (.inl w.2.2.2.1))), (a4, .inl (cI, 150, .inl w.2.2.2.2)), (q, .inr (0, [.ref b1, .ref b2, .ref b3, .ref b4, .int (nI v0.1)])), (b1, .inl (cL, 150, .inr (.inl v0.2.1))), (b2, .inl (cI, 150, .inl v0.2.2.1)), (b3, .inl (cL, 150, .inr (.inl v0.2.2.2.1))), (b4, .inl (cI, 150, .inl v0.2.2.2.2))] := hD
  refine lv_aload_n hx hb dX0_copyFrom_17 rfl (lv_at hl 1 rfl) ?_
  refine va_get (D := (dC, dI)) (ci := 0) (v := .ref b2) (C := RX0) (T := TX0) (N := 5) hx hb hts i_X0_copyFrom_X0 hown hK hP 5 rfl rfl 1 (by decide) (hts (.fieldLink RX0 15 "BlockTree$Rows" "sizes" "[I") (by decide +kernel)) (fun _ h9 => h9) rfl dX0_copyFrom_18 ?_
  refine lv_iconst (v := 0) hx hb dX0_copyFrom_21 (by decide) ?_
  refine lv_aload_n hx hb dX0_copyFrom_22 rfl (lv_at hl 0 rfl) ?_
  refine va_get (D := (dC, dI)) (ci := 0) (v := .ref a2) (C := RX0) (T := TX0) (N := 5) hx hb hts i_X0_copyFrom_X0 hown hK hP 0 rfl rfl 1 (by decide) (hts (.fieldLink RX0 15 "BlockTree$Rows" "sizes" "[I") (by decide +kernel)) (fun _ h9 => h9) rfl dX0_copyFrom_23 ?_
  refine lv_iconst (v := 0) hx hb dX0_copyFrom_26 (by decide) ?_
  refine lv_aload_n hx hb dX0_copyFrom_27 rfl (lv_at hl 1 rfl) ?_
  refine va_get (D := (dC, dI)) (ci := 0) (v := .int (nI v0.1)) (C := RX0) (T := TX0) (N := 5) hx hb hts i_X0_copyFrom_X0 hown hK hP 5 rfl rfl 4 (by decide) (hts (.fieldLink RX0 25 "BlockTree$Rows" "used" "I") (by decide +kernel)) (fun _ h9 => h9) rfl dX0_copyFrom_28 ?_
  refine va_copyi hx hb (by rw [hml]; exact hl.1.symm) hown (hts (.methodLink RX0 53 arraycopyName) (by decide +kernel)) (hts (.native arraycopyName) (by decide +kernel)) (hts (.static arraycopyName) (by decide +kernel)) (hts (.initialized "java/lang/System") (by decide +kernel)) hK hP hD hS 7 2 1 1 rfl rfl rfl rfl rfl (by decide) (by decide) (nI_pos (by omega)) (by rw [sb_cl0, nI_clamp (show v0.1 < 2 ^ 31 by omega)]; omega) (by rw [sb_cl0, nI_clamp (show v0.1 < 2 ^ 31 by omega)]; omega) (fun _ _ => rfl) (Nat.le_of_ble_eq_true rfl) (Nat.le_of_ble_eq_true rfl) dX0_copyFrom_31 (fun H locs hP hD hS => ?_)
  rw [sb_cl0, nI_clamp (show v0.1 < 2 ^ 31 by omega)] at hP hD
  replace hP : va_P (dC, dI) vwCl [(r, .inr (0, [.ref a1, .ref a2, .ref a3, .ref a4, .int (nI w.1)])), (a1, .inl (cL, 150, .inr (.inl (va_cpy v0.2.1 w.2.1 0 0 v0.1)))), (a2, .inl (cI, 150, .inl (va_cpy v0.2.2.1 w.2.2.1 0 0 v0.1))), (a3, .inl (cL, 150, .inr (.inl w.2.2.2.1))), (a4, .inl (cI, 150, .inl w.2.2.2.2)), (q, .inr (0, [.ref b1, .ref b2, .ref b3, .ref b4, .int (nI v0.1)])), (b1, .inl (cL, 150, .inr (.inl v0.2.1))), (b2, .inl (cI, 150, .inl v0.2.2.1)), (b3, .inl (cL, 150, .inr (.inl v0.2.2.2.1))), (b4, .inl (cI, 150, .inl v0.2.2.2.2))] H := hP
  replace hD : va_D A [(r, .inr (0, [.ref a1, .ref a2, .ref a3, .ref a4, .int (nI w.1)])), (a1, .inl (cL, 150, .inr (.inl (va_cpy v0.2.1 w.2.1 0 0 v0.1)))), (a2, .inl (cI, 150, .inl (va_cpy v0.2.2.1 w.2.2.1 0 0 v0.1))), (a3, .inl (cL, 150, .inr (.inl w.2.2.2.1))), (a4, .inl (cI, 150, .inl w.2.2.2.2)), (q, .inr (0, [.ref b1, .ref b2, .ref b3, .ref b4, .int (nI v0.1)])), (b1, .inl (cL, 150, .inr (.inl v0.2.1))), (b2, .inl (cI, 150, .inl v0.2.2.1)), (b3, .inl (cL, 150, .inr (.inl v0.2.2.2.1))), (b4, .inl (cI, 150, .inl v0.2.2.2.2))] := hD
  refine lv_aload_n hx hb dX0_copyFrom_34 rfl (lv_at hl 1 rfl) ?_
  refine va_get (D := (dC, dI)) (ci := 0) (v := .ref b3) (C := RX0) (T := TX0) (N := 5) hx hb hts i_X0_copyFrom_X0 hown hK hP 5 rfl rfl 2 (by decide) (hts (.fieldLink RX0 19 "BlockTree$Rows" "texts" "[J") (by decide +kernel)) (fun _ h9 => h9) rfl dX0_copyFrom_35 ?_
  refine lv_iconst (v := 0) hx hb dX0_copyFrom_38 (by decide) ?_
  refine lv_aload_n hx hb dX0_copyFrom_39 rfl (lv_at hl 0 rfl) ?_
  refine va_get (D := (dC, dI)) (ci := 0) (v := .ref a3) (C := RX0) (T := TX0) (N := 5) hx hb hts i_X0_copyFrom_X0 hown hK hP 0 rfl rfl 2 (by decide) (hts (.fieldLink RX0 19 "BlockTree$Rows" "texts" "[J") (by decide +kernel)) (fun _ h9 => h9) rfl dX0_copyFrom_40 ?_
  refine lv_iconst (v := 0) hx hb dX0_copyFrom_43 (by decide) ?_
  refine lv_aload_n hx hb dX0_copyFrom_44 rfl (lv_at hl 1 rfl) ?_
  refine va_get (D := (dC, dI)) (ci := 0) (v := .int (nI v0.1)) (C := RX0) (T := TX0) (N := 5) hx hb hts i_X0_copyFrom_X0 hown hK hP 5 rfl rfl 4 (by decide) (hts (.fieldLink RX0 25 "BlockTree$Rows" "used" "I") (by decide +kernel)) (fun _ h9 => h9) rfl dX0_copyFrom_45 ?_
  refine va_copyl hx hb (by rw [hml]; exact hl.1.symm) hown (hts (.methodLink RX0 53 arraycopyName) (by decide +kernel)) (hts (.native arraycopyName) (by decide +kernel)) (hts (.static arraycopyName) (by decide +kernel)) (hts (.initialized "java/lang/System") (by decide +kernel)) hK hP hD hS 8 3 0 0 rfl rfl rfl rfl rfl (by decide) (by decide) (nI_pos (by omega)) (by rw [sb_cl0, nI_clamp (show v0.1 < 2 ^ 31 by omega)]; omega) (by rw [sb_cl0, nI_clamp (show v0.1 < 2 ^ 31 by omega)]; omega) (fun _ _ => rfl) (Nat.le_of_ble_eq_true rfl) (Nat.le_of_ble_eq_true rfl) dX0_copyFrom_48 (fun H locs hP hD hS => ?_)
  rw [sb_cl0, nI_clamp (show v0.1 < 2 ^ 31 by omega)] at hP hD
  replace hP : va_P (dC, dI) vwCl [(r, .inr (0, [.ref a1, .ref a2, .ref a3, .ref a4, .int (nI w.1)])), (a1, .inl (cL, 150, .inr (.inl (va_cpy v0.2.1 w.2.1 0 0 v0.1)))), (a2, .inl (cI, 150, .inl (va_cpy v0.2.2.1 w.2.2.1 0 0 v0.1))), (a3, .inl (cL, 150, .inr (.inl (va_cpy v0.2.2.2.1 w.2.2.2.1 0 0 v0.1)))), (a4, .inl (cI, 150, .inl w.2.2.2.2)), (q, .inr (0, [.ref b1, .ref b2, .ref b3, .ref b4, .int (nI v0.1)])), (b1, .inl (cL, 150, .inr (.inl v0.2.1))), (b2, .inl (cI, 150, .inl v0.2.2.1)), (b3, .inl (cL, 150, .inr (.inl v0.2.2.2.1))), (b4, .inl (cI, 150, .inl v0.2.2.2.2))] H := hP
  replace hD : va_D A [(r, .inr (0, [.ref a1, .ref a2, .ref a3, .ref a4, .int (nI w.1)])), (a1, .inl (cL, 150, .inr (.inl (va_cpy v0.2.1 w.2.1 0 0 v0.1)))), (a2, .inl (cI, 150, .inl (va_cpy v0.2.2.1 w.2.2.1 0 0 v0.1))), (a3, .inl (cL, 150, .inr (.inl (va_cpy v0.2.2.2.1 w.2.2.2.1 0 0 v0.1)))), (a4, .inl (cI, 150, .inl w.2.2.2.2)), (q, .inr (0, [.ref b1, .ref b2, .ref b3, .ref b4, .int (nI v0.1)])), (b1, .inl (cL, 150, .inr (.inl v0.2.1))), (b2, .inl (cI, 150, .inl v0.2.2.1)), (b3, .inl (cL, 150, .inr (.inl v0.2.2.2.1))), (b4, .inl (cI, 150, .inl v0.2.2.2.2))] := hD
  refine lv_aload_n hx hb dX0_copyFrom_51 rfl (lv_at hl 1 rfl) ?_
  refine va_get (D := (dC, dI)) (ci := 0) (v := .ref b4) (C := RX0) (T := TX0) (N := 5) hx hb hts i_X0_copyFrom_X0 hown hK hP 5 rfl rfl 3 (by decide) (hts (.fieldLink RX0 22 "BlockTree$Rows" "lengths" "[I") (by decide +kernel)) (fun _ h9 => h9) rfl dX0_copyFrom_52 ?_
  refine lv_iconst (v := 0) hx hb dX0_copyFrom_55 (by decide) ?_
  refine lv_aload_n hx hb dX0_copyFrom_56 rfl (lv_at hl 0 rfl) ?_
  refine va_get (D := (dC, dI)) (ci := 0) (v := .ref a4) (C := RX0) (T := TX0) (N := 5) hx hb hts i_X0_copyFrom_X0 hown hK hP 0 rfl rfl 3 (by decide) (hts (.fieldLink RX0 22 "BlockTree$Rows" "lengths" "[I") (by decide +kernel)) (fun _ h9 => h9) rfl dX0_copyFrom_57 ?_
  refine lv_iconst (v := 0) hx hb dX0_copyFrom_60 (by decide) ?_
  refine lv_aload_n hx hb dX0_copyFrom_61 rfl (lv_at hl 1 rfl) ?_
  refine va_get (D := (dC, dI)) (ci := 0) (v := .int (nI v0.1)) (C := RX0) (T := TX0) (N := 5) hx hb hts i_X0_copyFrom_X0 hown hK hP 5 rfl rfl 4 (by decide) (hts (.fieldLink RX0 25 "BlockTree$Rows" "used" "I") (by decide +kernel)) (fun _ h9 => h9) rfl dX0_copyFrom_62 ?_
  refine va_copyi hx hb (by rw [hml]; exact hl.1.symm) hown (hts (.methodLink RX0 53 arraycopyName) (by decide +kernel)) (hts (.native arraycopyName) (by decide +kernel)) (hts (.static arraycopyName) (by decide +kernel)) (hts (.initialized "java/lang/System") (by decide +kernel)) hK hP hD hS 9 4 1 1 rfl rfl rfl rfl rfl (by decide) (by decide) (nI_pos (by omega)) (by rw [sb_cl0, nI_clamp (show v0.1 < 2 ^ 31 by omega)]; omega) (by rw [sb_cl0, nI_clamp (show v0.1 < 2 ^ 31 by omega)]; omega) (fun _ _ => rfl) (Nat.le_of_ble_eq_true rfl) (Nat.le_of_ble_eq_true rfl) dX0_copyFrom_65 (fun H locs hP hD hS => ?_)
  rw [sb_cl0, nI_clamp (show v0.1 < 2 ^ 31 by omega)] at hP hD
  replace hP : va_P (dC, dI) vwCl [(r, .inr (0, [.ref a1, .ref a2, .ref a3, .ref a4, .int (nI w.1)])), (a1, .inl (cL, 150, .inr (.inl (va_cpy v0.2.1 w.2.1 0 0 v0.1)))), (a2, .inl (cI, 150, .inl (va_cpy v0.2.2.1 w.2.2.1 0 0 v0.1))), (a3, .inl (cL, 150, .inr (.inl (va_cpy v0.2.2.2.1 w.2.2.2.1 0 0 v0.1)))), (a4, .inl (cI, 150, .inl (va_cpy v0.2.2.2.2 w.2.2.2.2 0 0 v0.1))), (q, .inr (0, [.ref b1, .ref b2, .ref b3, .ref b4, .int (nI v0.1)])), (b1, .inl (cL, 150, .inr (.inl v0.2.1))), (b2, .inl (cI, 150, .inl v0.2.2.1)), (b3, .inl (cL, 150, .inr (.inl v0.2.2.2.1))), (b4, .inl (cI, 150, .inl v0.2.2.2.2))] H := hP
  replace hD : va_D A [(r, .inr (0, [.ref a1, .ref a2, .ref a3, .ref a4, .int (nI w.1)])), (a1, .inl (cL, 150, .inr (.inl (va_cpy v0.2.1 w.2.1 0 0 v0.1)))), (a2, .inl (cI, 150, .inl (va_cpy v0.2.2.1 w.2.2.1 0 0 v0.1))), (a3, .inl (cL, 150, .inr (.inl (va_cpy v0.2.2.2.1 w.2.2.2.1 0 0 v0.1)))), (a4, .inl (cI, 150, .inl (va_cpy v0.2.2.2.2 w.2.2.2.2 0 0 v0.1))), (q, .inr (0, [.ref b1, .ref b2, .ref b3, .ref b4, .int (nI v0.1)])), (b1, .inl (cL, 150, .inr (.inl v0.2.1))), (b2, .inl (cI, 150, .inl v0.2.2.1)), (b3, .inl (cL, 150, .inr (.inl v0.2.2.2.1))), (b4, .inl (cI, 150, .inl v0.2.2.2.2))] := hD
  refine lv_aload_n hx hb dX0_copyFrom_68 rfl (lv_at hl 0 rfl) ?_
  refine lv_aload_n hx hb dX0_copyFrom_69 rfl (lv_at hl 1 rfl) ?_
  refine va_get (D := (dC, dI)) (ci := 0) (v := .int (nI v0.1)) (C := RX0) (T := TX0) (N := 5) hx hb hts i_X0_copyFrom_X0 hown hK hP 5 rfl rfl 4 (by decide) (hts (.fieldLink RX0 25 "BlockTree$Rows" "used" "I") (by decide +kernel)) (fun _ h9 => h9) rfl dX0_copyFrom_70 ?_
  refine va_put (D := (dC, dI)) (ci := 0) (v := .int (nI v0.1)) (ty := .int) (C := RX0) (T := TX0) (N := 5) hx hb hts i_X0_copyFrom_X0 tyX0 tyX0_ok nmX0 hown hK hP hD hS 0 rfl rfl 4 (by decide) (hts (.fieldLink RX0 25 "BlockTree$Rows" "used" "I") (by decide +kernel)) (fun _ h9 => h9) rfl (by decide +kernel) rfl rfl (Nat.le_of_ble_eq_true rfl) dX0_copyFrom_73 (fun H locs hP hD hS => ?_)
  replace hP : va_P (dC, dI) vwCl [(r, .inr (0, [.ref a1, .ref a2, .ref a3, .ref a4, .int (nI v0.1)])), (a1, .inl (cL, 150, .inr (.inl (va_cpy v0.2.1 w.2.1 0 0 v0.1)))), (a2, .inl (cI, 150, .inl (va_cpy v0.2.2.1 w.2.2.1 0 0 v0.1))), (a3, .inl (cL, 150, .inr (.inl (va_cpy v0.2.2.2.1 w.2.2.2.1 0 0 v0.1)))), (a4, .inl (cI, 150, .inl (va_cpy v0.2.2.2.2 w.2.2.2.2 0 0 v0.1))), (q, .inr (0, [.ref b1, .ref b2, .ref b3, .ref b4, .int (nI v0.1)])), (b1, .inl (cL, 150, .inr (.inl v0.2.1))), (b2, .inl (cI, 150, .inl v0.2.2.1)), (b3, .inl (cL, 150, .inr (.inl v0.2.2.2.1))), (b4, .inl (cI, 150, .inl v0.2.2.2.2))] H := hP
  replace hD : va_D A [(r, .inr (0, [.ref a1, .ref a2, .ref a3, .ref a4, .int (nI v0.1)])), (a1, .inl (cL, 150, .inr (.inl (va_cpy v0.2.1 w.2.1 0 0 v0.1)))), (a2, .inl (cI, 150, .inl (va_cpy v0.2.2.1 w.2.2.1 0 0 v0.1))), (a3, .inl (cL, 150, .inr (.inl (va_cpy v0.2.2.2.1 w.2.2.2.1 0 0 v0.1)))), (a4, .inl (cI, 150, .inl (va_cpy v0.2.2.2.2 w.2.2.2.2 0 0 v0.1))), (q, .inr (0, [.ref b1, .ref b2, .ref b3, .ref b4, .int (nI v0.1)])), (b1, .inl (cL, 150, .inr (.inl v0.2.1))), (b2, .inl (cI, 150, .inl v0.2.2.1)), (b3, .inl (cL, 150, .inr (.inl v0.2.2.2.1))), (b4, .inl (cI, 150, .inl v0.2.2.2.2))] := hD
  exact W.vret hx hb hr (fun t9 ht hW => ⟨⟨rs_cpy v0 w, rfl, rfl, by rw [ht]; exact hP, hD⟩, hS.F ht⟩) hS.2.2 dX0_copyFrom_76
end
section
set_option maxHeartbeats 4000000 in
set_option maxRecDepth 100000 in
/-- set -/
theorem c_set (l : Launch) (dC : Nat → ClassId) (dI : Nat → Nat → Nat) (hz : Nat) (cL cI : ClassId) (r a1 a2 a3 a4 : Nat) (u : Nat) (hd : Nat → Int64) (sz : Nat → Int32) (tx : Nat → Int64) (ln : Nat → Int32) (hu : u ≤ 150) (h : Int64) (t : Int32) (x : Int64) (n : Int32) (j : Nat) (hj : spl u hd sz h t j) (hju : j ≤ u) : Met l yX0_set wsX0_set ({ frames := 3, cells := 0, slots := 0, locals := 70 }) (wrP (dC, dI) (kS cL cI) (rW cL cI r a1 a2 a3 a4 (u, hd, sz, tx, ln)) [.ref r, .long h, .int t, .long x, .int n] hz) (va_Qi (fun (z : Int32) (v : RS) => setQ (u, hd, sz, tx, ln) j h t x n z v) (wrB (dC, dI) (va_A (rW cL cI r a1 a2 a3 a4 (u, hd, sz, tx, ln)) hz) (fun (v : RS) => rW cL cI r a1 a2 a3 a4 v)) (va_A (rW cL cI r a1 a2 a3 a4 (u, hd, sz, tx, ln)) hz)) 0 0 (va_A (rW cL cI r a1 a2 a3 a4 (u, hd, sz, tx, ln)) hz) := by
  refine Met.ofW (cc := cX0_set) (maxL := 8) (ret := some .boolean) (by decide) rfl ?_
  intro p e s m args below meth c s₁ B hml hv
  obtain ⟨rfl, hsz, hP, hK, hD0⟩ := hv
  have hx := B.exec
  have hb := B.bytes
  have hr := B.returns
  have hts := atoms_spec (ws := wsX0_set) B.pre
  have hown : s.vm.findClass RX0 = some m.cls := findClass_of_methodNamed B.named
  have hlocks := B.notSynchronized
  subst hsz
  have hD := hD0.self (sz := s.heap.size)
  generalize hAe : va_A (rW cL cI r a1 a2 a3 a4 (u, hd, sz, tx, ln)) s.heap.size = A at hD ⊢
  have hA : ∀ q : Nat, s.heap.size ≤ q → A q := fun q h => by rw [← hAe]; exact Or.inr h
  have hS : va_S A s.heap s.heap [] := va_S.rf
  replace hP : va_P (dC, dI) vwCl [(r, .inr (0, [.ref a1, .ref a2, .ref a3, .ref a4, .int (nI u)])), (a1, .inl (cL, 150, .inr (.inl hd))), (a2, .inl (cI, 150, .inl sz)), (a3, .inl (cL, 150, .inr (.inl tx))), (a4, .inl (cI, 150, .inl ln))] s.heap := hP
  replace hD : va_D A [(r, .inr (0, [.ref a1, .ref a2, .ref a3, .ref a4, .int (nI u)])), (a1, .inl (cL, 150, .inr (.inl hd))), (a2, .inl (cI, 150, .inl sz)), (a3, .inl (cL, 150, .inr (.inl tx))), (a4, .inl (cI, 150, .inl ln))] := hD
  have hl := lv_entry ([.ref r, .long h, .int t, .long x, .int n]) (n := 8) (Nat.le_of_ble_eq_true rfl)
  rw [lg_entry_eq]
  generalize (lg_sl ([.ref r, .long h, .int t, .long x, .int n]) ++ List.replicate (8 - (lg_sl ([.ref r, .long h, .int t, .long x, .int n])).length) Slot.unset).toArray = ls at hl ⊢
  replace hl : lv_has ls 8 [(0, .ref r), (1, .long h), (3, .int t), (4, .long x), (6, .int n)] := hl
  refine lv_aload_n hx hb dX0_set_0 rfl (lv_at hl 0 rfl) ?_
  refine lv_lload_n hx hb dX0_set_1 rfl (lv_at hl 1 rfl) ?_
  refine lv_iload_n hx hb dX0_set_2 rfl (lv_at hl 2 rfl) ?_
  refine vp_callSi (va_Run.run (va_runV (As := [.long h, .int t]) (rest := []) ⟨hx, hb, hml, hown, hts⟩ (c_firstNotBefore l dC dI cL cI r a1 a2 a3 a4 u hd sz hu h t j hj) (cwV 2 hts gX0_set_X0_firstNotBefore rfl rfl rfl (by decide +kernel) ⟨Nat.le_of_ble_eq_true rfl, Nat.le_of_ble_eq_true rfl⟩) (rd_preV hK (hP.sub (ws' := [(r, .inr (0, [.ref a1, .ref a2, .ref a3, .ref a4, .int (nI u)])), (a1, .inl (cL, 150, .inr (.inl hd))), (a2, .inl (cI, 150, .inl sz))]) [0, 1, 2] rfl) (ci := 0) (q0 := 0) rfl rfl) rfl rfl hl.1 rfl (lv_room (Nat.le_of_ble_eq_true rfl)) dX0_set_3 ⟨Nat.le_of_ble_eq_true rfl, Nat.le_of_ble_eq_true rfl⟩)) (fun r1 hr1 => ?_)
  subst hr1
  refine lv_istore (lv' := [(7, .int (nI j)), (0, .ref r), (1, .long h), (3, .int t), (4, .long x), (6, .int n)]) hx hb dX0_set_6 hl (by decide) rfl (fun ls hl => ?_)
  refine lv_aload_n hx hb dX0_set_8 rfl (lv_at hl 1 rfl) ?_
  refine lv_iload hx hb dX0_set_9 (lv_at hl 0 rfl) ?_
  refine lv_lload_n hx hb dX0_set_11 rfl (lv_at hl 2 rfl) ?_
  refine lv_iload_n hx hb dX0_set_12 rfl (lv_at hl 3 rfl) ?_
  refine vp_callSi (va_Run.run (va_runV (As := [.int (nI j), .long h, .int t]) (rest := []) ⟨hx, hb, hml, hown, hts⟩ (c_holds l dC dI cL cI r a1 a2 a3 a4 u hd sz hu (nI j) h t) (cwV 3 hts gX0_set_X0_holds rfl rfl rfl (by decide +kernel) ⟨Nat.le_of_ble_eq_true rfl, Nat.le_of_ble_eq_true rfl⟩) (rd_preV hK (hP.sub (ws' := [(r, .inr (0, [.ref a1, .ref a2, .ref a3, .ref a4, .int (nI u)])), (a1, .inl (cL, 150, .inr (.inl hd))), (a2, .inl (cI, 150, .inl sz))]) [0, 1, 2] rfl) (ci := 0) (q0 := 0) rfl rfl) rfl rfl hl.1 rfl (lv_room (Nat.le_of_ble_eq_true rfl)) dX0_set_13 ⟨Nat.le_of_ble_eq_true rfl, Nat.le_of_ble_eq_true rfl⟩)) (fun r2 hr2 => ?_)
  rcases hr2 with ⟨rfl, i, hi, ei, hh1, hh2⟩ | ⟨rfl, hno⟩
  · skip
    obtain rfl : j = i := nI_inj hu hi ei (by omega)
    have hh : hld u hd sz j h t := ⟨hi, hh1, hh2⟩
    have hj150 : j < 150 := by omega
    refine lv_if_ne (tgt := 30) hx hb dX0_set_16 (by decide) (fun c_16 => ?_) (fun c_16 => absurd c_16 (by decide))
    refine lv_aload_n hx hb dX0_set_30 rfl (lv_at hl 1 rfl) ?_
    refine va_get (D := (dC, dI)) (ci := 0) (v := .ref a1) (C := RX0) (T := TX0) (N := 5) hx hb hts i_X0_set_X0 hown hK hP 0 rfl rfl 0 (by decide) (hts (.fieldLink RX0 9 "BlockTree$Rows" "heads" "[J") (by decide +kernel)) (fun _ h9 => h9) rfl dX0_set_31 ?_
    refine lv_iload hx hb dX0_set_34 (lv_at hl 0 rfl) ?_
    refine lv_lload_n hx hb dX0_set_36 rfl (lv_at hl 2 rfl) ?_
    refine va_last hx hb hK hP hD hS 1 0 rfl rfl (vp_in_nI (by omega) (by omega)) dX0_set_37 (fun H locs hP hD hS => ?_)
    rw [show ((nI j)).toNatClampNeg = j from (nI_clamp (by omega))] at hP hD
    replace hP : va_P (dC, dI) vwCl [(r, .inr (0, [.ref a1, .ref a2, .ref a3, .ref a4, .int (nI u)])), (a1, .inl (cL, 150, .inr (.inl (vp_updL hd j h)))), (a2, .inl (cI, 150, .inl sz)), (a3, .inl (cL, 150, .inr (.inl tx))), (a4, .inl (cI, 150, .inl ln))] H := hP
    replace hD : va_D A [(r, .inr (0, [.ref a1, .ref a2, .ref a3, .ref a4, .int (nI u)])), (a1, .inl (cL, 150, .inr (.inl (vp_updL hd j h)))), (a2, .inl (cI, 150, .inl sz)), (a3, .inl (cL, 150, .inr (.inl tx))), (a4, .inl (cI, 150, .inl ln))] := hD
    refine lv_aload_n hx hb dX0_set_38 rfl (lv_at hl 1 rfl) ?_
    refine va_get (D := (dC, dI)) (ci := 0) (v := .ref a2) (C := RX0) (T := TX0) (N := 5) hx hb hts i_X0_set_X0 hown hK hP 0 rfl rfl 1 (by decide) (hts (.fieldLink RX0 15 "BlockTree$Rows" "sizes" "[I") (by decide +kernel)) (fun _ h9 => h9) rfl dX0_set_39 ?_
    refine lv_iload hx hb dX0_set_42 (lv_at hl 0 rfl) ?_
    refine lv_iload_n hx hb dX0_set_44 rfl (lv_at hl 3 rfl) ?_
    refine va_iast hx hb hK hP hD hS 2 1 rfl rfl (vp_in_nI (by omega) (by omega)) dX0_set_45 (fun H locs hP hD hS => ?_)
    rw [show ((nI j)).toNatClampNeg = j from (nI_clamp (by omega))] at hP hD
    replace hP : va_P (dC, dI) vwCl [(r, .inr (0, [.ref a1, .ref a2, .ref a3, .ref a4, .int (nI u)])), (a1, .inl (cL, 150, .inr (.inl (vp_updL hd j h)))), (a2, .inl (cI, 150, .inl (upd sz j t))), (a3, .inl (cL, 150, .inr (.inl tx))), (a4, .inl (cI, 150, .inl ln))] H := hP
    replace hD : va_D A [(r, .inr (0, [.ref a1, .ref a2, .ref a3, .ref a4, .int (nI u)])), (a1, .inl (cL, 150, .inr (.inl (vp_updL hd j h)))), (a2, .inl (cI, 150, .inl (upd sz j t))), (a3, .inl (cL, 150, .inr (.inl tx))), (a4, .inl (cI, 150, .inl ln))] := hD
    refine lv_aload_n hx hb dX0_set_46 rfl (lv_at hl 1 rfl) ?_
    refine va_get (D := (dC, dI)) (ci := 0) (v := .ref a3) (C := RX0) (T := TX0) (N := 5) hx hb hts i_X0_set_X0 hown hK hP 0 rfl rfl 2 (by decide) (hts (.fieldLink RX0 19 "BlockTree$Rows" "texts" "[J") (by decide +kernel)) (fun _ h9 => h9) rfl dX0_set_47 ?_
    refine lv_iload hx hb dX0_set_50 (lv_at hl 0 rfl) ?_
    refine lv_lload hx hb dX0_set_52 (lv_at hl 4 rfl) ?_
    refine va_last hx hb hK hP hD hS 3 0 rfl rfl (vp_in_nI (by omega) (by omega)) dX0_set_54 (fun H locs hP hD hS => ?_)
    rw [show ((nI j)).toNatClampNeg = j from (nI_clamp (by omega))] at hP hD
    replace hP : va_P (dC, dI) vwCl [(r, .inr (0, [.ref a1, .ref a2, .ref a3, .ref a4, .int (nI u)])), (a1, .inl (cL, 150, .inr (.inl (vp_updL hd j h)))), (a2, .inl (cI, 150, .inl (upd sz j t))), (a3, .inl (cL, 150, .inr (.inl (vp_updL tx j x)))), (a4, .inl (cI, 150, .inl ln))] H := hP
    replace hD : va_D A [(r, .inr (0, [.ref a1, .ref a2, .ref a3, .ref a4, .int (nI u)])), (a1, .inl (cL, 150, .inr (.inl (vp_updL hd j h)))), (a2, .inl (cI, 150, .inl (upd sz j t))), (a3, .inl (cL, 150, .inr (.inl (vp_updL tx j x)))), (a4, .inl (cI, 150, .inl ln))] := hD
    refine lv_aload_n hx hb dX0_set_55 rfl (lv_at hl 1 rfl) ?_
    refine va_get (D := (dC, dI)) (ci := 0) (v := .ref a4) (C := RX0) (T := TX0) (N := 5) hx hb hts i_X0_set_X0 hown hK hP 0 rfl rfl 3 (by decide) (hts (.fieldLink RX0 22 "BlockTree$Rows" "lengths" "[I") (by decide +kernel)) (fun _ h9 => h9) rfl dX0_set_56 ?_
    refine lv_iload hx hb dX0_set_59 (lv_at hl 0 rfl) ?_
    refine lv_iload hx hb dX0_set_61 (lv_at hl 5 rfl) ?_
    refine va_iast hx hb hK hP hD hS 4 1 rfl rfl (vp_in_nI (by omega) (by omega)) dX0_set_63 (fun H locs hP hD hS => ?_)
    rw [show ((nI j)).toNatClampNeg = j from (nI_clamp (by omega))] at hP hD
    replace hP : va_P (dC, dI) vwCl [(r, .inr (0, [.ref a1, .ref a2, .ref a3, .ref a4, .int (nI u)])), (a1, .inl (cL, 150, .inr (.inl (vp_updL hd j h)))), (a2, .inl (cI, 150, .inl (upd sz j t))), (a3, .inl (cL, 150, .inr (.inl (vp_updL tx j x)))), (a4, .inl (cI, 150, .inl (upd ln j n)))] H := hP
    replace hD : va_D A [(r, .inr (0, [.ref a1, .ref a2, .ref a3, .ref a4, .int (nI u)])), (a1, .inl (cL, 150, .inr (.inl (vp_updL hd j h)))), (a2, .inl (cI, 150, .inl (upd sz j t))), (a3, .inl (cL, 150, .inr (.inl (vp_updL tx j x)))), (a4, .inl (cI, 150, .inl (upd ln j n)))] := hD
    refine lv_iconst (v := 1) hx hb dX0_set_64 (by decide) ?_
    exact W.zret (v := 1) hx hb hr (by first | rfl | decide +kernel | assumption) (fun t9 ht hW => ⟨⟨1, rs_put (u, hd, sz, tx, ln) j h t x n, rfl, Or.inl ⟨hh, rfl, rfl⟩, by rw [ht]; exact hP, hD⟩, hS.F ht⟩) hS.2.2 dX0_set_65
  · skip
    have hh : ¬ hld u hd sz j h t := fun q => hno ⟨j, q.1, rfl, q.2.1, q.2.2⟩
    refine lv_if_ne (tgt := 30) hx hb dX0_set_16 (by decide) (fun c_16 => absurd c_16 (by decide)) (fun c_16 => ?_)
    refine lv_aload_n hx hb dX0_set_19 rfl (lv_at hl 1 rfl) ?_
    refine lv_iload hx hb dX0_set_20 (lv_at hl 0 rfl) ?_
    refine wr_calli (wr := []) (va_runV (As := [.int (nI j)]) (rest := []) ⟨hx, hb, hml, hown, hts⟩ (c_makeRoom l dC dI _ cL cI r a1 a2 a3 a4 u hd sz tx ln hu j hju) (cwV 1 hts gX0_set_X0_makeRoom rfl rfl rfl (by decide +kernel) ⟨Nat.le_of_ble_eq_true rfl, Nat.le_of_ble_eq_true rfl⟩) (wr_preV hK (hP.sub (ws' := [(r, .inr (0, [.ref a1, .ref a2, .ref a3, .ref a4, .int (nI u)])), (a1, .inl (cL, 150, .inr (.inl hd))), (a2, .inl (cI, 150, .inl sz)), (a3, .inl (cL, 150, .inr (.inl tx))), (a4, .inl (cI, 150, .inl ln))]) [0, 1, 2, 3, 4] rfl) (hD.sub (ws' := [(r, .inr (0, [.ref a1, .ref a2, .ref a3, .ref a4, .int (nI u)])), (a1, .inl (cL, 150, .inr (.inl hd))), (a2, .inl (cI, 150, .inl sz)), (a3, .inl (cL, 150, .inr (.inl tx))), (a4, .inl (cI, 150, .inl ln))]) [0, 1, 2, 3, 4] (by decide) rfl) (ci := 0) (q0 := 0) rfl rfl) rfl rfl hl.1 rfl (lv_room (Nat.le_of_ble_eq_true rfl)) dX0_set_22 ⟨Nat.le_of_ble_eq_true rfl, Nat.le_of_ble_eq_true rfl⟩) hP hD hS hA [0, 1, 2, 3, 4] [] rfl rfl (by decide) (by decide) (fun r3 u_ H locs hr3 hP hD hS => ?_)
    replace hP := hP.sub (ws' := [(r, .inr (0, [.ref a1, .ref a2, .ref a3, .ref a4, .int (nI u_.1)])), (a1, .inl (cL, 150, .inr (.inl u_.2.1))), (a2, .inl (cI, 150, .inl u_.2.2.1)), (a3, .inl (cL, 150, .inr (.inl u_.2.2.2.1))), (a4, .inl (cI, 150, .inl u_.2.2.2.2))]) [0, 1, 2, 3, 4] rfl
    replace hD := hD.sub (ws' := [(r, .inr (0, [.ref a1, .ref a2, .ref a3, .ref a4, .int (nI u_.1)])), (a1, .inl (cL, 150, .inr (.inl u_.2.1))), (a2, .inl (cI, 150, .inl u_.2.2.1)), (a3, .inl (cL, 150, .inr (.inl u_.2.2.2.1))), (a4, .inl (cI, 150, .inl u_.2.2.2.2))]) [0, 1, 2, 3, 4] (by decide) rfl
    rcases hr3 with ⟨hlt, rfl, rfl⟩ | ⟨hlt, rfl, rfl⟩
    · skip
      have hj150 : j < 150 := by omega
      replace hP : va_P (dC, dI) vwCl [(r, .inr (0, [.ref a1, .ref a2, .ref a3, .ref a4, .int (nI (u + 1))])), (a1, .inl (cL, 150, .inr (.inl (opn hd j u)))), (a2, .inl (cI, 150, .inl (opn sz j u))), (a3, .inl (cL, 150, .inr (.inl (opn tx j u)))), (a4, .inl (cI, 150, .inl (opn ln j u)))] H := hP
      replace hD : va_D A [(r, .inr (0, [.ref a1, .ref a2, .ref a3, .ref a4, .int (nI (u + 1))])), (a1, .inl (cL, 150, .inr (.inl (opn hd j u)))), (a2, .inl (cI, 150, .inl (opn sz j u))), (a3, .inl (cL, 150, .inr (.inl (opn tx j u)))), (a4, .inl (cI, 150, .inl (opn ln j u)))] := hD
      refine lv_if_ne (tgt := 30) hx hb dX0_set_25 (by decide) (fun c_25 => ?_) (fun c_25 => absurd c_25 (by decide))
      refine lv_aload_n hx hb dX0_set_30 rfl (lv_at hl 1 rfl) ?_
      refine va_get (D := (dC, dI)) (ci := 0) (v := .ref a1) (C := RX0) (T := TX0) (N := 5) hx hb hts i_X0_set_X0 hown hK hP 0 rfl rfl 0 (by decide) (hts (.fieldLink RX0 9 "BlockTree$Rows" "heads" "[J") (by decide +kernel)) (fun _ h9 => h9) rfl dX0_set_31 ?_
      refine lv_iload hx hb dX0_set_34 (lv_at hl 0 rfl) ?_
      refine lv_lload_n hx hb dX0_set_36 rfl (lv_at hl 2 rfl) ?_
      refine va_last hx hb hK hP hD hS 1 0 rfl rfl (vp_in_nI (by omega) (by omega)) dX0_set_37 (fun H locs hP hD hS => ?_)
      rw [show ((nI j)).toNatClampNeg = j from (nI_clamp (by omega))] at hP hD
      replace hP : va_P (dC, dI) vwCl [(r, .inr (0, [.ref a1, .ref a2, .ref a3, .ref a4, .int (nI (u + 1))])), (a1, .inl (cL, 150, .inr (.inl (vp_updL (opn hd j u) j h)))), (a2, .inl (cI, 150, .inl (opn sz j u))), (a3, .inl (cL, 150, .inr (.inl (opn tx j u)))), (a4, .inl (cI, 150, .inl (opn ln j u)))] H := hP
      replace hD : va_D A [(r, .inr (0, [.ref a1, .ref a2, .ref a3, .ref a4, .int (nI (u + 1))])), (a1, .inl (cL, 150, .inr (.inl (vp_updL (opn hd j u) j h)))), (a2, .inl (cI, 150, .inl (opn sz j u))), (a3, .inl (cL, 150, .inr (.inl (opn tx j u)))), (a4, .inl (cI, 150, .inl (opn ln j u)))] := hD
      refine lv_aload_n hx hb dX0_set_38 rfl (lv_at hl 1 rfl) ?_
      refine va_get (D := (dC, dI)) (ci := 0) (v := .ref a2) (C := RX0) (T := TX0) (N := 5) hx hb hts i_X0_set_X0 hown hK hP 0 rfl rfl 1 (by decide) (hts (.fieldLink RX0 15 "BlockTree$Rows" "sizes" "[I") (by decide +kernel)) (fun _ h9 => h9) rfl dX0_set_39 ?_
      refine lv_iload hx hb dX0_set_42 (lv_at hl 0 rfl) ?_
      refine lv_iload_n hx hb dX0_set_44 rfl (lv_at hl 3 rfl) ?_
      refine va_iast hx hb hK hP hD hS 2 1 rfl rfl (vp_in_nI (by omega) (by omega)) dX0_set_45 (fun H locs hP hD hS => ?_)
      rw [show ((nI j)).toNatClampNeg = j from (nI_clamp (by omega))] at hP hD
      replace hP : va_P (dC, dI) vwCl [(r, .inr (0, [.ref a1, .ref a2, .ref a3, .ref a4, .int (nI (u + 1))])), (a1, .inl (cL, 150, .inr (.inl (vp_updL (opn hd j u) j h)))), (a2, .inl (cI, 150, .inl (upd (opn sz j u) j t))), (a3, .inl (cL, 150, .inr (.inl (opn tx j u)))), (a4, .inl (cI, 150, .inl (opn ln j u)))] H := hP
      replace hD : va_D A [(r, .inr (0, [.ref a1, .ref a2, .ref a3, .ref a4, .int (nI (u + 1))])), (a1, .inl (cL, 150, .inr (.inl (vp_updL (opn hd j u) j h)))), (a2, .inl (cI, 150, .inl (upd (opn sz j u) j t))), (a3, .inl (cL, 150, .inr (.inl (opn tx j u)))), (a4, .inl (cI, 150, .inl (opn ln j u)))] := hD
      refine lv_aload_n hx hb dX0_set_46 rfl (lv_at hl 1 rfl) ?_
      refine va_get (D := (dC, dI)) (ci := 0) (v := .ref a3) (C := RX0) (T := TX0) (N := 5) hx hb hts i_X0_set_X0 hown hK hP 0 rfl rfl 2 (by decide) (hts (.fieldLink RX0 19 "BlockTree$Rows" "texts" "[J") (by decide +kernel)) (fun _ h9 => h9) rfl dX0_set_47 ?_
      refine lv_iload hx hb dX0_set_50 (lv_at hl 0 rfl) ?_
      refine lv_lload hx hb dX0_set_52 (lv_at hl 4 rfl) ?_
      refine va_last hx hb hK hP hD hS 3 0 rfl rfl (vp_in_nI (by omega) (by omega)) dX0_set_54 (fun H locs hP hD hS => ?_)
      rw [show ((nI j)).toNatClampNeg = j from (nI_clamp (by omega))] at hP hD
      replace hP : va_P (dC, dI) vwCl [(r, .inr (0, [.ref a1, .ref a2, .ref a3, .ref a4, .int (nI (u + 1))])), (a1, .inl (cL, 150, .inr (.inl (vp_updL (opn hd j u) j h)))), (a2, .inl (cI, 150, .inl (upd (opn sz j u) j t))), (a3, .inl (cL, 150, .inr (.inl (vp_updL (opn tx j u) j x)))), (a4, .inl (cI, 150, .inl (opn ln j u)))] H := hP
      replace hD : va_D A [(r, .inr (0, [.ref a1, .ref a2, .ref a3, .ref a4, .int (nI (u + 1))])), (a1, .inl (cL, 150, .inr (.inl (vp_updL (opn hd j u) j h)))), (a2, .inl (cI, 150, .inl (upd (opn sz j u) j t))), (a3, .inl (cL, 150, .inr (.inl (vp_updL (opn tx j u) j x)))), (a4, .inl (cI, 150, .inl (opn ln j u)))] := hD
      refine lv_aload_n hx hb dX0_set_55 rfl (lv_at hl 1 rfl) ?_
      refine va_get (D := (dC, dI)) (ci := 0) (v := .ref a4) (C := RX0) (T := TX0) (N := 5) hx hb hts i_X0_set_X0 hown hK hP 0 rfl rfl 3 (by decide) (hts (.fieldLink RX0 22 "BlockTree$Rows" "lengths" "[I") (by decide +kernel)) (fun _ h9 => h9) rfl dX0_set_56 ?_
      refine lv_iload hx hb dX0_set_59 (lv_at hl 0 rfl) ?_
      refine lv_iload hx hb dX0_set_61 (lv_at hl 5 rfl) ?_
      refine va_iast hx hb hK hP hD hS 4 1 rfl rfl (vp_in_nI (by omega) (by omega)) dX0_set_63 (fun H locs hP hD hS => ?_)
      rw [show ((nI j)).toNatClampNeg = j from (nI_clamp (by omega))] at hP hD
      replace hP : va_P (dC, dI) vwCl [(r, .inr (0, [.ref a1, .ref a2, .ref a3, .ref a4, .int (nI (u + 1))])), (a1, .inl (cL, 150, .inr (.inl (vp_updL (opn hd j u) j h)))), (a2, .inl (cI, 150, .inl (upd (opn sz j u) j t))), (a3, .inl (cL, 150, .inr (.inl (vp_updL (opn tx j u) j x)))), (a4, .inl (cI, 150, .inl (upd (opn ln j u) j n)))] H := hP
      replace hD : va_D A [(r, .inr (0, [.ref a1, .ref a2, .ref a3, .ref a4, .int (nI (u + 1))])), (a1, .inl (cL, 150, .inr (.inl (vp_updL (opn hd j u) j h)))), (a2, .inl (cI, 150, .inl (upd (opn sz j u) j t))), (a3, .inl (cL, 150, .inr (.inl (vp_updL (opn tx j u) j x)))), (a4, .inl (cI, 150, .inl (upd (opn ln j u) j n)))] := hD
      refine lv_iconst (v := 1) hx hb dX0_set_64 (by decide) ?_
      exact W.zret (v := 1) hx hb hr (by first | rfl | decide +kernel | assumption) (fun t9 ht hW => ⟨⟨1, rs_put (rs_opn (u, hd, sz, tx, ln) j) j h t x n, rfl, Or.inr (Or.inl ⟨hh, hlt, rfl, rfl⟩), by rw [ht]; exact hP, hD⟩, hS.F ht⟩) hS.2.2 dX0_set_65
    · skip
      replace hP : va_P (dC, dI) vwCl [(r, .inr (0, [.ref a1, .ref a2, .ref a3, .ref a4, .int (nI u)])), (a1, .inl (cL, 150, .inr (.inl hd))), (a2, .inl (cI, 150, .inl sz)), (a3, .inl (cL, 150, .inr (.inl tx))), (a4, .inl (cI, 150, .inl ln))] H := hP
      replace hD : va_D A [(r, .inr (0, [.ref a1, .ref a2, .ref a3, .ref a4, .int (nI u)])), (a1, .inl (cL, 150, .inr (.inl hd))), (a2, .inl (cI, 150, .inl sz)), (a3, .inl (cL, 150, .inr (.inl tx))), (a4, .inl (cI, 150, .inl ln))] := hD
      refine lv_if_ne (tgt := 30) hx hb dX0_set_25 (by decide) (fun c_25 => absurd c_25 (by decide)) (fun c_25 => ?_)
      refine lv_iconst (v := 0) hx hb dX0_set_28 (by decide) ?_
      exact W.zret (v := 0) hx hb hr (by first | rfl | decide +kernel | assumption) (fun t9 ht hW => ⟨⟨0, (u, hd, sz, tx, ln), rfl, Or.inr (Or.inr ⟨hh, hlt, rfl, rfl⟩), by rw [ht]; exact hP, hD⟩, hS.F ht⟩) hS.2.2 dX0_set_29
end
section
set_option maxHeartbeats 4000000 in
set_option maxRecDepth 100000 in
/-- Rows() -/
theorem c_Rows_init (l : Launch) (dC : Nat → ClassId) (dI : Nat → Nat → Nat) (hz : Nat) (cL cI : ClassId) (r : Nat) : Met l yX0_init wsX0_init ({ frames := 1, cells := 4, slots := 600, locals := 20 }) (wrP (dC, dI) (kS cL cI) ([(r, .inr (0, [.null, .null, .null, .null, .int 0]))]) [.ref r] hz) (va_Qv (fun (v : Nat × Nat × Nat × Nat) => True) (wrB (dC, dI) (va_A ([(r, .inr (0, [.null, .null, .null, .null, .int 0]))]) hz) (fun (v : Nat × Nat × Nat × Nat) => rW cL cI r v.1 v.2.1 v.2.2.1 v.2.2.2 rs_0)) (va_A ([(r, .inr (0, [.null, .null, .null, .null, .int 0]))]) hz)) 4 600 (va_A ([(r, .inr (0, [.null, .null, .null, .null, .int 0]))]) hz) := by
  refine Met.ofW (cc := cX0_init) (maxL := 1) (ret := none) (by decide) rfl ?_
  intro p e s m args below meth c s₁ B hml hv
  obtain ⟨rfl, hsz, hP, hK, hD0⟩ := hv
  have hx := B.exec
  have hb := B.bytes
  have hr := B.returns
  have hts := atoms_spec (ws := wsX0_init) B.pre
  have hown : s.vm.findClass RX0 = some m.cls := findClass_of_methodNamed B.named
  have hlocks := B.notSynchronized
  have hin : meth.name = "<init>" := (name_of_methodNamed B.named B.method).1
  subst hsz
  have hD := hD0.self (sz := s.heap.size)
  generalize hAe : va_A ([(r, .inr (0, [.null, .null, .null, .null, .int 0]))]) s.heap.size = A at hD ⊢
  have hA : ∀ q : Nat, s.heap.size ≤ q → A q := fun q h => by rw [← hAe]; exact Or.inr h
  have hS : va_S A s.heap s.heap [] := va_S.rf
  replace hP : va_P (dC, dI) vwCl [(r, .inr (0, [.null, .null, .null, .null, .int 0]))] s.heap := hP
  replace hD : va_D A [(r, .inr (0, [.null, .null, .null, .null, .int 0]))] := hD
  have hl := lv_entry ([.ref r]) (n := 1) (Nat.le_of_ble_eq_true rfl)
  rw [lg_entry_eq]
  generalize (lg_sl ([.ref r]) ++ List.replicate (1 - (lg_sl ([.ref r])).length) Slot.unset).toArray = ls at hl ⊢
  replace hl : lv_has ls 1 [(0, .ref r)] := hl
  refine lv_aload_n hx hb dX0_init_0 rfl (lv_at hl 0 rfl) ?_
  refine W.objInit hx hb hown (hts (.methodLink RX0 3 objectInit) (by decide +kernel)) (hts (.instanceMethod objectInit) (by decide +kernel)) (hts _ (List.mem_cons_of_mem _ (List.mem_append_left _ (List.mem_of_getElem? (i := 2) rfl)))) rfl (by rw [hml]; exact hl.1) rfl dX0_init_1 (Nat.le_of_ble_eq_true rfl) (Nat.le_of_ble_eq_true rfl) ?_
  refine W.eq (g2 := F0 m 4 ls []) rfl ?_
  refine lv_aload_n hx hb dX0_init_4 rfl (lv_at hl 0 rfl) ?_
  refine lv_sipush (v := 150) hx hb dX0_init_5 (by decide) ?_
  refine va_newa (atype := .long) (N' := 150) (a0 := (150, .inr (.inl (fun _ => 0)))) (ty := .long) (n := 150) hx hb (hts (.arrayClass .long) (by decide +kernel)) rfl hK hP hD hS hA (fun _ => rfl) (by decide +kernel) (by decide +kernel) (by decide +kernel) (by decide +kernel) (by decide +kernel) dX0_init_8 (fun a1 cA_a1 H hKn hP hD hS => ?_)
  obtain rfl : cL = cA_a1 := ka_long hKn hK 2 0 rfl rfl
  replace hP : va_P (dC, dI) vwCl [(r, .inr (0, [.null, .null, .null, .null, .int 0])), (a1, .inl (cL, 150, .inr (.inl (fun _ => 0))))] H := hP
  replace hD : va_D A [(r, .inr (0, [.null, .null, .null, .null, .int 0])), (a1, .inl (cL, 150, .inr (.inl (fun _ => 0))))] := hD
  refine W.widen (k := 1) (n := 150) (by omega) (by omega) ?_
  refine va_putF (D := (dC, dI)) (ci := 0) (v := .ref a1) (ty := .array .long) (C := RX0) (T := TX0) (N := 5) hx hb hts i_X0_init_X0 tyX0 tyX0_ok nmX0 hown hK hP hD hS 0 rfl rfl 0 (by decide) (hts (.fieldLink RX0 9 "BlockTree$Rows" "heads" "[J") (by decide +kernel)) (fun _ h9 => h9) rfl hin rfl (by decide +kernel) rfl rfl (Nat.le_of_ble_eq_true rfl) dX0_init_10 (fun H locs hP hD hS => ?_)
  replace hP : va_P (dC, dI) vwCl [(r, .inr (0, [.ref a1, .null, .null, .null, .int 0])), (a1, .inl (cL, 150, .inr (.inl (fun _ => 0))))] H := hP
  replace hD : va_D A [(r, .inr (0, [.ref a1, .null, .null, .null, .int 0])), (a1, .inl (cL, 150, .inr (.inl (fun _ => 0))))] := hD
  refine lv_aload_n hx hb dX0_init_13 rfl (lv_at hl 0 rfl) ?_
  refine lv_sipush (v := 150) hx hb dX0_init_14 (by decide) ?_
  refine va_newa (atype := .int) (N' := 150) (a0 := (150, .inl (fun _ => 0))) (ty := .int) (n := 150) hx hb (hts (.arrayClass .int) (by decide +kernel)) rfl hK hP hD hS hA (fun _ => rfl) (by decide +kernel) (by decide +kernel) (by decide +kernel) (by decide +kernel) (by decide +kernel) dX0_init_17 (fun a2 cA_a2 H hKn hP hD hS => ?_)
  obtain rfl : cI = cA_a2 := ka_int hKn hK 2 1 rfl rfl
  replace hP : va_P (dC, dI) vwCl [(r, .inr (0, [.ref a1, .null, .null, .null, .int 0])), (a1, .inl (cL, 150, .inr (.inl (fun _ => 0)))), (a2, .inl (cI, 150, .inl (fun _ => 0)))] H := hP
  replace hD : va_D A [(r, .inr (0, [.ref a1, .null, .null, .null, .int 0])), (a1, .inl (cL, 150, .inr (.inl (fun _ => 0)))), (a2, .inl (cI, 150, .inl (fun _ => 0)))] := hD
  refine W.widen (k := 2) (n := 300) (by omega) (by omega) ?_
  refine va_putF (D := (dC, dI)) (ci := 0) (v := .ref a2) (ty := .array .int) (C := RX0) (T := TX0) (N := 5) hx hb hts i_X0_init_X0 tyX0 tyX0_ok nmX0 hown hK hP hD hS 0 rfl rfl 1 (by decide) (hts (.fieldLink RX0 15 "BlockTree$Rows" "sizes" "[I") (by decide +kernel)) (fun _ h9 => h9) rfl hin rfl (by decide +kernel) rfl rfl (Nat.le_of_ble_eq_true rfl) dX0_init_19 (fun H locs hP hD hS => ?_)
  replace hP : va_P (dC, dI) vwCl [(r, .inr (0, [.ref a1, .ref a2, .null, .null, .int 0])), (a1, .inl (cL, 150, .inr (.inl (fun _ => 0)))), (a2, .inl (cI, 150, .inl (fun _ => 0)))] H := hP
  replace hD : va_D A [(r, .inr (0, [.ref a1, .ref a2, .null, .null, .int 0])), (a1, .inl (cL, 150, .inr (.inl (fun _ => 0)))), (a2, .inl (cI, 150, .inl (fun _ => 0)))] := hD
  refine lv_aload_n hx hb dX0_init_22 rfl (lv_at hl 0 rfl) ?_
  refine lv_sipush (v := 150) hx hb dX0_init_23 (by decide) ?_
  refine va_newa (atype := .long) (N' := 150) (a0 := (150, .inr (.inl (fun _ => 0)))) (ty := .long) (n := 150) hx hb (hts (.arrayClass .long) (by decide +kernel)) rfl hK hP hD hS hA (fun _ => rfl) (by decide +kernel) (by decide +kernel) (by decide +kernel) (by decide +kernel) (by decide +kernel) dX0_init_26 (fun a3 cA_a3 H hKn hP hD hS => ?_)
  obtain rfl : cL = cA_a3 := ka_long hKn hK 2 0 rfl rfl
  replace hP : va_P (dC, dI) vwCl [(r, .inr (0, [.ref a1, .ref a2, .null, .null, .int 0])), (a1, .inl (cL, 150, .inr (.inl (fun _ => 0)))), (a2, .inl (cI, 150, .inl (fun _ => 0))), (a3, .inl (cL, 150, .inr (.inl (fun _ => 0))))] H := hP
  replace hD : va_D A [(r, .inr (0, [.ref a1, .ref a2, .null, .null, .int 0])), (a1, .inl (cL, 150, .inr (.inl (fun _ => 0)))), (a2, .inl (cI, 150, .inl (fun _ => 0))), (a3, .inl (cL, 150, .inr (.inl (fun _ => 0))))] := hD
  refine W.widen (k := 3) (n := 450) (by omega) (by omega) ?_
  refine va_putF (D := (dC, dI)) (ci := 0) (v := .ref a3) (ty := .array .long) (C := RX0) (T := TX0) (N := 5) hx hb hts i_X0_init_X0 tyX0 tyX0_ok nmX0 hown hK hP hD hS 0 rfl rfl 2 (by decide) (hts (.fieldLink RX0 19 "BlockTree$Rows" "texts" "[J") (by decide +kernel)) (fun _ h9 => h9) rfl hin rfl (by decide +kernel) rfl rfl (Nat.le_of_ble_eq_true rfl) dX0_init_28 (fun H locs hP hD hS => ?_)
  replace hP : va_P (dC, dI) vwCl [(r, .inr (0, [.ref a1, .ref a2, .ref a3, .null, .int 0])), (a1, .inl (cL, 150, .inr (.inl (fun _ => 0)))), (a2, .inl (cI, 150, .inl (fun _ => 0))), (a3, .inl (cL, 150, .inr (.inl (fun _ => 0))))] H := hP
  replace hD : va_D A [(r, .inr (0, [.ref a1, .ref a2, .ref a3, .null, .int 0])), (a1, .inl (cL, 150, .inr (.inl (fun _ => 0)))), (a2, .inl (cI, 150, .inl (fun _ => 0))), (a3, .inl (cL, 150, .inr (.inl (fun _ => 0))))] := hD
  refine lv_aload_n hx hb dX0_init_31 rfl (lv_at hl 0 rfl) ?_
  refine lv_sipush (v := 150) hx hb dX0_init_32 (by decide) ?_
  refine va_newa (atype := .int) (N' := 150) (a0 := (150, .inl (fun _ => 0))) (ty := .int) (n := 150) hx hb (hts (.arrayClass .int) (by decide +kernel)) rfl hK hP hD hS hA (fun _ => rfl) (by decide +kernel) (by decide +kernel) (by decide +kernel) (by decide +kernel) (by decide +kernel) dX0_init_35 (fun a4 cA_a4 H hKn hP hD hS => ?_)
  obtain rfl : cI = cA_a4 := ka_int hKn hK 2 1 rfl rfl
  replace hP : va_P (dC, dI) vwCl [(r, .inr (0, [.ref a1, .ref a2, .ref a3, .null, .int 0])), (a1, .inl (cL, 150, .inr (.inl (fun _ => 0)))), (a2, .inl (cI, 150, .inl (fun _ => 0))), (a3, .inl (cL, 150, .inr (.inl (fun _ => 0)))), (a4, .inl (cI, 150, .inl (fun _ => 0)))] H := hP
  replace hD : va_D A [(r, .inr (0, [.ref a1, .ref a2, .ref a3, .null, .int 0])), (a1, .inl (cL, 150, .inr (.inl (fun _ => 0)))), (a2, .inl (cI, 150, .inl (fun _ => 0))), (a3, .inl (cL, 150, .inr (.inl (fun _ => 0)))), (a4, .inl (cI, 150, .inl (fun _ => 0)))] := hD
  refine W.widen (k := 4) (n := 600) (by omega) (by omega) ?_
  refine va_putF (D := (dC, dI)) (ci := 0) (v := .ref a4) (ty := .array .int) (C := RX0) (T := TX0) (N := 5) hx hb hts i_X0_init_X0 tyX0 tyX0_ok nmX0 hown hK hP hD hS 0 rfl rfl 3 (by decide) (hts (.fieldLink RX0 22 "BlockTree$Rows" "lengths" "[I") (by decide +kernel)) (fun _ h9 => h9) rfl hin rfl (by decide +kernel) rfl rfl (Nat.le_of_ble_eq_true rfl) dX0_init_37 (fun H locs hP hD hS => ?_)
  replace hP : va_P (dC, dI) vwCl [(r, .inr (0, [.ref a1, .ref a2, .ref a3, .ref a4, .int 0])), (a1, .inl (cL, 150, .inr (.inl (fun _ => 0)))), (a2, .inl (cI, 150, .inl (fun _ => 0))), (a3, .inl (cL, 150, .inr (.inl (fun _ => 0)))), (a4, .inl (cI, 150, .inl (fun _ => 0)))] H := hP
  replace hD : va_D A [(r, .inr (0, [.ref a1, .ref a2, .ref a3, .ref a4, .int 0])), (a1, .inl (cL, 150, .inr (.inl (fun _ => 0)))), (a2, .inl (cI, 150, .inl (fun _ => 0))), (a3, .inl (cL, 150, .inr (.inl (fun _ => 0)))), (a4, .inl (cI, 150, .inl (fun _ => 0)))] := hD
  refine lv_aload_n hx hb dX0_init_40 rfl (lv_at hl 0 rfl) ?_
  refine lv_iconst (v := 0) hx hb dX0_init_41 (by decide) ?_
  refine va_put (D := (dC, dI)) (ci := 0) (v := .int 0) (ty := .int) (C := RX0) (T := TX0) (N := 5) hx hb hts i_X0_init_X0 tyX0 tyX0_ok nmX0 hown hK hP hD hS 0 rfl rfl 4 (by decide) (hts (.fieldLink RX0 25 "BlockTree$Rows" "used" "I") (by decide +kernel)) (fun _ h9 => h9) rfl (by decide +kernel) rfl rfl (Nat.le_of_ble_eq_true rfl) dX0_init_42 (fun H locs hP hD hS => ?_)
  replace hP : va_P (dC, dI) vwCl [(r, .inr (0, [.ref a1, .ref a2, .ref a3, .ref a4, .int 0])), (a1, .inl (cL, 150, .inr (.inl (fun _ => 0)))), (a2, .inl (cI, 150, .inl (fun _ => 0))), (a3, .inl (cL, 150, .inr (.inl (fun _ => 0)))), (a4, .inl (cI, 150, .inl (fun _ => 0)))] H := hP
  replace hD : va_D A [(r, .inr (0, [.ref a1, .ref a2, .ref a3, .ref a4, .int 0])), (a1, .inl (cL, 150, .inr (.inl (fun _ => 0)))), (a2, .inl (cI, 150, .inl (fun _ => 0))), (a3, .inl (cL, 150, .inr (.inl (fun _ => 0)))), (a4, .inl (cI, 150, .inl (fun _ => 0)))] := hD
  exact W.vret hx hb hr (fun t9 ht hW => ⟨⟨(a1, a2, a3, a4), rfl, trivial, by rw [ht]; exact hP, hD⟩, hS.F ht⟩) hS.2.2 dX0_init_45
end
section
/-! THE TREE: reads, then writes. Its world: itself, then the rows that are now (and, where they are touched, those that are kept) -/
abbrev tW (cL cI : ClassId) (x r k a1 a2 a3 a4 : Nat) (f : Int64 × Int32) (v : RS) : va_W := (x, .inr (1, [.ref r, .ref k, .long f.1, .int f.2])) :: rW cL cI r a1 a2 a3 a4 v
/-- what 'placeOf' answers -/
def plQ (u : Nat) (hd : Nat → Int64) (sz : Nat → Int32) (k : Int64) (t : Int32) (j : Nat) (z : Int32) : Prop := (okK t ∧ hld u hd sz j (hdOf k t) t ∧ z = nI j) ∨ (¬ (okK t ∧ hld u hd sz j (hdOf k t) t) ∧ z = -1)
/-- what 'noteFound' finds -/
def nfQ (u : Nat) (hd : Nat → Int64) (sz : Nat → Int32) (i : Int32) (z : Int32) (f : Int64 × Int32) : Prop := (∃ j, j < u ∧ i = nI j ∧ z = 1 ∧ f = (unH (hd j) (sz j), sz j)) ∨ ((¬ ∃ j, j < u ∧ i = nI j) ∧ z = 0 ∧ f = (0, 0))
theorem m1_no {u : Nat} (hu : u ≤ 150) : ¬ ∃ j, j < u ∧ (-1 : Int32) = nI j := has_a hu (by decide)
set_option maxHeartbeats 4000000 in
set_option maxRecDepth 100000 in
/-- placeOf -/
theorem c_placeOf (l : Launch) (dC : Nat → ClassId) (dI : Nat → Nat → Nat) (cL cI : ClassId) (x r k a1 a2 a3 a4 : Nat) (hk : Int64) (hs : Int32) (u : Nat) (hd : Nat → Int64) (sz : Nat → Int32) (tx : Nat → Int64) (ln : Nat → Int32) (hu : u ≤ 150) (q : Int64) (t : Int32) (j : Nat) (hj : okK t → spl u hd sz (hdOf q t) t j) : Met l yX1_placeOf wsX1_placeOf ({ frames := 3, cells := 0, slots := 0, locals := 70 }) (rdP (dC, dI) (kS cL cI) (tW cL cI x r k a1 a2 a3 a4 (hk, hs) (u, hd, sz, tx, ln)) [.ref x, .long q, .int t]) (vp_Si (fun z => plQ u hd sz q t j z)) 0 0 (fun _ => False) := by
  refine Met.ofW (cc := cX1_placeOf) (maxL := 7) (ret := some .int) (by decide) rfl ?_
  intro p e s m args below meth c s₁ B hml hv
  obtain ⟨rfl, hP, hK⟩ := hv
  have hx := B.exec
  have hb := B.bytes
  have hr := B.returns
  have hts := atoms_spec (ws := wsX1_placeOf) B.pre
  have hown : s.vm.findClass RX1 = some m.cls := findClass_of_methodNamed B.named
  have hlocks := B.notSynchronized
  replace hP : va_P (dC, dI) vwCl [(x, .inr (1, [.ref r, .ref k, .long hk, .int hs])), (r, .inr (0, [.ref a1, .ref a2, .ref a3, .ref a4, .int (nI u)])), (a1, .inl (cL, 150, .inr (.inl hd))), (a2, .inl (cI, 150, .inl sz)), (a3, .inl (cL, 150, .inr (.inl tx))), (a4, .inl (cI, 150, .inl ln))] s.heap := hP
  have hl := lv_entry ([.ref x, .long q, .int t]) (n := 7) (Nat.le_of_ble_eq_true rfl)
  rw [lg_entry_eq]
  generalize (lg_sl ([.ref x, .long q, .int t]) ++ List.replicate (7 - (lg_sl ([.ref x, .long q, .int t])).length) Slot.unset).toArray = ls at hl ⊢
  replace hl : lv_has ls 7 [(0, .ref x), (1, .long q), (3, .int t)] := hl
  refine lv_iload_n hx hb dX1_placeOf_0 rfl (lv_at hl 2 rfl) ?_
  refine vp_callSi (va_Run.run (va_runS (As := [.int t]) (rest := []) ⟨hx, hb, hml, hown, hts⟩ (c_isKeySize l t) (va_cwS 1 hts gX1_placeOf_X1_isKeySize rfl rfl rfl (by decide +kernel) ⟨Nat.le_of_ble_eq_true rfl, Nat.le_of_ble_eq_true rfl⟩) (st_pre) rfl rfl hl.1 rfl (lv_room (Nat.le_of_ble_eq_true rfl)) dX1_placeOf_1 ⟨Nat.le_of_ble_eq_true rfl, Nat.le_of_ble_eq_true rfl⟩)) (fun r1 hr1 => ?_)
  rcases hr1 with ⟨rfl, hok⟩ | ⟨rfl, hok⟩
  · skip
    refine lv_if_ne (tgt := 9) hx hb dX1_placeOf_4 (by decide) (fun c_4 => ?_) (fun c_4 => absurd c_4 (by decide))
    refine lv_lload_n hx hb dX1_placeOf_9 rfl (lv_at hl 1 rfl) ?_
    refine lv_iload_n hx hb dX1_placeOf_10 rfl (lv_at hl 2 rfl) ?_
    refine vp_callSl (va_Run.run (va_runS (As := [.long q, .int t]) (rest := []) ⟨hx, hb, hml, hown, hts⟩ (c_headOf l q t) (va_cwS 2 hts gX1_placeOf_X1_headOf rfl rfl rfl (by decide +kernel) ⟨Nat.le_of_ble_eq_true rfl, Nat.le_of_ble_eq_true rfl⟩) (st_pre) rfl rfl hl.1 rfl (lv_room (Nat.le_of_ble_eq_true rfl)) dX1_placeOf_11 ⟨Nat.le_of_ble_eq_true rfl, Nat.le_of_ble_eq_true rfl⟩)) (fun r2 hr2 => ?_)
    subst hr2
    refine lv_lstore (lv' := [(4, .long (hdOf q t)), (0, .ref x), (1, .long q), (3, .int t)]) hx hb dX1_placeOf_14 hl (by decide) rfl (fun ls hl => ?_)
    refine lv_aload_n hx hb dX1_placeOf_16 rfl (lv_at hl 1 rfl) ?_
    refine va_get (D := (dC, dI)) (ci := 1) (v := .ref r) (C := RX1) (T := TX1) (N := 4) hx hb hts i_X1_placeOf_X1 hown hK hP 0 rfl rfl 0 (by decide) (hts (.fieldLink RX1 10 "BlockTree" "now" "LBlockTree$Rows;") (by decide +kernel)) (fun _ h9 => h9) rfl dX1_placeOf_17 ?_
    refine lv_lload hx hb dX1_placeOf_20 (lv_at hl 0 rfl) ?_
    refine lv_iload_n hx hb dX1_placeOf_22 rfl (lv_at hl 3 rfl) ?_
    refine vp_callSi (va_Run.run (va_runV (As := [.long (hdOf q t), .int t]) (rest := []) ⟨hx, hb, hml, hown, hts⟩ (c_firstNotBefore l dC dI cL cI r a1 a2 a3 a4 u hd sz hu (hdOf q t) t j (hj hok)) (cwV 2 hts gX1_placeOf_X0_firstNotBefore rfl rfl rfl (by decide +kernel) ⟨Nat.le_of_ble_eq_true rfl, Nat.le_of_ble_eq_true rfl⟩) (rd_preV hK (hP.sub (ws' := [(r, .inr (0, [.ref a1, .ref a2, .ref a3, .ref a4, .int (nI u)])), (a1, .inl (cL, 150, .inr (.inl hd))), (a2, .inl (cI, 150, .inl sz))]) [1, 2, 3] rfl) (ci := 0) (q0 := 0) rfl rfl) rfl rfl hl.1 rfl (lv_room (Nat.le_of_ble_eq_true rfl)) dX1_placeOf_23 ⟨Nat.le_of_ble_eq_true rfl, Nat.le_of_ble_eq_true rfl⟩)) (fun r3 hr3 => ?_)
    subst hr3
    refine lv_istore (lv' := [(6, .int (nI j)), (4, .long (hdOf q t)), (0, .ref x), (1, .long q), (3, .int t)]) hx hb dX1_placeOf_26 hl (by decide) rfl (fun ls hl => ?_)
    refine lv_aload_n hx hb dX1_placeOf_28 rfl (lv_at hl 2 rfl) ?_
    refine va_get (D := (dC, dI)) (ci := 1) (v := .ref r) (C := RX1) (T := TX1) (N := 4) hx hb hts i_X1_placeOf_X1 hown hK hP 0 rfl rfl 0 (by decide) (hts (.fieldLink RX1 10 "BlockTree" "now" "LBlockTree$Rows;") (by decide +kernel)) (fun _ h9 => h9) rfl dX1_placeOf_29 ?_
    refine lv_iload hx hb dX1_placeOf_32 (lv_at hl 0 rfl) ?_
    refine lv_lload hx hb dX1_placeOf_34 (lv_at hl 1 rfl) ?_
    refine lv_iload_n hx hb dX1_placeOf_36 rfl (lv_at hl 4 rfl) ?_
    refine vp_callSi (va_Run.run (va_runV (As := [.int (nI j), .long (hdOf q t), .int t]) (rest := []) ⟨hx, hb, hml, hown, hts⟩ (c_holds l dC dI cL cI r a1 a2 a3 a4 u hd sz hu (nI j) (hdOf q t) t) (cwV 3 hts gX1_placeOf_X0_holds rfl rfl rfl (by decide +kernel) ⟨Nat.le_of_ble_eq_true rfl, Nat.le_of_ble_eq_true rfl⟩) (rd_preV hK (hP.sub (ws' := [(r, .inr (0, [.ref a1, .ref a2, .ref a3, .ref a4, .int (nI u)])), (a1, .inl (cL, 150, .inr (.inl hd))), (a2, .inl (cI, 150, .inl sz))]) [1, 2, 3] rfl) (ci := 0) (q0 := 0) rfl rfl) rfl rfl hl.1 rfl (lv_room (Nat.le_of_ble_eq_true rfl)) dX1_placeOf_37 ⟨Nat.le_of_ble_eq_true rfl, Nat.le_of_ble_eq_true rfl⟩)) (fun r4 hr4 => ?_)
    rcases hr4 with ⟨rfl, i, hi, ei, hh1, hh2⟩ | ⟨rfl, hno⟩
    · skip
      have hjb : j ≤ u := (hj hok).1
      obtain rfl : j = i := nI_inj hu hi ei (by omega)
      have hh : hld u hd sz j (hdOf q t) t := ⟨hi, hh1, hh2⟩
      refine lv_if_eq (tgt := 48) hx hb dX1_placeOf_40 (by decide) (fun c_40 => absurd c_40 (by decide)) (fun c_40 => ?_)
      refine lv_iload hx hb dX1_placeOf_43 (lv_at hl 0 rfl) ?_
      refine lv_goto (tgt := 49) hx hb dX1_placeOf_45 (by decide) ?_
      exact W.iret (v := (nI j)) hx hb hr (fun t9 ht hW => ⟨(nI j), rfl, by first | exact Or.inl ⟨hok, hh, rfl⟩ | exact Or.inr ⟨fun g => hh g.2, rfl⟩ | exact Or.inr ⟨fun g => hok g.1, rfl⟩, ht⟩) (fun q h => absurd h List.not_mem_nil) dX1_placeOf_49
    · skip
      have hh : ¬ hld u hd sz j (hdOf q t) t := fun q => hno ⟨j, q.1, rfl, q.2.1, q.2.2⟩
      refine lv_if_eq (tgt := 48) hx hb dX1_placeOf_40 (by decide) (fun c_40 => ?_) (fun c_40 => absurd c_40 (by decide))
      refine lv_iconst (v := (-1)) hx hb dX1_placeOf_48 (by decide) ?_
      exact W.iret (v := (-1)) hx hb hr (fun t9 ht hW => ⟨(-1), rfl, by first | exact Or.inl ⟨hok, hh, rfl⟩ | exact Or.inr ⟨fun g => hh g.2, rfl⟩ | exact Or.inr ⟨fun g => hok g.1, rfl⟩, ht⟩) (fun q h => absurd h List.not_mem_nil) dX1_placeOf_49
  · skip
    refine lv_if_ne (tgt := 9) hx hb dX1_placeOf_4 (by decide) (fun c_4 => absurd c_4 (by decide)) (fun c_4 => ?_)
    refine lv_iconst (v := (-1)) hx hb dX1_placeOf_7 (by decide) ?_
    exact W.iret (v := (-1)) hx hb hr (fun t9 ht hW => ⟨(-1), rfl, by first | exact Or.inl ⟨hok, hh, rfl⟩ | exact Or.inr ⟨fun g => hh g.2, rfl⟩ | exact Or.inr ⟨fun g => hok g.1, rfl⟩, ht⟩) (fun q h => absurd h List.not_mem_nil) dX1_placeOf_8
set_option maxHeartbeats 4000000 in
set_option maxRecDepth 100000 in
/-- length -/
theorem c_length (l : Launch) (dC : Nat → ClassId) (dI : Nat → Nat → Nat) (cL cI : ClassId) (x r k a1 a2 a3 a4 : Nat) (hk : Int64) (hs : Int32) (u : Nat) (hd : Nat → Int64) (sz : Nat → Int32) (tx : Nat → Int64) (ln : Nat → Int32) (hu : u ≤ 150) (q : Int64) (t : Int32) (j : Nat) (hj : okK t → spl u hd sz (hdOf q t) t j) : Met l yX1_length wsX1_length ({ frames := 4, cells := 0, slots := 0, locals := 96 }) (rdP (dC, dI) (kS cL cI) (tW cL cI x r k a1 a2 a3 a4 (hk, hs) (u, hd, sz, tx, ln)) [.ref x, .long q, .int t]) (vp_Si (fun z => (okK t ∧ hld u hd sz j (hdOf q t) t ∧ z = ln j) ∨ (¬ (okK t ∧ hld u hd sz j (hdOf q t) t) ∧ z = -1))) 0 0 (fun _ => False) := by
  refine Met.ofW (cc := cX1_length) (maxL := 5) (ret := some .int) (by decide) rfl ?_
  intro p e s m args below meth c s₁ B hml hv
  obtain ⟨rfl, hP, hK⟩ := hv
  have hx := B.exec
  have hb := B.bytes
  have hr := B.returns
  have hts := atoms_spec (ws := wsX1_length) B.pre
  have hown : s.vm.findClass RX1 = some m.cls := findClass_of_methodNamed B.named
  have hlocks := B.notSynchronized
  replace hP : va_P (dC, dI) vwCl [(x, .inr (1, [.ref r, .ref k, .long hk, .int hs])), (r, .inr (0, [.ref a1, .ref a2, .ref a3, .ref a4, .int (nI u)])), (a1, .inl (cL, 150, .inr (.inl hd))), (a2, .inl (cI, 150, .inl sz)), (a3, .inl (cL, 150, .inr (.inl tx))), (a4, .inl (cI, 150, .inl ln))] s.heap := hP
  have hl := lv_entry ([.ref x, .long q, .int t]) (n := 5) (Nat.le_of_ble_eq_true rfl)
  rw [lg_entry_eq]
  generalize (lg_sl ([.ref x, .long q, .int t]) ++ List.replicate (5 - (lg_sl ([.ref x, .long q, .int t])).length) Slot.unset).toArray = ls at hl ⊢
  replace hl : lv_has ls 5 [(0, .ref x), (1, .long q), (3, .int t)] := hl
  refine lv_aload_n hx hb dX1_length_0 rfl (lv_at hl 0 rfl) ?_
  refine lv_lload_n hx hb dX1_length_1 rfl (lv_at hl 1 rfl) ?_
  refine lv_iload_n hx hb dX1_length_2 rfl (lv_at hl 2 rfl) ?_
  refine vp_callSi (va_Run.run (va_runV (As := [.long q, .int t]) (rest := []) ⟨hx, hb, hml, hown, hts⟩ (c_placeOf l dC dI cL cI x r k a1 a2 a3 a4 hk hs u hd sz tx ln hu q t j hj) (cwV 2 hts gX1_length_X1_placeOf rfl rfl rfl (by decide +kernel) ⟨Nat.le_of_ble_eq_true rfl, Nat.le_of_ble_eq_true rfl⟩) (rd_preV hK (hP.sub (ws' := [(x, .inr (1, [.ref r, .ref k, .long hk, .int hs])), (r, .inr (0, [.ref a1, .ref a2, .ref a3, .ref a4, .int (nI u)])), (a1, .inl (cL, 150, .inr (.inl hd))), (a2, .inl (cI, 150, .inl sz)), (a3, .inl (cL, 150, .inr (.inl tx))), (a4, .inl (cI, 150, .inl ln))]) [0, 1, 2, 3, 4, 5] rfl) (ci := 1) (q0 := 0) rfl rfl) rfl rfl hl.1 rfl (lv_room (Nat.le_of_ble_eq_true rfl)) dX1_length_3 ⟨Nat.le_of_ble_eq_true rfl, Nat.le_of_ble_eq_true rfl⟩)) (fun r1 hr1 => ?_)
  rcases hr1 with ⟨hok, hh, rfl⟩ | ⟨hh, rfl⟩
  · skip
    have hju : j < u := hh.1
    refine lv_istore (lv' := [(4, .int (nI j)), (0, .ref x), (1, .long q), (3, .int t)]) hx hb dX1_length_6 hl (by decide) rfl (fun ls hl => ?_)
    refine lv_aload_n hx hb dX1_length_8 rfl (lv_at hl 1 rfl) ?_
    refine va_get (D := (dC, dI)) (ci := 1) (v := .ref r) (C := RX1) (T := TX1) (N := 4) hx hb hts i_X1_length_X1 hown hK hP 0 rfl rfl 0 (by decide) (hts (.fieldLink RX1 10 "BlockTree" "now" "LBlockTree$Rows;") (by decide +kernel)) (fun _ h9 => h9) rfl dX1_length_9 ?_
    refine lv_iload hx hb dX1_length_12 (lv_at hl 0 rfl) ?_
    refine vp_callSi (va_Run.run (va_runV (As := [.int (nI j)]) (rest := []) ⟨hx, hb, hml, hown, hts⟩ (c_has l dC dI cL cI r a1 a2 a3 a4 u hu (nI j)) (cwV 1 hts gX1_length_X0_has rfl rfl rfl (by decide +kernel) ⟨Nat.le_of_ble_eq_true rfl, Nat.le_of_ble_eq_true rfl⟩) (rd_preV hK (hP.sub (ws' := [(r, .inr (0, [.ref a1, .ref a2, .ref a3, .ref a4, .int (nI u)]))]) [1] rfl) (ci := 0) (q0 := 0) rfl rfl) rfl rfl hl.1 rfl (lv_room (Nat.le_of_ble_eq_true rfl)) dX1_length_14 ⟨Nat.le_of_ble_eq_true rfl, Nat.le_of_ble_eq_true rfl⟩)) (fun r2 hr2 => ?_)
    rcases hr2 with ⟨rfl, -⟩ | ⟨rfl, hno⟩
    · skip
      refine lv_if_eq (tgt := 33) hx hb dX1_length_17 (by decide) (fun c_17 => absurd c_17 (by decide)) (fun c_17 => ?_)
      refine lv_aload_n hx hb dX1_length_20 rfl (lv_at hl 1 rfl) ?_
      refine va_get (D := (dC, dI)) (ci := 1) (v := .ref r) (C := RX1) (T := TX1) (N := 4) hx hb hts i_X1_length_X1 hown hK hP 0 rfl rfl 0 (by decide) (hts (.fieldLink RX1 10 "BlockTree" "now" "LBlockTree$Rows;") (by decide +kernel)) (fun _ h9 => h9) rfl dX1_length_21 ?_
      refine va_get (D := (dC, dI)) (ci := 0) (v := .ref a4) (C := RX0) (T := TX0) (N := 5) hx hb hts i_X1_length_X0 hown hK hP 1 rfl rfl 3 (by decide) (hts (.fieldLink RX1 56 "BlockTree$Rows" "lengths" "[I") (by decide +kernel)) (fun _ h9 => h9) rfl dX1_length_24 ?_
      refine lv_iload hx hb dX1_length_27 (lv_at hl 0 rfl) ?_
      refine va_iald hx hb hK hP 5 1 rfl rfl (vp_in_nI (by omega) (by omega)) dX1_length_29 ?_
      refine lv_topi (fun z_1 ez_1 => ?_)
      rw [show ((nI j)).toNatClampNeg = j from (nI_clamp (by omega))] at ez_1
      subst ez_1
      refine lv_goto (tgt := 34) hx hb dX1_length_30 (by decide) ?_
      exact W.iret (v := (ln j)) hx hb hr (fun t9 ht hW => ⟨(ln j), rfl, by first | exact Or.inl ⟨hok, hh, rfl⟩ | exact Or.inr ⟨hh, rfl⟩, ht⟩) (fun q h => absurd h List.not_mem_nil) dX1_length_34
    · skip
      exact absurd ⟨j, hju, rfl⟩ hno
  · skip
    refine lv_istore (lv' := [(4, .int (-1)), (0, .ref x), (1, .long q), (3, .int t)]) hx hb dX1_length_6 hl (by decide) rfl (fun ls hl => ?_)
    refine lv_aload_n hx hb dX1_length_8 rfl (lv_at hl 1 rfl) ?_
    refine va_get (D := (dC, dI)) (ci := 1) (v := .ref r) (C := RX1) (T := TX1) (N := 4) hx hb hts i_X1_length_X1 hown hK hP 0 rfl rfl 0 (by decide) (hts (.fieldLink RX1 10 "BlockTree" "now" "LBlockTree$Rows;") (by decide +kernel)) (fun _ h9 => h9) rfl dX1_length_9 ?_
    refine lv_iload hx hb dX1_length_12 (lv_at hl 0 rfl) ?_
    refine vp_callSi (va_Run.run (va_runV (As := [.int (-1)]) (rest := []) ⟨hx, hb, hml, hown, hts⟩ (c_has l dC dI cL cI r a1 a2 a3 a4 u hu (-1)) (cwV 1 hts gX1_length_X0_has rfl rfl rfl (by decide +kernel) ⟨Nat.le_of_ble_eq_true rfl, Nat.le_of_ble_eq_true rfl⟩) (rd_preV hK (hP.sub (ws' := [(r, .inr (0, [.ref a1, .ref a2, .ref a3, .ref a4, .int (nI u)]))]) [1] rfl) (ci := 0) (q0 := 0) rfl rfl) rfl rfl hl.1 rfl (lv_room (Nat.le_of_ble_eq_true rfl)) dX1_length_14 ⟨Nat.le_of_ble_eq_true rfl, Nat.le_of_ble_eq_true rfl⟩)) (fun r2 hr2 => ?_)
    rcases hr2 with ⟨rfl, hyes⟩ | ⟨rfl, -⟩
    · skip
      exact absurd hyes (m1_no hu)
    · skip
      refine lv_if_eq (tgt := 33) hx hb dX1_length_17 (by decide) (fun c_17 => ?_) (fun c_17 => absurd c_17 (by decide))
      refine lv_iconst (v := (-1)) hx hb dX1_length_33 (by decide) ?_
      exact W.iret (v := (-1)) hx hb hr (fun t9 ht hW => ⟨(-1), rfl, by first | exact Or.inl ⟨hok, hh, rfl⟩ | exact Or.inr ⟨hh, rfl⟩, ht⟩) (fun q h => absurd h List.not_mem_nil) dX1_length_34
set_option maxHeartbeats 4000000 in
set_option maxRecDepth 100000 in
/-- text -/
theorem c_text (l : Launch) (dC : Nat → ClassId) (dI : Nat → Nat → Nat) (cL cI : ClassId) (x r k a1 a2 a3 a4 : Nat) (hk : Int64) (hs : Int32) (u : Nat) (hd : Nat → Int64) (sz : Nat → Int32) (tx : Nat → Int64) (ln : Nat → Int32) (hu : u ≤ 150) (q : Int64) (t : Int32) (j : Nat) (hj : okK t → spl u hd sz (hdOf q t) t j) : Met l yX1_text wsX1_text ({ frames := 4, cells := 0, slots := 0, locals := 96 }) (rdP (dC, dI) (kS cL cI) (tW cL cI x r k a1 a2 a3 a4 (hk, hs) (u, hd, sz, tx, ln)) [.ref x, .long q, .int t]) (vp_Sl (fun z => (okK t ∧ hld u hd sz j (hdOf q t) t ∧ z = tx j) ∨ (¬ (okK t ∧ hld u hd sz j (hdOf q t) t) ∧ z = 0))) 0 0 (fun _ => False) := by
  refine Met.ofW (cc := cX1_text) (maxL := 5) (ret := some .long) (by decide) rfl ?_
  intro p e s m args below meth c s₁ B hml hv
  obtain ⟨rfl, hP, hK⟩ := hv
  have hx := B.exec
  have hb := B.bytes
  have hr := B.returns
  have hts := atoms_spec (ws := wsX1_text) B.pre
  have hown : s.vm.findClass RX1 = some m.cls := findClass_of_methodNamed B.named
  have hlocks := B.notSynchronized
  replace hP : va_P (dC, dI) vwCl [(x, .inr (1, [.ref r, .ref k, .long hk, .int hs])), (r, .inr (0, [.ref a1, .ref a2, .ref a3, .ref a4, .int (nI u)])), (a1, .inl (cL, 150, .inr (.inl hd))), (a2, .inl (cI, 150, .inl sz)), (a3, .inl (cL, 150, .inr (.inl tx))), (a4, .inl (cI, 150, .inl ln))] s.heap := hP
  have hl := lv_entry ([.ref x, .long q, .int t]) (n := 5) (Nat.le_of_ble_eq_true rfl)
  rw [lg_entry_eq]
  generalize (lg_sl ([.ref x, .long q, .int t]) ++ List.replicate (5 - (lg_sl ([.ref x, .long q, .int t])).length) Slot.unset).toArray = ls at hl ⊢
  replace hl : lv_has ls 5 [(0, .ref x), (1, .long q), (3, .int t)] := hl
  refine lv_aload_n hx hb dX1_text_0 rfl (lv_at hl 0 rfl) ?_
  refine lv_lload_n hx hb dX1_text_1 rfl (lv_at hl 1 rfl) ?_
  refine lv_iload_n hx hb dX1_text_2 rfl (lv_at hl 2 rfl) ?_
  refine vp_callSi (va_Run.run (va_runV (As := [.long q, .int t]) (rest := []) ⟨hx, hb, hml, hown, hts⟩ (c_placeOf l dC dI cL cI x r k a1 a2 a3 a4 hk hs u hd sz tx ln hu q t j hj) (cwV 2 hts gX1_text_X1_placeOf rfl rfl rfl (by decide +kernel) ⟨Nat.le_of_ble_eq_true rfl, Nat.le_of_ble_eq_true rfl⟩) (rd_preV hK (hP.sub (ws' := [(x, .inr (1, [.ref r, .ref k, .long hk, .int hs])), (r, .inr (0, [.ref a1, .ref a2, .ref a3, .ref a4, .int (nI u)])), (a1, .inl (cL, 150, .inr (.inl hd))), (a2, .inl (cI, 150, .inl sz)), (a3, .inl (cL, 150, .inr (.inl tx))), (a4, .inl (cI, 150, .inl ln))]) [0, 1, 2, 3, 4, 5] rfl) (ci := 1) (q0 := 0) rfl rfl) rfl rfl hl.1 rfl (lv_room (Nat.le_of_ble_eq_true rfl)) dX1_text_3 ⟨Nat.le_of_ble_eq_true rfl, Nat.le_of_ble_eq_true rfl⟩)) (fun r1 hr1 => ?_)
  rcases hr1 with ⟨hok, hh, rfl⟩ | ⟨hh, rfl⟩
  · skip
    have hju : j < u := hh.1
    refine lv_istore (lv' := [(4, .int (nI j)), (0, .ref x), (1, .long q), (3, .int t)]) hx hb dX1_text_6 hl (by decide) rfl (fun ls hl => ?_)
    refine lv_aload_n hx hb dX1_text_8 rfl (lv_at hl 1 rfl) ?_
    refine va_get (D := (dC, dI)) (ci := 1) (v := .ref r) (C := RX1) (T := TX1) (N := 4) hx hb hts i_X1_text_X1 hown hK hP 0 rfl rfl 0 (by decide) (hts (.fieldLink RX1 10 "BlockTree" "now" "LBlockTree$Rows;") (by decide +kernel)) (fun _ h9 => h9) rfl dX1_text_9 ?_
    refine lv_iload hx hb dX1_text_12 (lv_at hl 0 rfl) ?_
    refine vp_callSi (va_Run.run (va_runV (As := [.int (nI j)]) (rest := []) ⟨hx, hb, hml, hown, hts⟩ (c_has l dC dI cL cI r a1 a2 a3 a4 u hu (nI j)) (cwV 1 hts gX1_text_X0_has rfl rfl rfl (by decide +kernel) ⟨Nat.le_of_ble_eq_true rfl, Nat.le_of_ble_eq_true rfl⟩) (rd_preV hK (hP.sub (ws' := [(r, .inr (0, [.ref a1, .ref a2, .ref a3, .ref a4, .int (nI u)]))]) [1] rfl) (ci := 0) (q0 := 0) rfl rfl) rfl rfl hl.1 rfl (lv_room (Nat.le_of_ble_eq_true rfl)) dX1_text_14 ⟨Nat.le_of_ble_eq_true rfl, Nat.le_of_ble_eq_true rfl⟩)) (fun r2 hr2 => ?_)
    rcases hr2 with ⟨rfl, -⟩ | ⟨rfl, hno⟩
    · skip
      refine lv_if_eq (tgt := 33) hx hb dX1_text_17 (by decide) (fun c_17 => absurd c_17 (by decide)) (fun c_17 => ?_)
      refine lv_aload_n hx hb dX1_text_20 rfl (lv_at hl 1 rfl) ?_
      refine va_get (D := (dC, dI)) (ci := 1) (v := .ref r) (C := RX1) (T := TX1) (N := 4) hx hb hts i_X1_text_X1 hown hK hP 0 rfl rfl 0 (by decide) (hts (.fieldLink RX1 10 "BlockTree" "now" "LBlockTree$Rows;") (by decide +kernel)) (fun _ h9 => h9) rfl dX1_text_21 ?_
      refine va_get (D := (dC, dI)) (ci := 0) (v := .ref a3) (C := RX0) (T := TX0) (N := 5) hx hb hts i_X1_text_X0 hown hK hP 1 rfl rfl 2 (by decide) (hts (.fieldLink RX1 60 "BlockTree$Rows" "texts" "[J") (by decide +kernel)) (fun _ h9 => h9) rfl dX1_text_24 ?_
      refine lv_iload hx hb dX1_text_27 (lv_at hl 0 rfl) ?_
      refine va_lald hx hb hK hP 4 0 rfl rfl (vp_in_nI (by omega) (by omega)) dX1_text_29 ?_
      refine lv_topl (fun z_1 ez_1 => ?_)
      rw [show ((nI j)).toNatClampNeg = j from (nI_clamp (by omega))] at ez_1
      subst ez_1
      refine lv_goto (tgt := 34) hx hb dX1_text_30 (by decide) ?_
      exact W.lret (v := (tx j)) hx hb hr (fun t9 ht hW => ⟨(tx j), rfl, by first | exact Or.inl ⟨hok, hh, rfl⟩ | exact Or.inr ⟨hh, rfl⟩, ht⟩) (fun q h => absurd h List.not_mem_nil) dX1_text_34
    · skip
      exact absurd ⟨j, hju, rfl⟩ hno
  · skip
    refine lv_istore (lv' := [(4, .int (-1)), (0, .ref x), (1, .long q), (3, .int t)]) hx hb dX1_text_6 hl (by decide) rfl (fun ls hl => ?_)
    refine lv_aload_n hx hb dX1_text_8 rfl (lv_at hl 1 rfl) ?_
    refine va_get (D := (dC, dI)) (ci := 1) (v := .ref r) (C := RX1) (T := TX1) (N := 4) hx hb hts i_X1_text_X1 hown hK hP 0 rfl rfl 0 (by decide) (hts (.fieldLink RX1 10 "BlockTree" "now" "LBlockTree$Rows;") (by decide +kernel)) (fun _ h9 => h9) rfl dX1_text_9 ?_
    refine lv_iload hx hb dX1_text_12 (lv_at hl 0 rfl) ?_
    refine vp_callSi (va_Run.run (va_runV (As := [.int (-1)]) (rest := []) ⟨hx, hb, hml, hown, hts⟩ (c_has l dC dI cL cI r a1 a2 a3 a4 u hu (-1)) (cwV 1 hts gX1_text_X0_has rfl rfl rfl (by decide +kernel) ⟨Nat.le_of_ble_eq_true rfl, Nat.le_of_ble_eq_true rfl⟩) (rd_preV hK (hP.sub (ws' := [(r, .inr (0, [.ref a1, .ref a2, .ref a3, .ref a4, .int (nI u)]))]) [1] rfl) (ci := 0) (q0 := 0) rfl rfl) rfl rfl hl.1 rfl (lv_room (Nat.le_of_ble_eq_true rfl)) dX1_text_14 ⟨Nat.le_of_ble_eq_true rfl, Nat.le_of_ble_eq_true rfl⟩)) (fun r2 hr2 => ?_)
    rcases hr2 with ⟨rfl, hyes⟩ | ⟨rfl, -⟩
    · skip
      exact absurd hyes (m1_no hu)
    · skip
      refine lv_if_eq (tgt := 33) hx hb dX1_text_17 (by decide) (fun c_17 => ?_) (fun c_17 => absurd c_17 (by decide))
      refine lv_lconst (v := 0) hx hb dX1_text_33 (by decide) ?_
      exact W.lret (v := 0) hx hb hr (fun t9 ht hW => ⟨0, rfl, by first | exact Or.inl ⟨hok, hh, rfl⟩ | exact Or.inr ⟨hh, rfl⟩, ht⟩) (fun q h => absurd h List.not_mem_nil) dX1_text_34
set_option maxHeartbeats 4000000 in
set_option maxRecDepth 100000 in
/-- foundSize -/
theorem c_foundSize (l : Launch) (dC : Nat → ClassId) (dI : Nat → Nat → Nat) (cL cI : ClassId) (x r k a1 a2 a3 a4 : Nat) (hk : Int64) (hs : Int32) (u : Nat) (hd : Nat → Int64) (sz : Nat → Int32) (tx : Nat → Int64) (ln : Nat → Int32) : Met l yX1_foundSize wsX1_foundSize ({ frames := 0, cells := 0, slots := 0, locals := 0 }) (rdP (dC, dI) (kS cL cI) (tW cL cI x r k a1 a2 a3 a4 (hk, hs) (u, hd, sz, tx, ln)) [.ref x]) (vp_Si (fun z => z = hs)) 0 0 (fun _ => False) := by
  refine Met.ofW (cc := cX1_foundSize) (maxL := 1) (ret := some .int) (by decide) rfl ?_
  intro p e s m args below meth c s₁ B hml hv
  obtain ⟨rfl, hP, hK⟩ := hv
  have hx := B.exec
  have hb := B.bytes
  have hr := B.returns
  have hts := atoms_spec (ws := wsX1_foundSize) B.pre
  have hown : s.vm.findClass RX1 = some m.cls := findClass_of_methodNamed B.named
  have hlocks := B.notSynchronized
  replace hP : va_P (dC, dI) vwCl [(x, .inr (1, [.ref r, .ref k, .long hk, .int hs])), (r, .inr (0, [.ref a1, .ref a2, .ref a3, .ref a4, .int (nI u)])), (a1, .inl (cL, 150, .inr (.inl hd))), (a2, .inl (cI, 150, .inl sz)), (a3, .inl (cL, 150, .inr (.inl tx))), (a4, .inl (cI, 150, .inl ln))] s.heap := hP
  have hl := lv_entry ([.ref x]) (n := 1) (Nat.le_of_ble_eq_true rfl)
  rw [lg_entry_eq]
  generalize (lg_sl ([.ref x]) ++ List.replicate (1 - (lg_sl ([.ref x])).length) Slot.unset).toArray = ls at hl ⊢
  replace hl : lv_has ls 1 [(0, .ref x)] := hl
  refine lv_aload_n hx hb dX1_foundSize_0 rfl (lv_at hl 0 rfl) ?_
  refine va_get (D := (dC, dI)) (ci := 1) (v := .int hs) (C := RX1) (T := TX1) (N := 4) hx hb hts i_X1_foundSize_X1 hown hK hP 0 rfl rfl 3 (by decide) (hts (.fieldLink RX1 23 "BlockTree" "hitSize" "I") (by decide +kernel)) (fun _ h9 => h9) rfl dX1_foundSize_1 ?_
  exact W.iret (v := hs) hx hb hr (fun t9 ht hW => ⟨hs, rfl, rfl, ht⟩) (fun q h => absurd h List.not_mem_nil) dX1_foundSize_4
set_option maxHeartbeats 4000000 in
set_option maxRecDepth 100000 in
/-- found -/
theorem c_found (l : Launch) (dC : Nat → ClassId) (dI : Nat → Nat → Nat) (cL cI : ClassId) (x r k a1 a2 a3 a4 : Nat) (hk : Int64) (hs : Int32) (u : Nat) (hd : Nat → Int64) (sz : Nat → Int32) (tx : Nat → Int64) (ln : Nat → Int32) : Met l yX1_found wsX1_found ({ frames := 0, cells := 0, slots := 0, locals := 0 }) (rdP (dC, dI) (kS cL cI) (tW cL cI x r k a1 a2 a3 a4 (hk, hs) (u, hd, sz, tx, ln)) [.ref x]) (vp_Sl (fun z => z = hk)) 0 0 (fun _ => False) := by
  refine Met.ofW (cc := cX1_found) (maxL := 1) (ret := some .long) (by decide) rfl ?_
  intro p e s m args below meth c s₁ B hml hv
  obtain ⟨rfl, hP, hK⟩ := hv
  have hx := B.exec
  have hb := B.bytes
  have hr := B.returns
  have hts := atoms_spec (ws := wsX1_found) B.pre
  have hown : s.vm.findClass RX1 = some m.cls := findClass_of_methodNamed B.named
  have hlocks := B.notSynchronized
  replace hP : va_P (dC, dI) vwCl [(x, .inr (1, [.ref r, .ref k, .long hk, .int hs])), (r, .inr (0, [.ref a1, .ref a2, .ref a3, .ref a4, .int (nI u)])), (a1, .inl (cL, 150, .inr (.inl hd))), (a2, .inl (cI, 150, .inl sz)), (a3, .inl (cL, 150, .inr (.inl tx))), (a4, .inl (cI, 150, .inl ln))] s.heap := hP
  have hl := lv_entry ([.ref x]) (n := 1) (Nat.le_of_ble_eq_true rfl)
  rw [lg_entry_eq]
  generalize (lg_sl ([.ref x]) ++ List.replicate (1 - (lg_sl ([.ref x])).length) Slot.unset).toArray = ls at hl ⊢
  replace hl : lv_has ls 1 [(0, .ref x)] := hl
  refine lv_aload_n hx hb dX1_found_0 rfl (lv_at hl 0 rfl) ?_
  refine va_get (D := (dC, dI)) (ci := 1) (v := .long hk) (C := RX1) (T := TX1) (N := 4) hx hb hts i_X1_found_X1 hown hK hP 0 rfl rfl 2 (by decide) (hts (.fieldLink RX1 19 "BlockTree" "hitKey" "J") (by decide +kernel)) (fun _ h9 => h9) rfl dX1_found_1 ?_
  exact W.lret (v := hk) hx hb hr (fun t9 ht hW => ⟨hk, rfl, rfl, ht⟩) (fun q h => absurd h List.not_mem_nil) dX1_found_4
set_option maxHeartbeats 4000000 in
set_option maxRecDepth 100000 in
/-- count -/
theorem c_count (l : Launch) (dC : Nat → ClassId) (dI : Nat → Nat → Nat) (cL cI : ClassId) (x r k a1 a2 a3 a4 : Nat) (hk : Int64) (hs : Int32) (u : Nat) (hd : Nat → Int64) (sz : Nat → Int32) (tx : Nat → Int64) (ln : Nat → Int32) : Met l yX1_count wsX1_count ({ frames := 0, cells := 0, slots := 0, locals := 0 }) (rdP (dC, dI) (kS cL cI) (tW cL cI x r k a1 a2 a3 a4 (hk, hs) (u, hd, sz, tx, ln)) [.ref x]) (vp_Si (fun z => z = nI u)) 0 0 (fun _ => False) := by
  refine Met.ofW (cc := cX1_count) (maxL := 1) (ret := some .int) (by decide) rfl ?_
  intro p e s m args below meth c s₁ B hml hv
  obtain ⟨rfl, hP, hK⟩ := hv
  have hx := B.exec
  have hb := B.bytes
  have hr := B.returns
  have hts := atoms_spec (ws := wsX1_count) B.pre
  have hown : s.vm.findClass RX1 = some m.cls := findClass_of_methodNamed B.named
  have hlocks := B.notSynchronized
  replace hP : va_P (dC, dI) vwCl [(x, .inr (1, [.ref r, .ref k, .long hk, .int hs])), (r, .inr (0, [.ref a1, .ref a2, .ref a3, .ref a4, .int (nI u)])), (a1, .inl (cL, 150, .inr (.inl hd))), (a2, .inl (cI, 150, .inl sz)), (a3, .inl (cL, 150, .inr (.inl tx))), (a4, .inl (cI, 150, .inl ln))] s.heap := hP
  have hl := lv_entry ([.ref x]) (n := 1) (Nat.le_of_ble_eq_true rfl)
  rw [lg_entry_eq]
  generalize (lg_sl ([.ref x]) ++ List.replicate (1 - (lg_sl ([.ref x])).length) Slot.unset).toArray = ls at hl ⊢
  replace hl : lv_has ls 1 [(0, .ref x)] := hl
  refine lv_aload_n hx hb dX1_count_0 rfl (lv_at hl 0 rfl) ?_
  refine va_get (D := (dC, dI)) (ci := 1) (v := .ref r) (C := RX1) (T := TX1) (N := 4) hx hb hts i_X1_count_X1 hown hK hP 0 rfl rfl 0 (by decide) (hts (.fieldLink RX1 10 "BlockTree" "now" "LBlockTree$Rows;") (by decide +kernel)) (fun _ h9 => h9) rfl dX1_count_1 ?_
  refine va_get (D := (dC, dI)) (ci := 0) (v := .int (nI u)) (C := RX0) (T := TX0) (N := 5) hx hb hts i_X1_count_X0 hown hK hP 1 rfl rfl 4 (by decide) (hts (.fieldLink RX1 70 "BlockTree$Rows" "used" "I") (by decide +kernel)) (fun _ h9 => h9) rfl dX1_count_4 ?_
  exact W.iret (v := (nI u)) hx hb hr (fun t9 ht hW => ⟨(nI u), rfl, rfl, ht⟩) (fun q h => absurd h List.not_mem_nil) dX1_count_7
end
section
set_option maxHeartbeats 4000000 in
set_option maxRecDepth 100000 in
/-- noteFound -/
theorem c_noteFound (l : Launch) (dC : Nat → ClassId) (dI : Nat → Nat → Nat) (hz : Nat) (cL cI : ClassId) (x r k a1 a2 a3 a4 : Nat) (hk : Int64) (hs : Int32) (u : Nat) (hd : Nat → Int64) (sz : Nat → Int32) (tx : Nat → Int64) (ln : Nat → Int32) (hu : u ≤ 150) (i : Int32) : Met l yX1_noteFound wsX1_noteFound ({ frames := 1, cells := 0, slots := 0, locals := 21 }) (wrP (dC, dI) (kS cL cI) (tW cL cI x r k a1 a2 a3 a4 (hk, hs) (u, hd, sz, tx, ln)) [.ref x, .int i] hz) (va_Qi (fun (z : Int32) (v : Int64 × Int32) => nfQ u hd sz i z v) (wrB (dC, dI) (va_A (tW cL cI x r k a1 a2 a3 a4 (hk, hs) (u, hd, sz, tx, ln)) hz) (fun (v : Int64 × Int32) => tW cL cI x r k a1 a2 a3 a4 v (u, hd, sz, tx, ln))) (va_A (tW cL cI x r k a1 a2 a3 a4 (hk, hs) (u, hd, sz, tx, ln)) hz)) 0 0 (va_A (tW cL cI x r k a1 a2 a3 a4 (hk, hs) (u, hd, sz, tx, ln)) hz) := by
  refine Met.ofW (cc := cX1_noteFound) (maxL := 2) (ret := some .boolean) (by decide) rfl ?_
  intro p e s m args below meth c s₁ B hml hv
  obtain ⟨rfl, hsz, hP, hK, hD0⟩ := hv
  have hx := B.exec
  have hb := B.bytes
  have hr := B.returns
  have hts := atoms_spec (ws := wsX1_noteFound) B.pre
  have hown : s.vm.findClass RX1 = some m.cls := findClass_of_methodNamed B.named
  have hlocks := B.notSynchronized
  subst hsz
  have hD := hD0.self (sz := s.heap.size)
  generalize hAe : va_A (tW cL cI x r k a1 a2 a3 a4 (hk, hs) (u, hd, sz, tx, ln)) s.heap.size = A at hD ⊢
  have hA : ∀ q : Nat, s.heap.size ≤ q → A q := fun q h => by rw [← hAe]; exact Or.inr h
  have hS : va_S A s.heap s.heap [] := va_S.rf
  replace hP : va_P (dC, dI) vwCl [(x, .inr (1, [.ref r, .ref k, .long hk, .int hs])), (r, .inr (0, [.ref a1, .ref a2, .ref a3, .ref a4, .int (nI u)])), (a1, .inl (cL, 150, .inr (.inl hd))), (a2, .inl (cI, 150, .inl sz)), (a3, .inl (cL, 150, .inr (.inl tx))), (a4, .inl (cI, 150, .inl ln))] s.heap := hP
  replace hD : va_D A [(x, .inr (1, [.ref r, .ref k, .long hk, .int hs])), (r, .inr (0, [.ref a1, .ref a2, .ref a3, .ref a4, .int (nI u)])), (a1, .inl (cL, 150, .inr (.inl hd))), (a2, .inl (cI, 150, .inl sz)), (a3, .inl (cL, 150, .inr (.inl tx))), (a4, .inl (cI, 150, .inl ln))] := hD
  have hl := lv_entry ([.ref x, .int i]) (n := 2) (Nat.le_of_ble_eq_true rfl)
  rw [lg_entry_eq]
  generalize (lg_sl ([.ref x, .int i]) ++ List.replicate (2 - (lg_sl ([.ref x, .int i])).length) Slot.unset).toArray = ls at hl ⊢
  replace hl : lv_has ls 2 [(0, .ref x), (1, .int i)] := hl
  refine lv_aload_n hx hb dX1_noteFound_0 rfl (lv_at hl 0 rfl) ?_
  refine va_get (D := (dC, dI)) (ci := 1) (v := .ref r) (C := RX1) (T := TX1) (N := 4) hx hb hts i_X1_noteFound_X1 hown hK hP 0 rfl rfl 0 (by decide) (hts (.fieldLink RX1 10 "BlockTree" "now" "LBlockTree$Rows;") (by decide +kernel)) (fun _ h9 => h9) rfl dX1_noteFound_1 ?_
  refine lv_iload_n hx hb dX1_noteFound_4 rfl (lv_at hl 1 rfl) ?_
  refine vp_callSi (va_Run.run (va_runV (As := [.int i]) (rest := []) ⟨hx, hb, hml, hown, hts⟩ (c_has l dC dI cL cI r a1 a2 a3 a4 u hu i) (cwV 1 hts gX1_noteFound_X0_has rfl rfl rfl (by decide +kernel) ⟨Nat.le_of_ble_eq_true rfl, Nat.le_of_ble_eq_true rfl⟩) (rd_preV hK (hP.sub (ws' := [(r, .inr (0, [.ref a1, .ref a2, .ref a3, .ref a4, .int (nI u)]))]) [1] rfl) (ci := 0) (q0 := 0) rfl rfl) rfl rfl hl.1 rfl (lv_room (Nat.le_of_ble_eq_true rfl)) dX1_noteFound_5 ⟨Nat.le_of_ble_eq_true rfl, Nat.le_of_ble_eq_true rfl⟩)) (fun r2 hr2 => ?_)
  rcases hr2 with ⟨rfl, j, hju, ei⟩ | ⟨rfl, hno⟩
  · skip
    refine lv_if_ne (tgt := 23) hx hb dX1_noteFound_8 (by decide) (fun c_8 => ?_) (fun c_8 => absurd c_8 (by decide))
    refine lv_aload_n hx hb dX1_noteFound_23 rfl (lv_at hl 0 rfl) ?_
    refine lv_aload_n hx hb dX1_noteFound_24 rfl (lv_at hl 0 rfl) ?_
    refine va_get (D := (dC, dI)) (ci := 1) (v := .ref r) (C := RX1) (T := TX1) (N := 4) hx hb hts i_X1_noteFound_X1 hown hK hP 0 rfl rfl 0 (by decide) (hts (.fieldLink RX1 10 "BlockTree" "now" "LBlockTree$Rows;") (by decide +kernel)) (fun _ h9 => h9) rfl dX1_noteFound_25 ?_
    refine va_get (D := (dC, dI)) (ci := 0) (v := .ref a2) (C := RX0) (T := TX0) (N := 5) hx hb hts i_X1_noteFound_X0 hown hK hP 1 rfl rfl 1 (by decide) (hts (.fieldLink RX1 77 "BlockTree$Rows" "sizes" "[I") (by decide +kernel)) (fun _ h9 => h9) rfl dX1_noteFound_28 ?_
    refine lv_iload_n hx hb dX1_noteFound_31 rfl (lv_at hl 1 rfl) ?_
    refine va_iald hx hb hK hP 3 1 rfl rfl (by rw [ei]; exact vp_in_nI (by omega) (by omega)) dX1_noteFound_32 ?_
    refine lv_topi (fun z_1 ez_1 => ?_)
    rw [show (i).toNatClampNeg = j from (by rw [ei]; exact nI_clamp (by omega))] at ez_1
    subst ez_1
    refine va_put (D := (dC, dI)) (ci := 1) (v := .int (sz j)) (ty := .int) (C := RX1) (T := TX1) (N := 4) hx hb hts i_X1_noteFound_X1 tyX1 tyX1_ok nmX1 hown hK hP hD hS 0 rfl rfl 3 (by decide) (hts (.fieldLink RX1 23 "BlockTree" "hitSize" "I") (by decide +kernel)) (fun _ h9 => h9) rfl (by decide +kernel) rfl rfl (Nat.le_of_ble_eq_true rfl) dX1_noteFound_33 (fun H locs hP hD hS => ?_)
    replace hP : va_P (dC, dI) vwCl [(x, .inr (1, [.ref r, .ref k, .long hk, .int (sz j)])), (r, .inr (0, [.ref a1, .ref a2, .ref a3, .ref a4, .int (nI u)])), (a1, .inl (cL, 150, .inr (.inl hd))), (a2, .inl (cI, 150, .inl sz)), (a3, .inl (cL, 150, .inr (.inl tx))), (a4, .inl (cI, 150, .inl ln))] H := hP
    replace hD : va_D A [(x, .inr (1, [.ref r, .ref k, .long hk, .int (sz j)])), (r, .inr (0, [.ref a1, .ref a2, .ref a3, .ref a4, .int (nI u)])), (a1, .inl (cL, 150, .inr (.inl hd))), (a2, .inl (cI, 150, .inl sz)), (a3, .inl (cL, 150, .inr (.inl tx))), (a4, .inl (cI, 150, .inl ln))] := hD
    refine lv_aload_n hx hb dX1_noteFound_36 rfl (lv_at hl 0 rfl) ?_
    refine lv_aload_n hx hb dX1_noteFound_37 rfl (lv_at hl 0 rfl) ?_
    refine va_get (D := (dC, dI)) (ci := 1) (v := .ref r) (C := RX1) (T := TX1) (N := 4) hx hb hts i_X1_noteFound_X1 hown hK hP 0 rfl rfl 0 (by decide) (hts (.fieldLink RX1 10 "BlockTree" "now" "LBlockTree$Rows;") (by decide +kernel)) (fun _ h9 => h9) rfl dX1_noteFound_38 ?_
    refine va_get (D := (dC, dI)) (ci := 0) (v := .ref a1) (C := RX0) (T := TX0) (N := 5) hx hb hts i_X1_noteFound_X0 hown hK hP 1 rfl rfl 0 (by decide) (hts (.fieldLink RX1 80 "BlockTree$Rows" "heads" "[J") (by decide +kernel)) (fun _ h9 => h9) rfl dX1_noteFound_41 ?_
    refine lv_iload_n hx hb dX1_noteFound_44 rfl (lv_at hl 1 rfl) ?_
    refine va_lald hx hb hK hP 2 0 rfl rfl (by rw [ei]; exact vp_in_nI (by omega) (by omega)) dX1_noteFound_45 ?_
    refine lv_topl (fun z_2 ez_2 => ?_)
    rw [show (i).toNatClampNeg = j from (by rw [ei]; exact nI_clamp (by omega))] at ez_2
    subst ez_2
    refine lv_aload_n hx hb dX1_noteFound_46 rfl (lv_at hl 0 rfl) ?_
    refine va_get (D := (dC, dI)) (ci := 1) (v := .int (sz j)) (C := RX1) (T := TX1) (N := 4) hx hb hts i_X1_noteFound_X1 hown hK hP 0 rfl rfl 3 (by decide) (hts (.fieldLink RX1 23 "BlockTree" "hitSize" "I") (by decide +kernel)) (fun _ h9 => h9) rfl dX1_noteFound_47 ?_
    refine vp_callSi (va_Run.run (va_runS (As := [.int (sz j)]) (rest := [.long (hd j), .ref x]) ⟨hx, hb, hml, hown, hts⟩ (c_unusedBits l (sz j)) (va_cwS 1 hts gX1_noteFound_X1_unusedBits rfl rfl rfl (by decide +kernel) ⟨Nat.le_of_ble_eq_true rfl, Nat.le_of_ble_eq_true rfl⟩) (st_pre) rfl rfl hl.1 rfl (lv_room (Nat.le_of_ble_eq_true rfl)) dX1_noteFound_50 ⟨Nat.le_of_ble_eq_true rfl, Nat.le_of_ble_eq_true rfl⟩)) (fun rb hrb => ?_)
    subst hrb
    refine lv_lushr hx hb dX1_noteFound_53 rfl ?_
    refine lv_topl (fun z_3 ez_3 => ?_)
    obtain rfl : z_3 = unH (hd j) (sz j) := ez_3.trans (by unfold unH; rfl)
    refine va_put (D := (dC, dI)) (ci := 1) (v := .long (unH (hd j) (sz j))) (ty := .long) (C := RX1) (T := TX1) (N := 4) hx hb hts i_X1_noteFound_X1 tyX1 tyX1_ok nmX1 hown hK hP hD hS 0 rfl rfl 2 (by decide) (hts (.fieldLink RX1 19 "BlockTree" "hitKey" "J") (by decide +kernel)) (fun _ h9 => h9) rfl (by decide +kernel) rfl rfl (Nat.le_of_ble_eq_true rfl) dX1_noteFound_54 (fun H locs hP hD hS => ?_)
    replace hP : va_P (dC, dI) vwCl [(x, .inr (1, [.ref r, .ref k, .long (unH (hd j) (sz j)), .int (sz j)])), (r, .inr (0, [.ref a1, .ref a2, .ref a3, .ref a4, .int (nI u)])), (a1, .inl (cL, 150, .inr (.inl hd))), (a2, .inl (cI, 150, .inl sz)), (a3, .inl (cL, 150, .inr (.inl tx))), (a4, .inl (cI, 150, .inl ln))] H := hP
    replace hD : va_D A [(x, .inr (1, [.ref r, .ref k, .long (unH (hd j) (sz j)), .int (sz j)])), (r, .inr (0, [.ref a1, .ref a2, .ref a3, .ref a4, .int (nI u)])), (a1, .inl (cL, 150, .inr (.inl hd))), (a2, .inl (cI, 150, .inl sz)), (a3, .inl (cL, 150, .inr (.inl tx))), (a4, .inl (cI, 150, .inl ln))] := hD
    refine lv_iconst (v := 1) hx hb dX1_noteFound_57 (by decide) ?_
    exact W.zret (v := 1) hx hb hr (by first | rfl | decide +kernel | assumption) (fun t9 ht hW => ⟨⟨1, (unH (hd j) (sz j), sz j), rfl, Or.inl ⟨j, hju, ei, rfl, rfl⟩, by rw [ht]; exact hP, hD⟩, hS.F ht⟩) hS.2.2 dX1_noteFound_58
  · skip
    refine lv_if_ne (tgt := 23) hx hb dX1_noteFound_8 (by decide) (fun c_8 => absurd c_8 (by decide)) (fun c_8 => ?_)
    refine lv_aload_n hx hb dX1_noteFound_11 rfl (lv_at hl 0 rfl) ?_
    refine lv_lconst (v := 0) hx hb dX1_noteFound_12 (by decide) ?_
    refine va_put (D := (dC, dI)) (ci := 1) (v := .long 0) (ty := .long) (C := RX1) (T := TX1) (N := 4) hx hb hts i_X1_noteFound_X1 tyX1 tyX1_ok nmX1 hown hK hP hD hS 0 rfl rfl 2 (by decide) (hts (.fieldLink RX1 19 "BlockTree" "hitKey" "J") (by decide +kernel)) (fun _ h9 => h9) rfl (by decide +kernel) rfl rfl (Nat.le_of_ble_eq_true rfl) dX1_noteFound_13 (fun H locs hP hD hS => ?_)
    replace hP : va_P (dC, dI) vwCl [(x, .inr (1, [.ref r, .ref k, .long 0, .int hs])), (r, .inr (0, [.ref a1, .ref a2, .ref a3, .ref a4, .int (nI u)])), (a1, .inl (cL, 150, .inr (.inl hd))), (a2, .inl (cI, 150, .inl sz)), (a3, .inl (cL, 150, .inr (.inl tx))), (a4, .inl (cI, 150, .inl ln))] H := hP
    replace hD : va_D A [(x, .inr (1, [.ref r, .ref k, .long 0, .int hs])), (r, .inr (0, [.ref a1, .ref a2, .ref a3, .ref a4, .int (nI u)])), (a1, .inl (cL, 150, .inr (.inl hd))), (a2, .inl (cI, 150, .inl sz)), (a3, .inl (cL, 150, .inr (.inl tx))), (a4, .inl (cI, 150, .inl ln))] := hD
    refine lv_aload_n hx hb dX1_noteFound_16 rfl (lv_at hl 0 rfl) ?_
    refine lv_iconst (v := 0) hx hb dX1_noteFound_17 (by decide) ?_
    refine va_put (D := (dC, dI)) (ci := 1) (v := .int 0) (ty := .int) (C := RX1) (T := TX1) (N := 4) hx hb hts i_X1_noteFound_X1 tyX1 tyX1_ok nmX1 hown hK hP hD hS 0 rfl rfl 3 (by decide) (hts (.fieldLink RX1 23 "BlockTree" "hitSize" "I") (by decide +kernel)) (fun _ h9 => h9) rfl (by decide +kernel) rfl rfl (Nat.le_of_ble_eq_true rfl) dX1_noteFound_18 (fun H locs hP hD hS => ?_)
    replace hP : va_P (dC, dI) vwCl [(x, .inr (1, [.ref r, .ref k, .long 0, .int 0])), (r, .inr (0, [.ref a1, .ref a2, .ref a3, .ref a4, .int (nI u)])), (a1, .inl (cL, 150, .inr (.inl hd))), (a2, .inl (cI, 150, .inl sz)), (a3, .inl (cL, 150, .inr (.inl tx))), (a4, .inl (cI, 150, .inl ln))] H := hP
    replace hD : va_D A [(x, .inr (1, [.ref r, .ref k, .long 0, .int 0])), (r, .inr (0, [.ref a1, .ref a2, .ref a3, .ref a4, .int (nI u)])), (a1, .inl (cL, 150, .inr (.inl hd))), (a2, .inl (cI, 150, .inl sz)), (a3, .inl (cL, 150, .inr (.inl tx))), (a4, .inl (cI, 150, .inl ln))] := hD
    refine lv_iconst (v := 0) hx hb dX1_noteFound_21 (by decide) ?_
    exact W.zret (v := 0) hx hb hr (by first | rfl | decide +kernel | assumption) (fun t9 ht hW => ⟨⟨0, (0, 0), rfl, Or.inr ⟨hno, rfl, rfl⟩, by rw [ht]; exact hP, hD⟩, hS.F ht⟩) hS.2.2 dX1_noteFound_22
set_option maxHeartbeats 4000000 in
set_option maxRecDepth 100000 in
/-- seek -/
theorem c_seek (l : Launch) (dC : Nat → ClassId) (dI : Nat → Nat → Nat) (hz : Nat) (cL cI : ClassId) (x r k a1 a2 a3 a4 : Nat) (hk : Int64) (hs : Int32) (u : Nat) (hd : Nat → Int64) (sz : Nat → Int32) (tx : Nat → Int64) (ln : Nat → Int32) (hu : u ≤ 150) (q : Int64) (t : Int32) (j : Nat) (hj : okK t → spl u hd sz (hdOf q t) t j) : Met l yX1_seek wsX1_seek ({ frames := 3, cells := 0, slots := 0, locals := 70 }) (wrP (dC, dI) (kS cL cI) (tW cL cI x r k a1 a2 a3 a4 (hk, hs) (u, hd, sz, tx, ln)) [.ref x, .long q, .int t] hz) (va_Qi (fun (z : Int32) (v : Int64 × Int32) => (okK t ∧ nfQ u hd sz (nI j) z v) ∨ (¬ okK t ∧ z = 0 ∧ v = (0, 0))) (wrB (dC, dI) (va_A (tW cL cI x r k a1 a2 a3 a4 (hk, hs) (u, hd, sz, tx, ln)) hz) (fun (v : Int64 × Int32) => tW cL cI x r k a1 a2 a3 a4 v (u, hd, sz, tx, ln))) (va_A (tW cL cI x r k a1 a2 a3 a4 (hk, hs) (u, hd, sz, tx, ln)) hz)) 0 0 (va_A (tW cL cI x r k a1 a2 a3 a4 (hk, hs) (u, hd, sz, tx, ln)) hz) := by
  refine Met.ofW (cc := cX1_seek) (maxL := 4) (ret := some .boolean) (by decide) rfl ?_
  intro p e s m args below meth c s₁ B hml hv
  obtain ⟨rfl, hsz, hP, hK, hD0⟩ := hv
  have hx := B.exec
  have hb := B.bytes
  have hr := B.returns
  have hts := atoms_spec (ws := wsX1_seek) B.pre
  have hown : s.vm.findClass RX1 = some m.cls := findClass_of_methodNamed B.named
  have hlocks := B.notSynchronized
  subst hsz
  have hD := hD0.self (sz := s.heap.size)
  generalize hAe : va_A (tW cL cI x r k a1 a2 a3 a4 (hk, hs) (u, hd, sz, tx, ln)) s.heap.size = A at hD ⊢
  have hA : ∀ q : Nat, s.heap.size ≤ q → A q := fun q h => by rw [← hAe]; exact Or.inr h
  have hS : va_S A s.heap s.heap [] := va_S.rf
  replace hP : va_P (dC, dI) vwCl [(x, .inr (1, [.ref r, .ref k, .long hk, .int hs])), (r, .inr (0, [.ref a1, .ref a2, .ref a3, .ref a4, .int (nI u)])), (a1, .inl (cL, 150, .inr (.inl hd))), (a2, .inl (cI, 150, .inl sz)), (a3, .inl (cL, 150, .inr (.inl tx))), (a4, .inl (cI, 150, .inl ln))] s.heap := hP
  replace hD : va_D A [(x, .inr (1, [.ref r, .ref k, .long hk, .int hs])), (r, .inr (0, [.ref a1, .ref a2, .ref a3, .ref a4, .int (nI u)])), (a1, .inl (cL, 150, .inr (.inl hd))), (a2, .inl (cI, 150, .inl sz)), (a3, .inl (cL, 150, .inr (.inl tx))), (a4, .inl (cI, 150, .inl ln))] := hD
  have hl := lv_entry ([.ref x, .long q, .int t]) (n := 4) (Nat.le_of_ble_eq_true rfl)
  rw [lg_entry_eq]
  generalize (lg_sl ([.ref x, .long q, .int t]) ++ List.replicate (4 - (lg_sl ([.ref x, .long q, .int t])).length) Slot.unset).toArray = ls at hl ⊢
  replace hl : lv_has ls 4 [(0, .ref x), (1, .long q), (3, .int t)] := hl
  refine lv_iload_n hx hb dX1_seek_0 rfl (lv_at hl 2 rfl) ?_
  refine vp_callSi (va_Run.run (va_runS (As := [.int t]) (rest := []) ⟨hx, hb, hml, hown, hts⟩ (c_isKeySize l t) (va_cwS 1 hts gX1_seek_X1_isKeySize rfl rfl rfl (by decide +kernel) ⟨Nat.le_of_ble_eq_true rfl, Nat.le_of_ble_eq_true rfl⟩) (st_pre) rfl rfl hl.1 rfl (lv_room (Nat.le_of_ble_eq_true rfl)) dX1_seek_1 ⟨Nat.le_of_ble_eq_true rfl, Nat.le_of_ble_eq_true rfl⟩)) (fun r1 hr1 => ?_)
  rcases hr1 with ⟨rfl, hok⟩ | ⟨rfl, hok⟩
  · skip
    refine lv_if_ne (tgt := 13) hx hb dX1_seek_4 (by decide) (fun c_4 => ?_) (fun c_4 => absurd c_4 (by decide))
    refine lv_aload_n hx hb dX1_seek_13 rfl (lv_at hl 0 rfl) ?_
    refine lv_aload_n hx hb dX1_seek_14 rfl (lv_at hl 0 rfl) ?_
    refine va_get (D := (dC, dI)) (ci := 1) (v := .ref r) (C := RX1) (T := TX1) (N := 4) hx hb hts i_X1_seek_X1 hown hK hP 0 rfl rfl 0 (by decide) (hts (.fieldLink RX1 10 "BlockTree" "now" "LBlockTree$Rows;") (by decide +kernel)) (fun _ h9 => h9) rfl dX1_seek_15 ?_
    refine lv_lload_n hx hb dX1_seek_18 rfl (lv_at hl 1 rfl) ?_
    refine lv_iload_n hx hb dX1_seek_19 rfl (lv_at hl 2 rfl) ?_
    refine vp_callSl (va_Run.run (va_runS (As := [.long q, .int t]) (rest := [.ref r, .ref x]) ⟨hx, hb, hml, hown, hts⟩ (c_headOf l q t) (va_cwS 2 hts gX1_seek_X1_headOf rfl rfl rfl (by decide +kernel) ⟨Nat.le_of_ble_eq_true rfl, Nat.le_of_ble_eq_true rfl⟩) (st_pre) rfl rfl hl.1 rfl (lv_room (Nat.le_of_ble_eq_true rfl)) dX1_seek_20 ⟨Nat.le_of_ble_eq_true rfl, Nat.le_of_ble_eq_true rfl⟩)) (fun r2 hr2 => ?_)
    subst hr2
    refine lv_iload_n hx hb dX1_seek_23 rfl (lv_at hl 2 rfl) ?_
    refine vp_callSi (va_Run.run (va_runV (As := [.long (hdOf q t), .int t]) (rest := [.ref x]) ⟨hx, hb, hml, hown, hts⟩ (c_firstNotBefore l dC dI cL cI r a1 a2 a3 a4 u hd sz hu (hdOf q t) t j (hj hok)) (cwV 2 hts gX1_seek_X0_firstNotBefore rfl rfl rfl (by decide +kernel) ⟨Nat.le_of_ble_eq_true rfl, Nat.le_of_ble_eq_true rfl⟩) (rd_preV hK (hP.sub (ws' := [(r, .inr (0, [.ref a1, .ref a2, .ref a3, .ref a4, .int (nI u)])), (a1, .inl (cL, 150, .inr (.inl hd))), (a2, .inl (cI, 150, .inl sz))]) [1, 2, 3] rfl) (ci := 0) (q0 := 0) rfl rfl) rfl rfl hl.1 rfl (lv_room (Nat.le_of_ble_eq_true rfl)) dX1_seek_24 ⟨Nat.le_of_ble_eq_true rfl, Nat.le_of_ble_eq_true rfl⟩)) (fun r3 hr3 => ?_)
    subst hr3
    refine wr_calli (wr := []) (va_runV (As := [.int (nI j)]) (rest := []) ⟨hx, hb, hml, hown, hts⟩ (c_noteFound l dC dI _ cL cI x r k a1 a2 a3 a4 hk hs u hd sz tx ln hu (nI j)) (cwV 1 hts gX1_seek_X1_noteFound rfl rfl rfl (by decide +kernel) ⟨Nat.le_of_ble_eq_true rfl, Nat.le_of_ble_eq_true rfl⟩) (wr_preV hK (hP.sub (ws' := [(x, .inr (1, [.ref r, .ref k, .long hk, .int hs])), (r, .inr (0, [.ref a1, .ref a2, .ref a3, .ref a4, .int (nI u)])), (a1, .inl (cL, 150, .inr (.inl hd))), (a2, .inl (cI, 150, .inl sz)), (a3, .inl (cL, 150, .inr (.inl tx))), (a4, .inl (cI, 150, .inl ln))]) [0, 1, 2, 3, 4, 5] rfl) (hD.sub (ws' := [(x, .inr (1, [.ref r, .ref k, .long hk, .int hs])), (r, .inr (0, [.ref a1, .ref a2, .ref a3, .ref a4, .int (nI u)])), (a1, .inl (cL, 150, .inr (.inl hd))), (a2, .inl (cI, 150, .inl sz)), (a3, .inl (cL, 150, .inr (.inl tx))), (a4, .inl (cI, 150, .inl ln))]) [0, 1, 2, 3, 4, 5] (by decide) rfl) (ci := 1) (q0 := 0) rfl rfl) rfl rfl hl.1 rfl (lv_room (Nat.le_of_ble_eq_true rfl)) dX1_seek_27 ⟨Nat.le_of_ble_eq_true rfl, Nat.le_of_ble_eq_true rfl⟩) hP hD hS hA [0, 1, 2, 3, 4, 5] [] rfl rfl (by decide) (by decide) (fun r5 u_ H locs hr5 hP hD hS => ?_)
    replace hP := hP.sub (ws' := [(x, .inr (1, [.ref r, .ref k, .long u_.1, .int u_.2])), (r, .inr (0, [.ref a1, .ref a2, .ref a3, .ref a4, .int (nI u)])), (a1, .inl (cL, 150, .inr (.inl hd))), (a2, .inl (cI, 150, .inl sz)), (a3, .inl (cL, 150, .inr (.inl tx))), (a4, .inl (cI, 150, .inl ln))]) [0, 1, 2, 3, 4, 5] rfl
    replace hD := hD.sub (ws' := [(x, .inr (1, [.ref r, .ref k, .long u_.1, .int u_.2])), (r, .inr (0, [.ref a1, .ref a2, .ref a3, .ref a4, .int (nI u)])), (a1, .inl (cL, 150, .inr (.inl hd))), (a2, .inl (cI, 150, .inl sz)), (a3, .inl (cL, 150, .inr (.inl tx))), (a4, .inl (cI, 150, .inl ln))]) [0, 1, 2, 3, 4, 5] (by decide) rfl
    have hnar : narrow .boolean (.int r5) = .int r5 := by rcases hr5 with ⟨_, _, _, rfl, _⟩ | ⟨_, rfl, _⟩ <;> rfl
    exact W.zret (v := r5) hx hb hr (by first | rfl | decide +kernel | assumption) (fun t9 ht hW => ⟨⟨r5, u_, rfl, by first | exact Or.inl ⟨hok, hr5⟩ | exact Or.inr ⟨hok, by rcases hr5 with ⟨i0, h1, h2, _⟩ | ⟨_, h1, h2⟩; exact absurd ⟨i0, h1, h2⟩ (m1_no hu); exact ⟨h1, h2⟩⟩, by rw [ht]; exact hP, hD⟩, hS.F ht⟩) hS.2.2 dX1_seek_30
  · skip
    refine lv_if_ne (tgt := 13) hx hb dX1_seek_4 (by decide) (fun c_4 => absurd c_4 (by decide)) (fun c_4 => ?_)
    refine lv_aload_n hx hb dX1_seek_7 rfl (lv_at hl 0 rfl) ?_
    refine lv_iconst (v := (-1)) hx hb dX1_seek_8 (by decide) ?_
    refine wr_calli (wr := []) (va_runV (As := [.int (-1)]) (rest := []) ⟨hx, hb, hml, hown, hts⟩ (c_noteFound l dC dI _ cL cI x r k a1 a2 a3 a4 hk hs u hd sz tx ln hu (-1)) (cwV 1 hts gX1_seek_X1_noteFound rfl rfl rfl (by decide +kernel) ⟨Nat.le_of_ble_eq_true rfl, Nat.le_of_ble_eq_true rfl⟩) (wr_preV hK (hP.sub (ws' := [(x, .inr (1, [.ref r, .ref k, .long hk, .int hs])), (r, .inr (0, [.ref a1, .ref a2, .ref a3, .ref a4, .int (nI u)])), (a1, .inl (cL, 150, .inr (.inl hd))), (a2, .inl (cI, 150, .inl sz)), (a3, .inl (cL, 150, .inr (.inl tx))), (a4, .inl (cI, 150, .inl ln))]) [0, 1, 2, 3, 4, 5] rfl) (hD.sub (ws' := [(x, .inr (1, [.ref r, .ref k, .long hk, .int hs])), (r, .inr (0, [.ref a1, .ref a2, .ref a3, .ref a4, .int (nI u)])), (a1, .inl (cL, 150, .inr (.inl hd))), (a2, .inl (cI, 150, .inl sz)), (a3, .inl (cL, 150, .inr (.inl tx))), (a4, .inl (cI, 150, .inl ln))]) [0, 1, 2, 3, 4, 5] (by decide) rfl) (ci := 1) (q0 := 0) rfl rfl) rfl rfl hl.1 rfl (lv_room (Nat.le_of_ble_eq_true rfl)) dX1_seek_9 ⟨Nat.le_of_ble_eq_true rfl, Nat.le_of_ble_eq_true rfl⟩) hP hD hS hA [0, 1, 2, 3, 4, 5] [] rfl rfl (by decide) (by decide) (fun r5 u_ H locs hr5 hP hD hS => ?_)
    replace hP := hP.sub (ws' := [(x, .inr (1, [.ref r, .ref k, .long u_.1, .int u_.2])), (r, .inr (0, [.ref a1, .ref a2, .ref a3, .ref a4, .int (nI u)])), (a1, .inl (cL, 150, .inr (.inl hd))), (a2, .inl (cI, 150, .inl sz)), (a3, .inl (cL, 150, .inr (.inl tx))), (a4, .inl (cI, 150, .inl ln))]) [0, 1, 2, 3, 4, 5] rfl
    replace hD := hD.sub (ws' := [(x, .inr (1, [.ref r, .ref k, .long u_.1, .int u_.2])), (r, .inr (0, [.ref a1, .ref a2, .ref a3, .ref a4, .int (nI u)])), (a1, .inl (cL, 150, .inr (.inl hd))), (a2, .inl (cI, 150, .inl sz)), (a3, .inl (cL, 150, .inr (.inl tx))), (a4, .inl (cI, 150, .inl ln))]) [0, 1, 2, 3, 4, 5] (by decide) rfl
    have hnar : narrow .boolean (.int r5) = .int r5 := by rcases hr5 with ⟨_, _, _, rfl, _⟩ | ⟨_, rfl, _⟩ <;> rfl
    exact W.zret (v := r5) hx hb hr (by first | rfl | decide +kernel | assumption) (fun t9 ht hW => ⟨⟨r5, u_, rfl, by first | exact Or.inl ⟨hok, hr5⟩ | exact Or.inr ⟨hok, by rcases hr5 with ⟨i0, h1, h2, _⟩ | ⟨_, h1, h2⟩; exact absurd ⟨i0, h1, h2⟩ (m1_no hu); exact ⟨h1, h2⟩⟩, by rw [ht]; exact hP, hD⟩, hS.F ht⟩) hS.2.2 dX1_seek_12
set_option maxHeartbeats 4000000 in
set_option maxRecDepth 100000 in
/-- before -/
theorem c_before (l : Launch) (dC : Nat → ClassId) (dI : Nat → Nat → Nat) (hz : Nat) (cL cI : ClassId) (x r k a1 a2 a3 a4 : Nat) (hk : Int64) (hs : Int32) (u : Nat) (hd : Nat → Int64) (sz : Nat → Int32) (tx : Nat → Int64) (ln : Nat → Int32) (hu : u ≤ 150) (q : Int64) (t : Int32) (j : Nat) (hj : okK t → spl u hd sz (hdOf q t) t j) : Met l yX1_before wsX1_before ({ frames := 3, cells := 0, slots := 0, locals := 70 }) (wrP (dC, dI) (kS cL cI) (tW cL cI x r k a1 a2 a3 a4 (hk, hs) (u, hd, sz, tx, ln)) [.ref x, .long q, .int t] hz) (va_Qi (fun (z : Int32) (v : Int64 × Int32) => (okK t ∧ nfQ u hd sz (nI j - 1) z v) ∨ (¬ okK t ∧ z = 0 ∧ v = (0, 0))) (wrB (dC, dI) (va_A (tW cL cI x r k a1 a2 a3 a4 (hk, hs) (u, hd, sz, tx, ln)) hz) (fun (v : Int64 × Int32) => tW cL cI x r k a1 a2 a3 a4 v (u, hd, sz, tx, ln))) (va_A (tW cL cI x r k a1 a2 a3 a4 (hk, hs) (u, hd, sz, tx, ln)) hz)) 0 0 (va_A (tW cL cI x r k a1 a2 a3 a4 (hk, hs) (u, hd, sz, tx, ln)) hz) := by
  refine Met.ofW (cc := cX1_before) (maxL := 4) (ret := some .boolean) (by decide) rfl ?_
  intro p e s m args below meth c s₁ B hml hv
  obtain ⟨rfl, hsz, hP, hK, hD0⟩ := hv
  have hx := B.exec
  have hb := B.bytes
  have hr := B.returns
  have hts := atoms_spec (ws := wsX1_before) B.pre
  have hown : s.vm.findClass RX1 = some m.cls := findClass_of_methodNamed B.named
  have hlocks := B.notSynchronized
  subst hsz
  have hD := hD0.self (sz := s.heap.size)
  generalize hAe : va_A (tW cL cI x r k a1 a2 a3 a4 (hk, hs) (u, hd, sz, tx, ln)) s.heap.size = A at hD ⊢
  have hA : ∀ q : Nat, s.heap.size ≤ q → A q := fun q h => by rw [← hAe]; exact Or.inr h
  have hS : va_S A s.heap s.heap [] := va_S.rf
  replace hP : va_P (dC, dI) vwCl [(x, .inr (1, [.ref r, .ref k, .long hk, .int hs])), (r, .inr (0, [.ref a1, .ref a2, .ref a3, .ref a4, .int (nI u)])), (a1, .inl (cL, 150, .inr (.inl hd))), (a2, .inl (cI, 150, .inl sz)), (a3, .inl (cL, 150, .inr (.inl tx))), (a4, .inl (cI, 150, .inl ln))] s.heap := hP
  replace hD : va_D A [(x, .inr (1, [.ref r, .ref k, .long hk, .int hs])), (r, .inr (0, [.ref a1, .ref a2, .ref a3, .ref a4, .int (nI u)])), (a1, .inl (cL, 150, .inr (.inl hd))), (a2, .inl (cI, 150, .inl sz)), (a3, .inl (cL, 150, .inr (.inl tx))), (a4, .inl (cI, 150, .inl ln))] := hD
  have hl := lv_entry ([.ref x, .long q, .int t]) (n := 4) (Nat.le_of_ble_eq_true rfl)
  rw [lg_entry_eq]
  generalize (lg_sl ([.ref x, .long q, .int t]) ++ List.replicate (4 - (lg_sl ([.ref x, .long q, .int t])).length) Slot.unset).toArray = ls at hl ⊢
  replace hl : lv_has ls 4 [(0, .ref x), (1, .long q), (3, .int t)] := hl
  refine lv_iload_n hx hb dX1_before_0 rfl (lv_at hl 2 rfl) ?_
  refine vp_callSi (va_Run.run (va_runS (As := [.int t]) (rest := []) ⟨hx, hb, hml, hown, hts⟩ (c_isKeySize l t) (va_cwS 1 hts gX1_before_X1_isKeySize rfl rfl rfl (by decide +kernel) ⟨Nat.le_of_ble_eq_true rfl, Nat.le_of_ble_eq_true rfl⟩) (st_pre) rfl rfl hl.1 rfl (lv_room (Nat.le_of_ble_eq_true rfl)) dX1_before_1 ⟨Nat.le_of_ble_eq_true rfl, Nat.le_of_ble_eq_true rfl⟩)) (fun r1 hr1 => ?_)
  rcases hr1 with ⟨rfl, hok⟩ | ⟨rfl, hok⟩
  · skip
    refine lv_if_ne (tgt := 13) hx hb dX1_before_4 (by decide) (fun c_4 => ?_) (fun c_4 => absurd c_4 (by decide))
    refine lv_aload_n hx hb dX1_before_13 rfl (lv_at hl 0 rfl) ?_
    refine lv_aload_n hx hb dX1_before_14 rfl (lv_at hl 0 rfl) ?_
    refine va_get (D := (dC, dI)) (ci := 1) (v := .ref r) (C := RX1) (T := TX1) (N := 4) hx hb hts i_X1_before_X1 hown hK hP 0 rfl rfl 0 (by decide) (hts (.fieldLink RX1 10 "BlockTree" "now" "LBlockTree$Rows;") (by decide +kernel)) (fun _ h9 => h9) rfl dX1_before_15 ?_
    refine lv_lload_n hx hb dX1_before_18 rfl (lv_at hl 1 rfl) ?_
    refine lv_iload_n hx hb dX1_before_19 rfl (lv_at hl 2 rfl) ?_
    refine vp_callSl (va_Run.run (va_runS (As := [.long q, .int t]) (rest := [.ref r, .ref x]) ⟨hx, hb, hml, hown, hts⟩ (c_headOf l q t) (va_cwS 2 hts gX1_before_X1_headOf rfl rfl rfl (by decide +kernel) ⟨Nat.le_of_ble_eq_true rfl, Nat.le_of_ble_eq_true rfl⟩) (st_pre) rfl rfl hl.1 rfl (lv_room (Nat.le_of_ble_eq_true rfl)) dX1_before_20 ⟨Nat.le_of_ble_eq_true rfl, Nat.le_of_ble_eq_true rfl⟩)) (fun r2 hr2 => ?_)
    subst hr2
    refine lv_iload_n hx hb dX1_before_23 rfl (lv_at hl 2 rfl) ?_
    refine vp_callSi (va_Run.run (va_runV (As := [.long (hdOf q t), .int t]) (rest := [.ref x]) ⟨hx, hb, hml, hown, hts⟩ (c_firstNotBefore l dC dI cL cI r a1 a2 a3 a4 u hd sz hu (hdOf q t) t j (hj hok)) (cwV 2 hts gX1_before_X0_firstNotBefore rfl rfl rfl (by decide +kernel) ⟨Nat.le_of_ble_eq_true rfl, Nat.le_of_ble_eq_true rfl⟩) (rd_preV hK (hP.sub (ws' := [(r, .inr (0, [.ref a1, .ref a2, .ref a3, .ref a4, .int (nI u)])), (a1, .inl (cL, 150, .inr (.inl hd))), (a2, .inl (cI, 150, .inl sz))]) [1, 2, 3] rfl) (ci := 0) (q0 := 0) rfl rfl) rfl rfl hl.1 rfl (lv_room (Nat.le_of_ble_eq_true rfl)) dX1_before_24 ⟨Nat.le_of_ble_eq_true rfl, Nat.le_of_ble_eq_true rfl⟩)) (fun r3 hr3 => ?_)
    subst hr3
    refine lv_iconst (v := 1) hx hb dX1_before_27 (by decide) ?_
    refine lv_isub hx hb dX1_before_28 ?_
    refine wr_calli (wr := []) (va_runV (As := [.int ((nI j) - 1)]) (rest := []) ⟨hx, hb, hml, hown, hts⟩ (c_noteFound l dC dI _ cL cI x r k a1 a2 a3 a4 hk hs u hd sz tx ln hu ((nI j) - 1)) (cwV 1 hts gX1_before_X1_noteFound rfl rfl rfl (by decide +kernel) ⟨Nat.le_of_ble_eq_true rfl, Nat.le_of_ble_eq_true rfl⟩) (wr_preV hK (hP.sub (ws' := [(x, .inr (1, [.ref r, .ref k, .long hk, .int hs])), (r, .inr (0, [.ref a1, .ref a2, .ref a3, .ref a4, .int (nI u)])), (a1, .inl (cL, 150, .inr (.inl hd))), (a2, .inl (cI, 150, .inl sz)), (a3, .inl (cL, 150, .inr (.inl tx))), (a4, .inl (cI, 150, .inl ln))]) [0, 1, 2, 3, 4, 5] rfl) (hD.sub (ws' := [(x, .inr (1, [.ref r, .ref k, .long hk, .int hs])), (r, .inr (0, [.ref a1, .ref a2, .ref a3, .ref a4, .int (nI u)])), (a1, .inl (cL, 150, .inr (.inl hd))), (a2, .inl (cI, 150, .inl sz)), (a3, .inl (cL, 150, .inr (.inl tx))), (a4, .inl (cI, 150, .inl ln))]) [0, 1, 2, 3, 4, 5] (by decide) rfl) (ci := 1) (q0 := 0) rfl rfl) rfl rfl hl.1 rfl (lv_room (Nat.le_of_ble_eq_true rfl)) dX1_before_29 ⟨Nat.le_of_ble_eq_true rfl, Nat.le_of_ble_eq_true rfl⟩) hP hD hS hA [0, 1, 2, 3, 4, 5] [] rfl rfl (by decide) (by decide) (fun r5 u_ H locs hr5 hP hD hS => ?_)
    replace hP := hP.sub (ws' := [(x, .inr (1, [.ref r, .ref k, .long u_.1, .int u_.2])), (r, .inr (0, [.ref a1, .ref a2, .ref a3, .ref a4, .int (nI u)])), (a1, .inl (cL, 150, .inr (.inl hd))), (a2, .inl (cI, 150, .inl sz)), (a3, .inl (cL, 150, .inr (.inl tx))), (a4, .inl (cI, 150, .inl ln))]) [0, 1, 2, 3, 4, 5] rfl
    replace hD := hD.sub (ws' := [(x, .inr (1, [.ref r, .ref k, .long u_.1, .int u_.2])), (r, .inr (0, [.ref a1, .ref a2, .ref a3, .ref a4, .int (nI u)])), (a1, .inl (cL, 150, .inr (.inl hd))), (a2, .inl (cI, 150, .inl sz)), (a3, .inl (cL, 150, .inr (.inl tx))), (a4, .inl (cI, 150, .inl ln))]) [0, 1, 2, 3, 4, 5] (by decide) rfl
    have hnar : narrow .boolean (.int r5) = .int r5 := by rcases hr5 with ⟨_, _, _, rfl, _⟩ | ⟨_, rfl, _⟩ <;> rfl
    exact W.zret (v := r5) hx hb hr (by first | rfl | decide +kernel | assumption) (fun t9 ht hW => ⟨⟨r5, u_, rfl, by first | exact Or.inl ⟨hok, hr5⟩ | exact Or.inr ⟨hok, by rcases hr5 with ⟨i0, h1, h2, _⟩ | ⟨_, h1, h2⟩; exact absurd ⟨i0, h1, h2⟩ (m1_no hu); exact ⟨h1, h2⟩⟩, by rw [ht]; exact hP, hD⟩, hS.F ht⟩) hS.2.2 dX1_before_32
  · skip
    refine lv_if_ne (tgt := 13) hx hb dX1_before_4 (by decide) (fun c_4 => absurd c_4 (by decide)) (fun c_4 => ?_)
    refine lv_aload_n hx hb dX1_before_7 rfl (lv_at hl 0 rfl) ?_
    refine lv_iconst (v := (-1)) hx hb dX1_before_8 (by decide) ?_
    refine wr_calli (wr := []) (va_runV (As := [.int (-1)]) (rest := []) ⟨hx, hb, hml, hown, hts⟩ (c_noteFound l dC dI _ cL cI x r k a1 a2 a3 a4 hk hs u hd sz tx ln hu (-1)) (cwV 1 hts gX1_before_X1_noteFound rfl rfl rfl (by decide +kernel) ⟨Nat.le_of_ble_eq_true rfl, Nat.le_of_ble_eq_true rfl⟩) (wr_preV hK (hP.sub (ws' := [(x, .inr (1, [.ref r, .ref k, .long hk, .int hs])), (r, .inr (0, [.ref a1, .ref a2, .ref a3, .ref a4, .int (nI u)])), (a1, .inl (cL, 150, .inr (.inl hd))), (a2, .inl (cI, 150, .inl sz)), (a3, .inl (cL, 150, .inr (.inl tx))), (a4, .inl (cI, 150, .inl ln))]) [0, 1, 2, 3, 4, 5] rfl) (hD.sub (ws' := [(x, .inr (1, [.ref r, .ref k, .long hk, .int hs])), (r, .inr (0, [.ref a1, .ref a2, .ref a3, .ref a4, .int (nI u)])), (a1, .inl (cL, 150, .inr (.inl hd))), (a2, .inl (cI, 150, .inl sz)), (a3, .inl (cL, 150, .inr (.inl tx))), (a4, .inl (cI, 150, .inl ln))]) [0, 1, 2, 3, 4, 5] (by decide) rfl) (ci := 1) (q0 := 0) rfl rfl) rfl rfl hl.1 rfl (lv_room (Nat.le_of_ble_eq_true rfl)) dX1_before_9 ⟨Nat.le_of_ble_eq_true rfl, Nat.le_of_ble_eq_true rfl⟩) hP hD hS hA [0, 1, 2, 3, 4, 5] [] rfl rfl (by decide) (by decide) (fun r5 u_ H locs hr5 hP hD hS => ?_)
    replace hP := hP.sub (ws' := [(x, .inr (1, [.ref r, .ref k, .long u_.1, .int u_.2])), (r, .inr (0, [.ref a1, .ref a2, .ref a3, .ref a4, .int (nI u)])), (a1, .inl (cL, 150, .inr (.inl hd))), (a2, .inl (cI, 150, .inl sz)), (a3, .inl (cL, 150, .inr (.inl tx))), (a4, .inl (cI, 150, .inl ln))]) [0, 1, 2, 3, 4, 5] rfl
    replace hD := hD.sub (ws' := [(x, .inr (1, [.ref r, .ref k, .long u_.1, .int u_.2])), (r, .inr (0, [.ref a1, .ref a2, .ref a3, .ref a4, .int (nI u)])), (a1, .inl (cL, 150, .inr (.inl hd))), (a2, .inl (cI, 150, .inl sz)), (a3, .inl (cL, 150, .inr (.inl tx))), (a4, .inl (cI, 150, .inl ln))]) [0, 1, 2, 3, 4, 5] (by decide) rfl
    have hnar : narrow .boolean (.int r5) = .int r5 := by rcases hr5 with ⟨_, _, _, rfl, _⟩ | ⟨_, rfl, _⟩ <;> rfl
    exact W.zret (v := r5) hx hb hr (by first | rfl | decide +kernel | assumption) (fun t9 ht hW => ⟨⟨r5, u_, rfl, by first | exact Or.inl ⟨hok, hr5⟩ | exact Or.inr ⟨hok, by rcases hr5 with ⟨i0, h1, h2, _⟩ | ⟨_, h1, h2⟩; exact absurd ⟨i0, h1, h2⟩ (m1_no hu); exact ⟨h1, h2⟩⟩, by rw [ht]; exact hP, hD⟩, hS.F ht⟩) hS.2.2 dX1_before_12
set_option maxHeartbeats 4000000 in
set_option maxRecDepth 100000 in
/-- put -/
theorem c_put (l : Launch) (dC : Nat → ClassId) (dI : Nat → Nat → Nat) (hz : Nat) (cL cI : ClassId) (x r k a1 a2 a3 a4 : Nat) (hk : Int64) (hs : Int32) (u : Nat) (hd : Nat → Int64) (sz : Nat → Int32) (tx : Nat → Int64) (ln : Nat → Int32) (hu : u ≤ 150) (q : Int64) (t : Int32) (b : Int64) (n : Int32) (j : Nat) (hj : okK t → spl u hd sz (hdOf q t) t j) : Met l yX1_put wsX1_put ({ frames := 4, cells := 0, slots := 0, locals := 97 }) (wrP (dC, dI) (kS cL cI) (tW cL cI x r k a1 a2 a3 a4 (hk, hs) (u, hd, sz, tx, ln)) [.ref x, .long q, .int t, .long b, .int n] hz) (va_Qi (fun (z : Int32) (v : RS) => (okK t ∧ okT n ∧ setQ (u, hd, sz, tx, ln) j (hdOf q t) t (lowB b n) n z v) ∨ (¬ (okK t ∧ okT n) ∧ z = 0 ∧ v = (u, hd, sz, tx, ln))) (wrB (dC, dI) (va_A (tW cL cI x r k a1 a2 a3 a4 (hk, hs) (u, hd, sz, tx, ln)) hz) (fun (v : RS) => tW cL cI x r k a1 a2 a3 a4 (hk, hs) v)) (va_A (tW cL cI x r k a1 a2 a3 a4 (hk, hs) (u, hd, sz, tx, ln)) hz)) 0 0 (va_A (tW cL cI x r k a1 a2 a3 a4 (hk, hs) (u, hd, sz, tx, ln)) hz) := by
  refine Met.ofW (cc := cX1_put) (maxL := 7) (ret := some .boolean) (by decide) rfl ?_
  intro p e s m args below meth c s₁ B hml hv
  obtain ⟨rfl, hsz, hP, hK, hD0⟩ := hv
  have hx := B.exec
  have hb := B.bytes
  have hr := B.returns
  have hts := atoms_spec (ws := wsX1_put) B.pre
  have hown : s.vm.findClass RX1 = some m.cls := findClass_of_methodNamed B.named
  have hlocks := B.notSynchronized
  subst hsz
  have hD := hD0.self (sz := s.heap.size)
  generalize hAe : va_A (tW cL cI x r k a1 a2 a3 a4 (hk, hs) (u, hd, sz, tx, ln)) s.heap.size = A at hD ⊢
  have hA : ∀ q : Nat, s.heap.size ≤ q → A q := fun q h => by rw [← hAe]; exact Or.inr h
  have hS : va_S A s.heap s.heap [] := va_S.rf
  replace hP : va_P (dC, dI) vwCl [(x, .inr (1, [.ref r, .ref k, .long hk, .int hs])), (r, .inr (0, [.ref a1, .ref a2, .ref a3, .ref a4, .int (nI u)])), (a1, .inl (cL, 150, .inr (.inl hd))), (a2, .inl (cI, 150, .inl sz)), (a3, .inl (cL, 150, .inr (.inl tx))), (a4, .inl (cI, 150, .inl ln))] s.heap := hP
  replace hD : va_D A [(x, .inr (1, [.ref r, .ref k, .long hk, .int hs])), (r, .inr (0, [.ref a1, .ref a2, .ref a3, .ref a4, .int (nI u)])), (a1, .inl (cL, 150, .inr (.inl hd))), (a2, .inl (cI, 150, .inl sz)), (a3, .inl (cL, 150, .inr (.inl tx))), (a4, .inl (cI, 150, .inl ln))] := hD
  have hl := lv_entry ([.ref x, .long q, .int t, .long b, .int n]) (n := 7) (Nat.le_of_ble_eq_true rfl)
  rw [lg_entry_eq]
  generalize (lg_sl ([.ref x, .long q, .int t, .long b, .int n]) ++ List.replicate (7 - (lg_sl ([.ref x, .long q, .int t, .long b, .int n])).length) Slot.unset).toArray = ls at hl ⊢
  replace hl : lv_has ls 7 [(0, .ref x), (1, .long q), (3, .int t), (4, .long b), (6, .int n)] := hl
  refine lv_iload_n hx hb dX1_put_0 rfl (lv_at hl 2 rfl) ?_
  refine vp_callSi (va_Run.run (va_runS (As := [.int t]) (rest := []) ⟨hx, hb, hml, hown, hts⟩ (c_isKeySize l t) (va_cwS 1 hts gX1_put_X1_isKeySize rfl rfl rfl (by decide +kernel) ⟨Nat.le_of_ble_eq_true rfl, Nat.le_of_ble_eq_true rfl⟩) (st_pre) rfl rfl hl.1 rfl (lv_room (Nat.le_of_ble_eq_true rfl)) dX1_put_1 ⟨Nat.le_of_ble_eq_true rfl, Nat.le_of_ble_eq_true rfl⟩)) (fun r1 hr1 => ?_)
  rcases hr1 with ⟨rfl, hok⟩ | ⟨rfl, hok⟩
  · skip
    refine lv_if_eq (tgt := 15) hx hb dX1_put_4 (by decide) (fun c_4 => absurd c_4 (by decide)) (fun c_4 => ?_)
    refine lv_iload hx hb dX1_put_7 (lv_at hl 4 rfl) ?_
    refine vp_callSi (va_Run.run (va_runS (As := [.int n]) (rest := []) ⟨hx, hb, hml, hown, hts⟩ (c_isTextLength l n) (va_cwS 1 hts gX1_put_X1_isTextLength rfl rfl rfl (by decide +kernel) ⟨Nat.le_of_ble_eq_true rfl, Nat.le_of_ble_eq_true rfl⟩) (st_pre) rfl rfl hl.1 rfl (lv_room (Nat.le_of_ble_eq_true rfl)) dX1_put_9 ⟨Nat.le_of_ble_eq_true rfl, Nat.le_of_ble_eq_true rfl⟩)) (fun r2 hr2 => ?_)
    rcases hr2 with ⟨rfl, hokT⟩ | ⟨rfl, hokT⟩
    · skip
      refine lv_if_ne (tgt := 17) hx hb dX1_put_12 (by decide) (fun c_12 => ?_) (fun c_12 => absurd c_12 (by decide))
      refine lv_aload_n hx hb dX1_put_17 rfl (lv_at hl 0 rfl) ?_
      refine va_get (D := (dC, dI)) (ci := 1) (v := .ref r) (C := RX1) (T := TX1) (N := 4) hx hb hts i_X1_put_X1 hown hK hP 0 rfl rfl 0 (by decide) (hts (.fieldLink RX1 10 "BlockTree" "now" "LBlockTree$Rows;") (by decide +kernel)) (fun _ h9 => h9) rfl dX1_put_18 ?_
      refine lv_lload_n hx hb dX1_put_21 rfl (lv_at hl 1 rfl) ?_
      refine lv_iload_n hx hb dX1_put_22 rfl (lv_at hl 2 rfl) ?_
      refine vp_callSl (va_Run.run (va_runS (As := [.long q, .int t]) (rest := [.ref r]) ⟨hx, hb, hml, hown, hts⟩ (c_headOf l q t) (va_cwS 2 hts gX1_put_X1_headOf rfl rfl rfl (by decide +kernel) ⟨Nat.le_of_ble_eq_true rfl, Nat.le_of_ble_eq_true rfl⟩) (st_pre) rfl rfl hl.1 rfl (lv_room (Nat.le_of_ble_eq_true rfl)) dX1_put_23 ⟨Nat.le_of_ble_eq_true rfl, Nat.le_of_ble_eq_true rfl⟩)) (fun r3 hr3 => ?_)
      subst hr3
      refine lv_iload_n hx hb dX1_put_26 rfl (lv_at hl 2 rfl) ?_
      refine lv_lload hx hb dX1_put_27 (lv_at hl 3 rfl) ?_
      refine lv_iload hx hb dX1_put_29 (lv_at hl 4 rfl) ?_
      refine vp_callSl (va_Run.run (va_runS (As := [.long b, .int n]) (rest := [.int t, .long (hdOf q t), .ref r]) ⟨hx, hb, hml, hown, hts⟩ (c_lowestBytes l b n) (va_cwS 2 hts gX1_put_X1_lowestBytes rfl rfl rfl (by decide +kernel) ⟨Nat.le_of_ble_eq_true rfl, Nat.le_of_ble_eq_true rfl⟩) (st_pre) rfl rfl hl.1 rfl (lv_room (Nat.le_of_ble_eq_true rfl)) dX1_put_31 ⟨Nat.le_of_ble_eq_true rfl, Nat.le_of_ble_eq_true rfl⟩)) (fun r4 hr4 => ?_)
      subst hr4
      refine lv_iload hx hb dX1_put_34 (lv_at hl 4 rfl) ?_
      refine wr_calli (wr := [(x, .inr (1, [.ref r, .ref k, .long hk, .int hs]))]) (va_runV (As := [.long (hdOf q t), .int t, .long (lowB b n), .int n]) (rest := []) ⟨hx, hb, hml, hown, hts⟩ (c_set l dC dI _ cL cI r a1 a2 a3 a4 u hd sz tx ln hu (hdOf q t) t (lowB b n) n j (hj hok) (hj hok).1) (cwV 4 hts gX1_put_X0_set rfl rfl rfl (by decide +kernel) ⟨Nat.le_of_ble_eq_true rfl, Nat.le_of_ble_eq_true rfl⟩) (wr_preV hK (hP.sub (ws' := [(r, .inr (0, [.ref a1, .ref a2, .ref a3, .ref a4, .int (nI u)])), (a1, .inl (cL, 150, .inr (.inl hd))), (a2, .inl (cI, 150, .inl sz)), (a3, .inl (cL, 150, .inr (.inl tx))), (a4, .inl (cI, 150, .inl ln))]) [1, 2, 3, 4, 5] rfl) (hD.sub (ws' := [(r, .inr (0, [.ref a1, .ref a2, .ref a3, .ref a4, .int (nI u)])), (a1, .inl (cL, 150, .inr (.inl hd))), (a2, .inl (cI, 150, .inl sz)), (a3, .inl (cL, 150, .inr (.inl tx))), (a4, .inl (cI, 150, .inl ln))]) [1, 2, 3, 4, 5] (by decide) rfl) (ci := 0) (q0 := 0) rfl rfl) rfl rfl hl.1 rfl (lv_room (Nat.le_of_ble_eq_true rfl)) dX1_put_36 ⟨Nat.le_of_ble_eq_true rfl, Nat.le_of_ble_eq_true rfl⟩) hP hD hS hA [1, 2, 3, 4, 5] [0] rfl rfl (by decide) (by decide) (fun r5 u_ H locs hr5 hP hD hS => ?_)
      replace hP := hP.sub (ws' := [(x, .inr (1, [.ref r, .ref k, .long hk, .int hs])), (r, .inr (0, [.ref a1, .ref a2, .ref a3, .ref a4, .int (nI u_.1)])), (a1, .inl (cL, 150, .inr (.inl u_.2.1))), (a2, .inl (cI, 150, .inl u_.2.2.1)), (a3, .inl (cL, 150, .inr (.inl u_.2.2.2.1))), (a4, .inl (cI, 150, .inl u_.2.2.2.2))]) [0, 1, 2, 3, 4, 5] rfl
      replace hD := hD.sub (ws' := [(x, .inr (1, [.ref r, .ref k, .long hk, .int hs])), (r, .inr (0, [.ref a1, .ref a2, .ref a3, .ref a4, .int (nI u_.1)])), (a1, .inl (cL, 150, .inr (.inl u_.2.1))), (a2, .inl (cI, 150, .inl u_.2.2.1)), (a3, .inl (cL, 150, .inr (.inl u_.2.2.2.1))), (a4, .inl (cI, 150, .inl u_.2.2.2.2))]) [0, 1, 2, 3, 4, 5] (by decide) rfl
      have hnar : narrow .boolean (.int r5) = .int r5 := by rcases hr5 with ⟨_, rfl, _⟩ | ⟨_, _, rfl, _⟩ | ⟨_, _, rfl, _⟩ <;> rfl
      exact W.zret (v := r5) hx hb hr (by first | rfl | decide +kernel | assumption) (fun t9 ht hW => ⟨⟨r5, u_, rfl, Or.inl ⟨hok, hokT, hr5⟩, by rw [ht]; exact hP, hD⟩, hS.F ht⟩) hS.2.2 dX1_put_39
    · skip
      have hbad : ¬ (okK t ∧ okT n) := fun g => hokT g.2
      refine lv_if_ne (tgt := 17) hx hb dX1_put_12 (by decide) (fun c_12 => absurd c_12 (by decide)) (fun c_12 => ?_)
      refine lv_iconst (v := 0) hx hb dX1_put_15 (by decide) ?_
      exact W.zret (v := 0) hx hb hr (by first | rfl | decide +kernel | assumption) (fun t9 ht hW => ⟨⟨0, (u, hd, sz, tx, ln), rfl, Or.inr ⟨hbad, rfl, rfl⟩, by rw [ht]; exact hP, hD⟩, hS.F ht⟩) hS.2.2 dX1_put_16
  · skip
    have hbad : ¬ (okK t ∧ okT n) := fun g => hok g.1
    refine lv_if_eq (tgt := 15) hx hb dX1_put_4 (by decide) (fun c_4 => ?_) (fun c_4 => absurd c_4 (by decide))
    refine lv_iconst (v := 0) hx hb dX1_put_15 (by decide) ?_
    exact W.zret (v := 0) hx hb hr (by first | rfl | decide +kernel | assumption) (fun t9 ht hW => ⟨⟨0, (u, hd, sz, tx, ln), rfl, Or.inr ⟨hbad, rfl, rfl⟩, by rw [ht]; exact hP, hD⟩, hS.F ht⟩) hS.2.2 dX1_put_16
set_option maxHeartbeats 4000000 in
set_option maxRecDepth 100000 in
/-- remove -/
theorem c_remove (l : Launch) (dC : Nat → ClassId) (dI : Nat → Nat → Nat) (hz : Nat) (cL cI : ClassId) (x r k a1 a2 a3 a4 : Nat) (hk : Int64) (hs : Int32) (u : Nat) (hd : Nat → Int64) (sz : Nat → Int32) (tx : Nat → Int64) (ln : Nat → Int32) (hu : u ≤ 150) (q : Int64) (t : Int32) (j : Nat) (hj : okK t → spl u hd sz (hdOf q t) t j) : Met l yX1_remove wsX1_remove ({ frames := 4, cells := 0, slots := 0, locals := 96 }) (wrP (dC, dI) (kS cL cI) (tW cL cI x r k a1 a2 a3 a4 (hk, hs) (u, hd, sz, tx, ln)) [.ref x, .long q, .int t] hz) (va_Qi (fun (z : Int32) (v : RS) => (okK t ∧ hld u hd sz j (hdOf q t) t ∧ z = 1 ∧ v = rs_clo (u, hd, sz, tx, ln) j) ∨ (¬ (okK t ∧ hld u hd sz j (hdOf q t) t) ∧ z = 0 ∧ v = (u, hd, sz, tx, ln))) (wrB (dC, dI) (va_A (tW cL cI x r k a1 a2 a3 a4 (hk, hs) (u, hd, sz, tx, ln)) hz) (fun (v : RS) => tW cL cI x r k a1 a2 a3 a4 (hk, hs) v)) (va_A (tW cL cI x r k a1 a2 a3 a4 (hk, hs) (u, hd, sz, tx, ln)) hz)) 0 0 (va_A (tW cL cI x r k a1 a2 a3 a4 (hk, hs) (u, hd, sz, tx, ln)) hz) := by
  refine Met.ofW (cc := cX1_remove) (maxL := 5) (ret := some .boolean) (by decide) rfl ?_
  intro p e s m args below meth c s₁ B hml hv
  obtain ⟨rfl, hsz, hP, hK, hD0⟩ := hv
  have hx := B.exec
  have hb := B.bytes
  have hr := B.returns
  have hts := atoms_spec (ws := wsX1_remove) B.pre
  have hown : s.vm.findClass RX1 = some m.cls := findClass_of_methodNamed B.named
  have hlocks := B.notSynchronized
  subst hsz
  have hD := hD0.self (sz := s.heap.size)
  generalize hAe : va_A (tW cL cI x r k a1 a2 a3 a4 (hk, hs) (u, hd, sz, tx, ln)) s.heap.size = A at hD ⊢
  have hA : ∀ q : Nat, s.heap.size ≤ q → A q := fun q h => by rw [← hAe]; exact Or.inr h
  have hS : va_S A s.heap s.heap [] := va_S.rf
  replace hP : va_P (dC, dI) vwCl [(x, .inr (1, [.ref r, .ref k, .long hk, .int hs])), (r, .inr (0, [.ref a1, .ref a2, .ref a3, .ref a4, .int (nI u)])), (a1, .inl (cL, 150, .inr (.inl hd))), (a2, .inl (cI, 150, .inl sz)), (a3, .inl (cL, 150, .inr (.inl tx))), (a4, .inl (cI, 150, .inl ln))] s.heap := hP
  replace hD : va_D A [(x, .inr (1, [.ref r, .ref k, .long hk, .int hs])), (r, .inr (0, [.ref a1, .ref a2, .ref a3, .ref a4, .int (nI u)])), (a1, .inl (cL, 150, .inr (.inl hd))), (a2, .inl (cI, 150, .inl sz)), (a3, .inl (cL, 150, .inr (.inl tx))), (a4, .inl (cI, 150, .inl ln))] := hD
  have hl := lv_entry ([.ref x, .long q, .int t]) (n := 5) (Nat.le_of_ble_eq_true rfl)
  rw [lg_entry_eq]
  generalize (lg_sl ([.ref x, .long q, .int t]) ++ List.replicate (5 - (lg_sl ([.ref x, .long q, .int t])).length) Slot.unset).toArray = ls at hl ⊢
  replace hl : lv_has ls 5 [(0, .ref x), (1, .long q), (3, .int t)] := hl
  refine lv_aload_n hx hb dX1_remove_0 rfl (lv_at hl 0 rfl) ?_
  refine lv_lload_n hx hb dX1_remove_1 rfl (lv_at hl 1 rfl) ?_
  refine lv_iload_n hx hb dX1_remove_2 rfl (lv_at hl 2 rfl) ?_
  refine vp_callSi (va_Run.run (va_runV (As := [.long q, .int t]) (rest := []) ⟨hx, hb, hml, hown, hts⟩ (c_placeOf l dC dI cL cI x r k a1 a2 a3 a4 hk hs u hd sz tx ln hu q t j hj) (cwV 2 hts gX1_remove_X1_placeOf rfl rfl rfl (by decide +kernel) ⟨Nat.le_of_ble_eq_true rfl, Nat.le_of_ble_eq_true rfl⟩) (rd_preV hK (hP.sub (ws' := [(x, .inr (1, [.ref r, .ref k, .long hk, .int hs])), (r, .inr (0, [.ref a1, .ref a2, .ref a3, .ref a4, .int (nI u)])), (a1, .inl (cL, 150, .inr (.inl hd))), (a2, .inl (cI, 150, .inl sz)), (a3, .inl (cL, 150, .inr (.inl tx))), (a4, .inl (cI, 150, .inl ln))]) [0, 1, 2, 3, 4, 5] rfl) (ci := 1) (q0 := 0) rfl rfl) rfl rfl hl.1 rfl (lv_room (Nat.le_of_ble_eq_true rfl)) dX1_remove_3 ⟨Nat.le_of_ble_eq_true rfl, Nat.le_of_ble_eq_true rfl⟩)) (fun r1 hr1 => ?_)
  rcases hr1 with ⟨hok, hh, rfl⟩ | ⟨hh, rfl⟩
  · skip
    have hju : j < u := hh.1
    refine lv_istore (lv' := [(4, .int (nI j)), (0, .ref x), (1, .long q), (3, .int t)]) hx hb dX1_remove_6 hl (by decide) rfl (fun ls hl => ?_)
    refine lv_aload_n hx hb dX1_remove_8 rfl (lv_at hl 1 rfl) ?_
    refine va_get (D := (dC, dI)) (ci := 1) (v := .ref r) (C := RX1) (T := TX1) (N := 4) hx hb hts i_X1_remove_X1 hown hK hP 0 rfl rfl 0 (by decide) (hts (.fieldLink RX1 10 "BlockTree" "now" "LBlockTree$Rows;") (by decide +kernel)) (fun _ h9 => h9) rfl dX1_remove_9 ?_
    refine lv_iload hx hb dX1_remove_12 (lv_at hl 0 rfl) ?_
    refine vp_callSi (va_Run.run (va_runV (As := [.int (nI j)]) (rest := []) ⟨hx, hb, hml, hown, hts⟩ (c_has l dC dI cL cI r a1 a2 a3 a4 u hu (nI j)) (cwV 1 hts gX1_remove_X0_has rfl rfl rfl (by decide +kernel) ⟨Nat.le_of_ble_eq_true rfl, Nat.le_of_ble_eq_true rfl⟩) (rd_preV hK (hP.sub (ws' := [(r, .inr (0, [.ref a1, .ref a2, .ref a3, .ref a4, .int (nI u)]))]) [1] rfl) (ci := 0) (q0 := 0) rfl rfl) rfl rfl hl.1 rfl (lv_room (Nat.le_of_ble_eq_true rfl)) dX1_remove_14 ⟨Nat.le_of_ble_eq_true rfl, Nat.le_of_ble_eq_true rfl⟩)) (fun r2 hr2 => ?_)
    rcases hr2 with ⟨rfl, -⟩ | ⟨rfl, hno⟩
    · skip
      refine lv_if_ne (tgt := 22) hx hb dX1_remove_17 (by decide) (fun c_17 => ?_) (fun c_17 => absurd c_17 (by decide))
      refine lv_aload_n hx hb dX1_remove_22 rfl (lv_at hl 1 rfl) ?_
      refine va_get (D := (dC, dI)) (ci := 1) (v := .ref r) (C := RX1) (T := TX1) (N := 4) hx hb hts i_X1_remove_X1 hown hK hP 0 rfl rfl 0 (by decide) (hts (.fieldLink RX1 10 "BlockTree" "now" "LBlockTree$Rows;") (by decide +kernel)) (fun _ h9 => h9) rfl dX1_remove_23 ?_
      refine lv_iload hx hb dX1_remove_26 (lv_at hl 0 rfl) ?_
      refine wr_callv (wr := [(x, .inr (1, [.ref r, .ref k, .long hk, .int hs]))]) (va_runV (As := [.int (nI j)]) (rest := []) ⟨hx, hb, hml, hown, hts⟩ (c_drop l dC dI _ cL cI r a1 a2 a3 a4 u hd sz tx ln hu j hju) (cwV 1 hts gX1_remove_X0_drop rfl rfl rfl (by decide +kernel) ⟨Nat.le_of_ble_eq_true rfl, Nat.le_of_ble_eq_true rfl⟩) (wr_preV hK (hP.sub (ws' := [(r, .inr (0, [.ref a1, .ref a2, .ref a3, .ref a4, .int (nI u)])), (a1, .inl (cL, 150, .inr (.inl hd))), (a2, .inl (cI, 150, .inl sz)), (a3, .inl (cL, 150, .inr (.inl tx))), (a4, .inl (cI, 150, .inl ln))]) [1, 2, 3, 4, 5] rfl) (hD.sub (ws' := [(r, .inr (0, [.ref a1, .ref a2, .ref a3, .ref a4, .int (nI u)])), (a1, .inl (cL, 150, .inr (.inl hd))), (a2, .inl (cI, 150, .inl sz)), (a3, .inl (cL, 150, .inr (.inl tx))), (a4, .inl (cI, 150, .inl ln))]) [1, 2, 3, 4, 5] (by decide) rfl) (ci := 0) (q0 := 0) rfl rfl) rfl rfl hl.1 rfl (lv_room (Nat.le_of_ble_eq_true rfl)) dX1_remove_28 ⟨Nat.le_of_ble_eq_true rfl, Nat.le_of_ble_eq_true rfl⟩) hP hD hS hA [1, 2, 3, 4, 5] [0] rfl rfl (by decide) (by decide) (fun u_ H locs hr5 hP hD hS => ?_)
      subst hr5
      replace hP := hP.sub (ws' := [(x, .inr (1, [.ref r, .ref k, .long hk, .int hs])), (r, .inr (0, [.ref a1, .ref a2, .ref a3, .ref a4, .int (nI (u - 1))])), (a1, .inl (cL, 150, .inr (.inl (clo hd j u)))), (a2, .inl (cI, 150, .inl (clo sz j u))), (a3, .inl (cL, 150, .inr (.inl (clo tx j u)))), (a4, .inl (cI, 150, .inl (clo ln j u)))]) [0, 1, 2, 3, 4, 5] rfl
      replace hD := hD.sub (ws' := [(x, .inr (1, [.ref r, .ref k, .long hk, .int hs])), (r, .inr (0, [.ref a1, .ref a2, .ref a3, .ref a4, .int (nI (u - 1))])), (a1, .inl (cL, 150, .inr (.inl (clo hd j u)))), (a2, .inl (cI, 150, .inl (clo sz j u))), (a3, .inl (cL, 150, .inr (.inl (clo tx j u)))), (a4, .inl (cI, 150, .inl (clo ln j u)))]) [0, 1, 2, 3, 4, 5] (by decide) rfl
      refine lv_iconst (v := 1) hx hb dX1_remove_31 (by decide) ?_
      exact W.zret (v := 1) hx hb hr (by first | rfl | decide +kernel | assumption) (fun t9 ht hW => ⟨⟨1, rs_clo (u, hd, sz, tx, ln) j, rfl, Or.inl ⟨hok, hh, rfl, rfl⟩, by rw [ht]; exact hP, hD⟩, hS.F ht⟩) hS.2.2 dX1_remove_32
    · skip
      exact absurd ⟨j, hju, rfl⟩ hno
  · skip
    refine lv_istore (lv' := [(4, .int (-1)), (0, .ref x), (1, .long q), (3, .int t)]) hx hb dX1_remove_6 hl (by decide) rfl (fun ls hl => ?_)
    refine lv_aload_n hx hb dX1_remove_8 rfl (lv_at hl 1 rfl) ?_
    refine va_get (D := (dC, dI)) (ci := 1) (v := .ref r) (C := RX1) (T := TX1) (N := 4) hx hb hts i_X1_remove_X1 hown hK hP 0 rfl rfl 0 (by decide) (hts (.fieldLink RX1 10 "BlockTree" "now" "LBlockTree$Rows;") (by decide +kernel)) (fun _ h9 => h9) rfl dX1_remove_9 ?_
    refine lv_iload hx hb dX1_remove_12 (lv_at hl 0 rfl) ?_
    refine vp_callSi (va_Run.run (va_runV (As := [.int (-1)]) (rest := []) ⟨hx, hb, hml, hown, hts⟩ (c_has l dC dI cL cI r a1 a2 a3 a4 u hu (-1)) (cwV 1 hts gX1_remove_X0_has rfl rfl rfl (by decide +kernel) ⟨Nat.le_of_ble_eq_true rfl, Nat.le_of_ble_eq_true rfl⟩) (rd_preV hK (hP.sub (ws' := [(r, .inr (0, [.ref a1, .ref a2, .ref a3, .ref a4, .int (nI u)]))]) [1] rfl) (ci := 0) (q0 := 0) rfl rfl) rfl rfl hl.1 rfl (lv_room (Nat.le_of_ble_eq_true rfl)) dX1_remove_14 ⟨Nat.le_of_ble_eq_true rfl, Nat.le_of_ble_eq_true rfl⟩)) (fun r2 hr2 => ?_)
    rcases hr2 with ⟨rfl, hyes⟩ | ⟨rfl, -⟩
    · skip
      exact absurd hyes (m1_no hu)
    · skip
      refine lv_if_ne (tgt := 22) hx hb dX1_remove_17 (by decide) (fun c_17 => absurd c_17 (by decide)) (fun c_17 => ?_)
      refine lv_iconst (v := 0) hx hb dX1_remove_20 (by decide) ?_
      exact W.zret (v := 0) hx hb hr (by first | rfl | decide +kernel | assumption) (fun t9 ht hW => ⟨⟨0, (u, hd, sz, tx, ln), rfl, Or.inr ⟨hh, rfl, rfl⟩, by rw [ht]; exact hP, hD⟩, hS.F ht⟩) hS.2.2 dX1_remove_21
set_option maxHeartbeats 4000000 in
set_option maxRecDepth 100000 in
/-- commit -/
theorem c_commit (l : Launch) (dC : Nat → ClassId) (dI : Nat → Nat → Nat) (hz : Nat) (cL cI : ClassId) (x r k a1 a2 a3 a4 b1 b2 b3 b4 : Nat) (hk : Int64) (hs : Int32) (w v0 : RS) (hu : w.1 ≤ 150) : Met l yX1_commit wsX1_commit ({ frames := 2, cells := 0, slots := 0, locals := 47 }) (wrP (dC, dI) (kS cL cI) (tW cL cI x r k a1 a2 a3 a4 (hk, hs) w ++ rW cL cI k b1 b2 b3 b4 v0) [.ref x] hz) (va_Qv (fun (v : RS) => v = rs_cpy w v0) (wrB (dC, dI) (va_A (tW cL cI x r k a1 a2 a3 a4 (hk, hs) w ++ rW cL cI k b1 b2 b3 b4 v0) hz) (fun (v : RS) => tW cL cI x r k a1 a2 a3 a4 (hk, hs) w ++ rW cL cI k b1 b2 b3 b4 v)) (va_A (tW cL cI x r k a1 a2 a3 a4 (hk, hs) w ++ rW cL cI k b1 b2 b3 b4 v0) hz)) 0 0 (va_A (tW cL cI x r k a1 a2 a3 a4 (hk, hs) w ++ rW cL cI k b1 b2 b3 b4 v0) hz) := by
  refine Met.ofW (cc := cX1_commit) (maxL := 1) (ret := none) (by decide) rfl ?_
  intro p e s m args below meth c s₁ B hml hv
  obtain ⟨rfl, hsz, hP, hK, hD0⟩ := hv
  have hx := B.exec
  have hb := B.bytes
  have hr := B.returns
  have hts := atoms_spec (ws := wsX1_commit) B.pre
  have hown : s.vm.findClass RX1 = some m.cls := findClass_of_methodNamed B.named
  have hlocks := B.notSynchronized
  subst hsz
  have hD := hD0.self (sz := s.heap.size)
  generalize hAe : va_A (tW cL cI x r k a1 a2 a3 a4 (hk, hs) w ++ rW cL cI k b1 b2 b3 b4 v0) s.heap.size = A at hD ⊢
  have hA : ∀ q : Nat, s.heap.size ≤ q → A q := fun q h => by rw [← hAe]; exact Or.inr h
  have hS : va_S A s.heap s.heap [] := va_S.rf
  replace hP : va_P (dC, dI) vwCl [(x, .inr (1, [.ref r, .ref k, .long hk, .int hs])), (r, .inr (0, [.ref a1, .ref a2, .ref a3, .ref a4, .int (nI w.1)])), (a1, .inl (cL, 150, .inr (.inl w.2.1))), (a2, .inl (cI, 150, .inl w.2.2.1)), (a3, .inl (cL, 150, .inr (.inl w.2.2.2.1))), (a4, .inl (cI, 150, .inl w.2.2.2.2)), (k, .inr (0, [.ref b1, .ref b2, .ref b3, .ref b4, .int (nI v0.1)])), (b1, .inl (cL, 150, .inr (.inl v0.2.1))), (b2, .inl (cI, 150, .inl v0.2.2.1)), (b3, .inl (cL, 150, .inr (.inl v0.2.2.2.1))), (b4, .inl (cI, 150, .inl v0.2.2.2.2))] s.heap := hP
  replace hD : va_D A [(x, .inr (1, [.ref r, .ref k, .long hk, .int hs])), (r, .inr (0, [.ref a1, .ref a2, .ref a3, .ref a4, .int (nI w.1)])), (a1, .inl (cL, 150, .inr (.inl w.2.1))), (a2, .inl (cI, 150, .inl w.2.2.1)), (a3, .inl (cL, 150, .inr (.inl w.2.2.2.1))), (a4, .inl (cI, 150, .inl w.2.2.2.2)), (k, .inr (0, [.ref b1, .ref b2, .ref b3, .ref b4, .int (nI v0.1)])), (b1, .inl (cL, 150, .inr (.inl v0.2.1))), (b2, .inl (cI, 150, .inl v0.2.2.1)), (b3, .inl (cL, 150, .inr (.inl v0.2.2.2.1))), (b4, .inl (cI, 150, .inl v0.2.2.2.2))] := hD
  have hl := lv_entry ([.ref x]) (n := 1) (Nat.le_of_ble_eq_true rfl)
  rw [lg_entry_eq]
  generalize (lg_sl ([.ref x]) ++ List.replicate (1 - (lg_sl ([.ref x])).length) Slot.unset).toArray = ls at hl ⊢
  replace hl : lv_has ls 1 [(0, .ref x)] := hl
  refine lv_aload_n hx hb dX1_commit_0 rfl (lv_at hl 0 rfl) ?_
  refine va_get (D := (dC, dI)) (ci := 1) (v := .ref k) (C := RX1) (T := TX1) (N := 4) hx hb hts i_X1_commit_X1 hown hK hP 0 rfl rfl 1 (by decide) (hts (.fieldLink RX1 16 "BlockTree" "kept" "LBlockTree$Rows;") (by decide +kernel)) (fun _ h9 => h9) rfl dX1_commit_1 ?_
  refine lv_aload_n hx hb dX1_commit_4 rfl (lv_at hl 0 rfl) ?_
  refine va_get (D := (dC, dI)) (ci := 1) (v := .ref r) (C := RX1) (T := TX1) (N := 4) hx hb hts i_X1_commit_X1 hown hK hP 0 rfl rfl 0 (by decide) (hts (.fieldLink RX1 10 "BlockTree" "now" "LBlockTree$Rows;") (by decide +kernel)) (fun _ h9 => h9) rfl dX1_commit_5 ?_
  refine wr_callv (wr := [(x, .inr (1, [.ref r, .ref k, .long hk, .int hs]))]) (va_runV (As := [.ref r]) (rest := []) ⟨hx, hb, hml, hown, hts⟩ (c_copyFrom l dC dI _ cL cI k b1 b2 b3 b4 r a1 a2 a3 a4 v0 w hu) (cwV 1 hts gX1_commit_X0_copyFrom rfl rfl rfl (by decide +kernel) ⟨Nat.le_of_ble_eq_true rfl, Nat.le_of_ble_eq_true rfl⟩) (wr_preV hK (hP.sub (ws' := [(k, .inr (0, [.ref b1, .ref b2, .ref b3, .ref b4, .int (nI v0.1)])), (b1, .inl (cL, 150, .inr (.inl v0.2.1))), (b2, .inl (cI, 150, .inl v0.2.2.1)), (b3, .inl (cL, 150, .inr (.inl v0.2.2.2.1))), (b4, .inl (cI, 150, .inl v0.2.2.2.2)), (r, .inr (0, [.ref a1, .ref a2, .ref a3, .ref a4, .int (nI w.1)])), (a1, .inl (cL, 150, .inr (.inl w.2.1))), (a2, .inl (cI, 150, .inl w.2.2.1)), (a3, .inl (cL, 150, .inr (.inl w.2.2.2.1))), (a4, .inl (cI, 150, .inl w.2.2.2.2))]) [6, 7, 8, 9, 10, 1, 2, 3, 4, 5] rfl) (hD.sub (ws' := [(k, .inr (0, [.ref b1, .ref b2, .ref b3, .ref b4, .int (nI v0.1)])), (b1, .inl (cL, 150, .inr (.inl v0.2.1))), (b2, .inl (cI, 150, .inl v0.2.2.1)), (b3, .inl (cL, 150, .inr (.inl v0.2.2.2.1))), (b4, .inl (cI, 150, .inl v0.2.2.2.2)), (r, .inr (0, [.ref a1, .ref a2, .ref a3, .ref a4, .int (nI w.1)])), (a1, .inl (cL, 150, .inr (.inl w.2.1))), (a2, .inl (cI, 150, .inl w.2.2.1)), (a3, .inl (cL, 150, .inr (.inl w.2.2.2.1))), (a4, .inl (cI, 150, .inl w.2.2.2.2))]) [6, 7, 8, 9, 10, 1, 2, 3, 4, 5] (by decide) rfl) (ci := 0) (q0 := 0) rfl rfl) rfl rfl hl.1 rfl (lv_room (Nat.le_of_ble_eq_true rfl)) dX1_commit_8 ⟨Nat.le_of_ble_eq_true rfl, Nat.le_of_ble_eq_true rfl⟩) hP hD hS hA [6, 7, 8, 9, 10, 1, 2, 3, 4, 5] [0] rfl rfl (by decide) (by decide) (fun u_ H locs hr5 hP hD hS => ?_)
  subst hr5
  replace hP := hP.sub (ws' := [(x, .inr (1, [.ref r, .ref k, .long hk, .int hs])), (r, .inr (0, [.ref a1, .ref a2, .ref a3, .ref a4, .int (nI w.1)])), (a1, .inl (cL, 150, .inr (.inl w.2.1))), (a2, .inl (cI, 150, .inl w.2.2.1)), (a3, .inl (cL, 150, .inr (.inl w.2.2.2.1))), (a4, .inl (cI, 150, .inl w.2.2.2.2)), (k, .inr (0, [.ref b1, .ref b2, .ref b3, .ref b4, .int (nI w.1)])), (b1, .inl (cL, 150, .inr (.inl (va_cpy w.2.1 v0.2.1 0 0 w.1)))), (b2, .inl (cI, 150, .inl (va_cpy w.2.2.1 v0.2.2.1 0 0 w.1))), (b3, .inl (cL, 150, .inr (.inl (va_cpy w.2.2.2.1 v0.2.2.2.1 0 0 w.1)))), (b4, .inl (cI, 150, .inl (va_cpy w.2.2.2.2 v0.2.2.2.2 0 0 w.1)))]) [0, 6, 7, 8, 9, 10, 1, 2, 3, 4, 5] rfl
  replace hD := hD.sub (ws' := [(x, .inr (1, [.ref r, .ref k, .long hk, .int hs])), (r, .inr (0, [.ref a1, .ref a2, .ref a3, .ref a4, .int (nI w.1)])), (a1, .inl (cL, 150, .inr (.inl w.2.1))), (a2, .inl (cI, 150, .inl w.2.2.1)), (a3, .inl (cL, 150, .inr (.inl w.2.2.2.1))), (a4, .inl (cI, 150, .inl w.2.2.2.2)), (k, .inr (0, [.ref b1, .ref b2, .ref b3, .ref b4, .int (nI w.1)])), (b1, .inl (cL, 150, .inr (.inl (va_cpy w.2.1 v0.2.1 0 0 w.1)))), (b2, .inl (cI, 150, .inl (va_cpy w.2.2.1 v0.2.2.1 0 0 w.1))), (b3, .inl (cL, 150, .inr (.inl (va_cpy w.2.2.2.1 v0.2.2.2.1 0 0 w.1)))), (b4, .inl (cI, 150, .inl (va_cpy w.2.2.2.2 v0.2.2.2.2 0 0 w.1)))]) [0, 6, 7, 8, 9, 10, 1, 2, 3, 4, 5] (by decide) rfl
  exact W.vret hx hb hr (fun t9 ht hW => ⟨⟨rs_cpy w v0, rfl, rfl, by rw [ht]; exact hP, hD⟩, hS.F ht⟩) hS.2.2 dX1_commit_11
set_option maxHeartbeats 4000000 in
set_option maxRecDepth 100000 in
/-- revert -/
theorem c_revert (l : Launch) (dC : Nat → ClassId) (dI : Nat → Nat → Nat) (hz : Nat) (cL cI : ClassId) (x r k a1 a2 a3 a4 b1 b2 b3 b4 : Nat) (hk : Int64) (hs : Int32) (w v0 : RS) (hu : v0.1 ≤ 150) : Met l yX1_revert wsX1_revert ({ frames := 2, cells := 0, slots := 0, locals := 47 }) (wrP (dC, dI) (kS cL cI) (tW cL cI x r k a1 a2 a3 a4 (hk, hs) w ++ rW cL cI k b1 b2 b3 b4 v0) [.ref x] hz) (va_Qv (fun (v : RS) => v = rs_cpy v0 w) (wrB (dC, dI) (va_A (tW cL cI x r k a1 a2 a3 a4 (hk, hs) w ++ rW cL cI k b1 b2 b3 b4 v0) hz) (fun (v : RS) => tW cL cI x r k a1 a2 a3 a4 (hk, hs) v ++ rW cL cI k b1 b2 b3 b4 v0)) (va_A (tW cL cI x r k a1 a2 a3 a4 (hk, hs) w ++ rW cL cI k b1 b2 b3 b4 v0) hz)) 0 0 (va_A (tW cL cI x r k a1 a2 a3 a4 (hk, hs) w ++ rW cL cI k b1 b2 b3 b4 v0) hz) := by
  refine Met.ofW (cc := cX1_revert) (maxL := 1) (ret := none) (by decide) rfl ?_
  intro p e s m args below meth c s₁ B hml hv
  obtain ⟨rfl, hsz, hP, hK, hD0⟩ := hv
  have hx := B.exec
  have hb := B.bytes
  have hr := B.returns
  have hts := atoms_spec (ws := wsX1_revert) B.pre
  have hown : s.vm.findClass RX1 = some m.cls := findClass_of_methodNamed B.named
  have hlocks := B.notSynchronized
  subst hsz
  have hD := hD0.self (sz := s.heap.size)
  generalize hAe : va_A (tW cL cI x r k a1 a2 a3 a4 (hk, hs) w ++ rW cL cI k b1 b2 b3 b4 v0) s.heap.size = A at hD ⊢
  have hA : ∀ q : Nat, s.heap.size ≤ q → A q := fun q h => by rw [← hAe]; exact Or.inr h
  have hS : va_S A s.heap s.heap [] := va_S.rf
  replace hP : va_P (dC, dI) vwCl [(x, .inr (1, [.ref r, .ref k, .long hk, .int hs])), (r, .inr (0, [.ref a1, .ref a2, .ref a3, .ref a4, .int (nI w.1)])), (a1, .inl (cL, 150, .inr (.inl w.2.1))), (a2, .inl (cI, 150, .inl w.2.2.1)), (a3, .inl (cL, 150, .inr (.inl w.2.2.2.1))), (a4, .inl (cI, 150, .inl w.2.2.2.2)), (k, .inr (0, [.ref b1, .ref b2, .ref b3, .ref b4, .int (nI v0.1)])), (b1, .inl (cL, 150, .inr (.inl v0.2.1))), (b2, .inl (cI, 150, .inl v0.2.2.1)), (b3, .inl (cL, 150, .inr (.inl v0.2.2.2.1))), (b4, .inl (cI, 150, .inl v0.2.2.2.2))] s.heap := hP
  replace hD : va_D A [(x, .inr (1, [.ref r, .ref k, .long hk, .int hs])), (r, .inr (0, [.ref a1, .ref a2, .ref a3, .ref a4, .int (nI w.1)])), (a1, .inl (cL, 150, .inr (.inl w.2.1))), (a2, .inl (cI, 150, .inl w.2.2.1)), (a3, .inl (cL, 150, .inr (.inl w.2.2.2.1))), (a4, .inl (cI, 150, .inl w.2.2.2.2)), (k, .inr (0, [.ref b1, .ref b2, .ref b3, .ref b4, .int (nI v0.1)])), (b1, .inl (cL, 150, .inr (.inl v0.2.1))), (b2, .inl (cI, 150, .inl v0.2.2.1)), (b3, .inl (cL, 150, .inr (.inl v0.2.2.2.1))), (b4, .inl (cI, 150, .inl v0.2.2.2.2))] := hD
  have hl := lv_entry ([.ref x]) (n := 1) (Nat.le_of_ble_eq_true rfl)
  rw [lg_entry_eq]
  generalize (lg_sl ([.ref x]) ++ List.replicate (1 - (lg_sl ([.ref x])).length) Slot.unset).toArray = ls at hl ⊢
  replace hl : lv_has ls 1 [(0, .ref x)] := hl
  refine lv_aload_n hx hb dX1_revert_0 rfl (lv_at hl 0 rfl) ?_
  refine va_get (D := (dC, dI)) (ci := 1) (v := .ref r) (C := RX1) (T := TX1) (N := 4) hx hb hts i_X1_revert_X1 hown hK hP 0 rfl rfl 0 (by decide) (hts (.fieldLink RX1 10 "BlockTree" "now" "LBlockTree$Rows;") (by decide +kernel)) (fun _ h9 => h9) rfl dX1_revert_1 ?_
  refine lv_aload_n hx hb dX1_revert_4 rfl (lv_at hl 0 rfl) ?_
  refine va_get (D := (dC, dI)) (ci := 1) (v := .ref k) (C := RX1) (T := TX1) (N := 4) hx hb hts i_X1_revert_X1 hown hK hP 0 rfl rfl 1 (by decide) (hts (.fieldLink RX1 16 "BlockTree" "kept" "LBlockTree$Rows;") (by decide +kernel)) (fun _ h9 => h9) rfl dX1_revert_5 ?_
  refine wr_callv (wr := [(x, .inr (1, [.ref r, .ref k, .long hk, .int hs]))]) (va_runV (As := [.ref k]) (rest := []) ⟨hx, hb, hml, hown, hts⟩ (c_copyFrom l dC dI _ cL cI r a1 a2 a3 a4 k b1 b2 b3 b4 w v0 hu) (cwV 1 hts gX1_revert_X0_copyFrom rfl rfl rfl (by decide +kernel) ⟨Nat.le_of_ble_eq_true rfl, Nat.le_of_ble_eq_true rfl⟩) (wr_preV hK (hP.sub (ws' := [(r, .inr (0, [.ref a1, .ref a2, .ref a3, .ref a4, .int (nI w.1)])), (a1, .inl (cL, 150, .inr (.inl w.2.1))), (a2, .inl (cI, 150, .inl w.2.2.1)), (a3, .inl (cL, 150, .inr (.inl w.2.2.2.1))), (a4, .inl (cI, 150, .inl w.2.2.2.2)), (k, .inr (0, [.ref b1, .ref b2, .ref b3, .ref b4, .int (nI v0.1)])), (b1, .inl (cL, 150, .inr (.inl v0.2.1))), (b2, .inl (cI, 150, .inl v0.2.2.1)), (b3, .inl (cL, 150, .inr (.inl v0.2.2.2.1))), (b4, .inl (cI, 150, .inl v0.2.2.2.2))]) [1, 2, 3, 4, 5, 6, 7, 8, 9, 10] rfl) (hD.sub (ws' := [(r, .inr (0, [.ref a1, .ref a2, .ref a3, .ref a4, .int (nI w.1)])), (a1, .inl (cL, 150, .inr (.inl w.2.1))), (a2, .inl (cI, 150, .inl w.2.2.1)), (a3, .inl (cL, 150, .inr (.inl w.2.2.2.1))), (a4, .inl (cI, 150, .inl w.2.2.2.2)), (k, .inr (0, [.ref b1, .ref b2, .ref b3, .ref b4, .int (nI v0.1)])), (b1, .inl (cL, 150, .inr (.inl v0.2.1))), (b2, .inl (cI, 150, .inl v0.2.2.1)), (b3, .inl (cL, 150, .inr (.inl v0.2.2.2.1))), (b4, .inl (cI, 150, .inl v0.2.2.2.2))]) [1, 2, 3, 4, 5, 6, 7, 8, 9, 10] (by decide) rfl) (ci := 0) (q0 := 0) rfl rfl) rfl rfl hl.1 rfl (lv_room (Nat.le_of_ble_eq_true rfl)) dX1_revert_8 ⟨Nat.le_of_ble_eq_true rfl, Nat.le_of_ble_eq_true rfl⟩) hP hD hS hA [1, 2, 3, 4, 5, 6, 7, 8, 9, 10] [0] rfl rfl (by decide) (by decide) (fun u_ H locs hr5 hP hD hS => ?_)
  subst hr5
  replace hP := hP.sub (ws' := [(x, .inr (1, [.ref r, .ref k, .long hk, .int hs])), (r, .inr (0, [.ref a1, .ref a2, .ref a3, .ref a4, .int (nI v0.1)])), (a1, .inl (cL, 150, .inr (.inl (va_cpy v0.2.1 w.2.1 0 0 v0.1)))), (a2, .inl (cI, 150, .inl (va_cpy v0.2.2.1 w.2.2.1 0 0 v0.1))), (a3, .inl (cL, 150, .inr (.inl (va_cpy v0.2.2.2.1 w.2.2.2.1 0 0 v0.1)))), (a4, .inl (cI, 150, .inl (va_cpy v0.2.2.2.2 w.2.2.2.2 0 0 v0.1))), (k, .inr (0, [.ref b1, .ref b2, .ref b3, .ref b4, .int (nI v0.1)])), (b1, .inl (cL, 150, .inr (.inl v0.2.1))), (b2, .inl (cI, 150, .inl v0.2.2.1)), (b3, .inl (cL, 150, .inr (.inl v0.2.2.2.1))), (b4, .inl (cI, 150, .inl v0.2.2.2.2))]) [0, 1, 2, 3, 4, 5, 6, 7, 8, 9, 10] rfl
  replace hD := hD.sub (ws' := [(x, .inr (1, [.ref r, .ref k, .long hk, .int hs])), (r, .inr (0, [.ref a1, .ref a2, .ref a3, .ref a4, .int (nI v0.1)])), (a1, .inl (cL, 150, .inr (.inl (va_cpy v0.2.1 w.2.1 0 0 v0.1)))), (a2, .inl (cI, 150, .inl (va_cpy v0.2.2.1 w.2.2.1 0 0 v0.1))), (a3, .inl (cL, 150, .inr (.inl (va_cpy v0.2.2.2.1 w.2.2.2.1 0 0 v0.1)))), (a4, .inl (cI, 150, .inl (va_cpy v0.2.2.2.2 w.2.2.2.2 0 0 v0.1))), (k, .inr (0, [.ref b1, .ref b2, .ref b3, .ref b4, .int (nI v0.1)])), (b1, .inl (cL, 150, .inr (.inl v0.2.1))), (b2, .inl (cI, 150, .inl v0.2.2.1)), (b3, .inl (cL, 150, .inr (.inl v0.2.2.2.1))), (b4, .inl (cI, 150, .inl v0.2.2.2.2))]) [0, 1, 2, 3, 4, 5, 6, 7, 8, 9, 10] (by decide) rfl
  exact W.vret hx hb hr (fun t9 ht hW => ⟨⟨rs_cpy v0 w, rfl, rfl, by rw [ht]; exact hP, hD⟩, hS.F ht⟩) hS.2.2 dX1_revert_11
set_option maxHeartbeats 4000000 in
set_option maxRecDepth 100000 in
/-- BlockTree() -/
theorem c_BlockTree_init (l : Launch) (dC : Nat → ClassId) (dI : Nat → Nat → Nat) (hz : Nat) (cL cI : ClassId) (x : Nat) : Met l yX1_init wsX1_init ({ frames := 2, cells := 10, slots := 1210, locals := 40 }) (wrP (dC, dI) (kS cL cI) ([(x, .inr (1, [.null, .null, .long 0, .int 0]))]) [.ref x] hz) (va_Qv (fun (v : (Nat × Nat) × (Nat × Nat × Nat × Nat) × (Nat × Nat × Nat × Nat)) => True) (wrB (dC, dI) (va_A ([(x, .inr (1, [.null, .null, .long 0, .int 0]))]) hz) (fun (v : (Nat × Nat) × (Nat × Nat × Nat × Nat) × (Nat × Nat × Nat × Nat)) => tW cL cI x v.1.1 v.1.2 v.2.1.1 v.2.1.2.1 v.2.1.2.2.1 v.2.1.2.2.2 (0, 0) rs_0 ++ rW cL cI v.1.2 v.2.2.1 v.2.2.2.1 v.2.2.2.2.1 v.2.2.2.2.2 rs_0)) (va_A ([(x, .inr (1, [.null, .null, .long 0, .int 0]))]) hz)) 10 1210 (va_A ([(x, .inr (1, [.null, .null, .long 0, .int 0]))]) hz) := by
  refine Met.ofW (cc := cX1_init) (maxL := 1) (ret := none) (by decide) rfl ?_
  intro p e s m args below meth c s₁ B hml hv
  obtain ⟨rfl, hsz, hP, hK, hD0⟩ := hv
  have hx := B.exec
  have hb := B.bytes
  have hr := B.returns
  have hts := atoms_spec (ws := wsX1_init) B.pre
  have hown : s.vm.findClass RX1 = some m.cls := findClass_of_methodNamed B.named
  have hlocks := B.notSynchronized
  have hin : meth.name = "<init>" := (name_of_methodNamed B.named B.method).1
  subst hsz
  have hD := hD0.self (sz := s.heap.size)
  generalize hAe : va_A ([(x, .inr (1, [.null, .null, .long 0, .int 0]))]) s.heap.size = A at hD ⊢
  have hA : ∀ q : Nat, s.heap.size ≤ q → A q := fun q h => by rw [← hAe]; exact Or.inr h
  have hS : va_S A s.heap s.heap [] := va_S.rf
  replace hP : va_P (dC, dI) vwCl [(x, .inr (1, [.null, .null, .long 0, .int 0]))] s.heap := hP
  replace hD : va_D A [(x, .inr (1, [.null, .null, .long 0, .int 0]))] := hD
  have hl := lv_entry ([.ref x]) (n := 1) (Nat.le_of_ble_eq_true rfl)
  rw [lg_entry_eq]
  generalize (lg_sl ([.ref x]) ++ List.replicate (1 - (lg_sl ([.ref x])).length) Slot.unset).toArray = ls at hl ⊢
  replace hl : lv_has ls 1 [(0, .ref x)] := hl
  refine lv_aload_n hx hb dX1_init_0 rfl (lv_at hl 0 rfl) ?_
  refine W.objInit hx hb hown (hts (.methodLink RX1 1 objectInit) (by decide +kernel)) (hts (.instanceMethod objectInit) (by decide +kernel)) (hts _ (List.mem_cons_of_mem _ (List.mem_append_left _ (List.mem_of_getElem? (i := 2) rfl)))) rfl (by rw [hml]; exact hl.1) rfl dX1_init_1 (Nat.le_of_ble_eq_true rfl) (Nat.le_of_ble_eq_true rfl) ?_
  refine W.eq (g2 := F0 m 4 ls []) rfl ?_
  refine lv_aload_n hx hb dX1_init_4 rfl (lv_at hl 0 rfl) ?_
  refine va_new (ci := 0) (fs := [.null, .null, .null, .null, .int 0]) (C := RX0) (T := TX0) (N := 5) hx hb hts (by decide +kernel) tyX0 tyX0_ok hown (hts (.classLink RX1 7 RX0) (by decide +kernel)) (hts (.instantiable RX0 5) (by decide +kernel)) (hts (.initialized RX0) (by decide +kernel)) hK hP hD hS hA rfl (fun j hj => by rcases (show j = 0 ∨ j = 1 ∨ j = 2 ∨ j = 3 ∨ j = 4 by omega) with rfl | rfl | rfl | rfl | rfl <;> rfl) (by decide +kernel) (by decide +kernel) dX1_init_5 (fun r H hP hD hS => ?_)
  replace hP : va_P (dC, dI) vwCl [(x, .inr (1, [.null, .null, .long 0, .int 0])), (r, .inr (0, [.null, .null, .null, .null, .int 0]))] H := hP
  replace hD : va_D A [(x, .inr (1, [.null, .null, .long 0, .int 0])), (r, .inr (0, [.null, .null, .null, .null, .int 0]))] := hD
  refine W.widen (k := 1) (n := 5) (by omega) (by omega) ?_
  refine lv_dup hx hb dX1_init_8 rfl ?_
  refine wr_callv (wr := [(x, .inr (1, [.null, .null, .long 0, .int 0]))]) (va_runI (As := []) (rest := [.ref r, .ref x]) ⟨hx, hb, hml, hown, hts⟩ (c_Rows_init l dC dI _ cL cI r) (cwI 0 hts gX1_init_X0_init rfl rfl rfl (hts (.initialized RX0) (by decide +kernel)) (hts (.methodLink RX1 9 yX0_init) (by decide +kernel)) (hts (.instanceMethod yX0_init) (by decide +kernel)) rfl (by decide +kernel) ⟨Nat.le_of_ble_eq_true rfl, Nat.le_of_ble_eq_true rfl⟩) (wr_preI hK (hP.sub (ws' := [(r, .inr (0, [.null, .null, .null, .null, .int 0]))]) [1] rfl) (hD.sub (ws' := [(r, .inr (0, [.null, .null, .null, .null, .int 0]))]) [1] (by decide) rfl)) rfl rfl hl.1 rfl (lv_room (Nat.le_of_ble_eq_true rfl)) dX1_init_9 ⟨by decide +kernel, by decide +kernel⟩) hP hD hS hA [1] [0] rfl rfl (by decide) (by decide) (fun u_ H locs hr5 hP hD hS => ?_)
  obtain ⟨u_r, eu_r⟩ : ∃ y : Nat × Nat × Nat × Nat, y = u_ := ⟨_, rfl⟩
  subst eu_r
  replace hP := hP.sub (ws' := [(x, .inr (1, [.null, .null, .long 0, .int 0])), (r, .inr (0, [.ref u_r.1, .ref u_r.2.1, .ref u_r.2.2.1, .ref u_r.2.2.2, .int (nI 0)])), (u_r.1, .inl (cL, 150, .inr (.inl (fun _ => 0)))), (u_r.2.1, .inl (cI, 150, .inl (fun _ => 0))), (u_r.2.2.1, .inl (cL, 150, .inr (.inl (fun _ => 0)))), (u_r.2.2.2, .inl (cI, 150, .inl (fun _ => 0)))]) [0, 1, 2, 3, 4, 5] rfl
  replace hD := hD.sub (ws' := [(x, .inr (1, [.null, .null, .long 0, .int 0])), (r, .inr (0, [.ref u_r.1, .ref u_r.2.1, .ref u_r.2.2.1, .ref u_r.2.2.2, .int (nI 0)])), (u_r.1, .inl (cL, 150, .inr (.inl (fun _ => 0)))), (u_r.2.1, .inl (cI, 150, .inl (fun _ => 0))), (u_r.2.2.1, .inl (cL, 150, .inr (.inl (fun _ => 0)))), (u_r.2.2.2, .inl (cI, 150, .inl (fun _ => 0)))]) [0, 1, 2, 3, 4, 5] (by decide) rfl
  refine va_putF (D := (dC, dI)) (ci := 1) (v := .ref r) (ty := .object "BlockTree$Rows") (C := RX1) (T := TX1) (N := 4) hx hb hts i_X1_init_X1 tyX1 tyX1_ok nmX1 hown hK hP hD hS 0 rfl rfl 0 (by decide) (hts (.fieldLink RX1 10 "BlockTree" "now" "LBlockTree$Rows;") (by decide +kernel)) (fun _ h9 => h9) rfl hin rfl (by decide +kernel) rfl rfl (Nat.le_of_ble_eq_true rfl) dX1_init_12 (fun H locs hP hD hS => ?_)
  replace hP : va_P (dC, dI) vwCl [(x, .inr (1, [.ref r, .null, .long 0, .int 0])), (r, .inr (0, [.ref u_r.1, .ref u_r.2.1, .ref u_r.2.2.1, .ref u_r.2.2.2, .int (nI 0)])), (u_r.1, .inl (cL, 150, .inr (.inl (fun _ => 0)))), (u_r.2.1, .inl (cI, 150, .inl (fun _ => 0))), (u_r.2.2.1, .inl (cL, 150, .inr (.inl (fun _ => 0)))), (u_r.2.2.2, .inl (cI, 150, .inl (fun _ => 0)))] H := hP
  replace hD : va_D A [(x, .inr (1, [.ref r, .null, .long 0, .int 0])), (r, .inr (0, [.ref u_r.1, .ref u_r.2.1, .ref u_r.2.2.1, .ref u_r.2.2.2, .int (nI 0)])), (u_r.1, .inl (cL, 150, .inr (.inl (fun _ => 0)))), (u_r.2.1, .inl (cI, 150, .inl (fun _ => 0))), (u_r.2.2.1, .inl (cL, 150, .inr (.inl (fun _ => 0)))), (u_r.2.2.2, .inl (cI, 150, .inl (fun _ => 0)))] := hD
  refine lv_aload_n hx hb dX1_init_15 rfl (lv_at hl 0 rfl) ?_
  refine va_new (ci := 0) (fs := [.null, .null, .null, .null, .int 0]) (C := RX0) (T := TX0) (N := 5) hx hb hts (by decide +kernel) tyX0 tyX0_ok hown (hts (.classLink RX1 7 RX0) (by decide +kernel)) (hts (.instantiable RX0 5) (by decide +kernel)) (hts (.initialized RX0) (by decide +kernel)) hK hP hD hS hA rfl (fun j hj => by rcases (show j = 0 ∨ j = 1 ∨ j = 2 ∨ j = 3 ∨ j = 4 by omega) with rfl | rfl | rfl | rfl | rfl <;> rfl) (by decide +kernel) (by decide +kernel) dX1_init_16 (fun k H hP hD hS => ?_)
  replace hP : va_P (dC, dI) vwCl [(x, .inr (1, [.ref r, .null, .long 0, .int 0])), (r, .inr (0, [.ref u_r.1, .ref u_r.2.1, .ref u_r.2.2.1, .ref u_r.2.2.2, .int (nI 0)])), (u_r.1, .inl (cL, 150, .inr (.inl (fun _ => 0)))), (u_r.2.1, .inl (cI, 150, .inl (fun _ => 0))), (u_r.2.2.1, .inl (cL, 150, .inr (.inl (fun _ => 0)))), (u_r.2.2.2, .inl (cI, 150, .inl (fun _ => 0))), (k, .inr (0, [.null, .null, .null, .null, .int 0]))] H := hP
  replace hD : va_D A [(x, .inr (1, [.ref r, .null, .long 0, .int 0])), (r, .inr (0, [.ref u_r.1, .ref u_r.2.1, .ref u_r.2.2.1, .ref u_r.2.2.2, .int (nI 0)])), (u_r.1, .inl (cL, 150, .inr (.inl (fun _ => 0)))), (u_r.2.1, .inl (cI, 150, .inl (fun _ => 0))), (u_r.2.2.1, .inl (cL, 150, .inr (.inl (fun _ => 0)))), (u_r.2.2.2, .inl (cI, 150, .inl (fun _ => 0))), (k, .inr (0, [.null, .null, .null, .null, .int 0]))] := hD
  refine W.widen (k := 6) (n := 610) (by omega) (by omega) ?_
  refine lv_dup hx hb dX1_init_19 rfl ?_
  refine wr_callv (wr := [(x, .inr (1, [.ref r, .null, .long 0, .int 0])), (r, .inr (0, [.ref u_r.1, .ref u_r.2.1, .ref u_r.2.2.1, .ref u_r.2.2.2, .int (nI 0)])), (u_r.1, .inl (cL, 150, .inr (.inl (fun _ => 0)))), (u_r.2.1, .inl (cI, 150, .inl (fun _ => 0))), (u_r.2.2.1, .inl (cL, 150, .inr (.inl (fun _ => 0)))), (u_r.2.2.2, .inl (cI, 150, .inl (fun _ => 0)))]) (va_runI (As := []) (rest := [.ref k, .ref x]) ⟨hx, hb, hml, hown, hts⟩ (c_Rows_init l dC dI _ cL cI k) (cwI 0 hts gX1_init_X0_init rfl rfl rfl (hts (.initialized RX0) (by decide +kernel)) (hts (.methodLink RX1 9 yX0_init) (by decide +kernel)) (hts (.instanceMethod yX0_init) (by decide +kernel)) rfl (by decide +kernel) ⟨Nat.le_of_ble_eq_true rfl, Nat.le_of_ble_eq_true rfl⟩) (wr_preI hK (hP.sub (ws' := [(k, .inr (0, [.null, .null, .null, .null, .int 0]))]) [6] rfl) (hD.sub (ws' := [(k, .inr (0, [.null, .null, .null, .null, .int 0]))]) [6] (by decide) rfl)) rfl rfl hl.1 rfl (lv_room (Nat.le_of_ble_eq_true rfl)) dX1_init_20 ⟨by decide +kernel, by decide +kernel⟩) hP hD hS hA [6] [0, 1, 2, 3, 4, 5] rfl rfl (by decide) (by decide) (fun u_ H locs hr5 hP hD hS => ?_)
  obtain ⟨u_k, eu_k⟩ : ∃ y : Nat × Nat × Nat × Nat, y = u_ := ⟨_, rfl⟩
  subst eu_k
  replace hP := hP.sub (ws' := [(x, .inr (1, [.ref r, .null, .long 0, .int 0])), (r, .inr (0, [.ref u_r.1, .ref u_r.2.1, .ref u_r.2.2.1, .ref u_r.2.2.2, .int (nI 0)])), (u_r.1, .inl (cL, 150, .inr (.inl (fun _ => 0)))), (u_r.2.1, .inl (cI, 150, .inl (fun _ => 0))), (u_r.2.2.1, .inl (cL, 150, .inr (.inl (fun _ => 0)))), (u_r.2.2.2, .inl (cI, 150, .inl (fun _ => 0))), (k, .inr (0, [.ref u_k.1, .ref u_k.2.1, .ref u_k.2.2.1, .ref u_k.2.2.2, .int (nI 0)])), (u_k.1, .inl (cL, 150, .inr (.inl (fun _ => 0)))), (u_k.2.1, .inl (cI, 150, .inl (fun _ => 0))), (u_k.2.2.1, .inl (cL, 150, .inr (.inl (fun _ => 0)))), (u_k.2.2.2, .inl (cI, 150, .inl (fun _ => 0)))]) [0, 1, 2, 3, 4, 5, 6, 7, 8, 9, 10] rfl
  replace hD := hD.sub (ws' := [(x, .inr (1, [.ref r, .null, .long 0, .int 0])), (r, .inr (0, [.ref u_r.1, .ref u_r.2.1, .ref u_r.2.2.1, .ref u_r.2.2.2, .int (nI 0)])), (u_r.1, .inl (cL, 150, .inr (.inl (fun _ => 0)))), (u_r.2.1, .inl (cI, 150, .inl (fun _ => 0))), (u_r.2.2.1, .inl (cL, 150, .inr (.inl (fun _ => 0)))), (u_r.2.2.2, .inl (cI, 150, .inl (fun _ => 0))), (k, .inr (0, [.ref u_k.1, .ref u_k.2.1, .ref u_k.2.2.1, .ref u_k.2.2.2, .int (nI 0)])), (u_k.1, .inl (cL, 150, .inr (.inl (fun _ => 0)))), (u_k.2.1, .inl (cI, 150, .inl (fun _ => 0))), (u_k.2.2.1, .inl (cL, 150, .inr (.inl (fun _ => 0)))), (u_k.2.2.2, .inl (cI, 150, .inl (fun _ => 0)))]) [0, 1, 2, 3, 4, 5, 6, 7, 8, 9, 10] (by decide) rfl
  refine va_putF (D := (dC, dI)) (ci := 1) (v := .ref k) (ty := .object "BlockTree$Rows") (C := RX1) (T := TX1) (N := 4) hx hb hts i_X1_init_X1 tyX1 tyX1_ok nmX1 hown hK hP hD hS 0 rfl rfl 1 (by decide) (hts (.fieldLink RX1 16 "BlockTree" "kept" "LBlockTree$Rows;") (by decide +kernel)) (fun _ h9 => h9) rfl hin rfl (by decide +kernel) rfl rfl (Nat.le_of_ble_eq_true rfl) dX1_init_23 (fun H locs hP hD hS => ?_)
  replace hP : va_P (dC, dI) vwCl [(x, .inr (1, [.ref r, .ref k, .long 0, .int 0])), (r, .inr (0, [.ref u_r.1, .ref u_r.2.1, .ref u_r.2.2.1, .ref u_r.2.2.2, .int (nI 0)])), (u_r.1, .inl (cL, 150, .inr (.inl (fun _ => 0)))), (u_r.2.1, .inl (cI, 150, .inl (fun _ => 0))), (u_r.2.2.1, .inl (cL, 150, .inr (.inl (fun _ => 0)))), (u_r.2.2.2, .inl (cI, 150, .inl (fun _ => 0))), (k, .inr (0, [.ref u_k.1, .ref u_k.2.1, .ref u_k.2.2.1, .ref u_k.2.2.2, .int (nI 0)])), (u_k.1, .inl (cL, 150, .inr (.inl (fun _ => 0)))), (u_k.2.1, .inl (cI, 150, .inl (fun _ => 0))), (u_k.2.2.1, .inl (cL, 150, .inr (.inl (fun _ => 0)))), (u_k.2.2.2, .inl (cI, 150, .inl (fun _ => 0)))] H := hP
  replace hD : va_D A [(x, .inr (1, [.ref r, .ref k, .long 0, .int 0])), (r, .inr (0, [.ref u_r.1, .ref u_r.2.1, .ref u_r.2.2.1, .ref u_r.2.2.2, .int (nI 0)])), (u_r.1, .inl (cL, 150, .inr (.inl (fun _ => 0)))), (u_r.2.1, .inl (cI, 150, .inl (fun _ => 0))), (u_r.2.2.1, .inl (cL, 150, .inr (.inl (fun _ => 0)))), (u_r.2.2.2, .inl (cI, 150, .inl (fun _ => 0))), (k, .inr (0, [.ref u_k.1, .ref u_k.2.1, .ref u_k.2.2.1, .ref u_k.2.2.2, .int (nI 0)])), (u_k.1, .inl (cL, 150, .inr (.inl (fun _ => 0)))), (u_k.2.1, .inl (cI, 150, .inl (fun _ => 0))), (u_k.2.2.1, .inl (cL, 150, .inr (.inl (fun _ => 0)))), (u_k.2.2.2, .inl (cI, 150, .inl (fun _ => 0)))] := hD
  refine lv_aload_n hx hb dX1_init_26 rfl (lv_at hl 0 rfl) ?_
  refine lv_lconst (v := 0) hx hb dX1_init_27 (by decide) ?_
  refine va_put (D := (dC, dI)) (ci := 1) (v := .long 0) (ty := .long) (C := RX1) (T := TX1) (N := 4) hx hb hts i_X1_init_X1 tyX1 tyX1_ok nmX1 hown hK hP hD hS 0 rfl rfl 2 (by decide) (hts (.fieldLink RX1 19 "BlockTree" "hitKey" "J") (by decide +kernel)) (fun _ h9 => h9) rfl (by decide +kernel) rfl rfl (Nat.le_of_ble_eq_true rfl) dX1_init_28 (fun H locs hP hD hS => ?_)
  replace hP : va_P (dC, dI) vwCl [(x, .inr (1, [.ref r, .ref k, .long 0, .int 0])), (r, .inr (0, [.ref u_r.1, .ref u_r.2.1, .ref u_r.2.2.1, .ref u_r.2.2.2, .int (nI 0)])), (u_r.1, .inl (cL, 150, .inr (.inl (fun _ => 0)))), (u_r.2.1, .inl (cI, 150, .inl (fun _ => 0))), (u_r.2.2.1, .inl (cL, 150, .inr (.inl (fun _ => 0)))), (u_r.2.2.2, .inl (cI, 150, .inl (fun _ => 0))), (k, .inr (0, [.ref u_k.1, .ref u_k.2.1, .ref u_k.2.2.1, .ref u_k.2.2.2, .int (nI 0)])), (u_k.1, .inl (cL, 150, .inr (.inl (fun _ => 0)))), (u_k.2.1, .inl (cI, 150, .inl (fun _ => 0))), (u_k.2.2.1, .inl (cL, 150, .inr (.inl (fun _ => 0)))), (u_k.2.2.2, .inl (cI, 150, .inl (fun _ => 0)))] H := hP
  replace hD : va_D A [(x, .inr (1, [.ref r, .ref k, .long 0, .int 0])), (r, .inr (0, [.ref u_r.1, .ref u_r.2.1, .ref u_r.2.2.1, .ref u_r.2.2.2, .int (nI 0)])), (u_r.1, .inl (cL, 150, .inr (.inl (fun _ => 0)))), (u_r.2.1, .inl (cI, 150, .inl (fun _ => 0))), (u_r.2.2.1, .inl (cL, 150, .inr (.inl (fun _ => 0)))), (u_r.2.2.2, .inl (cI, 150, .inl (fun _ => 0))), (k, .inr (0, [.ref u_k.1, .ref u_k.2.1, .ref u_k.2.2.1, .ref u_k.2.2.2, .int (nI 0)])), (u_k.1, .inl (cL, 150, .inr (.inl (fun _ => 0)))), (u_k.2.1, .inl (cI, 150, .inl (fun _ => 0))), (u_k.2.2.1, .inl (cL, 150, .inr (.inl (fun _ => 0)))), (u_k.2.2.2, .inl (cI, 150, .inl (fun _ => 0)))] := hD
  refine lv_aload_n hx hb dX1_init_31 rfl (lv_at hl 0 rfl) ?_
  refine lv_iconst (v := 0) hx hb dX1_init_32 (by decide) ?_
  refine va_put (D := (dC, dI)) (ci := 1) (v := .int 0) (ty := .int) (C := RX1) (T := TX1) (N := 4) hx hb hts i_X1_init_X1 tyX1 tyX1_ok nmX1 hown hK hP hD hS 0 rfl rfl 3 (by decide) (hts (.fieldLink RX1 23 "BlockTree" "hitSize" "I") (by decide +kernel)) (fun _ h9 => h9) rfl (by decide +kernel) rfl rfl (Nat.le_of_ble_eq_true rfl) dX1_init_33 (fun H locs hP hD hS => ?_)
  replace hP : va_P (dC, dI) vwCl [(x, .inr (1, [.ref r, .ref k, .long 0, .int 0])), (r, .inr (0, [.ref u_r.1, .ref u_r.2.1, .ref u_r.2.2.1, .ref u_r.2.2.2, .int (nI 0)])), (u_r.1, .inl (cL, 150, .inr (.inl (fun _ => 0)))), (u_r.2.1, .inl (cI, 150, .inl (fun _ => 0))), (u_r.2.2.1, .inl (cL, 150, .inr (.inl (fun _ => 0)))), (u_r.2.2.2, .inl (cI, 150, .inl (fun _ => 0))), (k, .inr (0, [.ref u_k.1, .ref u_k.2.1, .ref u_k.2.2.1, .ref u_k.2.2.2, .int (nI 0)])), (u_k.1, .inl (cL, 150, .inr (.inl (fun _ => 0)))), (u_k.2.1, .inl (cI, 150, .inl (fun _ => 0))), (u_k.2.2.1, .inl (cL, 150, .inr (.inl (fun _ => 0)))), (u_k.2.2.2, .inl (cI, 150, .inl (fun _ => 0)))] H := hP
  replace hD : va_D A [(x, .inr (1, [.ref r, .ref k, .long 0, .int 0])), (r, .inr (0, [.ref u_r.1, .ref u_r.2.1, .ref u_r.2.2.1, .ref u_r.2.2.2, .int (nI 0)])), (u_r.1, .inl (cL, 150, .inr (.inl (fun _ => 0)))), (u_r.2.1, .inl (cI, 150, .inl (fun _ => 0))), (u_r.2.2.1, .inl (cL, 150, .inr (.inl (fun _ => 0)))), (u_r.2.2.2, .inl (cI, 150, .inl (fun _ => 0))), (k, .inr (0, [.ref u_k.1, .ref u_k.2.1, .ref u_k.2.2.1, .ref u_k.2.2.2, .int (nI 0)])), (u_k.1, .inl (cL, 150, .inr (.inl (fun _ => 0)))), (u_k.2.1, .inl (cI, 150, .inl (fun _ => 0))), (u_k.2.2.1, .inl (cL, 150, .inr (.inl (fun _ => 0)))), (u_k.2.2.2, .inl (cI, 150, .inl (fun _ => 0)))] := hD
  exact W.vret hx hb hr (fun t9 ht hW => ⟨⟨((r, k), u_r, u_k), rfl, trivial, by rw [ht]; exact hP, hD⟩, hS.F ht⟩) hS.2.2 dX1_init_36
end
section
/-! THE REFERENCE: its world; what is now and what is kept are rows of the same kind as the class has, but that a key stands as it is told -/
abbrev mW (cL cI : ClassId) (y p1 p2 p3 p4 p5 p6 p7 p8 : Nat) (mv mk : RS) (f : Int64 × Int32) : va_W := [(y, .inr (2, [.int (nI mv.1), .int (nI mk.1), .ref p1, .ref p2, .ref p3, .ref p4, .ref p5, .ref p6, .ref p7, .ref p8, .long f.1, .int f.2])), (p1, .inl (cL, 151, .inr (.inl mv.2.1))), (p2, .inl (cL, 151, .inr (.inl mv.2.2.2.1))), (p3, .inl (cL, 150, .inr (.inl mk.2.1))), (p4, .inl (cL, 150, .inr (.inl mk.2.2.2.1))), (p5, .inl (cI, 151, .inl mv.2.2.1)), (p6, .inl (cI, 151, .inl mv.2.2.2.2)), (p7, .inl (cI, 150, .inl mk.2.2.1)), (p8, .inl (cI, 150, .inl mk.2.2.2.2))]
def mhl (mv : RS) (j : Nat) (h : Int64) (t : Int32) : Prop := j < mv.1 ∧ hdOf (mv.2.1 j) (mv.2.2.1 j) = h ∧ mv.2.2.1 j = t
def mpl (mv : RS) (h : Int64) (t : Int32) (j : Nat) : Prop := j ≤ mv.1 ∧ (∀ i, i < j → bfr (hdOf (mv.2.1 i) (mv.2.2.1 i)) (mv.2.2.1 i) h t) ∧ (j < mv.1 → ¬ bfr (hdOf (mv.2.1 j) (mv.2.2.1 j)) (mv.2.2.1 j) h t)
def mok (mv : RS) : Prop := mv.1 ≤ 150 ∧ ∀ i, i < mv.1 → okK (mv.2.2.1 i)
def mfQ (mv : RS) (i : Int32) (z : Int32) (f : Int64 × Int32) : Prop := (∃ j, j < mv.1 ∧ i = nI j ∧ z = 1 ∧ f = (mv.2.1 j, mv.2.2.1 j)) ∨ ((¬ ∃ j, j < mv.1 ∧ i = nI j) ∧ z = 0 ∧ f = (0, 0))
def msQ (v : RS) (j : Nat) (h : Int64) (k : Int64) (t : Int32) (x : Int64) (n : Int32) (z : Int32) (w : RS) : Prop :=
  (mhl v j h t ∧ z = 1 ∧ w = rs_put v j k t x n) ∨ (¬ mhl v j h t ∧ v.1 < 150 ∧ z = 1 ∧ w = rs_put (rs_opn v j) j k t x n) ∨ (¬ mhl v j h t ∧ ¬ v.1 < 150 ∧ z = 0 ∧ w = v)
set_option maxHeartbeats 4000000 in
set_option maxRecDepth 100000 in
/-- isSize -/
theorem c_isSize (l : Launch) (i : Int32) : Met l yX2_isSize wsX2_isSize ({ frames := 0, cells := 0, slots := 0, locals := 0 }) (stP [.int i]) (vp_Si (fun z => bq z (okK i))) 0 0 (fun _ => False) := by
  refine Met.ofW (cc := cX2_isSize) (maxL := 1) (ret := some .boolean) (by decide) rfl ?_
  intro p e s m args below meth c s₁ B hml hv
  obtain ⟨rfl, -⟩ := hv
  have hx := B.exec
  have hb := B.bytes
  have hr := B.returns
  have hts := atoms_spec (ws := wsX2_isSize) B.pre
  have hown : s.vm.findClass RX2 = some m.cls := findClass_of_methodNamed B.named
  have hlocks := B.notSynchronized
  have hl := lv_entry ([.int i]) (n := 1) (Nat.le_of_ble_eq_true rfl)
  rw [lg_entry_eq]
  generalize (lg_sl ([.int i]) ++ List.replicate (1 - (lg_sl ([.int i])).length) Slot.unset).toArray = ls at hl ⊢
  replace hl : lv_has ls 1 [(0, .int i)] := hl
  refine lv_iload_n hx hb dX2_isSize_0 rfl (lv_at hl 0 rfl) ?_
  refine lv_iconst (v := 1) hx hb dX2_isSize_1 (by decide) ?_
  refine lv_icmp_lt (tgt := 15) hx hb dX2_isSize_2 (by decide) (fun c_2 => ?_) (fun c_2 => ?_)
  · skip
    refine lv_iconst (v := 0) hx hb dX2_isSize_15 (by decide) ?_
    exact W.zret (v := 0) hx hb hr (by first | rfl | decide +kernel) (fun t9 ht hW => ⟨0, rfl, by first | exact bq_f (fun h => h.1 c_2) | exact bq_f (fun h => h.2 c_8) | exact bq_t ⟨c_2, c_8⟩, ht⟩) (fun q h => absurd h List.not_mem_nil) dX2_isSize_16
  · skip
    refine lv_iload_n hx hb dX2_isSize_5 rfl (lv_at hl 0 rfl) ?_
    refine lv_bipush (v := 8) hx hb dX2_isSize_6 (by decide) ?_
    refine lv_icmp_gt (tgt := 15) hx hb dX2_isSize_8 (by decide) (fun c_8 => ?_) (fun c_8 => ?_)
    · skip
      refine lv_iconst (v := 0) hx hb dX2_isSize_15 (by decide) ?_
      exact W.zret (v := 0) hx hb hr (by first | rfl | decide +kernel) (fun t9 ht hW => ⟨0, rfl, by first | exact bq_f (fun h => h.1 c_2) | exact bq_f (fun h => h.2 c_8) | exact bq_t ⟨c_2, c_8⟩, ht⟩) (fun q h => absurd h List.not_mem_nil) dX2_isSize_16
    · skip
      refine lv_iconst (v := 1) hx hb dX2_isSize_11 (by decide) ?_
      refine lv_goto (tgt := 16) hx hb dX2_isSize_12 (by decide) ?_
      exact W.zret (v := 1) hx hb hr (by first | rfl | decide +kernel) (fun t9 ht hW => ⟨1, rfl, by first | exact bq_f (fun h => h.1 c_2) | exact bq_f (fun h => h.2 c_8) | exact bq_t ⟨c_2, c_8⟩, ht⟩) (fun q h => absurd h List.not_mem_nil) dX2_isSize_16
set_option maxHeartbeats 4000000 in
set_option maxRecDepth 100000 in
/-- cut -/
theorem c_cut (l : Launch) (b : Int64) (n : Nat) (hn : n ≤ 8) : Met l yX2_cut wsX2_cut ({ frames := 0, cells := 0, slots := 0, locals := 0 }) (stP [.long b, .int (nI n)]) (vp_Sl (fun z => z = lowB b (nI n))) 0 0 (fun _ => False) := by
  refine Met.ofW (cc := cX2_cut) (maxL := 3) (ret := some .long) (by decide) rfl ?_
  intro p e s m args below meth c s₁ B hml hv
  obtain ⟨rfl, -⟩ := hv
  have hx := B.exec
  have hb := B.bytes
  have hr := B.returns
  have hts := atoms_spec (ws := wsX2_cut) B.pre
  have hown : s.vm.findClass RX2 = some m.cls := findClass_of_methodNamed B.named
  have hlocks := B.notSynchronized
  have hl := lv_entry ([.long b, .int (nI n)]) (n := 3) (Nat.le_of_ble_eq_true rfl)
  rw [lg_entry_eq]
  generalize (lg_sl ([.long b, .int (nI n)]) ++ List.replicate (3 - (lg_sl ([.long b, .int (nI n)])).length) Slot.unset).toArray = ls at hl ⊢
  replace hl : lv_has ls 3 [(0, .long b), (2, .int (nI n))] := hl
  refine lv_iload_n hx hb dX2_cut_0 rfl (lv_at hl 1 rfl) ?_
  refine lv_bipush (v := 8) hx hb dX2_cut_1 (by decide) ?_
  refine lv_icmp_ne (tgt := 10) hx hb dX2_cut_3 (by decide) (fun c_3 => ?_) (fun c_3 => ?_)
  · skip
    have hn8 : n < 8 := by
      rcases Nat.lt_or_ge n 8 with q | q
      · exact q
      · exact absurd (by rw [show n = 8 by omega]; rfl) c_3
    refine lv_lload_n hx hb dX2_cut_10 rfl (lv_at hl 0 rfl) ?_
    refine lv_lconst (v := 1) hx hb dX2_cut_11 (by decide) ?_
    refine lv_bipush (v := 8) hx hb dX2_cut_12 (by decide) ?_
    refine lv_iload_n hx hb dX2_cut_14 rfl (lv_at hl 1 rfl) ?_
    refine lv_imul hx hb dX2_cut_15 ?_
    refine lv_lshl hx hb dX2_cut_16 rfl ?_
    refine lv_lconst (v := 1) hx hb dX2_cut_17 (by decide) ?_
    refine lv_lsub hx hb dX2_cut_18 ?_
    refine lv_land hx hb dX2_cut_19 ?_
    exact W.lret (v := (b &&& (((1 : Int64) <<< ((8 * (nI n)).toInt64 &&& 63)) - 1))) hx hb hr (fun t9 ht hW => ⟨(b &&& (((1 : Int64) <<< ((8 * (nI n)).toInt64 &&& 63)) - 1)), rfl, by first | exact cut_val b hn8 | (rw [c_3]; exact (cut_8 b).symm), ht⟩) (fun q h => absurd h List.not_mem_nil) dX2_cut_20
  · skip
    refine lv_lload_n hx hb dX2_cut_6 rfl (lv_at hl 0 rfl) ?_
    refine lv_goto (tgt := 20) hx hb dX2_cut_7 (by decide) ?_
    exact W.lret (v := b) hx hb hr (fun t9 ht hW => ⟨b, rfl, by first | exact cut_val b hn8 | (rw [c_3]; exact (cut_8 b).symm), ht⟩) (fun q h => absurd h List.not_mem_nil) dX2_cut_20
set_option maxHeartbeats 4000000 in
set_option maxRecDepth 100000 in
/-- at -/
theorem c_at (l : Launch) (k : Int64) (n i : Nat) (hn : n ≤ 8) (hi : i < 8) : Met l yX2_at wsX2_at ({ frames := 0, cells := 0, slots := 0, locals := 0 }) (stP [.long k, .int (nI n), .int (nI i)]) (vp_Si (fun z => z = atI k n i)) 0 0 (fun _ => False) := by
  refine Met.ofW (cc := cX2_at) (maxL := 4) (ret := some .int) (by decide) rfl ?_
  intro p e s m args below meth c s₁ B hml hv
  obtain ⟨rfl, -⟩ := hv
  have hx := B.exec
  have hb := B.bytes
  have hr := B.returns
  have hts := atoms_spec (ws := wsX2_at) B.pre
  have hown : s.vm.findClass RX2 = some m.cls := findClass_of_methodNamed B.named
  have hlocks := B.notSynchronized
  have hl := lv_entry ([.long k, .int (nI n), .int (nI i)]) (n := 4) (Nat.le_of_ble_eq_true rfl)
  rw [lg_entry_eq]
  generalize (lg_sl ([.long k, .int (nI n), .int (nI i)]) ++ List.replicate (4 - (lg_sl ([.long k, .int (nI n), .int (nI i)])).length) Slot.unset).toArray = ls at hl ⊢
  replace hl : lv_has ls 4 [(0, .long k), (2, .int (nI n)), (3, .int (nI i))] := hl
  refine lv_iload_n hx hb dX2_at_0 rfl (lv_at hl 2 rfl) ?_
  refine lv_iload_n hx hb dX2_at_1 rfl (lv_at hl 1 rfl) ?_
  refine lv_icmp_ge (tgt := 23) hx hb dX2_at_2 (by decide) (fun c_2 => ?_) (fun c_2 => ?_)
  · skip
    have c_2 : ¬ i < n := fun q => nI_ge q (by omega) c_2
    refine lv_iconst (v := (-1)) hx hb dX2_at_23 (by decide) ?_
    exact W.iret (v := (-1)) hx hb hr (fun t9 ht hW => ⟨(-1), rfl, by first | exact at_val k hn c_2 | exact (if_neg c_2).symm, ht⟩) (fun q h => absurd h List.not_mem_nil) dX2_at_24
  · skip
    have c_2 : i < n := by
      rcases Nat.lt_or_ge i n with q | q
      · exact q
      · exact absurd (nI_le q (by omega)) c_2
    refine lv_lload_n hx hb dX2_at_5 rfl (lv_at hl 0 rfl) ?_
    refine lv_bipush (v := 8) hx hb dX2_at_6 (by decide) ?_
    refine lv_iload_n hx hb dX2_at_8 rfl (lv_at hl 1 rfl) ?_
    refine lv_iconst (v := 1) hx hb dX2_at_9 (by decide) ?_
    refine lv_isub hx hb dX2_at_10 ?_
    refine lv_iload_n hx hb dX2_at_11 rfl (lv_at hl 2 rfl) ?_
    refine lv_isub hx hb dX2_at_12 ?_
    refine lv_imul hx hb dX2_at_13 ?_
    refine lv_lshr hx hb dX2_at_14 rfl ?_
    refine lv_ldc2 (v := 255) hx hb hown (hts (.constantLong RX2 35 255) (by decide +kernel)) dX2_at_15 ?_
    refine lv_land hx hb dX2_at_18 ?_
    refine lv_l2i hx hb dX2_at_19 rfl ?_
    refine lv_goto (tgt := 24) hx hb dX2_at_20 (by decide) ?_
    exact W.iret (v := (((k >>> ((8 * (((nI n) - 1) - (nI i))).toInt64 &&& 63)) &&& 255).toInt32)) hx hb hr (fun t9 ht hW => ⟨((k >>> ((8 * (((nI n) - 1) - (nI i))).toInt64 &&& 63)) &&& 255).toInt32, rfl, by first | exact at_val k hn c_2 | exact (if_neg c_2).symm, ht⟩) (fun q h => absurd h List.not_mem_nil) dX2_at_24
set_option maxHeartbeats 4000000 in
set_option maxRecDepth 100000 in
/-- order: the first byte that differs decides -/
theorem c_order (l : Launch) (a : Int64) (n : Nat) (b : Int64) (k : Nat) (n1 : 1 ≤ n) (n8 : n ≤ 8) (k1 : 1 ≤ k) (k8 : k ≤ 8) : Met l yX2_order wsX2_order ({ frames := 1, cells := 0, slots := 0, locals := 23 }) (stP [.long a, .int (nI n), .long b, .int (nI k)]) (vp_Si (fun z => ordQ a (nI n) b (nI k) z)) 0 0 (fun _ => False) := by
  refine Met.ofW (cc := cX2_order) (maxL := 8) (ret := some .int) (by decide) rfl ?_
  intro p e s m args below meth c s₁ B hml hv
  obtain ⟨rfl, -⟩ := hv
  have hx := B.exec
  have hb := B.bytes
  have hr := B.returns
  have hts := atoms_spec (ws := wsX2_order) B.pre
  have hown : s.vm.findClass RX2 = some m.cls := findClass_of_methodNamed B.named
  have hlocks := B.notSynchronized
  have hl := lv_entry ([.long a, .int (nI n), .long b, .int (nI k)]) (n := 8) (Nat.le_of_ble_eq_true rfl)
  rw [lg_entry_eq]
  generalize (lg_sl ([.long a, .int (nI n), .long b, .int (nI k)]) ++ List.replicate (8 - (lg_sl ([.long a, .int (nI n), .long b, .int (nI k)])).length) Slot.unset).toArray = ls at hl ⊢
  replace hl : lv_has ls 8 [(0, .long a), (2, .int (nI n)), (3, .long b), (5, .int (nI k))] := hl
  refine lv_iconst (v := 0) hx hb dX2_order_0 (by decide) ?_
  refine lv_istore (lv' := [(6, .int 0), (0, .long a), (2, .int (nI n)), (3, .long b), (5, .int (nI k))]) hx hb dX2_order_1 hl (by decide) rfl (fun ls hl => ?_)
  obtain ⟨i, hi0⟩ : ∃ i : Nat, i = 0 := ⟨0, rfl⟩
  obtain ⟨g, hg⟩ : ∃ g : Nat, i + g = 8 := ⟨8, by omega⟩
  replace hl : lv_has ls 8 [(0, .long a), (2, .int (nI n)), (3, .long b), (5, .int (nI k)), (6, .int (nI i))] := by subst hi0; exact lv_sub hl [1, 2, 3, 4, 0] rfl
  have hq : ∀ q, q < i → atI a n q = atI b k q := fun q h => by omega
  clear hi0
  induction g generalizing i ls with
  | zero =>
    refine lv_iload hx hb dX2_order_3 (lv_at hl 4 rfl) ?_
    refine lv_bipush (v := 8) hx hb dX2_order_5 (by decide) ?_
    refine lv_icmp_ge (tgt := 42) hx hb dX2_order_7 (by decide) (fun c_7 => ?_) (fun c_7 => absurd (nI_le (show 8 ≤ i by omega) (by omega)) c_7)
    refine lv_iconst (v := 0) hx hb dX2_order_42 (by decide) ?_
    exact W.iret (v := 0) hx hb hr (fun t9 ht hW => ⟨0, rfl, ordQ_end n1 n8 k1 k8 (fun q h => hq q (by omega)), ht⟩) (fun q h => absurd h List.not_mem_nil) dX2_order_43
  | succ g ih =>
    refine lv_iload hx hb dX2_order_3 (lv_at hl 4 rfl) ?_
    refine lv_bipush (v := 8) hx hb dX2_order_5 (by decide) ?_
    refine lv_icmp_ge (tgt := 42) hx hb dX2_order_7 (by decide) (fun c_7 => absurd c_7 (nI_ge (show i < 8 by omega) (by decide))) (fun c_7 => ?_)
    refine lv_lload_n hx hb dX2_order_10 rfl (lv_at hl 0 rfl) ?_
    refine lv_iload_n hx hb dX2_order_11 rfl (lv_at hl 1 rfl) ?_
    refine lv_iload hx hb dX2_order_12 (lv_at hl 4 rfl) ?_
    refine vp_callSi (va_Run.run (va_runS (As := [.long a, .int (nI n), .int (nI i)]) (rest := []) ⟨hx, hb, hml, hown, hts⟩ (c_at l a n i n8 (by omega)) (va_cwS 3 hts gX2_order_X2_at rfl rfl rfl (by decide +kernel) ⟨Nat.le_of_ble_eq_true rfl, Nat.le_of_ble_eq_true rfl⟩) (st_pre) rfl rfl hl.1 rfl (lv_room (Nat.le_of_ble_eq_true rfl)) dX2_order_14 ⟨Nat.le_of_ble_eq_true rfl, Nat.le_of_ble_eq_true rfl⟩)) (fun r1 hr1 => ?_)
    subst hr1
    refine lv_lload_n hx hb dX2_order_17 rfl (lv_at hl 2 rfl) ?_
    refine lv_iload hx hb dX2_order_18 (lv_at hl 3 rfl) ?_
    refine lv_iload hx hb dX2_order_20 (lv_at hl 4 rfl) ?_
    refine vp_callSi (va_Run.run (va_runS (As := [.long b, .int (nI k), .int (nI i)]) (rest := [.int (atI a n i)]) ⟨hx, hb, hml, hown, hts⟩ (c_at l b k i k8 (by omega)) (va_cwS 3 hts gX2_order_X2_at rfl rfl rfl (by decide +kernel) ⟨Nat.le_of_ble_eq_true rfl, Nat.le_of_ble_eq_true rfl⟩) (st_pre) rfl rfl hl.1 rfl (lv_room (Nat.le_of_ble_eq_true rfl)) dX2_order_22 ⟨Nat.le_of_ble_eq_true rfl, Nat.le_of_ble_eq_true rfl⟩)) (fun r2 hr2 => ?_)
    subst hr2
    refine lv_isub hx hb dX2_order_25 ?_
    refine lv_istore (lv' := [(7, .int ((atI a n i) - (atI b k i))), (0, .long a), (2, .int (nI n)), (3, .long b), (5, .int (nI k)), (6, .int (nI i))]) hx hb dX2_order_26 hl (by decide) rfl (fun ls hl => ?_)
    refine lv_iload hx hb dX2_order_28 (lv_at hl 0 rfl) ?_
    refine lv_if_eq (tgt := 36) hx hb dX2_order_30 (by decide) (fun c_30 => ?_) (fun c_30 => ?_)
    · skip
      have c_30 : atI a n i = atI b k i := by
        apply Int32.toInt_inj.mp
        have h1 := congrArg Int32.toInt c_30
        rw [at_sub, show (0 : Int32).toInt = 0 by decide] at h1
        rw [atI_toInt, atI_toInt]
        omega
      refine lv_iinc (v := nI (i + 1)) (lv' := [(6, .int (nI (i + 1))), (7, .int ((atI a n i) - (atI b k i))), (0, .long a), (2, .int (nI n)), (3, .long b), (5, .int (nI k))]) hx hb dX2_order_36 hl (k := 5) rfl (nI_1 i) (by decide) rfl (fun ls hl => ?_)
      refine lv_goto (tgt := 3) hx hb dX2_order_39 (by decide) ?_
      have hq2 : ∀ q, q < i + 1 → atI a n q = atI b k q := fun q h => by
        rcases Nat.lt_or_ge q i with h2 | h2
        · exact hq q h2
        · rw [show q = i by omega]; exact c_30
      apply ih (ls := ls) (i := i + 1)
      all_goals first | omega | exact lv_sub hl [2, 3, 4, 5, 0] rfl | exact hq2
    · skip
      refine lv_iload hx hb dX2_order_33 (lv_at hl 0 rfl) ?_
      exact W.iret (v := atI a n i - atI b k i) hx hb hr (fun t9 ht hW => ⟨_, rfl, ordQ_ne n1 n8 k1 k8 (by omega) hq c_30, ht⟩) (fun q h => absurd h List.not_mem_nil) dX2_order_35
end
section
set_option maxHeartbeats 4000000 in
set_option maxRecDepth 100000 in
/-- place: the first row that is not before -/
theorem c_place (l : Launch) (dC : Nat → ClassId) (dI : Nat → Nat → Nat) (cL cI : ClassId) (y p1 p2 p3 p4 p5 p6 p7 p8 : Nat) (mv mk : RS) (f : Int64 × Int32) (hm : mok mv) (q : Int64) (nq : Nat) (nq1 : 1 ≤ nq) (nq8 : nq ≤ 8) (j : Nat) (hj : mpl mv (hdOf q (nI nq)) (nI nq) j) : Met l yX2_place wsX2_place ({ frames := 2, cells := 0, slots := 0, locals := 50 }) (rdP (dC, dI) (kS cL cI) (mW cL cI y p1 p2 p3 p4 p5 p6 p7 p8 mv mk f) [.ref y, .long q, .int (nI nq)]) (vp_Si (fun z => z = nI j)) 0 0 (fun _ => False) := by
  refine Met.ofW (cc := cX2_place) (maxL := 5) (ret := some .int) (by decide) rfl ?_
  intro p e s m args below meth c s₁ B hml hv
  obtain ⟨rfl, hP, hK⟩ := hv
  have hx := B.exec
  have hb := B.bytes
  have hr := B.returns
  have hts := atoms_spec (ws := wsX2_place) B.pre
  have hown : s.vm.findClass RX2 = some m.cls := findClass_of_methodNamed B.named
  have hlocks := B.notSynchronized
  replace hP : va_P (dC, dI) vwCl [(y, .inr (2, [.int (nI mv.1), .int (nI mk.1), .ref p1, .ref p2, .ref p3, .ref p4, .ref p5, .ref p6, .ref p7, .ref p8, .long f.1, .int f.2])), (p1, .inl (cL, 151, .inr (.inl mv.2.1))), (p2, .inl (cL, 151, .inr (.inl mv.2.2.2.1))), (p3, .inl (cL, 150, .inr (.inl mk.2.1))), (p4, .inl (cL, 150, .inr (.inl mk.2.2.2.1))), (p5, .inl (cI, 151, .inl mv.2.2.1)), (p6, .inl (cI, 151, .inl mv.2.2.2.2)), (p7, .inl (cI, 150, .inl mk.2.2.1)), (p8, .inl (cI, 150, .inl mk.2.2.2.2))] s.heap := hP
  obtain ⟨hj1, hj2, hj3⟩ := hj
  obtain ⟨hm1, hm2⟩ := hm
  have hl := lv_entry ([.ref y, .long q, .int (nI nq)]) (n := 5) (Nat.le_of_ble_eq_true rfl)
  rw [lg_entry_eq]
  generalize (lg_sl ([.ref y, .long q, .int (nI nq)]) ++ List.replicate (5 - (lg_sl ([.ref y, .long q, .int (nI nq)])).length) Slot.unset).toArray = ls at hl ⊢
  replace hl : lv_has ls 5 [(0, .ref y), (1, .long q), (3, .int (nI nq))] := hl
  refine lv_iconst (v := 0) hx hb dX2_place_0 (by decide) ?_
  refine lv_istore (lv' := [(4, .int 0), (0, .ref y), (1, .long q), (3, .int (nI nq))]) hx hb dX2_place_1 hl (by decide) rfl (fun ls hl => ?_)
  obtain ⟨i, hi0⟩ : ∃ i : Nat, i = 0 := ⟨0, rfl⟩
  obtain ⟨g, hg⟩ : ∃ g : Nat, i + g = j := ⟨j, by omega⟩
  replace hl : lv_has ls 5 [(0, .ref y), (1, .long q), (3, .int (nI nq)), (4, .int (nI i))] := by subst hi0; exact lv_sub hl [1, 2, 3, 0] rfl
  clear hi0
  induction g generalizing i ls with
  | zero =>
    refine lv_iload hx hb dX2_place_3 (lv_at hl 3 rfl) ?_
    refine lv_aload_n hx hb dX2_place_5 rfl (lv_at hl 0 rfl) ?_
    refine va_get (D := (dC, dI)) (ci := 2) (v := .int (nI mv.1)) (C := RX2) (T := TX2) (N := 12) hx hb hts i_X2_place_X2 hown hK hP 0 rfl rfl 0 (by decide) (hts (.fieldLink RX2 41 "BlockTreeModel" "many" "I") (by decide +kernel)) (fun _ h9 => h9) rfl dX2_place_6 ?_
    refine lv_icmp_ge (tgt := 40) hx hb dX2_place_9 (by decide) (fun c_9 => ?_) (fun c_9 => ?_)
    · skip
      refine lv_iload hx hb dX2_place_40 (lv_at hl 3 rfl) ?_
      exact W.iret (v := nI i) hx hb hr (fun t9 ht hW => ⟨nI i, rfl, by rw [show i = j by omega], ht⟩) (fun q h => absurd h List.not_mem_nil) dX2_place_42
    · skip
      have c_9 : i < mv.1 := by
        rcases Nat.lt_or_ge i mv.1 with q2 | q2
        · exact q2
        · exact absurd (nI_le q2 (by omega)) c_9
      refine lv_aload_n hx hb dX2_place_12 rfl (lv_at hl 0 rfl) ?_
      refine va_get (D := (dC, dI)) (ci := 2) (v := .ref p1) (C := RX2) (T := TX2) (N := 12) hx hb hts i_X2_place_X2 hown hK hP 0 rfl rfl 2 (by decide) (hts (.fieldLink RX2 7 "BlockTreeModel" "key" "[J") (by decide +kernel)) (fun _ h9 => h9) rfl dX2_place_13 ?_
      refine lv_iload hx hb dX2_place_16 (lv_at hl 3 rfl) ?_
      refine va_lald hx hb hK hP 1 0 rfl rfl (vp_in_nI (by omega) (by omega)) dX2_place_18 ?_
      refine lv_topl (fun z_1 ez_1 => ?_)
      rw [show ((nI i)).toNatClampNeg = i from (nI_clamp (by omega))] at ez_1
      subst ez_1
      refine lv_aload_n hx hb dX2_place_19 rfl (lv_at hl 0 rfl) ?_
      refine va_get (D := (dC, dI)) (ci := 2) (v := .ref p5) (C := RX2) (T := TX2) (N := 12) hx hb hts i_X2_place_X2 hown hK hP 0 rfl rfl 6 (by decide) (hts (.fieldLink RX2 22 "BlockTreeModel" "size" "[I") (by decide +kernel)) (fun _ h9 => h9) rfl dX2_place_20 ?_
      refine lv_iload hx hb dX2_place_23 (lv_at hl 3 rfl) ?_
      refine va_iald hx hb hK hP 5 1 rfl rfl (vp_in_nI (by omega) (by omega)) dX2_place_25 ?_
      refine lv_topi (fun z_2 ez_2 => ?_)
      rw [show ((nI i)).toNatClampNeg = i from (nI_clamp (by omega))] at ez_2
      subst ez_2
      refine lv_lload_n hx hb dX2_place_26 rfl (lv_at hl 1 rfl) ?_
      refine lv_iload_n hx hb dX2_place_27 rfl (lv_at hl 2 rfl) ?_
      obtain ⟨ns, ns1, ns8, es⟩ := okK_nat (hm2 i (by omega))
      rw [es]
      have hes : mv.2.2.1 i = nI ns := es
      refine vp_callSi (va_Run.run (va_runS (As := [.long (mv.2.1 i), .int (nI ns), .long q, .int (nI nq)]) (rest := []) ⟨hx, hb, hml, hown, hts⟩ (c_order l (mv.2.1 i) ns q nq ns1 ns8 nq1 nq8) (va_cwS 4 hts gX2_place_X2_order rfl rfl rfl (by decide +kernel) ⟨Nat.le_of_ble_eq_true rfl, Nat.le_of_ble_eq_true rfl⟩) (st_pre) rfl rfl hl.1 rfl (lv_room (Nat.le_of_ble_eq_true rfl)) dX2_place_28 ⟨Nat.le_of_ble_eq_true rfl, Nat.le_of_ble_eq_true rfl⟩)) (fun ro hro => ?_)
      rw [← es] at hro
      refine lv_if_ge (tgt := 40) hx hb dX2_place_31 (by decide) (fun c_31 => ?_) (fun c_31 => absurd (Int32.not_le.mp c_31) (fun q2 => hj3 (by omega) (by rw [← (show i = j by omega)]; exact hro.1.mp q2)))
      refine lv_iload hx hb dX2_place_40 (lv_at hl 3 rfl) ?_
      exact W.iret (v := nI i) hx hb hr (fun t9 ht hW => ⟨nI i, rfl, by rw [show i = j by omega], ht⟩) (fun q h => absurd h List.not_mem_nil) dX2_place_42
  | succ g ih =>
    refine lv_iload hx hb dX2_place_3 (lv_at hl 3 rfl) ?_
    refine lv_aload_n hx hb dX2_place_5 rfl (lv_at hl 0 rfl) ?_
    refine va_get (D := (dC, dI)) (ci := 2) (v := .int (nI mv.1)) (C := RX2) (T := TX2) (N := 12) hx hb hts i_X2_place_X2 hown hK hP 0 rfl rfl 0 (by decide) (hts (.fieldLink RX2 41 "BlockTreeModel" "many" "I") (by decide +kernel)) (fun _ h9 => h9) rfl dX2_place_6 ?_
    refine lv_icmp_ge (tgt := 40) hx hb dX2_place_9 (by decide) (fun c_9 => absurd c_9 (nI_ge (by omega) (by omega))) (fun c_9 => ?_)
    refine lv_aload_n hx hb dX2_place_12 rfl (lv_at hl 0 rfl) ?_
    refine va_get (D := (dC, dI)) (ci := 2) (v := .ref p1) (C := RX2) (T := TX2) (N := 12) hx hb hts i_X2_place_X2 hown hK hP 0 rfl rfl 2 (by decide) (hts (.fieldLink RX2 7 "BlockTreeModel" "key" "[J") (by decide +kernel)) (fun _ h9 => h9) rfl dX2_place_13 ?_
    refine lv_iload hx hb dX2_place_16 (lv_at hl 3 rfl) ?_
    refine va_lald hx hb hK hP 1 0 rfl rfl (vp_in_nI (by omega) (by omega)) dX2_place_18 ?_
    refine lv_topl (fun z_1 ez_1 => ?_)
    rw [show ((nI i)).toNatClampNeg = i from (nI_clamp (by omega))] at ez_1
    subst ez_1
    refine lv_aload_n hx hb dX2_place_19 rfl (lv_at hl 0 rfl) ?_
    refine va_get (D := (dC, dI)) (ci := 2) (v := .ref p5) (C := RX2) (T := TX2) (N := 12) hx hb hts i_X2_place_X2 hown hK hP 0 rfl rfl 6 (by decide) (hts (.fieldLink RX2 22 "BlockTreeModel" "size" "[I") (by decide +kernel)) (fun _ h9 => h9) rfl dX2_place_20 ?_
    refine lv_iload hx hb dX2_place_23 (lv_at hl 3 rfl) ?_
    refine va_iald hx hb hK hP 5 1 rfl rfl (vp_in_nI (by omega) (by omega)) dX2_place_25 ?_
    refine lv_topi (fun z_2 ez_2 => ?_)
    rw [show ((nI i)).toNatClampNeg = i from (nI_clamp (by omega))] at ez_2
    subst ez_2
    refine lv_lload_n hx hb dX2_place_26 rfl (lv_at hl 1 rfl) ?_
    refine lv_iload_n hx hb dX2_place_27 rfl (lv_at hl 2 rfl) ?_
    obtain ⟨ns, ns1, ns8, es⟩ := okK_nat (hm2 i (by omega))
    rw [es]
    have hes : mv.2.2.1 i = nI ns := es
    refine vp_callSi (va_Run.run (va_runS (As := [.long (mv.2.1 i), .int (nI ns), .long q, .int (nI nq)]) (rest := []) ⟨hx, hb, hml, hown, hts⟩ (c_order l (mv.2.1 i) ns q nq ns1 ns8 nq1 nq8) (va_cwS 4 hts gX2_place_X2_order rfl rfl rfl (by decide +kernel) ⟨Nat.le_of_ble_eq_true rfl, Nat.le_of_ble_eq_true rfl⟩) (st_pre) rfl rfl hl.1 rfl (lv_room (Nat.le_of_ble_eq_true rfl)) dX2_place_28 ⟨Nat.le_of_ble_eq_true rfl, Nat.le_of_ble_eq_true rfl⟩)) (fun ro hro => ?_)
    rw [← es] at hro
    refine lv_if_ge (tgt := 40) hx hb dX2_place_31 (by decide) (fun c_31 => absurd (hro.1.mpr (hj2 i (by omega))) (Int32.not_lt.mpr c_31)) (fun c_31 => ?_)
    refine lv_iinc (v := nI (i + 1)) (lv' := [(4, .int (nI (i + 1))), (0, .ref y), (1, .long q), (3, .int (nI nq))]) hx hb dX2_place_34 hl (k := 3) rfl (nI_1 i) (by decide) rfl (fun ls hl => ?_)
    refine lv_goto (tgt := 3) hx hb dX2_place_37 (by decide) ?_
    apply ih (ls := ls) (i := i + 1)
    all_goals first | omega | exact lv_sub hl [1, 2, 3, 0] rfl
set_option maxHeartbeats 4000000 in
set_option maxRecDepth 100000 in
/-- isAt -/
theorem c_isAt (l : Launch) (dC : Nat → ClassId) (dI : Nat → Nat → Nat) (cL cI : ClassId) (y p1 p2 p3 p4 p5 p6 p7 p8 : Nat) (mv mk : RS) (f : Int64 × Int32) (hm : mok mv) (j : Nat) (hj : j ≤ mv.1) (q : Int64) (n : Int32) (hn : j < mv.1 → okK n) : Met l yX2_isAt wsX2_isAt ({ frames := 2, cells := 0, slots := 0, locals := 50 }) (rdP (dC, dI) (kS cL cI) (mW cL cI y p1 p2 p3 p4 p5 p6 p7 p8 mv mk f) [.ref y, .int (nI j), .long q, .int n]) (vp_Si (fun z => bq z (mhl mv j (hdOf q n) n))) 0 0 (fun _ => False) := by
  refine Met.ofW (cc := cX2_isAt) (maxL := 5) (ret := some .boolean) (by decide) rfl ?_
  intro p e s m args below meth c s₁ B hml hv
  obtain ⟨rfl, hP, hK⟩ := hv
  have hx := B.exec
  have hb := B.bytes
  have hr := B.returns
  have hts := atoms_spec (ws := wsX2_isAt) B.pre
  have hown : s.vm.findClass RX2 = some m.cls := findClass_of_methodNamed B.named
  have hlocks := B.notSynchronized
  replace hP : va_P (dC, dI) vwCl [(y, .inr (2, [.int (nI mv.1), .int (nI mk.1), .ref p1, .ref p2, .ref p3, .ref p4, .ref p5, .ref p6, .ref p7, .ref p8, .long f.1, .int f.2])), (p1, .inl (cL, 151, .inr (.inl mv.2.1))), (p2, .inl (cL, 151, .inr (.inl mv.2.2.2.1))), (p3, .inl (cL, 150, .inr (.inl mk.2.1))), (p4, .inl (cL, 150, .inr (.inl mk.2.2.2.1))), (p5, .inl (cI, 151, .inl mv.2.2.1)), (p6, .inl (cI, 151, .inl mv.2.2.2.2)), (p7, .inl (cI, 150, .inl mk.2.2.1)), (p8, .inl (cI, 150, .inl mk.2.2.2.2))] s.heap := hP
  have hl := lv_entry ([.ref y, .int (nI j), .long q, .int n]) (n := 5) (Nat.le_of_ble_eq_true rfl)
  rw [lg_entry_eq]
  generalize (lg_sl ([.ref y, .int (nI j), .long q, .int n]) ++ List.replicate (5 - (lg_sl ([.ref y, .int (nI j), .long q, .int n])).length) Slot.unset).toArray = ls at hl ⊢
  replace hl : lv_has ls 5 [(0, .ref y), (1, .int (nI j)), (2, .long q), (4, .int n)] := hl
  obtain ⟨hm1, hm2⟩ := hm
  refine lv_iload_n hx hb dX2_isAt_0 rfl (lv_at hl 1 rfl) ?_
  refine lv_aload_n hx hb dX2_isAt_1 rfl (lv_at hl 0 rfl) ?_
  refine va_get (D := (dC, dI)) (ci := 2) (v := .int (nI mv.1)) (C := RX2) (T := TX2) (N := 12) hx hb hts i_X2_isAt_X2 hown hK hP 0 rfl rfl 0 (by decide) (hts (.fieldLink RX2 41 "BlockTreeModel" "many" "I") (by decide +kernel)) (fun _ h9 => h9) rfl dX2_isAt_2 ?_
  refine lv_icmp_ge (tgt := 33) hx hb dX2_isAt_5 (by decide) (fun c_5 => ?_) (fun c_5 => ?_)
  · skip
    have c_5 : ¬ j < mv.1 := fun q2 => nI_ge q2 (by omega) c_5
    refine lv_iconst (v := 0) hx hb dX2_isAt_33 (by decide) ?_
    exact W.zret (v := 0) hx hb hr (by first | rfl | decide +kernel) (fun t9 ht hW => ⟨0, rfl, by first | exact bq_t ⟨c_5, c_26.1, c_26.2⟩ | exact bq_f (fun g => c_5 g.1) | exact bq_f (fun g => c_26 ⟨g.2.1, g.2.2⟩), ht⟩) (fun q h => absurd h List.not_mem_nil) dX2_isAt_34
  · skip
    have c_5 : j < mv.1 := by
      rcases Nat.lt_or_ge j mv.1 with q2 | q2
      · exact q2
      · exact absurd (nI_le q2 (by omega)) c_5
    refine lv_aload_n hx hb dX2_isAt_8 rfl (lv_at hl 0 rfl) ?_
    refine va_get (D := (dC, dI)) (ci := 2) (v := .ref p1) (C := RX2) (T := TX2) (N := 12) hx hb hts i_X2_isAt_X2 hown hK hP 0 rfl rfl 2 (by decide) (hts (.fieldLink RX2 7 "BlockTreeModel" "key" "[J") (by decide +kernel)) (fun _ h9 => h9) rfl dX2_isAt_9 ?_
    refine lv_iload_n hx hb dX2_isAt_12 rfl (lv_at hl 1 rfl) ?_
    refine va_lald hx hb hK hP 1 0 rfl rfl (vp_in_nI (by omega) (by omega)) dX2_isAt_13 ?_
    refine lv_topl (fun z_1 ez_1 => ?_)
    rw [show ((nI j)).toNatClampNeg = j from (nI_clamp (by omega))] at ez_1
    subst ez_1
    refine lv_aload_n hx hb dX2_isAt_14 rfl (lv_at hl 0 rfl) ?_
    refine va_get (D := (dC, dI)) (ci := 2) (v := .ref p5) (C := RX2) (T := TX2) (N := 12) hx hb hts i_X2_isAt_X2 hown hK hP 0 rfl rfl 6 (by decide) (hts (.fieldLink RX2 22 "BlockTreeModel" "size" "[I") (by decide +kernel)) (fun _ h9 => h9) rfl dX2_isAt_15 ?_
    refine lv_iload_n hx hb dX2_isAt_18 rfl (lv_at hl 1 rfl) ?_
    refine va_iald hx hb hK hP 5 1 rfl rfl (vp_in_nI (by omega) (by omega)) dX2_isAt_19 ?_
    refine lv_topi (fun z_2 ez_2 => ?_)
    rw [show ((nI j)).toNatClampNeg = j from (nI_clamp (by omega))] at ez_2
    subst ez_2
    refine lv_lload_n hx hb dX2_isAt_20 rfl (lv_at hl 2 rfl) ?_
    refine lv_iload hx hb dX2_isAt_21 (lv_at hl 3 rfl) ?_
    obtain ⟨ns, ns1, ns8, es⟩ := okK_nat (hm2 j c_5)
    obtain ⟨nq, nq1, nq8, rfl⟩ := okK_nat (hn c_5)
    rw [es]
    refine vp_callSi (va_Run.run (va_runS (As := [.long (mv.2.1 j), .int (nI ns), .long q, .int (nI nq)]) (rest := []) ⟨hx, hb, hml, hown, hts⟩ (c_order l (mv.2.1 j) ns q nq ns1 ns8 nq1 nq8) (va_cwS 4 hts gX2_isAt_X2_order rfl rfl rfl (by decide +kernel) ⟨Nat.le_of_ble_eq_true rfl, Nat.le_of_ble_eq_true rfl⟩) (st_pre) rfl rfl hl.1 rfl (lv_room (Nat.le_of_ble_eq_true rfl)) dX2_isAt_23 ⟨Nat.le_of_ble_eq_true rfl, Nat.le_of_ble_eq_true rfl⟩)) (fun ro hro => ?_)
    rw [← es] at hro
    refine lv_if_ne (tgt := 33) hx hb dX2_isAt_26 (by decide) (fun c_26 => ?_) (fun c_26 => ?_)
    · skip
      have c_26 := fun q2 => c_26 (hro.2.mpr q2)
      refine lv_iconst (v := 0) hx hb dX2_isAt_33 (by decide) ?_
      exact W.zret (v := 0) hx hb hr (by first | rfl | decide +kernel) (fun t9 ht hW => ⟨0, rfl, by first | exact bq_t ⟨c_5, c_26.1, c_26.2⟩ | exact bq_f (fun g => c_5 g.1) | exact bq_f (fun g => c_26 ⟨g.2.1, g.2.2⟩), ht⟩) (fun q h => absurd h List.not_mem_nil) dX2_isAt_34
    · skip
      have c_26 := hro.2.mp c_26
      refine lv_iconst (v := 1) hx hb dX2_isAt_29 (by decide) ?_
      refine lv_goto (tgt := 34) hx hb dX2_isAt_30 (by decide) ?_
      exact W.zret (v := 1) hx hb hr (by first | rfl | decide +kernel) (fun t9 ht hW => ⟨1, rfl, by first | exact bq_t ⟨c_5, c_26.1, c_26.2⟩ | exact bq_f (fun g => c_5 g.1) | exact bq_f (fun g => c_26 ⟨g.2.1, g.2.2⟩), ht⟩) (fun q h => absurd h List.not_mem_nil) dX2_isAt_34
set_option maxHeartbeats 4000000 in
set_option maxRecDepth 100000 in
/-- length -/
theorem m_length (l : Launch) (dC : Nat → ClassId) (dI : Nat → Nat → Nat) (cL cI : ClassId) (y p1 p2 p3 p4 p5 p6 p7 p8 : Nat) (mv mk : RS) (f : Int64 × Int32) (hm : mok mv) (q : Int64) (t : Int32) (j : Nat) (hj : okK t → mpl mv (hdOf q t) t j) : Met l yX2_length wsX2_length ({ frames := 3, cells := 0, slots := 0, locals := 74 }) (rdP (dC, dI) (kS cL cI) (mW cL cI y p1 p2 p3 p4 p5 p6 p7 p8 mv mk f) [.ref y, .long q, .int t]) (vp_Si (fun z => (okK t ∧ mhl mv j (hdOf q t) t ∧ z = mv.2.2.2.2 j) ∨ (¬ (okK t ∧ mhl mv j (hdOf q t) t) ∧ z = -1))) 0 0 (fun _ => False) := by
  refine Met.ofW (cc := cX2_length) (maxL := 5) (ret := some .int) (by decide) rfl ?_
  intro p e s m args below meth c s₁ B hml hv
  obtain ⟨rfl, hP, hK⟩ := hv
  have hx := B.exec
  have hb := B.bytes
  have hr := B.returns
  have hts := atoms_spec (ws := wsX2_length) B.pre
  have hown : s.vm.findClass RX2 = some m.cls := findClass_of_methodNamed B.named
  have hlocks := B.notSynchronized
  replace hP : va_P (dC, dI) vwCl [(y, .inr (2, [.int (nI mv.1), .int (nI mk.1), .ref p1, .ref p2, .ref p3, .ref p4, .ref p5, .ref p6, .ref p7, .ref p8, .long f.1, .int f.2])), (p1, .inl (cL, 151, .inr (.inl mv.2.1))), (p2, .inl (cL, 151, .inr (.inl mv.2.2.2.1))), (p3, .inl (cL, 150, .inr (.inl mk.2.1))), (p4, .inl (cL, 150, .inr (.inl mk.2.2.2.1))), (p5, .inl (cI, 151, .inl mv.2.2.1)), (p6, .inl (cI, 151, .inl mv.2.2.2.2)), (p7, .inl (cI, 150, .inl mk.2.2.1)), (p8, .inl (cI, 150, .inl mk.2.2.2.2))] s.heap := hP
  have hl := lv_entry ([.ref y, .long q, .int t]) (n := 5) (Nat.le_of_ble_eq_true rfl)
  rw [lg_entry_eq]
  generalize (lg_sl ([.ref y, .long q, .int t]) ++ List.replicate (5 - (lg_sl ([.ref y, .long q, .int t])).length) Slot.unset).toArray = ls at hl ⊢
  replace hl : lv_has ls 5 [(0, .ref y), (1, .long q), (3, .int t)] := hl
  refine lv_iload_n hx hb dX2_length_0 rfl (lv_at hl 2 rfl) ?_
  refine vp_callSi (va_Run.run (va_runS (As := [.int t]) (rest := []) ⟨hx, hb, hml, hown, hts⟩ (c_isSize l t) (va_cwS 1 hts gX2_length_X2_isSize rfl rfl rfl (by decide +kernel) ⟨Nat.le_of_ble_eq_true rfl, Nat.le_of_ble_eq_true rfl⟩) (st_pre) rfl rfl hl.1 rfl (lv_room (Nat.le_of_ble_eq_true rfl)) dX2_length_1 ⟨Nat.le_of_ble_eq_true rfl, Nat.le_of_ble_eq_true rfl⟩)) (fun r1 hr1 => ?_)
  rcases hr1 with ⟨rfl, hok⟩ | ⟨rfl, hok⟩
  · skip
    obtain ⟨nq, nq1, nq8, rfl⟩ := okK_nat hok
    refine lv_if_eq (tgt := 16) hx hb dX2_length_4 (by decide) (fun c_4 => absurd c_4 (by decide)) (fun c_4 => ?_)
    refine lv_aload_n hx hb dX2_length_7 rfl (lv_at hl 0 rfl) ?_
    refine lv_lload_n hx hb dX2_length_8 rfl (lv_at hl 1 rfl) ?_
    refine lv_iload_n hx hb dX2_length_9 rfl (lv_at hl 2 rfl) ?_
    refine vp_callSi (va_Run.run (va_runV (As := [.long q, .int (nI nq)]) (rest := []) ⟨hx, hb, hml, hown, hts⟩ (c_place l dC dI cL cI y p1 p2 p3 p4 p5 p6 p7 p8 mv mk f hm q nq nq1 nq8 j (hj hok)) (cwV 2 hts gX2_length_X2_place rfl rfl rfl (by decide +kernel) ⟨Nat.le_of_ble_eq_true rfl, Nat.le_of_ble_eq_true rfl⟩) (rd_preV hK (hP.sub (ws' := [(y, .inr (2, [.int (nI mv.1), .int (nI mk.1), .ref p1, .ref p2, .ref p3, .ref p4, .ref p5, .ref p6, .ref p7, .ref p8, .long f.1, .int f.2])), (p1, .inl (cL, 151, .inr (.inl mv.2.1))), (p2, .inl (cL, 151, .inr (.inl mv.2.2.2.1))), (p3, .inl (cL, 150, .inr (.inl mk.2.1))), (p4, .inl (cL, 150, .inr (.inl mk.2.2.2.1))), (p5, .inl (cI, 151, .inl mv.2.2.1)), (p6, .inl (cI, 151, .inl mv.2.2.2.2)), (p7, .inl (cI, 150, .inl mk.2.2.1)), (p8, .inl (cI, 150, .inl mk.2.2.2.2))]) [0, 1, 2, 3, 4, 5, 6, 7, 8] rfl) (ci := 2) (q0 := 0) rfl rfl) rfl rfl hl.1 rfl (lv_room (Nat.le_of_ble_eq_true rfl)) dX2_length_10 ⟨Nat.le_of_ble_eq_true rfl, Nat.le_of_ble_eq_true rfl⟩)) (fun r2 hr2 => ?_)
    subst hr2
    refine lv_goto (tgt := 20) hx hb dX2_length_13 (by decide) ?_
    refine lv_istore (lv' := [(4, .int (nI j)), (0, .ref y), (1, .long q), (3, .int (nI nq))]) hx hb dX2_length_20 hl (by decide) rfl (fun ls hl => ?_)
    refine lv_aload_n hx hb dX2_length_22 rfl (lv_at hl 1 rfl) ?_
    refine lv_iload hx hb dX2_length_23 (lv_at hl 0 rfl) ?_
    refine lv_lload_n hx hb dX2_length_25 rfl (lv_at hl 2 rfl) ?_
    refine lv_iload_n hx hb dX2_length_26 rfl (lv_at hl 3 rfl) ?_
    refine vp_callSi (va_Run.run (va_runV (As := [.int (nI j), .long q, .int (nI nq)]) (rest := []) ⟨hx, hb, hml, hown, hts⟩ (c_isAt l dC dI cL cI y p1 p2 p3 p4 p5 p6 p7 p8 mv mk f hm j (hj hok).1 q (nI nq) (fun _ => hok)) (cwV 3 hts gX2_length_X2_isAt rfl rfl rfl (by decide +kernel) ⟨Nat.le_of_ble_eq_true rfl, Nat.le_of_ble_eq_true rfl⟩) (rd_preV hK (hP.sub (ws' := [(y, .inr (2, [.int (nI mv.1), .int (nI mk.1), .ref p1, .ref p2, .ref p3, .ref p4, .ref p5, .ref p6, .ref p7, .ref p8, .long f.1, .int f.2])), (p1, .inl (cL, 151, .inr (.inl mv.2.1))), (p2, .inl (cL, 151, .inr (.inl mv.2.2.2.1))), (p3, .inl (cL, 150, .inr (.inl mk.2.1))), (p4, .inl (cL, 150, .inr (.inl mk.2.2.2.1))), (p5, .inl (cI, 151, .inl mv.2.2.1)), (p6, .inl (cI, 151, .inl mv.2.2.2.2)), (p7, .inl (cI, 150, .inl mk.2.2.1)), (p8, .inl (cI, 150, .inl mk.2.2.2.2))]) [0, 1, 2, 3, 4, 5, 6, 7, 8] rfl) (ci := 2) (q0 := 0) rfl rfl) rfl rfl hl.1 rfl (lv_room (Nat.le_of_ble_eq_true rfl)) dX2_length_27 ⟨Nat.le_of_ble_eq_true rfl, Nat.le_of_ble_eq_true rfl⟩)) (fun r3 hr3 => ?_)
    rcases hr3 with ⟨rfl, hh⟩ | ⟨rfl, hh⟩
    · skip
      have hju : j < mv.1 := hh.1
      have hm1 := hm.1
      refine lv_if_eq (tgt := 43) hx hb dX2_length_30 (by decide) (fun c_30 => absurd c_30 (by decide)) (fun c_30 => ?_)
      refine lv_aload_n hx hb dX2_length_33 rfl (lv_at hl 1 rfl) ?_
      refine va_get (D := (dC, dI)) (ci := 2) (v := .ref p6) (C := RX2) (T := TX2) (N := 12) hx hb hts i_X2_length_X2 hown hK hP 0 rfl rfl 7 (by decide) (hts (.fieldLink RX2 26 "BlockTreeModel" "length" "[I") (by decide +kernel)) (fun _ h9 => h9) rfl dX2_length_34 ?_
      refine lv_iload hx hb dX2_length_37 (lv_at hl 0 rfl) ?_
      refine va_iald hx hb hK hP 6 1 rfl rfl (vp_in_nI (by omega) (by omega)) dX2_length_39 ?_
      refine lv_topi (fun z_1 ez_1 => ?_)
      rw [show ((nI j)).toNatClampNeg = j from (nI_clamp (by omega))] at ez_1
      subst ez_1
      refine lv_goto (tgt := 44) hx hb dX2_length_40 (by decide) ?_
      exact W.iret (v := (mv.2.2.2.2 j)) hx hb hr (fun t9 ht hW => ⟨(mv.2.2.2.2 j), rfl, Or.inl ⟨hok, hh, rfl⟩, ht⟩) (fun q h => absurd h List.not_mem_nil) dX2_length_44
    · skip
      have hbad : ¬ (okK (nI nq) ∧ mhl mv j (hdOf q (nI nq)) (nI nq)) := fun g => hh g.2
      refine lv_if_eq (tgt := 43) hx hb dX2_length_30 (by decide) (fun c_30 => ?_) (fun c_30 => absurd c_30 (by decide))
      refine lv_iconst (v := (-1)) hx hb dX2_length_43 (by decide) ?_
      exact W.iret (v := (-1)) hx hb hr (fun t9 ht hW => ⟨(-1), rfl, Or.inr ⟨hbad, rfl⟩, ht⟩) (fun q h => absurd h List.not_mem_nil) dX2_length_44
  · skip
    refine lv_if_eq (tgt := 16) hx hb dX2_length_4 (by decide) (fun c_4 => ?_) (fun c_4 => absurd c_4 (by decide))
    refine lv_aload_n hx hb dX2_length_16 rfl (lv_at hl 0 rfl) ?_
    refine va_get (D := (dC, dI)) (ci := 2) (v := .int (nI mv.1)) (C := RX2) (T := TX2) (N := 12) hx hb hts i_X2_length_X2 hown hK hP 0 rfl rfl 0 (by decide) (hts (.fieldLink RX2 41 "BlockTreeModel" "many" "I") (by decide +kernel)) (fun _ h9 => h9) rfl dX2_length_17 ?_
    refine lv_istore (lv' := [(4, .int (nI mv.1)), (0, .ref y), (1, .long q), (3, .int t)]) hx hb dX2_length_20 hl (by decide) rfl (fun ls hl => ?_)
    refine lv_aload_n hx hb dX2_length_22 rfl (lv_at hl 1 rfl) ?_
    refine lv_iload hx hb dX2_length_23 (lv_at hl 0 rfl) ?_
    refine lv_lload_n hx hb dX2_length_25 rfl (lv_at hl 2 rfl) ?_
    refine lv_iload_n hx hb dX2_length_26 rfl (lv_at hl 3 rfl) ?_
    refine vp_callSi (va_Run.run (va_runV (As := [.int (nI mv.1), .long q, .int t]) (rest := []) ⟨hx, hb, hml, hown, hts⟩ (c_isAt l dC dI cL cI y p1 p2 p3 p4 p5 p6 p7 p8 mv mk f hm mv.1 (Nat.le_refl _) q t (fun g => absurd g (Nat.lt_irrefl _))) (cwV 3 hts gX2_length_X2_isAt rfl rfl rfl (by decide +kernel) ⟨Nat.le_of_ble_eq_true rfl, Nat.le_of_ble_eq_true rfl⟩) (rd_preV hK (hP.sub (ws' := [(y, .inr (2, [.int (nI mv.1), .int (nI mk.1), .ref p1, .ref p2, .ref p3, .ref p4, .ref p5, .ref p6, .ref p7, .ref p8, .long f.1, .int f.2])), (p1, .inl (cL, 151, .inr (.inl mv.2.1))), (p2, .inl (cL, 151, .inr (.inl mv.2.2.2.1))), (p3, .inl (cL, 150, .inr (.inl mk.2.1))), (p4, .inl (cL, 150, .inr (.inl mk.2.2.2.1))), (p5, .inl (cI, 151, .inl mv.2.2.1)), (p6, .inl (cI, 151, .inl mv.2.2.2.2)), (p7, .inl (cI, 150, .inl mk.2.2.1)), (p8, .inl (cI, 150, .inl mk.2.2.2.2))]) [0, 1, 2, 3, 4, 5, 6, 7, 8] rfl) (ci := 2) (q0 := 0) rfl rfl) rfl rfl hl.1 rfl (lv_room (Nat.le_of_ble_eq_true rfl)) dX2_length_27 ⟨Nat.le_of_ble_eq_true rfl, Nat.le_of_ble_eq_true rfl⟩)) (fun r3 hr3 => ?_)
    rcases hr3 with ⟨rfl, hh⟩ | ⟨rfl, hh⟩
    · skip
      exact absurd hh.1 (Nat.lt_irrefl _)
    · skip
      have hbad : ¬ (okK t ∧ mhl mv j (hdOf q t) t) := fun g => hok g.1
      refine lv_if_eq (tgt := 43) hx hb dX2_length_30 (by decide) (fun c_30 => ?_) (fun c_30 => absurd c_30 (by decide))
      refine lv_iconst (v := (-1)) hx hb dX2_length_43 (by decide) ?_
      exact W.iret (v := (-1)) hx hb hr (fun t9 ht hW => ⟨(-1), rfl, Or.inr ⟨hbad, rfl⟩, ht⟩) (fun q h => absurd h List.not_mem_nil) dX2_length_44
set_option maxHeartbeats 4000000 in
set_option maxRecDepth 100000 in
/-- text -/
theorem m_text (l : Launch) (dC : Nat → ClassId) (dI : Nat → Nat → Nat) (cL cI : ClassId) (y p1 p2 p3 p4 p5 p6 p7 p8 : Nat) (mv mk : RS) (f : Int64 × Int32) (hm : mok mv) (q : Int64) (t : Int32) (j : Nat) (hj : okK t → mpl mv (hdOf q t) t j) : Met l yX2_text wsX2_text ({ frames := 3, cells := 0, slots := 0, locals := 74 }) (rdP (dC, dI) (kS cL cI) (mW cL cI y p1 p2 p3 p4 p5 p6 p7 p8 mv mk f) [.ref y, .long q, .int t]) (vp_Sl (fun z => (okK t ∧ mhl mv j (hdOf q t) t ∧ z = mv.2.2.2.1 j) ∨ (¬ (okK t ∧ mhl mv j (hdOf q t) t) ∧ z = 0))) 0 0 (fun _ => False) := by
  refine Met.ofW (cc := cX2_text) (maxL := 5) (ret := some .long) (by decide) rfl ?_
  intro p e s m args below meth c s₁ B hml hv
  obtain ⟨rfl, hP, hK⟩ := hv
  have hx := B.exec
  have hb := B.bytes
  have hr := B.returns
  have hts := atoms_spec (ws := wsX2_text) B.pre
  have hown : s.vm.findClass RX2 = some m.cls := findClass_of_methodNamed B.named
  have hlocks := B.notSynchronized
  replace hP : va_P (dC, dI) vwCl [(y, .inr (2, [.int (nI mv.1), .int (nI mk.1), .ref p1, .ref p2, .ref p3, .ref p4, .ref p5, .ref p6, .ref p7, .ref p8, .long f.1, .int f.2])), (p1, .inl (cL, 151, .inr (.inl mv.2.1))), (p2, .inl (cL, 151, .inr (.inl mv.2.2.2.1))), (p3, .inl (cL, 150, .inr (.inl mk.2.1))), (p4, .inl (cL, 150, .inr (.inl mk.2.2.2.1))), (p5, .inl (cI, 151, .inl mv.2.2.1)), (p6, .inl (cI, 151, .inl mv.2.2.2.2)), (p7, .inl (cI, 150, .inl mk.2.2.1)), (p8, .inl (cI, 150, .inl mk.2.2.2.2))] s.heap := hP
  have hl := lv_entry ([.ref y, .long q, .int t]) (n := 5) (Nat.le_of_ble_eq_true rfl)
  rw [lg_entry_eq]
  generalize (lg_sl ([.ref y, .long q, .int t]) ++ List.replicate (5 - (lg_sl ([.ref y, .long q, .int t])).length) Slot.unset).toArray = ls at hl ⊢
  replace hl : lv_has ls 5 [(0, .ref y), (1, .long q), (3, .int t)] := hl
  refine lv_iload_n hx hb dX2_text_0 rfl (lv_at hl 2 rfl) ?_
  refine vp_callSi (va_Run.run (va_runS (As := [.int t]) (rest := []) ⟨hx, hb, hml, hown, hts⟩ (c_isSize l t) (va_cwS 1 hts gX2_text_X2_isSize rfl rfl rfl (by decide +kernel) ⟨Nat.le_of_ble_eq_true rfl, Nat.le_of_ble_eq_true rfl⟩) (st_pre) rfl rfl hl.1 rfl (lv_room (Nat.le_of_ble_eq_true rfl)) dX2_text_1 ⟨Nat.le_of_ble_eq_true rfl, Nat.le_of_ble_eq_true rfl⟩)) (fun r1 hr1 => ?_)
  rcases hr1 with ⟨rfl, hok⟩ | ⟨rfl, hok⟩
  · skip
    obtain ⟨nq, nq1, nq8, rfl⟩ := okK_nat hok
    refine lv_if_eq (tgt := 16) hx hb dX2_text_4 (by decide) (fun c_4 => absurd c_4 (by decide)) (fun c_4 => ?_)
    refine lv_aload_n hx hb dX2_text_7 rfl (lv_at hl 0 rfl) ?_
    refine lv_lload_n hx hb dX2_text_8 rfl (lv_at hl 1 rfl) ?_
    refine lv_iload_n hx hb dX2_text_9 rfl (lv_at hl 2 rfl) ?_
    refine vp_callSi (va_Run.run (va_runV (As := [.long q, .int (nI nq)]) (rest := []) ⟨hx, hb, hml, hown, hts⟩ (c_place l dC dI cL cI y p1 p2 p3 p4 p5 p6 p7 p8 mv mk f hm q nq nq1 nq8 j (hj hok)) (cwV 2 hts gX2_text_X2_place rfl rfl rfl (by decide +kernel) ⟨Nat.le_of_ble_eq_true rfl, Nat.le_of_ble_eq_true rfl⟩) (rd_preV hK (hP.sub (ws' := [(y, .inr (2, [.int (nI mv.1), .int (nI mk.1), .ref p1, .ref p2, .ref p3, .ref p4, .ref p5, .ref p6, .ref p7, .ref p8, .long f.1, .int f.2])), (p1, .inl (cL, 151, .inr (.inl mv.2.1))), (p2, .inl (cL, 151, .inr (.inl mv.2.2.2.1))), (p3, .inl (cL, 150, .inr (.inl mk.2.1))), (p4, .inl (cL, 150, .inr (.inl mk.2.2.2.1))), (p5, .inl (cI, 151, .inl mv.2.2.1)), (p6, .inl (cI, 151, .inl mv.2.2.2.2)), (p7, .inl (cI, 150, .inl mk.2.2.1)), (p8, .inl (cI, 150, .inl mk.2.2.2.2))]) [0, 1, 2, 3, 4, 5, 6, 7, 8] rfl) (ci := 2) (q0 := 0) rfl rfl) rfl rfl hl.1 rfl (lv_room (Nat.le_of_ble_eq_true rfl)) dX2_text_10 ⟨Nat.le_of_ble_eq_true rfl, Nat.le_of_ble_eq_true rfl⟩)) (fun r2 hr2 => ?_)
    subst hr2
    refine lv_goto (tgt := 20) hx hb dX2_text_13 (by decide) ?_
    refine lv_istore (lv' := [(4, .int (nI j)), (0, .ref y), (1, .long q), (3, .int (nI nq))]) hx hb dX2_text_20 hl (by decide) rfl (fun ls hl => ?_)
    refine lv_aload_n hx hb dX2_text_22 rfl (lv_at hl 1 rfl) ?_
    refine lv_iload hx hb dX2_text_23 (lv_at hl 0 rfl) ?_
    refine lv_lload_n hx hb dX2_text_25 rfl (lv_at hl 2 rfl) ?_
    refine lv_iload_n hx hb dX2_text_26 rfl (lv_at hl 3 rfl) ?_
    refine vp_callSi (va_Run.run (va_runV (As := [.int (nI j), .long q, .int (nI nq)]) (rest := []) ⟨hx, hb, hml, hown, hts⟩ (c_isAt l dC dI cL cI y p1 p2 p3 p4 p5 p6 p7 p8 mv mk f hm j (hj hok).1 q (nI nq) (fun _ => hok)) (cwV 3 hts gX2_text_X2_isAt rfl rfl rfl (by decide +kernel) ⟨Nat.le_of_ble_eq_true rfl, Nat.le_of_ble_eq_true rfl⟩) (rd_preV hK (hP.sub (ws' := [(y, .inr (2, [.int (nI mv.1), .int (nI mk.1), .ref p1, .ref p2, .ref p3, .ref p4, .ref p5, .ref p6, .ref p7, .ref p8, .long f.1, .int f.2])), (p1, .inl (cL, 151, .inr (.inl mv.2.1))), (p2, .inl (cL, 151, .inr (.inl mv.2.2.2.1))), (p3, .inl (cL, 150, .inr (.inl mk.2.1))), (p4, .inl (cL, 150, .inr (.inl mk.2.2.2.1))), (p5, .inl (cI, 151, .inl mv.2.2.1)), (p6, .inl (cI, 151, .inl mv.2.2.2.2)), (p7, .inl (cI, 150, .inl mk.2.2.1)), (p8, .inl (cI, 150, .inl mk.2.2.2.2))]) [0, 1, 2, 3, 4, 5, 6, 7, 8] rfl) (ci := 2) (q0 := 0) rfl rfl) rfl rfl hl.1 rfl (lv_room (Nat.le_of_ble_eq_true rfl)) dX2_text_27 ⟨Nat.le_of_ble_eq_true rfl, Nat.le_of_ble_eq_true rfl⟩)) (fun r3 hr3 => ?_)
    rcases hr3 with ⟨rfl, hh⟩ | ⟨rfl, hh⟩
    · skip
      have hju : j < mv.1 := hh.1
      have hm1 := hm.1
      refine lv_if_eq (tgt := 43) hx hb dX2_text_30 (by decide) (fun c_30 => absurd c_30 (by decide)) (fun c_30 => ?_)
      refine lv_aload_n hx hb dX2_text_33 rfl (lv_at hl 1 rfl) ?_
      refine va_get (D := (dC, dI)) (ci := 2) (v := .ref p2) (C := RX2) (T := TX2) (N := 12) hx hb hts i_X2_text_X2 hown hK hP 0 rfl rfl 3 (by decide) (hts (.fieldLink RX2 13 "BlockTreeModel" "text" "[J") (by decide +kernel)) (fun _ h9 => h9) rfl dX2_text_34 ?_
      refine lv_iload hx hb dX2_text_37 (lv_at hl 0 rfl) ?_
      refine va_lald hx hb hK hP 2 0 rfl rfl (vp_in_nI (by omega) (by omega)) dX2_text_39 ?_
      refine lv_topl (fun z_1 ez_1 => ?_)
      rw [show ((nI j)).toNatClampNeg = j from (nI_clamp (by omega))] at ez_1
      subst ez_1
      refine lv_goto (tgt := 44) hx hb dX2_text_40 (by decide) ?_
      exact W.lret (v := (mv.2.2.2.1 j)) hx hb hr (fun t9 ht hW => ⟨(mv.2.2.2.1 j), rfl, Or.inl ⟨hok, hh, rfl⟩, ht⟩) (fun q h => absurd h List.not_mem_nil) dX2_text_44
    · skip
      have hbad : ¬ (okK (nI nq) ∧ mhl mv j (hdOf q (nI nq)) (nI nq)) := fun g => hh g.2
      refine lv_if_eq (tgt := 43) hx hb dX2_text_30 (by decide) (fun c_30 => ?_) (fun c_30 => absurd c_30 (by decide))
      refine lv_lconst (v := 0) hx hb dX2_text_43 (by decide) ?_
      exact W.lret (v := 0) hx hb hr (fun t9 ht hW => ⟨0, rfl, Or.inr ⟨hbad, rfl⟩, ht⟩) (fun q h => absurd h List.not_mem_nil) dX2_text_44
  · skip
    refine lv_if_eq (tgt := 16) hx hb dX2_text_4 (by decide) (fun c_4 => ?_) (fun c_4 => absurd c_4 (by decide))
    refine lv_aload_n hx hb dX2_text_16 rfl (lv_at hl 0 rfl) ?_
    refine va_get (D := (dC, dI)) (ci := 2) (v := .int (nI mv.1)) (C := RX2) (T := TX2) (N := 12) hx hb hts i_X2_text_X2 hown hK hP 0 rfl rfl 0 (by decide) (hts (.fieldLink RX2 41 "BlockTreeModel" "many" "I") (by decide +kernel)) (fun _ h9 => h9) rfl dX2_text_17 ?_
    refine lv_istore (lv' := [(4, .int (nI mv.1)), (0, .ref y), (1, .long q), (3, .int t)]) hx hb dX2_text_20 hl (by decide) rfl (fun ls hl => ?_)
    refine lv_aload_n hx hb dX2_text_22 rfl (lv_at hl 1 rfl) ?_
    refine lv_iload hx hb dX2_text_23 (lv_at hl 0 rfl) ?_
    refine lv_lload_n hx hb dX2_text_25 rfl (lv_at hl 2 rfl) ?_
    refine lv_iload_n hx hb dX2_text_26 rfl (lv_at hl 3 rfl) ?_
    refine vp_callSi (va_Run.run (va_runV (As := [.int (nI mv.1), .long q, .int t]) (rest := []) ⟨hx, hb, hml, hown, hts⟩ (c_isAt l dC dI cL cI y p1 p2 p3 p4 p5 p6 p7 p8 mv mk f hm mv.1 (Nat.le_refl _) q t (fun g => absurd g (Nat.lt_irrefl _))) (cwV 3 hts gX2_text_X2_isAt rfl rfl rfl (by decide +kernel) ⟨Nat.le_of_ble_eq_true rfl, Nat.le_of_ble_eq_true rfl⟩) (rd_preV hK (hP.sub (ws' := [(y, .inr (2, [.int (nI mv.1), .int (nI mk.1), .ref p1, .ref p2, .ref p3, .ref p4, .ref p5, .ref p6, .ref p7, .ref p8, .long f.1, .int f.2])), (p1, .inl (cL, 151, .inr (.inl mv.2.1))), (p2, .inl (cL, 151, .inr (.inl mv.2.2.2.1))), (p3, .inl (cL, 150, .inr (.inl mk.2.1))), (p4, .inl (cL, 150, .inr (.inl mk.2.2.2.1))), (p5, .inl (cI, 151, .inl mv.2.2.1)), (p6, .inl (cI, 151, .inl mv.2.2.2.2)), (p7, .inl (cI, 150, .inl mk.2.2.1)), (p8, .inl (cI, 150, .inl mk.2.2.2.2))]) [0, 1, 2, 3, 4, 5, 6, 7, 8] rfl) (ci := 2) (q0 := 0) rfl rfl) rfl rfl hl.1 rfl (lv_room (Nat.le_of_ble_eq_true rfl)) dX2_text_27 ⟨Nat.le_of_ble_eq_true rfl, Nat.le_of_ble_eq_true rfl⟩)) (fun r3 hr3 => ?_)
    rcases hr3 with ⟨rfl, hh⟩ | ⟨rfl, hh⟩
    · skip
      exact absurd hh.1 (Nat.lt_irrefl _)
    · skip
      have hbad : ¬ (okK t ∧ mhl mv j (hdOf q t) t) := fun g => hok g.1
      refine lv_if_eq (tgt := 43) hx hb dX2_text_30 (by decide) (fun c_30 => ?_) (fun c_30 => absurd c_30 (by decide))
      refine lv_lconst (v := 0) hx hb dX2_text_43 (by decide) ?_
      exact W.lret (v := 0) hx hb hr (fun t9 ht hW => ⟨0, rfl, Or.inr ⟨hbad, rfl⟩, ht⟩) (fun q h => absurd h List.not_mem_nil) dX2_text_44
set_option maxHeartbeats 4000000 in
set_option maxRecDepth 100000 in
/-- foundSize -/
theorem m_foundSize (l : Launch) (dC : Nat → ClassId) (dI : Nat → Nat → Nat) (cL cI : ClassId) (y p1 p2 p3 p4 p5 p6 p7 p8 : Nat) (mv mk : RS) (f : Int64 × Int32) : Met l yX2_foundSize wsX2_foundSize ({ frames := 0, cells := 0, slots := 0, locals := 0 }) (rdP (dC, dI) (kS cL cI) (mW cL cI y p1 p2 p3 p4 p5 p6 p7 p8 mv mk f) [.ref y]) (vp_Si (fun z => z = f.2)) 0 0 (fun _ => False) := by
  refine Met.ofW (cc := cX2_foundSize) (maxL := 1) (ret := some .int) (by decide) rfl ?_
  intro p e s m args below meth c s₁ B hml hv
  obtain ⟨rfl, hP, hK⟩ := hv
  have hx := B.exec
  have hb := B.bytes
  have hr := B.returns
  have hts := atoms_spec (ws := wsX2_foundSize) B.pre
  have hown : s.vm.findClass RX2 = some m.cls := findClass_of_methodNamed B.named
  have hlocks := B.notSynchronized
  replace hP : va_P (dC, dI) vwCl [(y, .inr (2, [.int (nI mv.1), .int (nI mk.1), .ref p1, .ref p2, .ref p3, .ref p4, .ref p5, .ref p6, .ref p7, .ref p8, .long f.1, .int f.2])), (p1, .inl (cL, 151, .inr (.inl mv.2.1))), (p2, .inl (cL, 151, .inr (.inl mv.2.2.2.1))), (p3, .inl (cL, 150, .inr (.inl mk.2.1))), (p4, .inl (cL, 150, .inr (.inl mk.2.2.2.1))), (p5, .inl (cI, 151, .inl mv.2.2.1)), (p6, .inl (cI, 151, .inl mv.2.2.2.2)), (p7, .inl (cI, 150, .inl mk.2.2.1)), (p8, .inl (cI, 150, .inl mk.2.2.2.2))] s.heap := hP
  have hl := lv_entry ([.ref y]) (n := 1) (Nat.le_of_ble_eq_true rfl)
  rw [lg_entry_eq]
  generalize (lg_sl ([.ref y]) ++ List.replicate (1 - (lg_sl ([.ref y])).length) Slot.unset).toArray = ls at hl ⊢
  replace hl : lv_has ls 1 [(0, .ref y)] := hl
  refine lv_aload_n hx hb dX2_foundSize_0 rfl (lv_at hl 0 rfl) ?_
  refine va_get (D := (dC, dI)) (ci := 2) (v := .int f.2) (C := RX2) (T := TX2) (N := 12) hx hb hts i_X2_foundSize_X2 hown hK hP 0 rfl rfl 11 (by decide) (hts (.fieldLink RX2 69 "BlockTreeModel" "foundSize" "I") (by decide +kernel)) (fun _ h9 => h9) rfl dX2_foundSize_1 ?_
  exact W.iret (v := f.2) hx hb hr (fun t9 ht hW => ⟨f.2, rfl, rfl, ht⟩) (fun q h => absurd h List.not_mem_nil) dX2_foundSize_4
set_option maxHeartbeats 4000000 in
set_option maxRecDepth 100000 in
/-- found -/
theorem m_found (l : Launch) (dC : Nat → ClassId) (dI : Nat → Nat → Nat) (cL cI : ClassId) (y p1 p2 p3 p4 p5 p6 p7 p8 : Nat) (mv mk : RS) (f : Int64 × Int32) : Met l yX2_found wsX2_found ({ frames := 0, cells := 0, slots := 0, locals := 0 }) (rdP (dC, dI) (kS cL cI) (mW cL cI y p1 p2 p3 p4 p5 p6 p7 p8 mv mk f) [.ref y]) (vp_Sl (fun z => z = f.1)) 0 0 (fun _ => False) := by
  refine Met.ofW (cc := cX2_found) (maxL := 1) (ret := some .long) (by decide) rfl ?_
  intro p e s m args below meth c s₁ B hml hv
  obtain ⟨rfl, hP, hK⟩ := hv
  have hx := B.exec
  have hb := B.bytes
  have hr := B.returns
  have hts := atoms_spec (ws := wsX2_found) B.pre
  have hown : s.vm.findClass RX2 = some m.cls := findClass_of_methodNamed B.named
  have hlocks := B.notSynchronized
  replace hP : va_P (dC, dI) vwCl [(y, .inr (2, [.int (nI mv.1), .int (nI mk.1), .ref p1, .ref p2, .ref p3, .ref p4, .ref p5, .ref p6, .ref p7, .ref p8, .long f.1, .int f.2])), (p1, .inl (cL, 151, .inr (.inl mv.2.1))), (p2, .inl (cL, 151, .inr (.inl mv.2.2.2.1))), (p3, .inl (cL, 150, .inr (.inl mk.2.1))), (p4, .inl (cL, 150, .inr (.inl mk.2.2.2.1))), (p5, .inl (cI, 151, .inl mv.2.2.1)), (p6, .inl (cI, 151, .inl mv.2.2.2.2)), (p7, .inl (cI, 150, .inl mk.2.2.1)), (p8, .inl (cI, 150, .inl mk.2.2.2.2))] s.heap := hP
  have hl := lv_entry ([.ref y]) (n := 1) (Nat.le_of_ble_eq_true rfl)
  rw [lg_entry_eq]
  generalize (lg_sl ([.ref y]) ++ List.replicate (1 - (lg_sl ([.ref y])).length) Slot.unset).toArray = ls at hl ⊢
  replace hl : lv_has ls 1 [(0, .ref y)] := hl
  refine lv_aload_n hx hb dX2_found_0 rfl (lv_at hl 0 rfl) ?_
  refine va_get (D := (dC, dI)) (ci := 2) (v := .long f.1) (C := RX2) (T := TX2) (N := 12) hx hb hts i_X2_found_X2 hown hK hP 0 rfl rfl 10 (by decide) (hts (.fieldLink RX2 65 "BlockTreeModel" "found" "J") (by decide +kernel)) (fun _ h9 => h9) rfl dX2_found_1 ?_
  exact W.lret (v := f.1) hx hb hr (fun t9 ht hW => ⟨f.1, rfl, rfl, ht⟩) (fun q h => absurd h List.not_mem_nil) dX2_found_4
set_option maxHeartbeats 4000000 in
set_option maxRecDepth 100000 in
/-- count -/
theorem m_count (l : Launch) (dC : Nat → ClassId) (dI : Nat → Nat → Nat) (cL cI : ClassId) (y p1 p2 p3 p4 p5 p6 p7 p8 : Nat) (mv mk : RS) (f : Int64 × Int32) : Met l yX2_count wsX2_count ({ frames := 0, cells := 0, slots := 0, locals := 0 }) (rdP (dC, dI) (kS cL cI) (mW cL cI y p1 p2 p3 p4 p5 p6 p7 p8 mv mk f) [.ref y]) (vp_Si (fun z => z = nI mv.1)) 0 0 (fun _ => False) := by
  refine Met.ofW (cc := cX2_count) (maxL := 1) (ret := some .int) (by decide) rfl ?_
  intro p e s m args below meth c s₁ B hml hv
  obtain ⟨rfl, hP, hK⟩ := hv
  have hx := B.exec
  have hb := B.bytes
  have hr := B.returns
  have hts := atoms_spec (ws := wsX2_count) B.pre
  have hown : s.vm.findClass RX2 = some m.cls := findClass_of_methodNamed B.named
  have hlocks := B.notSynchronized
  replace hP : va_P (dC, dI) vwCl [(y, .inr (2, [.int (nI mv.1), .int (nI mk.1), .ref p1, .ref p2, .ref p3, .ref p4, .ref p5, .ref p6, .ref p7, .ref p8, .long f.1, .int f.2])), (p1, .inl (cL, 151, .inr (.inl mv.2.1))), (p2, .inl (cL, 151, .inr (.inl mv.2.2.2.1))), (p3, .inl (cL, 150, .inr (.inl mk.2.1))), (p4, .inl (cL, 150, .inr (.inl mk.2.2.2.1))), (p5, .inl (cI, 151, .inl mv.2.2.1)), (p6, .inl (cI, 151, .inl mv.2.2.2.2)), (p7, .inl (cI, 150, .inl mk.2.2.1)), (p8, .inl (cI, 150, .inl mk.2.2.2.2))] s.heap := hP
  have hl := lv_entry ([.ref y]) (n := 1) (Nat.le_of_ble_eq_true rfl)
  rw [lg_entry_eq]
  generalize (lg_sl ([.ref y]) ++ List.replicate (1 - (lg_sl ([.ref y])).length) Slot.unset).toArray = ls at hl ⊢
  replace hl : lv_has ls 1 [(0, .ref y)] := hl
  refine lv_aload_n hx hb dX2_count_0 rfl (lv_at hl 0 rfl) ?_
  refine va_get (D := (dC, dI)) (ci := 2) (v := .int (nI mv.1)) (C := RX2) (T := TX2) (N := 12) hx hb hts i_X2_count_X2 hown hK hP 0 rfl rfl 0 (by decide) (hts (.fieldLink RX2 41 "BlockTreeModel" "many" "I") (by decide +kernel)) (fun _ h9 => h9) rfl dX2_count_1 ?_
  exact W.iret (v := (nI mv.1)) hx hb hr (fun t9 ht hW => ⟨(nI mv.1), rfl, rfl, ht⟩) (fun q h => absurd h List.not_mem_nil) dX2_count_4
end
section
set_option maxHeartbeats 4000000 in
set_option maxRecDepth 100000 in
/-- find -/
theorem m_find (l : Launch) (dC : Nat → ClassId) (dI : Nat → Nat → Nat) (hz : Nat) (cL cI : ClassId) (y p1 p2 p3 p4 p5 p6 p7 p8 : Nat) (mv mk : RS) (f : Int64 × Int32) (hm : mok mv) (i : Int32) : Met l yX2_find wsX2_find ({ frames := 0, cells := 0, slots := 0, locals := 0 }) (wrP (dC, dI) (kS cL cI) (mW cL cI y p1 p2 p3 p4 p5 p6 p7 p8 mv mk f) [.ref y, .int i] hz) (va_Qi (fun (z : Int32) (v : Int64 × Int32) => mfQ mv i z v) (wrB (dC, dI) (va_A (mW cL cI y p1 p2 p3 p4 p5 p6 p7 p8 mv mk f) hz) (fun (v : Int64 × Int32) => mW cL cI y p1 p2 p3 p4 p5 p6 p7 p8 mv mk v)) (va_A (mW cL cI y p1 p2 p3 p4 p5 p6 p7 p8 mv mk f) hz)) 0 0 (va_A (mW cL cI y p1 p2 p3 p4 p5 p6 p7 p8 mv mk f) hz) := by
  refine Met.ofW (cc := cX2_find) (maxL := 3) (ret := some .boolean) (by decide) rfl ?_
  intro p e s m args below meth c s₁ B hml hv
  obtain ⟨rfl, hsz, hP, hK, hD0⟩ := hv
  have hx := B.exec
  have hb := B.bytes
  have hr := B.returns
  have hts := atoms_spec (ws := wsX2_find) B.pre
  have hown : s.vm.findClass RX2 = some m.cls := findClass_of_methodNamed B.named
  have hlocks := B.notSynchronized
  subst hsz
  have hD := hD0.self (sz := s.heap.size)
  generalize hAe : va_A (mW cL cI y p1 p2 p3 p4 p5 p6 p7 p8 mv mk f) s.heap.size = A at hD ⊢
  have hA : ∀ q : Nat, s.heap.size ≤ q → A q := fun q h => by rw [← hAe]; exact Or.inr h
  have hS : va_S A s.heap s.heap [] := va_S.rf
  replace hP : va_P (dC, dI) vwCl [(y, .inr (2, [.int (nI mv.1), .int (nI mk.1), .ref p1, .ref p2, .ref p3, .ref p4, .ref p5, .ref p6, .ref p7, .ref p8, .long f.1, .int f.2])), (p1, .inl (cL, 151, .inr (.inl mv.2.1))), (p2, .inl (cL, 151, .inr (.inl mv.2.2.2.1))), (p3, .inl (cL, 150, .inr (.inl mk.2.1))), (p4, .inl (cL, 150, .inr (.inl mk.2.2.2.1))), (p5, .inl (cI, 151, .inl mv.2.2.1)), (p6, .inl (cI, 151, .inl mv.2.2.2.2)), (p7, .inl (cI, 150, .inl mk.2.2.1)), (p8, .inl (cI, 150, .inl mk.2.2.2.2))] s.heap := hP
  replace hD : va_D A [(y, .inr (2, [.int (nI mv.1), .int (nI mk.1), .ref p1, .ref p2, .ref p3, .ref p4, .ref p5, .ref p6, .ref p7, .ref p8, .long f.1, .int f.2])), (p1, .inl (cL, 151, .inr (.inl mv.2.1))), (p2, .inl (cL, 151, .inr (.inl mv.2.2.2.1))), (p3, .inl (cL, 150, .inr (.inl mk.2.1))), (p4, .inl (cL, 150, .inr (.inl mk.2.2.2.1))), (p5, .inl (cI, 151, .inl mv.2.2.1)), (p6, .inl (cI, 151, .inl mv.2.2.2.2)), (p7, .inl (cI, 150, .inl mk.2.2.1)), (p8, .inl (cI, 150, .inl mk.2.2.2.2))] := hD
  have hl := lv_entry ([.ref y, .int i]) (n := 3) (Nat.le_of_ble_eq_true rfl)
  rw [lg_entry_eq]
  generalize (lg_sl ([.ref y, .int i]) ++ List.replicate (3 - (lg_sl ([.ref y, .int i])).length) Slot.unset).toArray = ls at hl ⊢
  replace hl : lv_has ls 3 [(0, .ref y), (1, .int i)] := hl
  refine lv_iload_n hx hb dX2_find_0 rfl (lv_at hl 1 rfl) ?_
  refine lv_if_lt (tgt := 16) hx hb dX2_find_1 (by decide) (fun c_1 => ?_) (fun c_1 => ?_)
  · skip
    have hno := has_a hm.1 c_1
    refine lv_iconst (v := 0) hx hb dX2_find_16 (by decide) ?_
    refine lv_istore_n (lv' := [(2, .int 0), (0, .ref y), (1, .int i)]) hx hb dX2_find_17 rfl hl (by decide) rfl (fun ls hl => ?_)
    refine lv_aload_n hx hb dX2_find_18 rfl (lv_at hl 1 rfl) ?_
    refine lv_iload_n hx hb dX2_find_19 rfl (lv_at hl 0 rfl) ?_
    refine lv_if_eq (tgt := 32) hx hb dX2_find_20 (by decide) (fun c_20 => ?_) (fun c_20 => absurd c_20 (by decide))
    refine lv_lconst (v := 0) hx hb dX2_find_32 (by decide) ?_
    refine va_put (D := (dC, dI)) (ci := 2) (v := .long 0) (ty := .long) (C := RX2) (T := TX2) (N := 12) hx hb hts i_X2_find_X2 tyX2 tyX2_ok nmX2 hown hK hP hD hS 0 rfl rfl 10 (by decide) (hts (.fieldLink RX2 65 "BlockTreeModel" "found" "J") (by decide +kernel)) (fun _ h9 => h9) rfl (by decide +kernel) rfl rfl (Nat.le_of_ble_eq_true rfl) dX2_find_33 (fun H locs hP hD hS => ?_)
    replace hP : va_P (dC, dI) vwCl [(y, .inr (2, [.int (nI mv.1), .int (nI mk.1), .ref p1, .ref p2, .ref p3, .ref p4, .ref p5, .ref p6, .ref p7, .ref p8, .long 0, .int f.2])), (p1, .inl (cL, 151, .inr (.inl mv.2.1))), (p2, .inl (cL, 151, .inr (.inl mv.2.2.2.1))), (p3, .inl (cL, 150, .inr (.inl mk.2.1))), (p4, .inl (cL, 150, .inr (.inl mk.2.2.2.1))), (p5, .inl (cI, 151, .inl mv.2.2.1)), (p6, .inl (cI, 151, .inl mv.2.2.2.2)), (p7, .inl (cI, 150, .inl mk.2.2.1)), (p8, .inl (cI, 150, .inl mk.2.2.2.2))] H := hP
    replace hD : va_D A [(y, .inr (2, [.int (nI mv.1), .int (nI mk.1), .ref p1, .ref p2, .ref p3, .ref p4, .ref p5, .ref p6, .ref p7, .ref p8, .long 0, .int f.2])), (p1, .inl (cL, 151, .inr (.inl mv.2.1))), (p2, .inl (cL, 151, .inr (.inl mv.2.2.2.1))), (p3, .inl (cL, 150, .inr (.inl mk.2.1))), (p4, .inl (cL, 150, .inr (.inl mk.2.2.2.1))), (p5, .inl (cI, 151, .inl mv.2.2.1)), (p6, .inl (cI, 151, .inl mv.2.2.2.2)), (p7, .inl (cI, 150, .inl mk.2.2.1)), (p8, .inl (cI, 150, .inl mk.2.2.2.2))] := hD
    refine lv_aload_n hx hb dX2_find_36 rfl (lv_at hl 1 rfl) ?_
    refine lv_iload_n hx hb dX2_find_37 rfl (lv_at hl 0 rfl) ?_
    refine lv_if_eq (tgt := 50) hx hb dX2_find_38 (by decide) (fun c_38 => ?_) (fun c_38 => absurd c_38 (by decide))
    refine lv_iconst (v := 0) hx hb dX2_find_50 (by decide) ?_
    refine va_put (D := (dC, dI)) (ci := 2) (v := .int 0) (ty := .int) (C := RX2) (T := TX2) (N := 12) hx hb hts i_X2_find_X2 tyX2 tyX2_ok nmX2 hown hK hP hD hS 0 rfl rfl 11 (by decide) (hts (.fieldLink RX2 69 "BlockTreeModel" "foundSize" "I") (by decide +kernel)) (fun _ h9 => h9) rfl (by decide +kernel) rfl rfl (Nat.le_of_ble_eq_true rfl) dX2_find_51 (fun H locs hP hD hS => ?_)
    replace hP : va_P (dC, dI) vwCl [(y, .inr (2, [.int (nI mv.1), .int (nI mk.1), .ref p1, .ref p2, .ref p3, .ref p4, .ref p5, .ref p6, .ref p7, .ref p8, .long 0, .int 0])), (p1, .inl (cL, 151, .inr (.inl mv.2.1))), (p2, .inl (cL, 151, .inr (.inl mv.2.2.2.1))), (p3, .inl (cL, 150, .inr (.inl mk.2.1))), (p4, .inl (cL, 150, .inr (.inl mk.2.2.2.1))), (p5, .inl (cI, 151, .inl mv.2.2.1)), (p6, .inl (cI, 151, .inl mv.2.2.2.2)), (p7, .inl (cI, 150, .inl mk.2.2.1)), (p8, .inl (cI, 150, .inl mk.2.2.2.2))] H := hP
    replace hD : va_D A [(y, .inr (2, [.int (nI mv.1), .int (nI mk.1), .ref p1, .ref p2, .ref p3, .ref p4, .ref p5, .ref p6, .ref p7, .ref p8, .long 0, .int 0])), (p1, .inl (cL, 151, .inr (.inl mv.2.1))), (p2, .inl (cL, 151, .inr (.inl mv.2.2.2.1))), (p3, .inl (cL, 150, .inr (.inl mk.2.1))), (p4, .inl (cL, 150, .inr (.inl mk.2.2.2.1))), (p5, .inl (cI, 151, .inl mv.2.2.1)), (p6, .inl (cI, 151, .inl mv.2.2.2.2)), (p7, .inl (cI, 150, .inl mk.2.2.1)), (p8, .inl (cI, 150, .inl mk.2.2.2.2))] := hD
    refine lv_iload_n hx hb dX2_find_54 rfl (lv_at hl 0 rfl) ?_
    exact W.zret (v := 0) hx hb hr (by first | rfl | decide +kernel | assumption) (fun t9 ht hW => ⟨⟨0, (0, 0), rfl, Or.inr ⟨hno, rfl, rfl⟩, by rw [ht]; exact hP, hD⟩, hS.F ht⟩) hS.2.2 dX2_find_55
  · skip
    refine lv_iload_n hx hb dX2_find_4 rfl (lv_at hl 1 rfl) ?_
    refine lv_aload_n hx hb dX2_find_5 rfl (lv_at hl 0 rfl) ?_
    refine va_get (D := (dC, dI)) (ci := 2) (v := .int (nI mv.1)) (C := RX2) (T := TX2) (N := 12) hx hb hts i_X2_find_X2 hown hK hP 0 rfl rfl 0 (by decide) (hts (.fieldLink RX2 41 "BlockTreeModel" "many" "I") (by decide +kernel)) (fun _ h9 => h9) rfl dX2_find_6 ?_
    refine lv_icmp_ge (tgt := 16) hx hb dX2_find_9 (by decide) (fun c_9 => ?_) (fun c_9 => ?_)
    · skip
      have hno := has_b hm.1 c_9
      refine lv_iconst (v := 0) hx hb dX2_find_16 (by decide) ?_
      refine lv_istore_n (lv' := [(2, .int 0), (0, .ref y), (1, .int i)]) hx hb dX2_find_17 rfl hl (by decide) rfl (fun ls hl => ?_)
      refine lv_aload_n hx hb dX2_find_18 rfl (lv_at hl 1 rfl) ?_
      refine lv_iload_n hx hb dX2_find_19 rfl (lv_at hl 0 rfl) ?_
      refine lv_if_eq (tgt := 32) hx hb dX2_find_20 (by decide) (fun c_20 => ?_) (fun c_20 => absurd c_20 (by decide))
      refine lv_lconst (v := 0) hx hb dX2_find_32 (by decide) ?_
      refine va_put (D := (dC, dI)) (ci := 2) (v := .long 0) (ty := .long) (C := RX2) (T := TX2) (N := 12) hx hb hts i_X2_find_X2 tyX2 tyX2_ok nmX2 hown hK hP hD hS 0 rfl rfl 10 (by decide) (hts (.fieldLink RX2 65 "BlockTreeModel" "found" "J") (by decide +kernel)) (fun _ h9 => h9) rfl (by decide +kernel) rfl rfl (Nat.le_of_ble_eq_true rfl) dX2_find_33 (fun H locs hP hD hS => ?_)
      replace hP : va_P (dC, dI) vwCl [(y, .inr (2, [.int (nI mv.1), .int (nI mk.1), .ref p1, .ref p2, .ref p3, .ref p4, .ref p5, .ref p6, .ref p7, .ref p8, .long 0, .int f.2])), (p1, .inl (cL, 151, .inr (.inl mv.2.1))), (p2, .inl (cL, 151, .inr (.inl mv.2.2.2.1))), (p3, .inl (cL, 150, .inr (.inl mk.2.1))), (p4, .inl (cL, 150, .inr (.inl mk.2.2.2.1))), (p5, .inl (cI, 151, .inl mv.2.2.1)), (p6, .inl (cI, 151, .inl mv.2.2.2.2)), (p7, .inl (cI, 150, .inl mk.2.2.1)), (p8, .inl (cI, 150, .inl mk.2.2.2.2))] H := hP
      replace hD : va_D A [(y, .inr (2, [.int (nI mv.1), .int (nI mk.1), .ref p1, .ref p2, .ref p3, .ref p4, .ref p5, .ref p6, .ref p7, .ref p8, .long 0, .int f.2])), (p1, .inl (cL, 151, .inr (.inl mv.2.1))), (p2, .inl (cL, 151, .inr (.inl mv.2.2.2.1))), (p3, .inl (cL, 150, .inr (.inl mk.2.1))), (p4, .inl (cL, 150, .inr (.inl mk.2.2.2.1))), (p5, .inl (cI, 151, .inl mv.2.2.1)), (p6, .inl (cI, 151, .inl mv.2.2.2.2)), (p7, .inl (cI, 150, .inl mk.2.2.1)), (p8, .inl (cI, 150, .inl mk.2.2.2.2))] := hD
      refine lv_aload_n hx hb dX2_find_36 rfl (lv_at hl 1 rfl) ?_
      refine lv_iload_n hx hb dX2_find_37 rfl (lv_at hl 0 rfl) ?_
      refine lv_if_eq (tgt := 50) hx hb dX2_find_38 (by decide) (fun c_38 => ?_) (fun c_38 => absurd c_38 (by decide))
      refine lv_iconst (v := 0) hx hb dX2_find_50 (by decide) ?_
      refine va_put (D := (dC, dI)) (ci := 2) (v := .int 0) (ty := .int) (C := RX2) (T := TX2) (N := 12) hx hb hts i_X2_find_X2 tyX2 tyX2_ok nmX2 hown hK hP hD hS 0 rfl rfl 11 (by decide) (hts (.fieldLink RX2 69 "BlockTreeModel" "foundSize" "I") (by decide +kernel)) (fun _ h9 => h9) rfl (by decide +kernel) rfl rfl (Nat.le_of_ble_eq_true rfl) dX2_find_51 (fun H locs hP hD hS => ?_)
      replace hP : va_P (dC, dI) vwCl [(y, .inr (2, [.int (nI mv.1), .int (nI mk.1), .ref p1, .ref p2, .ref p3, .ref p4, .ref p5, .ref p6, .ref p7, .ref p8, .long 0, .int 0])), (p1, .inl (cL, 151, .inr (.inl mv.2.1))), (p2, .inl (cL, 151, .inr (.inl mv.2.2.2.1))), (p3, .inl (cL, 150, .inr (.inl mk.2.1))), (p4, .inl (cL, 150, .inr (.inl mk.2.2.2.1))), (p5, .inl (cI, 151, .inl mv.2.2.1)), (p6, .inl (cI, 151, .inl mv.2.2.2.2)), (p7, .inl (cI, 150, .inl mk.2.2.1)), (p8, .inl (cI, 150, .inl mk.2.2.2.2))] H := hP
      replace hD : va_D A [(y, .inr (2, [.int (nI mv.1), .int (nI mk.1), .ref p1, .ref p2, .ref p3, .ref p4, .ref p5, .ref p6, .ref p7, .ref p8, .long 0, .int 0])), (p1, .inl (cL, 151, .inr (.inl mv.2.1))), (p2, .inl (cL, 151, .inr (.inl mv.2.2.2.1))), (p3, .inl (cL, 150, .inr (.inl mk.2.1))), (p4, .inl (cL, 150, .inr (.inl mk.2.2.2.1))), (p5, .inl (cI, 151, .inl mv.2.2.1)), (p6, .inl (cI, 151, .inl mv.2.2.2.2)), (p7, .inl (cI, 150, .inl mk.2.2.1)), (p8, .inl (cI, 150, .inl mk.2.2.2.2))] := hD
      refine lv_iload_n hx hb dX2_find_54 rfl (lv_at hl 0 rfl) ?_
      exact W.zret (v := 0) hx hb hr (by first | rfl | decide +kernel | assumption) (fun t9 ht hW => ⟨⟨0, (0, 0), rfl, Or.inr ⟨hno, rfl, rfl⟩, by rw [ht]; exact hP, hD⟩, hS.F ht⟩) hS.2.2 dX2_find_55
    · skip
      obtain ⟨j, hj, ei⟩ := has_c hm.1 c_1 c_9
      have hm1 := hm.1
      refine lv_iconst (v := 1) hx hb dX2_find_12 (by decide) ?_
      refine lv_goto (tgt := 17) hx hb dX2_find_13 (by decide) ?_
      refine lv_istore_n (lv' := [(2, .int 1), (0, .ref y), (1, .int i)]) hx hb dX2_find_17 rfl hl (by decide) rfl (fun ls hl => ?_)
      refine lv_aload_n hx hb dX2_find_18 rfl (lv_at hl 1 rfl) ?_
      refine lv_iload_n hx hb dX2_find_19 rfl (lv_at hl 0 rfl) ?_
      refine lv_if_eq (tgt := 32) hx hb dX2_find_20 (by decide) (fun c_20 => absurd c_20 (by decide)) (fun c_20 => ?_)
      refine lv_aload_n hx hb dX2_find_23 rfl (lv_at hl 1 rfl) ?_
      refine va_get (D := (dC, dI)) (ci := 2) (v := .ref p1) (C := RX2) (T := TX2) (N := 12) hx hb hts i_X2_find_X2 hown hK hP 0 rfl rfl 2 (by decide) (hts (.fieldLink RX2 7 "BlockTreeModel" "key" "[J") (by decide +kernel)) (fun _ h9 => h9) rfl dX2_find_24 ?_
      refine lv_iload_n hx hb dX2_find_27 rfl (lv_at hl 2 rfl) ?_
      refine va_lald hx hb hK hP 1 0 rfl rfl (by rw [ei]; exact vp_in_nI (by omega) (by omega)) dX2_find_28 ?_
      refine lv_topl (fun z_1 ez_1 => ?_)
      rw [show (i).toNatClampNeg = j from (by rw [ei]; exact nI_clamp (by omega))] at ez_1
      subst ez_1
      refine lv_goto (tgt := 33) hx hb dX2_find_29 (by decide) ?_
      refine va_put (D := (dC, dI)) (ci := 2) (v := .long (mv.2.1 j)) (ty := .long) (C := RX2) (T := TX2) (N := 12) hx hb hts i_X2_find_X2 tyX2 tyX2_ok nmX2 hown hK hP hD hS 0 rfl rfl 10 (by decide) (hts (.fieldLink RX2 65 "BlockTreeModel" "found" "J") (by decide +kernel)) (fun _ h9 => h9) rfl (by decide +kernel) rfl rfl (Nat.le_of_ble_eq_true rfl) dX2_find_33 (fun H locs hP hD hS => ?_)
      replace hP : va_P (dC, dI) vwCl [(y, .inr (2, [.int (nI mv.1), .int (nI mk.1), .ref p1, .ref p2, .ref p3, .ref p4, .ref p5, .ref p6, .ref p7, .ref p8, .long (mv.2.1 j), .int f.2])), (p1, .inl (cL, 151, .inr (.inl mv.2.1))), (p2, .inl (cL, 151, .inr (.inl mv.2.2.2.1))), (p3, .inl (cL, 150, .inr (.inl mk.2.1))), (p4, .inl (cL, 150, .inr (.inl mk.2.2.2.1))), (p5, .inl (cI, 151, .inl mv.2.2.1)), (p6, .inl (cI, 151, .inl mv.2.2.2.2)), (p7, .inl (cI, 150, .inl mk.2.2.1)), (p8, .inl (cI, 150, .inl mk.2.2.2.2))] H := hP
      replace hD : va_D A [(y, .inr (2, [.int (nI mv.1), .int (nI mk.1), .ref p1, .ref p2, .ref p3, .ref p4, .ref p5, .ref p6, .ref p7, .ref p8, .long (mv.2.1 j), .int f.2])), (p1, .inl (cL, 151, .inr (.inl mv.2.1))), (p2, .inl (cL, 151, .inr (.inl mv.2.2.2.1))), (p3, .inl (cL, 150, .inr (.inl mk.2.1))), (p4, .inl (cL, 150, .inr (.inl mk.2.2.2.1))), (p5, .inl (cI, 151, .inl mv.2.2.1)), (p6, .inl (cI, 151, .inl mv.2.2.2.2)), (p7, .inl (cI, 150, .inl mk.2.2.1)), (p8, .inl (cI, 150, .inl mk.2.2.2.2))] := hD
      refine lv_aload_n hx hb dX2_find_36 rfl (lv_at hl 1 rfl) ?_
      refine lv_iload_n hx hb dX2_find_37 rfl (lv_at hl 0 rfl) ?_
      refine lv_if_eq (tgt := 50) hx hb dX2_find_38 (by decide) (fun c_38 => absurd c_38 (by decide)) (fun c_38 => ?_)
      refine lv_aload_n hx hb dX2_find_41 rfl (lv_at hl 1 rfl) ?_
      refine va_get (D := (dC, dI)) (ci := 2) (v := .ref p5) (C := RX2) (T := TX2) (N := 12) hx hb hts i_X2_find_X2 hown hK hP 0 rfl rfl 6 (by decide) (hts (.fieldLink RX2 22 "BlockTreeModel" "size" "[I") (by decide +kernel)) (fun _ h9 => h9) rfl dX2_find_42 ?_
      refine lv_iload_n hx hb dX2_find_45 rfl (lv_at hl 2 rfl) ?_
      refine va_iald hx hb hK hP 5 1 rfl rfl (by rw [ei]; exact vp_in_nI (by omega) (by omega)) dX2_find_46 ?_
      refine lv_topi (fun z_2 ez_2 => ?_)
      rw [show (i).toNatClampNeg = j from (by rw [ei]; exact nI_clamp (by omega))] at ez_2
      subst ez_2
      refine lv_goto (tgt := 51) hx hb dX2_find_47 (by decide) ?_
      refine va_put (D := (dC, dI)) (ci := 2) (v := .int (mv.2.2.1 j)) (ty := .int) (C := RX2) (T := TX2) (N := 12) hx hb hts i_X2_find_X2 tyX2 tyX2_ok nmX2 hown hK hP hD hS 0 rfl rfl 11 (by decide) (hts (.fieldLink RX2 69 "BlockTreeModel" "foundSize" "I") (by decide +kernel)) (fun _ h9 => h9) rfl (by decide +kernel) rfl rfl (Nat.le_of_ble_eq_true rfl) dX2_find_51 (fun H locs hP hD hS => ?_)
      replace hP : va_P (dC, dI) vwCl [(y, .inr (2, [.int (nI mv.1), .int (nI mk.1), .ref p1, .ref p2, .ref p3, .ref p4, .ref p5, .ref p6, .ref p7, .ref p8, .long (mv.2.1 j), .int (mv.2.2.1 j)])), (p1, .inl (cL, 151, .inr (.inl mv.2.1))), (p2, .inl (cL, 151, .inr (.inl mv.2.2.2.1))), (p3, .inl (cL, 150, .inr (.inl mk.2.1))), (p4, .inl (cL, 150, .inr (.inl mk.2.2.2.1))), (p5, .inl (cI, 151, .inl mv.2.2.1)), (p6, .inl (cI, 151, .inl mv.2.2.2.2)), (p7, .inl (cI, 150, .inl mk.2.2.1)), (p8, .inl (cI, 150, .inl mk.2.2.2.2))] H := hP
      replace hD : va_D A [(y, .inr (2, [.int (nI mv.1), .int (nI mk.1), .ref p1, .ref p2, .ref p3, .ref p4, .ref p5, .ref p6, .ref p7, .ref p8, .long (mv.2.1 j), .int (mv.2.2.1 j)])), (p1, .inl (cL, 151, .inr (.inl mv.2.1))), (p2, .inl (cL, 151, .inr (.inl mv.2.2.2.1))), (p3, .inl (cL, 150, .inr (.inl mk.2.1))), (p4, .inl (cL, 150, .inr (.inl mk.2.2.2.1))), (p5, .inl (cI, 151, .inl mv.2.2.1)), (p6, .inl (cI, 151, .inl mv.2.2.2.2)), (p7, .inl (cI, 150, .inl mk.2.2.1)), (p8, .inl (cI, 150, .inl mk.2.2.2.2))] := hD
      refine lv_iload_n hx hb dX2_find_54 rfl (lv_at hl 0 rfl) ?_
      exact W.zret (v := 1) hx hb hr (by first | rfl | decide +kernel | assumption) (fun t9 ht hW => ⟨⟨1, (mv.2.1 j, mv.2.2.1 j), rfl, Or.inl ⟨j, hj, ei, rfl, rfl⟩, by rw [ht]; exact hP, hD⟩, hS.F ht⟩) hS.2.2 dX2_find_55
set_option maxHeartbeats 4000000 in
set_option maxRecDepth 100000 in
/-- seek -/
theorem m_seek (l : Launch) (dC : Nat → ClassId) (dI : Nat → Nat → Nat) (hz : Nat) (cL cI : ClassId) (y p1 p2 p3 p4 p5 p6 p7 p8 : Nat) (mv mk : RS) (f : Int64 × Int32) (hm : mok mv) (q : Int64) (t : Int32) (j : Nat) (hj : okK t → mpl mv (hdOf q t) t j) : Met l yX2_seek wsX2_seek ({ frames := 3, cells := 0, slots := 0, locals := 74 }) (wrP (dC, dI) (kS cL cI) (mW cL cI y p1 p2 p3 p4 p5 p6 p7 p8 mv mk f) [.ref y, .long q, .int t] hz) (va_Qi (fun (z : Int32) (v : Int64 × Int32) => (okK t ∧ mfQ mv (nI j) z v) ∨ (¬ okK t ∧ z = 0 ∧ v = (0, 0))) (wrB (dC, dI) (va_A (mW cL cI y p1 p2 p3 p4 p5 p6 p7 p8 mv mk f) hz) (fun (v : Int64 × Int32) => mW cL cI y p1 p2 p3 p4 p5 p6 p7 p8 mv mk v)) (va_A (mW cL cI y p1 p2 p3 p4 p5 p6 p7 p8 mv mk f) hz)) 0 0 (va_A (mW cL cI y p1 p2 p3 p4 p5 p6 p7 p8 mv mk f) hz) := by
  refine Met.ofW (cc := cX2_seek) (maxL := 4) (ret := some .boolean) (by decide) rfl ?_
  intro p e s m args below meth c s₁ B hml hv
  obtain ⟨rfl, hsz, hP, hK, hD0⟩ := hv
  have hx := B.exec
  have hb := B.bytes
  have hr := B.returns
  have hts := atoms_spec (ws := wsX2_seek) B.pre
  have hown : s.vm.findClass RX2 = some m.cls := findClass_of_methodNamed B.named
  have hlocks := B.notSynchronized
  subst hsz
  have hD := hD0.self (sz := s.heap.size)
  generalize hAe : va_A (mW cL cI y p1 p2 p3 p4 p5 p6 p7 p8 mv mk f) s.heap.size = A at hD ⊢
  have hA : ∀ q : Nat, s.heap.size ≤ q → A q := fun q h => by rw [← hAe]; exact Or.inr h
  have hS : va_S A s.heap s.heap [] := va_S.rf
  replace hP : va_P (dC, dI) vwCl [(y, .inr (2, [.int (nI mv.1), .int (nI mk.1), .ref p1, .ref p2, .ref p3, .ref p4, .ref p5, .ref p6, .ref p7, .ref p8, .long f.1, .int f.2])), (p1, .inl (cL, 151, .inr (.inl mv.2.1))), (p2, .inl (cL, 151, .inr (.inl mv.2.2.2.1))), (p3, .inl (cL, 150, .inr (.inl mk.2.1))), (p4, .inl (cL, 150, .inr (.inl mk.2.2.2.1))), (p5, .inl (cI, 151, .inl mv.2.2.1)), (p6, .inl (cI, 151, .inl mv.2.2.2.2)), (p7, .inl (cI, 150, .inl mk.2.2.1)), (p8, .inl (cI, 150, .inl mk.2.2.2.2))] s.heap := hP
  replace hD : va_D A [(y, .inr (2, [.int (nI mv.1), .int (nI mk.1), .ref p1, .ref p2, .ref p3, .ref p4, .ref p5, .ref p6, .ref p7, .ref p8, .long f.1, .int f.2])), (p1, .inl (cL, 151, .inr (.inl mv.2.1))), (p2, .inl (cL, 151, .inr (.inl mv.2.2.2.1))), (p3, .inl (cL, 150, .inr (.inl mk.2.1))), (p4, .inl (cL, 150, .inr (.inl mk.2.2.2.1))), (p5, .inl (cI, 151, .inl mv.2.2.1)), (p6, .inl (cI, 151, .inl mv.2.2.2.2)), (p7, .inl (cI, 150, .inl mk.2.2.1)), (p8, .inl (cI, 150, .inl mk.2.2.2.2))] := hD
  have hl := lv_entry ([.ref y, .long q, .int t]) (n := 4) (Nat.le_of_ble_eq_true rfl)
  rw [lg_entry_eq]
  generalize (lg_sl ([.ref y, .long q, .int t]) ++ List.replicate (4 - (lg_sl ([.ref y, .long q, .int t])).length) Slot.unset).toArray = ls at hl ⊢
  replace hl : lv_has ls 4 [(0, .ref y), (1, .long q), (3, .int t)] := hl
  refine lv_aload_n hx hb dX2_seek_0 rfl (lv_at hl 0 rfl) ?_
  refine lv_iload_n hx hb dX2_seek_1 rfl (lv_at hl 2 rfl) ?_
  refine vp_callSi (va_Run.run (va_runS (As := [.int t]) (rest := [.ref y]) ⟨hx, hb, hml, hown, hts⟩ (c_isSize l t) (va_cwS 1 hts gX2_seek_X2_isSize rfl rfl rfl (by decide +kernel) ⟨Nat.le_of_ble_eq_true rfl, Nat.le_of_ble_eq_true rfl⟩) (st_pre) rfl rfl hl.1 rfl (lv_room (Nat.le_of_ble_eq_true rfl)) dX2_seek_2 ⟨Nat.le_of_ble_eq_true rfl, Nat.le_of_ble_eq_true rfl⟩)) (fun r1 hr1 => ?_)
  rcases hr1 with ⟨rfl, hok⟩ | ⟨rfl, hok⟩
  · skip
    obtain ⟨nq, nq1, nq8, rfl⟩ := okK_nat hok
    refine lv_if_eq (tgt := 17) hx hb dX2_seek_5 (by decide) (fun c_5 => absurd c_5 (by decide)) (fun c_5 => ?_)
    refine lv_aload_n hx hb dX2_seek_8 rfl (lv_at hl 0 rfl) ?_
    refine lv_lload_n hx hb dX2_seek_9 rfl (lv_at hl 1 rfl) ?_
    refine lv_iload_n hx hb dX2_seek_10 rfl (lv_at hl 2 rfl) ?_
    refine vp_callSi (va_Run.run (va_runV (As := [.long q, .int (nI nq)]) (rest := [.ref y]) ⟨hx, hb, hml, hown, hts⟩ (c_place l dC dI cL cI y p1 p2 p3 p4 p5 p6 p7 p8 mv mk f hm q nq nq1 nq8 j (hj hok)) (cwV 2 hts gX2_seek_X2_place rfl rfl rfl (by decide +kernel) ⟨Nat.le_of_ble_eq_true rfl, Nat.le_of_ble_eq_true rfl⟩) (rd_preV hK (hP.sub (ws' := [(y, .inr (2, [.int (nI mv.1), .int (nI mk.1), .ref p1, .ref p2, .ref p3, .ref p4, .ref p5, .ref p6, .ref p7, .ref p8, .long f.1, .int f.2])), (p1, .inl (cL, 151, .inr (.inl mv.2.1))), (p2, .inl (cL, 151, .inr (.inl mv.2.2.2.1))), (p3, .inl (cL, 150, .inr (.inl mk.2.1))), (p4, .inl (cL, 150, .inr (.inl mk.2.2.2.1))), (p5, .inl (cI, 151, .inl mv.2.2.1)), (p6, .inl (cI, 151, .inl mv.2.2.2.2)), (p7, .inl (cI, 150, .inl mk.2.2.1)), (p8, .inl (cI, 150, .inl mk.2.2.2.2))]) [0, 1, 2, 3, 4, 5, 6, 7, 8] rfl) (ci := 2) (q0 := 0) rfl rfl) rfl rfl hl.1 rfl (lv_room (Nat.le_of_ble_eq_true rfl)) dX2_seek_11 ⟨Nat.le_of_ble_eq_true rfl, Nat.le_of_ble_eq_true rfl⟩)) (fun r2 hr2 => ?_)
    subst hr2
    refine lv_goto (tgt := 18) hx hb dX2_seek_14 (by decide) ?_
    refine wr_calli (wr := []) (va_runV (As := [.int (nI j)]) (rest := []) ⟨hx, hb, hml, hown, hts⟩ (m_find l dC dI _ cL cI y p1 p2 p3 p4 p5 p6 p7 p8 mv mk f hm (nI j)) (cwV 1 hts gX2_seek_X2_find rfl rfl rfl (by decide +kernel) ⟨Nat.le_of_ble_eq_true rfl, Nat.le_of_ble_eq_true rfl⟩) (wr_preV hK (hP.sub (ws' := [(y, .inr (2, [.int (nI mv.1), .int (nI mk.1), .ref p1, .ref p2, .ref p3, .ref p4, .ref p5, .ref p6, .ref p7, .ref p8, .long f.1, .int f.2])), (p1, .inl (cL, 151, .inr (.inl mv.2.1))), (p2, .inl (cL, 151, .inr (.inl mv.2.2.2.1))), (p3, .inl (cL, 150, .inr (.inl mk.2.1))), (p4, .inl (cL, 150, .inr (.inl mk.2.2.2.1))), (p5, .inl (cI, 151, .inl mv.2.2.1)), (p6, .inl (cI, 151, .inl mv.2.2.2.2)), (p7, .inl (cI, 150, .inl mk.2.2.1)), (p8, .inl (cI, 150, .inl mk.2.2.2.2))]) [0, 1, 2, 3, 4, 5, 6, 7, 8] rfl) (hD.sub (ws' := [(y, .inr (2, [.int (nI mv.1), .int (nI mk.1), .ref p1, .ref p2, .ref p3, .ref p4, .ref p5, .ref p6, .ref p7, .ref p8, .long f.1, .int f.2])), (p1, .inl (cL, 151, .inr (.inl mv.2.1))), (p2, .inl (cL, 151, .inr (.inl mv.2.2.2.1))), (p3, .inl (cL, 150, .inr (.inl mk.2.1))), (p4, .inl (cL, 150, .inr (.inl mk.2.2.2.1))), (p5, .inl (cI, 151, .inl mv.2.2.1)), (p6, .inl (cI, 151, .inl mv.2.2.2.2)), (p7, .inl (cI, 150, .inl mk.2.2.1)), (p8, .inl (cI, 150, .inl mk.2.2.2.2))]) [0, 1, 2, 3, 4, 5, 6, 7, 8] (by decide) rfl) (ci := 2) (q0 := 0) rfl rfl) rfl rfl hl.1 rfl (lv_room (Nat.le_of_ble_eq_true rfl)) dX2_seek_18 ⟨Nat.le_of_ble_eq_true rfl, Nat.le_of_ble_eq_true rfl⟩) hP hD hS hA [0, 1, 2, 3, 4, 5, 6, 7, 8] [] rfl rfl (by decide) (by decide) (fun r5 u_ H locs hr5 hP hD hS => ?_)
    replace hP := hP.sub (ws' := [(y, .inr (2, [.int (nI mv.1), .int (nI mk.1), .ref p1, .ref p2, .ref p3, .ref p4, .ref p5, .ref p6, .ref p7, .ref p8, .long u_.1, .int u_.2])), (p1, .inl (cL, 151, .inr (.inl mv.2.1))), (p2, .inl (cL, 151, .inr (.inl mv.2.2.2.1))), (p3, .inl (cL, 150, .inr (.inl mk.2.1))), (p4, .inl (cL, 150, .inr (.inl mk.2.2.2.1))), (p5, .inl (cI, 151, .inl mv.2.2.1)), (p6, .inl (cI, 151, .inl mv.2.2.2.2)), (p7, .inl (cI, 150, .inl mk.2.2.1)), (p8, .inl (cI, 150, .inl mk.2.2.2.2))]) [0, 1, 2, 3, 4, 5, 6, 7, 8] rfl
    replace hD := hD.sub (ws' := [(y, .inr (2, [.int (nI mv.1), .int (nI mk.1), .ref p1, .ref p2, .ref p3, .ref p4, .ref p5, .ref p6, .ref p7, .ref p8, .long u_.1, .int u_.2])), (p1, .inl (cL, 151, .inr (.inl mv.2.1))), (p2, .inl (cL, 151, .inr (.inl mv.2.2.2.1))), (p3, .inl (cL, 150, .inr (.inl mk.2.1))), (p4, .inl (cL, 150, .inr (.inl mk.2.2.2.1))), (p5, .inl (cI, 151, .inl mv.2.2.1)), (p6, .inl (cI, 151, .inl mv.2.2.2.2)), (p7, .inl (cI, 150, .inl mk.2.2.1)), (p8, .inl (cI, 150, .inl mk.2.2.2.2))]) [0, 1, 2, 3, 4, 5, 6, 7, 8] (by decide) rfl
    have hnar : narrow .boolean (.int r5) = .int r5 := by rcases hr5 with ⟨_, _, _, rfl, _⟩ | ⟨_, rfl, _⟩ <;> rfl
    exact W.zret (v := r5) hx hb hr (by first | rfl | decide +kernel | assumption) (fun t9 ht hW => ⟨⟨r5, u_, rfl, by first | exact Or.inl ⟨hok, hr5⟩ | exact Or.inr ⟨hok, by rcases hr5 with ⟨i0, h1, h2, _⟩ | ⟨_, h1, h2⟩; exact absurd ⟨i0, h1, h2⟩ (m1_no hm.1); exact ⟨h1, h2⟩⟩, by rw [ht]; exact hP, hD⟩, hS.F ht⟩) hS.2.2 dX2_seek_21
  · skip
    refine lv_if_eq (tgt := 17) hx hb dX2_seek_5 (by decide) (fun c_5 => ?_) (fun c_5 => absurd c_5 (by decide))
    refine lv_iconst (v := (-1)) hx hb dX2_seek_17 (by decide) ?_
    refine wr_calli (wr := []) (va_runV (As := [.int (-1)]) (rest := []) ⟨hx, hb, hml, hown, hts⟩ (m_find l dC dI _ cL cI y p1 p2 p3 p4 p5 p6 p7 p8 mv mk f hm (-1)) (cwV 1 hts gX2_seek_X2_find rfl rfl rfl (by decide +kernel) ⟨Nat.le_of_ble_eq_true rfl, Nat.le_of_ble_eq_true rfl⟩) (wr_preV hK (hP.sub (ws' := [(y, .inr (2, [.int (nI mv.1), .int (nI mk.1), .ref p1, .ref p2, .ref p3, .ref p4, .ref p5, .ref p6, .ref p7, .ref p8, .long f.1, .int f.2])), (p1, .inl (cL, 151, .inr (.inl mv.2.1))), (p2, .inl (cL, 151, .inr (.inl mv.2.2.2.1))), (p3, .inl (cL, 150, .inr (.inl mk.2.1))), (p4, .inl (cL, 150, .inr (.inl mk.2.2.2.1))), (p5, .inl (cI, 151, .inl mv.2.2.1)), (p6, .inl (cI, 151, .inl mv.2.2.2.2)), (p7, .inl (cI, 150, .inl mk.2.2.1)), (p8, .inl (cI, 150, .inl mk.2.2.2.2))]) [0, 1, 2, 3, 4, 5, 6, 7, 8] rfl) (hD.sub (ws' := [(y, .inr (2, [.int (nI mv.1), .int (nI mk.1), .ref p1, .ref p2, .ref p3, .ref p4, .ref p5, .ref p6, .ref p7, .ref p8, .long f.1, .int f.2])), (p1, .inl (cL, 151, .inr (.inl mv.2.1))), (p2, .inl (cL, 151, .inr (.inl mv.2.2.2.1))), (p3, .inl (cL, 150, .inr (.inl mk.2.1))), (p4, .inl (cL, 150, .inr (.inl mk.2.2.2.1))), (p5, .inl (cI, 151, .inl mv.2.2.1)), (p6, .inl (cI, 151, .inl mv.2.2.2.2)), (p7, .inl (cI, 150, .inl mk.2.2.1)), (p8, .inl (cI, 150, .inl mk.2.2.2.2))]) [0, 1, 2, 3, 4, 5, 6, 7, 8] (by decide) rfl) (ci := 2) (q0 := 0) rfl rfl) rfl rfl hl.1 rfl (lv_room (Nat.le_of_ble_eq_true rfl)) dX2_seek_18 ⟨Nat.le_of_ble_eq_true rfl, Nat.le_of_ble_eq_true rfl⟩) hP hD hS hA [0, 1, 2, 3, 4, 5, 6, 7, 8] [] rfl rfl (by decide) (by decide) (fun r5 u_ H locs hr5 hP hD hS => ?_)
    replace hP := hP.sub (ws' := [(y, .inr (2, [.int (nI mv.1), .int (nI mk.1), .ref p1, .ref p2, .ref p3, .ref p4, .ref p5, .ref p6, .ref p7, .ref p8, .long u_.1, .int u_.2])), (p1, .inl (cL, 151, .inr (.inl mv.2.1))), (p2, .inl (cL, 151, .inr (.inl mv.2.2.2.1))), (p3, .inl (cL, 150, .inr (.inl mk.2.1))), (p4, .inl (cL, 150, .inr (.inl mk.2.2.2.1))), (p5, .inl (cI, 151, .inl mv.2.2.1)), (p6, .inl (cI, 151, .inl mv.2.2.2.2)), (p7, .inl (cI, 150, .inl mk.2.2.1)), (p8, .inl (cI, 150, .inl mk.2.2.2.2))]) [0, 1, 2, 3, 4, 5, 6, 7, 8] rfl
    replace hD := hD.sub (ws' := [(y, .inr (2, [.int (nI mv.1), .int (nI mk.1), .ref p1, .ref p2, .ref p3, .ref p4, .ref p5, .ref p6, .ref p7, .ref p8, .long u_.1, .int u_.2])), (p1, .inl (cL, 151, .inr (.inl mv.2.1))), (p2, .inl (cL, 151, .inr (.inl mv.2.2.2.1))), (p3, .inl (cL, 150, .inr (.inl mk.2.1))), (p4, .inl (cL, 150, .inr (.inl mk.2.2.2.1))), (p5, .inl (cI, 151, .inl mv.2.2.1)), (p6, .inl (cI, 151, .inl mv.2.2.2.2)), (p7, .inl (cI, 150, .inl mk.2.2.1)), (p8, .inl (cI, 150, .inl mk.2.2.2.2))]) [0, 1, 2, 3, 4, 5, 6, 7, 8] (by decide) rfl
    have hnar : narrow .boolean (.int r5) = .int r5 := by rcases hr5 with ⟨_, _, _, rfl, _⟩ | ⟨_, rfl, _⟩ <;> rfl
    exact W.zret (v := r5) hx hb hr (by first | rfl | decide +kernel | assumption) (fun t9 ht hW => ⟨⟨r5, u_, rfl, by first | exact Or.inl ⟨hok, hr5⟩ | exact Or.inr ⟨hok, by rcases hr5 with ⟨i0, h1, h2, _⟩ | ⟨_, h1, h2⟩; exact absurd ⟨i0, h1, h2⟩ (m1_no hm.1); exact ⟨h1, h2⟩⟩, by rw [ht]; exact hP, hD⟩, hS.F ht⟩) hS.2.2 dX2_seek_21
set_option maxHeartbeats 4000000 in
set_option maxRecDepth 100000 in
/-- before -/
theorem m_before (l : Launch) (dC : Nat → ClassId) (dI : Nat → Nat → Nat) (hz : Nat) (cL cI : ClassId) (y p1 p2 p3 p4 p5 p6 p7 p8 : Nat) (mv mk : RS) (f : Int64 × Int32) (hm : mok mv) (q : Int64) (t : Int32) (j : Nat) (hj : okK t → mpl mv (hdOf q t) t j) : Met l yX2_before wsX2_before ({ frames := 3, cells := 0, slots := 0, locals := 74 }) (wrP (dC, dI) (kS cL cI) (mW cL cI y p1 p2 p3 p4 p5 p6 p7 p8 mv mk f) [.ref y, .long q, .int t] hz) (va_Qi (fun (z : Int32) (v : Int64 × Int32) => (okK t ∧ mfQ mv (nI j - 1) z v) ∨ (¬ okK t ∧ z = 0 ∧ v = (0, 0))) (wrB (dC, dI) (va_A (mW cL cI y p1 p2 p3 p4 p5 p6 p7 p8 mv mk f) hz) (fun (v : Int64 × Int32) => mW cL cI y p1 p2 p3 p4 p5 p6 p7 p8 mv mk v)) (va_A (mW cL cI y p1 p2 p3 p4 p5 p6 p7 p8 mv mk f) hz)) 0 0 (va_A (mW cL cI y p1 p2 p3 p4 p5 p6 p7 p8 mv mk f) hz) := by
  refine Met.ofW (cc := cX2_before) (maxL := 4) (ret := some .boolean) (by decide) rfl ?_
  intro p e s m args below meth c s₁ B hml hv
  obtain ⟨rfl, hsz, hP, hK, hD0⟩ := hv
  have hx := B.exec
  have hb := B.bytes
  have hr := B.returns
  have hts := atoms_spec (ws := wsX2_before) B.pre
  have hown : s.vm.findClass RX2 = some m.cls := findClass_of_methodNamed B.named
  have hlocks := B.notSynchronized
  subst hsz
  have hD := hD0.self (sz := s.heap.size)
  generalize hAe : va_A (mW cL cI y p1 p2 p3 p4 p5 p6 p7 p8 mv mk f) s.heap.size = A at hD ⊢
  have hA : ∀ q : Nat, s.heap.size ≤ q → A q := fun q h => by rw [← hAe]; exact Or.inr h
  have hS : va_S A s.heap s.heap [] := va_S.rf
  replace hP : va_P (dC, dI) vwCl [(y, .inr (2, [.int (nI mv.1), .int (nI mk.1), .ref p1, .ref p2, .ref p3, .ref p4, .ref p5, .ref p6, .ref p7, .ref p8, .long f.1, .int f.2])), (p1, .inl (cL, 151, .inr (.inl mv.2.1))), (p2, .inl (cL, 151, .inr (.inl mv.2.2.2.1))), (p3, .inl (cL, 150, .inr (.inl mk.2.1))), (p4, .inl (cL, 150, .inr (.inl mk.2.2.2.1))), (p5, .inl (cI, 151, .inl mv.2.2.1)), (p6, .inl (cI, 151, .inl mv.2.2.2.2)), (p7, .inl (cI, 150, .inl mk.2.2.1)), (p8, .inl (cI, 150, .inl mk.2.2.2.2))] s.heap := hP
  replace hD : va_D A [(y, .inr (2, [.int (nI mv.1), .int (nI mk.1), .ref p1, .ref p2, .ref p3, .ref p4, .ref p5, .ref p6, .ref p7, .ref p8, .long f.1, .int f.2])), (p1, .inl (cL, 151, .inr (.inl mv.2.1))), (p2, .inl (cL, 151, .inr (.inl mv.2.2.2.1))), (p3, .inl (cL, 150, .inr (.inl mk.2.1))), (p4, .inl (cL, 150, .inr (.inl mk.2.2.2.1))), (p5, .inl (cI, 151, .inl mv.2.2.1)), (p6, .inl (cI, 151, .inl mv.2.2.2.2)), (p7, .inl (cI, 150, .inl mk.2.2.1)), (p8, .inl (cI, 150, .inl mk.2.2.2.2))] := hD
  have hl := lv_entry ([.ref y, .long q, .int t]) (n := 4) (Nat.le_of_ble_eq_true rfl)
  rw [lg_entry_eq]
  generalize (lg_sl ([.ref y, .long q, .int t]) ++ List.replicate (4 - (lg_sl ([.ref y, .long q, .int t])).length) Slot.unset).toArray = ls at hl ⊢
  replace hl : lv_has ls 4 [(0, .ref y), (1, .long q), (3, .int t)] := hl
  refine lv_aload_n hx hb dX2_before_0 rfl (lv_at hl 0 rfl) ?_
  refine lv_iload_n hx hb dX2_before_1 rfl (lv_at hl 2 rfl) ?_
  refine vp_callSi (va_Run.run (va_runS (As := [.int t]) (rest := [.ref y]) ⟨hx, hb, hml, hown, hts⟩ (c_isSize l t) (va_cwS 1 hts gX2_before_X2_isSize rfl rfl rfl (by decide +kernel) ⟨Nat.le_of_ble_eq_true rfl, Nat.le_of_ble_eq_true rfl⟩) (st_pre) rfl rfl hl.1 rfl (lv_room (Nat.le_of_ble_eq_true rfl)) dX2_before_2 ⟨Nat.le_of_ble_eq_true rfl, Nat.le_of_ble_eq_true rfl⟩)) (fun r1 hr1 => ?_)
  rcases hr1 with ⟨rfl, hok⟩ | ⟨rfl, hok⟩
  · skip
    obtain ⟨nq, nq1, nq8, rfl⟩ := okK_nat hok
    refine lv_if_eq (tgt := 19) hx hb dX2_before_5 (by decide) (fun c_5 => absurd c_5 (by decide)) (fun c_5 => ?_)
    refine lv_aload_n hx hb dX2_before_8 rfl (lv_at hl 0 rfl) ?_
    refine lv_lload_n hx hb dX2_before_9 rfl (lv_at hl 1 rfl) ?_
    refine lv_iload_n hx hb dX2_before_10 rfl (lv_at hl 2 rfl) ?_
    refine vp_callSi (va_Run.run (va_runV (As := [.long q, .int (nI nq)]) (rest := [.ref y]) ⟨hx, hb, hml, hown, hts⟩ (c_place l dC dI cL cI y p1 p2 p3 p4 p5 p6 p7 p8 mv mk f hm q nq nq1 nq8 j (hj hok)) (cwV 2 hts gX2_before_X2_place rfl rfl rfl (by decide +kernel) ⟨Nat.le_of_ble_eq_true rfl, Nat.le_of_ble_eq_true rfl⟩) (rd_preV hK (hP.sub (ws' := [(y, .inr (2, [.int (nI mv.1), .int (nI mk.1), .ref p1, .ref p2, .ref p3, .ref p4, .ref p5, .ref p6, .ref p7, .ref p8, .long f.1, .int f.2])), (p1, .inl (cL, 151, .inr (.inl mv.2.1))), (p2, .inl (cL, 151, .inr (.inl mv.2.2.2.1))), (p3, .inl (cL, 150, .inr (.inl mk.2.1))), (p4, .inl (cL, 150, .inr (.inl mk.2.2.2.1))), (p5, .inl (cI, 151, .inl mv.2.2.1)), (p6, .inl (cI, 151, .inl mv.2.2.2.2)), (p7, .inl (cI, 150, .inl mk.2.2.1)), (p8, .inl (cI, 150, .inl mk.2.2.2.2))]) [0, 1, 2, 3, 4, 5, 6, 7, 8] rfl) (ci := 2) (q0 := 0) rfl rfl) rfl rfl hl.1 rfl (lv_room (Nat.le_of_ble_eq_true rfl)) dX2_before_11 ⟨Nat.le_of_ble_eq_true rfl, Nat.le_of_ble_eq_true rfl⟩)) (fun r2 hr2 => ?_)
    subst hr2
    refine lv_iconst (v := 1) hx hb dX2_before_14 (by decide) ?_
    refine lv_isub hx hb dX2_before_15 ?_
    refine lv_goto (tgt := 20) hx hb dX2_before_16 (by decide) ?_
    refine wr_calli (wr := []) (va_runV (As := [.int ((nI j) - 1)]) (rest := []) ⟨hx, hb, hml, hown, hts⟩ (m_find l dC dI _ cL cI y p1 p2 p3 p4 p5 p6 p7 p8 mv mk f hm ((nI j) - 1)) (cwV 1 hts gX2_before_X2_find rfl rfl rfl (by decide +kernel) ⟨Nat.le_of_ble_eq_true rfl, Nat.le_of_ble_eq_true rfl⟩) (wr_preV hK (hP.sub (ws' := [(y, .inr (2, [.int (nI mv.1), .int (nI mk.1), .ref p1, .ref p2, .ref p3, .ref p4, .ref p5, .ref p6, .ref p7, .ref p8, .long f.1, .int f.2])), (p1, .inl (cL, 151, .inr (.inl mv.2.1))), (p2, .inl (cL, 151, .inr (.inl mv.2.2.2.1))), (p3, .inl (cL, 150, .inr (.inl mk.2.1))), (p4, .inl (cL, 150, .inr (.inl mk.2.2.2.1))), (p5, .inl (cI, 151, .inl mv.2.2.1)), (p6, .inl (cI, 151, .inl mv.2.2.2.2)), (p7, .inl (cI, 150, .inl mk.2.2.1)), (p8, .inl (cI, 150, .inl mk.2.2.2.2))]) [0, 1, 2, 3, 4, 5, 6, 7, 8] rfl) (hD.sub (ws' := [(y, .inr (2, [.int (nI mv.1), .int (nI mk.1), .ref p1, .ref p2, .ref p3, .ref p4, .ref p5, .ref p6, .ref p7, .ref p8, .long f.1, .int f.2])), (p1, .inl (cL, 151, .inr (.inl mv.2.1))), (p2, .inl (cL, 151, .inr (.inl mv.2.2.2.1))), (p3, .inl (cL, 150, .inr (.inl mk.2.1))), (p4, .inl (cL, 150, .inr (.inl mk.2.2.2.1))), (p5, .inl (cI, 151, .inl mv.2.2.1)), (p6, .inl (cI, 151, .inl mv.2.2.2.2)), (p7, .inl (cI, 150, .inl mk.2.2.1)), (p8, .inl (cI, 150, .inl mk.2.2.2.2))]) [0, 1, 2, 3, 4, 5, 6, 7, 8] (by decide) rfl) (ci := 2) (q0 := 0) rfl rfl) rfl rfl hl.1 rfl (lv_room (Nat.le_of_ble_eq_true rfl)) dX2_before_20 ⟨Nat.le_of_ble_eq_true rfl, Nat.le_of_ble_eq_true rfl⟩) hP hD hS hA [0, 1, 2, 3, 4, 5, 6, 7, 8] [] rfl rfl (by decide) (by decide) (fun r5 u_ H locs hr5 hP hD hS => ?_)
    replace hP := hP.sub (ws' := [(y, .inr (2, [.int (nI mv.1), .int (nI mk.1), .ref p1, .ref p2, .ref p3, .ref p4, .ref p5, .ref p6, .ref p7, .ref p8, .long u_.1, .int u_.2])), (p1, .inl (cL, 151, .inr (.inl mv.2.1))), (p2, .inl (cL, 151, .inr (.inl mv.2.2.2.1))), (p3, .inl (cL, 150, .inr (.inl mk.2.1))), (p4, .inl (cL, 150, .inr (.inl mk.2.2.2.1))), (p5, .inl (cI, 151, .inl mv.2.2.1)), (p6, .inl (cI, 151, .inl mv.2.2.2.2)), (p7, .inl (cI, 150, .inl mk.2.2.1)), (p8, .inl (cI, 150, .inl mk.2.2.2.2))]) [0, 1, 2, 3, 4, 5, 6, 7, 8] rfl
    replace hD := hD.sub (ws' := [(y, .inr (2, [.int (nI mv.1), .int (nI mk.1), .ref p1, .ref p2, .ref p3, .ref p4, .ref p5, .ref p6, .ref p7, .ref p8, .long u_.1, .int u_.2])), (p1, .inl (cL, 151, .inr (.inl mv.2.1))), (p2, .inl (cL, 151, .inr (.inl mv.2.2.2.1))), (p3, .inl (cL, 150, .inr (.inl mk.2.1))), (p4, .inl (cL, 150, .inr (.inl mk.2.2.2.1))), (p5, .inl (cI, 151, .inl mv.2.2.1)), (p6, .inl (cI, 151, .inl mv.2.2.2.2)), (p7, .inl (cI, 150, .inl mk.2.2.1)), (p8, .inl (cI, 150, .inl mk.2.2.2.2))]) [0, 1, 2, 3, 4, 5, 6, 7, 8] (by decide) rfl
    have hnar : narrow .boolean (.int r5) = .int r5 := by rcases hr5 with ⟨_, _, _, rfl, _⟩ | ⟨_, rfl, _⟩ <;> rfl
    exact W.zret (v := r5) hx hb hr (by first | rfl | decide +kernel | assumption) (fun t9 ht hW => ⟨⟨r5, u_, rfl, by first | exact Or.inl ⟨hok, hr5⟩ | exact Or.inr ⟨hok, by rcases hr5 with ⟨i0, h1, h2, _⟩ | ⟨_, h1, h2⟩; exact absurd ⟨i0, h1, h2⟩ (m1_no hm.1); exact ⟨h1, h2⟩⟩, by rw [ht]; exact hP, hD⟩, hS.F ht⟩) hS.2.2 dX2_before_23
  · skip
    refine lv_if_eq (tgt := 19) hx hb dX2_before_5 (by decide) (fun c_5 => ?_) (fun c_5 => absurd c_5 (by decide))
    refine lv_iconst (v := (-1)) hx hb dX2_before_19 (by decide) ?_
    refine wr_calli (wr := []) (va_runV (As := [.int (-1)]) (rest := []) ⟨hx, hb, hml, hown, hts⟩ (m_find l dC dI _ cL cI y p1 p2 p3 p4 p5 p6 p7 p8 mv mk f hm (-1)) (cwV 1 hts gX2_before_X2_find rfl rfl rfl (by decide +kernel) ⟨Nat.le_of_ble_eq_true rfl, Nat.le_of_ble_eq_true rfl⟩) (wr_preV hK (hP.sub (ws' := [(y, .inr (2, [.int (nI mv.1), .int (nI mk.1), .ref p1, .ref p2, .ref p3, .ref p4, .ref p5, .ref p6, .ref p7, .ref p8, .long f.1, .int f.2])), (p1, .inl (cL, 151, .inr (.inl mv.2.1))), (p2, .inl (cL, 151, .inr (.inl mv.2.2.2.1))), (p3, .inl (cL, 150, .inr (.inl mk.2.1))), (p4, .inl (cL, 150, .inr (.inl mk.2.2.2.1))), (p5, .inl (cI, 151, .inl mv.2.2.1)), (p6, .inl (cI, 151, .inl mv.2.2.2.2)), (p7, .inl (cI, 150, .inl mk.2.2.1)), (p8, .inl (cI, 150, .inl mk.2.2.2.2))]) [0, 1, 2, 3, 4, 5, 6, 7, 8] rfl) (hD.sub (ws' := [(y, .inr (2, [.int (nI mv.1), .int (nI mk.1), .ref p1, .ref p2, .ref p3, .ref p4, .ref p5, .ref p6, .ref p7, .ref p8, .long f.1, .int f.2])), (p1, .inl (cL, 151, .inr (.inl mv.2.1))), (p2, .inl (cL, 151, .inr (.inl mv.2.2.2.1))), (p3, .inl (cL, 150, .inr (.inl mk.2.1))), (p4, .inl (cL, 150, .inr (.inl mk.2.2.2.1))), (p5, .inl (cI, 151, .inl mv.2.2.1)), (p6, .inl (cI, 151, .inl mv.2.2.2.2)), (p7, .inl (cI, 150, .inl mk.2.2.1)), (p8, .inl (cI, 150, .inl mk.2.2.2.2))]) [0, 1, 2, 3, 4, 5, 6, 7, 8] (by decide) rfl) (ci := 2) (q0 := 0) rfl rfl) rfl rfl hl.1 rfl (lv_room (Nat.le_of_ble_eq_true rfl)) dX2_before_20 ⟨Nat.le_of_ble_eq_true rfl, Nat.le_of_ble_eq_true rfl⟩) hP hD hS hA [0, 1, 2, 3, 4, 5, 6, 7, 8] [] rfl rfl (by decide) (by decide) (fun r5 u_ H locs hr5 hP hD hS => ?_)
    replace hP := hP.sub (ws' := [(y, .inr (2, [.int (nI mv.1), .int (nI mk.1), .ref p1, .ref p2, .ref p3, .ref p4, .ref p5, .ref p6, .ref p7, .ref p8, .long u_.1, .int u_.2])), (p1, .inl (cL, 151, .inr (.inl mv.2.1))), (p2, .inl (cL, 151, .inr (.inl mv.2.2.2.1))), (p3, .inl (cL, 150, .inr (.inl mk.2.1))), (p4, .inl (cL, 150, .inr (.inl mk.2.2.2.1))), (p5, .inl (cI, 151, .inl mv.2.2.1)), (p6, .inl (cI, 151, .inl mv.2.2.2.2)), (p7, .inl (cI, 150, .inl mk.2.2.1)), (p8, .inl (cI, 150, .inl mk.2.2.2.2))]) [0, 1, 2, 3, 4, 5, 6, 7, 8] rfl
    replace hD := hD.sub (ws' := [(y, .inr (2, [.int (nI mv.1), .int (nI mk.1), .ref p1, .ref p2, .ref p3, .ref p4, .ref p5, .ref p6, .ref p7, .ref p8, .long u_.1, .int u_.2])), (p1, .inl (cL, 151, .inr (.inl mv.2.1))), (p2, .inl (cL, 151, .inr (.inl mv.2.2.2.1))), (p3, .inl (cL, 150, .inr (.inl mk.2.1))), (p4, .inl (cL, 150, .inr (.inl mk.2.2.2.1))), (p5, .inl (cI, 151, .inl mv.2.2.1)), (p6, .inl (cI, 151, .inl mv.2.2.2.2)), (p7, .inl (cI, 150, .inl mk.2.2.1)), (p8, .inl (cI, 150, .inl mk.2.2.2.2))]) [0, 1, 2, 3, 4, 5, 6, 7, 8] (by decide) rfl
    have hnar : narrow .boolean (.int r5) = .int r5 := by rcases hr5 with ⟨_, _, _, rfl, _⟩ | ⟨_, rfl, _⟩ <;> rfl
    exact W.zret (v := r5) hx hb hr (by first | rfl | decide +kernel | assumption) (fun t9 ht hW => ⟨⟨r5, u_, rfl, by first | exact Or.inl ⟨hok, hr5⟩ | exact Or.inr ⟨hok, by rcases hr5 with ⟨i0, h1, h2, _⟩ | ⟨_, h1, h2⟩; exact absurd ⟨i0, h1, h2⟩ (m1_no hm.1); exact ⟨h1, h2⟩⟩, by rw [ht]; exact hP, hD⟩, hS.F ht⟩) hS.2.2 dX2_before_23
end
section
theorem okT_nat {t : Int32} (h : okT t) : ∃ n, n ≤ 8 ∧ t = nI n := by
  obtain ⟨h1, h2⟩ := h
  have e8 : (8 : Int32).toInt = 8 := by decide
  rw [Int32.lt_iff_toInt_lt, e8] at h2
  obtain ⟨j, hj, rfl⟩ := nI_of h1
  rw [nI_toInt hj] at h2
  exact ⟨j, by omega, rfl⟩
set_option maxHeartbeats 4000000 in
set_option maxRecDepth 100000 in
/-- put -/
theorem m_put (l : Launch) (dC : Nat → ClassId) (dI : Nat → Nat → Nat) (hz : Nat) (cL cI : ClassId) (y p1 p2 p3 p4 p5 p6 p7 p8 : Nat) (mv mk : RS) (f : Int64 × Int32) (hm : mok mv) (q : Int64) (t : Int32) (b : Int64) (n : Int32) (j : Nat) (hj : okK t → mpl mv (hdOf q t) t j) : Met l yX2_put wsX2_put ({ frames := 3, cells := 0, slots := 0, locals := 74 }) (wrP (dC, dI) (kS cL cI) (mW cL cI y p1 p2 p3 p4 p5 p6 p7 p8 mv mk f) [.ref y, .long q, .int t, .long b, .int n] hz) (va_Qi (fun (z : Int32) (v : RS) => (okK t ∧ okT n ∧ msQ mv j (hdOf q t) (lowB q t) t (lowB b n) n z v) ∨ (¬ (okK t ∧ okT n) ∧ z = 0 ∧ v = mv)) (wrB (dC, dI) (va_A (mW cL cI y p1 p2 p3 p4 p5 p6 p7 p8 mv mk f) hz) (fun (v : RS) => mW cL cI y p1 p2 p3 p4 p5 p6 p7 p8 v mk f)) (va_A (mW cL cI y p1 p2 p3 p4 p5 p6 p7 p8 mv mk f) hz)) 0 0 (va_A (mW cL cI y p1 p2 p3 p4 p5 p6 p7 p8 mv mk f) hz) := by
  refine Met.ofW (cc := cX2_put) (maxL := 9) (ret := some .boolean) (by decide) rfl ?_
  intro p e s m args below meth c s₁ B hml hv
  obtain ⟨rfl, hsz, hP, hK, hD0⟩ := hv
  have hx := B.exec
  have hb := B.bytes
  have hr := B.returns
  have hts := atoms_spec (ws := wsX2_put) B.pre
  have hown : s.vm.findClass RX2 = some m.cls := findClass_of_methodNamed B.named
  have hlocks := B.notSynchronized
  subst hsz
  have hD := hD0.self (sz := s.heap.size)
  generalize hAe : va_A (mW cL cI y p1 p2 p3 p4 p5 p6 p7 p8 mv mk f) s.heap.size = A at hD ⊢
  have hA : ∀ q : Nat, s.heap.size ≤ q → A q := fun q h => by rw [← hAe]; exact Or.inr h
  have hS : va_S A s.heap s.heap [] := va_S.rf
  replace hP : va_P (dC, dI) vwCl [(y, .inr (2, [.int (nI mv.1), .int (nI mk.1), .ref p1, .ref p2, .ref p3, .ref p4, .ref p5, .ref p6, .ref p7, .ref p8, .long f.1, .int f.2])), (p1, .inl (cL, 151, .inr (.inl mv.2.1))), (p2, .inl (cL, 151, .inr (.inl mv.2.2.2.1))), (p3, .inl (cL, 150, .inr (.inl mk.2.1))), (p4, .inl (cL, 150, .inr (.inl mk.2.2.2.1))), (p5, .inl (cI, 151, .inl mv.2.2.1)), (p6, .inl (cI, 151, .inl mv.2.2.2.2)), (p7, .inl (cI, 150, .inl mk.2.2.1)), (p8, .inl (cI, 150, .inl mk.2.2.2.2))] s.heap := hP
  replace hD : va_D A [(y, .inr (2, [.int (nI mv.1), .int (nI mk.1), .ref p1, .ref p2, .ref p3, .ref p4, .ref p5, .ref p6, .ref p7, .ref p8, .long f.1, .int f.2])), (p1, .inl (cL, 151, .inr (.inl mv.2.1))), (p2, .inl (cL, 151, .inr (.inl mv.2.2.2.1))), (p3, .inl (cL, 150, .inr (.inl mk.2.1))), (p4, .inl (cL, 150, .inr (.inl mk.2.2.2.1))), (p5, .inl (cI, 151, .inl mv.2.2.1)), (p6, .inl (cI, 151, .inl mv.2.2.2.2)), (p7, .inl (cI, 150, .inl mk.2.2.1)), (p8, .inl (cI, 150, .inl mk.2.2.2.2))] := hD
  clear hD0
  refine w_gen _ _ (fun H locs hH hlo => ?_)
  replace hP : va_P (dC, dI) vwCl [(y, .inr (2, [.int (nI mv.1), .int (nI mk.1), .ref p1, .ref p2, .ref p3, .ref p4, .ref p5, .ref p6, .ref p7, .ref p8, .long f.1, .int f.2])), (p1, .inl (cL, 151, .inr (.inl mv.2.1))), (p2, .inl (cL, 151, .inr (.inl mv.2.2.2.1))), (p3, .inl (cL, 150, .inr (.inl mk.2.1))), (p4, .inl (cL, 150, .inr (.inl mk.2.2.2.1))), (p5, .inl (cI, 151, .inl mv.2.2.1)), (p6, .inl (cI, 151, .inl mv.2.2.2.2)), (p7, .inl (cI, 150, .inl mk.2.2.1)), (p8, .inl (cI, 150, .inl mk.2.2.2.2))] H := by rw [hH]; exact hP
  replace hS : va_S A s.heap H locs := by rw [hH, hlo]; exact hS
  clear hH hlo
  have hl := lv_entry ([.ref y, .long q, .int t, .long b, .int n]) (n := 9) (Nat.le_of_ble_eq_true rfl)
  rw [lg_entry_eq]
  generalize (lg_sl ([.ref y, .long q, .int t, .long b, .int n]) ++ List.replicate (9 - (lg_sl ([.ref y, .long q, .int t, .long b, .int n])).length) Slot.unset).toArray = ls at hl ⊢
  replace hl : lv_has ls 9 [(0, .ref y), (1, .long q), (3, .int t), (4, .long b), (6, .int n)] := hl
  refine lv_iload_n hx hb dX2_put_0 rfl (lv_at hl 2 rfl) ?_
  refine vp_callSi (va_Run.run (va_runS (As := [.int t]) (rest := []) ⟨hx, hb, hml, hown, hts⟩ (c_isSize l t) (va_cwS 1 hts gX2_put_X2_isSize rfl rfl rfl (by decide +kernel) ⟨Nat.le_of_ble_eq_true rfl, Nat.le_of_ble_eq_true rfl⟩) (st_pre) rfl rfl hl.1 rfl (lv_room (Nat.le_of_ble_eq_true rfl)) dX2_put_1 ⟨Nat.le_of_ble_eq_true rfl, Nat.le_of_ble_eq_true rfl⟩)) (fun r1 hr1 => ?_)
  rcases hr1 with ⟨rfl, hok⟩ | ⟨rfl, hok⟩
  · skip
    obtain ⟨nq, nq1, nq8, rfl⟩ := okK_nat hok
    refine lv_if_eq (tgt := 19) hx hb dX2_put_4 (by decide) (fun c_4 => absurd c_4 (by decide)) (fun c_4 => ?_)
    refine lv_iload hx hb dX2_put_7 (lv_at hl 4 rfl) ?_
    refine lv_if_lt (tgt := 19) hx hb dX2_put_9 (by decide) (fun c_9 => ?_) (fun c_9 => ?_)
    · skip
      have hbad : ¬ (okK (nI nq) ∧ okT n) := fun g => g.2.1 c_9
      refine lv_iconst (v := 0) hx hb dX2_put_19 (by decide) ?_
      exact W.zret (v := 0) hx hb hr rfl (fun t9 ht hW => ⟨⟨0, mv, rfl, Or.inr ⟨hbad, rfl, rfl⟩, by rw [ht]; exact hP, hD⟩, hS.F ht⟩) hS.2.2 dX2_put_20
    · skip
      refine lv_iload hx hb dX2_put_12 (lv_at hl 4 rfl) ?_
      refine lv_bipush (v := 8) hx hb dX2_put_14 (by decide) ?_
      refine lv_icmp_le (tgt := 21) hx hb dX2_put_16 (by decide) (fun c_16 => ?_) (fun c_16 => ?_)
      · skip
        have hokT : okT n := ⟨c_9, Int32.not_lt.mpr c_16⟩
        obtain ⟨nt, nt8, rfl⟩ := okT_nat hokT
        refine lv_aload_n hx hb dX2_put_21 rfl (lv_at hl 0 rfl) ?_
        refine lv_lload_n hx hb dX2_put_22 rfl (lv_at hl 1 rfl) ?_
        refine lv_iload_n hx hb dX2_put_23 rfl (lv_at hl 2 rfl) ?_
        refine vp_callSi (va_Run.run (va_runV (As := [.long q, .int (nI nq)]) (rest := []) ⟨hx, hb, hml, hown, hts⟩ (c_place l dC dI cL cI y p1 p2 p3 p4 p5 p6 p7 p8 mv mk f hm q nq nq1 nq8 j (hj hok)) (cwV 2 hts gX2_put_X2_place rfl rfl rfl (by decide +kernel) ⟨Nat.le_of_ble_eq_true rfl, Nat.le_of_ble_eq_true rfl⟩) (rd_preV hK (hP.sub (ws' := [(y, .inr (2, [.int (nI mv.1), .int (nI mk.1), .ref p1, .ref p2, .ref p3, .ref p4, .ref p5, .ref p6, .ref p7, .ref p8, .long f.1, .int f.2])), (p1, .inl (cL, 151, .inr (.inl mv.2.1))), (p2, .inl (cL, 151, .inr (.inl mv.2.2.2.1))), (p3, .inl (cL, 150, .inr (.inl mk.2.1))), (p4, .inl (cL, 150, .inr (.inl mk.2.2.2.1))), (p5, .inl (cI, 151, .inl mv.2.2.1)), (p6, .inl (cI, 151, .inl mv.2.2.2.2)), (p7, .inl (cI, 150, .inl mk.2.2.1)), (p8, .inl (cI, 150, .inl mk.2.2.2.2))]) [0, 1, 2, 3, 4, 5, 6, 7, 8] rfl) (ci := 2) (q0 := 0) rfl rfl) rfl rfl hl.1 rfl (lv_room (Nat.le_of_ble_eq_true rfl)) dX2_put_24 ⟨Nat.le_of_ble_eq_true rfl, Nat.le_of_ble_eq_true rfl⟩)) (fun r2 hr2 => ?_)
        subst hr2
        refine lv_istore (lv' := [(7, .int (nI j)), (0, .ref y), (1, .long q), (3, .int (nI nq)), (4, .long b), (6, .int (nI nt))]) hx hb dX2_put_27 hl (by decide) rfl (fun ls hl => ?_)
        refine lv_aload_n hx hb dX2_put_29 rfl (lv_at hl 1 rfl) ?_
        refine lv_iload hx hb dX2_put_30 (lv_at hl 0 rfl) ?_
        refine lv_lload_n hx hb dX2_put_32 rfl (lv_at hl 2 rfl) ?_
        refine lv_iload_n hx hb dX2_put_33 rfl (lv_at hl 3 rfl) ?_
        refine vp_callSi (va_Run.run (va_runV (As := [.int (nI j), .long q, .int (nI nq)]) (rest := []) ⟨hx, hb, hml, hown, hts⟩ (c_isAt l dC dI cL cI y p1 p2 p3 p4 p5 p6 p7 p8 mv mk f hm j (hj hok).1 q (nI nq) (fun _ => hok)) (cwV 3 hts gX2_put_X2_isAt rfl rfl rfl (by decide +kernel) ⟨Nat.le_of_ble_eq_true rfl, Nat.le_of_ble_eq_true rfl⟩) (rd_preV hK (hP.sub (ws' := [(y, .inr (2, [.int (nI mv.1), .int (nI mk.1), .ref p1, .ref p2, .ref p3, .ref p4, .ref p5, .ref p6, .ref p7, .ref p8, .long f.1, .int f.2])), (p1, .inl (cL, 151, .inr (.inl mv.2.1))), (p2, .inl (cL, 151, .inr (.inl mv.2.2.2.1))), (p3, .inl (cL, 150, .inr (.inl mk.2.1))), (p4, .inl (cL, 150, .inr (.inl mk.2.2.2.1))), (p5, .inl (cI, 151, .inl mv.2.2.1)), (p6, .inl (cI, 151, .inl mv.2.2.2.2)), (p7, .inl (cI, 150, .inl mk.2.2.1)), (p8, .inl (cI, 150, .inl mk.2.2.2.2))]) [0, 1, 2, 3, 4, 5, 6, 7, 8] rfl) (ci := 2) (q0 := 0) rfl rfl) rfl rfl hl.1 rfl (lv_room (Nat.le_of_ble_eq_true rfl)) dX2_put_34 ⟨Nat.le_of_ble_eq_true rfl, Nat.le_of_ble_eq_true rfl⟩)) (fun r3 hr3 => ?_)
        rcases hr3 with ⟨rfl, hh⟩ | ⟨rfl, hh⟩
        · skip
          have hju : j < mv.1 := hh.1
          have hm1 := hm.1
          refine lv_if_ne (tgt := 145) hx hb dX2_put_37 (by decide) (fun c_37 => ?_) (fun c_37 => absurd c_37 (by decide))
          refine lv_aload_n hx hb dX2_put_145 rfl (lv_at hl 1 rfl) ?_
          refine va_get (D := (dC, dI)) (ci := 2) (v := .ref p1) (C := RX2) (T := TX2) (N := 12) hx hb hts i_X2_put_X2 hown hK hP 0 rfl rfl 2 (by decide) (hts (.fieldLink RX2 7 "BlockTreeModel" "key" "[J") (by decide +kernel)) (fun _ h9 => h9) rfl dX2_put_146 ?_
          refine lv_iload hx hb dX2_put_149 (lv_at hl 0 rfl) ?_
          refine lv_lload_n hx hb dX2_put_151 rfl (lv_at hl 2 rfl) ?_
          refine lv_iload_n hx hb dX2_put_152 rfl (lv_at hl 3 rfl) ?_
          refine vp_callSl (va_Run.run (va_runS (As := [.long q, .int (nI nq)]) (rest := [.int (nI j), .ref p1]) ⟨hx, hb, hml, hown, hts⟩ (c_cut l q nq nq8) (va_cwS 2 hts gX2_put_X2_cut rfl rfl rfl (by decide +kernel) ⟨Nat.le_of_ble_eq_true rfl, Nat.le_of_ble_eq_true rfl⟩) (st_pre) rfl rfl hl.1 rfl (lv_room (Nat.le_of_ble_eq_true rfl)) dX2_put_153 ⟨Nat.le_of_ble_eq_true rfl, Nat.le_of_ble_eq_true rfl⟩)) (fun rc hrc => ?_)
          subst hrc
          refine va_last hx hb hK hP hD hS 1 0 rfl rfl (vp_in_nI (by omega) (by omega)) dX2_put_156 (fun H locs hP hD hS => ?_)
          rw [show ((nI j)).toNatClampNeg = j from (nI_clamp (by omega))] at hP hD
          replace hP : va_P (dC, dI) vwCl [(y, .inr (2, [.int (nI mv.1), .int (nI mk.1), .ref p1, .ref p2, .ref p3, .ref p4, .ref p5, .ref p6, .ref p7, .ref p8, .long f.1, .int f.2])), (p1, .inl (cL, 151, .inr (.inl (vp_updL mv.2.1 j (lowB q (nI nq)))))), (p2, .inl (cL, 151, .inr (.inl mv.2.2.2.1))), (p3, .inl (cL, 150, .inr (.inl mk.2.1))), (p4, .inl (cL, 150, .inr (.inl mk.2.2.2.1))), (p5, .inl (cI, 151, .inl mv.2.2.1)), (p6, .inl (cI, 151, .inl mv.2.2.2.2)), (p7, .inl (cI, 150, .inl mk.2.2.1)), (p8, .inl (cI, 150, .inl mk.2.2.2.2))] H := hP
          replace hD : va_D A [(y, .inr (2, [.int (nI mv.1), .int (nI mk.1), .ref p1, .ref p2, .ref p3, .ref p4, .ref p5, .ref p6, .ref p7, .ref p8, .long f.1, .int f.2])), (p1, .inl (cL, 151, .inr (.inl (vp_updL mv.2.1 j (lowB q (nI nq)))))), (p2, .inl (cL, 151, .inr (.inl mv.2.2.2.1))), (p3, .inl (cL, 150, .inr (.inl mk.2.1))), (p4, .inl (cL, 150, .inr (.inl mk.2.2.2.1))), (p5, .inl (cI, 151, .inl mv.2.2.1)), (p6, .inl (cI, 151, .inl mv.2.2.2.2)), (p7, .inl (cI, 150, .inl mk.2.2.1)), (p8, .inl (cI, 150, .inl mk.2.2.2.2))] := hD
          refine lv_aload_n hx hb dX2_put_157 rfl (lv_at hl 1 rfl) ?_
          refine va_get (D := (dC, dI)) (ci := 2) (v := .ref p5) (C := RX2) (T := TX2) (N := 12) hx hb hts i_X2_put_X2 hown hK hP 0 rfl rfl 6 (by decide) (hts (.fieldLink RX2 22 "BlockTreeModel" "size" "[I") (by decide +kernel)) (fun _ h9 => h9) rfl dX2_put_158 ?_
          refine lv_iload hx hb dX2_put_161 (lv_at hl 0 rfl) ?_
          refine lv_iload_n hx hb dX2_put_163 rfl (lv_at hl 3 rfl) ?_
          refine va_iast hx hb hK hP hD hS 5 1 rfl rfl (vp_in_nI (by omega) (by omega)) dX2_put_164 (fun H locs hP hD hS => ?_)
          rw [show ((nI j)).toNatClampNeg = j from (nI_clamp (by omega))] at hP hD
          replace hP : va_P (dC, dI) vwCl [(y, .inr (2, [.int (nI mv.1), .int (nI mk.1), .ref p1, .ref p2, .ref p3, .ref p4, .ref p5, .ref p6, .ref p7, .ref p8, .long f.1, .int f.2])), (p1, .inl (cL, 151, .inr (.inl (vp_updL mv.2.1 j (lowB q (nI nq)))))), (p2, .inl (cL, 151, .inr (.inl mv.2.2.2.1))), (p3, .inl (cL, 150, .inr (.inl mk.2.1))), (p4, .inl (cL, 150, .inr (.inl mk.2.2.2.1))), (p5, .inl (cI, 151, .inl (upd mv.2.2.1 j (nI nq)))), (p6, .inl (cI, 151, .inl mv.2.2.2.2)), (p7, .inl (cI, 150, .inl mk.2.2.1)), (p8, .inl (cI, 150, .inl mk.2.2.2.2))] H := hP
          replace hD : va_D A [(y, .inr (2, [.int (nI mv.1), .int (nI mk.1), .ref p1, .ref p2, .ref p3, .ref p4, .ref p5, .ref p6, .ref p7, .ref p8, .long f.1, .int f.2])), (p1, .inl (cL, 151, .inr (.inl (vp_updL mv.2.1 j (lowB q (nI nq)))))), (p2, .inl (cL, 151, .inr (.inl mv.2.2.2.1))), (p3, .inl (cL, 150, .inr (.inl mk.2.1))), (p4, .inl (cL, 150, .inr (.inl mk.2.2.2.1))), (p5, .inl (cI, 151, .inl (upd mv.2.2.1 j (nI nq)))), (p6, .inl (cI, 151, .inl mv.2.2.2.2)), (p7, .inl (cI, 150, .inl mk.2.2.1)), (p8, .inl (cI, 150, .inl mk.2.2.2.2))] := hD
          refine lv_aload_n hx hb dX2_put_165 rfl (lv_at hl 1 rfl) ?_
          refine va_get (D := (dC, dI)) (ci := 2) (v := .ref p2) (C := RX2) (T := TX2) (N := 12) hx hb hts i_X2_put_X2 hown hK hP 0 rfl rfl 3 (by decide) (hts (.fieldLink RX2 13 "BlockTreeModel" "text" "[J") (by decide +kernel)) (fun _ h9 => h9) rfl dX2_put_166 ?_
          refine lv_iload hx hb dX2_put_169 (lv_at hl 0 rfl) ?_
          refine lv_lload hx hb dX2_put_171 (lv_at hl 4 rfl) ?_
          refine lv_iload hx hb dX2_put_173 (lv_at hl 5 rfl) ?_
          refine vp_callSl (va_Run.run (va_runS (As := [.long b, .int (nI nt)]) (rest := [.int (nI j), .ref p2]) ⟨hx, hb, hml, hown, hts⟩ (c_cut l b nt nt8) (va_cwS 2 hts gX2_put_X2_cut rfl rfl rfl (by decide +kernel) ⟨Nat.le_of_ble_eq_true rfl, Nat.le_of_ble_eq_true rfl⟩) (st_pre) rfl rfl hl.1 rfl (lv_room (Nat.le_of_ble_eq_true rfl)) dX2_put_175 ⟨Nat.le_of_ble_eq_true rfl, Nat.le_of_ble_eq_true rfl⟩)) (fun rd hrd => ?_)
          subst hrd
          refine va_last hx hb hK hP hD hS 2 0 rfl rfl (vp_in_nI (by omega) (by omega)) dX2_put_178 (fun H locs hP hD hS => ?_)
          rw [show ((nI j)).toNatClampNeg = j from (nI_clamp (by omega))] at hP hD
          replace hP : va_P (dC, dI) vwCl [(y, .inr (2, [.int (nI mv.1), .int (nI mk.1), .ref p1, .ref p2, .ref p3, .ref p4, .ref p5, .ref p6, .ref p7, .ref p8, .long f.1, .int f.2])), (p1, .inl (cL, 151, .inr (.inl (vp_updL mv.2.1 j (lowB q (nI nq)))))), (p2, .inl (cL, 151, .inr (.inl (vp_updL mv.2.2.2.1 j (lowB b (nI nt)))))), (p3, .inl (cL, 150, .inr (.inl mk.2.1))), (p4, .inl (cL, 150, .inr (.inl mk.2.2.2.1))), (p5, .inl (cI, 151, .inl (upd mv.2.2.1 j (nI nq)))), (p6, .inl (cI, 151, .inl mv.2.2.2.2)), (p7, .inl (cI, 150, .inl mk.2.2.1)), (p8, .inl (cI, 150, .inl mk.2.2.2.2))] H := hP
          replace hD : va_D A [(y, .inr (2, [.int (nI mv.1), .int (nI mk.1), .ref p1, .ref p2, .ref p3, .ref p4, .ref p5, .ref p6, .ref p7, .ref p8, .long f.1, .int f.2])), (p1, .inl (cL, 151, .inr (.inl (vp_updL mv.2.1 j (lowB q (nI nq)))))), (p2, .inl (cL, 151, .inr (.inl (vp_updL mv.2.2.2.1 j (lowB b (nI nt)))))), (p3, .inl (cL, 150, .inr (.inl mk.2.1))), (p4, .inl (cL, 150, .inr (.inl mk.2.2.2.1))), (p5, .inl (cI, 151, .inl (upd mv.2.2.1 j (nI nq)))), (p6, .inl (cI, 151, .inl mv.2.2.2.2)), (p7, .inl (cI, 150, .inl mk.2.2.1)), (p8, .inl (cI, 150, .inl mk.2.2.2.2))] := hD
          refine lv_aload_n hx hb dX2_put_179 rfl (lv_at hl 1 rfl) ?_
          refine va_get (D := (dC, dI)) (ci := 2) (v := .ref p6) (C := RX2) (T := TX2) (N := 12) hx hb hts i_X2_put_X2 hown hK hP 0 rfl rfl 7 (by decide) (hts (.fieldLink RX2 26 "BlockTreeModel" "length" "[I") (by decide +kernel)) (fun _ h9 => h9) rfl dX2_put_180 ?_
          refine lv_iload hx hb dX2_put_183 (lv_at hl 0 rfl) ?_
          refine lv_iload hx hb dX2_put_185 (lv_at hl 5 rfl) ?_
          refine va_iast hx hb hK hP hD hS 6 1 rfl rfl (vp_in_nI (by omega) (by omega)) dX2_put_187 (fun H locs hP hD hS => ?_)
          rw [show ((nI j)).toNatClampNeg = j from (nI_clamp (by omega))] at hP hD
          replace hP : va_P (dC, dI) vwCl [(y, .inr (2, [.int (nI mv.1), .int (nI mk.1), .ref p1, .ref p2, .ref p3, .ref p4, .ref p5, .ref p6, .ref p7, .ref p8, .long f.1, .int f.2])), (p1, .inl (cL, 151, .inr (.inl (vp_updL mv.2.1 j (lowB q (nI nq)))))), (p2, .inl (cL, 151, .inr (.inl (vp_updL mv.2.2.2.1 j (lowB b (nI nt)))))), (p3, .inl (cL, 150, .inr (.inl mk.2.1))), (p4, .inl (cL, 150, .inr (.inl mk.2.2.2.1))), (p5, .inl (cI, 151, .inl (upd mv.2.2.1 j (nI nq)))), (p6, .inl (cI, 151, .inl (upd mv.2.2.2.2 j (nI nt)))), (p7, .inl (cI, 150, .inl mk.2.2.1)), (p8, .inl (cI, 150, .inl mk.2.2.2.2))] H := hP
          replace hD : va_D A [(y, .inr (2, [.int (nI mv.1), .int (nI mk.1), .ref p1, .ref p2, .ref p3, .ref p4, .ref p5, .ref p6, .ref p7, .ref p8, .long f.1, .int f.2])), (p1, .inl (cL, 151, .inr (.inl (vp_updL mv.2.1 j (lowB q (nI nq)))))), (p2, .inl (cL, 151, .inr (.inl (vp_updL mv.2.2.2.1 j (lowB b (nI nt)))))), (p3, .inl (cL, 150, .inr (.inl mk.2.1))), (p4, .inl (cL, 150, .inr (.inl mk.2.2.2.1))), (p5, .inl (cI, 151, .inl (upd mv.2.2.1 j (nI nq)))), (p6, .inl (cI, 151, .inl (upd mv.2.2.2.2 j (nI nt)))), (p7, .inl (cI, 150, .inl mk.2.2.1)), (p8, .inl (cI, 150, .inl mk.2.2.2.2))] := hD
          refine lv_iconst (v := 1) hx hb dX2_put_188 (by decide) ?_
          exact W.zret (v := 1) hx hb hr rfl (fun t9 ht hW => ⟨⟨1, rs_put mv j (lowB q (nI nq)) (nI nq) (lowB b (nI nt)) (nI nt), rfl, Or.inl ⟨hok, hokT, Or.inl ⟨hh, rfl, rfl⟩⟩, by rw [ht]; exact hP, hD⟩, hS.F ht⟩) hS.2.2 dX2_put_189
        · skip
          have hju : j ≤ mv.1 := (hj hok).1
          have hm1 := hm.1
          refine lv_if_ne (tgt := 145) hx hb dX2_put_37 (by decide) (fun c_37 => absurd c_37 (by decide)) (fun c_37 => ?_)
          refine lv_aload_n hx hb dX2_put_40 rfl (lv_at hl 1 rfl) ?_
          refine va_get (D := (dC, dI)) (ci := 2) (v := .int (nI mv.1)) (C := RX2) (T := TX2) (N := 12) hx hb hts i_X2_put_X2 hown hK hP 0 rfl rfl 0 (by decide) (hts (.fieldLink RX2 41 "BlockTreeModel" "many" "I") (by decide +kernel)) (fun _ h9 => h9) rfl dX2_put_41 ?_
          refine lv_sipush (v := 150) hx hb dX2_put_44 (by decide) ?_
          refine lv_icmp_ne (tgt := 52) hx hb dX2_put_47 (by decide) (fun c_47 => ?_) (fun c_47 => ?_)
          · skip
            have hlt : mv.1 < 150 := by
              rcases Nat.lt_or_ge mv.1 150 with q2 | q2
              · exact q2
              · exact absurd (by rw [show mv.1 = 150 by omega]; rfl) c_47
            refine lv_aload_n hx hb dX2_put_52 rfl (lv_at hl 1 rfl) ?_
            refine va_get (D := (dC, dI)) (ci := 2) (v := .int (nI mv.1)) (C := RX2) (T := TX2) (N := 12) hx hb hts i_X2_put_X2 hown hK hP 0 rfl rfl 0 (by decide) (hts (.fieldLink RX2 41 "BlockTreeModel" "many" "I") (by decide +kernel)) (fun _ h9 => h9) rfl dX2_put_53 ?_
            refine lv_istore (lv' := [(8, .int (nI mv.1)), (7, .int (nI j)), (0, .ref y), (1, .long q), (3, .int (nI nq)), (4, .long b), (6, .int (nI nt))]) hx hb dX2_put_56 hl (by decide) rfl (fun ls hl => ?_)
            obtain ⟨w, hw⟩ : ∃ w : Nat, w = mv.1 := ⟨_, rfl⟩
            obtain ⟨g, hg⟩ : ∃ g : Nat, w = j + g := ⟨mv.1 - j, by omega⟩
            have hwm : w ≤ mv.1 := by omega
            replace hl : lv_has ls 9 [(0, .ref y), (1, .long q), (3, .int (nI nq)), (4, .long b), (6, .int (nI nt)), (7, .int (nI j)), (8, .int (nI w))] := by rw [hw]; exact lv_sub hl [2, 3, 4, 5, 6, 1, 0] rfl
            replace hP : va_P (dC, dI) vwCl [(y, .inr (2, [.int (nI mv.1), .int (nI mk.1), .ref p1, .ref p2, .ref p3, .ref p4, .ref p5, .ref p6, .ref p7, .ref p8, .long f.1, .int f.2])), (p1, .inl (cL, 151, .inr (.inl (opn mv.2.1 w mv.1)))), (p2, .inl (cL, 151, .inr (.inl (opn mv.2.2.2.1 w mv.1)))), (p3, .inl (cL, 150, .inr (.inl mk.2.1))), (p4, .inl (cL, 150, .inr (.inl mk.2.2.2.1))), (p5, .inl (cI, 151, .inl (opn mv.2.2.1 w mv.1))), (p6, .inl (cI, 151, .inl (opn mv.2.2.2.2 w mv.1))), (p7, .inl (cI, 150, .inl mk.2.2.1)), (p8, .inl (cI, 150, .inl mk.2.2.2.2))] H := by rw [hw, opn_full, opn_full, opn_full, opn_full]; exact hP
            replace hD : va_D A [(y, .inr (2, [.int (nI mv.1), .int (nI mk.1), .ref p1, .ref p2, .ref p3, .ref p4, .ref p5, .ref p6, .ref p7, .ref p8, .long f.1, .int f.2])), (p1, .inl (cL, 151, .inr (.inl (opn mv.2.1 w mv.1)))), (p2, .inl (cL, 151, .inr (.inl (opn mv.2.2.2.1 w mv.1)))), (p3, .inl (cL, 150, .inr (.inl mk.2.1))), (p4, .inl (cL, 150, .inr (.inl mk.2.2.2.1))), (p5, .inl (cI, 151, .inl (opn mv.2.2.1 w mv.1))), (p6, .inl (cI, 151, .inl (opn mv.2.2.2.2 w mv.1))), (p7, .inl (cI, 150, .inl mk.2.2.1)), (p8, .inl (cI, 150, .inl mk.2.2.2.2))] := by rw [hw, opn_full, opn_full, opn_full, opn_full]; exact hD
            clear hw
            induction g generalizing w ls H locs with
            | zero =>
              obtain rfl : w = j := hg
              refine lv_iload hx hb dX2_put_58 (lv_at hl 6 rfl) ?_
              refine lv_iload hx hb dX2_put_60 (lv_at hl 5 rfl) ?_
              refine lv_icmp_le (tgt := 135) hx hb dX2_put_62 (by decide) (fun c_62 => ?_) (fun c_62 => absurd (nI_le (Nat.le_refl w) (by omega)) c_62)
              refine lv_aload_n hx hb dX2_put_135 rfl (lv_at hl 0 rfl) ?_
              refine lv_dup hx hb dX2_put_136 rfl ?_
              refine va_get (D := (dC, dI)) (ci := 2) (v := .int (nI mv.1)) (C := RX2) (T := TX2) (N := 12) hx hb hts i_X2_put_X2 hown hK hP 0 rfl rfl 0 (by decide) (hts (.fieldLink RX2 41 "BlockTreeModel" "many" "I") (by decide +kernel)) (fun _ h9 => h9) rfl dX2_put_137 ?_
              refine lv_iconst (v := 1) hx hb dX2_put_140 (by decide) ?_
              refine lv_iadd hx hb dX2_put_141 ?_
              refine lv_topi (fun z_1 ez_1 => ?_)
              obtain rfl : z_1 = nI (mv.1 + 1) := ez_1.trans (nI_1 mv.1)
              refine va_put (D := (dC, dI)) (ci := 2) (v := .int (nI (mv.1 + 1))) (ty := .int) (C := RX2) (T := TX2) (N := 12) hx hb hts i_X2_put_X2 tyX2 tyX2_ok nmX2 hown hK hP hD hS 0 rfl rfl 0 (by decide) (hts (.fieldLink RX2 41 "BlockTreeModel" "many" "I") (by decide +kernel)) (fun _ h9 => h9) rfl (by decide +kernel) rfl rfl (Nat.le_of_ble_eq_true rfl) dX2_put_142 (fun H locs hP hD hS => ?_)
              replace hP : va_P (dC, dI) vwCl [(y, .inr (2, [.int (nI (mv.1 + 1)), .int (nI mk.1), .ref p1, .ref p2, .ref p3, .ref p4, .ref p5, .ref p6, .ref p7, .ref p8, .long f.1, .int f.2])), (p1, .inl (cL, 151, .inr (.inl (opn mv.2.1 w mv.1)))), (p2, .inl (cL, 151, .inr (.inl (opn mv.2.2.2.1 w mv.1)))), (p3, .inl (cL, 150, .inr (.inl mk.2.1))), (p4, .inl (cL, 150, .inr (.inl mk.2.2.2.1))), (p5, .inl (cI, 151, .inl (opn mv.2.2.1 w mv.1))), (p6, .inl (cI, 151, .inl (opn mv.2.2.2.2 w mv.1))), (p7, .inl (cI, 150, .inl mk.2.2.1)), (p8, .inl (cI, 150, .inl mk.2.2.2.2))] H := hP
              replace hD : va_D A [(y, .inr (2, [.int (nI (mv.1 + 1)), .int (nI mk.1), .ref p1, .ref p2, .ref p3, .ref p4, .ref p5, .ref p6, .ref p7, .ref p8, .long f.1, .int f.2])), (p1, .inl (cL, 151, .inr (.inl (opn mv.2.1 w mv.1)))), (p2, .inl (cL, 151, .inr (.inl (opn mv.2.2.2.1 w mv.1)))), (p3, .inl (cL, 150, .inr (.inl mk.2.1))), (p4, .inl (cL, 150, .inr (.inl mk.2.2.2.1))), (p5, .inl (cI, 151, .inl (opn mv.2.2.1 w mv.1))), (p6, .inl (cI, 151, .inl (opn mv.2.2.2.2 w mv.1))), (p7, .inl (cI, 150, .inl mk.2.2.1)), (p8, .inl (cI, 150, .inl mk.2.2.2.2))] := hD
              refine lv_aload_n hx hb dX2_put_145 rfl (lv_at hl 0 rfl) ?_
              refine va_get (D := (dC, dI)) (ci := 2) (v := .ref p1) (C := RX2) (T := TX2) (N := 12) hx hb hts i_X2_put_X2 hown hK hP 0 rfl rfl 2 (by decide) (hts (.fieldLink RX2 7 "BlockTreeModel" "key" "[J") (by decide +kernel)) (fun _ h9 => h9) rfl dX2_put_146 ?_
              refine lv_iload hx hb dX2_put_149 (lv_at hl 5 rfl) ?_
              refine lv_lload_n hx hb dX2_put_151 rfl (lv_at hl 1 rfl) ?_
              refine lv_iload_n hx hb dX2_put_152 rfl (lv_at hl 2 rfl) ?_
              refine vp_callSl (va_Run.run (va_runS (As := [.long q, .int (nI nq)]) (rest := [.int (nI w), .ref p1]) ⟨hx, hb, hml, hown, hts⟩ (c_cut l q nq nq8) (va_cwS 2 hts gX2_put_X2_cut rfl rfl rfl (by decide +kernel) ⟨Nat.le_of_ble_eq_true rfl, Nat.le_of_ble_eq_true rfl⟩) (st_pre) rfl rfl hl.1 rfl (lv_room (Nat.le_of_ble_eq_true rfl)) dX2_put_153 ⟨Nat.le_of_ble_eq_true rfl, Nat.le_of_ble_eq_true rfl⟩)) (fun rc hrc => ?_)
              subst hrc
              refine va_last hx hb hK hP hD hS 1 0 rfl rfl (vp_in_nI (by omega) (by omega)) dX2_put_156 (fun H locs hP hD hS => ?_)
              rw [show ((nI w)).toNatClampNeg = w from (nI_clamp (by omega))] at hP hD
              replace hP : va_P (dC, dI) vwCl [(y, .inr (2, [.int (nI (mv.1 + 1)), .int (nI mk.1), .ref p1, .ref p2, .ref p3, .ref p4, .ref p5, .ref p6, .ref p7, .ref p8, .long f.1, .int f.2])), (p1, .inl (cL, 151, .inr (.inl (vp_updL (opn mv.2.1 w mv.1) w (lowB q (nI nq)))))), (p2, .inl (cL, 151, .inr (.inl (opn mv.2.2.2.1 w mv.1)))), (p3, .inl (cL, 150, .inr (.inl mk.2.1))), (p4, .inl (cL, 150, .inr (.inl mk.2.2.2.1))), (p5, .inl (cI, 151, .inl (opn mv.2.2.1 w mv.1))), (p6, .inl (cI, 151, .inl (opn mv.2.2.2.2 w mv.1))), (p7, .inl (cI, 150, .inl mk.2.2.1)), (p8, .inl (cI, 150, .inl mk.2.2.2.2))] H := hP
              replace hD : va_D A [(y, .inr (2, [.int (nI (mv.1 + 1)), .int (nI mk.1), .ref p1, .ref p2, .ref p3, .ref p4, .ref p5, .ref p6, .ref p7, .ref p8, .long f.1, .int f.2])), (p1, .inl (cL, 151, .inr (.inl (vp_updL (opn mv.2.1 w mv.1) w (lowB q (nI nq)))))), (p2, .inl (cL, 151, .inr (.inl (opn mv.2.2.2.1 w mv.1)))), (p3, .inl (cL, 150, .inr (.inl mk.2.1))), (p4, .inl (cL, 150, .inr (.inl mk.2.2.2.1))), (p5, .inl (cI, 151, .inl (opn mv.2.2.1 w mv.1))), (p6, .inl (cI, 151, .inl (opn mv.2.2.2.2 w mv.1))), (p7, .inl (cI, 150, .inl mk.2.2.1)), (p8, .inl (cI, 150, .inl mk.2.2.2.2))] := hD
              refine lv_aload_n hx hb dX2_put_157 rfl (lv_at hl 0 rfl) ?_
              refine va_get (D := (dC, dI)) (ci := 2) (v := .ref p5) (C := RX2) (T := TX2) (N := 12) hx hb hts i_X2_put_X2 hown hK hP 0 rfl rfl 6 (by decide) (hts (.fieldLink RX2 22 "BlockTreeModel" "size" "[I") (by decide +kernel)) (fun _ h9 => h9) rfl dX2_put_158 ?_
              refine lv_iload hx hb dX2_put_161 (lv_at hl 5 rfl) ?_
              refine lv_iload_n hx hb dX2_put_163 rfl (lv_at hl 2 rfl) ?_
              refine va_iast hx hb hK hP hD hS 5 1 rfl rfl (vp_in_nI (by omega) (by omega)) dX2_put_164 (fun H locs hP hD hS => ?_)
              rw [show ((nI w)).toNatClampNeg = w from (nI_clamp (by omega))] at hP hD
              replace hP : va_P (dC, dI) vwCl [(y, .inr (2, [.int (nI (mv.1 + 1)), .int (nI mk.1), .ref p1, .ref p2, .ref p3, .ref p4, .ref p5, .ref p6, .ref p7, .ref p8, .long f.1, .int f.2])), (p1, .inl (cL, 151, .inr (.inl (vp_updL (opn mv.2.1 w mv.1) w (lowB q (nI nq)))))), (p2, .inl (cL, 151, .inr (.inl (opn mv.2.2.2.1 w mv.1)))), (p3, .inl (cL, 150, .inr (.inl mk.2.1))), (p4, .inl (cL, 150, .inr (.inl mk.2.2.2.1))), (p5, .inl (cI, 151, .inl (upd (opn mv.2.2.1 w mv.1) w (nI nq)))), (p6, .inl (cI, 151, .inl (opn mv.2.2.2.2 w mv.1))), (p7, .inl (cI, 150, .inl mk.2.2.1)), (p8, .inl (cI, 150, .inl mk.2.2.2.2))] H := hP
              replace hD : va_D A [(y, .inr (2, [.int (nI (mv.1 + 1)), .int (nI mk.1), .ref p1, .ref p2, .ref p3, .ref p4, .ref p5, .ref p6, .ref p7, .ref p8, .long f.1, .int f.2])), (p1, .inl (cL, 151, .inr (.inl (vp_updL (opn mv.2.1 w mv.1) w (lowB q (nI nq)))))), (p2, .inl (cL, 151, .inr (.inl (opn mv.2.2.2.1 w mv.1)))), (p3, .inl (cL, 150, .inr (.inl mk.2.1))), (p4, .inl (cL, 150, .inr (.inl mk.2.2.2.1))), (p5, .inl (cI, 151, .inl (upd (opn mv.2.2.1 w mv.1) w (nI nq)))), (p6, .inl (cI, 151, .inl (opn mv.2.2.2.2 w mv.1))), (p7, .inl (cI, 150, .inl mk.2.2.1)), (p8, .inl (cI, 150, .inl mk.2.2.2.2))] := hD
              refine lv_aload_n hx hb dX2_put_165 rfl (lv_at hl 0 rfl) ?_
              refine va_get (D := (dC, dI)) (ci := 2) (v := .ref p2) (C := RX2) (T := TX2) (N := 12) hx hb hts i_X2_put_X2 hown hK hP 0 rfl rfl 3 (by decide) (hts (.fieldLink RX2 13 "BlockTreeModel" "text" "[J") (by decide +kernel)) (fun _ h9 => h9) rfl dX2_put_166 ?_
              refine lv_iload hx hb dX2_put_169 (lv_at hl 5 rfl) ?_
              refine lv_lload hx hb dX2_put_171 (lv_at hl 3 rfl) ?_
              refine lv_iload hx hb dX2_put_173 (lv_at hl 4 rfl) ?_
              refine vp_callSl (va_Run.run (va_runS (As := [.long b, .int (nI nt)]) (rest := [.int (nI w), .ref p2]) ⟨hx, hb, hml, hown, hts⟩ (c_cut l b nt nt8) (va_cwS 2 hts gX2_put_X2_cut rfl rfl rfl (by decide +kernel) ⟨Nat.le_of_ble_eq_true rfl, Nat.le_of_ble_eq_true rfl⟩) (st_pre) rfl rfl hl.1 rfl (lv_room (Nat.le_of_ble_eq_true rfl)) dX2_put_175 ⟨Nat.le_of_ble_eq_true rfl, Nat.le_of_ble_eq_true rfl⟩)) (fun rd hrd => ?_)
              subst hrd
              refine va_last hx hb hK hP hD hS 2 0 rfl rfl (vp_in_nI (by omega) (by omega)) dX2_put_178 (fun H locs hP hD hS => ?_)
              rw [show ((nI w)).toNatClampNeg = w from (nI_clamp (by omega))] at hP hD
              replace hP : va_P (dC, dI) vwCl [(y, .inr (2, [.int (nI (mv.1 + 1)), .int (nI mk.1), .ref p1, .ref p2, .ref p3, .ref p4, .ref p5, .ref p6, .ref p7, .ref p8, .long f.1, .int f.2])), (p1, .inl (cL, 151, .inr (.inl (vp_updL (opn mv.2.1 w mv.1) w (lowB q (nI nq)))))), (p2, .inl (cL, 151, .inr (.inl (vp_updL (opn mv.2.2.2.1 w mv.1) w (lowB b (nI nt)))))), (p3, .inl (cL, 150, .inr (.inl mk.2.1))), (p4, .inl (cL, 150, .inr (.inl mk.2.2.2.1))), (p5, .inl (cI, 151, .inl (upd (opn mv.2.2.1 w mv.1) w (nI nq)))), (p6, .inl (cI, 151, .inl (opn mv.2.2.2.2 w mv.1))), (p7, .inl (cI, 150, .inl mk.2.2.1)), (p8, .inl (cI, 150, .inl mk.2.2.2.2))] H := hP
              replace hD : va_D A [(y, .inr (2, [.int (nI (mv.1 + 1)), .int (nI mk.1), .ref p1, .ref p2, .ref p3, .ref p4, .ref p5, .ref p6, .ref p7, .ref p8, .long f.1, .int f.2])), (p1, .inl (cL, 151, .inr (.inl (vp_updL (opn mv.2.1 w mv.1) w (lowB q (nI nq)))))), (p2, .inl (cL, 151, .inr (.inl (vp_updL (opn mv.2.2.2.1 w mv.1) w (lowB b (nI nt)))))), (p3, .inl (cL, 150, .inr (.inl mk.2.1))), (p4, .inl (cL, 150, .inr (.inl mk.2.2.2.1))), (p5, .inl (cI, 151, .inl (upd (opn mv.2.2.1 w mv.1) w (nI nq)))), (p6, .inl (cI, 151, .inl (opn mv.2.2.2.2 w mv.1))), (p7, .inl (cI, 150, .inl mk.2.2.1)), (p8, .inl (cI, 150, .inl mk.2.2.2.2))] := hD
              refine lv_aload_n hx hb dX2_put_179 rfl (lv_at hl 0 rfl) ?_
              refine va_get (D := (dC, dI)) (ci := 2) (v := .ref p6) (C := RX2) (T := TX2) (N := 12) hx hb hts i_X2_put_X2 hown hK hP 0 rfl rfl 7 (by decide) (hts (.fieldLink RX2 26 "BlockTreeModel" "length" "[I") (by decide +kernel)) (fun _ h9 => h9) rfl dX2_put_180 ?_
              refine lv_iload hx hb dX2_put_183 (lv_at hl 5 rfl) ?_
              refine lv_iload hx hb dX2_put_185 (lv_at hl 4 rfl) ?_
              refine va_iast hx hb hK hP hD hS 6 1 rfl rfl (vp_in_nI (by omega) (by omega)) dX2_put_187 (fun H locs hP hD hS => ?_)
              rw [show ((nI w)).toNatClampNeg = w from (nI_clamp (by omega))] at hP hD
              replace hP : va_P (dC, dI) vwCl [(y, .inr (2, [.int (nI (mv.1 + 1)), .int (nI mk.1), .ref p1, .ref p2, .ref p3, .ref p4, .ref p5, .ref p6, .ref p7, .ref p8, .long f.1, .int f.2])), (p1, .inl (cL, 151, .inr (.inl (vp_updL (opn mv.2.1 w mv.1) w (lowB q (nI nq)))))), (p2, .inl (cL, 151, .inr (.inl (vp_updL (opn mv.2.2.2.1 w mv.1) w (lowB b (nI nt)))))), (p3, .inl (cL, 150, .inr (.inl mk.2.1))), (p4, .inl (cL, 150, .inr (.inl mk.2.2.2.1))), (p5, .inl (cI, 151, .inl (upd (opn mv.2.2.1 w mv.1) w (nI nq)))), (p6, .inl (cI, 151, .inl (upd (opn mv.2.2.2.2 w mv.1) w (nI nt)))), (p7, .inl (cI, 150, .inl mk.2.2.1)), (p8, .inl (cI, 150, .inl mk.2.2.2.2))] H := hP
              replace hD : va_D A [(y, .inr (2, [.int (nI (mv.1 + 1)), .int (nI mk.1), .ref p1, .ref p2, .ref p3, .ref p4, .ref p5, .ref p6, .ref p7, .ref p8, .long f.1, .int f.2])), (p1, .inl (cL, 151, .inr (.inl (vp_updL (opn mv.2.1 w mv.1) w (lowB q (nI nq)))))), (p2, .inl (cL, 151, .inr (.inl (vp_updL (opn mv.2.2.2.1 w mv.1) w (lowB b (nI nt)))))), (p3, .inl (cL, 150, .inr (.inl mk.2.1))), (p4, .inl (cL, 150, .inr (.inl mk.2.2.2.1))), (p5, .inl (cI, 151, .inl (upd (opn mv.2.2.1 w mv.1) w (nI nq)))), (p6, .inl (cI, 151, .inl (upd (opn mv.2.2.2.2 w mv.1) w (nI nt)))), (p7, .inl (cI, 150, .inl mk.2.2.1)), (p8, .inl (cI, 150, .inl mk.2.2.2.2))] := hD
              refine lv_iconst (v := 1) hx hb dX2_put_188 (by decide) ?_
              exact W.zret (v := 1) hx hb hr rfl (fun t9 ht hW => ⟨⟨1, rs_put (rs_opn mv w) w (lowB q (nI nq)) (nI nq) (lowB b (nI nt)) (nI nt), rfl, Or.inl ⟨hok, hokT, Or.inr (Or.inl ⟨hh, hlt, rfl, rfl⟩)⟩, by rw [ht]; exact hP, hD⟩, hS.F ht⟩) hS.2.2 dX2_put_189
            | succ g ih =>
              obtain ⟨d, rfl⟩ : ∃ d, w = d + 1 := ⟨j + g, by omega⟩
              refine lv_iload hx hb dX2_put_58 (lv_at hl 6 rfl) ?_
              refine lv_iload hx hb dX2_put_60 (lv_at hl 5 rfl) ?_
              refine lv_icmp_le (tgt := 135) hx hb dX2_put_62 (by decide) (fun c_62 => absurd c_62 (nI_ge (by omega) (by omega))) (fun c_62 => ?_)
              refine lv_aload_n hx hb dX2_put_65 rfl (lv_at hl 0 rfl) ?_
              refine va_get (D := (dC, dI)) (ci := 2) (v := .ref p1) (C := RX2) (T := TX2) (N := 12) hx hb hts i_X2_put_X2 hown hK hP 0 rfl rfl 2 (by decide) (hts (.fieldLink RX2 7 "BlockTreeModel" "key" "[J") (by decide +kernel)) (fun _ h9 => h9) rfl dX2_put_66 ?_
              refine lv_iload hx hb dX2_put_69 (lv_at hl 6 rfl) ?_
              refine lv_aload_n hx hb dX2_put_71 rfl (lv_at hl 0 rfl) ?_
              refine va_get (D := (dC, dI)) (ci := 2) (v := .ref p1) (C := RX2) (T := TX2) (N := 12) hx hb hts i_X2_put_X2 hown hK hP 0 rfl rfl 2 (by decide) (hts (.fieldLink RX2 7 "BlockTreeModel" "key" "[J") (by decide +kernel)) (fun _ h9 => h9) rfl dX2_put_72 ?_
              refine lv_iload hx hb dX2_put_75 (lv_at hl 6 rfl) ?_
              refine lv_iconst (v := 1) hx hb dX2_put_77 (by decide) ?_
              refine lv_isub hx hb dX2_put_78 ?_
              refine lv_topi (fun z_1 ez_1 => ?_)
              obtain rfl : z_1 = nI d := ez_1.trans (nI_pred d)
              refine va_lald hx hb hK hP 1 0 rfl rfl (vp_in_nI (by omega) (by omega)) dX2_put_79 ?_
              refine lv_topl (fun z_2 ez_2 => ?_)
              rw [show (nI d).toNatClampNeg = d from (nI_clamp (by omega))] at ez_2
              subst ez_2
              refine va_last hx hb hK hP hD hS 1 0 rfl rfl (vp_in_nI (by omega) (by omega)) dX2_put_80 (fun H locs hP hD hS => ?_)
              rw [show ((nI (d + 1))).toNatClampNeg = (d + 1) from (nI_clamp (by omega))] at hP hD
              replace hP : va_P (dC, dI) vwCl [(y, .inr (2, [.int (nI mv.1), .int (nI mk.1), .ref p1, .ref p2, .ref p3, .ref p4, .ref p5, .ref p6, .ref p7, .ref p8, .long f.1, .int f.2])), (p1, .inl (cL, 151, .inr (.inl (vp_updL (opn mv.2.1 (d + 1) mv.1) (d + 1) ((opn mv.2.1 (d + 1) mv.1) d))))), (p2, .inl (cL, 151, .inr (.inl (opn mv.2.2.2.1 (d + 1) mv.1)))), (p3, .inl (cL, 150, .inr (.inl mk.2.1))), (p4, .inl (cL, 150, .inr (.inl mk.2.2.2.1))), (p5, .inl (cI, 151, .inl (opn mv.2.2.1 (d + 1) mv.1))), (p6, .inl (cI, 151, .inl (opn mv.2.2.2.2 (d + 1) mv.1))), (p7, .inl (cI, 150, .inl mk.2.2.1)), (p8, .inl (cI, 150, .inl mk.2.2.2.2))] H := hP
              replace hD : va_D A [(y, .inr (2, [.int (nI mv.1), .int (nI mk.1), .ref p1, .ref p2, .ref p3, .ref p4, .ref p5, .ref p6, .ref p7, .ref p8, .long f.1, .int f.2])), (p1, .inl (cL, 151, .inr (.inl (vp_updL (opn mv.2.1 (d + 1) mv.1) (d + 1) ((opn mv.2.1 (d + 1) mv.1) d))))), (p2, .inl (cL, 151, .inr (.inl (opn mv.2.2.2.1 (d + 1) mv.1)))), (p3, .inl (cL, 150, .inr (.inl mk.2.1))), (p4, .inl (cL, 150, .inr (.inl mk.2.2.2.1))), (p5, .inl (cI, 151, .inl (opn mv.2.2.1 (d + 1) mv.1))), (p6, .inl (cI, 151, .inl (opn mv.2.2.2.2 (d + 1) mv.1))), (p7, .inl (cI, 150, .inl mk.2.2.1)), (p8, .inl (cI, 150, .inl mk.2.2.2.2))] := hD
              refine lv_aload_n hx hb dX2_put_81 rfl (lv_at hl 0 rfl) ?_
              refine va_get (D := (dC, dI)) (ci := 2) (v := .ref p5) (C := RX2) (T := TX2) (N := 12) hx hb hts i_X2_put_X2 hown hK hP 0 rfl rfl 6 (by decide) (hts (.fieldLink RX2 22 "BlockTreeModel" "size" "[I") (by decide +kernel)) (fun _ h9 => h9) rfl dX2_put_82 ?_
              refine lv_iload hx hb dX2_put_85 (lv_at hl 6 rfl) ?_
              refine lv_aload_n hx hb dX2_put_87 rfl (lv_at hl 0 rfl) ?_
              refine va_get (D := (dC, dI)) (ci := 2) (v := .ref p5) (C := RX2) (T := TX2) (N := 12) hx hb hts i_X2_put_X2 hown hK hP 0 rfl rfl 6 (by decide) (hts (.fieldLink RX2 22 "BlockTreeModel" "size" "[I") (by decide +kernel)) (fun _ h9 => h9) rfl dX2_put_88 ?_
              refine lv_iload hx hb dX2_put_91 (lv_at hl 6 rfl) ?_
              refine lv_iconst (v := 1) hx hb dX2_put_93 (by decide) ?_
              refine lv_isub hx hb dX2_put_94 ?_
              refine lv_topi (fun z_3 ez_3 => ?_)
              obtain rfl : z_3 = nI d := ez_3.trans (nI_pred d)
              refine va_iald hx hb hK hP 5 1 rfl rfl (vp_in_nI (by omega) (by omega)) dX2_put_95 ?_
              refine lv_topi (fun z_4 ez_4 => ?_)
              rw [show (nI d).toNatClampNeg = d from (nI_clamp (by omega))] at ez_4
              subst ez_4
              refine va_iast hx hb hK hP hD hS 5 1 rfl rfl (vp_in_nI (by omega) (by omega)) dX2_put_96 (fun H locs hP hD hS => ?_)
              rw [show ((nI (d + 1))).toNatClampNeg = (d + 1) from (nI_clamp (by omega))] at hP hD
              replace hP : va_P (dC, dI) vwCl [(y, .inr (2, [.int (nI mv.1), .int (nI mk.1), .ref p1, .ref p2, .ref p3, .ref p4, .ref p5, .ref p6, .ref p7, .ref p8, .long f.1, .int f.2])), (p1, .inl (cL, 151, .inr (.inl (vp_updL (opn mv.2.1 (d + 1) mv.1) (d + 1) ((opn mv.2.1 (d + 1) mv.1) d))))), (p2, .inl (cL, 151, .inr (.inl (opn mv.2.2.2.1 (d + 1) mv.1)))), (p3, .inl (cL, 150, .inr (.inl mk.2.1))), (p4, .inl (cL, 150, .inr (.inl mk.2.2.2.1))), (p5, .inl (cI, 151, .inl (upd (opn mv.2.2.1 (d + 1) mv.1) (d + 1) ((opn mv.2.2.1 (d + 1) mv.1) d)))), (p6, .inl (cI, 151, .inl (opn mv.2.2.2.2 (d + 1) mv.1))), (p7, .inl (cI, 150, .inl mk.2.2.1)), (p8, .inl (cI, 150, .inl mk.2.2.2.2))] H := hP
              replace hD : va_D A [(y, .inr (2, [.int (nI mv.1), .int (nI mk.1), .ref p1, .ref p2, .ref p3, .ref p4, .ref p5, .ref p6, .ref p7, .ref p8, .long f.1, .int f.2])), (p1, .inl (cL, 151, .inr (.inl (vp_updL (opn mv.2.1 (d + 1) mv.1) (d + 1) ((opn mv.2.1 (d + 1) mv.1) d))))), (p2, .inl (cL, 151, .inr (.inl (opn mv.2.2.2.1 (d + 1) mv.1)))), (p3, .inl (cL, 150, .inr (.inl mk.2.1))), (p4, .inl (cL, 150, .inr (.inl mk.2.2.2.1))), (p5, .inl (cI, 151, .inl (upd (opn mv.2.2.1 (d + 1) mv.1) (d + 1) ((opn mv.2.2.1 (d + 1) mv.1) d)))), (p6, .inl (cI, 151, .inl (opn mv.2.2.2.2 (d + 1) mv.1))), (p7, .inl (cI, 150, .inl mk.2.2.1)), (p8, .inl (cI, 150, .inl mk.2.2.2.2))] := hD
              refine lv_aload_n hx hb dX2_put_97 rfl (lv_at hl 0 rfl) ?_
              refine va_get (D := (dC, dI)) (ci := 2) (v := .ref p2) (C := RX2) (T := TX2) (N := 12) hx hb hts i_X2_put_X2 hown hK hP 0 rfl rfl 3 (by decide) (hts (.fieldLink RX2 13 "BlockTreeModel" "text" "[J") (by decide +kernel)) (fun _ h9 => h9) rfl dX2_put_98 ?_
              refine lv_iload hx hb dX2_put_101 (lv_at hl 6 rfl) ?_
              refine lv_aload_n hx hb dX2_put_103 rfl (lv_at hl 0 rfl) ?_
              refine va_get (D := (dC, dI)) (ci := 2) (v := .ref p2) (C := RX2) (T := TX2) (N := 12) hx hb hts i_X2_put_X2 hown hK hP 0 rfl rfl 3 (by decide) (hts (.fieldLink RX2 13 "BlockTreeModel" "text" "[J") (by decide +kernel)) (fun _ h9 => h9) rfl dX2_put_104 ?_
              refine lv_iload hx hb dX2_put_107 (lv_at hl 6 rfl) ?_
              refine lv_iconst (v := 1) hx hb dX2_put_109 (by decide) ?_
              refine lv_isub hx hb dX2_put_110 ?_
              refine lv_topi (fun z_5 ez_5 => ?_)
              obtain rfl : z_5 = nI d := ez_5.trans (nI_pred d)
              refine va_lald hx hb hK hP 2 0 rfl rfl (vp_in_nI (by omega) (by omega)) dX2_put_111 ?_
              refine lv_topl (fun z_6 ez_6 => ?_)
              rw [show (nI d).toNatClampNeg = d from (nI_clamp (by omega))] at ez_6
              subst ez_6
              refine va_last hx hb hK hP hD hS 2 0 rfl rfl (vp_in_nI (by omega) (by omega)) dX2_put_112 (fun H locs hP hD hS => ?_)
              rw [show ((nI (d + 1))).toNatClampNeg = (d + 1) from (nI_clamp (by omega))] at hP hD
              replace hP : va_P (dC, dI) vwCl [(y, .inr (2, [.int (nI mv.1), .int (nI mk.1), .ref p1, .ref p2, .ref p3, .ref p4, .ref p5, .ref p6, .ref p7, .ref p8, .long f.1, .int f.2])), (p1, .inl (cL, 151, .inr (.inl (vp_updL (opn mv.2.1 (d + 1) mv.1) (d + 1) ((opn mv.2.1 (d + 1) mv.1) d))))), (p2, .inl (cL, 151, .inr (.inl (vp_updL (opn mv.2.2.2.1 (d + 1) mv.1) (d + 1) ((opn mv.2.2.2.1 (d + 1) mv.1) d))))), (p3, .inl (cL, 150, .inr (.inl mk.2.1))), (p4, .inl (cL, 150, .inr (.inl mk.2.2.2.1))), (p5, .inl (cI, 151, .inl (upd (opn mv.2.2.1 (d + 1) mv.1) (d + 1) ((opn mv.2.2.1 (d + 1) mv.1) d)))), (p6, .inl (cI, 151, .inl (opn mv.2.2.2.2 (d + 1) mv.1))), (p7, .inl (cI, 150, .inl mk.2.2.1)), (p8, .inl (cI, 150, .inl mk.2.2.2.2))] H := hP
              replace hD : va_D A [(y, .inr (2, [.int (nI mv.1), .int (nI mk.1), .ref p1, .ref p2, .ref p3, .ref p4, .ref p5, .ref p6, .ref p7, .ref p8, .long f.1, .int f.2])), (p1, .inl (cL, 151, .inr (.inl (vp_updL (opn mv.2.1 (d + 1) mv.1) (d + 1) ((opn mv.2.1 (d + 1) mv.1) d))))), (p2, .inl (cL, 151, .inr (.inl (vp_updL (opn mv.2.2.2.1 (d + 1) mv.1) (d + 1) ((opn mv.2.2.2.1 (d + 1) mv.1) d))))), (p3, .inl (cL, 150, .inr (.inl mk.2.1))), (p4, .inl (cL, 150, .inr (.inl mk.2.2.2.1))), (p5, .inl (cI, 151, .inl (upd (opn mv.2.2.1 (d + 1) mv.1) (d + 1) ((opn mv.2.2.1 (d + 1) mv.1) d)))), (p6, .inl (cI, 151, .inl (opn mv.2.2.2.2 (d + 1) mv.1))), (p7, .inl (cI, 150, .inl mk.2.2.1)), (p8, .inl (cI, 150, .inl mk.2.2.2.2))] := hD
              refine lv_aload_n hx hb dX2_put_113 rfl (lv_at hl 0 rfl) ?_
              refine va_get (D := (dC, dI)) (ci := 2) (v := .ref p6) (C := RX2) (T := TX2) (N := 12) hx hb hts i_X2_put_X2 hown hK hP 0 rfl rfl 7 (by decide) (hts (.fieldLink RX2 26 "BlockTreeModel" "length" "[I") (by decide +kernel)) (fun _ h9 => h9) rfl dX2_put_114 ?_
              refine lv_iload hx hb dX2_put_117 (lv_at hl 6 rfl) ?_
              refine lv_aload_n hx hb dX2_put_119 rfl (lv_at hl 0 rfl) ?_
              refine va_get (D := (dC, dI)) (ci := 2) (v := .ref p6) (C := RX2) (T := TX2) (N := 12) hx hb hts i_X2_put_X2 hown hK hP 0 rfl rfl 7 (by decide) (hts (.fieldLink RX2 26 "BlockTreeModel" "length" "[I") (by decide +kernel)) (fun _ h9 => h9) rfl dX2_put_120 ?_
              refine lv_iload hx hb dX2_put_123 (lv_at hl 6 rfl) ?_
              refine lv_iconst (v := 1) hx hb dX2_put_125 (by decide) ?_
              refine lv_isub hx hb dX2_put_126 ?_
              refine lv_topi (fun z_7 ez_7 => ?_)
              obtain rfl : z_7 = nI d := ez_7.trans (nI_pred d)
              refine va_iald hx hb hK hP 6 1 rfl rfl (vp_in_nI (by omega) (by omega)) dX2_put_127 ?_
              refine lv_topi (fun z_8 ez_8 => ?_)
              rw [show (nI d).toNatClampNeg = d from (nI_clamp (by omega))] at ez_8
              subst ez_8
              refine va_iast hx hb hK hP hD hS 6 1 rfl rfl (vp_in_nI (by omega) (by omega)) dX2_put_128 (fun H locs hP hD hS => ?_)
              rw [show ((nI (d + 1))).toNatClampNeg = (d + 1) from (nI_clamp (by omega))] at hP hD
              replace hP : va_P (dC, dI) vwCl [(y, .inr (2, [.int (nI mv.1), .int (nI mk.1), .ref p1, .ref p2, .ref p3, .ref p4, .ref p5, .ref p6, .ref p7, .ref p8, .long f.1, .int f.2])), (p1, .inl (cL, 151, .inr (.inl (vp_updL (opn mv.2.1 (d + 1) mv.1) (d + 1) ((opn mv.2.1 (d + 1) mv.1) d))))), (p2, .inl (cL, 151, .inr (.inl (vp_updL (opn mv.2.2.2.1 (d + 1) mv.1) (d + 1) ((opn mv.2.2.2.1 (d + 1) mv.1) d))))), (p3, .inl (cL, 150, .inr (.inl mk.2.1))), (p4, .inl (cL, 150, .inr (.inl mk.2.2.2.1))), (p5, .inl (cI, 151, .inl (upd (opn mv.2.2.1 (d + 1) mv.1) (d + 1) ((opn mv.2.2.1 (d + 1) mv.1) d)))), (p6, .inl (cI, 151, .inl (upd (opn mv.2.2.2.2 (d + 1) mv.1) (d + 1) ((opn mv.2.2.2.2 (d + 1) mv.1) d)))), (p7, .inl (cI, 150, .inl mk.2.2.1)), (p8, .inl (cI, 150, .inl mk.2.2.2.2))] H := hP
              replace hD : va_D A [(y, .inr (2, [.int (nI mv.1), .int (nI mk.1), .ref p1, .ref p2, .ref p3, .ref p4, .ref p5, .ref p6, .ref p7, .ref p8, .long f.1, .int f.2])), (p1, .inl (cL, 151, .inr (.inl (vp_updL (opn mv.2.1 (d + 1) mv.1) (d + 1) ((opn mv.2.1 (d + 1) mv.1) d))))), (p2, .inl (cL, 151, .inr (.inl (vp_updL (opn mv.2.2.2.1 (d + 1) mv.1) (d + 1) ((opn mv.2.2.2.1 (d + 1) mv.1) d))))), (p3, .inl (cL, 150, .inr (.inl mk.2.1))), (p4, .inl (cL, 150, .inr (.inl mk.2.2.2.1))), (p5, .inl (cI, 151, .inl (upd (opn mv.2.2.1 (d + 1) mv.1) (d + 1) ((opn mv.2.2.1 (d + 1) mv.1) d)))), (p6, .inl (cI, 151, .inl (upd (opn mv.2.2.2.2 (d + 1) mv.1) (d + 1) ((opn mv.2.2.2.2 (d + 1) mv.1) d)))), (p7, .inl (cI, 150, .inl mk.2.2.1)), (p8, .inl (cI, 150, .inl mk.2.2.2.2))] := hD
              refine lv_iinc (v := nI d) (lv' := [(8, .int (nI d)), (0, .ref y), (1, .long q), (3, .int (nI nq)), (4, .long b), (6, .int (nI nt)), (7, .int (nI j))]) hx hb dX2_put_129 hl (k := 6) rfl (pk_m1 d) (by decide) rfl (fun ls hl => ?_)
              refine lv_goto (tgt := 58) hx hb dX2_put_132 (by decide) ?_
              replace hP : va_P (dC, dI) vwCl [(y, .inr (2, [.int (nI mv.1), .int (nI mk.1), .ref p1, .ref p2, .ref p3, .ref p4, .ref p5, .ref p6, .ref p7, .ref p8, .long f.1, .int f.2])), (p1, .inl (cL, 151, .inr (.inl (opn mv.2.1 d mv.1)))), (p2, .inl (cL, 151, .inr (.inl (opn mv.2.2.2.1 d mv.1)))), (p3, .inl (cL, 150, .inr (.inl mk.2.1))), (p4, .inl (cL, 150, .inr (.inl mk.2.2.2.1))), (p5, .inl (cI, 151, .inl (opn mv.2.2.1 d mv.1))), (p6, .inl (cI, 151, .inl (opn mv.2.2.2.2 d mv.1))), (p7, .inl (cI, 150, .inl mk.2.2.1)), (p8, .inl (cI, 150, .inl mk.2.2.2.2))] H := by rw [← opn_stepL (f := mv.2.1) (q := d) (by omega), ← opn_stepI (f := mv.2.2.1) (q := d) (by omega), ← opn_stepL (f := mv.2.2.2.1) (q := d) (by omega), ← opn_stepI (f := mv.2.2.2.2) (q := d) (by omega)]; exact hP
              replace hD : va_D A [(y, .inr (2, [.int (nI mv.1), .int (nI mk.1), .ref p1, .ref p2, .ref p3, .ref p4, .ref p5, .ref p6, .ref p7, .ref p8, .long f.1, .int f.2])), (p1, .inl (cL, 151, .inr (.inl (opn mv.2.1 d mv.1)))), (p2, .inl (cL, 151, .inr (.inl (opn mv.2.2.2.1 d mv.1)))), (p3, .inl (cL, 150, .inr (.inl mk.2.1))), (p4, .inl (cL, 150, .inr (.inl mk.2.2.2.1))), (p5, .inl (cI, 151, .inl (opn mv.2.2.1 d mv.1))), (p6, .inl (cI, 151, .inl (opn mv.2.2.2.2 d mv.1))), (p7, .inl (cI, 150, .inl mk.2.2.1)), (p8, .inl (cI, 150, .inl mk.2.2.2.2))] := by rw [← opn_stepL (f := mv.2.1) (q := d) (by omega), ← opn_stepI (f := mv.2.2.1) (q := d) (by omega), ← opn_stepL (f := mv.2.2.2.1) (q := d) (by omega), ← opn_stepI (f := mv.2.2.2.2) (q := d) (by omega)]; exact hD
              apply ih (w := d) (ls := ls) (H := H) (locs := locs)
              all_goals first | omega | exact lv_sub hl [1, 2, 3, 4, 5, 6, 0] rfl | exact hP | exact hD | exact hS
          · skip
            have hlt : ¬ mv.1 < 150 := fun q2 => by
              have e9 : mv.1 = 150 := (nI_eq (by omega) (by decide)).mp c_47
              omega
            refine lv_iconst (v := 0) hx hb dX2_put_50 (by decide) ?_
            exact W.zret (v := 0) hx hb hr rfl (fun t9 ht hW => ⟨⟨0, mv, rfl, Or.inl ⟨hok, hokT, Or.inr (Or.inr ⟨hh, hlt, rfl, rfl⟩)⟩, by rw [ht]; exact hP, hD⟩, hS.F ht⟩) hS.2.2 dX2_put_51
      · skip
        have hbad : ¬ (okK (nI nq) ∧ okT n) := fun g => c_16 (Int32.not_lt.mp g.2.2)
        refine lv_iconst (v := 0) hx hb dX2_put_19 (by decide) ?_
        exact W.zret (v := 0) hx hb hr rfl (fun t9 ht hW => ⟨⟨0, mv, rfl, Or.inr ⟨hbad, rfl, rfl⟩, by rw [ht]; exact hP, hD⟩, hS.F ht⟩) hS.2.2 dX2_put_20
  · skip
    have hbad : ¬ (okK t ∧ okT n) := fun g => hok g.1
    refine lv_if_eq (tgt := 19) hx hb dX2_put_4 (by decide) (fun c_4 => ?_) (fun c_4 => absurd c_4 (by decide))
    refine lv_iconst (v := 0) hx hb dX2_put_19 (by decide) ?_
    exact W.zret (v := 0) hx hb hr rfl (fun t9 ht hW => ⟨⟨0, mv, rfl, Or.inr ⟨hbad, rfl, rfl⟩, by rw [ht]; exact hP, hD⟩, hS.F ht⟩) hS.2.2 dX2_put_20
end
section
set_option maxHeartbeats 4000000 in
set_option maxRecDepth 100000 in
/-- remove -/
theorem m_remove (l : Launch) (dC : Nat → ClassId) (dI : Nat → Nat → Nat) (hz : Nat) (cL cI : ClassId) (y p1 p2 p3 p4 p5 p6 p7 p8 : Nat) (mv mk : RS) (f : Int64 × Int32) (hm : mok mv) (q : Int64) (t : Int32) (j : Nat) (hj : okK t → mpl mv (hdOf q t) t j) : Met l yX2_remove wsX2_remove ({ frames := 3, cells := 0, slots := 0, locals := 74 }) (wrP (dC, dI) (kS cL cI) (mW cL cI y p1 p2 p3 p4 p5 p6 p7 p8 mv mk f) [.ref y, .long q, .int t] hz) (va_Qi (fun (z : Int32) (v : RS) => (okK t ∧ mhl mv j (hdOf q t) t ∧ z = 1 ∧ v = rs_clo mv j) ∨ (¬ (okK t ∧ mhl mv j (hdOf q t) t) ∧ z = 0 ∧ v = mv)) (wrB (dC, dI) (va_A (mW cL cI y p1 p2 p3 p4 p5 p6 p7 p8 mv mk f) hz) (fun (v : RS) => mW cL cI y p1 p2 p3 p4 p5 p6 p7 p8 v mk f)) (va_A (mW cL cI y p1 p2 p3 p4 p5 p6 p7 p8 mv mk f) hz)) 0 0 (va_A (mW cL cI y p1 p2 p3 p4 p5 p6 p7 p8 mv mk f) hz) := by
  refine Met.ofW (cc := cX2_remove) (maxL := 6) (ret := some .boolean) (by decide) rfl ?_
  intro p e s m args below meth c s₁ B hml hv
  obtain ⟨rfl, hsz, hP, hK, hD0⟩ := hv
  have hx := B.exec
  have hb := B.bytes
  have hr := B.returns
  have hts := atoms_spec (ws := wsX2_remove) B.pre
  have hown : s.vm.findClass RX2 = some m.cls := findClass_of_methodNamed B.named
  have hlocks := B.notSynchronized
  subst hsz
  have hD := hD0.self (sz := s.heap.size)
  generalize hAe : va_A (mW cL cI y p1 p2 p3 p4 p5 p6 p7 p8 mv mk f) s.heap.size = A at hD ⊢
  have hA : ∀ q : Nat, s.heap.size ≤ q → A q := fun q h => by rw [← hAe]; exact Or.inr h
  have hS : va_S A s.heap s.heap [] := va_S.rf
  replace hP : va_P (dC, dI) vwCl [(y, .inr (2, [.int (nI mv.1), .int (nI mk.1), .ref p1, .ref p2, .ref p3, .ref p4, .ref p5, .ref p6, .ref p7, .ref p8, .long f.1, .int f.2])), (p1, .inl (cL, 151, .inr (.inl mv.2.1))), (p2, .inl (cL, 151, .inr (.inl mv.2.2.2.1))), (p3, .inl (cL, 150, .inr (.inl mk.2.1))), (p4, .inl (cL, 150, .inr (.inl mk.2.2.2.1))), (p5, .inl (cI, 151, .inl mv.2.2.1)), (p6, .inl (cI, 151, .inl mv.2.2.2.2)), (p7, .inl (cI, 150, .inl mk.2.2.1)), (p8, .inl (cI, 150, .inl mk.2.2.2.2))] s.heap := hP
  replace hD : va_D A [(y, .inr (2, [.int (nI mv.1), .int (nI mk.1), .ref p1, .ref p2, .ref p3, .ref p4, .ref p5, .ref p6, .ref p7, .ref p8, .long f.1, .int f.2])), (p1, .inl (cL, 151, .inr (.inl mv.2.1))), (p2, .inl (cL, 151, .inr (.inl mv.2.2.2.1))), (p3, .inl (cL, 150, .inr (.inl mk.2.1))), (p4, .inl (cL, 150, .inr (.inl mk.2.2.2.1))), (p5, .inl (cI, 151, .inl mv.2.2.1)), (p6, .inl (cI, 151, .inl mv.2.2.2.2)), (p7, .inl (cI, 150, .inl mk.2.2.1)), (p8, .inl (cI, 150, .inl mk.2.2.2.2))] := hD
  clear hD0
  refine w_gen _ _ (fun H locs hH hlo => ?_)
  replace hP : va_P (dC, dI) vwCl [(y, .inr (2, [.int (nI mv.1), .int (nI mk.1), .ref p1, .ref p2, .ref p3, .ref p4, .ref p5, .ref p6, .ref p7, .ref p8, .long f.1, .int f.2])), (p1, .inl (cL, 151, .inr (.inl mv.2.1))), (p2, .inl (cL, 151, .inr (.inl mv.2.2.2.1))), (p3, .inl (cL, 150, .inr (.inl mk.2.1))), (p4, .inl (cL, 150, .inr (.inl mk.2.2.2.1))), (p5, .inl (cI, 151, .inl mv.2.2.1)), (p6, .inl (cI, 151, .inl mv.2.2.2.2)), (p7, .inl (cI, 150, .inl mk.2.2.1)), (p8, .inl (cI, 150, .inl mk.2.2.2.2))] H := by rw [hH]; exact hP
  replace hS : va_S A s.heap H locs := by rw [hH, hlo]; exact hS
  clear hH hlo
  have hl := lv_entry ([.ref y, .long q, .int t]) (n := 6) (Nat.le_of_ble_eq_true rfl)
  rw [lg_entry_eq]
  generalize (lg_sl ([.ref y, .long q, .int t]) ++ List.replicate (6 - (lg_sl ([.ref y, .long q, .int t])).length) Slot.unset).toArray = ls at hl ⊢
  replace hl : lv_has ls 6 [(0, .ref y), (1, .long q), (3, .int t)] := hl
  refine lv_iload_n hx hb dX2_remove_0 rfl (lv_at hl 2 rfl) ?_
  refine vp_callSi (va_Run.run (va_runS (As := [.int t]) (rest := []) ⟨hx, hb, hml, hown, hts⟩ (c_isSize l t) (va_cwS 1 hts gX2_remove_X2_isSize rfl rfl rfl (by decide +kernel) ⟨Nat.le_of_ble_eq_true rfl, Nat.le_of_ble_eq_true rfl⟩) (st_pre) rfl rfl hl.1 rfl (lv_room (Nat.le_of_ble_eq_true rfl)) dX2_remove_1 ⟨Nat.le_of_ble_eq_true rfl, Nat.le_of_ble_eq_true rfl⟩)) (fun r1 hr1 => ?_)
  rcases hr1 with ⟨rfl, hok⟩ | ⟨rfl, hok⟩
  · skip
    obtain ⟨nq, nq1, nq8, rfl⟩ := okK_nat hok
    refine lv_if_eq (tgt := 16) hx hb dX2_remove_4 (by decide) (fun c_4 => absurd c_4 (by decide)) (fun c_4 => ?_)
    refine lv_aload_n hx hb dX2_remove_7 rfl (lv_at hl 0 rfl) ?_
    refine lv_lload_n hx hb dX2_remove_8 rfl (lv_at hl 1 rfl) ?_
    refine lv_iload_n hx hb dX2_remove_9 rfl (lv_at hl 2 rfl) ?_
    refine vp_callSi (va_Run.run (va_runV (As := [.long q, .int (nI nq)]) (rest := []) ⟨hx, hb, hml, hown, hts⟩ (c_place l dC dI cL cI y p1 p2 p3 p4 p5 p6 p7 p8 mv mk f hm q nq nq1 nq8 j (hj hok)) (cwV 2 hts gX2_remove_X2_place rfl rfl rfl (by decide +kernel) ⟨Nat.le_of_ble_eq_true rfl, Nat.le_of_ble_eq_true rfl⟩) (rd_preV hK (hP.sub (ws' := [(y, .inr (2, [.int (nI mv.1), .int (nI mk.1), .ref p1, .ref p2, .ref p3, .ref p4, .ref p5, .ref p6, .ref p7, .ref p8, .long f.1, .int f.2])), (p1, .inl (cL, 151, .inr (.inl mv.2.1))), (p2, .inl (cL, 151, .inr (.inl mv.2.2.2.1))), (p3, .inl (cL, 150, .inr (.inl mk.2.1))), (p4, .inl (cL, 150, .inr (.inl mk.2.2.2.1))), (p5, .inl (cI, 151, .inl mv.2.2.1)), (p6, .inl (cI, 151, .inl mv.2.2.2.2)), (p7, .inl (cI, 150, .inl mk.2.2.1)), (p8, .inl (cI, 150, .inl mk.2.2.2.2))]) [0, 1, 2, 3, 4, 5, 6, 7, 8] rfl) (ci := 2) (q0 := 0) rfl rfl) rfl rfl hl.1 rfl (lv_room (Nat.le_of_ble_eq_true rfl)) dX2_remove_10 ⟨Nat.le_of_ble_eq_true rfl, Nat.le_of_ble_eq_true rfl⟩)) (fun r2 hr2 => ?_)
    subst hr2
    refine lv_goto (tgt := 20) hx hb dX2_remove_13 (by decide) ?_
    refine lv_istore (lv' := [(4, .int (nI j)), (0, .ref y), (1, .long q), (3, .int (nI nq))]) hx hb dX2_remove_20 hl (by decide) rfl (fun ls hl => ?_)
    refine lv_aload_n hx hb dX2_remove_22 rfl (lv_at hl 1 rfl) ?_
    refine lv_iload hx hb dX2_remove_23 (lv_at hl 0 rfl) ?_
    refine lv_lload_n hx hb dX2_remove_25 rfl (lv_at hl 2 rfl) ?_
    refine lv_iload_n hx hb dX2_remove_26 rfl (lv_at hl 3 rfl) ?_
    refine vp_callSi (va_Run.run (va_runV (As := [.int (nI j), .long q, .int (nI nq)]) (rest := []) ⟨hx, hb, hml, hown, hts⟩ (c_isAt l dC dI cL cI y p1 p2 p3 p4 p5 p6 p7 p8 mv mk f hm j (hj hok).1 q (nI nq) (fun _ => hok)) (cwV 3 hts gX2_remove_X2_isAt rfl rfl rfl (by decide +kernel) ⟨Nat.le_of_ble_eq_true rfl, Nat.le_of_ble_eq_true rfl⟩) (rd_preV hK (hP.sub (ws' := [(y, .inr (2, [.int (nI mv.1), .int (nI mk.1), .ref p1, .ref p2, .ref p3, .ref p4, .ref p5, .ref p6, .ref p7, .ref p8, .long f.1, .int f.2])), (p1, .inl (cL, 151, .inr (.inl mv.2.1))), (p2, .inl (cL, 151, .inr (.inl mv.2.2.2.1))), (p3, .inl (cL, 150, .inr (.inl mk.2.1))), (p4, .inl (cL, 150, .inr (.inl mk.2.2.2.1))), (p5, .inl (cI, 151, .inl mv.2.2.1)), (p6, .inl (cI, 151, .inl mv.2.2.2.2)), (p7, .inl (cI, 150, .inl mk.2.2.1)), (p8, .inl (cI, 150, .inl mk.2.2.2.2))]) [0, 1, 2, 3, 4, 5, 6, 7, 8] rfl) (ci := 2) (q0 := 0) rfl rfl) rfl rfl hl.1 rfl (lv_room (Nat.le_of_ble_eq_true rfl)) dX2_remove_27 ⟨Nat.le_of_ble_eq_true rfl, Nat.le_of_ble_eq_true rfl⟩)) (fun r3 hr3 => ?_)
    rcases hr3 with ⟨rfl, hh⟩ | ⟨rfl, hh⟩
    · skip
      have hju : j < mv.1 := hh.1
      have hm1 := hm.1
      refine lv_if_ne (tgt := 35) hx hb dX2_remove_30 (by decide) (fun c_30 => ?_) (fun c_30 => absurd c_30 (by decide))
      refine lv_aload_n hx hb dX2_remove_35 rfl (lv_at hl 1 rfl) ?_
      refine lv_dup hx hb dX2_remove_36 rfl ?_
      refine va_get (D := (dC, dI)) (ci := 2) (v := .int (nI mv.1)) (C := RX2) (T := TX2) (N := 12) hx hb hts i_X2_remove_X2 hown hK hP 0 rfl rfl 0 (by decide) (hts (.fieldLink RX2 41 "BlockTreeModel" "many" "I") (by decide +kernel)) (fun _ h9 => h9) rfl dX2_remove_37 ?_
      refine lv_iconst (v := 1) hx hb dX2_remove_40 (by decide) ?_
      refine lv_isub hx hb dX2_remove_41 ?_
      refine lv_topi (fun z_1 ez_1 => ?_)
      obtain rfl : z_1 = nI (mv.1 - 1) := ez_1.trans (nI_s1 (by omega))
      refine va_put (D := (dC, dI)) (ci := 2) (v := .int (nI (mv.1 - 1))) (ty := .int) (C := RX2) (T := TX2) (N := 12) hx hb hts i_X2_remove_X2 tyX2 tyX2_ok nmX2 hown hK hP hD hS 0 rfl rfl 0 (by decide) (hts (.fieldLink RX2 41 "BlockTreeModel" "many" "I") (by decide +kernel)) (fun _ h9 => h9) rfl (by decide +kernel) rfl rfl (Nat.le_of_ble_eq_true rfl) dX2_remove_42 (fun H locs hP hD hS => ?_)
      replace hP : va_P (dC, dI) vwCl [(y, .inr (2, [.int (nI (mv.1 - 1)), .int (nI mk.1), .ref p1, .ref p2, .ref p3, .ref p4, .ref p5, .ref p6, .ref p7, .ref p8, .long f.1, .int f.2])), (p1, .inl (cL, 151, .inr (.inl mv.2.1))), (p2, .inl (cL, 151, .inr (.inl mv.2.2.2.1))), (p3, .inl (cL, 150, .inr (.inl mk.2.1))), (p4, .inl (cL, 150, .inr (.inl mk.2.2.2.1))), (p5, .inl (cI, 151, .inl mv.2.2.1)), (p6, .inl (cI, 151, .inl mv.2.2.2.2)), (p7, .inl (cI, 150, .inl mk.2.2.1)), (p8, .inl (cI, 150, .inl mk.2.2.2.2))] H := hP
      replace hD : va_D A [(y, .inr (2, [.int (nI (mv.1 - 1)), .int (nI mk.1), .ref p1, .ref p2, .ref p3, .ref p4, .ref p5, .ref p6, .ref p7, .ref p8, .long f.1, .int f.2])), (p1, .inl (cL, 151, .inr (.inl mv.2.1))), (p2, .inl (cL, 151, .inr (.inl mv.2.2.2.1))), (p3, .inl (cL, 150, .inr (.inl mk.2.1))), (p4, .inl (cL, 150, .inr (.inl mk.2.2.2.1))), (p5, .inl (cI, 151, .inl mv.2.2.1)), (p6, .inl (cI, 151, .inl mv.2.2.2.2)), (p7, .inl (cI, 150, .inl mk.2.2.1)), (p8, .inl (cI, 150, .inl mk.2.2.2.2))] := hD
      refine lv_iload hx hb dX2_remove_45 (lv_at hl 0 rfl) ?_
      refine lv_istore (lv' := [(5, .int (nI j)), (4, .int (nI j)), (0, .ref y), (1, .long q), (3, .int (nI nq))]) hx hb dX2_remove_47 hl (by decide) rfl (fun ls hl => ?_)
      obtain ⟨w, hw⟩ : ∃ w : Nat, w = j := ⟨_, rfl⟩
      obtain ⟨g, hg⟩ : ∃ g : Nat, w + g = mv.1 - 1 := ⟨mv.1 - 1 - j, by omega⟩
      have hwj : j ≤ w := by omega
      replace hl : lv_has ls 6 [(0, .ref y), (1, .long q), (3, .int (nI nq)), (4, .int (nI j)), (5, .int (nI w))] := by rw [hw]; exact lv_sub hl [2, 3, 4, 1, 0] rfl
      replace hP : va_P (dC, dI) vwCl [(y, .inr (2, [.int (nI (mv.1 - 1)), .int (nI mk.1), .ref p1, .ref p2, .ref p3, .ref p4, .ref p5, .ref p6, .ref p7, .ref p8, .long f.1, .int f.2])), (p1, .inl (cL, 151, .inr (.inl (clq mv.2.1 j w)))), (p2, .inl (cL, 151, .inr (.inl (clq mv.2.2.2.1 j w)))), (p3, .inl (cL, 150, .inr (.inl mk.2.1))), (p4, .inl (cL, 150, .inr (.inl mk.2.2.2.1))), (p5, .inl (cI, 151, .inl (clq mv.2.2.1 j w))), (p6, .inl (cI, 151, .inl (clq mv.2.2.2.2 j w))), (p7, .inl (cI, 150, .inl mk.2.2.1)), (p8, .inl (cI, 150, .inl mk.2.2.2.2))] H := by rw [hw, clq_0, clq_0, clq_0, clq_0]; exact hP
      replace hD : va_D A [(y, .inr (2, [.int (nI (mv.1 - 1)), .int (nI mk.1), .ref p1, .ref p2, .ref p3, .ref p4, .ref p5, .ref p6, .ref p7, .ref p8, .long f.1, .int f.2])), (p1, .inl (cL, 151, .inr (.inl (clq mv.2.1 j w)))), (p2, .inl (cL, 151, .inr (.inl (clq mv.2.2.2.1 j w)))), (p3, .inl (cL, 150, .inr (.inl mk.2.1))), (p4, .inl (cL, 150, .inr (.inl mk.2.2.2.1))), (p5, .inl (cI, 151, .inl (clq mv.2.2.1 j w))), (p6, .inl (cI, 151, .inl (clq mv.2.2.2.2 j w))), (p7, .inl (cI, 150, .inl mk.2.2.1)), (p8, .inl (cI, 150, .inl mk.2.2.2.2))] := by rw [hw, clq_0, clq_0, clq_0, clq_0]; exact hD
      clear hw
      induction g generalizing w ls H locs with
      | zero =>
        refine lv_iload hx hb dX2_remove_49 (lv_at hl 4 rfl) ?_
        refine lv_aload_n hx hb dX2_remove_51 rfl (lv_at hl 0 rfl) ?_
        refine va_get (D := (dC, dI)) (ci := 2) (v := .int (nI (mv.1 - 1))) (C := RX2) (T := TX2) (N := 12) hx hb hts i_X2_remove_X2 hown hK hP 0 rfl rfl 0 (by decide) (hts (.fieldLink RX2 41 "BlockTreeModel" "many" "I") (by decide +kernel)) (fun _ h9 => h9) rfl dX2_remove_52 ?_
        refine lv_icmp_ge (tgt := 128) hx hb dX2_remove_55 (by decide) (fun c_55 => ?_) (fun c_55 => absurd (nI_le (show mv.1 - 1 ≤ w by omega) (by omega)) c_55)
        refine lv_iconst (v := 1) hx hb dX2_remove_128 (by decide) ?_
        obtain rfl : w = mv.1 - 1 := hg
        rw [clq_end, clq_end, clq_end, clq_end] at hP hD
        exact W.zret (v := 1) hx hb hr rfl (fun t9 ht hW => ⟨⟨1, rs_clo mv j, rfl, Or.inl ⟨hok, hh, rfl, rfl⟩, by rw [ht]; exact hP, hD⟩, hS.F ht⟩) hS.2.2 dX2_remove_129
      | succ g ih =>
        refine lv_iload hx hb dX2_remove_49 (lv_at hl 4 rfl) ?_
        refine lv_aload_n hx hb dX2_remove_51 rfl (lv_at hl 0 rfl) ?_
        refine va_get (D := (dC, dI)) (ci := 2) (v := .int (nI (mv.1 - 1))) (C := RX2) (T := TX2) (N := 12) hx hb hts i_X2_remove_X2 hown hK hP 0 rfl rfl 0 (by decide) (hts (.fieldLink RX2 41 "BlockTreeModel" "many" "I") (by decide +kernel)) (fun _ h9 => h9) rfl dX2_remove_52 ?_
        refine lv_icmp_ge (tgt := 128) hx hb dX2_remove_55 (by decide) (fun c_55 => absurd c_55 (nI_ge (by omega) (by omega))) (fun c_55 => ?_)
        refine lv_aload_n hx hb dX2_remove_58 rfl (lv_at hl 0 rfl) ?_
        refine va_get (D := (dC, dI)) (ci := 2) (v := .ref p1) (C := RX2) (T := TX2) (N := 12) hx hb hts i_X2_remove_X2 hown hK hP 0 rfl rfl 2 (by decide) (hts (.fieldLink RX2 7 "BlockTreeModel" "key" "[J") (by decide +kernel)) (fun _ h9 => h9) rfl dX2_remove_59 ?_
        refine lv_iload hx hb dX2_remove_62 (lv_at hl 4 rfl) ?_
        refine lv_aload_n hx hb dX2_remove_64 rfl (lv_at hl 0 rfl) ?_
        refine va_get (D := (dC, dI)) (ci := 2) (v := .ref p1) (C := RX2) (T := TX2) (N := 12) hx hb hts i_X2_remove_X2 hown hK hP 0 rfl rfl 2 (by decide) (hts (.fieldLink RX2 7 "BlockTreeModel" "key" "[J") (by decide +kernel)) (fun _ h9 => h9) rfl dX2_remove_65 ?_
        refine lv_iload hx hb dX2_remove_68 (lv_at hl 4 rfl) ?_
        refine lv_iconst (v := 1) hx hb dX2_remove_70 (by decide) ?_
        refine lv_iadd hx hb dX2_remove_71 ?_
        refine lv_topi (fun z_1 ez_1 => ?_)
        obtain rfl : z_1 = nI (w + 1) := ez_1.trans (nI_1 w)
        refine va_lald hx hb hK hP 1 0 rfl rfl (vp_in_nI (by omega) (by omega)) dX2_remove_72 ?_
        refine lv_topl (fun z_2 ez_2 => ?_)
        rw [show (nI (w + 1)).toNatClampNeg = (w + 1) from (nI_clamp (by omega))] at ez_2
        subst ez_2
        refine va_last hx hb hK hP hD hS 1 0 rfl rfl (vp_in_nI (by omega) (by omega)) dX2_remove_73 (fun H locs hP hD hS => ?_)
        rw [show ((nI w)).toNatClampNeg = w from (nI_clamp (by omega))] at hP hD
        replace hP : va_P (dC, dI) vwCl [(y, .inr (2, [.int (nI (mv.1 - 1)), .int (nI mk.1), .ref p1, .ref p2, .ref p3, .ref p4, .ref p5, .ref p6, .ref p7, .ref p8, .long f.1, .int f.2])), (p1, .inl (cL, 151, .inr (.inl (vp_updL (clq mv.2.1 j w) w ((clq mv.2.1 j w) (w + 1)))))), (p2, .inl (cL, 151, .inr (.inl (clq mv.2.2.2.1 j w)))), (p3, .inl (cL, 150, .inr (.inl mk.2.1))), (p4, .inl (cL, 150, .inr (.inl mk.2.2.2.1))), (p5, .inl (cI, 151, .inl (clq mv.2.2.1 j w))), (p6, .inl (cI, 151, .inl (clq mv.2.2.2.2 j w))), (p7, .inl (cI, 150, .inl mk.2.2.1)), (p8, .inl (cI, 150, .inl mk.2.2.2.2))] H := hP
        replace hD : va_D A [(y, .inr (2, [.int (nI (mv.1 - 1)), .int (nI mk.1), .ref p1, .ref p2, .ref p3, .ref p4, .ref p5, .ref p6, .ref p7, .ref p8, .long f.1, .int f.2])), (p1, .inl (cL, 151, .inr (.inl (vp_updL (clq mv.2.1 j w) w ((clq mv.2.1 j w) (w + 1)))))), (p2, .inl (cL, 151, .inr (.inl (clq mv.2.2.2.1 j w)))), (p3, .inl (cL, 150, .inr (.inl mk.2.1))), (p4, .inl (cL, 150, .inr (.inl mk.2.2.2.1))), (p5, .inl (cI, 151, .inl (clq mv.2.2.1 j w))), (p6, .inl (cI, 151, .inl (clq mv.2.2.2.2 j w))), (p7, .inl (cI, 150, .inl mk.2.2.1)), (p8, .inl (cI, 150, .inl mk.2.2.2.2))] := hD
        refine lv_aload_n hx hb dX2_remove_74 rfl (lv_at hl 0 rfl) ?_
        refine va_get (D := (dC, dI)) (ci := 2) (v := .ref p5) (C := RX2) (T := TX2) (N := 12) hx hb hts i_X2_remove_X2 hown hK hP 0 rfl rfl 6 (by decide) (hts (.fieldLink RX2 22 "BlockTreeModel" "size" "[I") (by decide +kernel)) (fun _ h9 => h9) rfl dX2_remove_75 ?_
        refine lv_iload hx hb dX2_remove_78 (lv_at hl 4 rfl) ?_
        refine lv_aload_n hx hb dX2_remove_80 rfl (lv_at hl 0 rfl) ?_
        refine va_get (D := (dC, dI)) (ci := 2) (v := .ref p5) (C := RX2) (T := TX2) (N := 12) hx hb hts i_X2_remove_X2 hown hK hP 0 rfl rfl 6 (by decide) (hts (.fieldLink RX2 22 "BlockTreeModel" "size" "[I") (by decide +kernel)) (fun _ h9 => h9) rfl dX2_remove_81 ?_
        refine lv_iload hx hb dX2_remove_84 (lv_at hl 4 rfl) ?_
        refine lv_iconst (v := 1) hx hb dX2_remove_86 (by decide) ?_
        refine lv_iadd hx hb dX2_remove_87 ?_
        refine lv_topi (fun z_3 ez_3 => ?_)
        obtain rfl : z_3 = nI (w + 1) := ez_3.trans (nI_1 w)
        refine va_iald hx hb hK hP 5 1 rfl rfl (vp_in_nI (by omega) (by omega)) dX2_remove_88 ?_
        refine lv_topi (fun z_4 ez_4 => ?_)
        rw [show (nI (w + 1)).toNatClampNeg = (w + 1) from (nI_clamp (by omega))] at ez_4
        subst ez_4
        refine va_iast hx hb hK hP hD hS 5 1 rfl rfl (vp_in_nI (by omega) (by omega)) dX2_remove_89 (fun H locs hP hD hS => ?_)
        rw [show ((nI w)).toNatClampNeg = w from (nI_clamp (by omega))] at hP hD
        replace hP : va_P (dC, dI) vwCl [(y, .inr (2, [.int (nI (mv.1 - 1)), .int (nI mk.1), .ref p1, .ref p2, .ref p3, .ref p4, .ref p5, .ref p6, .ref p7, .ref p8, .long f.1, .int f.2])), (p1, .inl (cL, 151, .inr (.inl (vp_updL (clq mv.2.1 j w) w ((clq mv.2.1 j w) (w + 1)))))), (p2, .inl (cL, 151, .inr (.inl (clq mv.2.2.2.1 j w)))), (p3, .inl (cL, 150, .inr (.inl mk.2.1))), (p4, .inl (cL, 150, .inr (.inl mk.2.2.2.1))), (p5, .inl (cI, 151, .inl (upd (clq mv.2.2.1 j w) w ((clq mv.2.2.1 j w) (w + 1))))), (p6, .inl (cI, 151, .inl (clq mv.2.2.2.2 j w))), (p7, .inl (cI, 150, .inl mk.2.2.1)), (p8, .inl (cI, 150, .inl mk.2.2.2.2))] H := hP
        replace hD : va_D A [(y, .inr (2, [.int (nI (mv.1 - 1)), .int (nI mk.1), .ref p1, .ref p2, .ref p3, .ref p4, .ref p5, .ref p6, .ref p7, .ref p8, .long f.1, .int f.2])), (p1, .inl (cL, 151, .inr (.inl (vp_updL (clq mv.2.1 j w) w ((clq mv.2.1 j w) (w + 1)))))), (p2, .inl (cL, 151, .inr (.inl (clq mv.2.2.2.1 j w)))), (p3, .inl (cL, 150, .inr (.inl mk.2.1))), (p4, .inl (cL, 150, .inr (.inl mk.2.2.2.1))), (p5, .inl (cI, 151, .inl (upd (clq mv.2.2.1 j w) w ((clq mv.2.2.1 j w) (w + 1))))), (p6, .inl (cI, 151, .inl (clq mv.2.2.2.2 j w))), (p7, .inl (cI, 150, .inl mk.2.2.1)), (p8, .inl (cI, 150, .inl mk.2.2.2.2))] := hD
        refine lv_aload_n hx hb dX2_remove_90 rfl (lv_at hl 0 rfl) ?_
        refine va_get (D := (dC, dI)) (ci := 2) (v := .ref p2) (C := RX2) (T := TX2) (N := 12) hx hb hts i_X2_remove_X2 hown hK hP 0 rfl rfl 3 (by decide) (hts (.fieldLink RX2 13 "BlockTreeModel" "text" "[J") (by decide +kernel)) (fun _ h9 => h9) rfl dX2_remove_91 ?_
        refine lv_iload hx hb dX2_remove_94 (lv_at hl 4 rfl) ?_
        refine lv_aload_n hx hb dX2_remove_96 rfl (lv_at hl 0 rfl) ?_
        refine va_get (D := (dC, dI)) (ci := 2) (v := .ref p2) (C := RX2) (T := TX2) (N := 12) hx hb hts i_X2_remove_X2 hown hK hP 0 rfl rfl 3 (by decide) (hts (.fieldLink RX2 13 "BlockTreeModel" "text" "[J") (by decide +kernel)) (fun _ h9 => h9) rfl dX2_remove_97 ?_
        refine lv_iload hx hb dX2_remove_100 (lv_at hl 4 rfl) ?_
        refine lv_iconst (v := 1) hx hb dX2_remove_102 (by decide) ?_
        refine lv_iadd hx hb dX2_remove_103 ?_
        refine lv_topi (fun z_5 ez_5 => ?_)
        obtain rfl : z_5 = nI (w + 1) := ez_5.trans (nI_1 w)
        refine va_lald hx hb hK hP 2 0 rfl rfl (vp_in_nI (by omega) (by omega)) dX2_remove_104 ?_
        refine lv_topl (fun z_6 ez_6 => ?_)
        rw [show (nI (w + 1)).toNatClampNeg = (w + 1) from (nI_clamp (by omega))] at ez_6
        subst ez_6
        refine va_last hx hb hK hP hD hS 2 0 rfl rfl (vp_in_nI (by omega) (by omega)) dX2_remove_105 (fun H locs hP hD hS => ?_)
        rw [show ((nI w)).toNatClampNeg = w from (nI_clamp (by omega))] at hP hD
        replace hP : va_P (dC, dI) vwCl [(y, .inr (2, [.int (nI (mv.1 - 1)), .int (nI mk.1), .ref p1, .ref p2, .ref p3, .ref p4, .ref p5, .ref p6, .ref p7, .ref p8, .long f.1, .int f.2])), (p1, .inl (cL, 151, .inr (.inl (vp_updL (clq mv.2.1 j w) w ((clq mv.2.1 j w) (w + 1)))))), (p2, .inl (cL, 151, .inr (.inl (vp_updL (clq mv.2.2.2.1 j w) w ((clq mv.2.2.2.1 j w) (w + 1)))))), (p3, .inl (cL, 150, .inr (.inl mk.2.1))), (p4, .inl (cL, 150, .inr (.inl mk.2.2.2.1))), (p5, .inl (cI, 151, .inl (upd (clq mv.2.2.1 j w) w ((clq mv.2.2.1 j w) (w + 1))))), (p6, .inl (cI, 151, .inl (clq mv.2.2.2.2 j w))), (p7, .inl (cI, 150, .inl mk.2.2.1)), (p8, .inl (cI, 150, .inl mk.2.2.2.2))] H := hP
        replace hD : va_D A [(y, .inr (2, [.int (nI (mv.1 - 1)), .int (nI mk.1), .ref p1, .ref p2, .ref p3, .ref p4, .ref p5, .ref p6, .ref p7, .ref p8, .long f.1, .int f.2])), (p1, .inl (cL, 151, .inr (.inl (vp_updL (clq mv.2.1 j w) w ((clq mv.2.1 j w) (w + 1)))))), (p2, .inl (cL, 151, .inr (.inl (vp_updL (clq mv.2.2.2.1 j w) w ((clq mv.2.2.2.1 j w) (w + 1)))))), (p3, .inl (cL, 150, .inr (.inl mk.2.1))), (p4, .inl (cL, 150, .inr (.inl mk.2.2.2.1))), (p5, .inl (cI, 151, .inl (upd (clq mv.2.2.1 j w) w ((clq mv.2.2.1 j w) (w + 1))))), (p6, .inl (cI, 151, .inl (clq mv.2.2.2.2 j w))), (p7, .inl (cI, 150, .inl mk.2.2.1)), (p8, .inl (cI, 150, .inl mk.2.2.2.2))] := hD
        refine lv_aload_n hx hb dX2_remove_106 rfl (lv_at hl 0 rfl) ?_
        refine va_get (D := (dC, dI)) (ci := 2) (v := .ref p6) (C := RX2) (T := TX2) (N := 12) hx hb hts i_X2_remove_X2 hown hK hP 0 rfl rfl 7 (by decide) (hts (.fieldLink RX2 26 "BlockTreeModel" "length" "[I") (by decide +kernel)) (fun _ h9 => h9) rfl dX2_remove_107 ?_
        refine lv_iload hx hb dX2_remove_110 (lv_at hl 4 rfl) ?_
        refine lv_aload_n hx hb dX2_remove_112 rfl (lv_at hl 0 rfl) ?_
        refine va_get (D := (dC, dI)) (ci := 2) (v := .ref p6) (C := RX2) (T := TX2) (N := 12) hx hb hts i_X2_remove_X2 hown hK hP 0 rfl rfl 7 (by decide) (hts (.fieldLink RX2 26 "BlockTreeModel" "length" "[I") (by decide +kernel)) (fun _ h9 => h9) rfl dX2_remove_113 ?_
        refine lv_iload hx hb dX2_remove_116 (lv_at hl 4 rfl) ?_
        refine lv_iconst (v := 1) hx hb dX2_remove_118 (by decide) ?_
        refine lv_iadd hx hb dX2_remove_119 ?_
        refine lv_topi (fun z_7 ez_7 => ?_)
        obtain rfl : z_7 = nI (w + 1) := ez_7.trans (nI_1 w)
        refine va_iald hx hb hK hP 6 1 rfl rfl (vp_in_nI (by omega) (by omega)) dX2_remove_120 ?_
        refine lv_topi (fun z_8 ez_8 => ?_)
        rw [show (nI (w + 1)).toNatClampNeg = (w + 1) from (nI_clamp (by omega))] at ez_8
        subst ez_8
        refine va_iast hx hb hK hP hD hS 6 1 rfl rfl (vp_in_nI (by omega) (by omega)) dX2_remove_121 (fun H locs hP hD hS => ?_)
        rw [show ((nI w)).toNatClampNeg = w from (nI_clamp (by omega))] at hP hD
        replace hP : va_P (dC, dI) vwCl [(y, .inr (2, [.int (nI (mv.1 - 1)), .int (nI mk.1), .ref p1, .ref p2, .ref p3, .ref p4, .ref p5, .ref p6, .ref p7, .ref p8, .long f.1, .int f.2])), (p1, .inl (cL, 151, .inr (.inl (vp_updL (clq mv.2.1 j w) w ((clq mv.2.1 j w) (w + 1)))))), (p2, .inl (cL, 151, .inr (.inl (vp_updL (clq mv.2.2.2.1 j w) w ((clq mv.2.2.2.1 j w) (w + 1)))))), (p3, .inl (cL, 150, .inr (.inl mk.2.1))), (p4, .inl (cL, 150, .inr (.inl mk.2.2.2.1))), (p5, .inl (cI, 151, .inl (upd (clq mv.2.2.1 j w) w ((clq mv.2.2.1 j w) (w + 1))))), (p6, .inl (cI, 151, .inl (upd (clq mv.2.2.2.2 j w) w ((clq mv.2.2.2.2 j w) (w + 1))))), (p7, .inl (cI, 150, .inl mk.2.2.1)), (p8, .inl (cI, 150, .inl mk.2.2.2.2))] H := hP
        replace hD : va_D A [(y, .inr (2, [.int (nI (mv.1 - 1)), .int (nI mk.1), .ref p1, .ref p2, .ref p3, .ref p4, .ref p5, .ref p6, .ref p7, .ref p8, .long f.1, .int f.2])), (p1, .inl (cL, 151, .inr (.inl (vp_updL (clq mv.2.1 j w) w ((clq mv.2.1 j w) (w + 1)))))), (p2, .inl (cL, 151, .inr (.inl (vp_updL (clq mv.2.2.2.1 j w) w ((clq mv.2.2.2.1 j w) (w + 1)))))), (p3, .inl (cL, 150, .inr (.inl mk.2.1))), (p4, .inl (cL, 150, .inr (.inl mk.2.2.2.1))), (p5, .inl (cI, 151, .inl (upd (clq mv.2.2.1 j w) w ((clq mv.2.2.1 j w) (w + 1))))), (p6, .inl (cI, 151, .inl (upd (clq mv.2.2.2.2 j w) w ((clq mv.2.2.2.2 j w) (w + 1))))), (p7, .inl (cI, 150, .inl mk.2.2.1)), (p8, .inl (cI, 150, .inl mk.2.2.2.2))] := hD
        refine lv_iinc (v := nI (w + 1)) (lv' := [(5, .int (nI (w + 1))), (0, .ref y), (1, .long q), (3, .int (nI nq)), (4, .int (nI j))]) hx hb dX2_remove_122 hl (k := 4) rfl (nI_1 w) (by decide) rfl (fun ls hl => ?_)
        refine lv_goto (tgt := 49) hx hb dX2_remove_125 (by decide) ?_
        replace hP : va_P (dC, dI) vwCl [(y, .inr (2, [.int (nI (mv.1 - 1)), .int (nI mk.1), .ref p1, .ref p2, .ref p3, .ref p4, .ref p5, .ref p6, .ref p7, .ref p8, .long f.1, .int f.2])), (p1, .inl (cL, 151, .inr (.inl (clq mv.2.1 j (w + 1))))), (p2, .inl (cL, 151, .inr (.inl (clq mv.2.2.2.1 j (w + 1))))), (p3, .inl (cL, 150, .inr (.inl mk.2.1))), (p4, .inl (cL, 150, .inr (.inl mk.2.2.2.1))), (p5, .inl (cI, 151, .inl (clq mv.2.2.1 j (w + 1)))), (p6, .inl (cI, 151, .inl (clq mv.2.2.2.2 j (w + 1)))), (p7, .inl (cI, 150, .inl mk.2.2.1)), (p8, .inl (cI, 150, .inl mk.2.2.2.2))] H := by rw [← clq_stepL (f := mv.2.1) (q := w) (by omega), ← clq_stepI (f := mv.2.2.1) (q := w) (by omega), ← clq_stepL (f := mv.2.2.2.1) (q := w) (by omega), ← clq_stepI (f := mv.2.2.2.2) (q := w) (by omega)]; exact hP
        replace hD : va_D A [(y, .inr (2, [.int (nI (mv.1 - 1)), .int (nI mk.1), .ref p1, .ref p2, .ref p3, .ref p4, .ref p5, .ref p6, .ref p7, .ref p8, .long f.1, .int f.2])), (p1, .inl (cL, 151, .inr (.inl (clq mv.2.1 j (w + 1))))), (p2, .inl (cL, 151, .inr (.inl (clq mv.2.2.2.1 j (w + 1))))), (p3, .inl (cL, 150, .inr (.inl mk.2.1))), (p4, .inl (cL, 150, .inr (.inl mk.2.2.2.1))), (p5, .inl (cI, 151, .inl (clq mv.2.2.1 j (w + 1)))), (p6, .inl (cI, 151, .inl (clq mv.2.2.2.2 j (w + 1)))), (p7, .inl (cI, 150, .inl mk.2.2.1)), (p8, .inl (cI, 150, .inl mk.2.2.2.2))] := by rw [← clq_stepL (f := mv.2.1) (q := w) (by omega), ← clq_stepI (f := mv.2.2.1) (q := w) (by omega), ← clq_stepL (f := mv.2.2.2.1) (q := w) (by omega), ← clq_stepI (f := mv.2.2.2.2) (q := w) (by omega)]; exact hD
        apply ih (w := w + 1) (ls := ls) (H := H) (locs := locs)
        all_goals first | omega | exact lv_sub hl [1, 2, 3, 4, 0] rfl | exact hP | exact hD | exact hS
    · skip
      have hbad : ¬ (okK (nI nq) ∧ mhl mv j (hdOf q (nI nq)) (nI nq)) := fun g => hh g.2
      refine lv_if_ne (tgt := 35) hx hb dX2_remove_30 (by decide) (fun c_30 => absurd c_30 (by decide)) (fun c_30 => ?_)
      refine lv_iconst (v := 0) hx hb dX2_remove_33 (by decide) ?_
      exact W.zret (v := 0) hx hb hr rfl (fun t9 ht hW => ⟨⟨0, mv, rfl, Or.inr ⟨hbad, rfl, rfl⟩, by rw [ht]; exact hP, hD⟩, hS.F ht⟩) hS.2.2 dX2_remove_34
  · skip
    refine lv_if_eq (tgt := 16) hx hb dX2_remove_4 (by decide) (fun c_4 => ?_) (fun c_4 => absurd c_4 (by decide))
    refine lv_aload_n hx hb dX2_remove_16 rfl (lv_at hl 0 rfl) ?_
    refine va_get (D := (dC, dI)) (ci := 2) (v := .int (nI mv.1)) (C := RX2) (T := TX2) (N := 12) hx hb hts i_X2_remove_X2 hown hK hP 0 rfl rfl 0 (by decide) (hts (.fieldLink RX2 41 "BlockTreeModel" "many" "I") (by decide +kernel)) (fun _ h9 => h9) rfl dX2_remove_17 ?_
    refine lv_istore (lv' := [(4, .int (nI mv.1)), (0, .ref y), (1, .long q), (3, .int t)]) hx hb dX2_remove_20 hl (by decide) rfl (fun ls hl => ?_)
    refine lv_aload_n hx hb dX2_remove_22 rfl (lv_at hl 1 rfl) ?_
    refine lv_iload hx hb dX2_remove_23 (lv_at hl 0 rfl) ?_
    refine lv_lload_n hx hb dX2_remove_25 rfl (lv_at hl 2 rfl) ?_
    refine lv_iload_n hx hb dX2_remove_26 rfl (lv_at hl 3 rfl) ?_
    refine vp_callSi (va_Run.run (va_runV (As := [.int (nI mv.1), .long q, .int t]) (rest := []) ⟨hx, hb, hml, hown, hts⟩ (c_isAt l dC dI cL cI y p1 p2 p3 p4 p5 p6 p7 p8 mv mk f hm mv.1 (Nat.le_refl _) q t (fun g => absurd g (Nat.lt_irrefl _))) (cwV 3 hts gX2_remove_X2_isAt rfl rfl rfl (by decide +kernel) ⟨Nat.le_of_ble_eq_true rfl, Nat.le_of_ble_eq_true rfl⟩) (rd_preV hK (hP.sub (ws' := [(y, .inr (2, [.int (nI mv.1), .int (nI mk.1), .ref p1, .ref p2, .ref p3, .ref p4, .ref p5, .ref p6, .ref p7, .ref p8, .long f.1, .int f.2])), (p1, .inl (cL, 151, .inr (.inl mv.2.1))), (p2, .inl (cL, 151, .inr (.inl mv.2.2.2.1))), (p3, .inl (cL, 150, .inr (.inl mk.2.1))), (p4, .inl (cL, 150, .inr (.inl mk.2.2.2.1))), (p5, .inl (cI, 151, .inl mv.2.2.1)), (p6, .inl (cI, 151, .inl mv.2.2.2.2)), (p7, .inl (cI, 150, .inl mk.2.2.1)), (p8, .inl (cI, 150, .inl mk.2.2.2.2))]) [0, 1, 2, 3, 4, 5, 6, 7, 8] rfl) (ci := 2) (q0 := 0) rfl rfl) rfl rfl hl.1 rfl (lv_room (Nat.le_of_ble_eq_true rfl)) dX2_remove_27 ⟨Nat.le_of_ble_eq_true rfl, Nat.le_of_ble_eq_true rfl⟩)) (fun r3 hr3 => ?_)
    rcases hr3 with ⟨rfl, hh⟩ | ⟨rfl, hh⟩
    · skip
      exact absurd hh.1 (Nat.lt_irrefl _)
    · skip
      have hbad : ¬ (okK t ∧ mhl mv j (hdOf q t) t) := fun g => hok g.1
      refine lv_if_ne (tgt := 35) hx hb dX2_remove_30 (by decide) (fun c_30 => absurd c_30 (by decide)) (fun c_30 => ?_)
      refine lv_iconst (v := 0) hx hb dX2_remove_33 (by decide) ?_
      exact W.zret (v := 0) hx hb hr rfl (fun t9 ht hW => ⟨⟨0, mv, rfl, Or.inr ⟨hbad, rfl, rfl⟩, by rw [ht]; exact hP, hD⟩, hS.F ht⟩) hS.2.2 dX2_remove_34
set_option maxHeartbeats 4000000 in
set_option maxRecDepth 100000 in
/-- commit -/
theorem m_commit (l : Launch) (dC : Nat → ClassId) (dI : Nat → Nat → Nat) (hz : Nat) (cL cI : ClassId) (y p1 p2 p3 p4 p5 p6 p7 p8 : Nat) (mv mk : RS) (f : Int64 × Int32) (hm1 : mv.1 ≤ 150) : Met l yX2_commit wsX2_commit ({ frames := 0, cells := 0, slots := 0, locals := 0 }) (wrP (dC, dI) (kS cL cI) (mW cL cI y p1 p2 p3 p4 p5 p6 p7 p8 mv mk f) [.ref y] hz) (va_Qv (fun (v : RS) => v = rs_cpy mv mk) (wrB (dC, dI) (va_A (mW cL cI y p1 p2 p3 p4 p5 p6 p7 p8 mv mk f) hz) (fun (v : RS) => mW cL cI y p1 p2 p3 p4 p5 p6 p7 p8 mv v f)) (va_A (mW cL cI y p1 p2 p3 p4 p5 p6 p7 p8 mv mk f) hz)) 0 0 (va_A (mW cL cI y p1 p2 p3 p4 p5 p6 p7 p8 mv mk f) hz) := by
  refine Met.ofW (cc := cX2_commit) (maxL := 2) (ret := none) (by decide) rfl ?_
  intro p e s m args below meth c s₁ B hml hv
  obtain ⟨rfl, hsz, hP, hK, hD0⟩ := hv
  have hx := B.exec
  have hb := B.bytes
  have hr := B.returns
  have hts := atoms_spec (ws := wsX2_commit) B.pre
  have hown : s.vm.findClass RX2 = some m.cls := findClass_of_methodNamed B.named
  have hlocks := B.notSynchronized
  subst hsz
  have hD := hD0.self (sz := s.heap.size)
  generalize hAe : va_A (mW cL cI y p1 p2 p3 p4 p5 p6 p7 p8 mv mk f) s.heap.size = A at hD ⊢
  have hA : ∀ q : Nat, s.heap.size ≤ q → A q := fun q h => by rw [← hAe]; exact Or.inr h
  have hS : va_S A s.heap s.heap [] := va_S.rf
  replace hP : va_P (dC, dI) vwCl [(y, .inr (2, [.int (nI mv.1), .int (nI mk.1), .ref p1, .ref p2, .ref p3, .ref p4, .ref p5, .ref p6, .ref p7, .ref p8, .long f.1, .int f.2])), (p1, .inl (cL, 151, .inr (.inl mv.2.1))), (p2, .inl (cL, 151, .inr (.inl mv.2.2.2.1))), (p3, .inl (cL, 150, .inr (.inl mk.2.1))), (p4, .inl (cL, 150, .inr (.inl mk.2.2.2.1))), (p5, .inl (cI, 151, .inl mv.2.2.1)), (p6, .inl (cI, 151, .inl mv.2.2.2.2)), (p7, .inl (cI, 150, .inl mk.2.2.1)), (p8, .inl (cI, 150, .inl mk.2.2.2.2))] s.heap := hP
  replace hD : va_D A [(y, .inr (2, [.int (nI mv.1), .int (nI mk.1), .ref p1, .ref p2, .ref p3, .ref p4, .ref p5, .ref p6, .ref p7, .ref p8, .long f.1, .int f.2])), (p1, .inl (cL, 151, .inr (.inl mv.2.1))), (p2, .inl (cL, 151, .inr (.inl mv.2.2.2.1))), (p3, .inl (cL, 150, .inr (.inl mk.2.1))), (p4, .inl (cL, 150, .inr (.inl mk.2.2.2.1))), (p5, .inl (cI, 151, .inl mv.2.2.1)), (p6, .inl (cI, 151, .inl mv.2.2.2.2)), (p7, .inl (cI, 150, .inl mk.2.2.1)), (p8, .inl (cI, 150, .inl mk.2.2.2.2))] := hD
  clear hD0
  refine w_gen _ _ (fun H locs hH hlo => ?_)
  replace hP : va_P (dC, dI) vwCl [(y, .inr (2, [.int (nI mv.1), .int (nI mk.1), .ref p1, .ref p2, .ref p3, .ref p4, .ref p5, .ref p6, .ref p7, .ref p8, .long f.1, .int f.2])), (p1, .inl (cL, 151, .inr (.inl mv.2.1))), (p2, .inl (cL, 151, .inr (.inl mv.2.2.2.1))), (p3, .inl (cL, 150, .inr (.inl mk.2.1))), (p4, .inl (cL, 150, .inr (.inl mk.2.2.2.1))), (p5, .inl (cI, 151, .inl mv.2.2.1)), (p6, .inl (cI, 151, .inl mv.2.2.2.2)), (p7, .inl (cI, 150, .inl mk.2.2.1)), (p8, .inl (cI, 150, .inl mk.2.2.2.2))] H := by rw [hH]; exact hP
  replace hS : va_S A s.heap H locs := by rw [hH, hlo]; exact hS
  clear hH hlo
  have hl := lv_entry ([.ref y]) (n := 2) (Nat.le_of_ble_eq_true rfl)
  rw [lg_entry_eq]
  generalize (lg_sl ([.ref y]) ++ List.replicate (2 - (lg_sl ([.ref y])).length) Slot.unset).toArray = ls at hl ⊢
  replace hl : lv_has ls 2 [(0, .ref y)] := hl
  refine lv_aload_n hx hb dX2_commit_0 rfl (lv_at hl 0 rfl) ?_
  refine lv_aload_n hx hb dX2_commit_1 rfl (lv_at hl 0 rfl) ?_
  refine va_get (D := (dC, dI)) (ci := 2) (v := .int (nI mv.1)) (C := RX2) (T := TX2) (N := 12) hx hb hts i_X2_commit_X2 hown hK hP 0 rfl rfl 0 (by decide) (hts (.fieldLink RX2 41 "BlockTreeModel" "many" "I") (by decide +kernel)) (fun _ h9 => h9) rfl dX2_commit_2 ?_
  refine va_put (D := (dC, dI)) (ci := 2) (v := .int (nI mv.1)) (ty := .int) (C := RX2) (T := TX2) (N := 12) hx hb hts i_X2_commit_X2 tyX2 tyX2_ok nmX2 hown hK hP hD hS 0 rfl rfl 1 (by decide) (hts (.fieldLink RX2 75 "BlockTreeModel" "kept" "I") (by decide +kernel)) (fun _ h9 => h9) rfl (by decide +kernel) rfl rfl (Nat.le_of_ble_eq_true rfl) dX2_commit_5 (fun H locs hP hD hS => ?_)
  replace hP : va_P (dC, dI) vwCl [(y, .inr (2, [.int (nI mv.1), .int (nI mv.1), .ref p1, .ref p2, .ref p3, .ref p4, .ref p5, .ref p6, .ref p7, .ref p8, .long f.1, .int f.2])), (p1, .inl (cL, 151, .inr (.inl mv.2.1))), (p2, .inl (cL, 151, .inr (.inl mv.2.2.2.1))), (p3, .inl (cL, 150, .inr (.inl mk.2.1))), (p4, .inl (cL, 150, .inr (.inl mk.2.2.2.1))), (p5, .inl (cI, 151, .inl mv.2.2.1)), (p6, .inl (cI, 151, .inl mv.2.2.2.2)), (p7, .inl (cI, 150, .inl mk.2.2.1)), (p8, .inl (cI, 150, .inl mk.2.2.2.2))] H := hP
  replace hD : va_D A [(y, .inr (2, [.int (nI mv.1), .int (nI mv.1), .ref p1, .ref p2, .ref p3, .ref p4, .ref p5, .ref p6, .ref p7, .ref p8, .long f.1, .int f.2])), (p1, .inl (cL, 151, .inr (.inl mv.2.1))), (p2, .inl (cL, 151, .inr (.inl mv.2.2.2.1))), (p3, .inl (cL, 150, .inr (.inl mk.2.1))), (p4, .inl (cL, 150, .inr (.inl mk.2.2.2.1))), (p5, .inl (cI, 151, .inl mv.2.2.1)), (p6, .inl (cI, 151, .inl mv.2.2.2.2)), (p7, .inl (cI, 150, .inl mk.2.2.1)), (p8, .inl (cI, 150, .inl mk.2.2.2.2))] := hD
  refine lv_iconst (v := 0) hx hb dX2_commit_8 (by decide) ?_
  refine lv_istore_n (lv' := [(1, .int 0), (0, .ref y)]) hx hb dX2_commit_9 rfl hl (by decide) rfl (fun ls hl => ?_)
  obtain ⟨w, hw⟩ : ∃ w : Nat, w = 0 := ⟨_, rfl⟩
  obtain ⟨g, hg⟩ : ∃ g : Nat, w + g = mv.1 := ⟨mv.1, by omega⟩
  replace hl : lv_has ls 2 [(0, .ref y), (1, .int (nI w))] := by rw [hw]; exact lv_sub hl [1, 0] rfl
  replace hP : va_P (dC, dI) vwCl [(y, .inr (2, [.int (nI mv.1), .int (nI mv.1), .ref p1, .ref p2, .ref p3, .ref p4, .ref p5, .ref p6, .ref p7, .ref p8, .long f.1, .int f.2])), (p1, .inl (cL, 151, .inr (.inl mv.2.1))), (p2, .inl (cL, 151, .inr (.inl mv.2.2.2.1))), (p3, .inl (cL, 150, .inr (.inl (va_cpy mv.2.1 mk.2.1 0 0 w)))), (p4, .inl (cL, 150, .inr (.inl (va_cpy mv.2.2.2.1 mk.2.2.2.1 0 0 w)))), (p5, .inl (cI, 151, .inl mv.2.2.1)), (p6, .inl (cI, 151, .inl mv.2.2.2.2)), (p7, .inl (cI, 150, .inl (va_cpy mv.2.2.1 mk.2.2.1 0 0 w))), (p8, .inl (cI, 150, .inl (va_cpy mv.2.2.2.2 mk.2.2.2.2 0 0 w)))] H := by rw [hw, cpq_0, cpq_0, cpq_0, cpq_0]; exact hP
  replace hD : va_D A [(y, .inr (2, [.int (nI mv.1), .int (nI mv.1), .ref p1, .ref p2, .ref p3, .ref p4, .ref p5, .ref p6, .ref p7, .ref p8, .long f.1, .int f.2])), (p1, .inl (cL, 151, .inr (.inl mv.2.1))), (p2, .inl (cL, 151, .inr (.inl mv.2.2.2.1))), (p3, .inl (cL, 150, .inr (.inl (va_cpy mv.2.1 mk.2.1 0 0 w)))), (p4, .inl (cL, 150, .inr (.inl (va_cpy mv.2.2.2.1 mk.2.2.2.1 0 0 w)))), (p5, .inl (cI, 151, .inl mv.2.2.1)), (p6, .inl (cI, 151, .inl mv.2.2.2.2)), (p7, .inl (cI, 150, .inl (va_cpy mv.2.2.1 mk.2.2.1 0 0 w))), (p8, .inl (cI, 150, .inl (va_cpy mv.2.2.2.2 mk.2.2.2.2 0 0 w)))] := by rw [hw, cpq_0, cpq_0, cpq_0, cpq_0]; exact hD
  clear hw
  induction g generalizing w ls H locs with
  | zero =>
    refine lv_iload_n hx hb dX2_commit_10 rfl (lv_at hl 1 rfl) ?_
    refine lv_aload_n hx hb dX2_commit_11 rfl (lv_at hl 0 rfl) ?_
    refine va_get (D := (dC, dI)) (ci := 2) (v := .int (nI mv.1)) (C := RX2) (T := TX2) (N := 12) hx hb hts i_X2_commit_X2 hown hK hP 0 rfl rfl 0 (by decide) (hts (.fieldLink RX2 41 "BlockTreeModel" "many" "I") (by decide +kernel)) (fun _ h9 => h9) rfl dX2_commit_12 ?_
    refine lv_icmp_ge (tgt := 72) hx hb dX2_commit_15 (by decide) (fun c_15 => ?_) (fun c_15 => absurd (nI_le (show mv.1 ≤ w by omega) (by omega)) c_15)
    obtain rfl : w = mv.1 := hg
    exact W.vret hx hb hr (fun t9 ht hW => ⟨⟨rs_cpy mv mk, rfl, rfl, by rw [ht]; exact hP, hD⟩, hS.F ht⟩) hS.2.2 dX2_commit_72
  | succ g ih =>
    refine lv_iload_n hx hb dX2_commit_10 rfl (lv_at hl 1 rfl) ?_
    refine lv_aload_n hx hb dX2_commit_11 rfl (lv_at hl 0 rfl) ?_
    refine va_get (D := (dC, dI)) (ci := 2) (v := .int (nI mv.1)) (C := RX2) (T := TX2) (N := 12) hx hb hts i_X2_commit_X2 hown hK hP 0 rfl rfl 0 (by decide) (hts (.fieldLink RX2 41 "BlockTreeModel" "many" "I") (by decide +kernel)) (fun _ h9 => h9) rfl dX2_commit_12 ?_
    refine lv_icmp_ge (tgt := 72) hx hb dX2_commit_15 (by decide) (fun c_15 => absurd c_15 (nI_ge (by omega) (by omega))) (fun c_15 => ?_)
    refine lv_aload_n hx hb dX2_commit_18 rfl (lv_at hl 0 rfl) ?_
    refine va_get (D := (dC, dI)) (ci := 2) (v := .ref p3) (C := RX2) (T := TX2) (N := 12) hx hb hts i_X2_commit_X2 hown hK hP 0 rfl rfl 4 (by decide) (hts (.fieldLink RX2 16 "BlockTreeModel" "keptKey" "[J") (by decide +kernel)) (fun _ h9 => h9) rfl dX2_commit_19 ?_
    refine lv_iload_n hx hb dX2_commit_22 rfl (lv_at hl 1 rfl) ?_
    refine lv_aload_n hx hb dX2_commit_23 rfl (lv_at hl 0 rfl) ?_
    refine va_get (D := (dC, dI)) (ci := 2) (v := .ref p1) (C := RX2) (T := TX2) (N := 12) hx hb hts i_X2_commit_X2 hown hK hP 0 rfl rfl 2 (by decide) (hts (.fieldLink RX2 7 "BlockTreeModel" "key" "[J") (by decide +kernel)) (fun _ h9 => h9) rfl dX2_commit_24 ?_
    refine lv_iload_n hx hb dX2_commit_27 rfl (lv_at hl 1 rfl) ?_
    refine va_lald hx hb hK hP 1 0 rfl rfl (vp_in_nI (by omega) (by omega)) dX2_commit_28 ?_
    refine lv_topl (fun z_1 ez_1 => ?_)
    rw [show ((nI w)).toNatClampNeg = w from (nI_clamp (by omega))] at ez_1
    subst ez_1
    refine va_last hx hb hK hP hD hS 3 0 rfl rfl (vp_in_nI (by omega) (by omega)) dX2_commit_29 (fun H locs hP hD hS => ?_)
    rw [show ((nI w)).toNatClampNeg = w from (nI_clamp (by omega))] at hP hD
    replace hP : va_P (dC, dI) vwCl [(y, .inr (2, [.int (nI mv.1), .int (nI mv.1), .ref p1, .ref p2, .ref p3, .ref p4, .ref p5, .ref p6, .ref p7, .ref p8, .long f.1, .int f.2])), (p1, .inl (cL, 151, .inr (.inl mv.2.1))), (p2, .inl (cL, 151, .inr (.inl mv.2.2.2.1))), (p3, .inl (cL, 150, .inr (.inl (vp_updL (va_cpy mv.2.1 mk.2.1 0 0 w) w (mv.2.1 w))))), (p4, .inl (cL, 150, .inr (.inl (va_cpy mv.2.2.2.1 mk.2.2.2.1 0 0 w)))), (p5, .inl (cI, 151, .inl mv.2.2.1)), (p6, .inl (cI, 151, .inl mv.2.2.2.2)), (p7, .inl (cI, 150, .inl (va_cpy mv.2.2.1 mk.2.2.1 0 0 w))), (p8, .inl (cI, 150, .inl (va_cpy mv.2.2.2.2 mk.2.2.2.2 0 0 w)))] H := hP
    replace hD : va_D A [(y, .inr (2, [.int (nI mv.1), .int (nI mv.1), .ref p1, .ref p2, .ref p3, .ref p4, .ref p5, .ref p6, .ref p7, .ref p8, .long f.1, .int f.2])), (p1, .inl (cL, 151, .inr (.inl mv.2.1))), (p2, .inl (cL, 151, .inr (.inl mv.2.2.2.1))), (p3, .inl (cL, 150, .inr (.inl (vp_updL (va_cpy mv.2.1 mk.2.1 0 0 w) w (mv.2.1 w))))), (p4, .inl (cL, 150, .inr (.inl (va_cpy mv.2.2.2.1 mk.2.2.2.1 0 0 w)))), (p5, .inl (cI, 151, .inl mv.2.2.1)), (p6, .inl (cI, 151, .inl mv.2.2.2.2)), (p7, .inl (cI, 150, .inl (va_cpy mv.2.2.1 mk.2.2.1 0 0 w))), (p8, .inl (cI, 150, .inl (va_cpy mv.2.2.2.2 mk.2.2.2.2 0 0 w)))] := hD
    refine lv_aload_n hx hb dX2_commit_30 rfl (lv_at hl 0 rfl) ?_
    refine va_get (D := (dC, dI)) (ci := 2) (v := .ref p7) (C := RX2) (T := TX2) (N := 12) hx hb hts i_X2_commit_X2 hown hK hP 0 rfl rfl 8 (by decide) (hts (.fieldLink RX2 29 "BlockTreeModel" "keptSize" "[I") (by decide +kernel)) (fun _ h9 => h9) rfl dX2_commit_31 ?_
    refine lv_iload_n hx hb dX2_commit_34 rfl (lv_at hl 1 rfl) ?_
    refine lv_aload_n hx hb dX2_commit_35 rfl (lv_at hl 0 rfl) ?_
    refine va_get (D := (dC, dI)) (ci := 2) (v := .ref p5) (C := RX2) (T := TX2) (N := 12) hx hb hts i_X2_commit_X2 hown hK hP 0 rfl rfl 6 (by decide) (hts (.fieldLink RX2 22 "BlockTreeModel" "size" "[I") (by decide +kernel)) (fun _ h9 => h9) rfl dX2_commit_36 ?_
    refine lv_iload_n hx hb dX2_commit_39 rfl (lv_at hl 1 rfl) ?_
    refine va_iald hx hb hK hP 5 1 rfl rfl (vp_in_nI (by omega) (by omega)) dX2_commit_40 ?_
    refine lv_topi (fun z_2 ez_2 => ?_)
    rw [show ((nI w)).toNatClampNeg = w from (nI_clamp (by omega))] at ez_2
    subst ez_2
    refine va_iast hx hb hK hP hD hS 7 1 rfl rfl (vp_in_nI (by omega) (by omega)) dX2_commit_41 (fun H locs hP hD hS => ?_)
    rw [show ((nI w)).toNatClampNeg = w from (nI_clamp (by omega))] at hP hD
    replace hP : va_P (dC, dI) vwCl [(y, .inr (2, [.int (nI mv.1), .int (nI mv.1), .ref p1, .ref p2, .ref p3, .ref p4, .ref p5, .ref p6, .ref p7, .ref p8, .long f.1, .int f.2])), (p1, .inl (cL, 151, .inr (.inl mv.2.1))), (p2, .inl (cL, 151, .inr (.inl mv.2.2.2.1))), (p3, .inl (cL, 150, .inr (.inl (vp_updL (va_cpy mv.2.1 mk.2.1 0 0 w) w (mv.2.1 w))))), (p4, .inl (cL, 150, .inr (.inl (va_cpy mv.2.2.2.1 mk.2.2.2.1 0 0 w)))), (p5, .inl (cI, 151, .inl mv.2.2.1)), (p6, .inl (cI, 151, .inl mv.2.2.2.2)), (p7, .inl (cI, 150, .inl (upd (va_cpy mv.2.2.1 mk.2.2.1 0 0 w) w (mv.2.2.1 w)))), (p8, .inl (cI, 150, .inl (va_cpy mv.2.2.2.2 mk.2.2.2.2 0 0 w)))] H := hP
    replace hD : va_D A [(y, .inr (2, [.int (nI mv.1), .int (nI mv.1), .ref p1, .ref p2, .ref p3, .ref p4, .ref p5, .ref p6, .ref p7, .ref p8, .long f.1, .int f.2])), (p1, .inl (cL, 151, .inr (.inl mv.2.1))), (p2, .inl (cL, 151, .inr (.inl mv.2.2.2.1))), (p3, .inl (cL, 150, .inr (.inl (vp_updL (va_cpy mv.2.1 mk.2.1 0 0 w) w (mv.2.1 w))))), (p4, .inl (cL, 150, .inr (.inl (va_cpy mv.2.2.2.1 mk.2.2.2.1 0 0 w)))), (p5, .inl (cI, 151, .inl mv.2.2.1)), (p6, .inl (cI, 151, .inl mv.2.2.2.2)), (p7, .inl (cI, 150, .inl (upd (va_cpy mv.2.2.1 mk.2.2.1 0 0 w) w (mv.2.2.1 w)))), (p8, .inl (cI, 150, .inl (va_cpy mv.2.2.2.2 mk.2.2.2.2 0 0 w)))] := hD
    refine lv_aload_n hx hb dX2_commit_42 rfl (lv_at hl 0 rfl) ?_
    refine va_get (D := (dC, dI)) (ci := 2) (v := .ref p4) (C := RX2) (T := TX2) (N := 12) hx hb hts i_X2_commit_X2 hown hK hP 0 rfl rfl 5 (by decide) (hts (.fieldLink RX2 19 "BlockTreeModel" "keptText" "[J") (by decide +kernel)) (fun _ h9 => h9) rfl dX2_commit_43 ?_
    refine lv_iload_n hx hb dX2_commit_46 rfl (lv_at hl 1 rfl) ?_
    refine lv_aload_n hx hb dX2_commit_47 rfl (lv_at hl 0 rfl) ?_
    refine va_get (D := (dC, dI)) (ci := 2) (v := .ref p2) (C := RX2) (T := TX2) (N := 12) hx hb hts i_X2_commit_X2 hown hK hP 0 rfl rfl 3 (by decide) (hts (.fieldLink RX2 13 "BlockTreeModel" "text" "[J") (by decide +kernel)) (fun _ h9 => h9) rfl dX2_commit_48 ?_
    refine lv_iload_n hx hb dX2_commit_51 rfl (lv_at hl 1 rfl) ?_
    refine va_lald hx hb hK hP 2 0 rfl rfl (vp_in_nI (by omega) (by omega)) dX2_commit_52 ?_
    refine lv_topl (fun z_3 ez_3 => ?_)
    rw [show ((nI w)).toNatClampNeg = w from (nI_clamp (by omega))] at ez_3
    subst ez_3
    refine va_last hx hb hK hP hD hS 4 0 rfl rfl (vp_in_nI (by omega) (by omega)) dX2_commit_53 (fun H locs hP hD hS => ?_)
    rw [show ((nI w)).toNatClampNeg = w from (nI_clamp (by omega))] at hP hD
    replace hP : va_P (dC, dI) vwCl [(y, .inr (2, [.int (nI mv.1), .int (nI mv.1), .ref p1, .ref p2, .ref p3, .ref p4, .ref p5, .ref p6, .ref p7, .ref p8, .long f.1, .int f.2])), (p1, .inl (cL, 151, .inr (.inl mv.2.1))), (p2, .inl (cL, 151, .inr (.inl mv.2.2.2.1))), (p3, .inl (cL, 150, .inr (.inl (vp_updL (va_cpy mv.2.1 mk.2.1 0 0 w) w (mv.2.1 w))))), (p4, .inl (cL, 150, .inr (.inl (vp_updL (va_cpy mv.2.2.2.1 mk.2.2.2.1 0 0 w) w (mv.2.2.2.1 w))))), (p5, .inl (cI, 151, .inl mv.2.2.1)), (p6, .inl (cI, 151, .inl mv.2.2.2.2)), (p7, .inl (cI, 150, .inl (upd (va_cpy mv.2.2.1 mk.2.2.1 0 0 w) w (mv.2.2.1 w)))), (p8, .inl (cI, 150, .inl (va_cpy mv.2.2.2.2 mk.2.2.2.2 0 0 w)))] H := hP
    replace hD : va_D A [(y, .inr (2, [.int (nI mv.1), .int (nI mv.1), .ref p1, .ref p2, .ref p3, .ref p4, .ref p5, .ref p6, .ref p7, .ref p8, .long f.1, .int f.2])), (p1, .inl (cL, 151, .inr (.inl mv.2.1))), (p2, .inl (cL, 151, .inr (.inl mv.2.2.2.1))), (p3, .inl (cL, 150, .inr (.inl (vp_updL (va_cpy mv.2.1 mk.2.1 0 0 w) w (mv.2.1 w))))), (p4, .inl (cL, 150, .inr (.inl (vp_updL (va_cpy mv.2.2.2.1 mk.2.2.2.1 0 0 w) w (mv.2.2.2.1 w))))), (p5, .inl (cI, 151, .inl mv.2.2.1)), (p6, .inl (cI, 151, .inl mv.2.2.2.2)), (p7, .inl (cI, 150, .inl (upd (va_cpy mv.2.2.1 mk.2.2.1 0 0 w) w (mv.2.2.1 w)))), (p8, .inl (cI, 150, .inl (va_cpy mv.2.2.2.2 mk.2.2.2.2 0 0 w)))] := hD
    refine lv_aload_n hx hb dX2_commit_54 rfl (lv_at hl 0 rfl) ?_
    refine va_get (D := (dC, dI)) (ci := 2) (v := .ref p8) (C := RX2) (T := TX2) (N := 12) hx hb hts i_X2_commit_X2 hown hK hP 0 rfl rfl 9 (by decide) (hts (.fieldLink RX2 32 "BlockTreeModel" "keptLength" "[I") (by decide +kernel)) (fun _ h9 => h9) rfl dX2_commit_55 ?_
    refine lv_iload_n hx hb dX2_commit_58 rfl (lv_at hl 1 rfl) ?_
    refine lv_aload_n hx hb dX2_commit_59 rfl (lv_at hl 0 rfl) ?_
    refine va_get (D := (dC, dI)) (ci := 2) (v := .ref p6) (C := RX2) (T := TX2) (N := 12) hx hb hts i_X2_commit_X2 hown hK hP 0 rfl rfl 7 (by decide) (hts (.fieldLink RX2 26 "BlockTreeModel" "length" "[I") (by decide +kernel)) (fun _ h9 => h9) rfl dX2_commit_60 ?_
    refine lv_iload_n hx hb dX2_commit_63 rfl (lv_at hl 1 rfl) ?_
    refine va_iald hx hb hK hP 6 1 rfl rfl (vp_in_nI (by omega) (by omega)) dX2_commit_64 ?_
    refine lv_topi (fun z_4 ez_4 => ?_)
    rw [show ((nI w)).toNatClampNeg = w from (nI_clamp (by omega))] at ez_4
    subst ez_4
    refine va_iast hx hb hK hP hD hS 8 1 rfl rfl (vp_in_nI (by omega) (by omega)) dX2_commit_65 (fun H locs hP hD hS => ?_)
    rw [show ((nI w)).toNatClampNeg = w from (nI_clamp (by omega))] at hP hD
    replace hP : va_P (dC, dI) vwCl [(y, .inr (2, [.int (nI mv.1), .int (nI mv.1), .ref p1, .ref p2, .ref p3, .ref p4, .ref p5, .ref p6, .ref p7, .ref p8, .long f.1, .int f.2])), (p1, .inl (cL, 151, .inr (.inl mv.2.1))), (p2, .inl (cL, 151, .inr (.inl mv.2.2.2.1))), (p3, .inl (cL, 150, .inr (.inl (vp_updL (va_cpy mv.2.1 mk.2.1 0 0 w) w (mv.2.1 w))))), (p4, .inl (cL, 150, .inr (.inl (vp_updL (va_cpy mv.2.2.2.1 mk.2.2.2.1 0 0 w) w (mv.2.2.2.1 w))))), (p5, .inl (cI, 151, .inl mv.2.2.1)), (p6, .inl (cI, 151, .inl mv.2.2.2.2)), (p7, .inl (cI, 150, .inl (upd (va_cpy mv.2.2.1 mk.2.2.1 0 0 w) w (mv.2.2.1 w)))), (p8, .inl (cI, 150, .inl (upd (va_cpy mv.2.2.2.2 mk.2.2.2.2 0 0 w) w (mv.2.2.2.2 w))))] H := hP
    replace hD : va_D A [(y, .inr (2, [.int (nI mv.1), .int (nI mv.1), .ref p1, .ref p2, .ref p3, .ref p4, .ref p5, .ref p6, .ref p7, .ref p8, .long f.1, .int f.2])), (p1, .inl (cL, 151, .inr (.inl mv.2.1))), (p2, .inl (cL, 151, .inr (.inl mv.2.2.2.1))), (p3, .inl (cL, 150, .inr (.inl (vp_updL (va_cpy mv.2.1 mk.2.1 0 0 w) w (mv.2.1 w))))), (p4, .inl (cL, 150, .inr (.inl (vp_updL (va_cpy mv.2.2.2.1 mk.2.2.2.1 0 0 w) w (mv.2.2.2.1 w))))), (p5, .inl (cI, 151, .inl mv.2.2.1)), (p6, .inl (cI, 151, .inl mv.2.2.2.2)), (p7, .inl (cI, 150, .inl (upd (va_cpy mv.2.2.1 mk.2.2.1 0 0 w) w (mv.2.2.1 w)))), (p8, .inl (cI, 150, .inl (upd (va_cpy mv.2.2.2.2 mk.2.2.2.2 0 0 w) w (mv.2.2.2.2 w))))] := hD
    refine lv_iinc (v := nI (w + 1)) (lv' := [(1, .int (nI (w + 1))), (0, .ref y)]) hx hb dX2_commit_66 hl (k := 1) rfl (nI_1 w) (by decide) rfl (fun ls hl => ?_)
    refine lv_goto (tgt := 10) hx hb dX2_commit_69 (by decide) ?_
    replace hP : va_P (dC, dI) vwCl [(y, .inr (2, [.int (nI mv.1), .int (nI mv.1), .ref p1, .ref p2, .ref p3, .ref p4, .ref p5, .ref p6, .ref p7, .ref p8, .long f.1, .int f.2])), (p1, .inl (cL, 151, .inr (.inl mv.2.1))), (p2, .inl (cL, 151, .inr (.inl mv.2.2.2.1))), (p3, .inl (cL, 150, .inr (.inl (va_cpy mv.2.1 mk.2.1 0 0 (w + 1))))), (p4, .inl (cL, 150, .inr (.inl (va_cpy mv.2.2.2.1 mk.2.2.2.1 0 0 (w + 1))))), (p5, .inl (cI, 151, .inl mv.2.2.1)), (p6, .inl (cI, 151, .inl mv.2.2.2.2)), (p7, .inl (cI, 150, .inl (va_cpy mv.2.2.1 mk.2.2.1 0 0 (w + 1)))), (p8, .inl (cI, 150, .inl (va_cpy mv.2.2.2.2 mk.2.2.2.2 0 0 (w + 1))))] H := by rw [← cpq_stepL (f := mv.2.1) (g := mk.2.1), ← cpq_stepI (f := mv.2.2.1) (g := mk.2.2.1), ← cpq_stepL (f := mv.2.2.2.1) (g := mk.2.2.2.1), ← cpq_stepI (f := mv.2.2.2.2) (g := mk.2.2.2.2)]; exact hP
    replace hD : va_D A [(y, .inr (2, [.int (nI mv.1), .int (nI mv.1), .ref p1, .ref p2, .ref p3, .ref p4, .ref p5, .ref p6, .ref p7, .ref p8, .long f.1, .int f.2])), (p1, .inl (cL, 151, .inr (.inl mv.2.1))), (p2, .inl (cL, 151, .inr (.inl mv.2.2.2.1))), (p3, .inl (cL, 150, .inr (.inl (va_cpy mv.2.1 mk.2.1 0 0 (w + 1))))), (p4, .inl (cL, 150, .inr (.inl (va_cpy mv.2.2.2.1 mk.2.2.2.1 0 0 (w + 1))))), (p5, .inl (cI, 151, .inl mv.2.2.1)), (p6, .inl (cI, 151, .inl mv.2.2.2.2)), (p7, .inl (cI, 150, .inl (va_cpy mv.2.2.1 mk.2.2.1 0 0 (w + 1)))), (p8, .inl (cI, 150, .inl (va_cpy mv.2.2.2.2 mk.2.2.2.2 0 0 (w + 1))))] := by rw [← cpq_stepL (f := mv.2.1) (g := mk.2.1), ← cpq_stepI (f := mv.2.2.1) (g := mk.2.2.1), ← cpq_stepL (f := mv.2.2.2.1) (g := mk.2.2.2.1), ← cpq_stepI (f := mv.2.2.2.2) (g := mk.2.2.2.2)]; exact hD
    apply ih (w := w + 1) (ls := ls) (H := H) (locs := locs)
    all_goals first | omega | exact lv_sub hl [1, 0] rfl | exact hP | exact hD | exact hS
set_option maxHeartbeats 4000000 in
set_option maxRecDepth 100000 in
/-- revert -/
theorem m_revert (l : Launch) (dC : Nat → ClassId) (dI : Nat → Nat → Nat) (hz : Nat) (cL cI : ClassId) (y p1 p2 p3 p4 p5 p6 p7 p8 : Nat) (mv mk : RS) (f : Int64 × Int32) (hm1 : mk.1 ≤ 150) : Met l yX2_revert wsX2_revert ({ frames := 0, cells := 0, slots := 0, locals := 0 }) (wrP (dC, dI) (kS cL cI) (mW cL cI y p1 p2 p3 p4 p5 p6 p7 p8 mv mk f) [.ref y] hz) (va_Qv (fun (v : RS) => v = rs_cpy mk mv) (wrB (dC, dI) (va_A (mW cL cI y p1 p2 p3 p4 p5 p6 p7 p8 mv mk f) hz) (fun (v : RS) => mW cL cI y p1 p2 p3 p4 p5 p6 p7 p8 v mk f)) (va_A (mW cL cI y p1 p2 p3 p4 p5 p6 p7 p8 mv mk f) hz)) 0 0 (va_A (mW cL cI y p1 p2 p3 p4 p5 p6 p7 p8 mv mk f) hz) := by
  refine Met.ofW (cc := cX2_revert) (maxL := 2) (ret := none) (by decide) rfl ?_
  intro p e s m args below meth c s₁ B hml hv
  obtain ⟨rfl, hsz, hP, hK, hD0⟩ := hv
  have hx := B.exec
  have hb := B.bytes
  have hr := B.returns
  have hts := atoms_spec (ws := wsX2_revert) B.pre
  have hown : s.vm.findClass RX2 = some m.cls := findClass_of_methodNamed B.named
  have hlocks := B.notSynchronized
  subst hsz
  have hD := hD0.self (sz := s.heap.size)
  generalize hAe : va_A (mW cL cI y p1 p2 p3 p4 p5 p6 p7 p8 mv mk f) s.heap.size = A at hD ⊢
  have hA : ∀ q : Nat, s.heap.size ≤ q → A q := fun q h => by rw [← hAe]; exact Or.inr h
  have hS : va_S A s.heap s.heap [] := va_S.rf
  replace hP : va_P (dC, dI) vwCl [(y, .inr (2, [.int (nI mv.1), .int (nI mk.1), .ref p1, .ref p2, .ref p3, .ref p4, .ref p5, .ref p6, .ref p7, .ref p8, .long f.1, .int f.2])), (p1, .inl (cL, 151, .inr (.inl mv.2.1))), (p2, .inl (cL, 151, .inr (.inl mv.2.2.2.1))), (p3, .inl (cL, 150, .inr (.inl mk.2.1))), (p4, .inl (cL, 150, .inr (.inl mk.2.2.2.1))), (p5, .inl (cI, 151, .inl mv.2.2.1)), (p6, .inl (cI, 151, .inl mv.2.2.2.2)), (p7, .inl (cI, 150, .inl mk.2.2.1)), (p8, .inl (cI, 150, .inl mk.2.2.2.2))] s.heap := hP
  replace hD : va_D A [(y, .inr (2, [.int (nI mv.1), .int (nI mk.1), .ref p1, .ref p2, .ref p3, .ref p4, .ref p5, .ref p6, .ref p7, .ref p8, .long f.1, .int f.2])), (p1, .inl (cL, 151, .inr (.inl mv.2.1))), (p2, .inl (cL, 151, .inr (.inl mv.2.2.2.1))), (p3, .inl (cL, 150, .inr (.inl mk.2.1))), (p4, .inl (cL, 150, .inr (.inl mk.2.2.2.1))), (p5, .inl (cI, 151, .inl mv.2.2.1)), (p6, .inl (cI, 151, .inl mv.2.2.2.2)), (p7, .inl (cI, 150, .inl mk.2.2.1)), (p8, .inl (cI, 150, .inl mk.2.2.2.2))] := hD
  clear hD0
  refine w_gen _ _ (fun H locs hH hlo => ?_)
  replace hP : va_P (dC, dI) vwCl [(y, .inr (2, [.int (nI mv.1), .int (nI mk.1), .ref p1, .ref p2, .ref p3, .ref p4, .ref p5, .ref p6, .ref p7, .ref p8, .long f.1, .int f.2])), (p1, .inl (cL, 151, .inr (.inl mv.2.1))), (p2, .inl (cL, 151, .inr (.inl mv.2.2.2.1))), (p3, .inl (cL, 150, .inr (.inl mk.2.1))), (p4, .inl (cL, 150, .inr (.inl mk.2.2.2.1))), (p5, .inl (cI, 151, .inl mv.2.2.1)), (p6, .inl (cI, 151, .inl mv.2.2.2.2)), (p7, .inl (cI, 150, .inl mk.2.2.1)), (p8, .inl (cI, 150, .inl mk.2.2.2.2))] H := by rw [hH]; exact hP
  replace hS : va_S A s.heap H locs := by rw [hH, hlo]; exact hS
  clear hH hlo
  have hl := lv_entry ([.ref y]) (n := 2) (Nat.le_of_ble_eq_true rfl)
  rw [lg_entry_eq]
  generalize (lg_sl ([.ref y]) ++ List.replicate (2 - (lg_sl ([.ref y])).length) Slot.unset).toArray = ls at hl ⊢
  replace hl : lv_has ls 2 [(0, .ref y)] := hl
  refine lv_aload_n hx hb dX2_revert_0 rfl (lv_at hl 0 rfl) ?_
  refine lv_aload_n hx hb dX2_revert_1 rfl (lv_at hl 0 rfl) ?_
  refine va_get (D := (dC, dI)) (ci := 2) (v := .int (nI mk.1)) (C := RX2) (T := TX2) (N := 12) hx hb hts i_X2_revert_X2 hown hK hP 0 rfl rfl 1 (by decide) (hts (.fieldLink RX2 75 "BlockTreeModel" "kept" "I") (by decide +kernel)) (fun _ h9 => h9) rfl dX2_revert_2 ?_
  refine va_put (D := (dC, dI)) (ci := 2) (v := .int (nI mk.1)) (ty := .int) (C := RX2) (T := TX2) (N := 12) hx hb hts i_X2_revert_X2 tyX2 tyX2_ok nmX2 hown hK hP hD hS 0 rfl rfl 0 (by decide) (hts (.fieldLink RX2 41 "BlockTreeModel" "many" "I") (by decide +kernel)) (fun _ h9 => h9) rfl (by decide +kernel) rfl rfl (Nat.le_of_ble_eq_true rfl) dX2_revert_5 (fun H locs hP hD hS => ?_)
  replace hP : va_P (dC, dI) vwCl [(y, .inr (2, [.int (nI mk.1), .int (nI mk.1), .ref p1, .ref p2, .ref p3, .ref p4, .ref p5, .ref p6, .ref p7, .ref p8, .long f.1, .int f.2])), (p1, .inl (cL, 151, .inr (.inl mv.2.1))), (p2, .inl (cL, 151, .inr (.inl mv.2.2.2.1))), (p3, .inl (cL, 150, .inr (.inl mk.2.1))), (p4, .inl (cL, 150, .inr (.inl mk.2.2.2.1))), (p5, .inl (cI, 151, .inl mv.2.2.1)), (p6, .inl (cI, 151, .inl mv.2.2.2.2)), (p7, .inl (cI, 150, .inl mk.2.2.1)), (p8, .inl (cI, 150, .inl mk.2.2.2.2))] H := hP
  replace hD : va_D A [(y, .inr (2, [.int (nI mk.1), .int (nI mk.1), .ref p1, .ref p2, .ref p3, .ref p4, .ref p5, .ref p6, .ref p7, .ref p8, .long f.1, .int f.2])), (p1, .inl (cL, 151, .inr (.inl mv.2.1))), (p2, .inl (cL, 151, .inr (.inl mv.2.2.2.1))), (p3, .inl (cL, 150, .inr (.inl mk.2.1))), (p4, .inl (cL, 150, .inr (.inl mk.2.2.2.1))), (p5, .inl (cI, 151, .inl mv.2.2.1)), (p6, .inl (cI, 151, .inl mv.2.2.2.2)), (p7, .inl (cI, 150, .inl mk.2.2.1)), (p8, .inl (cI, 150, .inl mk.2.2.2.2))] := hD
  refine lv_iconst (v := 0) hx hb dX2_revert_8 (by decide) ?_
  refine lv_istore_n (lv' := [(1, .int 0), (0, .ref y)]) hx hb dX2_revert_9 rfl hl (by decide) rfl (fun ls hl => ?_)
  obtain ⟨w, hw⟩ : ∃ w : Nat, w = 0 := ⟨_, rfl⟩
  obtain ⟨g, hg⟩ : ∃ g : Nat, w + g = mk.1 := ⟨mk.1, by omega⟩
  replace hl : lv_has ls 2 [(0, .ref y), (1, .int (nI w))] := by rw [hw]; exact lv_sub hl [1, 0] rfl
  replace hP : va_P (dC, dI) vwCl [(y, .inr (2, [.int (nI mk.1), .int (nI mk.1), .ref p1, .ref p2, .ref p3, .ref p4, .ref p5, .ref p6, .ref p7, .ref p8, .long f.1, .int f.2])), (p1, .inl (cL, 151, .inr (.inl (va_cpy mk.2.1 mv.2.1 0 0 w)))), (p2, .inl (cL, 151, .inr (.inl (va_cpy mk.2.2.2.1 mv.2.2.2.1 0 0 w)))), (p3, .inl (cL, 150, .inr (.inl mk.2.1))), (p4, .inl (cL, 150, .inr (.inl mk.2.2.2.1))), (p5, .inl (cI, 151, .inl (va_cpy mk.2.2.1 mv.2.2.1 0 0 w))), (p6, .inl (cI, 151, .inl (va_cpy mk.2.2.2.2 mv.2.2.2.2 0 0 w))), (p7, .inl (cI, 150, .inl mk.2.2.1)), (p8, .inl (cI, 150, .inl mk.2.2.2.2))] H := by rw [hw, cpq_0, cpq_0, cpq_0, cpq_0]; exact hP
  replace hD : va_D A [(y, .inr (2, [.int (nI mk.1), .int (nI mk.1), .ref p1, .ref p2, .ref p3, .ref p4, .ref p5, .ref p6, .ref p7, .ref p8, .long f.1, .int f.2])), (p1, .inl (cL, 151, .inr (.inl (va_cpy mk.2.1 mv.2.1 0 0 w)))), (p2, .inl (cL, 151, .inr (.inl (va_cpy mk.2.2.2.1 mv.2.2.2.1 0 0 w)))), (p3, .inl (cL, 150, .inr (.inl mk.2.1))), (p4, .inl (cL, 150, .inr (.inl mk.2.2.2.1))), (p5, .inl (cI, 151, .inl (va_cpy mk.2.2.1 mv.2.2.1 0 0 w))), (p6, .inl (cI, 151, .inl (va_cpy mk.2.2.2.2 mv.2.2.2.2 0 0 w))), (p7, .inl (cI, 150, .inl mk.2.2.1)), (p8, .inl (cI, 150, .inl mk.2.2.2.2))] := by rw [hw, cpq_0, cpq_0, cpq_0, cpq_0]; exact hD
  clear hw
  induction g generalizing w ls H locs with
  | zero =>
    refine lv_iload_n hx hb dX2_revert_10 rfl (lv_at hl 1 rfl) ?_
    refine lv_aload_n hx hb dX2_revert_11 rfl (lv_at hl 0 rfl) ?_
    refine va_get (D := (dC, dI)) (ci := 2) (v := .int (nI mk.1)) (C := RX2) (T := TX2) (N := 12) hx hb hts i_X2_revert_X2 hown hK hP 0 rfl rfl 0 (by decide) (hts (.fieldLink RX2 41 "BlockTreeModel" "many" "I") (by decide +kernel)) (fun _ h9 => h9) rfl dX2_revert_12 ?_
    refine lv_icmp_ge (tgt := 72) hx hb dX2_revert_15 (by decide) (fun c_15 => ?_) (fun c_15 => absurd (nI_le (show mk.1 ≤ w by omega) (by omega)) c_15)
    obtain rfl : w = mk.1 := hg
    exact W.vret hx hb hr (fun t9 ht hW => ⟨⟨rs_cpy mk mv, rfl, rfl, by rw [ht]; exact hP, hD⟩, hS.F ht⟩) hS.2.2 dX2_revert_72
  | succ g ih =>
    refine lv_iload_n hx hb dX2_revert_10 rfl (lv_at hl 1 rfl) ?_
    refine lv_aload_n hx hb dX2_revert_11 rfl (lv_at hl 0 rfl) ?_
    refine va_get (D := (dC, dI)) (ci := 2) (v := .int (nI mk.1)) (C := RX2) (T := TX2) (N := 12) hx hb hts i_X2_revert_X2 hown hK hP 0 rfl rfl 0 (by decide) (hts (.fieldLink RX2 41 "BlockTreeModel" "many" "I") (by decide +kernel)) (fun _ h9 => h9) rfl dX2_revert_12 ?_
    refine lv_icmp_ge (tgt := 72) hx hb dX2_revert_15 (by decide) (fun c_15 => absurd c_15 (nI_ge (by omega) (by omega))) (fun c_15 => ?_)
    refine lv_aload_n hx hb dX2_revert_18 rfl (lv_at hl 0 rfl) ?_
    refine va_get (D := (dC, dI)) (ci := 2) (v := .ref p1) (C := RX2) (T := TX2) (N := 12) hx hb hts i_X2_revert_X2 hown hK hP 0 rfl rfl 2 (by decide) (hts (.fieldLink RX2 7 "BlockTreeModel" "key" "[J") (by decide +kernel)) (fun _ h9 => h9) rfl dX2_revert_19 ?_
    refine lv_iload_n hx hb dX2_revert_22 rfl (lv_at hl 1 rfl) ?_
    refine lv_aload_n hx hb dX2_revert_23 rfl (lv_at hl 0 rfl) ?_
    refine va_get (D := (dC, dI)) (ci := 2) (v := .ref p3) (C := RX2) (T := TX2) (N := 12) hx hb hts i_X2_revert_X2 hown hK hP 0 rfl rfl 4 (by decide) (hts (.fieldLink RX2 16 "BlockTreeModel" "keptKey" "[J") (by decide +kernel)) (fun _ h9 => h9) rfl dX2_revert_24 ?_
    refine lv_iload_n hx hb dX2_revert_27 rfl (lv_at hl 1 rfl) ?_
    refine va_lald hx hb hK hP 3 0 rfl rfl (vp_in_nI (by omega) (by omega)) dX2_revert_28 ?_
    refine lv_topl (fun z_1 ez_1 => ?_)
    rw [show ((nI w)).toNatClampNeg = w from (nI_clamp (by omega))] at ez_1
    subst ez_1
    refine va_last hx hb hK hP hD hS 1 0 rfl rfl (vp_in_nI (by omega) (by omega)) dX2_revert_29 (fun H locs hP hD hS => ?_)
    rw [show ((nI w)).toNatClampNeg = w from (nI_clamp (by omega))] at hP hD
    replace hP : va_P (dC, dI) vwCl [(y, .inr (2, [.int (nI mk.1), .int (nI mk.1), .ref p1, .ref p2, .ref p3, .ref p4, .ref p5, .ref p6, .ref p7, .ref p8, .long f.1, .int f.2])), (p1, .inl (cL, 151, .inr (.inl (vp_updL (va_cpy mk.2.1 mv.2.1 0 0 w) w (mk.2.1 w))))), (p2, .inl (cL, 151, .inr (.inl (va_cpy mk.2.2.2.1 mv.2.2.2.1 0 0 w)))), (p3, .inl (cL, 150, .inr (.inl mk.2.1))), (p4, .inl (cL, 150, .inr (.inl mk.2.2.2.1))), (p5, .inl (cI, 151, .inl (va_cpy mk.2.2.1 mv.2.2.1 0 0 w))), (p6, .inl (cI, 151, .inl (va_cpy mk.2.2.2.2 mv.2.2.2.2 0 0 w))), (p7, .inl (cI, 150, .inl mk.2.2.1)), (p8, .inl (cI, 150, .inl mk.2.2.2.2))] H := hP
    replace hD : va_D A [(y, .inr (2, [.int (nI mk.1), .int (nI mk.1), .ref p1, .ref p2, .ref p3, .ref p4, .ref p5, .ref p6, .ref p7, .ref p8, .long f.1, .int f.2])), (p1, .inl (cL, 151, .inr (.inl (vp_updL (va_cpy mk.2.1 mv.2.1 0 0 w) w (mk.2.1 w))))), (p2, .inl (cL, 151, .inr (.inl (va_cpy mk.2.2.2.1 mv.2.2.2.1 0 0 w)))), (p3, .inl (cL, 150, .inr (.inl mk.2.1))), (p4, .inl (cL, 150, .inr (.inl mk.2.2.2.1))), (p5, .inl (cI, 151, .inl (va_cpy mk.2.2.1 mv.2.2.1 0 0 w))), (p6, .inl (cI, 151, .inl (va_cpy mk.2.2.2.2 mv.2.2.2.2 0 0 w))), (p7, .inl (cI, 150, .inl mk.2.2.1)), (p8, .inl (cI, 150, .inl mk.2.2.2.2))] := hD
    refine lv_aload_n hx hb dX2_revert_30 rfl (lv_at hl 0 rfl) ?_
    refine va_get (D := (dC, dI)) (ci := 2) (v := .ref p5) (C := RX2) (T := TX2) (N := 12) hx hb hts i_X2_revert_X2 hown hK hP 0 rfl rfl 6 (by decide) (hts (.fieldLink RX2 22 "BlockTreeModel" "size" "[I") (by decide +kernel)) (fun _ h9 => h9) rfl dX2_revert_31 ?_
    refine lv_iload_n hx hb dX2_revert_34 rfl (lv_at hl 1 rfl) ?_
    refine lv_aload_n hx hb dX2_revert_35 rfl (lv_at hl 0 rfl) ?_
    refine va_get (D := (dC, dI)) (ci := 2) (v := .ref p7) (C := RX2) (T := TX2) (N := 12) hx hb hts i_X2_revert_X2 hown hK hP 0 rfl rfl 8 (by decide) (hts (.fieldLink RX2 29 "BlockTreeModel" "keptSize" "[I") (by decide +kernel)) (fun _ h9 => h9) rfl dX2_revert_36 ?_
    refine lv_iload_n hx hb dX2_revert_39 rfl (lv_at hl 1 rfl) ?_
    refine va_iald hx hb hK hP 7 1 rfl rfl (vp_in_nI (by omega) (by omega)) dX2_revert_40 ?_
    refine lv_topi (fun z_2 ez_2 => ?_)
    rw [show ((nI w)).toNatClampNeg = w from (nI_clamp (by omega))] at ez_2
    subst ez_2
    refine va_iast hx hb hK hP hD hS 5 1 rfl rfl (vp_in_nI (by omega) (by omega)) dX2_revert_41 (fun H locs hP hD hS => ?_)
    rw [show ((nI w)).toNatClampNeg = w from (nI_clamp (by omega))] at hP hD
    replace hP : va_P (dC, dI) vwCl [(y, .inr (2, [.int (nI mk.1), .int (nI mk.1), .ref p1, .ref p2, .ref p3, .ref p4, .ref p5, .ref p6, .ref p7, .ref p8, .long f.1, .int f.2])), (p1, .inl (cL, 151, .inr (.inl (vp_updL (va_cpy mk.2.1 mv.2.1 0 0 w) w (mk.2.1 w))))), (p2, .inl (cL, 151, .inr (.inl (va_cpy mk.2.2.2.1 mv.2.2.2.1 0 0 w)))), (p3, .inl (cL, 150, .inr (.inl mk.2.1))), (p4, .inl (cL, 150, .inr (.inl mk.2.2.2.1))), (p5, .inl (cI, 151, .inl (upd (va_cpy mk.2.2.1 mv.2.2.1 0 0 w) w (mk.2.2.1 w)))), (p6, .inl (cI, 151, .inl (va_cpy mk.2.2.2.2 mv.2.2.2.2 0 0 w))), (p7, .inl (cI, 150, .inl mk.2.2.1)), (p8, .inl (cI, 150, .inl mk.2.2.2.2))] H := hP
    replace hD : va_D A [(y, .inr (2, [.int (nI mk.1), .int (nI mk.1), .ref p1, .ref p2, .ref p3, .ref p4, .ref p5, .ref p6, .ref p7, .ref p8, .long f.1, .int f.2])), (p1, .inl (cL, 151, .inr (.inl (vp_updL (va_cpy mk.2.1 mv.2.1 0 0 w) w (mk.2.1 w))))), (p2, .inl (cL, 151, .inr (.inl (va_cpy mk.2.2.2.1 mv.2.2.2.1 0 0 w)))), (p3, .inl (cL, 150, .inr (.inl mk.2.1))), (p4, .inl (cL, 150, .inr (.inl mk.2.2.2.1))), (p5, .inl (cI, 151, .inl (upd (va_cpy mk.2.2.1 mv.2.2.1 0 0 w) w (mk.2.2.1 w)))), (p6, .inl (cI, 151, .inl (va_cpy mk.2.2.2.2 mv.2.2.2.2 0 0 w))), (p7, .inl (cI, 150, .inl mk.2.2.1)), (p8, .inl (cI, 150, .inl mk.2.2.2.2))] := hD
    refine lv_aload_n hx hb dX2_revert_42 rfl (lv_at hl 0 rfl) ?_
    refine va_get (D := (dC, dI)) (ci := 2) (v := .ref p2) (C := RX2) (T := TX2) (N := 12) hx hb hts i_X2_revert_X2 hown hK hP 0 rfl rfl 3 (by decide) (hts (.fieldLink RX2 13 "BlockTreeModel" "text" "[J") (by decide +kernel)) (fun _ h9 => h9) rfl dX2_revert_43 ?_
    refine lv_iload_n hx hb dX2_revert_46 rfl (lv_at hl 1 rfl) ?_
    refine lv_aload_n hx hb dX2_revert_47 rfl (lv_at hl 0 rfl) ?_
    refine va_get (D := (dC, dI)) (ci := 2) (v := .ref p4) (C := RX2) (T := TX2) (N := 12) hx hb hts i_X2_revert_X2 hown hK hP 0 rfl rfl 5 (by decide) (hts (.fieldLink RX2 19 "BlockTreeModel" "keptText" "[J") (by decide +kernel)) (fun _ h9 => h9) rfl dX2_revert_48 ?_
    refine lv_iload_n hx hb dX2_revert_51 rfl (lv_at hl 1 rfl) ?_
    refine va_lald hx hb hK hP 4 0 rfl rfl (vp_in_nI (by omega) (by omega)) dX2_revert_52 ?_
    refine lv_topl (fun z_3 ez_3 => ?_)
    rw [show ((nI w)).toNatClampNeg = w from (nI_clamp (by omega))] at ez_3
    subst ez_3
    refine va_last hx hb hK hP hD hS 2 0 rfl rfl (vp_in_nI (by omega) (by omega)) dX2_revert_53 (fun H locs hP hD hS => ?_)
    rw [show ((nI w)).toNatClampNeg = w from (nI_clamp (by omega))] at hP hD
    replace hP : va_P (dC, dI) vwCl [(y, .inr (2, [.int (nI mk.1), .int (nI mk.1), .ref p1, .ref p2, .ref p3, .ref p4, .ref p5, .ref p6, .ref p7, .ref p8, .long f.1, .int f.2])), (p1, .inl (cL, 151, .inr (.inl (vp_updL (va_cpy mk.2.1 mv.2.1 0 0 w) w (mk.2.1 w))))), (p2, .inl (cL, 151, .inr (.inl (vp_updL (va_cpy mk.2.2.2.1 mv.2.2.2.1 0 0 w) w (mk.2.2.2.1 w))))), (p3, .inl (cL, 150, .inr (.inl mk.2.1))), (p4, .inl (cL, 150, .inr (.inl mk.2.2.2.1))), (p5, .inl (cI, 151, .inl (upd (va_cpy mk.2.2.1 mv.2.2.1 0 0 w) w (mk.2.2.1 w)))), (p6, .inl (cI, 151, .inl (va_cpy mk.2.2.2.2 mv.2.2.2.2 0 0 w))), (p7, .inl (cI, 150, .inl mk.2.2.1)), (p8, .inl (cI, 150, .inl mk.2.2.2.2))] H := hP
    replace hD : va_D A [(y, .inr (2, [.int (nI mk.1), .int (nI mk.1), .ref p1, .ref p2, .ref p3, .ref p4, .ref p5, .ref p6, .ref p7, .ref p8, .long f.1, .int f.2])), (p1, .inl (cL, 151, .inr (.inl (vp_updL (va_cpy mk.2.1 mv.2.1 0 0 w) w (mk.2.1 w))))), (p2, .inl (cL, 151, .inr (.inl (vp_updL (va_cpy mk.2.2.2.1 mv.2.2.2.1 0 0 w) w (mk.2.2.2.1 w))))), (p3, .inl (cL, 150, .inr (.inl mk.2.1))), (p4, .inl (cL, 150, .inr (.inl mk.2.2.2.1))), (p5, .inl (cI, 151, .inl (upd (va_cpy mk.2.2.1 mv.2.2.1 0 0 w) w (mk.2.2.1 w)))), (p6, .inl (cI, 151, .inl (va_cpy mk.2.2.2.2 mv.2.2.2.2 0 0 w))), (p7, .inl (cI, 150, .inl mk.2.2.1)), (p8, .inl (cI, 150, .inl mk.2.2.2.2))] := hD
    refine lv_aload_n hx hb dX2_revert_54 rfl (lv_at hl 0 rfl) ?_
    refine va_get (D := (dC, dI)) (ci := 2) (v := .ref p6) (C := RX2) (T := TX2) (N := 12) hx hb hts i_X2_revert_X2 hown hK hP 0 rfl rfl 7 (by decide) (hts (.fieldLink RX2 26 "BlockTreeModel" "length" "[I") (by decide +kernel)) (fun _ h9 => h9) rfl dX2_revert_55 ?_
    refine lv_iload_n hx hb dX2_revert_58 rfl (lv_at hl 1 rfl) ?_
    refine lv_aload_n hx hb dX2_revert_59 rfl (lv_at hl 0 rfl) ?_
    refine va_get (D := (dC, dI)) (ci := 2) (v := .ref p8) (C := RX2) (T := TX2) (N := 12) hx hb hts i_X2_revert_X2 hown hK hP 0 rfl rfl 9 (by decide) (hts (.fieldLink RX2 32 "BlockTreeModel" "keptLength" "[I") (by decide +kernel)) (fun _ h9 => h9) rfl dX2_revert_60 ?_
    refine lv_iload_n hx hb dX2_revert_63 rfl (lv_at hl 1 rfl) ?_
    refine va_iald hx hb hK hP 8 1 rfl rfl (vp_in_nI (by omega) (by omega)) dX2_revert_64 ?_
    refine lv_topi (fun z_4 ez_4 => ?_)
    rw [show ((nI w)).toNatClampNeg = w from (nI_clamp (by omega))] at ez_4
    subst ez_4
    refine va_iast hx hb hK hP hD hS 6 1 rfl rfl (vp_in_nI (by omega) (by omega)) dX2_revert_65 (fun H locs hP hD hS => ?_)
    rw [show ((nI w)).toNatClampNeg = w from (nI_clamp (by omega))] at hP hD
    replace hP : va_P (dC, dI) vwCl [(y, .inr (2, [.int (nI mk.1), .int (nI mk.1), .ref p1, .ref p2, .ref p3, .ref p4, .ref p5, .ref p6, .ref p7, .ref p8, .long f.1, .int f.2])), (p1, .inl (cL, 151, .inr (.inl (vp_updL (va_cpy mk.2.1 mv.2.1 0 0 w) w (mk.2.1 w))))), (p2, .inl (cL, 151, .inr (.inl (vp_updL (va_cpy mk.2.2.2.1 mv.2.2.2.1 0 0 w) w (mk.2.2.2.1 w))))), (p3, .inl (cL, 150, .inr (.inl mk.2.1))), (p4, .inl (cL, 150, .inr (.inl mk.2.2.2.1))), (p5, .inl (cI, 151, .inl (upd (va_cpy mk.2.2.1 mv.2.2.1 0 0 w) w (mk.2.2.1 w)))), (p6, .inl (cI, 151, .inl (upd (va_cpy mk.2.2.2.2 mv.2.2.2.2 0 0 w) w (mk.2.2.2.2 w)))), (p7, .inl (cI, 150, .inl mk.2.2.1)), (p8, .inl (cI, 150, .inl mk.2.2.2.2))] H := hP
    replace hD : va_D A [(y, .inr (2, [.int (nI mk.1), .int (nI mk.1), .ref p1, .ref p2, .ref p3, .ref p4, .ref p5, .ref p6, .ref p7, .ref p8, .long f.1, .int f.2])), (p1, .inl (cL, 151, .inr (.inl (vp_updL (va_cpy mk.2.1 mv.2.1 0 0 w) w (mk.2.1 w))))), (p2, .inl (cL, 151, .inr (.inl (vp_updL (va_cpy mk.2.2.2.1 mv.2.2.2.1 0 0 w) w (mk.2.2.2.1 w))))), (p3, .inl (cL, 150, .inr (.inl mk.2.1))), (p4, .inl (cL, 150, .inr (.inl mk.2.2.2.1))), (p5, .inl (cI, 151, .inl (upd (va_cpy mk.2.2.1 mv.2.2.1 0 0 w) w (mk.2.2.1 w)))), (p6, .inl (cI, 151, .inl (upd (va_cpy mk.2.2.2.2 mv.2.2.2.2 0 0 w) w (mk.2.2.2.2 w)))), (p7, .inl (cI, 150, .inl mk.2.2.1)), (p8, .inl (cI, 150, .inl mk.2.2.2.2))] := hD
    refine lv_iinc (v := nI (w + 1)) (lv' := [(1, .int (nI (w + 1))), (0, .ref y)]) hx hb dX2_revert_66 hl (k := 1) rfl (nI_1 w) (by decide) rfl (fun ls hl => ?_)
    refine lv_goto (tgt := 10) hx hb dX2_revert_69 (by decide) ?_
    replace hP : va_P (dC, dI) vwCl [(y, .inr (2, [.int (nI mk.1), .int (nI mk.1), .ref p1, .ref p2, .ref p3, .ref p4, .ref p5, .ref p6, .ref p7, .ref p8, .long f.1, .int f.2])), (p1, .inl (cL, 151, .inr (.inl (va_cpy mk.2.1 mv.2.1 0 0 (w + 1))))), (p2, .inl (cL, 151, .inr (.inl (va_cpy mk.2.2.2.1 mv.2.2.2.1 0 0 (w + 1))))), (p3, .inl (cL, 150, .inr (.inl mk.2.1))), (p4, .inl (cL, 150, .inr (.inl mk.2.2.2.1))), (p5, .inl (cI, 151, .inl (va_cpy mk.2.2.1 mv.2.2.1 0 0 (w + 1)))), (p6, .inl (cI, 151, .inl (va_cpy mk.2.2.2.2 mv.2.2.2.2 0 0 (w + 1)))), (p7, .inl (cI, 150, .inl mk.2.2.1)), (p8, .inl (cI, 150, .inl mk.2.2.2.2))] H := by rw [← cpq_stepL (f := mk.2.1) (g := mv.2.1), ← cpq_stepI (f := mk.2.2.1) (g := mv.2.2.1), ← cpq_stepL (f := mk.2.2.2.1) (g := mv.2.2.2.1), ← cpq_stepI (f := mk.2.2.2.2) (g := mv.2.2.2.2)]; exact hP
    replace hD : va_D A [(y, .inr (2, [.int (nI mk.1), .int (nI mk.1), .ref p1, .ref p2, .ref p3, .ref p4, .ref p5, .ref p6, .ref p7, .ref p8, .long f.1, .int f.2])), (p1, .inl (cL, 151, .inr (.inl (va_cpy mk.2.1 mv.2.1 0 0 (w + 1))))), (p2, .inl (cL, 151, .inr (.inl (va_cpy mk.2.2.2.1 mv.2.2.2.1 0 0 (w + 1))))), (p3, .inl (cL, 150, .inr (.inl mk.2.1))), (p4, .inl (cL, 150, .inr (.inl mk.2.2.2.1))), (p5, .inl (cI, 151, .inl (va_cpy mk.2.2.1 mv.2.2.1 0 0 (w + 1)))), (p6, .inl (cI, 151, .inl (va_cpy mk.2.2.2.2 mv.2.2.2.2 0 0 (w + 1)))), (p7, .inl (cI, 150, .inl mk.2.2.1)), (p8, .inl (cI, 150, .inl mk.2.2.2.2))] := by rw [← cpq_stepL (f := mk.2.1) (g := mv.2.1), ← cpq_stepI (f := mk.2.2.1) (g := mv.2.2.1), ← cpq_stepL (f := mk.2.2.2.1) (g := mv.2.2.2.1), ← cpq_stepI (f := mk.2.2.2.2) (g := mv.2.2.2.2)]; exact hD
    apply ih (w := w + 1) (ls := ls) (H := H) (locs := locs)
    all_goals first | omega | exact lv_sub hl [1, 0] rfl | exact hP | exact hD | exact hS
set_option maxHeartbeats 4000000 in
set_option maxRecDepth 100000 in
/-- BlockTreeModel() -/
theorem m_init (l : Launch) (dC : Nat → ClassId) (dI : Nat → Nat → Nat) (hz : Nat) (cL cI : ClassId) (y : Nat) : Met l yX2_init wsX2_init ({ frames := 1, cells := 8, slots := 1204, locals := 20 }) (wrP (dC, dI) (kS cL cI) ([(y, .inr (2, [.int 0, .int 0, .null, .null, .null, .null, .null, .null, .null, .null, .long 0, .int 0]))]) [.ref y] hz) (va_Qv (fun (v : Nat × Nat × Nat × Nat × Nat × Nat × Nat × Nat) => True) (wrB (dC, dI) (va_A ([(y, .inr (2, [.int 0, .int 0, .null, .null, .null, .null, .null, .null, .null, .null, .long 0, .int 0]))]) hz) (fun (v : Nat × Nat × Nat × Nat × Nat × Nat × Nat × Nat) => mW cL cI y v.1 v.2.1 v.2.2.1 v.2.2.2.1 v.2.2.2.2.1 v.2.2.2.2.2.1 v.2.2.2.2.2.2.1 v.2.2.2.2.2.2.2 rs_0 rs_0 (0, 0))) (va_A ([(y, .inr (2, [.int 0, .int 0, .null, .null, .null, .null, .null, .null, .null, .null, .long 0, .int 0]))]) hz)) 8 1204 (va_A ([(y, .inr (2, [.int 0, .int 0, .null, .null, .null, .null, .null, .null, .null, .null, .long 0, .int 0]))]) hz) := by
  refine Met.ofW (cc := cX2_init) (maxL := 1) (ret := none) (by decide) rfl ?_
  intro p e s m args below meth c s₁ B hml hv
  obtain ⟨rfl, hsz, hP, hK, hD0⟩ := hv
  have hx := B.exec
  have hb := B.bytes
  have hr := B.returns
  have hts := atoms_spec (ws := wsX2_init) B.pre
  have hown : s.vm.findClass RX2 = some m.cls := findClass_of_methodNamed B.named
  have hlocks := B.notSynchronized
  have hin : meth.name = "<init>" := (name_of_methodNamed B.named B.method).1
  subst hsz
  have hD := hD0.self (sz := s.heap.size)
  generalize hAe : va_A ([(y, .inr (2, [.int 0, .int 0, .null, .null, .null, .null, .null, .null, .null, .null, .long 0, .int 0]))]) s.heap.size = A at hD ⊢
  have hA : ∀ q : Nat, s.heap.size ≤ q → A q := fun q h => by rw [← hAe]; exact Or.inr h
  have hS : va_S A s.heap s.heap [] := va_S.rf
  replace hP : va_P (dC, dI) vwCl [(y, .inr (2, [.int 0, .int 0, .null, .null, .null, .null, .null, .null, .null, .null, .long 0, .int 0]))] s.heap := hP
  replace hD : va_D A [(y, .inr (2, [.int 0, .int 0, .null, .null, .null, .null, .null, .null, .null, .null, .long 0, .int 0]))] := hD
  have hl := lv_entry ([.ref y]) (n := 1) (Nat.le_of_ble_eq_true rfl)
  rw [lg_entry_eq]
  generalize (lg_sl ([.ref y]) ++ List.replicate (1 - (lg_sl ([.ref y])).length) Slot.unset).toArray = ls at hl ⊢
  replace hl : lv_has ls 1 [(0, .ref y)] := hl
  refine lv_aload_n hx hb dX2_init_0 rfl (lv_at hl 0 rfl) ?_
  refine W.objInit hx hb hown (hts (.methodLink RX2 1 objectInit) (by decide +kernel)) (hts (.instanceMethod objectInit) (by decide +kernel)) (hts _ (List.mem_cons_of_mem _ (List.mem_append_left _ (List.mem_of_getElem? (i := 2) rfl)))) rfl (by rw [hml]; exact hl.1) rfl dX2_init_1 (Nat.le_of_ble_eq_true rfl) (Nat.le_of_ble_eq_true rfl) ?_
  refine W.eq (g2 := F0 m 4 ls []) rfl ?_
  refine lv_aload_n hx hb dX2_init_4 rfl (lv_at hl 0 rfl) ?_
  refine lv_sipush (v := 151) hx hb dX2_init_5 (by decide) ?_
  refine va_newa (atype := .long) (N' := 151) (a0 := (151, .inr (.inl (fun _ => 0)))) (ty := .long) (n := 151) hx hb (hts (.arrayClass .long) (by decide +kernel)) rfl hK hP hD hS hA (fun _ => rfl) (by decide +kernel) (by decide +kernel) (by decide +kernel) (by decide +kernel) (by decide +kernel) dX2_init_8 (fun p1 cA_p1 H hKn hP hD hS => ?_)
  obtain rfl : cL = cA_p1 := ka_long hKn hK 2 0 rfl rfl
  replace hP : va_P (dC, dI) vwCl [(y, .inr (2, [.int 0, .int 0, .null, .null, .null, .null, .null, .null, .null, .null, .long 0, .int 0])), (p1, .inl (cL, 151, .inr (.inl (fun _ => 0))))] H := hP
  replace hD : va_D A [(y, .inr (2, [.int 0, .int 0, .null, .null, .null, .null, .null, .null, .null, .null, .long 0, .int 0])), (p1, .inl (cL, 151, .inr (.inl (fun _ => 0))))] := hD
  refine W.widen (k := 1) (n := 151) (by omega) (by omega) ?_
  refine va_putF (D := (dC, dI)) (ci := 2) (v := .ref p1) (ty := .array .long) (C := RX2) (T := TX2) (N := 12) hx hb hts i_X2_init_X2 tyX2 tyX2_ok nmX2 hown hK hP hD hS 0 rfl rfl 2 (by decide) (hts (.fieldLink RX2 7 "BlockTreeModel" "key" "[J") (by decide +kernel)) (fun _ h9 => h9) rfl hin rfl (by decide +kernel) rfl rfl (Nat.le_of_ble_eq_true rfl) dX2_init_10 (fun H locs hP hD hS => ?_)
  replace hP : va_P (dC, dI) vwCl [(y, .inr (2, [.int 0, .int 0, .ref p1, .null, .null, .null, .null, .null, .null, .null, .long 0, .int 0])), (p1, .inl (cL, 151, .inr (.inl (fun _ => 0))))] H := hP
  replace hD : va_D A [(y, .inr (2, [.int 0, .int 0, .ref p1, .null, .null, .null, .null, .null, .null, .null, .long 0, .int 0])), (p1, .inl (cL, 151, .inr (.inl (fun _ => 0))))] := hD
  refine lv_aload_n hx hb dX2_init_13 rfl (lv_at hl 0 rfl) ?_
  refine lv_sipush (v := 151) hx hb dX2_init_14 (by decide) ?_
  refine va_newa (atype := .long) (N' := 151) (a0 := (151, .inr (.inl (fun _ => 0)))) (ty := .long) (n := 151) hx hb (hts (.arrayClass .long) (by decide +kernel)) rfl hK hP hD hS hA (fun _ => rfl) (by decide +kernel) (by decide +kernel) (by decide +kernel) (by decide +kernel) (by decide +kernel) dX2_init_17 (fun p2 cA_p2 H hKn hP hD hS => ?_)
  obtain rfl : cL = cA_p2 := ka_long hKn hK 2 0 rfl rfl
  replace hP : va_P (dC, dI) vwCl [(y, .inr (2, [.int 0, .int 0, .ref p1, .null, .null, .null, .null, .null, .null, .null, .long 0, .int 0])), (p1, .inl (cL, 151, .inr (.inl (fun _ => 0)))), (p2, .inl (cL, 151, .inr (.inl (fun _ => 0))))] H := hP
  replace hD : va_D A [(y, .inr (2, [.int 0, .int 0, .ref p1, .null, .null, .null, .null, .null, .null, .null, .long 0, .int 0])), (p1, .inl (cL, 151, .inr (.inl (fun _ => 0)))), (p2, .inl (cL, 151, .inr (.inl (fun _ => 0))))] := hD
  refine W.widen (k := 2) (n := 302) (by omega) (by omega) ?_
  refine va_putF (D := (dC, dI)) (ci := 2) (v := .ref p2) (ty := .array .long) (C := RX2) (T := TX2) (N := 12) hx hb hts i_X2_init_X2 tyX2 tyX2_ok nmX2 hown hK hP hD hS 0 rfl rfl 3 (by decide) (hts (.fieldLink RX2 13 "BlockTreeModel" "text" "[J") (by decide +kernel)) (fun _ h9 => h9) rfl hin rfl (by decide +kernel) rfl rfl (Nat.le_of_ble_eq_true rfl) dX2_init_19 (fun H locs hP hD hS => ?_)
  replace hP : va_P (dC, dI) vwCl [(y, .inr (2, [.int 0, .int 0, .ref p1, .ref p2, .null, .null, .null, .null, .null, .null, .long 0, .int 0])), (p1, .inl (cL, 151, .inr (.inl (fun _ => 0)))), (p2, .inl (cL, 151, .inr (.inl (fun _ => 0))))] H := hP
  replace hD : va_D A [(y, .inr (2, [.int 0, .int 0, .ref p1, .ref p2, .null, .null, .null, .null, .null, .null, .long 0, .int 0])), (p1, .inl (cL, 151, .inr (.inl (fun _ => 0)))), (p2, .inl (cL, 151, .inr (.inl (fun _ => 0))))] := hD
  refine lv_aload_n hx hb dX2_init_22 rfl (lv_at hl 0 rfl) ?_
  refine lv_sipush (v := 150) hx hb dX2_init_23 (by decide) ?_
  refine va_newa (atype := .long) (N' := 150) (a0 := (150, .inr (.inl (fun _ => 0)))) (ty := .long) (n := 150) hx hb (hts (.arrayClass .long) (by decide +kernel)) rfl hK hP hD hS hA (fun _ => rfl) (by decide +kernel) (by decide +kernel) (by decide +kernel) (by decide +kernel) (by decide +kernel) dX2_init_26 (fun p3 cA_p3 H hKn hP hD hS => ?_)
  obtain rfl : cL = cA_p3 := ka_long hKn hK 2 0 rfl rfl
  replace hP : va_P (dC, dI) vwCl [(y, .inr (2, [.int 0, .int 0, .ref p1, .ref p2, .null, .null, .null, .null, .null, .null, .long 0, .int 0])), (p1, .inl (cL, 151, .inr (.inl (fun _ => 0)))), (p2, .inl (cL, 151, .inr (.inl (fun _ => 0)))), (p3, .inl (cL, 150, .inr (.inl (fun _ => 0))))] H := hP
  replace hD : va_D A [(y, .inr (2, [.int 0, .int 0, .ref p1, .ref p2, .null, .null, .null, .null, .null, .null, .long 0, .int 0])), (p1, .inl (cL, 151, .inr (.inl (fun _ => 0)))), (p2, .inl (cL, 151, .inr (.inl (fun _ => 0)))), (p3, .inl (cL, 150, .inr (.inl (fun _ => 0))))] := hD
  refine W.widen (k := 3) (n := 452) (by omega) (by omega) ?_
  refine va_putF (D := (dC, dI)) (ci := 2) (v := .ref p3) (ty := .array .long) (C := RX2) (T := TX2) (N := 12) hx hb hts i_X2_init_X2 tyX2 tyX2_ok nmX2 hown hK hP hD hS 0 rfl rfl 4 (by decide) (hts (.fieldLink RX2 16 "BlockTreeModel" "keptKey" "[J") (by decide +kernel)) (fun _ h9 => h9) rfl hin rfl (by decide +kernel) rfl rfl (Nat.le_of_ble_eq_true rfl) dX2_init_28 (fun H locs hP hD hS => ?_)
  replace hP : va_P (dC, dI) vwCl [(y, .inr (2, [.int 0, .int 0, .ref p1, .ref p2, .ref p3, .null, .null, .null, .null, .null, .long 0, .int 0])), (p1, .inl (cL, 151, .inr (.inl (fun _ => 0)))), (p2, .inl (cL, 151, .inr (.inl (fun _ => 0)))), (p3, .inl (cL, 150, .inr (.inl (fun _ => 0))))] H := hP
  replace hD : va_D A [(y, .inr (2, [.int 0, .int 0, .ref p1, .ref p2, .ref p3, .null, .null, .null, .null, .null, .long 0, .int 0])), (p1, .inl (cL, 151, .inr (.inl (fun _ => 0)))), (p2, .inl (cL, 151, .inr (.inl (fun _ => 0)))), (p3, .inl (cL, 150, .inr (.inl (fun _ => 0))))] := hD
  refine lv_aload_n hx hb dX2_init_31 rfl (lv_at hl 0 rfl) ?_
  refine lv_sipush (v := 150) hx hb dX2_init_32 (by decide) ?_
  refine va_newa (atype := .long) (N' := 150) (a0 := (150, .inr (.inl (fun _ => 0)))) (ty := .long) (n := 150) hx hb (hts (.arrayClass .long) (by decide +kernel)) rfl hK hP hD hS hA (fun _ => rfl) (by decide +kernel) (by decide +kernel) (by decide +kernel) (by decide +kernel) (by decide +kernel) dX2_init_35 (fun p4 cA_p4 H hKn hP hD hS => ?_)
  obtain rfl : cL = cA_p4 := ka_long hKn hK 2 0 rfl rfl
  replace hP : va_P (dC, dI) vwCl [(y, .inr (2, [.int 0, .int 0, .ref p1, .ref p2, .ref p3, .null, .null, .null, .null, .null, .long 0, .int 0])), (p1, .inl (cL, 151, .inr (.inl (fun _ => 0)))), (p2, .inl (cL, 151, .inr (.inl (fun _ => 0)))), (p3, .inl (cL, 150, .inr (.inl (fun _ => 0)))), (p4, .inl (cL, 150, .inr (.inl (fun _ => 0))))] H := hP
  replace hD : va_D A [(y, .inr (2, [.int 0, .int 0, .ref p1, .ref p2, .ref p3, .null, .null, .null, .null, .null, .long 0, .int 0])), (p1, .inl (cL, 151, .inr (.inl (fun _ => 0)))), (p2, .inl (cL, 151, .inr (.inl (fun _ => 0)))), (p3, .inl (cL, 150, .inr (.inl (fun _ => 0)))), (p4, .inl (cL, 150, .inr (.inl (fun _ => 0))))] := hD
  refine W.widen (k := 4) (n := 602) (by omega) (by omega) ?_
  refine va_putF (D := (dC, dI)) (ci := 2) (v := .ref p4) (ty := .array .long) (C := RX2) (T := TX2) (N := 12) hx hb hts i_X2_init_X2 tyX2 tyX2_ok nmX2 hown hK hP hD hS 0 rfl rfl 5 (by decide) (hts (.fieldLink RX2 19 "BlockTreeModel" "keptText" "[J") (by decide +kernel)) (fun _ h9 => h9) rfl hin rfl (by decide +kernel) rfl rfl (Nat.le_of_ble_eq_true rfl) dX2_init_37 (fun H locs hP hD hS => ?_)
  replace hP : va_P (dC, dI) vwCl [(y, .inr (2, [.int 0, .int 0, .ref p1, .ref p2, .ref p3, .ref p4, .null, .null, .null, .null, .long 0, .int 0])), (p1, .inl (cL, 151, .inr (.inl (fun _ => 0)))), (p2, .inl (cL, 151, .inr (.inl (fun _ => 0)))), (p3, .inl (cL, 150, .inr (.inl (fun _ => 0)))), (p4, .inl (cL, 150, .inr (.inl (fun _ => 0))))] H := hP
  replace hD : va_D A [(y, .inr (2, [.int 0, .int 0, .ref p1, .ref p2, .ref p3, .ref p4, .null, .null, .null, .null, .long 0, .int 0])), (p1, .inl (cL, 151, .inr (.inl (fun _ => 0)))), (p2, .inl (cL, 151, .inr (.inl (fun _ => 0)))), (p3, .inl (cL, 150, .inr (.inl (fun _ => 0)))), (p4, .inl (cL, 150, .inr (.inl (fun _ => 0))))] := hD
  refine lv_aload_n hx hb dX2_init_40 rfl (lv_at hl 0 rfl) ?_
  refine lv_sipush (v := 151) hx hb dX2_init_41 (by decide) ?_
  refine va_newa (atype := .int) (N' := 151) (a0 := (151, .inl (fun _ => 0))) (ty := .int) (n := 151) hx hb (hts (.arrayClass .int) (by decide +kernel)) rfl hK hP hD hS hA (fun _ => rfl) (by decide +kernel) (by decide +kernel) (by decide +kernel) (by decide +kernel) (by decide +kernel) dX2_init_44 (fun p5 cA_p5 H hKn hP hD hS => ?_)
  obtain rfl : cI = cA_p5 := ka_int hKn hK 2 1 rfl rfl
  replace hP : va_P (dC, dI) vwCl [(y, .inr (2, [.int 0, .int 0, .ref p1, .ref p2, .ref p3, .ref p4, .null, .null, .null, .null, .long 0, .int 0])), (p1, .inl (cL, 151, .inr (.inl (fun _ => 0)))), (p2, .inl (cL, 151, .inr (.inl (fun _ => 0)))), (p3, .inl (cL, 150, .inr (.inl (fun _ => 0)))), (p4, .inl (cL, 150, .inr (.inl (fun _ => 0)))), (p5, .inl (cI, 151, .inl (fun _ => 0)))] H := hP
  replace hD : va_D A [(y, .inr (2, [.int 0, .int 0, .ref p1, .ref p2, .ref p3, .ref p4, .null, .null, .null, .null, .long 0, .int 0])), (p1, .inl (cL, 151, .inr (.inl (fun _ => 0)))), (p2, .inl (cL, 151, .inr (.inl (fun _ => 0)))), (p3, .inl (cL, 150, .inr (.inl (fun _ => 0)))), (p4, .inl (cL, 150, .inr (.inl (fun _ => 0)))), (p5, .inl (cI, 151, .inl (fun _ => 0)))] := hD
  refine W.widen (k := 5) (n := 753) (by omega) (by omega) ?_
  refine va_putF (D := (dC, dI)) (ci := 2) (v := .ref p5) (ty := .array .int) (C := RX2) (T := TX2) (N := 12) hx hb hts i_X2_init_X2 tyX2 tyX2_ok nmX2 hown hK hP hD hS 0 rfl rfl 6 (by decide) (hts (.fieldLink RX2 22 "BlockTreeModel" "size" "[I") (by decide +kernel)) (fun _ h9 => h9) rfl hin rfl (by decide +kernel) rfl rfl (Nat.le_of_ble_eq_true rfl) dX2_init_46 (fun H locs hP hD hS => ?_)
  replace hP : va_P (dC, dI) vwCl [(y, .inr (2, [.int 0, .int 0, .ref p1, .ref p2, .ref p3, .ref p4, .ref p5, .null, .null, .null, .long 0, .int 0])), (p1, .inl (cL, 151, .inr (.inl (fun _ => 0)))), (p2, .inl (cL, 151, .inr (.inl (fun _ => 0)))), (p3, .inl (cL, 150, .inr (.inl (fun _ => 0)))), (p4, .inl (cL, 150, .inr (.inl (fun _ => 0)))), (p5, .inl (cI, 151, .inl (fun _ => 0)))] H := hP
  replace hD : va_D A [(y, .inr (2, [.int 0, .int 0, .ref p1, .ref p2, .ref p3, .ref p4, .ref p5, .null, .null, .null, .long 0, .int 0])), (p1, .inl (cL, 151, .inr (.inl (fun _ => 0)))), (p2, .inl (cL, 151, .inr (.inl (fun _ => 0)))), (p3, .inl (cL, 150, .inr (.inl (fun _ => 0)))), (p4, .inl (cL, 150, .inr (.inl (fun _ => 0)))), (p5, .inl (cI, 151, .inl (fun _ => 0)))] := hD
  refine lv_aload_n hx hb dX2_init_49 rfl (lv_at hl 0 rfl) ?_
  refine lv_sipush (v := 151) hx hb dX2_init_50 (by decide) ?_
  refine va_newa (atype := .int) (N' := 151) (a0 := (151, .inl (fun _ => 0))) (ty := .int) (n := 151) hx hb (hts (.arrayClass .int) (by decide +kernel)) rfl hK hP hD hS hA (fun _ => rfl) (by decide +kernel) (by decide +kernel) (by decide +kernel) (by decide +kernel) (by decide +kernel) dX2_init_53 (fun p6 cA_p6 H hKn hP hD hS => ?_)
  obtain rfl : cI = cA_p6 := ka_int hKn hK 2 1 rfl rfl
  replace hP : va_P (dC, dI) vwCl [(y, .inr (2, [.int 0, .int 0, .ref p1, .ref p2, .ref p3, .ref p4, .ref p5, .null, .null, .null, .long 0, .int 0])), (p1, .inl (cL, 151, .inr (.inl (fun _ => 0)))), (p2, .inl (cL, 151, .inr (.inl (fun _ => 0)))), (p3, .inl (cL, 150, .inr (.inl (fun _ => 0)))), (p4, .inl (cL, 150, .inr (.inl (fun _ => 0)))), (p5, .inl (cI, 151, .inl (fun _ => 0))), (p6, .inl (cI, 151, .inl (fun _ => 0)))] H := hP
  replace hD : va_D A [(y, .inr (2, [.int 0, .int 0, .ref p1, .ref p2, .ref p3, .ref p4, .ref p5, .null, .null, .null, .long 0, .int 0])), (p1, .inl (cL, 151, .inr (.inl (fun _ => 0)))), (p2, .inl (cL, 151, .inr (.inl (fun _ => 0)))), (p3, .inl (cL, 150, .inr (.inl (fun _ => 0)))), (p4, .inl (cL, 150, .inr (.inl (fun _ => 0)))), (p5, .inl (cI, 151, .inl (fun _ => 0))), (p6, .inl (cI, 151, .inl (fun _ => 0)))] := hD
  refine W.widen (k := 6) (n := 904) (by omega) (by omega) ?_
  refine va_putF (D := (dC, dI)) (ci := 2) (v := .ref p6) (ty := .array .int) (C := RX2) (T := TX2) (N := 12) hx hb hts i_X2_init_X2 tyX2 tyX2_ok nmX2 hown hK hP hD hS 0 rfl rfl 7 (by decide) (hts (.fieldLink RX2 26 "BlockTreeModel" "length" "[I") (by decide +kernel)) (fun _ h9 => h9) rfl hin rfl (by decide +kernel) rfl rfl (Nat.le_of_ble_eq_true rfl) dX2_init_55 (fun H locs hP hD hS => ?_)
  replace hP : va_P (dC, dI) vwCl [(y, .inr (2, [.int 0, .int 0, .ref p1, .ref p2, .ref p3, .ref p4, .ref p5, .ref p6, .null, .null, .long 0, .int 0])), (p1, .inl (cL, 151, .inr (.inl (fun _ => 0)))), (p2, .inl (cL, 151, .inr (.inl (fun _ => 0)))), (p3, .inl (cL, 150, .inr (.inl (fun _ => 0)))), (p4, .inl (cL, 150, .inr (.inl (fun _ => 0)))), (p5, .inl (cI, 151, .inl (fun _ => 0))), (p6, .inl (cI, 151, .inl (fun _ => 0)))] H := hP
  replace hD : va_D A [(y, .inr (2, [.int 0, .int 0, .ref p1, .ref p2, .ref p3, .ref p4, .ref p5, .ref p6, .null, .null, .long 0, .int 0])), (p1, .inl (cL, 151, .inr (.inl (fun _ => 0)))), (p2, .inl (cL, 151, .inr (.inl (fun _ => 0)))), (p3, .inl (cL, 150, .inr (.inl (fun _ => 0)))), (p4, .inl (cL, 150, .inr (.inl (fun _ => 0)))), (p5, .inl (cI, 151, .inl (fun _ => 0))), (p6, .inl (cI, 151, .inl (fun _ => 0)))] := hD
  refine lv_aload_n hx hb dX2_init_58 rfl (lv_at hl 0 rfl) ?_
  refine lv_sipush (v := 150) hx hb dX2_init_59 (by decide) ?_
  refine va_newa (atype := .int) (N' := 150) (a0 := (150, .inl (fun _ => 0))) (ty := .int) (n := 150) hx hb (hts (.arrayClass .int) (by decide +kernel)) rfl hK hP hD hS hA (fun _ => rfl) (by decide +kernel) (by decide +kernel) (by decide +kernel) (by decide +kernel) (by decide +kernel) dX2_init_62 (fun p7 cA_p7 H hKn hP hD hS => ?_)
  obtain rfl : cI = cA_p7 := ka_int hKn hK 2 1 rfl rfl
  replace hP : va_P (dC, dI) vwCl [(y, .inr (2, [.int 0, .int 0, .ref p1, .ref p2, .ref p3, .ref p4, .ref p5, .ref p6, .null, .null, .long 0, .int 0])), (p1, .inl (cL, 151, .inr (.inl (fun _ => 0)))), (p2, .inl (cL, 151, .inr (.inl (fun _ => 0)))), (p3, .inl (cL, 150, .inr (.inl (fun _ => 0)))), (p4, .inl (cL, 150, .inr (.inl (fun _ => 0)))), (p5, .inl (cI, 151, .inl (fun _ => 0))), (p6, .inl (cI, 151, .inl (fun _ => 0))), (p7, .inl (cI, 150, .inl (fun _ => 0)))] H := hP
  replace hD : va_D A [(y, .inr (2, [.int 0, .int 0, .ref p1, .ref p2, .ref p3, .ref p4, .ref p5, .ref p6, .null, .null, .long 0, .int 0])), (p1, .inl (cL, 151, .inr (.inl (fun _ => 0)))), (p2, .inl (cL, 151, .inr (.inl (fun _ => 0)))), (p3, .inl (cL, 150, .inr (.inl (fun _ => 0)))), (p4, .inl (cL, 150, .inr (.inl (fun _ => 0)))), (p5, .inl (cI, 151, .inl (fun _ => 0))), (p6, .inl (cI, 151, .inl (fun _ => 0))), (p7, .inl (cI, 150, .inl (fun _ => 0)))] := hD
  refine W.widen (k := 7) (n := 1054) (by omega) (by omega) ?_
  refine va_putF (D := (dC, dI)) (ci := 2) (v := .ref p7) (ty := .array .int) (C := RX2) (T := TX2) (N := 12) hx hb hts i_X2_init_X2 tyX2 tyX2_ok nmX2 hown hK hP hD hS 0 rfl rfl 8 (by decide) (hts (.fieldLink RX2 29 "BlockTreeModel" "keptSize" "[I") (by decide +kernel)) (fun _ h9 => h9) rfl hin rfl (by decide +kernel) rfl rfl (Nat.le_of_ble_eq_true rfl) dX2_init_64 (fun H locs hP hD hS => ?_)
  replace hP : va_P (dC, dI) vwCl [(y, .inr (2, [.int 0, .int 0, .ref p1, .ref p2, .ref p3, .ref p4, .ref p5, .ref p6, .ref p7, .null, .long 0, .int 0])), (p1, .inl (cL, 151, .inr (.inl (fun _ => 0)))), (p2, .inl (cL, 151, .inr (.inl (fun _ => 0)))), (p3, .inl (cL, 150, .inr (.inl (fun _ => 0)))), (p4, .inl (cL, 150, .inr (.inl (fun _ => 0)))), (p5, .inl (cI, 151, .inl (fun _ => 0))), (p6, .inl (cI, 151, .inl (fun _ => 0))), (p7, .inl (cI, 150, .inl (fun _ => 0)))] H := hP
  replace hD : va_D A [(y, .inr (2, [.int 0, .int 0, .ref p1, .ref p2, .ref p3, .ref p4, .ref p5, .ref p6, .ref p7, .null, .long 0, .int 0])), (p1, .inl (cL, 151, .inr (.inl (fun _ => 0)))), (p2, .inl (cL, 151, .inr (.inl (fun _ => 0)))), (p3, .inl (cL, 150, .inr (.inl (fun _ => 0)))), (p4, .inl (cL, 150, .inr (.inl (fun _ => 0)))), (p5, .inl (cI, 151, .inl (fun _ => 0))), (p6, .inl (cI, 151, .inl (fun _ => 0))), (p7, .inl (cI, 150, .inl (fun _ => 0)))] := hD
  refine lv_aload_n hx hb dX2_init_67 rfl (lv_at hl 0 rfl) ?_
  refine lv_sipush (v := 150) hx hb dX2_init_68 (by decide) ?_
  refine va_newa (atype := .int) (N' := 150) (a0 := (150, .inl (fun _ => 0))) (ty := .int) (n := 150) hx hb (hts (.arrayClass .int) (by decide +kernel)) rfl hK hP hD hS hA (fun _ => rfl) (by decide +kernel) (by decide +kernel) (by decide +kernel) (by decide +kernel) (by decide +kernel) dX2_init_71 (fun p8 cA_p8 H hKn hP hD hS => ?_)
  obtain rfl : cI = cA_p8 := ka_int hKn hK 2 1 rfl rfl
  replace hP : va_P (dC, dI) vwCl [(y, .inr (2, [.int 0, .int 0, .ref p1, .ref p2, .ref p3, .ref p4, .ref p5, .ref p6, .ref p7, .null, .long 0, .int 0])), (p1, .inl (cL, 151, .inr (.inl (fun _ => 0)))), (p2, .inl (cL, 151, .inr (.inl (fun _ => 0)))), (p3, .inl (cL, 150, .inr (.inl (fun _ => 0)))), (p4, .inl (cL, 150, .inr (.inl (fun _ => 0)))), (p5, .inl (cI, 151, .inl (fun _ => 0))), (p6, .inl (cI, 151, .inl (fun _ => 0))), (p7, .inl (cI, 150, .inl (fun _ => 0))), (p8, .inl (cI, 150, .inl (fun _ => 0)))] H := hP
  replace hD : va_D A [(y, .inr (2, [.int 0, .int 0, .ref p1, .ref p2, .ref p3, .ref p4, .ref p5, .ref p6, .ref p7, .null, .long 0, .int 0])), (p1, .inl (cL, 151, .inr (.inl (fun _ => 0)))), (p2, .inl (cL, 151, .inr (.inl (fun _ => 0)))), (p3, .inl (cL, 150, .inr (.inl (fun _ => 0)))), (p4, .inl (cL, 150, .inr (.inl (fun _ => 0)))), (p5, .inl (cI, 151, .inl (fun _ => 0))), (p6, .inl (cI, 151, .inl (fun _ => 0))), (p7, .inl (cI, 150, .inl (fun _ => 0))), (p8, .inl (cI, 150, .inl (fun _ => 0)))] := hD
  refine W.widen (k := 8) (n := 1204) (by omega) (by omega) ?_
  refine va_putF (D := (dC, dI)) (ci := 2) (v := .ref p8) (ty := .array .int) (C := RX2) (T := TX2) (N := 12) hx hb hts i_X2_init_X2 tyX2 tyX2_ok nmX2 hown hK hP hD hS 0 rfl rfl 9 (by decide) (hts (.fieldLink RX2 32 "BlockTreeModel" "keptLength" "[I") (by decide +kernel)) (fun _ h9 => h9) rfl hin rfl (by decide +kernel) rfl rfl (Nat.le_of_ble_eq_true rfl) dX2_init_73 (fun H locs hP hD hS => ?_)
  replace hP : va_P (dC, dI) vwCl [(y, .inr (2, [.int 0, .int 0, .ref p1, .ref p2, .ref p3, .ref p4, .ref p5, .ref p6, .ref p7, .ref p8, .long 0, .int 0])), (p1, .inl (cL, 151, .inr (.inl (fun _ => 0)))), (p2, .inl (cL, 151, .inr (.inl (fun _ => 0)))), (p3, .inl (cL, 150, .inr (.inl (fun _ => 0)))), (p4, .inl (cL, 150, .inr (.inl (fun _ => 0)))), (p5, .inl (cI, 151, .inl (fun _ => 0))), (p6, .inl (cI, 151, .inl (fun _ => 0))), (p7, .inl (cI, 150, .inl (fun _ => 0))), (p8, .inl (cI, 150, .inl (fun _ => 0)))] H := hP
  replace hD : va_D A [(y, .inr (2, [.int 0, .int 0, .ref p1, .ref p2, .ref p3, .ref p4, .ref p5, .ref p6, .ref p7, .ref p8, .long 0, .int 0])), (p1, .inl (cL, 151, .inr (.inl (fun _ => 0)))), (p2, .inl (cL, 151, .inr (.inl (fun _ => 0)))), (p3, .inl (cL, 150, .inr (.inl (fun _ => 0)))), (p4, .inl (cL, 150, .inr (.inl (fun _ => 0)))), (p5, .inl (cI, 151, .inl (fun _ => 0))), (p6, .inl (cI, 151, .inl (fun _ => 0))), (p7, .inl (cI, 150, .inl (fun _ => 0))), (p8, .inl (cI, 150, .inl (fun _ => 0)))] := hD
  exact W.vret hx hb hr (fun t9 ht hW => ⟨⟨(p1, p2, p3, p4, p5, p6, p7, p8), rfl, trivial, by rw [ht]; exact hP, hD⟩, hS.F ht⟩) hS.2.2 dX2_init_76
end
section
/-! THE CLASS's ROWS AND THE REFERENCE's: the same rows, but that a key's bytes stand at the top of the long in the one, as they are told in the other -/
theorem hd_low {q : Int64} {t : Int32} (o : okK t) : hdOf (lowB q t) t = hdOf q t := by
  obtain ⟨n, n1, n8, rfl⟩ := okK_nat o
  apply uN_inj
  rw [hdOf_n n1 n8, hdOf_n n1 n8, lowB_n n8, Nat.mod_mod]
theorem low_low {q : Int64} {t : Int32} (o : okK t) : lowB (lowB q t) t = lowB q t := by
  obtain ⟨n, n1, n8, rfl⟩ := okK_nat o
  apply uN_inj
  rw [lowB_n n8, lowB_n n8, Nat.mod_mod]
theorem unH_low {k : Int64} {t : Int32} (o : okK t) : unH (hdOf k t) t = lowB k t := by
  obtain ⟨n, n1, n8, rfl⟩ := okK_nat o
  apply uN_inj
  rw [unH_hdOf n1 n8, lowB_n n8]
def rr (v w : RS) (i : Nat) : Prop := v.2.1 i = hdOf (w.2.1 i) (w.2.2.1 i) ∧ v.2.2.1 i = w.2.2.1 i ∧ v.2.2.2.1 i = w.2.2.2.1 i ∧ v.2.2.2.2 i = w.2.2.2.2 i ∧ lowB (w.2.1 i) (w.2.2.1 i) = w.2.1 i
def Sim (v w : RS) : Prop := v.1 = w.1 ∧ ∀ i, i < v.1 → rr v w i
theorem sim_0 : Sim rs_0 rs_0 := ⟨rfl, fun i h => absurd h (Nat.not_lt_zero i)⟩
/-- a row of new rows that is a row of old ones -/
theorem rr_of {v w v1 w1 : RS} {i k : Nat} (h : rr v w k) (a1 : v1.2.1 i = v.2.1 k) (a2 : v1.2.2.1 i = v.2.2.1 k) (a3 : v1.2.2.2.1 i = v.2.2.2.1 k) (a4 : v1.2.2.2.2 i = v.2.2.2.2 k) (b1 : w1.2.1 i = w.2.1 k) (b2 : w1.2.2.1 i = w.2.2.1 k) (b3 : w1.2.2.2.1 i = w.2.2.2.1 k) (b4 : w1.2.2.2.2 i = w.2.2.2.2 k) : rr v1 w1 i := by
  obtain ⟨h1, h2, h3, h4, h5⟩ := h
  unfold rr
  rw [a1, a2, a3, a4, b1, b2, b3, b4]
  exact ⟨h1, h2, h3, h4, h5⟩
theorem sim_cpy {v w v1 w1 : RS} (h : Sim v w) : Sim (rs_cpy v v1) (rs_cpy w w1) := by
  obtain ⟨e, h⟩ := h
  refine ⟨e, fun i hi => ?_⟩
  have hi : i < v.1 := hi
  exact rr_of (h i hi) (cpy_at hi) (cpy_at hi) (cpy_at hi) (cpy_at hi) (cpy_at (e ▸ hi)) (cpy_at (e ▸ hi)) (cpy_at (e ▸ hi)) (cpy_at (e ▸ hi))
theorem rr_new {v w : RS} {j : Nat} {q : Int64} {t : Int32} {x : Int64} {n : Int32} (o : okK t) : rr (rs_put v j (hdOf q t) t x n) (rs_put w j (lowB q t) t x n) j := by
  unfold rr
  show vp_updL _ j _ j = hdOf (vp_updL _ j _ j) (upd _ j _ j) ∧ upd _ j _ j = upd _ j _ j ∧ vp_updL _ j _ j = vp_updL _ j _ j ∧ upd _ j _ j = upd _ j _ j ∧ lowB (vp_updL _ j _ j) (upd _ j _ j) = vp_updL _ j _ j
  rw [pk_uLs, pk_uLs, pk_us, pk_us, pk_uLs, pk_uLs, pk_us, pk_us]
  exact ⟨(hd_low o).symm, rfl, rfl, rfl, low_low o⟩
theorem rr_put {v w v0 w0 : RS} {i j : Nat} {h k : Int64} {t : Int32} {x : Int64} {n : Int32} (e : i ≠ j) (hr : rr v w i) : rr (rs_put v j h t x n) (rs_put w j k t x n) i :=
  rr_of hr (pk_uLn e) (pk_un e) (pk_uLn e) (pk_un e) (pk_uLn e) (pk_un e) (pk_uLn e) (pk_un e)
theorem sim_put {v w : RS} {j : Nat} {q : Int64} {t : Int32} {x : Int64} {n : Int32} (o : okK t) (h : Sim v w) : Sim (rs_put v j (hdOf q t) t x n) (rs_put w j (lowB q t) t x n) := by
  obtain ⟨e, h⟩ := h
  refine ⟨e, fun i hi => ?_⟩
  by_cases ej : i = j
  · subst ej
    exact rr_new o
  · exact rr_put (v0 := v) (w0 := w) ej (h i hi)
theorem sim_opn {v w : RS} {j : Nat} (hj : j ≤ v.1) (h : Sim v w) : (rs_opn v j).1 = (rs_opn w j).1 ∧ ∀ i, i < v.1 + 1 → i ≠ j → rr (rs_opn v j) (rs_opn w j) i := by
  obtain ⟨e, h⟩ := h
  refine ⟨by show v.1 + 1 = w.1 + 1; rw [e], fun i hi hne => ?_⟩
  rcases Nat.lt_or_ge i j with p | p
  · exact rr_of (h i (by omega)) (opn_lo (by omega)) (opn_lo (by omega)) (opn_lo (by omega)) (opn_lo (by omega)) (opn_lo (by omega)) (opn_lo (by omega)) (opn_lo (by omega)) (opn_lo (by omega))
  · exact rr_of (h (i - 1) (by omega)) (opn_hi (by omega) (by omega)) (opn_hi (by omega) (by omega)) (opn_hi (by omega) (by omega)) (opn_hi (by omega) (by omega)) (opn_hi (by omega) (by omega)) (opn_hi (by omega) (by omega)) (opn_hi (by omega) (by omega)) (opn_hi (by omega) (by omega))
theorem sim_ins {v w : RS} {j : Nat} {q : Int64} {t : Int32} {x : Int64} {n : Int32} (o : okK t) (hj : j ≤ v.1) (h : Sim v w) : Sim (rs_put (rs_opn v j) j (hdOf q t) t x n) (rs_put (rs_opn w j) j (lowB q t) t x n) := by
  obtain ⟨e, h⟩ := sim_opn hj h
  refine ⟨e, fun i hi => ?_⟩
  by_cases ej : i = j
  · subst ej
    exact rr_new o
  · exact rr_put (v0 := v) (w0 := w) ej (h i hi ej)
theorem sim_clo {v w : RS} {j : Nat} (hj : j < v.1) (h : Sim v w) : Sim (rs_clo v j) (rs_clo w j) := by
  obtain ⟨e, h⟩ := h
  refine ⟨by show v.1 - 1 = w.1 - 1; rw [e], fun i hi => ?_⟩
  have hi : i < v.1 - 1 := hi
  rcases Nat.lt_or_ge i j with p | p
  · exact rr_of (h i (by omega)) (clo_lo p) (clo_lo p) (clo_lo p) (clo_lo p) (clo_lo p) (clo_lo p) (clo_lo p) (clo_lo p)
  · exact rr_of (h (i + 1) (by omega)) (clo_hi p (by omega)) (clo_hi p (by omega)) (clo_hi p (by omega)) (clo_hi p (by omega)) (clo_hi p (by omega)) (clo_hi p (by omega)) (clo_hi p (by omega)) (clo_hi p (by omega))
theorem sim_mok {v w : RS} (R : Srt v) (h : Sim v w) : mok w := by
  obtain ⟨e, h⟩ := h
  refine ⟨by rw [← e]; exact R.1, fun i hi => ?_⟩
  rw [← (h i (by omega)).2.1]
  exact R.2.1 i (by omega)
theorem sim_mpl {v w : RS} {h : Int64} {t : Int32} {j : Nat} (M : Sim v w) (p : spl v.1 v.2.1 v.2.2.1 h t j) : mpl w h t j := by
  obtain ⟨e, M⟩ := M
  obtain ⟨p1, p2, p3⟩ := p
  refine ⟨by omega, fun i hi => ?_, fun hj q => p3 j (Nat.le_refl _) (by omega) ?_⟩
  · have r := M i (by omega)
    have g := p2 i hi
    rw [r.1, r.2.1] at g
    exact g
  · have r := M j (by omega)
    rw [r.1, r.2.1]
    exact q
theorem sim_hld {v w : RS} {h : Int64} {t : Int32} {j : Nat} (M : Sim v w) : hld v.1 v.2.1 v.2.2.1 j h t ↔ mhl w j h t := by
  obtain ⟨e, M⟩ := M
  constructor
  · rintro ⟨h1, h2, h3⟩
    have r := M j h1
    rw [r.1] at h2
    rw [r.2.1] at h3
    exact ⟨by omega, h2, h3⟩
  · rintro ⟨h1, h2, h3⟩
    have r := M j (by omega)
    refine ⟨by omega, ?_, ?_⟩
    · rw [r.1]
      exact h2
    · rw [r.2.1]
      exact h3
theorem ex_j {v : RS} (R : Srt v) (q : Int64) (t : Int32) : ∃ j, okK t → spl v.1 v.2.1 v.2.2.1 (hdOf q t) t j ∧ loQ v (kc (hdOf q t) t) j := by
  by_cases o : okK t
  · obtain ⟨j, h⟩ := srt_spl (h := hdOf q t) R o
    exact ⟨j, fun _ => h⟩
  · exact ⟨0, fun g => absurd g o⟩
theorem eq_put {v w v1 w1 : RS} {q : Int64} {t : Int32} {b : Int64} {n : Int32} {j : Nat} {z1 z2 : Int32} (R : Srt v) (M : Sim v w) (hj : okK t → spl v.1 v.2.1 v.2.2.1 (hdOf q t) t j ∧ loQ v (kc (hdOf q t) t) j)
    (p1 : (okK t ∧ okT n ∧ setQ v j (hdOf q t) t (lowB b n) n z1 v1) ∨ (¬ (okK t ∧ okT n) ∧ z1 = 0 ∧ v1 = v))
    (p2 : (okK t ∧ okT n ∧ msQ w j (hdOf q t) (lowB q t) t (lowB b n) n z2 w1) ∨ (¬ (okK t ∧ okT n) ∧ z2 = 0 ∧ w1 = w)) : z1 = z2 ∧ Srt v1 ∧ Sim v1 w1 := by
  rcases p1 with ⟨o, oT, p1⟩ | ⟨no, rfl, rfl⟩
  · rcases p2 with ⟨_, _, p2⟩ | ⟨no, _⟩
    · obtain ⟨hs, L⟩ := hj o
      have hh := sim_hld (h := hdOf q t) (t := t) (j := j) M
      have e := M.1
      rcases p1 with ⟨h1, rfl, rfl⟩ | ⟨h1, h2, rfl, rfl⟩ | ⟨h1, h2, rfl, rfl⟩
      · rcases p2 with ⟨g1, rfl, rfl⟩ | ⟨g1, _⟩ | ⟨g1, _⟩
        · exact ⟨rfl, srt_put R h1, sim_put o M⟩
        · exact absurd (hh.mp h1) g1
        · exact absurd (hh.mp h1) g1
      · rcases p2 with ⟨g1, _⟩ | ⟨g1, g2, rfl, rfl⟩ | ⟨g1, g2, _⟩
        · exact absurd (hh.mpr g1) h1
        · exact ⟨rfl, srt_ins R o hs.1 L h1 h2, sim_ins o hs.1 M⟩
        · omega
      · rcases p2 with ⟨g1, _⟩ | ⟨g1, g2, _⟩ | ⟨g1, g2, rfl, rfl⟩
        · exact absurd (hh.mpr g1) h1
        · omega
        · exact ⟨rfl, R, M⟩
    · exact absurd ⟨o, oT⟩ no
  · rcases p2 with ⟨o, oT, _⟩ | ⟨_, rfl, rfl⟩
    · exact absurd ⟨o, oT⟩ no
    · exact ⟨rfl, R, M⟩
theorem eq_rem {v w v1 w1 : RS} {q : Int64} {t : Int32} {j : Nat} {z1 z2 : Int32} (R : Srt v) (M : Sim v w)
    (p1 : (okK t ∧ hld v.1 v.2.1 v.2.2.1 j (hdOf q t) t ∧ z1 = 1 ∧ v1 = rs_clo v j) ∨ (¬ (okK t ∧ hld v.1 v.2.1 v.2.2.1 j (hdOf q t) t) ∧ z1 = 0 ∧ v1 = v))
    (p2 : (okK t ∧ mhl w j (hdOf q t) t ∧ z2 = 1 ∧ w1 = rs_clo w j) ∨ (¬ (okK t ∧ mhl w j (hdOf q t) t) ∧ z2 = 0 ∧ w1 = w)) : z1 = z2 ∧ Srt v1 ∧ Sim v1 w1 := by
  have hh := sim_hld (h := hdOf q t) (t := t) (j := j) M
  rcases p1 with ⟨o, h1, rfl, rfl⟩ | ⟨no, rfl, rfl⟩
  · rcases p2 with ⟨_, g1, rfl, rfl⟩ | ⟨g1, _⟩
    · exact ⟨rfl, srt_rem R h1.1, sim_clo h1.1 M⟩
    · exact absurd ⟨o, hh.mp h1⟩ g1
  · rcases p2 with ⟨o, g1, _⟩ | ⟨_, rfl, rfl⟩
    · exact absurd ⟨o, hh.mpr g1⟩ no
    · exact ⟨rfl, R, M⟩
theorem eq_len {v w : RS} {q : Int64} {t : Int32} {j : Nat} {z1 z2 : Int32} (M : Sim v w)
    (p1 : (okK t ∧ hld v.1 v.2.1 v.2.2.1 j (hdOf q t) t ∧ z1 = v.2.2.2.2 j) ∨ (¬ (okK t ∧ hld v.1 v.2.1 v.2.2.1 j (hdOf q t) t) ∧ z1 = -1))
    (p2 : (okK t ∧ mhl w j (hdOf q t) t ∧ z2 = w.2.2.2.2 j) ∨ (¬ (okK t ∧ mhl w j (hdOf q t) t) ∧ z2 = -1)) : z1 = z2 := by
  have hh := sim_hld (h := hdOf q t) (t := t) (j := j) M
  rcases p1 with ⟨o, h1, rfl⟩ | ⟨no, rfl⟩
  · rcases p2 with ⟨_, g1, rfl⟩ | ⟨g1, _⟩
    · exact (M.2 j h1.1).2.2.2.1
    · exact absurd ⟨o, hh.mp h1⟩ g1
  · rcases p2 with ⟨o, g1, _⟩ | ⟨_, rfl⟩
    · exact absurd ⟨o, hh.mpr g1⟩ no
    · rfl
theorem eq_txt {v w : RS} {q : Int64} {t : Int32} {j : Nat} {z1 z2 : Int64} (M : Sim v w)
    (p1 : (okK t ∧ hld v.1 v.2.1 v.2.2.1 j (hdOf q t) t ∧ z1 = v.2.2.2.1 j) ∨ (¬ (okK t ∧ hld v.1 v.2.1 v.2.2.1 j (hdOf q t) t) ∧ z1 = 0))
    (p2 : (okK t ∧ mhl w j (hdOf q t) t ∧ z2 = w.2.2.2.1 j) ∨ (¬ (okK t ∧ mhl w j (hdOf q t) t) ∧ z2 = 0)) : z1 = z2 := by
  have hh := sim_hld (h := hdOf q t) (t := t) (j := j) M
  rcases p1 with ⟨o, h1, rfl⟩ | ⟨no, rfl⟩
  · rcases p2 with ⟨_, g1, rfl⟩ | ⟨g1, _⟩
    · exact (M.2 j h1.1).2.2.1
    · exact absurd ⟨o, hh.mp h1⟩ g1
  · rcases p2 with ⟨o, g1, _⟩ | ⟨_, rfl⟩
    · exact absurd ⟨o, hh.mpr g1⟩ no
    · rfl
theorem eq_nf {v w : RS} {i z1 z2 : Int32} {f1 f2 : Int64 × Int32} (R : Srt v) (M : Sim v w) (p1 : nfQ v.1 v.2.1 v.2.2.1 i z1 f1) (p2 : mfQ w i z2 f2) : z1 = z2 ∧ f1 = f2 := by
  have e := M.1
  have hu := R.1
  rcases p1 with ⟨j, h1, h2, rfl, rfl⟩ | ⟨h1, rfl, rfl⟩
  · rcases p2 with ⟨k, g1, g2, rfl, rfl⟩ | ⟨g1, _⟩
    · obtain rfl : j = k := nI_inj (u := w.1) (by omega) g1 (h2.symm.trans g2) (by omega)
      have r := M.2 j h1
      refine ⟨rfl, ?_⟩
      rw [r.1, r.2.1, unH_low (by rw [← r.2.1]; exact R.2.1 j h1), r.2.2.2.2]
    · exact absurd ⟨j, by omega, h2⟩ g1
  · rcases p2 with ⟨k, g1, g2, _⟩ | ⟨_, rfl, rfl⟩
    · exact absurd ⟨k, by omega, g2⟩ h1
    · exact ⟨rfl, rfl⟩
theorem eq_seek {v w : RS} {t i z1 z2 : Int32} {f1 f2 : Int64 × Int32} (R : Srt v) (M : Sim v w) (p1 : (okK t ∧ nfQ v.1 v.2.1 v.2.2.1 i z1 f1) ∨ (¬ okK t ∧ z1 = 0 ∧ f1 = (0, 0))) (p2 : (okK t ∧ mfQ w i z2 f2) ∨ (¬ okK t ∧ z2 = 0 ∧ f2 = (0, 0))) : z1 = z2 ∧ f1 = f2 := by
  rcases p1 with ⟨o, h⟩ | ⟨o, rfl, rfl⟩
  · rcases p2 with ⟨_, g⟩ | ⟨o2, _⟩
    · exact eq_nf R M h g
    · exact absurd o o2
  · rcases p2 with ⟨o2, _⟩ | ⟨_, rfl, rfl⟩
    · exact absurd o2 o
    · exact ⟨rfl, rfl⟩
end
section
/-! THE CLAIM OUT OF ONE WALK OF THE LAW'S BODY. Your part is whole_start (and what it stands on); all else here is the same for every law, but numbers. -/
def R_law : String := "BlockTreeLaw"
def lw_P (b : Addr) (xs : List Int32) (args : Array Value) (s : State) : Prop := args = #[.ref b] ∧ s.IntsAt b xs ∧ xs.length ≤ 3584 ∧ (Jvm.Cond.and given_1 narrow_1).before args s = true
def lw_Q (_ : Array Value) (s : State) (o : Outcome) (t : State) : Prop := o = .returned (some (.int 1)) ∧ Framed s o t [] 20 2430
def lw_Z (below : List Frame) (a : Array Value) (s : State) : State → Prop := fun t => ∃ o, t.status = .running ∧ Ended t below o ∧ lw_Q a s o t
/-- the law's own end, with 1 on the stack, nothing written that was there before, its room as the claim has it -/
theorem lw_ret {p : Program} {l : Launch} {e : Env} {s : State} {m : MethodId} {below : List Frame} {meth : Method} {c : Code} {b : Nat} (hx : p.tables.exec = Jvm.exec) (hb : c.code = code) (hr : meth.sig.returnType = ret) (hlocks : meth.locks = false) {pc : Nat} {H : Heap} {ls : Array Slot} (hdg : decode code pc = .ok (.ireturn, 1)) : W p l e room_1 s m #[Value.ref b] below meth c H [] 20 2430 (lw_Z below #[Value.ref b] s) (F0 m pc ls [.int 1]) := by
  intro T hT X
  obtain ⟨fs, hret, hrun, hended, hW, hframe⟩ := X.leave (v := some (.int 1)) (hlocks := hlocks) (fun h => by rw [hr] at h; cases h)
  have hmeth' : T.vm.method? m = some meth := X.method'
  refine ⟨T.setFrames fs, ?_, .returned (some (.int 1)), hrun, hended, rfl, ⟨_, rfl⟩, hW, hframe⟩
  jvm_step X.here [X.here.top, hx, hb, hdg, hmeth', hr, ret, narrow_b1]
  (try refine ⟨rfl, ?_⟩); (try refine ⟨rfl, ?_⟩)
  first | (intro acts; rw [hret _ acts rfl rfl rfl]) | rw [hret _ _ rfl rfl rfl]
  exact Steps.refl _
/-- what holds at the law's entry: the machine, the code, the tables' words (any of lw_tbl by 'hts w (by decide +kernel)'), the script of L ints xs at the cell b, what the Statement gives of the start (any of its parts by flat_of_before) -/
def lw_At (p : Program) (s : State) (m : MethodId) (meth : Method) (c : Code) (b L : Nat) (xs : Nat → Int32) : Prop :=
  p.tables.exec = Jvm.exec ∧ c.code = code ∧ meth.sig.returnType = ret ∧ c.maxLocals = 4 ∧ s.vm.findClass R_law = some m.cls ∧ (∀ w ∈ lw_tbl, w.before #[Value.ref b] s = true) ∧ va_X b L xs s s.heap ∧ b < s.heap.size ∧ meth.locks = false ∧ (Jvm.Cond.and given_1 narrow_1).before #[Value.ref b] s = true
end
section
/-! THE LAW: its invariant, a case a theorem -/
abbrev lW (cL cI : ClassId) (x r k a1 a2 a3 a4 b1 b2 b3 b4 y p1 p2 p3 p4 p5 p6 p7 p8 : Nat) (v vk mv mk : RS) (f : Int64 × Int32) : va_W := tW cL cI x r k a1 a2 a3 a4 f v ++ (rW cL cI k b1 b2 b3 b4 vk ++ mW cL cI y p1 p2 p3 p4 p5 p6 p7 p8 mv mk f)
def LI (v vk mv mk : RS) : Prop := Srt v ∧ Srt vk ∧ Sim v mv ∧ Sim vk mk
abbrev LK (p : Program) (l : Launch) (e : Env) (s : State) (m : MethodId) (below : List Frame) (meth : Method) (c : Code) (b : Nat) (dC : Nat → ClassId) (dI : Nat → Nat → Nat) (cL cI : ClassId) (x r k a1 a2 a3 a4 b1 b2 b3 b4 y p1 p2 p3 p4 p5 p6 p7 p8 : Nat) (i pc : Nat) : Prop :=
  ∀ (v vk mv mk : RS) (f : Int64 × Int32) (H : Heap) (locs : List Loc) (ls : Array Slot), LI v vk mv mk → va_P (dC, dI) vwCl (lW cL cI x r k a1 a2 a3 a4 b1 b2 b3 b4 y p1 p2 p3 p4 p5 p6 p7 p8 v vk mv mk f) H → va_D (fun q : Nat => s.heap.size ≤ q) (lW cL cI x r k a1 a2 a3 a4 b1 b2 b3 b4 y p1 p2 p3 p4 p5 p6 p7 p8 v vk mv mk f) → va_S (fun q : Nat => s.heap.size ≤ q) s.heap H locs → lv_has ls 4 [(0, .ref b), (1, .ref x), (2, .ref y), (3, .int (nI i))] →
    W p l e room_1 s m #[Value.ref b] below meth c H locs 20 2430 (lw_Z below #[Value.ref b] s) (F0 m pc ls [])
theorem lw_ge {i L : Nat} (hi : i ≤ 3584) (hL : L ≤ 3584) (h : ¬ (Int32.ofNat L - 7 < nI i)) : i + 7 ≤ L := by
  have h1 : nI i ≤ nI L - nI 7 := Int32.not_lt.mp h
  rw [Int32.le_iff_toInt_le, pk_sub_toInt (by omega) (by omega), nI_toInt (by omega)] at h1
  omega
set_option maxHeartbeats 4000000 in
set_option maxRecDepth 100000 in
/-- put -/
theorem lw_c0 {p : Program} {l : Launch} {e : Env} {s : State} {m : MethodId} {below : List Frame} {meth : Method} {c : Code} {b L : Nat} {xs : Nat → Int32} (hL : L ≤ 3584) (C0 : lw_At p s m meth c b L xs) {dC : Nat → ClassId} {dI : Nat → Nat → Nat} {cL cI : ClassId} (hK : va_K (dC, dI) vwCl (kS cL cI) s) {x r k a1 a2 a3 a4 b1 b2 b3 b4 y p1 p2 p3 p4 p5 p6 p7 p8 : Nat} {i : Nat} (hi : i + 7 ≤ L) (K : LK p l e s m below meth c b dC dI cL cI x r k a1 a2 a3 a4 b1 b2 b3 b4 y p1 p2 p3 p4 p5 p6 p7 p8 i 585) : LK p l e s m below meth c b dC dI cL cI x r k a1 a2 a3 a4 b1 b2 b3 b4 y p1 p2 p3 p4 p5 p6 p7 p8 i 92 := by
  intro v vk mv mk f H locs ls hI hP hD hS hl
  obtain ⟨hx, hb, hr, hml, hown, hts, hX, hbl, hlocks, hgv⟩ := C0
  have hA : ∀ q : Nat, s.heap.size ≤ q → (fun q : Nat => s.heap.size ≤ q) q := fun _ h => h
  have hbA : ¬ (fun q : Nat => s.heap.size ≤ q) b := Nat.not_le.mpr hbl
  have htl : ∀ w ∈ wsL_law, w.before #[Value.ref b] s = true := fun w h => hts w (wsL_law_in w h)
  replace hown : s.vm.findClass RL = some m.cls := hown
  replace hP : va_P (dC, dI) vwCl [(x, .inr (1, [.ref r, .ref k, .long f.1, .int f.2])), (r, .inr (0, [.ref a1, .ref a2, .ref a3, .ref a4, .int (nI v.1)])), (a1, .inl (cL, 150, .inr (.inl v.2.1))), (a2, .inl (cI, 150, .inl v.2.2.1)), (a3, .inl (cL, 150, .inr (.inl v.2.2.2.1))), (a4, .inl (cI, 150, .inl v.2.2.2.2)), (k, .inr (0, [.ref b1, .ref b2, .ref b3, .ref b4, .int (nI vk.1)])), (b1, .inl (cL, 150, .inr (.inl vk.2.1))), (b2, .inl (cI, 150, .inl vk.2.2.1)), (b3, .inl (cL, 150, .inr (.inl vk.2.2.2.1))), (b4, .inl (cI, 150, .inl vk.2.2.2.2)), (y, .inr (2, [.int (nI mv.1), .int (nI mk.1), .ref p1, .ref p2, .ref p3, .ref p4, .ref p5, .ref p6, .ref p7, .ref p8, .long f.1, .int f.2])), (p1, .inl (cL, 151, .inr (.inl mv.2.1))), (p2, .inl (cL, 151, .inr (.inl mv.2.2.2.1))), (p3, .inl (cL, 150, .inr (.inl mk.2.1))), (p4, .inl (cL, 150, .inr (.inl mk.2.2.2.1))), (p5, .inl (cI, 151, .inl mv.2.2.1)), (p6, .inl (cI, 151, .inl mv.2.2.2.2)), (p7, .inl (cI, 150, .inl mk.2.2.1)), (p8, .inl (cI, 150, .inl mk.2.2.2.2))] H := hP
  replace hD : va_D (fun q : Nat => s.heap.size ≤ q) [(x, .inr (1, [.ref r, .ref k, .long f.1, .int f.2])), (r, .inr (0, [.ref a1, .ref a2, .ref a3, .ref a4, .int (nI v.1)])), (a1, .inl (cL, 150, .inr (.inl v.2.1))), (a2, .inl (cI, 150, .inl v.2.2.1)), (a3, .inl (cL, 150, .inr (.inl v.2.2.2.1))), (a4, .inl (cI, 150, .inl v.2.2.2.2)), (k, .inr (0, [.ref b1, .ref b2, .ref b3, .ref b4, .int (nI vk.1)])), (b1, .inl (cL, 150, .inr (.inl vk.2.1))), (b2, .inl (cI, 150, .inl vk.2.2.1)), (b3, .inl (cL, 150, .inr (.inl vk.2.2.2.1))), (b4, .inl (cI, 150, .inl vk.2.2.2.2)), (y, .inr (2, [.int (nI mv.1), .int (nI mk.1), .ref p1, .ref p2, .ref p3, .ref p4, .ref p5, .ref p6, .ref p7, .ref p8, .long f.1, .int f.2])), (p1, .inl (cL, 151, .inr (.inl mv.2.1))), (p2, .inl (cL, 151, .inr (.inl mv.2.2.2.1))), (p3, .inl (cL, 150, .inr (.inl mk.2.1))), (p4, .inl (cL, 150, .inr (.inl mk.2.2.2.1))), (p5, .inl (cI, 151, .inl mv.2.2.1)), (p6, .inl (cI, 151, .inl mv.2.2.2.2)), (p7, .inl (cI, 150, .inl mk.2.2.1)), (p8, .inl (cI, 150, .inl mk.2.2.2.2))] := hD
  have hi31 : i + 7 < 2 ^ 31 := by omega
  refine lv_aload_n hx hb dL_law_92 rfl (lv_at hl 1 rfl) ?_
  refine lv_aload_n hx hb dL_law_93 rfl (lv_at hl 0 rfl) ?_
  refine lv_iload_n hx hb dL_law_94 rfl (lv_at hl 3 rfl) ?_
  refine lv_iconst (v := 1) hx hb dL_law_95 (by decide) ?_
  refine lv_iadd hx hb dL_law_96 ?_
  refine lv_topi (fun z_1 ez_1 => ?_)
  obtain rfl : z_1 = nI (i + 1) := ez_1.trans (nI_add i 1)
  refine va_sld hx hb hX hbl hbA hS (vp_in_nI (show i + 1 < L by omega) (by omega)) dL_law_97 ?_
  refine lv_topi (fun z_2 ez_2 => ?_)
  obtain rfl : z_2 = xs (i + 1) := ez_2.trans (by rw [nI_clamp (by omega)])
  refine lv_i2l hx hb dL_law_98 rfl ?_
  refine lv_bipush (v := 32) hx hb dL_law_99 (by decide) ?_
  refine lv_lshl hx hb dL_law_101 rfl ?_
  refine lv_aload_n hx hb dL_law_102 rfl (lv_at hl 0 rfl) ?_
  refine lv_iload_n hx hb dL_law_103 rfl (lv_at hl 3 rfl) ?_
  refine lv_iconst (v := 2) hx hb dL_law_104 (by decide) ?_
  refine lv_iadd hx hb dL_law_105 ?_
  refine lv_topi (fun z_3 ez_3 => ?_)
  obtain rfl : z_3 = nI (i + 2) := ez_3.trans (nI_add i 2)
  refine va_sld hx hb hX hbl hbA hS (vp_in_nI (show i + 2 < L by omega) (by omega)) dL_law_106 ?_
  refine lv_topi (fun z_4 ez_4 => ?_)
  obtain rfl : z_4 = xs (i + 2) := ez_4.trans (by rw [nI_clamp (by omega)])
  refine lv_i2l hx hb dL_law_107 rfl ?_
  refine lv_ldc2 (v := 4294967295) hx hb hown (hts (.constantLong RL 13 4294967295) (by decide +kernel)) dL_law_108 ?_
  refine lv_land hx hb dL_law_111 ?_
  refine lv_lor hx hb dL_law_112 ?_
  refine lv_topl (fun ky eky => ?_)
  refine lv_aload_n hx hb dL_law_113 rfl (lv_at hl 0 rfl) ?_
  refine lv_iload_n hx hb dL_law_114 rfl (lv_at hl 3 rfl) ?_
  refine lv_iconst (v := 3) hx hb dL_law_115 (by decide) ?_
  refine lv_iadd hx hb dL_law_116 ?_
  refine lv_topi (fun z_5 ez_5 => ?_)
  obtain rfl : z_5 = nI (i + 3) := ez_5.trans (nI_add i 3)
  refine va_sld hx hb hX hbl hbA hS (vp_in_nI (show i + 3 < L by omega) (by omega)) dL_law_117 ?_
  refine lv_topi (fun z_6 ez_6 => ?_)
  obtain rfl : z_6 = xs (i + 3) := ez_6.trans (by rw [nI_clamp (by omega)])
  refine lv_aload_n hx hb dL_law_118 rfl (lv_at hl 0 rfl) ?_
  refine lv_iload_n hx hb dL_law_119 rfl (lv_at hl 3 rfl) ?_
  refine lv_iconst (v := 4) hx hb dL_law_120 (by decide) ?_
  refine lv_iadd hx hb dL_law_121 ?_
  refine lv_topi (fun z_7 ez_7 => ?_)
  obtain rfl : z_7 = nI (i + 4) := ez_7.trans (nI_add i 4)
  refine va_sld hx hb hX hbl hbA hS (vp_in_nI (show i + 4 < L by omega) (by omega)) dL_law_122 ?_
  refine lv_topi (fun z_8 ez_8 => ?_)
  obtain rfl : z_8 = xs (i + 4) := ez_8.trans (by rw [nI_clamp (by omega)])
  refine lv_i2l hx hb dL_law_123 rfl ?_
  refine lv_bipush (v := 32) hx hb dL_law_124 (by decide) ?_
  refine lv_lshl hx hb dL_law_126 rfl ?_
  refine lv_aload_n hx hb dL_law_127 rfl (lv_at hl 0 rfl) ?_
  refine lv_iload_n hx hb dL_law_128 rfl (lv_at hl 3 rfl) ?_
  refine lv_iconst (v := 5) hx hb dL_law_129 (by decide) ?_
  refine lv_iadd hx hb dL_law_130 ?_
  refine lv_topi (fun z_9 ez_9 => ?_)
  obtain rfl : z_9 = nI (i + 5) := ez_9.trans (nI_add i 5)
  refine va_sld hx hb hX hbl hbA hS (vp_in_nI (show i + 5 < L by omega) (by omega)) dL_law_131 ?_
  refine lv_topi (fun z_10 ez_10 => ?_)
  obtain rfl : z_10 = xs (i + 5) := ez_10.trans (by rw [nI_clamp (by omega)])
  refine lv_i2l hx hb dL_law_132 rfl ?_
  refine lv_ldc2 (v := 4294967295) hx hb hown (hts (.constantLong RL 13 4294967295) (by decide +kernel)) dL_law_133 ?_
  refine lv_land hx hb dL_law_136 ?_
  refine lv_lor hx hb dL_law_137 ?_
  refine lv_topl (fun tv etv => ?_)
  refine lv_aload_n hx hb dL_law_138 rfl (lv_at hl 0 rfl) ?_
  refine lv_iload_n hx hb dL_law_139 rfl (lv_at hl 3 rfl) ?_
  refine lv_bipush (v := 6) hx hb dL_law_140 (by decide) ?_
  refine lv_iadd hx hb dL_law_142 ?_
  refine lv_topi (fun z_11 ez_11 => ?_)
  obtain rfl : z_11 = nI (i + 6) := ez_11.trans (nI_add i 6)
  refine va_sld hx hb hX hbl hbA hS (vp_in_nI (show i + 6 < L by omega) (by omega)) dL_law_143 ?_
  refine lv_topi (fun z_12 ez_12 => ?_)
  obtain rfl : z_12 = xs (i + 6) := ez_12.trans (by rw [nI_clamp (by omega)])
  obtain ⟨j, hj⟩ := ex_j hI.1 ky (xs (i + 3))
  refine wr_calli (wr := [(k, .inr (0, [.ref b1, .ref b2, .ref b3, .ref b4, .int (nI vk.1)])), (b1, .inl (cL, 150, .inr (.inl vk.2.1))), (b2, .inl (cI, 150, .inl vk.2.2.1)), (b3, .inl (cL, 150, .inr (.inl vk.2.2.2.1))), (b4, .inl (cI, 150, .inl vk.2.2.2.2)), (y, .inr (2, [.int (nI mv.1), .int (nI mk.1), .ref p1, .ref p2, .ref p3, .ref p4, .ref p5, .ref p6, .ref p7, .ref p8, .long f.1, .int f.2])), (p1, .inl (cL, 151, .inr (.inl mv.2.1))), (p2, .inl (cL, 151, .inr (.inl mv.2.2.2.1))), (p3, .inl (cL, 150, .inr (.inl mk.2.1))), (p4, .inl (cL, 150, .inr (.inl mk.2.2.2.1))), (p5, .inl (cI, 151, .inl mv.2.2.1)), (p6, .inl (cI, 151, .inl mv.2.2.2.2)), (p7, .inl (cI, 150, .inl mk.2.2.1)), (p8, .inl (cI, 150, .inl mk.2.2.2.2))]) (va_runV (As := [.long ky, .int (xs (i + 3)), .long tv, .int (xs (i + 6))]) (rest := []) ⟨hx, hb, hml, hown, hts⟩ (c_put l dC dI _ cL cI x r k a1 a2 a3 a4 f.1 f.2 v.1 v.2.1 v.2.2.1 v.2.2.2.1 v.2.2.2.2 hI.1.1 ky (xs (i + 3)) tv (xs (i + 6)) j (fun o => (hj o).1)) (cwV 4 htl gL_law_X1_put rfl rfl rfl (by decide +kernel) ⟨Nat.le_of_ble_eq_true rfl, Nat.le_of_ble_eq_true rfl⟩) (wr_preV hK (hP.sub (ws' := [(x, .inr (1, [.ref r, .ref k, .long f.1, .int f.2])), (r, .inr (0, [.ref a1, .ref a2, .ref a3, .ref a4, .int (nI v.1)])), (a1, .inl (cL, 150, .inr (.inl v.2.1))), (a2, .inl (cI, 150, .inl v.2.2.1)), (a3, .inl (cL, 150, .inr (.inl v.2.2.2.1))), (a4, .inl (cI, 150, .inl v.2.2.2.2))]) [0, 1, 2, 3, 4, 5] rfl) (hD.sub (ws' := [(x, .inr (1, [.ref r, .ref k, .long f.1, .int f.2])), (r, .inr (0, [.ref a1, .ref a2, .ref a3, .ref a4, .int (nI v.1)])), (a1, .inl (cL, 150, .inr (.inl v.2.1))), (a2, .inl (cI, 150, .inl v.2.2.1)), (a3, .inl (cL, 150, .inr (.inl v.2.2.2.1))), (a4, .inl (cI, 150, .inl v.2.2.2.2))]) [0, 1, 2, 3, 4, 5] (by decide) rfl) (ci := 1) (q0 := 0) rfl rfl) rfl rfl hl.1 rfl (lv_room (Nat.le_of_ble_eq_true rfl)) dL_law_144 ⟨Nat.le_of_ble_eq_true rfl, Nat.le_of_ble_eq_true rfl⟩) hP hD hS hA [0, 1, 2, 3, 4, 5] [6, 7, 8, 9, 10, 11, 12, 13, 14, 15, 16, 17, 18, 19] rfl rfl (by decide) (by decide) (fun r1 v1 H locs hr1 hP hD hS => ?_)
  replace hP := hP.sub (ws' := [(x, .inr (1, [.ref r, .ref k, .long f.1, .int f.2])), (r, .inr (0, [.ref a1, .ref a2, .ref a3, .ref a4, .int (nI v1.1)])), (a1, .inl (cL, 150, .inr (.inl v1.2.1))), (a2, .inl (cI, 150, .inl v1.2.2.1)), (a3, .inl (cL, 150, .inr (.inl v1.2.2.2.1))), (a4, .inl (cI, 150, .inl v1.2.2.2.2)), (k, .inr (0, [.ref b1, .ref b2, .ref b3, .ref b4, .int (nI vk.1)])), (b1, .inl (cL, 150, .inr (.inl vk.2.1))), (b2, .inl (cI, 150, .inl vk.2.2.1)), (b3, .inl (cL, 150, .inr (.inl vk.2.2.2.1))), (b4, .inl (cI, 150, .inl vk.2.2.2.2)), (y, .inr (2, [.int (nI mv.1), .int (nI mk.1), .ref p1, .ref p2, .ref p3, .ref p4, .ref p5, .ref p6, .ref p7, .ref p8, .long f.1, .int f.2])), (p1, .inl (cL, 151, .inr (.inl mv.2.1))), (p2, .inl (cL, 151, .inr (.inl mv.2.2.2.1))), (p3, .inl (cL, 150, .inr (.inl mk.2.1))), (p4, .inl (cL, 150, .inr (.inl mk.2.2.2.1))), (p5, .inl (cI, 151, .inl mv.2.2.1)), (p6, .inl (cI, 151, .inl mv.2.2.2.2)), (p7, .inl (cI, 150, .inl mk.2.2.1)), (p8, .inl (cI, 150, .inl mk.2.2.2.2))]) [14, 15, 16, 17, 18, 19, 0, 1, 2, 3, 4, 5, 6, 7, 8, 9, 10, 11, 12, 13] rfl
  replace hD := hD.sub (ws' := [(x, .inr (1, [.ref r, .ref k, .long f.1, .int f.2])), (r, .inr (0, [.ref a1, .ref a2, .ref a3, .ref a4, .int (nI v1.1)])), (a1, .inl (cL, 150, .inr (.inl v1.2.1))), (a2, .inl (cI, 150, .inl v1.2.2.1)), (a3, .inl (cL, 150, .inr (.inl v1.2.2.2.1))), (a4, .inl (cI, 150, .inl v1.2.2.2.2)), (k, .inr (0, [.ref b1, .ref b2, .ref b3, .ref b4, .int (nI vk.1)])), (b1, .inl (cL, 150, .inr (.inl vk.2.1))), (b2, .inl (cI, 150, .inl vk.2.2.1)), (b3, .inl (cL, 150, .inr (.inl vk.2.2.2.1))), (b4, .inl (cI, 150, .inl vk.2.2.2.2)), (y, .inr (2, [.int (nI mv.1), .int (nI mk.1), .ref p1, .ref p2, .ref p3, .ref p4, .ref p5, .ref p6, .ref p7, .ref p8, .long f.1, .int f.2])), (p1, .inl (cL, 151, .inr (.inl mv.2.1))), (p2, .inl (cL, 151, .inr (.inl mv.2.2.2.1))), (p3, .inl (cL, 150, .inr (.inl mk.2.1))), (p4, .inl (cL, 150, .inr (.inl mk.2.2.2.1))), (p5, .inl (cI, 151, .inl mv.2.2.1)), (p6, .inl (cI, 151, .inl mv.2.2.2.2)), (p7, .inl (cI, 150, .inl mk.2.2.1)), (p8, .inl (cI, 150, .inl mk.2.2.2.2))]) [14, 15, 16, 17, 18, 19, 0, 1, 2, 3, 4, 5, 6, 7, 8, 9, 10, 11, 12, 13] (by decide) rfl
  refine lv_aload_n hx hb dL_law_147 rfl (lv_at hl 2 rfl) ?_
  refine lv_aload_n hx hb dL_law_148 rfl (lv_at hl 0 rfl) ?_
  refine lv_iload_n hx hb dL_law_149 rfl (lv_at hl 3 rfl) ?_
  refine lv_iconst (v := 1) hx hb dL_law_150 (by decide) ?_
  refine lv_iadd hx hb dL_law_151 ?_
  refine lv_topi (fun z_13 ez_13 => ?_)
  obtain rfl : z_13 = nI (i + 1) := ez_13.trans (nI_add i 1)
  refine va_sld hx hb hX hbl hbA hS (vp_in_nI (show i + 1 < L by omega) (by omega)) dL_law_152 ?_
  refine lv_topi (fun z_14 ez_14 => ?_)
  obtain rfl : z_14 = xs (i + 1) := ez_14.trans (by rw [nI_clamp (by omega)])
  refine lv_i2l hx hb dL_law_153 rfl ?_
  refine lv_bipush (v := 32) hx hb dL_law_154 (by decide) ?_
  refine lv_lshl hx hb dL_law_156 rfl ?_
  refine lv_aload_n hx hb dL_law_157 rfl (lv_at hl 0 rfl) ?_
  refine lv_iload_n hx hb dL_law_158 rfl (lv_at hl 3 rfl) ?_
  refine lv_iconst (v := 2) hx hb dL_law_159 (by decide) ?_
  refine lv_iadd hx hb dL_law_160 ?_
  refine lv_topi (fun z_15 ez_15 => ?_)
  obtain rfl : z_15 = nI (i + 2) := ez_15.trans (nI_add i 2)
  refine va_sld hx hb hX hbl hbA hS (vp_in_nI (show i + 2 < L by omega) (by omega)) dL_law_161 ?_
  refine lv_topi (fun z_16 ez_16 => ?_)
  obtain rfl : z_16 = xs (i + 2) := ez_16.trans (by rw [nI_clamp (by omega)])
  refine lv_i2l hx hb dL_law_162 rfl ?_
  refine lv_ldc2 (v := 4294967295) hx hb hown (hts (.constantLong RL 13 4294967295) (by decide +kernel)) dL_law_163 ?_
  refine lv_land hx hb dL_law_166 ?_
  refine lv_lor hx hb dL_law_167 ?_
  refine lv_topl (fun ky2 eky2 => ?_)
  obtain rfl : ky = ky2 := eky.trans eky2.symm
  refine lv_aload_n hx hb dL_law_168 rfl (lv_at hl 0 rfl) ?_
  refine lv_iload_n hx hb dL_law_169 rfl (lv_at hl 3 rfl) ?_
  refine lv_iconst (v := 3) hx hb dL_law_170 (by decide) ?_
  refine lv_iadd hx hb dL_law_171 ?_
  refine lv_topi (fun z_17 ez_17 => ?_)
  obtain rfl : z_17 = nI (i + 3) := ez_17.trans (nI_add i 3)
  refine va_sld hx hb hX hbl hbA hS (vp_in_nI (show i + 3 < L by omega) (by omega)) dL_law_172 ?_
  refine lv_topi (fun z_18 ez_18 => ?_)
  obtain rfl : z_18 = xs (i + 3) := ez_18.trans (by rw [nI_clamp (by omega)])
  refine lv_aload_n hx hb dL_law_173 rfl (lv_at hl 0 rfl) ?_
  refine lv_iload_n hx hb dL_law_174 rfl (lv_at hl 3 rfl) ?_
  refine lv_iconst (v := 4) hx hb dL_law_175 (by decide) ?_
  refine lv_iadd hx hb dL_law_176 ?_
  refine lv_topi (fun z_19 ez_19 => ?_)
  obtain rfl : z_19 = nI (i + 4) := ez_19.trans (nI_add i 4)
  refine va_sld hx hb hX hbl hbA hS (vp_in_nI (show i + 4 < L by omega) (by omega)) dL_law_177 ?_
  refine lv_topi (fun z_20 ez_20 => ?_)
  obtain rfl : z_20 = xs (i + 4) := ez_20.trans (by rw [nI_clamp (by omega)])
  refine lv_i2l hx hb dL_law_178 rfl ?_
  refine lv_bipush (v := 32) hx hb dL_law_179 (by decide) ?_
  refine lv_lshl hx hb dL_law_181 rfl ?_
  refine lv_aload_n hx hb dL_law_182 rfl (lv_at hl 0 rfl) ?_
  refine lv_iload_n hx hb dL_law_183 rfl (lv_at hl 3 rfl) ?_
  refine lv_iconst (v := 5) hx hb dL_law_184 (by decide) ?_
  refine lv_iadd hx hb dL_law_185 ?_
  refine lv_topi (fun z_21 ez_21 => ?_)
  obtain rfl : z_21 = nI (i + 5) := ez_21.trans (nI_add i 5)
  refine va_sld hx hb hX hbl hbA hS (vp_in_nI (show i + 5 < L by omega) (by omega)) dL_law_186 ?_
  refine lv_topi (fun z_22 ez_22 => ?_)
  obtain rfl : z_22 = xs (i + 5) := ez_22.trans (by rw [nI_clamp (by omega)])
  refine lv_i2l hx hb dL_law_187 rfl ?_
  refine lv_ldc2 (v := 4294967295) hx hb hown (hts (.constantLong RL 13 4294967295) (by decide +kernel)) dL_law_188 ?_
  refine lv_land hx hb dL_law_191 ?_
  refine lv_lor hx hb dL_law_192 ?_
  refine lv_topl (fun tv2 etv2 => ?_)
  obtain rfl : tv = tv2 := etv.trans etv2.symm
  refine lv_aload_n hx hb dL_law_193 rfl (lv_at hl 0 rfl) ?_
  refine lv_iload_n hx hb dL_law_194 rfl (lv_at hl 3 rfl) ?_
  refine lv_bipush (v := 6) hx hb dL_law_195 (by decide) ?_
  refine lv_iadd hx hb dL_law_197 ?_
  refine lv_topi (fun z_23 ez_23 => ?_)
  obtain rfl : z_23 = nI (i + 6) := ez_23.trans (nI_add i 6)
  refine va_sld hx hb hX hbl hbA hS (vp_in_nI (show i + 6 < L by omega) (by omega)) dL_law_198 ?_
  refine lv_topi (fun z_24 ez_24 => ?_)
  obtain rfl : z_24 = xs (i + 6) := ez_24.trans (by rw [nI_clamp (by omega)])
  refine wr_calli (wr := [(x, .inr (1, [.ref r, .ref k, .long f.1, .int f.2])), (r, .inr (0, [.ref a1, .ref a2, .ref a3, .ref a4, .int (nI v1.1)])), (a1, .inl (cL, 150, .inr (.inl v1.2.1))), (a2, .inl (cI, 150, .inl v1.2.2.1)), (a3, .inl (cL, 150, .inr (.inl v1.2.2.2.1))), (a4, .inl (cI, 150, .inl v1.2.2.2.2)), (k, .inr (0, [.ref b1, .ref b2, .ref b3, .ref b4, .int (nI vk.1)])), (b1, .inl (cL, 150, .inr (.inl vk.2.1))), (b2, .inl (cI, 150, .inl vk.2.2.1)), (b3, .inl (cL, 150, .inr (.inl vk.2.2.2.1))), (b4, .inl (cI, 150, .inl vk.2.2.2.2))]) (va_runV (As := [.long ky, .int (xs (i + 3)), .long tv, .int (xs (i + 6))]) (rest := [.int r1]) ⟨hx, hb, hml, hown, hts⟩ (m_put l dC dI _ cL cI y p1 p2 p3 p4 p5 p6 p7 p8 mv mk f (sim_mok hI.1 hI.2.2.1) ky (xs (i + 3)) tv (xs (i + 6)) j (fun o => sim_mpl hI.2.2.1 (hj o).1)) (cwV 4 htl gL_law_X2_put rfl rfl rfl (by decide +kernel) ⟨Nat.le_of_ble_eq_true rfl, Nat.le_of_ble_eq_true rfl⟩) (wr_preV hK (hP.sub (ws' := [(y, .inr (2, [.int (nI mv.1), .int (nI mk.1), .ref p1, .ref p2, .ref p3, .ref p4, .ref p5, .ref p6, .ref p7, .ref p8, .long f.1, .int f.2])), (p1, .inl (cL, 151, .inr (.inl mv.2.1))), (p2, .inl (cL, 151, .inr (.inl mv.2.2.2.1))), (p3, .inl (cL, 150, .inr (.inl mk.2.1))), (p4, .inl (cL, 150, .inr (.inl mk.2.2.2.1))), (p5, .inl (cI, 151, .inl mv.2.2.1)), (p6, .inl (cI, 151, .inl mv.2.2.2.2)), (p7, .inl (cI, 150, .inl mk.2.2.1)), (p8, .inl (cI, 150, .inl mk.2.2.2.2))]) [11, 12, 13, 14, 15, 16, 17, 18, 19] rfl) (hD.sub (ws' := [(y, .inr (2, [.int (nI mv.1), .int (nI mk.1), .ref p1, .ref p2, .ref p3, .ref p4, .ref p5, .ref p6, .ref p7, .ref p8, .long f.1, .int f.2])), (p1, .inl (cL, 151, .inr (.inl mv.2.1))), (p2, .inl (cL, 151, .inr (.inl mv.2.2.2.1))), (p3, .inl (cL, 150, .inr (.inl mk.2.1))), (p4, .inl (cL, 150, .inr (.inl mk.2.2.2.1))), (p5, .inl (cI, 151, .inl mv.2.2.1)), (p6, .inl (cI, 151, .inl mv.2.2.2.2)), (p7, .inl (cI, 150, .inl mk.2.2.1)), (p8, .inl (cI, 150, .inl mk.2.2.2.2))]) [11, 12, 13, 14, 15, 16, 17, 18, 19] (by decide) rfl) (ci := 2) (q0 := 0) rfl rfl) rfl rfl hl.1 rfl (lv_room (Nat.le_of_ble_eq_true rfl)) dL_law_199 ⟨Nat.le_of_ble_eq_true rfl, Nat.le_of_ble_eq_true rfl⟩) hP hD hS hA [11, 12, 13, 14, 15, 16, 17, 18, 19] [0, 1, 2, 3, 4, 5, 6, 7, 8, 9, 10] rfl rfl (by decide) (by decide) (fun r2 w1 H locs hr2 hP hD hS => ?_)
  replace hP := hP.sub (ws' := [(x, .inr (1, [.ref r, .ref k, .long f.1, .int f.2])), (r, .inr (0, [.ref a1, .ref a2, .ref a3, .ref a4, .int (nI v1.1)])), (a1, .inl (cL, 150, .inr (.inl v1.2.1))), (a2, .inl (cI, 150, .inl v1.2.2.1)), (a3, .inl (cL, 150, .inr (.inl v1.2.2.2.1))), (a4, .inl (cI, 150, .inl v1.2.2.2.2)), (k, .inr (0, [.ref b1, .ref b2, .ref b3, .ref b4, .int (nI vk.1)])), (b1, .inl (cL, 150, .inr (.inl vk.2.1))), (b2, .inl (cI, 150, .inl vk.2.2.1)), (b3, .inl (cL, 150, .inr (.inl vk.2.2.2.1))), (b4, .inl (cI, 150, .inl vk.2.2.2.2)), (y, .inr (2, [.int (nI w1.1), .int (nI mk.1), .ref p1, .ref p2, .ref p3, .ref p4, .ref p5, .ref p6, .ref p7, .ref p8, .long f.1, .int f.2])), (p1, .inl (cL, 151, .inr (.inl w1.2.1))), (p2, .inl (cL, 151, .inr (.inl w1.2.2.2.1))), (p3, .inl (cL, 150, .inr (.inl mk.2.1))), (p4, .inl (cL, 150, .inr (.inl mk.2.2.2.1))), (p5, .inl (cI, 151, .inl w1.2.2.1)), (p6, .inl (cI, 151, .inl w1.2.2.2.2)), (p7, .inl (cI, 150, .inl mk.2.2.1)), (p8, .inl (cI, 150, .inl mk.2.2.2.2))]) [0, 1, 2, 3, 4, 5, 6, 7, 8, 9, 10, 11, 12, 13, 14, 15, 16, 17, 18, 19] rfl
  replace hD := hD.sub (ws' := [(x, .inr (1, [.ref r, .ref k, .long f.1, .int f.2])), (r, .inr (0, [.ref a1, .ref a2, .ref a3, .ref a4, .int (nI v1.1)])), (a1, .inl (cL, 150, .inr (.inl v1.2.1))), (a2, .inl (cI, 150, .inl v1.2.2.1)), (a3, .inl (cL, 150, .inr (.inl v1.2.2.2.1))), (a4, .inl (cI, 150, .inl v1.2.2.2.2)), (k, .inr (0, [.ref b1, .ref b2, .ref b3, .ref b4, .int (nI vk.1)])), (b1, .inl (cL, 150, .inr (.inl vk.2.1))), (b2, .inl (cI, 150, .inl vk.2.2.1)), (b3, .inl (cL, 150, .inr (.inl vk.2.2.2.1))), (b4, .inl (cI, 150, .inl vk.2.2.2.2)), (y, .inr (2, [.int (nI w1.1), .int (nI mk.1), .ref p1, .ref p2, .ref p3, .ref p4, .ref p5, .ref p6, .ref p7, .ref p8, .long f.1, .int f.2])), (p1, .inl (cL, 151, .inr (.inl w1.2.1))), (p2, .inl (cL, 151, .inr (.inl w1.2.2.2.1))), (p3, .inl (cL, 150, .inr (.inl mk.2.1))), (p4, .inl (cL, 150, .inr (.inl mk.2.2.2.1))), (p5, .inl (cI, 151, .inl w1.2.2.1)), (p6, .inl (cI, 151, .inl w1.2.2.2.2)), (p7, .inl (cI, 150, .inl mk.2.2.1)), (p8, .inl (cI, 150, .inl mk.2.2.2.2))]) [0, 1, 2, 3, 4, 5, 6, 7, 8, 9, 10, 11, 12, 13, 14, 15, 16, 17, 18, 19] (by decide) rfl
  have hE := eq_put hI.1 hI.2.2.1 hj hr1 hr2
  refine lv_icmp_eq (tgt := 585) hx hb dL_law_202 (by decide) (fun c_202 => ?_) (fun c_202 => absurd hE.1 c_202)
  exact K v1 vk w1 mk f H locs ls ⟨hE.2.1, hI.2.1, hE.2.2, hI.2.2.2⟩ hP hD hS (lv_sub hl [0, 1, 2, 3] rfl)
end
section
set_option maxHeartbeats 4000000 in
set_option maxRecDepth 100000 in
/-- remove -/
theorem lw_c1 {p : Program} {l : Launch} {e : Env} {s : State} {m : MethodId} {below : List Frame} {meth : Method} {c : Code} {b L : Nat} {xs : Nat → Int32} (hL : L ≤ 3584) (C0 : lw_At p s m meth c b L xs) {dC : Nat → ClassId} {dI : Nat → Nat → Nat} {cL cI : ClassId} (hK : va_K (dC, dI) vwCl (kS cL cI) s) {x r k a1 a2 a3 a4 b1 b2 b3 b4 y p1 p2 p3 p4 p5 p6 p7 p8 : Nat} {i : Nat} (hi : i + 7 ≤ L) (K : LK p l e s m below meth c b dC dI cL cI x r k a1 a2 a3 a4 b1 b2 b3 b4 y p1 p2 p3 p4 p5 p6 p7 p8 i 585) : LK p l e s m below meth c b dC dI cL cI x r k a1 a2 a3 a4 b1 b2 b3 b4 y p1 p2 p3 p4 p5 p6 p7 p8 i 207 := by
  intro v vk mv mk f H locs ls hI hP hD hS hl
  obtain ⟨hx, hb, hr, hml, hown, hts, hX, hbl, hlocks, hgv⟩ := C0
  have hA : ∀ q : Nat, s.heap.size ≤ q → (fun q : Nat => s.heap.size ≤ q) q := fun _ h => h
  have hbA : ¬ (fun q : Nat => s.heap.size ≤ q) b := Nat.not_le.mpr hbl
  have htl : ∀ w ∈ wsL_law, w.before #[Value.ref b] s = true := fun w h => hts w (wsL_law_in w h)
  replace hown : s.vm.findClass RL = some m.cls := hown
  replace hP : va_P (dC, dI) vwCl [(x, .inr (1, [.ref r, .ref k, .long f.1, .int f.2])), (r, .inr (0, [.ref a1, .ref a2, .ref a3, .ref a4, .int (nI v.1)])), (a1, .inl (cL, 150, .inr (.inl v.2.1))), (a2, .inl (cI, 150, .inl v.2.2.1)), (a3, .inl (cL, 150, .inr (.inl v.2.2.2.1))), (a4, .inl (cI, 150, .inl v.2.2.2.2)), (k, .inr (0, [.ref b1, .ref b2, .ref b3, .ref b4, .int (nI vk.1)])), (b1, .inl (cL, 150, .inr (.inl vk.2.1))), (b2, .inl (cI, 150, .inl vk.2.2.1)), (b3, .inl (cL, 150, .inr (.inl vk.2.2.2.1))), (b4, .inl (cI, 150, .inl vk.2.2.2.2)), (y, .inr (2, [.int (nI mv.1), .int (nI mk.1), .ref p1, .ref p2, .ref p3, .ref p4, .ref p5, .ref p6, .ref p7, .ref p8, .long f.1, .int f.2])), (p1, .inl (cL, 151, .inr (.inl mv.2.1))), (p2, .inl (cL, 151, .inr (.inl mv.2.2.2.1))), (p3, .inl (cL, 150, .inr (.inl mk.2.1))), (p4, .inl (cL, 150, .inr (.inl mk.2.2.2.1))), (p5, .inl (cI, 151, .inl mv.2.2.1)), (p6, .inl (cI, 151, .inl mv.2.2.2.2)), (p7, .inl (cI, 150, .inl mk.2.2.1)), (p8, .inl (cI, 150, .inl mk.2.2.2.2))] H := hP
  replace hD : va_D (fun q : Nat => s.heap.size ≤ q) [(x, .inr (1, [.ref r, .ref k, .long f.1, .int f.2])), (r, .inr (0, [.ref a1, .ref a2, .ref a3, .ref a4, .int (nI v.1)])), (a1, .inl (cL, 150, .inr (.inl v.2.1))), (a2, .inl (cI, 150, .inl v.2.2.1)), (a3, .inl (cL, 150, .inr (.inl v.2.2.2.1))), (a4, .inl (cI, 150, .inl v.2.2.2.2)), (k, .inr (0, [.ref b1, .ref b2, .ref b3, .ref b4, .int (nI vk.1)])), (b1, .inl (cL, 150, .inr (.inl vk.2.1))), (b2, .inl (cI, 150, .inl vk.2.2.1)), (b3, .inl (cL, 150, .inr (.inl vk.2.2.2.1))), (b4, .inl (cI, 150, .inl vk.2.2.2.2)), (y, .inr (2, [.int (nI mv.1), .int (nI mk.1), .ref p1, .ref p2, .ref p3, .ref p4, .ref p5, .ref p6, .ref p7, .ref p8, .long f.1, .int f.2])), (p1, .inl (cL, 151, .inr (.inl mv.2.1))), (p2, .inl (cL, 151, .inr (.inl mv.2.2.2.1))), (p3, .inl (cL, 150, .inr (.inl mk.2.1))), (p4, .inl (cL, 150, .inr (.inl mk.2.2.2.1))), (p5, .inl (cI, 151, .inl mv.2.2.1)), (p6, .inl (cI, 151, .inl mv.2.2.2.2)), (p7, .inl (cI, 150, .inl mk.2.2.1)), (p8, .inl (cI, 150, .inl mk.2.2.2.2))] := hD
  have hi31 : i + 7 < 2 ^ 31 := by omega
  refine lv_aload_n hx hb dL_law_207 rfl (lv_at hl 1 rfl) ?_
  refine lv_aload_n hx hb dL_law_208 rfl (lv_at hl 0 rfl) ?_
  refine lv_iload_n hx hb dL_law_209 rfl (lv_at hl 3 rfl) ?_
  refine lv_iconst (v := 1) hx hb dL_law_210 (by decide) ?_
  refine lv_iadd hx hb dL_law_211 ?_
  refine lv_topi (fun z_1 ez_1 => ?_)
  obtain rfl : z_1 = nI (i + 1) := ez_1.trans (nI_add i 1)
  refine va_sld hx hb hX hbl hbA hS (vp_in_nI (show i + 1 < L by omega) (by omega)) dL_law_212 ?_
  refine lv_topi (fun z_2 ez_2 => ?_)
  obtain rfl : z_2 = xs (i + 1) := ez_2.trans (by rw [nI_clamp (by omega)])
  refine lv_i2l hx hb dL_law_213 rfl ?_
  refine lv_bipush (v := 32) hx hb dL_law_214 (by decide) ?_
  refine lv_lshl hx hb dL_law_216 rfl ?_
  refine lv_aload_n hx hb dL_law_217 rfl (lv_at hl 0 rfl) ?_
  refine lv_iload_n hx hb dL_law_218 rfl (lv_at hl 3 rfl) ?_
  refine lv_iconst (v := 2) hx hb dL_law_219 (by decide) ?_
  refine lv_iadd hx hb dL_law_220 ?_
  refine lv_topi (fun z_3 ez_3 => ?_)
  obtain rfl : z_3 = nI (i + 2) := ez_3.trans (nI_add i 2)
  refine va_sld hx hb hX hbl hbA hS (vp_in_nI (show i + 2 < L by omega) (by omega)) dL_law_221 ?_
  refine lv_topi (fun z_4 ez_4 => ?_)
  obtain rfl : z_4 = xs (i + 2) := ez_4.trans (by rw [nI_clamp (by omega)])
  refine lv_i2l hx hb dL_law_222 rfl ?_
  refine lv_ldc2 (v := 4294967295) hx hb hown (hts (.constantLong RL 13 4294967295) (by decide +kernel)) dL_law_223 ?_
  refine lv_land hx hb dL_law_226 ?_
  refine lv_lor hx hb dL_law_227 ?_
  refine lv_topl (fun ky eky => ?_)
  refine lv_aload_n hx hb dL_law_228 rfl (lv_at hl 0 rfl) ?_
  refine lv_iload_n hx hb dL_law_229 rfl (lv_at hl 3 rfl) ?_
  refine lv_iconst (v := 3) hx hb dL_law_230 (by decide) ?_
  refine lv_iadd hx hb dL_law_231 ?_
  refine lv_topi (fun z_5 ez_5 => ?_)
  obtain rfl : z_5 = nI (i + 3) := ez_5.trans (nI_add i 3)
  refine va_sld hx hb hX hbl hbA hS (vp_in_nI (show i + 3 < L by omega) (by omega)) dL_law_232 ?_
  refine lv_topi (fun z_6 ez_6 => ?_)
  obtain rfl : z_6 = xs (i + 3) := ez_6.trans (by rw [nI_clamp (by omega)])
  obtain ⟨j, hj⟩ := ex_j hI.1 ky (xs (i + 3))
  refine wr_calli (wr := [(k, .inr (0, [.ref b1, .ref b2, .ref b3, .ref b4, .int (nI vk.1)])), (b1, .inl (cL, 150, .inr (.inl vk.2.1))), (b2, .inl (cI, 150, .inl vk.2.2.1)), (b3, .inl (cL, 150, .inr (.inl vk.2.2.2.1))), (b4, .inl (cI, 150, .inl vk.2.2.2.2)), (y, .inr (2, [.int (nI mv.1), .int (nI mk.1), .ref p1, .ref p2, .ref p3, .ref p4, .ref p5, .ref p6, .ref p7, .ref p8, .long f.1, .int f.2])), (p1, .inl (cL, 151, .inr (.inl mv.2.1))), (p2, .inl (cL, 151, .inr (.inl mv.2.2.2.1))), (p3, .inl (cL, 150, .inr (.inl mk.2.1))), (p4, .inl (cL, 150, .inr (.inl mk.2.2.2.1))), (p5, .inl (cI, 151, .inl mv.2.2.1)), (p6, .inl (cI, 151, .inl mv.2.2.2.2)), (p7, .inl (cI, 150, .inl mk.2.2.1)), (p8, .inl (cI, 150, .inl mk.2.2.2.2))]) (va_runV (As := [.long ky, .int (xs (i + 3))]) (rest := []) ⟨hx, hb, hml, hown, hts⟩ (c_remove l dC dI _ cL cI x r k a1 a2 a3 a4 f.1 f.2 v.1 v.2.1 v.2.2.1 v.2.2.2.1 v.2.2.2.2 hI.1.1 ky (xs (i + 3)) j (fun o => (hj o).1)) (cwV 2 htl gL_law_X1_remove rfl rfl rfl (by decide +kernel) ⟨Nat.le_of_ble_eq_true rfl, Nat.le_of_ble_eq_true rfl⟩) (wr_preV hK (hP.sub (ws' := [(x, .inr (1, [.ref r, .ref k, .long f.1, .int f.2])), (r, .inr (0, [.ref a1, .ref a2, .ref a3, .ref a4, .int (nI v.1)])), (a1, .inl (cL, 150, .inr (.inl v.2.1))), (a2, .inl (cI, 150, .inl v.2.2.1)), (a3, .inl (cL, 150, .inr (.inl v.2.2.2.1))), (a4, .inl (cI, 150, .inl v.2.2.2.2))]) [0, 1, 2, 3, 4, 5] rfl) (hD.sub (ws' := [(x, .inr (1, [.ref r, .ref k, .long f.1, .int f.2])), (r, .inr (0, [.ref a1, .ref a2, .ref a3, .ref a4, .int (nI v.1)])), (a1, .inl (cL, 150, .inr (.inl v.2.1))), (a2, .inl (cI, 150, .inl v.2.2.1)), (a3, .inl (cL, 150, .inr (.inl v.2.2.2.1))), (a4, .inl (cI, 150, .inl v.2.2.2.2))]) [0, 1, 2, 3, 4, 5] (by decide) rfl) (ci := 1) (q0 := 0) rfl rfl) rfl rfl hl.1 rfl (lv_room (Nat.le_of_ble_eq_true rfl)) dL_law_233 ⟨Nat.le_of_ble_eq_true rfl, Nat.le_of_ble_eq_true rfl⟩) hP hD hS hA [0, 1, 2, 3, 4, 5] [6, 7, 8, 9, 10, 11, 12, 13, 14, 15, 16, 17, 18, 19] rfl rfl (by decide) (by decide) (fun r1 v1 H locs hr1 hP hD hS => ?_)
  replace hP := hP.sub (ws' := [(x, .inr (1, [.ref r, .ref k, .long f.1, .int f.2])), (r, .inr (0, [.ref a1, .ref a2, .ref a3, .ref a4, .int (nI v1.1)])), (a1, .inl (cL, 150, .inr (.inl v1.2.1))), (a2, .inl (cI, 150, .inl v1.2.2.1)), (a3, .inl (cL, 150, .inr (.inl v1.2.2.2.1))), (a4, .inl (cI, 150, .inl v1.2.2.2.2)), (k, .inr (0, [.ref b1, .ref b2, .ref b3, .ref b4, .int (nI vk.1)])), (b1, .inl (cL, 150, .inr (.inl vk.2.1))), (b2, .inl (cI, 150, .inl vk.2.2.1)), (b3, .inl (cL, 150, .inr (.inl vk.2.2.2.1))), (b4, .inl (cI, 150, .inl vk.2.2.2.2)), (y, .inr (2, [.int (nI mv.1), .int (nI mk.1), .ref p1, .ref p2, .ref p3, .ref p4, .ref p5, .ref p6, .ref p7, .ref p8, .long f.1, .int f.2])), (p1, .inl (cL, 151, .inr (.inl mv.2.1))), (p2, .inl (cL, 151, .inr (.inl mv.2.2.2.1))), (p3, .inl (cL, 150, .inr (.inl mk.2.1))), (p4, .inl (cL, 150, .inr (.inl mk.2.2.2.1))), (p5, .inl (cI, 151, .inl mv.2.2.1)), (p6, .inl (cI, 151, .inl mv.2.2.2.2)), (p7, .inl (cI, 150, .inl mk.2.2.1)), (p8, .inl (cI, 150, .inl mk.2.2.2.2))]) [14, 15, 16, 17, 18, 19, 0, 1, 2, 3, 4, 5, 6, 7, 8, 9, 10, 11, 12, 13] rfl
  replace hD := hD.sub (ws' := [(x, .inr (1, [.ref r, .ref k, .long f.1, .int f.2])), (r, .inr (0, [.ref a1, .ref a2, .ref a3, .ref a4, .int (nI v1.1)])), (a1, .inl (cL, 150, .inr (.inl v1.2.1))), (a2, .inl (cI, 150, .inl v1.2.2.1)), (a3, .inl (cL, 150, .inr (.inl v1.2.2.2.1))), (a4, .inl (cI, 150, .inl v1.2.2.2.2)), (k, .inr (0, [.ref b1, .ref b2, .ref b3, .ref b4, .int (nI vk.1)])), (b1, .inl (cL, 150, .inr (.inl vk.2.1))), (b2, .inl (cI, 150, .inl vk.2.2.1)), (b3, .inl (cL, 150, .inr (.inl vk.2.2.2.1))), (b4, .inl (cI, 150, .inl vk.2.2.2.2)), (y, .inr (2, [.int (nI mv.1), .int (nI mk.1), .ref p1, .ref p2, .ref p3, .ref p4, .ref p5, .ref p6, .ref p7, .ref p8, .long f.1, .int f.2])), (p1, .inl (cL, 151, .inr (.inl mv.2.1))), (p2, .inl (cL, 151, .inr (.inl mv.2.2.2.1))), (p3, .inl (cL, 150, .inr (.inl mk.2.1))), (p4, .inl (cL, 150, .inr (.inl mk.2.2.2.1))), (p5, .inl (cI, 151, .inl mv.2.2.1)), (p6, .inl (cI, 151, .inl mv.2.2.2.2)), (p7, .inl (cI, 150, .inl mk.2.2.1)), (p8, .inl (cI, 150, .inl mk.2.2.2.2))]) [14, 15, 16, 17, 18, 19, 0, 1, 2, 3, 4, 5, 6, 7, 8, 9, 10, 11, 12, 13] (by decide) rfl
  refine lv_aload_n hx hb dL_law_236 rfl (lv_at hl 2 rfl) ?_
  refine lv_aload_n hx hb dL_law_237 rfl (lv_at hl 0 rfl) ?_
  refine lv_iload_n hx hb dL_law_238 rfl (lv_at hl 3 rfl) ?_
  refine lv_iconst (v := 1) hx hb dL_law_239 (by decide) ?_
  refine lv_iadd hx hb dL_law_240 ?_
  refine lv_topi (fun z_7 ez_7 => ?_)
  obtain rfl : z_7 = nI (i + 1) := ez_7.trans (nI_add i 1)
  refine va_sld hx hb hX hbl hbA hS (vp_in_nI (show i + 1 < L by omega) (by omega)) dL_law_241 ?_
  refine lv_topi (fun z_8 ez_8 => ?_)
  obtain rfl : z_8 = xs (i + 1) := ez_8.trans (by rw [nI_clamp (by omega)])
  refine lv_i2l hx hb dL_law_242 rfl ?_
  refine lv_bipush (v := 32) hx hb dL_law_243 (by decide) ?_
  refine lv_lshl hx hb dL_law_245 rfl ?_
  refine lv_aload_n hx hb dL_law_246 rfl (lv_at hl 0 rfl) ?_
  refine lv_iload_n hx hb dL_law_247 rfl (lv_at hl 3 rfl) ?_
  refine lv_iconst (v := 2) hx hb dL_law_248 (by decide) ?_
  refine lv_iadd hx hb dL_law_249 ?_
  refine lv_topi (fun z_9 ez_9 => ?_)
  obtain rfl : z_9 = nI (i + 2) := ez_9.trans (nI_add i 2)
  refine va_sld hx hb hX hbl hbA hS (vp_in_nI (show i + 2 < L by omega) (by omega)) dL_law_250 ?_
  refine lv_topi (fun z_10 ez_10 => ?_)
  obtain rfl : z_10 = xs (i + 2) := ez_10.trans (by rw [nI_clamp (by omega)])
  refine lv_i2l hx hb dL_law_251 rfl ?_
  refine lv_ldc2 (v := 4294967295) hx hb hown (hts (.constantLong RL 13 4294967295) (by decide +kernel)) dL_law_252 ?_
  refine lv_land hx hb dL_law_255 ?_
  refine lv_lor hx hb dL_law_256 ?_
  refine lv_topl (fun ky2 eky2 => ?_)
  obtain rfl : ky = ky2 := eky.trans eky2.symm
  refine lv_aload_n hx hb dL_law_257 rfl (lv_at hl 0 rfl) ?_
  refine lv_iload_n hx hb dL_law_258 rfl (lv_at hl 3 rfl) ?_
  refine lv_iconst (v := 3) hx hb dL_law_259 (by decide) ?_
  refine lv_iadd hx hb dL_law_260 ?_
  refine lv_topi (fun z_11 ez_11 => ?_)
  obtain rfl : z_11 = nI (i + 3) := ez_11.trans (nI_add i 3)
  refine va_sld hx hb hX hbl hbA hS (vp_in_nI (show i + 3 < L by omega) (by omega)) dL_law_261 ?_
  refine lv_topi (fun z_12 ez_12 => ?_)
  obtain rfl : z_12 = xs (i + 3) := ez_12.trans (by rw [nI_clamp (by omega)])
  refine wr_calli (wr := [(x, .inr (1, [.ref r, .ref k, .long f.1, .int f.2])), (r, .inr (0, [.ref a1, .ref a2, .ref a3, .ref a4, .int (nI v1.1)])), (a1, .inl (cL, 150, .inr (.inl v1.2.1))), (a2, .inl (cI, 150, .inl v1.2.2.1)), (a3, .inl (cL, 150, .inr (.inl v1.2.2.2.1))), (a4, .inl (cI, 150, .inl v1.2.2.2.2)), (k, .inr (0, [.ref b1, .ref b2, .ref b3, .ref b4, .int (nI vk.1)])), (b1, .inl (cL, 150, .inr (.inl vk.2.1))), (b2, .inl (cI, 150, .inl vk.2.2.1)), (b3, .inl (cL, 150, .inr (.inl vk.2.2.2.1))), (b4, .inl (cI, 150, .inl vk.2.2.2.2))]) (va_runV (As := [.long ky, .int (xs (i + 3))]) (rest := [.int r1]) ⟨hx, hb, hml, hown, hts⟩ (m_remove l dC dI _ cL cI y p1 p2 p3 p4 p5 p6 p7 p8 mv mk f (sim_mok hI.1 hI.2.2.1) ky (xs (i + 3)) j (fun o => sim_mpl hI.2.2.1 (hj o).1)) (cwV 2 htl gL_law_X2_remove rfl rfl rfl (by decide +kernel) ⟨Nat.le_of_ble_eq_true rfl, Nat.le_of_ble_eq_true rfl⟩) (wr_preV hK (hP.sub (ws' := [(y, .inr (2, [.int (nI mv.1), .int (nI mk.1), .ref p1, .ref p2, .ref p3, .ref p4, .ref p5, .ref p6, .ref p7, .ref p8, .long f.1, .int f.2])), (p1, .inl (cL, 151, .inr (.inl mv.2.1))), (p2, .inl (cL, 151, .inr (.inl mv.2.2.2.1))), (p3, .inl (cL, 150, .inr (.inl mk.2.1))), (p4, .inl (cL, 150, .inr (.inl mk.2.2.2.1))), (p5, .inl (cI, 151, .inl mv.2.2.1)), (p6, .inl (cI, 151, .inl mv.2.2.2.2)), (p7, .inl (cI, 150, .inl mk.2.2.1)), (p8, .inl (cI, 150, .inl mk.2.2.2.2))]) [11, 12, 13, 14, 15, 16, 17, 18, 19] rfl) (hD.sub (ws' := [(y, .inr (2, [.int (nI mv.1), .int (nI mk.1), .ref p1, .ref p2, .ref p3, .ref p4, .ref p5, .ref p6, .ref p7, .ref p8, .long f.1, .int f.2])), (p1, .inl (cL, 151, .inr (.inl mv.2.1))), (p2, .inl (cL, 151, .inr (.inl mv.2.2.2.1))), (p3, .inl (cL, 150, .inr (.inl mk.2.1))), (p4, .inl (cL, 150, .inr (.inl mk.2.2.2.1))), (p5, .inl (cI, 151, .inl mv.2.2.1)), (p6, .inl (cI, 151, .inl mv.2.2.2.2)), (p7, .inl (cI, 150, .inl mk.2.2.1)), (p8, .inl (cI, 150, .inl mk.2.2.2.2))]) [11, 12, 13, 14, 15, 16, 17, 18, 19] (by decide) rfl) (ci := 2) (q0 := 0) rfl rfl) rfl rfl hl.1 rfl (lv_room (Nat.le_of_ble_eq_true rfl)) dL_law_262 ⟨Nat.le_of_ble_eq_true rfl, Nat.le_of_ble_eq_true rfl⟩) hP hD hS hA [11, 12, 13, 14, 15, 16, 17, 18, 19] [0, 1, 2, 3, 4, 5, 6, 7, 8, 9, 10] rfl rfl (by decide) (by decide) (fun r2 w1 H locs hr2 hP hD hS => ?_)
  replace hP := hP.sub (ws' := [(x, .inr (1, [.ref r, .ref k, .long f.1, .int f.2])), (r, .inr (0, [.ref a1, .ref a2, .ref a3, .ref a4, .int (nI v1.1)])), (a1, .inl (cL, 150, .inr (.inl v1.2.1))), (a2, .inl (cI, 150, .inl v1.2.2.1)), (a3, .inl (cL, 150, .inr (.inl v1.2.2.2.1))), (a4, .inl (cI, 150, .inl v1.2.2.2.2)), (k, .inr (0, [.ref b1, .ref b2, .ref b3, .ref b4, .int (nI vk.1)])), (b1, .inl (cL, 150, .inr (.inl vk.2.1))), (b2, .inl (cI, 150, .inl vk.2.2.1)), (b3, .inl (cL, 150, .inr (.inl vk.2.2.2.1))), (b4, .inl (cI, 150, .inl vk.2.2.2.2)), (y, .inr (2, [.int (nI w1.1), .int (nI mk.1), .ref p1, .ref p2, .ref p3, .ref p4, .ref p5, .ref p6, .ref p7, .ref p8, .long f.1, .int f.2])), (p1, .inl (cL, 151, .inr (.inl w1.2.1))), (p2, .inl (cL, 151, .inr (.inl w1.2.2.2.1))), (p3, .inl (cL, 150, .inr (.inl mk.2.1))), (p4, .inl (cL, 150, .inr (.inl mk.2.2.2.1))), (p5, .inl (cI, 151, .inl w1.2.2.1)), (p6, .inl (cI, 151, .inl w1.2.2.2.2)), (p7, .inl (cI, 150, .inl mk.2.2.1)), (p8, .inl (cI, 150, .inl mk.2.2.2.2))]) [0, 1, 2, 3, 4, 5, 6, 7, 8, 9, 10, 11, 12, 13, 14, 15, 16, 17, 18, 19] rfl
  replace hD := hD.sub (ws' := [(x, .inr (1, [.ref r, .ref k, .long f.1, .int f.2])), (r, .inr (0, [.ref a1, .ref a2, .ref a3, .ref a4, .int (nI v1.1)])), (a1, .inl (cL, 150, .inr (.inl v1.2.1))), (a2, .inl (cI, 150, .inl v1.2.2.1)), (a3, .inl (cL, 150, .inr (.inl v1.2.2.2.1))), (a4, .inl (cI, 150, .inl v1.2.2.2.2)), (k, .inr (0, [.ref b1, .ref b2, .ref b3, .ref b4, .int (nI vk.1)])), (b1, .inl (cL, 150, .inr (.inl vk.2.1))), (b2, .inl (cI, 150, .inl vk.2.2.1)), (b3, .inl (cL, 150, .inr (.inl vk.2.2.2.1))), (b4, .inl (cI, 150, .inl vk.2.2.2.2)), (y, .inr (2, [.int (nI w1.1), .int (nI mk.1), .ref p1, .ref p2, .ref p3, .ref p4, .ref p5, .ref p6, .ref p7, .ref p8, .long f.1, .int f.2])), (p1, .inl (cL, 151, .inr (.inl w1.2.1))), (p2, .inl (cL, 151, .inr (.inl w1.2.2.2.1))), (p3, .inl (cL, 150, .inr (.inl mk.2.1))), (p4, .inl (cL, 150, .inr (.inl mk.2.2.2.1))), (p5, .inl (cI, 151, .inl w1.2.2.1)), (p6, .inl (cI, 151, .inl w1.2.2.2.2)), (p7, .inl (cI, 150, .inl mk.2.2.1)), (p8, .inl (cI, 150, .inl mk.2.2.2.2))]) [0, 1, 2, 3, 4, 5, 6, 7, 8, 9, 10, 11, 12, 13, 14, 15, 16, 17, 18, 19] (by decide) rfl
  have hE := eq_rem hI.1 hI.2.2.1 hr1 hr2
  refine lv_icmp_eq (tgt := 585) hx hb dL_law_265 (by decide) (fun c_265 => ?_) (fun c_265 => absurd hE.1 c_265)
  exact K v1 vk w1 mk f H locs ls ⟨hE.2.1, hI.2.1, hE.2.2, hI.2.2.2⟩ hP hD hS (lv_sub hl [0, 1, 2, 3] rfl)
end
section
set_option maxHeartbeats 4000000 in
set_option maxRecDepth 100000 in
/-- length -/
theorem lw_c2 {p : Program} {l : Launch} {e : Env} {s : State} {m : MethodId} {below : List Frame} {meth : Method} {c : Code} {b L : Nat} {xs : Nat → Int32} (hL : L ≤ 3584) (C0 : lw_At p s m meth c b L xs) {dC : Nat → ClassId} {dI : Nat → Nat → Nat} {cL cI : ClassId} (hK : va_K (dC, dI) vwCl (kS cL cI) s) {x r k a1 a2 a3 a4 b1 b2 b3 b4 y p1 p2 p3 p4 p5 p6 p7 p8 : Nat} {i : Nat} (hi : i + 7 ≤ L) (K : LK p l e s m below meth c b dC dI cL cI x r k a1 a2 a3 a4 b1 b2 b3 b4 y p1 p2 p3 p4 p5 p6 p7 p8 i 585) : LK p l e s m below meth c b dC dI cL cI x r k a1 a2 a3 a4 b1 b2 b3 b4 y p1 p2 p3 p4 p5 p6 p7 p8 i 270 := by
  intro v vk mv mk f H locs ls hI hP hD hS hl
  obtain ⟨hx, hb, hr, hml, hown, hts, hX, hbl, hlocks, hgv⟩ := C0
  have hA : ∀ q : Nat, s.heap.size ≤ q → (fun q : Nat => s.heap.size ≤ q) q := fun _ h => h
  have hbA : ¬ (fun q : Nat => s.heap.size ≤ q) b := Nat.not_le.mpr hbl
  have htl : ∀ w ∈ wsL_law, w.before #[Value.ref b] s = true := fun w h => hts w (wsL_law_in w h)
  replace hown : s.vm.findClass RL = some m.cls := hown
  replace hP : va_P (dC, dI) vwCl [(x, .inr (1, [.ref r, .ref k, .long f.1, .int f.2])), (r, .inr (0, [.ref a1, .ref a2, .ref a3, .ref a4, .int (nI v.1)])), (a1, .inl (cL, 150, .inr (.inl v.2.1))), (a2, .inl (cI, 150, .inl v.2.2.1)), (a3, .inl (cL, 150, .inr (.inl v.2.2.2.1))), (a4, .inl (cI, 150, .inl v.2.2.2.2)), (k, .inr (0, [.ref b1, .ref b2, .ref b3, .ref b4, .int (nI vk.1)])), (b1, .inl (cL, 150, .inr (.inl vk.2.1))), (b2, .inl (cI, 150, .inl vk.2.2.1)), (b3, .inl (cL, 150, .inr (.inl vk.2.2.2.1))), (b4, .inl (cI, 150, .inl vk.2.2.2.2)), (y, .inr (2, [.int (nI mv.1), .int (nI mk.1), .ref p1, .ref p2, .ref p3, .ref p4, .ref p5, .ref p6, .ref p7, .ref p8, .long f.1, .int f.2])), (p1, .inl (cL, 151, .inr (.inl mv.2.1))), (p2, .inl (cL, 151, .inr (.inl mv.2.2.2.1))), (p3, .inl (cL, 150, .inr (.inl mk.2.1))), (p4, .inl (cL, 150, .inr (.inl mk.2.2.2.1))), (p5, .inl (cI, 151, .inl mv.2.2.1)), (p6, .inl (cI, 151, .inl mv.2.2.2.2)), (p7, .inl (cI, 150, .inl mk.2.2.1)), (p8, .inl (cI, 150, .inl mk.2.2.2.2))] H := hP
  replace hD : va_D (fun q : Nat => s.heap.size ≤ q) [(x, .inr (1, [.ref r, .ref k, .long f.1, .int f.2])), (r, .inr (0, [.ref a1, .ref a2, .ref a3, .ref a4, .int (nI v.1)])), (a1, .inl (cL, 150, .inr (.inl v.2.1))), (a2, .inl (cI, 150, .inl v.2.2.1)), (a3, .inl (cL, 150, .inr (.inl v.2.2.2.1))), (a4, .inl (cI, 150, .inl v.2.2.2.2)), (k, .inr (0, [.ref b1, .ref b2, .ref b3, .ref b4, .int (nI vk.1)])), (b1, .inl (cL, 150, .inr (.inl vk.2.1))), (b2, .inl (cI, 150, .inl vk.2.2.1)), (b3, .inl (cL, 150, .inr (.inl vk.2.2.2.1))), (b4, .inl (cI, 150, .inl vk.2.2.2.2)), (y, .inr (2, [.int (nI mv.1), .int (nI mk.1), .ref p1, .ref p2, .ref p3, .ref p4, .ref p5, .ref p6, .ref p7, .ref p8, .long f.1, .int f.2])), (p1, .inl (cL, 151, .inr (.inl mv.2.1))), (p2, .inl (cL, 151, .inr (.inl mv.2.2.2.1))), (p3, .inl (cL, 150, .inr (.inl mk.2.1))), (p4, .inl (cL, 150, .inr (.inl mk.2.2.2.1))), (p5, .inl (cI, 151, .inl mv.2.2.1)), (p6, .inl (cI, 151, .inl mv.2.2.2.2)), (p7, .inl (cI, 150, .inl mk.2.2.1)), (p8, .inl (cI, 150, .inl mk.2.2.2.2))] := hD
  have hi31 : i + 7 < 2 ^ 31 := by omega
  refine lv_aload_n hx hb dL_law_270 rfl (lv_at hl 1 rfl) ?_
  refine lv_aload_n hx hb dL_law_271 rfl (lv_at hl 0 rfl) ?_
  refine lv_iload_n hx hb dL_law_272 rfl (lv_at hl 3 rfl) ?_
  refine lv_iconst (v := 1) hx hb dL_law_273 (by decide) ?_
  refine lv_iadd hx hb dL_law_274 ?_
  refine lv_topi (fun z_1 ez_1 => ?_)
  obtain rfl : z_1 = nI (i + 1) := ez_1.trans (nI_add i 1)
  refine va_sld hx hb hX hbl hbA hS (vp_in_nI (show i + 1 < L by omega) (by omega)) dL_law_275 ?_
  refine lv_topi (fun z_2 ez_2 => ?_)
  obtain rfl : z_2 = xs (i + 1) := ez_2.trans (by rw [nI_clamp (by omega)])
  refine lv_i2l hx hb dL_law_276 rfl ?_
  refine lv_bipush (v := 32) hx hb dL_law_277 (by decide) ?_
  refine lv_lshl hx hb dL_law_279 rfl ?_
  refine lv_aload_n hx hb dL_law_280 rfl (lv_at hl 0 rfl) ?_
  refine lv_iload_n hx hb dL_law_281 rfl (lv_at hl 3 rfl) ?_
  refine lv_iconst (v := 2) hx hb dL_law_282 (by decide) ?_
  refine lv_iadd hx hb dL_law_283 ?_
  refine lv_topi (fun z_3 ez_3 => ?_)
  obtain rfl : z_3 = nI (i + 2) := ez_3.trans (nI_add i 2)
  refine va_sld hx hb hX hbl hbA hS (vp_in_nI (show i + 2 < L by omega) (by omega)) dL_law_284 ?_
  refine lv_topi (fun z_4 ez_4 => ?_)
  obtain rfl : z_4 = xs (i + 2) := ez_4.trans (by rw [nI_clamp (by omega)])
  refine lv_i2l hx hb dL_law_285 rfl ?_
  refine lv_ldc2 (v := 4294967295) hx hb hown (hts (.constantLong RL 13 4294967295) (by decide +kernel)) dL_law_286 ?_
  refine lv_land hx hb dL_law_289 ?_
  refine lv_lor hx hb dL_law_290 ?_
  refine lv_topl (fun ky eky => ?_)
  refine lv_aload_n hx hb dL_law_291 rfl (lv_at hl 0 rfl) ?_
  refine lv_iload_n hx hb dL_law_292 rfl (lv_at hl 3 rfl) ?_
  refine lv_iconst (v := 3) hx hb dL_law_293 (by decide) ?_
  refine lv_iadd hx hb dL_law_294 ?_
  refine lv_topi (fun z_5 ez_5 => ?_)
  obtain rfl : z_5 = nI (i + 3) := ez_5.trans (nI_add i 3)
  refine va_sld hx hb hX hbl hbA hS (vp_in_nI (show i + 3 < L by omega) (by omega)) dL_law_295 ?_
  refine lv_topi (fun z_6 ez_6 => ?_)
  obtain rfl : z_6 = xs (i + 3) := ez_6.trans (by rw [nI_clamp (by omega)])
  obtain ⟨j, hj⟩ := ex_j hI.1 ky (xs (i + 3))
  refine vp_callSi (va_Run.run (va_runV (As := [.long ky, .int (xs (i + 3))]) (rest := []) ⟨hx, hb, hml, hown, hts⟩ (c_length l dC dI cL cI x r k a1 a2 a3 a4 f.1 f.2 v.1 v.2.1 v.2.2.1 v.2.2.2.1 v.2.2.2.2 hI.1.1 ky (xs (i + 3)) j (fun o => (hj o).1)) (cwV 2 htl gL_law_X1_length rfl rfl rfl (by decide +kernel) ⟨Nat.le_of_ble_eq_true rfl, Nat.le_of_ble_eq_true rfl⟩) (rd_preV hK (hP.sub (ws' := [(x, .inr (1, [.ref r, .ref k, .long f.1, .int f.2])), (r, .inr (0, [.ref a1, .ref a2, .ref a3, .ref a4, .int (nI v.1)])), (a1, .inl (cL, 150, .inr (.inl v.2.1))), (a2, .inl (cI, 150, .inl v.2.2.1)), (a3, .inl (cL, 150, .inr (.inl v.2.2.2.1))), (a4, .inl (cI, 150, .inl v.2.2.2.2))]) [0, 1, 2, 3, 4, 5] rfl) (ci := 1) (q0 := 0) rfl rfl) rfl rfl hl.1 rfl (lv_room (Nat.le_of_ble_eq_true rfl)) dL_law_296 ⟨Nat.le_of_ble_eq_true rfl, Nat.le_of_ble_eq_true rfl⟩)) (fun r1 hr1 => ?_)
  refine lv_aload_n hx hb dL_law_299 rfl (lv_at hl 2 rfl) ?_
  refine lv_aload_n hx hb dL_law_300 rfl (lv_at hl 0 rfl) ?_
  refine lv_iload_n hx hb dL_law_301 rfl (lv_at hl 3 rfl) ?_
  refine lv_iconst (v := 1) hx hb dL_law_302 (by decide) ?_
  refine lv_iadd hx hb dL_law_303 ?_
  refine lv_topi (fun z_7 ez_7 => ?_)
  obtain rfl : z_7 = nI (i + 1) := ez_7.trans (nI_add i 1)
  refine va_sld hx hb hX hbl hbA hS (vp_in_nI (show i + 1 < L by omega) (by omega)) dL_law_304 ?_
  refine lv_topi (fun z_8 ez_8 => ?_)
  obtain rfl : z_8 = xs (i + 1) := ez_8.trans (by rw [nI_clamp (by omega)])
  refine lv_i2l hx hb dL_law_305 rfl ?_
  refine lv_bipush (v := 32) hx hb dL_law_306 (by decide) ?_
  refine lv_lshl hx hb dL_law_308 rfl ?_
  refine lv_aload_n hx hb dL_law_309 rfl (lv_at hl 0 rfl) ?_
  refine lv_iload_n hx hb dL_law_310 rfl (lv_at hl 3 rfl) ?_
  refine lv_iconst (v := 2) hx hb dL_law_311 (by decide) ?_
  refine lv_iadd hx hb dL_law_312 ?_
  refine lv_topi (fun z_9 ez_9 => ?_)
  obtain rfl : z_9 = nI (i + 2) := ez_9.trans (nI_add i 2)
  refine va_sld hx hb hX hbl hbA hS (vp_in_nI (show i + 2 < L by omega) (by omega)) dL_law_313 ?_
  refine lv_topi (fun z_10 ez_10 => ?_)
  obtain rfl : z_10 = xs (i + 2) := ez_10.trans (by rw [nI_clamp (by omega)])
  refine lv_i2l hx hb dL_law_314 rfl ?_
  refine lv_ldc2 (v := 4294967295) hx hb hown (hts (.constantLong RL 13 4294967295) (by decide +kernel)) dL_law_315 ?_
  refine lv_land hx hb dL_law_318 ?_
  refine lv_lor hx hb dL_law_319 ?_
  refine lv_topl (fun ky2 eky2 => ?_)
  obtain rfl : ky = ky2 := eky.trans eky2.symm
  refine lv_aload_n hx hb dL_law_320 rfl (lv_at hl 0 rfl) ?_
  refine lv_iload_n hx hb dL_law_321 rfl (lv_at hl 3 rfl) ?_
  refine lv_iconst (v := 3) hx hb dL_law_322 (by decide) ?_
  refine lv_iadd hx hb dL_law_323 ?_
  refine lv_topi (fun z_11 ez_11 => ?_)
  obtain rfl : z_11 = nI (i + 3) := ez_11.trans (nI_add i 3)
  refine va_sld hx hb hX hbl hbA hS (vp_in_nI (show i + 3 < L by omega) (by omega)) dL_law_324 ?_
  refine lv_topi (fun z_12 ez_12 => ?_)
  obtain rfl : z_12 = xs (i + 3) := ez_12.trans (by rw [nI_clamp (by omega)])
  refine vp_callSi (va_Run.run (va_runV (As := [.long ky, .int (xs (i + 3))]) (rest := [.int r1]) ⟨hx, hb, hml, hown, hts⟩ (m_length l dC dI cL cI y p1 p2 p3 p4 p5 p6 p7 p8 mv mk f (sim_mok hI.1 hI.2.2.1) ky (xs (i + 3)) j (fun o => sim_mpl hI.2.2.1 (hj o).1)) (cwV 2 hts gL_law_X2_length rfl rfl rfl (by decide +kernel) ⟨Nat.le_of_ble_eq_true rfl, Nat.le_of_ble_eq_true rfl⟩) (rd_preV hK (hP.sub (ws' := [(y, .inr (2, [.int (nI mv.1), .int (nI mk.1), .ref p1, .ref p2, .ref p3, .ref p4, .ref p5, .ref p6, .ref p7, .ref p8, .long f.1, .int f.2])), (p1, .inl (cL, 151, .inr (.inl mv.2.1))), (p2, .inl (cL, 151, .inr (.inl mv.2.2.2.1))), (p3, .inl (cL, 150, .inr (.inl mk.2.1))), (p4, .inl (cL, 150, .inr (.inl mk.2.2.2.1))), (p5, .inl (cI, 151, .inl mv.2.2.1)), (p6, .inl (cI, 151, .inl mv.2.2.2.2)), (p7, .inl (cI, 150, .inl mk.2.2.1)), (p8, .inl (cI, 150, .inl mk.2.2.2.2))]) [11, 12, 13, 14, 15, 16, 17, 18, 19] rfl) (ci := 2) (q0 := 0) rfl rfl) rfl rfl hl.1 rfl (lv_room (Nat.le_of_ble_eq_true rfl)) dL_law_325 ⟨Nat.le_of_ble_eq_true rfl, Nat.le_of_ble_eq_true rfl⟩)) (fun r2 hr2 => ?_)
  have hE := eq_len hI.2.2.1 hr1 hr2
  refine lv_icmp_eq (tgt := 585) hx hb dL_law_328 (by decide) (fun c_328 => ?_) (fun c_328 => absurd hE c_328)
  exact K v vk mv mk f H locs ls hI hP hD hS (lv_sub hl [0, 1, 2, 3] rfl)
end
section
set_option maxHeartbeats 4000000 in
set_option maxRecDepth 100000 in
/-- text -/
theorem lw_c3 {p : Program} {l : Launch} {e : Env} {s : State} {m : MethodId} {below : List Frame} {meth : Method} {c : Code} {b L : Nat} {xs : Nat → Int32} (hL : L ≤ 3584) (C0 : lw_At p s m meth c b L xs) {dC : Nat → ClassId} {dI : Nat → Nat → Nat} {cL cI : ClassId} (hK : va_K (dC, dI) vwCl (kS cL cI) s) {x r k a1 a2 a3 a4 b1 b2 b3 b4 y p1 p2 p3 p4 p5 p6 p7 p8 : Nat} {i : Nat} (hi : i + 7 ≤ L) (K : LK p l e s m below meth c b dC dI cL cI x r k a1 a2 a3 a4 b1 b2 b3 b4 y p1 p2 p3 p4 p5 p6 p7 p8 i 585) : LK p l e s m below meth c b dC dI cL cI x r k a1 a2 a3 a4 b1 b2 b3 b4 y p1 p2 p3 p4 p5 p6 p7 p8 i 333 := by
  intro v vk mv mk f H locs ls hI hP hD hS hl
  obtain ⟨hx, hb, hr, hml, hown, hts, hX, hbl, hlocks, hgv⟩ := C0
  have hA : ∀ q : Nat, s.heap.size ≤ q → (fun q : Nat => s.heap.size ≤ q) q := fun _ h => h
  have hbA : ¬ (fun q : Nat => s.heap.size ≤ q) b := Nat.not_le.mpr hbl
  have htl : ∀ w ∈ wsL_law, w.before #[Value.ref b] s = true := fun w h => hts w (wsL_law_in w h)
  replace hown : s.vm.findClass RL = some m.cls := hown
  replace hP : va_P (dC, dI) vwCl [(x, .inr (1, [.ref r, .ref k, .long f.1, .int f.2])), (r, .inr (0, [.ref a1, .ref a2, .ref a3, .ref a4, .int (nI v.1)])), (a1, .inl (cL, 150, .inr (.inl v.2.1))), (a2, .inl (cI, 150, .inl v.2.2.1)), (a3, .inl (cL, 150, .inr (.inl v.2.2.2.1))), (a4, .inl (cI, 150, .inl v.2.2.2.2)), (k, .inr (0, [.ref b1, .ref b2, .ref b3, .ref b4, .int (nI vk.1)])), (b1, .inl (cL, 150, .inr (.inl vk.2.1))), (b2, .inl (cI, 150, .inl vk.2.2.1)), (b3, .inl (cL, 150, .inr (.inl vk.2.2.2.1))), (b4, .inl (cI, 150, .inl vk.2.2.2.2)), (y, .inr (2, [.int (nI mv.1), .int (nI mk.1), .ref p1, .ref p2, .ref p3, .ref p4, .ref p5, .ref p6, .ref p7, .ref p8, .long f.1, .int f.2])), (p1, .inl (cL, 151, .inr (.inl mv.2.1))), (p2, .inl (cL, 151, .inr (.inl mv.2.2.2.1))), (p3, .inl (cL, 150, .inr (.inl mk.2.1))), (p4, .inl (cL, 150, .inr (.inl mk.2.2.2.1))), (p5, .inl (cI, 151, .inl mv.2.2.1)), (p6, .inl (cI, 151, .inl mv.2.2.2.2)), (p7, .inl (cI, 150, .inl mk.2.2.1)), (p8, .inl (cI, 150, .inl mk.2.2.2.2))] H := hP
  replace hD : va_D (fun q : Nat => s.heap.size ≤ q) [(x, .inr (1, [.ref r, .ref k, .long f.1, .int f.2])), (r, .inr (0, [.ref a1, .ref a2, .ref a3, .ref a4, .int (nI v.1)])), (a1, .inl (cL, 150, .inr (.inl v.2.1))), (a2, .inl (cI, 150, .inl v.2.2.1)), (a3, .inl (cL, 150, .inr (.inl v.2.2.2.1))), (a4, .inl (cI, 150, .inl v.2.2.2.2)), (k, .inr (0, [.ref b1, .ref b2, .ref b3, .ref b4, .int (nI vk.1)])), (b1, .inl (cL, 150, .inr (.inl vk.2.1))), (b2, .inl (cI, 150, .inl vk.2.2.1)), (b3, .inl (cL, 150, .inr (.inl vk.2.2.2.1))), (b4, .inl (cI, 150, .inl vk.2.2.2.2)), (y, .inr (2, [.int (nI mv.1), .int (nI mk.1), .ref p1, .ref p2, .ref p3, .ref p4, .ref p5, .ref p6, .ref p7, .ref p8, .long f.1, .int f.2])), (p1, .inl (cL, 151, .inr (.inl mv.2.1))), (p2, .inl (cL, 151, .inr (.inl mv.2.2.2.1))), (p3, .inl (cL, 150, .inr (.inl mk.2.1))), (p4, .inl (cL, 150, .inr (.inl mk.2.2.2.1))), (p5, .inl (cI, 151, .inl mv.2.2.1)), (p6, .inl (cI, 151, .inl mv.2.2.2.2)), (p7, .inl (cI, 150, .inl mk.2.2.1)), (p8, .inl (cI, 150, .inl mk.2.2.2.2))] := hD
  have hi31 : i + 7 < 2 ^ 31 := by omega
  refine lv_aload_n hx hb dL_law_333 rfl (lv_at hl 1 rfl) ?_
  refine lv_aload_n hx hb dL_law_334 rfl (lv_at hl 0 rfl) ?_
  refine lv_iload_n hx hb dL_law_335 rfl (lv_at hl 3 rfl) ?_
  refine lv_iconst (v := 1) hx hb dL_law_336 (by decide) ?_
  refine lv_iadd hx hb dL_law_337 ?_
  refine lv_topi (fun z_1 ez_1 => ?_)
  obtain rfl : z_1 = nI (i + 1) := ez_1.trans (nI_add i 1)
  refine va_sld hx hb hX hbl hbA hS (vp_in_nI (show i + 1 < L by omega) (by omega)) dL_law_338 ?_
  refine lv_topi (fun z_2 ez_2 => ?_)
  obtain rfl : z_2 = xs (i + 1) := ez_2.trans (by rw [nI_clamp (by omega)])
  refine lv_i2l hx hb dL_law_339 rfl ?_
  refine lv_bipush (v := 32) hx hb dL_law_340 (by decide) ?_
  refine lv_lshl hx hb dL_law_342 rfl ?_
  refine lv_aload_n hx hb dL_law_343 rfl (lv_at hl 0 rfl) ?_
  refine lv_iload_n hx hb dL_law_344 rfl (lv_at hl 3 rfl) ?_
  refine lv_iconst (v := 2) hx hb dL_law_345 (by decide) ?_
  refine lv_iadd hx hb dL_law_346 ?_
  refine lv_topi (fun z_3 ez_3 => ?_)
  obtain rfl : z_3 = nI (i + 2) := ez_3.trans (nI_add i 2)
  refine va_sld hx hb hX hbl hbA hS (vp_in_nI (show i + 2 < L by omega) (by omega)) dL_law_347 ?_
  refine lv_topi (fun z_4 ez_4 => ?_)
  obtain rfl : z_4 = xs (i + 2) := ez_4.trans (by rw [nI_clamp (by omega)])
  refine lv_i2l hx hb dL_law_348 rfl ?_
  refine lv_ldc2 (v := 4294967295) hx hb hown (hts (.constantLong RL 13 4294967295) (by decide +kernel)) dL_law_349 ?_
  refine lv_land hx hb dL_law_352 ?_
  refine lv_lor hx hb dL_law_353 ?_
  refine lv_topl (fun ky eky => ?_)
  refine lv_aload_n hx hb dL_law_354 rfl (lv_at hl 0 rfl) ?_
  refine lv_iload_n hx hb dL_law_355 rfl (lv_at hl 3 rfl) ?_
  refine lv_iconst (v := 3) hx hb dL_law_356 (by decide) ?_
  refine lv_iadd hx hb dL_law_357 ?_
  refine lv_topi (fun z_5 ez_5 => ?_)
  obtain rfl : z_5 = nI (i + 3) := ez_5.trans (nI_add i 3)
  refine va_sld hx hb hX hbl hbA hS (vp_in_nI (show i + 3 < L by omega) (by omega)) dL_law_358 ?_
  refine lv_topi (fun z_6 ez_6 => ?_)
  obtain rfl : z_6 = xs (i + 3) := ez_6.trans (by rw [nI_clamp (by omega)])
  obtain ⟨j, hj⟩ := ex_j hI.1 ky (xs (i + 3))
  refine vp_callSl (va_Run.run (va_runV (As := [.long ky, .int (xs (i + 3))]) (rest := []) ⟨hx, hb, hml, hown, hts⟩ (c_text l dC dI cL cI x r k a1 a2 a3 a4 f.1 f.2 v.1 v.2.1 v.2.2.1 v.2.2.2.1 v.2.2.2.2 hI.1.1 ky (xs (i + 3)) j (fun o => (hj o).1)) (cwV 2 htl gL_law_X1_text rfl rfl rfl (by decide +kernel) ⟨Nat.le_of_ble_eq_true rfl, Nat.le_of_ble_eq_true rfl⟩) (rd_preV hK (hP.sub (ws' := [(x, .inr (1, [.ref r, .ref k, .long f.1, .int f.2])), (r, .inr (0, [.ref a1, .ref a2, .ref a3, .ref a4, .int (nI v.1)])), (a1, .inl (cL, 150, .inr (.inl v.2.1))), (a2, .inl (cI, 150, .inl v.2.2.1)), (a3, .inl (cL, 150, .inr (.inl v.2.2.2.1))), (a4, .inl (cI, 150, .inl v.2.2.2.2))]) [0, 1, 2, 3, 4, 5] rfl) (ci := 1) (q0 := 0) rfl rfl) rfl rfl hl.1 rfl (lv_room (Nat.le_of_ble_eq_true rfl)) dL_law_359 ⟨Nat.le_of_ble_eq_true rfl, Nat.le_of_ble_eq_true rfl⟩)) (fun r1 hr1 => ?_)
  refine lv_aload_n hx hb dL_law_362 rfl (lv_at hl 2 rfl) ?_
  refine lv_aload_n hx hb dL_law_363 rfl (lv_at hl 0 rfl) ?_
  refine lv_iload_n hx hb dL_law_364 rfl (lv_at hl 3 rfl) ?_
  refine lv_iconst (v := 1) hx hb dL_law_365 (by decide) ?_
  refine lv_iadd hx hb dL_law_366 ?_
  refine lv_topi (fun z_7 ez_7 => ?_)
  obtain rfl : z_7 = nI (i + 1) := ez_7.trans (nI_add i 1)
  refine va_sld hx hb hX hbl hbA hS (vp_in_nI (show i + 1 < L by omega) (by omega)) dL_law_367 ?_
  refine lv_topi (fun z_8 ez_8 => ?_)
  obtain rfl : z_8 = xs (i + 1) := ez_8.trans (by rw [nI_clamp (by omega)])
  refine lv_i2l hx hb dL_law_368 rfl ?_
  refine lv_bipush (v := 32) hx hb dL_law_369 (by decide) ?_
  refine lv_lshl hx hb dL_law_371 rfl ?_
  refine lv_aload_n hx hb dL_law_372 rfl (lv_at hl 0 rfl) ?_
  refine lv_iload_n hx hb dL_law_373 rfl (lv_at hl 3 rfl) ?_
  refine lv_iconst (v := 2) hx hb dL_law_374 (by decide) ?_
  refine lv_iadd hx hb dL_law_375 ?_
  refine lv_topi (fun z_9 ez_9 => ?_)
  obtain rfl : z_9 = nI (i + 2) := ez_9.trans (nI_add i 2)
  refine va_sld hx hb hX hbl hbA hS (vp_in_nI (show i + 2 < L by omega) (by omega)) dL_law_376 ?_
  refine lv_topi (fun z_10 ez_10 => ?_)
  obtain rfl : z_10 = xs (i + 2) := ez_10.trans (by rw [nI_clamp (by omega)])
  refine lv_i2l hx hb dL_law_377 rfl ?_
  refine lv_ldc2 (v := 4294967295) hx hb hown (hts (.constantLong RL 13 4294967295) (by decide +kernel)) dL_law_378 ?_
  refine lv_land hx hb dL_law_381 ?_
  refine lv_lor hx hb dL_law_382 ?_
  refine lv_topl (fun ky2 eky2 => ?_)
  obtain rfl : ky = ky2 := eky.trans eky2.symm
  refine lv_aload_n hx hb dL_law_383 rfl (lv_at hl 0 rfl) ?_
  refine lv_iload_n hx hb dL_law_384 rfl (lv_at hl 3 rfl) ?_
  refine lv_iconst (v := 3) hx hb dL_law_385 (by decide) ?_
  refine lv_iadd hx hb dL_law_386 ?_
  refine lv_topi (fun z_11 ez_11 => ?_)
  obtain rfl : z_11 = nI (i + 3) := ez_11.trans (nI_add i 3)
  refine va_sld hx hb hX hbl hbA hS (vp_in_nI (show i + 3 < L by omega) (by omega)) dL_law_387 ?_
  refine lv_topi (fun z_12 ez_12 => ?_)
  obtain rfl : z_12 = xs (i + 3) := ez_12.trans (by rw [nI_clamp (by omega)])
  refine vp_callSl (va_Run.run (va_runV (As := [.long ky, .int (xs (i + 3))]) (rest := [.long r1]) ⟨hx, hb, hml, hown, hts⟩ (m_text l dC dI cL cI y p1 p2 p3 p4 p5 p6 p7 p8 mv mk f (sim_mok hI.1 hI.2.2.1) ky (xs (i + 3)) j (fun o => sim_mpl hI.2.2.1 (hj o).1)) (cwV 2 hts gL_law_X2_text rfl rfl rfl (by decide +kernel) ⟨Nat.le_of_ble_eq_true rfl, Nat.le_of_ble_eq_true rfl⟩) (rd_preV hK (hP.sub (ws' := [(y, .inr (2, [.int (nI mv.1), .int (nI mk.1), .ref p1, .ref p2, .ref p3, .ref p4, .ref p5, .ref p6, .ref p7, .ref p8, .long f.1, .int f.2])), (p1, .inl (cL, 151, .inr (.inl mv.2.1))), (p2, .inl (cL, 151, .inr (.inl mv.2.2.2.1))), (p3, .inl (cL, 150, .inr (.inl mk.2.1))), (p4, .inl (cL, 150, .inr (.inl mk.2.2.2.1))), (p5, .inl (cI, 151, .inl mv.2.2.1)), (p6, .inl (cI, 151, .inl mv.2.2.2.2)), (p7, .inl (cI, 150, .inl mk.2.2.1)), (p8, .inl (cI, 150, .inl mk.2.2.2.2))]) [11, 12, 13, 14, 15, 16, 17, 18, 19] rfl) (ci := 2) (q0 := 0) rfl rfl) rfl rfl hl.1 rfl (lv_room (Nat.le_of_ble_eq_true rfl)) dL_law_388 ⟨Nat.le_of_ble_eq_true rfl, Nat.le_of_ble_eq_true rfl⟩)) (fun r2 hr2 => ?_)
  have hE := eq_txt hI.2.2.1 hr1 hr2
  refine W.lcmp hx hb dL_law_391 ?_
  refine lv_if_eq (tgt := 585) hx hb dL_law_392 (by decide) (fun c_392 => ?_) (fun c_392 => absurd ((lg_cmp_eq _ _).mpr hE) c_392)
  exact K v vk mv mk f H locs ls hI hP hD hS (lv_sub hl [0, 1, 2, 3] rfl)
end
section
set_option maxHeartbeats 4000000 in
set_option maxRecDepth 100000 in
/-- seek -/
theorem lw_c4 {p : Program} {l : Launch} {e : Env} {s : State} {m : MethodId} {below : List Frame} {meth : Method} {c : Code} {b L : Nat} {xs : Nat → Int32} (hL : L ≤ 3584) (C0 : lw_At p s m meth c b L xs) {dC : Nat → ClassId} {dI : Nat → Nat → Nat} {cL cI : ClassId} (hK : va_K (dC, dI) vwCl (kS cL cI) s) {x r k a1 a2 a3 a4 b1 b2 b3 b4 y p1 p2 p3 p4 p5 p6 p7 p8 : Nat} {i : Nat} (hi : i + 7 ≤ L) (K : LK p l e s m below meth c b dC dI cL cI x r k a1 a2 a3 a4 b1 b2 b3 b4 y p1 p2 p3 p4 p5 p6 p7 p8 i 585) : LK p l e s m below meth c b dC dI cL cI x r k a1 a2 a3 a4 b1 b2 b3 b4 y p1 p2 p3 p4 p5 p6 p7 p8 i 397 := by
  intro v vk mv mk f H locs ls hI hP hD hS hl
  obtain ⟨hx, hb, hr, hml, hown, hts, hX, hbl, hlocks, hgv⟩ := C0
  have hA : ∀ q : Nat, s.heap.size ≤ q → (fun q : Nat => s.heap.size ≤ q) q := fun _ h => h
  have hbA : ¬ (fun q : Nat => s.heap.size ≤ q) b := Nat.not_le.mpr hbl
  have htl : ∀ w ∈ wsL_law, w.before #[Value.ref b] s = true := fun w h => hts w (wsL_law_in w h)
  replace hown : s.vm.findClass RL = some m.cls := hown
  replace hP : va_P (dC, dI) vwCl [(x, .inr (1, [.ref r, .ref k, .long f.1, .int f.2])), (r, .inr (0, [.ref a1, .ref a2, .ref a3, .ref a4, .int (nI v.1)])), (a1, .inl (cL, 150, .inr (.inl v.2.1))), (a2, .inl (cI, 150, .inl v.2.2.1)), (a3, .inl (cL, 150, .inr (.inl v.2.2.2.1))), (a4, .inl (cI, 150, .inl v.2.2.2.2)), (k, .inr (0, [.ref b1, .ref b2, .ref b3, .ref b4, .int (nI vk.1)])), (b1, .inl (cL, 150, .inr (.inl vk.2.1))), (b2, .inl (cI, 150, .inl vk.2.2.1)), (b3, .inl (cL, 150, .inr (.inl vk.2.2.2.1))), (b4, .inl (cI, 150, .inl vk.2.2.2.2)), (y, .inr (2, [.int (nI mv.1), .int (nI mk.1), .ref p1, .ref p2, .ref p3, .ref p4, .ref p5, .ref p6, .ref p7, .ref p8, .long f.1, .int f.2])), (p1, .inl (cL, 151, .inr (.inl mv.2.1))), (p2, .inl (cL, 151, .inr (.inl mv.2.2.2.1))), (p3, .inl (cL, 150, .inr (.inl mk.2.1))), (p4, .inl (cL, 150, .inr (.inl mk.2.2.2.1))), (p5, .inl (cI, 151, .inl mv.2.2.1)), (p6, .inl (cI, 151, .inl mv.2.2.2.2)), (p7, .inl (cI, 150, .inl mk.2.2.1)), (p8, .inl (cI, 150, .inl mk.2.2.2.2))] H := hP
  replace hD : va_D (fun q : Nat => s.heap.size ≤ q) [(x, .inr (1, [.ref r, .ref k, .long f.1, .int f.2])), (r, .inr (0, [.ref a1, .ref a2, .ref a3, .ref a4, .int (nI v.1)])), (a1, .inl (cL, 150, .inr (.inl v.2.1))), (a2, .inl (cI, 150, .inl v.2.2.1)), (a3, .inl (cL, 150, .inr (.inl v.2.2.2.1))), (a4, .inl (cI, 150, .inl v.2.2.2.2)), (k, .inr (0, [.ref b1, .ref b2, .ref b3, .ref b4, .int (nI vk.1)])), (b1, .inl (cL, 150, .inr (.inl vk.2.1))), (b2, .inl (cI, 150, .inl vk.2.2.1)), (b3, .inl (cL, 150, .inr (.inl vk.2.2.2.1))), (b4, .inl (cI, 150, .inl vk.2.2.2.2)), (y, .inr (2, [.int (nI mv.1), .int (nI mk.1), .ref p1, .ref p2, .ref p3, .ref p4, .ref p5, .ref p6, .ref p7, .ref p8, .long f.1, .int f.2])), (p1, .inl (cL, 151, .inr (.inl mv.2.1))), (p2, .inl (cL, 151, .inr (.inl mv.2.2.2.1))), (p3, .inl (cL, 150, .inr (.inl mk.2.1))), (p4, .inl (cL, 150, .inr (.inl mk.2.2.2.1))), (p5, .inl (cI, 151, .inl mv.2.2.1)), (p6, .inl (cI, 151, .inl mv.2.2.2.2)), (p7, .inl (cI, 150, .inl mk.2.2.1)), (p8, .inl (cI, 150, .inl mk.2.2.2.2))] := hD
  have hi31 : i + 7 < 2 ^ 31 := by omega
  refine lv_aload_n hx hb dL_law_397 rfl (lv_at hl 1 rfl) ?_
  refine lv_aload_n hx hb dL_law_398 rfl (lv_at hl 0 rfl) ?_
  refine lv_iload_n hx hb dL_law_399 rfl (lv_at hl 3 rfl) ?_
  refine lv_iconst (v := 1) hx hb dL_law_400 (by decide) ?_
  refine lv_iadd hx hb dL_law_401 ?_
  refine lv_topi (fun z_1 ez_1 => ?_)
  obtain rfl : z_1 = nI (i + 1) := ez_1.trans (nI_add i 1)
  refine va_sld hx hb hX hbl hbA hS (vp_in_nI (show i + 1 < L by omega) (by omega)) dL_law_402 ?_
  refine lv_topi (fun z_2 ez_2 => ?_)
  obtain rfl : z_2 = xs (i + 1) := ez_2.trans (by rw [nI_clamp (by omega)])
  refine lv_i2l hx hb dL_law_403 rfl ?_
  refine lv_bipush (v := 32) hx hb dL_law_404 (by decide) ?_
  refine lv_lshl hx hb dL_law_406 rfl ?_
  refine lv_aload_n hx hb dL_law_407 rfl (lv_at hl 0 rfl) ?_
  refine lv_iload_n hx hb dL_law_408 rfl (lv_at hl 3 rfl) ?_
  refine lv_iconst (v := 2) hx hb dL_law_409 (by decide) ?_
  refine lv_iadd hx hb dL_law_410 ?_
  refine lv_topi (fun z_3 ez_3 => ?_)
  obtain rfl : z_3 = nI (i + 2) := ez_3.trans (nI_add i 2)
  refine va_sld hx hb hX hbl hbA hS (vp_in_nI (show i + 2 < L by omega) (by omega)) dL_law_411 ?_
  refine lv_topi (fun z_4 ez_4 => ?_)
  obtain rfl : z_4 = xs (i + 2) := ez_4.trans (by rw [nI_clamp (by omega)])
  refine lv_i2l hx hb dL_law_412 rfl ?_
  refine lv_ldc2 (v := 4294967295) hx hb hown (hts (.constantLong RL 13 4294967295) (by decide +kernel)) dL_law_413 ?_
  refine lv_land hx hb dL_law_416 ?_
  refine lv_lor hx hb dL_law_417 ?_
  refine lv_topl (fun ky eky => ?_)
  refine lv_aload_n hx hb dL_law_418 rfl (lv_at hl 0 rfl) ?_
  refine lv_iload_n hx hb dL_law_419 rfl (lv_at hl 3 rfl) ?_
  refine lv_iconst (v := 3) hx hb dL_law_420 (by decide) ?_
  refine lv_iadd hx hb dL_law_421 ?_
  refine lv_topi (fun z_5 ez_5 => ?_)
  obtain rfl : z_5 = nI (i + 3) := ez_5.trans (nI_add i 3)
  refine va_sld hx hb hX hbl hbA hS (vp_in_nI (show i + 3 < L by omega) (by omega)) dL_law_422 ?_
  refine lv_topi (fun z_6 ez_6 => ?_)
  obtain rfl : z_6 = xs (i + 3) := ez_6.trans (by rw [nI_clamp (by omega)])
  obtain ⟨j, hj⟩ := ex_j hI.1 ky (xs (i + 3))
  refine wr_calli (wr := [(k, .inr (0, [.ref b1, .ref b2, .ref b3, .ref b4, .int (nI vk.1)])), (b1, .inl (cL, 150, .inr (.inl vk.2.1))), (b2, .inl (cI, 150, .inl vk.2.2.1)), (b3, .inl (cL, 150, .inr (.inl vk.2.2.2.1))), (b4, .inl (cI, 150, .inl vk.2.2.2.2)), (y, .inr (2, [.int (nI mv.1), .int (nI mk.1), .ref p1, .ref p2, .ref p3, .ref p4, .ref p5, .ref p6, .ref p7, .ref p8, .long f.1, .int f.2])), (p1, .inl (cL, 151, .inr (.inl mv.2.1))), (p2, .inl (cL, 151, .inr (.inl mv.2.2.2.1))), (p3, .inl (cL, 150, .inr (.inl mk.2.1))), (p4, .inl (cL, 150, .inr (.inl mk.2.2.2.1))), (p5, .inl (cI, 151, .inl mv.2.2.1)), (p6, .inl (cI, 151, .inl mv.2.2.2.2)), (p7, .inl (cI, 150, .inl mk.2.2.1)), (p8, .inl (cI, 150, .inl mk.2.2.2.2))]) (va_runV (As := [.long ky, .int (xs (i + 3))]) (rest := []) ⟨hx, hb, hml, hown, hts⟩ (c_seek l dC dI _ cL cI x r k a1 a2 a3 a4 f.1 f.2 v.1 v.2.1 v.2.2.1 v.2.2.2.1 v.2.2.2.2 hI.1.1 ky (xs (i + 3)) j (fun o => (hj o).1)) (cwV 2 htl gL_law_X1_seek rfl rfl rfl (by decide +kernel) ⟨Nat.le_of_ble_eq_true rfl, Nat.le_of_ble_eq_true rfl⟩) (wr_preV hK (hP.sub (ws' := [(x, .inr (1, [.ref r, .ref k, .long f.1, .int f.2])), (r, .inr (0, [.ref a1, .ref a2, .ref a3, .ref a4, .int (nI v.1)])), (a1, .inl (cL, 150, .inr (.inl v.2.1))), (a2, .inl (cI, 150, .inl v.2.2.1)), (a3, .inl (cL, 150, .inr (.inl v.2.2.2.1))), (a4, .inl (cI, 150, .inl v.2.2.2.2))]) [0, 1, 2, 3, 4, 5] rfl) (hD.sub (ws' := [(x, .inr (1, [.ref r, .ref k, .long f.1, .int f.2])), (r, .inr (0, [.ref a1, .ref a2, .ref a3, .ref a4, .int (nI v.1)])), (a1, .inl (cL, 150, .inr (.inl v.2.1))), (a2, .inl (cI, 150, .inl v.2.2.1)), (a3, .inl (cL, 150, .inr (.inl v.2.2.2.1))), (a4, .inl (cI, 150, .inl v.2.2.2.2))]) [0, 1, 2, 3, 4, 5] (by decide) rfl) (ci := 1) (q0 := 0) rfl rfl) rfl rfl hl.1 rfl (lv_room (Nat.le_of_ble_eq_true rfl)) dL_law_423 ⟨Nat.le_of_ble_eq_true rfl, Nat.le_of_ble_eq_true rfl⟩) hP hD hS hA [0, 1, 2, 3, 4, 5] [6, 7, 8, 9, 10, 11, 12, 13, 14, 15, 16, 17, 18, 19] rfl rfl (by decide) (by decide) (fun r1 f1 H locs hr1 hP hD hS => ?_)
  replace hP := hP.sub (ws' := [(x, .inr (1, [.ref r, .ref k, .long f1.1, .int f1.2])), (r, .inr (0, [.ref a1, .ref a2, .ref a3, .ref a4, .int (nI v.1)])), (a1, .inl (cL, 150, .inr (.inl v.2.1))), (a2, .inl (cI, 150, .inl v.2.2.1)), (a3, .inl (cL, 150, .inr (.inl v.2.2.2.1))), (a4, .inl (cI, 150, .inl v.2.2.2.2)), (k, .inr (0, [.ref b1, .ref b2, .ref b3, .ref b4, .int (nI vk.1)])), (b1, .inl (cL, 150, .inr (.inl vk.2.1))), (b2, .inl (cI, 150, .inl vk.2.2.1)), (b3, .inl (cL, 150, .inr (.inl vk.2.2.2.1))), (b4, .inl (cI, 150, .inl vk.2.2.2.2)), (y, .inr (2, [.int (nI mv.1), .int (nI mk.1), .ref p1, .ref p2, .ref p3, .ref p4, .ref p5, .ref p6, .ref p7, .ref p8, .long f.1, .int f.2])), (p1, .inl (cL, 151, .inr (.inl mv.2.1))), (p2, .inl (cL, 151, .inr (.inl mv.2.2.2.1))), (p3, .inl (cL, 150, .inr (.inl mk.2.1))), (p4, .inl (cL, 150, .inr (.inl mk.2.2.2.1))), (p5, .inl (cI, 151, .inl mv.2.2.1)), (p6, .inl (cI, 151, .inl mv.2.2.2.2)), (p7, .inl (cI, 150, .inl mk.2.2.1)), (p8, .inl (cI, 150, .inl mk.2.2.2.2))]) [14, 15, 16, 17, 18, 19, 0, 1, 2, 3, 4, 5, 6, 7, 8, 9, 10, 11, 12, 13] rfl
  replace hD := hD.sub (ws' := [(x, .inr (1, [.ref r, .ref k, .long f1.1, .int f1.2])), (r, .inr (0, [.ref a1, .ref a2, .ref a3, .ref a4, .int (nI v.1)])), (a1, .inl (cL, 150, .inr (.inl v.2.1))), (a2, .inl (cI, 150, .inl v.2.2.1)), (a3, .inl (cL, 150, .inr (.inl v.2.2.2.1))), (a4, .inl (cI, 150, .inl v.2.2.2.2)), (k, .inr (0, [.ref b1, .ref b2, .ref b3, .ref b4, .int (nI vk.1)])), (b1, .inl (cL, 150, .inr (.inl vk.2.1))), (b2, .inl (cI, 150, .inl vk.2.2.1)), (b3, .inl (cL, 150, .inr (.inl vk.2.2.2.1))), (b4, .inl (cI, 150, .inl vk.2.2.2.2)), (y, .inr (2, [.int (nI mv.1), .int (nI mk.1), .ref p1, .ref p2, .ref p3, .ref p4, .ref p5, .ref p6, .ref p7, .ref p8, .long f.1, .int f.2])), (p1, .inl (cL, 151, .inr (.inl mv.2.1))), (p2, .inl (cL, 151, .inr (.inl mv.2.2.2.1))), (p3, .inl (cL, 150, .inr (.inl mk.2.1))), (p4, .inl (cL, 150, .inr (.inl mk.2.2.2.1))), (p5, .inl (cI, 151, .inl mv.2.2.1)), (p6, .inl (cI, 151, .inl mv.2.2.2.2)), (p7, .inl (cI, 150, .inl mk.2.2.1)), (p8, .inl (cI, 150, .inl mk.2.2.2.2))]) [14, 15, 16, 17, 18, 19, 0, 1, 2, 3, 4, 5, 6, 7, 8, 9, 10, 11, 12, 13] (by decide) rfl
  refine lv_aload_n hx hb dL_law_426 rfl (lv_at hl 2 rfl) ?_
  refine lv_aload_n hx hb dL_law_427 rfl (lv_at hl 0 rfl) ?_
  refine lv_iload_n hx hb dL_law_428 rfl (lv_at hl 3 rfl) ?_
  refine lv_iconst (v := 1) hx hb dL_law_429 (by decide) ?_
  refine lv_iadd hx hb dL_law_430 ?_
  refine lv_topi (fun z_7 ez_7 => ?_)
  obtain rfl : z_7 = nI (i + 1) := ez_7.trans (nI_add i 1)
  refine va_sld hx hb hX hbl hbA hS (vp_in_nI (show i + 1 < L by omega) (by omega)) dL_law_431 ?_
  refine lv_topi (fun z_8 ez_8 => ?_)
  obtain rfl : z_8 = xs (i + 1) := ez_8.trans (by rw [nI_clamp (by omega)])
  refine lv_i2l hx hb dL_law_432 rfl ?_
  refine lv_bipush (v := 32) hx hb dL_law_433 (by decide) ?_
  refine lv_lshl hx hb dL_law_435 rfl ?_
  refine lv_aload_n hx hb dL_law_436 rfl (lv_at hl 0 rfl) ?_
  refine lv_iload_n hx hb dL_law_437 rfl (lv_at hl 3 rfl) ?_
  refine lv_iconst (v := 2) hx hb dL_law_438 (by decide) ?_
  refine lv_iadd hx hb dL_law_439 ?_
  refine lv_topi (fun z_9 ez_9 => ?_)
  obtain rfl : z_9 = nI (i + 2) := ez_9.trans (nI_add i 2)
  refine va_sld hx hb hX hbl hbA hS (vp_in_nI (show i + 2 < L by omega) (by omega)) dL_law_440 ?_
  refine lv_topi (fun z_10 ez_10 => ?_)
  obtain rfl : z_10 = xs (i + 2) := ez_10.trans (by rw [nI_clamp (by omega)])
  refine lv_i2l hx hb dL_law_441 rfl ?_
  refine lv_ldc2 (v := 4294967295) hx hb hown (hts (.constantLong RL 13 4294967295) (by decide +kernel)) dL_law_442 ?_
  refine lv_land hx hb dL_law_445 ?_
  refine lv_lor hx hb dL_law_446 ?_
  refine lv_topl (fun ky2 eky2 => ?_)
  obtain rfl : ky = ky2 := eky.trans eky2.symm
  refine lv_aload_n hx hb dL_law_447 rfl (lv_at hl 0 rfl) ?_
  refine lv_iload_n hx hb dL_law_448 rfl (lv_at hl 3 rfl) ?_
  refine lv_iconst (v := 3) hx hb dL_law_449 (by decide) ?_
  refine lv_iadd hx hb dL_law_450 ?_
  refine lv_topi (fun z_11 ez_11 => ?_)
  obtain rfl : z_11 = nI (i + 3) := ez_11.trans (nI_add i 3)
  refine va_sld hx hb hX hbl hbA hS (vp_in_nI (show i + 3 < L by omega) (by omega)) dL_law_451 ?_
  refine lv_topi (fun z_12 ez_12 => ?_)
  obtain rfl : z_12 = xs (i + 3) := ez_12.trans (by rw [nI_clamp (by omega)])
  refine wr_calli (wr := [(x, .inr (1, [.ref r, .ref k, .long f1.1, .int f1.2])), (r, .inr (0, [.ref a1, .ref a2, .ref a3, .ref a4, .int (nI v.1)])), (a1, .inl (cL, 150, .inr (.inl v.2.1))), (a2, .inl (cI, 150, .inl v.2.2.1)), (a3, .inl (cL, 150, .inr (.inl v.2.2.2.1))), (a4, .inl (cI, 150, .inl v.2.2.2.2)), (k, .inr (0, [.ref b1, .ref b2, .ref b3, .ref b4, .int (nI vk.1)])), (b1, .inl (cL, 150, .inr (.inl vk.2.1))), (b2, .inl (cI, 150, .inl vk.2.2.1)), (b3, .inl (cL, 150, .inr (.inl vk.2.2.2.1))), (b4, .inl (cI, 150, .inl vk.2.2.2.2))]) (va_runV (As := [.long ky, .int (xs (i + 3))]) (rest := [.int r1]) ⟨hx, hb, hml, hown, hts⟩ (m_seek l dC dI _ cL cI y p1 p2 p3 p4 p5 p6 p7 p8 mv mk f (sim_mok hI.1 hI.2.2.1) ky (xs (i + 3)) j (fun o => sim_mpl hI.2.2.1 (hj o).1)) (cwV 2 hts gL_law_X2_seek rfl rfl rfl (by decide +kernel) ⟨Nat.le_of_ble_eq_true rfl, Nat.le_of_ble_eq_true rfl⟩) (wr_preV hK (hP.sub (ws' := [(y, .inr (2, [.int (nI mv.1), .int (nI mk.1), .ref p1, .ref p2, .ref p3, .ref p4, .ref p5, .ref p6, .ref p7, .ref p8, .long f.1, .int f.2])), (p1, .inl (cL, 151, .inr (.inl mv.2.1))), (p2, .inl (cL, 151, .inr (.inl mv.2.2.2.1))), (p3, .inl (cL, 150, .inr (.inl mk.2.1))), (p4, .inl (cL, 150, .inr (.inl mk.2.2.2.1))), (p5, .inl (cI, 151, .inl mv.2.2.1)), (p6, .inl (cI, 151, .inl mv.2.2.2.2)), (p7, .inl (cI, 150, .inl mk.2.2.1)), (p8, .inl (cI, 150, .inl mk.2.2.2.2))]) [11, 12, 13, 14, 15, 16, 17, 18, 19] rfl) (hD.sub (ws' := [(y, .inr (2, [.int (nI mv.1), .int (nI mk.1), .ref p1, .ref p2, .ref p3, .ref p4, .ref p5, .ref p6, .ref p7, .ref p8, .long f.1, .int f.2])), (p1, .inl (cL, 151, .inr (.inl mv.2.1))), (p2, .inl (cL, 151, .inr (.inl mv.2.2.2.1))), (p3, .inl (cL, 150, .inr (.inl mk.2.1))), (p4, .inl (cL, 150, .inr (.inl mk.2.2.2.1))), (p5, .inl (cI, 151, .inl mv.2.2.1)), (p6, .inl (cI, 151, .inl mv.2.2.2.2)), (p7, .inl (cI, 150, .inl mk.2.2.1)), (p8, .inl (cI, 150, .inl mk.2.2.2.2))]) [11, 12, 13, 14, 15, 16, 17, 18, 19] (by decide) rfl) (ci := 2) (q0 := 0) rfl rfl) rfl rfl hl.1 rfl (lv_room (Nat.le_of_ble_eq_true rfl)) dL_law_452 ⟨Nat.le_of_ble_eq_true rfl, Nat.le_of_ble_eq_true rfl⟩) hP hD hS hA [11, 12, 13, 14, 15, 16, 17, 18, 19] [0, 1, 2, 3, 4, 5, 6, 7, 8, 9, 10] rfl rfl (by decide) (by decide) (fun r2 w1 H locs hr2 hP hD hS => ?_)
  replace hP := hP.sub (ws' := [(x, .inr (1, [.ref r, .ref k, .long f1.1, .int f1.2])), (r, .inr (0, [.ref a1, .ref a2, .ref a3, .ref a4, .int (nI v.1)])), (a1, .inl (cL, 150, .inr (.inl v.2.1))), (a2, .inl (cI, 150, .inl v.2.2.1)), (a3, .inl (cL, 150, .inr (.inl v.2.2.2.1))), (a4, .inl (cI, 150, .inl v.2.2.2.2)), (k, .inr (0, [.ref b1, .ref b2, .ref b3, .ref b4, .int (nI vk.1)])), (b1, .inl (cL, 150, .inr (.inl vk.2.1))), (b2, .inl (cI, 150, .inl vk.2.2.1)), (b3, .inl (cL, 150, .inr (.inl vk.2.2.2.1))), (b4, .inl (cI, 150, .inl vk.2.2.2.2)), (y, .inr (2, [.int (nI mv.1), .int (nI mk.1), .ref p1, .ref p2, .ref p3, .ref p4, .ref p5, .ref p6, .ref p7, .ref p8, .long w1.1, .int w1.2])), (p1, .inl (cL, 151, .inr (.inl mv.2.1))), (p2, .inl (cL, 151, .inr (.inl mv.2.2.2.1))), (p3, .inl (cL, 150, .inr (.inl mk.2.1))), (p4, .inl (cL, 150, .inr (.inl mk.2.2.2.1))), (p5, .inl (cI, 151, .inl mv.2.2.1)), (p6, .inl (cI, 151, .inl mv.2.2.2.2)), (p7, .inl (cI, 150, .inl mk.2.2.1)), (p8, .inl (cI, 150, .inl mk.2.2.2.2))]) [0, 1, 2, 3, 4, 5, 6, 7, 8, 9, 10, 11, 12, 13, 14, 15, 16, 17, 18, 19] rfl
  replace hD := hD.sub (ws' := [(x, .inr (1, [.ref r, .ref k, .long f1.1, .int f1.2])), (r, .inr (0, [.ref a1, .ref a2, .ref a3, .ref a4, .int (nI v.1)])), (a1, .inl (cL, 150, .inr (.inl v.2.1))), (a2, .inl (cI, 150, .inl v.2.2.1)), (a3, .inl (cL, 150, .inr (.inl v.2.2.2.1))), (a4, .inl (cI, 150, .inl v.2.2.2.2)), (k, .inr (0, [.ref b1, .ref b2, .ref b3, .ref b4, .int (nI vk.1)])), (b1, .inl (cL, 150, .inr (.inl vk.2.1))), (b2, .inl (cI, 150, .inl vk.2.2.1)), (b3, .inl (cL, 150, .inr (.inl vk.2.2.2.1))), (b4, .inl (cI, 150, .inl vk.2.2.2.2)), (y, .inr (2, [.int (nI mv.1), .int (nI mk.1), .ref p1, .ref p2, .ref p3, .ref p4, .ref p5, .ref p6, .ref p7, .ref p8, .long w1.1, .int w1.2])), (p1, .inl (cL, 151, .inr (.inl mv.2.1))), (p2, .inl (cL, 151, .inr (.inl mv.2.2.2.1))), (p3, .inl (cL, 150, .inr (.inl mk.2.1))), (p4, .inl (cL, 150, .inr (.inl mk.2.2.2.1))), (p5, .inl (cI, 151, .inl mv.2.2.1)), (p6, .inl (cI, 151, .inl mv.2.2.2.2)), (p7, .inl (cI, 150, .inl mk.2.2.1)), (p8, .inl (cI, 150, .inl mk.2.2.2.2))]) [0, 1, 2, 3, 4, 5, 6, 7, 8, 9, 10, 11, 12, 13, 14, 15, 16, 17, 18, 19] (by decide) rfl
  have hE := eq_seek hI.1 hI.2.2.1 hr1 hr2
  refine lv_icmp_eq (tgt := 585) hx hb dL_law_455 (by decide) (fun c_455 => ?_) (fun c_455 => absurd hE.1 c_455)
  obtain ⟨-, rfl⟩ := hE
  exact K v vk mv mk f1 H locs ls hI hP hD hS (lv_sub hl [0, 1, 2, 3] rfl)
end
section
set_option maxHeartbeats 4000000 in
set_option maxRecDepth 100000 in
/-- before -/
theorem lw_c5 {p : Program} {l : Launch} {e : Env} {s : State} {m : MethodId} {below : List Frame} {meth : Method} {c : Code} {b L : Nat} {xs : Nat → Int32} (hL : L ≤ 3584) (C0 : lw_At p s m meth c b L xs) {dC : Nat → ClassId} {dI : Nat → Nat → Nat} {cL cI : ClassId} (hK : va_K (dC, dI) vwCl (kS cL cI) s) {x r k a1 a2 a3 a4 b1 b2 b3 b4 y p1 p2 p3 p4 p5 p6 p7 p8 : Nat} {i : Nat} (hi : i + 7 ≤ L) (K : LK p l e s m below meth c b dC dI cL cI x r k a1 a2 a3 a4 b1 b2 b3 b4 y p1 p2 p3 p4 p5 p6 p7 p8 i 585) : LK p l e s m below meth c b dC dI cL cI x r k a1 a2 a3 a4 b1 b2 b3 b4 y p1 p2 p3 p4 p5 p6 p7 p8 i 460 := by
  intro v vk mv mk f H locs ls hI hP hD hS hl
  obtain ⟨hx, hb, hr, hml, hown, hts, hX, hbl, hlocks, hgv⟩ := C0
  have hA : ∀ q : Nat, s.heap.size ≤ q → (fun q : Nat => s.heap.size ≤ q) q := fun _ h => h
  have hbA : ¬ (fun q : Nat => s.heap.size ≤ q) b := Nat.not_le.mpr hbl
  have htl : ∀ w ∈ wsL_law, w.before #[Value.ref b] s = true := fun w h => hts w (wsL_law_in w h)
  replace hown : s.vm.findClass RL = some m.cls := hown
  replace hP : va_P (dC, dI) vwCl [(x, .inr (1, [.ref r, .ref k, .long f.1, .int f.2])), (r, .inr (0, [.ref a1, .ref a2, .ref a3, .ref a4, .int (nI v.1)])), (a1, .inl (cL, 150, .inr (.inl v.2.1))), (a2, .inl (cI, 150, .inl v.2.2.1)), (a3, .inl (cL, 150, .inr (.inl v.2.2.2.1))), (a4, .inl (cI, 150, .inl v.2.2.2.2)), (k, .inr (0, [.ref b1, .ref b2, .ref b3, .ref b4, .int (nI vk.1)])), (b1, .inl (cL, 150, .inr (.inl vk.2.1))), (b2, .inl (cI, 150, .inl vk.2.2.1)), (b3, .inl (cL, 150, .inr (.inl vk.2.2.2.1))), (b4, .inl (cI, 150, .inl vk.2.2.2.2)), (y, .inr (2, [.int (nI mv.1), .int (nI mk.1), .ref p1, .ref p2, .ref p3, .ref p4, .ref p5, .ref p6, .ref p7, .ref p8, .long f.1, .int f.2])), (p1, .inl (cL, 151, .inr (.inl mv.2.1))), (p2, .inl (cL, 151, .inr (.inl mv.2.2.2.1))), (p3, .inl (cL, 150, .inr (.inl mk.2.1))), (p4, .inl (cL, 150, .inr (.inl mk.2.2.2.1))), (p5, .inl (cI, 151, .inl mv.2.2.1)), (p6, .inl (cI, 151, .inl mv.2.2.2.2)), (p7, .inl (cI, 150, .inl mk.2.2.1)), (p8, .inl (cI, 150, .inl mk.2.2.2.2))] H := hP
  replace hD : va_D (fun q : Nat => s.heap.size ≤ q) [(x, .inr (1, [.ref r, .ref k, .long f.1, .int f.2])), (r, .inr (0, [.ref a1, .ref a2, .ref a3, .ref a4, .int (nI v.1)])), (a1, .inl (cL, 150, .inr (.inl v.2.1))), (a2, .inl (cI, 150, .inl v.2.2.1)), (a3, .inl (cL, 150, .inr (.inl v.2.2.2.1))), (a4, .inl (cI, 150, .inl v.2.2.2.2)), (k, .inr (0, [.ref b1, .ref b2, .ref b3, .ref b4, .int (nI vk.1)])), (b1, .inl (cL, 150, .inr (.inl vk.2.1))), (b2, .inl (cI, 150, .inl vk.2.2.1)), (b3, .inl (cL, 150, .inr (.inl vk.2.2.2.1))), (b4, .inl (cI, 150, .inl vk.2.2.2.2)), (y, .inr (2, [.int (nI mv.1), .int (nI mk.1), .ref p1, .ref p2, .ref p3, .ref p4, .ref p5, .ref p6, .ref p7, .ref p8, .long f.1, .int f.2])), (p1, .inl (cL, 151, .inr (.inl mv.2.1))), (p2, .inl (cL, 151, .inr (.inl mv.2.2.2.1))), (p3, .inl (cL, 150, .inr (.inl mk.2.1))), (p4, .inl (cL, 150, .inr (.inl mk.2.2.2.1))), (p5, .inl (cI, 151, .inl mv.2.2.1)), (p6, .inl (cI, 151, .inl mv.2.2.2.2)), (p7, .inl (cI, 150, .inl mk.2.2.1)), (p8, .inl (cI, 150, .inl mk.2.2.2.2))] := hD
  have hi31 : i + 7 < 2 ^ 31 := by omega
  refine lv_aload_n hx hb dL_law_460 rfl (lv_at hl 1 rfl) ?_
  refine lv_aload_n hx hb dL_law_461 rfl (lv_at hl 0 rfl) ?_
  refine lv_iload_n hx hb dL_law_462 rfl (lv_at hl 3 rfl) ?_
  refine lv_iconst (v := 1) hx hb dL_law_463 (by decide) ?_
  refine lv_iadd hx hb dL_law_464 ?_
  refine lv_topi (fun z_1 ez_1 => ?_)
  obtain rfl : z_1 = nI (i + 1) := ez_1.trans (nI_add i 1)
  refine va_sld hx hb hX hbl hbA hS (vp_in_nI (show i + 1 < L by omega) (by omega)) dL_law_465 ?_
  refine lv_topi (fun z_2 ez_2 => ?_)
  obtain rfl : z_2 = xs (i + 1) := ez_2.trans (by rw [nI_clamp (by omega)])
  refine lv_i2l hx hb dL_law_466 rfl ?_
  refine lv_bipush (v := 32) hx hb dL_law_467 (by decide) ?_
  refine lv_lshl hx hb dL_law_469 rfl ?_
  refine lv_aload_n hx hb dL_law_470 rfl (lv_at hl 0 rfl) ?_
  refine lv_iload_n hx hb dL_law_471 rfl (lv_at hl 3 rfl) ?_
  refine lv_iconst (v := 2) hx hb dL_law_472 (by decide) ?_
  refine lv_iadd hx hb dL_law_473 ?_
  refine lv_topi (fun z_3 ez_3 => ?_)
  obtain rfl : z_3 = nI (i + 2) := ez_3.trans (nI_add i 2)
  refine va_sld hx hb hX hbl hbA hS (vp_in_nI (show i + 2 < L by omega) (by omega)) dL_law_474 ?_
  refine lv_topi (fun z_4 ez_4 => ?_)
  obtain rfl : z_4 = xs (i + 2) := ez_4.trans (by rw [nI_clamp (by omega)])
  refine lv_i2l hx hb dL_law_475 rfl ?_
  refine lv_ldc2 (v := 4294967295) hx hb hown (hts (.constantLong RL 13 4294967295) (by decide +kernel)) dL_law_476 ?_
  refine lv_land hx hb dL_law_479 ?_
  refine lv_lor hx hb dL_law_480 ?_
  refine lv_topl (fun ky eky => ?_)
  refine lv_aload_n hx hb dL_law_481 rfl (lv_at hl 0 rfl) ?_
  refine lv_iload_n hx hb dL_law_482 rfl (lv_at hl 3 rfl) ?_
  refine lv_iconst (v := 3) hx hb dL_law_483 (by decide) ?_
  refine lv_iadd hx hb dL_law_484 ?_
  refine lv_topi (fun z_5 ez_5 => ?_)
  obtain rfl : z_5 = nI (i + 3) := ez_5.trans (nI_add i 3)
  refine va_sld hx hb hX hbl hbA hS (vp_in_nI (show i + 3 < L by omega) (by omega)) dL_law_485 ?_
  refine lv_topi (fun z_6 ez_6 => ?_)
  obtain rfl : z_6 = xs (i + 3) := ez_6.trans (by rw [nI_clamp (by omega)])
  obtain ⟨j, hj⟩ := ex_j hI.1 ky (xs (i + 3))
  refine wr_calli (wr := [(k, .inr (0, [.ref b1, .ref b2, .ref b3, .ref b4, .int (nI vk.1)])), (b1, .inl (cL, 150, .inr (.inl vk.2.1))), (b2, .inl (cI, 150, .inl vk.2.2.1)), (b3, .inl (cL, 150, .inr (.inl vk.2.2.2.1))), (b4, .inl (cI, 150, .inl vk.2.2.2.2)), (y, .inr (2, [.int (nI mv.1), .int (nI mk.1), .ref p1, .ref p2, .ref p3, .ref p4, .ref p5, .ref p6, .ref p7, .ref p8, .long f.1, .int f.2])), (p1, .inl (cL, 151, .inr (.inl mv.2.1))), (p2, .inl (cL, 151, .inr (.inl mv.2.2.2.1))), (p3, .inl (cL, 150, .inr (.inl mk.2.1))), (p4, .inl (cL, 150, .inr (.inl mk.2.2.2.1))), (p5, .inl (cI, 151, .inl mv.2.2.1)), (p6, .inl (cI, 151, .inl mv.2.2.2.2)), (p7, .inl (cI, 150, .inl mk.2.2.1)), (p8, .inl (cI, 150, .inl mk.2.2.2.2))]) (va_runV (As := [.long ky, .int (xs (i + 3))]) (rest := []) ⟨hx, hb, hml, hown, hts⟩ (c_before l dC dI _ cL cI x r k a1 a2 a3 a4 f.1 f.2 v.1 v.2.1 v.2.2.1 v.2.2.2.1 v.2.2.2.2 hI.1.1 ky (xs (i + 3)) j (fun o => (hj o).1)) (cwV 2 htl gL_law_X1_before rfl rfl rfl (by decide +kernel) ⟨Nat.le_of_ble_eq_true rfl, Nat.le_of_ble_eq_true rfl⟩) (wr_preV hK (hP.sub (ws' := [(x, .inr (1, [.ref r, .ref k, .long f.1, .int f.2])), (r, .inr (0, [.ref a1, .ref a2, .ref a3, .ref a4, .int (nI v.1)])), (a1, .inl (cL, 150, .inr (.inl v.2.1))), (a2, .inl (cI, 150, .inl v.2.2.1)), (a3, .inl (cL, 150, .inr (.inl v.2.2.2.1))), (a4, .inl (cI, 150, .inl v.2.2.2.2))]) [0, 1, 2, 3, 4, 5] rfl) (hD.sub (ws' := [(x, .inr (1, [.ref r, .ref k, .long f.1, .int f.2])), (r, .inr (0, [.ref a1, .ref a2, .ref a3, .ref a4, .int (nI v.1)])), (a1, .inl (cL, 150, .inr (.inl v.2.1))), (a2, .inl (cI, 150, .inl v.2.2.1)), (a3, .inl (cL, 150, .inr (.inl v.2.2.2.1))), (a4, .inl (cI, 150, .inl v.2.2.2.2))]) [0, 1, 2, 3, 4, 5] (by decide) rfl) (ci := 1) (q0 := 0) rfl rfl) rfl rfl hl.1 rfl (lv_room (Nat.le_of_ble_eq_true rfl)) dL_law_486 ⟨Nat.le_of_ble_eq_true rfl, Nat.le_of_ble_eq_true rfl⟩) hP hD hS hA [0, 1, 2, 3, 4, 5] [6, 7, 8, 9, 10, 11, 12, 13, 14, 15, 16, 17, 18, 19] rfl rfl (by decide) (by decide) (fun r1 f1 H locs hr1 hP hD hS => ?_)
  replace hP := hP.sub (ws' := [(x, .inr (1, [.ref r, .ref k, .long f1.1, .int f1.2])), (r, .inr (0, [.ref a1, .ref a2, .ref a3, .ref a4, .int (nI v.1)])), (a1, .inl (cL, 150, .inr (.inl v.2.1))), (a2, .inl (cI, 150, .inl v.2.2.1)), (a3, .inl (cL, 150, .inr (.inl v.2.2.2.1))), (a4, .inl (cI, 150, .inl v.2.2.2.2)), (k, .inr (0, [.ref b1, .ref b2, .ref b3, .ref b4, .int (nI vk.1)])), (b1, .inl (cL, 150, .inr (.inl vk.2.1))), (b2, .inl (cI, 150, .inl vk.2.2.1)), (b3, .inl (cL, 150, .inr (.inl vk.2.2.2.1))), (b4, .inl (cI, 150, .inl vk.2.2.2.2)), (y, .inr (2, [.int (nI mv.1), .int (nI mk.1), .ref p1, .ref p2, .ref p3, .ref p4, .ref p5, .ref p6, .ref p7, .ref p8, .long f.1, .int f.2])), (p1, .inl (cL, 151, .inr (.inl mv.2.1))), (p2, .inl (cL, 151, .inr (.inl mv.2.2.2.1))), (p3, .inl (cL, 150, .inr (.inl mk.2.1))), (p4, .inl (cL, 150, .inr (.inl mk.2.2.2.1))), (p5, .inl (cI, 151, .inl mv.2.2.1)), (p6, .inl (cI, 151, .inl mv.2.2.2.2)), (p7, .inl (cI, 150, .inl mk.2.2.1)), (p8, .inl (cI, 150, .inl mk.2.2.2.2))]) [14, 15, 16, 17, 18, 19, 0, 1, 2, 3, 4, 5, 6, 7, 8, 9, 10, 11, 12, 13] rfl
  replace hD := hD.sub (ws' := [(x, .inr (1, [.ref r, .ref k, .long f1.1, .int f1.2])), (r, .inr (0, [.ref a1, .ref a2, .ref a3, .ref a4, .int (nI v.1)])), (a1, .inl (cL, 150, .inr (.inl v.2.1))), (a2, .inl (cI, 150, .inl v.2.2.1)), (a3, .inl (cL, 150, .inr (.inl v.2.2.2.1))), (a4, .inl (cI, 150, .inl v.2.2.2.2)), (k, .inr (0, [.ref b1, .ref b2, .ref b3, .ref b4, .int (nI vk.1)])), (b1, .inl (cL, 150, .inr (.inl vk.2.1))), (b2, .inl (cI, 150, .inl vk.2.2.1)), (b3, .inl (cL, 150, .inr (.inl vk.2.2.2.1))), (b4, .inl (cI, 150, .inl vk.2.2.2.2)), (y, .inr (2, [.int (nI mv.1), .int (nI mk.1), .ref p1, .ref p2, .ref p3, .ref p4, .ref p5, .ref p6, .ref p7, .ref p8, .long f.1, .int f.2])), (p1, .inl (cL, 151, .inr (.inl mv.2.1))), (p2, .inl (cL, 151, .inr (.inl mv.2.2.2.1))), (p3, .inl (cL, 150, .inr (.inl mk.2.1))), (p4, .inl (cL, 150, .inr (.inl mk.2.2.2.1))), (p5, .inl (cI, 151, .inl mv.2.2.1)), (p6, .inl (cI, 151, .inl mv.2.2.2.2)), (p7, .inl (cI, 150, .inl mk.2.2.1)), (p8, .inl (cI, 150, .inl mk.2.2.2.2))]) [14, 15, 16, 17, 18, 19, 0, 1, 2, 3, 4, 5, 6, 7, 8, 9, 10, 11, 12, 13] (by decide) rfl
  refine lv_aload_n hx hb dL_law_489 rfl (lv_at hl 2 rfl) ?_
  refine lv_aload_n hx hb dL_law_490 rfl (lv_at hl 0 rfl) ?_
  refine lv_iload_n hx hb dL_law_491 rfl (lv_at hl 3 rfl) ?_
  refine lv_iconst (v := 1) hx hb dL_law_492 (by decide) ?_
  refine lv_iadd hx hb dL_law_493 ?_
  refine lv_topi (fun z_7 ez_7 => ?_)
  obtain rfl : z_7 = nI (i + 1) := ez_7.trans (nI_add i 1)
  refine va_sld hx hb hX hbl hbA hS (vp_in_nI (show i + 1 < L by omega) (by omega)) dL_law_494 ?_
  refine lv_topi (fun z_8 ez_8 => ?_)
  obtain rfl : z_8 = xs (i + 1) := ez_8.trans (by rw [nI_clamp (by omega)])
  refine lv_i2l hx hb dL_law_495 rfl ?_
  refine lv_bipush (v := 32) hx hb dL_law_496 (by decide) ?_
  refine lv_lshl hx hb dL_law_498 rfl ?_
  refine lv_aload_n hx hb dL_law_499 rfl (lv_at hl 0 rfl) ?_
  refine lv_iload_n hx hb dL_law_500 rfl (lv_at hl 3 rfl) ?_
  refine lv_iconst (v := 2) hx hb dL_law_501 (by decide) ?_
  refine lv_iadd hx hb dL_law_502 ?_
  refine lv_topi (fun z_9 ez_9 => ?_)
  obtain rfl : z_9 = nI (i + 2) := ez_9.trans (nI_add i 2)
  refine va_sld hx hb hX hbl hbA hS (vp_in_nI (show i + 2 < L by omega) (by omega)) dL_law_503 ?_
  refine lv_topi (fun z_10 ez_10 => ?_)
  obtain rfl : z_10 = xs (i + 2) := ez_10.trans (by rw [nI_clamp (by omega)])
  refine lv_i2l hx hb dL_law_504 rfl ?_
  refine lv_ldc2 (v := 4294967295) hx hb hown (hts (.constantLong RL 13 4294967295) (by decide +kernel)) dL_law_505 ?_
  refine lv_land hx hb dL_law_508 ?_
  refine lv_lor hx hb dL_law_509 ?_
  refine lv_topl (fun ky2 eky2 => ?_)
  obtain rfl : ky = ky2 := eky.trans eky2.symm
  refine lv_aload_n hx hb dL_law_510 rfl (lv_at hl 0 rfl) ?_
  refine lv_iload_n hx hb dL_law_511 rfl (lv_at hl 3 rfl) ?_
  refine lv_iconst (v := 3) hx hb dL_law_512 (by decide) ?_
  refine lv_iadd hx hb dL_law_513 ?_
  refine lv_topi (fun z_11 ez_11 => ?_)
  obtain rfl : z_11 = nI (i + 3) := ez_11.trans (nI_add i 3)
  refine va_sld hx hb hX hbl hbA hS (vp_in_nI (show i + 3 < L by omega) (by omega)) dL_law_514 ?_
  refine lv_topi (fun z_12 ez_12 => ?_)
  obtain rfl : z_12 = xs (i + 3) := ez_12.trans (by rw [nI_clamp (by omega)])
  refine wr_calli (wr := [(x, .inr (1, [.ref r, .ref k, .long f1.1, .int f1.2])), (r, .inr (0, [.ref a1, .ref a2, .ref a3, .ref a4, .int (nI v.1)])), (a1, .inl (cL, 150, .inr (.inl v.2.1))), (a2, .inl (cI, 150, .inl v.2.2.1)), (a3, .inl (cL, 150, .inr (.inl v.2.2.2.1))), (a4, .inl (cI, 150, .inl v.2.2.2.2)), (k, .inr (0, [.ref b1, .ref b2, .ref b3, .ref b4, .int (nI vk.1)])), (b1, .inl (cL, 150, .inr (.inl vk.2.1))), (b2, .inl (cI, 150, .inl vk.2.2.1)), (b3, .inl (cL, 150, .inr (.inl vk.2.2.2.1))), (b4, .inl (cI, 150, .inl vk.2.2.2.2))]) (va_runV (As := [.long ky, .int (xs (i + 3))]) (rest := [.int r1]) ⟨hx, hb, hml, hown, hts⟩ (m_before l dC dI _ cL cI y p1 p2 p3 p4 p5 p6 p7 p8 mv mk f (sim_mok hI.1 hI.2.2.1) ky (xs (i + 3)) j (fun o => sim_mpl hI.2.2.1 (hj o).1)) (cwV 2 hts gL_law_X2_before rfl rfl rfl (by decide +kernel) ⟨Nat.le_of_ble_eq_true rfl, Nat.le_of_ble_eq_true rfl⟩) (wr_preV hK (hP.sub (ws' := [(y, .inr (2, [.int (nI mv.1), .int (nI mk.1), .ref p1, .ref p2, .ref p3, .ref p4, .ref p5, .ref p6, .ref p7, .ref p8, .long f.1, .int f.2])), (p1, .inl (cL, 151, .inr (.inl mv.2.1))), (p2, .inl (cL, 151, .inr (.inl mv.2.2.2.1))), (p3, .inl (cL, 150, .inr (.inl mk.2.1))), (p4, .inl (cL, 150, .inr (.inl mk.2.2.2.1))), (p5, .inl (cI, 151, .inl mv.2.2.1)), (p6, .inl (cI, 151, .inl mv.2.2.2.2)), (p7, .inl (cI, 150, .inl mk.2.2.1)), (p8, .inl (cI, 150, .inl mk.2.2.2.2))]) [11, 12, 13, 14, 15, 16, 17, 18, 19] rfl) (hD.sub (ws' := [(y, .inr (2, [.int (nI mv.1), .int (nI mk.1), .ref p1, .ref p2, .ref p3, .ref p4, .ref p5, .ref p6, .ref p7, .ref p8, .long f.1, .int f.2])), (p1, .inl (cL, 151, .inr (.inl mv.2.1))), (p2, .inl (cL, 151, .inr (.inl mv.2.2.2.1))), (p3, .inl (cL, 150, .inr (.inl mk.2.1))), (p4, .inl (cL, 150, .inr (.inl mk.2.2.2.1))), (p5, .inl (cI, 151, .inl mv.2.2.1)), (p6, .inl (cI, 151, .inl mv.2.2.2.2)), (p7, .inl (cI, 150, .inl mk.2.2.1)), (p8, .inl (cI, 150, .inl mk.2.2.2.2))]) [11, 12, 13, 14, 15, 16, 17, 18, 19] (by decide) rfl) (ci := 2) (q0 := 0) rfl rfl) rfl rfl hl.1 rfl (lv_room (Nat.le_of_ble_eq_true rfl)) dL_law_515 ⟨Nat.le_of_ble_eq_true rfl, Nat.le_of_ble_eq_true rfl⟩) hP hD hS hA [11, 12, 13, 14, 15, 16, 17, 18, 19] [0, 1, 2, 3, 4, 5, 6, 7, 8, 9, 10] rfl rfl (by decide) (by decide) (fun r2 w1 H locs hr2 hP hD hS => ?_)
  replace hP := hP.sub (ws' := [(x, .inr (1, [.ref r, .ref k, .long f1.1, .int f1.2])), (r, .inr (0, [.ref a1, .ref a2, .ref a3, .ref a4, .int (nI v.1)])), (a1, .inl (cL, 150, .inr (.inl v.2.1))), (a2, .inl (cI, 150, .inl v.2.2.1)), (a3, .inl (cL, 150, .inr (.inl v.2.2.2.1))), (a4, .inl (cI, 150, .inl v.2.2.2.2)), (k, .inr (0, [.ref b1, .ref b2, .ref b3, .ref b4, .int (nI vk.1)])), (b1, .inl (cL, 150, .inr (.inl vk.2.1))), (b2, .inl (cI, 150, .inl vk.2.2.1)), (b3, .inl (cL, 150, .inr (.inl vk.2.2.2.1))), (b4, .inl (cI, 150, .inl vk.2.2.2.2)), (y, .inr (2, [.int (nI mv.1), .int (nI mk.1), .ref p1, .ref p2, .ref p3, .ref p4, .ref p5, .ref p6, .ref p7, .ref p8, .long w1.1, .int w1.2])), (p1, .inl (cL, 151, .inr (.inl mv.2.1))), (p2, .inl (cL, 151, .inr (.inl mv.2.2.2.1))), (p3, .inl (cL, 150, .inr (.inl mk.2.1))), (p4, .inl (cL, 150, .inr (.inl mk.2.2.2.1))), (p5, .inl (cI, 151, .inl mv.2.2.1)), (p6, .inl (cI, 151, .inl mv.2.2.2.2)), (p7, .inl (cI, 150, .inl mk.2.2.1)), (p8, .inl (cI, 150, .inl mk.2.2.2.2))]) [0, 1, 2, 3, 4, 5, 6, 7, 8, 9, 10, 11, 12, 13, 14, 15, 16, 17, 18, 19] rfl
  replace hD := hD.sub (ws' := [(x, .inr (1, [.ref r, .ref k, .long f1.1, .int f1.2])), (r, .inr (0, [.ref a1, .ref a2, .ref a3, .ref a4, .int (nI v.1)])), (a1, .inl (cL, 150, .inr (.inl v.2.1))), (a2, .inl (cI, 150, .inl v.2.2.1)), (a3, .inl (cL, 150, .inr (.inl v.2.2.2.1))), (a4, .inl (cI, 150, .inl v.2.2.2.2)), (k, .inr (0, [.ref b1, .ref b2, .ref b3, .ref b4, .int (nI vk.1)])), (b1, .inl (cL, 150, .inr (.inl vk.2.1))), (b2, .inl (cI, 150, .inl vk.2.2.1)), (b3, .inl (cL, 150, .inr (.inl vk.2.2.2.1))), (b4, .inl (cI, 150, .inl vk.2.2.2.2)), (y, .inr (2, [.int (nI mv.1), .int (nI mk.1), .ref p1, .ref p2, .ref p3, .ref p4, .ref p5, .ref p6, .ref p7, .ref p8, .long w1.1, .int w1.2])), (p1, .inl (cL, 151, .inr (.inl mv.2.1))), (p2, .inl (cL, 151, .inr (.inl mv.2.2.2.1))), (p3, .inl (cL, 150, .inr (.inl mk.2.1))), (p4, .inl (cL, 150, .inr (.inl mk.2.2.2.1))), (p5, .inl (cI, 151, .inl mv.2.2.1)), (p6, .inl (cI, 151, .inl mv.2.2.2.2)), (p7, .inl (cI, 150, .inl mk.2.2.1)), (p8, .inl (cI, 150, .inl mk.2.2.2.2))]) [0, 1, 2, 3, 4, 5, 6, 7, 8, 9, 10, 11, 12, 13, 14, 15, 16, 17, 18, 19] (by decide) rfl
  have hE := eq_seek hI.1 hI.2.2.1 hr1 hr2
  refine lv_icmp_eq (tgt := 585) hx hb dL_law_518 (by decide) (fun c_518 => ?_) (fun c_518 => absurd hE.1 c_518)
  obtain ⟨-, rfl⟩ := hE
  exact K v vk mv mk f1 H locs ls hI hP hD hS (lv_sub hl [0, 1, 2, 3] rfl)
end
section
set_option maxHeartbeats 4000000 in
set_option maxRecDepth 100000 in
/-- foundSize -/
theorem lw_c6 {p : Program} {l : Launch} {e : Env} {s : State} {m : MethodId} {below : List Frame} {meth : Method} {c : Code} {b L : Nat} {xs : Nat → Int32} (hL : L ≤ 3584) (C0 : lw_At p s m meth c b L xs) {dC : Nat → ClassId} {dI : Nat → Nat → Nat} {cL cI : ClassId} (hK : va_K (dC, dI) vwCl (kS cL cI) s) {x r k a1 a2 a3 a4 b1 b2 b3 b4 y p1 p2 p3 p4 p5 p6 p7 p8 : Nat} {i : Nat} (hi : i + 7 ≤ L) (K : LK p l e s m below meth c b dC dI cL cI x r k a1 a2 a3 a4 b1 b2 b3 b4 y p1 p2 p3 p4 p5 p6 p7 p8 i 585) : LK p l e s m below meth c b dC dI cL cI x r k a1 a2 a3 a4 b1 b2 b3 b4 y p1 p2 p3 p4 p5 p6 p7 p8 i 523 := by
  intro v vk mv mk f H locs ls hI hP hD hS hl
  obtain ⟨hx, hb, hr, hml, hown, hts, hX, hbl, hlocks, hgv⟩ := C0
  have hA : ∀ q : Nat, s.heap.size ≤ q → (fun q : Nat => s.heap.size ≤ q) q := fun _ h => h
  have hbA : ¬ (fun q : Nat => s.heap.size ≤ q) b := Nat.not_le.mpr hbl
  have htl : ∀ w ∈ wsL_law, w.before #[Value.ref b] s = true := fun w h => hts w (wsL_law_in w h)
  replace hown : s.vm.findClass RL = some m.cls := hown
  replace hP : va_P (dC, dI) vwCl [(x, .inr (1, [.ref r, .ref k, .long f.1, .int f.2])), (r, .inr (0, [.ref a1, .ref a2, .ref a3, .ref a4, .int (nI v.1)])), (a1, .inl (cL, 150, .inr (.inl v.2.1))), (a2, .inl (cI, 150, .inl v.2.2.1)), (a3, .inl (cL, 150, .inr (.inl v.2.2.2.1))), (a4, .inl (cI, 150, .inl v.2.2.2.2)), (k, .inr (0, [.ref b1, .ref b2, .ref b3, .ref b4, .int (nI vk.1)])), (b1, .inl (cL, 150, .inr (.inl vk.2.1))), (b2, .inl (cI, 150, .inl vk.2.2.1)), (b3, .inl (cL, 150, .inr (.inl vk.2.2.2.1))), (b4, .inl (cI, 150, .inl vk.2.2.2.2)), (y, .inr (2, [.int (nI mv.1), .int (nI mk.1), .ref p1, .ref p2, .ref p3, .ref p4, .ref p5, .ref p6, .ref p7, .ref p8, .long f.1, .int f.2])), (p1, .inl (cL, 151, .inr (.inl mv.2.1))), (p2, .inl (cL, 151, .inr (.inl mv.2.2.2.1))), (p3, .inl (cL, 150, .inr (.inl mk.2.1))), (p4, .inl (cL, 150, .inr (.inl mk.2.2.2.1))), (p5, .inl (cI, 151, .inl mv.2.2.1)), (p6, .inl (cI, 151, .inl mv.2.2.2.2)), (p7, .inl (cI, 150, .inl mk.2.2.1)), (p8, .inl (cI, 150, .inl mk.2.2.2.2))] H := hP
  replace hD : va_D (fun q : Nat => s.heap.size ≤ q) [(x, .inr (1, [.ref r, .ref k, .long f.1, .int f.2])), (r, .inr (0, [.ref a1, .ref a2, .ref a3, .ref a4, .int (nI v.1)])), (a1, .inl (cL, 150, .inr (.inl v.2.1))), (a2, .inl (cI, 150, .inl v.2.2.1)), (a3, .inl (cL, 150, .inr (.inl v.2.2.2.1))), (a4, .inl (cI, 150, .inl v.2.2.2.2)), (k, .inr (0, [.ref b1, .ref b2, .ref b3, .ref b4, .int (nI vk.1)])), (b1, .inl (cL, 150, .inr (.inl vk.2.1))), (b2, .inl (cI, 150, .inl vk.2.2.1)), (b3, .inl (cL, 150, .inr (.inl vk.2.2.2.1))), (b4, .inl (cI, 150, .inl vk.2.2.2.2)), (y, .inr (2, [.int (nI mv.1), .int (nI mk.1), .ref p1, .ref p2, .ref p3, .ref p4, .ref p5, .ref p6, .ref p7, .ref p8, .long f.1, .int f.2])), (p1, .inl (cL, 151, .inr (.inl mv.2.1))), (p2, .inl (cL, 151, .inr (.inl mv.2.2.2.1))), (p3, .inl (cL, 150, .inr (.inl mk.2.1))), (p4, .inl (cL, 150, .inr (.inl mk.2.2.2.1))), (p5, .inl (cI, 151, .inl mv.2.2.1)), (p6, .inl (cI, 151, .inl mv.2.2.2.2)), (p7, .inl (cI, 150, .inl mk.2.2.1)), (p8, .inl (cI, 150, .inl mk.2.2.2.2))] := hD
  have hi31 : i + 7 < 2 ^ 31 := by omega
  refine lv_aload_n hx hb dL_law_523 rfl (lv_at hl 1 rfl) ?_
  refine vp_callSi (va_Run.run (va_runV (As := []) (rest := []) ⟨hx, hb, hml, hown, hts⟩ (c_foundSize l dC dI cL cI x r k a1 a2 a3 a4 f.1 f.2 v.1 v.2.1 v.2.2.1 v.2.2.2.1 v.2.2.2.2) (cwV 0 htl gL_law_X1_foundSize rfl rfl rfl (by decide +kernel) ⟨Nat.le_of_ble_eq_true rfl, Nat.le_of_ble_eq_true rfl⟩) (rd_preV hK (hP.sub (ws' := [(x, .inr (1, [.ref r, .ref k, .long f.1, .int f.2])), (r, .inr (0, [.ref a1, .ref a2, .ref a3, .ref a4, .int (nI v.1)])), (a1, .inl (cL, 150, .inr (.inl v.2.1))), (a2, .inl (cI, 150, .inl v.2.2.1)), (a3, .inl (cL, 150, .inr (.inl v.2.2.2.1))), (a4, .inl (cI, 150, .inl v.2.2.2.2))]) [0, 1, 2, 3, 4, 5] rfl) (ci := 1) (q0 := 0) rfl rfl) rfl rfl hl.1 rfl (lv_room (Nat.le_of_ble_eq_true rfl)) dL_law_524 ⟨Nat.le_of_ble_eq_true rfl, Nat.le_of_ble_eq_true rfl⟩)) (fun r1 hr1 => ?_)
  refine lv_aload_n hx hb dL_law_527 rfl (lv_at hl 2 rfl) ?_
  refine vp_callSi (va_Run.run (va_runV (As := []) (rest := [.int r1]) ⟨hx, hb, hml, hown, hts⟩ (m_foundSize l dC dI cL cI y p1 p2 p3 p4 p5 p6 p7 p8 mv mk f) (cwV 0 hts gL_law_X2_foundSize rfl rfl rfl (by decide +kernel) ⟨Nat.le_of_ble_eq_true rfl, Nat.le_of_ble_eq_true rfl⟩) (rd_preV hK (hP.sub (ws' := [(y, .inr (2, [.int (nI mv.1), .int (nI mk.1), .ref p1, .ref p2, .ref p3, .ref p4, .ref p5, .ref p6, .ref p7, .ref p8, .long f.1, .int f.2])), (p1, .inl (cL, 151, .inr (.inl mv.2.1))), (p2, .inl (cL, 151, .inr (.inl mv.2.2.2.1))), (p3, .inl (cL, 150, .inr (.inl mk.2.1))), (p4, .inl (cL, 150, .inr (.inl mk.2.2.2.1))), (p5, .inl (cI, 151, .inl mv.2.2.1)), (p6, .inl (cI, 151, .inl mv.2.2.2.2)), (p7, .inl (cI, 150, .inl mk.2.2.1)), (p8, .inl (cI, 150, .inl mk.2.2.2.2))]) [11, 12, 13, 14, 15, 16, 17, 18, 19] rfl) (ci := 2) (q0 := 0) rfl rfl) rfl rfl hl.1 rfl (lv_room (Nat.le_of_ble_eq_true rfl)) dL_law_528 ⟨Nat.le_of_ble_eq_true rfl, Nat.le_of_ble_eq_true rfl⟩)) (fun r2 hr2 => ?_)
  have hE : r1 = r2 := hr1.trans hr2.symm
  refine lv_icmp_eq (tgt := 585) hx hb dL_law_531 (by decide) (fun c_531 => ?_) (fun c_531 => absurd hE c_531)
  exact K v vk mv mk f H locs ls hI hP hD hS (lv_sub hl [0, 1, 2, 3] rfl)
end
section
set_option maxHeartbeats 4000000 in
set_option maxRecDepth 100000 in
/-- found -/
theorem lw_c7 {p : Program} {l : Launch} {e : Env} {s : State} {m : MethodId} {below : List Frame} {meth : Method} {c : Code} {b L : Nat} {xs : Nat → Int32} (hL : L ≤ 3584) (C0 : lw_At p s m meth c b L xs) {dC : Nat → ClassId} {dI : Nat → Nat → Nat} {cL cI : ClassId} (hK : va_K (dC, dI) vwCl (kS cL cI) s) {x r k a1 a2 a3 a4 b1 b2 b3 b4 y p1 p2 p3 p4 p5 p6 p7 p8 : Nat} {i : Nat} (hi : i + 7 ≤ L) (K : LK p l e s m below meth c b dC dI cL cI x r k a1 a2 a3 a4 b1 b2 b3 b4 y p1 p2 p3 p4 p5 p6 p7 p8 i 585) : LK p l e s m below meth c b dC dI cL cI x r k a1 a2 a3 a4 b1 b2 b3 b4 y p1 p2 p3 p4 p5 p6 p7 p8 i 536 := by
  intro v vk mv mk f H locs ls hI hP hD hS hl
  obtain ⟨hx, hb, hr, hml, hown, hts, hX, hbl, hlocks, hgv⟩ := C0
  have hA : ∀ q : Nat, s.heap.size ≤ q → (fun q : Nat => s.heap.size ≤ q) q := fun _ h => h
  have hbA : ¬ (fun q : Nat => s.heap.size ≤ q) b := Nat.not_le.mpr hbl
  have htl : ∀ w ∈ wsL_law, w.before #[Value.ref b] s = true := fun w h => hts w (wsL_law_in w h)
  replace hown : s.vm.findClass RL = some m.cls := hown
  replace hP : va_P (dC, dI) vwCl [(x, .inr (1, [.ref r, .ref k, .long f.1, .int f.2])), (r, .inr (0, [.ref a1, .ref a2, .ref a3, .ref a4, .int (nI v.1)])), (a1, .inl (cL, 150, .inr (.inl v.2.1))), (a2, .inl (cI, 150, .inl v.2.2.1)), (a3, .inl (cL, 150, .inr (.inl v.2.2.2.1))), (a4, .inl (cI, 150, .inl v.2.2.2.2)), (k, .inr (0, [.ref b1, .ref b2, .ref b3, .ref b4, .int (nI vk.1)])), (b1, .inl (cL, 150, .inr (.inl vk.2.1))), (b2, .inl (cI, 150, .inl vk.2.2.1)), (b3, .inl (cL, 150, .inr (.inl vk.2.2.2.1))), (b4, .inl (cI, 150, .inl vk.2.2.2.2)), (y, .inr (2, [.int (nI mv.1), .int (nI mk.1), .ref p1, .ref p2, .ref p3, .ref p4, .ref p5, .ref p6, .ref p7, .ref p8, .long f.1, .int f.2])), (p1, .inl (cL, 151, .inr (.inl mv.2.1))), (p2, .inl (cL, 151, .inr (.inl mv.2.2.2.1))), (p3, .inl (cL, 150, .inr (.inl mk.2.1))), (p4, .inl (cL, 150, .inr (.inl mk.2.2.2.1))), (p5, .inl (cI, 151, .inl mv.2.2.1)), (p6, .inl (cI, 151, .inl mv.2.2.2.2)), (p7, .inl (cI, 150, .inl mk.2.2.1)), (p8, .inl (cI, 150, .inl mk.2.2.2.2))] H := hP
  replace hD : va_D (fun q : Nat => s.heap.size ≤ q) [(x, .inr (1, [.ref r, .ref k, .long f.1, .int f.2])), (r, .inr (0, [.ref a1, .ref a2, .ref a3, .ref a4, .int (nI v.1)])), (a1, .inl (cL, 150, .inr (.inl v.2.1))), (a2, .inl (cI, 150, .inl v.2.2.1)), (a3, .inl (cL, 150, .inr (.inl v.2.2.2.1))), (a4, .inl (cI, 150, .inl v.2.2.2.2)), (k, .inr (0, [.ref b1, .ref b2, .ref b3, .ref b4, .int (nI vk.1)])), (b1, .inl (cL, 150, .inr (.inl vk.2.1))), (b2, .inl (cI, 150, .inl vk.2.2.1)), (b3, .inl (cL, 150, .inr (.inl vk.2.2.2.1))), (b4, .inl (cI, 150, .inl vk.2.2.2.2)), (y, .inr (2, [.int (nI mv.1), .int (nI mk.1), .ref p1, .ref p2, .ref p3, .ref p4, .ref p5, .ref p6, .ref p7, .ref p8, .long f.1, .int f.2])), (p1, .inl (cL, 151, .inr (.inl mv.2.1))), (p2, .inl (cL, 151, .inr (.inl mv.2.2.2.1))), (p3, .inl (cL, 150, .inr (.inl mk.2.1))), (p4, .inl (cL, 150, .inr (.inl mk.2.2.2.1))), (p5, .inl (cI, 151, .inl mv.2.2.1)), (p6, .inl (cI, 151, .inl mv.2.2.2.2)), (p7, .inl (cI, 150, .inl mk.2.2.1)), (p8, .inl (cI, 150, .inl mk.2.2.2.2))] := hD
  have hi31 : i + 7 < 2 ^ 31 := by omega
  refine lv_aload_n hx hb dL_law_536 rfl (lv_at hl 1 rfl) ?_
  refine vp_callSl (va_Run.run (va_runV (As := []) (rest := []) ⟨hx, hb, hml, hown, hts⟩ (c_found l dC dI cL cI x r k a1 a2 a3 a4 f.1 f.2 v.1 v.2.1 v.2.2.1 v.2.2.2.1 v.2.2.2.2) (cwV 0 htl gL_law_X1_found rfl rfl rfl (by decide +kernel) ⟨Nat.le_of_ble_eq_true rfl, Nat.le_of_ble_eq_true rfl⟩) (rd_preV hK (hP.sub (ws' := [(x, .inr (1, [.ref r, .ref k, .long f.1, .int f.2])), (r, .inr (0, [.ref a1, .ref a2, .ref a3, .ref a4, .int (nI v.1)])), (a1, .inl (cL, 150, .inr (.inl v.2.1))), (a2, .inl (cI, 150, .inl v.2.2.1)), (a3, .inl (cL, 150, .inr (.inl v.2.2.2.1))), (a4, .inl (cI, 150, .inl v.2.2.2.2))]) [0, 1, 2, 3, 4, 5] rfl) (ci := 1) (q0 := 0) rfl rfl) rfl rfl hl.1 rfl (lv_room (Nat.le_of_ble_eq_true rfl)) dL_law_537 ⟨Nat.le_of_ble_eq_true rfl, Nat.le_of_ble_eq_true rfl⟩)) (fun r1 hr1 => ?_)
  refine lv_aload_n hx hb dL_law_540 rfl (lv_at hl 2 rfl) ?_
  refine vp_callSl (va_Run.run (va_runV (As := []) (rest := [.long r1]) ⟨hx, hb, hml, hown, hts⟩ (m_found l dC dI cL cI y p1 p2 p3 p4 p5 p6 p7 p8 mv mk f) (cwV 0 hts gL_law_X2_found rfl rfl rfl (by decide +kernel) ⟨Nat.le_of_ble_eq_true rfl, Nat.le_of_ble_eq_true rfl⟩) (rd_preV hK (hP.sub (ws' := [(y, .inr (2, [.int (nI mv.1), .int (nI mk.1), .ref p1, .ref p2, .ref p3, .ref p4, .ref p5, .ref p6, .ref p7, .ref p8, .long f.1, .int f.2])), (p1, .inl (cL, 151, .inr (.inl mv.2.1))), (p2, .inl (cL, 151, .inr (.inl mv.2.2.2.1))), (p3, .inl (cL, 150, .inr (.inl mk.2.1))), (p4, .inl (cL, 150, .inr (.inl mk.2.2.2.1))), (p5, .inl (cI, 151, .inl mv.2.2.1)), (p6, .inl (cI, 151, .inl mv.2.2.2.2)), (p7, .inl (cI, 150, .inl mk.2.2.1)), (p8, .inl (cI, 150, .inl mk.2.2.2.2))]) [11, 12, 13, 14, 15, 16, 17, 18, 19] rfl) (ci := 2) (q0 := 0) rfl rfl) rfl rfl hl.1 rfl (lv_room (Nat.le_of_ble_eq_true rfl)) dL_law_541 ⟨Nat.le_of_ble_eq_true rfl, Nat.le_of_ble_eq_true rfl⟩)) (fun r2 hr2 => ?_)
  have hE : r1 = r2 := hr1.trans hr2.symm
  refine W.lcmp hx hb dL_law_544 ?_
  refine lv_if_eq (tgt := 585) hx hb dL_law_545 (by decide) (fun c_545 => ?_) (fun c_545 => absurd ((lg_cmp_eq _ _).mpr hE) c_545)
  exact K v vk mv mk f H locs ls hI hP hD hS (lv_sub hl [0, 1, 2, 3] rfl)
end
section
set_option maxHeartbeats 4000000 in
set_option maxRecDepth 100000 in
/-- count -/
theorem lw_c8 {p : Program} {l : Launch} {e : Env} {s : State} {m : MethodId} {below : List Frame} {meth : Method} {c : Code} {b L : Nat} {xs : Nat → Int32} (hL : L ≤ 3584) (C0 : lw_At p s m meth c b L xs) {dC : Nat → ClassId} {dI : Nat → Nat → Nat} {cL cI : ClassId} (hK : va_K (dC, dI) vwCl (kS cL cI) s) {x r k a1 a2 a3 a4 b1 b2 b3 b4 y p1 p2 p3 p4 p5 p6 p7 p8 : Nat} {i : Nat} (hi : i + 7 ≤ L) (K : LK p l e s m below meth c b dC dI cL cI x r k a1 a2 a3 a4 b1 b2 b3 b4 y p1 p2 p3 p4 p5 p6 p7 p8 i 585) : LK p l e s m below meth c b dC dI cL cI x r k a1 a2 a3 a4 b1 b2 b3 b4 y p1 p2 p3 p4 p5 p6 p7 p8 i 550 := by
  intro v vk mv mk f H locs ls hI hP hD hS hl
  obtain ⟨hx, hb, hr, hml, hown, hts, hX, hbl, hlocks, hgv⟩ := C0
  have hA : ∀ q : Nat, s.heap.size ≤ q → (fun q : Nat => s.heap.size ≤ q) q := fun _ h => h
  have hbA : ¬ (fun q : Nat => s.heap.size ≤ q) b := Nat.not_le.mpr hbl
  have htl : ∀ w ∈ wsL_law, w.before #[Value.ref b] s = true := fun w h => hts w (wsL_law_in w h)
  replace hown : s.vm.findClass RL = some m.cls := hown
  replace hP : va_P (dC, dI) vwCl [(x, .inr (1, [.ref r, .ref k, .long f.1, .int f.2])), (r, .inr (0, [.ref a1, .ref a2, .ref a3, .ref a4, .int (nI v.1)])), (a1, .inl (cL, 150, .inr (.inl v.2.1))), (a2, .inl (cI, 150, .inl v.2.2.1)), (a3, .inl (cL, 150, .inr (.inl v.2.2.2.1))), (a4, .inl (cI, 150, .inl v.2.2.2.2)), (k, .inr (0, [.ref b1, .ref b2, .ref b3, .ref b4, .int (nI vk.1)])), (b1, .inl (cL, 150, .inr (.inl vk.2.1))), (b2, .inl (cI, 150, .inl vk.2.2.1)), (b3, .inl (cL, 150, .inr (.inl vk.2.2.2.1))), (b4, .inl (cI, 150, .inl vk.2.2.2.2)), (y, .inr (2, [.int (nI mv.1), .int (nI mk.1), .ref p1, .ref p2, .ref p3, .ref p4, .ref p5, .ref p6, .ref p7, .ref p8, .long f.1, .int f.2])), (p1, .inl (cL, 151, .inr (.inl mv.2.1))), (p2, .inl (cL, 151, .inr (.inl mv.2.2.2.1))), (p3, .inl (cL, 150, .inr (.inl mk.2.1))), (p4, .inl (cL, 150, .inr (.inl mk.2.2.2.1))), (p5, .inl (cI, 151, .inl mv.2.2.1)), (p6, .inl (cI, 151, .inl mv.2.2.2.2)), (p7, .inl (cI, 150, .inl mk.2.2.1)), (p8, .inl (cI, 150, .inl mk.2.2.2.2))] H := hP
  replace hD : va_D (fun q : Nat => s.heap.size ≤ q) [(x, .inr (1, [.ref r, .ref k, .long f.1, .int f.2])), (r, .inr (0, [.ref a1, .ref a2, .ref a3, .ref a4, .int (nI v.1)])), (a1, .inl (cL, 150, .inr (.inl v.2.1))), (a2, .inl (cI, 150, .inl v.2.2.1)), (a3, .inl (cL, 150, .inr (.inl v.2.2.2.1))), (a4, .inl (cI, 150, .inl v.2.2.2.2)), (k, .inr (0, [.ref b1, .ref b2, .ref b3, .ref b4, .int (nI vk.1)])), (b1, .inl (cL, 150, .inr (.inl vk.2.1))), (b2, .inl (cI, 150, .inl vk.2.2.1)), (b3, .inl (cL, 150, .inr (.inl vk.2.2.2.1))), (b4, .inl (cI, 150, .inl vk.2.2.2.2)), (y, .inr (2, [.int (nI mv.1), .int (nI mk.1), .ref p1, .ref p2, .ref p3, .ref p4, .ref p5, .ref p6, .ref p7, .ref p8, .long f.1, .int f.2])), (p1, .inl (cL, 151, .inr (.inl mv.2.1))), (p2, .inl (cL, 151, .inr (.inl mv.2.2.2.1))), (p3, .inl (cL, 150, .inr (.inl mk.2.1))), (p4, .inl (cL, 150, .inr (.inl mk.2.2.2.1))), (p5, .inl (cI, 151, .inl mv.2.2.1)), (p6, .inl (cI, 151, .inl mv.2.2.2.2)), (p7, .inl (cI, 150, .inl mk.2.2.1)), (p8, .inl (cI, 150, .inl mk.2.2.2.2))] := hD
  have hi31 : i + 7 < 2 ^ 31 := by omega
  refine lv_aload_n hx hb dL_law_550 rfl (lv_at hl 1 rfl) ?_
  refine vp_callSi (va_Run.run (va_runV (As := []) (rest := []) ⟨hx, hb, hml, hown, hts⟩ (c_count l dC dI cL cI x r k a1 a2 a3 a4 f.1 f.2 v.1 v.2.1 v.2.2.1 v.2.2.2.1 v.2.2.2.2) (cwV 0 htl gL_law_X1_count rfl rfl rfl (by decide +kernel) ⟨Nat.le_of_ble_eq_true rfl, Nat.le_of_ble_eq_true rfl⟩) (rd_preV hK (hP.sub (ws' := [(x, .inr (1, [.ref r, .ref k, .long f.1, .int f.2])), (r, .inr (0, [.ref a1, .ref a2, .ref a3, .ref a4, .int (nI v.1)])), (a1, .inl (cL, 150, .inr (.inl v.2.1))), (a2, .inl (cI, 150, .inl v.2.2.1)), (a3, .inl (cL, 150, .inr (.inl v.2.2.2.1))), (a4, .inl (cI, 150, .inl v.2.2.2.2))]) [0, 1, 2, 3, 4, 5] rfl) (ci := 1) (q0 := 0) rfl rfl) rfl rfl hl.1 rfl (lv_room (Nat.le_of_ble_eq_true rfl)) dL_law_551 ⟨Nat.le_of_ble_eq_true rfl, Nat.le_of_ble_eq_true rfl⟩)) (fun r1 hr1 => ?_)
  refine lv_aload_n hx hb dL_law_554 rfl (lv_at hl 2 rfl) ?_
  refine vp_callSi (va_Run.run (va_runV (As := []) (rest := [.int r1]) ⟨hx, hb, hml, hown, hts⟩ (m_count l dC dI cL cI y p1 p2 p3 p4 p5 p6 p7 p8 mv mk f) (cwV 0 hts gL_law_X2_count rfl rfl rfl (by decide +kernel) ⟨Nat.le_of_ble_eq_true rfl, Nat.le_of_ble_eq_true rfl⟩) (rd_preV hK (hP.sub (ws' := [(y, .inr (2, [.int (nI mv.1), .int (nI mk.1), .ref p1, .ref p2, .ref p3, .ref p4, .ref p5, .ref p6, .ref p7, .ref p8, .long f.1, .int f.2])), (p1, .inl (cL, 151, .inr (.inl mv.2.1))), (p2, .inl (cL, 151, .inr (.inl mv.2.2.2.1))), (p3, .inl (cL, 150, .inr (.inl mk.2.1))), (p4, .inl (cL, 150, .inr (.inl mk.2.2.2.1))), (p5, .inl (cI, 151, .inl mv.2.2.1)), (p6, .inl (cI, 151, .inl mv.2.2.2.2)), (p7, .inl (cI, 150, .inl mk.2.2.1)), (p8, .inl (cI, 150, .inl mk.2.2.2.2))]) [11, 12, 13, 14, 15, 16, 17, 18, 19] rfl) (ci := 2) (q0 := 0) rfl rfl) rfl rfl hl.1 rfl (lv_room (Nat.le_of_ble_eq_true rfl)) dL_law_555 ⟨Nat.le_of_ble_eq_true rfl, Nat.le_of_ble_eq_true rfl⟩)) (fun r2 hr2 => ?_)
  have hE : r1 = r2 := by rw [hr1, hr2, hI.2.2.1.1]
  refine lv_icmp_eq (tgt := 585) hx hb dL_law_558 (by decide) (fun c_558 => ?_) (fun c_558 => absurd hE c_558)
  exact K v vk mv mk f H locs ls hI hP hD hS (lv_sub hl [0, 1, 2, 3] rfl)
end
section
set_option maxHeartbeats 4000000 in
set_option maxRecDepth 100000 in
/-- commit -/
theorem lw_c9 {p : Program} {l : Launch} {e : Env} {s : State} {m : MethodId} {below : List Frame} {meth : Method} {c : Code} {b L : Nat} {xs : Nat → Int32} (hL : L ≤ 3584) (C0 : lw_At p s m meth c b L xs) {dC : Nat → ClassId} {dI : Nat → Nat → Nat} {cL cI : ClassId} (hK : va_K (dC, dI) vwCl (kS cL cI) s) {x r k a1 a2 a3 a4 b1 b2 b3 b4 y p1 p2 p3 p4 p5 p6 p7 p8 : Nat} {i : Nat} (hi : i + 7 ≤ L) (K : LK p l e s m below meth c b dC dI cL cI x r k a1 a2 a3 a4 b1 b2 b3 b4 y p1 p2 p3 p4 p5 p6 p7 p8 i 585) : LK p l e s m below meth c b dC dI cL cI x r k a1 a2 a3 a4 b1 b2 b3 b4 y p1 p2 p3 p4 p5 p6 p7 p8 i 563 := by
  intro v vk mv mk f H locs ls hI hP hD hS hl
  obtain ⟨hx, hb, hr, hml, hown, hts, hX, hbl, hlocks, hgv⟩ := C0
  have hA : ∀ q : Nat, s.heap.size ≤ q → (fun q : Nat => s.heap.size ≤ q) q := fun _ h => h
  have hbA : ¬ (fun q : Nat => s.heap.size ≤ q) b := Nat.not_le.mpr hbl
  have htl : ∀ w ∈ wsL_law, w.before #[Value.ref b] s = true := fun w h => hts w (wsL_law_in w h)
  replace hown : s.vm.findClass RL = some m.cls := hown
  replace hP : va_P (dC, dI) vwCl [(x, .inr (1, [.ref r, .ref k, .long f.1, .int f.2])), (r, .inr (0, [.ref a1, .ref a2, .ref a3, .ref a4, .int (nI v.1)])), (a1, .inl (cL, 150, .inr (.inl v.2.1))), (a2, .inl (cI, 150, .inl v.2.2.1)), (a3, .inl (cL, 150, .inr (.inl v.2.2.2.1))), (a4, .inl (cI, 150, .inl v.2.2.2.2)), (k, .inr (0, [.ref b1, .ref b2, .ref b3, .ref b4, .int (nI vk.1)])), (b1, .inl (cL, 150, .inr (.inl vk.2.1))), (b2, .inl (cI, 150, .inl vk.2.2.1)), (b3, .inl (cL, 150, .inr (.inl vk.2.2.2.1))), (b4, .inl (cI, 150, .inl vk.2.2.2.2)), (y, .inr (2, [.int (nI mv.1), .int (nI mk.1), .ref p1, .ref p2, .ref p3, .ref p4, .ref p5, .ref p6, .ref p7, .ref p8, .long f.1, .int f.2])), (p1, .inl (cL, 151, .inr (.inl mv.2.1))), (p2, .inl (cL, 151, .inr (.inl mv.2.2.2.1))), (p3, .inl (cL, 150, .inr (.inl mk.2.1))), (p4, .inl (cL, 150, .inr (.inl mk.2.2.2.1))), (p5, .inl (cI, 151, .inl mv.2.2.1)), (p6, .inl (cI, 151, .inl mv.2.2.2.2)), (p7, .inl (cI, 150, .inl mk.2.2.1)), (p8, .inl (cI, 150, .inl mk.2.2.2.2))] H := hP
  replace hD : va_D (fun q : Nat => s.heap.size ≤ q) [(x, .inr (1, [.ref r, .ref k, .long f.1, .int f.2])), (r, .inr (0, [.ref a1, .ref a2, .ref a3, .ref a4, .int (nI v.1)])), (a1, .inl (cL, 150, .inr (.inl v.2.1))), (a2, .inl (cI, 150, .inl v.2.2.1)), (a3, .inl (cL, 150, .inr (.inl v.2.2.2.1))), (a4, .inl (cI, 150, .inl v.2.2.2.2)), (k, .inr (0, [.ref b1, .ref b2, .ref b3, .ref b4, .int (nI vk.1)])), (b1, .inl (cL, 150, .inr (.inl vk.2.1))), (b2, .inl (cI, 150, .inl vk.2.2.1)), (b3, .inl (cL, 150, .inr (.inl vk.2.2.2.1))), (b4, .inl (cI, 150, .inl vk.2.2.2.2)), (y, .inr (2, [.int (nI mv.1), .int (nI mk.1), .ref p1, .ref p2, .ref p3, .ref p4, .ref p5, .ref p6, .ref p7, .ref p8, .long f.1, .int f.2])), (p1, .inl (cL, 151, .inr (.inl mv.2.1))), (p2, .inl (cL, 151, .inr (.inl mv.2.2.2.1))), (p3, .inl (cL, 150, .inr (.inl mk.2.1))), (p4, .inl (cL, 150, .inr (.inl mk.2.2.2.1))), (p5, .inl (cI, 151, .inl mv.2.2.1)), (p6, .inl (cI, 151, .inl mv.2.2.2.2)), (p7, .inl (cI, 150, .inl mk.2.2.1)), (p8, .inl (cI, 150, .inl mk.2.2.2.2))] := hD
  have hi31 : i + 7 < 2 ^ 31 := by omega
  refine lv_aload_n hx hb dL_law_563 rfl (lv_at hl 1 rfl) ?_
  refine wr_callv (wr := [(y, .inr (2, [.int (nI mv.1), .int (nI mk.1), .ref p1, .ref p2, .ref p3, .ref p4, .ref p5, .ref p6, .ref p7, .ref p8, .long f.1, .int f.2])), (p1, .inl (cL, 151, .inr (.inl mv.2.1))), (p2, .inl (cL, 151, .inr (.inl mv.2.2.2.1))), (p3, .inl (cL, 150, .inr (.inl mk.2.1))), (p4, .inl (cL, 150, .inr (.inl mk.2.2.2.1))), (p5, .inl (cI, 151, .inl mv.2.2.1)), (p6, .inl (cI, 151, .inl mv.2.2.2.2)), (p7, .inl (cI, 150, .inl mk.2.2.1)), (p8, .inl (cI, 150, .inl mk.2.2.2.2))]) (va_runV (As := []) (rest := []) ⟨hx, hb, hml, hown, hts⟩ (c_commit l dC dI _ cL cI x r k a1 a2 a3 a4 b1 b2 b3 b4 f.1 f.2 v vk hI.1.1) (cwV 0 htl gL_law_X1_commit rfl rfl rfl (by decide +kernel) ⟨Nat.le_of_ble_eq_true rfl, Nat.le_of_ble_eq_true rfl⟩) (wr_preV hK (hP.sub (ws' := [(x, .inr (1, [.ref r, .ref k, .long f.1, .int f.2])), (r, .inr (0, [.ref a1, .ref a2, .ref a3, .ref a4, .int (nI v.1)])), (a1, .inl (cL, 150, .inr (.inl v.2.1))), (a2, .inl (cI, 150, .inl v.2.2.1)), (a3, .inl (cL, 150, .inr (.inl v.2.2.2.1))), (a4, .inl (cI, 150, .inl v.2.2.2.2)), (k, .inr (0, [.ref b1, .ref b2, .ref b3, .ref b4, .int (nI vk.1)])), (b1, .inl (cL, 150, .inr (.inl vk.2.1))), (b2, .inl (cI, 150, .inl vk.2.2.1)), (b3, .inl (cL, 150, .inr (.inl vk.2.2.2.1))), (b4, .inl (cI, 150, .inl vk.2.2.2.2))]) [0, 1, 2, 3, 4, 5, 6, 7, 8, 9, 10] rfl) (hD.sub (ws' := [(x, .inr (1, [.ref r, .ref k, .long f.1, .int f.2])), (r, .inr (0, [.ref a1, .ref a2, .ref a3, .ref a4, .int (nI v.1)])), (a1, .inl (cL, 150, .inr (.inl v.2.1))), (a2, .inl (cI, 150, .inl v.2.2.1)), (a3, .inl (cL, 150, .inr (.inl v.2.2.2.1))), (a4, .inl (cI, 150, .inl v.2.2.2.2)), (k, .inr (0, [.ref b1, .ref b2, .ref b3, .ref b4, .int (nI vk.1)])), (b1, .inl (cL, 150, .inr (.inl vk.2.1))), (b2, .inl (cI, 150, .inl vk.2.2.1)), (b3, .inl (cL, 150, .inr (.inl vk.2.2.2.1))), (b4, .inl (cI, 150, .inl vk.2.2.2.2))]) [0, 1, 2, 3, 4, 5, 6, 7, 8, 9, 10] (by decide) rfl) (ci := 1) (q0 := 0) rfl rfl) rfl rfl hl.1 rfl (lv_room (Nat.le_of_ble_eq_true rfl)) dL_law_564 ⟨Nat.le_of_ble_eq_true rfl, Nat.le_of_ble_eq_true rfl⟩) hP hD hS hA [0, 1, 2, 3, 4, 5, 6, 7, 8, 9, 10] [11, 12, 13, 14, 15, 16, 17, 18, 19] rfl rfl (by decide) (by decide) (fun v1 H locs hr1 hP hD hS => ?_)
  replace hP := hP.sub (ws' := [(x, .inr (1, [.ref r, .ref k, .long f.1, .int f.2])), (r, .inr (0, [.ref a1, .ref a2, .ref a3, .ref a4, .int (nI v.1)])), (a1, .inl (cL, 150, .inr (.inl v.2.1))), (a2, .inl (cI, 150, .inl v.2.2.1)), (a3, .inl (cL, 150, .inr (.inl v.2.2.2.1))), (a4, .inl (cI, 150, .inl v.2.2.2.2)), (k, .inr (0, [.ref b1, .ref b2, .ref b3, .ref b4, .int (nI v1.1)])), (b1, .inl (cL, 150, .inr (.inl v1.2.1))), (b2, .inl (cI, 150, .inl v1.2.2.1)), (b3, .inl (cL, 150, .inr (.inl v1.2.2.2.1))), (b4, .inl (cI, 150, .inl v1.2.2.2.2)), (y, .inr (2, [.int (nI mv.1), .int (nI mk.1), .ref p1, .ref p2, .ref p3, .ref p4, .ref p5, .ref p6, .ref p7, .ref p8, .long f.1, .int f.2])), (p1, .inl (cL, 151, .inr (.inl mv.2.1))), (p2, .inl (cL, 151, .inr (.inl mv.2.2.2.1))), (p3, .inl (cL, 150, .inr (.inl mk.2.1))), (p4, .inl (cL, 150, .inr (.inl mk.2.2.2.1))), (p5, .inl (cI, 151, .inl mv.2.2.1)), (p6, .inl (cI, 151, .inl mv.2.2.2.2)), (p7, .inl (cI, 150, .inl mk.2.2.1)), (p8, .inl (cI, 150, .inl mk.2.2.2.2))]) [9, 10, 11, 12, 13, 14, 15, 16, 17, 18, 19, 0, 1, 2, 3, 4, 5, 6, 7, 8] rfl
  replace hD := hD.sub (ws' := [(x, .inr (1, [.ref r, .ref k, .long f.1, .int f.2])), (r, .inr (0, [.ref a1, .ref a2, .ref a3, .ref a4, .int (nI v.1)])), (a1, .inl (cL, 150, .inr (.inl v.2.1))), (a2, .inl (cI, 150, .inl v.2.2.1)), (a3, .inl (cL, 150, .inr (.inl v.2.2.2.1))), (a4, .inl (cI, 150, .inl v.2.2.2.2)), (k, .inr (0, [.ref b1, .ref b2, .ref b3, .ref b4, .int (nI v1.1)])), (b1, .inl (cL, 150, .inr (.inl v1.2.1))), (b2, .inl (cI, 150, .inl v1.2.2.1)), (b3, .inl (cL, 150, .inr (.inl v1.2.2.2.1))), (b4, .inl (cI, 150, .inl v1.2.2.2.2)), (y, .inr (2, [.int (nI mv.1), .int (nI mk.1), .ref p1, .ref p2, .ref p3, .ref p4, .ref p5, .ref p6, .ref p7, .ref p8, .long f.1, .int f.2])), (p1, .inl (cL, 151, .inr (.inl mv.2.1))), (p2, .inl (cL, 151, .inr (.inl mv.2.2.2.1))), (p3, .inl (cL, 150, .inr (.inl mk.2.1))), (p4, .inl (cL, 150, .inr (.inl mk.2.2.2.1))), (p5, .inl (cI, 151, .inl mv.2.2.1)), (p6, .inl (cI, 151, .inl mv.2.2.2.2)), (p7, .inl (cI, 150, .inl mk.2.2.1)), (p8, .inl (cI, 150, .inl mk.2.2.2.2))]) [9, 10, 11, 12, 13, 14, 15, 16, 17, 18, 19, 0, 1, 2, 3, 4, 5, 6, 7, 8] (by decide) rfl
  refine lv_aload_n hx hb dL_law_567 rfl (lv_at hl 2 rfl) ?_
  refine wr_callv (wr := [(x, .inr (1, [.ref r, .ref k, .long f.1, .int f.2])), (r, .inr (0, [.ref a1, .ref a2, .ref a3, .ref a4, .int (nI v.1)])), (a1, .inl (cL, 150, .inr (.inl v.2.1))), (a2, .inl (cI, 150, .inl v.2.2.1)), (a3, .inl (cL, 150, .inr (.inl v.2.2.2.1))), (a4, .inl (cI, 150, .inl v.2.2.2.2)), (k, .inr (0, [.ref b1, .ref b2, .ref b3, .ref b4, .int (nI v1.1)])), (b1, .inl (cL, 150, .inr (.inl v1.2.1))), (b2, .inl (cI, 150, .inl v1.2.2.1)), (b3, .inl (cL, 150, .inr (.inl v1.2.2.2.1))), (b4, .inl (cI, 150, .inl v1.2.2.2.2))]) (va_runV (As := []) (rest := []) ⟨hx, hb, hml, hown, hts⟩ (m_commit l dC dI _ cL cI y p1 p2 p3 p4 p5 p6 p7 p8 mv mk f (sim_mok hI.1 hI.2.2.1).1) (cwV 0 hts gL_law_X2_commit rfl rfl rfl (by decide +kernel) ⟨Nat.le_of_ble_eq_true rfl, Nat.le_of_ble_eq_true rfl⟩) (wr_preV hK (hP.sub (ws' := [(y, .inr (2, [.int (nI mv.1), .int (nI mk.1), .ref p1, .ref p2, .ref p3, .ref p4, .ref p5, .ref p6, .ref p7, .ref p8, .long f.1, .int f.2])), (p1, .inl (cL, 151, .inr (.inl mv.2.1))), (p2, .inl (cL, 151, .inr (.inl mv.2.2.2.1))), (p3, .inl (cL, 150, .inr (.inl mk.2.1))), (p4, .inl (cL, 150, .inr (.inl mk.2.2.2.1))), (p5, .inl (cI, 151, .inl mv.2.2.1)), (p6, .inl (cI, 151, .inl mv.2.2.2.2)), (p7, .inl (cI, 150, .inl mk.2.2.1)), (p8, .inl (cI, 150, .inl mk.2.2.2.2))]) [11, 12, 13, 14, 15, 16, 17, 18, 19] rfl) (hD.sub (ws' := [(y, .inr (2, [.int (nI mv.1), .int (nI mk.1), .ref p1, .ref p2, .ref p3, .ref p4, .ref p5, .ref p6, .ref p7, .ref p8, .long f.1, .int f.2])), (p1, .inl (cL, 151, .inr (.inl mv.2.1))), (p2, .inl (cL, 151, .inr (.inl mv.2.2.2.1))), (p3, .inl (cL, 150, .inr (.inl mk.2.1))), (p4, .inl (cL, 150, .inr (.inl mk.2.2.2.1))), (p5, .inl (cI, 151, .inl mv.2.2.1)), (p6, .inl (cI, 151, .inl mv.2.2.2.2)), (p7, .inl (cI, 150, .inl mk.2.2.1)), (p8, .inl (cI, 150, .inl mk.2.2.2.2))]) [11, 12, 13, 14, 15, 16, 17, 18, 19] (by decide) rfl) (ci := 2) (q0 := 0) rfl rfl) rfl rfl hl.1 rfl (lv_room (Nat.le_of_ble_eq_true rfl)) dL_law_568 ⟨Nat.le_of_ble_eq_true rfl, Nat.le_of_ble_eq_true rfl⟩) hP hD hS hA [11, 12, 13, 14, 15, 16, 17, 18, 19] [0, 1, 2, 3, 4, 5, 6, 7, 8, 9, 10] rfl rfl (by decide) (by decide) (fun w1 H locs hr2 hP hD hS => ?_)
  replace hP := hP.sub (ws' := [(x, .inr (1, [.ref r, .ref k, .long f.1, .int f.2])), (r, .inr (0, [.ref a1, .ref a2, .ref a3, .ref a4, .int (nI v.1)])), (a1, .inl (cL, 150, .inr (.inl v.2.1))), (a2, .inl (cI, 150, .inl v.2.2.1)), (a3, .inl (cL, 150, .inr (.inl v.2.2.2.1))), (a4, .inl (cI, 150, .inl v.2.2.2.2)), (k, .inr (0, [.ref b1, .ref b2, .ref b3, .ref b4, .int (nI v1.1)])), (b1, .inl (cL, 150, .inr (.inl v1.2.1))), (b2, .inl (cI, 150, .inl v1.2.2.1)), (b3, .inl (cL, 150, .inr (.inl v1.2.2.2.1))), (b4, .inl (cI, 150, .inl v1.2.2.2.2)), (y, .inr (2, [.int (nI mv.1), .int (nI w1.1), .ref p1, .ref p2, .ref p3, .ref p4, .ref p5, .ref p6, .ref p7, .ref p8, .long f.1, .int f.2])), (p1, .inl (cL, 151, .inr (.inl mv.2.1))), (p2, .inl (cL, 151, .inr (.inl mv.2.2.2.1))), (p3, .inl (cL, 150, .inr (.inl w1.2.1))), (p4, .inl (cL, 150, .inr (.inl w1.2.2.2.1))), (p5, .inl (cI, 151, .inl mv.2.2.1)), (p6, .inl (cI, 151, .inl mv.2.2.2.2)), (p7, .inl (cI, 150, .inl w1.2.2.1)), (p8, .inl (cI, 150, .inl w1.2.2.2.2))]) [0, 1, 2, 3, 4, 5, 6, 7, 8, 9, 10, 11, 12, 13, 14, 15, 16, 17, 18, 19] rfl
  replace hD := hD.sub (ws' := [(x, .inr (1, [.ref r, .ref k, .long f.1, .int f.2])), (r, .inr (0, [.ref a1, .ref a2, .ref a3, .ref a4, .int (nI v.1)])), (a1, .inl (cL, 150, .inr (.inl v.2.1))), (a2, .inl (cI, 150, .inl v.2.2.1)), (a3, .inl (cL, 150, .inr (.inl v.2.2.2.1))), (a4, .inl (cI, 150, .inl v.2.2.2.2)), (k, .inr (0, [.ref b1, .ref b2, .ref b3, .ref b4, .int (nI v1.1)])), (b1, .inl (cL, 150, .inr (.inl v1.2.1))), (b2, .inl (cI, 150, .inl v1.2.2.1)), (b3, .inl (cL, 150, .inr (.inl v1.2.2.2.1))), (b4, .inl (cI, 150, .inl v1.2.2.2.2)), (y, .inr (2, [.int (nI mv.1), .int (nI w1.1), .ref p1, .ref p2, .ref p3, .ref p4, .ref p5, .ref p6, .ref p7, .ref p8, .long f.1, .int f.2])), (p1, .inl (cL, 151, .inr (.inl mv.2.1))), (p2, .inl (cL, 151, .inr (.inl mv.2.2.2.1))), (p3, .inl (cL, 150, .inr (.inl w1.2.1))), (p4, .inl (cL, 150, .inr (.inl w1.2.2.2.1))), (p5, .inl (cI, 151, .inl mv.2.2.1)), (p6, .inl (cI, 151, .inl mv.2.2.2.2)), (p7, .inl (cI, 150, .inl w1.2.2.1)), (p8, .inl (cI, 150, .inl w1.2.2.2.2))]) [0, 1, 2, 3, 4, 5, 6, 7, 8, 9, 10, 11, 12, 13, 14, 15, 16, 17, 18, 19] (by decide) rfl
  refine lv_goto (tgt := 585) hx hb dL_law_571 (by decide) ?_
  subst hr1
  subst hr2
  exact K v (rs_cpy v vk) mv (rs_cpy mv mk) f H locs ls ⟨hI.1, srt_cpy hI.1, hI.2.2.1, sim_cpy hI.2.2.1⟩ hP hD hS (lv_sub hl [0, 1, 2, 3] rfl)
end
section
set_option maxHeartbeats 4000000 in
set_option maxRecDepth 100000 in
/-- revert -/
theorem lw_c10 {p : Program} {l : Launch} {e : Env} {s : State} {m : MethodId} {below : List Frame} {meth : Method} {c : Code} {b L : Nat} {xs : Nat → Int32} (hL : L ≤ 3584) (C0 : lw_At p s m meth c b L xs) {dC : Nat → ClassId} {dI : Nat → Nat → Nat} {cL cI : ClassId} (hK : va_K (dC, dI) vwCl (kS cL cI) s) {x r k a1 a2 a3 a4 b1 b2 b3 b4 y p1 p2 p3 p4 p5 p6 p7 p8 : Nat} {i : Nat} (hi : i + 7 ≤ L) (K : LK p l e s m below meth c b dC dI cL cI x r k a1 a2 a3 a4 b1 b2 b3 b4 y p1 p2 p3 p4 p5 p6 p7 p8 i 585) : LK p l e s m below meth c b dC dI cL cI x r k a1 a2 a3 a4 b1 b2 b3 b4 y p1 p2 p3 p4 p5 p6 p7 p8 i 574 := by
  intro v vk mv mk f H locs ls hI hP hD hS hl
  obtain ⟨hx, hb, hr, hml, hown, hts, hX, hbl, hlocks, hgv⟩ := C0
  have hA : ∀ q : Nat, s.heap.size ≤ q → (fun q : Nat => s.heap.size ≤ q) q := fun _ h => h
  have hbA : ¬ (fun q : Nat => s.heap.size ≤ q) b := Nat.not_le.mpr hbl
  have htl : ∀ w ∈ wsL_law, w.before #[Value.ref b] s = true := fun w h => hts w (wsL_law_in w h)
  replace hown : s.vm.findClass RL = some m.cls := hown
  replace hP : va_P (dC, dI) vwCl [(x, .inr (1, [.ref r, .ref k, .long f.1, .int f.2])), (r, .inr (0, [.ref a1, .ref a2, .ref a3, .ref a4, .int (nI v.1)])), (a1, .inl (cL, 150, .inr (.inl v.2.1))), (a2, .inl (cI, 150, .inl v.2.2.1)), (a3, .inl (cL, 150, .inr (.inl v.2.2.2.1))), (a4, .inl (cI, 150, .inl v.2.2.2.2)), (k, .inr (0, [.ref b1, .ref b2, .ref b3, .ref b4, .int (nI vk.1)])), (b1, .inl (cL, 150, .inr (.inl vk.2.1))), (b2, .inl (cI, 150, .inl vk.2.2.1)), (b3, .inl (cL, 150, .inr (.inl vk.2.2.2.1))), (b4, .inl (cI, 150, .inl vk.2.2.2.2)), (y, .inr (2, [.int (nI mv.1), .int (nI mk.1), .ref p1, .ref p2, .ref p3, .ref p4, .ref p5, .ref p6, .ref p7, .ref p8, .long f.1, .int f.2])), (p1, .inl (cL, 151, .inr (.inl mv.2.1))), (p2, .inl (cL, 151, .inr (.inl mv.2.2.2.1))), (p3, .inl (cL, 150, .inr (.inl mk.2.1))), (p4, .inl (cL, 150, .inr (.inl mk.2.2.2.1))), (p5, .inl (cI, 151, .inl mv.2.2.1)), (p6, .inl (cI, 151, .inl mv.2.2.2.2)), (p7, .inl (cI, 150, .inl mk.2.2.1)), (p8, .inl (cI, 150, .inl mk.2.2.2.2))] H := hP
  replace hD : va_D (fun q : Nat => s.heap.size ≤ q) [(x, .inr (1, [.ref r, .ref k, .long f.1, .int f.2])), (r, .inr (0, [.ref a1, .ref a2, .ref a3, .ref a4, .int (nI v.1)])), (a1, .inl (cL, 150, .inr (.inl v.2.1))), (a2, .inl (cI, 150, .inl v.2.2.1)), (a3, .inl (cL, 150, .inr (.inl v.2.2.2.1))), (a4, .inl (cI, 150, .inl v.2.2.2.2)), (k, .inr (0, [.ref b1, .ref b2, .ref b3, .ref b4, .int (nI vk.1)])), (b1, .inl (cL, 150, .inr (.inl vk.2.1))), (b2, .inl (cI, 150, .inl vk.2.2.1)), (b3, .inl (cL, 150, .inr (.inl vk.2.2.2.1))), (b4, .inl (cI, 150, .inl vk.2.2.2.2)), (y, .inr (2, [.int (nI mv.1), .int (nI mk.1), .ref p1, .ref p2, .ref p3, .ref p4, .ref p5, .ref p6, .ref p7, .ref p8, .long f.1, .int f.2])), (p1, .inl (cL, 151, .inr (.inl mv.2.1))), (p2, .inl (cL, 151, .inr (.inl mv.2.2.2.1))), (p3, .inl (cL, 150, .inr (.inl mk.2.1))), (p4, .inl (cL, 150, .inr (.inl mk.2.2.2.1))), (p5, .inl (cI, 151, .inl mv.2.2.1)), (p6, .inl (cI, 151, .inl mv.2.2.2.2)), (p7, .inl (cI, 150, .inl mk.2.2.1)), (p8, .inl (cI, 150, .inl mk.2.2.2.2))] := hD
  have hi31 : i + 7 < 2 ^ 31 := by omega
  refine lv_aload_n hx hb dL_law_574 rfl (lv_at hl 1 rfl) ?_
  refine wr_callv (wr := [(y, .inr (2, [.int (nI mv.1), .int (nI mk.1), .ref p1, .ref p2, .ref p3, .ref p4, .ref p5, .ref p6, .ref p7, .ref p8, .long f.1, .int f.2])), (p1, .inl (cL, 151, .inr (.inl mv.2.1))), (p2, .inl (cL, 151, .inr (.inl mv.2.2.2.1))), (p3, .inl (cL, 150, .inr (.inl mk.2.1))), (p4, .inl (cL, 150, .inr (.inl mk.2.2.2.1))), (p5, .inl (cI, 151, .inl mv.2.2.1)), (p6, .inl (cI, 151, .inl mv.2.2.2.2)), (p7, .inl (cI, 150, .inl mk.2.2.1)), (p8, .inl (cI, 150, .inl mk.2.2.2.2))]) (va_runV (As := []) (rest := []) ⟨hx, hb, hml, hown, hts⟩ (c_revert l dC dI _ cL cI x r k a1 a2 a3 a4 b1 b2 b3 b4 f.1 f.2 v vk hI.2.1.1) (cwV 0 htl gL_law_X1_revert rfl rfl rfl (by decide +kernel) ⟨Nat.le_of_ble_eq_true rfl, Nat.le_of_ble_eq_true rfl⟩) (wr_preV hK (hP.sub (ws' := [(x, .inr (1, [.ref r, .ref k, .long f.1, .int f.2])), (r, .inr (0, [.ref a1, .ref a2, .ref a3, .ref a4, .int (nI v.1)])), (a1, .inl (cL, 150, .inr (.inl v.2.1))), (a2, .inl (cI, 150, .inl v.2.2.1)), (a3, .inl (cL, 150, .inr (.inl v.2.2.2.1))), (a4, .inl (cI, 150, .inl v.2.2.2.2)), (k, .inr (0, [.ref b1, .ref b2, .ref b3, .ref b4, .int (nI vk.1)])), (b1, .inl (cL, 150, .inr (.inl vk.2.1))), (b2, .inl (cI, 150, .inl vk.2.2.1)), (b3, .inl (cL, 150, .inr (.inl vk.2.2.2.1))), (b4, .inl (cI, 150, .inl vk.2.2.2.2))]) [0, 1, 2, 3, 4, 5, 6, 7, 8, 9, 10] rfl) (hD.sub (ws' := [(x, .inr (1, [.ref r, .ref k, .long f.1, .int f.2])), (r, .inr (0, [.ref a1, .ref a2, .ref a3, .ref a4, .int (nI v.1)])), (a1, .inl (cL, 150, .inr (.inl v.2.1))), (a2, .inl (cI, 150, .inl v.2.2.1)), (a3, .inl (cL, 150, .inr (.inl v.2.2.2.1))), (a4, .inl (cI, 150, .inl v.2.2.2.2)), (k, .inr (0, [.ref b1, .ref b2, .ref b3, .ref b4, .int (nI vk.1)])), (b1, .inl (cL, 150, .inr (.inl vk.2.1))), (b2, .inl (cI, 150, .inl vk.2.2.1)), (b3, .inl (cL, 150, .inr (.inl vk.2.2.2.1))), (b4, .inl (cI, 150, .inl vk.2.2.2.2))]) [0, 1, 2, 3, 4, 5, 6, 7, 8, 9, 10] (by decide) rfl) (ci := 1) (q0 := 0) rfl rfl) rfl rfl hl.1 rfl (lv_room (Nat.le_of_ble_eq_true rfl)) dL_law_575 ⟨Nat.le_of_ble_eq_true rfl, Nat.le_of_ble_eq_true rfl⟩) hP hD hS hA [0, 1, 2, 3, 4, 5, 6, 7, 8, 9, 10] [11, 12, 13, 14, 15, 16, 17, 18, 19] rfl rfl (by decide) (by decide) (fun v1 H locs hr1 hP hD hS => ?_)
  replace hP := hP.sub (ws' := [(x, .inr (1, [.ref r, .ref k, .long f.1, .int f.2])), (r, .inr (0, [.ref a1, .ref a2, .ref a3, .ref a4, .int (nI v1.1)])), (a1, .inl (cL, 150, .inr (.inl v1.2.1))), (a2, .inl (cI, 150, .inl v1.2.2.1)), (a3, .inl (cL, 150, .inr (.inl v1.2.2.2.1))), (a4, .inl (cI, 150, .inl v1.2.2.2.2)), (k, .inr (0, [.ref b1, .ref b2, .ref b3, .ref b4, .int (nI vk.1)])), (b1, .inl (cL, 150, .inr (.inl vk.2.1))), (b2, .inl (cI, 150, .inl vk.2.2.1)), (b3, .inl (cL, 150, .inr (.inl vk.2.2.2.1))), (b4, .inl (cI, 150, .inl vk.2.2.2.2)), (y, .inr (2, [.int (nI mv.1), .int (nI mk.1), .ref p1, .ref p2, .ref p3, .ref p4, .ref p5, .ref p6, .ref p7, .ref p8, .long f.1, .int f.2])), (p1, .inl (cL, 151, .inr (.inl mv.2.1))), (p2, .inl (cL, 151, .inr (.inl mv.2.2.2.1))), (p3, .inl (cL, 150, .inr (.inl mk.2.1))), (p4, .inl (cL, 150, .inr (.inl mk.2.2.2.1))), (p5, .inl (cI, 151, .inl mv.2.2.1)), (p6, .inl (cI, 151, .inl mv.2.2.2.2)), (p7, .inl (cI, 150, .inl mk.2.2.1)), (p8, .inl (cI, 150, .inl mk.2.2.2.2))]) [9, 10, 11, 12, 13, 14, 15, 16, 17, 18, 19, 0, 1, 2, 3, 4, 5, 6, 7, 8] rfl
  replace hD := hD.sub (ws' := [(x, .inr (1, [.ref r, .ref k, .long f.1, .int f.2])), (r, .inr (0, [.ref a1, .ref a2, .ref a3, .ref a4, .int (nI v1.1)])), (a1, .inl (cL, 150, .inr (.inl v1.2.1))), (a2, .inl (cI, 150, .inl v1.2.2.1)), (a3, .inl (cL, 150, .inr (.inl v1.2.2.2.1))), (a4, .inl (cI, 150, .inl v1.2.2.2.2)), (k, .inr (0, [.ref b1, .ref b2, .ref b3, .ref b4, .int (nI vk.1)])), (b1, .inl (cL, 150, .inr (.inl vk.2.1))), (b2, .inl (cI, 150, .inl vk.2.2.1)), (b3, .inl (cL, 150, .inr (.inl vk.2.2.2.1))), (b4, .inl (cI, 150, .inl vk.2.2.2.2)), (y, .inr (2, [.int (nI mv.1), .int (nI mk.1), .ref p1, .ref p2, .ref p3, .ref p4, .ref p5, .ref p6, .ref p7, .ref p8, .long f.1, .int f.2])), (p1, .inl (cL, 151, .inr (.inl mv.2.1))), (p2, .inl (cL, 151, .inr (.inl mv.2.2.2.1))), (p3, .inl (cL, 150, .inr (.inl mk.2.1))), (p4, .inl (cL, 150, .inr (.inl mk.2.2.2.1))), (p5, .inl (cI, 151, .inl mv.2.2.1)), (p6, .inl (cI, 151, .inl mv.2.2.2.2)), (p7, .inl (cI, 150, .inl mk.2.2.1)), (p8, .inl (cI, 150, .inl mk.2.2.2.2))]) [9, 10, 11, 12, 13, 14, 15, 16, 17, 18, 19, 0, 1, 2, 3, 4, 5, 6, 7, 8] (by decide) rfl
  refine lv_aload_n hx hb dL_law_578 rfl (lv_at hl 2 rfl) ?_
  refine wr_callv (wr := [(x, .inr (1, [.ref r, .ref k, .long f.1, .int f.2])), (r, .inr (0, [.ref a1, .ref a2, .ref a3, .ref a4, .int (nI v1.1)])), (a1, .inl (cL, 150, .inr (.inl v1.2.1))), (a2, .inl (cI, 150, .inl v1.2.2.1)), (a3, .inl (cL, 150, .inr (.inl v1.2.2.2.1))), (a4, .inl (cI, 150, .inl v1.2.2.2.2)), (k, .inr (0, [.ref b1, .ref b2, .ref b3, .ref b4, .int (nI vk.1)])), (b1, .inl (cL, 150, .inr (.inl vk.2.1))), (b2, .inl (cI, 150, .inl vk.2.2.1)), (b3, .inl (cL, 150, .inr (.inl vk.2.2.2.1))), (b4, .inl (cI, 150, .inl vk.2.2.2.2))]) (va_runV (As := []) (rest := []) ⟨hx, hb, hml, hown, hts⟩ (m_revert l dC dI _ cL cI y p1 p2 p3 p4 p5 p6 p7 p8 mv mk f (sim_mok hI.2.1 hI.2.2.2).1) (cwV 0 hts gL_law_X2_revert rfl rfl rfl (by decide +kernel) ⟨Nat.le_of_ble_eq_true rfl, Nat.le_of_ble_eq_true rfl⟩) (wr_preV hK (hP.sub (ws' := [(y, .inr (2, [.int (nI mv.1), .int (nI mk.1), .ref p1, .ref p2, .ref p3, .ref p4, .ref p5, .ref p6, .ref p7, .ref p8, .long f.1, .int f.2])), (p1, .inl (cL, 151, .inr (.inl mv.2.1))), (p2, .inl (cL, 151, .inr (.inl mv.2.2.2.1))), (p3, .inl (cL, 150, .inr (.inl mk.2.1))), (p4, .inl (cL, 150, .inr (.inl mk.2.2.2.1))), (p5, .inl (cI, 151, .inl mv.2.2.1)), (p6, .inl (cI, 151, .inl mv.2.2.2.2)), (p7, .inl (cI, 150, .inl mk.2.2.1)), (p8, .inl (cI, 150, .inl mk.2.2.2.2))]) [11, 12, 13, 14, 15, 16, 17, 18, 19] rfl) (hD.sub (ws' := [(y, .inr (2, [.int (nI mv.1), .int (nI mk.1), .ref p1, .ref p2, .ref p3, .ref p4, .ref p5, .ref p6, .ref p7, .ref p8, .long f.1, .int f.2])), (p1, .inl (cL, 151, .inr (.inl mv.2.1))), (p2, .inl (cL, 151, .inr (.inl mv.2.2.2.1))), (p3, .inl (cL, 150, .inr (.inl mk.2.1))), (p4, .inl (cL, 150, .inr (.inl mk.2.2.2.1))), (p5, .inl (cI, 151, .inl mv.2.2.1)), (p6, .inl (cI, 151, .inl mv.2.2.2.2)), (p7, .inl (cI, 150, .inl mk.2.2.1)), (p8, .inl (cI, 150, .inl mk.2.2.2.2))]) [11, 12, 13, 14, 15, 16, 17, 18, 19] (by decide) rfl) (ci := 2) (q0 := 0) rfl rfl) rfl rfl hl.1 rfl (lv_room (Nat.le_of_ble_eq_true rfl)) dL_law_579 ⟨Nat.le_of_ble_eq_true rfl, Nat.le_of_ble_eq_true rfl⟩) hP hD hS hA [11, 12, 13, 14, 15, 16, 17, 18, 19] [0, 1, 2, 3, 4, 5, 6, 7, 8, 9, 10] rfl rfl (by decide) (by decide) (fun w1 H locs hr2 hP hD hS => ?_)
  replace hP := hP.sub (ws' := [(x, .inr (1, [.ref r, .ref k, .long f.1, .int f.2])), (r, .inr (0, [.ref a1, .ref a2, .ref a3, .ref a4, .int (nI v1.1)])), (a1, .inl (cL, 150, .inr (.inl v1.2.1))), (a2, .inl (cI, 150, .inl v1.2.2.1)), (a3, .inl (cL, 150, .inr (.inl v1.2.2.2.1))), (a4, .inl (cI, 150, .inl v1.2.2.2.2)), (k, .inr (0, [.ref b1, .ref b2, .ref b3, .ref b4, .int (nI vk.1)])), (b1, .inl (cL, 150, .inr (.inl vk.2.1))), (b2, .inl (cI, 150, .inl vk.2.2.1)), (b3, .inl (cL, 150, .inr (.inl vk.2.2.2.1))), (b4, .inl (cI, 150, .inl vk.2.2.2.2)), (y, .inr (2, [.int (nI w1.1), .int (nI mk.1), .ref p1, .ref p2, .ref p3, .ref p4, .ref p5, .ref p6, .ref p7, .ref p8, .long f.1, .int f.2])), (p1, .inl (cL, 151, .inr (.inl w1.2.1))), (p2, .inl (cL, 151, .inr (.inl w1.2.2.2.1))), (p3, .inl (cL, 150, .inr (.inl mk.2.1))), (p4, .inl (cL, 150, .inr (.inl mk.2.2.2.1))), (p5, .inl (cI, 151, .inl w1.2.2.1)), (p6, .inl (cI, 151, .inl w1.2.2.2.2)), (p7, .inl (cI, 150, .inl mk.2.2.1)), (p8, .inl (cI, 150, .inl mk.2.2.2.2))]) [0, 1, 2, 3, 4, 5, 6, 7, 8, 9, 10, 11, 12, 13, 14, 15, 16, 17, 18, 19] rfl
  replace hD := hD.sub (ws' := [(x, .inr (1, [.ref r, .ref k, .long f.1, .int f.2])), (r, .inr (0, [.ref a1, .ref a2, .ref a3, .ref a4, .int (nI v1.1)])), (a1, .inl (cL, 150, .inr (.inl v1.2.1))), (a2, .inl (cI, 150, .inl v1.2.2.1)), (a3, .inl (cL, 150, .inr (.inl v1.2.2.2.1))), (a4, .inl (cI, 150, .inl v1.2.2.2.2)), (k, .inr (0, [.ref b1, .ref b2, .ref b3, .ref b4, .int (nI vk.1)])), (b1, .inl (cL, 150, .inr (.inl vk.2.1))), (b2, .inl (cI, 150, .inl vk.2.2.1)), (b3, .inl (cL, 150, .inr (.inl vk.2.2.2.1))), (b4, .inl (cI, 150, .inl vk.2.2.2.2)), (y, .inr (2, [.int (nI w1.1), .int (nI mk.1), .ref p1, .ref p2, .ref p3, .ref p4, .ref p5, .ref p6, .ref p7, .ref p8, .long f.1, .int f.2])), (p1, .inl (cL, 151, .inr (.inl w1.2.1))), (p2, .inl (cL, 151, .inr (.inl w1.2.2.2.1))), (p3, .inl (cL, 150, .inr (.inl mk.2.1))), (p4, .inl (cL, 150, .inr (.inl mk.2.2.2.1))), (p5, .inl (cI, 151, .inl w1.2.2.1)), (p6, .inl (cI, 151, .inl w1.2.2.2.2)), (p7, .inl (cI, 150, .inl mk.2.2.1)), (p8, .inl (cI, 150, .inl mk.2.2.2.2))]) [0, 1, 2, 3, 4, 5, 6, 7, 8, 9, 10, 11, 12, 13, 14, 15, 16, 17, 18, 19] (by decide) rfl
  refine lv_goto (tgt := 585) hx hb dL_law_582 (by decide) ?_
  subst hr1
  subst hr2
  exact K (rs_cpy vk v) vk (rs_cpy mk mv) mk f H locs ls ⟨srt_cpy hI.2.1, hI.2.1, sim_cpy hI.2.2.2, hI.2.2.2⟩ hP hD hS (lv_sub hl [0, 1, 2, 3] rfl)
end
section
set_option maxHeartbeats 4000000 in
set_option maxRecDepth 100000 in
/-- behind a case: seven ints on -/
theorem lw_next {p : Program} {l : Launch} {e : Env} {s : State} {m : MethodId} {below : List Frame} {meth : Method} {c : Code} {b L : Nat} {xs : Nat → Int32} (hL : L ≤ 3584) (C0 : lw_At p s m meth c b L xs) {dC : Nat → ClassId} {dI : Nat → Nat → Nat} {cL cI : ClassId} (hK : va_K (dC, dI) vwCl (kS cL cI) s) {x r k a1 a2 a3 a4 b1 b2 b3 b4 y p1 p2 p3 p4 p5 p6 p7 p8 : Nat} {i : Nat} (hi : i + 7 ≤ L) (K : LK p l e s m below meth c b dC dI cL cI x r k a1 a2 a3 a4 b1 b2 b3 b4 y p1 p2 p3 p4 p5 p6 p7 p8 (i + 7) 18) : LK p l e s m below meth c b dC dI cL cI x r k a1 a2 a3 a4 b1 b2 b3 b4 y p1 p2 p3 p4 p5 p6 p7 p8 i 585 := by
  intro v vk mv mk f H locs ls hI hP hD hS hl
  obtain ⟨hx, hb, hr, hml, hown, hts, hX, hbl, hlocks, hgv⟩ := C0
  have hA : ∀ q : Nat, s.heap.size ≤ q → (fun q : Nat => s.heap.size ≤ q) q := fun _ h => h
  have hbA : ¬ (fun q : Nat => s.heap.size ≤ q) b := Nat.not_le.mpr hbl
  have htl : ∀ w ∈ wsL_law, w.before #[Value.ref b] s = true := fun w h => hts w (wsL_law_in w h)
  replace hown : s.vm.findClass RL = some m.cls := hown
  replace hP : va_P (dC, dI) vwCl [(x, .inr (1, [.ref r, .ref k, .long f.1, .int f.2])), (r, .inr (0, [.ref a1, .ref a2, .ref a3, .ref a4, .int (nI v.1)])), (a1, .inl (cL, 150, .inr (.inl v.2.1))), (a2, .inl (cI, 150, .inl v.2.2.1)), (a3, .inl (cL, 150, .inr (.inl v.2.2.2.1))), (a4, .inl (cI, 150, .inl v.2.2.2.2)), (k, .inr (0, [.ref b1, .ref b2, .ref b3, .ref b4, .int (nI vk.1)])), (b1, .inl (cL, 150, .inr (.inl vk.2.1))), (b2, .inl (cI, 150, .inl vk.2.2.1)), (b3, .inl (cL, 150, .inr (.inl vk.2.2.2.1))), (b4, .inl (cI, 150, .inl vk.2.2.2.2)), (y, .inr (2, [.int (nI mv.1), .int (nI mk.1), .ref p1, .ref p2, .ref p3, .ref p4, .ref p5, .ref p6, .ref p7, .ref p8, .long f.1, .int f.2])), (p1, .inl (cL, 151, .inr (.inl mv.2.1))), (p2, .inl (cL, 151, .inr (.inl mv.2.2.2.1))), (p3, .inl (cL, 150, .inr (.inl mk.2.1))), (p4, .inl (cL, 150, .inr (.inl mk.2.2.2.1))), (p5, .inl (cI, 151, .inl mv.2.2.1)), (p6, .inl (cI, 151, .inl mv.2.2.2.2)), (p7, .inl (cI, 150, .inl mk.2.2.1)), (p8, .inl (cI, 150, .inl mk.2.2.2.2))] H := hP
  replace hD : va_D (fun q : Nat => s.heap.size ≤ q) [(x, .inr (1, [.ref r, .ref k, .long f.1, .int f.2])), (r, .inr (0, [.ref a1, .ref a2, .ref a3, .ref a4, .int (nI v.1)])), (a1, .inl (cL, 150, .inr (.inl v.2.1))), (a2, .inl (cI, 150, .inl v.2.2.1)), (a3, .inl (cL, 150, .inr (.inl v.2.2.2.1))), (a4, .inl (cI, 150, .inl v.2.2.2.2)), (k, .inr (0, [.ref b1, .ref b2, .ref b3, .ref b4, .int (nI vk.1)])), (b1, .inl (cL, 150, .inr (.inl vk.2.1))), (b2, .inl (cI, 150, .inl vk.2.2.1)), (b3, .inl (cL, 150, .inr (.inl vk.2.2.2.1))), (b4, .inl (cI, 150, .inl vk.2.2.2.2)), (y, .inr (2, [.int (nI mv.1), .int (nI mk.1), .ref p1, .ref p2, .ref p3, .ref p4, .ref p5, .ref p6, .ref p7, .ref p8, .long f.1, .int f.2])), (p1, .inl (cL, 151, .inr (.inl mv.2.1))), (p2, .inl (cL, 151, .inr (.inl mv.2.2.2.1))), (p3, .inl (cL, 150, .inr (.inl mk.2.1))), (p4, .inl (cL, 150, .inr (.inl mk.2.2.2.1))), (p5, .inl (cI, 151, .inl mv.2.2.1)), (p6, .inl (cI, 151, .inl mv.2.2.2.2)), (p7, .inl (cI, 150, .inl mk.2.2.1)), (p8, .inl (cI, 150, .inl mk.2.2.2.2))] := hD
  have hi31 : i + 7 < 2 ^ 31 := by omega
  refine lv_iinc (v := nI (i + 7)) (lv' := [(3, .int (nI (i + 7))), (0, .ref b), (1, .ref x), (2, .ref y)]) hx hb dL_law_585 hl (k := 3) rfl (nI_add i 7) (by decide) rfl (fun ls hl => ?_)
  refine lv_goto (tgt := 18) hx hb dL_law_588 (by decide) ?_
  exact K v vk mv mk f H locs ls hI hP hD hS (lv_sub hl [1, 2, 3, 0] rfl)
set_option maxHeartbeats 4000000 in
set_option maxRecDepth 100000 in
/-- THE LAW'S LOOP -/
theorem lw_loop {p : Program} {l : Launch} {e : Env} {s : State} {m : MethodId} {below : List Frame} {meth : Method} {c : Code} {b L : Nat} {xs : Nat → Int32} (hL : L ≤ 3584) (C0 : lw_At p s m meth c b L xs) {dC : Nat → ClassId} {dI : Nat → Nat → Nat} {cL cI : ClassId} (hK : va_K (dC, dI) vwCl (kS cL cI) s) {x r k a1 a2 a3 a4 b1 b2 b3 b4 y p1 p2 p3 p4 p5 p6 p7 p8 : Nat} : ∀ (g i : Nat), L ≤ i + g → i ≤ 3584 → LK p l e s m below meth c b dC dI cL cI x r k a1 a2 a3 a4 b1 b2 b3 b4 y p1 p2 p3 p4 p5 p6 p7 p8 i 18 := by
  intro g
  induction g with
  | zero =>
    intro i hg hi
    intro v vk mv mk f H locs ls hI hP hD hS hl
    obtain ⟨hx, hb, hr, hml, hown, hts, hX, hbl, hlocks, hgv⟩ := id C0
    have hA : ∀ q : Nat, s.heap.size ≤ q → (fun q : Nat => s.heap.size ≤ q) q := fun _ h => h
    have hbA : ¬ (fun q : Nat => s.heap.size ≤ q) b := Nat.not_le.mpr hbl
    have htl : ∀ w ∈ wsL_law, w.before #[Value.ref b] s = true := fun w h => hts w (wsL_law_in w h)
    replace hown : s.vm.findClass RL = some m.cls := hown
    replace hP : va_P (dC, dI) vwCl [(x, .inr (1, [.ref r, .ref k, .long f.1, .int f.2])), (r, .inr (0, [.ref a1, .ref a2, .ref a3, .ref a4, .int (nI v.1)])), (a1, .inl (cL, 150, .inr (.inl v.2.1))), (a2, .inl (cI, 150, .inl v.2.2.1)), (a3, .inl (cL, 150, .inr (.inl v.2.2.2.1))), (a4, .inl (cI, 150, .inl v.2.2.2.2)), (k, .inr (0, [.ref b1, .ref b2, .ref b3, .ref b4, .int (nI vk.1)])), (b1, .inl (cL, 150, .inr (.inl vk.2.1))), (b2, .inl (cI, 150, .inl vk.2.2.1)), (b3, .inl (cL, 150, .inr (.inl vk.2.2.2.1))), (b4, .inl (cI, 150, .inl vk.2.2.2.2)), (y, .inr (2, [.int (nI mv.1), .int (nI mk.1), .ref p1, .ref p2, .ref p3, .ref p4, .ref p5, .ref p6, .ref p7, .ref p8, .long f.1, .int f.2])), (p1, .inl (cL, 151, .inr (.inl mv.2.1))), (p2, .inl (cL, 151, .inr (.inl mv.2.2.2.1))), (p3, .inl (cL, 150, .inr (.inl mk.2.1))), (p4, .inl (cL, 150, .inr (.inl mk.2.2.2.1))), (p5, .inl (cI, 151, .inl mv.2.2.1)), (p6, .inl (cI, 151, .inl mv.2.2.2.2)), (p7, .inl (cI, 150, .inl mk.2.2.1)), (p8, .inl (cI, 150, .inl mk.2.2.2.2))] H := hP
    replace hD : va_D (fun q : Nat => s.heap.size ≤ q) [(x, .inr (1, [.ref r, .ref k, .long f.1, .int f.2])), (r, .inr (0, [.ref a1, .ref a2, .ref a3, .ref a4, .int (nI v.1)])), (a1, .inl (cL, 150, .inr (.inl v.2.1))), (a2, .inl (cI, 150, .inl v.2.2.1)), (a3, .inl (cL, 150, .inr (.inl v.2.2.2.1))), (a4, .inl (cI, 150, .inl v.2.2.2.2)), (k, .inr (0, [.ref b1, .ref b2, .ref b3, .ref b4, .int (nI vk.1)])), (b1, .inl (cL, 150, .inr (.inl vk.2.1))), (b2, .inl (cI, 150, .inl vk.2.2.1)), (b3, .inl (cL, 150, .inr (.inl vk.2.2.2.1))), (b4, .inl (cI, 150, .inl vk.2.2.2.2)), (y, .inr (2, [.int (nI mv.1), .int (nI mk.1), .ref p1, .ref p2, .ref p3, .ref p4, .ref p5, .ref p6, .ref p7, .ref p8, .long f.1, .int f.2])), (p1, .inl (cL, 151, .inr (.inl mv.2.1))), (p2, .inl (cL, 151, .inr (.inl mv.2.2.2.1))), (p3, .inl (cL, 150, .inr (.inl mk.2.1))), (p4, .inl (cL, 150, .inr (.inl mk.2.2.2.1))), (p5, .inl (cI, 151, .inl mv.2.2.1)), (p6, .inl (cI, 151, .inl mv.2.2.2.2)), (p7, .inl (cI, 150, .inl mk.2.2.1)), (p8, .inl (cI, 150, .inl mk.2.2.2.2))] := hD
    have hi31 : i + 7 < 2 ^ 31 := by omega
    refine lv_iload_n hx hb dL_law_18 rfl (lv_at hl 3 rfl) ?_
    refine lv_aload_n hx hb dL_law_19 rfl (lv_at hl 0 rfl) ?_
    refine va_slen hx hb hX hbl hbA hS dL_law_20 ?_
    refine lv_bipush (v := 7) hx hb dL_law_21 (by decide) ?_
    refine lv_isub hx hb dL_law_23 ?_
    refine lv_icmp_gt (tgt := 591) hx hb dL_law_24 (by decide) (fun c_24 => ?_) (fun c_24 => ?_)
    · skip
      refine lv_iconst (v := 1) hx hb dL_law_591 (by decide) ?_
      refine va_forget (fun q hq => hS.2.2 q hq) ?_
      exact lw_ret hx hb hr hlocks dL_law_592
    · skip
      have hi7 : i + 7 ≤ L := lw_ge hi hL c_24
      exact absurd hi7 (by omega) --STOP
  | succ g ih =>
    intro i hg hi
    intro v vk mv mk f H locs ls hI hP hD hS hl
    obtain ⟨hx, hb, hr, hml, hown, hts, hX, hbl, hlocks, hgv⟩ := id C0
    have hA : ∀ q : Nat, s.heap.size ≤ q → (fun q : Nat => s.heap.size ≤ q) q := fun _ h => h
    have hbA : ¬ (fun q : Nat => s.heap.size ≤ q) b := Nat.not_le.mpr hbl
    have htl : ∀ w ∈ wsL_law, w.before #[Value.ref b] s = true := fun w h => hts w (wsL_law_in w h)
    replace hown : s.vm.findClass RL = some m.cls := hown
    replace hP : va_P (dC, dI) vwCl [(x, .inr (1, [.ref r, .ref k, .long f.1, .int f.2])), (r, .inr (0, [.ref a1, .ref a2, .ref a3, .ref a4, .int (nI v.1)])), (a1, .inl (cL, 150, .inr (.inl v.2.1))), (a2, .inl (cI, 150, .inl v.2.2.1)), (a3, .inl (cL, 150, .inr (.inl v.2.2.2.1))), (a4, .inl (cI, 150, .inl v.2.2.2.2)), (k, .inr (0, [.ref b1, .ref b2, .ref b3, .ref b4, .int (nI vk.1)])), (b1, .inl (cL, 150, .inr (.inl vk.2.1))), (b2, .inl (cI, 150, .inl vk.2.2.1)), (b3, .inl (cL, 150, .inr (.inl vk.2.2.2.1))), (b4, .inl (cI, 150, .inl vk.2.2.2.2)), (y, .inr (2, [.int (nI mv.1), .int (nI mk.1), .ref p1, .ref p2, .ref p3, .ref p4, .ref p5, .ref p6, .ref p7, .ref p8, .long f.1, .int f.2])), (p1, .inl (cL, 151, .inr (.inl mv.2.1))), (p2, .inl (cL, 151, .inr (.inl mv.2.2.2.1))), (p3, .inl (cL, 150, .inr (.inl mk.2.1))), (p4, .inl (cL, 150, .inr (.inl mk.2.2.2.1))), (p5, .inl (cI, 151, .inl mv.2.2.1)), (p6, .inl (cI, 151, .inl mv.2.2.2.2)), (p7, .inl (cI, 150, .inl mk.2.2.1)), (p8, .inl (cI, 150, .inl mk.2.2.2.2))] H := hP
    replace hD : va_D (fun q : Nat => s.heap.size ≤ q) [(x, .inr (1, [.ref r, .ref k, .long f.1, .int f.2])), (r, .inr (0, [.ref a1, .ref a2, .ref a3, .ref a4, .int (nI v.1)])), (a1, .inl (cL, 150, .inr (.inl v.2.1))), (a2, .inl (cI, 150, .inl v.2.2.1)), (a3, .inl (cL, 150, .inr (.inl v.2.2.2.1))), (a4, .inl (cI, 150, .inl v.2.2.2.2)), (k, .inr (0, [.ref b1, .ref b2, .ref b3, .ref b4, .int (nI vk.1)])), (b1, .inl (cL, 150, .inr (.inl vk.2.1))), (b2, .inl (cI, 150, .inl vk.2.2.1)), (b3, .inl (cL, 150, .inr (.inl vk.2.2.2.1))), (b4, .inl (cI, 150, .inl vk.2.2.2.2)), (y, .inr (2, [.int (nI mv.1), .int (nI mk.1), .ref p1, .ref p2, .ref p3, .ref p4, .ref p5, .ref p6, .ref p7, .ref p8, .long f.1, .int f.2])), (p1, .inl (cL, 151, .inr (.inl mv.2.1))), (p2, .inl (cL, 151, .inr (.inl mv.2.2.2.1))), (p3, .inl (cL, 150, .inr (.inl mk.2.1))), (p4, .inl (cL, 150, .inr (.inl mk.2.2.2.1))), (p5, .inl (cI, 151, .inl mv.2.2.1)), (p6, .inl (cI, 151, .inl mv.2.2.2.2)), (p7, .inl (cI, 150, .inl mk.2.2.1)), (p8, .inl (cI, 150, .inl mk.2.2.2.2))] := hD
    have hi31 : i + 7 < 2 ^ 31 := by omega
    refine lv_iload_n hx hb dL_law_18 rfl (lv_at hl 3 rfl) ?_
    refine lv_aload_n hx hb dL_law_19 rfl (lv_at hl 0 rfl) ?_
    refine va_slen hx hb hX hbl hbA hS dL_law_20 ?_
    refine lv_bipush (v := 7) hx hb dL_law_21 (by decide) ?_
    refine lv_isub hx hb dL_law_23 ?_
    refine lv_icmp_gt (tgt := 591) hx hb dL_law_24 (by decide) (fun c_24 => ?_) (fun c_24 => ?_)
    · skip
      refine lv_iconst (v := 1) hx hb dL_law_591 (by decide) ?_
      refine va_forget (fun q hq => hS.2.2 q hq) ?_
      exact lw_ret hx hb hr hlocks dL_law_592
    · skip
      have hi7 : i + 7 ≤ L := lw_ge hi hL c_24
      refine lv_aload_n hx hb dL_law_27 rfl (lv_at hl 0 rfl) ?_
      refine lv_iload_n hx hb dL_law_28 rfl (lv_at hl 3 rfl) ?_
      refine va_sld hx hb hX hbl hbA hS (vp_in_nI (show i < L by omega) (by omega)) dL_law_29 ?_
      refine lv_topi (fun z_1 ez_1 => ?_)
      obtain rfl : z_1 = xs i := ez_1.trans (by rw [nI_clamp (by omega)])
      refine lv_bipush (v := 15) hx hb dL_law_30 (by decide) ?_
      refine lv_iand hx hb dL_law_32 ?_
      obtain ⟨sw, hsw, esw⟩ := pk_andE (xs i) (m := 15) 4 (by decide)
      refine lv_topi (fun zw ezw => ?_)
      obtain rfl : zw = nI sw := ezw.trans esw
      have hN := lw_next (l := l) (below := below) hL C0 hK hi7 (ih (i + 7) (by omega) (by omega))
      rcases (show sw = 0 ∨ sw = 1 ∨ sw = 2 ∨ sw = 3 ∨ sw = 4 ∨ sw = 5 ∨ sw = 6 ∨ sw = 7 ∨ sw = 8 ∨ sw = 9 ∨ sw = 10 ∨ sw = 11 ∨ sw = 12 ∨ sw = 13 ∨ sw = 14 ∨ sw = 15 by omega) with rfl | rfl | rfl | rfl | rfl | rfl | rfl | rfl | rfl | rfl | rfl | rfl | rfl | rfl | rfl | rfl
      · refine lv_tableIn (off := 59) (tgt := 92) hx hb dL_law_33 (by decide) (by decide) (by decide) (by decide) ?_
        exact lw_c0 hL C0 hK hi7 hN v vk mv mk f H locs ls hI hP hD hS hl
      · refine lv_tableIn (off := 174) (tgt := 207) hx hb dL_law_33 (by decide) (by decide) (by decide) (by decide) ?_
        exact lw_c1 hL C0 hK hi7 hN v vk mv mk f H locs ls hI hP hD hS hl
      · refine lv_tableIn (off := 237) (tgt := 270) hx hb dL_law_33 (by decide) (by decide) (by decide) (by decide) ?_
        exact lw_c2 hL C0 hK hi7 hN v vk mv mk f H locs ls hI hP hD hS hl
      · refine lv_tableIn (off := 300) (tgt := 333) hx hb dL_law_33 (by decide) (by decide) (by decide) (by decide) ?_
        exact lw_c3 hL C0 hK hi7 hN v vk mv mk f H locs ls hI hP hD hS hl
      · refine lv_tableIn (off := 364) (tgt := 397) hx hb dL_law_33 (by decide) (by decide) (by decide) (by decide) ?_
        exact lw_c4 hL C0 hK hi7 hN v vk mv mk f H locs ls hI hP hD hS hl
      · refine lv_tableIn (off := 427) (tgt := 460) hx hb dL_law_33 (by decide) (by decide) (by decide) (by decide) ?_
        exact lw_c5 hL C0 hK hi7 hN v vk mv mk f H locs ls hI hP hD hS hl
      · refine lv_tableIn (off := 490) (tgt := 523) hx hb dL_law_33 (by decide) (by decide) (by decide) (by decide) ?_
        exact lw_c6 hL C0 hK hi7 hN v vk mv mk f H locs ls hI hP hD hS hl
      · refine lv_tableIn (off := 503) (tgt := 536) hx hb dL_law_33 (by decide) (by decide) (by decide) (by decide) ?_
        exact lw_c7 hL C0 hK hi7 hN v vk mv mk f H locs ls hI hP hD hS hl
      · refine lv_tableIn (off := 517) (tgt := 550) hx hb dL_law_33 (by decide) (by decide) (by decide) (by decide) ?_
        exact lw_c8 hL C0 hK hi7 hN v vk mv mk f H locs ls hI hP hD hS hl
      · refine lv_tableIn (off := 530) (tgt := 563) hx hb dL_law_33 (by decide) (by decide) (by decide) (by decide) ?_
        exact lw_c9 hL C0 hK hi7 hN v vk mv mk f H locs ls hI hP hD hS hl
      · refine lv_tableIn (off := 541) (tgt := 574) hx hb dL_law_33 (by decide) (by decide) (by decide) (by decide) ?_
        exact lw_c10 hL C0 hK hi7 hN v vk mv mk f H locs ls hI hP hD hS hl
      · refine lv_tableOut (tgt := 585) hx hb dL_law_33 (by decide) (by decide) ?_
        exact hN v vk mv mk f H locs ls hI hP hD hS hl
      · refine lv_tableOut (tgt := 585) hx hb dL_law_33 (by decide) (by decide) ?_
        exact hN v vk mv mk f H locs ls hI hP hD hS hl
      · refine lv_tableOut (tgt := 585) hx hb dL_law_33 (by decide) (by decide) ?_
        exact hN v vk mv mk f H locs ls hI hP hD hS hl
      · refine lv_tableOut (tgt := 585) hx hb dL_law_33 (by decide) (by decide) ?_
        exact hN v vk mv mk f H locs ls hI hP hD hS hl
      · refine lv_tableOut (tgt := 585) hx hb dL_law_33 (by decide) (by decide) ?_
        exact hN v vk mv mk f H locs ls hI hP hD hS hl
end
section
set_option maxHeartbeats 4000000 in
set_option maxRecDepth 100000 in
/-- YOUR PART: from the entry, for every script of at most 3584 ints, the law comes to its end with true -/
theorem whole_start {p : Program} {e : Env} {s : State} {m : MethodId} {below : List Frame} {meth : Method} {c : Code} (l : Launch) {b L : Nat} {xs : Nat → Int32} (hL : L ≤ 3584) (C0 : lw_At p s m meth c b L xs) : W p l e room_1 s m #[Value.ref b] below meth c s.heap [] 0 0 (lw_Z below #[Value.ref b] s) (entryFrame m ([Value.ref b] : List Value).toArray 4) := by
  obtain ⟨hx, hb, hr, hml, hown, hts, hX, hbl, hlocks, hgv⟩ := id C0
  have hA : ∀ q : Nat, s.heap.size ≤ q → (fun q : Nat => s.heap.size ≤ q) q := fun _ h => h
  have hbA : ¬ (fun q : Nat => s.heap.size ≤ q) b := Nat.not_le.mpr hbl
  have htl : ∀ w ∈ wsL_law, w.before #[Value.ref b] s = true := fun w h => hts w (wsL_law_in w h)
  replace hown : s.vm.findClass RL = some m.cls := hown
  obtain ⟨c0, iS0, hKn0⟩ := u_known (C := RX0) (T := TX0) (N := 5) (n := 5) hts inX0 (hts (.instantiable RX0 5) (by decide +kernel))
  obtain ⟨c1, iS1, hKn1⟩ := u_known (C := RX1) (T := TX1) (N := 4) (n := 4) hts inX1 (hts (.instantiable RX1 4) (by decide +kernel))
  obtain ⟨c2, iS2, hKn2⟩ := u_known (C := RX2) (T := TX2) (N := 12) (n := 12) hts inX2 (hts (.instantiable RX2 12) (by decide +kernel))
  obtain ⟨dC, dI, hKc⟩ : ∃ (dC : Nat → ClassId) (dI : Nat → Nat → Nat), ∀ (k : Nat) (q : vw_C), vwCl[k]? = some q → u_Kn s q.1 q.2.1 q.2.2 (dC k) (dI k) := by
    refine ⟨fun k => if k = 0 then c0 else if k = 1 then c1 else c2, fun k => if k = 0 then iS0 else if k = 1 then iS1 else iS2, ?_⟩
    intro k q hq
    match k, hq with
    | 0, hq => cases hq; exact hKn0
    | 1, hq => cases hq; exact hKn1
    | 2, hq => cases hq; exact hKn2
    | k + 3, hq => simp [vwCl] at hq
  obtain ⟨cL, hcL1, hcL2⟩ := ka_get (ty := .long) (fun _ _ h => h) (hts (.arrayClass .long) (by decide +kernel))
  obtain ⟨cI, hcI1, hcI2⟩ := ka_get (ty := .int) (fun _ _ h => h) (hts (.arrayClass .int) (by decide +kernel))
  have hS : va_S (fun q : Nat => s.heap.size ≤ q) s.heap s.heap [] := va_S.rf
  have hK : va_K (dC, dI) vwCl (kS cL cI) s := ⟨hKc, fun k q h => by
    match k, h with
    | 0, h => cases h; exact ⟨hcL1, hcL2⟩
    | 1, h => cases h; exact ⟨hcI1, hcI2⟩
    | k + 2, h => simp [kS] at h⟩
  have hP : va_P (dC, dI) vwCl [] s.heap := fun k q h => by simp at h
  have hD : va_D (fun q : Nat => s.heap.size ≤ q) [] := ⟨fun i j p q h => by simp at h, fun k q h => by simp at h⟩
  have hl := lv_entry ([.ref b]) (n := 4) (Nat.le_of_ble_eq_true rfl)
  rw [lg_entry_eq]
  generalize (lg_sl ([.ref b]) ++ List.replicate (4 - (lg_sl ([.ref b])).length) Slot.unset).toArray = ls at hl ⊢
  replace hl : lv_has ls 4 [(0, .ref b)] := hl
  refine va_new (ci := 1) (fs := [.null, .null, .long 0, .int 0]) (C := RX1) (T := TX1) (N := 4) hx hb hts inX1 tyX1 tyX1_ok hown (hts (.classLink RL 7 RX1) (by decide +kernel)) (hts (.instantiable RX1 4) (by decide +kernel)) (hts (.initialized RX1) (by decide +kernel)) hK hP hD hS hA rfl (fun j hj => by rcases (show j = 0 ∨ j = 1 ∨ j = 2 ∨ j = 3 by omega) with rfl | rfl | rfl | rfl <;> rfl) (Nat.le_of_ble_eq_true rfl) (Nat.le_of_ble_eq_true rfl) dL_law_0 (fun x H hP hD hS => ?_)
  replace hP : va_P (dC, dI) vwCl [(x, .inr (1, [.null, .null, .long 0, .int 0]))] H := hP
  replace hD : va_D (fun q : Nat => s.heap.size ≤ q) [(x, .inr (1, [.null, .null, .long 0, .int 0]))] := hD
  refine W.widen (k := 1) (n := 4) (by omega) (by omega) ?_
  refine lv_dup hx hb dL_law_3 rfl ?_
  refine wr_callv (wr := []) (va_runI (As := []) (rest := [.ref x]) ⟨hx, hb, hml, hown, hts⟩ (c_BlockTree_init l dC dI _ cL cI x) (cwI 0 htl gL_law_X1_init rfl rfl rfl (hts (.initialized RX1) (by decide +kernel)) (hts (.methodLink RL 9 yX1_init) (by decide +kernel)) (hts (.instanceMethod yX1_init) (by decide +kernel)) rfl (by decide +kernel) ⟨Nat.le_of_ble_eq_true rfl, Nat.le_of_ble_eq_true rfl⟩) (wr_preI hK (hP.sub (ws' := [(x, .inr (1, [.null, .null, .long 0, .int 0]))]) [0] rfl) (hD.sub (ws' := [(x, .inr (1, [.null, .null, .long 0, .int 0]))]) [0] (by decide) rfl)) rfl rfl hl.1 rfl (lv_room (Nat.le_of_ble_eq_true rfl)) dL_law_4 ⟨Nat.le_of_ble_eq_true rfl, Nat.le_of_ble_eq_true rfl⟩) hP hD hS hA [0] [] rfl rfl (by decide) (by decide) (fun ux H locs hr5 hP hD hS => ?_)
  obtain ⟨⟨r, k⟩, ⟨a1, a2, a3, a4⟩, b1, b2, b3, b4⟩ := ux
  replace hP := hP.sub (ws' := [(x, .inr (1, [.ref r, .ref k, .long 0, .int 0])), (r, .inr (0, [.ref a1, .ref a2, .ref a3, .ref a4, .int (nI 0)])), (a1, .inl (cL, 150, .inr (.inl (fun _ => 0)))), (a2, .inl (cI, 150, .inl (fun _ => 0))), (a3, .inl (cL, 150, .inr (.inl (fun _ => 0)))), (a4, .inl (cI, 150, .inl (fun _ => 0))), (k, .inr (0, [.ref b1, .ref b2, .ref b3, .ref b4, .int (nI 0)])), (b1, .inl (cL, 150, .inr (.inl (fun _ => 0)))), (b2, .inl (cI, 150, .inl (fun _ => 0))), (b3, .inl (cL, 150, .inr (.inl (fun _ => 0)))), (b4, .inl (cI, 150, .inl (fun _ => 0)))]) [0, 1, 2, 3, 4, 5, 6, 7, 8, 9, 10] rfl
  replace hD := hD.sub (ws' := [(x, .inr (1, [.ref r, .ref k, .long 0, .int 0])), (r, .inr (0, [.ref a1, .ref a2, .ref a3, .ref a4, .int (nI 0)])), (a1, .inl (cL, 150, .inr (.inl (fun _ => 0)))), (a2, .inl (cI, 150, .inl (fun _ => 0))), (a3, .inl (cL, 150, .inr (.inl (fun _ => 0)))), (a4, .inl (cI, 150, .inl (fun _ => 0))), (k, .inr (0, [.ref b1, .ref b2, .ref b3, .ref b4, .int (nI 0)])), (b1, .inl (cL, 150, .inr (.inl (fun _ => 0)))), (b2, .inl (cI, 150, .inl (fun _ => 0))), (b3, .inl (cL, 150, .inr (.inl (fun _ => 0)))), (b4, .inl (cI, 150, .inl (fun _ => 0)))]) [0, 1, 2, 3, 4, 5, 6, 7, 8, 9, 10] (by decide) rfl
  refine W.widen (k := 11) (n := 1214) (by omega) (by omega) ?_
  refine lv_astore_n (lv' := [(1, .ref x), (0, .ref b)]) hx hb dL_law_7 rfl hl (by decide) rfl (fun ls hl => ?_)
  refine va_new (ci := 2) (fs := [.int 0, .int 0, .null, .null, .null, .null, .null, .null, .null, .null, .long 0, .int 0]) (C := RX2) (T := TX2) (N := 12) hx hb hts inX2 tyX2 tyX2_ok hown (hts (.classLink RL 10 RX2) (by decide +kernel)) (hts (.instantiable RX2 12) (by decide +kernel)) (hts (.initialized RX2) (by decide +kernel)) hK hP hD hS hA rfl (fun j hj => by rcases (show j = 0 ∨ j = 1 ∨ j = 2 ∨ j = 3 ∨ j = 4 ∨ j = 5 ∨ j = 6 ∨ j = 7 ∨ j = 8 ∨ j = 9 ∨ j = 10 ∨ j = 11 by omega) with rfl | rfl | rfl | rfl | rfl | rfl | rfl | rfl | rfl | rfl | rfl | rfl <;> rfl) (Nat.le_of_ble_eq_true rfl) (Nat.le_of_ble_eq_true rfl) dL_law_8 (fun y H hP hD hS => ?_)
  replace hP : va_P (dC, dI) vwCl [(x, .inr (1, [.ref r, .ref k, .long 0, .int 0])), (r, .inr (0, [.ref a1, .ref a2, .ref a3, .ref a4, .int (nI 0)])), (a1, .inl (cL, 150, .inr (.inl (fun _ => 0)))), (a2, .inl (cI, 150, .inl (fun _ => 0))), (a3, .inl (cL, 150, .inr (.inl (fun _ => 0)))), (a4, .inl (cI, 150, .inl (fun _ => 0))), (k, .inr (0, [.ref b1, .ref b2, .ref b3, .ref b4, .int (nI 0)])), (b1, .inl (cL, 150, .inr (.inl (fun _ => 0)))), (b2, .inl (cI, 150, .inl (fun _ => 0))), (b3, .inl (cL, 150, .inr (.inl (fun _ => 0)))), (b4, .inl (cI, 150, .inl (fun _ => 0))), (y, .inr (2, [.int 0, .int 0, .null, .null, .null, .null, .null, .null, .null, .null, .long 0, .int 0]))] H := hP
  replace hD : va_D (fun q : Nat => s.heap.size ≤ q) [(x, .inr (1, [.ref r, .ref k, .long 0, .int 0])), (r, .inr (0, [.ref a1, .ref a2, .ref a3, .ref a4, .int (nI 0)])), (a1, .inl (cL, 150, .inr (.inl (fun _ => 0)))), (a2, .inl (cI, 150, .inl (fun _ => 0))), (a3, .inl (cL, 150, .inr (.inl (fun _ => 0)))), (a4, .inl (cI, 150, .inl (fun _ => 0))), (k, .inr (0, [.ref b1, .ref b2, .ref b3, .ref b4, .int (nI 0)])), (b1, .inl (cL, 150, .inr (.inl (fun _ => 0)))), (b2, .inl (cI, 150, .inl (fun _ => 0))), (b3, .inl (cL, 150, .inr (.inl (fun _ => 0)))), (b4, .inl (cI, 150, .inl (fun _ => 0))), (y, .inr (2, [.int 0, .int 0, .null, .null, .null, .null, .null, .null, .null, .null, .long 0, .int 0]))] := hD
  refine W.widen (k := 12) (n := 1226) (by omega) (by omega) ?_
  refine lv_dup hx hb dL_law_11 rfl ?_
  refine wr_callv (wr := [(x, .inr (1, [.ref r, .ref k, .long 0, .int 0])), (r, .inr (0, [.ref a1, .ref a2, .ref a3, .ref a4, .int (nI 0)])), (a1, .inl (cL, 150, .inr (.inl (fun _ => 0)))), (a2, .inl (cI, 150, .inl (fun _ => 0))), (a3, .inl (cL, 150, .inr (.inl (fun _ => 0)))), (a4, .inl (cI, 150, .inl (fun _ => 0))), (k, .inr (0, [.ref b1, .ref b2, .ref b3, .ref b4, .int (nI 0)])), (b1, .inl (cL, 150, .inr (.inl (fun _ => 0)))), (b2, .inl (cI, 150, .inl (fun _ => 0))), (b3, .inl (cL, 150, .inr (.inl (fun _ => 0)))), (b4, .inl (cI, 150, .inl (fun _ => 0)))]) (va_runI (As := []) (rest := [.ref y]) ⟨hx, hb, hml, hown, hts⟩ (m_init l dC dI _ cL cI y) (cwI 0 htl gL_law_X2_init rfl rfl rfl (hts (.initialized RX2) (by decide +kernel)) (hts (.methodLink RL 12 yX2_init) (by decide +kernel)) (hts (.instanceMethod yX2_init) (by decide +kernel)) rfl (by decide +kernel) ⟨Nat.le_of_ble_eq_true rfl, Nat.le_of_ble_eq_true rfl⟩) (wr_preI hK (hP.sub (ws' := [(y, .inr (2, [.int 0, .int 0, .null, .null, .null, .null, .null, .null, .null, .null, .long 0, .int 0]))]) [11] rfl) (hD.sub (ws' := [(y, .inr (2, [.int 0, .int 0, .null, .null, .null, .null, .null, .null, .null, .null, .long 0, .int 0]))]) [11] (by decide) rfl)) rfl rfl hl.1 rfl (lv_room (Nat.le_of_ble_eq_true rfl)) dL_law_12 ⟨Nat.le_of_ble_eq_true rfl, Nat.le_of_ble_eq_true rfl⟩) hP hD hS hA [11] [0, 1, 2, 3, 4, 5, 6, 7, 8, 9, 10] rfl rfl (by decide) (by decide) (fun uy H locs hr6 hP hD hS => ?_)
  obtain ⟨p1, p2, p3, p4, p5, p6, p7, p8⟩ := uy
  replace hP := hP.sub (ws' := [(x, .inr (1, [.ref r, .ref k, .long 0, .int 0])), (r, .inr (0, [.ref a1, .ref a2, .ref a3, .ref a4, .int (nI 0)])), (a1, .inl (cL, 150, .inr (.inl (fun _ => 0)))), (a2, .inl (cI, 150, .inl (fun _ => 0))), (a3, .inl (cL, 150, .inr (.inl (fun _ => 0)))), (a4, .inl (cI, 150, .inl (fun _ => 0))), (k, .inr (0, [.ref b1, .ref b2, .ref b3, .ref b4, .int (nI 0)])), (b1, .inl (cL, 150, .inr (.inl (fun _ => 0)))), (b2, .inl (cI, 150, .inl (fun _ => 0))), (b3, .inl (cL, 150, .inr (.inl (fun _ => 0)))), (b4, .inl (cI, 150, .inl (fun _ => 0))), (y, .inr (2, [.int (nI 0), .int (nI 0), .ref p1, .ref p2, .ref p3, .ref p4, .ref p5, .ref p6, .ref p7, .ref p8, .long 0, .int 0])), (p1, .inl (cL, 151, .inr (.inl (fun _ => 0)))), (p2, .inl (cL, 151, .inr (.inl (fun _ => 0)))), (p3, .inl (cL, 150, .inr (.inl (fun _ => 0)))), (p4, .inl (cL, 150, .inr (.inl (fun _ => 0)))), (p5, .inl (cI, 151, .inl (fun _ => 0))), (p6, .inl (cI, 151, .inl (fun _ => 0))), (p7, .inl (cI, 150, .inl (fun _ => 0))), (p8, .inl (cI, 150, .inl (fun _ => 0)))]) [0, 1, 2, 3, 4, 5, 6, 7, 8, 9, 10, 11, 12, 13, 14, 15, 16, 17, 18, 19] rfl
  replace hD := hD.sub (ws' := [(x, .inr (1, [.ref r, .ref k, .long 0, .int 0])), (r, .inr (0, [.ref a1, .ref a2, .ref a3, .ref a4, .int (nI 0)])), (a1, .inl (cL, 150, .inr (.inl (fun _ => 0)))), (a2, .inl (cI, 150, .inl (fun _ => 0))), (a3, .inl (cL, 150, .inr (.inl (fun _ => 0)))), (a4, .inl (cI, 150, .inl (fun _ => 0))), (k, .inr (0, [.ref b1, .ref b2, .ref b3, .ref b4, .int (nI 0)])), (b1, .inl (cL, 150, .inr (.inl (fun _ => 0)))), (b2, .inl (cI, 150, .inl (fun _ => 0))), (b3, .inl (cL, 150, .inr (.inl (fun _ => 0)))), (b4, .inl (cI, 150, .inl (fun _ => 0))), (y, .inr (2, [.int (nI 0), .int (nI 0), .ref p1, .ref p2, .ref p3, .ref p4, .ref p5, .ref p6, .ref p7, .ref p8, .long 0, .int 0])), (p1, .inl (cL, 151, .inr (.inl (fun _ => 0)))), (p2, .inl (cL, 151, .inr (.inl (fun _ => 0)))), (p3, .inl (cL, 150, .inr (.inl (fun _ => 0)))), (p4, .inl (cL, 150, .inr (.inl (fun _ => 0)))), (p5, .inl (cI, 151, .inl (fun _ => 0))), (p6, .inl (cI, 151, .inl (fun _ => 0))), (p7, .inl (cI, 150, .inl (fun _ => 0))), (p8, .inl (cI, 150, .inl (fun _ => 0)))]) [0, 1, 2, 3, 4, 5, 6, 7, 8, 9, 10, 11, 12, 13, 14, 15, 16, 17, 18, 19] (by decide) rfl
  refine W.widen (k := 20) (n := 2430) (by omega) (by omega) ?_
  refine lv_astore_n (lv' := [(2, .ref y), (1, .ref x), (0, .ref b)]) hx hb dL_law_15 rfl hl (by decide) rfl (fun ls hl => ?_)
  refine lv_iconst (v := 0) hx hb dL_law_16 (by decide) ?_
  refine lv_istore_n (lv' := [(3, .int 0), (2, .ref y), (1, .ref x), (0, .ref b)]) hx hb dL_law_17 rfl hl (by decide) rfl (fun ls hl => ?_)
  exact lw_loop hL C0 hK (L + 1) 0 (by omega) (by omega) rs_0 rs_0 rs_0 rs_0 (0, 0) H locs ls ⟨srt_0, srt_0, sim_0, sim_0⟩ hP hD hS (lv_sub hl [3, 2, 1, 0] rfl)
end
section
set_option maxHeartbeats 4000000 in
theorem lw_walk (l : Launch) (b : Addr) (xs : List Int32) : MetFree l x (headSpec (Jvm.Cond.code x code maxLocals ret :: tables_1) room_1) (lw_P b xs) (fun _ _ _ _ _ => True) lw_Q := by
  refine MetFree.of_bodyS (code := code) (maxLocals := maxLocals) (ret := ret) (by decide) ?_ ?_
  · intro args s m h hn
    obtain ⟨meth, c, h1, h2, h3, h4, h5, h6, -, -⟩ := Cond.code_spec hn (atoms_spec (ws := Jvm.Cond.code x code maxLocals ret :: tables_1) h _ List.mem_cons_self)
    exact ⟨meth, c, h1, h2, h3, h4, h5, h6⟩
  · intro p e s m args below meth c s₁ B hml0 hP _
    obtain ⟨rfl, hx, hbd, hgv⟩ := hP
    obtain ⟨scr, harrAt, hlist, hof, hsmall⟩ := hx
    obtain ⟨hcb, hkn, -, -⟩ := State.arrayAt?_spec harrAt
    have hown : s.vm.findClass R_law = some m.cls := findClass_of_methodNamed B.named
    have hts0 : ∀ c ∈ (Jvm.Cond.code x code maxLocals ret :: tables_1), c.before #[Value.ref b] s = true := atoms_spec (ws := Jvm.Cond.code x code maxLocals ret :: tables_1) B.pre
    have hts : ∀ w ∈ lw_tbl, w.before #[Value.ref b] s = true := k2_hts_sels lw_privs (fun w hw => hts0 w (List.mem_cons_of_mem _ hw)) lw_privs_ok
    have hml : c.maxLocals = 4 := B.maxLocals_eq (hts0 _ List.mem_cons_self)
    have X₀ : Stand p l e room_1 s m #[Value.ref b] below meth c s₁ [] 0 0 := Stand.of_body B
    have hh0 : s₁.heap = s.heap := by rw [B.state]; rfl
    have hsz : scr.slots.size = xs.length := by rw [← Array.length_toList, hlist, List.length_map]
    have hval : ∀ j : Nat, j < xs.length → scr.slots[j]? = some (.int (xs.getD j 0)) := fun j hj => by
      rw [← Array.getElem?_toList, hlist]
      simp [hj]
    have hbl : b < s.heap.size := (Array.getElem?_eq_some_iff.mp hcb).1
    have hX : va_X b xs.length (fun j => xs.getD j 0) s s.heap := ⟨scr, hcb, hof, hkn, hsz, hval⟩
    have K : W p l e room_1 s m #[Value.ref b] below meth c s₁.heap [] 0 0 (lw_Z below #[Value.ref b] s) (entryFrame m ([Value.ref b] : List Value).toArray 4) := by
      rw [hh0]
      exact whole_start l hbd ⟨B.exec, B.bytes, B.returns, hml, hown, hts, hX, hbl, B.notSynchronized, hgv⟩
    obtain ⟨t, a1, o, b1, b2, b3⟩ := K s₁ rfl X₀
    exact ⟨t, o, a1, b1, b2, b3⟩
theorem lw_pre_spec {args : Array Value} {s : State} (h : (Jvm.Cond.and given_1 narrow_1).before args s = true) (hr : rest_1_c.before args s = true) : ∃ (b : Addr) (xs : List Int32), lw_P b xs args s := by
  have hs := flat_of_before _ h
  have hq := flat_of_before _ hr
  have hc : (Cond.count 1).before args s = true := hs _ (by decide +kernel)
  have harr : (Cond.arrayOf (.arg 0) .int).before args s = true := hs _ (by decide +kernel)
  have hle : (Cond.le (.length (.arg 0)) (.int 3584)).before args s = true := hs _ (by decide +kernel)
  have hlen : (Cond.isInt (.length (.arg 0))).before args s = true := hq _ (by decide +kernel)
  have hall : (Cond.all (.arg 0) (.isInt (.elem (.arg 0) (.index 0)))).before args s = true := hq _ (by decide +kernel)
  obtain ⟨b, xs, hb, hx⟩ := State.ints_of_pre rfl harr hlen hall
  have hsm : xs.length < 2 ^ 31 := hx.choose_spec.2.2.2
  have hev : (Term.length (.arg 0)).eval args s none [] s = some (.int xs.length.toInt32) := hx.length_eval hb
  have hv := Cond.le_ints hev (show (Term.int 3584).eval args s none [] s = some (.int 3584) from rfl)
  have hd : xs.length.toInt32 ≤ 3584 := by
    simpa [Cond.before, Cond.holds, hv] using hle
  have hN : xs.length ≤ 3584 := (Int32.ofNat_le_ofNat hsm (by decide)).mp (show Int32.ofNat xs.length ≤ Int32.ofNat 3584 from hd)
  exact ⟨b, xs, Cond.one_arg hc (show args[0]? = some (.ref b) from hb), hx, hN, h⟩
theorem lw_comes (l : Launch) : Comes l x (Jvm.Cond.code x code maxLocals ret :: tables_1) room_1 (fun tb e args s => Calls_1 tb e args s ∧ rest_1 tb e args s ∧ Pre_1 tb e args s)
    (fun _ _ args s o t => lw_Q args s o t) := by
  intro p e ha hc hk s m args below hf hfit hheap happ hpre
  obtain ⟨b, xs, hP⟩ := lw_pre_spec hpre.2.2 hpre.2.1
  obtain ⟨k, o, h1, h2, h3, hQ⟩ := lw_walk l b xs p e ha hc hk s m args below hf ((Spec.applies_iff_loose hf).mp happ).1 hP trivial
  exact ⟨k, o, h1, h2, h3, hQ⟩
theorem lw_frame {s t : State} {o : Outcome} {args : Array Value} (h : Framed s o t [] 20 2430) :
    Framed s o t (fieldLocs frame_1_writes args s ++ arrayLocs frame_1_arrays args s ++ staticLocs frame_1_statics s) 20 2430 := h
theorem lw_limb (L : Cond) (hL : ∀ (args : Array Value) (s t : State), L.after args s (.returned (some (.int 1))) t = true) :
    ArmFor flags0 classFile x code maxLocals ret World_1 tables_1 room_1 Calls_1 rest_1 Pre_1
      (fun tb e a s o t => postC L tb e a s o t ∧ Framed s o t (fieldLocs frame_1_writes a s ++ arrayLocs frame_1_arrays a s ++ staticLocs frame_1_statics s) 20 2430) := by
  intro l _ _ _ p e ha hc hk s m args below hf hfit hheap happ hpre
  obtain ⟨k, o, h1, h2, h3, rfl, hF⟩ := lw_comes l p e ha hc hk s m args below hf hfit hheap happ hpre
  exact ⟨k, _, h1, h2, h3, hL args s _, lw_frame hF⟩
theorem i_vc : Claimed_1_1 ∧ Claimed_1_2 := ⟨lw_limb limb_1_1 (fun args s t => by simp [limb_1_1, Cond.after, Cond.holds, Cond.value]), lw_limb limb_1_2 (fun args s t => Cond.after_iff.mpr (by
  first | (rw [show limb_1_2 = Cond.eq .result (.int 1) from rfl, Cond.eq_ints (x := 1) (y := 1) rfl rfl]; simp; done) | (simp [limb_1_2, Cond.value, Term.eval]; done)))⟩
end
