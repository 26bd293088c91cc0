/-! OWN NAMES: methods of the reference that the printed list lacks (their words lie in the second run of the tables) -/
abbrev cX2_length : ByteArray := prog_4_method_10_code
def yX2_length : MethodName := ⟨RX2, "length", "(JI)I"⟩
abbrev cX2_text : ByteArray := prog_4_method_11_code
def yX2_text : MethodName := ⟨RX2, "text", "(JI)J"⟩
abbrev cX2_find : ByteArray := prog_4_method_12_code
def yX2_find : MethodName := ⟨RX2, "find", "(I)Z"⟩
abbrev cX2_seek : ByteArray := prog_4_method_13_code
def yX2_seek : MethodName := ⟨RX2, "seek", "(JI)Z"⟩
abbrev cX2_before : ByteArray := prog_4_method_14_code
def yX2_before : MethodName := ⟨RX2, "before", "(JI)Z"⟩
abbrev cX2_foundSize : ByteArray := prog_4_method_15_code
def yX2_foundSize : MethodName := ⟨RX2, "foundSize", "()I"⟩
abbrev cX2_found : ByteArray := prog_4_method_16_code
def yX2_found : MethodName := ⟨RX2, "found", "()J"⟩
abbrev cX2_count : ByteArray := prog_4_method_17_code
def yX2_count : MethodName := ⟨RX2, "count", "()I"⟩
abbrev cX2_commit : ByteArray := prog_4_method_18_code
def yX2_commit : MethodName := ⟨RX2, "commit", "()V"⟩
abbrev cX2_revert : ByteArray := prog_4_method_19_code
def yX2_revert : MethodName := ⟨RX2, "revert", "()V"⟩
def wsX2_length : List Cond := .code yX2_length cX2_length 5 (some .int) :: ([.fieldLink RX2 41 "BlockTreeModel" "many" "I", .fieldLink RX2 26 "BlockTreeModel" "length" "[I", .methodLink RX2 49 yX2_isSize, .static yX2_isSize, .methodLink RX2 53 yX2_place, .instanceMethod yX2_place, .selects RX2 yX2_place yX2_place, .methodLink RX2 57 yX2_isAt, .instanceMethod yX2_isAt, .selects RX2 yX2_isAt yX2_isAt, .initialized RX2] ++ wsX2_isSize ++ wsX2_place ++ wsX2_isAt ++ wsX20)
def wsX2_text : List Cond := .code yX2_text cX2_text 5 (some .long) :: ([.fieldLink RX2 41 "BlockTreeModel" "many" "I", .fieldLink RX2 13 "BlockTreeModel" "text" "[J", .methodLink RX2 49 yX2_isSize, .static yX2_isSize, .methodLink RX2 53 yX2_place, .instanceMethod yX2_place, .selects RX2 yX2_place yX2_place, .methodLink RX2 57 yX2_isAt, .instanceMethod yX2_isAt, .selects RX2 yX2_isAt yX2_isAt, .initialized RX2] ++ wsX2_isSize ++ wsX2_place ++ wsX2_isAt ++ wsX20)
def wsX2_find : List Cond := .code yX2_find cX2_find 3 (some .boolean) :: ([.fieldLink RX2 41 "BlockTreeModel" "many" "I", .fieldLink RX2 7 "BlockTreeModel" "key" "[J", .fieldLink RX2 65 "BlockTreeModel" "found" "J", .fieldLink RX2 22 "BlockTreeModel" "size" "[I", .fieldLink RX2 69 "BlockTreeModel" "foundSize" "I"] ++ wsX20)
def wsX2_seek : List Cond := .code yX2_seek cX2_seek 4 (some .boolean) :: ([.methodLink RX2 49 yX2_isSize, .static yX2_isSize, .methodLink RX2 53 yX2_place, .instanceMethod yX2_place, .selects RX2 yX2_place yX2_place, .methodLink RX2 72 yX2_find, .instanceMethod yX2_find, .selects RX2 yX2_find yX2_find, .initialized RX2] ++ wsX2_isSize ++ wsX2_place ++ wsX2_find ++ wsX20)
def wsX2_before : List Cond := .code yX2_before cX2_before 4 (some .boolean) :: ([.methodLink RX2 49 yX2_isSize, .static yX2_isSize, .methodLink RX2 53 yX2_place, .instanceMethod yX2_place, .selects RX2 yX2_place yX2_place, .methodLink RX2 72 yX2_find, .instanceMethod yX2_find, .selects RX2 yX2_find yX2_find, .initialized RX2] ++ wsX2_isSize ++ wsX2_place ++ wsX2_find ++ wsX20)
def wsX2_foundSize : List Cond := .code yX2_foundSize cX2_foundSize 1 (some .int) :: ([.fieldLink RX2 69 "BlockTreeModel" "foundSize" "I"] ++ wsX20)
def wsX2_found : List Cond := .code yX2_found cX2_found 1 (some .long) :: ([.fieldLink RX2 65 "BlockTreeModel" "found" "J"] ++ wsX20)
def wsX2_count : List Cond := .code yX2_count cX2_count 1 (some .int) :: ([.fieldLink RX2 41 "BlockTreeModel" "many" "I"] ++ wsX20)
def wsX2_commit : List Cond := .code yX2_commit cX2_commit 2 none :: ([.fieldLink RX2 41 "BlockTreeModel" "many" "I", .fieldLink RX2 75 "BlockTreeModel" "kept" "I", .fieldLink RX2 16 "BlockTreeModel" "keptKey" "[J", .fieldLink RX2 7 "BlockTreeModel" "key" "[J", .fieldLink RX2 29 "BlockTreeModel" "keptSize" "[I", .fieldLink RX2 22 "BlockTreeModel" "size" "[I", .fieldLink RX2 19 "BlockTreeModel" "keptText" "[J", .fieldLink RX2 13 "BlockTreeModel" "text" "[J", .fieldLink RX2 32 "BlockTreeModel" "keptLength" "[I", .fieldLink RX2 26 "BlockTreeModel" "length" "[I"] ++ wsX20)
def wsX2_revert : List Cond := .code yX2_revert cX2_revert 2 none :: ([.fieldLink RX2 75 "BlockTreeModel" "kept" "I", .fieldLink RX2 41 "BlockTreeModel" "many" "I", .fieldLink RX2 7 "BlockTreeModel" "key" "[J", .fieldLink RX2 16 "BlockTreeModel" "keptKey" "[J", .fieldLink RX2 22 "BlockTreeModel" "size" "[I", .fieldLink RX2 29 "BlockTreeModel" "keptSize" "[I", .fieldLink RX2 13 "BlockTreeModel" "text" "[J", .fieldLink RX2 19 "BlockTreeModel" "keptText" "[J", .fieldLink RX2 26 "BlockTreeModel" "length" "[I", .fieldLink RX2 32 "BlockTreeModel" "keptLength" "[I"] ++ wsX20)
set_option maxRecDepth 20000 in
theorem gX2_length_X2_isSize : GoodIn wsX2_length (va_wsS RX2 49 yX2_isSize wsX2_isSize) := goodIn_sub (by decide +kernel) (by decide +kernel)
set_option maxRecDepth 20000 in
theorem gX2_length_X2_place : GoodIn wsX2_length (wsV RX2 53 RX2 yX2_place wsX2_place) := goodIn_sub (by decide +kernel) (by decide +kernel)
set_option maxRecDepth 20000 in
theorem gX2_length_X2_isAt : GoodIn wsX2_length (wsV RX2 57 RX2 yX2_isAt wsX2_isAt) := goodIn_sub (by decide +kernel) (by decide +kernel)
theorem dX2_length_0 : decode cX2_length 0 = .ok (.iload_n 3, 1) := by decide +kernel
theorem dX2_length_1 : decode cX2_length 1 = .ok (.invokestatic 49, 3) := by decide +kernel
theorem dX2_length_4 : decode cX2_length 4 = .ok (.ifCond .eq 12, 3) := by decide +kernel
theorem dX2_length_7 : decode cX2_length 7 = .ok (.aload_n 0, 1) := by decide +kernel
theorem dX2_length_8 : decode cX2_length 8 = .ok (.lload_n 1, 1) := by decide +kernel
theorem dX2_length_9 : decode cX2_length 9 = .ok (.iload_n 3, 1) := by decide +kernel
theorem dX2_length_10 : decode cX2_length 10 = .ok (.invokevirtual 53, 3) := by decide +kernel
theorem dX2_length_13 : decode cX2_length 13 = .ok (.goto 7, 3) := by decide +kernel
theorem dX2_length_16 : decode cX2_length 16 = .ok (.aload_n 0, 1) := by decide +kernel
theorem dX2_length_17 : decode cX2_length 17 = .ok (.getfield 41, 3) := by decide +kernel
theorem dX2_length_20 : decode cX2_length 20 = .ok (.istore 4, 2) := by decide +kernel
theorem dX2_length_22 : decode cX2_length 22 = .ok (.aload_n 0, 1) := by decide +kernel
theorem dX2_length_23 : decode cX2_length 23 = .ok (.iload 4, 2) := by decide +kernel
theorem dX2_length_25 : decode cX2_length 25 = .ok (.lload_n 1, 1) := by decide +kernel
theorem dX2_length_26 : decode cX2_length 26 = .ok (.iload_n 3, 1) := by decide +kernel
theorem dX2_length_27 : decode cX2_length 27 = .ok (.invokevirtual 57, 3) := by decide +kernel
theorem dX2_length_30 : decode cX2_length 30 = .ok (.ifCond .eq 13, 3) := by decide +kernel
theorem dX2_length_33 : decode cX2_length 33 = .ok (.aload_n 0, 1) := by decide +kernel
theorem dX2_length_34 : decode cX2_length 34 = .ok (.getfield 26, 3) := by decide +kernel
theorem dX2_length_37 : decode cX2_length 37 = .ok (.iload 4, 2) := by decide +kernel
theorem dX2_length_39 : decode cX2_length 39 = .ok (.iaload, 1) := by decide +kernel
theorem dX2_length_40 : decode cX2_length 40 = .ok (.goto 4, 3) := by decide +kernel
theorem dX2_length_43 : decode cX2_length 43 = .ok (.iconst (-1), 1) := by decide +kernel
theorem dX2_length_44 : decode cX2_length 44 = .ok (.ireturn, 1) := by decide +kernel
set_option maxRecDepth 20000 in
theorem gX2_text_X2_isSize : GoodIn wsX2_text (va_wsS RX2 49 yX2_isSize wsX2_isSize) := goodIn_sub (by decide +kernel) (by decide +kernel)
set_option maxRecDepth 20000 in
theorem gX2_text_X2_place : GoodIn wsX2_text (wsV RX2 53 RX2 yX2_place wsX2_place) := goodIn_sub (by decide +kernel) (by decide +kernel)
set_option maxRecDepth 20000 in
theorem gX2_text_X2_isAt : GoodIn wsX2_text (wsV RX2 57 RX2 yX2_isAt wsX2_isAt) := goodIn_sub (by decide +kernel) (by decide +kernel)
theorem dX2_text_0 : decode cX2_text 0 = .ok (.iload_n 3, 1) := by decide +kernel
theorem dX2_text_1 : decode cX2_text 1 = .ok (.invokestatic 49, 3) := by decide +kernel
theorem dX2_text_4 : decode cX2_text 4 = .ok (.ifCond .eq 12, 3) := by decide +kernel
theorem dX2_text_7 : decode cX2_text 7 = .ok (.aload_n 0, 1) := by decide +kernel
theorem dX2_text_8 : decode cX2_text 8 = .ok (.lload_n 1, 1) := by decide +kernel
theorem dX2_text_9 : decode cX2_text 9 = .ok (.iload_n 3, 1) := by decide +kernel
theorem dX2_text_10 : decode cX2_text 10 = .ok (.invokevirtual 53, 3) := by decide +kernel
theorem dX2_text_13 : decode cX2_text 13 = .ok (.goto 7, 3) := by decide +kernel
theorem dX2_text_16 : decode cX2_text 16 = .ok (.aload_n 0, 1) := by decide +kernel
theorem dX2_text_17 : decode cX2_text 17 = .ok (.getfield 41, 3) := by decide +kernel
theorem dX2_text_20 : decode cX2_text 20 = .ok (.istore 4, 2) := by decide +kernel
theorem dX2_text_22 : decode cX2_text 22 = .ok (.aload_n 0, 1) := by decide +kernel
theorem dX2_text_23 : decode cX2_text 23 = .ok (.iload 4, 2) := by decide +kernel
theorem dX2_text_25 : decode cX2_text 25 = .ok (.lload_n 1, 1) := by decide +kernel
theorem dX2_text_26 : decode cX2_text 26 = .ok (.iload_n 3, 1) := by decide +kernel
theorem dX2_text_27 : decode cX2_text 27 = .ok (.invokevirtual 57, 3) := by decide +kernel
theorem dX2_text_30 : decode cX2_text 30 = .ok (.ifCond .eq 13, 3) := by decide +kernel
theorem dX2_text_33 : decode cX2_text 33 = .ok (.aload_n 0, 1) := by decide +kernel
theorem dX2_text_34 : decode cX2_text 34 = .ok (.getfield 13, 3) := by decide +kernel
theorem dX2_text_37 : decode cX2_text 37 = .ok (.iload 4, 2) := by decide +kernel
theorem dX2_text_39 : decode cX2_text 39 = .ok (.laload, 1) := by decide +kernel
theorem dX2_text_40 : decode cX2_text 40 = .ok (.goto 4, 3) := by decide +kernel
theorem dX2_text_43 : decode cX2_text 43 = .ok (.lconst 0, 1) := by decide +kernel
theorem dX2_text_44 : decode cX2_text 44 = .ok (.lreturn, 1) := by decide +kernel
theorem dX2_find_0 : decode cX2_find 0 = .ok (.iload_n 1, 1) := by decide +kernel
theorem dX2_find_1 : decode cX2_find 1 = .ok (.ifCond .lt 15, 3) := by decide +kernel
theorem dX2_find_4 : decode cX2_find 4 = .ok (.iload_n 1, 1) := by decide +kernel
theorem dX2_find_5 : decode cX2_find 5 = .ok (.aload_n 0, 1) := by decide +kernel
theorem dX2_find_6 : decode cX2_find 6 = .ok (.getfield 41, 3) := by decide +kernel
theorem dX2_find_9 : decode cX2_find 9 = .ok (.if_icmp .ge 7, 3) := by decide +kernel
theorem dX2_find_12 : decode cX2_find 12 = .ok (.iconst 1, 1) := by decide +kernel
theorem dX2_find_13 : decode cX2_find 13 = .ok (.goto 4, 3) := by decide +kernel
theorem dX2_find_16 : decode cX2_find 16 = .ok (.iconst 0, 1) := by decide +kernel
theorem dX2_find_17 : decode cX2_find 17 = .ok (.istore_n 2, 1) := by decide +kernel
theorem dX2_find_18 : decode cX2_find 18 = .ok (.aload_n 0, 1) := by decide +kernel
theorem dX2_find_19 : decode cX2_find 19 = .ok (.iload_n 2, 1) := by decide +kernel
theorem dX2_find_20 : decode cX2_find 20 = .ok (.ifCond .eq 12, 3) := by decide +kernel
theorem dX2_find_23 : decode cX2_find 23 = .ok (.aload_n 0, 1) := by decide +kernel
theorem dX2_find_24 : decode cX2_find 24 = .ok (.getfield 7, 3) := by decide +kernel
theorem dX2_find_27 : decode cX2_find 27 = .ok (.iload_n 1, 1) := by decide +kernel
theorem dX2_find_28 : decode cX2_find 28 = .ok (.laload, 1) := by decide +kernel
theorem dX2_find_29 : decode cX2_find 29 = .ok (.goto 4, 3) := by decide +kernel
theorem dX2_find_32 : decode cX2_find 32 = .ok (.lconst 0, 1) := by decide +kernel
theorem dX2_find_33 : decode cX2_find 33 = .ok (.putfield 65, 3) := by decide +kernel
theorem dX2_find_36 : decode cX2_find 36 = .ok (.aload_n 0, 1) := by decide +kernel
theorem dX2_find_37 : decode cX2_find 37 = .ok (.iload_n 2, 1) := by decide +kernel
theorem dX2_find_38 : decode cX2_find 38 = .ok (.ifCond .eq 12, 3) := by decide +kernel
theorem dX2_find_41 : decode cX2_find 41 = .ok (.aload_n 0, 1) := by decide +kernel
theorem dX2_find_42 : decode cX2_find 42 = .ok (.getfield 22, 3) := by decide +kernel
theorem dX2_find_45 : decode cX2_find 45 = .ok (.iload_n 1, 1) := by decide +kernel
theorem dX2_find_46 : decode cX2_find 46 = .ok (.iaload, 1) := by decide +kernel
theorem dX2_find_47 : decode cX2_find 47 = .ok (.goto 4, 3) := by decide +kernel
theorem dX2_find_50 : decode cX2_find 50 = .ok (.iconst 0, 1) := by decide +kernel
theorem dX2_find_51 : decode cX2_find 51 = .ok (.putfield 69, 3) := by decide +kernel
theorem dX2_find_54 : decode cX2_find 54 = .ok (.iload_n 2, 1) := by decide +kernel
theorem dX2_find_55 : decode cX2_find 55 = .ok (.ireturn, 1) := by decide +kernel
set_option maxRecDepth 20000 in
theorem gX2_seek_X2_isSize : GoodIn wsX2_seek (va_wsS RX2 49 yX2_isSize wsX2_isSize) := goodIn_sub (by decide +kernel) (by decide +kernel)
set_option maxRecDepth 20000 in
theorem gX2_seek_X2_place : GoodIn wsX2_seek (wsV RX2 53 RX2 yX2_place wsX2_place) := goodIn_sub (by decide +kernel) (by decide +kernel)
set_option maxRecDepth 20000 in
theorem gX2_seek_X2_find : GoodIn wsX2_seek (wsV RX2 72 RX2 yX2_find wsX2_find) := goodIn_sub (by decide +kernel) (by decide +kernel)
theorem dX2_seek_0 : decode cX2_seek 0 = .ok (.aload_n 0, 1) := by decide +kernel
theorem dX2_seek_1 : decode cX2_seek 1 = .ok (.iload_n 3, 1) := by decide +kernel
theorem dX2_seek_2 : decode cX2_seek 2 = .ok (.invokestatic 49, 3) := by decide +kernel
theorem dX2_seek_5 : decode cX2_seek 5 = .ok (.ifCond .eq 12, 3) := by decide +kernel
theorem dX2_seek_8 : decode cX2_seek 8 = .ok (.aload_n 0, 1) := by decide +kernel
theorem dX2_seek_9 : decode cX2_seek 9 = .ok (.lload_n 1, 1) := by decide +kernel
theorem dX2_seek_10 : decode cX2_seek 10 = .ok (.iload_n 3, 1) := by decide +kernel
theorem dX2_seek_11 : decode cX2_seek 11 = .ok (.invokevirtual 53, 3) := by decide +kernel
theorem dX2_seek_14 : decode cX2_seek 14 = .ok (.goto 4, 3) := by decide +kernel
theorem dX2_seek_17 : decode cX2_seek 17 = .ok (.iconst (-1), 1) := by decide +kernel
theorem dX2_seek_18 : decode cX2_seek 18 = .ok (.invokevirtual 72, 3) := by decide +kernel
theorem dX2_seek_21 : decode cX2_seek 21 = .ok (.ireturn, 1) := by decide +kernel
set_option maxRecDepth 20000 in
theorem gX2_before_X2_isSize : GoodIn wsX2_before (va_wsS RX2 49 yX2_isSize wsX2_isSize) := goodIn_sub (by decide +kernel) (by decide +kernel)
set_option maxRecDepth 20000 in
theorem gX2_before_X2_place : GoodIn wsX2_before (wsV RX2 53 RX2 yX2_place wsX2_place) := goodIn_sub (by decide +kernel) (by decide +kernel)
set_option maxRecDepth 20000 in
theorem gX2_before_X2_find : GoodIn wsX2_before (wsV RX2 72 RX2 yX2_find wsX2_find) := goodIn_sub (by decide +kernel) (by decide +kernel)
theorem dX2_before_0 : decode cX2_before 0 = .ok (.aload_n 0, 1) := by decide +kernel
theorem dX2_before_1 : decode cX2_before 1 = .ok (.iload_n 3, 1) := by decide +kernel
theorem dX2_before_2 : decode cX2_before 2 = .ok (.invokestatic 49, 3) := by decide +kernel
theorem dX2_before_5 : decode cX2_before 5 = .ok (.ifCond .eq 14, 3) := by decide +kernel
theorem dX2_before_8 : decode cX2_before 8 = .ok (.aload_n 0, 1) := by decide +kernel
theorem dX2_before_9 : decode cX2_before 9 = .ok (.lload_n 1, 1) := by decide +kernel
theorem dX2_before_10 : decode cX2_before 10 = .ok (.iload_n 3, 1) := by decide +kernel
theorem dX2_before_11 : decode cX2_before 11 = .ok (.invokevirtual 53, 3) := by decide +kernel
theorem dX2_before_14 : decode cX2_before 14 = .ok (.iconst 1, 1) := by decide +kernel
theorem dX2_before_15 : decode cX2_before 15 = .ok (.isub, 1) := by decide +kernel
theorem dX2_before_16 : decode cX2_before 16 = .ok (.goto 4, 3) := by decide +kernel
theorem dX2_before_19 : decode cX2_before 19 = .ok (.iconst (-1), 1) := by decide +kernel
theorem dX2_before_20 : decode cX2_before 20 = .ok (.invokevirtual 72, 3) := by decide +kernel
theorem dX2_before_23 : decode cX2_before 23 = .ok (.ireturn, 1) := by decide +kernel
theorem dX2_foundSize_0 : decode cX2_foundSize 0 = .ok (.aload_n 0, 1) := by decide +kernel
theorem dX2_foundSize_1 : decode cX2_foundSize 1 = .ok (.getfield 69, 3) := by decide +kernel
theorem dX2_foundSize_4 : decode cX2_foundSize 4 = .ok (.ireturn, 1) := by decide +kernel
theorem dX2_found_0 : decode cX2_found 0 = .ok (.aload_n 0, 1) := by decide +kernel
theorem dX2_found_1 : decode cX2_found 1 = .ok (.getfield 65, 3) := by decide +kernel
theorem dX2_found_4 : decode cX2_found 4 = .ok (.lreturn, 1) := by decide +kernel
theorem dX2_count_0 : decode cX2_count 0 = .ok (.aload_n 0, 1) := by decide +kernel
theorem dX2_count_1 : decode cX2_count 1 = .ok (.getfield 41, 3) := by decide +kernel
theorem dX2_count_4 : decode cX2_count 4 = .ok (.ireturn, 1) := by decide +kernel
theorem dX2_commit_0 : decode cX2_commit 0 = .ok (.aload_n 0, 1) := by decide +kernel
theorem dX2_commit_1 : decode cX2_commit 1 = .ok (.aload_n 0, 1) := by decide +kernel
theorem dX2_commit_2 : decode cX2_commit 2 = .ok (.getfield 41, 3) := by decide +kernel
theorem dX2_commit_5 : decode cX2_commit 5 = .ok (.putfield 75, 3) := by decide +kernel
theorem dX2_commit_8 : decode cX2_commit 8 = .ok (.iconst 0, 1) := by decide +kernel
theorem dX2_commit_9 : decode cX2_commit 9 = .ok (.istore_n 1, 1) := by decide +kernel
theorem dX2_commit_10 : decode cX2_commit 10 = .ok (.iload_n 1, 1) := by decide +kernel
theorem dX2_commit_11 : decode cX2_commit 11 = .ok (.aload_n 0, 1) := by decide +kernel
theorem dX2_commit_12 : decode cX2_commit 12 = .ok (.getfield 41, 3) := by decide +kernel
theorem dX2_commit_15 : decode cX2_commit 15 = .ok (.if_icmp .ge 57, 3) := by decide +kernel
theorem dX2_commit_18 : decode cX2_commit 18 = .ok (.aload_n 0, 1) := by decide +kernel
theorem dX2_commit_19 : decode cX2_commit 19 = .ok (.getfield 16, 3) := by decide +kernel
theorem dX2_commit_22 : decode cX2_commit 22 = .ok (.iload_n 1, 1) := by decide +kernel
theorem dX2_commit_23 : decode cX2_commit 23 = .ok (.aload_n 0, 1) := by decide +kernel
theorem dX2_commit_24 : decode cX2_commit 24 = .ok (.getfield 7, 3) := by decide +kernel
theorem dX2_commit_27 : decode cX2_commit 27 = .ok (.iload_n 1, 1) := by decide +kernel
theorem dX2_commit_28 : decode cX2_commit 28 = .ok (.laload, 1) := by decide +kernel
theorem dX2_commit_29 : decode cX2_commit 29 = .ok (.lastore, 1) := by decide +kernel
theorem dX2_commit_30 : decode cX2_commit 30 = .ok (.aload_n 0, 1) := by decide +kernel
theorem dX2_commit_31 : decode cX2_commit 31 = .ok (.getfield 29, 3) := by decide +kernel
theorem dX2_commit_34 : decode cX2_commit 34 = .ok (.iload_n 1, 1) := by decide +kernel
theorem dX2_commit_35 : decode cX2_commit 35 = .ok (.aload_n 0, 1) := by decide +kernel
theorem dX2_commit_36 : decode cX2_commit 36 = .ok (.getfield 22, 3) := by decide +kernel
theorem dX2_commit_39 : decode cX2_commit 39 = .ok (.iload_n 1, 1) := by decide +kernel
theorem dX2_commit_40 : decode cX2_commit 40 = .ok (.iaload, 1) := by decide +kernel
theorem dX2_commit_41 : decode cX2_commit 41 = .ok (.iastore, 1) := by decide +kernel
theorem dX2_commit_42 : decode cX2_commit 42 = .ok (.aload_n 0, 1) := by decide +kernel
theorem dX2_commit_43 : decode cX2_commit 43 = .ok (.getfield 19, 3) := by decide +kernel
theorem dX2_commit_46 : decode cX2_commit 46 = .ok (.iload_n 1, 1) := by decide +kernel
theorem dX2_commit_47 : decode cX2_commit 47 = .ok (.aload_n 0, 1) := by decide +kernel
theorem dX2_commit_48 : decode cX2_commit 48 = .ok (.getfield 13, 3) := by decide +kernel
theorem dX2_commit_51 : decode cX2_commit 51 = .ok (.iload_n 1, 1) := by decide +kernel
theorem dX2_commit_52 : decode cX2_commit 52 = .ok (.laload, 1) := by decide +kernel
theorem dX2_commit_53 : decode cX2_commit 53 = .ok (.lastore, 1) := by decide +kernel
theorem dX2_commit_54 : decode cX2_commit 54 = .ok (.aload_n 0, 1) := by decide +kernel
theorem dX2_commit_55 : decode cX2_commit 55 = .ok (.getfield 32, 3) := by decide +kernel
theorem dX2_commit_58 : decode cX2_commit 58 = .ok (.iload_n 1, 1) := by decide +kernel
theorem dX2_commit_59 : decode cX2_commit 59 = .ok (.aload_n 0, 1) := by decide +kernel
theorem dX2_commit_60 : decode cX2_commit 60 = .ok (.getfield 26, 3) := by decide +kernel
theorem dX2_commit_63 : decode cX2_commit 63 = .ok (.iload_n 1, 1) := by decide +kernel
theorem dX2_commit_64 : decode cX2_commit 64 = .ok (.iaload, 1) := by decide +kernel
theorem dX2_commit_65 : decode cX2_commit 65 = .ok (.iastore, 1) := by decide +kernel
theorem dX2_commit_66 : decode cX2_commit 66 = .ok (.iinc 1 1, 3) := by decide +kernel
theorem dX2_commit_69 : decode cX2_commit 69 = .ok (.goto (-59), 3) := by decide +kernel
theorem dX2_commit_72 : decode cX2_commit 72 = .ok (.return_, 1) := by decide +kernel
theorem dX2_revert_0 : decode cX2_revert 0 = .ok (.aload_n 0, 1) := by decide +kernel
theorem dX2_revert_1 : decode cX2_revert 1 = .ok (.aload_n 0, 1) := by decide +kernel
theorem dX2_revert_2 : decode cX2_revert 2 = .ok (.getfield 75, 3) := by decide +kernel
theorem dX2_revert_5 : decode cX2_revert 5 = .ok (.putfield 41, 3) := by decide +kernel
theorem dX2_revert_8 : decode cX2_revert 8 = .ok (.iconst 0, 1) := by decide +kernel
theorem dX2_revert_9 : decode cX2_revert 9 = .ok (.istore_n 1, 1) := by decide +kernel
theorem dX2_revert_10 : decode cX2_revert 10 = .ok (.iload_n 1, 1) := by decide +kernel
theorem dX2_revert_11 : decode cX2_revert 11 = .ok (.aload_n 0, 1) := by decide +kernel
theorem dX2_revert_12 : decode cX2_revert 12 = .ok (.getfield 41, 3) := by decide +kernel
theorem dX2_revert_15 : decode cX2_revert 15 = .ok (.if_icmp .ge 57, 3) := by decide +kernel
theorem dX2_revert_18 : decode cX2_revert 18 = .ok (.aload_n 0, 1) := by decide +kernel
theorem dX2_revert_19 : decode cX2_revert 19 = .ok (.getfield 7, 3) := by decide +kernel
theorem dX2_revert_22 : decode cX2_revert 22 = .ok (.iload_n 1, 1) := by decide +kernel
theorem dX2_revert_23 : decode cX2_revert 23 = .ok (.aload_n 0, 1) := by decide +kernel
theorem dX2_revert_24 : decode cX2_revert 24 = .ok (.getfield 16, 3) := by decide +kernel
theorem dX2_revert_27 : decode cX2_revert 27 = .ok (.iload_n 1, 1) := by decide +kernel
theorem dX2_revert_28 : decode cX2_revert 28 = .ok (.laload, 1) := by decide +kernel
theorem dX2_revert_29 : decode cX2_revert 29 = .ok (.lastore, 1) := by decide +kernel
theorem dX2_revert_30 : decode cX2_revert 30 = .ok (.aload_n 0, 1) := by decide +kernel
theorem dX2_revert_31 : decode cX2_revert 31 = .ok (.getfield 22, 3) := by decide +kernel
theorem dX2_revert_34 : decode cX2_revert 34 = .ok (.iload_n 1, 1) := by decide +kernel
theorem dX2_revert_35 : decode cX2_revert 35 = .ok (.aload_n 0, 1) := by decide +kernel
theorem dX2_revert_36 : decode cX2_revert 36 = .ok (.getfield 29, 3) := by decide +kernel
theorem dX2_revert_39 : decode cX2_revert 39 = .ok (.iload_n 1, 1) := by decide +kernel
theorem dX2_revert_40 : decode cX2_revert 40 = .ok (.iaload, 1) := by decide +kernel
theorem dX2_revert_41 : decode cX2_revert 41 = .ok (.iastore, 1) := by decide +kernel
theorem dX2_revert_42 : decode cX2_revert 42 = .ok (.aload_n 0, 1) := by decide +kernel
theorem dX2_revert_43 : decode cX2_revert 43 = .ok (.getfield 13, 3) := by decide +kernel
theorem dX2_revert_46 : decode cX2_revert 46 = .ok (.iload_n 1, 1) := by decide +kernel
theorem dX2_revert_47 : decode cX2_revert 47 = .ok (.aload_n 0, 1) := by decide +kernel
theorem dX2_revert_48 : decode cX2_revert 48 = .ok (.getfield 19, 3) := by decide +kernel
theorem dX2_revert_51 : decode cX2_revert 51 = .ok (.iload_n 1, 1) := by decide +kernel
theorem dX2_revert_52 : decode cX2_revert 52 = .ok (.laload, 1) := by decide +kernel
theorem dX2_revert_53 : decode cX2_revert 53 = .ok (.lastore, 1) := by decide +kernel
theorem dX2_revert_54 : decode cX2_revert 54 = .ok (.aload_n 0, 1) := by decide +kernel
theorem dX2_revert_55 : decode cX2_revert 55 = .ok (.getfield 26, 3) := by decide +kernel
theorem dX2_revert_58 : decode cX2_revert 58 = .ok (.iload_n 1, 1) := by decide +kernel
theorem dX2_revert_59 : decode cX2_revert 59 = .ok (.aload_n 0, 1) := by decide +kernel
theorem dX2_revert_60 : decode cX2_revert 60 = .ok (.getfield 32, 3) := by decide +kernel
theorem dX2_revert_63 : decode cX2_revert 63 = .ok (.iload_n 1, 1) := by decide +kernel
theorem dX2_revert_64 : decode cX2_revert 64 = .ok (.iaload, 1) := by decide +kernel
theorem dX2_revert_65 : decode cX2_revert 65 = .ok (.iastore, 1) := by decide +kernel
theorem dX2_revert_66 : decode cX2_revert 66 = .ok (.iinc 1 1, 3) := by decide +kernel
theorem dX2_revert_69 : decode cX2_revert 69 = .ok (.goto (-59), 3) := by decide +kernel
theorem dX2_revert_72 : decode cX2_revert 72 = .ok (.return_, 1) := by decide +kernel
set_option maxRecDepth 20000 in
theorem gL_law_X2_length : GoodIn lw_tbl (wsV RL 29 RX2 yX2_length wsX2_length) := goodIn_sub (by decide +kernel) (by decide +kernel)
set_option maxRecDepth 20000 in
theorem gL_law_X2_text : GoodIn lw_tbl (wsV RL 34 RX2 yX2_text wsX2_text) := goodIn_sub (by decide +kernel) (by decide +kernel)
set_option maxRecDepth 20000 in
theorem gL_law_X2_seek : GoodIn lw_tbl (wsV RL 38 RX2 yX2_seek wsX2_seek) := goodIn_sub (by decide +kernel) (by decide +kernel)
set_option maxRecDepth 20000 in
theorem gL_law_X2_before : GoodIn lw_tbl (wsV RL 42 RX2 yX2_before wsX2_before) := goodIn_sub (by decide +kernel) (by decide +kernel)
set_option maxRecDepth 20000 in
theorem gL_law_X2_foundSize : GoodIn lw_tbl (wsV RL 47 RX2 yX2_foundSize wsX2_foundSize) := goodIn_sub (by decide +kernel) (by decide +kernel)
set_option maxRecDepth 20000 in
theorem gL_law_X2_found : GoodIn lw_tbl (wsV RL 52 RX2 yX2_found wsX2_found) := goodIn_sub (by decide +kernel) (by decide +kernel)
set_option maxRecDepth 20000 in
theorem gL_law_X2_count : GoodIn lw_tbl (wsV RL 56 RX2 yX2_count wsX2_count) := goodIn_sub (by decide +kernel) (by decide +kernel)
set_option maxRecDepth 20000 in
theorem gL_law_X2_commit : GoodIn lw_tbl (wsV RL 60 RX2 yX2_commit wsX2_commit) := goodIn_sub (by decide +kernel) (by decide +kernel)
set_option maxRecDepth 20000 in
theorem gL_law_X2_revert : GoodIn lw_tbl (wsV RL 64 RX2 yX2_revert wsX2_revert) := goodIn_sub (by decide +kernel) (by decide +kernel)
theorem i_X0_init_X0 : ∀ w ∈ wsX00, w ∈ wsX0_init := by decide +kernel
theorem i_X0_has_X0 : ∀ w ∈ wsX00, w ∈ wsX0_has := by decide +kernel
theorem i_X0_holds_X0 : ∀ w ∈ wsX00, w ∈ wsX0_holds := by decide +kernel
theorem i_X0_isBefore_X0 : ∀ w ∈ wsX00, w ∈ wsX0_isBefore := by decide +kernel
theorem i_X0_set_X0 : ∀ w ∈ wsX00, w ∈ wsX0_set := by decide +kernel
theorem i_X0_makeRoom_X0 : ∀ w ∈ wsX00, w ∈ wsX0_makeRoom := by decide +kernel
theorem i_X0_drop_X0 : ∀ w ∈ wsX00, w ∈ wsX0_drop := by decide +kernel
theorem i_X0_move_X0 : ∀ w ∈ wsX00, w ∈ wsX0_move := by decide +kernel
theorem i_X0_copyFrom_X0 : ∀ w ∈ wsX00, w ∈ wsX0_copyFrom := by decide +kernel
theorem i_X1_init_X1 : ∀ w ∈ wsX10, w ∈ wsX1_init := by decide +kernel
theorem i_X1_put_X1 : ∀ w ∈ wsX10, w ∈ wsX1_put := by decide +kernel
theorem i_X1_remove_X1 : ∀ w ∈ wsX10, w ∈ wsX1_remove := by decide +kernel
theorem i_X1_length_X1 : ∀ w ∈ wsX10, w ∈ wsX1_length := by decide +kernel
theorem i_X1_length_X0 : ∀ w ∈ wsX00, w ∈ wsX1_length := by decide +kernel
theorem i_X1_text_X1 : ∀ w ∈ wsX10, w ∈ wsX1_text := by decide +kernel
theorem i_X1_text_X0 : ∀ w ∈ wsX00, w ∈ wsX1_text := by decide +kernel
theorem i_X1_seek_X1 : ∀ w ∈ wsX10, w ∈ wsX1_seek := by decide +kernel
theorem i_X1_before_X1 : ∀ w ∈ wsX10, w ∈ wsX1_before := by decide +kernel
theorem i_X1_foundSize_X1 : ∀ w ∈ wsX10, w ∈ wsX1_foundSize := by decide +kernel
theorem i_X1_found_X1 : ∀ w ∈ wsX10, w ∈ wsX1_found := by decide +kernel
theorem i_X1_count_X1 : ∀ w ∈ wsX10, w ∈ wsX1_count := by decide +kernel
theorem i_X1_count_X0 : ∀ w ∈ wsX00, w ∈ wsX1_count := by decide +kernel
theorem i_X1_commit_X1 : ∀ w ∈ wsX10, w ∈ wsX1_commit := by decide +kernel
theorem i_X1_revert_X1 : ∀ w ∈ wsX10, w ∈ wsX1_revert := by decide +kernel
theorem i_X1_noteFound_X1 : ∀ w ∈ wsX10, w ∈ wsX1_noteFound := by decide +kernel
theorem i_X1_noteFound_X0 : ∀ w ∈ wsX00, w ∈ wsX1_noteFound := by decide +kernel
theorem i_X1_placeOf_X1 : ∀ w ∈ wsX10, w ∈ wsX1_placeOf := by decide +kernel
theorem i_X2_init_X2 : ∀ w ∈ wsX20, w ∈ wsX2_init := by decide +kernel
theorem i_X2_place_X2 : ∀ w ∈ wsX20, w ∈ wsX2_place := by decide +kernel
theorem i_X2_isAt_X2 : ∀ w ∈ wsX20, w ∈ wsX2_isAt := by decide +kernel
theorem i_X2_put_X2 : ∀ w ∈ wsX20, w ∈ wsX2_put := by decide +kernel
theorem i_X2_remove_X2 : ∀ w ∈ wsX20, w ∈ wsX2_remove := by decide +kernel
theorem i_X2_length_X2 : ∀ w ∈ wsX20, w ∈ wsX2_length := by decide +kernel
theorem i_X2_text_X2 : ∀ w ∈ wsX20, w ∈ wsX2_text := by decide +kernel
theorem i_X2_find_X2 : ∀ w ∈ wsX20, w ∈ wsX2_find := by decide +kernel
theorem i_X2_foundSize_X2 : ∀ w ∈ wsX20, w ∈ wsX2_foundSize := by decide +kernel
theorem i_X2_found_X2 : ∀ w ∈ wsX20, w ∈ wsX2_found := by decide +kernel
theorem i_X2_count_X2 : ∀ w ∈ wsX20, w ∈ wsX2_count := by decide +kernel
theorem i_X2_commit_X2 : ∀ w ∈ wsX20, w ∈ wsX2_commit := by decide +kernel
theorem i_X2_revert_X2 : ∀ w ∈ wsX20, w ∈ wsX2_revert := by decide +kernel
