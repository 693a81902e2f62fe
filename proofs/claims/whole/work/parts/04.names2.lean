abbrev cX2_init : ByteArray := prog_4_method_1_code
def yX2_init : MethodName := ⟨RX2, "<init>", "(I)V"⟩
abbrev cX2_constant : ByteArray := prog_4_method_8_code
def yX2_constant : MethodName := ⟨RX2, "constant", "(II)Z"⟩
abbrev cX2_isRow : ByteArray := prog_4_method_3_code
def yX2_isRow : MethodName := ⟨RX2, "isRow", "(I)Z"⟩
abbrev cX2_keep : ByteArray := prog_4_method_7_code
def yX2_keep : MethodName := ⟨RX2, "keep", "(I)Z"⟩
abbrev cX2_variable : ByteArray := prog_4_method_9_code
def yX2_variable : MethodName := ⟨RX2, "variable", "(II)Z"⟩
abbrev cX2_isVariable : ByteArray := prog_4_method_4_code
def yX2_isVariable : MethodName := ⟨RX2, "isVariable", "(I)Z"⟩
abbrev cX2_value : ByteArray := prog_4_method_6_code
def yX2_value : MethodName := ⟨RX2, "value", "(II)I"⟩
abbrev cX2_combine : ByteArray := prog_4_method_10_code
def yX2_combine : MethodName := ⟨RX2, "combine", "(IIII)Z"⟩
abbrev cX2_has : ByteArray := prog_4_method_5_code
def yX2_has : MethodName := ⟨RX2, "has", "(II)Z"⟩
abbrev cX2_choose : ByteArray := prog_4_method_11_code
def yX2_choose : MethodName := ⟨RX2, "choose", "(IIII)Z"⟩
abbrev cX2_fix : ByteArray := prog_4_method_12_code
def yX2_fix : MethodName := ⟨RX2, "fix", "(IIII)Z"⟩
abbrev cX2_exists : ByteArray := prog_4_method_13_code
def yX2_exists : MethodName := ⟨RX2, "exists", "(IIII)Z"⟩
abbrev cX2_substitute : ByteArray := prog_4_method_15_code
def yX2_substitute : MethodName := ⟨RX2, "substitute", "(III)Z"⟩
abbrev cX2_led : ByteArray := prog_4_method_14_code
def yX2_led : MethodName := ⟨RX2, "led", "(III)I"⟩
abbrev cX2_nearest : ByteArray := prog_4_method_16_code
def yX2_nearest : MethodName := ⟨RX2, "nearest", "(III)Z"⟩
abbrev cX2_image : ByteArray := prog_4_method_17_code
def yX2_image : MethodName := ⟨RX2, "image", "(IIII)Z"⟩
abbrev cX2_forks : ByteArray := prog_4_method_19_code
def yX2_forks : MethodName := ⟨RX2, "forks", "(I)I"⟩
abbrev cX2_alike : ByteArray := prog_4_method_18_code
def yX2_alike : MethodName := ⟨RX2, "alike", "(IIII)Z"⟩
abbrev cX2_ones : ByteArray := prog_4_method_20_code
def yX2_ones : MethodName := ⟨RX2, "ones", "(I)I"⟩
abbrev cX2_least : ByteArray := prog_4_method_21_code
def yX2_least : MethodName := ⟨RX2, "least", "(I)I"⟩
abbrev cX2_at : ByteArray := prog_4_method_22_code
def yX2_at : MethodName := ⟨RX2, "at", "(II)I"⟩
abbrev cX2_same : ByteArray := prog_4_method_23_code
def yX2_same : MethodName := ⟨RX2, "same", "(II)Z"⟩
def BX2a : List Cond := [Cond.initialized RX2, Cond.fieldLink RX2 8 "ForkDeskModel" "rows" "[Z", Cond.fieldLink RX2 14 "ForkDeskModel" "made" "[Z", Cond.fieldLink RX2 17 "ForkDeskModel" "parts" "[I", Cond.fieldLink RX2 21 "ForkDeskModel" "n" "I", Cond.fieldLink RX2 25 "ForkDeskModel" "points" "I", Cond.fieldLink RX2 28 "ForkDeskModel" "thrown" "I", Cond.methodLink RX2 31 yX2_isRow, Cond.static yX2_isRow, Cond.code yX2_isRow cX2_isRow 1 (some .boolean), Cond.methodLink RX2 35 yX2_keep, Cond.instanceMethod yX2_keep, Cond.selects RX2 yX2_keep yX2_keep, Cond.code yX2_keep cX2_keep 3 (some .boolean), Cond.methodLink RX2 38 yX2_isVariable, Cond.instanceMethod yX2_isVariable, Cond.selects RX2 yX2_isVariable yX2_isVariable, Cond.code yX2_isVariable cX2_isVariable 2 (some .boolean), Cond.methodLink RX2 41 yX2_value, Cond.instanceMethod yX2_value, Cond.selects RX2 yX2_value yX2_value, Cond.code yX2_value cX2_value 3 (some .int), Cond.methodLink RX2 45 yX2_has, Cond.instanceMethod yX2_has, Cond.selects RX2 yX2_has yX2_has, Cond.code yX2_has cX2_has 3 (some .boolean), Cond.methodLink RX2 49 yX2_led, Cond.instanceMethod yX2_led, Cond.selects RX2 yX2_led yX2_led, Cond.code yX2_led cX2_led 6 (some .int), Cond.methodLink RX2 53 yX2_alike, Cond.instanceMethod yX2_alike, Cond.selects RX2 yX2_alike yX2_alike, Cond.code yX2_alike cX2_alike 6 (some .boolean)]
def BX2 : List Cond := BX2a ++ wsX20
def wsX2_constant : List Cond := .code yX2_constant cX2_constant 4 (some .boolean) :: BX2
def wsX2_isRow : List Cond := .code yX2_isRow cX2_isRow 1 (some .boolean) :: BX2
def wsX2_keep : List Cond := .code yX2_keep cX2_keep 3 (some .boolean) :: BX2
def wsX2_variable : List Cond := .code yX2_variable cX2_variable 4 (some .boolean) :: BX2
def wsX2_isVariable : List Cond := .code yX2_isVariable cX2_isVariable 2 (some .boolean) :: BX2
def wsX2_value : List Cond := .code yX2_value cX2_value 3 (some .int) :: BX2
def wsX2_combine : List Cond := .code yX2_combine cX2_combine 8 (some .boolean) :: BX2
def wsX2_has : List Cond := .code yX2_has cX2_has 3 (some .boolean) :: BX2
def wsX2_choose : List Cond := .code yX2_choose cX2_choose 6 (some .boolean) :: BX2
def wsX2_fix : List Cond := .code yX2_fix cX2_fix 7 (some .boolean) :: BX2
def wsX2_exists : List Cond := .code yX2_exists cX2_exists 8 (some .boolean) :: BX2
def wsX2_substitute : List Cond := .code yX2_substitute cX2_substitute 5 (some .boolean) :: BX2
def wsX2_led : List Cond := .code yX2_led cX2_led 6 (some .int) :: BX2
def wsX2_nearest : List Cond := .code yX2_nearest cX2_nearest 6 (some .boolean) :: BX2
def wsX2_image : List Cond := .code yX2_image cX2_image 9 (some .boolean) :: BX2
def wsX2_forks : List Cond := .code yX2_forks cX2_forks 8 (some .int) :: BX2
def wsX2_alike : List Cond := .code yX2_alike cX2_alike 6 (some .boolean) :: BX2
def wsX2_ones : List Cond := .code yX2_ones cX2_ones 4 (some .int) :: BX2
def wsX2_least : List Cond := .code yX2_least cX2_least 3 (some .int) :: BX2
def wsX2_at : List Cond := .code yX2_at cX2_at 3 (some .int) :: BX2
def wsX2_same : List Cond := .code yX2_same cX2_same 3 (some .boolean) :: BX2
theorem inBX2 : ∀ w ∈ wsX20, w ∈ BX2 := fun _ h => List.mem_append_right _ h
theorem goodIn_mono {c : Cond} {big ws : List Cond} (h : GoodIn big ws) : GoodIn (c :: big) ws := fun w hw => ⟨List.mem_cons_of_mem _ (h w hw).1, (h w hw).2⟩
set_option maxRecDepth 20000 in
theorem gX2_isRow : GoodIn BX2 (va_wsS RX2 31 yX2_isRow wsX2_isRow) := goodIn_r _ [7, 8, 0, 9, 0, 1, 2, 3, 4, 5, 6, 7, 8, 9, 10, 11, 12, 13, 14, 15, 16, 17, 18, 19, 20, 21, 22, 23, 24, 25, 26, 27, 28, 29, 30, 31, 32, 33, 34, 35, 36, 37, 38, 39] (by decide +kernel) (by decide +kernel)
set_option maxRecDepth 20000 in
theorem gX2_keep : GoodIn BX2 (wsV RX2 35 RX2 yX2_keep wsX2_keep) := goodIn_r _ [10, 11, 12, 0, 13, 0, 1, 2, 3, 4, 5, 6, 7, 8, 9, 10, 11, 12, 13, 14, 15, 16, 17, 18, 19, 20, 21, 22, 23, 24, 25, 26, 27, 28, 29, 30, 31, 32, 33, 34, 35, 36, 37, 38, 39] (by decide +kernel) (by decide +kernel)
set_option maxRecDepth 20000 in
theorem gX2_isVariable : GoodIn BX2 (wsV RX2 38 RX2 yX2_isVariable wsX2_isVariable) := goodIn_r _ [14, 15, 16, 0, 17, 0, 1, 2, 3, 4, 5, 6, 7, 8, 9, 10, 11, 12, 13, 14, 15, 16, 17, 18, 19, 20, 21, 22, 23, 24, 25, 26, 27, 28, 29, 30, 31, 32, 33, 34, 35, 36, 37, 38, 39] (by decide +kernel) (by decide +kernel)
set_option maxRecDepth 20000 in
theorem gX2_value : GoodIn BX2 (wsV RX2 41 RX2 yX2_value wsX2_value) := goodIn_r _ [18, 19, 20, 0, 21, 0, 1, 2, 3, 4, 5, 6, 7, 8, 9, 10, 11, 12, 13, 14, 15, 16, 17, 18, 19, 20, 21, 22, 23, 24, 25, 26, 27, 28, 29, 30, 31, 32, 33, 34, 35, 36, 37, 38, 39] (by decide +kernel) (by decide +kernel)
set_option maxRecDepth 20000 in
theorem gX2_has : GoodIn BX2 (wsV RX2 45 RX2 yX2_has wsX2_has) := goodIn_r _ [22, 23, 24, 0, 25, 0, 1, 2, 3, 4, 5, 6, 7, 8, 9, 10, 11, 12, 13, 14, 15, 16, 17, 18, 19, 20, 21, 22, 23, 24, 25, 26, 27, 28, 29, 30, 31, 32, 33, 34, 35, 36, 37, 38, 39] (by decide +kernel) (by decide +kernel)
set_option maxRecDepth 20000 in
theorem gX2_led : GoodIn BX2 (wsV RX2 49 RX2 yX2_led wsX2_led) := goodIn_r _ [26, 27, 28, 0, 29, 0, 1, 2, 3, 4, 5, 6, 7, 8, 9, 10, 11, 12, 13, 14, 15, 16, 17, 18, 19, 20, 21, 22, 23, 24, 25, 26, 27, 28, 29, 30, 31, 32, 33, 34, 35, 36, 37, 38, 39] (by decide +kernel) (by decide +kernel)
set_option maxRecDepth 20000 in
theorem gX2_alike : GoodIn BX2 (wsV RX2 53 RX2 yX2_alike wsX2_alike) := goodIn_r _ [30, 31, 32, 0, 33, 0, 1, 2, 3, 4, 5, 6, 7, 8, 9, 10, 11, 12, 13, 14, 15, 16, 17, 18, 19, 20, 21, 22, 23, 24, 25, 26, 27, 28, 29, 30, 31, 32, 33, 34, 35, 36, 37, 38, 39] (by decide +kernel) (by decide +kernel)
theorem dX2_init_0 : decode cX2_init 0 = .ok (.aload_n 0, 1) := by decide +kernel
theorem dX2_init_1 : decode cX2_init 1 = .ok (.invokespecial 1, 3) := by decide +kernel
theorem dX2_init_4 : decode cX2_init 4 = .ok (.aload_n 0, 1) := by decide +kernel
theorem dX2_init_5 : decode cX2_init 5 = .ok (.ldc 7, 2) := by decide +kernel
theorem dX2_init_7 : decode cX2_init 7 = .ok (.newarray .boolean, 2) := by decide +kernel
theorem dX2_init_9 : decode cX2_init 9 = .ok (.putfield 8, 3) := by decide +kernel
theorem dX2_init_12 : decode cX2_init 12 = .ok (.aload_n 0, 1) := by decide +kernel
theorem dX2_init_13 : decode cX2_init 13 = .ok (.sipush 4096, 3) := by decide +kernel
theorem dX2_init_16 : decode cX2_init 16 = .ok (.newarray .boolean, 2) := by decide +kernel
theorem dX2_init_18 : decode cX2_init 18 = .ok (.putfield 14, 3) := by decide +kernel
theorem dX2_init_21 : decode cX2_init 21 = .ok (.aload_n 0, 1) := by decide +kernel
theorem dX2_init_22 : decode cX2_init 22 = .ok (.sipush 2048, 3) := by decide +kernel
theorem dX2_init_25 : decode cX2_init 25 = .ok (.newarray .int, 2) := by decide +kernel
theorem dX2_init_27 : decode cX2_init 27 = .ok (.putfield 17, 3) := by decide +kernel
theorem dX2_init_30 : decode cX2_init 30 = .ok (.aload_n 0, 1) := by decide +kernel
theorem dX2_init_31 : decode cX2_init 31 = .ok (.iload_n 1, 1) := by decide +kernel
theorem dX2_init_32 : decode cX2_init 32 = .ok (.iconst 1, 1) := by decide +kernel
theorem dX2_init_33 : decode cX2_init 33 = .ok (.if_icmp .ge 7, 3) := by decide +kernel
theorem dX2_init_36 : decode cX2_init 36 = .ok (.iconst 1, 1) := by decide +kernel
theorem dX2_init_37 : decode cX2_init 37 = .ok (.goto 15, 3) := by decide +kernel
theorem dX2_init_40 : decode cX2_init 40 = .ok (.iload_n 1, 1) := by decide +kernel
theorem dX2_init_41 : decode cX2_init 41 = .ok (.bipush 12, 2) := by decide +kernel
theorem dX2_init_43 : decode cX2_init 43 = .ok (.if_icmp .le 8, 3) := by decide +kernel
theorem dX2_init_46 : decode cX2_init 46 = .ok (.bipush 12, 2) := by decide +kernel
theorem dX2_init_48 : decode cX2_init 48 = .ok (.goto 4, 3) := by decide +kernel
theorem dX2_init_51 : decode cX2_init 51 = .ok (.iload_n 1, 1) := by decide +kernel
theorem dX2_init_52 : decode cX2_init 52 = .ok (.putfield 21, 3) := by decide +kernel
theorem dX2_init_55 : decode cX2_init 55 = .ok (.aload_n 0, 1) := by decide +kernel
theorem dX2_init_56 : decode cX2_init 56 = .ok (.iconst 1, 1) := by decide +kernel
theorem dX2_init_57 : decode cX2_init 57 = .ok (.aload_n 0, 1) := by decide +kernel
theorem dX2_init_58 : decode cX2_init 58 = .ok (.getfield 21, 3) := by decide +kernel
theorem dX2_init_61 : decode cX2_init 61 = .ok (.ishl, 1) := by decide +kernel
theorem dX2_init_62 : decode cX2_init 62 = .ok (.putfield 25, 3) := by decide +kernel
theorem dX2_init_65 : decode cX2_init 65 = .ok (.return_, 1) := by decide +kernel
theorem dX2_constant_0 : decode cX2_constant 0 = .ok (.aload_n 0, 1) := by decide +kernel
theorem dX2_constant_1 : decode cX2_constant 1 = .ok (.iconst 0, 1) := by decide +kernel
theorem dX2_constant_2 : decode cX2_constant 2 = .ok (.putfield 28, 3) := by decide +kernel
theorem dX2_constant_5 : decode cX2_constant 5 = .ok (.iload_n 1, 1) := by decide +kernel
theorem dX2_constant_6 : decode cX2_constant 6 = .ok (.invokestatic 31, 3) := by decide +kernel
theorem dX2_constant_9 : decode cX2_constant 9 = .ok (.ifCond .eq 12, 3) := by decide +kernel
theorem dX2_constant_12 : decode cX2_constant 12 = .ok (.iload_n 2, 1) := by decide +kernel
theorem dX2_constant_13 : decode cX2_constant 13 = .ok (.ifCond .lt 8, 3) := by decide +kernel
theorem dX2_constant_16 : decode cX2_constant 16 = .ok (.iload_n 2, 1) := by decide +kernel
theorem dX2_constant_17 : decode cX2_constant 17 = .ok (.iconst 1, 1) := by decide +kernel
theorem dX2_constant_18 : decode cX2_constant 18 = .ok (.if_icmp .le 5, 3) := by decide +kernel
theorem dX2_constant_21 : decode cX2_constant 21 = .ok (.iconst 0, 1) := by decide +kernel
theorem dX2_constant_22 : decode cX2_constant 22 = .ok (.ireturn, 1) := by decide +kernel
theorem dX2_constant_23 : decode cX2_constant 23 = .ok (.iconst 0, 1) := by decide +kernel
theorem dX2_constant_24 : decode cX2_constant 24 = .ok (.istore_n 3, 1) := by decide +kernel
theorem dX2_constant_25 : decode cX2_constant 25 = .ok (.iload_n 3, 1) := by decide +kernel
theorem dX2_constant_26 : decode cX2_constant 26 = .ok (.aload_n 0, 1) := by decide +kernel
theorem dX2_constant_27 : decode cX2_constant 27 = .ok (.getfield 25, 3) := by decide +kernel
theorem dX2_constant_30 : decode cX2_constant 30 = .ok (.if_icmp .ge 25, 3) := by decide +kernel
theorem dX2_constant_33 : decode cX2_constant 33 = .ok (.aload_n 0, 1) := by decide +kernel
theorem dX2_constant_34 : decode cX2_constant 34 = .ok (.getfield 14, 3) := by decide +kernel
theorem dX2_constant_37 : decode cX2_constant 37 = .ok (.iload_n 3, 1) := by decide +kernel
theorem dX2_constant_38 : decode cX2_constant 38 = .ok (.iload_n 2, 1) := by decide +kernel
theorem dX2_constant_39 : decode cX2_constant 39 = .ok (.iconst 1, 1) := by decide +kernel
theorem dX2_constant_40 : decode cX2_constant 40 = .ok (.if_icmp .ne 7, 3) := by decide +kernel
theorem dX2_constant_43 : decode cX2_constant 43 = .ok (.iconst 1, 1) := by decide +kernel
theorem dX2_constant_44 : decode cX2_constant 44 = .ok (.goto 4, 3) := by decide +kernel
theorem dX2_constant_47 : decode cX2_constant 47 = .ok (.iconst 0, 1) := by decide +kernel
theorem dX2_constant_48 : decode cX2_constant 48 = .ok (.bastore, 1) := by decide +kernel
theorem dX2_constant_49 : decode cX2_constant 49 = .ok (.iinc 3 1, 3) := by decide +kernel
theorem dX2_constant_52 : decode cX2_constant 52 = .ok (.goto (-27), 3) := by decide +kernel
theorem dX2_constant_55 : decode cX2_constant 55 = .ok (.aload_n 0, 1) := by decide +kernel
theorem dX2_constant_56 : decode cX2_constant 56 = .ok (.iload_n 1, 1) := by decide +kernel
theorem dX2_constant_57 : decode cX2_constant 57 = .ok (.invokevirtual 35, 3) := by decide +kernel
theorem dX2_constant_60 : decode cX2_constant 60 = .ok (.ireturn, 1) := by decide +kernel
theorem dX2_isRow_0 : decode cX2_isRow 0 = .ok (.iload_n 0, 1) := by decide +kernel
theorem dX2_isRow_1 : decode cX2_isRow 1 = .ok (.ifCond .lt 13, 3) := by decide +kernel
theorem dX2_isRow_4 : decode cX2_isRow 4 = .ok (.iload_n 0, 1) := by decide +kernel
theorem dX2_isRow_5 : decode cX2_isRow 5 = .ok (.bipush 32, 2) := by decide +kernel
theorem dX2_isRow_7 : decode cX2_isRow 7 = .ok (.if_icmp .ge 7, 3) := by decide +kernel
theorem dX2_isRow_10 : decode cX2_isRow 10 = .ok (.iconst 1, 1) := by decide +kernel
theorem dX2_isRow_11 : decode cX2_isRow 11 = .ok (.goto 4, 3) := by decide +kernel
theorem dX2_isRow_14 : decode cX2_isRow 14 = .ok (.iconst 0, 1) := by decide +kernel
theorem dX2_isRow_15 : decode cX2_isRow 15 = .ok (.ireturn, 1) := by decide +kernel
theorem dX2_keep_0 : decode cX2_keep 0 = .ok (.iconst 0, 1) := by decide +kernel
theorem dX2_keep_1 : decode cX2_keep 1 = .ok (.istore_n 2, 1) := by decide +kernel
theorem dX2_keep_2 : decode cX2_keep 2 = .ok (.iload_n 2, 1) := by decide +kernel
theorem dX2_keep_3 : decode cX2_keep 3 = .ok (.aload_n 0, 1) := by decide +kernel
theorem dX2_keep_4 : decode cX2_keep 4 = .ok (.getfield 25, 3) := by decide +kernel
theorem dX2_keep_7 : decode cX2_keep 7 = .ok (.if_icmp .ge 27, 3) := by decide +kernel
theorem dX2_keep_10 : decode cX2_keep 10 = .ok (.aload_n 0, 1) := by decide +kernel
theorem dX2_keep_11 : decode cX2_keep 11 = .ok (.getfield 8, 3) := by decide +kernel
theorem dX2_keep_14 : decode cX2_keep 14 = .ok (.sipush 4096, 3) := by decide +kernel
theorem dX2_keep_17 : decode cX2_keep 17 = .ok (.iload_n 1, 1) := by decide +kernel
theorem dX2_keep_18 : decode cX2_keep 18 = .ok (.imul, 1) := by decide +kernel
theorem dX2_keep_19 : decode cX2_keep 19 = .ok (.iload_n 2, 1) := by decide +kernel
theorem dX2_keep_20 : decode cX2_keep 20 = .ok (.iadd, 1) := by decide +kernel
theorem dX2_keep_21 : decode cX2_keep 21 = .ok (.aload_n 0, 1) := by decide +kernel
theorem dX2_keep_22 : decode cX2_keep 22 = .ok (.getfield 14, 3) := by decide +kernel
theorem dX2_keep_25 : decode cX2_keep 25 = .ok (.iload_n 2, 1) := by decide +kernel
theorem dX2_keep_26 : decode cX2_keep 26 = .ok (.baload, 1) := by decide +kernel
theorem dX2_keep_27 : decode cX2_keep 27 = .ok (.bastore, 1) := by decide +kernel
theorem dX2_keep_28 : decode cX2_keep 28 = .ok (.iinc 2 1, 3) := by decide +kernel
theorem dX2_keep_31 : decode cX2_keep 31 = .ok (.goto (-29), 3) := by decide +kernel
theorem dX2_keep_34 : decode cX2_keep 34 = .ok (.iconst 1, 1) := by decide +kernel
theorem dX2_keep_35 : decode cX2_keep 35 = .ok (.ireturn, 1) := by decide +kernel
theorem dX2_variable_0 : decode cX2_variable 0 = .ok (.aload_n 0, 1) := by decide +kernel
theorem dX2_variable_1 : decode cX2_variable 1 = .ok (.iconst 0, 1) := by decide +kernel
theorem dX2_variable_2 : decode cX2_variable 2 = .ok (.putfield 28, 3) := by decide +kernel
theorem dX2_variable_5 : decode cX2_variable 5 = .ok (.iload_n 1, 1) := by decide +kernel
theorem dX2_variable_6 : decode cX2_variable 6 = .ok (.invokestatic 31, 3) := by decide +kernel
theorem dX2_variable_9 : decode cX2_variable 9 = .ok (.ifCond .eq 11, 3) := by decide +kernel
theorem dX2_variable_12 : decode cX2_variable 12 = .ok (.aload_n 0, 1) := by decide +kernel
theorem dX2_variable_13 : decode cX2_variable 13 = .ok (.iload_n 2, 1) := by decide +kernel
theorem dX2_variable_14 : decode cX2_variable 14 = .ok (.invokevirtual 38, 3) := by decide +kernel
theorem dX2_variable_17 : decode cX2_variable 17 = .ok (.ifCond .ne 5, 3) := by decide +kernel
theorem dX2_variable_20 : decode cX2_variable 20 = .ok (.iconst 0, 1) := by decide +kernel
theorem dX2_variable_21 : decode cX2_variable 21 = .ok (.ireturn, 1) := by decide +kernel
theorem dX2_variable_22 : decode cX2_variable 22 = .ok (.iconst 0, 1) := by decide +kernel
theorem dX2_variable_23 : decode cX2_variable 23 = .ok (.istore_n 3, 1) := by decide +kernel
theorem dX2_variable_24 : decode cX2_variable 24 = .ok (.iload_n 3, 1) := by decide +kernel
theorem dX2_variable_25 : decode cX2_variable 25 = .ok (.aload_n 0, 1) := by decide +kernel
theorem dX2_variable_26 : decode cX2_variable 26 = .ok (.getfield 25, 3) := by decide +kernel
theorem dX2_variable_29 : decode cX2_variable 29 = .ok (.if_icmp .ge 30, 3) := by decide +kernel
theorem dX2_variable_32 : decode cX2_variable 32 = .ok (.aload_n 0, 1) := by decide +kernel
theorem dX2_variable_33 : decode cX2_variable 33 = .ok (.getfield 14, 3) := by decide +kernel
theorem dX2_variable_36 : decode cX2_variable 36 = .ok (.iload_n 3, 1) := by decide +kernel
theorem dX2_variable_37 : decode cX2_variable 37 = .ok (.aload_n 0, 1) := by decide +kernel
theorem dX2_variable_38 : decode cX2_variable 38 = .ok (.iload_n 2, 1) := by decide +kernel
theorem dX2_variable_39 : decode cX2_variable 39 = .ok (.iload_n 3, 1) := by decide +kernel
theorem dX2_variable_40 : decode cX2_variable 40 = .ok (.invokevirtual 41, 3) := by decide +kernel
theorem dX2_variable_43 : decode cX2_variable 43 = .ok (.iconst 1, 1) := by decide +kernel
theorem dX2_variable_44 : decode cX2_variable 44 = .ok (.if_icmp .ne 7, 3) := by decide +kernel
theorem dX2_variable_47 : decode cX2_variable 47 = .ok (.iconst 1, 1) := by decide +kernel
theorem dX2_variable_48 : decode cX2_variable 48 = .ok (.goto 4, 3) := by decide +kernel
theorem dX2_variable_51 : decode cX2_variable 51 = .ok (.iconst 0, 1) := by decide +kernel
theorem dX2_variable_52 : decode cX2_variable 52 = .ok (.bastore, 1) := by decide +kernel
theorem dX2_variable_53 : decode cX2_variable 53 = .ok (.iinc 3 1, 3) := by decide +kernel
theorem dX2_variable_56 : decode cX2_variable 56 = .ok (.goto (-32), 3) := by decide +kernel
theorem dX2_variable_59 : decode cX2_variable 59 = .ok (.aload_n 0, 1) := by decide +kernel
theorem dX2_variable_60 : decode cX2_variable 60 = .ok (.iload_n 1, 1) := by decide +kernel
theorem dX2_variable_61 : decode cX2_variable 61 = .ok (.invokevirtual 35, 3) := by decide +kernel
theorem dX2_variable_64 : decode cX2_variable 64 = .ok (.ireturn, 1) := by decide +kernel
theorem dX2_isVariable_0 : decode cX2_isVariable 0 = .ok (.iload_n 1, 1) := by decide +kernel
theorem dX2_isVariable_1 : decode cX2_isVariable 1 = .ok (.iconst 1, 1) := by decide +kernel
theorem dX2_isVariable_2 : decode cX2_isVariable 2 = .ok (.if_icmp .lt 15, 3) := by decide +kernel
theorem dX2_isVariable_5 : decode cX2_isVariable 5 = .ok (.iload_n 1, 1) := by decide +kernel
theorem dX2_isVariable_6 : decode cX2_isVariable 6 = .ok (.aload_n 0, 1) := by decide +kernel
theorem dX2_isVariable_7 : decode cX2_isVariable 7 = .ok (.getfield 21, 3) := by decide +kernel
theorem dX2_isVariable_10 : decode cX2_isVariable 10 = .ok (.if_icmp .gt 7, 3) := by decide +kernel
theorem dX2_isVariable_13 : decode cX2_isVariable 13 = .ok (.iconst 1, 1) := by decide +kernel
theorem dX2_isVariable_14 : decode cX2_isVariable 14 = .ok (.goto 4, 3) := by decide +kernel
theorem dX2_isVariable_17 : decode cX2_isVariable 17 = .ok (.iconst 0, 1) := by decide +kernel
theorem dX2_isVariable_18 : decode cX2_isVariable 18 = .ok (.ireturn, 1) := by decide +kernel
theorem dX2_value_0 : decode cX2_value 0 = .ok (.iload_n 2, 1) := by decide +kernel
theorem dX2_value_1 : decode cX2_value 1 = .ok (.aload_n 0, 1) := by decide +kernel
theorem dX2_value_2 : decode cX2_value 2 = .ok (.getfield 21, 3) := by decide +kernel
theorem dX2_value_5 : decode cX2_value 5 = .ok (.iload_n 1, 1) := by decide +kernel
theorem dX2_value_6 : decode cX2_value 6 = .ok (.isub, 1) := by decide +kernel
theorem dX2_value_7 : decode cX2_value 7 = .ok (.ishr, 1) := by decide +kernel
theorem dX2_value_8 : decode cX2_value 8 = .ok (.iconst 1, 1) := by decide +kernel
theorem dX2_value_9 : decode cX2_value 9 = .ok (.iand, 1) := by decide +kernel
theorem dX2_value_10 : decode cX2_value 10 = .ok (.ireturn, 1) := by decide +kernel
theorem dX2_combine_0 : decode cX2_combine 0 = .ok (.aload_n 0, 1) := by decide +kernel
theorem dX2_combine_1 : decode cX2_combine 1 = .ok (.iconst 0, 1) := by decide +kernel
theorem dX2_combine_2 : decode cX2_combine 2 = .ok (.putfield 28, 3) := by decide +kernel
theorem dX2_combine_5 : decode cX2_combine 5 = .ok (.iload_n 1, 1) := by decide +kernel
theorem dX2_combine_6 : decode cX2_combine 6 = .ok (.invokestatic 31, 3) := by decide +kernel
theorem dX2_combine_9 : decode cX2_combine 9 = .ok (.ifCond .eq 27, 3) := by decide +kernel
theorem dX2_combine_12 : decode cX2_combine 12 = .ok (.iload_n 3, 1) := by decide +kernel
theorem dX2_combine_13 : decode cX2_combine 13 = .ok (.invokestatic 31, 3) := by decide +kernel
theorem dX2_combine_16 : decode cX2_combine 16 = .ok (.ifCond .eq 20, 3) := by decide +kernel
theorem dX2_combine_19 : decode cX2_combine 19 = .ok (.iload 4, 2) := by decide +kernel
theorem dX2_combine_21 : decode cX2_combine 21 = .ok (.invokestatic 31, 3) := by decide +kernel
theorem dX2_combine_24 : decode cX2_combine 24 = .ok (.ifCond .eq 12, 3) := by decide +kernel
theorem dX2_combine_27 : decode cX2_combine 27 = .ok (.iload_n 2, 1) := by decide +kernel
theorem dX2_combine_28 : decode cX2_combine 28 = .ok (.ifCond .lt 8, 3) := by decide +kernel
theorem dX2_combine_31 : decode cX2_combine 31 = .ok (.iload_n 2, 1) := by decide +kernel
theorem dX2_combine_32 : decode cX2_combine 32 = .ok (.iconst 3, 1) := by decide +kernel
theorem dX2_combine_33 : decode cX2_combine 33 = .ok (.if_icmp .le 5, 3) := by decide +kernel
theorem dX2_combine_36 : decode cX2_combine 36 = .ok (.iconst 0, 1) := by decide +kernel
theorem dX2_combine_37 : decode cX2_combine 37 = .ok (.ireturn, 1) := by decide +kernel
theorem dX2_combine_38 : decode cX2_combine 38 = .ok (.iconst 0, 1) := by decide +kernel
theorem dX2_combine_39 : decode cX2_combine 39 = .ok (.istore 5, 2) := by decide +kernel
theorem dX2_combine_41 : decode cX2_combine 41 = .ok (.iload 5, 2) := by decide +kernel
theorem dX2_combine_43 : decode cX2_combine 43 = .ok (.aload_n 0, 1) := by decide +kernel
theorem dX2_combine_44 : decode cX2_combine 44 = .ok (.getfield 25, 3) := by decide +kernel
theorem dX2_combine_47 : decode cX2_combine 47 = .ok (.if_icmp .ge 115, 3) := by decide +kernel
theorem dX2_combine_50 : decode cX2_combine 50 = .ok (.aload_n 0, 1) := by decide +kernel
theorem dX2_combine_51 : decode cX2_combine 51 = .ok (.iload_n 3, 1) := by decide +kernel
theorem dX2_combine_52 : decode cX2_combine 52 = .ok (.iload 5, 2) := by decide +kernel
theorem dX2_combine_54 : decode cX2_combine 54 = .ok (.invokevirtual 45, 3) := by decide +kernel
theorem dX2_combine_57 : decode cX2_combine 57 = .ok (.istore 6, 2) := by decide +kernel
theorem dX2_combine_59 : decode cX2_combine 59 = .ok (.aload_n 0, 1) := by decide +kernel
theorem dX2_combine_60 : decode cX2_combine 60 = .ok (.iload 4, 2) := by decide +kernel
theorem dX2_combine_62 : decode cX2_combine 62 = .ok (.iload 5, 2) := by decide +kernel
theorem dX2_combine_64 : decode cX2_combine 64 = .ok (.invokevirtual 45, 3) := by decide +kernel
theorem dX2_combine_67 : decode cX2_combine 67 = .ok (.istore 7, 2) := by decide +kernel
theorem dX2_combine_69 : decode cX2_combine 69 = .ok (.aload_n 0, 1) := by decide +kernel
theorem dX2_combine_70 : decode cX2_combine 70 = .ok (.getfield 14, 3) := by decide +kernel
theorem dX2_combine_73 : decode cX2_combine 73 = .ok (.iload 5, 2) := by decide +kernel
theorem dX2_combine_75 : decode cX2_combine 75 = .ok (.iload_n 2, 1) := by decide +kernel
theorem dX2_combine_76 : decode cX2_combine 76 = .ok (.ifCond .ne 21, 3) := by decide +kernel
theorem dX2_combine_79 : decode cX2_combine 79 = .ok (.iload 6, 2) := by decide +kernel
theorem dX2_combine_81 : decode cX2_combine 81 = .ok (.ifCond .eq 12, 3) := by decide +kernel
theorem dX2_combine_84 : decode cX2_combine 84 = .ok (.iload 7, 2) := by decide +kernel
theorem dX2_combine_86 : decode cX2_combine 86 = .ok (.ifCond .eq 7, 3) := by decide +kernel
theorem dX2_combine_89 : decode cX2_combine 89 = .ok (.iconst 1, 1) := by decide +kernel
theorem dX2_combine_90 : decode cX2_combine 90 = .ok (.goto 65, 3) := by decide +kernel
theorem dX2_combine_93 : decode cX2_combine 93 = .ok (.iconst 0, 1) := by decide +kernel
theorem dX2_combine_94 : decode cX2_combine 94 = .ok (.goto 61, 3) := by decide +kernel
theorem dX2_combine_97 : decode cX2_combine 97 = .ok (.iload_n 2, 1) := by decide +kernel
theorem dX2_combine_98 : decode cX2_combine 98 = .ok (.iconst 1, 1) := by decide +kernel
theorem dX2_combine_99 : decode cX2_combine 99 = .ok (.if_icmp .ne 21, 3) := by decide +kernel
theorem dX2_combine_102 : decode cX2_combine 102 = .ok (.iload 6, 2) := by decide +kernel
theorem dX2_combine_104 : decode cX2_combine 104 = .ok (.ifCond .ne 8, 3) := by decide +kernel
theorem dX2_combine_107 : decode cX2_combine 107 = .ok (.iload 7, 2) := by decide +kernel
theorem dX2_combine_109 : decode cX2_combine 109 = .ok (.ifCond .eq 7, 3) := by decide +kernel
theorem dX2_combine_112 : decode cX2_combine 112 = .ok (.iconst 1, 1) := by decide +kernel
theorem dX2_combine_113 : decode cX2_combine 113 = .ok (.goto 42, 3) := by decide +kernel
theorem dX2_combine_116 : decode cX2_combine 116 = .ok (.iconst 0, 1) := by decide +kernel
theorem dX2_combine_117 : decode cX2_combine 117 = .ok (.goto 38, 3) := by decide +kernel
theorem dX2_combine_120 : decode cX2_combine 120 = .ok (.iload_n 2, 1) := by decide +kernel
theorem dX2_combine_121 : decode cX2_combine 121 = .ok (.iconst 2, 1) := by decide +kernel
theorem dX2_combine_122 : decode cX2_combine 122 = .ok (.if_icmp .ne 18, 3) := by decide +kernel
theorem dX2_combine_125 : decode cX2_combine 125 = .ok (.iload 6, 2) := by decide +kernel
theorem dX2_combine_127 : decode cX2_combine 127 = .ok (.iload 7, 2) := by decide +kernel
theorem dX2_combine_129 : decode cX2_combine 129 = .ok (.if_icmp .eq 7, 3) := by decide +kernel
theorem dX2_combine_132 : decode cX2_combine 132 = .ok (.iconst 1, 1) := by decide +kernel
theorem dX2_combine_133 : decode cX2_combine 133 = .ok (.goto 22, 3) := by decide +kernel
theorem dX2_combine_136 : decode cX2_combine 136 = .ok (.iconst 0, 1) := by decide +kernel
theorem dX2_combine_137 : decode cX2_combine 137 = .ok (.goto 18, 3) := by decide +kernel
theorem dX2_combine_140 : decode cX2_combine 140 = .ok (.iload 6, 2) := by decide +kernel
theorem dX2_combine_142 : decode cX2_combine 142 = .ok (.ifCond .eq 12, 3) := by decide +kernel
theorem dX2_combine_145 : decode cX2_combine 145 = .ok (.iload 7, 2) := by decide +kernel
theorem dX2_combine_147 : decode cX2_combine 147 = .ok (.ifCond .ne 7, 3) := by decide +kernel
theorem dX2_combine_150 : decode cX2_combine 150 = .ok (.iconst 1, 1) := by decide +kernel
theorem dX2_combine_151 : decode cX2_combine 151 = .ok (.goto 4, 3) := by decide +kernel
theorem dX2_combine_154 : decode cX2_combine 154 = .ok (.iconst 0, 1) := by decide +kernel
theorem dX2_combine_155 : decode cX2_combine 155 = .ok (.bastore, 1) := by decide +kernel
theorem dX2_combine_156 : decode cX2_combine 156 = .ok (.iinc 5 1, 3) := by decide +kernel
theorem dX2_combine_159 : decode cX2_combine 159 = .ok (.goto (-118), 3) := by decide +kernel
theorem dX2_combine_162 : decode cX2_combine 162 = .ok (.aload_n 0, 1) := by decide +kernel
theorem dX2_combine_163 : decode cX2_combine 163 = .ok (.iload_n 1, 1) := by decide +kernel
theorem dX2_combine_164 : decode cX2_combine 164 = .ok (.invokevirtual 35, 3) := by decide +kernel
theorem dX2_combine_167 : decode cX2_combine 167 = .ok (.ireturn, 1) := by decide +kernel
theorem dX2_has_0 : decode cX2_has 0 = .ok (.aload_n 0, 1) := by decide +kernel
theorem dX2_has_1 : decode cX2_has 1 = .ok (.getfield 8, 3) := by decide +kernel
theorem dX2_has_4 : decode cX2_has 4 = .ok (.sipush 4096, 3) := by decide +kernel
theorem dX2_has_7 : decode cX2_has 7 = .ok (.iload_n 1, 1) := by decide +kernel
theorem dX2_has_8 : decode cX2_has 8 = .ok (.imul, 1) := by decide +kernel
theorem dX2_has_9 : decode cX2_has 9 = .ok (.iload_n 2, 1) := by decide +kernel
theorem dX2_has_10 : decode cX2_has 10 = .ok (.iadd, 1) := by decide +kernel
theorem dX2_has_11 : decode cX2_has 11 = .ok (.baload, 1) := by decide +kernel
theorem dX2_has_12 : decode cX2_has 12 = .ok (.ireturn, 1) := by decide +kernel
theorem dX2_choose_0 : decode cX2_choose 0 = .ok (.aload_n 0, 1) := by decide +kernel
theorem dX2_choose_1 : decode cX2_choose 1 = .ok (.iconst 0, 1) := by decide +kernel
theorem dX2_choose_2 : decode cX2_choose 2 = .ok (.putfield 28, 3) := by decide +kernel
theorem dX2_choose_5 : decode cX2_choose 5 = .ok (.iload_n 1, 1) := by decide +kernel
theorem dX2_choose_6 : decode cX2_choose 6 = .ok (.invokestatic 31, 3) := by decide +kernel
theorem dX2_choose_9 : decode cX2_choose 9 = .ok (.ifCond .eq 25, 3) := by decide +kernel
theorem dX2_choose_12 : decode cX2_choose 12 = .ok (.iload_n 2, 1) := by decide +kernel
theorem dX2_choose_13 : decode cX2_choose 13 = .ok (.invokestatic 31, 3) := by decide +kernel
theorem dX2_choose_16 : decode cX2_choose 16 = .ok (.ifCond .eq 18, 3) := by decide +kernel
theorem dX2_choose_19 : decode cX2_choose 19 = .ok (.iload_n 3, 1) := by decide +kernel
theorem dX2_choose_20 : decode cX2_choose 20 = .ok (.invokestatic 31, 3) := by decide +kernel
theorem dX2_choose_23 : decode cX2_choose 23 = .ok (.ifCond .eq 11, 3) := by decide +kernel
theorem dX2_choose_26 : decode cX2_choose 26 = .ok (.iload 4, 2) := by decide +kernel
theorem dX2_choose_28 : decode cX2_choose 28 = .ok (.invokestatic 31, 3) := by decide +kernel
theorem dX2_choose_31 : decode cX2_choose 31 = .ok (.ifCond .ne 5, 3) := by decide +kernel
theorem dX2_choose_34 : decode cX2_choose 34 = .ok (.iconst 0, 1) := by decide +kernel
theorem dX2_choose_35 : decode cX2_choose 35 = .ok (.ireturn, 1) := by decide +kernel
theorem dX2_choose_36 : decode cX2_choose 36 = .ok (.iconst 0, 1) := by decide +kernel
theorem dX2_choose_37 : decode cX2_choose 37 = .ok (.istore 5, 2) := by decide +kernel
theorem dX2_choose_39 : decode cX2_choose 39 = .ok (.iload 5, 2) := by decide +kernel
theorem dX2_choose_41 : decode cX2_choose 41 = .ok (.aload_n 0, 1) := by decide +kernel
theorem dX2_choose_42 : decode cX2_choose 42 = .ok (.getfield 25, 3) := by decide +kernel
theorem dX2_choose_45 : decode cX2_choose 45 = .ok (.if_icmp .ge 44, 3) := by decide +kernel
theorem dX2_choose_48 : decode cX2_choose 48 = .ok (.aload_n 0, 1) := by decide +kernel
theorem dX2_choose_49 : decode cX2_choose 49 = .ok (.getfield 14, 3) := by decide +kernel
theorem dX2_choose_52 : decode cX2_choose 52 = .ok (.iload 5, 2) := by decide +kernel
theorem dX2_choose_54 : decode cX2_choose 54 = .ok (.aload_n 0, 1) := by decide +kernel
theorem dX2_choose_55 : decode cX2_choose 55 = .ok (.iload_n 2, 1) := by decide +kernel
theorem dX2_choose_56 : decode cX2_choose 56 = .ok (.iload 5, 2) := by decide +kernel
theorem dX2_choose_58 : decode cX2_choose 58 = .ok (.invokevirtual 45, 3) := by decide +kernel
theorem dX2_choose_61 : decode cX2_choose 61 = .ok (.ifCond .eq 13, 3) := by decide +kernel
theorem dX2_choose_64 : decode cX2_choose 64 = .ok (.aload_n 0, 1) := by decide +kernel
theorem dX2_choose_65 : decode cX2_choose 65 = .ok (.iload_n 3, 1) := by decide +kernel
theorem dX2_choose_66 : decode cX2_choose 66 = .ok (.iload 5, 2) := by decide +kernel
theorem dX2_choose_68 : decode cX2_choose 68 = .ok (.invokevirtual 45, 3) := by decide +kernel
theorem dX2_choose_71 : decode cX2_choose 71 = .ok (.goto 11, 3) := by decide +kernel
theorem dX2_choose_74 : decode cX2_choose 74 = .ok (.aload_n 0, 1) := by decide +kernel
theorem dX2_choose_75 : decode cX2_choose 75 = .ok (.iload 4, 2) := by decide +kernel
theorem dX2_choose_77 : decode cX2_choose 77 = .ok (.iload 5, 2) := by decide +kernel
theorem dX2_choose_79 : decode cX2_choose 79 = .ok (.invokevirtual 45, 3) := by decide +kernel
theorem dX2_choose_82 : decode cX2_choose 82 = .ok (.bastore, 1) := by decide +kernel
theorem dX2_choose_83 : decode cX2_choose 83 = .ok (.iinc 5 1, 3) := by decide +kernel
theorem dX2_choose_86 : decode cX2_choose 86 = .ok (.goto (-47), 3) := by decide +kernel
theorem dX2_choose_89 : decode cX2_choose 89 = .ok (.aload_n 0, 1) := by decide +kernel
theorem dX2_choose_90 : decode cX2_choose 90 = .ok (.iload_n 1, 1) := by decide +kernel
theorem dX2_choose_91 : decode cX2_choose 91 = .ok (.invokevirtual 35, 3) := by decide +kernel
theorem dX2_choose_94 : decode cX2_choose 94 = .ok (.ireturn, 1) := by decide +kernel
theorem dX2_fix_0 : decode cX2_fix 0 = .ok (.aload_n 0, 1) := by decide +kernel
theorem dX2_fix_1 : decode cX2_fix 1 = .ok (.iconst 0, 1) := by decide +kernel
theorem dX2_fix_2 : decode cX2_fix 2 = .ok (.putfield 28, 3) := by decide +kernel
theorem dX2_fix_5 : decode cX2_fix 5 = .ok (.iload_n 1, 1) := by decide +kernel
theorem dX2_fix_6 : decode cX2_fix 6 = .ok (.invokestatic 31, 3) := by decide +kernel
theorem dX2_fix_9 : decode cX2_fix 9 = .ok (.ifCond .eq 29, 3) := by decide +kernel
theorem dX2_fix_12 : decode cX2_fix 12 = .ok (.iload_n 2, 1) := by decide +kernel
theorem dX2_fix_13 : decode cX2_fix 13 = .ok (.invokestatic 31, 3) := by decide +kernel
theorem dX2_fix_16 : decode cX2_fix 16 = .ok (.ifCond .eq 22, 3) := by decide +kernel
theorem dX2_fix_19 : decode cX2_fix 19 = .ok (.aload_n 0, 1) := by decide +kernel
theorem dX2_fix_20 : decode cX2_fix 20 = .ok (.iload_n 3, 1) := by decide +kernel
theorem dX2_fix_21 : decode cX2_fix 21 = .ok (.invokevirtual 38, 3) := by decide +kernel
theorem dX2_fix_24 : decode cX2_fix 24 = .ok (.ifCond .eq 14, 3) := by decide +kernel
theorem dX2_fix_27 : decode cX2_fix 27 = .ok (.iload 4, 2) := by decide +kernel
theorem dX2_fix_29 : decode cX2_fix 29 = .ok (.ifCond .lt 9, 3) := by decide +kernel
theorem dX2_fix_32 : decode cX2_fix 32 = .ok (.iload 4, 2) := by decide +kernel
theorem dX2_fix_34 : decode cX2_fix 34 = .ok (.iconst 1, 1) := by decide +kernel
theorem dX2_fix_35 : decode cX2_fix 35 = .ok (.if_icmp .le 5, 3) := by decide +kernel
theorem dX2_fix_38 : decode cX2_fix 38 = .ok (.iconst 0, 1) := by decide +kernel
theorem dX2_fix_39 : decode cX2_fix 39 = .ok (.ireturn, 1) := by decide +kernel
theorem dX2_fix_40 : decode cX2_fix 40 = .ok (.iconst 1, 1) := by decide +kernel
theorem dX2_fix_41 : decode cX2_fix 41 = .ok (.aload_n 0, 1) := by decide +kernel
theorem dX2_fix_42 : decode cX2_fix 42 = .ok (.getfield 21, 3) := by decide +kernel
theorem dX2_fix_45 : decode cX2_fix 45 = .ok (.iload_n 3, 1) := by decide +kernel
theorem dX2_fix_46 : decode cX2_fix 46 = .ok (.isub, 1) := by decide +kernel
theorem dX2_fix_47 : decode cX2_fix 47 = .ok (.ishl, 1) := by decide +kernel
theorem dX2_fix_48 : decode cX2_fix 48 = .ok (.istore 5, 2) := by decide +kernel
theorem dX2_fix_50 : decode cX2_fix 50 = .ok (.iconst 0, 1) := by decide +kernel
theorem dX2_fix_51 : decode cX2_fix 51 = .ok (.istore 6, 2) := by decide +kernel
theorem dX2_fix_53 : decode cX2_fix 53 = .ok (.iload 6, 2) := by decide +kernel
theorem dX2_fix_55 : decode cX2_fix 55 = .ok (.aload_n 0, 1) := by decide +kernel
theorem dX2_fix_56 : decode cX2_fix 56 = .ok (.getfield 25, 3) := by decide +kernel
theorem dX2_fix_59 : decode cX2_fix 59 = .ok (.if_icmp .ge 42, 3) := by decide +kernel
theorem dX2_fix_62 : decode cX2_fix 62 = .ok (.aload_n 0, 1) := by decide +kernel
theorem dX2_fix_63 : decode cX2_fix 63 = .ok (.getfield 14, 3) := by decide +kernel
theorem dX2_fix_66 : decode cX2_fix 66 = .ok (.iload 6, 2) := by decide +kernel
theorem dX2_fix_68 : decode cX2_fix 68 = .ok (.aload_n 0, 1) := by decide +kernel
theorem dX2_fix_69 : decode cX2_fix 69 = .ok (.iload_n 2, 1) := by decide +kernel
theorem dX2_fix_70 : decode cX2_fix 70 = .ok (.iload 4, 2) := by decide +kernel
theorem dX2_fix_72 : decode cX2_fix 72 = .ok (.iconst 1, 1) := by decide +kernel
theorem dX2_fix_73 : decode cX2_fix 73 = .ok (.if_icmp .ne 11, 3) := by decide +kernel
theorem dX2_fix_76 : decode cX2_fix 76 = .ok (.iload 6, 2) := by decide +kernel
theorem dX2_fix_78 : decode cX2_fix 78 = .ok (.iload 5, 2) := by decide +kernel
theorem dX2_fix_80 : decode cX2_fix 80 = .ok (.ior, 1) := by decide +kernel
theorem dX2_fix_81 : decode cX2_fix 81 = .ok (.goto 10, 3) := by decide +kernel
theorem dX2_fix_84 : decode cX2_fix 84 = .ok (.iload 6, 2) := by decide +kernel
theorem dX2_fix_86 : decode cX2_fix 86 = .ok (.iload 5, 2) := by decide +kernel
theorem dX2_fix_88 : decode cX2_fix 88 = .ok (.iconst (-1), 1) := by decide +kernel
theorem dX2_fix_89 : decode cX2_fix 89 = .ok (.ixor, 1) := by decide +kernel
theorem dX2_fix_90 : decode cX2_fix 90 = .ok (.iand, 1) := by decide +kernel
theorem dX2_fix_91 : decode cX2_fix 91 = .ok (.invokevirtual 45, 3) := by decide +kernel
theorem dX2_fix_94 : decode cX2_fix 94 = .ok (.bastore, 1) := by decide +kernel
theorem dX2_fix_95 : decode cX2_fix 95 = .ok (.iinc 6 1, 3) := by decide +kernel
theorem dX2_fix_98 : decode cX2_fix 98 = .ok (.goto (-45), 3) := by decide +kernel
theorem dX2_fix_101 : decode cX2_fix 101 = .ok (.aload_n 0, 1) := by decide +kernel
theorem dX2_fix_102 : decode cX2_fix 102 = .ok (.iload_n 1, 1) := by decide +kernel
theorem dX2_fix_103 : decode cX2_fix 103 = .ok (.invokevirtual 35, 3) := by decide +kernel
theorem dX2_fix_106 : decode cX2_fix 106 = .ok (.ireturn, 1) := by decide +kernel
theorem dX2_exists_0 : decode cX2_exists 0 = .ok (.aload_n 0, 1) := by decide +kernel
theorem dX2_exists_1 : decode cX2_exists 1 = .ok (.iconst 0, 1) := by decide +kernel
theorem dX2_exists_2 : decode cX2_exists 2 = .ok (.putfield 28, 3) := by decide +kernel
theorem dX2_exists_5 : decode cX2_exists 5 = .ok (.iload_n 1, 1) := by decide +kernel
theorem dX2_exists_6 : decode cX2_exists 6 = .ok (.invokestatic 31, 3) := by decide +kernel
theorem dX2_exists_9 : decode cX2_exists 9 = .ok (.ifCond .eq 33, 3) := by decide +kernel
theorem dX2_exists_12 : decode cX2_exists 12 = .ok (.iload_n 2, 1) := by decide +kernel
theorem dX2_exists_13 : decode cX2_exists 13 = .ok (.invokestatic 31, 3) := by decide +kernel
theorem dX2_exists_16 : decode cX2_exists 16 = .ok (.ifCond .eq 26, 3) := by decide +kernel
theorem dX2_exists_19 : decode cX2_exists 19 = .ok (.aload_n 0, 1) := by decide +kernel
theorem dX2_exists_20 : decode cX2_exists 20 = .ok (.iload_n 3, 1) := by decide +kernel
theorem dX2_exists_21 : decode cX2_exists 21 = .ok (.invokevirtual 38, 3) := by decide +kernel
theorem dX2_exists_24 : decode cX2_exists 24 = .ok (.ifCond .eq 18, 3) := by decide +kernel
theorem dX2_exists_27 : decode cX2_exists 27 = .ok (.aload_n 0, 1) := by decide +kernel
theorem dX2_exists_28 : decode cX2_exists 28 = .ok (.iload 4, 2) := by decide +kernel
theorem dX2_exists_30 : decode cX2_exists 30 = .ok (.invokevirtual 38, 3) := by decide +kernel
theorem dX2_exists_33 : decode cX2_exists 33 = .ok (.ifCond .eq 9, 3) := by decide +kernel
theorem dX2_exists_36 : decode cX2_exists 36 = .ok (.iload_n 3, 1) := by decide +kernel
theorem dX2_exists_37 : decode cX2_exists 37 = .ok (.iload 4, 2) := by decide +kernel
theorem dX2_exists_39 : decode cX2_exists 39 = .ok (.if_icmp .le 5, 3) := by decide +kernel
theorem dX2_exists_42 : decode cX2_exists 42 = .ok (.iconst 0, 1) := by decide +kernel
theorem dX2_exists_43 : decode cX2_exists 43 = .ok (.ireturn, 1) := by decide +kernel
theorem dX2_exists_44 : decode cX2_exists 44 = .ok (.iconst 0, 1) := by decide +kernel
theorem dX2_exists_45 : decode cX2_exists 45 = .ok (.istore 5, 2) := by decide +kernel
theorem dX2_exists_47 : decode cX2_exists 47 = .ok (.iload 5, 2) := by decide +kernel
theorem dX2_exists_49 : decode cX2_exists 49 = .ok (.aload_n 0, 1) := by decide +kernel
theorem dX2_exists_50 : decode cX2_exists 50 = .ok (.getfield 25, 3) := by decide +kernel
theorem dX2_exists_53 : decode cX2_exists 53 = .ok (.if_icmp .ge 23, 3) := by decide +kernel
theorem dX2_exists_56 : decode cX2_exists 56 = .ok (.aload_n 0, 1) := by decide +kernel
theorem dX2_exists_57 : decode cX2_exists 57 = .ok (.getfield 14, 3) := by decide +kernel
theorem dX2_exists_60 : decode cX2_exists 60 = .ok (.iload 5, 2) := by decide +kernel
theorem dX2_exists_62 : decode cX2_exists 62 = .ok (.aload_n 0, 1) := by decide +kernel
theorem dX2_exists_63 : decode cX2_exists 63 = .ok (.iload_n 2, 1) := by decide +kernel
theorem dX2_exists_64 : decode cX2_exists 64 = .ok (.iload 5, 2) := by decide +kernel
theorem dX2_exists_66 : decode cX2_exists 66 = .ok (.invokevirtual 45, 3) := by decide +kernel
theorem dX2_exists_69 : decode cX2_exists 69 = .ok (.bastore, 1) := by decide +kernel
theorem dX2_exists_70 : decode cX2_exists 70 = .ok (.iinc 5 1, 3) := by decide +kernel
theorem dX2_exists_73 : decode cX2_exists 73 = .ok (.goto (-26), 3) := by decide +kernel
theorem dX2_exists_76 : decode cX2_exists 76 = .ok (.iload_n 3, 1) := by decide +kernel
theorem dX2_exists_77 : decode cX2_exists 77 = .ok (.istore 5, 2) := by decide +kernel
theorem dX2_exists_79 : decode cX2_exists 79 = .ok (.iload 5, 2) := by decide +kernel
theorem dX2_exists_81 : decode cX2_exists 81 = .ok (.iload 4, 2) := by decide +kernel
theorem dX2_exists_83 : decode cX2_exists 83 = .ok (.if_icmp .gt 59, 3) := by decide +kernel
theorem dX2_exists_86 : decode cX2_exists 86 = .ok (.iconst 1, 1) := by decide +kernel
theorem dX2_exists_87 : decode cX2_exists 87 = .ok (.aload_n 0, 1) := by decide +kernel
theorem dX2_exists_88 : decode cX2_exists 88 = .ok (.getfield 21, 3) := by decide +kernel
theorem dX2_exists_91 : decode cX2_exists 91 = .ok (.iload 5, 2) := by decide +kernel
theorem dX2_exists_93 : decode cX2_exists 93 = .ok (.isub, 1) := by decide +kernel
theorem dX2_exists_94 : decode cX2_exists 94 = .ok (.ishl, 1) := by decide +kernel
theorem dX2_exists_95 : decode cX2_exists 95 = .ok (.istore 6, 2) := by decide +kernel
theorem dX2_exists_97 : decode cX2_exists 97 = .ok (.iconst 0, 1) := by decide +kernel
theorem dX2_exists_98 : decode cX2_exists 98 = .ok (.istore 7, 2) := by decide +kernel
theorem dX2_exists_100 : decode cX2_exists 100 = .ok (.iload 7, 2) := by decide +kernel
theorem dX2_exists_102 : decode cX2_exists 102 = .ok (.aload_n 0, 1) := by decide +kernel
theorem dX2_exists_103 : decode cX2_exists 103 = .ok (.getfield 25, 3) := by decide +kernel
theorem dX2_exists_106 : decode cX2_exists 106 = .ok (.if_icmp .ge 30, 3) := by decide +kernel
theorem dX2_exists_109 : decode cX2_exists 109 = .ok (.aload_n 0, 1) := by decide +kernel
theorem dX2_exists_110 : decode cX2_exists 110 = .ok (.getfield 14, 3) := by decide +kernel
theorem dX2_exists_113 : decode cX2_exists 113 = .ok (.iload 7, 2) := by decide +kernel
theorem dX2_exists_115 : decode cX2_exists 115 = .ok (.baload, 1) := by decide +kernel
theorem dX2_exists_116 : decode cX2_exists 116 = .ok (.ifCond .eq 14, 3) := by decide +kernel
theorem dX2_exists_119 : decode cX2_exists 119 = .ok (.aload_n 0, 1) := by decide +kernel
theorem dX2_exists_120 : decode cX2_exists 120 = .ok (.getfield 14, 3) := by decide +kernel
theorem dX2_exists_123 : decode cX2_exists 123 = .ok (.iload 7, 2) := by decide +kernel
theorem dX2_exists_125 : decode cX2_exists 125 = .ok (.iload 6, 2) := by decide +kernel
theorem dX2_exists_127 : decode cX2_exists 127 = .ok (.ixor, 1) := by decide +kernel
theorem dX2_exists_128 : decode cX2_exists 128 = .ok (.iconst 1, 1) := by decide +kernel
theorem dX2_exists_129 : decode cX2_exists 129 = .ok (.bastore, 1) := by decide +kernel
theorem dX2_exists_130 : decode cX2_exists 130 = .ok (.iinc 7 1, 3) := by decide +kernel
theorem dX2_exists_133 : decode cX2_exists 133 = .ok (.goto (-33), 3) := by decide +kernel
theorem dX2_exists_136 : decode cX2_exists 136 = .ok (.iinc 5 1, 3) := by decide +kernel
theorem dX2_exists_139 : decode cX2_exists 139 = .ok (.goto (-60), 3) := by decide +kernel
theorem dX2_exists_142 : decode cX2_exists 142 = .ok (.aload_n 0, 1) := by decide +kernel
theorem dX2_exists_143 : decode cX2_exists 143 = .ok (.iload_n 1, 1) := by decide +kernel
theorem dX2_exists_144 : decode cX2_exists 144 = .ok (.invokevirtual 35, 3) := by decide +kernel
theorem dX2_exists_147 : decode cX2_exists 147 = .ok (.ireturn, 1) := by decide +kernel
theorem dX2_substitute_0 : decode cX2_substitute 0 = .ok (.aload_n 0, 1) := by decide +kernel
theorem dX2_substitute_1 : decode cX2_substitute 1 = .ok (.iconst 0, 1) := by decide +kernel
theorem dX2_substitute_2 : decode cX2_substitute 2 = .ok (.putfield 28, 3) := by decide +kernel
theorem dX2_substitute_5 : decode cX2_substitute 5 = .ok (.iload_n 1, 1) := by decide +kernel
theorem dX2_substitute_6 : decode cX2_substitute 6 = .ok (.invokestatic 31, 3) := by decide +kernel
theorem dX2_substitute_9 : decode cX2_substitute 9 = .ok (.ifCond .eq 25, 3) := by decide +kernel
theorem dX2_substitute_12 : decode cX2_substitute 12 = .ok (.iload_n 2, 1) := by decide +kernel
theorem dX2_substitute_13 : decode cX2_substitute 13 = .ok (.invokestatic 31, 3) := by decide +kernel
theorem dX2_substitute_16 : decode cX2_substitute 16 = .ok (.ifCond .eq 18, 3) := by decide +kernel
theorem dX2_substitute_19 : decode cX2_substitute 19 = .ok (.iload_n 3, 1) := by decide +kernel
theorem dX2_substitute_20 : decode cX2_substitute 20 = .ok (.ifCond .lt 14, 3) := by decide +kernel
theorem dX2_substitute_23 : decode cX2_substitute 23 = .ok (.iload_n 3, 1) := by decide +kernel
theorem dX2_substitute_24 : decode cX2_substitute 24 = .ok (.bipush 32, 2) := by decide +kernel
theorem dX2_substitute_26 : decode cX2_substitute 26 = .ok (.aload_n 0, 1) := by decide +kernel
theorem dX2_substitute_27 : decode cX2_substitute 27 = .ok (.getfield 21, 3) := by decide +kernel
theorem dX2_substitute_30 : decode cX2_substitute 30 = .ok (.isub, 1) := by decide +kernel
theorem dX2_substitute_31 : decode cX2_substitute 31 = .ok (.if_icmp .le 5, 3) := by decide +kernel
theorem dX2_substitute_34 : decode cX2_substitute 34 = .ok (.iconst 0, 1) := by decide +kernel
theorem dX2_substitute_35 : decode cX2_substitute 35 = .ok (.ireturn, 1) := by decide +kernel
theorem dX2_substitute_36 : decode cX2_substitute 36 = .ok (.iconst 0, 1) := by decide +kernel
theorem dX2_substitute_37 : decode cX2_substitute 37 = .ok (.istore 4, 2) := by decide +kernel
theorem dX2_substitute_39 : decode cX2_substitute 39 = .ok (.iload 4, 2) := by decide +kernel
theorem dX2_substitute_41 : decode cX2_substitute 41 = .ok (.aload_n 0, 1) := by decide +kernel
theorem dX2_substitute_42 : decode cX2_substitute 42 = .ok (.getfield 25, 3) := by decide +kernel
theorem dX2_substitute_45 : decode cX2_substitute 45 = .ok (.if_icmp .ge 32, 3) := by decide +kernel
theorem dX2_substitute_48 : decode cX2_substitute 48 = .ok (.aload_n 0, 1) := by decide +kernel
theorem dX2_substitute_49 : decode cX2_substitute 49 = .ok (.getfield 14, 3) := by decide +kernel
theorem dX2_substitute_52 : decode cX2_substitute 52 = .ok (.iload 4, 2) := by decide +kernel
theorem dX2_substitute_54 : decode cX2_substitute 54 = .ok (.aload_n 0, 1) := by decide +kernel
theorem dX2_substitute_55 : decode cX2_substitute 55 = .ok (.iload_n 2, 1) := by decide +kernel
theorem dX2_substitute_56 : decode cX2_substitute 56 = .ok (.aload_n 0, 1) := by decide +kernel
theorem dX2_substitute_57 : decode cX2_substitute 57 = .ok (.iload_n 3, 1) := by decide +kernel
theorem dX2_substitute_58 : decode cX2_substitute 58 = .ok (.aload_n 0, 1) := by decide +kernel
theorem dX2_substitute_59 : decode cX2_substitute 59 = .ok (.getfield 21, 3) := by decide +kernel
theorem dX2_substitute_62 : decode cX2_substitute 62 = .ok (.iload 4, 2) := by decide +kernel
theorem dX2_substitute_64 : decode cX2_substitute 64 = .ok (.invokevirtual 49, 3) := by decide +kernel
theorem dX2_substitute_67 : decode cX2_substitute 67 = .ok (.invokevirtual 45, 3) := by decide +kernel
theorem dX2_substitute_70 : decode cX2_substitute 70 = .ok (.bastore, 1) := by decide +kernel
theorem dX2_substitute_71 : decode cX2_substitute 71 = .ok (.iinc 4 1, 3) := by decide +kernel
theorem dX2_substitute_74 : decode cX2_substitute 74 = .ok (.goto (-35), 3) := by decide +kernel
theorem dX2_substitute_77 : decode cX2_substitute 77 = .ok (.aload_n 0, 1) := by decide +kernel
theorem dX2_substitute_78 : decode cX2_substitute 78 = .ok (.iload_n 1, 1) := by decide +kernel
theorem dX2_substitute_79 : decode cX2_substitute 79 = .ok (.invokevirtual 35, 3) := by decide +kernel
theorem dX2_substitute_82 : decode cX2_substitute 82 = .ok (.ireturn, 1) := by decide +kernel
theorem dX2_led_0 : decode cX2_led 0 = .ok (.iconst 0, 1) := by decide +kernel
theorem dX2_led_1 : decode cX2_led 1 = .ok (.istore 4, 2) := by decide +kernel
theorem dX2_led_3 : decode cX2_led 3 = .ok (.iconst 0, 1) := by decide +kernel
theorem dX2_led_4 : decode cX2_led 4 = .ok (.istore 5, 2) := by decide +kernel
theorem dX2_led_6 : decode cX2_led 6 = .ok (.iload 5, 2) := by decide +kernel
theorem dX2_led_8 : decode cX2_led 8 = .ok (.iload_n 2, 1) := by decide +kernel
theorem dX2_led_9 : decode cX2_led 9 = .ok (.if_icmp .ge 33, 3) := by decide +kernel
theorem dX2_led_12 : decode cX2_led 12 = .ok (.iload 4, 2) := by decide +kernel
theorem dX2_led_14 : decode cX2_led 14 = .ok (.iconst 1, 1) := by decide +kernel
theorem dX2_led_15 : decode cX2_led 15 = .ok (.ishl, 1) := by decide +kernel
theorem dX2_led_16 : decode cX2_led 16 = .ok (.aload_n 0, 1) := by decide +kernel
theorem dX2_led_17 : decode cX2_led 17 = .ok (.iload_n 1, 1) := by decide +kernel
theorem dX2_led_18 : decode cX2_led 18 = .ok (.iload 5, 2) := by decide +kernel
theorem dX2_led_20 : decode cX2_led 20 = .ok (.iadd, 1) := by decide +kernel
theorem dX2_led_21 : decode cX2_led 21 = .ok (.iload_n 3, 1) := by decide +kernel
theorem dX2_led_22 : decode cX2_led 22 = .ok (.invokevirtual 45, 3) := by decide +kernel
theorem dX2_led_25 : decode cX2_led 25 = .ok (.ifCond .eq 7, 3) := by decide +kernel
theorem dX2_led_28 : decode cX2_led 28 = .ok (.iconst 1, 1) := by decide +kernel
theorem dX2_led_29 : decode cX2_led 29 = .ok (.goto 4, 3) := by decide +kernel
theorem dX2_led_32 : decode cX2_led 32 = .ok (.iconst 0, 1) := by decide +kernel
theorem dX2_led_33 : decode cX2_led 33 = .ok (.ior, 1) := by decide +kernel
theorem dX2_led_34 : decode cX2_led 34 = .ok (.istore 4, 2) := by decide +kernel
theorem dX2_led_36 : decode cX2_led 36 = .ok (.iinc 5 1, 3) := by decide +kernel
theorem dX2_led_39 : decode cX2_led 39 = .ok (.goto (-33), 3) := by decide +kernel
theorem dX2_led_42 : decode cX2_led 42 = .ok (.iload 4, 2) := by decide +kernel
theorem dX2_led_44 : decode cX2_led 44 = .ok (.ireturn, 1) := by decide +kernel
theorem dX2_nearest_0 : decode cX2_nearest 0 = .ok (.aload_n 0, 1) := by decide +kernel
theorem dX2_nearest_1 : decode cX2_nearest 1 = .ok (.iconst 0, 1) := by decide +kernel
theorem dX2_nearest_2 : decode cX2_nearest 2 = .ok (.putfield 28, 3) := by decide +kernel
theorem dX2_nearest_5 : decode cX2_nearest 5 = .ok (.iload_n 1, 1) := by decide +kernel
theorem dX2_nearest_6 : decode cX2_nearest 6 = .ok (.invokestatic 31, 3) := by decide +kernel
theorem dX2_nearest_9 : decode cX2_nearest 9 = .ok (.ifCond .eq 17, 3) := by decide +kernel
theorem dX2_nearest_12 : decode cX2_nearest 12 = .ok (.iload_n 2, 1) := by decide +kernel
theorem dX2_nearest_13 : decode cX2_nearest 13 = .ok (.invokestatic 31, 3) := by decide +kernel
theorem dX2_nearest_16 : decode cX2_nearest 16 = .ok (.ifCond .eq 10, 3) := by decide +kernel
theorem dX2_nearest_19 : decode cX2_nearest 19 = .ok (.iload_n 3, 1) := by decide +kernel
theorem dX2_nearest_20 : decode cX2_nearest 20 = .ok (.invokestatic 31, 3) := by decide +kernel
theorem dX2_nearest_23 : decode cX2_nearest 23 = .ok (.ifCond .ne 5, 3) := by decide +kernel
theorem dX2_nearest_26 : decode cX2_nearest 26 = .ok (.iconst 0, 1) := by decide +kernel
theorem dX2_nearest_27 : decode cX2_nearest 27 = .ok (.ireturn, 1) := by decide +kernel
theorem dX2_nearest_28 : decode cX2_nearest 28 = .ok (.iconst 0, 1) := by decide +kernel
theorem dX2_nearest_29 : decode cX2_nearest 29 = .ok (.istore 4, 2) := by decide +kernel
theorem dX2_nearest_31 : decode cX2_nearest 31 = .ok (.iload 4, 2) := by decide +kernel
theorem dX2_nearest_33 : decode cX2_nearest 33 = .ok (.aload_n 0, 1) := by decide +kernel
theorem dX2_nearest_34 : decode cX2_nearest 34 = .ok (.getfield 25, 3) := by decide +kernel
theorem dX2_nearest_37 : decode cX2_nearest 37 = .ok (.if_icmp .ge 74, 3) := by decide +kernel
theorem dX2_nearest_40 : decode cX2_nearest 40 = .ok (.iconst 0, 1) := by decide +kernel
theorem dX2_nearest_41 : decode cX2_nearest 41 = .ok (.istore 5, 2) := by decide +kernel
theorem dX2_nearest_43 : decode cX2_nearest 43 = .ok (.iload 5, 2) := by decide +kernel
theorem dX2_nearest_45 : decode cX2_nearest 45 = .ok (.aload_n 0, 1) := by decide +kernel
theorem dX2_nearest_46 : decode cX2_nearest 46 = .ok (.getfield 25, 3) := by decide +kernel
theorem dX2_nearest_49 : decode cX2_nearest 49 = .ok (.if_icmp .ge 22, 3) := by decide +kernel
theorem dX2_nearest_52 : decode cX2_nearest 52 = .ok (.aload_n 0, 1) := by decide +kernel
theorem dX2_nearest_53 : decode cX2_nearest 53 = .ok (.iload_n 3, 1) := by decide +kernel
theorem dX2_nearest_54 : decode cX2_nearest 54 = .ok (.iload 4, 2) := by decide +kernel
theorem dX2_nearest_56 : decode cX2_nearest 56 = .ok (.iload 5, 2) := by decide +kernel
theorem dX2_nearest_58 : decode cX2_nearest 58 = .ok (.ixor, 1) := by decide +kernel
theorem dX2_nearest_59 : decode cX2_nearest 59 = .ok (.invokevirtual 45, 3) := by decide +kernel
theorem dX2_nearest_62 : decode cX2_nearest 62 = .ok (.ifCond .ne 9, 3) := by decide +kernel
theorem dX2_nearest_65 : decode cX2_nearest 65 = .ok (.iinc 5 1, 3) := by decide +kernel
theorem dX2_nearest_68 : decode cX2_nearest 68 = .ok (.goto (-25), 3) := by decide +kernel
theorem dX2_nearest_71 : decode cX2_nearest 71 = .ok (.aload_n 0, 1) := by decide +kernel
theorem dX2_nearest_72 : decode cX2_nearest 72 = .ok (.getfield 14, 3) := by decide +kernel
theorem dX2_nearest_75 : decode cX2_nearest 75 = .ok (.iload 4, 2) := by decide +kernel
theorem dX2_nearest_77 : decode cX2_nearest 77 = .ok (.iload 5, 2) := by decide +kernel
theorem dX2_nearest_79 : decode cX2_nearest 79 = .ok (.aload_n 0, 1) := by decide +kernel
theorem dX2_nearest_80 : decode cX2_nearest 80 = .ok (.getfield 25, 3) := by decide +kernel
theorem dX2_nearest_83 : decode cX2_nearest 83 = .ok (.if_icmp .ge 20, 3) := by decide +kernel
theorem dX2_nearest_86 : decode cX2_nearest 86 = .ok (.aload_n 0, 1) := by decide +kernel
theorem dX2_nearest_87 : decode cX2_nearest 87 = .ok (.iload_n 2, 1) := by decide +kernel
theorem dX2_nearest_88 : decode cX2_nearest 88 = .ok (.iload 4, 2) := by decide +kernel
theorem dX2_nearest_90 : decode cX2_nearest 90 = .ok (.iload 5, 2) := by decide +kernel
theorem dX2_nearest_92 : decode cX2_nearest 92 = .ok (.ixor, 1) := by decide +kernel
theorem dX2_nearest_93 : decode cX2_nearest 93 = .ok (.invokevirtual 45, 3) := by decide +kernel
theorem dX2_nearest_96 : decode cX2_nearest 96 = .ok (.ifCond .eq 7, 3) := by decide +kernel
theorem dX2_nearest_99 : decode cX2_nearest 99 = .ok (.iconst 1, 1) := by decide +kernel
theorem dX2_nearest_100 : decode cX2_nearest 100 = .ok (.goto 4, 3) := by decide +kernel
theorem dX2_nearest_103 : decode cX2_nearest 103 = .ok (.iconst 0, 1) := by decide +kernel
theorem dX2_nearest_104 : decode cX2_nearest 104 = .ok (.bastore, 1) := by decide +kernel
theorem dX2_nearest_105 : decode cX2_nearest 105 = .ok (.iinc 4 1, 3) := by decide +kernel
theorem dX2_nearest_108 : decode cX2_nearest 108 = .ok (.goto (-77), 3) := by decide +kernel
theorem dX2_nearest_111 : decode cX2_nearest 111 = .ok (.aload_n 0, 1) := by decide +kernel
theorem dX2_nearest_112 : decode cX2_nearest 112 = .ok (.iload_n 1, 1) := by decide +kernel
theorem dX2_nearest_113 : decode cX2_nearest 113 = .ok (.invokevirtual 35, 3) := by decide +kernel
theorem dX2_nearest_116 : decode cX2_nearest 116 = .ok (.ireturn, 1) := by decide +kernel
theorem dX2_image_0 : decode cX2_image 0 = .ok (.aload_n 0, 1) := by decide +kernel
theorem dX2_image_1 : decode cX2_image 1 = .ok (.iconst 0, 1) := by decide +kernel
theorem dX2_image_2 : decode cX2_image 2 = .ok (.putfield 28, 3) := by decide +kernel
theorem dX2_image_5 : decode cX2_image 5 = .ok (.iload_n 1, 1) := by decide +kernel
theorem dX2_image_6 : decode cX2_image 6 = .ok (.invokestatic 31, 3) := by decide +kernel
theorem dX2_image_9 : decode cX2_image 9 = .ok (.ifCond .eq 31, 3) := by decide +kernel
theorem dX2_image_12 : decode cX2_image 12 = .ok (.aload_n 0, 1) := by decide +kernel
theorem dX2_image_13 : decode cX2_image 13 = .ok (.iload_n 3, 1) := by decide +kernel
theorem dX2_image_14 : decode cX2_image 14 = .ok (.invokevirtual 38, 3) := by decide +kernel
theorem dX2_image_17 : decode cX2_image 17 = .ok (.ifCond .eq 23, 3) := by decide +kernel
theorem dX2_image_20 : decode cX2_image 20 = .ok (.iload_n 2, 1) := by decide +kernel
theorem dX2_image_21 : decode cX2_image 21 = .ok (.ifCond .lt 19, 3) := by decide +kernel
theorem dX2_image_24 : decode cX2_image 24 = .ok (.iload_n 2, 1) := by decide +kernel
theorem dX2_image_25 : decode cX2_image 25 = .ok (.bipush 32, 2) := by decide +kernel
theorem dX2_image_27 : decode cX2_image 27 = .ok (.iload_n 3, 1) := by decide +kernel
theorem dX2_image_28 : decode cX2_image 28 = .ok (.isub, 1) := by decide +kernel
theorem dX2_image_29 : decode cX2_image 29 = .ok (.if_icmp .gt 11, 3) := by decide +kernel
theorem dX2_image_32 : decode cX2_image 32 = .ok (.iload 4, 2) := by decide +kernel
theorem dX2_image_34 : decode cX2_image 34 = .ok (.invokestatic 31, 3) := by decide +kernel
theorem dX2_image_37 : decode cX2_image 37 = .ok (.ifCond .ne 5, 3) := by decide +kernel
theorem dX2_image_40 : decode cX2_image 40 = .ok (.iconst 0, 1) := by decide +kernel
theorem dX2_image_41 : decode cX2_image 41 = .ok (.ireturn, 1) := by decide +kernel
theorem dX2_image_42 : decode cX2_image 42 = .ok (.iconst 0, 1) := by decide +kernel
theorem dX2_image_43 : decode cX2_image 43 = .ok (.istore 5, 2) := by decide +kernel
theorem dX2_image_45 : decode cX2_image 45 = .ok (.iload 5, 2) := by decide +kernel
theorem dX2_image_47 : decode cX2_image 47 = .ok (.aload_n 0, 1) := by decide +kernel
theorem dX2_image_48 : decode cX2_image 48 = .ok (.getfield 25, 3) := by decide +kernel
theorem dX2_image_51 : decode cX2_image 51 = .ok (.if_icmp .ge 17, 3) := by decide +kernel
theorem dX2_image_54 : decode cX2_image 54 = .ok (.aload_n 0, 1) := by decide +kernel
theorem dX2_image_55 : decode cX2_image 55 = .ok (.getfield 14, 3) := by decide +kernel
theorem dX2_image_58 : decode cX2_image 58 = .ok (.iload 5, 2) := by decide +kernel
theorem dX2_image_60 : decode cX2_image 60 = .ok (.iconst 0, 1) := by decide +kernel
theorem dX2_image_61 : decode cX2_image 61 = .ok (.bastore, 1) := by decide +kernel
theorem dX2_image_62 : decode cX2_image 62 = .ok (.iinc 5 1, 3) := by decide +kernel
theorem dX2_image_65 : decode cX2_image 65 = .ok (.goto (-20), 3) := by decide +kernel
theorem dX2_image_68 : decode cX2_image 68 = .ok (.iconst 1, 1) := by decide +kernel
theorem dX2_image_69 : decode cX2_image 69 = .ok (.aload_n 0, 1) := by decide +kernel
theorem dX2_image_70 : decode cX2_image 70 = .ok (.getfield 21, 3) := by decide +kernel
theorem dX2_image_73 : decode cX2_image 73 = .ok (.iload_n 3, 1) := by decide +kernel
theorem dX2_image_74 : decode cX2_image 74 = .ok (.isub, 1) := by decide +kernel
theorem dX2_image_75 : decode cX2_image 75 = .ok (.ishl, 1) := by decide +kernel
theorem dX2_image_76 : decode cX2_image 76 = .ok (.istore 5, 2) := by decide +kernel
theorem dX2_image_78 : decode cX2_image 78 = .ok (.iconst 0, 1) := by decide +kernel
theorem dX2_image_79 : decode cX2_image 79 = .ok (.istore 6, 2) := by decide +kernel
theorem dX2_image_81 : decode cX2_image 81 = .ok (.iload 6, 2) := by decide +kernel
theorem dX2_image_83 : decode cX2_image 83 = .ok (.aload_n 0, 1) := by decide +kernel
theorem dX2_image_84 : decode cX2_image 84 = .ok (.getfield 25, 3) := by decide +kernel
theorem dX2_image_87 : decode cX2_image 87 = .ok (.if_icmp .ge 63, 3) := by decide +kernel
theorem dX2_image_90 : decode cX2_image 90 = .ok (.aload_n 0, 1) := by decide +kernel
theorem dX2_image_91 : decode cX2_image 91 = .ok (.iload 4, 2) := by decide +kernel
theorem dX2_image_93 : decode cX2_image 93 = .ok (.iload 6, 2) := by decide +kernel
theorem dX2_image_95 : decode cX2_image 95 = .ok (.invokevirtual 45, 3) := by decide +kernel
theorem dX2_image_98 : decode cX2_image 98 = .ok (.ifCond .ne 6, 3) := by decide +kernel
theorem dX2_image_101 : decode cX2_image 101 = .ok (.goto 43, 3) := by decide +kernel
theorem dX2_image_104 : decode cX2_image 104 = .ok (.aload_n 0, 1) := by decide +kernel
theorem dX2_image_105 : decode cX2_image 105 = .ok (.iload_n 2, 1) := by decide +kernel
theorem dX2_image_106 : decode cX2_image 106 = .ok (.iload_n 3, 1) := by decide +kernel
theorem dX2_image_107 : decode cX2_image 107 = .ok (.iload 6, 2) := by decide +kernel
theorem dX2_image_109 : decode cX2_image 109 = .ok (.invokevirtual 49, 3) := by decide +kernel
theorem dX2_image_112 : decode cX2_image 112 = .ok (.iload 5, 2) := by decide +kernel
theorem dX2_image_114 : decode cX2_image 114 = .ok (.imul, 1) := by decide +kernel
theorem dX2_image_115 : decode cX2_image 115 = .ok (.istore 7, 2) := by decide +kernel
theorem dX2_image_117 : decode cX2_image 117 = .ok (.iconst 0, 1) := by decide +kernel
theorem dX2_image_118 : decode cX2_image 118 = .ok (.istore 8, 2) := by decide +kernel
theorem dX2_image_120 : decode cX2_image 120 = .ok (.iload 8, 2) := by decide +kernel
theorem dX2_image_122 : decode cX2_image 122 = .ok (.iload 5, 2) := by decide +kernel
theorem dX2_image_124 : decode cX2_image 124 = .ok (.if_icmp .ge 20, 3) := by decide +kernel
theorem dX2_image_127 : decode cX2_image 127 = .ok (.aload_n 0, 1) := by decide +kernel
theorem dX2_image_128 : decode cX2_image 128 = .ok (.getfield 14, 3) := by decide +kernel
theorem dX2_image_131 : decode cX2_image 131 = .ok (.iload 7, 2) := by decide +kernel
theorem dX2_image_133 : decode cX2_image 133 = .ok (.iload 8, 2) := by decide +kernel
theorem dX2_image_135 : decode cX2_image 135 = .ok (.iadd, 1) := by decide +kernel
theorem dX2_image_136 : decode cX2_image 136 = .ok (.iconst 1, 1) := by decide +kernel
theorem dX2_image_137 : decode cX2_image 137 = .ok (.bastore, 1) := by decide +kernel
theorem dX2_image_138 : decode cX2_image 138 = .ok (.iinc 8 1, 3) := by decide +kernel
theorem dX2_image_141 : decode cX2_image 141 = .ok (.goto (-21), 3) := by decide +kernel
theorem dX2_image_144 : decode cX2_image 144 = .ok (.iinc 6 1, 3) := by decide +kernel
theorem dX2_image_147 : decode cX2_image 147 = .ok (.goto (-66), 3) := by decide +kernel
theorem dX2_image_150 : decode cX2_image 150 = .ok (.aload_n 0, 1) := by decide +kernel
theorem dX2_image_151 : decode cX2_image 151 = .ok (.iload_n 1, 1) := by decide +kernel
theorem dX2_image_152 : decode cX2_image 152 = .ok (.invokevirtual 35, 3) := by decide +kernel
theorem dX2_image_155 : decode cX2_image 155 = .ok (.ireturn, 1) := by decide +kernel
theorem dX2_forks_0 : decode cX2_forks 0 = .ok (.aload_n 0, 1) := by decide +kernel
theorem dX2_forks_1 : decode cX2_forks 1 = .ok (.iconst 0, 1) := by decide +kernel
theorem dX2_forks_2 : decode cX2_forks 2 = .ok (.putfield 28, 3) := by decide +kernel
theorem dX2_forks_5 : decode cX2_forks 5 = .ok (.iload_n 1, 1) := by decide +kernel
theorem dX2_forks_6 : decode cX2_forks 6 = .ok (.invokestatic 31, 3) := by decide +kernel
theorem dX2_forks_9 : decode cX2_forks 9 = .ok (.ifCond .ne 5, 3) := by decide +kernel
theorem dX2_forks_12 : decode cX2_forks 12 = .ok (.iconst (-1), 1) := by decide +kernel
theorem dX2_forks_13 : decode cX2_forks 13 = .ok (.ireturn, 1) := by decide +kernel
theorem dX2_forks_14 : decode cX2_forks 14 = .ok (.iconst 0, 1) := by decide +kernel
theorem dX2_forks_15 : decode cX2_forks 15 = .ok (.istore_n 2, 1) := by decide +kernel
theorem dX2_forks_16 : decode cX2_forks 16 = .ok (.iconst 1, 1) := by decide +kernel
theorem dX2_forks_17 : decode cX2_forks 17 = .ok (.istore_n 3, 1) := by decide +kernel
theorem dX2_forks_18 : decode cX2_forks 18 = .ok (.iload_n 3, 1) := by decide +kernel
theorem dX2_forks_19 : decode cX2_forks 19 = .ok (.aload_n 0, 1) := by decide +kernel
theorem dX2_forks_20 : decode cX2_forks 20 = .ok (.getfield 21, 3) := by decide +kernel
theorem dX2_forks_23 : decode cX2_forks 23 = .ok (.if_icmp .gt 132, 3) := by decide +kernel
theorem dX2_forks_26 : decode cX2_forks 26 = .ok (.iconst 1, 1) := by decide +kernel
theorem dX2_forks_27 : decode cX2_forks 27 = .ok (.aload_n 0, 1) := by decide +kernel
theorem dX2_forks_28 : decode cX2_forks 28 = .ok (.getfield 21, 3) := by decide +kernel
theorem dX2_forks_31 : decode cX2_forks 31 = .ok (.iload_n 3, 1) := by decide +kernel
theorem dX2_forks_32 : decode cX2_forks 32 = .ok (.isub, 1) := by decide +kernel
theorem dX2_forks_33 : decode cX2_forks 33 = .ok (.iconst 1, 1) := by decide +kernel
theorem dX2_forks_34 : decode cX2_forks 34 = .ok (.iadd, 1) := by decide +kernel
theorem dX2_forks_35 : decode cX2_forks 35 = .ok (.ishl, 1) := by decide +kernel
theorem dX2_forks_36 : decode cX2_forks 36 = .ok (.istore 4, 2) := by decide +kernel
theorem dX2_forks_38 : decode cX2_forks 38 = .ok (.iconst 0, 1) := by decide +kernel
theorem dX2_forks_39 : decode cX2_forks 39 = .ok (.istore 5, 2) := by decide +kernel
theorem dX2_forks_41 : decode cX2_forks 41 = .ok (.iconst 0, 1) := by decide +kernel
theorem dX2_forks_42 : decode cX2_forks 42 = .ok (.istore 6, 2) := by decide +kernel
theorem dX2_forks_44 : decode cX2_forks 44 = .ok (.iload 6, 2) := by decide +kernel
theorem dX2_forks_46 : decode cX2_forks 46 = .ok (.aload_n 0, 1) := by decide +kernel
theorem dX2_forks_47 : decode cX2_forks 47 = .ok (.getfield 25, 3) := by decide +kernel
theorem dX2_forks_50 : decode cX2_forks 50 = .ok (.if_icmp .ge 94, 3) := by decide +kernel
theorem dX2_forks_53 : decode cX2_forks 53 = .ok (.aload_n 0, 1) := by decide +kernel
theorem dX2_forks_54 : decode cX2_forks 54 = .ok (.iload_n 1, 1) := by decide +kernel
theorem dX2_forks_55 : decode cX2_forks 55 = .ok (.iload 6, 2) := by decide +kernel
theorem dX2_forks_57 : decode cX2_forks 57 = .ok (.iload 6, 2) := by decide +kernel
theorem dX2_forks_59 : decode cX2_forks 59 = .ok (.iload 4, 2) := by decide +kernel
theorem dX2_forks_61 : decode cX2_forks 61 = .ok (.iconst 2, 1) := by decide +kernel
theorem dX2_forks_62 : decode cX2_forks 62 = .ok (.idiv, 1) := by decide +kernel
theorem dX2_forks_63 : decode cX2_forks 63 = .ok (.iadd, 1) := by decide +kernel
theorem dX2_forks_64 : decode cX2_forks 64 = .ok (.iload 4, 2) := by decide +kernel
theorem dX2_forks_66 : decode cX2_forks 66 = .ok (.iconst 2, 1) := by decide +kernel
theorem dX2_forks_67 : decode cX2_forks 67 = .ok (.idiv, 1) := by decide +kernel
theorem dX2_forks_68 : decode cX2_forks 68 = .ok (.invokevirtual 53, 3) := by decide +kernel
theorem dX2_forks_71 : decode cX2_forks 71 = .ok (.ifCond .eq 6, 3) := by decide +kernel
theorem dX2_forks_74 : decode cX2_forks 74 = .ok (.goto 60, 3) := by decide +kernel
theorem dX2_forks_77 : decode cX2_forks 77 = .ok (.iconst 0, 1) := by decide +kernel
theorem dX2_forks_78 : decode cX2_forks 78 = .ok (.istore 7, 2) := by decide +kernel
theorem dX2_forks_80 : decode cX2_forks 80 = .ok (.iload 7, 2) := by decide +kernel
theorem dX2_forks_82 : decode cX2_forks 82 = .ok (.iload 5, 2) := by decide +kernel
theorem dX2_forks_84 : decode cX2_forks 84 = .ok (.if_icmp .ge 28, 3) := by decide +kernel
theorem dX2_forks_87 : decode cX2_forks 87 = .ok (.aload_n 0, 1) := by decide +kernel
theorem dX2_forks_88 : decode cX2_forks 88 = .ok (.iload_n 1, 1) := by decide +kernel
theorem dX2_forks_89 : decode cX2_forks 89 = .ok (.aload_n 0, 1) := by decide +kernel
theorem dX2_forks_90 : decode cX2_forks 90 = .ok (.getfield 17, 3) := by decide +kernel
theorem dX2_forks_93 : decode cX2_forks 93 = .ok (.iload 7, 2) := by decide +kernel
theorem dX2_forks_95 : decode cX2_forks 95 = .ok (.iaload, 1) := by decide +kernel
theorem dX2_forks_96 : decode cX2_forks 96 = .ok (.iload 6, 2) := by decide +kernel
theorem dX2_forks_98 : decode cX2_forks 98 = .ok (.iload 4, 2) := by decide +kernel
theorem dX2_forks_100 : decode cX2_forks 100 = .ok (.invokevirtual 53, 3) := by decide +kernel
theorem dX2_forks_103 : decode cX2_forks 103 = .ok (.ifCond .ne 9, 3) := by decide +kernel
theorem dX2_forks_106 : decode cX2_forks 106 = .ok (.iinc 7 1, 3) := by decide +kernel
theorem dX2_forks_109 : decode cX2_forks 109 = .ok (.goto (-29), 3) := by decide +kernel
theorem dX2_forks_112 : decode cX2_forks 112 = .ok (.iload 7, 2) := by decide +kernel
theorem dX2_forks_114 : decode cX2_forks 114 = .ok (.iload 5, 2) := by decide +kernel
theorem dX2_forks_116 : decode cX2_forks 116 = .ok (.if_icmp .ge 6, 3) := by decide +kernel
theorem dX2_forks_119 : decode cX2_forks 119 = .ok (.goto 15, 3) := by decide +kernel
theorem dX2_forks_122 : decode cX2_forks 122 = .ok (.aload_n 0, 1) := by decide +kernel
theorem dX2_forks_123 : decode cX2_forks 123 = .ok (.getfield 17, 3) := by decide +kernel
theorem dX2_forks_126 : decode cX2_forks 126 = .ok (.iload 5, 2) := by decide +kernel
theorem dX2_forks_128 : decode cX2_forks 128 = .ok (.iload 6, 2) := by decide +kernel
theorem dX2_forks_130 : decode cX2_forks 130 = .ok (.iastore, 1) := by decide +kernel
theorem dX2_forks_131 : decode cX2_forks 131 = .ok (.iinc 5 1, 3) := by decide +kernel
theorem dX2_forks_134 : decode cX2_forks 134 = .ok (.iload 6, 2) := by decide +kernel
theorem dX2_forks_136 : decode cX2_forks 136 = .ok (.iload 4, 2) := by decide +kernel
theorem dX2_forks_138 : decode cX2_forks 138 = .ok (.iadd, 1) := by decide +kernel
theorem dX2_forks_139 : decode cX2_forks 139 = .ok (.istore 6, 2) := by decide +kernel
theorem dX2_forks_141 : decode cX2_forks 141 = .ok (.goto (-97), 3) := by decide +kernel
theorem dX2_forks_144 : decode cX2_forks 144 = .ok (.iload_n 2, 1) := by decide +kernel
theorem dX2_forks_145 : decode cX2_forks 145 = .ok (.iload 5, 2) := by decide +kernel
theorem dX2_forks_147 : decode cX2_forks 147 = .ok (.iadd, 1) := by decide +kernel
theorem dX2_forks_148 : decode cX2_forks 148 = .ok (.istore_n 2, 1) := by decide +kernel
theorem dX2_forks_149 : decode cX2_forks 149 = .ok (.iinc 3 1, 3) := by decide +kernel
theorem dX2_forks_152 : decode cX2_forks 152 = .ok (.goto (-134), 3) := by decide +kernel
theorem dX2_forks_155 : decode cX2_forks 155 = .ok (.iload_n 2, 1) := by decide +kernel
theorem dX2_forks_156 : decode cX2_forks 156 = .ok (.ireturn, 1) := by decide +kernel
theorem dX2_alike_0 : decode cX2_alike 0 = .ok (.iconst 0, 1) := by decide +kernel
theorem dX2_alike_1 : decode cX2_alike 1 = .ok (.istore 5, 2) := by decide +kernel
theorem dX2_alike_3 : decode cX2_alike 3 = .ok (.iload 5, 2) := by decide +kernel
theorem dX2_alike_5 : decode cX2_alike 5 = .ok (.iload 4, 2) := by decide +kernel
theorem dX2_alike_7 : decode cX2_alike 7 = .ok (.if_icmp .ge 32, 3) := by decide +kernel
theorem dX2_alike_10 : decode cX2_alike 10 = .ok (.aload_n 0, 1) := by decide +kernel
theorem dX2_alike_11 : decode cX2_alike 11 = .ok (.iload_n 1, 1) := by decide +kernel
theorem dX2_alike_12 : decode cX2_alike 12 = .ok (.iload_n 2, 1) := by decide +kernel
theorem dX2_alike_13 : decode cX2_alike 13 = .ok (.iload 5, 2) := by decide +kernel
theorem dX2_alike_15 : decode cX2_alike 15 = .ok (.iadd, 1) := by decide +kernel
theorem dX2_alike_16 : decode cX2_alike 16 = .ok (.invokevirtual 45, 3) := by decide +kernel
theorem dX2_alike_19 : decode cX2_alike 19 = .ok (.aload_n 0, 1) := by decide +kernel
theorem dX2_alike_20 : decode cX2_alike 20 = .ok (.iload_n 1, 1) := by decide +kernel
theorem dX2_alike_21 : decode cX2_alike 21 = .ok (.iload_n 3, 1) := by decide +kernel
theorem dX2_alike_22 : decode cX2_alike 22 = .ok (.iload 5, 2) := by decide +kernel
theorem dX2_alike_24 : decode cX2_alike 24 = .ok (.iadd, 1) := by decide +kernel
theorem dX2_alike_25 : decode cX2_alike 25 = .ok (.invokevirtual 45, 3) := by decide +kernel
theorem dX2_alike_28 : decode cX2_alike 28 = .ok (.if_icmp .eq 5, 3) := by decide +kernel
theorem dX2_alike_31 : decode cX2_alike 31 = .ok (.iconst 0, 1) := by decide +kernel
theorem dX2_alike_32 : decode cX2_alike 32 = .ok (.ireturn, 1) := by decide +kernel
theorem dX2_alike_33 : decode cX2_alike 33 = .ok (.iinc 5 1, 3) := by decide +kernel
theorem dX2_alike_36 : decode cX2_alike 36 = .ok (.goto (-33), 3) := by decide +kernel
theorem dX2_alike_39 : decode cX2_alike 39 = .ok (.iconst 1, 1) := by decide +kernel
theorem dX2_alike_40 : decode cX2_alike 40 = .ok (.ireturn, 1) := by decide +kernel
theorem dX2_ones_0 : decode cX2_ones 0 = .ok (.aload_n 0, 1) := by decide +kernel
theorem dX2_ones_1 : decode cX2_ones 1 = .ok (.iconst 0, 1) := by decide +kernel
theorem dX2_ones_2 : decode cX2_ones 2 = .ok (.putfield 28, 3) := by decide +kernel
theorem dX2_ones_5 : decode cX2_ones 5 = .ok (.iload_n 1, 1) := by decide +kernel
theorem dX2_ones_6 : decode cX2_ones 6 = .ok (.invokestatic 31, 3) := by decide +kernel
theorem dX2_ones_9 : decode cX2_ones 9 = .ok (.ifCond .ne 5, 3) := by decide +kernel
theorem dX2_ones_12 : decode cX2_ones 12 = .ok (.iconst (-1), 1) := by decide +kernel
theorem dX2_ones_13 : decode cX2_ones 13 = .ok (.ireturn, 1) := by decide +kernel
theorem dX2_ones_14 : decode cX2_ones 14 = .ok (.iconst 0, 1) := by decide +kernel
theorem dX2_ones_15 : decode cX2_ones 15 = .ok (.istore_n 2, 1) := by decide +kernel
theorem dX2_ones_16 : decode cX2_ones 16 = .ok (.iconst 0, 1) := by decide +kernel
theorem dX2_ones_17 : decode cX2_ones 17 = .ok (.istore_n 3, 1) := by decide +kernel
theorem dX2_ones_18 : decode cX2_ones 18 = .ok (.iload_n 3, 1) := by decide +kernel
theorem dX2_ones_19 : decode cX2_ones 19 = .ok (.aload_n 0, 1) := by decide +kernel
theorem dX2_ones_20 : decode cX2_ones 20 = .ok (.getfield 25, 3) := by decide +kernel
theorem dX2_ones_23 : decode cX2_ones 23 = .ok (.if_icmp .ge 26, 3) := by decide +kernel
theorem dX2_ones_26 : decode cX2_ones 26 = .ok (.iload_n 2, 1) := by decide +kernel
theorem dX2_ones_27 : decode cX2_ones 27 = .ok (.aload_n 0, 1) := by decide +kernel
theorem dX2_ones_28 : decode cX2_ones 28 = .ok (.iload_n 1, 1) := by decide +kernel
theorem dX2_ones_29 : decode cX2_ones 29 = .ok (.iload_n 3, 1) := by decide +kernel
theorem dX2_ones_30 : decode cX2_ones 30 = .ok (.invokevirtual 45, 3) := by decide +kernel
theorem dX2_ones_33 : decode cX2_ones 33 = .ok (.ifCond .eq 7, 3) := by decide +kernel
theorem dX2_ones_36 : decode cX2_ones 36 = .ok (.iconst 1, 1) := by decide +kernel
theorem dX2_ones_37 : decode cX2_ones 37 = .ok (.goto 4, 3) := by decide +kernel
theorem dX2_ones_40 : decode cX2_ones 40 = .ok (.iconst 0, 1) := by decide +kernel
theorem dX2_ones_41 : decode cX2_ones 41 = .ok (.iadd, 1) := by decide +kernel
theorem dX2_ones_42 : decode cX2_ones 42 = .ok (.istore_n 2, 1) := by decide +kernel
theorem dX2_ones_43 : decode cX2_ones 43 = .ok (.iinc 3 1, 3) := by decide +kernel
theorem dX2_ones_46 : decode cX2_ones 46 = .ok (.goto (-28), 3) := by decide +kernel
theorem dX2_ones_49 : decode cX2_ones 49 = .ok (.iload_n 2, 1) := by decide +kernel
theorem dX2_ones_50 : decode cX2_ones 50 = .ok (.ireturn, 1) := by decide +kernel
theorem dX2_least_0 : decode cX2_least 0 = .ok (.aload_n 0, 1) := by decide +kernel
theorem dX2_least_1 : decode cX2_least 1 = .ok (.iconst 0, 1) := by decide +kernel
theorem dX2_least_2 : decode cX2_least 2 = .ok (.putfield 28, 3) := by decide +kernel
theorem dX2_least_5 : decode cX2_least 5 = .ok (.iconst 0, 1) := by decide +kernel
theorem dX2_least_6 : decode cX2_least 6 = .ok (.istore_n 2, 1) := by decide +kernel
theorem dX2_least_7 : decode cX2_least 7 = .ok (.iload_n 2, 1) := by decide +kernel
theorem dX2_least_8 : decode cX2_least 8 = .ok (.aload_n 0, 1) := by decide +kernel
theorem dX2_least_9 : decode cX2_least 9 = .ok (.getfield 25, 3) := by decide +kernel
theorem dX2_least_12 : decode cX2_least 12 = .ok (.if_icmp .ge 27, 3) := by decide +kernel
theorem dX2_least_15 : decode cX2_least 15 = .ok (.iload_n 1, 1) := by decide +kernel
theorem dX2_least_16 : decode cX2_least 16 = .ok (.invokestatic 31, 3) := by decide +kernel
theorem dX2_least_19 : decode cX2_least 19 = .ok (.ifCond .eq 20, 3) := by decide +kernel
theorem dX2_least_22 : decode cX2_least 22 = .ok (.aload_n 0, 1) := by decide +kernel
theorem dX2_least_23 : decode cX2_least 23 = .ok (.iload_n 1, 1) := by decide +kernel
theorem dX2_least_24 : decode cX2_least 24 = .ok (.iload_n 2, 1) := by decide +kernel
theorem dX2_least_25 : decode cX2_least 25 = .ok (.invokevirtual 45, 3) := by decide +kernel
theorem dX2_least_28 : decode cX2_least 28 = .ok (.ifCond .eq 5, 3) := by decide +kernel
theorem dX2_least_31 : decode cX2_least 31 = .ok (.iload_n 2, 1) := by decide +kernel
theorem dX2_least_32 : decode cX2_least 32 = .ok (.ireturn, 1) := by decide +kernel
theorem dX2_least_33 : decode cX2_least 33 = .ok (.iinc 2 1, 3) := by decide +kernel
theorem dX2_least_36 : decode cX2_least 36 = .ok (.goto (-29), 3) := by decide +kernel
theorem dX2_least_39 : decode cX2_least 39 = .ok (.iconst (-1), 1) := by decide +kernel
theorem dX2_least_40 : decode cX2_least 40 = .ok (.ireturn, 1) := by decide +kernel
theorem dX2_at_0 : decode cX2_at 0 = .ok (.aload_n 0, 1) := by decide +kernel
theorem dX2_at_1 : decode cX2_at 1 = .ok (.iconst 0, 1) := by decide +kernel
theorem dX2_at_2 : decode cX2_at 2 = .ok (.putfield 28, 3) := by decide +kernel
theorem dX2_at_5 : decode cX2_at 5 = .ok (.iload_n 1, 1) := by decide +kernel
theorem dX2_at_6 : decode cX2_at 6 = .ok (.invokestatic 31, 3) := by decide +kernel
theorem dX2_at_9 : decode cX2_at 9 = .ok (.ifCond .eq 15, 3) := by decide +kernel
theorem dX2_at_12 : decode cX2_at 12 = .ok (.iload_n 2, 1) := by decide +kernel
theorem dX2_at_13 : decode cX2_at 13 = .ok (.ifCond .lt 11, 3) := by decide +kernel
theorem dX2_at_16 : decode cX2_at 16 = .ok (.iload_n 2, 1) := by decide +kernel
theorem dX2_at_17 : decode cX2_at 17 = .ok (.aload_n 0, 1) := by decide +kernel
theorem dX2_at_18 : decode cX2_at 18 = .ok (.getfield 25, 3) := by decide +kernel
theorem dX2_at_21 : decode cX2_at 21 = .ok (.if_icmp .lt 7, 3) := by decide +kernel
theorem dX2_at_24 : decode cX2_at 24 = .ok (.iconst (-1), 1) := by decide +kernel
theorem dX2_at_25 : decode cX2_at 25 = .ok (.goto 17, 3) := by decide +kernel
theorem dX2_at_28 : decode cX2_at 28 = .ok (.aload_n 0, 1) := by decide +kernel
theorem dX2_at_29 : decode cX2_at 29 = .ok (.iload_n 1, 1) := by decide +kernel
theorem dX2_at_30 : decode cX2_at 30 = .ok (.iload_n 2, 1) := by decide +kernel
theorem dX2_at_31 : decode cX2_at 31 = .ok (.invokevirtual 45, 3) := by decide +kernel
theorem dX2_at_34 : decode cX2_at 34 = .ok (.ifCond .eq 7, 3) := by decide +kernel
theorem dX2_at_37 : decode cX2_at 37 = .ok (.iconst 1, 1) := by decide +kernel
theorem dX2_at_38 : decode cX2_at 38 = .ok (.goto 4, 3) := by decide +kernel
theorem dX2_at_41 : decode cX2_at 41 = .ok (.iconst 0, 1) := by decide +kernel
theorem dX2_at_42 : decode cX2_at 42 = .ok (.ireturn, 1) := by decide +kernel
theorem dX2_same_0 : decode cX2_same 0 = .ok (.aload_n 0, 1) := by decide +kernel
theorem dX2_same_1 : decode cX2_same 1 = .ok (.iconst 0, 1) := by decide +kernel
theorem dX2_same_2 : decode cX2_same 2 = .ok (.putfield 28, 3) := by decide +kernel
theorem dX2_same_5 : decode cX2_same 5 = .ok (.iload_n 1, 1) := by decide +kernel
theorem dX2_same_6 : decode cX2_same 6 = .ok (.invokestatic 31, 3) := by decide +kernel
theorem dX2_same_9 : decode cX2_same 9 = .ok (.ifCond .eq 36, 3) := by decide +kernel
theorem dX2_same_12 : decode cX2_same 12 = .ok (.iload_n 2, 1) := by decide +kernel
theorem dX2_same_13 : decode cX2_same 13 = .ok (.invokestatic 31, 3) := by decide +kernel
theorem dX2_same_16 : decode cX2_same 16 = .ok (.ifCond .eq 29, 3) := by decide +kernel
theorem dX2_same_19 : decode cX2_same 19 = .ok (.aload_n 0, 1) := by decide +kernel
theorem dX2_same_20 : decode cX2_same 20 = .ok (.iconst 0, 1) := by decide +kernel
theorem dX2_same_21 : decode cX2_same 21 = .ok (.sipush 4096, 3) := by decide +kernel
theorem dX2_same_24 : decode cX2_same 24 = .ok (.iload_n 1, 1) := by decide +kernel
theorem dX2_same_25 : decode cX2_same 25 = .ok (.imul, 1) := by decide +kernel
theorem dX2_same_26 : decode cX2_same 26 = .ok (.sipush 4096, 3) := by decide +kernel
theorem dX2_same_29 : decode cX2_same 29 = .ok (.iload_n 2, 1) := by decide +kernel
theorem dX2_same_30 : decode cX2_same 30 = .ok (.imul, 1) := by decide +kernel
theorem dX2_same_31 : decode cX2_same 31 = .ok (.aload_n 0, 1) := by decide +kernel
theorem dX2_same_32 : decode cX2_same 32 = .ok (.getfield 25, 3) := by decide +kernel
theorem dX2_same_35 : decode cX2_same 35 = .ok (.invokevirtual 53, 3) := by decide +kernel
theorem dX2_same_38 : decode cX2_same 38 = .ok (.ifCond .eq 7, 3) := by decide +kernel
theorem dX2_same_41 : decode cX2_same 41 = .ok (.iconst 1, 1) := by decide +kernel
theorem dX2_same_42 : decode cX2_same 42 = .ok (.goto 4, 3) := by decide +kernel
theorem dX2_same_45 : decode cX2_same 45 = .ok (.iconst 0, 1) := by decide +kernel
theorem dX2_same_46 : decode cX2_same 46 = .ok (.ireturn, 1) := by decide +kernel
