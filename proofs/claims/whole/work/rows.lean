section
-- ===== PART A: goes FIRST, ahead of the names: the tables' words, and 'selects' of the private methods out of them =====
/-- a private method of a class that the tables say can be made, by its rows of tables_1 -/
def lw_okq (q : MethodName × Nat) : Prop := (q.1.cls ≠ "java/lang/invoke/MethodHandle" ∧ q.1.cls ≠ "java/lang/invoke/VarHandle") ∧ Cond.instantiable q.1.cls q.2 ∈ tables_1 ∧ Cond.privateMethod q.1 ∈ tables_1 ∧ Cond.instanceMethod q.1 ∈ tables_1
theorem lw_p0 : lw_okq (⟨"ForkDesk", "isVariable", "(I)Z"⟩, 10) := ⟨⟨by decide +kernel, by decide +kernel⟩, List.mem_of_getElem? (i := 9) (by decide +kernel), List.mem_of_getElem? (i := 99) (by decide +kernel), List.mem_of_getElem? (i := 100) (by decide +kernel)⟩
theorem lw_p1 : lw_okq (⟨"ForkDesk", "bitOf", "(I)I"⟩, 10) := ⟨⟨by decide +kernel, by decide +kernel⟩, List.mem_of_getElem? (i := 9) (by decide +kernel), List.mem_of_getElem? (i := 103) (by decide +kernel), List.mem_of_getElem? (i := 104) (by decide +kernel)⟩
theorem lw_p2 : lw_okq (⟨"ForkDesk", "pointsWithBit", "(II)J"⟩, 10) := ⟨⟨by decide +kernel, by decide +kernel⟩, List.mem_of_getElem? (i := 9) (by decide +kernel), List.mem_of_getElem? (i := 107) (by decide +kernel), List.mem_of_getElem? (i := 108) (by decide +kernel)⟩
theorem lw_p3 : lw_okq (⟨"ForkDesk", "keepDraft", "(I)V"⟩, 10) := ⟨⟨by decide +kernel, by decide +kernel⟩, List.mem_of_getElem? (i := 9) (by decide +kernel), List.mem_of_getElem? (i := 134) (by decide +kernel), List.mem_of_getElem? (i := 135) (by decide +kernel)⟩
theorem lw_p4 : lw_okq (⟨"ForkDesk", "spread", "([JI)V"⟩, 10) := ⟨⟨by decide +kernel, by decide +kernel⟩, List.mem_of_getElem? (i := 9) (by decide +kernel), List.mem_of_getElem? (i := 145) (by decide +kernel), List.mem_of_getElem? (i := 146) (by decide +kernel)⟩
theorem lw_p5 : lw_okq (⟨"ForkDesk", "readTuples", "(III)V"⟩, 10) := ⟨⟨by decide +kernel, by decide +kernel⟩, List.mem_of_getElem? (i := 9) (by decide +kernel), List.mem_of_getElem? (i := 156) (by decide +kernel), List.mem_of_getElem? (i := 157) (by decide +kernel)⟩
theorem lw_p6 : lw_okq (⟨"ForkDesk", "markTuples", "(JI)V"⟩, 10) := ⟨⟨by decide +kernel, by decide +kernel⟩, List.mem_of_getElem? (i := 9) (by decide +kernel), List.mem_of_getElem? (i := 174) (by decide +kernel), List.mem_of_getElem? (i := 175) (by decide +kernel)⟩
theorem lw_p7 : lw_okq (⟨"ForkDesk$ForkCounter", "countLevel", "(I)I"⟩, 5) := ⟨⟨by decide +kernel, by decide +kernel⟩, List.mem_of_getElem? (i := 26) (by decide +kernel), List.mem_of_getElem? (i := 187) (by decide +kernel), List.mem_of_getElem? (i := 188) (by decide +kernel)⟩
theorem lw_p8 : lw_okq (⟨"ForkDesk$ForkCounter", "kindOf", "(III)I"⟩, 5) := ⟨⟨by decide +kernel, by decide +kernel⟩, List.mem_of_getElem? (i := 26) (by decide +kernel), List.mem_of_getElem? (i := 192) (by decide +kernel), List.mem_of_getElem? (i := 193) (by decide +kernel)⟩
theorem lw_p9 : lw_okq (⟨"ForkDeskModel", "keep", "(I)Z"⟩, 6) := ⟨⟨by decide +kernel, by decide +kernel⟩, List.mem_of_getElem? (i := 224) (by decide +kernel), List.mem_of_getElem? (i := 258) (by decide +kernel), List.mem_of_getElem? (i := 259) (by decide +kernel)⟩
theorem lw_p10 : lw_okq (⟨"ForkDeskModel", "isVariable", "(I)Z"⟩, 6) := ⟨⟨by decide +kernel, by decide +kernel⟩, List.mem_of_getElem? (i := 224) (by decide +kernel), List.mem_of_getElem? (i := 266) (by decide +kernel), List.mem_of_getElem? (i := 267) (by decide +kernel)⟩
theorem lw_p11 : lw_okq (⟨"ForkDeskModel", "value", "(II)I"⟩, 6) := ⟨⟨by decide +kernel, by decide +kernel⟩, List.mem_of_getElem? (i := 224) (by decide +kernel), List.mem_of_getElem? (i := 270) (by decide +kernel), List.mem_of_getElem? (i := 271) (by decide +kernel)⟩
theorem lw_p12 : lw_okq (⟨"ForkDeskModel", "has", "(II)Z"⟩, 6) := ⟨⟨by decide +kernel, by decide +kernel⟩, List.mem_of_getElem? (i := 224) (by decide +kernel), List.mem_of_getElem? (i := 278) (by decide +kernel), List.mem_of_getElem? (i := 279) (by decide +kernel)⟩
theorem lw_p13 : lw_okq (⟨"ForkDeskModel", "led", "(III)I"⟩, 6) := ⟨⟨by decide +kernel, by decide +kernel⟩, List.mem_of_getElem? (i := 224) (by decide +kernel), List.mem_of_getElem? (i := 298) (by decide +kernel), List.mem_of_getElem? (i := 299) (by decide +kernel)⟩
theorem lw_p14 : lw_okq (⟨"ForkDeskModel", "alike", "(IIII)Z"⟩, 6) := ⟨⟨by decide +kernel, by decide +kernel⟩, List.mem_of_getElem? (i := 224) (by decide +kernel), List.mem_of_getElem? (i := 314) (by decide +kernel), List.mem_of_getElem? (i := 315) (by decide +kernel)⟩
def lw_privs_1 : List (MethodName × Nat) := [(⟨"ForkDesk", "isVariable", "(I)Z"⟩, 10), (⟨"ForkDesk", "bitOf", "(I)I"⟩, 10), (⟨"ForkDesk", "pointsWithBit", "(II)J"⟩, 10), (⟨"ForkDesk", "keepDraft", "(I)V"⟩, 10), (⟨"ForkDesk", "spread", "([JI)V"⟩, 10), (⟨"ForkDesk", "readTuples", "(III)V"⟩, 10), (⟨"ForkDesk", "markTuples", "(JI)V"⟩, 10), (⟨"ForkDesk$ForkCounter", "countLevel", "(I)I"⟩, 5), (⟨"ForkDesk$ForkCounter", "kindOf", "(III)I"⟩, 5), (⟨"ForkDeskModel", "keep", "(I)Z"⟩, 6), (⟨"ForkDeskModel", "isVariable", "(I)Z"⟩, 6), (⟨"ForkDeskModel", "value", "(II)I"⟩, 6), (⟨"ForkDeskModel", "has", "(II)Z"⟩, 6), (⟨"ForkDeskModel", "led", "(III)I"⟩, 6), (⟨"ForkDeskModel", "alike", "(IIII)Z"⟩, 6)]
theorem lw_r1 : ∀ q ∈ lw_privs_1, lw_okq q := List.forall_mem_cons.mpr ⟨lw_p0, List.forall_mem_cons.mpr ⟨lw_p1, List.forall_mem_cons.mpr ⟨lw_p2, List.forall_mem_cons.mpr ⟨lw_p3, List.forall_mem_cons.mpr ⟨lw_p4, List.forall_mem_cons.mpr ⟨lw_p5, List.forall_mem_cons.mpr ⟨lw_p6, List.forall_mem_cons.mpr ⟨lw_p7, List.forall_mem_cons.mpr ⟨lw_p8, List.forall_mem_cons.mpr ⟨lw_p9, List.forall_mem_cons.mpr ⟨lw_p10, List.forall_mem_cons.mpr ⟨lw_p11, List.forall_mem_cons.mpr ⟨lw_p12, List.forall_mem_cons.mpr ⟨lw_p13, List.forall_mem_cons.mpr ⟨lw_p14, fun _ h => absurd h List.not_mem_nil⟩⟩⟩⟩⟩⟩⟩⟩⟩⟩⟩⟩⟩⟩⟩
def lw_privs : List (MethodName × Nat) := lw_privs_1
def lw_tbl : List Cond := k2_sels lw_privs ++ tables_1
theorem lw_privs_ok : ∀ q ∈ lw_privs, lw_okq q := lw_r1
end
section
/-! ===== BEGIN words of one list among another's, by their places ===== -/
theorem goodIn_r {big : List Cond} (ws : List Cond) (ps : List Nat) (hp : ws = ps.filterMap (fun i => big[i]?)) (h : ws.all goodWord = true) : GoodIn big ws := by
  intro w hw
  have h1 := List.all_eq_true.mp h w hw
  rw [hp] at hw
  obtain ⟨i, -, hi⟩ := List.mem_filterMap.mp hw
  have hm : w ∈ big := by first | exact List.mem_of_getElem? hi | exact List.getElem?_mem hi
  exact ⟨hm, good_of_word h1⟩
theorem goodIn_app {big a b : List Cond} (ha : GoodIn big a) (hb : GoodIn big b) : GoodIn big (a ++ b) := fun w h => (List.mem_append.mp h).elim (ha w) (hb w)
theorem goodIn_ca {big a b : List Cond} {c : Cond} (ha : GoodIn big (c :: a)) (hb : GoodIn big b) : GoodIn big (c :: (a ++ b)) := fun w h => (List.mem_cons.mp h).elim (fun e => ha w (List.mem_cons.mpr (Or.inl e))) (fun h => (List.mem_append.mp h).elim (fun h => ha w (List.mem_cons.mpr (Or.inr h))) (hb w))
theorem goodIn_sub {big ws : List Cond} (hm : ∀ w ∈ ws, w ∈ big) (h : ws.all goodWord = true) : GoodIn big ws := fun w hw => ⟨hm w hw, good_of_word (List.all_eq_true.mp h w hw)⟩
/-! ===== END ===== -/

/-! ===== BEGIN printed: names, fields, word lists, decode rows ===== -/
def RX0 : String := "ForkDesk$ForkCounter"
def TX0 : u_T := fun k => match k with
  | 0 => ("ForkDesk$ForkCounter", "variables", "I", true)
  | 1 => ("ForkDesk$ForkCounter", "kinds", "[I", true)
  | 2 => ("ForkDesk$ForkCounter", "upperHalf", "[I", true)
  | 3 => ("ForkDesk$ForkCounter", "before", "[I", true)
  | _ => ("ForkDesk$ForkCounter", "latest", "[I", true)
def tyX0 : Nat → FieldType := fun k => match k with
  | 0 => .int
  | 1 => .array .int
  | 2 => .array .int
  | 3 => .array .int
  | _ => .array .int
abbrev wsX00 : List Cond := u_ws RX0 TX0 5
theorem nmX0 : ∀ a, a < 5 → ∀ b, b < 5 → a ≠ b → (TX0 a).2.1 ≠ (TX0 b).2.1 := by decide +kernel
theorem tyX0_ok : ∀ k, k < 5 → parseFieldDescriptor (TX0 k).2.2.1 = some (tyX0 k) := by decide +kernel
abbrev cX0_init : ByteArray := prog_2_method_1_code
def yX0_init : MethodName := ⟨RX0, "<init>", "(I)V"⟩
abbrev cX0_count : ByteArray := prog_2_method_2_code
def yX0_count : MethodName := ⟨RX0, "count", "([J)I"⟩
abbrev cX0_countLevel : ByteArray := prog_2_method_3_code
def yX0_countLevel : MethodName := ⟨RX0, "countLevel", "(I)I"⟩
abbrev cX0_kindOf : ByteArray := prog_2_method_4_code
def yX0_kindOf : MethodName := ⟨RX0, "kindOf", "(III)I"⟩
def RX1 : String := "ForkDesk"
def TX1 : u_T := fun k => match k with
  | 0 => ("ForkDesk", "variables", "I", true)
  | 1 => ("ForkDesk", "points", "I", true)
  | 2 => ("ForkDesk", "words", "I", true)
  | 3 => ("ForkDesk", "pointsInWord", "I", true)
  | 4 => ("ForkDesk", "allOnes", "J", true)
  | 5 => ("ForkDesk", "registers", "[[J", true)
  | 6 => ("ForkDesk", "draft", "[J", true)
  | 7 => ("ForkDesk", "reached", "[J", true)
  | 8 => ("ForkDesk", "tuples", "[I", true)
  | _ => ("ForkDesk", "forkCounter", "LForkDesk$ForkCounter;", true)
def tyX1 : Nat → FieldType := fun k => match k with
  | 0 => .int
  | 1 => .int
  | 2 => .int
  | 3 => .int
  | 4 => .long
  | 5 => .array (.array .long)
  | 6 => .array .long
  | 7 => .array .long
  | 8 => .array .int
  | _ => .object "ForkDesk$ForkCounter"
abbrev wsX10 : List Cond := u_ws RX1 TX1 10
theorem nmX1 : ∀ a, a < 10 → ∀ b, b < 10 → a ≠ b → (TX1 a).2.1 ≠ (TX1 b).2.1 := by decide +kernel
theorem tyX1_ok : ∀ k, k < 10 → parseFieldDescriptor (TX1 k).2.2.1 = some (tyX1 k) := by decide +kernel
abbrev cX1_init : ByteArray := prog_1_method_1_code
def yX1_init : MethodName := ⟨RX1, "<init>", "(I)V"⟩
abbrev cX1_constant : ByteArray := prog_1_method_2_code
def yX1_constant : MethodName := ⟨RX1, "constant", "(II)Z"⟩
abbrev cX1_variable : ByteArray := prog_1_method_3_code
def yX1_variable : MethodName := ⟨RX1, "variable", "(II)Z"⟩
abbrev cX1_combine : ByteArray := prog_1_method_4_code
def yX1_combine : MethodName := ⟨RX1, "combine", "(IIII)Z"⟩
abbrev cX1_choose : ByteArray := prog_1_method_5_code
def yX1_choose : MethodName := ⟨RX1, "choose", "(IIII)Z"⟩
abbrev cX1_fix : ByteArray := prog_1_method_6_code
def yX1_fix : MethodName := ⟨RX1, "fix", "(IIII)Z"⟩
abbrev cX1_exists : ByteArray := prog_1_method_7_code
def yX1_exists : MethodName := ⟨RX1, "exists", "(IIII)Z"⟩
abbrev cX1_substitute : ByteArray := prog_1_method_8_code
def yX1_substitute : MethodName := ⟨RX1, "substitute", "(III)Z"⟩
abbrev cX1_nearest : ByteArray := prog_1_method_9_code
def yX1_nearest : MethodName := ⟨RX1, "nearest", "(III)Z"⟩
abbrev cX1_image : ByteArray := prog_1_method_10_code
def yX1_image : MethodName := ⟨RX1, "image", "(IIII)Z"⟩
abbrev cX1_forks : ByteArray := prog_1_method_11_code
def yX1_forks : MethodName := ⟨RX1, "forks", "(I)I"⟩
abbrev cX1_ones : ByteArray := prog_1_method_12_code
def yX1_ones : MethodName := ⟨RX1, "ones", "(I)I"⟩
abbrev cX1_least : ByteArray := prog_1_method_13_code
def yX1_least : MethodName := ⟨RX1, "least", "(I)I"⟩
abbrev cX1_at : ByteArray := prog_1_method_14_code
def yX1_at : MethodName := ⟨RX1, "at", "(II)I"⟩
abbrev cX1_same : ByteArray := prog_1_method_15_code
def yX1_same : MethodName := ⟨RX1, "same", "(II)Z"⟩
abbrev cX1_isRegister : ByteArray := prog_1_method_16_code
def yX1_isRegister : MethodName := ⟨RX1, "isRegister", "(I)Z"⟩
abbrev cX1_areRegisters : ByteArray := prog_1_method_17_code
def yX1_areRegisters : MethodName := ⟨RX1, "areRegisters", "(II)Z"⟩
abbrev cX1_isVariable : ByteArray := prog_1_method_18_code
def yX1_isVariable : MethodName := ⟨RX1, "isVariable", "(I)Z"⟩
abbrev cX1_isValue : ByteArray := prog_1_method_19_code
def yX1_isValue : MethodName := ⟨RX1, "isValue", "(I)Z"⟩
abbrev cX1_bitOf : ByteArray := prog_1_method_20_code
def yX1_bitOf : MethodName := ⟨RX1, "bitOf", "(I)I"⟩
abbrev cX1_valueAt : ByteArray := prog_1_method_21_code
def yX1_valueAt : MethodName := ⟨RX1, "valueAt", "([JI)I"⟩
abbrev cX1_lowestPlace : ByteArray := prog_1_method_22_code
def yX1_lowestPlace : MethodName := ⟨RX1, "lowestPlace", "(J)I"⟩
abbrev cX1_combined : ByteArray := prog_1_method_23_code
def yX1_combined : MethodName := ⟨RX1, "combined", "(IJJ)J"⟩
abbrev cX1_chosen : ByteArray := prog_1_method_24_code
def yX1_chosen : MethodName := ⟨RX1, "chosen", "(JJJ)J"⟩
abbrev cX1_pointsWithBit : ByteArray := prog_1_method_25_code
def yX1_pointsWithBit : MethodName := ⟨RX1, "pointsWithBit", "(II)J"⟩
abbrev cX1_acrossBit : ByteArray := prog_1_method_26_code
def yX1_acrossBit : MethodName := ⟨RX1, "acrossBit", "([JII)J"⟩
abbrev cX1_spread : ByteArray := prog_1_method_27_code
def yX1_spread : MethodName := ⟨RX1, "spread", "([JI)V"⟩
abbrev cX1_readTuples : ByteArray := prog_1_method_28_code
def yX1_readTuples : MethodName := ⟨RX1, "readTuples", "(III)V"⟩
abbrev cX1_markTuples : ByteArray := prog_1_method_29_code
def yX1_markTuples : MethodName := ⟨RX1, "markTuples", "(JI)V"⟩
abbrev cX1_keepDraft : ByteArray := prog_1_method_30_code
def yX1_keepDraft : MethodName := ⟨RX1, "keepDraft", "(I)V"⟩
def RJ13 : String := "java/lang/Long"
def TJ13 : u_T := fun k => match k with
  | _ => ("", "", "", false)
def tyJ13 : Nat → FieldType := fun k => match k with
  | _ => .int
abbrev wsJ130 : List Cond := u_ws RJ13 TJ13 0
theorem nmJ13 : ∀ a, a < 0 → ∀ b, b < 0 → a ≠ b → (TJ13 a).2.1 ≠ (TJ13 b).2.1 := by decide +kernel
theorem tyJ13_ok : ∀ k, k < 0 → parseFieldDescriptor (TJ13 k).2.2.1 = some (tyJ13 k) := by decide +kernel
abbrev cJ13_bitCount_95d88 : ByteArray := prog_5_method_50_code
def yJ13_bitCount_95d88 : MethodName := ⟨RJ13, "bitCount", "(J)I"⟩
def RJ9 : String := "java/lang/Math"
def TJ9 : u_T := fun k => match k with
  | _ => ("", "", "", false)
def tyJ9 : Nat → FieldType := fun k => match k with
  | _ => .int
abbrev wsJ90 : List Cond := u_ws RJ9 TJ9 0
theorem nmJ9 : ∀ a, a < 0 → ∀ b, b < 0 → a ≠ b → (TJ9 a).2.1 ≠ (TJ9 b).2.1 := by decide +kernel
theorem tyJ9_ok : ∀ k, k < 0 → parseFieldDescriptor (TJ9 k).2.2.1 = some (tyJ9 k) := by decide +kernel
abbrev cJ9_max_7cf53 : ByteArray := prog_6_method_65_code
def yJ9_max_7cf53 : MethodName := ⟨RJ9, "max", "(II)I"⟩
abbrev cJ9_min_7cf53 : ByteArray := prog_6_method_69_code
def yJ9_min_7cf53 : MethodName := ⟨RJ9, "min", "(II)I"⟩
def RJ10 : String := "java/lang/System"
def TJ10 : u_T := fun k => match k with
  | _ => ("", "", "", false)
def tyJ10 : Nat → FieldType := fun k => match k with
  | _ => .int
abbrev wsJ100 : List Cond := u_ws RJ10 TJ10 0
theorem nmJ10 : ∀ a, a < 0 → ∀ b, b < 0 → a ≠ b → (TJ10 a).2.1 ≠ (TJ10 b).2.1 := by decide +kernel
theorem tyJ10_ok : ∀ k, k < 0 → parseFieldDescriptor (TJ10 k).2.2.1 = some (tyJ10 k) := by decide +kernel
def RJ7 : String := "java/util/Arrays"
def TJ7 : u_T := fun k => match k with
  | _ => ("", "", "", false)
def tyJ7 : Nat → FieldType := fun k => match k with
  | _ => .int
abbrev wsJ70 : List Cond := u_ws RJ7 TJ7 0
theorem nmJ7 : ∀ a, a < 0 → ∀ b, b < 0 → a ≠ b → (TJ7 a).2.1 ≠ (TJ7 b).2.1 := by decide +kernel
theorem tyJ7_ok : ∀ k, k < 0 → parseFieldDescriptor (TJ7 k).2.2.1 = some (tyJ7 k) := by decide +kernel
abbrev cJ7_fill_d0a16 : ByteArray := prog_8_method_101_code
def yJ7_fill_d0a16 : MethodName := ⟨RJ7, "fill", "([JJ)V"⟩
abbrev cJ7_fill_53178 : ByteArray := prog_8_method_103_code
def yJ7_fill_53178 : MethodName := ⟨RJ7, "fill", "([II)V"⟩
def RL : String := "ForkDeskLaw"
abbrev cL_cell : ByteArray := method_2_code
def yL_cell : MethodName := ⟨RL, "cell", "([II)I"⟩
abbrev cL_law : ByteArray := code
def yL_law : MethodName := ⟨RL, "law", "([I)Z"⟩
def wsX0_init : List Cond := .code yX0_init cX0_init 3 none :: ([.methodLink RX0 3 objectInit, .instanceMethod objectInit, .code objectInit ⟨#[0xb1]⟩ 1 none, .fieldLink RX0 9 "ForkDesk$ForkCounter" "variables" "I", .arrayClass .int, .fieldLink RX0 15 "ForkDesk$ForkCounter" "kinds" "[I", .fieldLink RX0 19 "ForkDesk$ForkCounter" "upperHalf" "[I", .fieldLink RX0 22 "ForkDesk$ForkCounter" "before" "[I", .methodLink RX0 25 Lib.Math.max.name, .static Lib.Math.max.name, .initialized "java/lang/Math", .code Lib.Math.max.name Lib.Math.max.code 2 (some .int), .fieldLink RX0 31 "ForkDesk$ForkCounter" "latest" "[I"] ++ wsX00)
def wsX1_valueAt : List Cond := .code yX1_valueAt cX1_valueAt 2 (some .int) :: ([])
def wsJ7_fill_53178 : List Cond := .code yJ7_fill_53178 cJ7_fill_53178 4 none :: ([])
def wsX0_kindOf : List Cond := .code yX0_kindOf cX0_kindOf 6 (some .int) :: ([.fieldLink RX0 31 "ForkDesk$ForkCounter" "latest" "[I", .fieldLink RX0 19 "ForkDesk$ForkCounter" "upperHalf" "[I", .fieldLink RX0 22 "ForkDesk$ForkCounter" "before" "[I"] ++ wsX00)
def wsX0_countLevel : List Cond := .code yX0_countLevel cX0_countLevel 7 (some .int) :: ([.fieldLink RX0 31 "ForkDesk$ForkCounter" "latest" "[I", .fieldLink RX0 15 "ForkDesk$ForkCounter" "kinds" "[I", .methodLink RX0 42 yJ7_fill_53178, .static yJ7_fill_53178, .initialized RJ7, .code yJ7_fill_53178 cJ7_fill_53178 4 none, .methodLink RX0 48 yX0_kindOf, .instanceMethod yX0_kindOf, .selects RX0 yX0_kindOf yX0_kindOf, .initialized RX0, .code yX0_kindOf cX0_kindOf 6 (some .int), .fieldLink RX0 19 "ForkDesk$ForkCounter" "upperHalf" "[I", .fieldLink RX0 22 "ForkDesk$ForkCounter" "before" "[I"] ++ wsX00)
def wsX0_count : List Cond := .code yX0_count cX0_count 4 (some .int) :: ([.fieldLink RX0 15 "ForkDesk$ForkCounter" "kinds" "[I", .fieldLink RX0 9 "ForkDesk$ForkCounter" "variables" "I", .static yX1_valueAt, .initialized RX1, .code yX1_valueAt cX1_valueAt 2 (some .int), .methodLink RX0 38 yX0_countLevel, .instanceMethod yX0_countLevel, .selects RX0 yX0_countLevel yX0_countLevel, .initialized RX0, .code yX0_countLevel cX0_countLevel 7 (some .int), .fieldLink RX0 31 "ForkDesk$ForkCounter" "latest" "[I", .methodLink RX0 42 yJ7_fill_53178, .static yJ7_fill_53178, .initialized RJ7, .code yJ7_fill_53178 cJ7_fill_53178 4 none, .methodLink RX0 48 yX0_kindOf, .instanceMethod yX0_kindOf, .selects RX0 yX0_kindOf yX0_kindOf, .code yX0_kindOf cX0_kindOf 6 (some .int), .fieldLink RX0 19 "ForkDesk$ForkCounter" "upperHalf" "[I", .fieldLink RX0 22 "ForkDesk$ForkCounter" "before" "[I"] ++ wsX00)
def wsX1_init_r1 : List Cond := [Cond.methodLink RX1 1 objectInit, Cond.instanceMethod objectInit, Cond.code objectInit ⟨#[0xb1]⟩ 1 none, Cond.methodLink RX1 9 Lib.Math.min.name, Cond.static Lib.Math.min.name, Cond.initialized "java/lang/Math", Cond.code Lib.Math.min.name Lib.Math.min.code 2 (some .int), Cond.methodLink RX1 15 Lib.Math.max.name, Cond.static Lib.Math.max.name, Cond.code Lib.Math.max.name Lib.Math.max.code 2 (some .int), Cond.fieldLink RX1 18 "ForkDesk" "variables" "I", Cond.fieldLink RX1 22 "ForkDesk" "points" "I", Cond.fieldLink RX1 25 "ForkDesk" "words" "I", Cond.fieldLink RX1 28 "ForkDesk" "pointsInWord" "I", Cond.constantLong RX1 31 (-1), Cond.fieldLink RX1 33 "ForkDesk" "allOnes" "J", Cond.classLink RX1 37 "[[J", Cond.arrayClass .long, Cond.fieldLink RX1 39 "ForkDesk" "registers" "[[J", Cond.fieldLink RX1 42 "ForkDesk" "draft" "[J", Cond.fieldLink RX1 46 "ForkDesk" "reached" "[J", Cond.arrayClass .int, Cond.fieldLink RX1 49 "ForkDesk" "tuples" "[I", Cond.classLink RX1 53 RX0]
def wsX1_init_r2 : List Cond := [Cond.instantiable RX0 5, Cond.initialized RX0, Cond.fieldLink RX1 58 "ForkDesk" "forkCounter" "LForkDesk$ForkCounter;", Cond.methodLink RX1 55 yX0_init, Cond.instanceMethod yX0_init, Cond.code yX0_init cX0_init 3 none, Cond.methodLink RX0 3 objectInit, Cond.fieldLink RX0 9 "ForkDesk$ForkCounter" "variables" "I", Cond.fieldLink RX0 15 "ForkDesk$ForkCounter" "kinds" "[I", Cond.fieldLink RX0 19 "ForkDesk$ForkCounter" "upperHalf" "[I", Cond.fieldLink RX0 22 "ForkDesk$ForkCounter" "before" "[I", Cond.methodLink RX0 25 Lib.Math.max.name, Cond.fieldLink RX0 31 "ForkDesk$ForkCounter" "latest" "[I"]
def wsX1_init : List Cond := .code yX1_init cX1_init 2 none :: ((wsX1_init_r1 ++ wsX1_init_r2) ++ wsX10 ++ wsX00)
def wsX1_isRegister : List Cond := .code yX1_isRegister cX1_isRegister 1 (some .boolean) :: ([])
def wsX1_isValue : List Cond := .code yX1_isValue cX1_isValue 1 (some .boolean) :: ([])
def wsJ7_fill_d0a16 : List Cond := .code yJ7_fill_d0a16 cJ7_fill_d0a16 5 none :: ([])
def wsX1_constant : List Cond := .code yX1_constant cX1_constant 3 (some .boolean) :: ([.fieldLink RX1 39 "ForkDesk" "registers" "[[J", .fieldLink RX1 33 "ForkDesk" "allOnes" "J", .methodLink RX1 62 yX1_isRegister, .static yX1_isRegister, .initialized RX1, .code yX1_isRegister cX1_isRegister 1 (some .boolean), .methodLink RX1 66 yX1_isValue, .static yX1_isValue, .code yX1_isValue cX1_isValue 1 (some .boolean), .methodLink RX1 69 yJ7_fill_d0a16, .static yJ7_fill_d0a16, .initialized RJ7, .code yJ7_fill_d0a16 cJ7_fill_d0a16 5 none] ++ wsX10)
def wsX1_isVariable : List Cond := .code yX1_isVariable cX1_isVariable 2 (some .boolean) :: ([.fieldLink RX1 18 "ForkDesk" "variables" "I"] ++ wsX10)
def wsX1_bitOf : List Cond := .code yX1_bitOf cX1_bitOf 2 (some .int) :: ([.fieldLink RX1 18 "ForkDesk" "variables" "I"] ++ wsX10)
def wsX1_pointsWithBit : List Cond := .code yX1_pointsWithBit cX1_pointsWithBit 3 (some .long) :: ([.fieldLink RX1 140 "ForkDesk" "PLACES_WITH_BIT" "[J", .fieldLink RX1 33 "ForkDesk" "allOnes" "J"] ++ wsX10)
def wsX1_variable : List Cond := .code yX1_variable cX1_variable 5 (some .boolean) :: ([.fieldLink RX1 25 "ForkDesk" "words" "I", .fieldLink RX1 39 "ForkDesk" "registers" "[[J", .methodLink RX1 62 yX1_isRegister, .static yX1_isRegister, .initialized RX1, .code yX1_isRegister cX1_isRegister 1 (some .boolean), .methodLink RX1 75 yX1_isVariable, .instanceMethod yX1_isVariable, .selects RX1 yX1_isVariable yX1_isVariable, .code yX1_isVariable cX1_isVariable 2 (some .boolean), .fieldLink RX1 18 "ForkDesk" "variables" "I", .methodLink RX1 78 yX1_bitOf, .instanceMethod yX1_bitOf, .selects RX1 yX1_bitOf yX1_bitOf, .code yX1_bitOf cX1_bitOf 2 (some .int), .methodLink RX1 82 yX1_pointsWithBit, .instanceMethod yX1_pointsWithBit, .selects RX1 yX1_pointsWithBit yX1_pointsWithBit, .code yX1_pointsWithBit cX1_pointsWithBit 3 (some .long), .fieldLink RX1 140 "ForkDesk" "PLACES_WITH_BIT" "[J", .fieldLink RX1 33 "ForkDesk" "allOnes" "J"] ++ wsX10)
def wsX1_combined : List Cond := .code yX1_combined cX1_combined 5 (some .long) :: ([.constantLong RX1 31 (-1)])
def wsX1_combine : List Cond := .code yX1_combine cX1_combine 6 (some .boolean) :: ([.fieldLink RX1 25 "ForkDesk" "words" "I", .fieldLink RX1 39 "ForkDesk" "registers" "[[J", .methodLink RX1 62 yX1_isRegister, .static yX1_isRegister, .initialized RX1, .code yX1_isRegister cX1_isRegister 1 (some .boolean), .methodLink RX1 86 yX1_combined, .static yX1_combined, .code yX1_combined cX1_combined 5 (some .long), .constantLong RX1 31 (-1)] ++ wsX10)
def wsX1_chosen : List Cond := .code yX1_chosen cX1_chosen 6 (some .long) :: ([.constantLong RX1 31 (-1)])
def wsX1_choose : List Cond := .code yX1_choose cX1_choose 6 (some .boolean) :: ([.fieldLink RX1 25 "ForkDesk" "words" "I", .fieldLink RX1 39 "ForkDesk" "registers" "[[J", .methodLink RX1 62 yX1_isRegister, .static yX1_isRegister, .initialized RX1, .code yX1_isRegister cX1_isRegister 1 (some .boolean), .methodLink RX1 90 yX1_chosen, .static yX1_chosen, .code yX1_chosen cX1_chosen 6 (some .long), .constantLong RX1 31 (-1)] ++ wsX10)
def wsX1_acrossBit : List Cond := .code yX1_acrossBit cX1_acrossBit 8 (some .long) :: ([.fieldLink RX1 140 "ForkDesk" "PLACES_WITH_BIT" "[J", .constantLong RX1 31 (-1)])
def wsX1_keepDraft : List Cond := .code yX1_keepDraft cX1_keepDraft 2 none :: ([.fieldLink RX1 42 "ForkDesk" "draft" "[J", .fieldLink RX1 39 "ForkDesk" "registers" "[[J", .fieldLink RX1 25 "ForkDesk" "words" "I", .methodLink RX1 101 arraycopyName, .native arraycopyName, .static arraycopyName, .initialized "java/lang/System"] ++ wsX10)
def wsX1_fix_r1 : List Cond := [Cond.fieldLink RX1 25 "ForkDesk" "words" "I", Cond.fieldLink RX1 39 "ForkDesk" "registers" "[[J", Cond.fieldLink RX1 42 "ForkDesk" "draft" "[J", Cond.methodLink RX1 62 yX1_isRegister, Cond.static yX1_isRegister, Cond.initialized RX1, Cond.code yX1_isRegister cX1_isRegister 1 (some .boolean), Cond.methodLink RX1 75 yX1_isVariable, Cond.instanceMethod yX1_isVariable, Cond.selects RX1 yX1_isVariable yX1_isVariable, Cond.code yX1_isVariable cX1_isVariable 2 (some .boolean), Cond.fieldLink RX1 18 "ForkDesk" "variables" "I", Cond.methodLink RX1 66 yX1_isValue, Cond.static yX1_isValue, Cond.code yX1_isValue cX1_isValue 1 (some .boolean), Cond.methodLink RX1 78 yX1_bitOf, Cond.instanceMethod yX1_bitOf, Cond.selects RX1 yX1_bitOf yX1_bitOf, Cond.code yX1_bitOf cX1_bitOf 2 (some .int), Cond.methodLink RX1 94 yX1_acrossBit, Cond.static yX1_acrossBit, Cond.code yX1_acrossBit cX1_acrossBit 8 (some .long), Cond.fieldLink RX1 140 "ForkDesk" "PLACES_WITH_BIT" "[J", Cond.constantLong RX1 31 (-1)]
def wsX1_fix_r2 : List Cond := [Cond.methodLink RX1 82 yX1_pointsWithBit, Cond.instanceMethod yX1_pointsWithBit, Cond.selects RX1 yX1_pointsWithBit yX1_pointsWithBit, Cond.code yX1_pointsWithBit cX1_pointsWithBit 3 (some .long), Cond.fieldLink RX1 33 "ForkDesk" "allOnes" "J", Cond.methodLink RX1 90 yX1_chosen, Cond.static yX1_chosen, Cond.code yX1_chosen cX1_chosen 6 (some .long), Cond.methodLink RX1 98 yX1_keepDraft, Cond.instanceMethod yX1_keepDraft, Cond.selects RX1 yX1_keepDraft yX1_keepDraft, Cond.code yX1_keepDraft cX1_keepDraft 2 none, Cond.methodLink RX1 101 arraycopyName, Cond.native arraycopyName, Cond.static arraycopyName, Cond.initialized "java/lang/System"]
def wsX1_fix : List Cond := .code yX1_fix cX1_fix 13 (some .boolean) :: ((wsX1_fix_r1 ++ wsX1_fix_r2) ++ wsX10)
def wsX1_spread : List Cond := .code yX1_spread cX1_spread 4 none :: ([.fieldLink RX1 25 "ForkDesk" "words" "I", .methodLink RX1 94 yX1_acrossBit, .static yX1_acrossBit, .initialized RX1, .code yX1_acrossBit cX1_acrossBit 8 (some .long), .fieldLink RX1 140 "ForkDesk" "PLACES_WITH_BIT" "[J", .constantLong RX1 31 (-1)] ++ wsX10)
def wsX1_exists_r1 : List Cond := [Cond.fieldLink RX1 39 "ForkDesk" "registers" "[[J", Cond.fieldLink RX1 42 "ForkDesk" "draft" "[J", Cond.fieldLink RX1 25 "ForkDesk" "words" "I", Cond.methodLink RX1 101 arraycopyName, Cond.native arraycopyName, Cond.static arraycopyName, Cond.initialized "java/lang/System", Cond.methodLink RX1 62 yX1_isRegister, Cond.static yX1_isRegister, Cond.initialized RX1, Cond.code yX1_isRegister cX1_isRegister 1 (some .boolean), Cond.methodLink RX1 75 yX1_isVariable, Cond.instanceMethod yX1_isVariable, Cond.selects RX1 yX1_isVariable yX1_isVariable, Cond.code yX1_isVariable cX1_isVariable 2 (some .boolean), Cond.fieldLink RX1 18 "ForkDesk" "variables" "I", Cond.methodLink RX1 78 yX1_bitOf, Cond.instanceMethod yX1_bitOf, Cond.selects RX1 yX1_bitOf yX1_bitOf, Cond.code yX1_bitOf cX1_bitOf 2 (some .int), Cond.methodLink RX1 107 yX1_spread, Cond.instanceMethod yX1_spread, Cond.selects RX1 yX1_spread yX1_spread, Cond.code yX1_spread cX1_spread 4 none]
def wsX1_exists_r2 : List Cond := [Cond.methodLink RX1 94 yX1_acrossBit, Cond.static yX1_acrossBit, Cond.code yX1_acrossBit cX1_acrossBit 8 (some .long), Cond.fieldLink RX1 140 "ForkDesk" "PLACES_WITH_BIT" "[J", Cond.constantLong RX1 31 (-1), Cond.methodLink RX1 98 yX1_keepDraft, Cond.instanceMethod yX1_keepDraft, Cond.selects RX1 yX1_keepDraft yX1_keepDraft, Cond.code yX1_keepDraft cX1_keepDraft 2 none]
def wsX1_exists : List Cond := .code yX1_exists cX1_exists 6 (some .boolean) :: ((wsX1_exists_r1 ++ wsX1_exists_r2) ++ wsX10)
def wsX1_areRegisters : List Cond := .code yX1_areRegisters cX1_areRegisters 2 (some .boolean) :: ([])
def wsX1_readTuples : List Cond := .code yX1_readTuples cX1_readTuples 8 none :: ([.fieldLink RX1 49 "ForkDesk" "tuples" "[I", .fieldLink RX1 39 "ForkDesk" "registers" "[[J", .fieldLink RX1 28 "ForkDesk" "pointsInWord" "I", .methodLink RX1 143 yJ7_fill_53178, .static yJ7_fill_53178, .initialized RJ7, .code yJ7_fill_53178 cJ7_fill_53178 4 none] ++ wsX10)
def wsX1_substitute_r1 : List Cond := [Cond.fieldLink RX1 18 "ForkDesk" "variables" "I", Cond.fieldLink RX1 25 "ForkDesk" "words" "I", Cond.fieldLink RX1 28 "ForkDesk" "pointsInWord" "I", Cond.fieldLink RX1 39 "ForkDesk" "registers" "[[J", Cond.fieldLink RX1 49 "ForkDesk" "tuples" "[I", Cond.fieldLink RX1 42 "ForkDesk" "draft" "[J", Cond.methodLink RX1 62 yX1_isRegister, Cond.static yX1_isRegister, Cond.initialized RX1, Cond.code yX1_isRegister cX1_isRegister 1 (some .boolean), Cond.methodLink RX1 111 yX1_areRegisters, Cond.static yX1_areRegisters, Cond.code yX1_areRegisters cX1_areRegisters 2 (some .boolean), Cond.methodLink RX1 115 yX1_readTuples, Cond.instanceMethod yX1_readTuples, Cond.selects RX1 yX1_readTuples yX1_readTuples, Cond.code yX1_readTuples cX1_readTuples 8 none, Cond.methodLink RX1 143 yJ7_fill_53178, Cond.static yJ7_fill_53178, Cond.initialized RJ7, Cond.code yJ7_fill_53178 cJ7_fill_53178 4 none, Cond.methodLink RX1 119 yX1_valueAt, Cond.static yX1_valueAt, Cond.code yX1_valueAt cX1_valueAt 2 (some .int)]
def wsX1_substitute_r2 : List Cond := [Cond.methodLink RX1 98 yX1_keepDraft, Cond.instanceMethod yX1_keepDraft, Cond.selects RX1 yX1_keepDraft yX1_keepDraft, Cond.code yX1_keepDraft cX1_keepDraft 2 none, Cond.methodLink RX1 101 arraycopyName, Cond.native arraycopyName, Cond.static arraycopyName, Cond.initialized "java/lang/System"]
def wsX1_substitute : List Cond := .code yX1_substitute cX1_substitute 8 (some .boolean) :: ((wsX1_substitute_r1 ++ wsX1_substitute_r2) ++ wsX10)
def wsX1_nearest_r1 : List Cond := [Cond.fieldLink RX1 25 "ForkDesk" "words" "I", Cond.fieldLink RX1 46 "ForkDesk" "reached" "[J", Cond.fieldLink RX1 39 "ForkDesk" "registers" "[[J", Cond.fieldLink RX1 42 "ForkDesk" "draft" "[J", Cond.fieldLink RX1 18 "ForkDesk" "variables" "I", Cond.constantLong RX1 31 (-1), Cond.methodLink RX1 62 yX1_isRegister, Cond.static yX1_isRegister, Cond.initialized RX1, Cond.code yX1_isRegister cX1_isRegister 1 (some .boolean), Cond.methodLink RX1 94 yX1_acrossBit, Cond.static yX1_acrossBit, Cond.code yX1_acrossBit cX1_acrossBit 8 (some .long), Cond.fieldLink RX1 140 "ForkDesk" "PLACES_WITH_BIT" "[J", Cond.methodLink RX1 107 yX1_spread, Cond.instanceMethod yX1_spread, Cond.selects RX1 yX1_spread yX1_spread, Cond.code yX1_spread cX1_spread 4 none, Cond.methodLink RX1 98 yX1_keepDraft, Cond.instanceMethod yX1_keepDraft, Cond.selects RX1 yX1_keepDraft yX1_keepDraft, Cond.code yX1_keepDraft cX1_keepDraft 2 none, Cond.methodLink RX1 101 arraycopyName, Cond.native arraycopyName]
def wsX1_nearest_r2 : List Cond := [Cond.static arraycopyName, Cond.initialized "java/lang/System"]
def wsX1_nearest : List Cond := .code yX1_nearest cX1_nearest 6 (some .boolean) :: ((wsX1_nearest_r1 ++ wsX1_nearest_r2) ++ wsX10)
def wsX1_markTuples : List Cond := .code yX1_markTuples cX1_markTuples 6 none :: ([.fieldLink RX1 28 "ForkDesk" "pointsInWord" "I", .fieldLink RX1 49 "ForkDesk" "tuples" "[I", .fieldLink RX1 42 "ForkDesk" "draft" "[J"] ++ wsX10)
def wsX1_image_r1 : List Cond := [Cond.fieldLink RX1 18 "ForkDesk" "variables" "I", Cond.fieldLink RX1 42 "ForkDesk" "draft" "[J", Cond.fieldLink RX1 25 "ForkDesk" "words" "I", Cond.fieldLink RX1 39 "ForkDesk" "registers" "[[J", Cond.methodLink RX1 62 yX1_isRegister, Cond.static yX1_isRegister, Cond.initialized RX1, Cond.code yX1_isRegister cX1_isRegister 1 (some .boolean), Cond.methodLink RX1 75 yX1_isVariable, Cond.instanceMethod yX1_isVariable, Cond.selects RX1 yX1_isVariable yX1_isVariable, Cond.code yX1_isVariable cX1_isVariable 2 (some .boolean), Cond.methodLink RX1 111 yX1_areRegisters, Cond.static yX1_areRegisters, Cond.code yX1_areRegisters cX1_areRegisters 2 (some .boolean), Cond.methodLink RX1 69 yJ7_fill_d0a16, Cond.static yJ7_fill_d0a16, Cond.initialized RJ7, Cond.code yJ7_fill_d0a16 cJ7_fill_d0a16 5 none, Cond.methodLink RX1 115 yX1_readTuples, Cond.instanceMethod yX1_readTuples, Cond.selects RX1 yX1_readTuples yX1_readTuples, Cond.code yX1_readTuples cX1_readTuples 8 none, Cond.fieldLink RX1 49 "ForkDesk" "tuples" "[I"]
def wsX1_image_r2 : List Cond := [Cond.fieldLink RX1 28 "ForkDesk" "pointsInWord" "I", Cond.methodLink RX1 143 yJ7_fill_53178, Cond.static yJ7_fill_53178, Cond.code yJ7_fill_53178 cJ7_fill_53178 4 none, Cond.methodLink RX1 123 yX1_markTuples, Cond.instanceMethod yX1_markTuples, Cond.selects RX1 yX1_markTuples yX1_markTuples, Cond.code yX1_markTuples cX1_markTuples 6 none, Cond.methodLink RX1 107 yX1_spread, Cond.instanceMethod yX1_spread, Cond.selects RX1 yX1_spread yX1_spread, Cond.code yX1_spread cX1_spread 4 none, Cond.methodLink RX1 94 yX1_acrossBit, Cond.static yX1_acrossBit, Cond.code yX1_acrossBit cX1_acrossBit 8 (some .long), Cond.fieldLink RX1 140 "ForkDesk" "PLACES_WITH_BIT" "[J", Cond.constantLong RX1 31 (-1), Cond.methodLink RX1 98 yX1_keepDraft, Cond.instanceMethod yX1_keepDraft, Cond.selects RX1 yX1_keepDraft yX1_keepDraft, Cond.code yX1_keepDraft cX1_keepDraft 2 none, Cond.methodLink RX1 101 arraycopyName, Cond.native arraycopyName, Cond.static arraycopyName]
def wsX1_image_r3 : List Cond := [Cond.initialized "java/lang/System"]
def wsX1_image : List Cond := .code yX1_image cX1_image 7 (some .boolean) :: ((wsX1_image_r1 ++ (wsX1_image_r2 ++ wsX1_image_r3)) ++ wsX10)
def wsX1_forks_r1 : List Cond := [Cond.fieldLink RX1 58 "ForkDesk" "forkCounter" "LForkDesk$ForkCounter;", Cond.fieldLink RX1 39 "ForkDesk" "registers" "[[J", Cond.methodLink RX1 62 yX1_isRegister, Cond.static yX1_isRegister, Cond.initialized RX1, Cond.code yX1_isRegister cX1_isRegister 1 (some .boolean), Cond.methodLink RX1 127 yX0_count, Cond.instanceMethod yX0_count, Cond.selects RX0 yX0_count yX0_count, Cond.initialized RX0, Cond.code yX0_count cX0_count 4 (some .int), Cond.fieldLink RX0 15 "ForkDesk$ForkCounter" "kinds" "[I", Cond.fieldLink RX0 9 "ForkDesk$ForkCounter" "variables" "I", Cond.static yX1_valueAt, Cond.code yX1_valueAt cX1_valueAt 2 (some .int), Cond.methodLink RX0 38 yX0_countLevel, Cond.instanceMethod yX0_countLevel, Cond.selects RX0 yX0_countLevel yX0_countLevel, Cond.code yX0_countLevel cX0_countLevel 7 (some .int), Cond.fieldLink RX0 31 "ForkDesk$ForkCounter" "latest" "[I", Cond.methodLink RX0 42 yJ7_fill_53178, Cond.static yJ7_fill_53178, Cond.initialized RJ7, Cond.code yJ7_fill_53178 cJ7_fill_53178 4 none]
def wsX1_forks_r2 : List Cond := [Cond.methodLink RX0 48 yX0_kindOf, Cond.instanceMethod yX0_kindOf, Cond.selects RX0 yX0_kindOf yX0_kindOf, Cond.code yX0_kindOf cX0_kindOf 6 (some .int), Cond.fieldLink RX0 19 "ForkDesk$ForkCounter" "upperHalf" "[I", Cond.fieldLink RX0 22 "ForkDesk$ForkCounter" "before" "[I"]
def wsX1_forks : List Cond := .code yX1_forks cX1_forks 2 (some .int) :: ((wsX1_forks_r1 ++ wsX1_forks_r2) ++ wsX10 ++ wsX00)
def wsJ13_bitCount_95d88 : List Cond := .code yJ13_bitCount_95d88 cJ13_bitCount_95d88 2 (some .int) :: ([.constantLong RJ13 314 (6148914691236517205), .constantLong RJ13 316 (3689348814741910323), .constantLong RJ13 318 (1085102592571150095)])
def wsX1_ones : List Cond := .code yX1_ones cX1_ones 4 (some .int) :: ([.fieldLink RX1 25 "ForkDesk" "words" "I", .fieldLink RX1 39 "ForkDesk" "registers" "[[J", .methodLink RX1 62 yX1_isRegister, .static yX1_isRegister, .initialized RX1, .code yX1_isRegister cX1_isRegister 1 (some .boolean), .methodLink RX1 131 yJ13_bitCount_95d88, .static yJ13_bitCount_95d88, .initialized RJ13, .code yJ13_bitCount_95d88 cJ13_bitCount_95d88 2 (some .int), .constantLong RJ13 314 (6148914691236517205), .constantLong RJ13 316 (3689348814741910323), .constantLong RJ13 318 (1085102592571150095)] ++ wsX10)
def wsX1_lowestPlace : List Cond := .code yX1_lowestPlace cX1_lowestPlace 2 (some .int) :: ([.methodLink RX1 131 yJ13_bitCount_95d88, .static yJ13_bitCount_95d88, .initialized RJ13, .code yJ13_bitCount_95d88 cJ13_bitCount_95d88 2 (some .int), .constantLong RJ13 314 (6148914691236517205), .constantLong RJ13 316 (3689348814741910323), .constantLong RJ13 318 (1085102592571150095)])
def wsX1_least : List Cond := .code yX1_least cX1_least 5 (some .int) :: ([.fieldLink RX1 25 "ForkDesk" "words" "I", .fieldLink RX1 39 "ForkDesk" "registers" "[[J", .methodLink RX1 62 yX1_isRegister, .static yX1_isRegister, .initialized RX1, .code yX1_isRegister cX1_isRegister 1 (some .boolean), .methodLink RX1 137 yX1_lowestPlace, .static yX1_lowestPlace, .code yX1_lowestPlace cX1_lowestPlace 2 (some .int), .methodLink RX1 131 yJ13_bitCount_95d88, .static yJ13_bitCount_95d88, .initialized RJ13, .code yJ13_bitCount_95d88 cJ13_bitCount_95d88 2 (some .int), .constantLong RJ13 314 (6148914691236517205), .constantLong RJ13 316 (3689348814741910323), .constantLong RJ13 318 (1085102592571150095)] ++ wsX10)
def wsX1_at : List Cond := .code yX1_at cX1_at 3 (some .int) :: ([.fieldLink RX1 22 "ForkDesk" "points" "I", .fieldLink RX1 39 "ForkDesk" "registers" "[[J", .methodLink RX1 62 yX1_isRegister, .static yX1_isRegister, .initialized RX1, .code yX1_isRegister cX1_isRegister 1 (some .boolean), .methodLink RX1 119 yX1_valueAt, .static yX1_valueAt, .code yX1_valueAt cX1_valueAt 2 (some .int)] ++ wsX10)
def wsX1_same : List Cond := .code yX1_same cX1_same 4 (some .boolean) :: ([.fieldLink RX1 25 "ForkDesk" "words" "I", .fieldLink RX1 39 "ForkDesk" "registers" "[[J", .methodLink RX1 62 yX1_isRegister, .static yX1_isRegister, .initialized RX1, .code yX1_isRegister cX1_isRegister 1 (some .boolean)] ++ wsX10)
def wsJ9_max_7cf53 : List Cond := .code yJ9_max_7cf53 cJ9_max_7cf53 2 (some .int) :: ([])
def wsJ9_min_7cf53 : List Cond := .code yJ9_min_7cf53 cJ9_min_7cf53 2 (some .int) :: ([])
def wsL_cell : List Cond := .code yL_cell cL_cell 2 (some .int) :: ([])
def RX2 : String := "ForkDeskModel"
def TX2 : u_T := fun k => match k with
  | 0 => ("ForkDeskModel", "thrown", "I", false)
  | 1 => ("ForkDeskModel", "n", "I", true)
  | 2 => ("ForkDeskModel", "points", "I", true)
  | 3 => ("ForkDeskModel", "rows", "[Z", true)
  | 4 => ("ForkDeskModel", "made", "[Z", true)
  | _ => ("ForkDeskModel", "parts", "[I", true)
def tyX2 : Nat → FieldType := fun k => match k with
  | 0 => .int
  | 1 => .int
  | 2 => .int
  | 3 => .array .boolean
  | 4 => .array .boolean
  | _ => .array .int
abbrev wsX20 : List Cond := u_ws RX2 TX2 6
theorem nmX2 : ∀ a, a < 6 → ∀ b, b < 6 → a ≠ b → (TX2 a).2.1 ≠ (TX2 b).2.1 := by decide +kernel
theorem tyX2_ok : ∀ k, k < 6 → parseFieldDescriptor (TX2 k).2.2.1 = some (tyX2 k) := by decide +kernel
abbrev vwCl : List vw_C := [(RX0, TX0, 5), (RX1, TX1, 10), (RX2, TX2, 6)]
set_option maxRecDepth 20000 in
theorem ggX0_count_X1_valueAt : GoodIn wsX0_count wsX1_valueAt := goodIn_r _ [5] (by decide +kernel) (by decide +kernel)
set_option maxRecDepth 20000 in
theorem gX0_count_X1_valueAt_n34 : GoodIn wsX0_count (wsX1_valueAt) := ggX0_count_X1_valueAt
set_option maxRecDepth 20000 in
theorem ggX0_count_X0_countLevel : GoodIn wsX0_count wsX0_countLevel := goodIn_r _ [10, 11, 1, 12, 13, 14, 15, 16, 17, 18, 9, 19, 20, 21, 22, 23, 24, 25, 26] (by decide +kernel) (by decide +kernel)
set_option maxRecDepth 20000 in
theorem gX0_count_X0_countLevel : GoodIn wsX0_count (wsV RX0 38 RX0 yX0_countLevel wsX0_countLevel) := goodIn_app (goodIn_of _ (by decide +kernel)) ggX0_count_X0_countLevel
set_option maxRecDepth 20000 in
theorem ggX0_countLevel_J7_fill_53178 : GoodIn wsX0_countLevel wsJ7_fill_53178 := goodIn_r _ [6] (by decide +kernel) (by decide +kernel)
set_option maxRecDepth 20000 in
theorem gX0_countLevel_J7_fill_53178 : GoodIn wsX0_countLevel (va_wsS RX0 42 yJ7_fill_53178 wsJ7_fill_53178) := goodIn_app (goodIn_of _ (by decide +kernel)) ggX0_countLevel_J7_fill_53178
set_option maxRecDepth 20000 in
theorem ggX0_countLevel_X0_kindOf : GoodIn wsX0_countLevel wsX0_kindOf := goodIn_r _ [11, 1, 12, 13, 14, 15, 16, 17, 18] (by decide +kernel) (by decide +kernel)
set_option maxRecDepth 20000 in
theorem gX0_countLevel_X0_kindOf : GoodIn wsX0_countLevel (wsV RX0 48 RX0 yX0_kindOf wsX0_kindOf) := goodIn_app (goodIn_of _ (by decide +kernel)) ggX0_countLevel_X0_kindOf
set_option maxRecDepth 20000 in
theorem ggX1_init_X0_init : GoodIn wsX1_init wsX0_init := goodIn_r _ [30, 31, 2, 3, 32, 22, 33, 34, 35, 36, 9, 6, 10, 37, 48, 49, 50, 51, 52] (by decide +kernel) (by decide +kernel)
set_option maxRecDepth 20000 in
theorem gX1_init_X0_init : GoodIn wsX1_init (wsX0_init) := ggX1_init_X0_init
set_option maxRecDepth 20000 in
theorem ggX1_constant_X1_isRegister : GoodIn wsX1_constant wsX1_isRegister := goodIn_r _ [6] (by decide +kernel) (by decide +kernel)
set_option maxRecDepth 20000 in
theorem gX1_constant_X1_isRegister : GoodIn wsX1_constant (va_wsS RX1 62 yX1_isRegister wsX1_isRegister) := goodIn_app (goodIn_of _ (by decide +kernel)) ggX1_constant_X1_isRegister
set_option maxRecDepth 20000 in
theorem ggX1_constant_X1_isValue : GoodIn wsX1_constant wsX1_isValue := goodIn_r _ [9] (by decide +kernel) (by decide +kernel)
set_option maxRecDepth 20000 in
theorem gX1_constant_X1_isValue : GoodIn wsX1_constant (va_wsS RX1 66 yX1_isValue wsX1_isValue) := goodIn_app (goodIn_of _ (by decide +kernel)) ggX1_constant_X1_isValue
set_option maxRecDepth 20000 in
theorem ggX1_constant_J7_fill_d0a16 : GoodIn wsX1_constant wsJ7_fill_d0a16 := goodIn_r _ [13] (by decide +kernel) (by decide +kernel)
set_option maxRecDepth 20000 in
theorem gX1_constant_J7_fill_d0a16 : GoodIn wsX1_constant (va_wsS RX1 69 yJ7_fill_d0a16 wsJ7_fill_d0a16) := goodIn_app (goodIn_of _ (by decide +kernel)) ggX1_constant_J7_fill_d0a16
set_option maxRecDepth 20000 in
theorem ggX1_variable_X1_isRegister : GoodIn wsX1_variable wsX1_isRegister := goodIn_r _ [6] (by decide +kernel) (by decide +kernel)
set_option maxRecDepth 20000 in
theorem gX1_variable_X1_isRegister : GoodIn wsX1_variable (va_wsS RX1 62 yX1_isRegister wsX1_isRegister) := goodIn_app (goodIn_of _ (by decide +kernel)) ggX1_variable_X1_isRegister
set_option maxRecDepth 20000 in
theorem ggX1_variable_X1_isVariable : GoodIn wsX1_variable wsX1_isVariable := goodIn_r _ [10, 11, 22, 23, 24, 25, 26, 27, 28, 29, 30, 31] (by decide +kernel) (by decide +kernel)
set_option maxRecDepth 20000 in
theorem gX1_variable_X1_isVariable : GoodIn wsX1_variable (wsV RX1 75 RX1 yX1_isVariable wsX1_isVariable) := goodIn_app (goodIn_of _ (by decide +kernel)) ggX1_variable_X1_isVariable
set_option maxRecDepth 20000 in
theorem ggX1_variable_X1_bitOf : GoodIn wsX1_variable wsX1_bitOf := goodIn_r _ [15, 11, 22, 23, 24, 25, 26, 27, 28, 29, 30, 31] (by decide +kernel) (by decide +kernel)
set_option maxRecDepth 20000 in
theorem gX1_variable_X1_bitOf : GoodIn wsX1_variable (wsV RX1 78 RX1 yX1_bitOf wsX1_bitOf) := goodIn_app (goodIn_of _ (by decide +kernel)) ggX1_variable_X1_bitOf
set_option maxRecDepth 20000 in
theorem ggX1_variable_X1_pointsWithBit : GoodIn wsX1_variable wsX1_pointsWithBit := goodIn_r _ [19, 20, 21, 22, 23, 24, 25, 26, 27, 28, 29, 30, 31] (by decide +kernel) (by decide +kernel)
set_option maxRecDepth 20000 in
theorem gX1_variable_X1_pointsWithBit : GoodIn wsX1_variable (wsV RX1 82 RX1 yX1_pointsWithBit wsX1_pointsWithBit) := goodIn_app (goodIn_of _ (by decide +kernel)) ggX1_variable_X1_pointsWithBit
set_option maxRecDepth 20000 in
theorem ggX1_combine_X1_isRegister : GoodIn wsX1_combine wsX1_isRegister := goodIn_r _ [6] (by decide +kernel) (by decide +kernel)
set_option maxRecDepth 20000 in
theorem gX1_combine_X1_isRegister : GoodIn wsX1_combine (va_wsS RX1 62 yX1_isRegister wsX1_isRegister) := goodIn_app (goodIn_of _ (by decide +kernel)) ggX1_combine_X1_isRegister
set_option maxRecDepth 20000 in
theorem ggX1_combine_X1_combined : GoodIn wsX1_combine wsX1_combined := goodIn_r _ [9, 10] (by decide +kernel) (by decide +kernel)
set_option maxRecDepth 20000 in
theorem gX1_combine_X1_combined : GoodIn wsX1_combine (va_wsS RX1 86 yX1_combined wsX1_combined) := goodIn_app (goodIn_of _ (by decide +kernel)) ggX1_combine_X1_combined
set_option maxRecDepth 20000 in
theorem ggX1_choose_X1_isRegister : GoodIn wsX1_choose wsX1_isRegister := goodIn_r _ [6] (by decide +kernel) (by decide +kernel)
set_option maxRecDepth 20000 in
theorem gX1_choose_X1_isRegister : GoodIn wsX1_choose (va_wsS RX1 62 yX1_isRegister wsX1_isRegister) := goodIn_app (goodIn_of _ (by decide +kernel)) ggX1_choose_X1_isRegister
set_option maxRecDepth 20000 in
theorem ggX1_choose_X1_chosen : GoodIn wsX1_choose wsX1_chosen := goodIn_r _ [9, 10] (by decide +kernel) (by decide +kernel)
set_option maxRecDepth 20000 in
theorem gX1_choose_X1_chosen : GoodIn wsX1_choose (va_wsS RX1 90 yX1_chosen wsX1_chosen) := goodIn_app (goodIn_of _ (by decide +kernel)) ggX1_choose_X1_chosen
set_option maxRecDepth 20000 in
theorem ggX1_fix_X1_isRegister : GoodIn wsX1_fix wsX1_isRegister := goodIn_r _ [7] (by decide +kernel) (by decide +kernel)
set_option maxRecDepth 20000 in
theorem gX1_fix_X1_isRegister : GoodIn wsX1_fix (va_wsS RX1 62 yX1_isRegister wsX1_isRegister) := goodIn_app (goodIn_of _ (by decide +kernel)) ggX1_fix_X1_isRegister
set_option maxRecDepth 20000 in
theorem ggX1_fix_X1_isVariable : GoodIn wsX1_fix wsX1_isVariable := goodIn_r _ [11, 12, 41, 42, 43, 44, 45, 46, 47, 48, 49, 50] (by decide +kernel) (by decide +kernel)
set_option maxRecDepth 20000 in
theorem gX1_fix_X1_isVariable : GoodIn wsX1_fix (wsV RX1 75 RX1 yX1_isVariable wsX1_isVariable) := goodIn_app (goodIn_of _ (by decide +kernel)) ggX1_fix_X1_isVariable
set_option maxRecDepth 20000 in
theorem ggX1_fix_X1_isValue : GoodIn wsX1_fix wsX1_isValue := goodIn_r _ [15] (by decide +kernel) (by decide +kernel)
set_option maxRecDepth 20000 in
theorem gX1_fix_X1_isValue : GoodIn wsX1_fix (va_wsS RX1 66 yX1_isValue wsX1_isValue) := goodIn_app (goodIn_of _ (by decide +kernel)) ggX1_fix_X1_isValue
set_option maxRecDepth 20000 in
theorem ggX1_fix_X1_bitOf : GoodIn wsX1_fix wsX1_bitOf := goodIn_r _ [19, 12, 41, 42, 43, 44, 45, 46, 47, 48, 49, 50] (by decide +kernel) (by decide +kernel)
set_option maxRecDepth 20000 in
theorem gX1_fix_X1_bitOf : GoodIn wsX1_fix (wsV RX1 78 RX1 yX1_bitOf wsX1_bitOf) := goodIn_app (goodIn_of _ (by decide +kernel)) ggX1_fix_X1_bitOf
set_option maxRecDepth 20000 in
theorem ggX1_fix_X1_acrossBit : GoodIn wsX1_fix wsX1_acrossBit := goodIn_r _ [22, 23, 24] (by decide +kernel) (by decide +kernel)
set_option maxRecDepth 20000 in
theorem gX1_fix_X1_acrossBit : GoodIn wsX1_fix (va_wsS RX1 94 yX1_acrossBit wsX1_acrossBit) := goodIn_app (goodIn_of _ (by decide +kernel)) ggX1_fix_X1_acrossBit
set_option maxRecDepth 20000 in
theorem ggX1_fix_X1_pointsWithBit : GoodIn wsX1_fix wsX1_pointsWithBit := goodIn_r _ [28, 23, 29, 41, 42, 43, 44, 45, 46, 47, 48, 49, 50] (by decide +kernel) (by decide +kernel)
set_option maxRecDepth 20000 in
theorem gX1_fix_X1_pointsWithBit : GoodIn wsX1_fix (wsV RX1 82 RX1 yX1_pointsWithBit wsX1_pointsWithBit) := goodIn_app (goodIn_of _ (by decide +kernel)) ggX1_fix_X1_pointsWithBit
set_option maxRecDepth 20000 in
theorem ggX1_fix_X1_chosen : GoodIn wsX1_fix wsX1_chosen := goodIn_r _ [32, 24] (by decide +kernel) (by decide +kernel)
set_option maxRecDepth 20000 in
theorem gX1_fix_X1_chosen : GoodIn wsX1_fix (va_wsS RX1 90 yX1_chosen wsX1_chosen) := goodIn_app (goodIn_of _ (by decide +kernel)) ggX1_fix_X1_chosen
set_option maxRecDepth 20000 in
theorem ggX1_fix_X1_keepDraft : GoodIn wsX1_fix wsX1_keepDraft := goodIn_r _ [36, 3, 2, 1, 37, 38, 39, 40, 41, 42, 43, 44, 45, 46, 47, 48, 49, 50] (by decide +kernel) (by decide +kernel)
set_option maxRecDepth 20000 in
theorem gX1_fix_X1_keepDraft : GoodIn wsX1_fix (wsV RX1 98 RX1 yX1_keepDraft wsX1_keepDraft) := goodIn_app (goodIn_of _ (by decide +kernel)) ggX1_fix_X1_keepDraft
set_option maxRecDepth 20000 in
theorem ggX1_exists_X1_isRegister : GoodIn wsX1_exists wsX1_isRegister := goodIn_r _ [11] (by decide +kernel) (by decide +kernel)
set_option maxRecDepth 20000 in
theorem gX1_exists_X1_isRegister : GoodIn wsX1_exists (va_wsS RX1 62 yX1_isRegister wsX1_isRegister) := goodIn_app (goodIn_of _ (by decide +kernel)) ggX1_exists_X1_isRegister
set_option maxRecDepth 20000 in
theorem ggX1_exists_X1_isVariable : GoodIn wsX1_exists wsX1_isVariable := goodIn_r _ [15, 16, 34, 35, 36, 37, 38, 39, 40, 41, 42, 43] (by decide +kernel) (by decide +kernel)
set_option maxRecDepth 20000 in
theorem gX1_exists_X1_isVariable : GoodIn wsX1_exists (wsV RX1 75 RX1 yX1_isVariable wsX1_isVariable) := goodIn_app (goodIn_of _ (by decide +kernel)) ggX1_exists_X1_isVariable
set_option maxRecDepth 20000 in
theorem ggX1_exists_X1_bitOf : GoodIn wsX1_exists wsX1_bitOf := goodIn_r _ [20, 16, 34, 35, 36, 37, 38, 39, 40, 41, 42, 43] (by decide +kernel) (by decide +kernel)
set_option maxRecDepth 20000 in
theorem gX1_exists_X1_bitOf : GoodIn wsX1_exists (wsV RX1 78 RX1 yX1_bitOf wsX1_bitOf) := goodIn_app (goodIn_of _ (by decide +kernel)) ggX1_exists_X1_bitOf
set_option maxRecDepth 20000 in
theorem ggX1_exists_X1_spread : GoodIn wsX1_exists wsX1_spread := goodIn_r _ [24, 3, 25, 26, 10, 27, 28, 29, 34, 35, 36, 37, 38, 39, 40, 41, 42, 43] (by decide +kernel) (by decide +kernel)
set_option maxRecDepth 20000 in
theorem gX1_exists_X1_spread : GoodIn wsX1_exists (wsV RX1 107 RX1 yX1_spread wsX1_spread) := goodIn_app (goodIn_of _ (by decide +kernel)) ggX1_exists_X1_spread
set_option maxRecDepth 20000 in
theorem ggX1_exists_X1_keepDraft : GoodIn wsX1_exists wsX1_keepDraft := goodIn_r _ [33, 2, 1, 3, 4, 5, 6, 7, 34, 35, 36, 37, 38, 39, 40, 41, 42, 43] (by decide +kernel) (by decide +kernel)
set_option maxRecDepth 20000 in
theorem gX1_exists_X1_keepDraft : GoodIn wsX1_exists (wsV RX1 98 RX1 yX1_keepDraft wsX1_keepDraft) := goodIn_app (goodIn_of _ (by decide +kernel)) ggX1_exists_X1_keepDraft
set_option maxRecDepth 20000 in
theorem ggX1_substitute_X1_isRegister : GoodIn wsX1_substitute wsX1_isRegister := goodIn_r _ [10] (by decide +kernel) (by decide +kernel)
set_option maxRecDepth 20000 in
theorem gX1_substitute_X1_isRegister : GoodIn wsX1_substitute (va_wsS RX1 62 yX1_isRegister wsX1_isRegister) := goodIn_app (goodIn_of _ (by decide +kernel)) ggX1_substitute_X1_isRegister
set_option maxRecDepth 20000 in
theorem ggX1_substitute_X1_areRegisters : GoodIn wsX1_substitute wsX1_areRegisters := goodIn_r _ [13] (by decide +kernel) (by decide +kernel)
set_option maxRecDepth 20000 in
theorem gX1_substitute_X1_areRegisters : GoodIn wsX1_substitute (va_wsS RX1 111 yX1_areRegisters wsX1_areRegisters) := goodIn_app (goodIn_of _ (by decide +kernel)) ggX1_substitute_X1_areRegisters
set_option maxRecDepth 20000 in
theorem ggX1_substitute_X1_readTuples : GoodIn wsX1_substitute wsX1_readTuples := goodIn_r _ [17, 5, 4, 3, 18, 19, 20, 21, 33, 34, 35, 36, 37, 38, 39, 40, 41, 42] (by decide +kernel) (by decide +kernel)
set_option maxRecDepth 20000 in
theorem gX1_substitute_X1_readTuples : GoodIn wsX1_substitute (wsV RX1 115 RX1 yX1_readTuples wsX1_readTuples) := goodIn_app (goodIn_of _ (by decide +kernel)) ggX1_substitute_X1_readTuples
set_option maxRecDepth 20000 in
theorem ggX1_substitute_X1_valueAt : GoodIn wsX1_substitute wsX1_valueAt := goodIn_r _ [24] (by decide +kernel) (by decide +kernel)
set_option maxRecDepth 20000 in
theorem gX1_substitute_X1_valueAt : GoodIn wsX1_substitute (va_wsS RX1 119 yX1_valueAt wsX1_valueAt) := goodIn_app (goodIn_of _ (by decide +kernel)) ggX1_substitute_X1_valueAt
set_option maxRecDepth 20000 in
theorem ggX1_substitute_X1_keepDraft : GoodIn wsX1_substitute wsX1_keepDraft := goodIn_r _ [28, 6, 4, 2, 29, 30, 31, 32, 33, 34, 35, 36, 37, 38, 39, 40, 41, 42] (by decide +kernel) (by decide +kernel)
set_option maxRecDepth 20000 in
theorem gX1_substitute_X1_keepDraft : GoodIn wsX1_substitute (wsV RX1 98 RX1 yX1_keepDraft wsX1_keepDraft) := goodIn_app (goodIn_of _ (by decide +kernel)) ggX1_substitute_X1_keepDraft
set_option maxRecDepth 20000 in
theorem ggX1_nearest_X1_isRegister : GoodIn wsX1_nearest wsX1_isRegister := goodIn_r _ [10] (by decide +kernel) (by decide +kernel)
set_option maxRecDepth 20000 in
theorem gX1_nearest_X1_isRegister : GoodIn wsX1_nearest (va_wsS RX1 62 yX1_isRegister wsX1_isRegister) := goodIn_app (goodIn_of _ (by decide +kernel)) ggX1_nearest_X1_isRegister
set_option maxRecDepth 20000 in
theorem ggX1_nearest_X1_acrossBit : GoodIn wsX1_nearest wsX1_acrossBit := goodIn_r _ [13, 14, 6] (by decide +kernel) (by decide +kernel)
set_option maxRecDepth 20000 in
theorem gX1_nearest_X1_acrossBit : GoodIn wsX1_nearest (va_wsS RX1 94 yX1_acrossBit wsX1_acrossBit) := goodIn_app (goodIn_of _ (by decide +kernel)) ggX1_nearest_X1_acrossBit
set_option maxRecDepth 20000 in
theorem ggX1_nearest_X1_spread : GoodIn wsX1_nearest wsX1_spread := goodIn_r _ [18, 1, 11, 12, 9, 13, 14, 6, 27, 28, 29, 30, 31, 32, 33, 34, 35, 36] (by decide +kernel) (by decide +kernel)
set_option maxRecDepth 20000 in
theorem gX1_nearest_X1_spread : GoodIn wsX1_nearest (wsV RX1 107 RX1 yX1_spread wsX1_spread) := goodIn_app (goodIn_of _ (by decide +kernel)) ggX1_nearest_X1_spread
set_option maxRecDepth 20000 in
theorem ggX1_nearest_X1_keepDraft : GoodIn wsX1_nearest wsX1_keepDraft := goodIn_r _ [22, 4, 3, 1, 23, 24, 25, 26, 27, 28, 29, 30, 31, 32, 33, 34, 35, 36] (by decide +kernel) (by decide +kernel)
set_option maxRecDepth 20000 in
theorem gX1_nearest_X1_keepDraft : GoodIn wsX1_nearest (wsV RX1 98 RX1 yX1_keepDraft wsX1_keepDraft) := goodIn_app (goodIn_of _ (by decide +kernel)) ggX1_nearest_X1_keepDraft
set_option maxRecDepth 20000 in
theorem ggX1_image_X1_isRegister : GoodIn wsX1_image wsX1_isRegister := goodIn_r _ [8] (by decide +kernel) (by decide +kernel)
set_option maxRecDepth 20000 in
theorem gX1_image_X1_isRegister : GoodIn wsX1_image (va_wsS RX1 62 yX1_isRegister wsX1_isRegister) := goodIn_app (goodIn_of _ (by decide +kernel)) ggX1_image_X1_isRegister
set_option maxRecDepth 20000 in
theorem ggX1_image_X1_isVariable : GoodIn wsX1_image wsX1_isVariable := goodIn_r _ [12, 1, 50, 51, 52, 53, 54, 55, 56, 57, 58, 59] (by decide +kernel) (by decide +kernel)
set_option maxRecDepth 20000 in
theorem gX1_image_X1_isVariable : GoodIn wsX1_image (wsV RX1 75 RX1 yX1_isVariable wsX1_isVariable) := goodIn_app (goodIn_of _ (by decide +kernel)) ggX1_image_X1_isVariable
set_option maxRecDepth 20000 in
theorem ggX1_image_X1_areRegisters : GoodIn wsX1_image wsX1_areRegisters := goodIn_r _ [15] (by decide +kernel) (by decide +kernel)
set_option maxRecDepth 20000 in
theorem gX1_image_X1_areRegisters : GoodIn wsX1_image (va_wsS RX1 111 yX1_areRegisters wsX1_areRegisters) := goodIn_app (goodIn_of _ (by decide +kernel)) ggX1_image_X1_areRegisters
set_option maxRecDepth 20000 in
theorem ggX1_image_J7_fill_d0a16 : GoodIn wsX1_image wsJ7_fill_d0a16 := goodIn_r _ [19] (by decide +kernel) (by decide +kernel)
set_option maxRecDepth 20000 in
theorem gX1_image_J7_fill_d0a16 : GoodIn wsX1_image (va_wsS RX1 69 yJ7_fill_d0a16 wsJ7_fill_d0a16) := goodIn_app (goodIn_of _ (by decide +kernel)) ggX1_image_J7_fill_d0a16
set_option maxRecDepth 20000 in
theorem ggX1_image_X1_readTuples : GoodIn wsX1_image wsX1_readTuples := goodIn_r _ [23, 24, 4, 25, 26, 27, 18, 28, 50, 51, 52, 53, 54, 55, 56, 57, 58, 59] (by decide +kernel) (by decide +kernel)
set_option maxRecDepth 20000 in
theorem gX1_image_X1_readTuples : GoodIn wsX1_image (wsV RX1 115 RX1 yX1_readTuples wsX1_readTuples) := goodIn_app (goodIn_of _ (by decide +kernel)) ggX1_image_X1_readTuples
set_option maxRecDepth 20000 in
theorem ggX1_image_X1_markTuples : GoodIn wsX1_image wsX1_markTuples := goodIn_r _ [32, 25, 24, 2, 50, 51, 52, 53, 54, 55, 56, 57, 58, 59] (by decide +kernel) (by decide +kernel)
set_option maxRecDepth 20000 in
theorem gX1_image_X1_markTuples : GoodIn wsX1_image (wsV RX1 123 RX1 yX1_markTuples wsX1_markTuples) := goodIn_app (goodIn_of _ (by decide +kernel)) ggX1_image_X1_markTuples
set_option maxRecDepth 20000 in
theorem ggX1_image_X1_spread : GoodIn wsX1_image wsX1_spread := goodIn_r _ [36, 3, 37, 38, 7, 39, 40, 41, 50, 51, 52, 53, 54, 55, 56, 57, 58, 59] (by decide +kernel) (by decide +kernel)
set_option maxRecDepth 20000 in
theorem gX1_image_X1_spread : GoodIn wsX1_image (wsV RX1 107 RX1 yX1_spread wsX1_spread) := goodIn_app (goodIn_of _ (by decide +kernel)) ggX1_image_X1_spread
set_option maxRecDepth 20000 in
theorem ggX1_image_X1_keepDraft : GoodIn wsX1_image wsX1_keepDraft := goodIn_r _ [45, 2, 4, 3, 46, 47, 48, 49, 50, 51, 52, 53, 54, 55, 56, 57, 58, 59] (by decide +kernel) (by decide +kernel)
set_option maxRecDepth 20000 in
theorem gX1_image_X1_keepDraft : GoodIn wsX1_image (wsV RX1 98 RX1 yX1_keepDraft wsX1_keepDraft) := goodIn_app (goodIn_of _ (by decide +kernel)) ggX1_image_X1_keepDraft
set_option maxRecDepth 20000 in
theorem ggX1_forks_X1_isRegister : GoodIn wsX1_forks wsX1_isRegister := goodIn_r _ [6] (by decide +kernel) (by decide +kernel)
set_option maxRecDepth 20000 in
theorem gX1_forks_X1_isRegister : GoodIn wsX1_forks (va_wsS RX1 62 yX1_isRegister wsX1_isRegister) := goodIn_app (goodIn_of _ (by decide +kernel)) ggX1_forks_X1_isRegister
set_option maxRecDepth 20000 in
theorem ggX1_forks_X0_count : GoodIn wsX1_forks wsX0_count := goodIn_r _ [11, 12, 13, 14, 5, 15, 16, 17, 18, 10, 19, 20, 21, 22, 23, 24, 25, 26, 27, 28, 29, 30, 41, 42, 43, 44, 45] (by decide +kernel) (by decide +kernel)
set_option maxRecDepth 20000 in
theorem gX1_forks_X0_count : GoodIn wsX1_forks (wsV RX1 127 RX0 yX0_count wsX0_count) := goodIn_app (goodIn_of _ (by decide +kernel)) ggX1_forks_X0_count
set_option maxRecDepth 20000 in
theorem ggX1_ones_X1_isRegister : GoodIn wsX1_ones wsX1_isRegister := goodIn_r _ [6] (by decide +kernel) (by decide +kernel)
set_option maxRecDepth 20000 in
theorem gX1_ones_X1_isRegister : GoodIn wsX1_ones (va_wsS RX1 62 yX1_isRegister wsX1_isRegister) := goodIn_app (goodIn_of _ (by decide +kernel)) ggX1_ones_X1_isRegister
set_option maxRecDepth 20000 in
theorem ggX1_ones_J13_bitCount_95d88 : GoodIn wsX1_ones wsJ13_bitCount_95d88 := goodIn_r _ [10, 11, 12, 13] (by decide +kernel) (by decide +kernel)
set_option maxRecDepth 20000 in
theorem gX1_ones_J13_bitCount_95d88 : GoodIn wsX1_ones (va_wsS RX1 131 yJ13_bitCount_95d88 wsJ13_bitCount_95d88) := goodIn_app (goodIn_of _ (by decide +kernel)) ggX1_ones_J13_bitCount_95d88
set_option maxRecDepth 20000 in
theorem ggX1_least_X1_isRegister : GoodIn wsX1_least wsX1_isRegister := goodIn_r _ [6] (by decide +kernel) (by decide +kernel)
set_option maxRecDepth 20000 in
theorem gX1_least_X1_isRegister : GoodIn wsX1_least (va_wsS RX1 62 yX1_isRegister wsX1_isRegister) := goodIn_app (goodIn_of _ (by decide +kernel)) ggX1_least_X1_isRegister
set_option maxRecDepth 20000 in
theorem ggX1_least_X1_lowestPlace : GoodIn wsX1_least wsX1_lowestPlace := goodIn_r _ [9, 10, 11, 12, 13, 14, 15, 16] (by decide +kernel) (by decide +kernel)
set_option maxRecDepth 20000 in
theorem gX1_least_X1_lowestPlace : GoodIn wsX1_least (va_wsS RX1 137 yX1_lowestPlace wsX1_lowestPlace) := goodIn_app (goodIn_of _ (by decide +kernel)) ggX1_least_X1_lowestPlace
set_option maxRecDepth 20000 in
theorem ggX1_at_X1_isRegister : GoodIn wsX1_at wsX1_isRegister := goodIn_r _ [6] (by decide +kernel) (by decide +kernel)
set_option maxRecDepth 20000 in
theorem gX1_at_X1_isRegister : GoodIn wsX1_at (va_wsS RX1 62 yX1_isRegister wsX1_isRegister) := goodIn_app (goodIn_of _ (by decide +kernel)) ggX1_at_X1_isRegister
set_option maxRecDepth 20000 in
theorem ggX1_at_X1_valueAt : GoodIn wsX1_at wsX1_valueAt := goodIn_r _ [9] (by decide +kernel) (by decide +kernel)
set_option maxRecDepth 20000 in
theorem gX1_at_X1_valueAt : GoodIn wsX1_at (va_wsS RX1 119 yX1_valueAt wsX1_valueAt) := goodIn_app (goodIn_of _ (by decide +kernel)) ggX1_at_X1_valueAt
set_option maxRecDepth 20000 in
theorem ggX1_same_X1_isRegister : GoodIn wsX1_same wsX1_isRegister := goodIn_r _ [6] (by decide +kernel) (by decide +kernel)
set_option maxRecDepth 20000 in
theorem gX1_same_X1_isRegister : GoodIn wsX1_same (va_wsS RX1 62 yX1_isRegister wsX1_isRegister) := goodIn_app (goodIn_of _ (by decide +kernel)) ggX1_same_X1_isRegister
set_option maxRecDepth 20000 in
theorem ggX1_lowestPlace_J13_bitCount_95d88 : GoodIn wsX1_lowestPlace wsJ13_bitCount_95d88 := goodIn_r _ [4, 5, 6, 7] (by decide +kernel) (by decide +kernel)
set_option maxRecDepth 20000 in
theorem gX1_lowestPlace_J13_bitCount_95d88 : GoodIn wsX1_lowestPlace (va_wsS RX1 131 yJ13_bitCount_95d88 wsJ13_bitCount_95d88) := goodIn_app (goodIn_of _ (by decide +kernel)) ggX1_lowestPlace_J13_bitCount_95d88
set_option maxRecDepth 20000 in
theorem ggX1_spread_X1_acrossBit : GoodIn wsX1_spread wsX1_acrossBit := goodIn_r _ [5, 6, 7] (by decide +kernel) (by decide +kernel)
set_option maxRecDepth 20000 in
theorem gX1_spread_X1_acrossBit : GoodIn wsX1_spread (va_wsS RX1 94 yX1_acrossBit wsX1_acrossBit) := goodIn_app (goodIn_of _ (by decide +kernel)) ggX1_spread_X1_acrossBit
set_option maxRecDepth 20000 in
theorem ggX1_readTuples_J7_fill_53178 : GoodIn wsX1_readTuples wsJ7_fill_53178 := goodIn_r _ [7] (by decide +kernel) (by decide +kernel)
set_option maxRecDepth 20000 in
theorem gX1_readTuples_J7_fill_53178 : GoodIn wsX1_readTuples (va_wsS RX1 143 yJ7_fill_53178 wsJ7_fill_53178) := goodIn_app (goodIn_of _ (by decide +kernel)) ggX1_readTuples_J7_fill_53178
end
section
theorem dX0_init_0 : decode cX0_init 0 = .ok (.aload_n 0, 1) := by decide +kernel
theorem dX0_init_1 : decode cX0_init 1 = .ok (.invokespecial 3, 3) := by decide +kernel
theorem dX0_init_4 : decode cX0_init 4 = .ok (.iconst 1, 1) := by decide +kernel
theorem dX0_init_5 : decode cX0_init 5 = .ok (.iload_n 1, 1) := by decide +kernel
theorem dX0_init_6 : decode cX0_init 6 = .ok (.iconst 1, 1) := by decide +kernel
theorem dX0_init_7 : decode cX0_init 7 = .ok (.isub, 1) := by decide +kernel
theorem dX0_init_8 : decode cX0_init 8 = .ok (.ishl, 1) := by decide +kernel
theorem dX0_init_9 : decode cX0_init 9 = .ok (.istore_n 2, 1) := by decide +kernel
theorem dX0_init_10 : decode cX0_init 10 = .ok (.aload_n 0, 1) := by decide +kernel
theorem dX0_init_11 : decode cX0_init 11 = .ok (.iload_n 1, 1) := by decide +kernel
theorem dX0_init_12 : decode cX0_init 12 = .ok (.putfield 9, 3) := by decide +kernel
theorem dX0_init_15 : decode cX0_init 15 = .ok (.aload_n 0, 1) := by decide +kernel
theorem dX0_init_16 : decode cX0_init 16 = .ok (.iconst 2, 1) := by decide +kernel
theorem dX0_init_17 : decode cX0_init 17 = .ok (.iload_n 2, 1) := by decide +kernel
theorem dX0_init_18 : decode cX0_init 18 = .ok (.imul, 1) := by decide +kernel
theorem dX0_init_19 : decode cX0_init 19 = .ok (.newarray .int, 2) := by decide +kernel
theorem dX0_init_21 : decode cX0_init 21 = .ok (.putfield 15, 3) := by decide +kernel
theorem dX0_init_24 : decode cX0_init 24 = .ok (.aload_n 0, 1) := by decide +kernel
theorem dX0_init_25 : decode cX0_init 25 = .ok (.iload_n 2, 1) := by decide +kernel
theorem dX0_init_26 : decode cX0_init 26 = .ok (.newarray .int, 2) := by decide +kernel
theorem dX0_init_28 : decode cX0_init 28 = .ok (.putfield 19, 3) := by decide +kernel
theorem dX0_init_31 : decode cX0_init 31 = .ok (.aload_n 0, 1) := by decide +kernel
theorem dX0_init_32 : decode cX0_init 32 = .ok (.iload_n 2, 1) := by decide +kernel
theorem dX0_init_33 : decode cX0_init 33 = .ok (.newarray .int, 2) := by decide +kernel
theorem dX0_init_35 : decode cX0_init 35 = .ok (.putfield 22, 3) := by decide +kernel
theorem dX0_init_38 : decode cX0_init 38 = .ok (.aload_n 0, 1) := by decide +kernel
theorem dX0_init_39 : decode cX0_init 39 = .ok (.iconst 2, 1) := by decide +kernel
theorem dX0_init_40 : decode cX0_init 40 = .ok (.iload_n 2, 1) := by decide +kernel
theorem dX0_init_41 : decode cX0_init 41 = .ok (.invokestatic 25, 3) := by decide +kernel
theorem dX0_init_44 : decode cX0_init 44 = .ok (.newarray .int, 2) := by decide +kernel
theorem dX0_init_46 : decode cX0_init 46 = .ok (.putfield 31, 3) := by decide +kernel
theorem dX0_init_49 : decode cX0_init 49 = .ok (.return_, 1) := by decide +kernel
theorem dX0_count_0 : decode cX0_count 0 = .ok (.iconst 0, 1) := by decide +kernel
theorem dX0_count_1 : decode cX0_count 1 = .ok (.istore_n 2, 1) := by decide +kernel
theorem dX0_count_2 : decode cX0_count 2 = .ok (.iload_n 2, 1) := by decide +kernel
theorem dX0_count_3 : decode cX0_count 3 = .ok (.aload_n 0, 1) := by decide +kernel
theorem dX0_count_4 : decode cX0_count 4 = .ok (.getfield 15, 3) := by decide +kernel
theorem dX0_count_7 : decode cX0_count 7 = .ok (.arraylength, 1) := by decide +kernel
theorem dX0_count_8 : decode cX0_count 8 = .ok (.if_icmp .ge 20, 3) := by decide +kernel
theorem dX0_count_11 : decode cX0_count 11 = .ok (.aload_n 0, 1) := by decide +kernel
theorem dX0_count_12 : decode cX0_count 12 = .ok (.getfield 15, 3) := by decide +kernel
theorem dX0_count_15 : decode cX0_count 15 = .ok (.iload_n 2, 1) := by decide +kernel
theorem dX0_count_16 : decode cX0_count 16 = .ok (.aload_n 1, 1) := by decide +kernel
theorem dX0_count_17 : decode cX0_count 17 = .ok (.iload_n 2, 1) := by decide +kernel
theorem dX0_count_18 : decode cX0_count 18 = .ok (.invokestatic 34, 3) := by decide +kernel
theorem dX0_count_21 : decode cX0_count 21 = .ok (.iastore, 1) := by decide +kernel
theorem dX0_count_22 : decode cX0_count 22 = .ok (.iinc 2 1, 3) := by decide +kernel
theorem dX0_count_25 : decode cX0_count 25 = .ok (.goto (-23), 3) := by decide +kernel
theorem dX0_count_28 : decode cX0_count 28 = .ok (.iconst 0, 1) := by decide +kernel
theorem dX0_count_29 : decode cX0_count 29 = .ok (.istore_n 2, 1) := by decide +kernel
theorem dX0_count_30 : decode cX0_count 30 = .ok (.aload_n 0, 1) := by decide +kernel
theorem dX0_count_31 : decode cX0_count 31 = .ok (.getfield 9, 3) := by decide +kernel
theorem dX0_count_34 : decode cX0_count 34 = .ok (.istore_n 3, 1) := by decide +kernel
theorem dX0_count_35 : decode cX0_count 35 = .ok (.iload_n 3, 1) := by decide +kernel
theorem dX0_count_36 : decode cX0_count 36 = .ok (.iconst 1, 1) := by decide +kernel
theorem dX0_count_37 : decode cX0_count 37 = .ok (.if_icmp .lt 21, 3) := by decide +kernel
theorem dX0_count_40 : decode cX0_count 40 = .ok (.iload_n 2, 1) := by decide +kernel
theorem dX0_count_41 : decode cX0_count 41 = .ok (.aload_n 0, 1) := by decide +kernel
theorem dX0_count_42 : decode cX0_count 42 = .ok (.iconst 1, 1) := by decide +kernel
theorem dX0_count_43 : decode cX0_count 43 = .ok (.iload_n 3, 1) := by decide +kernel
theorem dX0_count_44 : decode cX0_count 44 = .ok (.iconst 1, 1) := by decide +kernel
theorem dX0_count_45 : decode cX0_count 45 = .ok (.isub, 1) := by decide +kernel
theorem dX0_count_46 : decode cX0_count 46 = .ok (.ishl, 1) := by decide +kernel
theorem dX0_count_47 : decode cX0_count 47 = .ok (.invokevirtual 38, 3) := by decide +kernel
theorem dX0_count_50 : decode cX0_count 50 = .ok (.iadd, 1) := by decide +kernel
theorem dX0_count_51 : decode cX0_count 51 = .ok (.istore_n 2, 1) := by decide +kernel
theorem dX0_count_52 : decode cX0_count 52 = .ok (.iinc 3 (-1), 3) := by decide +kernel
theorem dX0_count_55 : decode cX0_count 55 = .ok (.goto (-20), 3) := by decide +kernel
theorem dX0_count_58 : decode cX0_count 58 = .ok (.iload_n 2, 1) := by decide +kernel
theorem dX0_count_59 : decode cX0_count 59 = .ok (.ireturn, 1) := by decide +kernel
theorem dX0_countLevel_0 : decode cX0_countLevel 0 = .ok (.iconst 0, 1) := by decide +kernel
theorem dX0_countLevel_1 : decode cX0_countLevel 1 = .ok (.istore_n 2, 1) := by decide +kernel
theorem dX0_countLevel_2 : decode cX0_countLevel 2 = .ok (.aload_n 0, 1) := by decide +kernel
theorem dX0_countLevel_3 : decode cX0_countLevel 3 = .ok (.getfield 31, 3) := by decide +kernel
theorem dX0_countLevel_6 : decode cX0_countLevel 6 = .ok (.iconst (-1), 1) := by decide +kernel
theorem dX0_countLevel_7 : decode cX0_countLevel 7 = .ok (.invokestatic 42, 3) := by decide +kernel
theorem dX0_countLevel_10 : decode cX0_countLevel 10 = .ok (.iconst 0, 1) := by decide +kernel
theorem dX0_countLevel_11 : decode cX0_countLevel 11 = .ok (.istore_n 3, 1) := by decide +kernel
theorem dX0_countLevel_12 : decode cX0_countLevel 12 = .ok (.iload_n 3, 1) := by decide +kernel
theorem dX0_countLevel_13 : decode cX0_countLevel 13 = .ok (.iload_n 1, 1) := by decide +kernel
theorem dX0_countLevel_14 : decode cX0_countLevel 14 = .ok (.if_icmp .ge 66, 3) := by decide +kernel
theorem dX0_countLevel_17 : decode cX0_countLevel 17 = .ok (.aload_n 0, 1) := by decide +kernel
theorem dX0_countLevel_18 : decode cX0_countLevel 18 = .ok (.getfield 15, 3) := by decide +kernel
theorem dX0_countLevel_21 : decode cX0_countLevel 21 = .ok (.iconst 2, 1) := by decide +kernel
theorem dX0_countLevel_22 : decode cX0_countLevel 22 = .ok (.iload_n 3, 1) := by decide +kernel
theorem dX0_countLevel_23 : decode cX0_countLevel 23 = .ok (.imul, 1) := by decide +kernel
theorem dX0_countLevel_24 : decode cX0_countLevel 24 = .ok (.iaload, 1) := by decide +kernel
theorem dX0_countLevel_25 : decode cX0_countLevel 25 = .ok (.istore 4, 2) := by decide +kernel
theorem dX0_countLevel_27 : decode cX0_countLevel 27 = .ok (.aload_n 0, 1) := by decide +kernel
theorem dX0_countLevel_28 : decode cX0_countLevel 28 = .ok (.getfield 15, 3) := by decide +kernel
theorem dX0_countLevel_31 : decode cX0_countLevel 31 = .ok (.iconst 2, 1) := by decide +kernel
theorem dX0_countLevel_32 : decode cX0_countLevel 32 = .ok (.iload_n 3, 1) := by decide +kernel
theorem dX0_countLevel_33 : decode cX0_countLevel 33 = .ok (.imul, 1) := by decide +kernel
theorem dX0_countLevel_34 : decode cX0_countLevel 34 = .ok (.iconst 1, 1) := by decide +kernel
theorem dX0_countLevel_35 : decode cX0_countLevel 35 = .ok (.iadd, 1) := by decide +kernel
theorem dX0_countLevel_36 : decode cX0_countLevel 36 = .ok (.iaload, 1) := by decide +kernel
theorem dX0_countLevel_37 : decode cX0_countLevel 37 = .ok (.istore 5, 2) := by decide +kernel
theorem dX0_countLevel_39 : decode cX0_countLevel 39 = .ok (.aload_n 0, 1) := by decide +kernel
theorem dX0_countLevel_40 : decode cX0_countLevel 40 = .ok (.iload_n 3, 1) := by decide +kernel
theorem dX0_countLevel_41 : decode cX0_countLevel 41 = .ok (.iload 4, 2) := by decide +kernel
theorem dX0_countLevel_43 : decode cX0_countLevel 43 = .ok (.iload 5, 2) := by decide +kernel
theorem dX0_countLevel_45 : decode cX0_countLevel 45 = .ok (.invokevirtual 48, 3) := by decide +kernel
theorem dX0_countLevel_48 : decode cX0_countLevel 48 = .ok (.istore 6, 2) := by decide +kernel
theorem dX0_countLevel_50 : decode cX0_countLevel 50 = .ok (.iload 6, 2) := by decide +kernel
theorem dX0_countLevel_52 : decode cX0_countLevel 52 = .ok (.iload_n 3, 1) := by decide +kernel
theorem dX0_countLevel_53 : decode cX0_countLevel 53 = .ok (.if_icmp .ne 13, 3) := by decide +kernel
theorem dX0_countLevel_56 : decode cX0_countLevel 56 = .ok (.iload 4, 2) := by decide +kernel
theorem dX0_countLevel_58 : decode cX0_countLevel 58 = .ok (.iload 5, 2) := by decide +kernel
theorem dX0_countLevel_60 : decode cX0_countLevel 60 = .ok (.if_icmp .eq 6, 3) := by decide +kernel
theorem dX0_countLevel_63 : decode cX0_countLevel 63 = .ok (.iinc 2 1, 3) := by decide +kernel
theorem dX0_countLevel_66 : decode cX0_countLevel 66 = .ok (.aload_n 0, 1) := by decide +kernel
theorem dX0_countLevel_67 : decode cX0_countLevel 67 = .ok (.getfield 15, 3) := by decide +kernel
theorem dX0_countLevel_70 : decode cX0_countLevel 70 = .ok (.iload_n 3, 1) := by decide +kernel
theorem dX0_countLevel_71 : decode cX0_countLevel 71 = .ok (.iload 6, 2) := by decide +kernel
theorem dX0_countLevel_73 : decode cX0_countLevel 73 = .ok (.iastore, 1) := by decide +kernel
theorem dX0_countLevel_74 : decode cX0_countLevel 74 = .ok (.iinc 3 1, 3) := by decide +kernel
theorem dX0_countLevel_77 : decode cX0_countLevel 77 = .ok (.goto (-65), 3) := by decide +kernel
theorem dX0_countLevel_80 : decode cX0_countLevel 80 = .ok (.iload_n 2, 1) := by decide +kernel
theorem dX0_countLevel_81 : decode cX0_countLevel 81 = .ok (.ireturn, 1) := by decide +kernel
theorem dX0_kindOf_0 : decode cX0_kindOf 0 = .ok (.aload_n 0, 1) := by decide +kernel
theorem dX0_kindOf_1 : decode cX0_kindOf 1 = .ok (.getfield 31, 3) := by decide +kernel
theorem dX0_kindOf_4 : decode cX0_kindOf 4 = .ok (.iload_n 2, 1) := by decide +kernel
theorem dX0_kindOf_5 : decode cX0_kindOf 5 = .ok (.iaload, 1) := by decide +kernel
theorem dX0_kindOf_6 : decode cX0_kindOf 6 = .ok (.istore 4, 2) := by decide +kernel
theorem dX0_kindOf_8 : decode cX0_kindOf 8 = .ok (.iload_n 1, 1) := by decide +kernel
theorem dX0_kindOf_9 : decode cX0_kindOf 9 = .ok (.istore 5, 2) := by decide +kernel
theorem dX0_kindOf_11 : decode cX0_kindOf 11 = .ok (.iload 5, 2) := by decide +kernel
theorem dX0_kindOf_13 : decode cX0_kindOf 13 = .ok (.ifCond .le 38, 3) := by decide +kernel
theorem dX0_kindOf_16 : decode cX0_kindOf 16 = .ok (.iload 4, 2) := by decide +kernel
theorem dX0_kindOf_18 : decode cX0_kindOf 18 = .ok (.iconst (-1), 1) := by decide +kernel
theorem dX0_kindOf_19 : decode cX0_kindOf 19 = .ok (.if_icmp .eq 32, 3) := by decide +kernel
theorem dX0_kindOf_22 : decode cX0_kindOf 22 = .ok (.aload_n 0, 1) := by decide +kernel
theorem dX0_kindOf_23 : decode cX0_kindOf 23 = .ok (.getfield 19, 3) := by decide +kernel
theorem dX0_kindOf_26 : decode cX0_kindOf 26 = .ok (.iload 4, 2) := by decide +kernel
theorem dX0_kindOf_28 : decode cX0_kindOf 28 = .ok (.iaload, 1) := by decide +kernel
theorem dX0_kindOf_29 : decode cX0_kindOf 29 = .ok (.iload_n 3, 1) := by decide +kernel
theorem dX0_kindOf_30 : decode cX0_kindOf 30 = .ok (.if_icmp .ne 6, 3) := by decide +kernel
theorem dX0_kindOf_33 : decode cX0_kindOf 33 = .ok (.iload 4, 2) := by decide +kernel
theorem dX0_kindOf_35 : decode cX0_kindOf 35 = .ok (.ireturn, 1) := by decide +kernel
theorem dX0_kindOf_36 : decode cX0_kindOf 36 = .ok (.aload_n 0, 1) := by decide +kernel
theorem dX0_kindOf_37 : decode cX0_kindOf 37 = .ok (.getfield 22, 3) := by decide +kernel
theorem dX0_kindOf_40 : decode cX0_kindOf 40 = .ok (.iload 4, 2) := by decide +kernel
theorem dX0_kindOf_42 : decode cX0_kindOf 42 = .ok (.iaload, 1) := by decide +kernel
theorem dX0_kindOf_43 : decode cX0_kindOf 43 = .ok (.istore 4, 2) := by decide +kernel
theorem dX0_kindOf_45 : decode cX0_kindOf 45 = .ok (.iinc 5 (-1), 3) := by decide +kernel
theorem dX0_kindOf_48 : decode cX0_kindOf 48 = .ok (.goto (-37), 3) := by decide +kernel
theorem dX0_kindOf_51 : decode cX0_kindOf 51 = .ok (.aload_n 0, 1) := by decide +kernel
theorem dX0_kindOf_52 : decode cX0_kindOf 52 = .ok (.getfield 19, 3) := by decide +kernel
theorem dX0_kindOf_55 : decode cX0_kindOf 55 = .ok (.iload_n 1, 1) := by decide +kernel
theorem dX0_kindOf_56 : decode cX0_kindOf 56 = .ok (.iload_n 3, 1) := by decide +kernel
theorem dX0_kindOf_57 : decode cX0_kindOf 57 = .ok (.iastore, 1) := by decide +kernel
theorem dX0_kindOf_58 : decode cX0_kindOf 58 = .ok (.aload_n 0, 1) := by decide +kernel
theorem dX0_kindOf_59 : decode cX0_kindOf 59 = .ok (.getfield 22, 3) := by decide +kernel
theorem dX0_kindOf_62 : decode cX0_kindOf 62 = .ok (.iload_n 1, 1) := by decide +kernel
theorem dX0_kindOf_63 : decode cX0_kindOf 63 = .ok (.aload_n 0, 1) := by decide +kernel
theorem dX0_kindOf_64 : decode cX0_kindOf 64 = .ok (.getfield 31, 3) := by decide +kernel
theorem dX0_kindOf_67 : decode cX0_kindOf 67 = .ok (.iload_n 2, 1) := by decide +kernel
theorem dX0_kindOf_68 : decode cX0_kindOf 68 = .ok (.iaload, 1) := by decide +kernel
theorem dX0_kindOf_69 : decode cX0_kindOf 69 = .ok (.iastore, 1) := by decide +kernel
theorem dX0_kindOf_70 : decode cX0_kindOf 70 = .ok (.aload_n 0, 1) := by decide +kernel
theorem dX0_kindOf_71 : decode cX0_kindOf 71 = .ok (.getfield 31, 3) := by decide +kernel
theorem dX0_kindOf_74 : decode cX0_kindOf 74 = .ok (.iload_n 2, 1) := by decide +kernel
theorem dX0_kindOf_75 : decode cX0_kindOf 75 = .ok (.iload_n 1, 1) := by decide +kernel
theorem dX0_kindOf_76 : decode cX0_kindOf 76 = .ok (.iastore, 1) := by decide +kernel
theorem dX0_kindOf_77 : decode cX0_kindOf 77 = .ok (.iload_n 1, 1) := by decide +kernel
theorem dX0_kindOf_78 : decode cX0_kindOf 78 = .ok (.ireturn, 1) := by decide +kernel
theorem dX1_init_0 : decode cX1_init 0 = .ok (.aload_n 0, 1) := by decide +kernel
theorem dX1_init_1 : decode cX1_init 1 = .ok (.invokespecial 1, 3) := by decide +kernel
theorem dX1_init_4 : decode cX1_init 4 = .ok (.aload_n 0, 1) := by decide +kernel
theorem dX1_init_5 : decode cX1_init 5 = .ok (.iconst 1, 1) := by decide +kernel
theorem dX1_init_6 : decode cX1_init 6 = .ok (.bipush 12, 2) := by decide +kernel
theorem dX1_init_8 : decode cX1_init 8 = .ok (.iload_n 1, 1) := by decide +kernel
theorem dX1_init_9 : decode cX1_init 9 = .ok (.invokestatic 9, 3) := by decide +kernel
theorem dX1_init_12 : decode cX1_init 12 = .ok (.invokestatic 15, 3) := by decide +kernel
theorem dX1_init_15 : decode cX1_init 15 = .ok (.putfield 18, 3) := by decide +kernel
theorem dX1_init_18 : decode cX1_init 18 = .ok (.aload_n 0, 1) := by decide +kernel
theorem dX1_init_19 : decode cX1_init 19 = .ok (.iconst 1, 1) := by decide +kernel
theorem dX1_init_20 : decode cX1_init 20 = .ok (.aload_n 0, 1) := by decide +kernel
theorem dX1_init_21 : decode cX1_init 21 = .ok (.getfield 18, 3) := by decide +kernel
theorem dX1_init_24 : decode cX1_init 24 = .ok (.ishl, 1) := by decide +kernel
theorem dX1_init_25 : decode cX1_init 25 = .ok (.putfield 22, 3) := by decide +kernel
theorem dX1_init_28 : decode cX1_init 28 = .ok (.aload_n 0, 1) := by decide +kernel
theorem dX1_init_29 : decode cX1_init 29 = .ok (.iconst 1, 1) := by decide +kernel
theorem dX1_init_30 : decode cX1_init 30 = .ok (.aload_n 0, 1) := by decide +kernel
theorem dX1_init_31 : decode cX1_init 31 = .ok (.getfield 22, 3) := by decide +kernel
theorem dX1_init_34 : decode cX1_init 34 = .ok (.bipush 64, 2) := by decide +kernel
theorem dX1_init_36 : decode cX1_init 36 = .ok (.idiv, 1) := by decide +kernel
theorem dX1_init_37 : decode cX1_init 37 = .ok (.invokestatic 15, 3) := by decide +kernel
theorem dX1_init_40 : decode cX1_init 40 = .ok (.putfield 25, 3) := by decide +kernel
theorem dX1_init_43 : decode cX1_init 43 = .ok (.aload_n 0, 1) := by decide +kernel
theorem dX1_init_44 : decode cX1_init 44 = .ok (.bipush 64, 2) := by decide +kernel
theorem dX1_init_46 : decode cX1_init 46 = .ok (.aload_n 0, 1) := by decide +kernel
theorem dX1_init_47 : decode cX1_init 47 = .ok (.getfield 22, 3) := by decide +kernel
theorem dX1_init_50 : decode cX1_init 50 = .ok (.invokestatic 9, 3) := by decide +kernel
theorem dX1_init_53 : decode cX1_init 53 = .ok (.putfield 28, 3) := by decide +kernel
theorem dX1_init_56 : decode cX1_init 56 = .ok (.aload_n 0, 1) := by decide +kernel
theorem dX1_init_57 : decode cX1_init 57 = .ok (.ldc2_w 31, 3) := by decide +kernel
theorem dX1_init_60 : decode cX1_init 60 = .ok (.bipush 64, 2) := by decide +kernel
theorem dX1_init_62 : decode cX1_init 62 = .ok (.aload_n 0, 1) := by decide +kernel
theorem dX1_init_63 : decode cX1_init 63 = .ok (.getfield 28, 3) := by decide +kernel
theorem dX1_init_66 : decode cX1_init 66 = .ok (.isub, 1) := by decide +kernel
theorem dX1_init_67 : decode cX1_init 67 = .ok (.lushr, 1) := by decide +kernel
theorem dX1_init_68 : decode cX1_init 68 = .ok (.putfield 33, 3) := by decide +kernel
theorem dX1_init_71 : decode cX1_init 71 = .ok (.aload_n 0, 1) := by decide +kernel
theorem dX1_init_72 : decode cX1_init 72 = .ok (.bipush 32, 2) := by decide +kernel
theorem dX1_init_74 : decode cX1_init 74 = .ok (.aload_n 0, 1) := by decide +kernel
theorem dX1_init_75 : decode cX1_init 75 = .ok (.getfield 25, 3) := by decide +kernel
theorem dX1_init_78 : decode cX1_init 78 = .ok (.multianewarray 37 2, 4) := by decide +kernel
theorem dX1_init_82 : decode cX1_init 82 = .ok (.putfield 39, 3) := by decide +kernel
theorem dX1_init_85 : decode cX1_init 85 = .ok (.aload_n 0, 1) := by decide +kernel
theorem dX1_init_86 : decode cX1_init 86 = .ok (.aload_n 0, 1) := by decide +kernel
theorem dX1_init_87 : decode cX1_init 87 = .ok (.getfield 25, 3) := by decide +kernel
theorem dX1_init_90 : decode cX1_init 90 = .ok (.newarray .long, 2) := by decide +kernel
theorem dX1_init_92 : decode cX1_init 92 = .ok (.putfield 42, 3) := by decide +kernel
theorem dX1_init_95 : decode cX1_init 95 = .ok (.aload_n 0, 1) := by decide +kernel
theorem dX1_init_96 : decode cX1_init 96 = .ok (.aload_n 0, 1) := by decide +kernel
theorem dX1_init_97 : decode cX1_init 97 = .ok (.getfield 25, 3) := by decide +kernel
theorem dX1_init_100 : decode cX1_init 100 = .ok (.newarray .long, 2) := by decide +kernel
theorem dX1_init_102 : decode cX1_init 102 = .ok (.putfield 46, 3) := by decide +kernel
theorem dX1_init_105 : decode cX1_init 105 = .ok (.aload_n 0, 1) := by decide +kernel
theorem dX1_init_106 : decode cX1_init 106 = .ok (.aload_n 0, 1) := by decide +kernel
theorem dX1_init_107 : decode cX1_init 107 = .ok (.getfield 28, 3) := by decide +kernel
theorem dX1_init_110 : decode cX1_init 110 = .ok (.newarray .int, 2) := by decide +kernel
theorem dX1_init_112 : decode cX1_init 112 = .ok (.putfield 49, 3) := by decide +kernel
theorem dX1_init_115 : decode cX1_init 115 = .ok (.aload_n 0, 1) := by decide +kernel
theorem dX1_init_116 : decode cX1_init 116 = .ok (.new 53, 3) := by decide +kernel
theorem dX1_init_119 : decode cX1_init 119 = .ok (.dup, 1) := by decide +kernel
theorem dX1_init_120 : decode cX1_init 120 = .ok (.aload_n 0, 1) := by decide +kernel
theorem dX1_init_121 : decode cX1_init 121 = .ok (.getfield 18, 3) := by decide +kernel
theorem dX1_init_124 : decode cX1_init 124 = .ok (.invokespecial 55, 3) := by decide +kernel
theorem dX1_init_127 : decode cX1_init 127 = .ok (.putfield 58, 3) := by decide +kernel
theorem dX1_init_130 : decode cX1_init 130 = .ok (.return_, 1) := by decide +kernel
theorem dX1_constant_0 : decode cX1_constant 0 = .ok (.iload_n 1, 1) := by decide +kernel
theorem dX1_constant_1 : decode cX1_constant 1 = .ok (.invokestatic 62, 3) := by decide +kernel
theorem dX1_constant_4 : decode cX1_constant 4 = .ok (.ifCond .eq 10, 3) := by decide +kernel
theorem dX1_constant_7 : decode cX1_constant 7 = .ok (.iload_n 2, 1) := by decide +kernel
theorem dX1_constant_8 : decode cX1_constant 8 = .ok (.invokestatic 66, 3) := by decide +kernel
theorem dX1_constant_11 : decode cX1_constant 11 = .ok (.ifCond .ne 5, 3) := by decide +kernel
theorem dX1_constant_14 : decode cX1_constant 14 = .ok (.iconst 0, 1) := by decide +kernel
theorem dX1_constant_15 : decode cX1_constant 15 = .ok (.ireturn, 1) := by decide +kernel
theorem dX1_constant_16 : decode cX1_constant 16 = .ok (.aload_n 0, 1) := by decide +kernel
theorem dX1_constant_17 : decode cX1_constant 17 = .ok (.getfield 39, 3) := by decide +kernel
theorem dX1_constant_20 : decode cX1_constant 20 = .ok (.iload_n 1, 1) := by decide +kernel
theorem dX1_constant_21 : decode cX1_constant 21 = .ok (.aaload, 1) := by decide +kernel
theorem dX1_constant_22 : decode cX1_constant 22 = .ok (.iload_n 2, 1) := by decide +kernel
theorem dX1_constant_23 : decode cX1_constant 23 = .ok (.iconst 1, 1) := by decide +kernel
theorem dX1_constant_24 : decode cX1_constant 24 = .ok (.if_icmp .ne 10, 3) := by decide +kernel
theorem dX1_constant_27 : decode cX1_constant 27 = .ok (.aload_n 0, 1) := by decide +kernel
theorem dX1_constant_28 : decode cX1_constant 28 = .ok (.getfield 33, 3) := by decide +kernel
theorem dX1_constant_31 : decode cX1_constant 31 = .ok (.goto 4, 3) := by decide +kernel
theorem dX1_constant_34 : decode cX1_constant 34 = .ok (.lconst 0, 1) := by decide +kernel
theorem dX1_constant_35 : decode cX1_constant 35 = .ok (.invokestatic 69, 3) := by decide +kernel
theorem dX1_constant_38 : decode cX1_constant 38 = .ok (.iconst 1, 1) := by decide +kernel
theorem dX1_constant_39 : decode cX1_constant 39 = .ok (.ireturn, 1) := by decide +kernel
theorem dX1_variable_0 : decode cX1_variable 0 = .ok (.iload_n 1, 1) := by decide +kernel
theorem dX1_variable_1 : decode cX1_variable 1 = .ok (.invokestatic 62, 3) := by decide +kernel
theorem dX1_variable_4 : decode cX1_variable 4 = .ok (.ifCond .eq 11, 3) := by decide +kernel
theorem dX1_variable_7 : decode cX1_variable 7 = .ok (.aload_n 0, 1) := by decide +kernel
theorem dX1_variable_8 : decode cX1_variable 8 = .ok (.iload_n 2, 1) := by decide +kernel
theorem dX1_variable_9 : decode cX1_variable 9 = .ok (.invokevirtual 75, 3) := by decide +kernel
theorem dX1_variable_12 : decode cX1_variable 12 = .ok (.ifCond .ne 5, 3) := by decide +kernel
theorem dX1_variable_15 : decode cX1_variable 15 = .ok (.iconst 0, 1) := by decide +kernel
theorem dX1_variable_16 : decode cX1_variable 16 = .ok (.ireturn, 1) := by decide +kernel
theorem dX1_variable_17 : decode cX1_variable 17 = .ok (.aload_n 0, 1) := by decide +kernel
theorem dX1_variable_18 : decode cX1_variable 18 = .ok (.iload_n 2, 1) := by decide +kernel
theorem dX1_variable_19 : decode cX1_variable 19 = .ok (.invokevirtual 78, 3) := by decide +kernel
theorem dX1_variable_22 : decode cX1_variable 22 = .ok (.istore_n 3, 1) := by decide +kernel
theorem dX1_variable_23 : decode cX1_variable 23 = .ok (.iconst 0, 1) := by decide +kernel
theorem dX1_variable_24 : decode cX1_variable 24 = .ok (.istore 4, 2) := by decide +kernel
theorem dX1_variable_26 : decode cX1_variable 26 = .ok (.iload 4, 2) := by decide +kernel
theorem dX1_variable_28 : decode cX1_variable 28 = .ok (.aload_n 0, 1) := by decide +kernel
theorem dX1_variable_29 : decode cX1_variable 29 = .ok (.getfield 25, 3) := by decide +kernel
theorem dX1_variable_32 : decode cX1_variable 32 = .ok (.if_icmp .ge 25, 3) := by decide +kernel
theorem dX1_variable_35 : decode cX1_variable 35 = .ok (.aload_n 0, 1) := by decide +kernel
theorem dX1_variable_36 : decode cX1_variable 36 = .ok (.getfield 39, 3) := by decide +kernel
theorem dX1_variable_39 : decode cX1_variable 39 = .ok (.iload_n 1, 1) := by decide +kernel
theorem dX1_variable_40 : decode cX1_variable 40 = .ok (.aaload, 1) := by decide +kernel
theorem dX1_variable_41 : decode cX1_variable 41 = .ok (.iload 4, 2) := by decide +kernel
theorem dX1_variable_43 : decode cX1_variable 43 = .ok (.aload_n 0, 1) := by decide +kernel
theorem dX1_variable_44 : decode cX1_variable 44 = .ok (.iload 4, 2) := by decide +kernel
theorem dX1_variable_46 : decode cX1_variable 46 = .ok (.iload_n 3, 1) := by decide +kernel
theorem dX1_variable_47 : decode cX1_variable 47 = .ok (.invokevirtual 82, 3) := by decide +kernel
theorem dX1_variable_50 : decode cX1_variable 50 = .ok (.lastore, 1) := by decide +kernel
theorem dX1_variable_51 : decode cX1_variable 51 = .ok (.iinc 4 1, 3) := by decide +kernel
theorem dX1_variable_54 : decode cX1_variable 54 = .ok (.goto (-28), 3) := by decide +kernel
theorem dX1_variable_57 : decode cX1_variable 57 = .ok (.iconst 1, 1) := by decide +kernel
theorem dX1_variable_58 : decode cX1_variable 58 = .ok (.ireturn, 1) := by decide +kernel
theorem dX1_combine_0 : decode cX1_combine 0 = .ok (.iload_n 1, 1) := by decide +kernel
theorem dX1_combine_1 : decode cX1_combine 1 = .ok (.invokestatic 62, 3) := by decide +kernel
theorem dX1_combine_4 : decode cX1_combine 4 = .ok (.ifCond .eq 27, 3) := by decide +kernel
theorem dX1_combine_7 : decode cX1_combine 7 = .ok (.iload_n 2, 1) := by decide +kernel
theorem dX1_combine_8 : decode cX1_combine 8 = .ok (.ifCond .lt 23, 3) := by decide +kernel
theorem dX1_combine_11 : decode cX1_combine 11 = .ok (.iload_n 2, 1) := by decide +kernel
theorem dX1_combine_12 : decode cX1_combine 12 = .ok (.iconst 3, 1) := by decide +kernel
theorem dX1_combine_13 : decode cX1_combine 13 = .ok (.if_icmp .gt 18, 3) := by decide +kernel
theorem dX1_combine_16 : decode cX1_combine 16 = .ok (.iload_n 3, 1) := by decide +kernel
theorem dX1_combine_17 : decode cX1_combine 17 = .ok (.invokestatic 62, 3) := by decide +kernel
theorem dX1_combine_20 : decode cX1_combine 20 = .ok (.ifCond .eq 11, 3) := by decide +kernel
theorem dX1_combine_23 : decode cX1_combine 23 = .ok (.iload 4, 2) := by decide +kernel
theorem dX1_combine_25 : decode cX1_combine 25 = .ok (.invokestatic 62, 3) := by decide +kernel
theorem dX1_combine_28 : decode cX1_combine 28 = .ok (.ifCond .ne 5, 3) := by decide +kernel
theorem dX1_combine_31 : decode cX1_combine 31 = .ok (.iconst 0, 1) := by decide +kernel
theorem dX1_combine_32 : decode cX1_combine 32 = .ok (.ireturn, 1) := by decide +kernel
theorem dX1_combine_33 : decode cX1_combine 33 = .ok (.iconst 0, 1) := by decide +kernel
theorem dX1_combine_34 : decode cX1_combine 34 = .ok (.istore 5, 2) := by decide +kernel
theorem dX1_combine_36 : decode cX1_combine 36 = .ok (.iload 5, 2) := by decide +kernel
theorem dX1_combine_38 : decode cX1_combine 38 = .ok (.aload_n 0, 1) := by decide +kernel
theorem dX1_combine_39 : decode cX1_combine 39 = .ok (.getfield 25, 3) := by decide +kernel
theorem dX1_combine_42 : decode cX1_combine 42 = .ok (.if_icmp .ge 41, 3) := by decide +kernel
theorem dX1_combine_45 : decode cX1_combine 45 = .ok (.aload_n 0, 1) := by decide +kernel
theorem dX1_combine_46 : decode cX1_combine 46 = .ok (.getfield 39, 3) := by decide +kernel
theorem dX1_combine_49 : decode cX1_combine 49 = .ok (.iload_n 1, 1) := by decide +kernel
theorem dX1_combine_50 : decode cX1_combine 50 = .ok (.aaload, 1) := by decide +kernel
theorem dX1_combine_51 : decode cX1_combine 51 = .ok (.iload 5, 2) := by decide +kernel
theorem dX1_combine_53 : decode cX1_combine 53 = .ok (.iload_n 2, 1) := by decide +kernel
theorem dX1_combine_54 : decode cX1_combine 54 = .ok (.aload_n 0, 1) := by decide +kernel
theorem dX1_combine_55 : decode cX1_combine 55 = .ok (.getfield 39, 3) := by decide +kernel
theorem dX1_combine_58 : decode cX1_combine 58 = .ok (.iload_n 3, 1) := by decide +kernel
theorem dX1_combine_59 : decode cX1_combine 59 = .ok (.aaload, 1) := by decide +kernel
theorem dX1_combine_60 : decode cX1_combine 60 = .ok (.iload 5, 2) := by decide +kernel
theorem dX1_combine_62 : decode cX1_combine 62 = .ok (.laload, 1) := by decide +kernel
theorem dX1_combine_63 : decode cX1_combine 63 = .ok (.aload_n 0, 1) := by decide +kernel
theorem dX1_combine_64 : decode cX1_combine 64 = .ok (.getfield 39, 3) := by decide +kernel
theorem dX1_combine_67 : decode cX1_combine 67 = .ok (.iload 4, 2) := by decide +kernel
theorem dX1_combine_69 : decode cX1_combine 69 = .ok (.aaload, 1) := by decide +kernel
theorem dX1_combine_70 : decode cX1_combine 70 = .ok (.iload 5, 2) := by decide +kernel
theorem dX1_combine_72 : decode cX1_combine 72 = .ok (.laload, 1) := by decide +kernel
theorem dX1_combine_73 : decode cX1_combine 73 = .ok (.invokestatic 86, 3) := by decide +kernel
theorem dX1_combine_76 : decode cX1_combine 76 = .ok (.lastore, 1) := by decide +kernel
theorem dX1_combine_77 : decode cX1_combine 77 = .ok (.iinc 5 1, 3) := by decide +kernel
theorem dX1_combine_80 : decode cX1_combine 80 = .ok (.goto (-44), 3) := by decide +kernel
theorem dX1_combine_83 : decode cX1_combine 83 = .ok (.iconst 1, 1) := by decide +kernel
theorem dX1_combine_84 : decode cX1_combine 84 = .ok (.ireturn, 1) := by decide +kernel
theorem dX1_choose_0 : decode cX1_choose 0 = .ok (.iload_n 1, 1) := by decide +kernel
theorem dX1_choose_1 : decode cX1_choose 1 = .ok (.invokestatic 62, 3) := by decide +kernel
theorem dX1_choose_4 : decode cX1_choose 4 = .ok (.ifCond .eq 25, 3) := by decide +kernel
theorem dX1_choose_7 : decode cX1_choose 7 = .ok (.iload_n 2, 1) := by decide +kernel
theorem dX1_choose_8 : decode cX1_choose 8 = .ok (.invokestatic 62, 3) := by decide +kernel
theorem dX1_choose_11 : decode cX1_choose 11 = .ok (.ifCond .eq 18, 3) := by decide +kernel
theorem dX1_choose_14 : decode cX1_choose 14 = .ok (.iload_n 3, 1) := by decide +kernel
theorem dX1_choose_15 : decode cX1_choose 15 = .ok (.invokestatic 62, 3) := by decide +kernel
theorem dX1_choose_18 : decode cX1_choose 18 = .ok (.ifCond .eq 11, 3) := by decide +kernel
theorem dX1_choose_21 : decode cX1_choose 21 = .ok (.iload 4, 2) := by decide +kernel
theorem dX1_choose_23 : decode cX1_choose 23 = .ok (.invokestatic 62, 3) := by decide +kernel
theorem dX1_choose_26 : decode cX1_choose 26 = .ok (.ifCond .ne 5, 3) := by decide +kernel
theorem dX1_choose_29 : decode cX1_choose 29 = .ok (.iconst 0, 1) := by decide +kernel
theorem dX1_choose_30 : decode cX1_choose 30 = .ok (.ireturn, 1) := by decide +kernel
theorem dX1_choose_31 : decode cX1_choose 31 = .ok (.iconst 0, 1) := by decide +kernel
theorem dX1_choose_32 : decode cX1_choose 32 = .ok (.istore 5, 2) := by decide +kernel
theorem dX1_choose_34 : decode cX1_choose 34 = .ok (.iload 5, 2) := by decide +kernel
theorem dX1_choose_36 : decode cX1_choose 36 = .ok (.aload_n 0, 1) := by decide +kernel
theorem dX1_choose_37 : decode cX1_choose 37 = .ok (.getfield 25, 3) := by decide +kernel
theorem dX1_choose_40 : decode cX1_choose 40 = .ok (.if_icmp .ge 49, 3) := by decide +kernel
theorem dX1_choose_43 : decode cX1_choose 43 = .ok (.aload_n 0, 1) := by decide +kernel
theorem dX1_choose_44 : decode cX1_choose 44 = .ok (.getfield 39, 3) := by decide +kernel
theorem dX1_choose_47 : decode cX1_choose 47 = .ok (.iload_n 1, 1) := by decide +kernel
theorem dX1_choose_48 : decode cX1_choose 48 = .ok (.aaload, 1) := by decide +kernel
theorem dX1_choose_49 : decode cX1_choose 49 = .ok (.iload 5, 2) := by decide +kernel
theorem dX1_choose_51 : decode cX1_choose 51 = .ok (.aload_n 0, 1) := by decide +kernel
theorem dX1_choose_52 : decode cX1_choose 52 = .ok (.getfield 39, 3) := by decide +kernel
theorem dX1_choose_55 : decode cX1_choose 55 = .ok (.iload_n 2, 1) := by decide +kernel
theorem dX1_choose_56 : decode cX1_choose 56 = .ok (.aaload, 1) := by decide +kernel
theorem dX1_choose_57 : decode cX1_choose 57 = .ok (.iload 5, 2) := by decide +kernel
theorem dX1_choose_59 : decode cX1_choose 59 = .ok (.laload, 1) := by decide +kernel
theorem dX1_choose_60 : decode cX1_choose 60 = .ok (.aload_n 0, 1) := by decide +kernel
theorem dX1_choose_61 : decode cX1_choose 61 = .ok (.getfield 39, 3) := by decide +kernel
theorem dX1_choose_64 : decode cX1_choose 64 = .ok (.iload_n 3, 1) := by decide +kernel
theorem dX1_choose_65 : decode cX1_choose 65 = .ok (.aaload, 1) := by decide +kernel
theorem dX1_choose_66 : decode cX1_choose 66 = .ok (.iload 5, 2) := by decide +kernel
theorem dX1_choose_68 : decode cX1_choose 68 = .ok (.laload, 1) := by decide +kernel
theorem dX1_choose_69 : decode cX1_choose 69 = .ok (.aload_n 0, 1) := by decide +kernel
theorem dX1_choose_70 : decode cX1_choose 70 = .ok (.getfield 39, 3) := by decide +kernel
theorem dX1_choose_73 : decode cX1_choose 73 = .ok (.iload 4, 2) := by decide +kernel
theorem dX1_choose_75 : decode cX1_choose 75 = .ok (.aaload, 1) := by decide +kernel
theorem dX1_choose_76 : decode cX1_choose 76 = .ok (.iload 5, 2) := by decide +kernel
theorem dX1_choose_78 : decode cX1_choose 78 = .ok (.laload, 1) := by decide +kernel
theorem dX1_choose_79 : decode cX1_choose 79 = .ok (.invokestatic 90, 3) := by decide +kernel
theorem dX1_choose_82 : decode cX1_choose 82 = .ok (.lastore, 1) := by decide +kernel
theorem dX1_choose_83 : decode cX1_choose 83 = .ok (.iinc 5 1, 3) := by decide +kernel
theorem dX1_choose_86 : decode cX1_choose 86 = .ok (.goto (-52), 3) := by decide +kernel
theorem dX1_choose_89 : decode cX1_choose 89 = .ok (.iconst 1, 1) := by decide +kernel
theorem dX1_choose_90 : decode cX1_choose 90 = .ok (.ireturn, 1) := by decide +kernel
theorem dX1_fix_0 : decode cX1_fix 0 = .ok (.iload_n 1, 1) := by decide +kernel
theorem dX1_fix_1 : decode cX1_fix 1 = .ok (.invokestatic 62, 3) := by decide +kernel
theorem dX1_fix_4 : decode cX1_fix 4 = .ok (.ifCond .eq 26, 3) := by decide +kernel
theorem dX1_fix_7 : decode cX1_fix 7 = .ok (.iload_n 2, 1) := by decide +kernel
theorem dX1_fix_8 : decode cX1_fix 8 = .ok (.invokestatic 62, 3) := by decide +kernel
theorem dX1_fix_11 : decode cX1_fix 11 = .ok (.ifCond .eq 19, 3) := by decide +kernel
theorem dX1_fix_14 : decode cX1_fix 14 = .ok (.aload_n 0, 1) := by decide +kernel
theorem dX1_fix_15 : decode cX1_fix 15 = .ok (.iload_n 3, 1) := by decide +kernel
theorem dX1_fix_16 : decode cX1_fix 16 = .ok (.invokevirtual 75, 3) := by decide +kernel
theorem dX1_fix_19 : decode cX1_fix 19 = .ok (.ifCond .eq 11, 3) := by decide +kernel
theorem dX1_fix_22 : decode cX1_fix 22 = .ok (.iload 4, 2) := by decide +kernel
theorem dX1_fix_24 : decode cX1_fix 24 = .ok (.invokestatic 66, 3) := by decide +kernel
theorem dX1_fix_27 : decode cX1_fix 27 = .ok (.ifCond .ne 5, 3) := by decide +kernel
theorem dX1_fix_30 : decode cX1_fix 30 = .ok (.iconst 0, 1) := by decide +kernel
theorem dX1_fix_31 : decode cX1_fix 31 = .ok (.ireturn, 1) := by decide +kernel
theorem dX1_fix_32 : decode cX1_fix 32 = .ok (.aload_n 0, 1) := by decide +kernel
theorem dX1_fix_33 : decode cX1_fix 33 = .ok (.iload_n 3, 1) := by decide +kernel
theorem dX1_fix_34 : decode cX1_fix 34 = .ok (.invokevirtual 78, 3) := by decide +kernel
theorem dX1_fix_37 : decode cX1_fix 37 = .ok (.istore 5, 2) := by decide +kernel
theorem dX1_fix_39 : decode cX1_fix 39 = .ok (.iconst 0, 1) := by decide +kernel
theorem dX1_fix_40 : decode cX1_fix 40 = .ok (.istore 6, 2) := by decide +kernel
theorem dX1_fix_42 : decode cX1_fix 42 = .ok (.iload 6, 2) := by decide +kernel
theorem dX1_fix_44 : decode cX1_fix 44 = .ok (.aload_n 0, 1) := by decide +kernel
theorem dX1_fix_45 : decode cX1_fix 45 = .ok (.getfield 25, 3) := by decide +kernel
theorem dX1_fix_48 : decode cX1_fix 48 = .ok (.if_icmp .ge 79, 3) := by decide +kernel
theorem dX1_fix_51 : decode cX1_fix 51 = .ok (.aload_n 0, 1) := by decide +kernel
theorem dX1_fix_52 : decode cX1_fix 52 = .ok (.getfield 39, 3) := by decide +kernel
theorem dX1_fix_55 : decode cX1_fix 55 = .ok (.iload_n 2, 1) := by decide +kernel
theorem dX1_fix_56 : decode cX1_fix 56 = .ok (.aaload, 1) := by decide +kernel
theorem dX1_fix_57 : decode cX1_fix 57 = .ok (.iload 6, 2) := by decide +kernel
theorem dX1_fix_59 : decode cX1_fix 59 = .ok (.laload, 1) := by decide +kernel
theorem dX1_fix_60 : decode cX1_fix 60 = .ok (.lstore 7, 2) := by decide +kernel
theorem dX1_fix_62 : decode cX1_fix 62 = .ok (.aload_n 0, 1) := by decide +kernel
theorem dX1_fix_63 : decode cX1_fix 63 = .ok (.getfield 39, 3) := by decide +kernel
theorem dX1_fix_66 : decode cX1_fix 66 = .ok (.iload_n 2, 1) := by decide +kernel
theorem dX1_fix_67 : decode cX1_fix 67 = .ok (.aaload, 1) := by decide +kernel
theorem dX1_fix_68 : decode cX1_fix 68 = .ok (.iload 6, 2) := by decide +kernel
theorem dX1_fix_70 : decode cX1_fix 70 = .ok (.iload 5, 2) := by decide +kernel
theorem dX1_fix_72 : decode cX1_fix 72 = .ok (.invokestatic 94, 3) := by decide +kernel
theorem dX1_fix_75 : decode cX1_fix 75 = .ok (.lstore 9, 2) := by decide +kernel
theorem dX1_fix_77 : decode cX1_fix 77 = .ok (.aload_n 0, 1) := by decide +kernel
theorem dX1_fix_78 : decode cX1_fix 78 = .ok (.iload 6, 2) := by decide +kernel
theorem dX1_fix_80 : decode cX1_fix 80 = .ok (.iload 5, 2) := by decide +kernel
theorem dX1_fix_82 : decode cX1_fix 82 = .ok (.invokevirtual 82, 3) := by decide +kernel
theorem dX1_fix_85 : decode cX1_fix 85 = .ok (.lstore 11, 2) := by decide +kernel
theorem dX1_fix_87 : decode cX1_fix 87 = .ok (.aload_n 0, 1) := by decide +kernel
theorem dX1_fix_88 : decode cX1_fix 88 = .ok (.getfield 42, 3) := by decide +kernel
theorem dX1_fix_91 : decode cX1_fix 91 = .ok (.iload 6, 2) := by decide +kernel
theorem dX1_fix_93 : decode cX1_fix 93 = .ok (.iload 4, 2) := by decide +kernel
theorem dX1_fix_95 : decode cX1_fix 95 = .ok (.iconst 1, 1) := by decide +kernel
theorem dX1_fix_96 : decode cX1_fix 96 = .ok (.if_icmp .ne 15, 3) := by decide +kernel
theorem dX1_fix_99 : decode cX1_fix 99 = .ok (.lload 11, 2) := by decide +kernel
theorem dX1_fix_101 : decode cX1_fix 101 = .ok (.lload 7, 2) := by decide +kernel
theorem dX1_fix_103 : decode cX1_fix 103 = .ok (.lload 9, 2) := by decide +kernel
theorem dX1_fix_105 : decode cX1_fix 105 = .ok (.invokestatic 90, 3) := by decide +kernel
theorem dX1_fix_108 : decode cX1_fix 108 = .ok (.goto 12, 3) := by decide +kernel
theorem dX1_fix_111 : decode cX1_fix 111 = .ok (.lload 11, 2) := by decide +kernel
theorem dX1_fix_113 : decode cX1_fix 113 = .ok (.lload 9, 2) := by decide +kernel
theorem dX1_fix_115 : decode cX1_fix 115 = .ok (.lload 7, 2) := by decide +kernel
theorem dX1_fix_117 : decode cX1_fix 117 = .ok (.invokestatic 90, 3) := by decide +kernel
theorem dX1_fix_120 : decode cX1_fix 120 = .ok (.lastore, 1) := by decide +kernel
theorem dX1_fix_121 : decode cX1_fix 121 = .ok (.iinc 6 1, 3) := by decide +kernel
theorem dX1_fix_124 : decode cX1_fix 124 = .ok (.goto (-82), 3) := by decide +kernel
theorem dX1_fix_127 : decode cX1_fix 127 = .ok (.aload_n 0, 1) := by decide +kernel
theorem dX1_fix_128 : decode cX1_fix 128 = .ok (.iload_n 1, 1) := by decide +kernel
theorem dX1_fix_129 : decode cX1_fix 129 = .ok (.invokevirtual 98, 3) := by decide +kernel
theorem dX1_fix_132 : decode cX1_fix 132 = .ok (.iconst 1, 1) := by decide +kernel
theorem dX1_fix_133 : decode cX1_fix 133 = .ok (.ireturn, 1) := by decide +kernel
theorem dX1_exists_0 : decode cX1_exists 0 = .ok (.iload_n 1, 1) := by decide +kernel
theorem dX1_exists_1 : decode cX1_exists 1 = .ok (.invokestatic 62, 3) := by decide +kernel
theorem dX1_exists_4 : decode cX1_exists 4 = .ok (.ifCond .eq 33, 3) := by decide +kernel
theorem dX1_exists_7 : decode cX1_exists 7 = .ok (.iload_n 2, 1) := by decide +kernel
theorem dX1_exists_8 : decode cX1_exists 8 = .ok (.invokestatic 62, 3) := by decide +kernel
theorem dX1_exists_11 : decode cX1_exists 11 = .ok (.ifCond .eq 26, 3) := by decide +kernel
theorem dX1_exists_14 : decode cX1_exists 14 = .ok (.aload_n 0, 1) := by decide +kernel
theorem dX1_exists_15 : decode cX1_exists 15 = .ok (.iload_n 3, 1) := by decide +kernel
theorem dX1_exists_16 : decode cX1_exists 16 = .ok (.invokevirtual 75, 3) := by decide +kernel
theorem dX1_exists_19 : decode cX1_exists 19 = .ok (.ifCond .eq 18, 3) := by decide +kernel
theorem dX1_exists_22 : decode cX1_exists 22 = .ok (.aload_n 0, 1) := by decide +kernel
theorem dX1_exists_23 : decode cX1_exists 23 = .ok (.iload 4, 2) := by decide +kernel
theorem dX1_exists_25 : decode cX1_exists 25 = .ok (.invokevirtual 75, 3) := by decide +kernel
theorem dX1_exists_28 : decode cX1_exists 28 = .ok (.ifCond .eq 9, 3) := by decide +kernel
theorem dX1_exists_31 : decode cX1_exists 31 = .ok (.iload_n 3, 1) := by decide +kernel
theorem dX1_exists_32 : decode cX1_exists 32 = .ok (.iload 4, 2) := by decide +kernel
theorem dX1_exists_34 : decode cX1_exists 34 = .ok (.if_icmp .le 5, 3) := by decide +kernel
theorem dX1_exists_37 : decode cX1_exists 37 = .ok (.iconst 0, 1) := by decide +kernel
theorem dX1_exists_38 : decode cX1_exists 38 = .ok (.ireturn, 1) := by decide +kernel
theorem dX1_exists_39 : decode cX1_exists 39 = .ok (.aload_n 0, 1) := by decide +kernel
theorem dX1_exists_40 : decode cX1_exists 40 = .ok (.getfield 39, 3) := by decide +kernel
theorem dX1_exists_43 : decode cX1_exists 43 = .ok (.iload_n 2, 1) := by decide +kernel
theorem dX1_exists_44 : decode cX1_exists 44 = .ok (.aaload, 1) := by decide +kernel
theorem dX1_exists_45 : decode cX1_exists 45 = .ok (.iconst 0, 1) := by decide +kernel
theorem dX1_exists_46 : decode cX1_exists 46 = .ok (.aload_n 0, 1) := by decide +kernel
theorem dX1_exists_47 : decode cX1_exists 47 = .ok (.getfield 42, 3) := by decide +kernel
theorem dX1_exists_50 : decode cX1_exists 50 = .ok (.iconst 0, 1) := by decide +kernel
theorem dX1_exists_51 : decode cX1_exists 51 = .ok (.aload_n 0, 1) := by decide +kernel
theorem dX1_exists_52 : decode cX1_exists 52 = .ok (.getfield 25, 3) := by decide +kernel
theorem dX1_exists_55 : decode cX1_exists 55 = .ok (.invokestatic 101, 3) := by decide +kernel
theorem dX1_exists_58 : decode cX1_exists 58 = .ok (.iload_n 3, 1) := by decide +kernel
theorem dX1_exists_59 : decode cX1_exists 59 = .ok (.istore 5, 2) := by decide +kernel
theorem dX1_exists_61 : decode cX1_exists 61 = .ok (.iload 5, 2) := by decide +kernel
theorem dX1_exists_63 : decode cX1_exists 63 = .ok (.iload 4, 2) := by decide +kernel
theorem dX1_exists_65 : decode cX1_exists 65 = .ok (.if_icmp .gt 23, 3) := by decide +kernel
theorem dX1_exists_68 : decode cX1_exists 68 = .ok (.aload_n 0, 1) := by decide +kernel
theorem dX1_exists_69 : decode cX1_exists 69 = .ok (.aload_n 0, 1) := by decide +kernel
theorem dX1_exists_70 : decode cX1_exists 70 = .ok (.getfield 42, 3) := by decide +kernel
theorem dX1_exists_73 : decode cX1_exists 73 = .ok (.aload_n 0, 1) := by decide +kernel
theorem dX1_exists_74 : decode cX1_exists 74 = .ok (.iload 5, 2) := by decide +kernel
theorem dX1_exists_76 : decode cX1_exists 76 = .ok (.invokevirtual 78, 3) := by decide +kernel
theorem dX1_exists_79 : decode cX1_exists 79 = .ok (.invokevirtual 107, 3) := by decide +kernel
theorem dX1_exists_82 : decode cX1_exists 82 = .ok (.iinc 5 1, 3) := by decide +kernel
theorem dX1_exists_85 : decode cX1_exists 85 = .ok (.goto (-24), 3) := by decide +kernel
theorem dX1_exists_88 : decode cX1_exists 88 = .ok (.aload_n 0, 1) := by decide +kernel
theorem dX1_exists_89 : decode cX1_exists 89 = .ok (.iload_n 1, 1) := by decide +kernel
theorem dX1_exists_90 : decode cX1_exists 90 = .ok (.invokevirtual 98, 3) := by decide +kernel
theorem dX1_exists_93 : decode cX1_exists 93 = .ok (.iconst 1, 1) := by decide +kernel
theorem dX1_exists_94 : decode cX1_exists 94 = .ok (.ireturn, 1) := by decide +kernel
theorem dX1_substitute_0 : decode cX1_substitute 0 = .ok (.iload_n 1, 1) := by decide +kernel
theorem dX1_substitute_1 : decode cX1_substitute 1 = .ok (.invokestatic 62, 3) := by decide +kernel
theorem dX1_substitute_4 : decode cX1_substitute 4 = .ok (.ifCond .eq 21, 3) := by decide +kernel
theorem dX1_substitute_7 : decode cX1_substitute 7 = .ok (.iload_n 2, 1) := by decide +kernel
theorem dX1_substitute_8 : decode cX1_substitute 8 = .ok (.invokestatic 62, 3) := by decide +kernel
theorem dX1_substitute_11 : decode cX1_substitute 11 = .ok (.ifCond .eq 14, 3) := by decide +kernel
theorem dX1_substitute_14 : decode cX1_substitute 14 = .ok (.iload_n 3, 1) := by decide +kernel
theorem dX1_substitute_15 : decode cX1_substitute 15 = .ok (.aload_n 0, 1) := by decide +kernel
theorem dX1_substitute_16 : decode cX1_substitute 16 = .ok (.getfield 18, 3) := by decide +kernel
theorem dX1_substitute_19 : decode cX1_substitute 19 = .ok (.invokestatic 111, 3) := by decide +kernel
theorem dX1_substitute_22 : decode cX1_substitute 22 = .ok (.ifCond .ne 5, 3) := by decide +kernel
theorem dX1_substitute_25 : decode cX1_substitute 25 = .ok (.iconst 0, 1) := by decide +kernel
theorem dX1_substitute_26 : decode cX1_substitute 26 = .ok (.ireturn, 1) := by decide +kernel
theorem dX1_substitute_27 : decode cX1_substitute 27 = .ok (.iconst 0, 1) := by decide +kernel
theorem dX1_substitute_28 : decode cX1_substitute 28 = .ok (.istore 4, 2) := by decide +kernel
theorem dX1_substitute_30 : decode cX1_substitute 30 = .ok (.iload 4, 2) := by decide +kernel
theorem dX1_substitute_32 : decode cX1_substitute 32 = .ok (.aload_n 0, 1) := by decide +kernel
theorem dX1_substitute_33 : decode cX1_substitute 33 = .ok (.getfield 25, 3) := by decide +kernel
theorem dX1_substitute_36 : decode cX1_substitute 36 = .ok (.if_icmp .ge 75, 3) := by decide +kernel
theorem dX1_substitute_39 : decode cX1_substitute 39 = .ok (.aload_n 0, 1) := by decide +kernel
theorem dX1_substitute_40 : decode cX1_substitute 40 = .ok (.iload_n 3, 1) := by decide +kernel
theorem dX1_substitute_41 : decode cX1_substitute 41 = .ok (.aload_n 0, 1) := by decide +kernel
theorem dX1_substitute_42 : decode cX1_substitute 42 = .ok (.getfield 18, 3) := by decide +kernel
theorem dX1_substitute_45 : decode cX1_substitute 45 = .ok (.iload 4, 2) := by decide +kernel
theorem dX1_substitute_47 : decode cX1_substitute 47 = .ok (.invokevirtual 115, 3) := by decide +kernel
theorem dX1_substitute_50 : decode cX1_substitute 50 = .ok (.lconst 0, 1) := by decide +kernel
theorem dX1_substitute_51 : decode cX1_substitute 51 = .ok (.lstore 5, 2) := by decide +kernel
theorem dX1_substitute_53 : decode cX1_substitute 53 = .ok (.iconst 0, 1) := by decide +kernel
theorem dX1_substitute_54 : decode cX1_substitute 54 = .ok (.istore 7, 2) := by decide +kernel
theorem dX1_substitute_56 : decode cX1_substitute 56 = .ok (.iload 7, 2) := by decide +kernel
theorem dX1_substitute_58 : decode cX1_substitute 58 = .ok (.aload_n 0, 1) := by decide +kernel
theorem dX1_substitute_59 : decode cX1_substitute 59 = .ok (.getfield 28, 3) := by decide +kernel
theorem dX1_substitute_62 : decode cX1_substitute 62 = .ok (.if_icmp .ge 34, 3) := by decide +kernel
theorem dX1_substitute_65 : decode cX1_substitute 65 = .ok (.lload 5, 2) := by decide +kernel
theorem dX1_substitute_67 : decode cX1_substitute 67 = .ok (.aload_n 0, 1) := by decide +kernel
theorem dX1_substitute_68 : decode cX1_substitute 68 = .ok (.getfield 39, 3) := by decide +kernel
theorem dX1_substitute_71 : decode cX1_substitute 71 = .ok (.iload_n 2, 1) := by decide +kernel
theorem dX1_substitute_72 : decode cX1_substitute 72 = .ok (.aaload, 1) := by decide +kernel
theorem dX1_substitute_73 : decode cX1_substitute 73 = .ok (.aload_n 0, 1) := by decide +kernel
theorem dX1_substitute_74 : decode cX1_substitute 74 = .ok (.getfield 49, 3) := by decide +kernel
theorem dX1_substitute_77 : decode cX1_substitute 77 = .ok (.iload 7, 2) := by decide +kernel
theorem dX1_substitute_79 : decode cX1_substitute 79 = .ok (.iaload, 1) := by decide +kernel
theorem dX1_substitute_80 : decode cX1_substitute 80 = .ok (.invokestatic 119, 3) := by decide +kernel
theorem dX1_substitute_83 : decode cX1_substitute 83 = .ok (.i2l, 1) := by decide +kernel
theorem dX1_substitute_84 : decode cX1_substitute 84 = .ok (.iload 7, 2) := by decide +kernel
theorem dX1_substitute_86 : decode cX1_substitute 86 = .ok (.lshl, 1) := by decide +kernel
theorem dX1_substitute_87 : decode cX1_substitute 87 = .ok (.lor, 1) := by decide +kernel
theorem dX1_substitute_88 : decode cX1_substitute 88 = .ok (.lstore 5, 2) := by decide +kernel
theorem dX1_substitute_90 : decode cX1_substitute 90 = .ok (.iinc 7 1, 3) := by decide +kernel
theorem dX1_substitute_93 : decode cX1_substitute 93 = .ok (.goto (-37), 3) := by decide +kernel
theorem dX1_substitute_96 : decode cX1_substitute 96 = .ok (.aload_n 0, 1) := by decide +kernel
theorem dX1_substitute_97 : decode cX1_substitute 97 = .ok (.getfield 42, 3) := by decide +kernel
theorem dX1_substitute_100 : decode cX1_substitute 100 = .ok (.iload 4, 2) := by decide +kernel
theorem dX1_substitute_102 : decode cX1_substitute 102 = .ok (.lload 5, 2) := by decide +kernel
theorem dX1_substitute_104 : decode cX1_substitute 104 = .ok (.lastore, 1) := by decide +kernel
theorem dX1_substitute_105 : decode cX1_substitute 105 = .ok (.iinc 4 1, 3) := by decide +kernel
theorem dX1_substitute_108 : decode cX1_substitute 108 = .ok (.goto (-78), 3) := by decide +kernel
theorem dX1_substitute_111 : decode cX1_substitute 111 = .ok (.aload_n 0, 1) := by decide +kernel
theorem dX1_substitute_112 : decode cX1_substitute 112 = .ok (.iload_n 1, 1) := by decide +kernel
theorem dX1_substitute_113 : decode cX1_substitute 113 = .ok (.invokevirtual 98, 3) := by decide +kernel
theorem dX1_substitute_116 : decode cX1_substitute 116 = .ok (.iconst 1, 1) := by decide +kernel
theorem dX1_substitute_117 : decode cX1_substitute 117 = .ok (.ireturn, 1) := by decide +kernel
theorem dX1_nearest_0 : decode cX1_nearest 0 = .ok (.iload_n 1, 1) := by decide +kernel
theorem dX1_nearest_1 : decode cX1_nearest 1 = .ok (.invokestatic 62, 3) := by decide +kernel
theorem dX1_nearest_4 : decode cX1_nearest 4 = .ok (.ifCond .eq 17, 3) := by decide +kernel
theorem dX1_nearest_7 : decode cX1_nearest 7 = .ok (.iload_n 2, 1) := by decide +kernel
theorem dX1_nearest_8 : decode cX1_nearest 8 = .ok (.invokestatic 62, 3) := by decide +kernel
theorem dX1_nearest_11 : decode cX1_nearest 11 = .ok (.ifCond .eq 10, 3) := by decide +kernel
theorem dX1_nearest_14 : decode cX1_nearest 14 = .ok (.iload_n 3, 1) := by decide +kernel
theorem dX1_nearest_15 : decode cX1_nearest 15 = .ok (.invokestatic 62, 3) := by decide +kernel
theorem dX1_nearest_18 : decode cX1_nearest 18 = .ok (.ifCond .ne 5, 3) := by decide +kernel
theorem dX1_nearest_21 : decode cX1_nearest 21 = .ok (.iconst 0, 1) := by decide +kernel
theorem dX1_nearest_22 : decode cX1_nearest 22 = .ok (.ireturn, 1) := by decide +kernel
theorem dX1_nearest_23 : decode cX1_nearest 23 = .ok (.iconst 0, 1) := by decide +kernel
theorem dX1_nearest_24 : decode cX1_nearest 24 = .ok (.istore 4, 2) := by decide +kernel
theorem dX1_nearest_26 : decode cX1_nearest 26 = .ok (.iload 4, 2) := by decide +kernel
theorem dX1_nearest_28 : decode cX1_nearest 28 = .ok (.aload_n 0, 1) := by decide +kernel
theorem dX1_nearest_29 : decode cX1_nearest 29 = .ok (.getfield 25, 3) := by decide +kernel
theorem dX1_nearest_32 : decode cX1_nearest 32 = .ok (.if_icmp .ge 51, 3) := by decide +kernel
theorem dX1_nearest_35 : decode cX1_nearest 35 = .ok (.aload_n 0, 1) := by decide +kernel
theorem dX1_nearest_36 : decode cX1_nearest 36 = .ok (.getfield 46, 3) := by decide +kernel
theorem dX1_nearest_39 : decode cX1_nearest 39 = .ok (.iload 4, 2) := by decide +kernel
theorem dX1_nearest_41 : decode cX1_nearest 41 = .ok (.aload_n 0, 1) := by decide +kernel
theorem dX1_nearest_42 : decode cX1_nearest 42 = .ok (.getfield 39, 3) := by decide +kernel
theorem dX1_nearest_45 : decode cX1_nearest 45 = .ok (.iload_n 3, 1) := by decide +kernel
theorem dX1_nearest_46 : decode cX1_nearest 46 = .ok (.aaload, 1) := by decide +kernel
theorem dX1_nearest_47 : decode cX1_nearest 47 = .ok (.iload 4, 2) := by decide +kernel
theorem dX1_nearest_49 : decode cX1_nearest 49 = .ok (.laload, 1) := by decide +kernel
theorem dX1_nearest_50 : decode cX1_nearest 50 = .ok (.lastore, 1) := by decide +kernel
theorem dX1_nearest_51 : decode cX1_nearest 51 = .ok (.aload_n 0, 1) := by decide +kernel
theorem dX1_nearest_52 : decode cX1_nearest 52 = .ok (.getfield 42, 3) := by decide +kernel
theorem dX1_nearest_55 : decode cX1_nearest 55 = .ok (.iload 4, 2) := by decide +kernel
theorem dX1_nearest_57 : decode cX1_nearest 57 = .ok (.aload_n 0, 1) := by decide +kernel
theorem dX1_nearest_58 : decode cX1_nearest 58 = .ok (.getfield 39, 3) := by decide +kernel
theorem dX1_nearest_61 : decode cX1_nearest 61 = .ok (.iload_n 2, 1) := by decide +kernel
theorem dX1_nearest_62 : decode cX1_nearest 62 = .ok (.aaload, 1) := by decide +kernel
theorem dX1_nearest_63 : decode cX1_nearest 63 = .ok (.iload 4, 2) := by decide +kernel
theorem dX1_nearest_65 : decode cX1_nearest 65 = .ok (.laload, 1) := by decide +kernel
theorem dX1_nearest_66 : decode cX1_nearest 66 = .ok (.aload_n 0, 1) := by decide +kernel
theorem dX1_nearest_67 : decode cX1_nearest 67 = .ok (.getfield 39, 3) := by decide +kernel
theorem dX1_nearest_70 : decode cX1_nearest 70 = .ok (.iload_n 3, 1) := by decide +kernel
theorem dX1_nearest_71 : decode cX1_nearest 71 = .ok (.aaload, 1) := by decide +kernel
theorem dX1_nearest_72 : decode cX1_nearest 72 = .ok (.iload 4, 2) := by decide +kernel
theorem dX1_nearest_74 : decode cX1_nearest 74 = .ok (.laload, 1) := by decide +kernel
theorem dX1_nearest_75 : decode cX1_nearest 75 = .ok (.land, 1) := by decide +kernel
theorem dX1_nearest_76 : decode cX1_nearest 76 = .ok (.lastore, 1) := by decide +kernel
theorem dX1_nearest_77 : decode cX1_nearest 77 = .ok (.iinc 4 1, 3) := by decide +kernel
theorem dX1_nearest_80 : decode cX1_nearest 80 = .ok (.goto (-54), 3) := by decide +kernel
theorem dX1_nearest_83 : decode cX1_nearest 83 = .ok (.iconst 0, 1) := by decide +kernel
theorem dX1_nearest_84 : decode cX1_nearest 84 = .ok (.istore 4, 2) := by decide +kernel
theorem dX1_nearest_86 : decode cX1_nearest 86 = .ok (.iload 4, 2) := by decide +kernel
end
section
theorem dX1_nearest_88 : decode cX1_nearest 88 = .ok (.aload_n 0, 1) := by decide +kernel
theorem dX1_nearest_89 : decode cX1_nearest 89 = .ok (.getfield 18, 3) := by decide +kernel
theorem dX1_nearest_92 : decode cX1_nearest 92 = .ok (.if_icmp .ge 70, 3) := by decide +kernel
theorem dX1_nearest_95 : decode cX1_nearest 95 = .ok (.iconst 0, 1) := by decide +kernel
theorem dX1_nearest_96 : decode cX1_nearest 96 = .ok (.istore 5, 2) := by decide +kernel
theorem dX1_nearest_98 : decode cX1_nearest 98 = .ok (.iload 5, 2) := by decide +kernel
theorem dX1_nearest_100 : decode cX1_nearest 100 = .ok (.aload_n 0, 1) := by decide +kernel
theorem dX1_nearest_101 : decode cX1_nearest 101 = .ok (.getfield 25, 3) := by decide +kernel
theorem dX1_nearest_104 : decode cX1_nearest 104 = .ok (.if_icmp .ge 42, 3) := by decide +kernel
theorem dX1_nearest_107 : decode cX1_nearest 107 = .ok (.aload_n 0, 1) := by decide +kernel
theorem dX1_nearest_108 : decode cX1_nearest 108 = .ok (.getfield 42, 3) := by decide +kernel
theorem dX1_nearest_111 : decode cX1_nearest 111 = .ok (.iload 5, 2) := by decide +kernel
theorem dX1_nearest_113 : decode cX1_nearest 113 = .ok (.dup2, 1) := by decide +kernel
theorem dX1_nearest_114 : decode cX1_nearest 114 = .ok (.laload, 1) := by decide +kernel
theorem dX1_nearest_115 : decode cX1_nearest 115 = .ok (.aload_n 0, 1) := by decide +kernel
theorem dX1_nearest_116 : decode cX1_nearest 116 = .ok (.getfield 42, 3) := by decide +kernel
theorem dX1_nearest_119 : decode cX1_nearest 119 = .ok (.iload 5, 2) := by decide +kernel
theorem dX1_nearest_121 : decode cX1_nearest 121 = .ok (.iload 4, 2) := by decide +kernel
theorem dX1_nearest_123 : decode cX1_nearest 123 = .ok (.invokestatic 94, 3) := by decide +kernel
theorem dX1_nearest_126 : decode cX1_nearest 126 = .ok (.aload_n 0, 1) := by decide +kernel
theorem dX1_nearest_127 : decode cX1_nearest 127 = .ok (.getfield 46, 3) := by decide +kernel
theorem dX1_nearest_130 : decode cX1_nearest 130 = .ok (.iload 5, 2) := by decide +kernel
theorem dX1_nearest_132 : decode cX1_nearest 132 = .ok (.laload, 1) := by decide +kernel
theorem dX1_nearest_133 : decode cX1_nearest 133 = .ok (.ldc2_w 31, 3) := by decide +kernel
theorem dX1_nearest_136 : decode cX1_nearest 136 = .ok (.lxor, 1) := by decide +kernel
theorem dX1_nearest_137 : decode cX1_nearest 137 = .ok (.land, 1) := by decide +kernel
theorem dX1_nearest_138 : decode cX1_nearest 138 = .ok (.lor, 1) := by decide +kernel
theorem dX1_nearest_139 : decode cX1_nearest 139 = .ok (.lastore, 1) := by decide +kernel
theorem dX1_nearest_140 : decode cX1_nearest 140 = .ok (.iinc 5 1, 3) := by decide +kernel
theorem dX1_nearest_143 : decode cX1_nearest 143 = .ok (.goto (-45), 3) := by decide +kernel
theorem dX1_nearest_146 : decode cX1_nearest 146 = .ok (.aload_n 0, 1) := by decide +kernel
theorem dX1_nearest_147 : decode cX1_nearest 147 = .ok (.aload_n 0, 1) := by decide +kernel
theorem dX1_nearest_148 : decode cX1_nearest 148 = .ok (.getfield 46, 3) := by decide +kernel
theorem dX1_nearest_151 : decode cX1_nearest 151 = .ok (.iload 4, 2) := by decide +kernel
theorem dX1_nearest_153 : decode cX1_nearest 153 = .ok (.invokevirtual 107, 3) := by decide +kernel
theorem dX1_nearest_156 : decode cX1_nearest 156 = .ok (.iinc 4 1, 3) := by decide +kernel
theorem dX1_nearest_159 : decode cX1_nearest 159 = .ok (.goto (-73), 3) := by decide +kernel
theorem dX1_nearest_162 : decode cX1_nearest 162 = .ok (.aload_n 0, 1) := by decide +kernel
theorem dX1_nearest_163 : decode cX1_nearest 163 = .ok (.iload_n 1, 1) := by decide +kernel
theorem dX1_nearest_164 : decode cX1_nearest 164 = .ok (.invokevirtual 98, 3) := by decide +kernel
theorem dX1_nearest_167 : decode cX1_nearest 167 = .ok (.iconst 1, 1) := by decide +kernel
theorem dX1_nearest_168 : decode cX1_nearest 168 = .ok (.ireturn, 1) := by decide +kernel
theorem dX1_image_0 : decode cX1_image 0 = .ok (.iload_n 1, 1) := by decide +kernel
theorem dX1_image_1 : decode cX1_image 1 = .ok (.invokestatic 62, 3) := by decide +kernel
theorem dX1_image_4 : decode cX1_image 4 = .ok (.ifCond .eq 27, 3) := by decide +kernel
theorem dX1_image_7 : decode cX1_image 7 = .ok (.aload_n 0, 1) := by decide +kernel
theorem dX1_image_8 : decode cX1_image 8 = .ok (.iload_n 3, 1) := by decide +kernel
theorem dX1_image_9 : decode cX1_image 9 = .ok (.invokevirtual 75, 3) := by decide +kernel
theorem dX1_image_12 : decode cX1_image 12 = .ok (.ifCond .eq 19, 3) := by decide +kernel
theorem dX1_image_15 : decode cX1_image 15 = .ok (.iload_n 2, 1) := by decide +kernel
theorem dX1_image_16 : decode cX1_image 16 = .ok (.iload_n 3, 1) := by decide +kernel
theorem dX1_image_17 : decode cX1_image 17 = .ok (.invokestatic 111, 3) := by decide +kernel
theorem dX1_image_20 : decode cX1_image 20 = .ok (.ifCond .eq 11, 3) := by decide +kernel
theorem dX1_image_23 : decode cX1_image 23 = .ok (.iload 4, 2) := by decide +kernel
theorem dX1_image_25 : decode cX1_image 25 = .ok (.invokestatic 62, 3) := by decide +kernel
theorem dX1_image_28 : decode cX1_image 28 = .ok (.ifCond .ne 5, 3) := by decide +kernel
theorem dX1_image_31 : decode cX1_image 31 = .ok (.iconst 0, 1) := by decide +kernel
theorem dX1_image_32 : decode cX1_image 32 = .ok (.ireturn, 1) := by decide +kernel
theorem dX1_image_33 : decode cX1_image 33 = .ok (.aload_n 0, 1) := by decide +kernel
theorem dX1_image_34 : decode cX1_image 34 = .ok (.getfield 18, 3) := by decide +kernel
theorem dX1_image_37 : decode cX1_image 37 = .ok (.iload_n 3, 1) := by decide +kernel
theorem dX1_image_38 : decode cX1_image 38 = .ok (.isub, 1) := by decide +kernel
theorem dX1_image_39 : decode cX1_image 39 = .ok (.istore 5, 2) := by decide +kernel
theorem dX1_image_41 : decode cX1_image 41 = .ok (.aload_n 0, 1) := by decide +kernel
theorem dX1_image_42 : decode cX1_image 42 = .ok (.getfield 42, 3) := by decide +kernel
theorem dX1_image_45 : decode cX1_image 45 = .ok (.lconst 0, 1) := by decide +kernel
theorem dX1_image_46 : decode cX1_image 46 = .ok (.invokestatic 69, 3) := by decide +kernel
theorem dX1_image_49 : decode cX1_image 49 = .ok (.iconst 0, 1) := by decide +kernel
theorem dX1_image_50 : decode cX1_image 50 = .ok (.istore 6, 2) := by decide +kernel
theorem dX1_image_52 : decode cX1_image 52 = .ok (.iload 6, 2) := by decide +kernel
theorem dX1_image_54 : decode cX1_image 54 = .ok (.aload_n 0, 1) := by decide +kernel
theorem dX1_image_55 : decode cX1_image 55 = .ok (.getfield 25, 3) := by decide +kernel
theorem dX1_image_58 : decode cX1_image 58 = .ok (.if_icmp .ge 48, 3) := by decide +kernel
theorem dX1_image_61 : decode cX1_image 61 = .ok (.aload_n 0, 1) := by decide +kernel
theorem dX1_image_62 : decode cX1_image 62 = .ok (.getfield 39, 3) := by decide +kernel
theorem dX1_image_65 : decode cX1_image 65 = .ok (.iload 4, 2) := by decide +kernel
theorem dX1_image_67 : decode cX1_image 67 = .ok (.aaload, 1) := by decide +kernel
theorem dX1_image_68 : decode cX1_image 68 = .ok (.iload 6, 2) := by decide +kernel
theorem dX1_image_70 : decode cX1_image 70 = .ok (.laload, 1) := by decide +kernel
theorem dX1_image_71 : decode cX1_image 71 = .ok (.lconst 0, 1) := by decide +kernel
theorem dX1_image_72 : decode cX1_image 72 = .ok (.lcmp, 1) := by decide +kernel
theorem dX1_image_73 : decode cX1_image 73 = .ok (.ifCond .eq 27, 3) := by decide +kernel
theorem dX1_image_76 : decode cX1_image 76 = .ok (.aload_n 0, 1) := by decide +kernel
theorem dX1_image_77 : decode cX1_image 77 = .ok (.iload_n 2, 1) := by decide +kernel
theorem dX1_image_78 : decode cX1_image 78 = .ok (.iload_n 3, 1) := by decide +kernel
theorem dX1_image_79 : decode cX1_image 79 = .ok (.iload 6, 2) := by decide +kernel
theorem dX1_image_81 : decode cX1_image 81 = .ok (.invokevirtual 115, 3) := by decide +kernel
theorem dX1_image_84 : decode cX1_image 84 = .ok (.aload_n 0, 1) := by decide +kernel
theorem dX1_image_85 : decode cX1_image 85 = .ok (.aload_n 0, 1) := by decide +kernel
theorem dX1_image_86 : decode cX1_image 86 = .ok (.getfield 39, 3) := by decide +kernel
theorem dX1_image_89 : decode cX1_image 89 = .ok (.iload 4, 2) := by decide +kernel
theorem dX1_image_91 : decode cX1_image 91 = .ok (.aaload, 1) := by decide +kernel
theorem dX1_image_92 : decode cX1_image 92 = .ok (.iload 6, 2) := by decide +kernel
theorem dX1_image_94 : decode cX1_image 94 = .ok (.laload, 1) := by decide +kernel
theorem dX1_image_95 : decode cX1_image 95 = .ok (.iload 5, 2) := by decide +kernel
theorem dX1_image_97 : decode cX1_image 97 = .ok (.invokevirtual 123, 3) := by decide +kernel
theorem dX1_image_100 : decode cX1_image 100 = .ok (.iinc 6 1, 3) := by decide +kernel
theorem dX1_image_103 : decode cX1_image 103 = .ok (.goto (-51), 3) := by decide +kernel
theorem dX1_image_106 : decode cX1_image 106 = .ok (.iconst 0, 1) := by decide +kernel
theorem dX1_image_107 : decode cX1_image 107 = .ok (.istore 6, 2) := by decide +kernel
theorem dX1_image_109 : decode cX1_image 109 = .ok (.iload 6, 2) := by decide +kernel
theorem dX1_image_111 : decode cX1_image 111 = .ok (.iload 5, 2) := by decide +kernel
theorem dX1_image_113 : decode cX1_image 113 = .ok (.if_icmp .ge 19, 3) := by decide +kernel
theorem dX1_image_116 : decode cX1_image 116 = .ok (.aload_n 0, 1) := by decide +kernel
theorem dX1_image_117 : decode cX1_image 117 = .ok (.aload_n 0, 1) := by decide +kernel
theorem dX1_image_118 : decode cX1_image 118 = .ok (.getfield 42, 3) := by decide +kernel
theorem dX1_image_121 : decode cX1_image 121 = .ok (.iload 6, 2) := by decide +kernel
theorem dX1_image_123 : decode cX1_image 123 = .ok (.invokevirtual 107, 3) := by decide +kernel
theorem dX1_image_126 : decode cX1_image 126 = .ok (.iinc 6 1, 3) := by decide +kernel
theorem dX1_image_129 : decode cX1_image 129 = .ok (.goto (-20), 3) := by decide +kernel
theorem dX1_image_132 : decode cX1_image 132 = .ok (.aload_n 0, 1) := by decide +kernel
theorem dX1_image_133 : decode cX1_image 133 = .ok (.iload_n 1, 1) := by decide +kernel
theorem dX1_image_134 : decode cX1_image 134 = .ok (.invokevirtual 98, 3) := by decide +kernel
theorem dX1_image_137 : decode cX1_image 137 = .ok (.iconst 1, 1) := by decide +kernel
theorem dX1_image_138 : decode cX1_image 138 = .ok (.ireturn, 1) := by decide +kernel
theorem dX1_forks_0 : decode cX1_forks 0 = .ok (.iload_n 1, 1) := by decide +kernel
theorem dX1_forks_1 : decode cX1_forks 1 = .ok (.invokestatic 62, 3) := by decide +kernel
theorem dX1_forks_4 : decode cX1_forks 4 = .ok (.ifCond .eq 19, 3) := by decide +kernel
theorem dX1_forks_7 : decode cX1_forks 7 = .ok (.aload_n 0, 1) := by decide +kernel
theorem dX1_forks_8 : decode cX1_forks 8 = .ok (.getfield 58, 3) := by decide +kernel
theorem dX1_forks_11 : decode cX1_forks 11 = .ok (.aload_n 0, 1) := by decide +kernel
theorem dX1_forks_12 : decode cX1_forks 12 = .ok (.getfield 39, 3) := by decide +kernel
theorem dX1_forks_15 : decode cX1_forks 15 = .ok (.iload_n 1, 1) := by decide +kernel
theorem dX1_forks_16 : decode cX1_forks 16 = .ok (.aaload, 1) := by decide +kernel
theorem dX1_forks_17 : decode cX1_forks 17 = .ok (.invokevirtual 127, 3) := by decide +kernel
theorem dX1_forks_20 : decode cX1_forks 20 = .ok (.goto 4, 3) := by decide +kernel
theorem dX1_forks_23 : decode cX1_forks 23 = .ok (.iconst (-1), 1) := by decide +kernel
theorem dX1_forks_24 : decode cX1_forks 24 = .ok (.ireturn, 1) := by decide +kernel
theorem dX1_ones_0 : decode cX1_ones 0 = .ok (.iload_n 1, 1) := by decide +kernel
theorem dX1_ones_1 : decode cX1_ones 1 = .ok (.invokestatic 62, 3) := by decide +kernel
theorem dX1_ones_4 : decode cX1_ones 4 = .ok (.ifCond .ne 5, 3) := by decide +kernel
theorem dX1_ones_7 : decode cX1_ones 7 = .ok (.iconst (-1), 1) := by decide +kernel
theorem dX1_ones_8 : decode cX1_ones 8 = .ok (.ireturn, 1) := by decide +kernel
theorem dX1_ones_9 : decode cX1_ones 9 = .ok (.iconst 0, 1) := by decide +kernel
theorem dX1_ones_10 : decode cX1_ones 10 = .ok (.istore_n 2, 1) := by decide +kernel
theorem dX1_ones_11 : decode cX1_ones 11 = .ok (.iconst 0, 1) := by decide +kernel
theorem dX1_ones_12 : decode cX1_ones 12 = .ok (.istore_n 3, 1) := by decide +kernel
theorem dX1_ones_13 : decode cX1_ones 13 = .ok (.iload_n 3, 1) := by decide +kernel
theorem dX1_ones_14 : decode cX1_ones 14 = .ok (.aload_n 0, 1) := by decide +kernel
theorem dX1_ones_15 : decode cX1_ones 15 = .ok (.getfield 25, 3) := by decide +kernel
theorem dX1_ones_18 : decode cX1_ones 18 = .ok (.if_icmp .ge 23, 3) := by decide +kernel
theorem dX1_ones_21 : decode cX1_ones 21 = .ok (.iload_n 2, 1) := by decide +kernel
theorem dX1_ones_22 : decode cX1_ones 22 = .ok (.aload_n 0, 1) := by decide +kernel
theorem dX1_ones_23 : decode cX1_ones 23 = .ok (.getfield 39, 3) := by decide +kernel
theorem dX1_ones_26 : decode cX1_ones 26 = .ok (.iload_n 1, 1) := by decide +kernel
theorem dX1_ones_27 : decode cX1_ones 27 = .ok (.aaload, 1) := by decide +kernel
theorem dX1_ones_28 : decode cX1_ones 28 = .ok (.iload_n 3, 1) := by decide +kernel
theorem dX1_ones_29 : decode cX1_ones 29 = .ok (.laload, 1) := by decide +kernel
theorem dX1_ones_30 : decode cX1_ones 30 = .ok (.invokestatic 131, 3) := by decide +kernel
theorem dX1_ones_33 : decode cX1_ones 33 = .ok (.iadd, 1) := by decide +kernel
theorem dX1_ones_34 : decode cX1_ones 34 = .ok (.istore_n 2, 1) := by decide +kernel
theorem dX1_ones_35 : decode cX1_ones 35 = .ok (.iinc 3 1, 3) := by decide +kernel
theorem dX1_ones_38 : decode cX1_ones 38 = .ok (.goto (-25), 3) := by decide +kernel
theorem dX1_ones_41 : decode cX1_ones 41 = .ok (.iload_n 2, 1) := by decide +kernel
theorem dX1_ones_42 : decode cX1_ones 42 = .ok (.ireturn, 1) := by decide +kernel
theorem dX1_least_0 : decode cX1_least 0 = .ok (.iload_n 1, 1) := by decide +kernel
theorem dX1_least_1 : decode cX1_least 1 = .ok (.invokestatic 62, 3) := by decide +kernel
theorem dX1_least_4 : decode cX1_least 4 = .ok (.ifCond .ne 5, 3) := by decide +kernel
theorem dX1_least_7 : decode cX1_least 7 = .ok (.iconst (-1), 1) := by decide +kernel
theorem dX1_least_8 : decode cX1_least 8 = .ok (.ireturn, 1) := by decide +kernel
theorem dX1_least_9 : decode cX1_least 9 = .ok (.iconst 0, 1) := by decide +kernel
theorem dX1_least_10 : decode cX1_least 10 = .ok (.istore_n 2, 1) := by decide +kernel
theorem dX1_least_11 : decode cX1_least 11 = .ok (.iload_n 2, 1) := by decide +kernel
theorem dX1_least_12 : decode cX1_least 12 = .ok (.aload_n 0, 1) := by decide +kernel
theorem dX1_least_13 : decode cX1_least 13 = .ok (.getfield 25, 3) := by decide +kernel
theorem dX1_least_16 : decode cX1_least 16 = .ok (.if_icmp .ge 34, 3) := by decide +kernel
theorem dX1_least_19 : decode cX1_least 19 = .ok (.aload_n 0, 1) := by decide +kernel
theorem dX1_least_20 : decode cX1_least 20 = .ok (.getfield 39, 3) := by decide +kernel
theorem dX1_least_23 : decode cX1_least 23 = .ok (.iload_n 1, 1) := by decide +kernel
theorem dX1_least_24 : decode cX1_least 24 = .ok (.aaload, 1) := by decide +kernel
theorem dX1_least_25 : decode cX1_least 25 = .ok (.iload_n 2, 1) := by decide +kernel
theorem dX1_least_26 : decode cX1_least 26 = .ok (.laload, 1) := by decide +kernel
theorem dX1_least_27 : decode cX1_least 27 = .ok (.lstore_n 3, 1) := by decide +kernel
theorem dX1_least_28 : decode cX1_least 28 = .ok (.lload_n 3, 1) := by decide +kernel
theorem dX1_least_29 : decode cX1_least 29 = .ok (.lconst 0, 1) := by decide +kernel
theorem dX1_least_30 : decode cX1_least 30 = .ok (.lcmp, 1) := by decide +kernel
theorem dX1_least_31 : decode cX1_least 31 = .ok (.ifCond .eq 13, 3) := by decide +kernel
theorem dX1_least_34 : decode cX1_least 34 = .ok (.iload_n 2, 1) := by decide +kernel
theorem dX1_least_35 : decode cX1_least 35 = .ok (.bipush 64, 2) := by decide +kernel
theorem dX1_least_37 : decode cX1_least 37 = .ok (.imul, 1) := by decide +kernel
theorem dX1_least_38 : decode cX1_least 38 = .ok (.lload_n 3, 1) := by decide +kernel
theorem dX1_least_39 : decode cX1_least 39 = .ok (.invokestatic 137, 3) := by decide +kernel
theorem dX1_least_42 : decode cX1_least 42 = .ok (.iadd, 1) := by decide +kernel
theorem dX1_least_43 : decode cX1_least 43 = .ok (.ireturn, 1) := by decide +kernel
theorem dX1_least_44 : decode cX1_least 44 = .ok (.iinc 2 1, 3) := by decide +kernel
theorem dX1_least_47 : decode cX1_least 47 = .ok (.goto (-36), 3) := by decide +kernel
theorem dX1_least_50 : decode cX1_least 50 = .ok (.iconst (-1), 1) := by decide +kernel
theorem dX1_least_51 : decode cX1_least 51 = .ok (.ireturn, 1) := by decide +kernel
theorem dX1_at_0 : decode cX1_at 0 = .ok (.iload_n 1, 1) := by decide +kernel
theorem dX1_at_1 : decode cX1_at 1 = .ok (.invokestatic 62, 3) := by decide +kernel
theorem dX1_at_4 : decode cX1_at 4 = .ok (.ifCond .eq 15, 3) := by decide +kernel
theorem dX1_at_7 : decode cX1_at 7 = .ok (.iload_n 2, 1) := by decide +kernel
theorem dX1_at_8 : decode cX1_at 8 = .ok (.ifCond .lt 11, 3) := by decide +kernel
theorem dX1_at_11 : decode cX1_at 11 = .ok (.iload_n 2, 1) := by decide +kernel
theorem dX1_at_12 : decode cX1_at 12 = .ok (.aload_n 0, 1) := by decide +kernel
theorem dX1_at_13 : decode cX1_at 13 = .ok (.getfield 22, 3) := by decide +kernel
theorem dX1_at_16 : decode cX1_at 16 = .ok (.if_icmp .lt 5, 3) := by decide +kernel
theorem dX1_at_19 : decode cX1_at 19 = .ok (.iconst (-1), 1) := by decide +kernel
theorem dX1_at_20 : decode cX1_at 20 = .ok (.ireturn, 1) := by decide +kernel
theorem dX1_at_21 : decode cX1_at 21 = .ok (.aload_n 0, 1) := by decide +kernel
theorem dX1_at_22 : decode cX1_at 22 = .ok (.getfield 39, 3) := by decide +kernel
theorem dX1_at_25 : decode cX1_at 25 = .ok (.iload_n 1, 1) := by decide +kernel
theorem dX1_at_26 : decode cX1_at 26 = .ok (.aaload, 1) := by decide +kernel
theorem dX1_at_27 : decode cX1_at 27 = .ok (.iload_n 2, 1) := by decide +kernel
theorem dX1_at_28 : decode cX1_at 28 = .ok (.invokestatic 119, 3) := by decide +kernel
theorem dX1_at_31 : decode cX1_at 31 = .ok (.ireturn, 1) := by decide +kernel
theorem dX1_same_0 : decode cX1_same 0 = .ok (.iload_n 1, 1) := by decide +kernel
theorem dX1_same_1 : decode cX1_same 1 = .ok (.invokestatic 62, 3) := by decide +kernel
theorem dX1_same_4 : decode cX1_same 4 = .ok (.ifCond .eq 10, 3) := by decide +kernel
theorem dX1_same_7 : decode cX1_same 7 = .ok (.iload_n 2, 1) := by decide +kernel
theorem dX1_same_8 : decode cX1_same 8 = .ok (.invokestatic 62, 3) := by decide +kernel
theorem dX1_same_11 : decode cX1_same 11 = .ok (.ifCond .ne 5, 3) := by decide +kernel
theorem dX1_same_14 : decode cX1_same 14 = .ok (.iconst 0, 1) := by decide +kernel
theorem dX1_same_15 : decode cX1_same 15 = .ok (.ireturn, 1) := by decide +kernel
theorem dX1_same_16 : decode cX1_same 16 = .ok (.iconst 0, 1) := by decide +kernel
theorem dX1_same_17 : decode cX1_same 17 = .ok (.istore_n 3, 1) := by decide +kernel
theorem dX1_same_18 : decode cX1_same 18 = .ok (.iload_n 3, 1) := by decide +kernel
theorem dX1_same_19 : decode cX1_same 19 = .ok (.aload_n 0, 1) := by decide +kernel
theorem dX1_same_20 : decode cX1_same 20 = .ok (.getfield 25, 3) := by decide +kernel
theorem dX1_same_23 : decode cX1_same 23 = .ok (.if_icmp .ge 31, 3) := by decide +kernel
theorem dX1_same_26 : decode cX1_same 26 = .ok (.aload_n 0, 1) := by decide +kernel
theorem dX1_same_27 : decode cX1_same 27 = .ok (.getfield 39, 3) := by decide +kernel
theorem dX1_same_30 : decode cX1_same 30 = .ok (.iload_n 1, 1) := by decide +kernel
theorem dX1_same_31 : decode cX1_same 31 = .ok (.aaload, 1) := by decide +kernel
theorem dX1_same_32 : decode cX1_same 32 = .ok (.iload_n 3, 1) := by decide +kernel
theorem dX1_same_33 : decode cX1_same 33 = .ok (.laload, 1) := by decide +kernel
theorem dX1_same_34 : decode cX1_same 34 = .ok (.aload_n 0, 1) := by decide +kernel
theorem dX1_same_35 : decode cX1_same 35 = .ok (.getfield 39, 3) := by decide +kernel
theorem dX1_same_38 : decode cX1_same 38 = .ok (.iload_n 2, 1) := by decide +kernel
theorem dX1_same_39 : decode cX1_same 39 = .ok (.aaload, 1) := by decide +kernel
theorem dX1_same_40 : decode cX1_same 40 = .ok (.iload_n 3, 1) := by decide +kernel
theorem dX1_same_41 : decode cX1_same 41 = .ok (.laload, 1) := by decide +kernel
theorem dX1_same_42 : decode cX1_same 42 = .ok (.lcmp, 1) := by decide +kernel
theorem dX1_same_43 : decode cX1_same 43 = .ok (.ifCond .eq 5, 3) := by decide +kernel
theorem dX1_same_46 : decode cX1_same 46 = .ok (.iconst 0, 1) := by decide +kernel
theorem dX1_same_47 : decode cX1_same 47 = .ok (.ireturn, 1) := by decide +kernel
theorem dX1_same_48 : decode cX1_same 48 = .ok (.iinc 3 1, 3) := by decide +kernel
theorem dX1_same_51 : decode cX1_same 51 = .ok (.goto (-33), 3) := by decide +kernel
theorem dX1_same_54 : decode cX1_same 54 = .ok (.iconst 1, 1) := by decide +kernel
theorem dX1_same_55 : decode cX1_same 55 = .ok (.ireturn, 1) := by decide +kernel
theorem dX1_isRegister_0 : decode cX1_isRegister 0 = .ok (.iload_n 0, 1) := by decide +kernel
theorem dX1_isRegister_1 : decode cX1_isRegister 1 = .ok (.ifCond .lt 13, 3) := by decide +kernel
theorem dX1_isRegister_4 : decode cX1_isRegister 4 = .ok (.iload_n 0, 1) := by decide +kernel
theorem dX1_isRegister_5 : decode cX1_isRegister 5 = .ok (.bipush 32, 2) := by decide +kernel
theorem dX1_isRegister_7 : decode cX1_isRegister 7 = .ok (.if_icmp .ge 7, 3) := by decide +kernel
theorem dX1_isRegister_10 : decode cX1_isRegister 10 = .ok (.iconst 1, 1) := by decide +kernel
theorem dX1_isRegister_11 : decode cX1_isRegister 11 = .ok (.goto 4, 3) := by decide +kernel
theorem dX1_isRegister_14 : decode cX1_isRegister 14 = .ok (.iconst 0, 1) := by decide +kernel
theorem dX1_isRegister_15 : decode cX1_isRegister 15 = .ok (.ireturn, 1) := by decide +kernel
theorem dX1_areRegisters_0 : decode cX1_areRegisters 0 = .ok (.iload_n 0, 1) := by decide +kernel
theorem dX1_areRegisters_1 : decode cX1_areRegisters 1 = .ok (.ifCond .lt 15, 3) := by decide +kernel
theorem dX1_areRegisters_4 : decode cX1_areRegisters 4 = .ok (.iload_n 0, 1) := by decide +kernel
theorem dX1_areRegisters_5 : decode cX1_areRegisters 5 = .ok (.bipush 32, 2) := by decide +kernel
theorem dX1_areRegisters_7 : decode cX1_areRegisters 7 = .ok (.iload_n 1, 1) := by decide +kernel
theorem dX1_areRegisters_8 : decode cX1_areRegisters 8 = .ok (.isub, 1) := by decide +kernel
theorem dX1_areRegisters_9 : decode cX1_areRegisters 9 = .ok (.if_icmp .gt 7, 3) := by decide +kernel
theorem dX1_areRegisters_12 : decode cX1_areRegisters 12 = .ok (.iconst 1, 1) := by decide +kernel
theorem dX1_areRegisters_13 : decode cX1_areRegisters 13 = .ok (.goto 4, 3) := by decide +kernel
theorem dX1_areRegisters_16 : decode cX1_areRegisters 16 = .ok (.iconst 0, 1) := by decide +kernel
theorem dX1_areRegisters_17 : decode cX1_areRegisters 17 = .ok (.ireturn, 1) := by decide +kernel
theorem dX1_isVariable_0 : decode cX1_isVariable 0 = .ok (.iload_n 1, 1) := by decide +kernel
theorem dX1_isVariable_1 : decode cX1_isVariable 1 = .ok (.iconst 1, 1) := by decide +kernel
theorem dX1_isVariable_2 : decode cX1_isVariable 2 = .ok (.if_icmp .lt 15, 3) := by decide +kernel
theorem dX1_isVariable_5 : decode cX1_isVariable 5 = .ok (.iload_n 1, 1) := by decide +kernel
theorem dX1_isVariable_6 : decode cX1_isVariable 6 = .ok (.aload_n 0, 1) := by decide +kernel
theorem dX1_isVariable_7 : decode cX1_isVariable 7 = .ok (.getfield 18, 3) := by decide +kernel
theorem dX1_isVariable_10 : decode cX1_isVariable 10 = .ok (.if_icmp .gt 7, 3) := by decide +kernel
theorem dX1_isVariable_13 : decode cX1_isVariable 13 = .ok (.iconst 1, 1) := by decide +kernel
theorem dX1_isVariable_14 : decode cX1_isVariable 14 = .ok (.goto 4, 3) := by decide +kernel
theorem dX1_isVariable_17 : decode cX1_isVariable 17 = .ok (.iconst 0, 1) := by decide +kernel
theorem dX1_isVariable_18 : decode cX1_isVariable 18 = .ok (.ireturn, 1) := by decide +kernel
theorem dX1_isValue_0 : decode cX1_isValue 0 = .ok (.iload_n 0, 1) := by decide +kernel
theorem dX1_isValue_1 : decode cX1_isValue 1 = .ok (.ifCond .eq 8, 3) := by decide +kernel
theorem dX1_isValue_4 : decode cX1_isValue 4 = .ok (.iload_n 0, 1) := by decide +kernel
theorem dX1_isValue_5 : decode cX1_isValue 5 = .ok (.iconst 1, 1) := by decide +kernel
theorem dX1_isValue_6 : decode cX1_isValue 6 = .ok (.if_icmp .ne 7, 3) := by decide +kernel
theorem dX1_isValue_9 : decode cX1_isValue 9 = .ok (.iconst 1, 1) := by decide +kernel
theorem dX1_isValue_10 : decode cX1_isValue 10 = .ok (.goto 4, 3) := by decide +kernel
theorem dX1_isValue_13 : decode cX1_isValue 13 = .ok (.iconst 0, 1) := by decide +kernel
theorem dX1_isValue_14 : decode cX1_isValue 14 = .ok (.ireturn, 1) := by decide +kernel
theorem dX1_bitOf_0 : decode cX1_bitOf 0 = .ok (.aload_n 0, 1) := by decide +kernel
theorem dX1_bitOf_1 : decode cX1_bitOf 1 = .ok (.getfield 18, 3) := by decide +kernel
theorem dX1_bitOf_4 : decode cX1_bitOf 4 = .ok (.iload_n 1, 1) := by decide +kernel
theorem dX1_bitOf_5 : decode cX1_bitOf 5 = .ok (.isub, 1) := by decide +kernel
theorem dX1_bitOf_6 : decode cX1_bitOf 6 = .ok (.ireturn, 1) := by decide +kernel
theorem dX1_valueAt_0 : decode cX1_valueAt 0 = .ok (.aload_n 0, 1) := by decide +kernel
theorem dX1_valueAt_1 : decode cX1_valueAt 1 = .ok (.iload_n 1, 1) := by decide +kernel
theorem dX1_valueAt_2 : decode cX1_valueAt 2 = .ok (.bipush 64, 2) := by decide +kernel
theorem dX1_valueAt_4 : decode cX1_valueAt 4 = .ok (.idiv, 1) := by decide +kernel
theorem dX1_valueAt_5 : decode cX1_valueAt 5 = .ok (.laload, 1) := by decide +kernel
theorem dX1_valueAt_6 : decode cX1_valueAt 6 = .ok (.iload_n 1, 1) := by decide +kernel
theorem dX1_valueAt_7 : decode cX1_valueAt 7 = .ok (.bipush 64, 2) := by decide +kernel
theorem dX1_valueAt_9 : decode cX1_valueAt 9 = .ok (.irem, 1) := by decide +kernel
theorem dX1_valueAt_10 : decode cX1_valueAt 10 = .ok (.lushr, 1) := by decide +kernel
theorem dX1_valueAt_11 : decode cX1_valueAt 11 = .ok (.l2i, 1) := by decide +kernel
theorem dX1_valueAt_12 : decode cX1_valueAt 12 = .ok (.iconst 1, 1) := by decide +kernel
theorem dX1_valueAt_13 : decode cX1_valueAt 13 = .ok (.iand, 1) := by decide +kernel
theorem dX1_valueAt_14 : decode cX1_valueAt 14 = .ok (.ireturn, 1) := by decide +kernel
theorem dX1_lowestPlace_0 : decode cX1_lowestPlace 0 = .ok (.lload_n 0, 1) := by decide +kernel
theorem dX1_lowestPlace_1 : decode cX1_lowestPlace 1 = .ok (.lload_n 0, 1) := by decide +kernel
theorem dX1_lowestPlace_2 : decode cX1_lowestPlace 2 = .ok (.lneg, 1) := by decide +kernel
theorem dX1_lowestPlace_3 : decode cX1_lowestPlace 3 = .ok (.land, 1) := by decide +kernel
theorem dX1_lowestPlace_4 : decode cX1_lowestPlace 4 = .ok (.lconst 1, 1) := by decide +kernel
theorem dX1_lowestPlace_5 : decode cX1_lowestPlace 5 = .ok (.lsub, 1) := by decide +kernel
theorem dX1_lowestPlace_6 : decode cX1_lowestPlace 6 = .ok (.invokestatic 131, 3) := by decide +kernel
theorem dX1_lowestPlace_9 : decode cX1_lowestPlace 9 = .ok (.ireturn, 1) := by decide +kernel
theorem dX1_combined_0 : decode cX1_combined 0 = .ok (.iload_n 0, 1) := by decide +kernel
theorem dX1_combined_1 : decode cX1_combined 1 = .ok (.tableswitch 39 0 2 #[27, 31, 35], 27) := by decide +kernel
theorem dX1_combined_28 : decode cX1_combined 28 = .ok (.lload_n 1, 1) := by decide +kernel
theorem dX1_combined_29 : decode cX1_combined 29 = .ok (.lload_n 3, 1) := by decide +kernel
theorem dX1_combined_30 : decode cX1_combined 30 = .ok (.land, 1) := by decide +kernel
theorem dX1_combined_31 : decode cX1_combined 31 = .ok (.lreturn, 1) := by decide +kernel
theorem dX1_combined_32 : decode cX1_combined 32 = .ok (.lload_n 1, 1) := by decide +kernel
theorem dX1_combined_33 : decode cX1_combined 33 = .ok (.lload_n 3, 1) := by decide +kernel
theorem dX1_combined_34 : decode cX1_combined 34 = .ok (.lor, 1) := by decide +kernel
theorem dX1_combined_35 : decode cX1_combined 35 = .ok (.lreturn, 1) := by decide +kernel
theorem dX1_combined_36 : decode cX1_combined 36 = .ok (.lload_n 1, 1) := by decide +kernel
theorem dX1_combined_37 : decode cX1_combined 37 = .ok (.lload_n 3, 1) := by decide +kernel
theorem dX1_combined_38 : decode cX1_combined 38 = .ok (.lxor, 1) := by decide +kernel
theorem dX1_combined_39 : decode cX1_combined 39 = .ok (.lreturn, 1) := by decide +kernel
theorem dX1_combined_40 : decode cX1_combined 40 = .ok (.lload_n 1, 1) := by decide +kernel
theorem dX1_combined_41 : decode cX1_combined 41 = .ok (.lload_n 3, 1) := by decide +kernel
theorem dX1_combined_42 : decode cX1_combined 42 = .ok (.ldc2_w 31, 3) := by decide +kernel
theorem dX1_combined_45 : decode cX1_combined 45 = .ok (.lxor, 1) := by decide +kernel
theorem dX1_combined_46 : decode cX1_combined 46 = .ok (.land, 1) := by decide +kernel
theorem dX1_combined_47 : decode cX1_combined 47 = .ok (.lreturn, 1) := by decide +kernel
theorem dX1_chosen_0 : decode cX1_chosen 0 = .ok (.lload_n 0, 1) := by decide +kernel
theorem dX1_chosen_1 : decode cX1_chosen 1 = .ok (.lload_n 2, 1) := by decide +kernel
theorem dX1_chosen_2 : decode cX1_chosen 2 = .ok (.land, 1) := by decide +kernel
theorem dX1_chosen_3 : decode cX1_chosen 3 = .ok (.lload_n 0, 1) := by decide +kernel
theorem dX1_chosen_4 : decode cX1_chosen 4 = .ok (.ldc2_w 31, 3) := by decide +kernel
theorem dX1_chosen_7 : decode cX1_chosen 7 = .ok (.lxor, 1) := by decide +kernel
theorem dX1_chosen_8 : decode cX1_chosen 8 = .ok (.lload 4, 2) := by decide +kernel
theorem dX1_chosen_10 : decode cX1_chosen 10 = .ok (.land, 1) := by decide +kernel
theorem dX1_chosen_11 : decode cX1_chosen 11 = .ok (.lor, 1) := by decide +kernel
theorem dX1_chosen_12 : decode cX1_chosen 12 = .ok (.lreturn, 1) := by decide +kernel
theorem dX1_pointsWithBit_0 : decode cX1_pointsWithBit 0 = .ok (.iload_n 2, 1) := by decide +kernel
theorem dX1_pointsWithBit_1 : decode cX1_pointsWithBit 1 = .ok (.bipush 6, 2) := by decide +kernel
theorem dX1_pointsWithBit_3 : decode cX1_pointsWithBit 3 = .ok (.if_icmp .ge 14, 3) := by decide +kernel
theorem dX1_pointsWithBit_6 : decode cX1_pointsWithBit 6 = .ok (.getstatic 140, 3) := by decide +kernel
theorem dX1_pointsWithBit_9 : decode cX1_pointsWithBit 9 = .ok (.iload_n 2, 1) := by decide +kernel
theorem dX1_pointsWithBit_10 : decode cX1_pointsWithBit 10 = .ok (.laload, 1) := by decide +kernel
theorem dX1_pointsWithBit_11 : decode cX1_pointsWithBit 11 = .ok (.aload_n 0, 1) := by decide +kernel
theorem dX1_pointsWithBit_12 : decode cX1_pointsWithBit 12 = .ok (.getfield 33, 3) := by decide +kernel
theorem dX1_pointsWithBit_15 : decode cX1_pointsWithBit 15 = .ok (.land, 1) := by decide +kernel
theorem dX1_pointsWithBit_16 : decode cX1_pointsWithBit 16 = .ok (.lreturn, 1) := by decide +kernel
theorem dX1_pointsWithBit_17 : decode cX1_pointsWithBit 17 = .ok (.iload_n 1, 1) := by decide +kernel
theorem dX1_pointsWithBit_18 : decode cX1_pointsWithBit 18 = .ok (.iload_n 2, 1) := by decide +kernel
theorem dX1_pointsWithBit_19 : decode cX1_pointsWithBit 19 = .ok (.bipush 6, 2) := by decide +kernel
theorem dX1_pointsWithBit_21 : decode cX1_pointsWithBit 21 = .ok (.isub, 1) := by decide +kernel
theorem dX1_pointsWithBit_22 : decode cX1_pointsWithBit 22 = .ok (.iushr, 1) := by decide +kernel
theorem dX1_pointsWithBit_23 : decode cX1_pointsWithBit 23 = .ok (.iconst 1, 1) := by decide +kernel
theorem dX1_pointsWithBit_24 : decode cX1_pointsWithBit 24 = .ok (.iand, 1) := by decide +kernel
theorem dX1_pointsWithBit_25 : decode cX1_pointsWithBit 25 = .ok (.iconst 1, 1) := by decide +kernel
theorem dX1_pointsWithBit_26 : decode cX1_pointsWithBit 26 = .ok (.if_icmp .ne 10, 3) := by decide +kernel
theorem dX1_pointsWithBit_29 : decode cX1_pointsWithBit 29 = .ok (.aload_n 0, 1) := by decide +kernel
theorem dX1_pointsWithBit_30 : decode cX1_pointsWithBit 30 = .ok (.getfield 33, 3) := by decide +kernel
theorem dX1_pointsWithBit_33 : decode cX1_pointsWithBit 33 = .ok (.goto 4, 3) := by decide +kernel
theorem dX1_pointsWithBit_36 : decode cX1_pointsWithBit 36 = .ok (.lconst 0, 1) := by decide +kernel
theorem dX1_pointsWithBit_37 : decode cX1_pointsWithBit 37 = .ok (.lreturn, 1) := by decide +kernel
theorem dX1_acrossBit_0 : decode cX1_acrossBit 0 = .ok (.iload_n 2, 1) := by decide +kernel
theorem dX1_acrossBit_1 : decode cX1_acrossBit 1 = .ok (.bipush 6, 2) := by decide +kernel
theorem dX1_acrossBit_3 : decode cX1_acrossBit 3 = .ok (.if_icmp .lt 14, 3) := by decide +kernel
theorem dX1_acrossBit_6 : decode cX1_acrossBit 6 = .ok (.aload_n 0, 1) := by decide +kernel
theorem dX1_acrossBit_7 : decode cX1_acrossBit 7 = .ok (.iload_n 1, 1) := by decide +kernel
theorem dX1_acrossBit_8 : decode cX1_acrossBit 8 = .ok (.iconst 1, 1) := by decide +kernel
theorem dX1_acrossBit_9 : decode cX1_acrossBit 9 = .ok (.iload_n 2, 1) := by decide +kernel
theorem dX1_acrossBit_10 : decode cX1_acrossBit 10 = .ok (.bipush 6, 2) := by decide +kernel
theorem dX1_acrossBit_12 : decode cX1_acrossBit 12 = .ok (.isub, 1) := by decide +kernel
theorem dX1_acrossBit_13 : decode cX1_acrossBit 13 = .ok (.ishl, 1) := by decide +kernel
theorem dX1_acrossBit_14 : decode cX1_acrossBit 14 = .ok (.ixor, 1) := by decide +kernel
theorem dX1_acrossBit_15 : decode cX1_acrossBit 15 = .ok (.laload, 1) := by decide +kernel
theorem dX1_acrossBit_16 : decode cX1_acrossBit 16 = .ok (.lreturn, 1) := by decide +kernel
theorem dX1_acrossBit_17 : decode cX1_acrossBit 17 = .ok (.iconst 1, 1) := by decide +kernel
theorem dX1_acrossBit_18 : decode cX1_acrossBit 18 = .ok (.iload_n 2, 1) := by decide +kernel
theorem dX1_acrossBit_19 : decode cX1_acrossBit 19 = .ok (.ishl, 1) := by decide +kernel
theorem dX1_acrossBit_20 : decode cX1_acrossBit 20 = .ok (.istore_n 3, 1) := by decide +kernel
theorem dX1_acrossBit_21 : decode cX1_acrossBit 21 = .ok (.aload_n 0, 1) := by decide +kernel
theorem dX1_acrossBit_22 : decode cX1_acrossBit 22 = .ok (.iload_n 1, 1) := by decide +kernel
theorem dX1_acrossBit_23 : decode cX1_acrossBit 23 = .ok (.laload, 1) := by decide +kernel
theorem dX1_acrossBit_24 : decode cX1_acrossBit 24 = .ok (.getstatic 140, 3) := by decide +kernel
theorem dX1_acrossBit_27 : decode cX1_acrossBit 27 = .ok (.iload_n 2, 1) := by decide +kernel
theorem dX1_acrossBit_28 : decode cX1_acrossBit 28 = .ok (.laload, 1) := by decide +kernel
theorem dX1_acrossBit_29 : decode cX1_acrossBit 29 = .ok (.land, 1) := by decide +kernel
theorem dX1_acrossBit_30 : decode cX1_acrossBit 30 = .ok (.lstore 4, 2) := by decide +kernel
theorem dX1_acrossBit_32 : decode cX1_acrossBit 32 = .ok (.aload_n 0, 1) := by decide +kernel
theorem dX1_acrossBit_33 : decode cX1_acrossBit 33 = .ok (.iload_n 1, 1) := by decide +kernel
theorem dX1_acrossBit_34 : decode cX1_acrossBit 34 = .ok (.laload, 1) := by decide +kernel
theorem dX1_acrossBit_35 : decode cX1_acrossBit 35 = .ok (.getstatic 140, 3) := by decide +kernel
theorem dX1_acrossBit_38 : decode cX1_acrossBit 38 = .ok (.iload_n 2, 1) := by decide +kernel
theorem dX1_acrossBit_39 : decode cX1_acrossBit 39 = .ok (.laload, 1) := by decide +kernel
theorem dX1_acrossBit_40 : decode cX1_acrossBit 40 = .ok (.ldc2_w 31, 3) := by decide +kernel
theorem dX1_acrossBit_43 : decode cX1_acrossBit 43 = .ok (.lxor, 1) := by decide +kernel
theorem dX1_acrossBit_44 : decode cX1_acrossBit 44 = .ok (.land, 1) := by decide +kernel
theorem dX1_acrossBit_45 : decode cX1_acrossBit 45 = .ok (.lstore 6, 2) := by decide +kernel
theorem dX1_acrossBit_47 : decode cX1_acrossBit 47 = .ok (.lload 4, 2) := by decide +kernel
theorem dX1_acrossBit_49 : decode cX1_acrossBit 49 = .ok (.iload_n 3, 1) := by decide +kernel
theorem dX1_acrossBit_50 : decode cX1_acrossBit 50 = .ok (.lushr, 1) := by decide +kernel
theorem dX1_acrossBit_51 : decode cX1_acrossBit 51 = .ok (.lload 6, 2) := by decide +kernel
theorem dX1_acrossBit_53 : decode cX1_acrossBit 53 = .ok (.iload_n 3, 1) := by decide +kernel
theorem dX1_acrossBit_54 : decode cX1_acrossBit 54 = .ok (.lshl, 1) := by decide +kernel
theorem dX1_acrossBit_55 : decode cX1_acrossBit 55 = .ok (.lor, 1) := by decide +kernel
theorem dX1_acrossBit_56 : decode cX1_acrossBit 56 = .ok (.lreturn, 1) := by decide +kernel
theorem dX1_spread_0 : decode cX1_spread 0 = .ok (.iconst 0, 1) := by decide +kernel
theorem dX1_spread_1 : decode cX1_spread 1 = .ok (.istore_n 3, 1) := by decide +kernel
theorem dX1_spread_2 : decode cX1_spread 2 = .ok (.iload_n 3, 1) := by decide +kernel
theorem dX1_spread_3 : decode cX1_spread 3 = .ok (.aload_n 0, 1) := by decide +kernel
theorem dX1_spread_4 : decode cX1_spread 4 = .ok (.getfield 25, 3) := by decide +kernel
theorem dX1_spread_7 : decode cX1_spread 7 = .ok (.if_icmp .ge 21, 3) := by decide +kernel
theorem dX1_spread_10 : decode cX1_spread 10 = .ok (.aload_n 1, 1) := by decide +kernel
theorem dX1_spread_11 : decode cX1_spread 11 = .ok (.iload_n 3, 1) := by decide +kernel
theorem dX1_spread_12 : decode cX1_spread 12 = .ok (.dup2, 1) := by decide +kernel
theorem dX1_spread_13 : decode cX1_spread 13 = .ok (.laload, 1) := by decide +kernel
theorem dX1_spread_14 : decode cX1_spread 14 = .ok (.aload_n 1, 1) := by decide +kernel
theorem dX1_spread_15 : decode cX1_spread 15 = .ok (.iload_n 3, 1) := by decide +kernel
theorem dX1_spread_16 : decode cX1_spread 16 = .ok (.iload_n 2, 1) := by decide +kernel
theorem dX1_spread_17 : decode cX1_spread 17 = .ok (.invokestatic 94, 3) := by decide +kernel
theorem dX1_spread_20 : decode cX1_spread 20 = .ok (.lor, 1) := by decide +kernel
theorem dX1_spread_21 : decode cX1_spread 21 = .ok (.lastore, 1) := by decide +kernel
theorem dX1_spread_22 : decode cX1_spread 22 = .ok (.iinc 3 1, 3) := by decide +kernel
theorem dX1_spread_25 : decode cX1_spread 25 = .ok (.goto (-23), 3) := by decide +kernel
theorem dX1_spread_28 : decode cX1_spread 28 = .ok (.return_, 1) := by decide +kernel
theorem dX1_readTuples_0 : decode cX1_readTuples 0 = .ok (.aload_n 0, 1) := by decide +kernel
theorem dX1_readTuples_1 : decode cX1_readTuples 1 = .ok (.getfield 49, 3) := by decide +kernel
theorem dX1_readTuples_4 : decode cX1_readTuples 4 = .ok (.iconst 0, 1) := by decide +kernel
theorem dX1_readTuples_5 : decode cX1_readTuples 5 = .ok (.invokestatic 143, 3) := by decide +kernel
theorem dX1_readTuples_8 : decode cX1_readTuples 8 = .ok (.iload_n 1, 1) := by decide +kernel
theorem dX1_readTuples_9 : decode cX1_readTuples 9 = .ok (.istore 4, 2) := by decide +kernel
theorem dX1_readTuples_11 : decode cX1_readTuples 11 = .ok (.iload 4, 2) := by decide +kernel
theorem dX1_readTuples_13 : decode cX1_readTuples 13 = .ok (.iload_n 1, 1) := by decide +kernel
theorem dX1_readTuples_14 : decode cX1_readTuples 14 = .ok (.iload_n 2, 1) := by decide +kernel
theorem dX1_readTuples_15 : decode cX1_readTuples 15 = .ok (.iadd, 1) := by decide +kernel
theorem dX1_readTuples_16 : decode cX1_readTuples 16 = .ok (.if_icmp .ge 63, 3) := by decide +kernel
theorem dX1_readTuples_19 : decode cX1_readTuples 19 = .ok (.aload_n 0, 1) := by decide +kernel
theorem dX1_readTuples_20 : decode cX1_readTuples 20 = .ok (.getfield 39, 3) := by decide +kernel
theorem dX1_readTuples_23 : decode cX1_readTuples 23 = .ok (.iload 4, 2) := by decide +kernel
theorem dX1_readTuples_25 : decode cX1_readTuples 25 = .ok (.aaload, 1) := by decide +kernel
theorem dX1_readTuples_26 : decode cX1_readTuples 26 = .ok (.iload_n 3, 1) := by decide +kernel
theorem dX1_readTuples_27 : decode cX1_readTuples 27 = .ok (.laload, 1) := by decide +kernel
theorem dX1_readTuples_28 : decode cX1_readTuples 28 = .ok (.lstore 5, 2) := by decide +kernel
theorem dX1_readTuples_30 : decode cX1_readTuples 30 = .ok (.iconst 0, 1) := by decide +kernel
theorem dX1_readTuples_31 : decode cX1_readTuples 31 = .ok (.istore 7, 2) := by decide +kernel
theorem dX1_readTuples_33 : decode cX1_readTuples 33 = .ok (.iload 7, 2) := by decide +kernel
theorem dX1_readTuples_35 : decode cX1_readTuples 35 = .ok (.aload_n 0, 1) := by decide +kernel
theorem dX1_readTuples_36 : decode cX1_readTuples 36 = .ok (.getfield 28, 3) := by decide +kernel
theorem dX1_readTuples_39 : decode cX1_readTuples 39 = .ok (.if_icmp .ge 34, 3) := by decide +kernel
theorem dX1_readTuples_42 : decode cX1_readTuples 42 = .ok (.aload_n 0, 1) := by decide +kernel
theorem dX1_readTuples_43 : decode cX1_readTuples 43 = .ok (.getfield 49, 3) := by decide +kernel
theorem dX1_readTuples_46 : decode cX1_readTuples 46 = .ok (.iload 7, 2) := by decide +kernel
theorem dX1_readTuples_48 : decode cX1_readTuples 48 = .ok (.aload_n 0, 1) := by decide +kernel
theorem dX1_readTuples_49 : decode cX1_readTuples 49 = .ok (.getfield 49, 3) := by decide +kernel
theorem dX1_readTuples_52 : decode cX1_readTuples 52 = .ok (.iload 7, 2) := by decide +kernel
theorem dX1_readTuples_54 : decode cX1_readTuples 54 = .ok (.iaload, 1) := by decide +kernel
theorem dX1_readTuples_55 : decode cX1_readTuples 55 = .ok (.iconst 1, 1) := by decide +kernel
theorem dX1_readTuples_56 : decode cX1_readTuples 56 = .ok (.ishl, 1) := by decide +kernel
theorem dX1_readTuples_57 : decode cX1_readTuples 57 = .ok (.lload 5, 2) := by decide +kernel
theorem dX1_readTuples_59 : decode cX1_readTuples 59 = .ok (.iload 7, 2) := by decide +kernel
theorem dX1_readTuples_61 : decode cX1_readTuples 61 = .ok (.lushr, 1) := by decide +kernel
theorem dX1_readTuples_62 : decode cX1_readTuples 62 = .ok (.l2i, 1) := by decide +kernel
theorem dX1_readTuples_63 : decode cX1_readTuples 63 = .ok (.iconst 1, 1) := by decide +kernel
theorem dX1_readTuples_64 : decode cX1_readTuples 64 = .ok (.iand, 1) := by decide +kernel
theorem dX1_readTuples_65 : decode cX1_readTuples 65 = .ok (.ior, 1) := by decide +kernel
theorem dX1_readTuples_66 : decode cX1_readTuples 66 = .ok (.iastore, 1) := by decide +kernel
theorem dX1_readTuples_67 : decode cX1_readTuples 67 = .ok (.iinc 7 1, 3) := by decide +kernel
theorem dX1_readTuples_70 : decode cX1_readTuples 70 = .ok (.goto (-37), 3) := by decide +kernel
theorem dX1_readTuples_73 : decode cX1_readTuples 73 = .ok (.iinc 4 1, 3) := by decide +kernel
theorem dX1_readTuples_76 : decode cX1_readTuples 76 = .ok (.goto (-65), 3) := by decide +kernel
theorem dX1_readTuples_79 : decode cX1_readTuples 79 = .ok (.return_, 1) := by decide +kernel
theorem dX1_markTuples_0 : decode cX1_markTuples 0 = .ok (.iconst 0, 1) := by decide +kernel
theorem dX1_markTuples_1 : decode cX1_markTuples 1 = .ok (.istore 4, 2) := by decide +kernel
theorem dX1_markTuples_3 : decode cX1_markTuples 3 = .ok (.iload 4, 2) := by decide +kernel
theorem dX1_markTuples_5 : decode cX1_markTuples 5 = .ok (.aload_n 0, 1) := by decide +kernel
theorem dX1_markTuples_6 : decode cX1_markTuples 6 = .ok (.getfield 28, 3) := by decide +kernel
theorem dX1_markTuples_9 : decode cX1_markTuples 9 = .ok (.if_icmp .ge 51, 3) := by decide +kernel
theorem dX1_markTuples_12 : decode cX1_markTuples 12 = .ok (.lload_n 1, 1) := by decide +kernel
theorem dX1_markTuples_13 : decode cX1_markTuples 13 = .ok (.iload 4, 2) := by decide +kernel
theorem dX1_markTuples_15 : decode cX1_markTuples 15 = .ok (.lushr, 1) := by decide +kernel
theorem dX1_markTuples_16 : decode cX1_markTuples 16 = .ok (.lconst 1, 1) := by decide +kernel
theorem dX1_markTuples_17 : decode cX1_markTuples 17 = .ok (.land, 1) := by decide +kernel
theorem dX1_markTuples_18 : decode cX1_markTuples 18 = .ok (.lconst 1, 1) := by decide +kernel
theorem dX1_markTuples_19 : decode cX1_markTuples 19 = .ok (.lcmp, 1) := by decide +kernel
theorem dX1_markTuples_20 : decode cX1_markTuples 20 = .ok (.ifCond .ne 34, 3) := by decide +kernel
theorem dX1_markTuples_23 : decode cX1_markTuples 23 = .ok (.aload_n 0, 1) := by decide +kernel
theorem dX1_markTuples_24 : decode cX1_markTuples 24 = .ok (.getfield 49, 3) := by decide +kernel
theorem dX1_markTuples_27 : decode cX1_markTuples 27 = .ok (.iload 4, 2) := by decide +kernel
theorem dX1_markTuples_29 : decode cX1_markTuples 29 = .ok (.iaload, 1) := by decide +kernel
theorem dX1_markTuples_30 : decode cX1_markTuples 30 = .ok (.iload_n 3, 1) := by decide +kernel
theorem dX1_markTuples_31 : decode cX1_markTuples 31 = .ok (.ishl, 1) := by decide +kernel
theorem dX1_markTuples_32 : decode cX1_markTuples 32 = .ok (.istore 5, 2) := by decide +kernel
theorem dX1_markTuples_34 : decode cX1_markTuples 34 = .ok (.aload_n 0, 1) := by decide +kernel
theorem dX1_markTuples_35 : decode cX1_markTuples 35 = .ok (.getfield 42, 3) := by decide +kernel
theorem dX1_markTuples_38 : decode cX1_markTuples 38 = .ok (.iload 5, 2) := by decide +kernel
theorem dX1_markTuples_40 : decode cX1_markTuples 40 = .ok (.bipush 64, 2) := by decide +kernel
theorem dX1_markTuples_42 : decode cX1_markTuples 42 = .ok (.idiv, 1) := by decide +kernel
theorem dX1_markTuples_43 : decode cX1_markTuples 43 = .ok (.dup2, 1) := by decide +kernel
theorem dX1_markTuples_44 : decode cX1_markTuples 44 = .ok (.laload, 1) := by decide +kernel
theorem dX1_markTuples_45 : decode cX1_markTuples 45 = .ok (.lconst 1, 1) := by decide +kernel
theorem dX1_markTuples_46 : decode cX1_markTuples 46 = .ok (.iload 5, 2) := by decide +kernel
theorem dX1_markTuples_48 : decode cX1_markTuples 48 = .ok (.bipush 64, 2) := by decide +kernel
theorem dX1_markTuples_50 : decode cX1_markTuples 50 = .ok (.irem, 1) := by decide +kernel
theorem dX1_markTuples_51 : decode cX1_markTuples 51 = .ok (.lshl, 1) := by decide +kernel
theorem dX1_markTuples_52 : decode cX1_markTuples 52 = .ok (.lor, 1) := by decide +kernel
theorem dX1_markTuples_53 : decode cX1_markTuples 53 = .ok (.lastore, 1) := by decide +kernel
theorem dX1_markTuples_54 : decode cX1_markTuples 54 = .ok (.iinc 4 1, 3) := by decide +kernel
theorem dX1_markTuples_57 : decode cX1_markTuples 57 = .ok (.goto (-54), 3) := by decide +kernel
theorem dX1_markTuples_60 : decode cX1_markTuples 60 = .ok (.return_, 1) := by decide +kernel
theorem dX1_keepDraft_0 : decode cX1_keepDraft 0 = .ok (.aload_n 0, 1) := by decide +kernel
theorem dX1_keepDraft_1 : decode cX1_keepDraft 1 = .ok (.getfield 42, 3) := by decide +kernel
theorem dX1_keepDraft_4 : decode cX1_keepDraft 4 = .ok (.iconst 0, 1) := by decide +kernel
theorem dX1_keepDraft_5 : decode cX1_keepDraft 5 = .ok (.aload_n 0, 1) := by decide +kernel
theorem dX1_keepDraft_6 : decode cX1_keepDraft 6 = .ok (.getfield 39, 3) := by decide +kernel
theorem dX1_keepDraft_9 : decode cX1_keepDraft 9 = .ok (.iload_n 1, 1) := by decide +kernel
theorem dX1_keepDraft_10 : decode cX1_keepDraft 10 = .ok (.aaload, 1) := by decide +kernel
theorem dX1_keepDraft_11 : decode cX1_keepDraft 11 = .ok (.iconst 0, 1) := by decide +kernel
theorem dX1_keepDraft_12 : decode cX1_keepDraft 12 = .ok (.aload_n 0, 1) := by decide +kernel
theorem dX1_keepDraft_13 : decode cX1_keepDraft 13 = .ok (.getfield 25, 3) := by decide +kernel
theorem dX1_keepDraft_16 : decode cX1_keepDraft 16 = .ok (.invokestatic 101, 3) := by decide +kernel
theorem dX1_keepDraft_19 : decode cX1_keepDraft 19 = .ok (.return_, 1) := by decide +kernel
theorem dJ13_bitCount_95d88_0 : decode cJ13_bitCount_95d88 0 = .ok (.lload_n 0, 1) := by decide +kernel
theorem dJ13_bitCount_95d88_1 : decode cJ13_bitCount_95d88 1 = .ok (.lload_n 0, 1) := by decide +kernel
theorem dJ13_bitCount_95d88_2 : decode cJ13_bitCount_95d88 2 = .ok (.iconst 1, 1) := by decide +kernel
theorem dJ13_bitCount_95d88_3 : decode cJ13_bitCount_95d88 3 = .ok (.lushr, 1) := by decide +kernel
theorem dJ13_bitCount_95d88_4 : decode cJ13_bitCount_95d88 4 = .ok (.ldc2_w 314, 3) := by decide +kernel
theorem dJ13_bitCount_95d88_7 : decode cJ13_bitCount_95d88 7 = .ok (.land, 1) := by decide +kernel
theorem dJ13_bitCount_95d88_8 : decode cJ13_bitCount_95d88 8 = .ok (.lsub, 1) := by decide +kernel
theorem dJ13_bitCount_95d88_9 : decode cJ13_bitCount_95d88 9 = .ok (.lstore_n 0, 1) := by decide +kernel
theorem dJ13_bitCount_95d88_10 : decode cJ13_bitCount_95d88 10 = .ok (.lload_n 0, 1) := by decide +kernel
theorem dJ13_bitCount_95d88_11 : decode cJ13_bitCount_95d88 11 = .ok (.ldc2_w 316, 3) := by decide +kernel
theorem dJ13_bitCount_95d88_14 : decode cJ13_bitCount_95d88 14 = .ok (.land, 1) := by decide +kernel
theorem dJ13_bitCount_95d88_15 : decode cJ13_bitCount_95d88 15 = .ok (.lload_n 0, 1) := by decide +kernel
theorem dJ13_bitCount_95d88_16 : decode cJ13_bitCount_95d88 16 = .ok (.iconst 2, 1) := by decide +kernel
theorem dJ13_bitCount_95d88_17 : decode cJ13_bitCount_95d88 17 = .ok (.lushr, 1) := by decide +kernel
theorem dJ13_bitCount_95d88_18 : decode cJ13_bitCount_95d88 18 = .ok (.ldc2_w 316, 3) := by decide +kernel
theorem dJ13_bitCount_95d88_21 : decode cJ13_bitCount_95d88 21 = .ok (.land, 1) := by decide +kernel
theorem dJ13_bitCount_95d88_22 : decode cJ13_bitCount_95d88 22 = .ok (.ladd, 1) := by decide +kernel
theorem dJ13_bitCount_95d88_23 : decode cJ13_bitCount_95d88 23 = .ok (.lstore_n 0, 1) := by decide +kernel
theorem dJ13_bitCount_95d88_24 : decode cJ13_bitCount_95d88 24 = .ok (.lload_n 0, 1) := by decide +kernel
theorem dJ13_bitCount_95d88_25 : decode cJ13_bitCount_95d88 25 = .ok (.lload_n 0, 1) := by decide +kernel
theorem dJ13_bitCount_95d88_26 : decode cJ13_bitCount_95d88 26 = .ok (.iconst 4, 1) := by decide +kernel
theorem dJ13_bitCount_95d88_27 : decode cJ13_bitCount_95d88 27 = .ok (.lushr, 1) := by decide +kernel
theorem dJ13_bitCount_95d88_28 : decode cJ13_bitCount_95d88 28 = .ok (.ladd, 1) := by decide +kernel
theorem dJ13_bitCount_95d88_29 : decode cJ13_bitCount_95d88 29 = .ok (.ldc2_w 318, 3) := by decide +kernel
theorem dJ13_bitCount_95d88_32 : decode cJ13_bitCount_95d88 32 = .ok (.land, 1) := by decide +kernel
theorem dJ13_bitCount_95d88_33 : decode cJ13_bitCount_95d88 33 = .ok (.lstore_n 0, 1) := by decide +kernel
theorem dJ13_bitCount_95d88_34 : decode cJ13_bitCount_95d88 34 = .ok (.lload_n 0, 1) := by decide +kernel
theorem dJ13_bitCount_95d88_35 : decode cJ13_bitCount_95d88 35 = .ok (.lload_n 0, 1) := by decide +kernel
theorem dJ13_bitCount_95d88_36 : decode cJ13_bitCount_95d88 36 = .ok (.bipush 8, 2) := by decide +kernel
theorem dJ13_bitCount_95d88_38 : decode cJ13_bitCount_95d88 38 = .ok (.lushr, 1) := by decide +kernel
theorem dJ13_bitCount_95d88_39 : decode cJ13_bitCount_95d88 39 = .ok (.ladd, 1) := by decide +kernel
theorem dJ13_bitCount_95d88_40 : decode cJ13_bitCount_95d88 40 = .ok (.lstore_n 0, 1) := by decide +kernel
theorem dJ13_bitCount_95d88_41 : decode cJ13_bitCount_95d88 41 = .ok (.lload_n 0, 1) := by decide +kernel
theorem dJ13_bitCount_95d88_42 : decode cJ13_bitCount_95d88 42 = .ok (.lload_n 0, 1) := by decide +kernel
theorem dJ13_bitCount_95d88_43 : decode cJ13_bitCount_95d88 43 = .ok (.bipush 16, 2) := by decide +kernel
theorem dJ13_bitCount_95d88_45 : decode cJ13_bitCount_95d88 45 = .ok (.lushr, 1) := by decide +kernel
theorem dJ13_bitCount_95d88_46 : decode cJ13_bitCount_95d88 46 = .ok (.ladd, 1) := by decide +kernel
theorem dJ13_bitCount_95d88_47 : decode cJ13_bitCount_95d88 47 = .ok (.lstore_n 0, 1) := by decide +kernel
theorem dJ13_bitCount_95d88_48 : decode cJ13_bitCount_95d88 48 = .ok (.lload_n 0, 1) := by decide +kernel
theorem dJ13_bitCount_95d88_49 : decode cJ13_bitCount_95d88 49 = .ok (.lload_n 0, 1) := by decide +kernel
theorem dJ13_bitCount_95d88_50 : decode cJ13_bitCount_95d88 50 = .ok (.bipush 32, 2) := by decide +kernel
theorem dJ13_bitCount_95d88_52 : decode cJ13_bitCount_95d88 52 = .ok (.lushr, 1) := by decide +kernel
theorem dJ13_bitCount_95d88_53 : decode cJ13_bitCount_95d88 53 = .ok (.ladd, 1) := by decide +kernel
theorem dJ13_bitCount_95d88_54 : decode cJ13_bitCount_95d88 54 = .ok (.lstore_n 0, 1) := by decide +kernel
theorem dJ13_bitCount_95d88_55 : decode cJ13_bitCount_95d88 55 = .ok (.lload_n 0, 1) := by decide +kernel
theorem dJ13_bitCount_95d88_56 : decode cJ13_bitCount_95d88 56 = .ok (.l2i, 1) := by decide +kernel
theorem dJ13_bitCount_95d88_57 : decode cJ13_bitCount_95d88 57 = .ok (.bipush 127, 2) := by decide +kernel
theorem dJ13_bitCount_95d88_59 : decode cJ13_bitCount_95d88 59 = .ok (.iand, 1) := by decide +kernel
theorem dJ13_bitCount_95d88_60 : decode cJ13_bitCount_95d88 60 = .ok (.ireturn, 1) := by decide +kernel
theorem dJ9_max_7cf53_0 : decode cJ9_max_7cf53 0 = .ok (.iload_n 0, 1) := by decide +kernel
theorem dJ9_max_7cf53_1 : decode cJ9_max_7cf53 1 = .ok (.iload_n 1, 1) := by decide +kernel
theorem dJ9_max_7cf53_2 : decode cJ9_max_7cf53 2 = .ok (.if_icmp .lt 7, 3) := by decide +kernel
theorem dJ9_max_7cf53_5 : decode cJ9_max_7cf53 5 = .ok (.iload_n 0, 1) := by decide +kernel
theorem dJ9_max_7cf53_6 : decode cJ9_max_7cf53 6 = .ok (.goto 4, 3) := by decide +kernel
theorem dJ9_max_7cf53_9 : decode cJ9_max_7cf53 9 = .ok (.iload_n 1, 1) := by decide +kernel
theorem dJ9_max_7cf53_10 : decode cJ9_max_7cf53 10 = .ok (.ireturn, 1) := by decide +kernel
theorem dJ9_min_7cf53_0 : decode cJ9_min_7cf53 0 = .ok (.iload_n 0, 1) := by decide +kernel
theorem dJ9_min_7cf53_1 : decode cJ9_min_7cf53 1 = .ok (.iload_n 1, 1) := by decide +kernel
theorem dJ9_min_7cf53_2 : decode cJ9_min_7cf53 2 = .ok (.if_icmp .gt 7, 3) := by decide +kernel
theorem dJ9_min_7cf53_5 : decode cJ9_min_7cf53 5 = .ok (.iload_n 0, 1) := by decide +kernel
theorem dJ9_min_7cf53_6 : decode cJ9_min_7cf53 6 = .ok (.goto 4, 3) := by decide +kernel
theorem dJ9_min_7cf53_9 : decode cJ9_min_7cf53 9 = .ok (.iload_n 1, 1) := by decide +kernel
theorem dJ9_min_7cf53_10 : decode cJ9_min_7cf53 10 = .ok (.ireturn, 1) := by decide +kernel
theorem dJ7_fill_d0a16_0 : decode cJ7_fill_d0a16 0 = .ok (.iconst 0, 1) := by decide +kernel
theorem dJ7_fill_d0a16_1 : decode cJ7_fill_d0a16 1 = .ok (.istore_n 3, 1) := by decide +kernel
theorem dJ7_fill_d0a16_2 : decode cJ7_fill_d0a16 2 = .ok (.aload_n 0, 1) := by decide +kernel
theorem dJ7_fill_d0a16_3 : decode cJ7_fill_d0a16 3 = .ok (.arraylength, 1) := by decide +kernel
theorem dJ7_fill_d0a16_4 : decode cJ7_fill_d0a16 4 = .ok (.istore 4, 2) := by decide +kernel
theorem dJ7_fill_d0a16_6 : decode cJ7_fill_d0a16 6 = .ok (.iload_n 3, 1) := by decide +kernel
theorem dJ7_fill_d0a16_7 : decode cJ7_fill_d0a16 7 = .ok (.iload 4, 2) := by decide +kernel
theorem dJ7_fill_d0a16_9 : decode cJ7_fill_d0a16 9 = .ok (.if_icmp .ge 13, 3) := by decide +kernel
theorem dJ7_fill_d0a16_12 : decode cJ7_fill_d0a16 12 = .ok (.aload_n 0, 1) := by decide +kernel
theorem dJ7_fill_d0a16_13 : decode cJ7_fill_d0a16 13 = .ok (.iload_n 3, 1) := by decide +kernel
theorem dJ7_fill_d0a16_14 : decode cJ7_fill_d0a16 14 = .ok (.lload_n 1, 1) := by decide +kernel
theorem dJ7_fill_d0a16_15 : decode cJ7_fill_d0a16 15 = .ok (.lastore, 1) := by decide +kernel
theorem dJ7_fill_d0a16_16 : decode cJ7_fill_d0a16 16 = .ok (.iinc 3 1, 3) := by decide +kernel
theorem dJ7_fill_d0a16_19 : decode cJ7_fill_d0a16 19 = .ok (.goto (-13), 3) := by decide +kernel
theorem dJ7_fill_d0a16_22 : decode cJ7_fill_d0a16 22 = .ok (.return_, 1) := by decide +kernel
theorem dJ7_fill_53178_0 : decode cJ7_fill_53178 0 = .ok (.iconst 0, 1) := by decide +kernel
theorem dJ7_fill_53178_1 : decode cJ7_fill_53178 1 = .ok (.istore_n 2, 1) := by decide +kernel
theorem dJ7_fill_53178_2 : decode cJ7_fill_53178 2 = .ok (.aload_n 0, 1) := by decide +kernel
theorem dJ7_fill_53178_3 : decode cJ7_fill_53178 3 = .ok (.arraylength, 1) := by decide +kernel
theorem dJ7_fill_53178_4 : decode cJ7_fill_53178 4 = .ok (.istore_n 3, 1) := by decide +kernel
theorem dJ7_fill_53178_5 : decode cJ7_fill_53178 5 = .ok (.iload_n 2, 1) := by decide +kernel
theorem dJ7_fill_53178_6 : decode cJ7_fill_53178 6 = .ok (.iload_n 3, 1) := by decide +kernel
theorem dJ7_fill_53178_7 : decode cJ7_fill_53178 7 = .ok (.if_icmp .ge 13, 3) := by decide +kernel
theorem dJ7_fill_53178_10 : decode cJ7_fill_53178 10 = .ok (.aload_n 0, 1) := by decide +kernel
theorem dJ7_fill_53178_11 : decode cJ7_fill_53178 11 = .ok (.iload_n 2, 1) := by decide +kernel
theorem dJ7_fill_53178_12 : decode cJ7_fill_53178 12 = .ok (.iload_n 1, 1) := by decide +kernel
theorem dJ7_fill_53178_13 : decode cJ7_fill_53178 13 = .ok (.iastore, 1) := by decide +kernel
theorem dJ7_fill_53178_14 : decode cJ7_fill_53178 14 = .ok (.iinc 2 1, 3) := by decide +kernel
theorem dJ7_fill_53178_17 : decode cJ7_fill_53178 17 = .ok (.goto (-12), 3) := by decide +kernel
theorem dJ7_fill_53178_20 : decode cJ7_fill_53178 20 = .ok (.return_, 1) := by decide +kernel
end
section
abbrev cX2_init : ByteArray := prog_4_method_1_code
def yX2_init : MethodName := ⟨RX2, "<init>", "(I)V"⟩
abbrev cX2_constant : ByteArray := prog_4_method_8_code
def yX2_constant : MethodName := ⟨RX2, "constant", "(II)Z"⟩
abbrev cX2_isRow : ByteArray := prog_4_method_3_code
def yX2_isRow : MethodName := ⟨RX2, "isRow", "(I)Z"⟩
abbrev cX2_keep : ByteArray := prog_4_method_7_code
def yX2_keep : MethodName := ⟨RX2, "keep", "(I)Z"⟩
abbrev cX2_variable : ByteArray := prog_4_method_9_code
def yX2_variable : MethodName := ⟨RX2, "variable", "(II)Z"⟩
abbrev cX2_isVariable : ByteArray := prog_4_method_4_code
def yX2_isVariable : MethodName := ⟨RX2, "isVariable", "(I)Z"⟩
abbrev cX2_value : ByteArray := prog_4_method_6_code
def yX2_value : MethodName := ⟨RX2, "value", "(II)I"⟩
abbrev cX2_combine : ByteArray := prog_4_method_10_code
def yX2_combine : MethodName := ⟨RX2, "combine", "(IIII)Z"⟩
abbrev cX2_has : ByteArray := prog_4_method_5_code
def yX2_has : MethodName := ⟨RX2, "has", "(II)Z"⟩
abbrev cX2_choose : ByteArray := prog_4_method_11_code
def yX2_choose : MethodName := ⟨RX2, "choose", "(IIII)Z"⟩
abbrev cX2_fix : ByteArray := prog_4_method_12_code
def yX2_fix : MethodName := ⟨RX2, "fix", "(IIII)Z"⟩
abbrev cX2_exists : ByteArray := prog_4_method_13_code
def yX2_exists : MethodName := ⟨RX2, "exists", "(IIII)Z"⟩
abbrev cX2_substitute : ByteArray := prog_4_method_15_code
def yX2_substitute : MethodName := ⟨RX2, "substitute", "(III)Z"⟩
abbrev cX2_led : ByteArray := prog_4_method_14_code
def yX2_led : MethodName := ⟨RX2, "led", "(III)I"⟩
abbrev cX2_nearest : ByteArray := prog_4_method_16_code
def yX2_nearest : MethodName := ⟨RX2, "nearest", "(III)Z"⟩
abbrev cX2_image : ByteArray := prog_4_method_17_code
def yX2_image : MethodName := ⟨RX2, "image", "(IIII)Z"⟩
abbrev cX2_forks : ByteArray := prog_4_method_19_code
def yX2_forks : MethodName := ⟨RX2, "forks", "(I)I"⟩
abbrev cX2_alike : ByteArray := prog_4_method_18_code
def yX2_alike : MethodName := ⟨RX2, "alike", "(IIII)Z"⟩
abbrev cX2_ones : ByteArray := prog_4_method_20_code
def yX2_ones : MethodName := ⟨RX2, "ones", "(I)I"⟩
abbrev cX2_least : ByteArray := prog_4_method_21_code
def yX2_least : MethodName := ⟨RX2, "least", "(I)I"⟩
abbrev cX2_at : ByteArray := prog_4_method_22_code
def yX2_at : MethodName := ⟨RX2, "at", "(II)I"⟩
abbrev cX2_same : ByteArray := prog_4_method_23_code
def yX2_same : MethodName := ⟨RX2, "same", "(II)Z"⟩
def BX2a : List Cond := [Cond.initialized RX2, Cond.fieldLink RX2 8 "ForkDeskModel" "rows" "[Z", Cond.fieldLink RX2 14 "ForkDeskModel" "made" "[Z", Cond.fieldLink RX2 17 "ForkDeskModel" "parts" "[I", Cond.fieldLink RX2 21 "ForkDeskModel" "n" "I", Cond.fieldLink RX2 25 "ForkDeskModel" "points" "I", Cond.fieldLink RX2 28 "ForkDeskModel" "thrown" "I", Cond.methodLink RX2 31 yX2_isRow, Cond.static yX2_isRow, Cond.code yX2_isRow cX2_isRow 1 (some .boolean), Cond.methodLink RX2 35 yX2_keep, Cond.instanceMethod yX2_keep, Cond.selects RX2 yX2_keep yX2_keep, Cond.code yX2_keep cX2_keep 3 (some .boolean), Cond.methodLink RX2 38 yX2_isVariable, Cond.instanceMethod yX2_isVariable, Cond.selects RX2 yX2_isVariable yX2_isVariable, Cond.code yX2_isVariable cX2_isVariable 2 (some .boolean), Cond.methodLink RX2 41 yX2_value, Cond.instanceMethod yX2_value, Cond.selects RX2 yX2_value yX2_value, Cond.code yX2_value cX2_value 3 (some .int), Cond.methodLink RX2 45 yX2_has, Cond.instanceMethod yX2_has, Cond.selects RX2 yX2_has yX2_has, Cond.code yX2_has cX2_has 3 (some .boolean), Cond.methodLink RX2 49 yX2_led, Cond.instanceMethod yX2_led, Cond.selects RX2 yX2_led yX2_led, Cond.code yX2_led cX2_led 6 (some .int), Cond.methodLink RX2 53 yX2_alike, Cond.instanceMethod yX2_alike, Cond.selects RX2 yX2_alike yX2_alike, Cond.code yX2_alike cX2_alike 6 (some .boolean)]
def BX2 : List Cond := BX2a ++ wsX20
def wsX2_constant : List Cond := .code yX2_constant cX2_constant 4 (some .boolean) :: BX2
def wsX2_isRow : List Cond := .code yX2_isRow cX2_isRow 1 (some .boolean) :: BX2
def wsX2_keep : List Cond := .code yX2_keep cX2_keep 3 (some .boolean) :: BX2
def wsX2_variable : List Cond := .code yX2_variable cX2_variable 4 (some .boolean) :: BX2
def wsX2_isVariable : List Cond := .code yX2_isVariable cX2_isVariable 2 (some .boolean) :: BX2
def wsX2_value : List Cond := .code yX2_value cX2_value 3 (some .int) :: BX2
def wsX2_combine : List Cond := .code yX2_combine cX2_combine 8 (some .boolean) :: BX2
def wsX2_has : List Cond := .code yX2_has cX2_has 3 (some .boolean) :: BX2
def wsX2_choose : List Cond := .code yX2_choose cX2_choose 6 (some .boolean) :: BX2
def wsX2_fix : List Cond := .code yX2_fix cX2_fix 7 (some .boolean) :: BX2
def wsX2_exists : List Cond := .code yX2_exists cX2_exists 8 (some .boolean) :: BX2
def wsX2_substitute : List Cond := .code yX2_substitute cX2_substitute 5 (some .boolean) :: BX2
def wsX2_led : List Cond := .code yX2_led cX2_led 6 (some .int) :: BX2
def wsX2_nearest : List Cond := .code yX2_nearest cX2_nearest 6 (some .boolean) :: BX2
def wsX2_image : List Cond := .code yX2_image cX2_image 9 (some .boolean) :: BX2
def wsX2_forks : List Cond := .code yX2_forks cX2_forks 8 (some .int) :: BX2
def wsX2_alike : List Cond := .code yX2_alike cX2_alike 6 (some .boolean) :: BX2
def wsX2_ones : List Cond := .code yX2_ones cX2_ones 4 (some .int) :: BX2
def wsX2_least : List Cond := .code yX2_least cX2_least 3 (some .int) :: BX2
def wsX2_at : List Cond := .code yX2_at cX2_at 3 (some .int) :: BX2
def wsX2_same : List Cond := .code yX2_same cX2_same 3 (some .boolean) :: BX2
theorem inBX2 : ∀ w ∈ wsX20, w ∈ BX2 := fun _ h => List.mem_append_right _ h
theorem goodIn_mono {c : Cond} {big ws : List Cond} (h : GoodIn big ws) : GoodIn (c :: big) ws := fun w hw => ⟨List.mem_cons_of_mem _ (h w hw).1, (h w hw).2⟩
set_option maxRecDepth 20000 in
theorem gX2_isRow : GoodIn BX2 (va_wsS RX2 31 yX2_isRow wsX2_isRow) := goodIn_r _ [7, 8, 0, 9, 0, 1, 2, 3, 4, 5, 6, 7, 8, 9, 10, 11, 12, 13, 14, 15, 16, 17, 18, 19, 20, 21, 22, 23, 24, 25, 26, 27, 28, 29, 30, 31, 32, 33, 34, 35, 36, 37, 38, 39] (by decide +kernel) (by decide +kernel)
set_option maxRecDepth 20000 in
theorem gX2_keep : GoodIn BX2 (wsV RX2 35 RX2 yX2_keep wsX2_keep) := goodIn_r _ [10, 11, 12, 0, 13, 0, 1, 2, 3, 4, 5, 6, 7, 8, 9, 10, 11, 12, 13, 14, 15, 16, 17, 18, 19, 20, 21, 22, 23, 24, 25, 26, 27, 28, 29, 30, 31, 32, 33, 34, 35, 36, 37, 38, 39] (by decide +kernel) (by decide +kernel)
set_option maxRecDepth 20000 in
theorem gX2_isVariable : GoodIn BX2 (wsV RX2 38 RX2 yX2_isVariable wsX2_isVariable) := goodIn_r _ [14, 15, 16, 0, 17, 0, 1, 2, 3, 4, 5, 6, 7, 8, 9, 10, 11, 12, 13, 14, 15, 16, 17, 18, 19, 20, 21, 22, 23, 24, 25, 26, 27, 28, 29, 30, 31, 32, 33, 34, 35, 36, 37, 38, 39] (by decide +kernel) (by decide +kernel)
set_option maxRecDepth 20000 in
theorem gX2_value : GoodIn BX2 (wsV RX2 41 RX2 yX2_value wsX2_value) := goodIn_r _ [18, 19, 20, 0, 21, 0, 1, 2, 3, 4, 5, 6, 7, 8, 9, 10, 11, 12, 13, 14, 15, 16, 17, 18, 19, 20, 21, 22, 23, 24, 25, 26, 27, 28, 29, 30, 31, 32, 33, 34, 35, 36, 37, 38, 39] (by decide +kernel) (by decide +kernel)
set_option maxRecDepth 20000 in
theorem gX2_has : GoodIn BX2 (wsV RX2 45 RX2 yX2_has wsX2_has) := goodIn_r _ [22, 23, 24, 0, 25, 0, 1, 2, 3, 4, 5, 6, 7, 8, 9, 10, 11, 12, 13, 14, 15, 16, 17, 18, 19, 20, 21, 22, 23, 24, 25, 26, 27, 28, 29, 30, 31, 32, 33, 34, 35, 36, 37, 38, 39] (by decide +kernel) (by decide +kernel)
set_option maxRecDepth 20000 in
theorem gX2_led : GoodIn BX2 (wsV RX2 49 RX2 yX2_led wsX2_led) := goodIn_r _ [26, 27, 28, 0, 29, 0, 1, 2, 3, 4, 5, 6, 7, 8, 9, 10, 11, 12, 13, 14, 15, 16, 17, 18, 19, 20, 21, 22, 23, 24, 25, 26, 27, 28, 29, 30, 31, 32, 33, 34, 35, 36, 37, 38, 39] (by decide +kernel) (by decide +kernel)
set_option maxRecDepth 20000 in
theorem gX2_alike : GoodIn BX2 (wsV RX2 53 RX2 yX2_alike wsX2_alike) := goodIn_r _ [30, 31, 32, 0, 33, 0, 1, 2, 3, 4, 5, 6, 7, 8, 9, 10, 11, 12, 13, 14, 15, 16, 17, 18, 19, 20, 21, 22, 23, 24, 25, 26, 27, 28, 29, 30, 31, 32, 33, 34, 35, 36, 37, 38, 39] (by decide +kernel) (by decide +kernel)
theorem dX2_init_0 : decode cX2_init 0 = .ok (.aload_n 0, 1) := by decide +kernel
theorem dX2_init_1 : decode cX2_init 1 = .ok (.invokespecial 1, 3) := by decide +kernel
theorem dX2_init_4 : decode cX2_init 4 = .ok (.aload_n 0, 1) := by decide +kernel
theorem dX2_init_5 : decode cX2_init 5 = .ok (.ldc 7, 2) := by decide +kernel
theorem dX2_init_7 : decode cX2_init 7 = .ok (.newarray .boolean, 2) := by decide +kernel
theorem dX2_init_9 : decode cX2_init 9 = .ok (.putfield 8, 3) := by decide +kernel
theorem dX2_init_12 : decode cX2_init 12 = .ok (.aload_n 0, 1) := by decide +kernel
theorem dX2_init_13 : decode cX2_init 13 = .ok (.sipush 4096, 3) := by decide +kernel
theorem dX2_init_16 : decode cX2_init 16 = .ok (.newarray .boolean, 2) := by decide +kernel
theorem dX2_init_18 : decode cX2_init 18 = .ok (.putfield 14, 3) := by decide +kernel
theorem dX2_init_21 : decode cX2_init 21 = .ok (.aload_n 0, 1) := by decide +kernel
theorem dX2_init_22 : decode cX2_init 22 = .ok (.sipush 2048, 3) := by decide +kernel
theorem dX2_init_25 : decode cX2_init 25 = .ok (.newarray .int, 2) := by decide +kernel
theorem dX2_init_27 : decode cX2_init 27 = .ok (.putfield 17, 3) := by decide +kernel
theorem dX2_init_30 : decode cX2_init 30 = .ok (.aload_n 0, 1) := by decide +kernel
theorem dX2_init_31 : decode cX2_init 31 = .ok (.iload_n 1, 1) := by decide +kernel
theorem dX2_init_32 : decode cX2_init 32 = .ok (.iconst 1, 1) := by decide +kernel
theorem dX2_init_33 : decode cX2_init 33 = .ok (.if_icmp .ge 7, 3) := by decide +kernel
theorem dX2_init_36 : decode cX2_init 36 = .ok (.iconst 1, 1) := by decide +kernel
theorem dX2_init_37 : decode cX2_init 37 = .ok (.goto 15, 3) := by decide +kernel
theorem dX2_init_40 : decode cX2_init 40 = .ok (.iload_n 1, 1) := by decide +kernel
theorem dX2_init_41 : decode cX2_init 41 = .ok (.bipush 12, 2) := by decide +kernel
theorem dX2_init_43 : decode cX2_init 43 = .ok (.if_icmp .le 8, 3) := by decide +kernel
theorem dX2_init_46 : decode cX2_init 46 = .ok (.bipush 12, 2) := by decide +kernel
theorem dX2_init_48 : decode cX2_init 48 = .ok (.goto 4, 3) := by decide +kernel
theorem dX2_init_51 : decode cX2_init 51 = .ok (.iload_n 1, 1) := by decide +kernel
theorem dX2_init_52 : decode cX2_init 52 = .ok (.putfield 21, 3) := by decide +kernel
theorem dX2_init_55 : decode cX2_init 55 = .ok (.aload_n 0, 1) := by decide +kernel
theorem dX2_init_56 : decode cX2_init 56 = .ok (.iconst 1, 1) := by decide +kernel
theorem dX2_init_57 : decode cX2_init 57 = .ok (.aload_n 0, 1) := by decide +kernel
theorem dX2_init_58 : decode cX2_init 58 = .ok (.getfield 21, 3) := by decide +kernel
theorem dX2_init_61 : decode cX2_init 61 = .ok (.ishl, 1) := by decide +kernel
theorem dX2_init_62 : decode cX2_init 62 = .ok (.putfield 25, 3) := by decide +kernel
theorem dX2_init_65 : decode cX2_init 65 = .ok (.return_, 1) := by decide +kernel
theorem dX2_constant_0 : decode cX2_constant 0 = .ok (.aload_n 0, 1) := by decide +kernel
theorem dX2_constant_1 : decode cX2_constant 1 = .ok (.iconst 0, 1) := by decide +kernel
theorem dX2_constant_2 : decode cX2_constant 2 = .ok (.putfield 28, 3) := by decide +kernel
theorem dX2_constant_5 : decode cX2_constant 5 = .ok (.iload_n 1, 1) := by decide +kernel
theorem dX2_constant_6 : decode cX2_constant 6 = .ok (.invokestatic 31, 3) := by decide +kernel
theorem dX2_constant_9 : decode cX2_constant 9 = .ok (.ifCond .eq 12, 3) := by decide +kernel
theorem dX2_constant_12 : decode cX2_constant 12 = .ok (.iload_n 2, 1) := by decide +kernel
theorem dX2_constant_13 : decode cX2_constant 13 = .ok (.ifCond .lt 8, 3) := by decide +kernel
theorem dX2_constant_16 : decode cX2_constant 16 = .ok (.iload_n 2, 1) := by decide +kernel
theorem dX2_constant_17 : decode cX2_constant 17 = .ok (.iconst 1, 1) := by decide +kernel
theorem dX2_constant_18 : decode cX2_constant 18 = .ok (.if_icmp .le 5, 3) := by decide +kernel
theorem dX2_constant_21 : decode cX2_constant 21 = .ok (.iconst 0, 1) := by decide +kernel
theorem dX2_constant_22 : decode cX2_constant 22 = .ok (.ireturn, 1) := by decide +kernel
theorem dX2_constant_23 : decode cX2_constant 23 = .ok (.iconst 0, 1) := by decide +kernel
theorem dX2_constant_24 : decode cX2_constant 24 = .ok (.istore_n 3, 1) := by decide +kernel
theorem dX2_constant_25 : decode cX2_constant 25 = .ok (.iload_n 3, 1) := by decide +kernel
theorem dX2_constant_26 : decode cX2_constant 26 = .ok (.aload_n 0, 1) := by decide +kernel
theorem dX2_constant_27 : decode cX2_constant 27 = .ok (.getfield 25, 3) := by decide +kernel
theorem dX2_constant_30 : decode cX2_constant 30 = .ok (.if_icmp .ge 25, 3) := by decide +kernel
theorem dX2_constant_33 : decode cX2_constant 33 = .ok (.aload_n 0, 1) := by decide +kernel
theorem dX2_constant_34 : decode cX2_constant 34 = .ok (.getfield 14, 3) := by decide +kernel
theorem dX2_constant_37 : decode cX2_constant 37 = .ok (.iload_n 3, 1) := by decide +kernel
theorem dX2_constant_38 : decode cX2_constant 38 = .ok (.iload_n 2, 1) := by decide +kernel
theorem dX2_constant_39 : decode cX2_constant 39 = .ok (.iconst 1, 1) := by decide +kernel
theorem dX2_constant_40 : decode cX2_constant 40 = .ok (.if_icmp .ne 7, 3) := by decide +kernel
theorem dX2_constant_43 : decode cX2_constant 43 = .ok (.iconst 1, 1) := by decide +kernel
theorem dX2_constant_44 : decode cX2_constant 44 = .ok (.goto 4, 3) := by decide +kernel
theorem dX2_constant_47 : decode cX2_constant 47 = .ok (.iconst 0, 1) := by decide +kernel
theorem dX2_constant_48 : decode cX2_constant 48 = .ok (.bastore, 1) := by decide +kernel
theorem dX2_constant_49 : decode cX2_constant 49 = .ok (.iinc 3 1, 3) := by decide +kernel
theorem dX2_constant_52 : decode cX2_constant 52 = .ok (.goto (-27), 3) := by decide +kernel
theorem dX2_constant_55 : decode cX2_constant 55 = .ok (.aload_n 0, 1) := by decide +kernel
theorem dX2_constant_56 : decode cX2_constant 56 = .ok (.iload_n 1, 1) := by decide +kernel
theorem dX2_constant_57 : decode cX2_constant 57 = .ok (.invokevirtual 35, 3) := by decide +kernel
theorem dX2_constant_60 : decode cX2_constant 60 = .ok (.ireturn, 1) := by decide +kernel
theorem dX2_isRow_0 : decode cX2_isRow 0 = .ok (.iload_n 0, 1) := by decide +kernel
theorem dX2_isRow_1 : decode cX2_isRow 1 = .ok (.ifCond .lt 13, 3) := by decide +kernel
theorem dX2_isRow_4 : decode cX2_isRow 4 = .ok (.iload_n 0, 1) := by decide +kernel
theorem dX2_isRow_5 : decode cX2_isRow 5 = .ok (.bipush 32, 2) := by decide +kernel
theorem dX2_isRow_7 : decode cX2_isRow 7 = .ok (.if_icmp .ge 7, 3) := by decide +kernel
theorem dX2_isRow_10 : decode cX2_isRow 10 = .ok (.iconst 1, 1) := by decide +kernel
theorem dX2_isRow_11 : decode cX2_isRow 11 = .ok (.goto 4, 3) := by decide +kernel
theorem dX2_isRow_14 : decode cX2_isRow 14 = .ok (.iconst 0, 1) := by decide +kernel
theorem dX2_isRow_15 : decode cX2_isRow 15 = .ok (.ireturn, 1) := by decide +kernel
theorem dX2_keep_0 : decode cX2_keep 0 = .ok (.iconst 0, 1) := by decide +kernel
theorem dX2_keep_1 : decode cX2_keep 1 = .ok (.istore_n 2, 1) := by decide +kernel
theorem dX2_keep_2 : decode cX2_keep 2 = .ok (.iload_n 2, 1) := by decide +kernel
theorem dX2_keep_3 : decode cX2_keep 3 = .ok (.aload_n 0, 1) := by decide +kernel
theorem dX2_keep_4 : decode cX2_keep 4 = .ok (.getfield 25, 3) := by decide +kernel
theorem dX2_keep_7 : decode cX2_keep 7 = .ok (.if_icmp .ge 27, 3) := by decide +kernel
theorem dX2_keep_10 : decode cX2_keep 10 = .ok (.aload_n 0, 1) := by decide +kernel
theorem dX2_keep_11 : decode cX2_keep 11 = .ok (.getfield 8, 3) := by decide +kernel
theorem dX2_keep_14 : decode cX2_keep 14 = .ok (.sipush 4096, 3) := by decide +kernel
theorem dX2_keep_17 : decode cX2_keep 17 = .ok (.iload_n 1, 1) := by decide +kernel
theorem dX2_keep_18 : decode cX2_keep 18 = .ok (.imul, 1) := by decide +kernel
theorem dX2_keep_19 : decode cX2_keep 19 = .ok (.iload_n 2, 1) := by decide +kernel
theorem dX2_keep_20 : decode cX2_keep 20 = .ok (.iadd, 1) := by decide +kernel
theorem dX2_keep_21 : decode cX2_keep 21 = .ok (.aload_n 0, 1) := by decide +kernel
theorem dX2_keep_22 : decode cX2_keep 22 = .ok (.getfield 14, 3) := by decide +kernel
theorem dX2_keep_25 : decode cX2_keep 25 = .ok (.iload_n 2, 1) := by decide +kernel
theorem dX2_keep_26 : decode cX2_keep 26 = .ok (.baload, 1) := by decide +kernel
theorem dX2_keep_27 : decode cX2_keep 27 = .ok (.bastore, 1) := by decide +kernel
theorem dX2_keep_28 : decode cX2_keep 28 = .ok (.iinc 2 1, 3) := by decide +kernel
theorem dX2_keep_31 : decode cX2_keep 31 = .ok (.goto (-29), 3) := by decide +kernel
theorem dX2_keep_34 : decode cX2_keep 34 = .ok (.iconst 1, 1) := by decide +kernel
theorem dX2_keep_35 : decode cX2_keep 35 = .ok (.ireturn, 1) := by decide +kernel
theorem dX2_variable_0 : decode cX2_variable 0 = .ok (.aload_n 0, 1) := by decide +kernel
theorem dX2_variable_1 : decode cX2_variable 1 = .ok (.iconst 0, 1) := by decide +kernel
theorem dX2_variable_2 : decode cX2_variable 2 = .ok (.putfield 28, 3) := by decide +kernel
theorem dX2_variable_5 : decode cX2_variable 5 = .ok (.iload_n 1, 1) := by decide +kernel
theorem dX2_variable_6 : decode cX2_variable 6 = .ok (.invokestatic 31, 3) := by decide +kernel
theorem dX2_variable_9 : decode cX2_variable 9 = .ok (.ifCond .eq 11, 3) := by decide +kernel
theorem dX2_variable_12 : decode cX2_variable 12 = .ok (.aload_n 0, 1) := by decide +kernel
theorem dX2_variable_13 : decode cX2_variable 13 = .ok (.iload_n 2, 1) := by decide +kernel
theorem dX2_variable_14 : decode cX2_variable 14 = .ok (.invokevirtual 38, 3) := by decide +kernel
theorem dX2_variable_17 : decode cX2_variable 17 = .ok (.ifCond .ne 5, 3) := by decide +kernel
theorem dX2_variable_20 : decode cX2_variable 20 = .ok (.iconst 0, 1) := by decide +kernel
theorem dX2_variable_21 : decode cX2_variable 21 = .ok (.ireturn, 1) := by decide +kernel
theorem dX2_variable_22 : decode cX2_variable 22 = .ok (.iconst 0, 1) := by decide +kernel
theorem dX2_variable_23 : decode cX2_variable 23 = .ok (.istore_n 3, 1) := by decide +kernel
theorem dX2_variable_24 : decode cX2_variable 24 = .ok (.iload_n 3, 1) := by decide +kernel
theorem dX2_variable_25 : decode cX2_variable 25 = .ok (.aload_n 0, 1) := by decide +kernel
theorem dX2_variable_26 : decode cX2_variable 26 = .ok (.getfield 25, 3) := by decide +kernel
theorem dX2_variable_29 : decode cX2_variable 29 = .ok (.if_icmp .ge 30, 3) := by decide +kernel
theorem dX2_variable_32 : decode cX2_variable 32 = .ok (.aload_n 0, 1) := by decide +kernel
theorem dX2_variable_33 : decode cX2_variable 33 = .ok (.getfield 14, 3) := by decide +kernel
theorem dX2_variable_36 : decode cX2_variable 36 = .ok (.iload_n 3, 1) := by decide +kernel
theorem dX2_variable_37 : decode cX2_variable 37 = .ok (.aload_n 0, 1) := by decide +kernel
theorem dX2_variable_38 : decode cX2_variable 38 = .ok (.iload_n 2, 1) := by decide +kernel
theorem dX2_variable_39 : decode cX2_variable 39 = .ok (.iload_n 3, 1) := by decide +kernel
theorem dX2_variable_40 : decode cX2_variable 40 = .ok (.invokevirtual 41, 3) := by decide +kernel
theorem dX2_variable_43 : decode cX2_variable 43 = .ok (.iconst 1, 1) := by decide +kernel
theorem dX2_variable_44 : decode cX2_variable 44 = .ok (.if_icmp .ne 7, 3) := by decide +kernel
theorem dX2_variable_47 : decode cX2_variable 47 = .ok (.iconst 1, 1) := by decide +kernel
theorem dX2_variable_48 : decode cX2_variable 48 = .ok (.goto 4, 3) := by decide +kernel
theorem dX2_variable_51 : decode cX2_variable 51 = .ok (.iconst 0, 1) := by decide +kernel
theorem dX2_variable_52 : decode cX2_variable 52 = .ok (.bastore, 1) := by decide +kernel
theorem dX2_variable_53 : decode cX2_variable 53 = .ok (.iinc 3 1, 3) := by decide +kernel
theorem dX2_variable_56 : decode cX2_variable 56 = .ok (.goto (-32), 3) := by decide +kernel
theorem dX2_variable_59 : decode cX2_variable 59 = .ok (.aload_n 0, 1) := by decide +kernel
theorem dX2_variable_60 : decode cX2_variable 60 = .ok (.iload_n 1, 1) := by decide +kernel
theorem dX2_variable_61 : decode cX2_variable 61 = .ok (.invokevirtual 35, 3) := by decide +kernel
theorem dX2_variable_64 : decode cX2_variable 64 = .ok (.ireturn, 1) := by decide +kernel
theorem dX2_isVariable_0 : decode cX2_isVariable 0 = .ok (.iload_n 1, 1) := by decide +kernel
theorem dX2_isVariable_1 : decode cX2_isVariable 1 = .ok (.iconst 1, 1) := by decide +kernel
theorem dX2_isVariable_2 : decode cX2_isVariable 2 = .ok (.if_icmp .lt 15, 3) := by decide +kernel
theorem dX2_isVariable_5 : decode cX2_isVariable 5 = .ok (.iload_n 1, 1) := by decide +kernel
theorem dX2_isVariable_6 : decode cX2_isVariable 6 = .ok (.aload_n 0, 1) := by decide +kernel
theorem dX2_isVariable_7 : decode cX2_isVariable 7 = .ok (.getfield 21, 3) := by decide +kernel
theorem dX2_isVariable_10 : decode cX2_isVariable 10 = .ok (.if_icmp .gt 7, 3) := by decide +kernel
theorem dX2_isVariable_13 : decode cX2_isVariable 13 = .ok (.iconst 1, 1) := by decide +kernel
theorem dX2_isVariable_14 : decode cX2_isVariable 14 = .ok (.goto 4, 3) := by decide +kernel
theorem dX2_isVariable_17 : decode cX2_isVariable 17 = .ok (.iconst 0, 1) := by decide +kernel
theorem dX2_isVariable_18 : decode cX2_isVariable 18 = .ok (.ireturn, 1) := by decide +kernel
theorem dX2_value_0 : decode cX2_value 0 = .ok (.iload_n 2, 1) := by decide +kernel
theorem dX2_value_1 : decode cX2_value 1 = .ok (.aload_n 0, 1) := by decide +kernel
theorem dX2_value_2 : decode cX2_value 2 = .ok (.getfield 21, 3) := by decide +kernel
theorem dX2_value_5 : decode cX2_value 5 = .ok (.iload_n 1, 1) := by decide +kernel
theorem dX2_value_6 : decode cX2_value 6 = .ok (.isub, 1) := by decide +kernel
theorem dX2_value_7 : decode cX2_value 7 = .ok (.ishr, 1) := by decide +kernel
theorem dX2_value_8 : decode cX2_value 8 = .ok (.iconst 1, 1) := by decide +kernel
theorem dX2_value_9 : decode cX2_value 9 = .ok (.iand, 1) := by decide +kernel
theorem dX2_value_10 : decode cX2_value 10 = .ok (.ireturn, 1) := by decide +kernel
theorem dX2_combine_0 : decode cX2_combine 0 = .ok (.aload_n 0, 1) := by decide +kernel
theorem dX2_combine_1 : decode cX2_combine 1 = .ok (.iconst 0, 1) := by decide +kernel
theorem dX2_combine_2 : decode cX2_combine 2 = .ok (.putfield 28, 3) := by decide +kernel
theorem dX2_combine_5 : decode cX2_combine 5 = .ok (.iload_n 1, 1) := by decide +kernel
theorem dX2_combine_6 : decode cX2_combine 6 = .ok (.invokestatic 31, 3) := by decide +kernel
theorem dX2_combine_9 : decode cX2_combine 9 = .ok (.ifCond .eq 27, 3) := by decide +kernel
theorem dX2_combine_12 : decode cX2_combine 12 = .ok (.iload_n 3, 1) := by decide +kernel
theorem dX2_combine_13 : decode cX2_combine 13 = .ok (.invokestatic 31, 3) := by decide +kernel
theorem dX2_combine_16 : decode cX2_combine 16 = .ok (.ifCond .eq 20, 3) := by decide +kernel
theorem dX2_combine_19 : decode cX2_combine 19 = .ok (.iload 4, 2) := by decide +kernel
theorem dX2_combine_21 : decode cX2_combine 21 = .ok (.invokestatic 31, 3) := by decide +kernel
theorem dX2_combine_24 : decode cX2_combine 24 = .ok (.ifCond .eq 12, 3) := by decide +kernel
theorem dX2_combine_27 : decode cX2_combine 27 = .ok (.iload_n 2, 1) := by decide +kernel
theorem dX2_combine_28 : decode cX2_combine 28 = .ok (.ifCond .lt 8, 3) := by decide +kernel
theorem dX2_combine_31 : decode cX2_combine 31 = .ok (.iload_n 2, 1) := by decide +kernel
theorem dX2_combine_32 : decode cX2_combine 32 = .ok (.iconst 3, 1) := by decide +kernel
theorem dX2_combine_33 : decode cX2_combine 33 = .ok (.if_icmp .le 5, 3) := by decide +kernel
theorem dX2_combine_36 : decode cX2_combine 36 = .ok (.iconst 0, 1) := by decide +kernel
theorem dX2_combine_37 : decode cX2_combine 37 = .ok (.ireturn, 1) := by decide +kernel
theorem dX2_combine_38 : decode cX2_combine 38 = .ok (.iconst 0, 1) := by decide +kernel
theorem dX2_combine_39 : decode cX2_combine 39 = .ok (.istore 5, 2) := by decide +kernel
theorem dX2_combine_41 : decode cX2_combine 41 = .ok (.iload 5, 2) := by decide +kernel
theorem dX2_combine_43 : decode cX2_combine 43 = .ok (.aload_n 0, 1) := by decide +kernel
theorem dX2_combine_44 : decode cX2_combine 44 = .ok (.getfield 25, 3) := by decide +kernel
theorem dX2_combine_47 : decode cX2_combine 47 = .ok (.if_icmp .ge 115, 3) := by decide +kernel
theorem dX2_combine_50 : decode cX2_combine 50 = .ok (.aload_n 0, 1) := by decide +kernel
theorem dX2_combine_51 : decode cX2_combine 51 = .ok (.iload_n 3, 1) := by decide +kernel
theorem dX2_combine_52 : decode cX2_combine 52 = .ok (.iload 5, 2) := by decide +kernel
theorem dX2_combine_54 : decode cX2_combine 54 = .ok (.invokevirtual 45, 3) := by decide +kernel
theorem dX2_combine_57 : decode cX2_combine 57 = .ok (.istore 6, 2) := by decide +kernel
theorem dX2_combine_59 : decode cX2_combine 59 = .ok (.aload_n 0, 1) := by decide +kernel
theorem dX2_combine_60 : decode cX2_combine 60 = .ok (.iload 4, 2) := by decide +kernel
theorem dX2_combine_62 : decode cX2_combine 62 = .ok (.iload 5, 2) := by decide +kernel
theorem dX2_combine_64 : decode cX2_combine 64 = .ok (.invokevirtual 45, 3) := by decide +kernel
theorem dX2_combine_67 : decode cX2_combine 67 = .ok (.istore 7, 2) := by decide +kernel
theorem dX2_combine_69 : decode cX2_combine 69 = .ok (.aload_n 0, 1) := by decide +kernel
theorem dX2_combine_70 : decode cX2_combine 70 = .ok (.getfield 14, 3) := by decide +kernel
theorem dX2_combine_73 : decode cX2_combine 73 = .ok (.iload 5, 2) := by decide +kernel
theorem dX2_combine_75 : decode cX2_combine 75 = .ok (.iload_n 2, 1) := by decide +kernel
theorem dX2_combine_76 : decode cX2_combine 76 = .ok (.ifCond .ne 21, 3) := by decide +kernel
theorem dX2_combine_79 : decode cX2_combine 79 = .ok (.iload 6, 2) := by decide +kernel
theorem dX2_combine_81 : decode cX2_combine 81 = .ok (.ifCond .eq 12, 3) := by decide +kernel
theorem dX2_combine_84 : decode cX2_combine 84 = .ok (.iload 7, 2) := by decide +kernel
theorem dX2_combine_86 : decode cX2_combine 86 = .ok (.ifCond .eq 7, 3) := by decide +kernel
theorem dX2_combine_89 : decode cX2_combine 89 = .ok (.iconst 1, 1) := by decide +kernel
theorem dX2_combine_90 : decode cX2_combine 90 = .ok (.goto 65, 3) := by decide +kernel
theorem dX2_combine_93 : decode cX2_combine 93 = .ok (.iconst 0, 1) := by decide +kernel
theorem dX2_combine_94 : decode cX2_combine 94 = .ok (.goto 61, 3) := by decide +kernel
theorem dX2_combine_97 : decode cX2_combine 97 = .ok (.iload_n 2, 1) := by decide +kernel
theorem dX2_combine_98 : decode cX2_combine 98 = .ok (.iconst 1, 1) := by decide +kernel
theorem dX2_combine_99 : decode cX2_combine 99 = .ok (.if_icmp .ne 21, 3) := by decide +kernel
theorem dX2_combine_102 : decode cX2_combine 102 = .ok (.iload 6, 2) := by decide +kernel
theorem dX2_combine_104 : decode cX2_combine 104 = .ok (.ifCond .ne 8, 3) := by decide +kernel
theorem dX2_combine_107 : decode cX2_combine 107 = .ok (.iload 7, 2) := by decide +kernel
theorem dX2_combine_109 : decode cX2_combine 109 = .ok (.ifCond .eq 7, 3) := by decide +kernel
theorem dX2_combine_112 : decode cX2_combine 112 = .ok (.iconst 1, 1) := by decide +kernel
theorem dX2_combine_113 : decode cX2_combine 113 = .ok (.goto 42, 3) := by decide +kernel
theorem dX2_combine_116 : decode cX2_combine 116 = .ok (.iconst 0, 1) := by decide +kernel
theorem dX2_combine_117 : decode cX2_combine 117 = .ok (.goto 38, 3) := by decide +kernel
theorem dX2_combine_120 : decode cX2_combine 120 = .ok (.iload_n 2, 1) := by decide +kernel
theorem dX2_combine_121 : decode cX2_combine 121 = .ok (.iconst 2, 1) := by decide +kernel
theorem dX2_combine_122 : decode cX2_combine 122 = .ok (.if_icmp .ne 18, 3) := by decide +kernel
theorem dX2_combine_125 : decode cX2_combine 125 = .ok (.iload 6, 2) := by decide +kernel
theorem dX2_combine_127 : decode cX2_combine 127 = .ok (.iload 7, 2) := by decide +kernel
theorem dX2_combine_129 : decode cX2_combine 129 = .ok (.if_icmp .eq 7, 3) := by decide +kernel
theorem dX2_combine_132 : decode cX2_combine 132 = .ok (.iconst 1, 1) := by decide +kernel
theorem dX2_combine_133 : decode cX2_combine 133 = .ok (.goto 22, 3) := by decide +kernel
theorem dX2_combine_136 : decode cX2_combine 136 = .ok (.iconst 0, 1) := by decide +kernel
theorem dX2_combine_137 : decode cX2_combine 137 = .ok (.goto 18, 3) := by decide +kernel
theorem dX2_combine_140 : decode cX2_combine 140 = .ok (.iload 6, 2) := by decide +kernel
theorem dX2_combine_142 : decode cX2_combine 142 = .ok (.ifCond .eq 12, 3) := by decide +kernel
theorem dX2_combine_145 : decode cX2_combine 145 = .ok (.iload 7, 2) := by decide +kernel
theorem dX2_combine_147 : decode cX2_combine 147 = .ok (.ifCond .ne 7, 3) := by decide +kernel
theorem dX2_combine_150 : decode cX2_combine 150 = .ok (.iconst 1, 1) := by decide +kernel
theorem dX2_combine_151 : decode cX2_combine 151 = .ok (.goto 4, 3) := by decide +kernel
theorem dX2_combine_154 : decode cX2_combine 154 = .ok (.iconst 0, 1) := by decide +kernel
theorem dX2_combine_155 : decode cX2_combine 155 = .ok (.bastore, 1) := by decide +kernel
theorem dX2_combine_156 : decode cX2_combine 156 = .ok (.iinc 5 1, 3) := by decide +kernel
theorem dX2_combine_159 : decode cX2_combine 159 = .ok (.goto (-118), 3) := by decide +kernel
theorem dX2_combine_162 : decode cX2_combine 162 = .ok (.aload_n 0, 1) := by decide +kernel
theorem dX2_combine_163 : decode cX2_combine 163 = .ok (.iload_n 1, 1) := by decide +kernel
theorem dX2_combine_164 : decode cX2_combine 164 = .ok (.invokevirtual 35, 3) := by decide +kernel
theorem dX2_combine_167 : decode cX2_combine 167 = .ok (.ireturn, 1) := by decide +kernel
theorem dX2_has_0 : decode cX2_has 0 = .ok (.aload_n 0, 1) := by decide +kernel
theorem dX2_has_1 : decode cX2_has 1 = .ok (.getfield 8, 3) := by decide +kernel
theorem dX2_has_4 : decode cX2_has 4 = .ok (.sipush 4096, 3) := by decide +kernel
theorem dX2_has_7 : decode cX2_has 7 = .ok (.iload_n 1, 1) := by decide +kernel
theorem dX2_has_8 : decode cX2_has 8 = .ok (.imul, 1) := by decide +kernel
theorem dX2_has_9 : decode cX2_has 9 = .ok (.iload_n 2, 1) := by decide +kernel
theorem dX2_has_10 : decode cX2_has 10 = .ok (.iadd, 1) := by decide +kernel
theorem dX2_has_11 : decode cX2_has 11 = .ok (.baload, 1) := by decide +kernel
theorem dX2_has_12 : decode cX2_has 12 = .ok (.ireturn, 1) := by decide +kernel
theorem dX2_choose_0 : decode cX2_choose 0 = .ok (.aload_n 0, 1) := by decide +kernel
theorem dX2_choose_1 : decode cX2_choose 1 = .ok (.iconst 0, 1) := by decide +kernel
theorem dX2_choose_2 : decode cX2_choose 2 = .ok (.putfield 28, 3) := by decide +kernel
theorem dX2_choose_5 : decode cX2_choose 5 = .ok (.iload_n 1, 1) := by decide +kernel
theorem dX2_choose_6 : decode cX2_choose 6 = .ok (.invokestatic 31, 3) := by decide +kernel
theorem dX2_choose_9 : decode cX2_choose 9 = .ok (.ifCond .eq 25, 3) := by decide +kernel
theorem dX2_choose_12 : decode cX2_choose 12 = .ok (.iload_n 2, 1) := by decide +kernel
theorem dX2_choose_13 : decode cX2_choose 13 = .ok (.invokestatic 31, 3) := by decide +kernel
theorem dX2_choose_16 : decode cX2_choose 16 = .ok (.ifCond .eq 18, 3) := by decide +kernel
theorem dX2_choose_19 : decode cX2_choose 19 = .ok (.iload_n 3, 1) := by decide +kernel
theorem dX2_choose_20 : decode cX2_choose 20 = .ok (.invokestatic 31, 3) := by decide +kernel
theorem dX2_choose_23 : decode cX2_choose 23 = .ok (.ifCond .eq 11, 3) := by decide +kernel
theorem dX2_choose_26 : decode cX2_choose 26 = .ok (.iload 4, 2) := by decide +kernel
theorem dX2_choose_28 : decode cX2_choose 28 = .ok (.invokestatic 31, 3) := by decide +kernel
theorem dX2_choose_31 : decode cX2_choose 31 = .ok (.ifCond .ne 5, 3) := by decide +kernel
theorem dX2_choose_34 : decode cX2_choose 34 = .ok (.iconst 0, 1) := by decide +kernel
theorem dX2_choose_35 : decode cX2_choose 35 = .ok (.ireturn, 1) := by decide +kernel
theorem dX2_choose_36 : decode cX2_choose 36 = .ok (.iconst 0, 1) := by decide +kernel
theorem dX2_choose_37 : decode cX2_choose 37 = .ok (.istore 5, 2) := by decide +kernel
theorem dX2_choose_39 : decode cX2_choose 39 = .ok (.iload 5, 2) := by decide +kernel
theorem dX2_choose_41 : decode cX2_choose 41 = .ok (.aload_n 0, 1) := by decide +kernel
theorem dX2_choose_42 : decode cX2_choose 42 = .ok (.getfield 25, 3) := by decide +kernel
theorem dX2_choose_45 : decode cX2_choose 45 = .ok (.if_icmp .ge 44, 3) := by decide +kernel
theorem dX2_choose_48 : decode cX2_choose 48 = .ok (.aload_n 0, 1) := by decide +kernel
theorem dX2_choose_49 : decode cX2_choose 49 = .ok (.getfield 14, 3) := by decide +kernel
theorem dX2_choose_52 : decode cX2_choose 52 = .ok (.iload 5, 2) := by decide +kernel
theorem dX2_choose_54 : decode cX2_choose 54 = .ok (.aload_n 0, 1) := by decide +kernel
theorem dX2_choose_55 : decode cX2_choose 55 = .ok (.iload_n 2, 1) := by decide +kernel
theorem dX2_choose_56 : decode cX2_choose 56 = .ok (.iload 5, 2) := by decide +kernel
theorem dX2_choose_58 : decode cX2_choose 58 = .ok (.invokevirtual 45, 3) := by decide +kernel
theorem dX2_choose_61 : decode cX2_choose 61 = .ok (.ifCond .eq 13, 3) := by decide +kernel
theorem dX2_choose_64 : decode cX2_choose 64 = .ok (.aload_n 0, 1) := by decide +kernel
theorem dX2_choose_65 : decode cX2_choose 65 = .ok (.iload_n 3, 1) := by decide +kernel
theorem dX2_choose_66 : decode cX2_choose 66 = .ok (.iload 5, 2) := by decide +kernel
theorem dX2_choose_68 : decode cX2_choose 68 = .ok (.invokevirtual 45, 3) := by decide +kernel
theorem dX2_choose_71 : decode cX2_choose 71 = .ok (.goto 11, 3) := by decide +kernel
theorem dX2_choose_74 : decode cX2_choose 74 = .ok (.aload_n 0, 1) := by decide +kernel
theorem dX2_choose_75 : decode cX2_choose 75 = .ok (.iload 4, 2) := by decide +kernel
theorem dX2_choose_77 : decode cX2_choose 77 = .ok (.iload 5, 2) := by decide +kernel
theorem dX2_choose_79 : decode cX2_choose 79 = .ok (.invokevirtual 45, 3) := by decide +kernel
theorem dX2_choose_82 : decode cX2_choose 82 = .ok (.bastore, 1) := by decide +kernel
theorem dX2_choose_83 : decode cX2_choose 83 = .ok (.iinc 5 1, 3) := by decide +kernel
theorem dX2_choose_86 : decode cX2_choose 86 = .ok (.goto (-47), 3) := by decide +kernel
theorem dX2_choose_89 : decode cX2_choose 89 = .ok (.aload_n 0, 1) := by decide +kernel
theorem dX2_choose_90 : decode cX2_choose 90 = .ok (.iload_n 1, 1) := by decide +kernel
theorem dX2_choose_91 : decode cX2_choose 91 = .ok (.invokevirtual 35, 3) := by decide +kernel
theorem dX2_choose_94 : decode cX2_choose 94 = .ok (.ireturn, 1) := by decide +kernel
theorem dX2_fix_0 : decode cX2_fix 0 = .ok (.aload_n 0, 1) := by decide +kernel
theorem dX2_fix_1 : decode cX2_fix 1 = .ok (.iconst 0, 1) := by decide +kernel
theorem dX2_fix_2 : decode cX2_fix 2 = .ok (.putfield 28, 3) := by decide +kernel
theorem dX2_fix_5 : decode cX2_fix 5 = .ok (.iload_n 1, 1) := by decide +kernel
theorem dX2_fix_6 : decode cX2_fix 6 = .ok (.invokestatic 31, 3) := by decide +kernel
theorem dX2_fix_9 : decode cX2_fix 9 = .ok (.ifCond .eq 29, 3) := by decide +kernel
theorem dX2_fix_12 : decode cX2_fix 12 = .ok (.iload_n 2, 1) := by decide +kernel
theorem dX2_fix_13 : decode cX2_fix 13 = .ok (.invokestatic 31, 3) := by decide +kernel
theorem dX2_fix_16 : decode cX2_fix 16 = .ok (.ifCond .eq 22, 3) := by decide +kernel
theorem dX2_fix_19 : decode cX2_fix 19 = .ok (.aload_n 0, 1) := by decide +kernel
theorem dX2_fix_20 : decode cX2_fix 20 = .ok (.iload_n 3, 1) := by decide +kernel
theorem dX2_fix_21 : decode cX2_fix 21 = .ok (.invokevirtual 38, 3) := by decide +kernel
theorem dX2_fix_24 : decode cX2_fix 24 = .ok (.ifCond .eq 14, 3) := by decide +kernel
theorem dX2_fix_27 : decode cX2_fix 27 = .ok (.iload 4, 2) := by decide +kernel
theorem dX2_fix_29 : decode cX2_fix 29 = .ok (.ifCond .lt 9, 3) := by decide +kernel
theorem dX2_fix_32 : decode cX2_fix 32 = .ok (.iload 4, 2) := by decide +kernel
theorem dX2_fix_34 : decode cX2_fix 34 = .ok (.iconst 1, 1) := by decide +kernel
theorem dX2_fix_35 : decode cX2_fix 35 = .ok (.if_icmp .le 5, 3) := by decide +kernel
theorem dX2_fix_38 : decode cX2_fix 38 = .ok (.iconst 0, 1) := by decide +kernel
theorem dX2_fix_39 : decode cX2_fix 39 = .ok (.ireturn, 1) := by decide +kernel
theorem dX2_fix_40 : decode cX2_fix 40 = .ok (.iconst 1, 1) := by decide +kernel
theorem dX2_fix_41 : decode cX2_fix 41 = .ok (.aload_n 0, 1) := by decide +kernel
theorem dX2_fix_42 : decode cX2_fix 42 = .ok (.getfield 21, 3) := by decide +kernel
theorem dX2_fix_45 : decode cX2_fix 45 = .ok (.iload_n 3, 1) := by decide +kernel
theorem dX2_fix_46 : decode cX2_fix 46 = .ok (.isub, 1) := by decide +kernel
theorem dX2_fix_47 : decode cX2_fix 47 = .ok (.ishl, 1) := by decide +kernel
theorem dX2_fix_48 : decode cX2_fix 48 = .ok (.istore 5, 2) := by decide +kernel
theorem dX2_fix_50 : decode cX2_fix 50 = .ok (.iconst 0, 1) := by decide +kernel
theorem dX2_fix_51 : decode cX2_fix 51 = .ok (.istore 6, 2) := by decide +kernel
theorem dX2_fix_53 : decode cX2_fix 53 = .ok (.iload 6, 2) := by decide +kernel
theorem dX2_fix_55 : decode cX2_fix 55 = .ok (.aload_n 0, 1) := by decide +kernel
theorem dX2_fix_56 : decode cX2_fix 56 = .ok (.getfield 25, 3) := by decide +kernel
theorem dX2_fix_59 : decode cX2_fix 59 = .ok (.if_icmp .ge 42, 3) := by decide +kernel
theorem dX2_fix_62 : decode cX2_fix 62 = .ok (.aload_n 0, 1) := by decide +kernel
theorem dX2_fix_63 : decode cX2_fix 63 = .ok (.getfield 14, 3) := by decide +kernel
theorem dX2_fix_66 : decode cX2_fix 66 = .ok (.iload 6, 2) := by decide +kernel
theorem dX2_fix_68 : decode cX2_fix 68 = .ok (.aload_n 0, 1) := by decide +kernel
theorem dX2_fix_69 : decode cX2_fix 69 = .ok (.iload_n 2, 1) := by decide +kernel
theorem dX2_fix_70 : decode cX2_fix 70 = .ok (.iload 4, 2) := by decide +kernel
theorem dX2_fix_72 : decode cX2_fix 72 = .ok (.iconst 1, 1) := by decide +kernel
theorem dX2_fix_73 : decode cX2_fix 73 = .ok (.if_icmp .ne 11, 3) := by decide +kernel
theorem dX2_fix_76 : decode cX2_fix 76 = .ok (.iload 6, 2) := by decide +kernel
theorem dX2_fix_78 : decode cX2_fix 78 = .ok (.iload 5, 2) := by decide +kernel
theorem dX2_fix_80 : decode cX2_fix 80 = .ok (.ior, 1) := by decide +kernel
theorem dX2_fix_81 : decode cX2_fix 81 = .ok (.goto 10, 3) := by decide +kernel
theorem dX2_fix_84 : decode cX2_fix 84 = .ok (.iload 6, 2) := by decide +kernel
theorem dX2_fix_86 : decode cX2_fix 86 = .ok (.iload 5, 2) := by decide +kernel
theorem dX2_fix_88 : decode cX2_fix 88 = .ok (.iconst (-1), 1) := by decide +kernel
theorem dX2_fix_89 : decode cX2_fix 89 = .ok (.ixor, 1) := by decide +kernel
theorem dX2_fix_90 : decode cX2_fix 90 = .ok (.iand, 1) := by decide +kernel
theorem dX2_fix_91 : decode cX2_fix 91 = .ok (.invokevirtual 45, 3) := by decide +kernel
theorem dX2_fix_94 : decode cX2_fix 94 = .ok (.bastore, 1) := by decide +kernel
theorem dX2_fix_95 : decode cX2_fix 95 = .ok (.iinc 6 1, 3) := by decide +kernel
theorem dX2_fix_98 : decode cX2_fix 98 = .ok (.goto (-45), 3) := by decide +kernel
theorem dX2_fix_101 : decode cX2_fix 101 = .ok (.aload_n 0, 1) := by decide +kernel
theorem dX2_fix_102 : decode cX2_fix 102 = .ok (.iload_n 1, 1) := by decide +kernel
theorem dX2_fix_103 : decode cX2_fix 103 = .ok (.invokevirtual 35, 3) := by decide +kernel
theorem dX2_fix_106 : decode cX2_fix 106 = .ok (.ireturn, 1) := by decide +kernel
theorem dX2_exists_0 : decode cX2_exists 0 = .ok (.aload_n 0, 1) := by decide +kernel
theorem dX2_exists_1 : decode cX2_exists 1 = .ok (.iconst 0, 1) := by decide +kernel
theorem dX2_exists_2 : decode cX2_exists 2 = .ok (.putfield 28, 3) := by decide +kernel
theorem dX2_exists_5 : decode cX2_exists 5 = .ok (.iload_n 1, 1) := by decide +kernel
theorem dX2_exists_6 : decode cX2_exists 6 = .ok (.invokestatic 31, 3) := by decide +kernel
theorem dX2_exists_9 : decode cX2_exists 9 = .ok (.ifCond .eq 33, 3) := by decide +kernel
theorem dX2_exists_12 : decode cX2_exists 12 = .ok (.iload_n 2, 1) := by decide +kernel
theorem dX2_exists_13 : decode cX2_exists 13 = .ok (.invokestatic 31, 3) := by decide +kernel
theorem dX2_exists_16 : decode cX2_exists 16 = .ok (.ifCond .eq 26, 3) := by decide +kernel
theorem dX2_exists_19 : decode cX2_exists 19 = .ok (.aload_n 0, 1) := by decide +kernel
theorem dX2_exists_20 : decode cX2_exists 20 = .ok (.iload_n 3, 1) := by decide +kernel
theorem dX2_exists_21 : decode cX2_exists 21 = .ok (.invokevirtual 38, 3) := by decide +kernel
theorem dX2_exists_24 : decode cX2_exists 24 = .ok (.ifCond .eq 18, 3) := by decide +kernel
theorem dX2_exists_27 : decode cX2_exists 27 = .ok (.aload_n 0, 1) := by decide +kernel
theorem dX2_exists_28 : decode cX2_exists 28 = .ok (.iload 4, 2) := by decide +kernel
theorem dX2_exists_30 : decode cX2_exists 30 = .ok (.invokevirtual 38, 3) := by decide +kernel
theorem dX2_exists_33 : decode cX2_exists 33 = .ok (.ifCond .eq 9, 3) := by decide +kernel
theorem dX2_exists_36 : decode cX2_exists 36 = .ok (.iload_n 3, 1) := by decide +kernel
theorem dX2_exists_37 : decode cX2_exists 37 = .ok (.iload 4, 2) := by decide +kernel
theorem dX2_exists_39 : decode cX2_exists 39 = .ok (.if_icmp .le 5, 3) := by decide +kernel
theorem dX2_exists_42 : decode cX2_exists 42 = .ok (.iconst 0, 1) := by decide +kernel
theorem dX2_exists_43 : decode cX2_exists 43 = .ok (.ireturn, 1) := by decide +kernel
theorem dX2_exists_44 : decode cX2_exists 44 = .ok (.iconst 0, 1) := by decide +kernel
theorem dX2_exists_45 : decode cX2_exists 45 = .ok (.istore 5, 2) := by decide +kernel
theorem dX2_exists_47 : decode cX2_exists 47 = .ok (.iload 5, 2) := by decide +kernel
theorem dX2_exists_49 : decode cX2_exists 49 = .ok (.aload_n 0, 1) := by decide +kernel
theorem dX2_exists_50 : decode cX2_exists 50 = .ok (.getfield 25, 3) := by decide +kernel
theorem dX2_exists_53 : decode cX2_exists 53 = .ok (.if_icmp .ge 23, 3) := by decide +kernel
theorem dX2_exists_56 : decode cX2_exists 56 = .ok (.aload_n 0, 1) := by decide +kernel
theorem dX2_exists_57 : decode cX2_exists 57 = .ok (.getfield 14, 3) := by decide +kernel
theorem dX2_exists_60 : decode cX2_exists 60 = .ok (.iload 5, 2) := by decide +kernel
theorem dX2_exists_62 : decode cX2_exists 62 = .ok (.aload_n 0, 1) := by decide +kernel
theorem dX2_exists_63 : decode cX2_exists 63 = .ok (.iload_n 2, 1) := by decide +kernel
theorem dX2_exists_64 : decode cX2_exists 64 = .ok (.iload 5, 2) := by decide +kernel
theorem dX2_exists_66 : decode cX2_exists 66 = .ok (.invokevirtual 45, 3) := by decide +kernel
theorem dX2_exists_69 : decode cX2_exists 69 = .ok (.bastore, 1) := by decide +kernel
theorem dX2_exists_70 : decode cX2_exists 70 = .ok (.iinc 5 1, 3) := by decide +kernel
theorem dX2_exists_73 : decode cX2_exists 73 = .ok (.goto (-26), 3) := by decide +kernel
theorem dX2_exists_76 : decode cX2_exists 76 = .ok (.iload_n 3, 1) := by decide +kernel
theorem dX2_exists_77 : decode cX2_exists 77 = .ok (.istore 5, 2) := by decide +kernel
theorem dX2_exists_79 : decode cX2_exists 79 = .ok (.iload 5, 2) := by decide +kernel
theorem dX2_exists_81 : decode cX2_exists 81 = .ok (.iload 4, 2) := by decide +kernel
theorem dX2_exists_83 : decode cX2_exists 83 = .ok (.if_icmp .gt 59, 3) := by decide +kernel
theorem dX2_exists_86 : decode cX2_exists 86 = .ok (.iconst 1, 1) := by decide +kernel
theorem dX2_exists_87 : decode cX2_exists 87 = .ok (.aload_n 0, 1) := by decide +kernel
theorem dX2_exists_88 : decode cX2_exists 88 = .ok (.getfield 21, 3) := by decide +kernel
theorem dX2_exists_91 : decode cX2_exists 91 = .ok (.iload 5, 2) := by decide +kernel
theorem dX2_exists_93 : decode cX2_exists 93 = .ok (.isub, 1) := by decide +kernel
theorem dX2_exists_94 : decode cX2_exists 94 = .ok (.ishl, 1) := by decide +kernel
theorem dX2_exists_95 : decode cX2_exists 95 = .ok (.istore 6, 2) := by decide +kernel
theorem dX2_exists_97 : decode cX2_exists 97 = .ok (.iconst 0, 1) := by decide +kernel
theorem dX2_exists_98 : decode cX2_exists 98 = .ok (.istore 7, 2) := by decide +kernel
theorem dX2_exists_100 : decode cX2_exists 100 = .ok (.iload 7, 2) := by decide +kernel
theorem dX2_exists_102 : decode cX2_exists 102 = .ok (.aload_n 0, 1) := by decide +kernel
theorem dX2_exists_103 : decode cX2_exists 103 = .ok (.getfield 25, 3) := by decide +kernel
theorem dX2_exists_106 : decode cX2_exists 106 = .ok (.if_icmp .ge 30, 3) := by decide +kernel
theorem dX2_exists_109 : decode cX2_exists 109 = .ok (.aload_n 0, 1) := by decide +kernel
theorem dX2_exists_110 : decode cX2_exists 110 = .ok (.getfield 14, 3) := by decide +kernel
theorem dX2_exists_113 : decode cX2_exists 113 = .ok (.iload 7, 2) := by decide +kernel
theorem dX2_exists_115 : decode cX2_exists 115 = .ok (.baload, 1) := by decide +kernel
theorem dX2_exists_116 : decode cX2_exists 116 = .ok (.ifCond .eq 14, 3) := by decide +kernel
theorem dX2_exists_119 : decode cX2_exists 119 = .ok (.aload_n 0, 1) := by decide +kernel
theorem dX2_exists_120 : decode cX2_exists 120 = .ok (.getfield 14, 3) := by decide +kernel
theorem dX2_exists_123 : decode cX2_exists 123 = .ok (.iload 7, 2) := by decide +kernel
theorem dX2_exists_125 : decode cX2_exists 125 = .ok (.iload 6, 2) := by decide +kernel
theorem dX2_exists_127 : decode cX2_exists 127 = .ok (.ixor, 1) := by decide +kernel
theorem dX2_exists_128 : decode cX2_exists 128 = .ok (.iconst 1, 1) := by decide +kernel
theorem dX2_exists_129 : decode cX2_exists 129 = .ok (.bastore, 1) := by decide +kernel
theorem dX2_exists_130 : decode cX2_exists 130 = .ok (.iinc 7 1, 3) := by decide +kernel
theorem dX2_exists_133 : decode cX2_exists 133 = .ok (.goto (-33), 3) := by decide +kernel
theorem dX2_exists_136 : decode cX2_exists 136 = .ok (.iinc 5 1, 3) := by decide +kernel
theorem dX2_exists_139 : decode cX2_exists 139 = .ok (.goto (-60), 3) := by decide +kernel
theorem dX2_exists_142 : decode cX2_exists 142 = .ok (.aload_n 0, 1) := by decide +kernel
theorem dX2_exists_143 : decode cX2_exists 143 = .ok (.iload_n 1, 1) := by decide +kernel
theorem dX2_exists_144 : decode cX2_exists 144 = .ok (.invokevirtual 35, 3) := by decide +kernel
theorem dX2_exists_147 : decode cX2_exists 147 = .ok (.ireturn, 1) := by decide +kernel
theorem dX2_substitute_0 : decode cX2_substitute 0 = .ok (.aload_n 0, 1) := by decide +kernel
theorem dX2_substitute_1 : decode cX2_substitute 1 = .ok (.iconst 0, 1) := by decide +kernel
theorem dX2_substitute_2 : decode cX2_substitute 2 = .ok (.putfield 28, 3) := by decide +kernel
theorem dX2_substitute_5 : decode cX2_substitute 5 = .ok (.iload_n 1, 1) := by decide +kernel
theorem dX2_substitute_6 : decode cX2_substitute 6 = .ok (.invokestatic 31, 3) := by decide +kernel
theorem dX2_substitute_9 : decode cX2_substitute 9 = .ok (.ifCond .eq 25, 3) := by decide +kernel
theorem dX2_substitute_12 : decode cX2_substitute 12 = .ok (.iload_n 2, 1) := by decide +kernel
theorem dX2_substitute_13 : decode cX2_substitute 13 = .ok (.invokestatic 31, 3) := by decide +kernel
theorem dX2_substitute_16 : decode cX2_substitute 16 = .ok (.ifCond .eq 18, 3) := by decide +kernel
theorem dX2_substitute_19 : decode cX2_substitute 19 = .ok (.iload_n 3, 1) := by decide +kernel
theorem dX2_substitute_20 : decode cX2_substitute 20 = .ok (.ifCond .lt 14, 3) := by decide +kernel
theorem dX2_substitute_23 : decode cX2_substitute 23 = .ok (.iload_n 3, 1) := by decide +kernel
theorem dX2_substitute_24 : decode cX2_substitute 24 = .ok (.bipush 32, 2) := by decide +kernel
theorem dX2_substitute_26 : decode cX2_substitute 26 = .ok (.aload_n 0, 1) := by decide +kernel
theorem dX2_substitute_27 : decode cX2_substitute 27 = .ok (.getfield 21, 3) := by decide +kernel
theorem dX2_substitute_30 : decode cX2_substitute 30 = .ok (.isub, 1) := by decide +kernel
theorem dX2_substitute_31 : decode cX2_substitute 31 = .ok (.if_icmp .le 5, 3) := by decide +kernel
theorem dX2_substitute_34 : decode cX2_substitute 34 = .ok (.iconst 0, 1) := by decide +kernel
theorem dX2_substitute_35 : decode cX2_substitute 35 = .ok (.ireturn, 1) := by decide +kernel
theorem dX2_substitute_36 : decode cX2_substitute 36 = .ok (.iconst 0, 1) := by decide +kernel
theorem dX2_substitute_37 : decode cX2_substitute 37 = .ok (.istore 4, 2) := by decide +kernel
theorem dX2_substitute_39 : decode cX2_substitute 39 = .ok (.iload 4, 2) := by decide +kernel
theorem dX2_substitute_41 : decode cX2_substitute 41 = .ok (.aload_n 0, 1) := by decide +kernel
theorem dX2_substitute_42 : decode cX2_substitute 42 = .ok (.getfield 25, 3) := by decide +kernel
theorem dX2_substitute_45 : decode cX2_substitute 45 = .ok (.if_icmp .ge 32, 3) := by decide +kernel
theorem dX2_substitute_48 : decode cX2_substitute 48 = .ok (.aload_n 0, 1) := by decide +kernel
theorem dX2_substitute_49 : decode cX2_substitute 49 = .ok (.getfield 14, 3) := by decide +kernel
theorem dX2_substitute_52 : decode cX2_substitute 52 = .ok (.iload 4, 2) := by decide +kernel
theorem dX2_substitute_54 : decode cX2_substitute 54 = .ok (.aload_n 0, 1) := by decide +kernel
theorem dX2_substitute_55 : decode cX2_substitute 55 = .ok (.iload_n 2, 1) := by decide +kernel
theorem dX2_substitute_56 : decode cX2_substitute 56 = .ok (.aload_n 0, 1) := by decide +kernel
theorem dX2_substitute_57 : decode cX2_substitute 57 = .ok (.iload_n 3, 1) := by decide +kernel
theorem dX2_substitute_58 : decode cX2_substitute 58 = .ok (.aload_n 0, 1) := by decide +kernel
theorem dX2_substitute_59 : decode cX2_substitute 59 = .ok (.getfield 21, 3) := by decide +kernel
theorem dX2_substitute_62 : decode cX2_substitute 62 = .ok (.iload 4, 2) := by decide +kernel
theorem dX2_substitute_64 : decode cX2_substitute 64 = .ok (.invokevirtual 49, 3) := by decide +kernel
theorem dX2_substitute_67 : decode cX2_substitute 67 = .ok (.invokevirtual 45, 3) := by decide +kernel
theorem dX2_substitute_70 : decode cX2_substitute 70 = .ok (.bastore, 1) := by decide +kernel
theorem dX2_substitute_71 : decode cX2_substitute 71 = .ok (.iinc 4 1, 3) := by decide +kernel
theorem dX2_substitute_74 : decode cX2_substitute 74 = .ok (.goto (-35), 3) := by decide +kernel
theorem dX2_substitute_77 : decode cX2_substitute 77 = .ok (.aload_n 0, 1) := by decide +kernel
theorem dX2_substitute_78 : decode cX2_substitute 78 = .ok (.iload_n 1, 1) := by decide +kernel
theorem dX2_substitute_79 : decode cX2_substitute 79 = .ok (.invokevirtual 35, 3) := by decide +kernel
theorem dX2_substitute_82 : decode cX2_substitute 82 = .ok (.ireturn, 1) := by decide +kernel
theorem dX2_led_0 : decode cX2_led 0 = .ok (.iconst 0, 1) := by decide +kernel
theorem dX2_led_1 : decode cX2_led 1 = .ok (.istore 4, 2) := by decide +kernel
theorem dX2_led_3 : decode cX2_led 3 = .ok (.iconst 0, 1) := by decide +kernel
theorem dX2_led_4 : decode cX2_led 4 = .ok (.istore 5, 2) := by decide +kernel
theorem dX2_led_6 : decode cX2_led 6 = .ok (.iload 5, 2) := by decide +kernel
theorem dX2_led_8 : decode cX2_led 8 = .ok (.iload_n 2, 1) := by decide +kernel
theorem dX2_led_9 : decode cX2_led 9 = .ok (.if_icmp .ge 33, 3) := by decide +kernel
theorem dX2_led_12 : decode cX2_led 12 = .ok (.iload 4, 2) := by decide +kernel
theorem dX2_led_14 : decode cX2_led 14 = .ok (.iconst 1, 1) := by decide +kernel
theorem dX2_led_15 : decode cX2_led 15 = .ok (.ishl, 1) := by decide +kernel
theorem dX2_led_16 : decode cX2_led 16 = .ok (.aload_n 0, 1) := by decide +kernel
theorem dX2_led_17 : decode cX2_led 17 = .ok (.iload_n 1, 1) := by decide +kernel
theorem dX2_led_18 : decode cX2_led 18 = .ok (.iload 5, 2) := by decide +kernel
theorem dX2_led_20 : decode cX2_led 20 = .ok (.iadd, 1) := by decide +kernel
theorem dX2_led_21 : decode cX2_led 21 = .ok (.iload_n 3, 1) := by decide +kernel
theorem dX2_led_22 : decode cX2_led 22 = .ok (.invokevirtual 45, 3) := by decide +kernel
theorem dX2_led_25 : decode cX2_led 25 = .ok (.ifCond .eq 7, 3) := by decide +kernel
theorem dX2_led_28 : decode cX2_led 28 = .ok (.iconst 1, 1) := by decide +kernel
theorem dX2_led_29 : decode cX2_led 29 = .ok (.goto 4, 3) := by decide +kernel
theorem dX2_led_32 : decode cX2_led 32 = .ok (.iconst 0, 1) := by decide +kernel
theorem dX2_led_33 : decode cX2_led 33 = .ok (.ior, 1) := by decide +kernel
theorem dX2_led_34 : decode cX2_led 34 = .ok (.istore 4, 2) := by decide +kernel
theorem dX2_led_36 : decode cX2_led 36 = .ok (.iinc 5 1, 3) := by decide +kernel
theorem dX2_led_39 : decode cX2_led 39 = .ok (.goto (-33), 3) := by decide +kernel
theorem dX2_led_42 : decode cX2_led 42 = .ok (.iload 4, 2) := by decide +kernel
theorem dX2_led_44 : decode cX2_led 44 = .ok (.ireturn, 1) := by decide +kernel
theorem dX2_nearest_0 : decode cX2_nearest 0 = .ok (.aload_n 0, 1) := by decide +kernel
theorem dX2_nearest_1 : decode cX2_nearest 1 = .ok (.iconst 0, 1) := by decide +kernel
theorem dX2_nearest_2 : decode cX2_nearest 2 = .ok (.putfield 28, 3) := by decide +kernel
theorem dX2_nearest_5 : decode cX2_nearest 5 = .ok (.iload_n 1, 1) := by decide +kernel
theorem dX2_nearest_6 : decode cX2_nearest 6 = .ok (.invokestatic 31, 3) := by decide +kernel
theorem dX2_nearest_9 : decode cX2_nearest 9 = .ok (.ifCond .eq 17, 3) := by decide +kernel
theorem dX2_nearest_12 : decode cX2_nearest 12 = .ok (.iload_n 2, 1) := by decide +kernel
theorem dX2_nearest_13 : decode cX2_nearest 13 = .ok (.invokestatic 31, 3) := by decide +kernel
theorem dX2_nearest_16 : decode cX2_nearest 16 = .ok (.ifCond .eq 10, 3) := by decide +kernel
theorem dX2_nearest_19 : decode cX2_nearest 19 = .ok (.iload_n 3, 1) := by decide +kernel
theorem dX2_nearest_20 : decode cX2_nearest 20 = .ok (.invokestatic 31, 3) := by decide +kernel
theorem dX2_nearest_23 : decode cX2_nearest 23 = .ok (.ifCond .ne 5, 3) := by decide +kernel
theorem dX2_nearest_26 : decode cX2_nearest 26 = .ok (.iconst 0, 1) := by decide +kernel
theorem dX2_nearest_27 : decode cX2_nearest 27 = .ok (.ireturn, 1) := by decide +kernel
theorem dX2_nearest_28 : decode cX2_nearest 28 = .ok (.iconst 0, 1) := by decide +kernel
theorem dX2_nearest_29 : decode cX2_nearest 29 = .ok (.istore 4, 2) := by decide +kernel
theorem dX2_nearest_31 : decode cX2_nearest 31 = .ok (.iload 4, 2) := by decide +kernel
theorem dX2_nearest_33 : decode cX2_nearest 33 = .ok (.aload_n 0, 1) := by decide +kernel
theorem dX2_nearest_34 : decode cX2_nearest 34 = .ok (.getfield 25, 3) := by decide +kernel
theorem dX2_nearest_37 : decode cX2_nearest 37 = .ok (.if_icmp .ge 74, 3) := by decide +kernel
theorem dX2_nearest_40 : decode cX2_nearest 40 = .ok (.iconst 0, 1) := by decide +kernel
theorem dX2_nearest_41 : decode cX2_nearest 41 = .ok (.istore 5, 2) := by decide +kernel
theorem dX2_nearest_43 : decode cX2_nearest 43 = .ok (.iload 5, 2) := by decide +kernel
theorem dX2_nearest_45 : decode cX2_nearest 45 = .ok (.aload_n 0, 1) := by decide +kernel
theorem dX2_nearest_46 : decode cX2_nearest 46 = .ok (.getfield 25, 3) := by decide +kernel
theorem dX2_nearest_49 : decode cX2_nearest 49 = .ok (.if_icmp .ge 22, 3) := by decide +kernel
theorem dX2_nearest_52 : decode cX2_nearest 52 = .ok (.aload_n 0, 1) := by decide +kernel
theorem dX2_nearest_53 : decode cX2_nearest 53 = .ok (.iload_n 3, 1) := by decide +kernel
theorem dX2_nearest_54 : decode cX2_nearest 54 = .ok (.iload 4, 2) := by decide +kernel
theorem dX2_nearest_56 : decode cX2_nearest 56 = .ok (.iload 5, 2) := by decide +kernel
theorem dX2_nearest_58 : decode cX2_nearest 58 = .ok (.ixor, 1) := by decide +kernel
theorem dX2_nearest_59 : decode cX2_nearest 59 = .ok (.invokevirtual 45, 3) := by decide +kernel
theorem dX2_nearest_62 : decode cX2_nearest 62 = .ok (.ifCond .ne 9, 3) := by decide +kernel
theorem dX2_nearest_65 : decode cX2_nearest 65 = .ok (.iinc 5 1, 3) := by decide +kernel
theorem dX2_nearest_68 : decode cX2_nearest 68 = .ok (.goto (-25), 3) := by decide +kernel
theorem dX2_nearest_71 : decode cX2_nearest 71 = .ok (.aload_n 0, 1) := by decide +kernel
theorem dX2_nearest_72 : decode cX2_nearest 72 = .ok (.getfield 14, 3) := by decide +kernel
theorem dX2_nearest_75 : decode cX2_nearest 75 = .ok (.iload 4, 2) := by decide +kernel
theorem dX2_nearest_77 : decode cX2_nearest 77 = .ok (.iload 5, 2) := by decide +kernel
theorem dX2_nearest_79 : decode cX2_nearest 79 = .ok (.aload_n 0, 1) := by decide +kernel
theorem dX2_nearest_80 : decode cX2_nearest 80 = .ok (.getfield 25, 3) := by decide +kernel
theorem dX2_nearest_83 : decode cX2_nearest 83 = .ok (.if_icmp .ge 20, 3) := by decide +kernel
theorem dX2_nearest_86 : decode cX2_nearest 86 = .ok (.aload_n 0, 1) := by decide +kernel
theorem dX2_nearest_87 : decode cX2_nearest 87 = .ok (.iload_n 2, 1) := by decide +kernel
theorem dX2_nearest_88 : decode cX2_nearest 88 = .ok (.iload 4, 2) := by decide +kernel
theorem dX2_nearest_90 : decode cX2_nearest 90 = .ok (.iload 5, 2) := by decide +kernel
theorem dX2_nearest_92 : decode cX2_nearest 92 = .ok (.ixor, 1) := by decide +kernel
theorem dX2_nearest_93 : decode cX2_nearest 93 = .ok (.invokevirtual 45, 3) := by decide +kernel
theorem dX2_nearest_96 : decode cX2_nearest 96 = .ok (.ifCond .eq 7, 3) := by decide +kernel
theorem dX2_nearest_99 : decode cX2_nearest 99 = .ok (.iconst 1, 1) := by decide +kernel
theorem dX2_nearest_100 : decode cX2_nearest 100 = .ok (.goto 4, 3) := by decide +kernel
theorem dX2_nearest_103 : decode cX2_nearest 103 = .ok (.iconst 0, 1) := by decide +kernel
theorem dX2_nearest_104 : decode cX2_nearest 104 = .ok (.bastore, 1) := by decide +kernel
theorem dX2_nearest_105 : decode cX2_nearest 105 = .ok (.iinc 4 1, 3) := by decide +kernel
theorem dX2_nearest_108 : decode cX2_nearest 108 = .ok (.goto (-77), 3) := by decide +kernel
theorem dX2_nearest_111 : decode cX2_nearest 111 = .ok (.aload_n 0, 1) := by decide +kernel
theorem dX2_nearest_112 : decode cX2_nearest 112 = .ok (.iload_n 1, 1) := by decide +kernel
theorem dX2_nearest_113 : decode cX2_nearest 113 = .ok (.invokevirtual 35, 3) := by decide +kernel
theorem dX2_nearest_116 : decode cX2_nearest 116 = .ok (.ireturn, 1) := by decide +kernel
theorem dX2_image_0 : decode cX2_image 0 = .ok (.aload_n 0, 1) := by decide +kernel
theorem dX2_image_1 : decode cX2_image 1 = .ok (.iconst 0, 1) := by decide +kernel
theorem dX2_image_2 : decode cX2_image 2 = .ok (.putfield 28, 3) := by decide +kernel
theorem dX2_image_5 : decode cX2_image 5 = .ok (.iload_n 1, 1) := by decide +kernel
theorem dX2_image_6 : decode cX2_image 6 = .ok (.invokestatic 31, 3) := by decide +kernel
theorem dX2_image_9 : decode cX2_image 9 = .ok (.ifCond .eq 31, 3) := by decide +kernel
theorem dX2_image_12 : decode cX2_image 12 = .ok (.aload_n 0, 1) := by decide +kernel
theorem dX2_image_13 : decode cX2_image 13 = .ok (.iload_n 3, 1) := by decide +kernel
theorem dX2_image_14 : decode cX2_image 14 = .ok (.invokevirtual 38, 3) := by decide +kernel
theorem dX2_image_17 : decode cX2_image 17 = .ok (.ifCond .eq 23, 3) := by decide +kernel
theorem dX2_image_20 : decode cX2_image 20 = .ok (.iload_n 2, 1) := by decide +kernel
theorem dX2_image_21 : decode cX2_image 21 = .ok (.ifCond .lt 19, 3) := by decide +kernel
theorem dX2_image_24 : decode cX2_image 24 = .ok (.iload_n 2, 1) := by decide +kernel
theorem dX2_image_25 : decode cX2_image 25 = .ok (.bipush 32, 2) := by decide +kernel
theorem dX2_image_27 : decode cX2_image 27 = .ok (.iload_n 3, 1) := by decide +kernel
theorem dX2_image_28 : decode cX2_image 28 = .ok (.isub, 1) := by decide +kernel
theorem dX2_image_29 : decode cX2_image 29 = .ok (.if_icmp .gt 11, 3) := by decide +kernel
theorem dX2_image_32 : decode cX2_image 32 = .ok (.iload 4, 2) := by decide +kernel
theorem dX2_image_34 : decode cX2_image 34 = .ok (.invokestatic 31, 3) := by decide +kernel
theorem dX2_image_37 : decode cX2_image 37 = .ok (.ifCond .ne 5, 3) := by decide +kernel
theorem dX2_image_40 : decode cX2_image 40 = .ok (.iconst 0, 1) := by decide +kernel
theorem dX2_image_41 : decode cX2_image 41 = .ok (.ireturn, 1) := by decide +kernel
theorem dX2_image_42 : decode cX2_image 42 = .ok (.iconst 0, 1) := by decide +kernel
theorem dX2_image_43 : decode cX2_image 43 = .ok (.istore 5, 2) := by decide +kernel
theorem dX2_image_45 : decode cX2_image 45 = .ok (.iload 5, 2) := by decide +kernel
theorem dX2_image_47 : decode cX2_image 47 = .ok (.aload_n 0, 1) := by decide +kernel
theorem dX2_image_48 : decode cX2_image 48 = .ok (.getfield 25, 3) := by decide +kernel
theorem dX2_image_51 : decode cX2_image 51 = .ok (.if_icmp .ge 17, 3) := by decide +kernel
theorem dX2_image_54 : decode cX2_image 54 = .ok (.aload_n 0, 1) := by decide +kernel
theorem dX2_image_55 : decode cX2_image 55 = .ok (.getfield 14, 3) := by decide +kernel
theorem dX2_image_58 : decode cX2_image 58 = .ok (.iload 5, 2) := by decide +kernel
theorem dX2_image_60 : decode cX2_image 60 = .ok (.iconst 0, 1) := by decide +kernel
theorem dX2_image_61 : decode cX2_image 61 = .ok (.bastore, 1) := by decide +kernel
theorem dX2_image_62 : decode cX2_image 62 = .ok (.iinc 5 1, 3) := by decide +kernel
theorem dX2_image_65 : decode cX2_image 65 = .ok (.goto (-20), 3) := by decide +kernel
theorem dX2_image_68 : decode cX2_image 68 = .ok (.iconst 1, 1) := by decide +kernel
theorem dX2_image_69 : decode cX2_image 69 = .ok (.aload_n 0, 1) := by decide +kernel
theorem dX2_image_70 : decode cX2_image 70 = .ok (.getfield 21, 3) := by decide +kernel
theorem dX2_image_73 : decode cX2_image 73 = .ok (.iload_n 3, 1) := by decide +kernel
theorem dX2_image_74 : decode cX2_image 74 = .ok (.isub, 1) := by decide +kernel
theorem dX2_image_75 : decode cX2_image 75 = .ok (.ishl, 1) := by decide +kernel
theorem dX2_image_76 : decode cX2_image 76 = .ok (.istore 5, 2) := by decide +kernel
theorem dX2_image_78 : decode cX2_image 78 = .ok (.iconst 0, 1) := by decide +kernel
theorem dX2_image_79 : decode cX2_image 79 = .ok (.istore 6, 2) := by decide +kernel
theorem dX2_image_81 : decode cX2_image 81 = .ok (.iload 6, 2) := by decide +kernel
theorem dX2_image_83 : decode cX2_image 83 = .ok (.aload_n 0, 1) := by decide +kernel
theorem dX2_image_84 : decode cX2_image 84 = .ok (.getfield 25, 3) := by decide +kernel
theorem dX2_image_87 : decode cX2_image 87 = .ok (.if_icmp .ge 63, 3) := by decide +kernel
theorem dX2_image_90 : decode cX2_image 90 = .ok (.aload_n 0, 1) := by decide +kernel
theorem dX2_image_91 : decode cX2_image 91 = .ok (.iload 4, 2) := by decide +kernel
theorem dX2_image_93 : decode cX2_image 93 = .ok (.iload 6, 2) := by decide +kernel
theorem dX2_image_95 : decode cX2_image 95 = .ok (.invokevirtual 45, 3) := by decide +kernel
theorem dX2_image_98 : decode cX2_image 98 = .ok (.ifCond .ne 6, 3) := by decide +kernel
theorem dX2_image_101 : decode cX2_image 101 = .ok (.goto 43, 3) := by decide +kernel
theorem dX2_image_104 : decode cX2_image 104 = .ok (.aload_n 0, 1) := by decide +kernel
theorem dX2_image_105 : decode cX2_image 105 = .ok (.iload_n 2, 1) := by decide +kernel
theorem dX2_image_106 : decode cX2_image 106 = .ok (.iload_n 3, 1) := by decide +kernel
theorem dX2_image_107 : decode cX2_image 107 = .ok (.iload 6, 2) := by decide +kernel
theorem dX2_image_109 : decode cX2_image 109 = .ok (.invokevirtual 49, 3) := by decide +kernel
theorem dX2_image_112 : decode cX2_image 112 = .ok (.iload 5, 2) := by decide +kernel
theorem dX2_image_114 : decode cX2_image 114 = .ok (.imul, 1) := by decide +kernel
theorem dX2_image_115 : decode cX2_image 115 = .ok (.istore 7, 2) := by decide +kernel
theorem dX2_image_117 : decode cX2_image 117 = .ok (.iconst 0, 1) := by decide +kernel
theorem dX2_image_118 : decode cX2_image 118 = .ok (.istore 8, 2) := by decide +kernel
theorem dX2_image_120 : decode cX2_image 120 = .ok (.iload 8, 2) := by decide +kernel
theorem dX2_image_122 : decode cX2_image 122 = .ok (.iload 5, 2) := by decide +kernel
theorem dX2_image_124 : decode cX2_image 124 = .ok (.if_icmp .ge 20, 3) := by decide +kernel
theorem dX2_image_127 : decode cX2_image 127 = .ok (.aload_n 0, 1) := by decide +kernel
theorem dX2_image_128 : decode cX2_image 128 = .ok (.getfield 14, 3) := by decide +kernel
theorem dX2_image_131 : decode cX2_image 131 = .ok (.iload 7, 2) := by decide +kernel
theorem dX2_image_133 : decode cX2_image 133 = .ok (.iload 8, 2) := by decide +kernel
theorem dX2_image_135 : decode cX2_image 135 = .ok (.iadd, 1) := by decide +kernel
theorem dX2_image_136 : decode cX2_image 136 = .ok (.iconst 1, 1) := by decide +kernel
theorem dX2_image_137 : decode cX2_image 137 = .ok (.bastore, 1) := by decide +kernel
theorem dX2_image_138 : decode cX2_image 138 = .ok (.iinc 8 1, 3) := by decide +kernel
theorem dX2_image_141 : decode cX2_image 141 = .ok (.goto (-21), 3) := by decide +kernel
theorem dX2_image_144 : decode cX2_image 144 = .ok (.iinc 6 1, 3) := by decide +kernel
theorem dX2_image_147 : decode cX2_image 147 = .ok (.goto (-66), 3) := by decide +kernel
theorem dX2_image_150 : decode cX2_image 150 = .ok (.aload_n 0, 1) := by decide +kernel
theorem dX2_image_151 : decode cX2_image 151 = .ok (.iload_n 1, 1) := by decide +kernel
theorem dX2_image_152 : decode cX2_image 152 = .ok (.invokevirtual 35, 3) := by decide +kernel
theorem dX2_image_155 : decode cX2_image 155 = .ok (.ireturn, 1) := by decide +kernel
theorem dX2_forks_0 : decode cX2_forks 0 = .ok (.aload_n 0, 1) := by decide +kernel
theorem dX2_forks_1 : decode cX2_forks 1 = .ok (.iconst 0, 1) := by decide +kernel
theorem dX2_forks_2 : decode cX2_forks 2 = .ok (.putfield 28, 3) := by decide +kernel
theorem dX2_forks_5 : decode cX2_forks 5 = .ok (.iload_n 1, 1) := by decide +kernel
theorem dX2_forks_6 : decode cX2_forks 6 = .ok (.invokestatic 31, 3) := by decide +kernel
theorem dX2_forks_9 : decode cX2_forks 9 = .ok (.ifCond .ne 5, 3) := by decide +kernel
theorem dX2_forks_12 : decode cX2_forks 12 = .ok (.iconst (-1), 1) := by decide +kernel
theorem dX2_forks_13 : decode cX2_forks 13 = .ok (.ireturn, 1) := by decide +kernel
theorem dX2_forks_14 : decode cX2_forks 14 = .ok (.iconst 0, 1) := by decide +kernel
theorem dX2_forks_15 : decode cX2_forks 15 = .ok (.istore_n 2, 1) := by decide +kernel
theorem dX2_forks_16 : decode cX2_forks 16 = .ok (.iconst 1, 1) := by decide +kernel
theorem dX2_forks_17 : decode cX2_forks 17 = .ok (.istore_n 3, 1) := by decide +kernel
theorem dX2_forks_18 : decode cX2_forks 18 = .ok (.iload_n 3, 1) := by decide +kernel
theorem dX2_forks_19 : decode cX2_forks 19 = .ok (.aload_n 0, 1) := by decide +kernel
theorem dX2_forks_20 : decode cX2_forks 20 = .ok (.getfield 21, 3) := by decide +kernel
theorem dX2_forks_23 : decode cX2_forks 23 = .ok (.if_icmp .gt 132, 3) := by decide +kernel
theorem dX2_forks_26 : decode cX2_forks 26 = .ok (.iconst 1, 1) := by decide +kernel
theorem dX2_forks_27 : decode cX2_forks 27 = .ok (.aload_n 0, 1) := by decide +kernel
theorem dX2_forks_28 : decode cX2_forks 28 = .ok (.getfield 21, 3) := by decide +kernel
theorem dX2_forks_31 : decode cX2_forks 31 = .ok (.iload_n 3, 1) := by decide +kernel
theorem dX2_forks_32 : decode cX2_forks 32 = .ok (.isub, 1) := by decide +kernel
theorem dX2_forks_33 : decode cX2_forks 33 = .ok (.iconst 1, 1) := by decide +kernel
theorem dX2_forks_34 : decode cX2_forks 34 = .ok (.iadd, 1) := by decide +kernel
theorem dX2_forks_35 : decode cX2_forks 35 = .ok (.ishl, 1) := by decide +kernel
theorem dX2_forks_36 : decode cX2_forks 36 = .ok (.istore 4, 2) := by decide +kernel
theorem dX2_forks_38 : decode cX2_forks 38 = .ok (.iconst 0, 1) := by decide +kernel
theorem dX2_forks_39 : decode cX2_forks 39 = .ok (.istore 5, 2) := by decide +kernel
theorem dX2_forks_41 : decode cX2_forks 41 = .ok (.iconst 0, 1) := by decide +kernel
theorem dX2_forks_42 : decode cX2_forks 42 = .ok (.istore 6, 2) := by decide +kernel
theorem dX2_forks_44 : decode cX2_forks 44 = .ok (.iload 6, 2) := by decide +kernel
theorem dX2_forks_46 : decode cX2_forks 46 = .ok (.aload_n 0, 1) := by decide +kernel
theorem dX2_forks_47 : decode cX2_forks 47 = .ok (.getfield 25, 3) := by decide +kernel
theorem dX2_forks_50 : decode cX2_forks 50 = .ok (.if_icmp .ge 94, 3) := by decide +kernel
theorem dX2_forks_53 : decode cX2_forks 53 = .ok (.aload_n 0, 1) := by decide +kernel
theorem dX2_forks_54 : decode cX2_forks 54 = .ok (.iload_n 1, 1) := by decide +kernel
theorem dX2_forks_55 : decode cX2_forks 55 = .ok (.iload 6, 2) := by decide +kernel
theorem dX2_forks_57 : decode cX2_forks 57 = .ok (.iload 6, 2) := by decide +kernel
theorem dX2_forks_59 : decode cX2_forks 59 = .ok (.iload 4, 2) := by decide +kernel
theorem dX2_forks_61 : decode cX2_forks 61 = .ok (.iconst 2, 1) := by decide +kernel
theorem dX2_forks_62 : decode cX2_forks 62 = .ok (.idiv, 1) := by decide +kernel
theorem dX2_forks_63 : decode cX2_forks 63 = .ok (.iadd, 1) := by decide +kernel
theorem dX2_forks_64 : decode cX2_forks 64 = .ok (.iload 4, 2) := by decide +kernel
theorem dX2_forks_66 : decode cX2_forks 66 = .ok (.iconst 2, 1) := by decide +kernel
theorem dX2_forks_67 : decode cX2_forks 67 = .ok (.idiv, 1) := by decide +kernel
theorem dX2_forks_68 : decode cX2_forks 68 = .ok (.invokevirtual 53, 3) := by decide +kernel
theorem dX2_forks_71 : decode cX2_forks 71 = .ok (.ifCond .eq 6, 3) := by decide +kernel
theorem dX2_forks_74 : decode cX2_forks 74 = .ok (.goto 60, 3) := by decide +kernel
theorem dX2_forks_77 : decode cX2_forks 77 = .ok (.iconst 0, 1) := by decide +kernel
theorem dX2_forks_78 : decode cX2_forks 78 = .ok (.istore 7, 2) := by decide +kernel
theorem dX2_forks_80 : decode cX2_forks 80 = .ok (.iload 7, 2) := by decide +kernel
theorem dX2_forks_82 : decode cX2_forks 82 = .ok (.iload 5, 2) := by decide +kernel
theorem dX2_forks_84 : decode cX2_forks 84 = .ok (.if_icmp .ge 28, 3) := by decide +kernel
theorem dX2_forks_87 : decode cX2_forks 87 = .ok (.aload_n 0, 1) := by decide +kernel
theorem dX2_forks_88 : decode cX2_forks 88 = .ok (.iload_n 1, 1) := by decide +kernel
theorem dX2_forks_89 : decode cX2_forks 89 = .ok (.aload_n 0, 1) := by decide +kernel
theorem dX2_forks_90 : decode cX2_forks 90 = .ok (.getfield 17, 3) := by decide +kernel
theorem dX2_forks_93 : decode cX2_forks 93 = .ok (.iload 7, 2) := by decide +kernel
theorem dX2_forks_95 : decode cX2_forks 95 = .ok (.iaload, 1) := by decide +kernel
theorem dX2_forks_96 : decode cX2_forks 96 = .ok (.iload 6, 2) := by decide +kernel
theorem dX2_forks_98 : decode cX2_forks 98 = .ok (.iload 4, 2) := by decide +kernel
theorem dX2_forks_100 : decode cX2_forks 100 = .ok (.invokevirtual 53, 3) := by decide +kernel
theorem dX2_forks_103 : decode cX2_forks 103 = .ok (.ifCond .ne 9, 3) := by decide +kernel
theorem dX2_forks_106 : decode cX2_forks 106 = .ok (.iinc 7 1, 3) := by decide +kernel
theorem dX2_forks_109 : decode cX2_forks 109 = .ok (.goto (-29), 3) := by decide +kernel
theorem dX2_forks_112 : decode cX2_forks 112 = .ok (.iload 7, 2) := by decide +kernel
theorem dX2_forks_114 : decode cX2_forks 114 = .ok (.iload 5, 2) := by decide +kernel
theorem dX2_forks_116 : decode cX2_forks 116 = .ok (.if_icmp .ge 6, 3) := by decide +kernel
theorem dX2_forks_119 : decode cX2_forks 119 = .ok (.goto 15, 3) := by decide +kernel
theorem dX2_forks_122 : decode cX2_forks 122 = .ok (.aload_n 0, 1) := by decide +kernel
theorem dX2_forks_123 : decode cX2_forks 123 = .ok (.getfield 17, 3) := by decide +kernel
theorem dX2_forks_126 : decode cX2_forks 126 = .ok (.iload 5, 2) := by decide +kernel
theorem dX2_forks_128 : decode cX2_forks 128 = .ok (.iload 6, 2) := by decide +kernel
theorem dX2_forks_130 : decode cX2_forks 130 = .ok (.iastore, 1) := by decide +kernel
theorem dX2_forks_131 : decode cX2_forks 131 = .ok (.iinc 5 1, 3) := by decide +kernel
theorem dX2_forks_134 : decode cX2_forks 134 = .ok (.iload 6, 2) := by decide +kernel
theorem dX2_forks_136 : decode cX2_forks 136 = .ok (.iload 4, 2) := by decide +kernel
theorem dX2_forks_138 : decode cX2_forks 138 = .ok (.iadd, 1) := by decide +kernel
theorem dX2_forks_139 : decode cX2_forks 139 = .ok (.istore 6, 2) := by decide +kernel
theorem dX2_forks_141 : decode cX2_forks 141 = .ok (.goto (-97), 3) := by decide +kernel
theorem dX2_forks_144 : decode cX2_forks 144 = .ok (.iload_n 2, 1) := by decide +kernel
theorem dX2_forks_145 : decode cX2_forks 145 = .ok (.iload 5, 2) := by decide +kernel
theorem dX2_forks_147 : decode cX2_forks 147 = .ok (.iadd, 1) := by decide +kernel
theorem dX2_forks_148 : decode cX2_forks 148 = .ok (.istore_n 2, 1) := by decide +kernel
theorem dX2_forks_149 : decode cX2_forks 149 = .ok (.iinc 3 1, 3) := by decide +kernel
theorem dX2_forks_152 : decode cX2_forks 152 = .ok (.goto (-134), 3) := by decide +kernel
theorem dX2_forks_155 : decode cX2_forks 155 = .ok (.iload_n 2, 1) := by decide +kernel
theorem dX2_forks_156 : decode cX2_forks 156 = .ok (.ireturn, 1) := by decide +kernel
theorem dX2_alike_0 : decode cX2_alike 0 = .ok (.iconst 0, 1) := by decide +kernel
theorem dX2_alike_1 : decode cX2_alike 1 = .ok (.istore 5, 2) := by decide +kernel
theorem dX2_alike_3 : decode cX2_alike 3 = .ok (.iload 5, 2) := by decide +kernel
theorem dX2_alike_5 : decode cX2_alike 5 = .ok (.iload 4, 2) := by decide +kernel
theorem dX2_alike_7 : decode cX2_alike 7 = .ok (.if_icmp .ge 32, 3) := by decide +kernel
theorem dX2_alike_10 : decode cX2_alike 10 = .ok (.aload_n 0, 1) := by decide +kernel
theorem dX2_alike_11 : decode cX2_alike 11 = .ok (.iload_n 1, 1) := by decide +kernel
theorem dX2_alike_12 : decode cX2_alike 12 = .ok (.iload_n 2, 1) := by decide +kernel
theorem dX2_alike_13 : decode cX2_alike 13 = .ok (.iload 5, 2) := by decide +kernel
theorem dX2_alike_15 : decode cX2_alike 15 = .ok (.iadd, 1) := by decide +kernel
theorem dX2_alike_16 : decode cX2_alike 16 = .ok (.invokevirtual 45, 3) := by decide +kernel
theorem dX2_alike_19 : decode cX2_alike 19 = .ok (.aload_n 0, 1) := by decide +kernel
theorem dX2_alike_20 : decode cX2_alike 20 = .ok (.iload_n 1, 1) := by decide +kernel
theorem dX2_alike_21 : decode cX2_alike 21 = .ok (.iload_n 3, 1) := by decide +kernel
theorem dX2_alike_22 : decode cX2_alike 22 = .ok (.iload 5, 2) := by decide +kernel
theorem dX2_alike_24 : decode cX2_alike 24 = .ok (.iadd, 1) := by decide +kernel
theorem dX2_alike_25 : decode cX2_alike 25 = .ok (.invokevirtual 45, 3) := by decide +kernel
theorem dX2_alike_28 : decode cX2_alike 28 = .ok (.if_icmp .eq 5, 3) := by decide +kernel
theorem dX2_alike_31 : decode cX2_alike 31 = .ok (.iconst 0, 1) := by decide +kernel
theorem dX2_alike_32 : decode cX2_alike 32 = .ok (.ireturn, 1) := by decide +kernel
theorem dX2_alike_33 : decode cX2_alike 33 = .ok (.iinc 5 1, 3) := by decide +kernel
theorem dX2_alike_36 : decode cX2_alike 36 = .ok (.goto (-33), 3) := by decide +kernel
theorem dX2_alike_39 : decode cX2_alike 39 = .ok (.iconst 1, 1) := by decide +kernel
theorem dX2_alike_40 : decode cX2_alike 40 = .ok (.ireturn, 1) := by decide +kernel
theorem dX2_ones_0 : decode cX2_ones 0 = .ok (.aload_n 0, 1) := by decide +kernel
theorem dX2_ones_1 : decode cX2_ones 1 = .ok (.iconst 0, 1) := by decide +kernel
theorem dX2_ones_2 : decode cX2_ones 2 = .ok (.putfield 28, 3) := by decide +kernel
theorem dX2_ones_5 : decode cX2_ones 5 = .ok (.iload_n 1, 1) := by decide +kernel
theorem dX2_ones_6 : decode cX2_ones 6 = .ok (.invokestatic 31, 3) := by decide +kernel
theorem dX2_ones_9 : decode cX2_ones 9 = .ok (.ifCond .ne 5, 3) := by decide +kernel
theorem dX2_ones_12 : decode cX2_ones 12 = .ok (.iconst (-1), 1) := by decide +kernel
theorem dX2_ones_13 : decode cX2_ones 13 = .ok (.ireturn, 1) := by decide +kernel
theorem dX2_ones_14 : decode cX2_ones 14 = .ok (.iconst 0, 1) := by decide +kernel
theorem dX2_ones_15 : decode cX2_ones 15 = .ok (.istore_n 2, 1) := by decide +kernel
theorem dX2_ones_16 : decode cX2_ones 16 = .ok (.iconst 0, 1) := by decide +kernel
theorem dX2_ones_17 : decode cX2_ones 17 = .ok (.istore_n 3, 1) := by decide +kernel
theorem dX2_ones_18 : decode cX2_ones 18 = .ok (.iload_n 3, 1) := by decide +kernel
theorem dX2_ones_19 : decode cX2_ones 19 = .ok (.aload_n 0, 1) := by decide +kernel
theorem dX2_ones_20 : decode cX2_ones 20 = .ok (.getfield 25, 3) := by decide +kernel
theorem dX2_ones_23 : decode cX2_ones 23 = .ok (.if_icmp .ge 26, 3) := by decide +kernel
theorem dX2_ones_26 : decode cX2_ones 26 = .ok (.iload_n 2, 1) := by decide +kernel
theorem dX2_ones_27 : decode cX2_ones 27 = .ok (.aload_n 0, 1) := by decide +kernel
theorem dX2_ones_28 : decode cX2_ones 28 = .ok (.iload_n 1, 1) := by decide +kernel
theorem dX2_ones_29 : decode cX2_ones 29 = .ok (.iload_n 3, 1) := by decide +kernel
theorem dX2_ones_30 : decode cX2_ones 30 = .ok (.invokevirtual 45, 3) := by decide +kernel
theorem dX2_ones_33 : decode cX2_ones 33 = .ok (.ifCond .eq 7, 3) := by decide +kernel
theorem dX2_ones_36 : decode cX2_ones 36 = .ok (.iconst 1, 1) := by decide +kernel
theorem dX2_ones_37 : decode cX2_ones 37 = .ok (.goto 4, 3) := by decide +kernel
theorem dX2_ones_40 : decode cX2_ones 40 = .ok (.iconst 0, 1) := by decide +kernel
theorem dX2_ones_41 : decode cX2_ones 41 = .ok (.iadd, 1) := by decide +kernel
theorem dX2_ones_42 : decode cX2_ones 42 = .ok (.istore_n 2, 1) := by decide +kernel
theorem dX2_ones_43 : decode cX2_ones 43 = .ok (.iinc 3 1, 3) := by decide +kernel
theorem dX2_ones_46 : decode cX2_ones 46 = .ok (.goto (-28), 3) := by decide +kernel
theorem dX2_ones_49 : decode cX2_ones 49 = .ok (.iload_n 2, 1) := by decide +kernel
theorem dX2_ones_50 : decode cX2_ones 50 = .ok (.ireturn, 1) := by decide +kernel
theorem dX2_least_0 : decode cX2_least 0 = .ok (.aload_n 0, 1) := by decide +kernel
theorem dX2_least_1 : decode cX2_least 1 = .ok (.iconst 0, 1) := by decide +kernel
theorem dX2_least_2 : decode cX2_least 2 = .ok (.putfield 28, 3) := by decide +kernel
theorem dX2_least_5 : decode cX2_least 5 = .ok (.iconst 0, 1) := by decide +kernel
theorem dX2_least_6 : decode cX2_least 6 = .ok (.istore_n 2, 1) := by decide +kernel
theorem dX2_least_7 : decode cX2_least 7 = .ok (.iload_n 2, 1) := by decide +kernel
theorem dX2_least_8 : decode cX2_least 8 = .ok (.aload_n 0, 1) := by decide +kernel
theorem dX2_least_9 : decode cX2_least 9 = .ok (.getfield 25, 3) := by decide +kernel
theorem dX2_least_12 : decode cX2_least 12 = .ok (.if_icmp .ge 27, 3) := by decide +kernel
theorem dX2_least_15 : decode cX2_least 15 = .ok (.iload_n 1, 1) := by decide +kernel
theorem dX2_least_16 : decode cX2_least 16 = .ok (.invokestatic 31, 3) := by decide +kernel
theorem dX2_least_19 : decode cX2_least 19 = .ok (.ifCond .eq 20, 3) := by decide +kernel
theorem dX2_least_22 : decode cX2_least 22 = .ok (.aload_n 0, 1) := by decide +kernel
theorem dX2_least_23 : decode cX2_least 23 = .ok (.iload_n 1, 1) := by decide +kernel
theorem dX2_least_24 : decode cX2_least 24 = .ok (.iload_n 2, 1) := by decide +kernel
theorem dX2_least_25 : decode cX2_least 25 = .ok (.invokevirtual 45, 3) := by decide +kernel
theorem dX2_least_28 : decode cX2_least 28 = .ok (.ifCond .eq 5, 3) := by decide +kernel
theorem dX2_least_31 : decode cX2_least 31 = .ok (.iload_n 2, 1) := by decide +kernel
theorem dX2_least_32 : decode cX2_least 32 = .ok (.ireturn, 1) := by decide +kernel
theorem dX2_least_33 : decode cX2_least 33 = .ok (.iinc 2 1, 3) := by decide +kernel
theorem dX2_least_36 : decode cX2_least 36 = .ok (.goto (-29), 3) := by decide +kernel
theorem dX2_least_39 : decode cX2_least 39 = .ok (.iconst (-1), 1) := by decide +kernel
theorem dX2_least_40 : decode cX2_least 40 = .ok (.ireturn, 1) := by decide +kernel
theorem dX2_at_0 : decode cX2_at 0 = .ok (.aload_n 0, 1) := by decide +kernel
theorem dX2_at_1 : decode cX2_at 1 = .ok (.iconst 0, 1) := by decide +kernel
theorem dX2_at_2 : decode cX2_at 2 = .ok (.putfield 28, 3) := by decide +kernel
theorem dX2_at_5 : decode cX2_at 5 = .ok (.iload_n 1, 1) := by decide +kernel
theorem dX2_at_6 : decode cX2_at 6 = .ok (.invokestatic 31, 3) := by decide +kernel
theorem dX2_at_9 : decode cX2_at 9 = .ok (.ifCond .eq 15, 3) := by decide +kernel
theorem dX2_at_12 : decode cX2_at 12 = .ok (.iload_n 2, 1) := by decide +kernel
theorem dX2_at_13 : decode cX2_at 13 = .ok (.ifCond .lt 11, 3) := by decide +kernel
theorem dX2_at_16 : decode cX2_at 16 = .ok (.iload_n 2, 1) := by decide +kernel
theorem dX2_at_17 : decode cX2_at 17 = .ok (.aload_n 0, 1) := by decide +kernel
theorem dX2_at_18 : decode cX2_at 18 = .ok (.getfield 25, 3) := by decide +kernel
theorem dX2_at_21 : decode cX2_at 21 = .ok (.if_icmp .lt 7, 3) := by decide +kernel
theorem dX2_at_24 : decode cX2_at 24 = .ok (.iconst (-1), 1) := by decide +kernel
theorem dX2_at_25 : decode cX2_at 25 = .ok (.goto 17, 3) := by decide +kernel
theorem dX2_at_28 : decode cX2_at 28 = .ok (.aload_n 0, 1) := by decide +kernel
theorem dX2_at_29 : decode cX2_at 29 = .ok (.iload_n 1, 1) := by decide +kernel
theorem dX2_at_30 : decode cX2_at 30 = .ok (.iload_n 2, 1) := by decide +kernel
theorem dX2_at_31 : decode cX2_at 31 = .ok (.invokevirtual 45, 3) := by decide +kernel
theorem dX2_at_34 : decode cX2_at 34 = .ok (.ifCond .eq 7, 3) := by decide +kernel
theorem dX2_at_37 : decode cX2_at 37 = .ok (.iconst 1, 1) := by decide +kernel
theorem dX2_at_38 : decode cX2_at 38 = .ok (.goto 4, 3) := by decide +kernel
theorem dX2_at_41 : decode cX2_at 41 = .ok (.iconst 0, 1) := by decide +kernel
theorem dX2_at_42 : decode cX2_at 42 = .ok (.ireturn, 1) := by decide +kernel
theorem dX2_same_0 : decode cX2_same 0 = .ok (.aload_n 0, 1) := by decide +kernel
theorem dX2_same_1 : decode cX2_same 1 = .ok (.iconst 0, 1) := by decide +kernel
theorem dX2_same_2 : decode cX2_same 2 = .ok (.putfield 28, 3) := by decide +kernel
theorem dX2_same_5 : decode cX2_same 5 = .ok (.iload_n 1, 1) := by decide +kernel
theorem dX2_same_6 : decode cX2_same 6 = .ok (.invokestatic 31, 3) := by decide +kernel
theorem dX2_same_9 : decode cX2_same 9 = .ok (.ifCond .eq 36, 3) := by decide +kernel
theorem dX2_same_12 : decode cX2_same 12 = .ok (.iload_n 2, 1) := by decide +kernel
theorem dX2_same_13 : decode cX2_same 13 = .ok (.invokestatic 31, 3) := by decide +kernel
theorem dX2_same_16 : decode cX2_same 16 = .ok (.ifCond .eq 29, 3) := by decide +kernel
theorem dX2_same_19 : decode cX2_same 19 = .ok (.aload_n 0, 1) := by decide +kernel
theorem dX2_same_20 : decode cX2_same 20 = .ok (.iconst 0, 1) := by decide +kernel
theorem dX2_same_21 : decode cX2_same 21 = .ok (.sipush 4096, 3) := by decide +kernel
theorem dX2_same_24 : decode cX2_same 24 = .ok (.iload_n 1, 1) := by decide +kernel
theorem dX2_same_25 : decode cX2_same 25 = .ok (.imul, 1) := by decide +kernel
theorem dX2_same_26 : decode cX2_same 26 = .ok (.sipush 4096, 3) := by decide +kernel
theorem dX2_same_29 : decode cX2_same 29 = .ok (.iload_n 2, 1) := by decide +kernel
theorem dX2_same_30 : decode cX2_same 30 = .ok (.imul, 1) := by decide +kernel
theorem dX2_same_31 : decode cX2_same 31 = .ok (.aload_n 0, 1) := by decide +kernel
theorem dX2_same_32 : decode cX2_same 32 = .ok (.getfield 25, 3) := by decide +kernel
theorem dX2_same_35 : decode cX2_same 35 = .ok (.invokevirtual 53, 3) := by decide +kernel
theorem dX2_same_38 : decode cX2_same 38 = .ok (.ifCond .eq 7, 3) := by decide +kernel
theorem dX2_same_41 : decode cX2_same 41 = .ok (.iconst 1, 1) := by decide +kernel
theorem dX2_same_42 : decode cX2_same 42 = .ok (.goto 4, 3) := by decide +kernel
theorem dX2_same_45 : decode cX2_same 45 = .ok (.iconst 0, 1) := by decide +kernel
theorem dX2_same_46 : decode cX2_same 46 = .ok (.ireturn, 1) := by decide +kernel
end
section
/-! own rows over the kit's: ints that are numbers, array places by number, grids -/
theorem xs_l : ∀ n, n < 32 → ((nI n &&& 31).toBitVec.smod 32).toNat = n := by decide +kernel
theorem xs_u : ∀ n, n < 32 → (((nI n).toUInt32 &&& Int32.toUInt32 31).toBitVec % 32).toNat = n := by decide +kernel
section XA
variable {p : Program} {l : Launch} {e : Env} {R : Room} {s : State} {m : MethodId} {args : Array Value} {below : List Frame} {meth : Method} {c : Code} {H : Heap} {locs : List Loc} {cells slots : Nat} {Q : State → Prop}
variable {cc : ByteArray} {pc : Nat} {ls : Array Slot} {rest : List Value} {D : va_G} {cl : List vw_C} {A : Nat → Prop} {a : Nat} {tys : List (ClassId × FieldType)} {ws : va_W} {H0 : Heap}
theorem xa_iadd (hexec : p.tables.exec = Jvm.exec) (hb : c.code = cc) {x y : Nat} (hdg : decode cc pc = .ok (.iadd, 1)) (k : W p l e R s m args below meth c H locs cells slots Q (F0 m (pc + 1) ls (.int (nI (x + y)) :: rest))) : W p l e R s m args below meth c H locs cells slots Q (F0 m pc ls (.int (nI y) :: .int (nI x) :: rest)) :=
  lv_iadd hexec hb hdg (by rw [nI_add]; exact k)
theorem xa_isub (hexec : p.tables.exec = Jvm.exec) (hb : c.code = cc) {x y : Nat} (h : y ≤ x) (hdg : decode cc pc = .ok (.isub, 1)) (k : W p l e R s m args below meth c H locs cells slots Q (F0 m (pc + 1) ls (.int (nI (x - y)) :: rest))) : W p l e R s m args below meth c H locs cells slots Q (F0 m pc ls (.int (nI y) :: .int (nI x) :: rest)) :=
  lv_isub hexec hb hdg (by rw [pk_sub h]; exact k)
theorem xa_imul (hexec : p.tables.exec = Jvm.exec) (hb : c.code = cc) {x y : Nat} (hdg : decode cc pc = .ok (.imul, 1)) (k : W p l e R s m args below meth c H locs cells slots Q (F0 m (pc + 1) ls (.int (nI (x * y)) :: rest))) : W p l e R s m args below meth c H locs cells slots Q (F0 m pc ls (.int (nI y) :: .int (nI x) :: rest)) :=
  lv_imul hexec hb hdg (by rw [pk_mul]; exact k)
theorem xa_idiv (hexec : p.tables.exec = Jvm.exec) (hb : c.code = cc) {x y : Nat} (hx : x < 2 ^ 31) (h0 : 0 < y) (hy : y < 2 ^ 31) (hdg : decode cc pc = .ok (.idiv, 1)) (k : W p l e R s m args below meth c H locs cells slots Q (F0 m (pc + 1) ls (.int (nI (x / y)) :: rest))) : W p l e R s m args below meth c H locs cells slots Q (F0 m pc ls (.int (nI y) :: .int (nI x) :: rest)) :=
  lv_idiv hexec hb hdg (nI_ne0 h0 hy) (by rw [pk_div hx h0 hy]; exact k)
theorem xa_irem (hexec : p.tables.exec = Jvm.exec) (hb : c.code = cc) {x y : Nat} (hx : x < 2 ^ 31) (h0 : 0 < y) (hy : y < 2 ^ 31) (hdg : decode cc pc = .ok (.irem, 1)) (k : W p l e R s m args below meth c H locs cells slots Q (F0 m (pc + 1) ls (.int (nI (x % y)) :: rest))) : W p l e R s m args below meth c H locs cells slots Q (F0 m pc ls (.int (nI y) :: .int (nI x) :: rest)) :=
  lv_irem hexec hb hdg (nI_ne0 h0 hy) (by rw [pk_rem hx h0 hy]; exact k)
theorem xa_ishl (hexec : p.tables.exec = Jvm.exec) (hb : c.code = cc) {x y : Nat} (hy : y < 32) (h : x * 2 ^ y < 2 ^ 32) (hdg : decode cc pc = .ok (.ishl, 1)) (k : W p l e R s m args below meth c H locs cells slots Q (F0 m (pc + 1) ls (.int (nI (x * 2 ^ y)) :: rest))) : W p l e R s m args below meth c H locs cells slots Q (F0 m pc ls (.int (nI y) :: .int (nI x) :: rest)) :=
  lv_ishl hexec hb hdg (by rw [pk_shlN _ y (xs_l y hy) h]; exact k)
theorem xa_ishl1 (hexec : p.tables.exec = Jvm.exec) (hb : c.code = cc) {y : Nat} (hy : y < 32) (hdg : decode cc pc = .ok (.ishl, 1)) (k : W p l e R s m args below meth c H locs cells slots Q (F0 m (pc + 1) ls (.int (nI (2 ^ y)) :: rest))) : W p l e R s m args below meth c H locs cells slots Q (F0 m pc ls (.int (nI y) :: .int (nI 1) :: rest)) :=
  xa_ishl hexec hb hy (by rw [Nat.one_mul]; exact Nat.pow_lt_pow_right (by omega) hy) hdg (by rw [Nat.one_mul]; exact k)
theorem xa_iushr (hexec : p.tables.exec = Jvm.exec) (hb : c.code = cc) {x y : Nat} (hx : x < 2 ^ 32) (hy : y < 32) (hdg : decode cc pc = .ok (.iushr, 1)) (k : W p l e R s m args below meth c H locs cells slots Q (F0 m (pc + 1) ls (.int (nI (x / 2 ^ y)) :: rest))) : W p l e R s m args below meth c H locs cells slots Q (F0 m pc ls (.int (nI y) :: .int (nI x) :: rest)) :=
  lv_iushr hexec hb hdg (pk_ushrN hx _ y (xs_u y hy)) k
theorem xa_iand1 (hexec : p.tables.exec = Jvm.exec) (hb : c.code = cc) {x : Nat} (hx : x < 2 ^ 32) (hdg : decode cc pc = .ok (.iand, 1)) (k : W p l e R s m args below meth c H locs cells slots Q (F0 m (pc + 1) ls (.int (nI (x % 2)) :: rest))) : W p l e R s m args below meth c H locs cells slots Q (F0 m pc ls (.int (nI 1) :: .int (nI x) :: rest)) :=
  lv_iand hexec hb hdg (by rw [pk_andN hx 1 (by decide)]; exact k)
theorem xa_ixor (hexec : p.tables.exec = Jvm.exec) (hb : c.code = cc) {x y : Nat} (hdg : decode cc pc = .ok (.ixor, 1)) (k : W p l e R s m args below meth c H locs cells slots Q (F0 m (pc + 1) ls (.int (nI (x ^^^ y)) :: rest))) : W p l e R s m args below meth c H locs cells slots Q (F0 m pc ls (.int (nI y) :: .int (nI x) :: rest)) :=
  lv_ixor hexec hb hdg (by
    have h : nI x ^^^ nI y = nI (x ^^^ y) := by
      apply Int32.toBitVec_inj.1
      show BitVec.ofNat 32 x ^^^ BitVec.ofNat 32 y = BitVec.ofNat 32 (x ^^^ y)
      apply BitVec.eq_of_getLsbD_eq
      intro i hi
      simp [hi]
    rw [h]; exact k)
theorem xa_ge (hexec : p.tables.exec = Jvm.exec) (hb : c.code = cc) {x y : Nat} (hx : x < 2 ^ 31) (hy : y < 2 ^ 31) {off : Int} {tgt : Nat} (hdg : decode cc pc = .ok (.if_icmp .ge off, 3)) (ht : (pc : Int) + off = (tgt : Int))
    (kt : y ≤ x → W p l e R s m args below meth c H locs cells slots Q (F0 m tgt ls rest)) (kf : x < y → W p l e R s m args below meth c H locs cells slots Q (F0 m (pc + 3) ls rest)) : W p l e R s m args below meth c H locs cells slots Q (F0 m pc ls (.int (nI y) :: .int (nI x) :: rest)) :=
  lv_icmp_ge hexec hb hdg ht (fun h => kt ((nI_leI hy hx).mp h)) (fun h => kf (Nat.not_le.mp fun q => h ((nI_leI hy hx).mpr q)))
theorem xa_lt (hexec : p.tables.exec = Jvm.exec) (hb : c.code = cc) {x y : Nat} (hx : x < 2 ^ 31) (hy : y < 2 ^ 31) {off : Int} {tgt : Nat} (hdg : decode cc pc = .ok (.if_icmp .lt off, 3)) (ht : (pc : Int) + off = (tgt : Int))
    (kt : x < y → W p l e R s m args below meth c H locs cells slots Q (F0 m tgt ls rest)) (kf : y ≤ x → W p l e R s m args below meth c H locs cells slots Q (F0 m (pc + 3) ls rest)) : W p l e R s m args below meth c H locs cells slots Q (F0 m pc ls (.int (nI y) :: .int (nI x) :: rest)) :=
  lv_icmp_lt hexec hb hdg ht (fun h => kt ((nI_ltI hx hy).mp h)) (fun h => kf (Nat.not_lt.mp fun q => h ((nI_ltI hx hy).mpr q)))
theorem xa_gt (hexec : p.tables.exec = Jvm.exec) (hb : c.code = cc) {x y : Nat} (hx : x < 2 ^ 31) (hy : y < 2 ^ 31) {off : Int} {tgt : Nat} (hdg : decode cc pc = .ok (.if_icmp .gt off, 3)) (ht : (pc : Int) + off = (tgt : Int))
    (kt : y < x → W p l e R s m args below meth c H locs cells slots Q (F0 m tgt ls rest)) (kf : x ≤ y → W p l e R s m args below meth c H locs cells slots Q (F0 m (pc + 3) ls rest)) : W p l e R s m args below meth c H locs cells slots Q (F0 m pc ls (.int (nI y) :: .int (nI x) :: rest)) :=
  lv_icmp_gt hexec hb hdg ht (fun h => kt ((nI_ltI hy hx).mp h)) (fun h => kf (Nat.not_lt.mp fun q => h ((nI_ltI hy hx).mpr q)))
theorem xa_le (hexec : p.tables.exec = Jvm.exec) (hb : c.code = cc) {x y : Nat} (hx : x < 2 ^ 31) (hy : y < 2 ^ 31) {off : Int} {tgt : Nat} (hdg : decode cc pc = .ok (.if_icmp .le off, 3)) (ht : (pc : Int) + off = (tgt : Int))
    (kt : x ≤ y → W p l e R s m args below meth c H locs cells slots Q (F0 m tgt ls rest)) (kf : y < x → W p l e R s m args below meth c H locs cells slots Q (F0 m (pc + 3) ls rest)) : W p l e R s m args below meth c H locs cells slots Q (F0 m pc ls (.int (nI y) :: .int (nI x) :: rest)) :=
  lv_icmp_le hexec hb hdg ht (fun h => kt ((nI_leI hx hy).mp h)) (fun h => kf (Nat.not_le.mp fun q => h ((nI_leI hx hy).mpr q)))
theorem xa_eq (hexec : p.tables.exec = Jvm.exec) (hb : c.code = cc) {x y : Nat} (hx : x < 2 ^ 31) (hy : y < 2 ^ 31) {off : Int} {tgt : Nat} (hdg : decode cc pc = .ok (.if_icmp .eq off, 3)) (ht : (pc : Int) + off = (tgt : Int))
    (kt : x = y → W p l e R s m args below meth c H locs cells slots Q (F0 m tgt ls rest)) (kf : ¬ x = y → W p l e R s m args below meth c H locs cells slots Q (F0 m (pc + 3) ls rest)) : W p l e R s m args below meth c H locs cells slots Q (F0 m pc ls (.int (nI y) :: .int (nI x) :: rest)) :=
  lv_icmp_eq hexec hb hdg ht (fun h => kt ((nI_eq hx hy).mp h)) (fun h => kf fun q => h ((nI_eq hx hy).mpr q))
theorem xa_ne (hexec : p.tables.exec = Jvm.exec) (hb : c.code = cc) {x y : Nat} (hx : x < 2 ^ 31) (hy : y < 2 ^ 31) {off : Int} {tgt : Nat} (hdg : decode cc pc = .ok (.if_icmp .ne off, 3)) (ht : (pc : Int) + off = (tgt : Int))
    (kt : ¬ x = y → W p l e R s m args below meth c H locs cells slots Q (F0 m tgt ls rest)) (kf : x = y → W p l e R s m args below meth c H locs cells slots Q (F0 m (pc + 3) ls rest)) : W p l e R s m args below meth c H locs cells slots Q (F0 m pc ls (.int (nI y) :: .int (nI x) :: rest)) :=
  lv_icmp_ne hexec hb hdg ht (fun h => kt fun q => h ((nI_eq hx hy).mpr q)) (fun h => kf ((nI_eq hx hy).mp h))
theorem xa_if0 (hexec : p.tables.exec = Jvm.exec) (hb : c.code = cc) {b : Bool} {off : Int} {tgt : Nat} (hdg : decode cc pc = .ok (.ifCond .eq off, 3)) (ht : (pc : Int) + off = (tgt : Int))
    (kt : b = false → W p l e R s m args below meth c H locs cells slots Q (F0 m tgt ls rest)) (kf : b = true → W p l e R s m args below meth c H locs cells slots Q (F0 m (pc + 3) ls rest)) : W p l e R s m args below meth c H locs cells slots Q (F0 m pc ls (.int (nI b.toNat) :: rest)) :=
  lv_if_eq hexec hb hdg ht (fun h => kt (by cases b <;> first | rfl | exact absurd h (by decide))) (fun h => kf (by cases b <;> first | rfl | exact absurd rfl h))
theorem xa_if1 (hexec : p.tables.exec = Jvm.exec) (hb : c.code = cc) {b : Bool} {off : Int} {tgt : Nat} (hdg : decode cc pc = .ok (.ifCond .ne off, 3)) (ht : (pc : Int) + off = (tgt : Int))
    (kt : b = true → W p l e R s m args below meth c H locs cells slots Q (F0 m tgt ls rest)) (kf : b = false → W p l e R s m args below meth c H locs cells slots Q (F0 m (pc + 3) ls rest)) : W p l e R s m args below meth c H locs cells slots Q (F0 m pc ls (.int (nI b.toNat) :: rest)) :=
  lv_if_ne hexec hb hdg ht (fun h => kt (by cases b <;> first | rfl | exact absurd rfl h)) (fun h => kf (by cases b <;> first | rfl | exact absurd h (by decide)))
theorem xa_inc (hexec : p.tables.exec = Jvm.exec) (hb : c.code = cc) {i nL k x : Nat} {lv lv' : List (Nat × Value)} (hdg : decode cc pc = .ok (.iinc i 1, 3)) (h : lv_has ls nL lv) (hk : lv[k]? = some (i, .int (nI x))) (hn : i < nL) (hl : (i, Value.int (nI (x + 1))) :: lv.filter (fun q => !(q.1 == i) && !(q.1 + 1 == i && q.2.category == 2)) = lv')
    (kk : ∀ ls' : Array Slot, lv_has ls' nL lv' → W p l e R s m args below meth c H locs cells slots Q (F0 m (pc + 3) ls' rest)) : W p l e R s m args below meth c H locs cells slots Q (F0 m pc ls rest) :=
  lv_iinc (k := k) hexec hb hdg h hk (nI_1 x) hn hl kk
theorem xa_dec (hexec : p.tables.exec = Jvm.exec) (hb : c.code = cc) {i nL k x : Nat} {lv lv' : List (Nat × Value)} (hdg : decode cc pc = .ok (.iinc i (-1), 3)) (h : lv_has ls nL lv) (hk : lv[k]? = some (i, .int (nI (x + 1)))) (hn : i < nL) (hl : (i, Value.int (nI x)) :: lv.filter (fun q => !(q.1 == i) && !(q.1 + 1 == i && q.2.category == 2)) = lv')
    (kk : ∀ ls' : Array Slot, lv_has ls' nL lv' → W p l e R s m args below meth c H locs cells slots Q (F0 m (pc + 3) ls' rest)) : W p l e R s m args below meth c H locs cells slots Q (F0 m pc ls rest) :=
  lv_iinc (k := k) hexec hb hdg h hk (pk_m1 x) hn hl kk
theorem xa_iald (hexec : p.tables.exec = Jvm.exec) (hb : c.code = cc) (hK : va_K D cl tys s) (hP : va_P D cl ws H) (q0 t0 : Nat) {cA : ClassId} {n : Nat} {f : Nat → Int32} (ha : ws[q0]? = some (a, .inl (cA, n, .inl f))) (ht : tys[t0]? = some (cA, .int)) {w : Nat} (hw : w < n) (hn : n < 2 ^ 31) (hdg : decode cc pc = .ok (.iaload, 1))
    (kk : W p l e R s m args below meth c H locs cells slots Q (F0 m (pc + 1) ls (.int (f w) :: rest))) : W p l e R s m args below meth c H locs cells slots Q (F0 m pc ls (.int (nI w) :: .ref a :: rest)) :=
  va_iald hexec hb hK hP q0 t0 ha ht (vp_in_nI hw hn) hdg (by rw [nI_clamp (Nat.lt_trans hw hn)]; exact kk)
theorem xa_lald (hexec : p.tables.exec = Jvm.exec) (hb : c.code = cc) (hK : va_K D cl tys s) (hP : va_P D cl ws H) (q0 t0 : Nat) {cA : ClassId} {n : Nat} {f : Nat → Int64} (ha : ws[q0]? = some (a, .inl (cA, n, .inr (.inl f)))) (ht : tys[t0]? = some (cA, .long)) {w : Nat} (hw : w < n) (hn : n < 2 ^ 31) (hdg : decode cc pc = .ok (.laload, 1))
    (kk : W p l e R s m args below meth c H locs cells slots Q (F0 m (pc + 1) ls (.long (f w) :: rest))) : W p l e R s m args below meth c H locs cells slots Q (F0 m pc ls (.int (nI w) :: .ref a :: rest)) :=
  va_lald hexec hb hK hP q0 t0 ha ht (vp_in_nI hw hn) hdg (by rw [nI_clamp (Nat.lt_trans hw hn)]; exact kk)
theorem xa_iast (hexec : p.tables.exec = Jvm.exec) (hb : c.code = cc) (hK : va_K D cl tys s) (hP : va_P D cl ws H) (hD : va_D A ws) (hS : va_S A H0 H locs) (q0 t0 : Nat) {cA : ClassId} {n : Nat} {f : Nat → Int32} (ha : ws[q0]? = some (a, .inl (cA, n, .inl f))) (ht : tys[t0]? = some (cA, .int)) {w : Nat} {x : Int32} (hw : w < n) (hn : n < 2 ^ 31) (hdg : decode cc pc = .ok (.iastore, 1))
    (kk : ∀ (H1 : Heap) (locs1 : List Loc), va_P D cl (ws.set q0 (a, .inl (cA, n, .inl (upd f w x)))) H1 → va_D A (ws.set q0 (a, .inl (cA, n, .inl (upd f w x)))) → va_S A H0 H1 locs1 → W p l e R s m args below meth c H1 locs1 cells slots Q (F0 m (pc + 1) ls rest)) : W p l e R s m args below meth c H locs cells slots Q (F0 m pc ls (.int x :: .int (nI w) :: .ref a :: rest)) :=
  va_iast hexec hb hK hP hD hS q0 t0 ha ht (vp_in_nI hw hn) hdg (by rw [nI_clamp (Nat.lt_trans hw hn)]; exact kk)
theorem xa_last (hexec : p.tables.exec = Jvm.exec) (hb : c.code = cc) (hK : va_K D cl tys s) (hP : va_P D cl ws H) (hD : va_D A ws) (hS : va_S A H0 H locs) (q0 t0 : Nat) {cA : ClassId} {n : Nat} {f : Nat → Int64} (ha : ws[q0]? = some (a, .inl (cA, n, .inr (.inl f)))) (ht : tys[t0]? = some (cA, .long)) {w : Nat} {x : Int64} (hw : w < n) (hn : n < 2 ^ 31) (hdg : decode cc pc = .ok (.lastore, 1))
    (kk : ∀ (H1 : Heap) (locs1 : List Loc), va_P D cl (ws.set q0 (a, .inl (cA, n, .inr (.inl (vp_updL f w x))))) H1 → va_D A (ws.set q0 (a, .inl (cA, n, .inr (.inl (vp_updL f w x))))) → va_S A H0 H1 locs1 → W p l e R s m args below meth c H1 locs1 cells slots Q (F0 m (pc + 1) ls rest)) : W p l e R s m args below meth c H locs cells slots Q (F0 m pc ls (.long x :: .int (nI w) :: .ref a :: rest)) :=
  va_last hexec hb hK hP hD hS q0 t0 ha ht (vp_in_nI hw hn) hdg (by rw [nI_clamp (Nat.lt_trans hw hn)]; exact kk)
/-- an array of arrays: the row's reference -/
theorem xa_aald (hexec : p.tables.exec = Jvm.exec) (hb : c.code = cc) (hK : va_K D cl tys s) (hP : va_P D cl ws H) (q0 t0 : Nat) {cA : ClassId} {ty : FieldType} {n : Nat} {f : Nat → Option Nat} (ha : ws[q0]? = some (a, .inl (cA, n, .inr (.inr (.inr (.inr f)))))) (ht : tys[t0]? = some (cA, .array ty)) {w y : Nat} (hw : w < n) (hn : n < 2 ^ 31) (hy : f w = some y) (hdg : decode cc pc = .ok (.aaload, 1))
    (kk : W p l e R s m args below meth c H locs cells slots Q (F0 m (pc + 1) ls (.ref y :: rest))) : W p l e R s m args below meth c H locs cells slots Q (F0 m pc ls (.int (nI w) :: .ref a :: rest)) := by
  have hin : vp_in (nI w) n := vp_in_nI hw hn
  have e : (nI w).toNatClampNeg = w := nI_clamp (Nat.lt_trans hw hn)
  exact W.aald (v := .ref y) (ty := .array ty) hexec hb (hP q0 _ ha) ((hK.2 t0 _ ht).1 n (fun j => va_rf (f j))) rfl (fun q => by cases q) (by show ¬ (nI w < 0 ∨ (arrV _ _ _).slots.size ≤ _); rw [arrV_size]; exact hin) (by show (arrV _ _ _).slots[_]? = _; rw [e, arrV_read _ _ hw, hy]; rfl) rfl rfl hdg kk
/-- behind a call that changes nothing -/
theorem xa_same {H1 : Heap} (hP : va_P D cl ws H) (hk : ∀ q : Nat, q < H.size → ¬ (fun _ : Nat => False) q → H1[q]? = H[q]?) : va_P D cl ws H1 := hP.kept (fun k q hq => hk q.1 ((hP k q hq).lt) id)
end XA
/-- rows of a grid: row k (of n words) at the address ra k -/
def gw (ra : Nat → Nat) (cJ : ClassId) (n M : Nat) (R : Nat → Nat → Int64) : va_W := (List.range M).map (fun k => (ra k, .inl (cJ, n, .inr (.inl (R k)))))
theorem gw_get {X : va_W} {ra : Nat → Nat} {cJ : ClassId} {n M k : Nat} {R : Nat → Nat → Int64} (hk : k < M) : (X ++ gw ra cJ n M R)[X.length + k]? = some (ra k, .inl (cJ, n, .inr (.inl (R k)))) := by
  rw [List.getElem?_append_right (Nat.le_add_right _ _), Nat.add_sub_cancel_left]
  unfold gw
  rw [List.getElem?_map, List.getElem?_range hk]
  rfl
theorem gw_set {X : va_W} {ra : Nat → Nat} {cJ : ClassId} {n M k : Nat} {R : Nat → Nat → Int64} (r : Nat → Int64) (hk : k < M) : (X ++ gw ra cJ n M R).set (X.length + k) (ra k, .inl (cJ, n, .inr (.inl r))) = X ++ gw ra cJ n M (va_up R k r) := by
  rw [List.set_append_right _ _ (Nat.le_add_right _ _), Nat.add_sub_cancel_left]
  congr 1
  unfold gw
  apply List.ext_getElem?
  intro j
  rw [List.getElem?_set]
  by_cases e : k = j
  · subst e
    simp [hk, va_up]
  · simp only [e, if_false, List.getElem?_map]
    by_cases hj : j < M
    · rw [List.getElem?_range hj]
      simp [va_up, Ne.symm e]
    · have hn0 : (List.range M)[j]? = none := List.getElem?_eq_none (by rw [List.length_range]; omega)
      rw [hn0]
      rfl
theorem va_same {α : Type} (G : Nat → α) (j : Nat) : va_up G j (G j) = G := funext fun k => by
  by_cases e : k = j
  · subst e; exact va_up_self _ _ _
  · exact va_up_ne _ _ e
theorem va_upup {α : Type} (G : Nat → α) (j : Nat) (r r' : α) : va_up (va_up G j r) j r' = va_up G j r' := bx_uu G j r r'
/-- a cell that the frame leaves alone -/
theorem ro_kept {D : va_G} {cl : List vw_C} {A : Nat → Prop} {x : Nat × va_E} {H0 H : Heap} {locs : List Loc} (hP : va_P D cl [x] H0) (hx : ¬ A x.1) (hS : va_S A H0 H locs) : va_P D cl [x] H := hP.kept (fun k q hk => by
  have h0 : k < 1 := (List.getElem?_eq_some_iff.mp hk).1
  have hk2 := hk
  rw [show k = 0 by omega] at hk2
  cases hk2
  exact hS.2.1 _ ((hP k _ hk).lt) hx)
theorem one_D {A : Nat → Prop} {a : Nat} {e : va_E} (h : A a) : va_D A [(a, e)] := by
  refine ⟨fun i j p q hi hj _ => ?_, fun k q hk => ?_⟩
  · have h1 : i < 1 := (List.getElem?_eq_some_iff.mp hi).1
    have h2 : j < 1 := (List.getElem?_eq_some_iff.mp hj).1
    omega
  · have h1 : k < 1 := (List.getElem?_eq_some_iff.mp hk).1
    rw [show k = 0 by omega] at hk
    cases hk
    exact h
end
section
/-! bits of a long; the geometry of a row of words (own work; the shape of lb_shr, lb_shl is that of kit/laws/BITS) -/
def lb (x : Int64) (i : Nat) : Bool := x.toBitVec.getLsbD i
theorem lb_ext {x y : Int64} (h : ∀ i, i < 64 → lb x i = lb y i) : x = y := Int64.toBitVec_inj.mp (BitVec.eq_of_getLsbD_eq (fun i hi => h i hi))
theorem lb_or (x y : Int64) (i : Nat) : lb (x ||| y) i = (lb x i || lb y i) := by unfold lb; rw [Int64.toBitVec_or, BitVec.getLsbD_or]
theorem lb_and (x y : Int64) (i : Nat) : lb (x &&& y) i = (lb x i && lb y i) := by unfold lb; rw [Int64.toBitVec_and, BitVec.getLsbD_and]
theorem lb_xor (x y : Int64) (i : Nat) : lb (x ^^^ y) i = (lb x i ^^ lb y i) := by unfold lb; rw [Int64.toBitVec_xor, BitVec.getLsbD_xor]
theorem lb_big {x : Int64} {i : Nat} (h : 64 ≤ i) : lb x i = false := BitVec.getLsbD_of_ge _ _ h
theorem lb_0 (i : Nat) : lb 0 i = false := BitVec.getLsbD_zero
theorem lb_m1 : ∀ i, i < 64 → lb (-1) i = true := by decide +kernel
theorem lb_not (x : Int64) {i : Nat} (hi : i < 64) : lb (x ^^^ (-1)) i = !lb x i := by rw [lb_xor, lb_m1 i hi, Bool.xor_true]
theorem lb_su : ∀ n, n < 64 → (((nI n).toInt64.toUInt64 &&& Int64.toUInt64 63).toBitVec % 64).toNat = n := by decide +kernel
theorem lb_sl : ∀ n, n < 64 → (((nI n).toInt64 &&& 63).toBitVec.smod 64).toNat = n := by decide +kernel
theorem lb_shr (n : Nat) (hn : n < 64) (x : Int64) (i : Nat) : lb ((x.toUInt64 >>> ((nI n).toInt64.toUInt64 &&& Int64.toUInt64 63)).toInt64) i = lb x (n + i) := by
  show (x.toUInt64 >>> ((nI n).toInt64.toUInt64 &&& Int64.toUInt64 63)).toBitVec.getLsbD i = x.toUInt64.toBitVec.getLsbD (n + i)
  rw [UInt64.toBitVec_shiftRight]
  show (x.toUInt64.toBitVec >>> (((nI n).toInt64.toUInt64 &&& Int64.toUInt64 63).toBitVec % 64).toNat).getLsbD i = _
  rw [lb_su n hn, BitVec.getLsbD_ushiftRight]
theorem lb_shl (n : Nat) (hn : n < 64) (x : Int64) {i : Nat} (hi : i < 64) : lb (x <<< ((nI n).toInt64 &&& 63)) i = (decide (n ≤ i) && lb x (i - n)) := by
  unfold lb
  rw [Int64.toBitVec_shiftLeft]
  show (x.toBitVec <<< (((nI n).toInt64 &&& 63).toBitVec.smod 64).toNat).getLsbD i = _
  rw [lb_sl n hn, BitVec.getLsbD_shiftLeft]
  rcases Nat.lt_or_ge i n with h | h
  · simp [h, Nat.not_le.mpr h]
  · simp [hi, h, Nat.not_lt.mpr h]
/-- bit 0 of the low half, as an int -/
theorem lb_low (x : Int64) : x.toInt32 &&& nI 1 = nI (lb x 0).toNat := by
  apply Int32.toBitVec_inj.mp
  rw [Int32.toBitVec_and, Int64.toBitVec_toInt32]
  show (x.toBitVec.signExtend 32) &&& 1#32 = BitVec.ofNat 32 (lb x 0).toNat
  apply BitVec.eq_of_getLsbD_eq
  intro i hi
  rw [BitVec.getLsbD_and, BitVec.getLsbD_signExtend, if_pos (show i < 64 by omega)]
  unfold lb
  cases i with
  | zero => cases h : x.toBitVec.getLsbD 0 <;> simp
  | succ i => cases h : x.toBitVec.getLsbD 0 <;> simp
theorem tb_one (j : Nat) : (1 : Nat).testBit j = decide (0 = j) := Nat.testBit_two_pow (n := 0)
/-- the places (of a word) that have 1 at bit b -/
def pwb (b : Nat) : Int64 := match b with
  | 0 => -6148914691236517206
  | 1 => -3689348814741910324
  | 2 => -1085102592571150096
  | 3 => -71777214294589696
  | 4 => -281470681808896
  | _ => -4294967296
theorem lb_pwb : ∀ b, b < 6 → ∀ i, i < 64 → lb (pwb b) i = i.testBit b := by decide +kernel
/-- words, and points in a word, of a function of N variables -/
def nw (N : Nat) : Nat := if N ≤ 6 then 1 else 2 ^ (N - 6)
def pw (N : Nat) : Nat := if N ≤ 6 then 2 ^ N else 64
def ao (N : Nat) : Int64 := ((-1 : Int64).toUInt64 >>> ((nI (64 - pw N)).toInt64.toUInt64 &&& Int64.toUInt64 63)).toInt64
theorem pw_le (N : Nat) : pw N ≤ 64 := by
  unfold pw
  split
  · exact Nat.le_trans (Nat.pow_le_pow_right (by omega) (by assumption)) (by decide)
  · omega
theorem pw_pos (N : Nat) : 0 < pw N := by
  unfold pw
  split
  · exact Nat.pow_pos (by omega)
  · omega
theorem nw_pos (N : Nat) : 0 < nw N := by
  unfold nw
  split
  · omega
  · exact Nat.pow_pos (by omega)
theorem nw_le {N : Nat} (h : N ≤ 12) : nw N ≤ 64 := by
  unfold nw
  split
  · omega
  · exact Nat.le_trans (Nat.pow_le_pow_right (by omega) (show N - 6 ≤ 6 by omega)) (by decide)
theorem np_le {N : Nat} (h : N ≤ 12) : 2 ^ N ≤ 4096 := Nat.le_trans (Nat.pow_le_pow_right (by omega) h) (by decide)
theorem lb_ao (N : Nat) {i : Nat} (hi : i < 64) : lb (ao N) i = decide (i < pw N) := by
  have h1 := pw_pos N
  have h2 := pw_le N
  unfold ao
  rw [lb_shr (64 - pw N) (by omega)]
  by_cases h : i < pw N
  · rw [lb_m1 _ (by omega), decide_eq_true h]
  · rw [lb_big (by omega), decide_eq_false h]
theorem nw_big {N : Nat} (h : 6 < N) : 2 ^ N = 64 * nw N := by
  unfold nw
  rw [if_neg (by omega), show N = 6 + (N - 6) by omega, Nat.pow_add, show 6 + (N - 6) - 6 = N - 6 by omega]
/-- a place of a word is a point of the function just if it is below pw N -/
theorem nw_pt {N w i : Nat} (hw : w < nw N) (hi : i < 64) : 64 * w + i < 2 ^ N ↔ i < pw N := by
  by_cases h : N ≤ 6
  · have e1 : nw N = 1 := if_pos h
    have e2 : pw N = 2 ^ N := if_pos h
    rw [e2]
    have : w = 0 := by omega
    subst this
    simp
  · have e2 : pw N = 64 := if_neg h
    have e3 := nw_big (N := N) (by omega)
    rw [e2, e3]
    omega
theorem pt_nw {N p : Nat} (hp : p < 2 ^ N) : p / 64 < nw N ∧ p % 64 < pw N := by
  by_cases h : N ≤ 6
  · have e1 : nw N = 1 := if_pos h
    have e2 : pw N = 2 ^ N := if_pos h
    have h3 : 2 ^ N ≤ 64 := Nat.le_trans (Nat.pow_le_pow_right (by omega) h) (by decide)
    rw [e1, e2]
    have h4 : p / 64 = 0 := Nat.div_eq_of_lt (by omega)
    have h5 : p % 64 = p := Nat.mod_eq_of_lt (by omega)
    omega
  · have e2 : pw N = 64 := if_neg h
    have e3 := nw_big (N := N) (by omega)
    rw [e2]
    rw [e3] at hp
    omega
/-- the bits of a point's number -/
theorem tb_lo {w i b : Nat} (hi : i < 64) (hb : b < 6) : (64 * w + i).testBit b = i.testBit b := by
  have h := Nat.testBit_two_pow_mul_add w (b := i) (i := 6) (by omega) b
  rw [if_pos hb] at h
  exact h
theorem tb_hi {w i b : Nat} (hi : i < 64) (hb : 6 ≤ b) : (64 * w + i).testBit b = w.testBit (b - 6) := by
  have h := Nat.testBit_two_pow_mul_add w (b := i) (i := 6) (by omega) b
  rw [if_neg (by omega)] at h
  exact h
theorem xr_lo {w i b : Nat} (hi : i < 64) (hb : b < 6) : (64 * w + i) ^^^ 2 ^ b = 64 * w + (i ^^^ 2 ^ b) := by
  have hx : i ^^^ 2 ^ b < 64 := Nat.xor_lt_two_pow (n := 6) hi (Nat.pow_lt_pow_right (by omega) hb)
  apply Nat.eq_of_testBit_eq
  intro j
  rw [Nat.testBit_xor]
  by_cases hj : j < 6
  · rw [tb_lo hi hj, tb_lo hx hj, Nat.testBit_xor]
  · rw [tb_hi hi (by omega), tb_hi hx (by omega), Nat.testBit_two_pow_of_ne (by omega), Bool.xor_false]
theorem xr_hi {w i b : Nat} (hi : i < 64) (hb : 6 ≤ b) : (64 * w + i) ^^^ 2 ^ b = 64 * (w ^^^ 2 ^ (b - 6)) + i := by
  apply Nat.eq_of_testBit_eq
  intro j
  rw [Nat.testBit_xor]
  by_cases hj : j < 6
  · rw [tb_lo hi hj, tb_lo hi hj, Nat.testBit_two_pow_of_ne (by omega), Bool.xor_false]
  · rw [tb_hi hi (by omega), tb_hi hi (by omega), Nat.testBit_xor, Nat.testBit_two_pow, Nat.testBit_two_pow]
    congr 1
    by_cases h : b = j
    · rw [decide_eq_true h, decide_eq_true (by omega)]
    · rw [decide_eq_false h, decide_eq_false (by omega)]
theorem xr_xr (p b : Nat) : (p ^^^ 2 ^ b) ^^^ 2 ^ b = p := by rw [Nat.xor_assoc, Nat.xor_self, Nat.xor_zero]
theorem xr_lt {N p b : Nat} (hp : p < 2 ^ N) (hb : b < N) : p ^^^ 2 ^ b < 2 ^ N := Nat.xor_lt_two_pow hp (Nat.pow_lt_pow_right (by omega) hb)
theorem xw_lt {N w b : Nat} (hw : w < nw N) (hb : b < N) (h6 : 6 ≤ b) : w ^^^ 2 ^ (b - 6) < nw N := by
  have e : nw N = 2 ^ (N - 6) := if_neg (by omega)
  rw [e] at hw ⊢
  exact xr_lt hw (by omega)
/-- a row of n words holds the function g (0 at what is no point) -/
def rp (n : Nat) (r : Nat → Int64) (g : Nat → Bool) : Prop := ∀ w i, w < n → i < 64 → lb (r w) i = g (64 * w + i)
def dm (N : Nat) (g : Nat → Bool) : Prop := ∀ p, 2 ^ N ≤ p → g p = false
theorem rp_eq {n : Nat} {r r' : Nat → Int64} {g : Nat → Bool} (h : rp n r g) (e : ∀ w, w < n → r' w = r w) : rp n r' g := fun w i hw hi => by rw [e w hw]; exact h w i hw hi
/-- pointsWithBit -/
def pwN (N w b : Nat) : Int64 := if b < 6 then pwb b &&& ao N else if w.testBit (b - 6) then ao N else 0
theorem lb_pwN {N w b i : Nat} (hw : w < nw N) (hi : i < 64) : lb (pwN N w b) i = ((64 * w + i).testBit b && decide (64 * w + i < 2 ^ N)) := by
  have e : decide (64 * w + i < 2 ^ N) = decide (i < pw N) := by rw [decide_eq_decide]; exact nw_pt hw hi
  rw [e]
  unfold pwN
  by_cases hb : b < 6
  · rw [if_pos hb, lb_and, lb_pwb b hb i hi, lb_ao N hi, tb_lo hi hb]
  · rw [if_neg hb, tb_hi hi (by omega)]
    cases h : w.testBit (b - 6)
    · simp [lb_0]
    · simp [lb_ao N hi]
/-- acrossBit -/
def acl (x : Int64) (b : Nat) : Int64 := ((x &&& pwb b).toUInt64 >>> ((nI (2 ^ b)).toInt64.toUInt64 &&& Int64.toUInt64 63)).toInt64 ||| ((x &&& (pwb b ^^^ (-1))) <<< ((nI (2 ^ b)).toInt64 &&& 63))
def acr (r : Nat → Int64) (w b : Nat) : Int64 := if 6 ≤ b then r (w ^^^ 2 ^ (b - 6)) else acl (r w) b
theorem ac_f : ∀ b, b < 6 → ∀ i, i < 64 → i.testBit b = false → i + 2 ^ b < 64 ∧ (i + 2 ^ b).testBit b = true ∧ i ^^^ 2 ^ b = 2 ^ b + i ∧ (2 ^ b ≤ i → (i - 2 ^ b).testBit b = true) := by decide +kernel
theorem ac_t : ∀ b, b < 6 → ∀ i, i < 64 → i.testBit b = true → 2 ^ b ≤ i ∧ (i - 2 ^ b).testBit b = false ∧ i ^^^ 2 ^ b = i - 2 ^ b ∧ (2 ^ b + i < 64 → (2 ^ b + i).testBit b = false) := by decide +kernel
theorem lb_acl (x : Int64) {b i : Nat} (hb : b < 6) (hi : i < 64) : lb (acl x b) i = lb x (i ^^^ 2 ^ b) := by
  have hp : 2 ^ b < 64 := Nat.pow_lt_pow_right (a := 2) (by omega) hb
  have hs : i - 2 ^ b < 64 := Nat.lt_of_le_of_lt (Nat.sub_le _ _) hi
  unfold acl
  rw [lb_or, lb_shr (2 ^ b) hp, lb_shl (2 ^ b) hp _ hi, lb_and, lb_and]
  cases ht : i.testBit b
  · obtain ⟨h1, h2, h3, h4⟩ := ac_f b hb i hi ht
    rw [h3, lb_pwb b hb (2 ^ b + i) (by omega), show 2 ^ b + i = i + 2 ^ b from Nat.add_comm _ _, h2, Bool.and_true]
    by_cases hle : 2 ^ b ≤ i
    · rw [lb_not _ hs, lb_pwb b hb (i - 2 ^ b) hs, h4 hle]
      simp
    · simp [hle]
  · obtain ⟨h1, h2, h3, h4⟩ := ac_t b hb i hi ht
    rw [h3, lb_not _ hs, lb_pwb b hb (i - 2 ^ b) hs, h2]
    have e : (lb x (2 ^ b + i) && lb (pwb b) (2 ^ b + i)) = false := by
      by_cases hlt : 2 ^ b + i < 64
      · rw [lb_pwb b hb _ hlt, h4 hlt, Bool.and_false]
      · rw [lb_big (by omega), Bool.false_and]
    rw [e]
    simp [h1]
theorem lb_acr {N : Nat} {r : Nat → Int64} {g : Nat → Bool} (h : rp (nw N) r g) {w b i : Nat} (hw : w < nw N) (hb : b < N) (hi : i < 64) : lb (acr r w b) i = g ((64 * w + i) ^^^ 2 ^ b) := by
  unfold acr
  by_cases h6 : 6 ≤ b
  · rw [if_pos h6, h _ i (xw_lt hw hb h6) hi, xr_hi hi h6]
  · rw [if_neg h6, lb_acl _ (by omega) hi, h w _ hw (Nat.xor_lt_two_pow (n := 6) hi (Nat.pow_lt_pow_right (by omega) (by omega))), xr_lo hi (by omega)]
/-- spread, in place, j words done -/
def spr (b : Nat) (r : Nat → Int64) : Nat → Nat → Int64
  | 0 => r
  | j + 1 => vp_updL (spr b r j) j (spr b r j j ||| acr (spr b r j) j b)
theorem spr_in {N b : Nat} (hb : b < N) {r : Nat → Int64} {g : Nat → Bool} (h : rp (nw N) r g) : ∀ j, j ≤ nw N → ∀ w i, w < nw N → i < 64 → lb (spr b r j w) i = if w < j then (g (64 * w + i) || g ((64 * w + i) ^^^ 2 ^ b)) else g (64 * w + i)
  | 0, _, w, i, hw, hi => by rw [if_neg (by omega)]; exact h w i hw hi
  | j + 1, hj, w, i, hw, hi => by
    have ih := spr_in hb h j (by omega)
    show lb (vp_updL (spr b r j) j _ w) i = _
    by_cases e : w = j
    · subst e
      rw [pk_uLs, lb_or, ih w i hw hi, if_neg (by omega), if_pos (by omega)]
      unfold acr
      by_cases h6 : 6 ≤ b
      · rw [if_pos h6, ih _ i (xw_lt hw hb h6) hi, ← xr_hi hi h6, xr_xr]
        split
        · cases g (64 * w + i) <;> simp
        · rfl
      · rw [if_neg h6, lb_acl _ (by omega) hi, ih w _ hw (Nat.xor_lt_two_pow (n := 6) hi (Nat.pow_lt_pow_right (by omega) (by omega))), if_neg (by omega), xr_lo hi (by omega)]
    · rw [pk_uLn e, ih w i hw hi]
      by_cases hl : w < j
      · rw [if_pos hl, if_pos (by omega)]
      · rw [if_neg hl, if_neg (by omega)]
/-- spread: g, or g across the bit -/
def sg (b : Nat) (g : Nat → Bool) : Nat → Bool := fun p => g p || g (p ^^^ 2 ^ b)
theorem spr_rp {N b : Nat} (hb : b < N) {r : Nat → Int64} {g : Nat → Bool} (h : rp (nw N) r g) : rp (nw N) (spr b r (nw N)) (sg b g) := fun w i hw hi => by
  rw [spr_in hb h _ (Nat.le_refl _) w i hw hi, if_pos hw]
  rfl
theorem sg_dm {N b : Nat} (hb : b < N) {g : Nat → Bool} (h : dm N g) : dm N (sg b g) := fun p hp => by
  have h1 : ¬ (p ^^^ 2 ^ b) < 2 ^ N := fun h9 => by
    have := xr_lt h9 hb
    rw [xr_xr] at this
    omega
  unfold sg
  rw [h p hp, h _ (by omega)]
  rfl
theorem spr_out (b : Nat) (r : Nat → Int64) : ∀ j w, j ≤ w → spr b r j w = r w
  | 0, _, _ => rfl
  | j + 1, w, h => by
    show vp_updL (spr b r j) j _ w = _
    rw [pk_uLn (by omega), spr_out b r j w (by omega)]
/-- chosen -/
def chs (a b c : Int64) : Int64 := (a &&& b) ||| ((a ^^^ (-1)) &&& c)
theorem lb_chs (a b c : Int64) {i : Nat} (hi : i < 64) : lb (chs a b c) i = if lb a i = true then lb b i else lb c i := by
  unfold chs
  rw [lb_or, lb_and, lb_and, lb_not _ hi]
  cases lb a i <;> simp
/-- combined -/
def cmb (op : Nat) (a b : Int64) : Int64 := match op with
  | 0 => a &&& b
  | 1 => a ||| b
  | 2 => a ^^^ b
  | _ => a &&& (b ^^^ (-1))
def cmg (op : Nat) (a b : Bool) : Bool := match op with
  | 0 => a && b
  | 1 => a || b
  | 2 => a ^^ b
  | _ => a && !b
theorem lb_cmb (op : Nat) (a b : Int64) {i : Nat} (hi : i < 64) : lb (cmb op a b) i = cmg op (lb a i) (lb b i) := by
  unfold cmb cmg
  split
  · exact lb_and a b i
  · exact lb_or a b i
  · exact lb_xor a b i
  · rw [lb_and, lb_not _ hi]
end
section
/-! how many of the first n are true -/
def pcn (f : Nat → Bool) : Nat → Nat
  | 0 => 0
  | n + 1 => pcn f n + (f n).toNat
theorem pcn_le (f : Nat → Bool) : ∀ n, pcn f n ≤ n
  | 0 => Nat.le_refl 0
  | n + 1 => by
    have := pcn_le f n
    have h : (f n).toNat ≤ 1 := by cases f n <;> decide
    show pcn f n + (f n).toNat ≤ n + 1
    omega
theorem pcn_add (f : Nat → Bool) (m : Nat) : ∀ n, pcn f (m + n) = pcn f m + pcn (fun i => f (m + i)) n
  | 0 => rfl
  | n + 1 => by
    show pcn f (m + n) + (f (m + n)).toNat = pcn f m + (pcn (fun i => f (m + i)) n + (f (m + n)).toNat)
    rw [pcn_add f m n]
    omega
theorem pcn_congr {f g : Nat → Bool} : ∀ {n : Nat}, (∀ i, i < n → f i = g i) → pcn f n = pcn g n
  | 0, _ => rfl
  | n + 1, h => by
    show pcn f n + (f n).toNat = pcn g n + (g n).toNat
    rw [pcn_congr (n := n) (fun i hi => h i (by omega)), h n (by omega)]
theorem pcn_0 {f : Nat → Bool} : ∀ {n : Nat}, (∀ i, i < n → f i = false) → pcn f n = 0
  | 0, _ => rfl
  | n + 1, h => by
    show pcn f n + (f n).toNat = 0
    rw [pcn_0 (n := n) (fun i hi => h i (by omega)), h n (by omega)]
    rfl
/-! the sums inside a word: Long.bitCount -/
def sk (d : Nat) : Nat → Nat
  | 0 => 0
  | k + 1 => 256 * sk d k + d
theorem an256 {a b c d : Nat} (hb : b < 256) (hd : d < 256) : (256 * a + b) &&& (256 * c + d) = 256 * (a &&& c) + (b &&& d) := by
  have hx : b &&& d < 2 ^ 8 := Nat.and_lt_two_pow b (n := 8) hd
  apply Nat.eq_of_testBit_eq
  intro j
  have e1 := Nat.testBit_two_pow_mul_add a (b := b) (i := 8) hb j
  have e2 := Nat.testBit_two_pow_mul_add c (b := d) (i := 8) hd j
  have e3 := Nat.testBit_two_pow_mul_add (a &&& c) (b := b &&& d) (i := 8) hx j
  rw [Nat.testBit_and]
  rw [show 256 * a + b = 2 ^ 8 * a + b from rfl, show 256 * c + d = 2 ^ 8 * c + d from rfl, show 256 * (a &&& c) + (b &&& d) = 2 ^ 8 * (a &&& c) + (b &&& d) from rfl, e1, e2, e3]
  split
  · rw [Nat.testBit_and]
  · rw [Nat.testBit_and]
def q1 (k x : Nat) : Nat := x - (x / 2 &&& sk 85 k)
def q2 (k x : Nat) : Nat := (x &&& sk 51 k) + (x / 4 &&& sk 51 k)
def q3 (k x : Nat) : Nat := (x + x / 16) &&& sk 15 k
def r1 (b : Nat) : Nat := b - (b / 2 &&& 85)
def r2 (b : Nat) : Nat := (b &&& 51) + (b / 4 &&& 51)
def r3 (b : Nat) : Nat := (b + b / 16) &&& 15
theorem q1_f : ∀ b, b < 256 → ∀ e, e < 2 → (128 * e + b / 2) &&& 85 = b / 2 &&& 85 := by decide +kernel
theorem q2_f : ∀ b, b < 256 → ∀ e, e < 4 → (64 * e + b / 4) &&& 51 = b / 4 &&& 51 := by decide +kernel
theorem r_f : ∀ b, b < 256 → r1 b < 256 ∧ r2 (r1 b) ≤ 68 ∧ r2 (r1 b) % 16 ≤ 4 ∧ r3 (r2 (r1 b)) = pcn (fun i => b.testBit i) 8 := by decide +kernel
theorem q1_s (k : Nat) {a b : Nat} (hb : b < 256) : q1 (k + 1) (256 * a + b) = 256 * q1 k a + r1 b := by
  have e : (256 * a + b) / 2 = 256 * (a / 2) + (128 * (a % 2) + b / 2) := by omega
  have h1 : a / 2 &&& sk 85 k ≤ a := Nat.le_trans Nat.and_le_left (Nat.div_le_self _ _)
  have h2 : b / 2 &&& 85 ≤ b := Nat.le_trans Nat.and_le_left (Nat.div_le_self _ _)
  unfold q1 r1
  show 256 * a + b - ((256 * a + b) / 2 &&& (256 * sk 85 k + 85)) = _
  rw [e, an256 (by omega) (by omega), q1_f b hb _ (Nat.mod_lt _ (by omega))]
  omega
theorem q2_s (k : Nat) {a b : Nat} (hb : b < 256) : q2 (k + 1) (256 * a + b) = 256 * q2 k a + r2 b := by
  have e : (256 * a + b) / 4 = 256 * (a / 4) + (64 * (a % 4) + b / 4) := by omega
  unfold q2 r2
  show ((256 * a + b) &&& (256 * sk 51 k + 51)) + ((256 * a + b) / 4 &&& (256 * sk 51 k + 51)) = _
  rw [e, an256 hb (by omega), an256 (by omega) (by omega), q2_f b hb _ (Nat.mod_lt _ (by omega))]
  omega
theorem q3_s (k : Nat) {a b : Nat} (hb : b ≤ 68) (ha : a % 16 ≤ 4) : q3 (k + 1) (256 * a + b) = 256 * q3 k a + r3 b := by
  have e : 256 * a + b + (256 * a + b) / 16 = 256 * (a + a / 16) + (b + b / 16 + 16 * (a % 16)) := by omega
  unfold q3 r3
  show (256 * a + b + (256 * a + b) / 16) &&& (256 * sk 15 k + 15) = _
  rw [e, an256 (by omega) (by omega)]
  congr 1
  have h1 := Nat.and_two_pow_sub_one_eq_mod (b + b / 16 + 16 * (a % 16)) 4
  have h2 := Nat.and_two_pow_sub_one_eq_mod (b + b / 16) 4
  have e1 : (b + b / 16 + 16 * (a % 16)) &&& 15 = (b + b / 16 + 16 * (a % 16)) % 16 := h1
  have e2 : (b + b / 16) &&& 15 = (b + b / 16) % 16 := h2
  rw [e1, e2]
  omega
def qq (k x : Nat) : Nat := q3 k (q2 k (q1 k x))
theorem qq_s (k : Nat) {a b : Nat} (hb : b < 256) (ha : q2 k (q1 k a) % 16 ≤ 4) : qq (k + 1) (256 * a + b) = 256 * qq k a + pcn (fun i => b.testBit i) 8 := by
  obtain ⟨h1, h2, h3, h4⟩ := r_f b hb
  unfold qq
  rw [q1_s k hb, q2_s k h1, q3_s k h2 ha, h4]
theorem qq_m (k : Nat) {a : Nat} : q2 k (q1 k a) % 16 ≤ 4 := by
  cases k with
  | zero =>
    show ((q1 0 a &&& 0) + (q1 0 a / 4 &&& 0)) % 16 ≤ 4
    rw [Nat.and_zero, Nat.and_zero]
    decide
  | succ k =>
    have hb : a % 256 < 256 := Nat.mod_lt _ (by omega)
    obtain ⟨h1, h2, h3, h4⟩ := r_f (a % 256) hb
    have e : a = 256 * (a / 256) + a % 256 := by omega
    rw [e, q1_s k hb, q2_s k h1]
    omega
theorem qq_b (k x : Nat) : qq (k + 1) x = 256 * qq k (x / 256) + pcn (fun i => (x % 256).testBit i) 8 := by
  have e : x = 256 * (x / 256) + x % 256 := by omega
  conv => lhs; rw [e]
  exact qq_s k (Nat.mod_lt _ (by omega)) (qq_m k)
theorem pcn_b (x n : Nat) : pcn (fun i => x.testBit i) (8 + n) = pcn (fun i => (x % 256).testBit i) 8 + pcn (fun i => (x / 256).testBit i) n := by
  rw [pcn_add]
  congr 1
  · apply pcn_congr
    intro i hi
    show x.testBit i = (x % 2 ^ 8).testBit i
    rw [Nat.testBit_mod_two_pow]
    simp [hi]
  · apply pcn_congr
    intro i _
    show x.testBit (8 + i) = (x / 2 ^ 8).testBit i
    rw [Nat.testBit_div_two_pow, Nat.add_comm]
/-- the last three sums -/
def qs (w : Nat) : Nat := w + w / 256
def qt (w : Nat) : Nat := w + w / 65536
def qu (w : Nat) : Nat := w + w / 4294967296
theorem qq_z (x : Nat) : q3 0 x = 0 := Nat.and_zero _
theorem bc_nat (x : Nat) : qu (qt (qs (qq 8 x))) % 128 = pcn (fun i => x.testBit i) 64 ∧ qu (qt (qs (qq 8 x))) < 2 ^ 63 := by
  have hp : ∀ y, pcn (fun i => (y % 256).testBit i) 8 ≤ 8 := fun y => pcn_le _ 8
  have e : pcn (fun i => x.testBit i) 64 = pcn (fun i => (x % 256).testBit i) 8 + (pcn (fun i => (x / 256 % 256).testBit i) 8 + (pcn (fun i => (x / 256 / 256 % 256).testBit i) 8 + (pcn (fun i => (x / 256 / 256 / 256 % 256).testBit i) 8 + (pcn (fun i => (x / 256 / 256 / 256 / 256 % 256).testBit i) 8 + (pcn (fun i => (x / 256 / 256 / 256 / 256 / 256 % 256).testBit i) 8 + (pcn (fun i => (x / 256 / 256 / 256 / 256 / 256 / 256 % 256).testBit i) 8 + (pcn (fun i => (x / 256 / 256 / 256 / 256 / 256 / 256 / 256 % 256).testBit i) 8 + 0))))))) := by
    rw [show 64 = 8 + 56 from rfl, pcn_b, show 56 = 8 + 48 from rfl, pcn_b, show 48 = 8 + 40 from rfl, pcn_b, show 40 = 8 + 32 from rfl, pcn_b, show 32 = 8 + 24 from rfl, pcn_b, show 24 = 8 + 16 from rfl, pcn_b, show 16 = 8 + 8 from rfl, pcn_b, show pcn (fun i => (x / 256 / 256 / 256 / 256 / 256 / 256 / 256).testBit i) 8 = pcn (fun i => (x / 256 / 256 / 256 / 256 / 256 / 256 / 256).testBit i) (8 + 0) from rfl, pcn_b]
    rfl
  have z : ∀ y, qq 0 y = 0 := fun y => qq_z _
  rw [e, qq_b, qq_b, qq_b, qq_b, qq_b, qq_b, qq_b, qq_b, z]
  have h0 := hp x
  have h1 := hp (x / 256)
  have h2 := hp (x / 256 / 256)
  have h3 := hp (x / 256 / 256 / 256)
  have h4 := hp (x / 256 / 256 / 256 / 256)
  have h5 := hp (x / 256 / 256 / 256 / 256 / 256)
  have h6 := hp (x / 256 / 256 / 256 / 256 / 256 / 256)
  have h7 := hp (x / 256 / 256 / 256 / 256 / 256 / 256 / 256)
  generalize pcn (fun i => (x % 256).testBit i) 8 = p0 at h0 ⊢
  generalize pcn (fun i => (x / 256 % 256).testBit i) 8 = p1 at h1 ⊢
  generalize pcn (fun i => (x / 256 / 256 % 256).testBit i) 8 = p2 at h2 ⊢
  generalize pcn (fun i => (x / 256 / 256 / 256 % 256).testBit i) 8 = p3 at h3 ⊢
  generalize pcn (fun i => (x / 256 / 256 / 256 / 256 % 256).testBit i) 8 = p4 at h4 ⊢
  generalize pcn (fun i => (x / 256 / 256 / 256 / 256 / 256 % 256).testBit i) 8 = p5 at h5 ⊢
  generalize pcn (fun i => (x / 256 / 256 / 256 / 256 / 256 / 256 % 256).testBit i) 8 = p6 at h6 ⊢
  generalize pcn (fun i => (x / 256 / 256 / 256 / 256 / 256 / 256 / 256 % 256).testBit i) 8 = p7 at h7 ⊢
  generalize hw : 256 * (256 * (256 * (256 * (256 * (256 * (256 * (256 * 0 + p7) + p6) + p5) + p4) + p3) + p2) + p1) + p0 = w
  have e1 : qs w = 256 * (256 * (256 * (256 * (256 * (256 * (256 * p7 + (p6 + p7)) + (p5 + p6)) + (p4 + p5)) + (p3 + p4)) + (p2 + p3)) + (p1 + p2)) + (p0 + p1) := by
    unfold qs
    omega
  generalize qs w = v at e1 ⊢
  have e2 : qt v = 65536 * (65536 * (65536 * (256 * p7 + (p6 + p7)) + (256 * (p5 + p6 + p7) + (p4 + p5 + p6 + p7))) + (256 * (p3 + p4 + p5 + p6) + (p2 + p3 + p4 + p5))) + (256 * (p1 + p2 + p3 + p4) + (p0 + p1 + p2 + p3)) := by
    unfold qt
    omega
  generalize qt v = u at e2 ⊢
  unfold qu
  clear e e1 hw
  have e3 : u / 4294967296 = 65536 * (256 * p7 + (p6 + p7)) + (256 * (p5 + p6 + p7) + (p4 + p5 + p6 + p7)) := by omega
  rw [e3]
  refine ⟨?_, by omega⟩
  have e4 : u + (65536 * (256 * p7 + (p6 + p7)) + (256 * (p5 + p6 + p7) + (p4 + p5 + p6 + p7))) = 128 * (2 * (256 * (65536 * (65536 * (256 * p7 + (p6 + p7)) + (256 * (p5 + p6 + p7) + (p4 + p5 + p6 + p7))) + (256 * (p3 + p4 + p5 + p6) + (p2 + p3 + p4 + p5))) + (p1 + p2 + p3 + p4)) + 2 * (256 * (256 * p7 + (p6 + p7)) + (p5 + p6 + p7))) + (p0 + (p1 + (p2 + (p3 + (p4 + (p5 + (p6 + (p7 + 0)))))))) := by omega
  rw [e4, Nat.mul_add_mod]
  exact Nat.mod_eq_of_lt (by omega)
end
section
theorem yb_inj {a b : Int64} (h : a.toBitVec = b.toBitVec) : a = b := Int64.toBitVec_inj.mp h
theorem yb_of (x : Int64) : ∃ n, n < 2 ^ 64 ∧ x = lN n := ⟨x.toBitVec.toNat, x.toBitVec.isLt, yb_inj (by show x.toBitVec = BitVec.ofNat 64 _; simp)⟩
theorem lb_lN {n : Nat} (i : Nat) (hi : i < 64) : lb (lN n) i = n.testBit i := by
  show (BitVec.ofNat 64 n).getLsbD i = _
  rw [BitVec.getLsbD_ofNat]
  simp [hi]
theorem yb_and {a b : Nat} : lN a &&& lN b = lN (a &&& b) := lb_ext (fun i hi => by rw [lb_and, lb_lN i hi, lb_lN i hi, lb_lN i hi, Nat.testBit_and])
theorem yb_shr {n k : Nat} (hn : n < 2 ^ 64) (hk : k < 64) : ((lN n).toUInt64 >>> ((nI k).toInt64.toUInt64 &&& Int64.toUInt64 63)).toInt64 = lN (n / 2 ^ k) := lb_ext (fun i hi => by
  rw [lb_shr k hk, lb_lN i hi, Nat.testBit_div_two_pow]
  by_cases h : k + i < 64
  · rw [lb_lN _ h, Nat.add_comm]
  · rw [lb_big (by omega), Nat.testBit_lt_two_pow (Nat.lt_of_lt_of_le hn (Nat.pow_le_pow_right (by omega) (by omega)))])
/-- Long.bitCount, its steps -/
theorem bc_1 {X : Nat} (h : X < 2 ^ 64) : lN X - (((lN X).toUInt64 >>> ((nI 1).toInt64.toUInt64 &&& Int64.toUInt64 63)).toInt64 &&& 6148914691236517205) = lN (q1 8 X) := by
  rw [yb_shr h (by omega), show (6148914691236517205 : Int64) = lN (sk 85 8) from by decide +kernel, yb_and, lN_sub (Nat.le_trans Nat.and_le_left (Nat.div_le_self _ _))]
  rfl
theorem bc_1b {X : Nat} (h : X < 2 ^ 64) : q1 8 X < 2 ^ 64 := Nat.lt_of_le_of_lt (Nat.sub_le _ _) h
theorem bc_2 {X : Nat} (h : X < 2 ^ 64) : (lN X &&& 3689348814741910323) + (((lN X).toUInt64 >>> ((nI 2).toInt64.toUInt64 &&& Int64.toUInt64 63)).toInt64 &&& 3689348814741910323) = lN (q2 8 X) := by
  rw [yb_shr h (by omega), show (3689348814741910323 : Int64) = lN (sk 51 8) from by decide +kernel, yb_and, yb_and, lN_add]
  rfl
theorem bc_2b {X : Nat} : q2 8 X < 2 ^ 64 := by
  have h1 : X &&& sk 51 8 ≤ sk 51 8 := Nat.and_le_right
  have h2 : X / 4 &&& sk 51 8 ≤ sk 51 8 := Nat.and_le_right
  have h3 : sk 51 8 = 3689348814741910323 := by decide +kernel
  unfold q2
  omega
theorem bc_3 {X : Nat} (h : X < 2 ^ 64) : (lN X + ((lN X).toUInt64 >>> ((nI 4).toInt64.toUInt64 &&& Int64.toUInt64 63)).toInt64) &&& 1085102592571150095 = lN (q3 8 X) := by
  rw [yb_shr h (by omega), show (1085102592571150095 : Int64) = lN (sk 15 8) from by decide +kernel, lN_add, yb_and]
  rfl
theorem bc_3b {X : Nat} : q3 8 X ≤ 1085102592571150095 := by
  have h3 : sk 15 8 = 1085102592571150095 := by decide +kernel
  unfold q3
  rw [← h3]
  exact Nat.and_le_right
theorem bc_4 {X : Nat} (h : X < 2 ^ 64) : lN X + ((lN X).toUInt64 >>> ((nI 8).toInt64.toUInt64 &&& Int64.toUInt64 63)).toInt64 = lN (qs X) := by
  rw [yb_shr h (by omega), lN_add]
  rfl
theorem bc_5 {X : Nat} (h : X < 2 ^ 64) : lN X + ((lN X).toUInt64 >>> ((nI 16).toInt64.toUInt64 &&& Int64.toUInt64 63)).toInt64 = lN (qt X) := by
  rw [yb_shr h (by omega), lN_add]
  rfl
theorem bc_6 {X : Nat} (h : X < 2 ^ 64) : lN X + ((lN X).toUInt64 >>> ((nI 32).toInt64.toUInt64 &&& Int64.toUInt64 63)).toInt64 = lN (qu X) := by
  rw [yb_shr h (by omega), lN_add]
  rfl
theorem bc_7 (X : Nat) : (lN X).toInt32 &&& nI 127 = nI (X % 128) := by
  rw [lN_i, pk_and (nI X) 7 (by decide +kernel)]
  have e : (nI X).toBitVec.toNat = X % 2 ^ 32 := rfl
  rw [e]
  congr 1
  exact Nat.mod_mod_of_dvd X (by decide)
theorem bc_8 {x : Int64} {X : Nat} (e : x = lN X) : pcn (fun i => X.testBit i) 64 = pcn (lb x) 64 := pcn_congr (fun i hi => by rw [e, lb_lN i hi])
/-- the lowest 1 -/
theorem low_eq {x : Int64} {t : Nat} (ht : t < 64) (h1 : lb x t = true) (h0 : ∀ j, j < t → lb x j = false) : x &&& -x = lN (2 ^ t) := lb_ext (fun i hi => by
  rw [lb_and, lb_lN i hi, Nat.testBit_two_pow]
  have e : lb (-x) i = (lb x i ^^ decide (i < 64) && decide (∃ j < i, lb x j = true)) := by
    unfold lb
    rw [Int64.toBitVec_neg, BitVec.getLsbD_neg]
  rw [e]
  rcases Nat.lt_trichotomy i t with h | h | h
  · rw [h0 i h, decide_eq_false (show ¬ t = i by omega)]
    rfl
  · subst h
    rw [h1, decide_eq_true rfl, decide_eq_false (show ¬ ∃ j, j < i ∧ lb x j = true from fun ⟨j, hj, hj2⟩ => by rw [h0 j hj] at hj2; cases hj2)]
    simp
  · rw [decide_eq_false (show ¬ t = i by omega), decide_eq_true (show ∃ j, j < i ∧ lb x j = true from ⟨t, h, h1⟩), decide_eq_true hi]
    cases lb x i <;> rfl)
theorem low_pcn {x : Int64} {t : Nat} (ht : t < 64) (h1 : lb x t = true) (h0 : ∀ j, j < t → lb x j = false) : pcn (lb ((x &&& -x) - 1)) 64 = t := by
  have hp : 1 ≤ 2 ^ t := Nat.one_le_two_pow
  have e : (x &&& -x) - 1 = lN (2 ^ t - 1) := by
    rw [low_eq ht h1 h0, show (1 : Int64) = lN 1 from rfl, lN_sub hp]
  rw [e]
  have e2 : pcn (lb (lN (2 ^ t - 1))) 64 = pcn (fun i => decide (i < t)) 64 := pcn_congr (fun i hi => by rw [lb_lN i hi, Nat.testBit_two_pow_sub_one])
  rw [e2, show 64 = t + (64 - t) by omega, pcn_add, pcn_0 (f := fun i => decide (t + i < t)) (fun i _ => decide_eq_false (by omega))]
  have e3 : ∀ n, n ≤ t → pcn (fun i => decide (i < t)) n = n := by
    intro n
    induction n with
    | zero => intro _; rfl
    | succ n ih =>
      intro h
      show pcn (fun i => decide (i < t)) n + (decide (n < t)).toNat = n + 1
      rw [ih (by omega), decide_eq_true (by omega)]
      rfl
  rw [e3 t (Nat.le_refl t), Nat.add_zero]
theorem qq_le (X : Nat) : qq 8 X ≤ 1085102592571150095 := bc_3b
theorem qs_lt (X : Nat) : qs (qq 8 X) < 2 ^ 64 := by
  have := qq_le X
  unfold qs
  omega
theorem qt_lt (X : Nat) : qt (qs (qq 8 X)) < 2 ^ 64 := by
  have := qq_le X
  unfold qt qs
  omega
theorem qu_lt (X : Nat) : qu (qt (qs (qq 8 X))) < 2 ^ 64 := by
  have := (bc_nat X).2
  omega
end
section
/-! nearest: of the points where c is 1, the one whose number differs least from p (bit by bit, read as a number), in the block of 2 ^ b points round p -/
def nq (c : Nat → Bool) : Nat → Nat → Option Nat
  | 0, p => if c p then some p else none
  | b + 1, p => match nq c b p with
    | some q => some q
    | none => nq c b (p ^^^ 2 ^ b)
def ng (a c : Nat → Bool) (b p : Nat) : Bool := match nq c b p with
  | some q => a q
  | none => false
/-- some point of c in the block -/
def nc (c : Nat → Bool) (b p : Nat) : Bool := (nq c b p).isSome
theorem ng_s (a c : Nat → Bool) (b p : Nat) : ng a c (b + 1) p = (ng a c b p || (ng a c b (p ^^^ 2 ^ b) && !nc c b p)) := by
  unfold ng nc
  show (match (match nq c b p with | some q => some q | none => nq c b (p ^^^ 2 ^ b)) with | some q => a q | none => false) = _
  cases nq c b p with
  | none => simp
  | some q => simp
theorem nc_s (c : Nat → Bool) (b p : Nat) : nc c (b + 1) p = (nc c b p || nc c b (p ^^^ 2 ^ b)) := by
  unfold nc
  show (match nq c b p with | some q => some q | none => nq c b (p ^^^ 2 ^ b)).isSome = _
  cases nq c b p with
  | none => simp
  | some q => simp
theorem ng_0 (a c : Nat → Bool) (p : Nat) : ng a c 0 p = (a p && c p) := by
  unfold ng
  show (match (if c p then some p else none) with | some q => a q | none => false) = _
  cases c p <;> simp
theorem nc_0 (c : Nat → Bool) (p : Nat) : nc c 0 p = c p := by
  unfold nc
  show (if c p then some p else none).isSome = _
  cases c p <;> simp
theorem ng_nc {a c : Nat → Bool} {b p : Nat} (h : nc c b p = false) : ng a c b p = false := by
  unfold nc at h
  unfold ng
  cases hq : nq c b p with
  | none => rfl
  | some q => rw [hq] at h; cases h
/-- xor of a block's number: below 2 ^ (b + 1) it is below 2 ^ b, or 2 ^ b and the rest -/
theorem xr_half {x b : Nat} (h : x < 2 ^ (b + 1)) : x < 2 ^ b ∨ (x ^^^ 2 ^ b) < 2 ^ b ∧ x = 2 ^ b + (x ^^^ 2 ^ b) := by
  rcases Nat.lt_or_ge x (2 ^ b) with h1 | h1
  · exact Or.inl h1
  · right
    have h2 : x - 2 ^ b < 2 ^ b := by rw [Nat.pow_succ] at h; omega
    have e : 2 ^ b + (x - 2 ^ b) = 2 ^ b ^^^ (x - 2 ^ b) := by
      apply Nat.eq_of_testBit_eq
      intro j
      rw [Nat.testBit_xor, Nat.testBit_two_pow]
      have e3 := Nat.testBit_two_pow_mul_add 1 (b := x - 2 ^ b) (i := b) h2 j
      rw [Nat.mul_one] at e3
      rw [e3]
      split
      · rename_i hj
        rw [decide_eq_false (by omega), Bool.false_xor]
      · rename_i hj
        by_cases hjb : b = j
        · subst hjb
          rw [decide_eq_true rfl, Nat.testBit_lt_two_pow h2, Nat.sub_self]
          rfl
        · rw [decide_eq_false hjb, Bool.false_xor, Nat.testBit_lt_two_pow (Nat.lt_of_lt_of_le h2 (Nat.pow_le_pow_right (by omega) (by omega))), tb_one]
          exact decide_eq_false (by omega)
    have e2 : x ^^^ 2 ^ b = x - 2 ^ b := by
      have e4 : x = 2 ^ b ^^^ (x - 2 ^ b) := by rw [← e]; omega
      conv => lhs; rw [e4, Nat.xor_comm, ← Nat.xor_assoc, Nat.xor_self, Nat.zero_xor]
    rw [e2]
    omega
theorem nq_none {c : Nat → Bool} : ∀ {b p : Nat}, nq c b p = none → ∀ z, c z = true → ¬ (p ^^^ z) < 2 ^ b
  | 0, p, h, z, hz, hl => by
    have h : (if c p then some p else none) = none := h
    have e : p ^^^ z = 0 := by rw [Nat.pow_zero] at hl; omega
    have e2 : z = p := by
      have e3 : (p ^^^ z) ^^^ z = p := by rw [Nat.xor_assoc, Nat.xor_self, Nat.xor_zero]
      rw [e, Nat.zero_xor] at e3
      exact e3
    rw [← e2, hz] at h
    cases h
  | b + 1, p, h, z, hz, hl => by
    have h : (match nq c b p with | some q => some q | none => nq c b (p ^^^ 2 ^ b)) = none := h
    cases hq : nq c b p with
    | some q' => rw [hq] at h; cases h
    | none =>
      rw [hq] at h
      rcases xr_half hl with h9 | ⟨h9, -⟩
      · exact nq_none hq z hz h9
      · refine nq_none (show nq c b (p ^^^ 2 ^ b) = none from h) z hz ?_
        rw [Nat.xor_assoc, Nat.xor_comm (2 ^ b) z, ← Nat.xor_assoc]
        exact h9
theorem nq_some {c : Nat → Bool} : ∀ {b p q : Nat}, nq c b p = some q → c q = true ∧ (p ^^^ q) < 2 ^ b ∧ ∀ z, c z = true → (p ^^^ z) < 2 ^ b → (p ^^^ q) ≤ (p ^^^ z)
  | 0, p, q, h => by
    have h : (if c p then some p else none) = some q := h
    cases hc : c p with
    | false => rw [hc] at h; cases h
    | true =>
      rw [hc] at h
      cases h
      exact ⟨hc, by rw [Nat.xor_self]; decide, fun z _ _ => by rw [Nat.xor_self]; exact Nat.zero_le _⟩
  | b + 1, p, q, h => by
    have h : (match nq c b p with | some q => some q | none => nq c b (p ^^^ 2 ^ b)) = some q := h
    cases hq : nq c b p with
    | some q' =>
      rw [hq] at h
      cases h
      obtain ⟨h1, h2, h3⟩ := nq_some hq
      refine ⟨h1, Nat.lt_of_lt_of_le h2 (Nat.pow_le_pow_right (by omega) (by omega)), fun z hz hl => ?_⟩
      rcases Nat.lt_or_ge (p ^^^ z) (2 ^ b) with h9 | h9
      · exact h3 z hz h9
      · omega
    | none =>
      rw [hq] at h
      obtain ⟨h1, h2, h3⟩ := nq_some (show nq c b (p ^^^ 2 ^ b) = some q from h)
      have hc : ∀ z, (p ^^^ 2 ^ b) ^^^ z = (p ^^^ z) ^^^ 2 ^ b := fun z => by rw [Nat.xor_assoc, Nat.xor_comm (2 ^ b) z, ← Nat.xor_assoc]
      have hno := nq_none hq
      have hlt : (p ^^^ q) < 2 ^ (b + 1) := by
        have e : p ^^^ q = ((p ^^^ 2 ^ b) ^^^ q) ^^^ 2 ^ b := by rw [hc, xr_xr]
        rw [e]
        exact Nat.xor_lt_two_pow (Nat.lt_of_lt_of_le h2 (Nat.pow_le_pow_right (by omega) (by omega))) (Nat.pow_lt_pow_right (by omega) (by omega))
      refine ⟨h1, hlt, fun z hz hl => ?_⟩
      rcases xr_half hl with h9 | ⟨h9, e9⟩
      · exact absurd h9 (hno z hz)
      · rcases xr_half hlt with h8 | ⟨h8, e8⟩
        · exact absurd h8 (hno q h1)
        · have := h3 z hz (by rw [hc]; exact h9)
          rw [hc, hc] at this
          omega
/-- the step of nearest, in place, j words done -/
def nst (b : Nat) (re dr : Nat → Int64) : Nat → Nat → Int64
  | 0 => dr
  | j + 1 => vp_updL (nst b re dr j) j (nst b re dr j j ||| (acr (nst b re dr j) j b &&& (re j ^^^ (-1))))
theorem nst_in {N b : Nat} (hb : b < N) {re dr : Nat → Int64} {a c : Nat → Bool} (h : rp (nw N) dr (ng a c b)) (hr : rp (nw N) re (nc c b)) : ∀ j, j ≤ nw N → ∀ w i, w < nw N → i < 64 → lb (nst b re dr j w) i = if w < j then ng a c (b + 1) (64 * w + i) else ng a c b (64 * w + i)
  | 0, _, w, i, hw, hi => by rw [if_neg (by omega)]; exact h w i hw hi
  | j + 1, hj, w, i, hw, hi => by
    have ih := nst_in hb h hr j (by omega)
    show lb (vp_updL (nst b re dr j) j _ w) i = _
    by_cases e : w = j
    · subst e
      rw [pk_uLs, lb_or, lb_and, lb_not _ hi, hr w i hw hi, ih w i hw hi, if_neg (by omega), if_pos (by omega), ng_s]
      have hn : nc c b (64 * w + i) = false → ng a c b (64 * w + i) = false := ng_nc
      unfold acr
      by_cases h6 : 6 ≤ b
      · rw [if_pos h6, ih _ i (xw_lt hw hb h6) hi, ← xr_hi hi h6, ng_s, xr_xr]
        split
        · revert hn
          cases ng a c b (64 * w + i) <;> cases nc c b (64 * w + i) <;> simp
        · rfl
      · rw [if_neg h6, lb_acl _ (by omega) hi, ih w _ hw (Nat.xor_lt_two_pow (n := 6) hi (Nat.pow_lt_pow_right (by omega) (by omega))), if_neg (by omega), xr_lo hi (by omega)]
    · rw [pk_uLn e, ih w i hw hi]
      by_cases hl : w < j
      · rw [if_pos hl, if_pos (by omega)]
      · rw [if_neg hl, if_neg (by omega)]
theorem nst_rp {N b : Nat} (hb : b < N) {re dr : Nat → Int64} {a c : Nat → Bool} (h : rp (nw N) dr (ng a c b)) (hr : rp (nw N) re (nc c b)) : rp (nw N) (nst b re dr (nw N)) (ng a c (b + 1)) := fun w i hw hi => by
  rw [nst_in hb h hr _ (Nat.le_refl _) w i hw hi, if_pos hw]
theorem nc_sg (c : Nat → Bool) (b : Nat) : sg b (nc c b) = nc c (b + 1) := funext fun p => (nc_s c b p).symm
/-- what lies outside the points stays 0 -/
theorem nc_dm {N : Nat} {c : Nat → Bool} (h : dm N c) : ∀ b, b ≤ N → dm N (nc c b)
  | 0, _ => fun p hp => by rw [nc_0]; exact h p hp
  | b + 1, hb => by
    rw [← nc_sg]
    exact sg_dm (by omega) (nc_dm h b (by omega))
theorem ng_dm {N : Nat} {a c : Nat → Bool} (h : dm N c) {b : Nat} (hb : b ≤ N) : dm N (ng a c b) := fun p hp => ng_nc (nc_dm h b hb p hp)
end
section
/-! tuples: the values of c functions from first on at a point, as one number, the first the highest -/
def tp (g : Nat → Nat → Bool) (first p : Nat) : Nat → Nat
  | 0 => 0
  | c + 1 => 2 * tp g first p c + (g (first + c) p).toNat
theorem tp_lt (g : Nat → Nat → Bool) (first p : Nat) : ∀ c, tp g first p c < 2 ^ c
  | 0 => Nat.zero_lt_one
  | c + 1 => by
    have h := tp_lt g first p c
    have h2 : (g (first + c) p).toNat ≤ 1 := by cases g (first + c) p <;> decide
    show 2 * tp g first p c + (g (first + c) p).toNat < 2 ^ (c + 1)
    rw [Nat.pow_succ]
    omega
theorem tp_bit (g : Nat → Nat → Bool) (first p : Nat) : ∀ c j, j < c → (tp g first p c).testBit j = g (first + (c - 1 - j)) p
  | 0, _, h => absurd h (by omega)
  | c + 1, 0, _ => by
    show (2 * tp g first p c + (g (first + c) p).toNat).testBit 0 = g (first + (c + 1 - 1 - 0)) p
    rw [Nat.testBit_zero, show first + (c + 1 - 1 - 0) = first + c from rfl]
    cases g (first + c) p <;> simp <;> omega
  | c + 1, j + 1, h => by
    show (2 * tp g first p c + (g (first + c) p).toNat).testBit (j + 1) = g (first + (c + 1 - 1 - (j + 1))) p
    have h2 : (2 * tp g first p c + (g (first + c) p).toNat) / 2 = tp g first p c := by
      cases g (first + c) p <;> simp <;> omega
    rw [Nat.testBit_add_one, h2, tp_bit g first p c j (by omega)]
    congr 2
    omega
/-! a set of points spread over the bits below f: whatever those bits are -/
def sgs (g : Nat → Bool) : Nat → Nat → Bool
  | 0 => g
  | f + 1 => sg f (sgs g f)
theorem xr_div {p b f : Nat} (h : b < f) : (p ^^^ 2 ^ b) / 2 ^ f = p / 2 ^ f := by
  apply Nat.eq_of_testBit_eq
  intro j
  rw [Nat.testBit_div_two_pow, Nat.testBit_div_two_pow, Nat.testBit_xor, Nat.testBit_two_pow_of_ne (by omega), Bool.xor_false]
theorem sgs_iff (g : Nat → Bool) : ∀ f p, sgs g f p = true ↔ ∃ y, g y = true ∧ y / 2 ^ f = p / 2 ^ f
  | 0, p => by
    show g p = true ↔ _
    constructor
    · intro h; exact ⟨p, h, rfl⟩
    · rintro ⟨y, h1, h2⟩
      rw [Nat.pow_zero, Nat.div_one, Nat.div_one] at h2
      rw [← h2]; exact h1
  | f + 1, p => by
    show (sgs g f p || sgs g f (p ^^^ 2 ^ f)) = true ↔ _
    rw [Bool.or_eq_true, sgs_iff g f p, sgs_iff g f (p ^^^ 2 ^ f)]
    have hs : ∀ x : Nat, x / 2 ^ (f + 1) = x / 2 ^ f / 2 := fun x => by rw [Nat.pow_succ, Nat.div_div_eq_div_mul]
    have hx : (p ^^^ 2 ^ f) / 2 ^ f = p / 2 ^ f ^^^ 1 := by
      apply Nat.eq_of_testBit_eq
      intro j
      rw [Nat.testBit_div_two_pow, Nat.testBit_xor, Nat.testBit_xor, Nat.testBit_div_two_pow, Nat.testBit_two_pow, tb_one]
      congr 1
      rw [decide_eq_decide]
      omega
    rw [hx]
    have h1 : ∀ a b : Nat, a / 2 = b / 2 ↔ a = b ∨ a = b ^^^ 1 := fun a b => by
      have e : b ^^^ 1 = if b % 2 = 0 then b + 1 else b - 1 := by
        apply Nat.eq_of_testBit_eq
        intro j
        cases j with
        | zero =>
          rw [Nat.testBit_xor, Nat.testBit_zero, Nat.testBit_zero, Nat.testBit_zero]
          by_cases hb : b % 2 = 0
          · rw [if_pos hb, decide_eq_false (show ¬ b % 2 = 1 by omega), decide_eq_true (show (b + 1) % 2 = 1 by omega)]; rfl
          · rw [if_neg hb, decide_eq_true (show b % 2 = 1 by omega), decide_eq_false (show ¬ (b - 1) % 2 = 1 by omega)]; rfl
        | succ j =>
          rw [Nat.testBit_xor, Nat.testBit_add_one, Nat.testBit_add_one, Nat.testBit_add_one, show 1 / 2 = 0 from rfl, Nat.zero_testBit, Bool.xor_false]
          congr 1
          split <;> omega
      rw [e]
      split <;> omega
    constructor
    · rintro (⟨y, h2, h3⟩ | ⟨y, h2, h3⟩)
      · exact ⟨y, h2, by rw [hs, hs, h3]⟩
      · exact ⟨y, h2, by rw [hs, hs]; exact (h1 _ _).mpr (Or.inr h3)⟩
    · rintro ⟨y, h2, h3⟩
      rw [hs, hs] at h3
      rcases (h1 _ _).mp h3 with h4 | h4
      · exact Or.inl ⟨y, h2, h4⟩
      · exact Or.inr ⟨y, h2, h4⟩
theorem tp_30 (g : Nat → Nat → Bool) (first p : Nat) {c : Nat} (h : c ≤ 12) : tp g first p c < 2 ^ 30 := Nat.lt_of_lt_of_le (tp_lt g first p c) (Nat.pow_le_pow_right (by omega) (by omega))
theorem tp_w {T : Nat} {b : Bool} (h : T < 2 ^ 30) : (nI T <<< (nI 1 &&& 31)) ||| nI b.toNat = nI (2 * T + b.toNat) := by
  rw [pk_shlN (n := T) (nI 1 &&& 31) 1 (by decide) (by omega)]
  apply Int32.toBitVec_inj.1
  show BitVec.ofNat 32 (T * 2 ^ 1) ||| BitVec.ofNat 32 b.toNat = BitVec.ofNat 32 (2 * T + b.toNat)
  apply BitVec.eq_of_getLsbD_eq
  intro i hi
  rw [BitVec.getLsbD_or, BitVec.getLsbD_ofNat, BitVec.getLsbD_ofNat, BitVec.getLsbD_ofNat]
  have hb : b.toNat < 2 ^ 1 := by cases b <;> decide
  have e := Nat.testBit_two_pow_mul_add T (b := b.toNat) (i := 1) hb i
  rw [show 2 ^ 1 * T = 2 * T from rfl] at e
  rw [e, Nat.mul_comm T, Nat.testBit_two_pow_mul]
  simp only [hi, decide_true, Bool.true_and]
  cases i with
  | zero => cases b <;> simp
  | succ i =>
    have h0 : b.toNat.testBit (i + 1) = false := Nat.testBit_lt_two_pow (Nat.lt_of_lt_of_le hb (Nat.pow_le_pow_right (by omega) (by omega)))
    rw [h0]
    simp
theorem tp_congr {g g' : Nat → Nat → Bool} {first p p' : Nat} : ∀ {c : Nat}, (∀ k, k < c → g (first + k) p = g' (first + k) p') → tp g first p c = tp g' first p' c
  | 0, _ => rfl
  | c + 1, h => by
    show 2 * tp g first p c + (g (first + c) p).toNat = 2 * tp g' first p' c + (g' (first + c) p').toNat
    rw [tp_congr (fun k hk => h k (by omega)), h c (by omega)]
/-- marks: the points of the tuples of those places where the word has 1 -/
def mks (wd : Int64) (tn : Nat → Nat) (f : Nat) (dr : Nat → Int64) : Nat → Nat → Int64
  | 0 => dr
  | i + 1 => if lb wd i = true then vp_updL (mks wd tn f dr i) (tn i * 2 ^ f / 64) (mks wd tn f dr i (tn i * 2 ^ f / 64) ||| ((1 : Int64) <<< ((nI (tn i * 2 ^ f % 64)).toInt64 &&& 63))) else mks wd tn f dr i
theorem mks_yes {wd : Int64} {tn : Nat → Nat} {f : Nat} {dr : Nat → Int64} {i : Nat} (h : lb wd i = true) : mks wd tn f dr (i + 1) = vp_updL (mks wd tn f dr i) (tn i * 2 ^ f / 64) (mks wd tn f dr i (tn i * 2 ^ f / 64) ||| ((1 : Int64) <<< ((nI (tn i * 2 ^ f % 64)).toInt64 &&& 63))) := if_pos h
theorem mks_no {wd : Int64} {tn : Nat → Nat} {f : Nat} {dr : Nat → Int64} {i : Nat} (h : lb wd i = false) : mks wd tn f dr (i + 1) = mks wd tn f dr i := if_neg (by rw [h]; decide)
theorem mk_and (wd : Int64) {i : Nat} (hi : i < 64) : (wd.toUInt64 >>> ((nI i).toInt64.toUInt64 &&& Int64.toUInt64 63)).toInt64 &&& 1 = lN (lb wd i).toNat := lb_ext (fun j hj => by
  have h1 : lb (1 : Int64) j = (1 : Nat).testBit j := lb_lN (n := 1) j hj
  rw [lb_and, lb_shr i hi, h1, tb_one, lb_lN j hj]
  by_cases e : 0 = j
  · subst e
    rw [Nat.add_zero, decide_eq_true rfl, Bool.and_true]
    cases lb wd i <;> rfl
  · rw [decide_eq_false e, Bool.and_false]
    have hb : (lb wd i).toNat < 2 ^ 1 := by cases lb wd i <;> decide
    exact (Nat.testBit_lt_two_pow (Nat.lt_of_lt_of_le hb (Nat.pow_le_pow_right (by omega) (by omega)))).symm)
theorem mk_t {wd : Int64} {i : Nat} (hi : i < 64) (h : lg_cmp ((wd.toUInt64 >>> ((nI i).toInt64.toUInt64 &&& Int64.toUInt64 63)).toInt64 &&& 1) 1 = 0) : lb wd i = true := by
  have h1 := (lg_cmp_eq _ _).mp h
  rw [mk_and wd hi] at h1
  cases hb : lb wd i with
  | true => rfl
  | false => rw [hb] at h1; exact absurd h1 (by decide)
theorem mk_f {wd : Int64} {i : Nat} (hi : i < 64) (h : ¬ lg_cmp ((wd.toUInt64 >>> ((nI i).toInt64.toUInt64 &&& Int64.toUInt64 63)).toInt64 &&& 1) 1 = 0) : lb wd i = false := by
  cases hb : lb wd i with
  | false => rfl
  | true =>
    refine absurd ((lg_cmp_eq _ _).mpr ?_) h
    rw [mk_and wd hi, hb]
    rfl
theorem lb_put {b : Bool} {i z : Nat} (hi : i < 64) (hz : z < 64) : lb ((nI b.toNat).toInt64 <<< ((nI i).toInt64 &&& 63)) z = (decide (z = i) && b) := by
  have e : (nI b.toNat).toInt64 = lN b.toNat := nI_l (by cases b <;> decide)
  have hb : b.toNat < 2 ^ 1 := by cases b <;> decide
  rw [e, lb_shl i hi _ hz]
  by_cases h : z = i
  · subst h
    rw [decide_eq_true (Nat.le_refl z), decide_eq_true rfl, Nat.sub_self, lb_lN 0 (by omega)]
    cases b <;> rfl
  · rw [decide_eq_false h]
    by_cases h2 : i ≤ z
    · rw [lb_lN _ (by omega), Nat.testBit_lt_two_pow (Nat.lt_of_lt_of_le hb (Nat.pow_le_pow_right (by omega) (by omega))), Bool.and_false]
      rfl
    · rw [decide_eq_false h2]
      rfl
theorem decide_lt_s {z i : Nat} (h : ¬ z = i) : decide (z < i + 1) = decide (z < i) := by
  rw [decide_eq_decide]
  omega
end
section
/-! kinds: blocks with halves lo b, up b; ks x y n: the least block below n with halves x, y -/
def ks (lo up : Nat → Nat) (x y : Nat) : Nat → Option Nat
  | 0 => none
  | n + 1 => match ks lo up x y n with
    | some r => some r
    | none => if lo n = x ∧ up n = y then some n else none
/-- the first of its kind -/
def fi (lo up : Nat → Nat) (b : Nat) : Bool := (ks lo up (lo b) (up b) b).isNone
/-- a block's kind: the number of the first that equals it -/
def kn (lo up : Nat → Nat) (b : Nat) : Nat := (ks lo up (lo b) (up b) b).getD b
theorem ks_s (lo up : Nat → Nat) (x y n : Nat) : ks lo up x y (n + 1) = match ks lo up x y n with | some r => some r | none => if lo n = x ∧ up n = y then some n else none := rfl
theorem ks_some {lo up : Nat → Nat} {x y : Nat} : ∀ {n r : Nat}, ks lo up x y n = some r → r < n ∧ lo r = x ∧ up r = y ∧ ks lo up x y r = none
  | 0, r, h => by cases h
  | n + 1, r, h => by
    rw [ks_s] at h
    cases hk : ks lo up x y n with
    | some r' =>
      rw [hk] at h
      cases h
      obtain ⟨h1, h2, h3, h4⟩ := ks_some hk
      exact ⟨by omega, h2, h3, h4⟩
    | none =>
      rw [hk] at h
      by_cases hc : lo n = x ∧ up n = y
      · have h : (if lo n = x ∧ up n = y then some n else none) = some r := h
        rw [if_pos hc] at h
        cases h
        exact ⟨by omega, hc.1, hc.2, hk⟩
      · have h : (if lo n = x ∧ up n = y then some n else none) = some r := h
        rw [if_neg hc] at h
        cases h
theorem ks_none {lo up : Nat → Nat} {x y : Nat} : ∀ {n : Nat}, ks lo up x y n = none → ∀ r, r < n → ¬ (lo r = x ∧ up r = y)
  | 0, _, r, hr, _ => absurd hr (by omega)
  | n + 1, h, r, hr, hc => by
    rw [ks_s] at h
    cases hk : ks lo up x y n with
    | some r' => rw [hk] at h; cases h
    | none =>
      rw [hk] at h
      have h : (if lo n = x ∧ up n = y then some n else none) = none := h
      rcases Nat.lt_or_ge r n with h1 | h1
      · exact ks_none hk r h1 hc
      · have e : r = n := by omega
        subst e
        rw [if_pos hc] at h
        cases h
theorem ks_of {lo up : Nat → Nat} {x y r : Nat} (h1 : lo r = x) (h2 : up r = y) (h3 : ks lo up x y r = none) : ∀ {n : Nat}, r < n → ks lo up x y n = some r
  | 0, h => absurd h (by omega)
  | n + 1, h => by
    rw [ks_s]
    rcases Nat.lt_or_ge r n with h4 | h4
    · rw [ks_of h1 h2 h3 h4]
    · have e : r = n := by omega
      subst e
      rw [h3]
      show (if lo r = x ∧ up r = y then some r else none) = _
      rw [if_pos ⟨h1, h2⟩]
theorem fi_t {lo up : Nat → Nat} {b : Nat} (h : fi lo up b = true) : ks lo up (lo b) (up b) b = none := Option.isNone_iff_eq_none.mp h
theorem fi_of {lo up : Nat → Nat} {b : Nat} (h : ks lo up (lo b) (up b) b = none) : fi lo up b = true := Option.isNone_iff_eq_none.mpr h
theorem fi_no {lo up : Nat → Nat} {b r : Nat} (h : ks lo up (lo b) (up b) b = some r) : fi lo up b = false := by unfold fi; rw [h]; rfl
/-- equal halves, equal kind -/
theorem kn_eq {lo up : Nat → Nat} {a b : Nat} : kn lo up a = kn lo up b ↔ lo a = lo b ∧ up a = up b := by
  have hk : ∀ c, lo (kn lo up c) = lo c ∧ up (kn lo up c) = up c := fun c => by
    unfold kn
    cases h : ks lo up (lo c) (up c) c with
    | none => exact ⟨rfl, rfl⟩
    | some r => obtain ⟨h1, h2, h3, h4⟩ := ks_some h; exact ⟨h2, h3⟩
  have hf : ∀ c, ks lo up (lo c) (up c) (kn lo up c) = none := fun c => by
    unfold kn
    cases h : ks lo up (lo c) (up c) c with
    | none => exact h
    | some r => obtain ⟨h1, h2, h3, h4⟩ := ks_some h; exact h4
  constructor
  · intro h
    have h1 := hk a
    have h2 := hk b
    rw [h] at h1
    exact ⟨h1.1.symm.trans h2.1, h1.2.symm.trans h2.2⟩
  · rintro ⟨h1, h2⟩
    rcases Nat.lt_trichotomy (kn lo up a) (kn lo up b) with h | h | h
    · exact absurd ⟨(hk a).1.trans h1, (hk a).2.trans h2⟩ (ks_none (hf b) _ h)
    · exact h
    · exact absurd ⟨(hk b).1.trans h1.symm, (hk b).2.trans h2.symm⟩ (ks_none (hf a) _ h)
theorem kn_le (lo up : Nat → Nat) (b : Nat) : kn lo up b ≤ b := by
  unfold kn
  cases h : ks lo up (lo b) (up b) b with
  | none => exact Nat.le_refl _
  | some r => exact Nat.le_of_lt (ks_some h).1
theorem kn_fi {lo up : Nat → Nat} {b : Nat} : kn lo up b = b ↔ fi lo up b = true := by
  unfold kn fi
  cases h : ks lo up (lo b) (up b) b with
  | none => simp
  | some r =>
    have := (ks_some h).1
    simp
    omega
/-- the latest first block below m with the lower half x -/
def pv (lo up : Nat → Nat) (x : Nat) : Nat → Option Nat
  | 0 => none
  | m + 1 => if lo m = x ∧ fi lo up m = true then some m else pv lo up x m
theorem pv_some {lo up : Nat → Nat} {x : Nat} : ∀ {m f : Nat}, pv lo up x m = some f → f < m ∧ lo f = x ∧ fi lo up f = true ∧ ∀ g, f < g → g < m → lo g = x → fi lo up g = false
  | 0, f, h => by cases h
  | m + 1, f, h => by
    have h : (if lo m = x ∧ fi lo up m = true then some m else pv lo up x m) = some f := h
    by_cases hc : lo m = x ∧ fi lo up m = true
    · rw [if_pos hc] at h
      cases h
      exact ⟨by omega, hc.1, hc.2, fun g h1 h2 => absurd h1 (by omega)⟩
    · rw [if_neg hc] at h
      obtain ⟨h1, h2, h3, h4⟩ := pv_some h
      refine ⟨by omega, h2, h3, fun g h5 h6 h7 => ?_⟩
      rcases Nat.lt_or_ge g m with h8 | h8
      · exact h4 g h5 h8 h7
      · have e : g = m := by omega
        subst e
        cases h9 : fi lo up g with
        | false => rfl
        | true => exact absurd ⟨h7, h9⟩ hc
theorem pv_none {lo up : Nat → Nat} {x : Nat} : ∀ {m : Nat}, pv lo up x m = none → ∀ f, f < m → lo f = x → fi lo up f = false
  | 0, _, f, h, _ => absurd h (by omega)
  | m + 1, h, f, h1, h2 => by
    have h : (if lo m = x ∧ fi lo up m = true then some m else pv lo up x m) = none := h
    by_cases hc : lo m = x ∧ fi lo up m = true
    · rw [if_pos hc] at h; cases h
    · rw [if_neg hc] at h
      rcases Nat.lt_or_ge f m with h8 | h8
      · exact pv_none h f h8 h2
      · have e : f = m := by omega
        subst e
        cases h9 : fi lo up f with
        | false => rfl
        | true => exact absurd ⟨h2, h9⟩ hc
/-- the search down the chain of x: nothing with y from m on -/
def nb (lo up : Nat → Nat) (x y b m : Nat) : Prop := ∀ f, m ≤ f → f < b → lo f = x → fi lo up f = true → up f ≠ y
theorem nb_0 (lo up : Nat → Nat) (x y b : Nat) : nb lo up x y b b := fun f h1 h2 => absurd h1 (by omega)
theorem nb_hit {lo up : Nat → Nat} {x y b m f : Nat} (hm : m ≤ b) (h : pv lo up x m = some f) (hy : up f = y) : ks lo up x y b = some f := by
  obtain ⟨h1, h2, h3, -⟩ := pv_some h
  have h4 := fi_t h3
  rw [h2, hy] at h4
  exact ks_of h2 hy h4 (by omega)
theorem nb_on {lo up : Nat → Nat} {x y b m f : Nat} (hn : nb lo up x y b m) (h : pv lo up x m = some f) (hy : ¬ up f = y) : nb lo up x y b f := fun g h1 h2 h3 h4 => by
  obtain ⟨h5, h6, h7, h8⟩ := pv_some h
  rcases Nat.lt_or_ge g m with h9 | h9
  · rcases Nat.lt_or_ge f g with h10 | h10
    · rw [h8 g h10 h9 h3] at h4; cases h4
    · have e : g = f := by omega
      subst e
      exact hy
  · exact hn g h9 h2 h3 h4
theorem nb_end {lo up : Nat → Nat} {x y b m : Nat} (hn : nb lo up x y b m) (h : pv lo up x m = none) : ks lo up x y b = none := by
  cases hk : ks lo up x y b with
  | none => rfl
  | some r =>
    obtain ⟨h1, h2, h3, h4⟩ := ks_some hk
    have h5 : fi lo up r = true := fi_of (by rw [h2, h3]; exact h4)
    rcases Nat.lt_or_ge r m with h6 | h6
    · rw [pv_none h r h6 h2] at h5; cases h5
    · exact absurd h3 (hn r h6 h1 h2 h5)
def en (o : Option Nat) : Int32 := match o with
  | some f => nI f
  | none => -1
/-- the counter's three arrays when b blocks are done -/
def fk (lo up : Nat → Nat) (X b : Nat) (uh bf la : Nat → Int32) : Prop := (∀ x, x < X → la x = en (pv lo up x b)) ∧ ∀ f, f < b → fi lo up f = true → uh f = nI (up f) ∧ bf f = en (pv lo up (lo f) f)
theorem fk_0 (lo up : Nat → Nat) (X : Nat) (uh bf la : Nat → Int32) (h : ∀ x, x < X → la x = -1) : fk lo up X 0 uh bf la := ⟨h, fun f hf => absurd hf (by omega)⟩
theorem fk_old {lo up : Nat → Nat} {X b r : Nat} {uh bf la : Nat → Int32} (h : fk lo up X b uh bf la) (hk : ks lo up (lo b) (up b) b = some r) : fk lo up X (b + 1) uh bf la := by
  have hb := fi_no hk
  refine ⟨fun x hx => ?_, fun f hf h1 => ?_⟩
  · rw [h.1 x hx]
    show _ = en (if lo b = x ∧ fi lo up b = true then some b else pv lo up x b)
    rw [if_neg (fun q => by rw [hb] at q; cases q.2)]
  · rcases Nat.lt_or_ge f b with h2 | h2
    · exact h.2 f h2 h1
    · have e : f = b := by omega
      subst e
      rw [hb] at h1
      cases h1
theorem fk_new {lo up : Nat → Nat} {X b : Nat} {uh bf la : Nat → Int32} (h : fk lo up X b uh bf la) (hX : lo b < X) (hk : ks lo up (lo b) (up b) b = none) : fk lo up X (b + 1) (upd uh b (nI (up b))) (upd bf b (la (lo b))) (upd la (lo b) (nI b)) := by
  have hb := fi_of hk
  refine ⟨fun x hx => ?_, fun f hf h1 => ?_⟩
  · show _ = en (if lo b = x ∧ fi lo up b = true then some b else pv lo up x b)
    by_cases e : lo b = x
    · subst e
      rw [pk_us, if_pos ⟨rfl, hb⟩]
      rfl
    · rw [pk_un (fun q => e q.symm), h.1 x hx, if_neg (fun q => e q.1)]
  · rcases Nat.lt_or_ge f b with h2 | h2
    · rw [pk_un (by omega), pk_un (by omega)]
      exact h.2 f h2 h1
    · have e : f = b := by omega
      subst e
      rw [pk_us, pk_us]
      exact ⟨rfl, h.1 _ hX⟩
/-- forks of a level: the first blocks with unlike halves -/
def cf (lo up : Nat → Nat) : Nat → Nat
  | 0 => 0
  | n + 1 => cf lo up n + (fi lo up n && !decide (lo n = up n)).toNat
theorem cf_le (lo up : Nat → Nat) : ∀ n, cf lo up n ≤ n
  | 0 => Nat.le_refl 0
  | n + 1 => by
    have := cf_le lo up n
    have h : (fi lo up n && !decide (lo n = up n)).toNat ≤ 1 := by cases (fi lo up n && !decide (lo n = up n)) <;> decide
    show cf lo up n + (fi lo up n && !decide (lo n = up n)).toNat ≤ n + 1
    omega
/-- the kinds of the level with 2 ^ v blocks; of level N the points' values -/
def kl (g : Nat → Bool) (N : Nat) : Nat → Nat → Nat
  | 0 => fun p => (g p).toNat
  | d + 1 => fun b => kn (fun b => kl g N d (2 * b)) (fun b => kl g N d (2 * b + 1)) b
/-- forks from the last variable up, d variables done -/
def fc (g : Nat → Bool) (N : Nat) : Nat → Nat
  | 0 => 0
  | d + 1 => fc g N d + cf (fun b => kl g N d (2 * b)) (fun b => kl g N d (2 * b + 1)) (2 ^ (N - (d + 1)))
/-- two blocks are of one kind just if they are equal functions -/
theorem kl_eq (g : Nat → Bool) (N : Nat) : ∀ d a b, kl g N d a = kl g N d b ↔ ∀ i, i < 2 ^ d → g (a * 2 ^ d + i) = g (b * 2 ^ d + i)
  | 0, a, b => by
    show (g a).toNat = (g b).toNat ↔ _
    constructor
    · intro h i hi
      have : i = 0 := by rw [Nat.pow_zero] at hi; omega
      subst this
      rw [Nat.pow_zero, Nat.mul_one, Nat.mul_one, Nat.add_zero, Nat.add_zero]
      revert h
      cases g a <;> cases g b <;> simp
    · intro h
      have := h 0 (by decide)
      rw [Nat.pow_zero, Nat.mul_one, Nat.mul_one, Nat.add_zero, Nat.add_zero] at this
      rw [this]
  | d + 1, a, b => by
    show kn _ _ a = kn _ _ b ↔ _
    rw [kn_eq, kl_eq g N d, kl_eq g N d]
    have e : ∀ x : Nat, x * 2 ^ (d + 1) = 2 * x * 2 ^ d := fun x => by rw [Nat.pow_succ, Nat.mul_comm (2 ^ d) 2, ← Nat.mul_assoc, Nat.mul_comm x 2]
    have e2 : ∀ x : Nat, (2 * x + 1) * 2 ^ d = 2 * x * 2 ^ d + 2 ^ d := fun x => by rw [Nat.add_mul, Nat.one_mul]
    have e3 : 2 ^ (d + 1) = 2 ^ d + 2 ^ d := by rw [Nat.pow_succ]; omega
    rw [e, e]
    constructor
    · rintro ⟨h1, h2⟩ i hi
      rcases Nat.lt_or_ge i (2 ^ d) with h3 | h3
      · exact h1 i h3
      · have := h2 (i - 2 ^ d) (by omega)
        rw [e2, e2] at this
        rw [show 2 * a * 2 ^ d + i = 2 * a * 2 ^ d + 2 ^ d + (i - 2 ^ d) by omega, show 2 * b * 2 ^ d + i = 2 * b * 2 ^ d + 2 ^ d + (i - 2 ^ d) by omega]
        exact this
    · intro h
      refine ⟨fun i hi => h i (by omega), fun i hi => ?_⟩
      have := h (2 ^ d + i) (by omega)
      rw [e2, e2, Nat.add_assoc, Nat.add_assoc]
      exact this
theorem nI_z {n : Nat} (h : n < 2 ^ 31) (h0 : nI n ≤ 0) : n = 0 := by
  rcases Nat.eq_zero_or_pos n with e | e
  · exact e
  · exact absurd h0 (nI_nle e h)
theorem en_n {lo up : Nat → Nat} {x m : Nat} (hm : m < 2 ^ 31) (h : en (pv lo up x m) = -1) : pv lo up x m = none := by
  cases hp : pv lo up x m with
  | none => rfl
  | some f =>
    obtain ⟨h1, -⟩ := pv_some hp
    rw [hp] at h
    have h2 : nI f = -1 := h
    exact absurd (by rw [h2]; decide) (nI_pos (show f < 2 ^ 31 by omega))
theorem en_s {o : Option Nat} (h : ¬ en o = -1) : ∃ f, o = some f := by
  cases o with
  | none => exact absurd rfl h
  | some f => exact ⟨f, rfl⟩
theorem kn_no {lo up : Nat → Nat} {b : Nat} (h : ¬ kn lo up b = b) : fi lo up b = false := by
  cases hf : fi lo up b with
  | false => rfl
  | true => exact absurd (kn_fi.mpr hf) h
theorem cf_s (lo up : Nat → Nat) (n : Nat) : cf lo up (n + 1) = cf lo up n + (fi lo up n && !decide (lo n = up n)).toNat := rfl
theorem fc_s {g : Nat → Bool} {N v : Nat} (h : v + 1 ≤ N) : fc g N (N - (v + 1)) + cf (fun b => kl g N (N - (v + 1)) (2 * b)) (fun b => kl g N (N - (v + 1)) (2 * b + 1)) (2 ^ v) = fc g N (N - v) := by
  obtain ⟨d, hd⟩ : ∃ d, N - (v + 1) = d := ⟨_, rfl⟩
  have e : N - v = d + 1 := by omega
  rw [hd, e]
  show _ = fc g N d + cf _ _ (2 ^ (N - (d + 1)))
  rw [show N - (d + 1) = v by omega]
theorem kl_s {g : Nat → Bool} {N v : Nat} (h : v + 1 ≤ N) (i : Nat) : kn (fun b => kl g N (N - (v + 1)) (2 * b)) (fun b => kl g N (N - (v + 1)) (2 * b + 1)) i = kl g N (N - v) i := by
  obtain ⟨d, hd⟩ : ∃ d, N - (v + 1) = d := ⟨_, rfl⟩
  have e : N - v = d + 1 := by omega
  rw [hd, e]
  rfl
theorem kl_lt {g : Nat → Bool} {N v i : Nat} (h : v + 1 ≤ N) (hi : i < 2 ^ (v + 1)) : kl g N (N - (v + 1)) i < max 2 (2 ^ (N - 1)) := by
  cases hd : N - (v + 1) with
  | zero =>
    show (g i).toNat < _
    have : (g i).toNat ≤ 1 := by cases g i <;> decide
    exact Nat.lt_of_lt_of_le (by omega) (Nat.le_max_left 2 _)
  | succ d =>
    have h1 := kn_le (fun b => kl g N d (2 * b)) (fun b => kl g N d (2 * b + 1)) i
    have h2 : 2 ^ (v + 1) ≤ 2 ^ (N - 1) := Nat.pow_le_pow_right (by omega) (by omega)
    show kn _ _ i < _
    exact Nat.lt_of_lt_of_le (Nat.lt_of_le_of_lt h1 (by omega)) (Nat.le_max_right 2 _)
end
section
/-! the desk's cells: ad 0 the object, 1 registers, 2 draft, 3 reached, 4 tuples, 5 the counter, 6 kinds, 7 upperHalf, 8 before, 9 latest, 10 + k row k -/
abbrev nh (N : Nat) : Nat := 2 ^ (N - 1)
abbrev nm (N : Nat) : Nat := max 2 (2 ^ (N - 1))
abbrev dkF (N : Nat) (ad : Nat → Nat) : List Value := [.int (nI N), .int (nI (2 ^ N)), .int (nI (nw N)), .int (nI (pw N)), .long (ao N), .ref (ad 1), .ref (ad 2), .ref (ad 3), .ref (ad 4), .ref (ad 5)]
abbrev dkG (N : Nat) (ad : Nat → Nat) : List Value := [.int (nI N), .ref (ad 6), .ref (ad 7), .ref (ad 8), .ref (ad 9)]
abbrev dkX (N : Nat) (ad : Nat → Nat) (cJJ cJ cI : ClassId) (dr re : Nat → Int64) (tu kd uh bf la : Nat → Int32) : va_W :=
  [(ad 0, .inr (1, dkF N ad)), (ad 1, .inl (cJJ, 32, .inr (.inr (.inr (.inr (fun k => some (ad (10 + k)))))))), (ad 2, .inl (cJ, nw N, .inr (.inl dr))), (ad 3, .inl (cJ, nw N, .inr (.inl re))), (ad 4, .inl (cI, pw N, .inl tu)),
   (ad 5, .inr (0, dkG N ad)), (ad 6, .inl (cI, 2 ^ N, .inl kd)), (ad 7, .inl (cI, nh N, .inl uh)), (ad 8, .inl (cI, nh N, .inl bf)), (ad 9, .inl (cI, nm N, .inl la))]
abbrev dkW (N : Nat) (ad : Nat → Nat) (cJJ cJ cI : ClassId) (dr re : Nat → Int64) (tu kd uh bf la : Nat → Int32) (G : Nat → Nat → Int64) : va_W :=
  dkX N ad cJJ cJ cI dr re tu kd uh bf la ++ gw (fun k => ad (10 + k)) cJ (nw N) 32 G
abbrev dkT (cJJ cJ cI : ClassId) : List (ClassId × FieldType) := [(cJJ, .array .long), (cJ, .long), (cI, .int)]
theorem dk_row {N : Nat} {ad : Nat → Nat} {cJJ cJ cI : ClassId} {dr re : Nat → Int64} {tu kd uh bf la : Nat → Int32} {G : Nat → Nat → Int64} {k : Nat} (hk : k < 32) : (dkW N ad cJJ cJ cI dr re tu kd uh bf la G)[10 + k]? = some (ad (10 + k), .inl (cJ, nw N, .inr (.inl (G k)))) :=
  gw_get (X := dkX N ad cJJ cJ cI dr re tu kd uh bf la) (ra := fun k => ad (10 + k)) hk
theorem dk_set {N : Nat} {ad : Nat → Nat} {cJJ cJ cI : ClassId} {dr re : Nat → Int64} {tu kd uh bf la : Nat → Int32} {G : Nat → Nat → Int64} {k : Nat} (r : Nat → Int64) (hk : k < 32) : (dkW N ad cJJ cJ cI dr re tu kd uh bf la G).set (10 + k) (ad (10 + k), .inl (cJ, nw N, .inr (.inl r))) = dkW N ad cJJ cJ cI dr re tu kd uh bf la (va_up G k r) :=
  gw_set (X := dkX N ad cJJ cJ cI dr re tu kd uh bf la) (ra := fun k => ad (10 + k)) r hk
/-- the addresses: apart, and in A -/
def aok (A : Nat → Prop) (ad : Nat → Nat) : Prop := (∀ i j, i < 42 → j < 42 → ad i = ad j → i = j) ∧ ∀ i, i < 42 → A (ad i)
/-- what a call on the desk may change: its cells, and what is new -/
def fr (ad : Nat → Nat) (sz : Nat) : Nat → Prop := fun q => (∃ i, i < 42 ∧ q = ad i) ∨ sz ≤ q
theorem aok_fr {A : Nat → Prop} {ad : Nat → Nat} {sz : Nat} (h : aok A ad) : aok (fr ad sz) ad := ⟨h.1, fun i hi => Or.inl ⟨i, hi, rfl⟩⟩
theorem fr_in {A : Nat → Prop} {ad : Nat → Nat} {H0 H : Heap} {locs : List Loc} (h : aok A ad) (hS : va_S A H0 H locs) (hA : ∀ q, H0.size ≤ q → A q) : ∀ q, fr ad H.size q → A q := by
  intro q hq
  rcases hq with ⟨i, hi, rfl⟩ | hq
  · exact h.2 i hi
  · exact hA q (Nat.le_trans hS.1 hq)
theorem fr_new {ad : Nat → Nat} {sz : Nat} : ∀ q, sz ≤ q → fr ad sz q := fun _ h => Or.inr h
/-- every cell of the desk lies at one of the addresses -/
theorem dk_adr {N : Nat} {ad : Nat → Nat} {cJJ cJ cI : ClassId} {dr re : Nat → Int64} {tu kd uh bf la : Nat → Int32} {G : Nat → Nat → Int64} {k : Nat} {q : Nat × va_E} (h : (dkW N ad cJJ cJ cI dr re tu kd uh bf la G)[k]? = some q) : k < 42 ∧ q.1 = ad k := by
  have hl : k < 42 := by
    have h1 := (List.getElem?_eq_some_iff.mp h).1
    simpa [dkW, dkX, gw] using h1
  refine ⟨hl, ?_⟩
  rcases Nat.lt_or_ge k 10 with h10 | h10
  · match k, h10, h with
    | 0, _, h => cases h; rfl
    | 1, _, h => cases h; rfl
    | 2, _, h => cases h; rfl
    | 3, _, h => cases h; rfl
    | 4, _, h => cases h; rfl
    | 5, _, h => cases h; rfl
    | 6, _, h => cases h; rfl
    | 7, _, h => cases h; rfl
    | 8, _, h => cases h; rfl
    | 9, _, h => cases h; rfl
    | k + 10, h10, _ => exact absurd h10 (by omega)
  · obtain ⟨j, rfl⟩ : ∃ j, k = 10 + j := ⟨k - 10, by omega⟩
    rw [dk_row (by omega)] at h
    cases h
    rfl
theorem dk_D {A : Nat → Prop} {N : Nat} {ad : Nat → Nat} {cJJ cJ cI : ClassId} {dr re : Nat → Int64} {tu kd uh bf la : Nat → Int32} {G : Nat → Nat → Int64} (h : aok A ad) : va_D A (dkW N ad cJJ cJ cI dr re tu kd uh bf la G) :=
  ⟨fun i j p q hi hj e => by
    obtain ⟨a1, a2⟩ := dk_adr hi
    obtain ⟨b1, b2⟩ := dk_adr hj
    exact h.1 i j a1 b1 (by rw [← a2, ← b2, e]), fun k q hk => by
    obtain ⟨a1, a2⟩ := dk_adr hk
    rw [a2]
    exact h.2 k a1⟩
/-- one cell of a world, alone -/
theorem va_one {D : va_G} {cl : List vw_C} {ws : va_W} {H : Heap} (h : va_P D cl ws H) (i : Nat) {x : Nat × va_E} (hi : ws[i]? = some x) : va_P D cl [x] H := fun k q hk => by
  have h0 : k < 1 := (List.getElem?_eq_some_iff.mp hk).1
  rw [show k = 0 by omega] at hk
  cases hk
  exact h i x hi
/-- one cell of a world has changed -/
theorem va_put1 {A : Nat → Prop} {D : va_G} {cl : List vw_C} {ws : va_W} {H H1 : Heap} {a : Nat} {e0 e : va_E} (h : va_P D cl ws H) (hD : va_D A ws) (i : Nat) (hi : ws[i]? = some (a, e0)) (hq : ∀ q : Nat, q < H.size → ¬ (q = a) → H1[q]? = H[q]?) (h1 : va_P D cl [(a, e)] H1) : va_P D cl (ws.set i (a, e)) H1 := by
  intro k q hk
  rw [List.getElem?_set] at hk
  by_cases hik : i = k
  · subst hik
    rw [if_pos rfl] at hk
    have hl : i < ws.length := (List.getElem?_eq_some_iff.mp hi).1
    rw [if_pos hl] at hk
    cases hk
    exact h1 0 _ rfl
  · rw [if_neg hik] at hk
    have hne : q.1 ≠ a := fun e9 => hik (hD.1 i k _ _ hi hk e9.symm)
    exact (h k q hk).kept (hq q.1 ((h k q hk).lt) hne)
/-- the table of places, as a static; and the counter's link to its nest mate's valueAt -/
def tbl (A : Nat → Prop) (U : State) (H : Heap) : Prop := (∃ t : Nat, va_Z "ForkDesk" "PLACES_WITH_BIT" "[J" (.ref t) A U H ∧ va_T .long t 6 (fun j => .long (pwb j)) A U H) ∧ va_Nw (.methodLinkNest RX0 34 yX1_valueAt "ForkDesk") U
theorem tbl.to {A B : Nat → Prop} {s U : State} {H : Heap} {locs : List Loc} (h : tbl A s s.heap) (hS : va_S A s.heap H locs) (hB : ∀ q, B q → A q) (hW : s.WarmedH U.vm) : tbl B U H := by
  obtain ⟨⟨t, h1, h2⟩, h3⟩ := h
  exact ⟨⟨t, ((h1.kept hS.2.1).narrow hB).moved hW.alike, ((h2.kept hS.2.1).narrow hB).moved hW.alike⟩, va_Nw.warmM hW h3⟩
theorem nh_le {N : Nat} (h1 : 1 ≤ N) (h : N ≤ 12) : nh N ≤ 2048 := Nat.le_trans (Nat.pow_le_pow_right (by omega) (show N - 1 ≤ 11 by omega)) (by decide)
theorem nm_le {N : Nat} (h1 : 1 ≤ N) (h : N ≤ 12) : nm N ≤ 2048 := Nat.max_le.mpr ⟨by decide, nh_le h1 h⟩
theorem np_nh {N : Nat} (h1 : 1 ≤ N) : 2 ^ N = 2 * nh N := by
  have e : N = (N - 1) + 1 := by omega
  show 2 ^ N = 2 * 2 ^ (N - 1)
  conv => lhs; rw [e, Nat.pow_succ]
  omega
end
section
/-! what every contract of the desk takes: the size of the heap, its cells, the classes, the table of places -/
def wp0 (D : va_G) (ws : va_W) (tys : List (ClassId × FieldType)) (A : Nat → Prop) (sz : Nat) (U : State) : Prop := U.heap.size = sz ∧ va_P D vwCl ws U.heap ∧ va_K D vwCl tys U ∧ tbl A U U.heap
theorem tbl.mv {A : Nat → Prop} {s U : State} {H : Heap} (h : tbl A s H) (hvm : s.vm = U.vm) : tbl A U H := by
  obtain ⟨⟨t, h1, h2⟩, h3⟩ := h
  exact ⟨⟨t, h1.moved (hvm ▸ Vm.Alike.refl s.vm), h2.moved (hvm ▸ Vm.Alike.refl s.vm)⟩, va_Nw.same rfl hvm h3⟩
theorem wp0_blind {D : va_G} {ws : va_W} {tys : List (ClassId × FieldType)} {A : Nat → Prop} {sz : Nat} {av : List Value} : FrameBlind (va_Pc av (wp0 D ws tys A sz)) := fun a U g mk q => by
  obtain ⟨q0, q1, qP, qK, qT⟩ := q
  exact ⟨q0, q1, qP, va_K.moved (u := U) (U := U.calling g mk a) (Vm.Alike.refl U.vm) qK, qT.mv (s := U) (U := U.calling g mk a) rfl⟩
theorem wp0_of {D : va_G} {ws : va_W} {tys : List (ClassId × FieldType)} {A A0 : Nat → Prop} {s U : State} {H : Heap} {locs : List Loc} {av : List Value} (hP : va_P D vwCl ws H) (hK : va_K D vwCl tys s) (htb : tbl A0 s s.heap) (hS : va_S A0 s.heap H locs) (hB : ∀ q, A q → A0 q) (hU : U.heap = H) (hW : s.WarmedH U.vm) : va_Pc av (wp0 D ws tys A H.size) av.toArray U := by
  subst hU
  exact ⟨rfl, rfl, hP, va_K.moved hW.alike hK, htb.to hS hB hW⟩
theorem no_in {A0 : Nat → Prop} : ∀ q : Nat, (fun _ : Nat => False) q → A0 q := fun _ h => h.elim
/-- the words' tests -/
def isR (k : Int32) : Bool := decide (¬ k < 0 ∧ ¬ nI 32 ≤ k)
def isV (N : Nat) (v : Int32) : Bool := decide (¬ v < nI 1 ∧ ¬ nI N < v)
def isB (v : Int32) : Bool := decide (v = 0 ∨ v = nI 1)
def arR (f : Int32) (c : Nat) : Bool := decide (¬ f < 0 ∧ ¬ nI (32 - c) < f)
theorem isR_t {k : Int32} (h : isR k = true) : ∃ j, j < 32 ∧ k = nI j := by
  obtain ⟨h1, h2⟩ := of_decide_eq_true h
  rcases pk_ix k (n := 32) (by decide) with h3 | h3 | h3
  · exact absurd h3 h1
  · exact absurd h3 h2
  · exact h3
theorem isV_t {N : Nat} {v : Int32} (hN : N ≤ 12) (h : isV N v = true) : ∃ j, 1 ≤ j ∧ j ≤ N ∧ v = nI j := by
  obtain ⟨h1, h2⟩ := of_decide_eq_true h
  rcases pk_ix v (n := N + 1) (by omega) with h3 | h3 | ⟨j, h3, rfl⟩
  · exact absurd (Int32.lt_of_lt_of_le h3 (by decide : (0 : Int32) ≤ nI 1)) h1
  · exact absurd (Int32.lt_of_lt_of_le (nI_lt (Nat.lt_succ_self N) (by omega)) h3) h2
  · refine ⟨j, ?_, by omega, rfl⟩
    rcases Nat.lt_or_ge j 1 with h4 | h4
    · exact absurd (nI_lt h4 (by omega)) h1
    · exact h4
theorem isB_t {v : Int32} (h : isB v = true) : ∃ b : Bool, v = nI b.toNat := by
  rcases of_decide_eq_true h with h1 | h1
  · exact ⟨false, h1⟩
  · exact ⟨true, h1⟩
theorem arR_t {f : Int32} {c : Nat} (hc : c ≤ 12) (h : arR f c = true) : ∃ j, j + c ≤ 32 ∧ f = nI j := by
  obtain ⟨h1, h2⟩ := of_decide_eq_true h
  rcases pk_ix f (n := 33 - c) (by omega) with h3 | h3 | ⟨j, h3, rfl⟩
  · exact absurd h3 h1
  · exact absurd (Int32.lt_of_lt_of_le (nI_lt (show 32 - c < 33 - c by omega) (by omega)) h3) h2
  · exact ⟨j, by omega, rfl⟩
theorem one_in {A : Nat → Prop} {a : Nat} (h : A a) : ∀ q : Nat, (fun q : Nat => q = a) q → A q := fun q e => by
  have e2 : q = a := e
  rw [e2]
  exact h
end
section
/-! what the calls do, in words for functions g k (register k) of points -/
def ix (k : Int32) : Nat := k.toNatClampNeg
theorem ix_nI {j : Nat} (h : j < 2 ^ 31) : ix (nI j) = j := nI_clamp h
def isO (op : Int32) : Bool := decide (¬ op < 0 ∧ ¬ nI 3 < op)
theorem isO_t {op : Int32} (h : isO op = true) : ∃ j, j < 4 ∧ op = nI j := by
  obtain ⟨h1, h2⟩ := of_decide_eq_true h
  rcases pk_ix op (n := 4) (by decide) with h3 | h3 | h3
  · exact absurd h3 h1
  · exact absurd (Int32.lt_of_lt_of_le (by decide : nI 3 < nI 4) h3) h2
  · exact h3
/-- a variable fixed: bit b of the point set to v -/
def fx (g : Nat → Bool) (b : Nat) (v : Bool) (p : Nat) : Bool := g (if p.testBit b = v then p else p ^^^ 2 ^ b)
/-- spread over c variables from f on -/
def exs (N f : Nat) (g : Nat → Bool) : Nat → Nat → Bool
  | 0 => g
  | c + 1 => sg (N - (f + c)) (exs N f g c)
def spC (N : Nat) (g : Nat → Nat → Bool) (k v : Int32) : Option (Nat → Nat → Bool) := if (isR k && isB v) = true then some (va_up g (ix k) (fun p => decide (v = nI 1) && decide (p < 2 ^ N))) else none
def spV (N : Nat) (g : Nat → Nat → Bool) (k v : Int32) : Option (Nat → Nat → Bool) := if (isR k && isV N v) = true then some (va_up g (ix k) (fun p => p.testBit (N - ix v) && decide (p < 2 ^ N))) else none
def spM (g : Nat → Nat → Bool) (k op a b : Int32) : Option (Nat → Nat → Bool) := if (isR k && (isO op && (isR a && isR b))) = true then some (va_up g (ix k) (fun p => cmg (ix op) (g (ix a) p) (g (ix b) p))) else none
def spH (g : Nat → Nat → Bool) (k a b c : Int32) : Option (Nat → Nat → Bool) := if (isR k && (isR a && (isR b && isR c))) = true then some (va_up g (ix k) (fun p => if g (ix a) p = true then g (ix b) p else g (ix c) p)) else none
def spF (N : Nat) (g : Nat → Nat → Bool) (k a v x : Int32) : Option (Nat → Nat → Bool) := if (isR k && (isR a && (isV N v && isB x))) = true then some (va_up g (ix k) (fx (g (ix a)) (N - ix v) (decide (x = nI 1)))) else none
def spE (N : Nat) (g : Nat → Nat → Bool) (k a f t : Int32) : Option (Nat → Nat → Bool) := if (isR k && (isR a && (isV N f && (isV N t && decide (f ≤ t))))) = true then some (va_up g (ix k) (exs N (ix f) (g (ix a)) (ix t + 1 - ix f))) else none
def spS (N : Nat) (g : Nat → Nat → Bool) (k a f : Int32) : Option (Nat → Nat → Bool) := if (isR k && (isR a && arR f N)) = true then some (va_up g (ix k) (fun p => decide (p < 2 ^ N) && g (ix a) (tp g (ix f) p N))) else none
def spN (N : Nat) (g : Nat → Nat → Bool) (k a c : Int32) : Option (Nat → Nat → Bool) := if (isR k && (isR a && isR c)) = true then some (va_up g (ix k) (ng (g (ix a)) (g (ix c)) N)) else none
/-- the rows of the desk hold the functions g -/
def okG (N : Nat) (G : Nat → Nat → Int64) (g : Nat → Nat → Bool) : Prop := ∀ k, k < 32 → rp (nw N) (G k) (g k) ∧ dm N (g k)
theorem okG_up {N : Nat} {G : Nat → Nat → Int64} {g : Nat → Nat → Bool} (h : okG N G g) {k : Nat} {r : Nat → Int64} {f : Nat → Bool} (h1 : rp (nw N) r f) (h2 : dm N f) : okG N (va_up G k r) (va_up g k f) := fun j hj => by
  by_cases e : j = k
  · subst e
    rw [va_up_self, va_up_self]
    exact ⟨h1, h2⟩
  · rw [va_up_ne _ _ e, va_up_ne _ _ e]
    exact h j hj
theorem dm_lt (N : Nat) (f : Nat → Bool) : dm N (fun p => f p && decide (p < 2 ^ N)) := fun p hp => by
  show (f p && decide (p < 2 ^ N)) = false
  rw [decide_eq_false (Nat.not_lt.mpr hp), Bool.and_false]
/-- constant -/
theorem rp_const {N : Nat} {r : Nat → Int64} {b : Bool} (h : ∀ w, w < nw N → r w = if b = true then ao N else 0) : rp (nw N) r (fun p => b && decide (p < 2 ^ N)) := fun w i hw hi => by
  rw [h w hw]
  have e : decide (64 * w + i < 2 ^ N) = decide (i < pw N) := by rw [decide_eq_decide]; exact nw_pt hw hi
  show _ = (b && decide (64 * w + i < 2 ^ N))
  rw [e]
  cases b
  · rw [if_neg (by decide), lb_0]; rfl
  · rw [if_pos rfl, lb_ao N hi]; rfl
/-- variable -/
theorem rp_var {N b : Nat} {r : Nat → Int64} (h : ∀ w, w < nw N → r w = pwN N w b) : rp (nw N) r (fun p => p.testBit b && decide (p < 2 ^ N)) := fun w i hw hi => by
  rw [h w hw, lb_pwN hw hi]
/-- combine, choose -/
theorem rp_cmb {n op : Nat} {r ra rb : Nat → Int64} {ga gb : Nat → Bool} (ha : rp n ra ga) (hb : rp n rb gb) (h : ∀ w, w < n → r w = cmb op (ra w) (rb w)) : rp n r (fun p => cmg op (ga p) (gb p)) := fun w i hw hi => by
  rw [h w hw, lb_cmb op _ _ hi, ha w i hw hi, hb w i hw hi]
theorem cmg_ff (op : Nat) : cmg op false false = false := by unfold cmg; split <;> rfl
theorem dm_cmb {N op : Nat} {ga gb : Nat → Bool} (ha : dm N ga) (hb : dm N gb) : dm N (fun p => cmg op (ga p) (gb p)) := fun p hp => by
  show cmg op (ga p) (gb p) = false
  rw [ha p hp, hb p hp, cmg_ff]
theorem rp_chs {n : Nat} {r ra rb rc : Nat → Int64} {ga gb gc : Nat → Bool} (ha : rp n ra ga) (hb : rp n rb gb) (hc : rp n rc gc) (h : ∀ w, w < n → r w = chs (ra w) (rb w) (rc w)) : rp n r (fun p => if ga p = true then gb p else gc p) := fun w i hw hi => by
  rw [h w hw, lb_chs _ _ _ hi, ha w i hw hi, hb w i hw hi, hc w i hw hi]
theorem dm_chs {N : Nat} {ga gb gc : Nat → Bool} (hb : dm N gb) (hc : dm N gc) : dm N (fun p => if ga p = true then gb p else gc p) := fun p hp => by
  show (if ga p = true then gb p else gc p) = false
  rw [hb p hp, hc p hp, ite_self]
/-- fix -/
def fxw (N : Nat) (r : Nat → Int64) (b : Nat) (v : Bool) (w : Nat) : Int64 := if v = true then chs (pwN N w b) (r w) (acr r w b) else chs (pwN N w b) (acr r w b) (r w)
theorem fx_dm {N b : Nat} (hb : b < N) {g : Nat → Bool} (h : dm N g) (v : Bool) : dm N (fx g b v) := fun p hp => by
  unfold fx
  split
  · exact h p hp
  · refine h _ ?_
    rcases Nat.lt_or_ge (p ^^^ 2 ^ b) (2 ^ N) with h1 | h1
    · have := xr_lt h1 hb
      rw [xr_xr] at this
      omega
    · exact h1
theorem rp_fix {N b : Nat} (hb : b < N) {r r' : Nat → Int64} {g : Nat → Bool} (h : rp (nw N) r g) (hd : dm N g) {v : Bool} (h' : ∀ w, w < nw N → r' w = fxw N r b v w) : rp (nw N) r' (fx g b v) := fun w i hw hi => by
  rw [h' w hw]
  have h1 := lb_pwN (N := N) (b := b) hw hi
  have h2 := lb_acr h hw hb hi
  have h3 := h w i hw hi
  by_cases hp : 64 * w + i < 2 ^ N
  · rw [decide_eq_true hp, Bool.and_true] at h1
    unfold fxw fx
    cases v
    · rw [if_neg (by decide), lb_chs _ _ _ hi, h1, h2, h3]
      cases (64 * w + i).testBit b <;> simp
    · rw [if_pos rfl, lb_chs _ _ _ hi, h1, h2, h3]
      cases (64 * w + i).testBit b <;> simp
  · rw [fx_dm hb hd v _ (by omega)]
    rw [decide_eq_false hp, Bool.and_false] at h1
    have h4 : g (64 * w + i) = false := hd _ (by omega)
    have h5 : g ((64 * w + i) ^^^ 2 ^ b) = false := by
      refine hd _ ?_
      rcases Nat.lt_or_ge ((64 * w + i) ^^^ 2 ^ b) (2 ^ N) with h9 | h9
      · have := xr_lt h9 hb
        rw [xr_xr] at this
        omega
      · exact h9
    unfold fxw
    cases v
    · rw [if_neg (by decide), lb_chs _ _ _ hi, h1, h2, h3, h4, h5]; rfl
    · rw [if_pos rfl, lb_chs _ _ _ hi, h1, h2, h3, h4, h5]; rfl
/-- exists -/
theorem exs_dm {N f : Nat} {g : Nat → Bool} (hf : 1 ≤ f) (h : dm N g) : ∀ c, f + c ≤ N + 1 → dm N (exs N f g c)
  | 0, _ => h
  | c + 1, hc => sg_dm (by omega) (exs_dm hf h c (by omega))
/-- substitute -/
theorem dm_sub (N : Nat) (f : Nat → Bool) : dm N (fun p => decide (p < 2 ^ N) && f p) := fun p hp => by
  show (decide (p < 2 ^ N) && f p) = false
  rw [decide_eq_false (Nat.not_lt.mpr hp), Bool.false_and]
/-- the desk's contents: draft, reached, tuples, kinds, upperHalf, before, latest, rows -/
abbrev dkS : Type := (Nat → Int64) × (Nat → Int64) × (Nat → Int32) × (Nat → Int32) × (Nat → Int32) × (Nat → Int32) × (Nat → Int32) × (Nat → Nat → Int64)
abbrev dkU (N : Nat) (ad : Nat → Nat) (cJJ cJ cI : ClassId) (u : dkS) : va_W := dkW N ad cJJ cJ cI u.1 u.2.1 u.2.2.1 u.2.2.2.1 u.2.2.2.2.1 u.2.2.2.2.2.1 u.2.2.2.2.2.2.1 u.2.2.2.2.2.2.2
abbrev dkR (u : dkS) : Nat → Nat → Int64 := u.2.2.2.2.2.2.2
theorem tn_le (b : Bool) : b.toNat ≤ 1 := by cases b <;> decide
theorem tn_1 {b : Bool} (h : b.toNat = 1) : b = true := by cases b <;> first | rfl | exact absurd h (by decide)
theorem tn_0 {b : Bool} (h : ¬ b.toNat = 1) : ¬ b = true := fun e => h (by rw [e]; rfl)
theorem tn_d (b : Bool) : decide (nI b.toNat = nI 1) = b := by cases b <;> decide
theorem aok_true {A : Nat → Prop} {ad : Nat → Nat} (h : aok A ad) : aok (fun _ => True) ad := ⟨h.1, fun _ _ => trivial⟩
theorem sb_cpyL {f g : Nat → Int64} {n j : Nat} (h : j < n) : va_cpy f g 0 0 n j = f j := by rw [pk_cpy_in (Nat.zero_le j) (by omega), Nat.zero_add, Nat.sub_zero]
end
section
/-! what the asking calls answer -/
def isP (N : Nat) (q : Int32) : Bool := decide (¬ q < 0 ∧ q < nI (2 ^ N))
theorem pt_of {N : Nat} {q : Int32} (h1 : ¬ q < 0) (h2 : q < nI (2 ^ N)) (h : 2 ^ N < 2 ^ 31) : ∃ j, j < 2 ^ N ∧ q = nI j := by
  rcases pk_ix q (n := 2 ^ N) h with h3 | h3 | h3
  · exact absurd h3 h1
  · exact absurd (Int32.lt_of_lt_of_le h2 h3) (by rw [Int32.lt_iff_toInt_lt]; omega)
  · exact h3
def sAt (N : Nat) (g : Nat → Nat → Bool) (k q : Int32) : Int32 := if (isR k && isP N q) = true then nI (g (ix k) (ix q)).toNat else -1
def eqg (N : Nat) (f h : Nat → Bool) : Bool := (List.range (2 ^ N)).all (fun p => f p == h p)
theorem eqg_iff {N : Nat} {f h : Nat → Bool} : eqg N f h = true ↔ ∀ p, p < 2 ^ N → f p = h p := by
  unfold eqg
  rw [List.all_eq_true]
  constructor
  · intro h1 p hp
    exact eq_of_beq (h1 p (List.mem_range.mpr hp))
  · intro h1 p hp
    exact beq_iff_eq.mpr (h1 p (List.mem_range.mp hp))
def sSm (N : Nat) (g : Nat → Nat → Bool) (a b : Int32) : Bool := isR a && (isR b && eqg N (g (ix a)) (g (ix b)))
theorem eqg_t {N : Nat} {r1 r2 : Nat → Int64} {f h : Nat → Bool} (h1 : rp (nw N) r1 f ∧ dm N f) (h2 : rp (nw N) r2 h ∧ dm N h) (he : ∀ w, w < nw N → r1 w = r2 w) : eqg N f h = true := eqg_iff.mpr (fun p hp => by
  obtain ⟨a1, a2⟩ := pt_nw hp
  have e := Nat.div_add_mod p 64
  have b1 := h1.1 (p / 64) (p % 64) a1 (Nat.mod_lt _ (by omega))
  have b2 := h2.1 (p / 64) (p % 64) a1 (Nat.mod_lt _ (by omega))
  rw [e] at b1 b2
  rw [← b1, ← b2, he _ a1])
theorem eqg_f {N : Nat} {r1 r2 : Nat → Int64} {f h : Nat → Bool} (h1 : rp (nw N) r1 f ∧ dm N f) (h2 : rp (nw N) r2 h ∧ dm N h) {w : Nat} (hw : w < nw N) (hne : ¬ r1 w = r2 w) : eqg N f h = false := by
  cases he : eqg N f h with
  | false => rfl
  | true =>
    rw [eqg_iff] at he
    refine absurd (lb_ext (fun i hi => ?_)) hne
    rw [h1.1 w i hw hi, h2.1 w i hw hi]
    rcases Nat.lt_or_ge (64 * w + i) (2 ^ N) with h3 | h3
    · exact he _ h3
    · rw [h1.2 _ h3, h2.2 _ h3]
def sOn (N : Nat) (g : Nat → Nat → Bool) (k : Int32) : Int32 := if isR k = true then nI (pcn (g (ix k)) (2 ^ N)) else -1
theorem on_s {n : Nat} {r : Nat → Int64} {f : Nat → Bool} (h : rp n r f) {w : Nat} (hw : w < n) : pcn f (64 * w) + pcn (lb (r w)) 64 = pcn f (64 * (w + 1)) := by
  rw [show 64 * (w + 1) = 64 * w + 64 by omega, pcn_add]
  congr 1
  exact pcn_congr (fun i hi => h w i hw hi)
theorem on_e {N : Nat} {f : Nat → Bool} (h : dm N f) : pcn f (64 * nw N) = pcn f (2 ^ N) := by
  by_cases hN : N ≤ 6
  · have h3 : 2 ^ N ≤ 64 := Nat.le_trans (Nat.pow_le_pow_right (by omega) hN) (by decide)
    have e1 : nw N = 1 := if_pos hN
    rw [e1, show 64 * 1 = 2 ^ N + (64 - 2 ^ N) by omega, pcn_add, pcn_0 (f := fun i => f (2 ^ N + i)) (fun i _ => h _ (by omega))]
    rfl
  · rw [nw_big (by omega)]
/-- the least point below n with f -/
def lq (f : Nat → Bool) : Nat → Option Nat
  | 0 => none
  | n + 1 => match lq f n with
    | some r => some r
    | none => if f n = true then some n else none
theorem lq_none {f : Nat → Bool} : ∀ {n : Nat}, (∀ p, p < n → f p = false) → lq f n = none
  | 0, _ => rfl
  | n + 1, h => by
    show (match lq f n with | some r => some r | none => if f n = true then some n else none) = none
    rw [lq_none (n := n) (fun p hp => h p (by omega))]
    show (if f n = true then some n else none) = none
    rw [h n (by omega)]
    rfl
theorem lq_some {f : Nat → Bool} {r : Nat} (hr : f r = true) (h : ∀ p, p < r → f p = false) : ∀ {n : Nat}, r < n → lq f n = some r
  | 0, h0 => absurd h0 (by omega)
  | n + 1, hn => by
    show (match lq f n with | some r => some r | none => if f n = true then some n else none) = some r
    rcases Nat.lt_or_ge r n with h1 | h1
    · rw [lq_some hr h h1]
    · have e : r = n := by omega
      subst e
      rw [lq_none h]
      show (if f r = true then some r else none) = some r
      rw [hr]
      rfl
def sLe (N : Nat) (g : Nat → Nat → Bool) (k : Int32) : Int32 := if isR k = true then en (lq (g (ix k)) (2 ^ N)) else -1
theorem le_none {N : Nat} {r : Nat → Int64} {f : Nat → Bool} (h : rp (nw N) r f) (h0 : ∀ w, w < nw N → r w = 0) : lq f (2 ^ N) = none := lq_none (fun p hp => by
  obtain ⟨a1, a2⟩ := pt_nw hp
  have b1 := h (p / 64) (p % 64) a1 (Nat.mod_lt _ (by omega))
  rw [Nat.div_add_mod, h0 _ a1, lb_0] at b1
  exact b1.symm)
theorem lb_ne {x : Int64} (h : ¬ x = 0) : ∃ t, t < 64 ∧ lb x t = true ∧ ∀ j, j < t → lb x j = false := by
  have h1 : ∃ t, t < 64 ∧ lb x t = true := Classical.byContradiction fun q => h (lb_ext (fun i hi => by
    rw [lb_0]
    cases hb : lb x i with
    | false => rfl
    | true => exact absurd ⟨i, hi, hb⟩ q))
  obtain ⟨t, ⟨h2, h3⟩, h4⟩ := pk_least _ h1
  refine ⟨t, h2, h3, fun j hj => ?_⟩
  cases hb : lb x j with
  | false => rfl
  | true => exact absurd ⟨by omega, hb⟩ (h4 j hj)
theorem le_some {N : Nat} {r : Nat → Int64} {f : Nat → Bool} (h : rp (nw N) r f) (hd : dm N f) {w : Nat} (hw : w < nw N) (h0 : ∀ z, z < w → r z = 0) (hne : ¬ r w = 0) : nI (w * 64 + pcn (lb ((r w &&& -r w) - 1)) 64) = en (lq f (2 ^ N)) := by
  obtain ⟨t, h1, h2, h3⟩ := lb_ne hne
  rw [low_pcn h1 h2 h3]
  have e2 := h w t hw h1
  rw [h2] at e2
  have hlt : 64 * w + t < 2 ^ N := by
    rcases Nat.lt_or_ge (64 * w + t) (2 ^ N) with h9 | h9
    · exact h9
    · rw [hd _ h9] at e2; cases e2
  have e : lq f (2 ^ N) = some (64 * w + t) := lq_some e2.symm (fun p hp => by
    have b1 := h (p / 64) (p % 64) (by omega) (Nat.mod_lt _ (by omega))
    rw [Nat.div_add_mod] at b1
    rcases Nat.lt_or_ge (p / 64) w with h8 | h8
    · rw [h0 _ h8, lb_0] at b1
      exact b1.symm
    · have e8 : p / 64 = w := by omega
      rw [e8, h3 _ (by omega)] at b1
      exact b1.symm) hlt
  rw [e, Nat.mul_comm]
  rfl
def sFo (N : Nat) (g : Nat → Nat → Bool) (k : Int32) : Int32 := if isR k = true then nI (fc (g (ix k)) N N) else -1
end
section
/-! image: the points of the tuples, marked -/
def imB (g : Nat → Nat → Bool) (x0 m f x2 n y : Nat) : Bool := (List.range n).any (fun p => g x2 p && decide (tp g x0 p m * 2 ^ f = y))
theorem imB_iff {g : Nat → Nat → Bool} {x0 m f x2 n y : Nat} : imB g x0 m f x2 n y = true ↔ ∃ p, p < n ∧ g x2 p = true ∧ tp g x0 p m * 2 ^ f = y := by
  unfold imB
  rw [List.any_eq_true]
  constructor
  · rintro ⟨p, hp, h⟩
    rw [Bool.and_eq_true] at h
    exact ⟨p, List.mem_range.mp hp, h.1, of_decide_eq_true h.2⟩
  · rintro ⟨p, hp, h1, h2⟩
    exact ⟨p, List.mem_range.mpr hp, by rw [h1, decide_eq_true h2]; rfl⟩
theorem bool_iff {a b : Bool} (h : a = true ↔ b = true) : a = b := by
  cases a <;> cases b <;> simp_all
theorem tp_fb {N m t : Nat} (hm : m ≤ N) (h : t < 2 ^ m) : t * 2 ^ (N - m) < 2 ^ N := by
  have e : 2 ^ N = 2 ^ m * 2 ^ (N - m) := by rw [← Nat.pow_add]; congr 1; omega
  rw [e]
  exact Nat.mul_lt_mul_of_pos_right h (Nat.pow_pos (by omega))
theorem lb_one {j z : Nat} (hj : j < 64) (hz : z < 64) : lb ((1 : Int64) <<< ((nI j).toInt64 &&& 63)) z = decide (z = j) := by
  have h := lb_put (b := true) hj hz
  rw [Bool.and_true] at h
  exact h
theorem mks_lb {N : Nat} {wd : Int64} {tn : Nat → Nat} {f : Nat} {dr : Nat → Int64} (hlt : ∀ i, i < pw N → tn i * 2 ^ f < 2 ^ N) : ∀ i, i ≤ pw N → ∀ x z, x < nw N → z < 64 → (lb (mks wd tn f dr i x) z = true ↔ lb (dr x) z = true ∨ ∃ q, q < i ∧ lb wd q = true ∧ tn q * 2 ^ f = 64 * x + z)
  | 0, _, x, z, _, _ => ⟨Or.inl, fun h => h.elim id (fun ⟨q, hq, _⟩ => absurd hq (by omega))⟩
  | i + 1, hi, x, z, hx, hz => by
    have ih := mks_lb (wd := wd) (dr := dr) hlt i (by omega) x z hx hz
    cases hb : lb wd i with
    | false =>
      rw [mks_no hb, ih]
      constructor
      · rintro (h | ⟨q, h1, h2, h3⟩)
        · exact Or.inl h
        · exact Or.inr ⟨q, by omega, h2, h3⟩
      · rintro (h | ⟨q, h1, h2, h3⟩)
        · exact Or.inl h
        · rcases Nat.lt_or_ge q i with h4 | h4
          · exact Or.inr ⟨q, h4, h2, h3⟩
          · rw [show q = i by omega, hb] at h2; cases h2
    | true =>
      rw [mks_yes hb]
      have hm : tn i * 2 ^ f % 64 < 64 := Nat.mod_lt _ (by omega)
      by_cases hxe : x = tn i * 2 ^ f / 64
      · subst hxe
        rw [pk_uLs, lb_or, lb_one hm hz, Bool.or_eq_true, ih, decide_eq_true_eq]
        constructor
        · rintro ((h | ⟨q, h1, h2, h3⟩) | h)
          · exact Or.inl h
          · exact Or.inr ⟨q, by omega, h2, h3⟩
          · exact Or.inr ⟨i, by omega, hb, by rw [h, Nat.div_add_mod]⟩
        · rintro (h | ⟨q, h1, h2, h3⟩)
          · exact Or.inl (Or.inl h)
          · rcases Nat.lt_or_ge q i with h4 | h4
            · exact Or.inl (Or.inr ⟨q, h4, h2, h3⟩)
            · have e : q = i := by omega
              subst e
              exact Or.inr (by omega)
      · rw [pk_uLn hxe, ih]
        constructor
        · rintro (h | ⟨q, h1, h2, h3⟩)
          · exact Or.inl h
          · exact Or.inr ⟨q, by omega, h2, h3⟩
        · rintro (h | ⟨q, h1, h2, h3⟩)
          · exact Or.inl h
          · rcases Nat.lt_or_ge q i with h4 | h4
            · exact Or.inr ⟨q, h4, h2, h3⟩
            · have e : q = i := by omega
              subst e
              exact absurd (by omega) hxe
theorem im_skip {N : Nat} {g : Nat → Nat → Bool} {x0 m f x2 : Nat} {r : Nat → Int64} (h : rp (nw N) r (g x2)) {w : Nat} (hw : w < nw N) (h0 : r w = 0) {y : Nat} : imB g x0 m f x2 (64 * (w + 1)) y = imB g x0 m f x2 (64 * w) y := bool_iff (by
  rw [imB_iff, imB_iff]
  constructor
  · rintro ⟨p, h1, h2, h3⟩
    rcases Nat.lt_or_ge p (64 * w) with h4 | h4
    · exact ⟨p, h4, h2, h3⟩
    · have b1 := h w (p - 64 * w) hw (by omega)
      rw [h0, lb_0, show 64 * w + (p - 64 * w) = p by omega, h2] at b1
      cases b1
  · rintro ⟨p, h1, h2, h3⟩
    exact ⟨p, by omega, h2, h3⟩)
theorem im_mark {N : Nat} {g : Nat → Nat → Bool} {x0 m f x2 : Nat} {r : Nat → Int64} (h : rp (nw N) r (g x2) ∧ dm N (g x2)) {w : Nat} (hw : w < nw N) {dr : Nat → Int64} (hI : ∀ x z, x < nw N → z < 64 → lb (dr x) z = imB g x0 m f x2 (64 * w) (64 * x + z)) (hlt : ∀ i, i < pw N → tp g x0 (64 * w + i) m * 2 ^ f < 2 ^ N) :
    ∀ x z, x < nw N → z < 64 → lb (mks (r w) (fun i => tp g x0 (64 * w + i) m) f dr (pw N) x) z = imB g x0 m f x2 (64 * (w + 1)) (64 * x + z) := fun x z hx hz => bool_iff (by
  have hp := pw_le N
  rw [mks_lb hlt (pw N) (Nat.le_refl _) x z hx hz, hI x z hx hz, imB_iff, imB_iff]
  constructor
  · rintro (⟨p, h1, h2, h3⟩ | ⟨q, h1, h2, h3⟩)
    · exact ⟨p, by omega, h2, h3⟩
    · have b1 := h.1 w q hw (by omega)
      rw [h2] at b1
      exact ⟨64 * w + q, by omega, b1.symm, h3⟩
  · rintro ⟨p, h1, h2, h3⟩
    rcases Nat.lt_or_ge p (64 * w) with h4 | h4
    · exact Or.inl ⟨p, h4, h2, h3⟩
    · have e : p = 64 * w + (p - 64 * w) := by omega
      have hq : p - 64 * w < 64 := by omega
      have hlt2 : p < 2 ^ N := by
        rcases Nat.lt_or_ge p (2 ^ N) with h9 | h9
        · exact h9
        · rw [h.2 p h9] at h2; cases h2
      have b1 := h.1 w (p - 64 * w) hw hq
      rw [← e, h2] at b1
      refine Or.inr ⟨p - 64 * w, ?_, b1, by rw [← e]; exact h3⟩
      exact (nw_pt hw hq).mp (by rw [← e]; exact hlt2))
theorem im_end {N : Nat} {g : Nat → Nat → Bool} {x0 m f x2 : Nat} (h : dm N (g x2)) {y : Nat} : imB g x0 m f x2 (64 * nw N) y = imB g x0 m f x2 (2 ^ N) y := bool_iff (by
  rw [imB_iff, imB_iff]
  constructor
  · rintro ⟨p, h1, h2, h3⟩
    refine ⟨p, ?_, h2, h3⟩
    rcases Nat.lt_or_ge p (2 ^ N) with h9 | h9
    · exact h9
    · rw [h p h9] at h2; cases h2
  · rintro ⟨p, h1, h2, h3⟩
    refine ⟨p, ?_, h2, h3⟩
    have := (pt_nw h1).1
    omega)
theorem im_dm {N : Nat} {g : Nat → Nat → Bool} {x0 m x2 n : Nat} (hm : m ≤ N) : dm N (imB g x0 m (N - m) x2 n) := fun y hy => by
  cases hb : imB g x0 m (N - m) x2 n y with
  | false => rfl
  | true =>
    obtain ⟨p, -, -, h3⟩ := imB_iff.mp hb
    have := tp_fb hm (tp_lt g x0 p m)
    omega
theorem sgs_dm {N : Nat} {g : Nat → Bool} : ∀ {f : Nat}, f ≤ N → dm N g → dm N (sgs g f)
  | 0, _, h => h
  | f + 1, hf, h => sg_dm (by omega) (sgs_dm (by omega) h)
def spI (N : Nat) (g : Nat → Nat → Bool) (k f m c : Int32) : Option (Nat → Nat → Bool) := if (isR k && (isV N m && (arR f (ix m) && isR c))) = true then some (va_up g (ix k) (sgs (imB g (ix f) (ix m) (N - ix m) (ix c) (2 ^ N)) (N - ix m))) else none
end
section
set_option maxHeartbeats 4000000 in
set_option maxRecDepth 100000 in
/-- isRegister -/
theorem c_isRegister (l : Launch) (D : va_G) (sz : Nat) (k : Int32) : Met l yX1_isRegister wsX1_isRegister ({ frames := 0, cells := 0, slots := 0, locals := 0 } : Room) (va_Pc [.int k] (wp0 D [] [] (fun _ : Nat => False) sz)) (va_Qi (fun (r : Int32) (_ : Unit) => r = nI (isR k).toNat) (fun _ _ => True) (fun _ : Nat => False)) 0 0 (fun _ : Nat => False) := by
  refine Met.ofW (cc := cX1_isRegister) (maxL := 1) (ret := (some .boolean)) (by decide) rfl ?_
  intro p e s m args below meth c s₁ B hml hv
  obtain ⟨rfl, hsz, hP, hK, htb⟩ := hv
  have hx := B.exec
  have hb := B.bytes
  have hr := B.returns
  have hts := atoms_spec (ws := wsX1_isRegister) B.pre
  have hown : s.vm.findClass RX1 = some m.cls := findClass_of_methodNamed B.named
  have hlocks := B.notSynchronized
  subst hsz
  obtain ⟨⟨tt, hZ, hT⟩, hNst⟩ := id htb
  have hS : va_S (fun _ : Nat => False) s.heap s.heap [] := va_S.rf
  have hl := lv_entry ([.int k]) (n := 1) (Nat.le_of_ble_eq_true rfl)
  rw [lg_entry_eq]
  generalize (lg_sl ([.int k]) ++ List.replicate (1 - (lg_sl ([.int k])).length) Slot.unset).toArray = ls at hl ⊢
  have hl : lv_has ls 1 [(0, .int k)] := hl
  refine lv_iload_n hx hb dX1_isRegister_0 rfl (lv_at hl 0 rfl) ?_
  refine lv_if_lt (tgt := 14) hx hb dX1_isRegister_1 (by decide) (fun c_1 => ?_) (fun c_1 => ?_)
  · refine lv_iconst (v := nI 0) hx hb dX1_isRegister_14 (by decide) ?_
    exact W.zret (v := (nI 0)) hx hb hr (by decide) (fun t ht hW => ⟨⟨(nI 0), (), rfl, (by rw [show isR k = false from decide_eq_false (fun q => by first | exact q.1 c_1 | exact q.2 c_7)]; rfl), trivial⟩, hS.F ht⟩) hS.2.2 dX1_isRegister_15
  · refine lv_iload_n hx hb dX1_isRegister_4 rfl (lv_at hl 0 rfl) ?_
    refine lv_bipush (v := nI 32) hx hb dX1_isRegister_5 (by decide) ?_
    refine lv_icmp_ge (tgt := 14) hx hb dX1_isRegister_7 (by decide) (fun c_7 => ?_) (fun c_7 => ?_)
    · refine lv_iconst (v := nI 0) hx hb dX1_isRegister_14 (by decide) ?_
      exact W.zret (v := (nI 0)) hx hb hr (by decide) (fun t ht hW => ⟨⟨(nI 0), (), rfl, (by rw [show isR k = false from decide_eq_false (fun q => by first | exact q.1 c_1 | exact q.2 c_7)]; rfl), trivial⟩, hS.F ht⟩) hS.2.2 dX1_isRegister_15
    · refine lv_iconst (v := nI 1) hx hb dX1_isRegister_10 (by decide) ?_
      refine lv_goto (tgt := 15) hx hb dX1_isRegister_11 (by decide) ?_
      exact W.zret (v := (nI 1)) hx hb hr (by decide) (fun t ht hW => ⟨⟨(nI 1), (), rfl, (by rw [show isR k = true from decide_eq_true ⟨c_1, c_7⟩]; rfl), trivial⟩, hS.F ht⟩) hS.2.2 dX1_isRegister_15

set_option maxHeartbeats 4000000 in
set_option maxRecDepth 100000 in
/-- isValue -/
theorem c_isValue (l : Launch) (D : va_G) (sz : Nat) (v : Int32) : Met l yX1_isValue wsX1_isValue ({ frames := 0, cells := 0, slots := 0, locals := 0 } : Room) (va_Pc [.int v] (wp0 D [] [] (fun _ : Nat => False) sz)) (va_Qi (fun (r : Int32) (_ : Unit) => r = nI (isB v).toNat) (fun _ _ => True) (fun _ : Nat => False)) 0 0 (fun _ : Nat => False) := by
  refine Met.ofW (cc := cX1_isValue) (maxL := 1) (ret := (some .boolean)) (by decide) rfl ?_
  intro p e s m args below meth c s₁ B hml hv
  obtain ⟨rfl, hsz, hP, hK, htb⟩ := hv
  have hx := B.exec
  have hb := B.bytes
  have hr := B.returns
  have hts := atoms_spec (ws := wsX1_isValue) B.pre
  have hown : s.vm.findClass RX1 = some m.cls := findClass_of_methodNamed B.named
  have hlocks := B.notSynchronized
  subst hsz
  obtain ⟨⟨tt, hZ, hT⟩, hNst⟩ := id htb
  have hS : va_S (fun _ : Nat => False) s.heap s.heap [] := va_S.rf
  have hl := lv_entry ([.int v]) (n := 1) (Nat.le_of_ble_eq_true rfl)
  rw [lg_entry_eq]
  generalize (lg_sl ([.int v]) ++ List.replicate (1 - (lg_sl ([.int v])).length) Slot.unset).toArray = ls at hl ⊢
  have hl : lv_has ls 1 [(0, .int v)] := hl
  refine lv_iload_n hx hb dX1_isValue_0 rfl (lv_at hl 0 rfl) ?_
  refine lv_if_eq (tgt := 9) hx hb dX1_isValue_1 (by decide) (fun c_1 => ?_) (fun c_1 => ?_)
  · refine lv_iconst (v := nI 1) hx hb dX1_isValue_9 (by decide) ?_
    refine lv_goto (tgt := 14) hx hb dX1_isValue_10 (by decide) ?_
    exact W.zret (v := (nI 1)) hx hb hr (by decide) (fun t ht hW => ⟨⟨(nI 1), (), rfl, (by rw [show isB v = true from decide_eq_true (by first | exact Or.inl c_1 | exact Or.inr (Classical.not_not.mp c_6) | exact Or.inr c_6)]; rfl), trivial⟩, hS.F ht⟩) hS.2.2 dX1_isValue_14
  · refine lv_iload_n hx hb dX1_isValue_4 rfl (lv_at hl 0 rfl) ?_
    refine lv_iconst (v := nI 1) hx hb dX1_isValue_5 (by decide) ?_
    refine lv_icmp_ne (tgt := 13) hx hb dX1_isValue_6 (by decide) (fun c_6 => ?_) (fun c_6 => ?_)
    · refine lv_iconst (v := nI 0) hx hb dX1_isValue_13 (by decide) ?_
      exact W.zret (v := (nI 0)) hx hb hr (by decide) (fun t ht hW => ⟨⟨(nI 0), (), rfl, (by rw [show isB v = false from decide_eq_false (fun q => q.elim c_1 c_6)]; rfl), trivial⟩, hS.F ht⟩) hS.2.2 dX1_isValue_14
    · refine lv_iconst (v := nI 1) hx hb dX1_isValue_9 (by decide) ?_
      refine lv_goto (tgt := 14) hx hb dX1_isValue_10 (by decide) ?_
      exact W.zret (v := (nI 1)) hx hb hr (by decide) (fun t ht hW => ⟨⟨(nI 1), (), rfl, (by rw [show isB v = true from decide_eq_true (by first | exact Or.inl c_1 | exact Or.inr (Classical.not_not.mp c_6) | exact Or.inr c_6)]; rfl), trivial⟩, hS.F ht⟩) hS.2.2 dX1_isValue_14

set_option maxHeartbeats 4000000 in
set_option maxRecDepth 100000 in
/-- areRegisters -/
theorem c_areRegisters (l : Launch) (D : va_G) (sz : Nat) (f : Int32) (cn : Nat) (hcn : cn ≤ 12) : Met l yX1_areRegisters wsX1_areRegisters ({ frames := 0, cells := 0, slots := 0, locals := 0 } : Room) (va_Pc [.int f, .int (nI cn)] (wp0 D [] [] (fun _ : Nat => False) sz)) (va_Qi (fun (r : Int32) (_ : Unit) => r = nI (arR f cn).toNat) (fun _ _ => True) (fun _ : Nat => False)) 0 0 (fun _ : Nat => False) := by
  refine Met.ofW (cc := cX1_areRegisters) (maxL := 2) (ret := (some .boolean)) (by decide) rfl ?_
  intro p e s m args below meth c s₁ B hml hv
  obtain ⟨rfl, hsz, hP, hK, htb⟩ := hv
  have hx := B.exec
  have hb := B.bytes
  have hr := B.returns
  have hts := atoms_spec (ws := wsX1_areRegisters) B.pre
  have hown : s.vm.findClass RX1 = some m.cls := findClass_of_methodNamed B.named
  have hlocks := B.notSynchronized
  subst hsz
  obtain ⟨⟨tt, hZ, hT⟩, hNst⟩ := id htb
  have hS : va_S (fun _ : Nat => False) s.heap s.heap [] := va_S.rf
  have hl := lv_entry ([.int f, .int (nI cn)]) (n := 2) (Nat.le_of_ble_eq_true rfl)
  rw [lg_entry_eq]
  generalize (lg_sl ([.int f, .int (nI cn)]) ++ List.replicate (2 - (lg_sl ([.int f, .int (nI cn)])).length) Slot.unset).toArray = ls at hl ⊢
  have hl : lv_has ls 2 [(0, .int f), (1, .int (nI cn))] := hl
  refine lv_iload_n hx hb dX1_areRegisters_0 rfl (lv_at hl 0 rfl) ?_
  refine lv_if_lt (tgt := 16) hx hb dX1_areRegisters_1 (by decide) (fun c_1 => ?_) (fun c_1 => ?_)
  · refine lv_iconst (v := nI 0) hx hb dX1_areRegisters_16 (by decide) ?_
    exact W.zret (v := (nI 0)) hx hb hr (by decide) (fun t ht hW => ⟨⟨(nI 0), (), rfl, (by rw [show arR f cn = false from decide_eq_false (fun q => by first | exact q.1 c_1 | exact q.2 c_9)]; rfl), trivial⟩, hS.F ht⟩) hS.2.2 dX1_areRegisters_17
  · refine lv_iload_n hx hb dX1_areRegisters_4 rfl (lv_at hl 0 rfl) ?_
    refine lv_bipush (v := nI 32) hx hb dX1_areRegisters_5 (by decide) ?_
    refine lv_iload_n hx hb dX1_areRegisters_7 rfl (lv_at hl 1 rfl) ?_
    refine xa_isub hx hb (by omega) dX1_areRegisters_8 ?_
    refine lv_icmp_gt (tgt := 16) hx hb dX1_areRegisters_9 (by decide) (fun c_9 => ?_) (fun c_9 => ?_)
    · refine lv_iconst (v := nI 0) hx hb dX1_areRegisters_16 (by decide) ?_
      exact W.zret (v := (nI 0)) hx hb hr (by decide) (fun t ht hW => ⟨⟨(nI 0), (), rfl, (by rw [show arR f cn = false from decide_eq_false (fun q => by first | exact q.1 c_1 | exact q.2 c_9)]; rfl), trivial⟩, hS.F ht⟩) hS.2.2 dX1_areRegisters_17
    · refine lv_iconst (v := nI 1) hx hb dX1_areRegisters_12 (by decide) ?_
      refine lv_goto (tgt := 17) hx hb dX1_areRegisters_13 (by decide) ?_
      exact W.zret (v := (nI 1)) hx hb hr (by decide) (fun t ht hW => ⟨⟨(nI 1), (), rfl, (by rw [show arR f cn = true from decide_eq_true ⟨c_1, c_9⟩]; rfl), trivial⟩, hS.F ht⟩) hS.2.2 dX1_areRegisters_17

set_option maxHeartbeats 4000000 in
set_option maxRecDepth 100000 in
/-- isVariable -/
theorem c_isVariable (l : Launch) (D : va_G) (sz : Nat) (N : Nat) (ad : Nat → Nat) (v : Int32) : Met l yX1_isVariable wsX1_isVariable ({ frames := 0, cells := 0, slots := 0, locals := 0 } : Room) (va_Pc [.ref (ad 0), .int v] (wp0 D [(ad 0, .inr (1, dkF N ad))] [] (fun _ : Nat => False) sz)) (va_Qi (fun (r : Int32) (_ : Unit) => r = nI (isV N v).toNat) (fun _ _ => True) (fun _ : Nat => False)) 0 0 (fun _ : Nat => False) := by
  refine Met.ofW (cc := cX1_isVariable) (maxL := 2) (ret := (some .boolean)) (by decide) rfl ?_
  intro p e s m args below meth c s₁ B hml hv
  obtain ⟨rfl, hsz, hP, hK, htb⟩ := hv
  have hx := B.exec
  have hb := B.bytes
  have hr := B.returns
  have hts := atoms_spec (ws := wsX1_isVariable) B.pre
  have hown : s.vm.findClass RX1 = some m.cls := findClass_of_methodNamed B.named
  have hlocks := B.notSynchronized
  subst hsz
  obtain ⟨⟨tt, hZ, hT⟩, hNst⟩ := id htb
  have hS : va_S (fun _ : Nat => False) s.heap s.heap [] := va_S.rf
  have hl := lv_entry ([.ref (ad 0), .int v]) (n := 2) (Nat.le_of_ble_eq_true rfl)
  rw [lg_entry_eq]
  generalize (lg_sl ([.ref (ad 0), .int v]) ++ List.replicate (2 - (lg_sl ([.ref (ad 0), .int v])).length) Slot.unset).toArray = ls at hl ⊢
  have hl : lv_has ls 2 [(0, .ref (ad 0)), (1, .int v)] := hl
  refine lv_iload_n hx hb dX1_isVariable_0 rfl (lv_at hl 1 rfl) ?_
  refine lv_iconst (v := nI 1) hx hb dX1_isVariable_1 (by decide) ?_
  refine lv_icmp_lt (tgt := 17) hx hb dX1_isVariable_2 (by decide) (fun c_2 => ?_) (fun c_2 => ?_)
  · refine lv_iconst (v := nI 0) hx hb dX1_isVariable_17 (by decide) ?_
    exact W.zret (v := (nI 0)) hx hb hr (by decide) (fun t ht hW => ⟨⟨(nI 0), (), rfl, (by rw [show isV N v = false from decide_eq_false (fun q => by first | exact q.1 c_2 | exact q.2 c_10)]; rfl), trivial⟩, hS.F ht⟩) hS.2.2 dX1_isVariable_18
  · refine lv_iload_n hx hb dX1_isVariable_5 rfl (lv_at hl 1 rfl) ?_
    refine lv_aload_n hx hb dX1_isVariable_6 rfl (lv_at hl 0 rfl) ?_
    refine va_get (D := D) (ci := 1) (C := RX1) (T := TX1) (N := 10) hx hb hts (by decide +kernel) hown hK hP 0 rfl rfl 0 (by decide) (hts (.fieldLink RX1 18 "ForkDesk" "variables" "I") (by decide +kernel)) (fun _ h9 => h9) rfl dX1_isVariable_7 ?_
    refine lv_icmp_gt (tgt := 17) hx hb dX1_isVariable_10 (by decide) (fun c_10 => ?_) (fun c_10 => ?_)
    · refine lv_iconst (v := nI 0) hx hb dX1_isVariable_17 (by decide) ?_
      exact W.zret (v := (nI 0)) hx hb hr (by decide) (fun t ht hW => ⟨⟨(nI 0), (), rfl, (by rw [show isV N v = false from decide_eq_false (fun q => by first | exact q.1 c_2 | exact q.2 c_10)]; rfl), trivial⟩, hS.F ht⟩) hS.2.2 dX1_isVariable_18
    · refine lv_iconst (v := nI 1) hx hb dX1_isVariable_13 (by decide) ?_
      refine lv_goto (tgt := 18) hx hb dX1_isVariable_14 (by decide) ?_
      exact W.zret (v := (nI 1)) hx hb hr (by decide) (fun t ht hW => ⟨⟨(nI 1), (), rfl, (by rw [show isV N v = true from decide_eq_true ⟨c_2, c_10⟩]; rfl), trivial⟩, hS.F ht⟩) hS.2.2 dX1_isVariable_18

set_option maxHeartbeats 4000000 in
set_option maxRecDepth 100000 in
/-- bitOf -/
theorem c_bitOf (l : Launch) (D : va_G) (sz : Nat) (N : Nat) (ad : Nat → Nat) (j : Nat) (hj : j ≤ N) : Met l yX1_bitOf wsX1_bitOf ({ frames := 0, cells := 0, slots := 0, locals := 0 } : Room) (va_Pc [.ref (ad 0), .int (nI j)] (wp0 D [(ad 0, .inr (1, dkF N ad))] [] (fun _ : Nat => False) sz)) (va_Qi (fun (r : Int32) (_ : Unit) => r = nI (N - j)) (fun _ _ => True) (fun _ : Nat => False)) 0 0 (fun _ : Nat => False) := by
  refine Met.ofW (cc := cX1_bitOf) (maxL := 2) (ret := (some .int)) (by decide) rfl ?_
  intro p e s m args below meth c s₁ B hml hv
  obtain ⟨rfl, hsz, hP, hK, htb⟩ := hv
  have hx := B.exec
  have hb := B.bytes
  have hr := B.returns
  have hts := atoms_spec (ws := wsX1_bitOf) B.pre
  have hown : s.vm.findClass RX1 = some m.cls := findClass_of_methodNamed B.named
  have hlocks := B.notSynchronized
  subst hsz
  obtain ⟨⟨tt, hZ, hT⟩, hNst⟩ := id htb
  have hS : va_S (fun _ : Nat => False) s.heap s.heap [] := va_S.rf
  have hl := lv_entry ([.ref (ad 0), .int (nI j)]) (n := 2) (Nat.le_of_ble_eq_true rfl)
  rw [lg_entry_eq]
  generalize (lg_sl ([.ref (ad 0), .int (nI j)]) ++ List.replicate (2 - (lg_sl ([.ref (ad 0), .int (nI j)])).length) Slot.unset).toArray = ls at hl ⊢
  have hl : lv_has ls 2 [(0, .ref (ad 0)), (1, .int (nI j))] := hl
  refine lv_aload_n hx hb dX1_bitOf_0 rfl (lv_at hl 0 rfl) ?_
  refine va_get (D := D) (ci := 1) (C := RX1) (T := TX1) (N := 10) hx hb hts (by decide +kernel) hown hK hP 0 rfl rfl 0 (by decide) (hts (.fieldLink RX1 18 "ForkDesk" "variables" "I") (by decide +kernel)) (fun _ h9 => h9) rfl dX1_bitOf_1 ?_
  refine lv_iload_n hx hb dX1_bitOf_4 rfl (lv_at hl 1 rfl) ?_
  refine xa_isub hx hb (by omega) dX1_bitOf_5 ?_
  exact W.iret (v := (nI (N - j))) hx hb hr (fun t ht hW => ⟨⟨(nI (N - j)), (), rfl, rfl, trivial⟩, hS.F ht⟩) hS.2.2 dX1_bitOf_6

set_option maxHeartbeats 4000000 in
set_option maxRecDepth 100000 in
/-- valueAt -/
theorem c_valueAt (l : Launch) (D : va_G) (sz : Nat) (a : Nat) (cJ : ClassId) (n : Nat) (f : Nat → Int64) (pt : Nat) (hpt : pt / 64 < n) (hn : n < 2 ^ 31) (hp : pt < 2 ^ 31) : Met l yX1_valueAt wsX1_valueAt ({ frames := 0, cells := 0, slots := 0, locals := 0 } : Room) (va_Pc [.ref a, .int (nI pt)] (wp0 D [(a, .inl (cJ, n, .inr (.inl f)))] [(cJ, .long)] (fun _ : Nat => False) sz)) (va_Qi (fun (r : Int32) (_ : Unit) => r = nI (lb (f (pt / 64)) (pt % 64)).toNat) (fun _ _ => True) (fun _ : Nat => False)) 0 0 (fun _ : Nat => False) := by
  refine Met.ofW (cc := cX1_valueAt) (maxL := 2) (ret := (some .int)) (by decide) rfl ?_
  intro p e s m args below meth c s₁ B hml hv
  obtain ⟨rfl, hsz, hP, hK, htb⟩ := hv
  have hx := B.exec
  have hb := B.bytes
  have hr := B.returns
  have hts := atoms_spec (ws := wsX1_valueAt) B.pre
  have hown : s.vm.findClass RX1 = some m.cls := findClass_of_methodNamed B.named
  have hlocks := B.notSynchronized
  subst hsz
  obtain ⟨⟨tt, hZ, hT⟩, hNst⟩ := id htb
  have hS : va_S (fun _ : Nat => False) s.heap s.heap [] := va_S.rf
  have hl := lv_entry ([.ref a, .int (nI pt)]) (n := 2) (Nat.le_of_ble_eq_true rfl)
  rw [lg_entry_eq]
  generalize (lg_sl ([.ref a, .int (nI pt)]) ++ List.replicate (2 - (lg_sl ([.ref a, .int (nI pt)])).length) Slot.unset).toArray = ls at hl ⊢
  have hl : lv_has ls 2 [(0, .ref a), (1, .int (nI pt))] := hl
  refine lv_aload_n hx hb dX1_valueAt_0 rfl (lv_at hl 0 rfl) ?_
  refine lv_iload_n hx hb dX1_valueAt_1 rfl (lv_at hl 1 rfl) ?_
  refine lv_bipush (v := nI 64) hx hb dX1_valueAt_2 (by decide) ?_
  refine xa_idiv hx hb (by omega) (by omega) (by omega) dX1_valueAt_4 ?_
  refine xa_lald hx hb hK hP 0 0 rfl rfl (w := pt / 64) (by omega) (by omega) dX1_valueAt_5 ?_
  refine lv_iload_n hx hb dX1_valueAt_6 rfl (lv_at hl 1 rfl) ?_
  refine lv_bipush (v := nI 64) hx hb dX1_valueAt_7 (by decide) ?_
  refine xa_irem hx hb (by omega) (by omega) (by omega) dX1_valueAt_9 ?_
  refine lv_lushr (v := ((f (pt / 64)).toUInt64 >>> ((nI (pt % 64)).toInt64.toUInt64 &&& Int64.toUInt64 63)).toInt64) hx hb dX1_valueAt_10 rfl ?_
  refine lv_l2i (v := (((f (pt / 64)).toUInt64 >>> ((nI (pt % 64)).toInt64.toUInt64 &&& Int64.toUInt64 63)).toInt64).toInt32) hx hb dX1_valueAt_11 rfl ?_
  refine lv_iconst (v := nI 1) hx hb dX1_valueAt_12 (by decide) ?_
  refine lv_iand hx hb dX1_valueAt_13 ?_
  exact W.iret (v := (((((f (pt / 64)).toUInt64 >>> ((nI (pt % 64)).toInt64.toUInt64 &&& Int64.toUInt64 63)).toInt64).toInt32) &&& (nI 1))) hx hb hr (fun t ht hW => ⟨⟨(((((f (pt / 64)).toUInt64 >>> ((nI (pt % 64)).toInt64.toUInt64 &&& Int64.toUInt64 63)).toInt64).toInt32) &&& (nI 1)), (), rfl, (by rw [lb_low, lb_shr _ (Nat.mod_lt _ (by omega)), Nat.add_zero]), trivial⟩, hS.F ht⟩) hS.2.2 dX1_valueAt_14

set_option maxHeartbeats 4000000 in
set_option maxRecDepth 100000 in
/-- chosen -/
theorem c_chosen (l : Launch) (D : va_G) (sz : Nat) (x y z : Int64) : Met l yX1_chosen wsX1_chosen ({ frames := 0, cells := 0, slots := 0, locals := 0 } : Room) (va_Pc [.long x, .long y, .long z] (wp0 D [] [] (fun _ : Nat => False) sz)) (va_Ql (fun (r : Int64) (_ : Unit) => r = chs x y z) (fun _ _ => True) (fun _ : Nat => False)) 0 0 (fun _ : Nat => False) := by
  refine Met.ofW (cc := cX1_chosen) (maxL := 6) (ret := (some .long)) (by decide) rfl ?_
  intro p e s m args below meth c s₁ B hml hv
  obtain ⟨rfl, hsz, hP, hK, htb⟩ := hv
  have hx := B.exec
  have hb := B.bytes
  have hr := B.returns
  have hts := atoms_spec (ws := wsX1_chosen) B.pre
  have hown : s.vm.findClass RX1 = some m.cls := findClass_of_methodNamed B.named
  have hlocks := B.notSynchronized
  subst hsz
  obtain ⟨⟨tt, hZ, hT⟩, hNst⟩ := id htb
  have hS : va_S (fun _ : Nat => False) s.heap s.heap [] := va_S.rf
  have hl := lv_entry ([.long x, .long y, .long z]) (n := 6) (Nat.le_of_ble_eq_true rfl)
  rw [lg_entry_eq]
  generalize (lg_sl ([.long x, .long y, .long z]) ++ List.replicate (6 - (lg_sl ([.long x, .long y, .long z])).length) Slot.unset).toArray = ls at hl ⊢
  have hl : lv_has ls 6 [(0, .long x), (2, .long y), (4, .long z)] := hl
  refine lv_lload_n hx hb dX1_chosen_0 rfl (lv_at hl 0 rfl) ?_
  refine lv_lload_n hx hb dX1_chosen_1 rfl (lv_at hl 1 rfl) ?_
  refine lv_land hx hb dX1_chosen_2 ?_
  refine lv_lload_n hx hb dX1_chosen_3 rfl (lv_at hl 0 rfl) ?_
  refine lv_ldc2 (v := (-1)) hx hb hown (hts (.constantLong RX1 31 (-1)) (by decide +kernel)) dX1_chosen_4 ?_
  refine lv_lxor hx hb dX1_chosen_7 ?_
  refine lv_lload hx hb dX1_chosen_8 (lv_at hl 2 rfl) ?_
  refine lv_land hx hb dX1_chosen_10 ?_
  refine lv_lor hx hb dX1_chosen_11 ?_
  exact W.lret (v := ((x &&& y) ||| ((x ^^^ (-1)) &&& z))) hx hb hr (fun t ht hW => ⟨⟨((x &&& y) ||| ((x ^^^ (-1)) &&& z)), (), rfl, rfl, trivial⟩, hS.F ht⟩) hS.2.2 dX1_chosen_12

set_option maxHeartbeats 4000000 in
set_option maxRecDepth 100000 in
/-- combined -/
theorem c_combined (l : Launch) (D : va_G) (sz : Nat) (op : Nat) (hop : op < 4) (x y : Int64) : Met l yX1_combined wsX1_combined ({ frames := 0, cells := 0, slots := 0, locals := 0 } : Room) (va_Pc [.int (nI op), .long x, .long y] (wp0 D [] [] (fun _ : Nat => False) sz)) (va_Ql (fun (r : Int64) (_ : Unit) => r = cmb op x y) (fun _ _ => True) (fun _ : Nat => False)) 0 0 (fun _ : Nat => False) := by
  refine Met.ofW (cc := cX1_combined) (maxL := 5) (ret := (some .long)) (by decide) rfl ?_
  intro p e s m args below meth c s₁ B hml hv
  obtain ⟨rfl, hsz, hP, hK, htb⟩ := hv
  have hx := B.exec
  have hb := B.bytes
  have hr := B.returns
  have hts := atoms_spec (ws := wsX1_combined) B.pre
  have hown : s.vm.findClass RX1 = some m.cls := findClass_of_methodNamed B.named
  have hlocks := B.notSynchronized
  subst hsz
  obtain ⟨⟨tt, hZ, hT⟩, hNst⟩ := id htb
  have hS : va_S (fun _ : Nat => False) s.heap s.heap [] := va_S.rf
  have hl := lv_entry ([.int (nI op), .long x, .long y]) (n := 5) (Nat.le_of_ble_eq_true rfl)
  rw [lg_entry_eq]
  generalize (lg_sl ([.int (nI op), .long x, .long y]) ++ List.replicate (5 - (lg_sl ([.int (nI op), .long x, .long y])).length) Slot.unset).toArray = ls at hl ⊢
  have hl : lv_has ls 5 [(0, .int (nI op)), (1, .long x), (3, .long y)] := hl
  refine lv_iload_n hx hb dX1_combined_0 rfl (lv_at hl 0 rfl) ?_
  have h4 : op = 0 ∨ op = 1 ∨ op = 2 ∨ op = 3 := by omega
  rcases h4 with rfl | rfl | rfl | rfl
  · refine lv_tableIn (tgt := 28) hx hb dX1_combined_1 (by decide) (by decide) rfl (by decide) ?_
    refine lv_lload_n hx hb dX1_combined_28 rfl (lv_at hl 1 rfl) ?_
    refine lv_lload_n hx hb dX1_combined_29 rfl (lv_at hl 2 rfl) ?_
    refine lv_land hx hb dX1_combined_30 ?_
    exact W.lret (v := (x &&& y)) hx hb hr (fun t ht hW => ⟨⟨(x &&& y), (), rfl, rfl, trivial⟩, hS.F ht⟩) hS.2.2 dX1_combined_31
  · refine lv_tableIn (tgt := 32) hx hb dX1_combined_1 (by decide) (by decide) rfl (by decide) ?_
    refine lv_lload_n hx hb dX1_combined_32 rfl (lv_at hl 1 rfl) ?_
    refine lv_lload_n hx hb dX1_combined_33 rfl (lv_at hl 2 rfl) ?_
    refine lv_lor hx hb dX1_combined_34 ?_
    exact W.lret (v := (x ||| y)) hx hb hr (fun t ht hW => ⟨⟨(x ||| y), (), rfl, rfl, trivial⟩, hS.F ht⟩) hS.2.2 dX1_combined_35
  · refine lv_tableIn (tgt := 36) hx hb dX1_combined_1 (by decide) (by decide) rfl (by decide) ?_
    refine lv_lload_n hx hb dX1_combined_36 rfl (lv_at hl 1 rfl) ?_
    refine lv_lload_n hx hb dX1_combined_37 rfl (lv_at hl 2 rfl) ?_
    refine lv_lxor hx hb dX1_combined_38 ?_
    exact W.lret (v := (x ^^^ y)) hx hb hr (fun t ht hW => ⟨⟨(x ^^^ y), (), rfl, rfl, trivial⟩, hS.F ht⟩) hS.2.2 dX1_combined_39
  · refine lv_tableOut (tgt := 40) hx hb dX1_combined_1 (by decide) (by decide) ?_
    refine lv_lload_n hx hb dX1_combined_40 rfl (lv_at hl 1 rfl) ?_
    refine lv_lload_n hx hb dX1_combined_41 rfl (lv_at hl 2 rfl) ?_
    refine lv_ldc2 (v := (-1)) hx hb hown (hts (.constantLong RX1 31 (-1)) (by decide +kernel)) dX1_combined_42 ?_
    refine lv_lxor hx hb dX1_combined_45 ?_
    refine lv_land hx hb dX1_combined_46 ?_
    exact W.lret (v := (x &&& (y ^^^ (-1)))) hx hb hr (fun t ht hW => ⟨⟨(x &&& (y ^^^ (-1))), (), rfl, rfl, trivial⟩, hS.F ht⟩) hS.2.2 dX1_combined_47

set_option maxHeartbeats 4000000 in
set_option maxRecDepth 100000 in
/-- pointsWithBit -/
theorem c_pointsWithBit (l : Launch) (D : va_G) (sz : Nat) (N : Nat) (ad : Nat → Nat) (w b : Nat) (hw : w < 2 ^ 31) (hb12 : b < 12) : Met l yX1_pointsWithBit wsX1_pointsWithBit ({ frames := 0, cells := 0, slots := 0, locals := 0 } : Room) (va_Pc [.ref (ad 0), .int (nI w), .int (nI b)] (wp0 D [(ad 0, .inr (1, dkF N ad))] [] (fun _ : Nat => False) sz)) (va_Ql (fun (r : Int64) (_ : Unit) => r = pwN N w b) (fun _ _ => True) (fun _ : Nat => False)) 0 0 (fun _ : Nat => False) := by
  refine Met.ofW (cc := cX1_pointsWithBit) (maxL := 3) (ret := (some .long)) (by decide) rfl ?_
  intro p e s m args below meth c s₁ B hml hv
  obtain ⟨rfl, hsz, hP, hK, htb⟩ := hv
  have hx := B.exec
  have hb := B.bytes
  have hr := B.returns
  have hts := atoms_spec (ws := wsX1_pointsWithBit) B.pre
  have hown : s.vm.findClass RX1 = some m.cls := findClass_of_methodNamed B.named
  have hlocks := B.notSynchronized
  subst hsz
  obtain ⟨⟨tt, hZ, hT⟩, hNst⟩ := id htb
  have hS : va_S (fun _ : Nat => False) s.heap s.heap [] := va_S.rf
  have hl := lv_entry ([.ref (ad 0), .int (nI w), .int (nI b)]) (n := 3) (Nat.le_of_ble_eq_true rfl)
  rw [lg_entry_eq]
  generalize (lg_sl ([.ref (ad 0), .int (nI w), .int (nI b)]) ++ List.replicate (3 - (lg_sl ([.ref (ad 0), .int (nI w), .int (nI b)])).length) Slot.unset).toArray = ls at hl ⊢
  have hl : lv_has ls 3 [(0, .ref (ad 0)), (1, .int (nI w)), (2, .int (nI b))] := hl
  have hdiv : w / 2 ^ (b - 6) ≤ w := Nat.div_le_self _ _
  refine lv_iload_n hx hb dX1_pointsWithBit_0 rfl (lv_at hl 2 rfl) ?_
  refine lv_bipush (v := nI 6) hx hb dX1_pointsWithBit_1 (by decide) ?_
  refine xa_ge (tgt := 17) hx hb (by omega) (by omega) dX1_pointsWithBit_3 (by decide) (fun c_3 => ?_) (fun c_3 => ?_)
  · refine lv_iload_n hx hb dX1_pointsWithBit_17 rfl (lv_at hl 1 rfl) ?_
    refine lv_iload_n hx hb dX1_pointsWithBit_18 rfl (lv_at hl 2 rfl) ?_
    refine lv_bipush (v := nI 6) hx hb dX1_pointsWithBit_19 (by decide) ?_
    refine xa_isub hx hb (by omega) dX1_pointsWithBit_21 ?_
    refine xa_iushr hx hb (by omega) (by omega) dX1_pointsWithBit_22 ?_
    refine lv_iconst (v := nI 1) hx hb dX1_pointsWithBit_23 (by decide) ?_
    refine xa_iand1 hx hb (by omega) dX1_pointsWithBit_24 ?_
    refine lv_iconst (v := nI 1) hx hb dX1_pointsWithBit_25 (by decide) ?_
    refine xa_ne (tgt := 36) hx hb (by omega) (by omega) dX1_pointsWithBit_26 (by decide) (fun c_26 => ?_) (fun c_26 => ?_)
    · refine lv_lconst (v := 0) hx hb dX1_pointsWithBit_36 (by decide) ?_
      exact W.lret (v := (0 : Int64)) hx hb hr (fun t ht hW => ⟨⟨(0 : Int64), (), rfl, (by unfold pwN; rw [if_neg (by omega), Nat.testBit_eq_decide_div_mod_eq, decide_eq_false c_26]; rfl), trivial⟩, hS.F ht⟩) hS.2.2 dX1_pointsWithBit_37
    · refine lv_aload_n hx hb dX1_pointsWithBit_29 rfl (lv_at hl 0 rfl) ?_
      refine va_get (D := D) (ci := 1) (C := RX1) (T := TX1) (N := 10) hx hb hts (by decide +kernel) hown hK hP 0 rfl rfl 4 (by decide) (hts (.fieldLink RX1 33 "ForkDesk" "allOnes" "J") (by decide +kernel)) (fun _ h9 => h9) rfl dX1_pointsWithBit_30 ?_
      refine lv_goto (tgt := 37) hx hb dX1_pointsWithBit_33 (by decide) ?_
      exact W.lret (v := (ao N)) hx hb hr (fun t ht hW => ⟨⟨(ao N), (), rfl, (by unfold pwN; rw [if_neg (by omega), Nat.testBit_eq_decide_div_mod_eq, decide_eq_true c_26]; rfl), trivial⟩, hS.F ht⟩) hS.2.2 dX1_pointsWithBit_37
  · refine va_gets (C := "ForkDesk") (n := "PLACES_WITH_BIT") (d := "[J") hx hb hZ hS hown (hts (.fieldLink RX1 140 "ForkDesk" "PLACES_WITH_BIT" "[J") (by decide +kernel)) (fun _ h9 => h9) dX1_pointsWithBit_6 ?_
    refine lv_iload_n hx hb dX1_pointsWithBit_9 rfl (lv_at hl 2 rfl) ?_
    refine va_tl hx hb hT hS (vp_in_nI (n := b) (by omega) (by decide)) (v := .long (pwb b)) (by rw [nI_clamp (by omega)]) dX1_pointsWithBit_10 ?_
    refine lv_aload_n hx hb dX1_pointsWithBit_11 rfl (lv_at hl 0 rfl) ?_
    refine va_get (D := D) (ci := 1) (C := RX1) (T := TX1) (N := 10) hx hb hts (by decide +kernel) hown hK hP 0 rfl rfl 4 (by decide) (hts (.fieldLink RX1 33 "ForkDesk" "allOnes" "J") (by decide +kernel)) (fun _ h9 => h9) rfl dX1_pointsWithBit_12 ?_
    refine lv_land hx hb dX1_pointsWithBit_15 ?_
    exact W.lret (v := ((pwb b) &&& (ao N))) hx hb hr (fun t ht hW => ⟨⟨((pwb b) &&& (ao N)), (), rfl, (by unfold pwN; rw [if_pos c_3]), trivial⟩, hS.F ht⟩) hS.2.2 dX1_pointsWithBit_16

set_option maxHeartbeats 4000000 in
set_option maxRecDepth 100000 in
/-- acrossBit -/
theorem c_acrossBit (l : Launch) (D : va_G) (sz : Nat) (N : Nat) (a : Nat) (cJ : ClassId) (f : Nat → Int64) (w b : Nat) (hN : N ≤ 12) (hw : w < nw N) (hbN : b < N) : Met l yX1_acrossBit wsX1_acrossBit ({ frames := 0, cells := 0, slots := 0, locals := 0 } : Room) (va_Pc [.ref a, .int (nI w), .int (nI b)] (wp0 D [(a, .inl (cJ, nw N, .inr (.inl f)))] [(cJ, .long)] (fun _ : Nat => False) sz)) (va_Ql (fun (r : Int64) (_ : Unit) => r = acr f w b) (fun _ _ => True) (fun _ : Nat => False)) 0 0 (fun _ : Nat => False) := by
  refine Met.ofW (cc := cX1_acrossBit) (maxL := 8) (ret := (some .long)) (by decide) rfl ?_
  intro p e s m args below meth c s₁ B hml hv
  obtain ⟨rfl, hsz, hP, hK, htb⟩ := hv
  have hx := B.exec
  have hb := B.bytes
  have hr := B.returns
  have hts := atoms_spec (ws := wsX1_acrossBit) B.pre
  have hown : s.vm.findClass RX1 = some m.cls := findClass_of_methodNamed B.named
  have hlocks := B.notSynchronized
  subst hsz
  obtain ⟨⟨tt, hZ, hT⟩, hNst⟩ := id htb
  have hS : va_S (fun _ : Nat => False) s.heap s.heap [] := va_S.rf
  have hl := lv_entry ([.ref a, .int (nI w), .int (nI b)]) (n := 8) (Nat.le_of_ble_eq_true rfl)
  rw [lg_entry_eq]
  generalize (lg_sl ([.ref a, .int (nI w), .int (nI b)]) ++ List.replicate (8 - (lg_sl ([.ref a, .int (nI w), .int (nI b)])).length) Slot.unset).toArray = ls at hl ⊢
  have hl : lv_has ls 8 [(0, .ref a), (1, .int (nI w)), (2, .int (nI b))] := hl
  have hnw := nw_le hN
  refine lv_iload_n hx hb dX1_acrossBit_0 rfl (lv_at hl 2 rfl) ?_
  refine lv_bipush (v := nI 6) hx hb dX1_acrossBit_1 (by decide) ?_
  refine xa_lt (tgt := 17) hx hb (by omega) (by omega) dX1_acrossBit_3 (by decide) (fun c_3 => ?_) (fun c_3 => ?_)
  · refine lv_iconst (v := nI 1) hx hb dX1_acrossBit_17 (by decide) ?_
    refine lv_iload_n hx hb dX1_acrossBit_18 rfl (lv_at hl 2 rfl) ?_
    refine xa_ishl1 hx hb (by omega) dX1_acrossBit_19 ?_
    refine lv_istore_n (lv' := [(3, .int (nI (2 ^ b))), (0, .ref a), (1, .int (nI w)), (2, .int (nI b))]) hx hb dX1_acrossBit_20 rfl hl (by decide) rfl (fun ls hl => ?_)
    refine lv_aload_n hx hb dX1_acrossBit_21 rfl (lv_at hl 1 rfl) ?_
    refine lv_iload_n hx hb dX1_acrossBit_22 rfl (lv_at hl 2 rfl) ?_
    refine xa_lald hx hb hK hP 0 0 rfl rfl (w := w) (by omega) (by omega) dX1_acrossBit_23 ?_
    refine va_gets (C := "ForkDesk") (n := "PLACES_WITH_BIT") (d := "[J") hx hb hZ hS hown (hts (.fieldLink RX1 140 "ForkDesk" "PLACES_WITH_BIT" "[J") (by decide +kernel)) (fun _ h9 => h9) dX1_acrossBit_24 ?_
    refine lv_iload_n hx hb dX1_acrossBit_27 rfl (lv_at hl 3 rfl) ?_
    refine va_tl hx hb hT hS (vp_in_nI (n := b) (by omega) (by decide)) (v := .long (pwb b)) (by rw [nI_clamp (by omega)]) dX1_acrossBit_28 ?_
    refine lv_land hx hb dX1_acrossBit_29 ?_
    refine lv_lstore (lv' := [(4, .long ((f w) &&& (pwb b))), (3, .int (nI (2 ^ b))), (0, .ref a), (1, .int (nI w)), (2, .int (nI b))]) hx hb dX1_acrossBit_30 hl (by decide) rfl (fun ls hl => ?_)
    refine lv_aload_n hx hb dX1_acrossBit_32 rfl (lv_at hl 2 rfl) ?_
    refine lv_iload_n hx hb dX1_acrossBit_33 rfl (lv_at hl 3 rfl) ?_
    refine xa_lald hx hb hK hP 0 0 rfl rfl (w := w) (by omega) (by omega) dX1_acrossBit_34 ?_
    refine va_gets (C := "ForkDesk") (n := "PLACES_WITH_BIT") (d := "[J") hx hb hZ hS hown (hts (.fieldLink RX1 140 "ForkDesk" "PLACES_WITH_BIT" "[J") (by decide +kernel)) (fun _ h9 => h9) dX1_acrossBit_35 ?_
    refine lv_iload_n hx hb dX1_acrossBit_38 rfl (lv_at hl 4 rfl) ?_
    refine va_tl hx hb hT hS (vp_in_nI (n := b) (by omega) (by decide)) (v := .long (pwb b)) (by rw [nI_clamp (by omega)]) dX1_acrossBit_39 ?_
    refine lv_ldc2 (v := (-1)) hx hb hown (hts (.constantLong RX1 31 (-1)) (by decide +kernel)) dX1_acrossBit_40 ?_
    refine lv_lxor hx hb dX1_acrossBit_43 ?_
    refine lv_land hx hb dX1_acrossBit_44 ?_
    refine lv_lstore (lv' := [(6, .long ((f w) &&& ((pwb b) ^^^ (-1)))), (4, .long ((f w) &&& (pwb b))), (3, .int (nI (2 ^ b))), (0, .ref a), (1, .int (nI w)), (2, .int (nI b))]) hx hb dX1_acrossBit_45 hl (by decide) rfl (fun ls hl => ?_)
    refine lv_lload hx hb dX1_acrossBit_47 (lv_at hl 1 rfl) ?_
    refine lv_iload_n hx hb dX1_acrossBit_49 rfl (lv_at hl 2 rfl) ?_
    refine lv_lushr (v := (((f w) &&& (pwb b)).toUInt64 >>> ((nI (2 ^ b)).toInt64.toUInt64 &&& Int64.toUInt64 63)).toInt64) hx hb dX1_acrossBit_50 rfl ?_
    refine lv_lload hx hb dX1_acrossBit_51 (lv_at hl 0 rfl) ?_
    refine lv_iload_n hx hb dX1_acrossBit_53 rfl (lv_at hl 2 rfl) ?_
    refine lv_lshl (v := ((f w) &&& ((pwb b) ^^^ (-1))) <<< ((nI (2 ^ b)).toInt64 &&& 63)) hx hb dX1_acrossBit_54 rfl ?_
    refine lv_lor hx hb dX1_acrossBit_55 ?_
    exact W.lret (v := (((((f w) &&& (pwb b)).toUInt64 >>> ((nI (2 ^ b)).toInt64.toUInt64 &&& Int64.toUInt64 63)).toInt64) ||| (((f w) &&& ((pwb b) ^^^ (-1))) <<< ((nI (2 ^ b)).toInt64 &&& 63)))) hx hb hr (fun t ht hW => ⟨⟨(((((f w) &&& (pwb b)).toUInt64 >>> ((nI (2 ^ b)).toInt64.toUInt64 &&& Int64.toUInt64 63)).toInt64) ||| (((f w) &&& ((pwb b) ^^^ (-1))) <<< ((nI (2 ^ b)).toInt64 &&& 63))), (), rfl, (by unfold acr; rw [if_neg (by omega)]; rfl), trivial⟩, hS.F ht⟩) hS.2.2 dX1_acrossBit_56
  · refine lv_aload_n hx hb dX1_acrossBit_6 rfl (lv_at hl 0 rfl) ?_
    refine lv_iload_n hx hb dX1_acrossBit_7 rfl (lv_at hl 1 rfl) ?_
    refine lv_iconst (v := nI 1) hx hb dX1_acrossBit_8 (by decide) ?_
    refine lv_iload_n hx hb dX1_acrossBit_9 rfl (lv_at hl 2 rfl) ?_
    refine lv_bipush (v := nI 6) hx hb dX1_acrossBit_10 (by decide) ?_
    refine xa_isub hx hb (by omega) dX1_acrossBit_12 ?_
    refine xa_ishl1 hx hb (by omega) dX1_acrossBit_13 ?_
    refine xa_ixor hx hb dX1_acrossBit_14 ?_
    have hxw := xw_lt (N := N) hw hbN c_3
    refine xa_lald hx hb hK hP 0 0 rfl rfl (w := w ^^^ (2 ^ (b - 6))) (by omega) (by omega) dX1_acrossBit_15 ?_
    exact W.lret (v := (f (w ^^^ (2 ^ (b - 6))))) hx hb hr (fun t ht hW => ⟨⟨(f (w ^^^ (2 ^ (b - 6)))), (), rfl, (by unfold acr; rw [if_pos c_3]), trivial⟩, hS.F ht⟩) hS.2.2 dX1_acrossBit_16
end
section
set_option maxHeartbeats 4000000 in
set_option maxRecDepth 100000 in
/-- fillI -/
theorem c_fillI (l : Launch) (D : va_G) (sz : Nat) (a : Nat) (cI : ClassId) (n : Nat) (f : Nat → Int32) (v : Int32) (hn : n < 2 ^ 31) : Met l yJ7_fill_53178 wsJ7_fill_53178 ({ frames := 0, cells := 0, slots := 0, locals := 0 } : Room) (va_Pc [.ref a, .int v] (wp0 D [(a, .inl (cI, n, .inl f))] [(cI, .int)] (fun q : Nat => q = a) sz)) (va_Qv (fun (u : Nat → Int32) => ∀ j, j < n → u j = v) (fun (u : Nat → Int32) t => va_P D vwCl [(a, .inl (cI, n, .inl u))] t.heap) (fun q : Nat => q = a)) 0 0 (fun q : Nat => q = a) := by
  refine Met.ofW (cc := cJ7_fill_53178) (maxL := 4) (ret := none) (by decide) rfl ?_
  intro p e s m args below meth c s₁ B hml hv
  obtain ⟨rfl, hsz, hP, hK, htb⟩ := hv
  have hx := B.exec
  have hb := B.bytes
  have hr := B.returns
  have hts := atoms_spec (ws := wsJ7_fill_53178) B.pre
  have hown : s.vm.findClass RJ7 = some m.cls := findClass_of_methodNamed B.named
  have hlocks := B.notSynchronized
  subst hsz
  generalize hAe : (fun q : Nat => q = a) = A at htb ⊢
  obtain ⟨⟨tt, hZ, hT⟩, hNst⟩ := id htb
  have hS : va_S A s.heap s.heap [] := va_S.rf
  have hl := lv_entry ([.ref a, .int v]) (n := 4) (Nat.le_of_ble_eq_true rfl)
  rw [lg_entry_eq]
  generalize (lg_sl ([.ref a, .int v]) ++ List.replicate (4 - (lg_sl ([.ref a, .int v])).length) Slot.unset).toArray = ls at hl ⊢
  have hl : lv_has ls 4 [(0, .ref a), (1, .int v)] := hl
  have hAa : A a := by rw [← hAe]
  refine lv_iconst (v := nI 0) hx hb dJ7_fill_53178_0 (by decide) ?_
  refine lv_istore_n (lv' := [(2, .int (nI 0)), (0, .ref a), (1, .int v)]) hx hb dJ7_fill_53178_1 rfl hl (by decide) rfl (fun ls hl => ?_)
  refine lv_aload_n hx hb dJ7_fill_53178_2 rfl (lv_at hl 1 rfl) ?_
  refine va_alen hx hb hK hP 0 0 rfl rfl (v := nI n) rfl dJ7_fill_53178_3 ?_
  refine lv_istore_n (lv' := [(3, .int (nI n)), (2, .int (nI 0)), (0, .ref a), (1, .int v)]) hx hb dJ7_fill_53178_4 rfl hl (by decide) rfl (fun ls hl => ?_)
  have lp_5 : ∀ (n9 w : Nat) (f2 : Nat → Int32) (H : Heap) (locs : List Loc) (ls : Array Slot), w ≤ n → n + 1 ≤ w + n9 → (∀ j, j < w → f2 j = v) → va_P D vwCl ([(a, .inl (cI, n, .inl f2))]) H → va_S A s.heap H locs → lv_has ls 4 [(0, .ref a), (1, .int v), (2, .int (nI w)), (3, .int (nI n))] → W p l e (headSpec wsJ7_fill_53178 ({ frames := 0, cells := 0, slots := 0, locals := 0 } : Room)).room s m ([.ref a, .int v] : List Value).toArray below meth c H locs 0 0 (MQ below (va_Qv (fun (u : Nat → Int32) => ∀ j, j < n → u j = v) (fun (u : Nat → Int32) t => va_P D vwCl [(a, .inl (cI, n, .inl u))] t.heap) A) ([.ref a, .int v] : List Value).toArray s 0 0 A) (F0 m 5 ls []) := by
    intro n9
    induction n9 with
    | zero => intro w f2 H locs ls h1 h2; exact absurd h2 (by omega)
    | succ n9 ih =>
      intro w f2 H locs ls hle_5 hmm_5 hI hP hS hl
      have ih_5 := @ih
      refine lv_iload_n hx hb dJ7_fill_53178_5 rfl (lv_at hl 2 rfl) ?_
      refine lv_iload_n hx hb dJ7_fill_53178_6 rfl (lv_at hl 3 rfl) ?_
      refine xa_ge (tgt := 20) hx hb (by omega) (by omega) dJ7_fill_53178_7 (by decide) (fun c_7 => ?_) (fun c_7 => ?_)
      · exact W.vret hx hb hr (fun t ht hW => ⟨⟨f2, rfl, (fun j hj => hI j (by omega)), (by show va_P _ _ _ _; rw [ht]; exact hP)⟩, hS.F ht⟩) hS.2.2 dJ7_fill_53178_20
      · refine lv_aload_n hx hb dJ7_fill_53178_10 rfl (lv_at hl 0 rfl) ?_
        refine lv_iload_n hx hb dJ7_fill_53178_11 rfl (lv_at hl 2 rfl) ?_
        refine lv_iload_n hx hb dJ7_fill_53178_12 rfl (lv_at hl 1 rfl) ?_
        refine xa_iast hx hb hK hP (one_D hAa) hS 0 0 rfl rfl (w := w) (by omega) (by omega) dJ7_fill_53178_13 (fun H locs hP _ hS => ?_)
        have hP : va_P D vwCl ([(a, .inl (cI, n, .inl (upd f2 w v)))]) H := hP
        refine xa_inc (k := 2) (lv' := [(2, .int (nI (w + 1))), (0, .ref a), (1, .int v), (3, .int (nI n))]) hx hb dJ7_fill_53178_14 hl rfl (by decide) rfl (fun ls hl => ?_)
        refine lv_goto (tgt := 5) hx hb dJ7_fill_53178_17 (by decide) ?_
        exact ih_5 (w + 1) (upd f2 w v) _ _ _ (by omega) (by omega) (fun j hj => by by_cases hjw : j = w; (subst hjw; rw [pk_us]); (rw [pk_un hjw]; exact hI j (by omega))) hP hS (lv_sub hl [1, 2, 0, 3] rfl)
  exact lp_5 (n + 1 - 0) 0 f _ _ _ (by omega) (by omega) (fun j hj => absurd hj (by omega)) hP hS (lv_sub hl [2, 3, 1, 0] rfl)

set_option maxHeartbeats 4000000 in
set_option maxRecDepth 100000 in
/-- fillL -/
theorem c_fillL (l : Launch) (D : va_G) (sz : Nat) (a : Nat) (cJ : ClassId) (n : Nat) (f : Nat → Int64) (v : Int64) (hn : n < 2 ^ 31) : Met l yJ7_fill_d0a16 wsJ7_fill_d0a16 ({ frames := 0, cells := 0, slots := 0, locals := 0 } : Room) (va_Pc [.ref a, .long v] (wp0 D [(a, .inl (cJ, n, .inr (.inl f)))] [(cJ, .long)] (fun q : Nat => q = a) sz)) (va_Qv (fun (u : Nat → Int64) => ∀ j, j < n → u j = v) (fun (u : Nat → Int64) t => va_P D vwCl [(a, .inl (cJ, n, .inr (.inl u)))] t.heap) (fun q : Nat => q = a)) 0 0 (fun q : Nat => q = a) := by
  refine Met.ofW (cc := cJ7_fill_d0a16) (maxL := 5) (ret := none) (by decide) rfl ?_
  intro p e s m args below meth c s₁ B hml hv
  obtain ⟨rfl, hsz, hP, hK, htb⟩ := hv
  have hx := B.exec
  have hb := B.bytes
  have hr := B.returns
  have hts := atoms_spec (ws := wsJ7_fill_d0a16) B.pre
  have hown : s.vm.findClass RJ7 = some m.cls := findClass_of_methodNamed B.named
  have hlocks := B.notSynchronized
  subst hsz
  generalize hAe : (fun q : Nat => q = a) = A at htb ⊢
  obtain ⟨⟨tt, hZ, hT⟩, hNst⟩ := id htb
  have hS : va_S A s.heap s.heap [] := va_S.rf
  have hl := lv_entry ([.ref a, .long v]) (n := 5) (Nat.le_of_ble_eq_true rfl)
  rw [lg_entry_eq]
  generalize (lg_sl ([.ref a, .long v]) ++ List.replicate (5 - (lg_sl ([.ref a, .long v])).length) Slot.unset).toArray = ls at hl ⊢
  have hl : lv_has ls 5 [(0, .ref a), (1, .long v)] := hl
  have hAa : A a := by rw [← hAe]
  refine lv_iconst (v := nI 0) hx hb dJ7_fill_d0a16_0 (by decide) ?_
  refine lv_istore_n (lv' := [(3, .int (nI 0)), (0, .ref a), (1, .long v)]) hx hb dJ7_fill_d0a16_1 rfl hl (by decide) rfl (fun ls hl => ?_)
  refine lv_aload_n hx hb dJ7_fill_d0a16_2 rfl (lv_at hl 1 rfl) ?_
  refine va_alen hx hb hK hP 0 0 rfl rfl (v := nI n) rfl dJ7_fill_d0a16_3 ?_
  refine lv_istore (lv' := [(4, .int (nI n)), (3, .int (nI 0)), (0, .ref a), (1, .long v)]) hx hb dJ7_fill_d0a16_4 hl (by decide) rfl (fun ls hl => ?_)
  have lp_6 : ∀ (n9 w : Nat) (f2 : Nat → Int64) (H : Heap) (locs : List Loc) (ls : Array Slot), w ≤ n → n + 1 ≤ w + n9 → (∀ j, j < w → f2 j = v) → va_P D vwCl ([(a, .inl (cJ, n, .inr (.inl f2)))]) H → va_S A s.heap H locs → lv_has ls 5 [(0, .ref a), (1, .long v), (3, .int (nI w)), (4, .int (nI n))] → W p l e (headSpec wsJ7_fill_d0a16 ({ frames := 0, cells := 0, slots := 0, locals := 0 } : Room)).room s m ([.ref a, .long v] : List Value).toArray below meth c H locs 0 0 (MQ below (va_Qv (fun (u : Nat → Int64) => ∀ j, j < n → u j = v) (fun (u : Nat → Int64) t => va_P D vwCl [(a, .inl (cJ, n, .inr (.inl u)))] t.heap) A) ([.ref a, .long v] : List Value).toArray s 0 0 A) (F0 m 6 ls []) := by
    intro n9
    induction n9 with
    | zero => intro w f2 H locs ls h1 h2; exact absurd h2 (by omega)
    | succ n9 ih =>
      intro w f2 H locs ls hle_6 hmm_6 hI hP hS hl
      have ih_6 := @ih
      refine lv_iload_n hx hb dJ7_fill_d0a16_6 rfl (lv_at hl 2 rfl) ?_
      refine lv_iload hx hb dJ7_fill_d0a16_7 (lv_at hl 3 rfl) ?_
      refine xa_ge (tgt := 22) hx hb (by omega) (by omega) dJ7_fill_d0a16_9 (by decide) (fun c_9 => ?_) (fun c_9 => ?_)
      · exact W.vret hx hb hr (fun t ht hW => ⟨⟨f2, rfl, (fun j hj => hI j (by omega)), (by show va_P _ _ _ _; rw [ht]; exact hP)⟩, hS.F ht⟩) hS.2.2 dJ7_fill_d0a16_22
      · refine lv_aload_n hx hb dJ7_fill_d0a16_12 rfl (lv_at hl 0 rfl) ?_
        refine lv_iload_n hx hb dJ7_fill_d0a16_13 rfl (lv_at hl 2 rfl) ?_
        refine lv_lload_n hx hb dJ7_fill_d0a16_14 rfl (lv_at hl 1 rfl) ?_
        refine xa_last hx hb hK hP (one_D hAa) hS 0 0 rfl rfl (w := w) (by omega) (by omega) dJ7_fill_d0a16_15 (fun H locs hP _ hS => ?_)
        have hP : va_P D vwCl ([(a, .inl (cJ, n, .inr (.inl (vp_updL f2 w v))))]) H := hP
        refine xa_inc (k := 2) (lv' := [(3, .int (nI (w + 1))), (0, .ref a), (1, .long v), (4, .int (nI n))]) hx hb dJ7_fill_d0a16_16 hl rfl (by decide) rfl (fun ls hl => ?_)
        refine lv_goto (tgt := 6) hx hb dJ7_fill_d0a16_19 (by decide) ?_
        exact ih_6 (w + 1) (vp_updL f2 w v) _ _ _ (by omega) (by omega) (fun j hj => by by_cases hjw : j = w; (subst hjw; rw [pk_uLs]); (rw [pk_uLn hjw]; exact hI j (by omega))) hP hS (lv_sub hl [1, 2, 0, 3] rfl)
  exact lp_6 (n + 1 - 0) 0 f _ _ _ (by omega) (by omega) (fun j hj => absurd hj (by omega)) hP hS (lv_sub hl [2, 3, 1, 0] rfl)

set_option maxHeartbeats 4000000 in
set_option maxRecDepth 100000 in
/-- Long.bitCount -/
theorem c_bitCountN (l : Launch) (D : va_G) (sz : Nat) (X : Nat) (hX : X < 2 ^ 64) : Met l yJ13_bitCount_95d88 wsJ13_bitCount_95d88 ({ frames := 0, cells := 0, slots := 0, locals := 0 } : Room) (va_Pc [.long (lN X)] (wp0 D [] [] (fun _ : Nat => False) sz)) (va_Qi (fun (r : Int32) (_ : Unit) => r = nI (pcn (fun i => X.testBit i) 64)) (fun _ _ => True) (fun _ : Nat => False)) 0 0 (fun _ : Nat => False) := by
  refine Met.ofW (cc := cJ13_bitCount_95d88) (maxL := 2) (ret := (some .int)) (by decide) rfl ?_
  intro p e s m args below meth c s₁ B hml hv
  obtain ⟨rfl, hsz, hP, hK, htb⟩ := hv
  have hx := B.exec
  have hb := B.bytes
  have hr := B.returns
  have hts := atoms_spec (ws := wsJ13_bitCount_95d88) B.pre
  have hown : s.vm.findClass RJ13 = some m.cls := findClass_of_methodNamed B.named
  have hlocks := B.notSynchronized
  subst hsz
  obtain ⟨⟨tt, hZ, hT⟩, hNst⟩ := id htb
  have hS : va_S (fun _ : Nat => False) s.heap s.heap [] := va_S.rf
  have hl := lv_entry ([.long (lN X)]) (n := 2) (Nat.le_of_ble_eq_true rfl)
  rw [lg_entry_eq]
  generalize (lg_sl ([.long (lN X)]) ++ List.replicate (2 - (lg_sl ([.long (lN X)])).length) Slot.unset).toArray = ls at hl ⊢
  have hl : lv_has ls 2 [(0, .long (lN X))] := hl
  refine lv_lload_n hx hb dJ13_bitCount_95d88_0 rfl (lv_at hl 0 rfl) ?_
  refine lv_lload_n hx hb dJ13_bitCount_95d88_1 rfl (lv_at hl 0 rfl) ?_
  refine lv_iconst (v := nI 1) hx hb dJ13_bitCount_95d88_2 (by decide) ?_
  refine lv_lushr (v := ((lN X).toUInt64 >>> ((nI 1).toInt64.toUInt64 &&& Int64.toUInt64 63)).toInt64) hx hb dJ13_bitCount_95d88_3 rfl ?_
  refine lv_ldc2 (v := 6148914691236517205) hx hb hown (hts (.constantLong RJ13 314 6148914691236517205) (by decide +kernel)) dJ13_bitCount_95d88_4 ?_
  refine lv_land hx hb dJ13_bitCount_95d88_7 ?_
  refine lv_lsub hx hb dJ13_bitCount_95d88_8 ?_
  rw [bc_1 hX]
  have h_0 : q1 8 X < 2 ^ 64 := bc_1b hX
  refine lv_lstore_n (lv' := [(0, .long (lN (q1 8 X)))]) hx hb dJ13_bitCount_95d88_9 rfl hl (by decide) rfl (fun ls hl => ?_)
  refine lv_lload_n hx hb dJ13_bitCount_95d88_10 rfl (lv_at hl 0 rfl) ?_
  refine lv_ldc2 (v := 3689348814741910323) hx hb hown (hts (.constantLong RJ13 316 3689348814741910323) (by decide +kernel)) dJ13_bitCount_95d88_11 ?_
  refine lv_land hx hb dJ13_bitCount_95d88_14 ?_
  refine lv_lload_n hx hb dJ13_bitCount_95d88_15 rfl (lv_at hl 0 rfl) ?_
  refine lv_iconst (v := nI 2) hx hb dJ13_bitCount_95d88_16 (by decide) ?_
  refine lv_lushr (v := ((lN (q1 8 X)).toUInt64 >>> ((nI 2).toInt64.toUInt64 &&& Int64.toUInt64 63)).toInt64) hx hb dJ13_bitCount_95d88_17 rfl ?_
  refine lv_ldc2 (v := 3689348814741910323) hx hb hown (hts (.constantLong RJ13 316 3689348814741910323) (by decide +kernel)) dJ13_bitCount_95d88_18 ?_
  refine lv_land hx hb dJ13_bitCount_95d88_21 ?_
  refine lv_ladd hx hb dJ13_bitCount_95d88_22 ?_
  rw [bc_2 h_0]
  have h_1 : q2 8 (q1 8 X) < 2 ^ 64 := bc_2b
  refine lv_lstore_n (lv' := [(0, .long (lN (q2 8 (q1 8 X))))]) hx hb dJ13_bitCount_95d88_23 rfl hl (by decide) rfl (fun ls hl => ?_)
  refine lv_lload_n hx hb dJ13_bitCount_95d88_24 rfl (lv_at hl 0 rfl) ?_
  refine lv_lload_n hx hb dJ13_bitCount_95d88_25 rfl (lv_at hl 0 rfl) ?_
  refine lv_iconst (v := nI 4) hx hb dJ13_bitCount_95d88_26 (by decide) ?_
  refine lv_lushr (v := ((lN (q2 8 (q1 8 X))).toUInt64 >>> ((nI 4).toInt64.toUInt64 &&& Int64.toUInt64 63)).toInt64) hx hb dJ13_bitCount_95d88_27 rfl ?_
  refine lv_ladd hx hb dJ13_bitCount_95d88_28 ?_
  refine lv_ldc2 (v := 1085102592571150095) hx hb hown (hts (.constantLong RJ13 318 1085102592571150095) (by decide +kernel)) dJ13_bitCount_95d88_29 ?_
  refine lv_land hx hb dJ13_bitCount_95d88_32 ?_
  rw [bc_3 h_1]
  rw [show q3 8 (q2 8 (q1 8 X)) = qq 8 X from rfl]
  have h_2 : qq 8 X < 2 ^ 64 := Nat.lt_of_le_of_lt bc_3b (by decide)
  refine lv_lstore_n (lv' := [(0, .long (lN (qq 8 X)))]) hx hb dJ13_bitCount_95d88_33 rfl hl (by decide) rfl (fun ls hl => ?_)
  refine lv_lload_n hx hb dJ13_bitCount_95d88_34 rfl (lv_at hl 0 rfl) ?_
  refine lv_lload_n hx hb dJ13_bitCount_95d88_35 rfl (lv_at hl 0 rfl) ?_
  refine lv_bipush (v := nI 8) hx hb dJ13_bitCount_95d88_36 (by decide) ?_
  refine lv_lushr (v := ((lN (qq 8 X)).toUInt64 >>> ((nI 8).toInt64.toUInt64 &&& Int64.toUInt64 63)).toInt64) hx hb dJ13_bitCount_95d88_38 rfl ?_
  refine lv_ladd hx hb dJ13_bitCount_95d88_39 ?_
  rw [bc_4 h_2]
  have h_3 : qs (qq 8 X) < 2 ^ 64 := (qs_lt X)
  refine lv_lstore_n (lv' := [(0, .long (lN (qs (qq 8 X))))]) hx hb dJ13_bitCount_95d88_40 rfl hl (by decide) rfl (fun ls hl => ?_)
  refine lv_lload_n hx hb dJ13_bitCount_95d88_41 rfl (lv_at hl 0 rfl) ?_
  refine lv_lload_n hx hb dJ13_bitCount_95d88_42 rfl (lv_at hl 0 rfl) ?_
  refine lv_bipush (v := nI 16) hx hb dJ13_bitCount_95d88_43 (by decide) ?_
  refine lv_lushr (v := ((lN (qs (qq 8 X))).toUInt64 >>> ((nI 16).toInt64.toUInt64 &&& Int64.toUInt64 63)).toInt64) hx hb dJ13_bitCount_95d88_45 rfl ?_
  refine lv_ladd hx hb dJ13_bitCount_95d88_46 ?_
  rw [bc_5 h_3]
  have h_4 : qt (qs (qq 8 X)) < 2 ^ 64 := (qt_lt X)
  refine lv_lstore_n (lv' := [(0, .long (lN (qt (qs (qq 8 X)))))]) hx hb dJ13_bitCount_95d88_47 rfl hl (by decide) rfl (fun ls hl => ?_)
  refine lv_lload_n hx hb dJ13_bitCount_95d88_48 rfl (lv_at hl 0 rfl) ?_
  refine lv_lload_n hx hb dJ13_bitCount_95d88_49 rfl (lv_at hl 0 rfl) ?_
  refine lv_bipush (v := nI 32) hx hb dJ13_bitCount_95d88_50 (by decide) ?_
  refine lv_lushr (v := ((lN (qt (qs (qq 8 X)))).toUInt64 >>> ((nI 32).toInt64.toUInt64 &&& Int64.toUInt64 63)).toInt64) hx hb dJ13_bitCount_95d88_52 rfl ?_
  refine lv_ladd hx hb dJ13_bitCount_95d88_53 ?_
  rw [bc_6 h_4]
  have h_5 : qu (qt (qs (qq 8 X))) < 2 ^ 64 := (qu_lt X)
  refine lv_lstore_n (lv' := [(0, .long (lN (qu (qt (qs (qq 8 X))))))]) hx hb dJ13_bitCount_95d88_54 rfl hl (by decide) rfl (fun ls hl => ?_)
  refine lv_lload_n hx hb dJ13_bitCount_95d88_55 rfl (lv_at hl 0 rfl) ?_
  refine lv_l2i (v := (lN (qu (qt (qs (qq 8 X))))).toInt32) hx hb dJ13_bitCount_95d88_56 rfl ?_
  refine lv_bipush (v := nI 127) hx hb dJ13_bitCount_95d88_57 (by decide) ?_
  refine lv_iand hx hb dJ13_bitCount_95d88_59 ?_
  exact W.iret (v := (((lN (qu (qt (qs (qq 8 X))))).toInt32) &&& (nI 127))) hx hb hr (fun t ht hW => ⟨⟨(((lN (qu (qt (qs (qq 8 X))))).toInt32) &&& (nI 127)), (), rfl, (by rw [bc_7, (bc_nat X).1]), trivial⟩, hS.F ht⟩) hS.2.2 dJ13_bitCount_95d88_60

theorem c_bitCount (l : Launch) (D : va_G) (sz : Nat) (x : Int64) : Met l yJ13_bitCount_95d88 wsJ13_bitCount_95d88 ({ frames := 0, cells := 0, slots := 0, locals := 0 } : Room) (va_Pc [.long x] (wp0 D [] [] (fun _ : Nat => False) sz)) (va_Qi (fun (r : Int32) (_ : Unit) => r = nI (pcn (lb x) 64)) (fun _ _ => True) (fun _ : Nat => False)) 0 0 (fun _ : Nat => False) := by
  obtain ⟨X, hX, rfl⟩ := yb_of x
  have h := c_bitCountN l D sz X hX
  rw [bc_8 (x := lN X) rfl] at h
  exact h
end
section
set_option maxHeartbeats 4000000 in
set_option maxRecDepth 100000 in
/-- spread -/
theorem c_spread (l : Launch) (D : va_G) (sz : Nat) (N : Nat) (hN : N ≤ 12) (ad : Nat → Nat) (a : Nat) (hne : ad 0 ≠ a) (cJ : ClassId) (f : Nat → Int64) (b : Nat) (hbN : b < N) : Met l yX1_spread wsX1_spread ({ frames := 1, cells := 0, slots := 0, locals := 27 } : Room) (va_Pc [.ref (ad 0), .ref a, .int (nI b)] (wp0 D [(ad 0, .inr (1, dkF N ad)), (a, .inl (cJ, nw N, .inr (.inl f)))] [(cJ, .long)] (fun q : Nat => q = a) sz)) (va_Qv (fun (u : Nat → Int64) => u = spr b f (nw N)) (fun (u : Nat → Int64) t => va_P D vwCl [(a, .inl (cJ, nw N, .inr (.inl u)))] t.heap) (fun q : Nat => q = a)) 0 0 (fun q : Nat => q = a) := by
  refine Met.ofW (cc := cX1_spread) (maxL := 4) (ret := none) (by decide) rfl ?_
  intro p e s m args below meth c s₁ B hml hv
  obtain ⟨rfl, hsz, hP, hK, htb⟩ := hv
  have hx := B.exec
  have hb := B.bytes
  have hr := B.returns
  have hts := atoms_spec (ws := wsX1_spread) B.pre
  have hown : s.vm.findClass RX1 = some m.cls := findClass_of_methodNamed B.named
  have hlocks := B.notSynchronized
  subst hsz
  generalize hAe : (fun q : Nat => q = a) = A at htb ⊢
  obtain ⟨⟨tt, hZ, hT⟩, hNst⟩ := id htb
  have hS : va_S A s.heap s.heap [] := va_S.rf
  have hl := lv_entry ([.ref (ad 0), .ref a, .int (nI b)]) (n := 4) (Nat.le_of_ble_eq_true rfl)
  rw [lg_entry_eq]
  generalize (lg_sl ([.ref (ad 0), .ref a, .int (nI b)]) ++ List.replicate (4 - (lg_sl ([.ref (ad 0), .ref a, .int (nI b)])).length) Slot.unset).toArray = ls at hl ⊢
  have hl : lv_has ls 4 [(0, .ref (ad 0)), (1, .ref a), (2, .int (nI b))] := hl
  have hAa : A a := by rw [← hAe]
  have hA0 : ¬ A (ad 0) := by rw [← hAe]; exact hne
  have hO : ∀ {H : Heap} {locs : List Loc}, va_S A s.heap H locs → va_P D vwCl [(ad 0, .inr (1, dkF N ad))] H := fun hS => ro_kept (va_one hP 0 rfl) hA0 hS
  have hP := va_one hP 1 rfl
  have hnw := nw_le hN
  refine lv_iconst (v := nI 0) hx hb dX1_spread_0 (by decide) ?_
  refine lv_istore_n (lv' := [(3, .int (nI 0)), (0, .ref (ad 0)), (1, .ref a), (2, .int (nI b))]) hx hb dX1_spread_1 rfl hl (by decide) rfl (fun ls hl => ?_)
  have lp_2 : ∀ (n9 w : Nat) (f2 : Nat → Int64) (H : Heap) (locs : List Loc) (ls : Array Slot), w ≤ nw N → nw N + 1 ≤ w + n9 → f2 = spr b f w → va_P D vwCl ([(a, .inl (cJ, nw N, .inr (.inl f2)))]) H → va_S A s.heap H locs → lv_has ls 4 [(0, .ref (ad 0)), (1, .ref a), (2, .int (nI b)), (3, .int (nI w))] → W p l e (headSpec wsX1_spread ({ frames := 1, cells := 0, slots := 0, locals := 27 } : Room)).room s m ([.ref (ad 0), .ref a, .int (nI b)] : List Value).toArray below meth c H locs 0 0 (MQ below (va_Qv (fun (u : Nat → Int64) => u = spr b f (nw N)) (fun (u : Nat → Int64) t => va_P D vwCl [(a, .inl (cJ, nw N, .inr (.inl u)))] t.heap) A) ([.ref (ad 0), .ref a, .int (nI b)] : List Value).toArray s 0 0 A) (F0 m 2 ls []) := by
    intro n9
    induction n9 with
    | zero => intro w f2 H locs ls h1 h2; exact absurd h2 (by omega)
    | succ n9 ih =>
      intro w f2 H locs ls hle_2 hmm_2 hI hP hS hl
      have ih_2 := @ih
      refine lv_iload_n hx hb dX1_spread_2 rfl (lv_at hl 3 rfl) ?_
      refine lv_aload_n hx hb dX1_spread_3 rfl (lv_at hl 0 rfl) ?_
      refine va_get (D := D) (ci := 1) (C := RX1) (T := TX1) (N := 10) hx hb hts (by decide +kernel) hown hK (hO hS) 0 rfl rfl 2 (by decide) (hts (.fieldLink RX1 25 "ForkDesk" "words" "I") (by decide +kernel)) (fun _ h9 => h9) rfl dX1_spread_4 ?_
      refine xa_ge (tgt := 28) hx hb (by omega) (by omega) dX1_spread_7 (by decide) (fun c_7 => ?_) (fun c_7 => ?_)
      · exact W.vret hx hb hr (fun t ht hW => ⟨⟨f2, rfl, (by rw [hI, show w = nw N by omega]), (by show va_P _ _ _ _; rw [ht]; exact hP)⟩, hS.F ht⟩) hS.2.2 dX1_spread_28
      · refine lv_aload_n hx hb dX1_spread_10 rfl (lv_at hl 1 rfl) ?_
        refine lv_iload_n hx hb dX1_spread_11 rfl (lv_at hl 3 rfl) ?_
        refine lv_dup2_11 hx hb dX1_spread_12 rfl rfl ?_
        refine xa_lald hx hb hK hP 0 0 rfl rfl (w := w) (by omega) (by omega) dX1_spread_13 ?_
        refine lv_aload_n hx hb dX1_spread_14 rfl (lv_at hl 1 rfl) ?_
        refine lv_iload_n hx hb dX1_spread_15 rfl (lv_at hl 3 rfl) ?_
        refine lv_iload_n hx hb dX1_spread_16 rfl (lv_at hl 2 rfl) ?_
        refine va_calll (va_runS (As := [.ref a, .int (nI w), .int (nI b)]) (rest := [.long (f2 w), .int (nI w), .ref a]) ⟨hx, hb, hml, hown, hts⟩ (c_acrossBit l D _ N a cJ f2 w b hN (by omega) hbN) (va_cwS 3 hts gX1_spread_X1_acrossBit rfl rfl rfl (by decide +kernel) ⟨Nat.le_of_ble_eq_true rfl, Nat.le_of_ble_eq_true rfl⟩) ⟨wp0_blind, fun U hU hW => wp0_of hP hK htb hS no_in hU hW⟩ rfl rfl hl.1 rfl (lv_room (Nat.le_of_ble_eq_true rfl)) dX1_spread_17 ⟨Nat.zero_le _, Nat.zero_le _⟩) hS (fun q _ h => h.elim) (fun q h => h.elim) (fun r_17 u_17 t H1 locs ht hvm hw hB hz1 hk1 hS => ?_)
        have hP := xa_same hP hk1
        clear hz1 hk1 hB ht
        generalize H1 = H at hP hS ⊢
        subst hw
        refine lv_lor hx hb dX1_spread_20 ?_
        refine xa_last hx hb hK hP (one_D hAa) hS 0 0 rfl rfl (w := w) (by omega) (by omega) dX1_spread_21 (fun H locs hP _ hS => ?_)
        have hP : va_P D vwCl ([(a, .inl (cJ, nw N, .inr (.inl (vp_updL f2 w ((f2 w) ||| (acr f2 w b))))))]) H := hP
        refine xa_inc (k := 3) (lv' := [(3, .int (nI (w + 1))), (0, .ref (ad 0)), (1, .ref a), (2, .int (nI b))]) hx hb dX1_spread_22 hl rfl (by decide) rfl (fun ls hl => ?_)
        refine lv_goto (tgt := 2) hx hb dX1_spread_25 (by decide) ?_
        exact ih_2 (w + 1) (vp_updL f2 w ((f2 w) ||| (acr f2 w b))) _ _ _ (by omega) (by omega) (by subst hI; rfl) hP hS (lv_sub hl [1, 2, 3, 0] rfl)
  exact lp_2 (nw N + 1 - 0) 0 f _ _ _ (by omega) (by omega) rfl hP hS (lv_sub hl [1, 2, 3, 0] rfl)

set_option maxHeartbeats 4000000 in
set_option maxRecDepth 100000 in
/-- keepDraft -/
theorem c_keepDraft (l : Launch) (D : va_G) (sz : Nat) (N : Nat) (hN1 : 1 ≤ N) (hN : N ≤ 12) (ad : Nat → Nat) (hao : aok (fun _ => True) ad) (cJJ cJ cI : ClassId) (dr re : Nat → Int64) (tu kd uh bf la : Nat → Int32) (G : Nat → Nat → Int64) (j : Nat) (hj : j < 32) : Met l yX1_keepDraft wsX1_keepDraft ({ frames := 1, cells := 0, slots := 0, locals := 40 } : Room) (va_Pc [.ref (ad 0), .int (nI j)] (wp0 D (dkW N ad cJJ cJ cI dr re tu kd uh bf la G) (dkT cJJ cJ cI) (fr ad sz) sz)) (va_Qv (fun (u : Nat → Int64) => ∀ x, x < nw N → u x = dr x) (fun (u : Nat → Int64) t => va_P D vwCl (dkW N ad cJJ cJ cI dr re tu kd uh bf la (va_up G j u)) t.heap) (fr ad sz)) 0 0 (fr ad sz) := by
  refine Met.ofW (cc := cX1_keepDraft) (maxL := 2) (ret := none) (by decide) rfl ?_
  intro p e s m args below meth c s₁ B hml hv
  obtain ⟨rfl, hsz, hP, hK, htb⟩ := hv
  have hx := B.exec
  have hb := B.bytes
  have hr := B.returns
  have hts := atoms_spec (ws := wsX1_keepDraft) B.pre
  have hown : s.vm.findClass RX1 = some m.cls := findClass_of_methodNamed B.named
  have hlocks := B.notSynchronized
  subst hsz
  generalize hAe : fr ad s.heap.size = A at htb ⊢
  have hA : ∀ q : Nat, s.heap.size ≤ q → A q := fun q h => by rw [← hAe]; exact fr_new q h
  have hao : aok A ad := by rw [← hAe]; exact aok_fr hao
  obtain ⟨⟨tt, hZ, hT⟩, hNst⟩ := id htb
  have hS : va_S A s.heap s.heap [] := va_S.rf
  have hl := lv_entry ([.ref (ad 0), .int (nI j)]) (n := 2) (Nat.le_of_ble_eq_true rfl)
  rw [lg_entry_eq]
  generalize (lg_sl ([.ref (ad 0), .int (nI j)]) ++ List.replicate (2 - (lg_sl ([.ref (ad 0), .int (nI j)])).length) Slot.unset).toArray = ls at hl ⊢
  have hl : lv_has ls 2 [(0, .ref (ad 0)), (1, .int (nI j))] := hl
  have hnw := nw_le hN
  have hnwp := nw_pos N
  have hpw := pw_le N
  have hpwp := pw_pos N
  have hnp := np_le hN
  refine lv_aload_n hx hb dX1_keepDraft_0 rfl (lv_at hl 0 rfl) ?_
  refine va_get (D := D) (ci := 1) (C := RX1) (T := TX1) (N := 10) hx hb hts (by decide +kernel) hown hK hP 0 rfl rfl 6 (by decide) (hts (.fieldLink RX1 42 "ForkDesk" "draft" "[J") (by decide +kernel)) (fun _ h9 => h9) rfl dX1_keepDraft_1 ?_
  refine lv_iconst (v := nI 0) hx hb dX1_keepDraft_4 (by decide) ?_
  refine lv_aload_n hx hb dX1_keepDraft_5 rfl (lv_at hl 0 rfl) ?_
  refine va_get (D := D) (ci := 1) (C := RX1) (T := TX1) (N := 10) hx hb hts (by decide +kernel) hown hK hP 0 rfl rfl 5 (by decide) (hts (.fieldLink RX1 39 "ForkDesk" "registers" "[[J") (by decide +kernel)) (fun _ h9 => h9) rfl dX1_keepDraft_6 ?_
  refine lv_iload_n hx hb dX1_keepDraft_9 rfl (lv_at hl 1 rfl) ?_
  refine xa_aald hx hb hK hP 1 0 rfl rfl (w := j) (y := ad (10 + j)) (by omega) (by decide) rfl dX1_keepDraft_10 ?_
  refine lv_iconst (v := nI 0) hx hb dX1_keepDraft_11 (by decide) ?_
  refine lv_aload_n hx hb dX1_keepDraft_12 rfl (lv_at hl 0 rfl) ?_
  refine va_get (D := D) (ci := 1) (C := RX1) (T := TX1) (N := 10) hx hb hts (by decide +kernel) hown hK hP 0 rfl rfl 2 (by decide) (hts (.fieldLink RX1 25 "ForkDesk" "words" "I") (by decide +kernel)) (fun _ h9 => h9) rfl dX1_keepDraft_13 ?_
  refine va_copyl hx hb (by rw [hml]; exact hl.1.symm) hown (hts (.methodLink RX1 101 arraycopyName) (by decide +kernel)) (hts (.native arraycopyName) (by decide +kernel)) (hts (.static arraycopyName) (by decide +kernel)) (hts (.initialized "java/lang/System") (by decide +kernel)) hK hP (dk_D hao) hS 2 (10 + j) 1 1 rfl (dk_row hj) rfl rfl rfl (nI_pos (by omega)) (nI_pos (by omega)) (nI_pos (by omega)) (by rw [nI_clamp (by omega), nI_clamp (by omega)]; omega) (by rw [nI_clamp (by omega), nI_clamp (by omega)]; omega) (fun _ _ => rfl) (Nat.le_of_ble_eq_true rfl) (Nat.le_of_ble_eq_true rfl) dX1_keepDraft_16 (fun H locs hP _ hS => ?_)
  rw [dk_set _ hj, nI_clamp (by omega), nI_clamp (by omega)] at hP
  exact W.vret hx hb hr (fun t ht hW => ⟨⟨va_cpy dr (G j) 0 0 (nw N), rfl, (fun x hx => sb_cpyL hx), (by show va_P _ _ _ _; rw [ht]; exact hP)⟩, hS.F ht⟩) hS.2.2 dX1_keepDraft_19
end
section
set_option maxHeartbeats 4000000 in
set_option maxRecDepth 100000 in
/-- variable -/
theorem c_variable (l : Launch) (D : va_G) (sz : Nat) (N : Nat) (hN1 : 1 ≤ N) (hN : N ≤ 12) (ad : Nat → Nat) (hao : aok (fun _ => True) ad) (cJJ cJ cI : ClassId) (dr re : Nat → Int64) (tu kd uh bf la : Nat → Int32) (G : Nat → Nat → Int64) (g : Nat → Nat → Bool) (hg : okG N G g) (k v : Int32) : Met l yX1_variable wsX1_variable ({ frames := 1, cells := 0, slots := 0, locals := 22 } : Room) (va_Pc [.ref (ad 0), .int k, .int v] (wp0 D (dkW N ad cJJ cJ cI dr re tu kd uh bf la G) (dkT cJJ cJ cI) (fr ad sz) sz)) (va_Qi (fun (r : Int32) (u : dkS) => r = nI (spV N g k v).isSome.toNat ∧ okG N (dkR u) ((spV N g k v).getD g)) (fun (u : dkS) t => va_P D vwCl (dkU N ad cJJ cJ cI u) t.heap) (fr ad sz)) 0 0 (fr ad sz) := by
  refine Met.ofW (cc := cX1_variable) (maxL := 5) (ret := (some .boolean)) (by decide) rfl ?_
  intro p e s m args below meth c s₁ B hml hv
  obtain ⟨rfl, hsz, hP, hK, htb⟩ := hv
  have hx := B.exec
  have hb := B.bytes
  have hr := B.returns
  have hts := atoms_spec (ws := wsX1_variable) B.pre
  have hown : s.vm.findClass RX1 = some m.cls := findClass_of_methodNamed B.named
  have hlocks := B.notSynchronized
  subst hsz
  generalize hAe : fr ad s.heap.size = A at htb ⊢
  have hA : ∀ q : Nat, s.heap.size ≤ q → A q := fun q h => by rw [← hAe]; exact fr_new q h
  have hao : aok A ad := by rw [← hAe]; exact aok_fr hao
  obtain ⟨⟨tt, hZ, hT⟩, hNst⟩ := id htb
  have hS : va_S A s.heap s.heap [] := va_S.rf
  have hl := lv_entry ([.ref (ad 0), .int k, .int v]) (n := 5) (Nat.le_of_ble_eq_true rfl)
  rw [lg_entry_eq]
  generalize (lg_sl ([.ref (ad 0), .int k, .int v]) ++ List.replicate (5 - (lg_sl ([.ref (ad 0), .int k, .int v])).length) Slot.unset).toArray = ls at hl ⊢
  have hl : lv_has ls 5 [(0, .ref (ad 0)), (1, .int k), (2, .int v)] := hl
  have hnw := nw_le hN
  have hnwp := nw_pos N
  have hpw := pw_le N
  have hpwp := pw_pos N
  have hnp := np_le hN
  refine lv_iload_n hx hb dX1_variable_0 rfl (lv_at hl 1 rfl) ?_
  refine va_calli (va_runS (As := [.int k]) (rest := []) ⟨hx, hb, hml, hown, hts⟩ (c_isRegister l D _ k) (va_cwS 1 hts gX1_variable_X1_isRegister rfl rfl rfl (by decide +kernel) ⟨Nat.le_of_ble_eq_true rfl, Nat.le_of_ble_eq_true rfl⟩) ⟨wp0_blind, fun U hU hW => wp0_of (va_P.sub hP [] rfl) (hK.sub [] rfl) htb hS no_in hU hW⟩ rfl rfl hl.1 rfl (lv_room (Nat.le_of_ble_eq_true rfl)) dX1_variable_1 ⟨Nat.zero_le _, Nat.zero_le _⟩) hS (fun q _ h => h.elim) (fun q h => h.elim) (fun r_1 u_1 t H1 locs ht hvm hw hB hz1 hk1 hS => ?_)
  have hP := xa_same hP hk1
  clear hz1 hk1 hB ht
  generalize H1 = H at hP hS ⊢
  subst hw
  refine xa_if0 (tgt := 15) hx hb dX1_variable_4 (by decide) (fun c_4 => ?_) (fun c_4 => ?_)
  · refine lv_iconst (v := nI 0) hx hb dX1_variable_15 (by decide) ?_
    exact W.zret (v := (nI 0)) hx hb hr (by decide) (fun t ht hW => ⟨⟨(nI 0), (dr, re, tu, kd, uh, bf, la, G), rfl, ⟨by rw [(show spV N g k v = none from if_neg (by simp [c_4]))]; rfl, by rw [(show spV N g k v = none from if_neg (by simp [c_4]))]; exact hg⟩, (by show va_P _ _ _ _; rw [ht]; exact hP)⟩, hS.F ht⟩) hS.2.2 dX1_variable_16
  · refine lv_aload_n hx hb dX1_variable_7 rfl (lv_at hl 0 rfl) ?_
    refine lv_iload_n hx hb dX1_variable_8 rfl (lv_at hl 2 rfl) ?_
    refine va_calli (va_runV (As := [.int v]) (rest := []) ⟨hx, hb, hml, hown, hts⟩ (c_isVariable l D _ N ad v) (cwV 1 hts gX1_variable_X1_isVariable rfl rfl rfl (by decide +kernel) ⟨Nat.le_of_ble_eq_true rfl, Nat.le_of_ble_eq_true rfl⟩) ⟨wp0_blind, va_recv hK hP (ci := 1) (q0 := 0) rfl rfl, fun U hU hW => wp0_of (va_one hP 0 rfl) (hK.sub [] rfl) htb hS no_in hU hW⟩ rfl rfl hl.1 rfl (lv_room (Nat.le_of_ble_eq_true rfl)) dX1_variable_9 ⟨Nat.zero_le _, Nat.zero_le _⟩) hS (fun q _ h => h.elim) (fun q h => h.elim) (fun r_9 u_9 t H1 locs ht hvm hw hB hz1 hk1 hS => ?_)
    have hP := xa_same hP hk1
    clear hz1 hk1 hB ht
    generalize H1 = H at hP hS ⊢
    subst hw
    refine xa_if1 (tgt := 17) hx hb dX1_variable_12 (by decide) (fun c_12 => ?_) (fun c_12 => ?_)
    · obtain ⟨j, hj, ej⟩ := isR_t c_4
      rw [ej] at hl
      obtain ⟨i, hi1, hi, ei⟩ := isV_t hN c_12
      rw [ei] at hl
      have hsp : spV N g k v = some (va_up g j (fun p => p.testBit (N - i) && decide (p < 2 ^ N))) := by unfold spV; rw [if_pos (by rw [c_4, c_12]; rfl), ej, ei, ix_nI (by omega), ix_nI (by omega)]
      refine lv_aload_n hx hb dX1_variable_17 rfl (lv_at hl 0 rfl) ?_
      refine lv_iload_n hx hb dX1_variable_18 rfl (lv_at hl 2 rfl) ?_
      refine va_calli (va_runV (As := [.int (nI i)]) (rest := []) ⟨hx, hb, hml, hown, hts⟩ (c_bitOf l D _ N ad i (by omega)) (cwV 1 hts gX1_variable_X1_bitOf rfl rfl rfl (by decide +kernel) ⟨Nat.le_of_ble_eq_true rfl, Nat.le_of_ble_eq_true rfl⟩) ⟨wp0_blind, va_recv hK hP (ci := 1) (q0 := 0) rfl rfl, fun U hU hW => wp0_of (va_one hP 0 rfl) (hK.sub [] rfl) htb hS no_in hU hW⟩ rfl rfl hl.1 rfl (lv_room (Nat.le_of_ble_eq_true rfl)) dX1_variable_19 ⟨Nat.zero_le _, Nat.zero_le _⟩) hS (fun q _ h => h.elim) (fun q h => h.elim) (fun r_19 u_19 t H1 locs ht hvm hw hB hz1 hk1 hS => ?_)
      have hP := xa_same hP hk1
      clear hz1 hk1 hB ht
      generalize H1 = H at hP hS ⊢
      subst hw
      refine lv_istore_n (lv' := [(3, .int (nI (N - i))), (0, .ref (ad 0)), (1, .int (nI j)), (2, .int (nI i))]) hx hb dX1_variable_22 rfl hl (by decide) rfl (fun ls hl => ?_)
      refine lv_iconst (v := nI 0) hx hb dX1_variable_23 (by decide) ?_
      refine lv_istore (lv' := [(4, .int (nI 0)), (3, .int (nI (N - i))), (0, .ref (ad 0)), (1, .int (nI j)), (2, .int (nI i))]) hx hb dX1_variable_24 hl (by decide) rfl (fun ls hl => ?_)
      have lp_26 : ∀ (n9 w : Nat) (G2 : Nat → Nat → Int64) (H : Heap) (locs : List Loc) (ls : Array Slot), w ≤ nw N → nw N + 1 ≤ w + n9 → (∃ r, G2 = va_up G j r ∧ ∀ x, x < w → r x = pwN N x (N - i)) → va_P D vwCl (dkW N ad cJJ cJ cI dr re tu kd uh bf la G2) H → va_S A s.heap H locs → lv_has ls 5 [(0, .ref (ad 0)), (1, .int (nI j)), (2, .int (nI i)), (3, .int (nI (N - i))), (4, .int (nI w))] → W p l e (headSpec wsX1_variable ({ frames := 1, cells := 0, slots := 0, locals := 22 } : Room)).room s m ([.ref (ad 0), .int k, .int v] : List Value).toArray below meth c H locs 0 0 (MQ below (va_Qi (fun (r : Int32) (u : dkS) => r = nI (spV N g k v).isSome.toNat ∧ okG N (dkR u) ((spV N g k v).getD g)) (fun (u : dkS) t => va_P D vwCl (dkU N ad cJJ cJ cI u) t.heap) A) ([.ref (ad 0), .int k, .int v] : List Value).toArray s 0 0 A) (F0 m 26 ls []) := by
        intro n9
        induction n9 with
        | zero => intro w G2 H locs ls h1 h2; exact absurd h2 (by omega)
        | succ n9 ih =>
          intro w G2 H locs ls hle_26 hmm_26 hI hP hS hl
          have ih_26 := @ih
          refine lv_iload hx hb dX1_variable_26 (lv_at hl 4 rfl) ?_
          refine lv_aload_n hx hb dX1_variable_28 rfl (lv_at hl 0 rfl) ?_
          refine va_get (D := D) (ci := 1) (C := RX1) (T := TX1) (N := 10) hx hb hts (by decide +kernel) hown hK hP 0 rfl rfl 2 (by decide) (hts (.fieldLink RX1 25 "ForkDesk" "words" "I") (by decide +kernel)) (fun _ h9 => h9) rfl dX1_variable_29 ?_
          refine xa_ge (tgt := 57) hx hb (by omega) (by omega) dX1_variable_32 (by decide) (fun c_32 => ?_) (fun c_32 => ?_)
          · refine lv_iconst (v := nI 1) hx hb dX1_variable_57 (by decide) ?_
            exact W.zret (v := (nI 1)) hx hb hr (by decide) (fun t ht hW => ⟨⟨(nI 1), (dr, re, tu, kd, uh, bf, la, G2), rfl, ⟨by rw [hsp]; rfl, by rw [hsp]; exact (by obtain ⟨r, h1, h2⟩ := hI; subst h1; exact okG_up hg (rp_var (fun x hx => h2 x (by omega))) (dm_lt N _))⟩, (by show va_P _ _ _ _; rw [ht]; exact hP)⟩, hS.F ht⟩) hS.2.2 dX1_variable_58
          · refine lv_aload_n hx hb dX1_variable_35 rfl (lv_at hl 0 rfl) ?_
            refine va_get (D := D) (ci := 1) (C := RX1) (T := TX1) (N := 10) hx hb hts (by decide +kernel) hown hK hP 0 rfl rfl 5 (by decide) (hts (.fieldLink RX1 39 "ForkDesk" "registers" "[[J") (by decide +kernel)) (fun _ h9 => h9) rfl dX1_variable_36 ?_
            refine lv_iload_n hx hb dX1_variable_39 rfl (lv_at hl 1 rfl) ?_
            refine xa_aald hx hb hK hP 1 0 rfl rfl (w := j) (y := ad (10 + j)) (by omega) (by decide) rfl dX1_variable_40 ?_
            refine lv_iload hx hb dX1_variable_41 (lv_at hl 4 rfl) ?_
            refine lv_aload_n hx hb dX1_variable_43 rfl (lv_at hl 0 rfl) ?_
            refine lv_iload hx hb dX1_variable_44 (lv_at hl 4 rfl) ?_
            refine lv_iload_n hx hb dX1_variable_46 rfl (lv_at hl 3 rfl) ?_
            refine va_calll (va_runV (As := [.int (nI w), .int (nI (N - i))]) (rest := [.int (nI w), .ref (ad (10 + j))]) ⟨hx, hb, hml, hown, hts⟩ (c_pointsWithBit l D _ N ad w (N - i) (by omega) (by omega)) (cwV 2 hts gX1_variable_X1_pointsWithBit rfl rfl rfl (by decide +kernel) ⟨Nat.le_of_ble_eq_true rfl, Nat.le_of_ble_eq_true rfl⟩) ⟨wp0_blind, va_recv hK hP (ci := 1) (q0 := 0) rfl rfl, fun U hU hW => wp0_of (va_one hP 0 rfl) (hK.sub [] rfl) htb hS no_in hU hW⟩ rfl rfl hl.1 rfl (lv_room (Nat.le_of_ble_eq_true rfl)) dX1_variable_47 ⟨Nat.zero_le _, Nat.zero_le _⟩) hS (fun q _ h => h.elim) (fun q h => h.elim) (fun r_47 u_47 t H1 locs ht hvm hw hB hz1 hk1 hS => ?_)
            have hP := xa_same hP hk1
            clear hz1 hk1 hB ht
            generalize H1 = H at hP hS ⊢
            subst hw
            refine xa_last hx hb hK hP (dk_D hao) hS (10 + j) 1 (dk_row (by omega)) rfl (w := w) (by omega) (by omega) dX1_variable_50 (fun H locs hP _ hS => ?_)
            rw [dk_set _ (by omega)] at hP
            refine xa_inc (k := 4) (lv' := [(4, .int (nI (w + 1))), (0, .ref (ad 0)), (1, .int (nI j)), (2, .int (nI i)), (3, .int (nI (N - i)))]) hx hb dX1_variable_51 hl rfl (by decide) rfl (fun ls hl => ?_)
            refine lv_goto (tgt := 26) hx hb dX1_variable_54 (by decide) ?_
            exact ih_26 (w + 1) (va_up G2 j (vp_updL (G2 j) w (pwN N w (N - i)))) _ _ _ (by omega) (by omega) (by obtain ⟨r, h1, h2⟩ := hI; subst h1; exact ⟨_, va_upup _ _ _ _, fun x hx => by rw [va_up_self]; by_cases hxw : x = w; (subst hxw; rw [pk_uLs]); (rw [pk_uLn hxw]; exact h2 x (by omega))⟩) hP hS (lv_sub hl [1, 2, 3, 4, 0] rfl)
      exact lp_26 (nw N + 1 - 0) 0 G _ _ _ (by omega) (by omega) ⟨G j, (va_same G j).symm, fun x hx => absurd hx (by omega)⟩ hP hS (lv_sub hl [2, 3, 4, 1, 0] rfl)
    · refine lv_iconst (v := nI 0) hx hb dX1_variable_15 (by decide) ?_
      exact W.zret (v := (nI 0)) hx hb hr (by decide) (fun t ht hW => ⟨⟨(nI 0), (dr, re, tu, kd, uh, bf, la, G), rfl, ⟨by rw [(show spV N g k v = none from if_neg (by simp [c_4, c_12]))]; rfl, by rw [(show spV N g k v = none from if_neg (by simp [c_4, c_12]))]; exact hg⟩, (by show va_P _ _ _ _; rw [ht]; exact hP)⟩, hS.F ht⟩) hS.2.2 dX1_variable_16
end
section
set_option maxHeartbeats 4000000 in
set_option maxRecDepth 100000 in
/-- combine -/
theorem c_combine (l : Launch) (D : va_G) (sz : Nat) (N : Nat) (hN1 : 1 ≤ N) (hN : N ≤ 12) (ad : Nat → Nat) (hao : aok (fun _ => True) ad) (cJJ cJ cI : ClassId) (dr re : Nat → Int64) (tu kd uh bf la : Nat → Int32) (G : Nat → Nat → Int64) (g : Nat → Nat → Bool) (hg : okG N G g) (k op a b : Int32) : Met l yX1_combine wsX1_combine ({ frames := 1, cells := 0, slots := 0, locals := 24 } : Room) (va_Pc [.ref (ad 0), .int k, .int op, .int a, .int b] (wp0 D (dkW N ad cJJ cJ cI dr re tu kd uh bf la G) (dkT cJJ cJ cI) (fr ad sz) sz)) (va_Qi (fun (r : Int32) (u : dkS) => r = nI (spM g k op a b).isSome.toNat ∧ okG N (dkR u) ((spM g k op a b).getD g)) (fun (u : dkS) t => va_P D vwCl (dkU N ad cJJ cJ cI u) t.heap) (fr ad sz)) 0 0 (fr ad sz) := by
  refine Met.ofW (cc := cX1_combine) (maxL := 6) (ret := (some .boolean)) (by decide) rfl ?_
  intro p e s m args below meth c s₁ B hml hv
  obtain ⟨rfl, hsz, hP, hK, htb⟩ := hv
  have hx := B.exec
  have hb := B.bytes
  have hr := B.returns
  have hts := atoms_spec (ws := wsX1_combine) B.pre
  have hown : s.vm.findClass RX1 = some m.cls := findClass_of_methodNamed B.named
  have hlocks := B.notSynchronized
  subst hsz
  generalize hAe : fr ad s.heap.size = A at htb ⊢
  have hA : ∀ q : Nat, s.heap.size ≤ q → A q := fun q h => by rw [← hAe]; exact fr_new q h
  have hao : aok A ad := by rw [← hAe]; exact aok_fr hao
  obtain ⟨⟨tt, hZ, hT⟩, hNst⟩ := id htb
  have hS : va_S A s.heap s.heap [] := va_S.rf
  have hl := lv_entry ([.ref (ad 0), .int k, .int op, .int a, .int b]) (n := 6) (Nat.le_of_ble_eq_true rfl)
  rw [lg_entry_eq]
  generalize (lg_sl ([.ref (ad 0), .int k, .int op, .int a, .int b]) ++ List.replicate (6 - (lg_sl ([.ref (ad 0), .int k, .int op, .int a, .int b])).length) Slot.unset).toArray = ls at hl ⊢
  have hl : lv_has ls 6 [(0, .ref (ad 0)), (1, .int k), (2, .int op), (3, .int a), (4, .int b)] := hl
  have hnw := nw_le hN
  have hnwp := nw_pos N
  have hpw := pw_le N
  have hpwp := pw_pos N
  have hnp := np_le hN
  refine lv_iload_n hx hb dX1_combine_0 rfl (lv_at hl 1 rfl) ?_
  refine va_calli (va_runS (As := [.int k]) (rest := []) ⟨hx, hb, hml, hown, hts⟩ (c_isRegister l D _ k) (va_cwS 1 hts gX1_combine_X1_isRegister rfl rfl rfl (by decide +kernel) ⟨Nat.le_of_ble_eq_true rfl, Nat.le_of_ble_eq_true rfl⟩) ⟨wp0_blind, fun U hU hW => wp0_of (va_P.sub hP [] rfl) (hK.sub [] rfl) htb hS no_in hU hW⟩ rfl rfl hl.1 rfl (lv_room (Nat.le_of_ble_eq_true rfl)) dX1_combine_1 ⟨Nat.zero_le _, Nat.zero_le _⟩) hS (fun q _ h => h.elim) (fun q h => h.elim) (fun r_1 u_1 t H1 locs ht hvm hw hB hz1 hk1 hS => ?_)
  have hP := xa_same hP hk1
  clear hz1 hk1 hB ht
  generalize H1 = H at hP hS ⊢
  subst hw
  refine xa_if0 (tgt := 31) hx hb dX1_combine_4 (by decide) (fun c_4 => ?_) (fun c_4 => ?_)
  · refine lv_iconst (v := nI 0) hx hb dX1_combine_31 (by decide) ?_
    exact W.zret (v := (nI 0)) hx hb hr (by decide) (fun t ht hW => ⟨⟨(nI 0), (dr, re, tu, kd, uh, bf, la, G), rfl, ⟨by rw [(show spM g k op a b = none from if_neg (by simp [isO, c_4]))]; rfl, by rw [(show spM g k op a b = none from if_neg (by simp [isO, c_4]))]; exact hg⟩, (by show va_P _ _ _ _; rw [ht]; exact hP)⟩, hS.F ht⟩) hS.2.2 dX1_combine_32
  · refine lv_iload_n hx hb dX1_combine_7 rfl (lv_at hl 2 rfl) ?_
    refine lv_if_lt (tgt := 31) hx hb dX1_combine_8 (by decide) (fun c_8 => ?_) (fun c_8 => ?_)
    · refine lv_iconst (v := nI 0) hx hb dX1_combine_31 (by decide) ?_
      exact W.zret (v := (nI 0)) hx hb hr (by decide) (fun t ht hW => ⟨⟨(nI 0), (dr, re, tu, kd, uh, bf, la, G), rfl, ⟨by rw [(show spM g k op a b = none from if_neg (by simp [isO, c_4, c_8]))]; rfl, by rw [(show spM g k op a b = none from if_neg (by simp [isO, c_4, c_8]))]; exact hg⟩, (by show va_P _ _ _ _; rw [ht]; exact hP)⟩, hS.F ht⟩) hS.2.2 dX1_combine_32
    · refine lv_iload_n hx hb dX1_combine_11 rfl (lv_at hl 2 rfl) ?_
      refine lv_iconst (v := nI 3) hx hb dX1_combine_12 (by decide) ?_
      refine lv_icmp_gt (tgt := 31) hx hb dX1_combine_13 (by decide) (fun c_13 => ?_) (fun c_13 => ?_)
      · refine lv_iconst (v := nI 0) hx hb dX1_combine_31 (by decide) ?_
        exact W.zret (v := (nI 0)) hx hb hr (by decide) (fun t ht hW => ⟨⟨(nI 0), (dr, re, tu, kd, uh, bf, la, G), rfl, ⟨by rw [(show spM g k op a b = none from if_neg (by simp [isO, c_4, c_8, c_13]))]; rfl, by rw [(show spM g k op a b = none from if_neg (by simp [isO, c_4, c_8, c_13]))]; exact hg⟩, (by show va_P _ _ _ _; rw [ht]; exact hP)⟩, hS.F ht⟩) hS.2.2 dX1_combine_32
      · refine lv_iload_n hx hb dX1_combine_16 rfl (lv_at hl 3 rfl) ?_
        refine va_calli (va_runS (As := [.int a]) (rest := []) ⟨hx, hb, hml, hown, hts⟩ (c_isRegister l D _ a) (va_cwS 1 hts gX1_combine_X1_isRegister rfl rfl rfl (by decide +kernel) ⟨Nat.le_of_ble_eq_true rfl, Nat.le_of_ble_eq_true rfl⟩) ⟨wp0_blind, fun U hU hW => wp0_of (va_P.sub hP [] rfl) (hK.sub [] rfl) htb hS no_in hU hW⟩ rfl rfl hl.1 rfl (lv_room (Nat.le_of_ble_eq_true rfl)) dX1_combine_17 ⟨Nat.zero_le _, Nat.zero_le _⟩) hS (fun q _ h => h.elim) (fun q h => h.elim) (fun r_17 u_17 t H1 locs ht hvm hw hB hz1 hk1 hS => ?_)
        have hP := xa_same hP hk1
        clear hz1 hk1 hB ht
        generalize H1 = H at hP hS ⊢
        subst hw
        refine xa_if0 (tgt := 31) hx hb dX1_combine_20 (by decide) (fun c_20 => ?_) (fun c_20 => ?_)
        · refine lv_iconst (v := nI 0) hx hb dX1_combine_31 (by decide) ?_
          exact W.zret (v := (nI 0)) hx hb hr (by decide) (fun t ht hW => ⟨⟨(nI 0), (dr, re, tu, kd, uh, bf, la, G), rfl, ⟨by rw [(show spM g k op a b = none from if_neg (by simp [isO, c_4, c_8, c_13, c_20]))]; rfl, by rw [(show spM g k op a b = none from if_neg (by simp [isO, c_4, c_8, c_13, c_20]))]; exact hg⟩, (by show va_P _ _ _ _; rw [ht]; exact hP)⟩, hS.F ht⟩) hS.2.2 dX1_combine_32
        · refine lv_iload hx hb dX1_combine_23 (lv_at hl 4 rfl) ?_
          refine va_calli (va_runS (As := [.int b]) (rest := []) ⟨hx, hb, hml, hown, hts⟩ (c_isRegister l D _ b) (va_cwS 1 hts gX1_combine_X1_isRegister rfl rfl rfl (by decide +kernel) ⟨Nat.le_of_ble_eq_true rfl, Nat.le_of_ble_eq_true rfl⟩) ⟨wp0_blind, fun U hU hW => wp0_of (va_P.sub hP [] rfl) (hK.sub [] rfl) htb hS no_in hU hW⟩ rfl rfl hl.1 rfl (lv_room (Nat.le_of_ble_eq_true rfl)) dX1_combine_25 ⟨Nat.zero_le _, Nat.zero_le _⟩) hS (fun q _ h => h.elim) (fun q h => h.elim) (fun r_25 u_25 t H1 locs ht hvm hw hB hz1 hk1 hS => ?_)
          have hP := xa_same hP hk1
          clear hz1 hk1 hB ht
          generalize H1 = H at hP hS ⊢
          subst hw
          refine xa_if1 (tgt := 33) hx hb dX1_combine_28 (by decide) (fun c_28 => ?_) (fun c_28 => ?_)
          · have hO : isO op = true := decide_eq_true ⟨c_8, c_13⟩
            obtain ⟨j, hj, ej⟩ := isR_t c_4
            rw [ej] at hl
            obtain ⟨o, ho, eo⟩ := isO_t hO
            rw [eo] at hl
            obtain ⟨x1, hx1, ex1⟩ := isR_t c_20
            rw [ex1] at hl
            obtain ⟨x2, hx2, ex2⟩ := isR_t c_28
            rw [ex2] at hl
            have hsp : spM g k op a b = some (va_up g j (fun p => cmg o (g x1 p) (g x2 p))) := by unfold spM; rw [if_pos (by rw [c_4, hO, c_20, c_28]; rfl), ej, eo, ex1, ex2, ix_nI (by omega), ix_nI (by omega), ix_nI (by omega), ix_nI (by omega)]
            refine lv_iconst (v := nI 0) hx hb dX1_combine_33 (by decide) ?_
            refine lv_istore (lv' := [(5, .int (nI 0)), (0, .ref (ad 0)), (1, .int (nI j)), (2, .int (nI o)), (3, .int (nI x1)), (4, .int (nI x2))]) hx hb dX1_combine_34 hl (by decide) rfl (fun ls hl => ?_)
            have lp_36 : ∀ (n9 w : Nat) (G2 : Nat → Nat → Int64) (H : Heap) (locs : List Loc) (ls : Array Slot), w ≤ nw N → nw N + 1 ≤ w + n9 → (∃ r, G2 = va_up G j r ∧ (∀ x, w ≤ x → r x = G j x) ∧ ∀ x, x < w → r x = cmb o (G x1 x) (G x2 x)) → va_P D vwCl (dkW N ad cJJ cJ cI dr re tu kd uh bf la G2) H → va_S A s.heap H locs → lv_has ls 6 [(0, .ref (ad 0)), (1, .int (nI j)), (2, .int (nI o)), (3, .int (nI x1)), (4, .int (nI x2)), (5, .int (nI w))] → W p l e (headSpec wsX1_combine ({ frames := 1, cells := 0, slots := 0, locals := 24 } : Room)).room s m ([.ref (ad 0), .int k, .int op, .int a, .int b] : List Value).toArray below meth c H locs 0 0 (MQ below (va_Qi (fun (r : Int32) (u : dkS) => r = nI (spM g k op a b).isSome.toNat ∧ okG N (dkR u) ((spM g k op a b).getD g)) (fun (u : dkS) t => va_P D vwCl (dkU N ad cJJ cJ cI u) t.heap) A) ([.ref (ad 0), .int k, .int op, .int a, .int b] : List Value).toArray s 0 0 A) (F0 m 36 ls []) := by
              intro n9
              induction n9 with
              | zero => intro w G2 H locs ls h1 h2; exact absurd h2 (by omega)
              | succ n9 ih =>
                intro w G2 H locs ls hle_36 hmm_36 hI hP hS hl
                have hrow : ∀ z, G2 z w = G z w := fun z => by obtain ⟨r, h1, h3, h2⟩ := hI; subst h1; by_cases hz : z = j; (subst hz; rw [va_up_self]; exact h3 w (Nat.le_refl w)); (rw [va_up_ne _ _ hz])
                have ih_36 := @ih
                refine lv_iload hx hb dX1_combine_36 (lv_at hl 5 rfl) ?_
                refine lv_aload_n hx hb dX1_combine_38 rfl (lv_at hl 0 rfl) ?_
                refine va_get (D := D) (ci := 1) (C := RX1) (T := TX1) (N := 10) hx hb hts (by decide +kernel) hown hK hP 0 rfl rfl 2 (by decide) (hts (.fieldLink RX1 25 "ForkDesk" "words" "I") (by decide +kernel)) (fun _ h9 => h9) rfl dX1_combine_39 ?_
                refine xa_ge (tgt := 83) hx hb (by omega) (by omega) dX1_combine_42 (by decide) (fun c_42 => ?_) (fun c_42 => ?_)
                · refine lv_iconst (v := nI 1) hx hb dX1_combine_83 (by decide) ?_
                  exact W.zret (v := (nI 1)) hx hb hr (by decide) (fun t ht hW => ⟨⟨(nI 1), (dr, re, tu, kd, uh, bf, la, G2), rfl, ⟨by rw [hsp]; rfl, by rw [hsp]; exact (by obtain ⟨r, h1, h3, h2⟩ := hI; subst h1; exact okG_up hg (rp_cmb (hg x1 hx1).1 (hg x2 hx2).1 (fun x hx => h2 x (by omega))) (dm_cmb (hg x1 hx1).2 (hg x2 hx2).2))⟩, (by show va_P _ _ _ _; rw [ht]; exact hP)⟩, hS.F ht⟩) hS.2.2 dX1_combine_84
                · refine lv_aload_n hx hb dX1_combine_45 rfl (lv_at hl 0 rfl) ?_
                  refine va_get (D := D) (ci := 1) (C := RX1) (T := TX1) (N := 10) hx hb hts (by decide +kernel) hown hK hP 0 rfl rfl 5 (by decide) (hts (.fieldLink RX1 39 "ForkDesk" "registers" "[[J") (by decide +kernel)) (fun _ h9 => h9) rfl dX1_combine_46 ?_
                  refine lv_iload_n hx hb dX1_combine_49 rfl (lv_at hl 1 rfl) ?_
                  refine xa_aald hx hb hK hP 1 0 rfl rfl (w := j) (y := ad (10 + j)) (by omega) (by decide) rfl dX1_combine_50 ?_
                  refine lv_iload hx hb dX1_combine_51 (lv_at hl 5 rfl) ?_
                  refine lv_iload_n hx hb dX1_combine_53 rfl (lv_at hl 2 rfl) ?_
                  refine lv_aload_n hx hb dX1_combine_54 rfl (lv_at hl 0 rfl) ?_
                  refine va_get (D := D) (ci := 1) (C := RX1) (T := TX1) (N := 10) hx hb hts (by decide +kernel) hown hK hP 0 rfl rfl 5 (by decide) (hts (.fieldLink RX1 39 "ForkDesk" "registers" "[[J") (by decide +kernel)) (fun _ h9 => h9) rfl dX1_combine_55 ?_
                  refine lv_iload_n hx hb dX1_combine_58 rfl (lv_at hl 3 rfl) ?_
                  refine xa_aald hx hb hK hP 1 0 rfl rfl (w := x1) (y := ad (10 + x1)) (by omega) (by decide) rfl dX1_combine_59 ?_
                  refine lv_iload hx hb dX1_combine_60 (lv_at hl 5 rfl) ?_
                  refine xa_lald hx hb hK hP (10 + x1) 1 (dk_row (by omega)) rfl (w := w) (by omega) (by omega) dX1_combine_62 ?_
                  refine lv_aload_n hx hb dX1_combine_63 rfl (lv_at hl 0 rfl) ?_
                  refine va_get (D := D) (ci := 1) (C := RX1) (T := TX1) (N := 10) hx hb hts (by decide +kernel) hown hK hP 0 rfl rfl 5 (by decide) (hts (.fieldLink RX1 39 "ForkDesk" "registers" "[[J") (by decide +kernel)) (fun _ h9 => h9) rfl dX1_combine_64 ?_
                  refine lv_iload hx hb dX1_combine_67 (lv_at hl 4 rfl) ?_
                  refine xa_aald hx hb hK hP 1 0 rfl rfl (w := x2) (y := ad (10 + x2)) (by omega) (by decide) rfl dX1_combine_69 ?_
                  refine lv_iload hx hb dX1_combine_70 (lv_at hl 5 rfl) ?_
                  refine xa_lald hx hb hK hP (10 + x2) 1 (dk_row (by omega)) rfl (w := w) (by omega) (by omega) dX1_combine_72 ?_
                  refine va_calll (va_runS (As := [.int (nI o), .long (G2 x1 w), .long (G2 x2 w)]) (rest := [.int (nI w), .ref (ad (10 + j))]) ⟨hx, hb, hml, hown, hts⟩ (c_combined l D _ o (by omega) (G2 x1 w) (G2 x2 w)) (va_cwS 3 hts gX1_combine_X1_combined rfl rfl rfl (by decide +kernel) ⟨Nat.le_of_ble_eq_true rfl, Nat.le_of_ble_eq_true rfl⟩) ⟨wp0_blind, fun U hU hW => wp0_of (va_P.sub hP [] rfl) (hK.sub [] rfl) htb hS no_in hU hW⟩ rfl rfl hl.1 rfl (lv_room (Nat.le_of_ble_eq_true rfl)) dX1_combine_73 ⟨Nat.zero_le _, Nat.zero_le _⟩) hS (fun q _ h => h.elim) (fun q h => h.elim) (fun r_73 u_73 t H1 locs ht hvm hw hB hz1 hk1 hS => ?_)
                  have hP := xa_same hP hk1
                  clear hz1 hk1 hB ht
                  generalize H1 = H at hP hS ⊢
                  subst hw
                  refine xa_last hx hb hK hP (dk_D hao) hS (10 + j) 1 (dk_row (by omega)) rfl (w := w) (by omega) (by omega) dX1_combine_76 (fun H locs hP _ hS => ?_)
                  rw [dk_set _ (by omega)] at hP
                  refine xa_inc (k := 5) (lv' := [(5, .int (nI (w + 1))), (0, .ref (ad 0)), (1, .int (nI j)), (2, .int (nI o)), (3, .int (nI x1)), (4, .int (nI x2))]) hx hb dX1_combine_77 hl rfl (by decide) rfl (fun ls hl => ?_)
                  refine lv_goto (tgt := 36) hx hb dX1_combine_80 (by decide) ?_
                  exact ih_36 (w + 1) (va_up G2 j (vp_updL (G2 j) w (cmb o (G2 x1 w) (G2 x2 w)))) _ _ _ (by omega) (by omega) (by obtain ⟨r, h1, h3, h2⟩ := hI; subst h1; refine ⟨_, va_upup _ _ _ _, fun x hx => by rw [va_up_self, pk_uLn (by omega)]; exact h3 x (by omega), fun x hx => ?_⟩; rw [va_up_self]; by_cases hxw : x = w; (subst hxw; rw [pk_uLs, hrow, hrow]); (rw [pk_uLn hxw]; exact h2 x (by omega))) hP hS (lv_sub hl [1, 2, 3, 4, 5, 0] rfl)
            exact lp_36 (nw N + 1 - 0) 0 G _ _ _ (by omega) (by omega) ⟨G j, (va_same G j).symm, fun x _ => rfl, fun x hx => absurd hx (by omega)⟩ hP hS (lv_sub hl [1, 2, 3, 4, 5, 0] rfl)
          · refine lv_iconst (v := nI 0) hx hb dX1_combine_31 (by decide) ?_
            exact W.zret (v := (nI 0)) hx hb hr (by decide) (fun t ht hW => ⟨⟨(nI 0), (dr, re, tu, kd, uh, bf, la, G), rfl, ⟨by rw [(show spM g k op a b = none from if_neg (by simp [isO, c_4, c_8, c_13, c_20, c_28]))]; rfl, by rw [(show spM g k op a b = none from if_neg (by simp [isO, c_4, c_8, c_13, c_20, c_28]))]; exact hg⟩, (by show va_P _ _ _ _; rw [ht]; exact hP)⟩, hS.F ht⟩) hS.2.2 dX1_combine_32
end
section
set_option maxHeartbeats 4000000 in
set_option maxRecDepth 100000 in
/-- choose -/
theorem c_choose (l : Launch) (D : va_G) (sz : Nat) (N : Nat) (hN1 : 1 ≤ N) (hN : N ≤ 12) (ad : Nat → Nat) (hao : aok (fun _ => True) ad) (cJJ cJ cI : ClassId) (dr re : Nat → Int64) (tu kd uh bf la : Nat → Int32) (G : Nat → Nat → Int64) (g : Nat → Nat → Bool) (hg : okG N G g) (k a b c1 : Int32) : Met l yX1_choose wsX1_choose ({ frames := 1, cells := 0, slots := 0, locals := 25 } : Room) (va_Pc [.ref (ad 0), .int k, .int a, .int b, .int c1] (wp0 D (dkW N ad cJJ cJ cI dr re tu kd uh bf la G) (dkT cJJ cJ cI) (fr ad sz) sz)) (va_Qi (fun (r : Int32) (u : dkS) => r = nI (spH g k a b c1).isSome.toNat ∧ okG N (dkR u) ((spH g k a b c1).getD g)) (fun (u : dkS) t => va_P D vwCl (dkU N ad cJJ cJ cI u) t.heap) (fr ad sz)) 0 0 (fr ad sz) := by
  refine Met.ofW (cc := cX1_choose) (maxL := 6) (ret := (some .boolean)) (by decide) rfl ?_
  intro p e s m args below meth c s₁ B hml hv
  obtain ⟨rfl, hsz, hP, hK, htb⟩ := hv
  have hx := B.exec
  have hb := B.bytes
  have hr := B.returns
  have hts := atoms_spec (ws := wsX1_choose) B.pre
  have hown : s.vm.findClass RX1 = some m.cls := findClass_of_methodNamed B.named
  have hlocks := B.notSynchronized
  subst hsz
  generalize hAe : fr ad s.heap.size = A at htb ⊢
  have hA : ∀ q : Nat, s.heap.size ≤ q → A q := fun q h => by rw [← hAe]; exact fr_new q h
  have hao : aok A ad := by rw [← hAe]; exact aok_fr hao
  obtain ⟨⟨tt, hZ, hT⟩, hNst⟩ := id htb
  have hS : va_S A s.heap s.heap [] := va_S.rf
  have hl := lv_entry ([.ref (ad 0), .int k, .int a, .int b, .int c1]) (n := 6) (Nat.le_of_ble_eq_true rfl)
  rw [lg_entry_eq]
  generalize (lg_sl ([.ref (ad 0), .int k, .int a, .int b, .int c1]) ++ List.replicate (6 - (lg_sl ([.ref (ad 0), .int k, .int a, .int b, .int c1])).length) Slot.unset).toArray = ls at hl ⊢
  have hl : lv_has ls 6 [(0, .ref (ad 0)), (1, .int k), (2, .int a), (3, .int b), (4, .int c1)] := hl
  have hnw := nw_le hN
  have hnwp := nw_pos N
  have hpw := pw_le N
  have hpwp := pw_pos N
  have hnp := np_le hN
  refine lv_iload_n hx hb dX1_choose_0 rfl (lv_at hl 1 rfl) ?_
  refine va_calli (va_runS (As := [.int k]) (rest := []) ⟨hx, hb, hml, hown, hts⟩ (c_isRegister l D _ k) (va_cwS 1 hts gX1_choose_X1_isRegister rfl rfl rfl (by decide +kernel) ⟨Nat.le_of_ble_eq_true rfl, Nat.le_of_ble_eq_true rfl⟩) ⟨wp0_blind, fun U hU hW => wp0_of (va_P.sub hP [] rfl) (hK.sub [] rfl) htb hS no_in hU hW⟩ rfl rfl hl.1 rfl (lv_room (Nat.le_of_ble_eq_true rfl)) dX1_choose_1 ⟨Nat.zero_le _, Nat.zero_le _⟩) hS (fun q _ h => h.elim) (fun q h => h.elim) (fun r_1 u_1 t H1 locs ht hvm hw hB hz1 hk1 hS => ?_)
  have hP := xa_same hP hk1
  clear hz1 hk1 hB ht
  generalize H1 = H at hP hS ⊢
  subst hw
  refine xa_if0 (tgt := 29) hx hb dX1_choose_4 (by decide) (fun c_4 => ?_) (fun c_4 => ?_)
  · refine lv_iconst (v := nI 0) hx hb dX1_choose_29 (by decide) ?_
    exact W.zret (v := (nI 0)) hx hb hr (by decide) (fun t ht hW => ⟨⟨(nI 0), (dr, re, tu, kd, uh, bf, la, G), rfl, ⟨by rw [(show spH g k a b c1 = none from if_neg (by simp [c_4]))]; rfl, by rw [(show spH g k a b c1 = none from if_neg (by simp [c_4]))]; exact hg⟩, (by show va_P _ _ _ _; rw [ht]; exact hP)⟩, hS.F ht⟩) hS.2.2 dX1_choose_30
  · refine lv_iload_n hx hb dX1_choose_7 rfl (lv_at hl 2 rfl) ?_
    refine va_calli (va_runS (As := [.int a]) (rest := []) ⟨hx, hb, hml, hown, hts⟩ (c_isRegister l D _ a) (va_cwS 1 hts gX1_choose_X1_isRegister rfl rfl rfl (by decide +kernel) ⟨Nat.le_of_ble_eq_true rfl, Nat.le_of_ble_eq_true rfl⟩) ⟨wp0_blind, fun U hU hW => wp0_of (va_P.sub hP [] rfl) (hK.sub [] rfl) htb hS no_in hU hW⟩ rfl rfl hl.1 rfl (lv_room (Nat.le_of_ble_eq_true rfl)) dX1_choose_8 ⟨Nat.zero_le _, Nat.zero_le _⟩) hS (fun q _ h => h.elim) (fun q h => h.elim) (fun r_8 u_8 t H1 locs ht hvm hw hB hz1 hk1 hS => ?_)
    have hP := xa_same hP hk1
    clear hz1 hk1 hB ht
    generalize H1 = H at hP hS ⊢
    subst hw
    refine xa_if0 (tgt := 29) hx hb dX1_choose_11 (by decide) (fun c_11 => ?_) (fun c_11 => ?_)
    · refine lv_iconst (v := nI 0) hx hb dX1_choose_29 (by decide) ?_
      exact W.zret (v := (nI 0)) hx hb hr (by decide) (fun t ht hW => ⟨⟨(nI 0), (dr, re, tu, kd, uh, bf, la, G), rfl, ⟨by rw [(show spH g k a b c1 = none from if_neg (by simp [c_4, c_11]))]; rfl, by rw [(show spH g k a b c1 = none from if_neg (by simp [c_4, c_11]))]; exact hg⟩, (by show va_P _ _ _ _; rw [ht]; exact hP)⟩, hS.F ht⟩) hS.2.2 dX1_choose_30
    · refine lv_iload_n hx hb dX1_choose_14 rfl (lv_at hl 3 rfl) ?_
      refine va_calli (va_runS (As := [.int b]) (rest := []) ⟨hx, hb, hml, hown, hts⟩ (c_isRegister l D _ b) (va_cwS 1 hts gX1_choose_X1_isRegister rfl rfl rfl (by decide +kernel) ⟨Nat.le_of_ble_eq_true rfl, Nat.le_of_ble_eq_true rfl⟩) ⟨wp0_blind, fun U hU hW => wp0_of (va_P.sub hP [] rfl) (hK.sub [] rfl) htb hS no_in hU hW⟩ rfl rfl hl.1 rfl (lv_room (Nat.le_of_ble_eq_true rfl)) dX1_choose_15 ⟨Nat.zero_le _, Nat.zero_le _⟩) hS (fun q _ h => h.elim) (fun q h => h.elim) (fun r_15 u_15 t H1 locs ht hvm hw hB hz1 hk1 hS => ?_)
      have hP := xa_same hP hk1
      clear hz1 hk1 hB ht
      generalize H1 = H at hP hS ⊢
      subst hw
      refine xa_if0 (tgt := 29) hx hb dX1_choose_18 (by decide) (fun c_18 => ?_) (fun c_18 => ?_)
      · refine lv_iconst (v := nI 0) hx hb dX1_choose_29 (by decide) ?_
        exact W.zret (v := (nI 0)) hx hb hr (by decide) (fun t ht hW => ⟨⟨(nI 0), (dr, re, tu, kd, uh, bf, la, G), rfl, ⟨by rw [(show spH g k a b c1 = none from if_neg (by simp [c_4, c_11, c_18]))]; rfl, by rw [(show spH g k a b c1 = none from if_neg (by simp [c_4, c_11, c_18]))]; exact hg⟩, (by show va_P _ _ _ _; rw [ht]; exact hP)⟩, hS.F ht⟩) hS.2.2 dX1_choose_30
      · refine lv_iload hx hb dX1_choose_21 (lv_at hl 4 rfl) ?_
        refine va_calli (va_runS (As := [.int c1]) (rest := []) ⟨hx, hb, hml, hown, hts⟩ (c_isRegister l D _ c1) (va_cwS 1 hts gX1_choose_X1_isRegister rfl rfl rfl (by decide +kernel) ⟨Nat.le_of_ble_eq_true rfl, Nat.le_of_ble_eq_true rfl⟩) ⟨wp0_blind, fun U hU hW => wp0_of (va_P.sub hP [] rfl) (hK.sub [] rfl) htb hS no_in hU hW⟩ rfl rfl hl.1 rfl (lv_room (Nat.le_of_ble_eq_true rfl)) dX1_choose_23 ⟨Nat.zero_le _, Nat.zero_le _⟩) hS (fun q _ h => h.elim) (fun q h => h.elim) (fun r_23 u_23 t H1 locs ht hvm hw hB hz1 hk1 hS => ?_)
        have hP := xa_same hP hk1
        clear hz1 hk1 hB ht
        generalize H1 = H at hP hS ⊢
        subst hw
        refine xa_if1 (tgt := 31) hx hb dX1_choose_26 (by decide) (fun c_26 => ?_) (fun c_26 => ?_)
        · obtain ⟨j, hj, ej⟩ := isR_t c_4
          rw [ej] at hl
          obtain ⟨x1, hx1, ex1⟩ := isR_t c_11
          rw [ex1] at hl
          obtain ⟨x2, hx2, ex2⟩ := isR_t c_18
          rw [ex2] at hl
          obtain ⟨x3, hx3, ex3⟩ := isR_t c_26
          rw [ex3] at hl
          have hsp : spH g k a b c1 = some (va_up g j (fun p => if g x1 p = true then g x2 p else g x3 p)) := by unfold spH; rw [if_pos (by rw [c_4, c_11, c_18, c_26]; rfl), ej, ex1, ex2, ex3, ix_nI (by omega), ix_nI (by omega), ix_nI (by omega), ix_nI (by omega)]
          refine lv_iconst (v := nI 0) hx hb dX1_choose_31 (by decide) ?_
          refine lv_istore (lv' := [(5, .int (nI 0)), (0, .ref (ad 0)), (1, .int (nI j)), (2, .int (nI x1)), (3, .int (nI x2)), (4, .int (nI x3))]) hx hb dX1_choose_32 hl (by decide) rfl (fun ls hl => ?_)
          have lp_34 : ∀ (n9 w : Nat) (G2 : Nat → Nat → Int64) (H : Heap) (locs : List Loc) (ls : Array Slot), w ≤ nw N → nw N + 1 ≤ w + n9 → (∃ r, G2 = va_up G j r ∧ (∀ x, w ≤ x → r x = G j x) ∧ ∀ x, x < w → r x = chs (G x1 x) (G x2 x) (G x3 x)) → va_P D vwCl (dkW N ad cJJ cJ cI dr re tu kd uh bf la G2) H → va_S A s.heap H locs → lv_has ls 6 [(0, .ref (ad 0)), (1, .int (nI j)), (2, .int (nI x1)), (3, .int (nI x2)), (4, .int (nI x3)), (5, .int (nI w))] → W p l e (headSpec wsX1_choose ({ frames := 1, cells := 0, slots := 0, locals := 25 } : Room)).room s m ([.ref (ad 0), .int k, .int a, .int b, .int c1] : List Value).toArray below meth c H locs 0 0 (MQ below (va_Qi (fun (r : Int32) (u : dkS) => r = nI (spH g k a b c1).isSome.toNat ∧ okG N (dkR u) ((spH g k a b c1).getD g)) (fun (u : dkS) t => va_P D vwCl (dkU N ad cJJ cJ cI u) t.heap) A) ([.ref (ad 0), .int k, .int a, .int b, .int c1] : List Value).toArray s 0 0 A) (F0 m 34 ls []) := by
            intro n9
            induction n9 with
            | zero => intro w G2 H locs ls h1 h2; exact absurd h2 (by omega)
            | succ n9 ih =>
              intro w G2 H locs ls hle_34 hmm_34 hI hP hS hl
              have hrow : ∀ z, G2 z w = G z w := fun z => by obtain ⟨r, h1, h3, h2⟩ := hI; subst h1; by_cases hz : z = j; (subst hz; rw [va_up_self]; exact h3 w (Nat.le_refl w)); (rw [va_up_ne _ _ hz])
              have ih_34 := @ih
              refine lv_iload hx hb dX1_choose_34 (lv_at hl 5 rfl) ?_
              refine lv_aload_n hx hb dX1_choose_36 rfl (lv_at hl 0 rfl) ?_
              refine va_get (D := D) (ci := 1) (C := RX1) (T := TX1) (N := 10) hx hb hts (by decide +kernel) hown hK hP 0 rfl rfl 2 (by decide) (hts (.fieldLink RX1 25 "ForkDesk" "words" "I") (by decide +kernel)) (fun _ h9 => h9) rfl dX1_choose_37 ?_
              refine xa_ge (tgt := 89) hx hb (by omega) (by omega) dX1_choose_40 (by decide) (fun c_40 => ?_) (fun c_40 => ?_)
              · refine lv_iconst (v := nI 1) hx hb dX1_choose_89 (by decide) ?_
                exact W.zret (v := (nI 1)) hx hb hr (by decide) (fun t ht hW => ⟨⟨(nI 1), (dr, re, tu, kd, uh, bf, la, G2), rfl, ⟨by rw [hsp]; rfl, by rw [hsp]; exact (by obtain ⟨r, h1, h3, h2⟩ := hI; subst h1; exact okG_up hg (rp_chs (hg x1 hx1).1 (hg x2 hx2).1 (hg x3 hx3).1 (fun x hx => h2 x (by omega))) (dm_chs (hg x2 hx2).2 (hg x3 hx3).2))⟩, (by show va_P _ _ _ _; rw [ht]; exact hP)⟩, hS.F ht⟩) hS.2.2 dX1_choose_90
              · refine lv_aload_n hx hb dX1_choose_43 rfl (lv_at hl 0 rfl) ?_
                refine va_get (D := D) (ci := 1) (C := RX1) (T := TX1) (N := 10) hx hb hts (by decide +kernel) hown hK hP 0 rfl rfl 5 (by decide) (hts (.fieldLink RX1 39 "ForkDesk" "registers" "[[J") (by decide +kernel)) (fun _ h9 => h9) rfl dX1_choose_44 ?_
                refine lv_iload_n hx hb dX1_choose_47 rfl (lv_at hl 1 rfl) ?_
                refine xa_aald hx hb hK hP 1 0 rfl rfl (w := j) (y := ad (10 + j)) (by omega) (by decide) rfl dX1_choose_48 ?_
                refine lv_iload hx hb dX1_choose_49 (lv_at hl 5 rfl) ?_
                refine lv_aload_n hx hb dX1_choose_51 rfl (lv_at hl 0 rfl) ?_
                refine va_get (D := D) (ci := 1) (C := RX1) (T := TX1) (N := 10) hx hb hts (by decide +kernel) hown hK hP 0 rfl rfl 5 (by decide) (hts (.fieldLink RX1 39 "ForkDesk" "registers" "[[J") (by decide +kernel)) (fun _ h9 => h9) rfl dX1_choose_52 ?_
                refine lv_iload_n hx hb dX1_choose_55 rfl (lv_at hl 2 rfl) ?_
                refine xa_aald hx hb hK hP 1 0 rfl rfl (w := x1) (y := ad (10 + x1)) (by omega) (by decide) rfl dX1_choose_56 ?_
                refine lv_iload hx hb dX1_choose_57 (lv_at hl 5 rfl) ?_
                refine xa_lald hx hb hK hP (10 + x1) 1 (dk_row (by omega)) rfl (w := w) (by omega) (by omega) dX1_choose_59 ?_
                refine lv_aload_n hx hb dX1_choose_60 rfl (lv_at hl 0 rfl) ?_
                refine va_get (D := D) (ci := 1) (C := RX1) (T := TX1) (N := 10) hx hb hts (by decide +kernel) hown hK hP 0 rfl rfl 5 (by decide) (hts (.fieldLink RX1 39 "ForkDesk" "registers" "[[J") (by decide +kernel)) (fun _ h9 => h9) rfl dX1_choose_61 ?_
                refine lv_iload_n hx hb dX1_choose_64 rfl (lv_at hl 3 rfl) ?_
                refine xa_aald hx hb hK hP 1 0 rfl rfl (w := x2) (y := ad (10 + x2)) (by omega) (by decide) rfl dX1_choose_65 ?_
                refine lv_iload hx hb dX1_choose_66 (lv_at hl 5 rfl) ?_
                refine xa_lald hx hb hK hP (10 + x2) 1 (dk_row (by omega)) rfl (w := w) (by omega) (by omega) dX1_choose_68 ?_
                refine lv_aload_n hx hb dX1_choose_69 rfl (lv_at hl 0 rfl) ?_
                refine va_get (D := D) (ci := 1) (C := RX1) (T := TX1) (N := 10) hx hb hts (by decide +kernel) hown hK hP 0 rfl rfl 5 (by decide) (hts (.fieldLink RX1 39 "ForkDesk" "registers" "[[J") (by decide +kernel)) (fun _ h9 => h9) rfl dX1_choose_70 ?_
                refine lv_iload hx hb dX1_choose_73 (lv_at hl 4 rfl) ?_
                refine xa_aald hx hb hK hP 1 0 rfl rfl (w := x3) (y := ad (10 + x3)) (by omega) (by decide) rfl dX1_choose_75 ?_
                refine lv_iload hx hb dX1_choose_76 (lv_at hl 5 rfl) ?_
                refine xa_lald hx hb hK hP (10 + x3) 1 (dk_row (by omega)) rfl (w := w) (by omega) (by omega) dX1_choose_78 ?_
                refine va_calll (va_runS (As := [.long (G2 x1 w), .long (G2 x2 w), .long (G2 x3 w)]) (rest := [.int (nI w), .ref (ad (10 + j))]) ⟨hx, hb, hml, hown, hts⟩ (c_chosen l D _ (G2 x1 w) (G2 x2 w) (G2 x3 w)) (va_cwS 3 hts gX1_choose_X1_chosen rfl rfl rfl (by decide +kernel) ⟨Nat.le_of_ble_eq_true rfl, Nat.le_of_ble_eq_true rfl⟩) ⟨wp0_blind, fun U hU hW => wp0_of (va_P.sub hP [] rfl) (hK.sub [] rfl) htb hS no_in hU hW⟩ rfl rfl hl.1 rfl (lv_room (Nat.le_of_ble_eq_true rfl)) dX1_choose_79 ⟨Nat.zero_le _, Nat.zero_le _⟩) hS (fun q _ h => h.elim) (fun q h => h.elim) (fun r_79 u_79 t H1 locs ht hvm hw hB hz1 hk1 hS => ?_)
                have hP := xa_same hP hk1
                clear hz1 hk1 hB ht
                generalize H1 = H at hP hS ⊢
                subst hw
                refine xa_last hx hb hK hP (dk_D hao) hS (10 + j) 1 (dk_row (by omega)) rfl (w := w) (by omega) (by omega) dX1_choose_82 (fun H locs hP _ hS => ?_)
                rw [dk_set _ (by omega)] at hP
                refine xa_inc (k := 5) (lv' := [(5, .int (nI (w + 1))), (0, .ref (ad 0)), (1, .int (nI j)), (2, .int (nI x1)), (3, .int (nI x2)), (4, .int (nI x3))]) hx hb dX1_choose_83 hl rfl (by decide) rfl (fun ls hl => ?_)
                refine lv_goto (tgt := 34) hx hb dX1_choose_86 (by decide) ?_
                exact ih_34 (w + 1) (va_up G2 j (vp_updL (G2 j) w (chs (G2 x1 w) (G2 x2 w) (G2 x3 w)))) _ _ _ (by omega) (by omega) (by obtain ⟨r, h1, h3, h2⟩ := hI; subst h1; refine ⟨_, va_upup _ _ _ _, fun x hx => by rw [va_up_self, pk_uLn (by omega)]; exact h3 x (by omega), fun x hx => ?_⟩; rw [va_up_self]; by_cases hxw : x = w; (subst hxw; rw [pk_uLs, hrow, hrow, hrow]); (rw [pk_uLn hxw]; exact h2 x (by omega))) hP hS (lv_sub hl [1, 2, 3, 4, 5, 0] rfl)
          exact lp_34 (nw N + 1 - 0) 0 G _ _ _ (by omega) (by omega) ⟨G j, (va_same G j).symm, fun x _ => rfl, fun x hx => absurd hx (by omega)⟩ hP hS (lv_sub hl [1, 2, 3, 4, 5, 0] rfl)
        · refine lv_iconst (v := nI 0) hx hb dX1_choose_29 (by decide) ?_
          exact W.zret (v := (nI 0)) hx hb hr (by decide) (fun t ht hW => ⟨⟨(nI 0), (dr, re, tu, kd, uh, bf, la, G), rfl, ⟨by rw [(show spH g k a b c1 = none from if_neg (by simp [c_4, c_11, c_18, c_26]))]; rfl, by rw [(show spH g k a b c1 = none from if_neg (by simp [c_4, c_11, c_18, c_26]))]; exact hg⟩, (by show va_P _ _ _ _; rw [ht]; exact hP)⟩, hS.F ht⟩) hS.2.2 dX1_choose_30
end
section
set_option maxHeartbeats 4000000 in
set_option maxRecDepth 100000 in
/-- fix -/
theorem c_fix (l : Launch) (D : va_G) (sz : Nat) (N : Nat) (hN1 : 1 ≤ N) (hN : N ≤ 12) (ad : Nat → Nat) (hao : aok (fun _ => True) ad) (cJJ cJ cI : ClassId) (dr re : Nat → Int64) (tu kd uh bf la : Nat → Int32) (G : Nat → Nat → Int64) (g : Nat → Nat → Bool) (hg : okG N G g) (k a v x : Int32) : Met l yX1_fix wsX1_fix ({ frames := 2, cells := 0, slots := 0, locals := 61 } : Room) (va_Pc [.ref (ad 0), .int k, .int a, .int v, .int x] (wp0 D (dkW N ad cJJ cJ cI dr re tu kd uh bf la G) (dkT cJJ cJ cI) (fr ad sz) sz)) (va_Qi (fun (r : Int32) (u : dkS) => r = nI (spF N g k a v x).isSome.toNat ∧ okG N (dkR u) ((spF N g k a v x).getD g)) (fun (u : dkS) t => va_P D vwCl (dkU N ad cJJ cJ cI u) t.heap) (fr ad sz)) 0 0 (fr ad sz) := by
  refine Met.ofW (cc := cX1_fix) (maxL := 13) (ret := (some .boolean)) (by decide) rfl ?_
  intro p e s m args below meth c s₁ B hml hv
  obtain ⟨rfl, hsz, hP, hK, htb⟩ := hv
  have hx := B.exec
  have hb := B.bytes
  have hr := B.returns
  have hts := atoms_spec (ws := wsX1_fix) B.pre
  have hown : s.vm.findClass RX1 = some m.cls := findClass_of_methodNamed B.named
  have hlocks := B.notSynchronized
  subst hsz
  generalize hAe : fr ad s.heap.size = A at htb ⊢
  have hA : ∀ q : Nat, s.heap.size ≤ q → A q := fun q h => by rw [← hAe]; exact fr_new q h
  have hao : aok A ad := by rw [← hAe]; exact aok_fr hao
  obtain ⟨⟨tt, hZ, hT⟩, hNst⟩ := id htb
  have hS : va_S A s.heap s.heap [] := va_S.rf
  have hl := lv_entry ([.ref (ad 0), .int k, .int a, .int v, .int x]) (n := 13) (Nat.le_of_ble_eq_true rfl)
  rw [lg_entry_eq]
  generalize (lg_sl ([.ref (ad 0), .int k, .int a, .int v, .int x]) ++ List.replicate (13 - (lg_sl ([.ref (ad 0), .int k, .int a, .int v, .int x])).length) Slot.unset).toArray = ls at hl ⊢
  have hl : lv_has ls 13 [(0, .ref (ad 0)), (1, .int k), (2, .int a), (3, .int v), (4, .int x)] := hl
  have hnw := nw_le hN
  have hnwp := nw_pos N
  have hpw := pw_le N
  have hpwp := pw_pos N
  have hnp := np_le hN
  refine lv_iload_n hx hb dX1_fix_0 rfl (lv_at hl 1 rfl) ?_
  refine va_calli (va_runS (As := [.int k]) (rest := []) ⟨hx, hb, hml, hown, hts⟩ (c_isRegister l D _ k) (va_cwS 1 hts gX1_fix_X1_isRegister rfl rfl rfl (by decide +kernel) ⟨Nat.le_of_ble_eq_true rfl, Nat.le_of_ble_eq_true rfl⟩) ⟨wp0_blind, fun U hU hW => wp0_of (va_P.sub hP [] rfl) (hK.sub [] rfl) htb hS no_in hU hW⟩ rfl rfl hl.1 rfl (lv_room (Nat.le_of_ble_eq_true rfl)) dX1_fix_1 ⟨Nat.zero_le _, Nat.zero_le _⟩) hS (fun q _ h => h.elim) (fun q h => h.elim) (fun r_1 u_1 t H1 locs ht hvm hw hB hz1 hk1 hS => ?_)
  have hP := xa_same hP hk1
  clear hz1 hk1 hB ht
  generalize H1 = H at hP hS ⊢
  subst hw
  refine xa_if0 (tgt := 30) hx hb dX1_fix_4 (by decide) (fun c_4 => ?_) (fun c_4 => ?_)
  · refine lv_iconst (v := nI 0) hx hb dX1_fix_30 (by decide) ?_
    exact W.zret (v := (nI 0)) hx hb hr (by decide) (fun t ht hW => ⟨⟨(nI 0), (dr, re, tu, kd, uh, bf, la, G), rfl, ⟨by rw [(show spF N g k a v x = none from if_neg (by simp [c_4]))]; rfl, by rw [(show spF N g k a v x = none from if_neg (by simp [c_4]))]; exact hg⟩, (by show va_P _ _ _ _; rw [ht]; exact hP)⟩, hS.F ht⟩) hS.2.2 dX1_fix_31
  · refine lv_iload_n hx hb dX1_fix_7 rfl (lv_at hl 2 rfl) ?_
    refine va_calli (va_runS (As := [.int a]) (rest := []) ⟨hx, hb, hml, hown, hts⟩ (c_isRegister l D _ a) (va_cwS 1 hts gX1_fix_X1_isRegister rfl rfl rfl (by decide +kernel) ⟨Nat.le_of_ble_eq_true rfl, Nat.le_of_ble_eq_true rfl⟩) ⟨wp0_blind, fun U hU hW => wp0_of (va_P.sub hP [] rfl) (hK.sub [] rfl) htb hS no_in hU hW⟩ rfl rfl hl.1 rfl (lv_room (Nat.le_of_ble_eq_true rfl)) dX1_fix_8 ⟨Nat.zero_le _, Nat.zero_le _⟩) hS (fun q _ h => h.elim) (fun q h => h.elim) (fun r_8 u_8 t H1 locs ht hvm hw hB hz1 hk1 hS => ?_)
    have hP := xa_same hP hk1
    clear hz1 hk1 hB ht
    generalize H1 = H at hP hS ⊢
    subst hw
    refine xa_if0 (tgt := 30) hx hb dX1_fix_11 (by decide) (fun c_11 => ?_) (fun c_11 => ?_)
    · refine lv_iconst (v := nI 0) hx hb dX1_fix_30 (by decide) ?_
      exact W.zret (v := (nI 0)) hx hb hr (by decide) (fun t ht hW => ⟨⟨(nI 0), (dr, re, tu, kd, uh, bf, la, G), rfl, ⟨by rw [(show spF N g k a v x = none from if_neg (by simp [c_4, c_11]))]; rfl, by rw [(show spF N g k a v x = none from if_neg (by simp [c_4, c_11]))]; exact hg⟩, (by show va_P _ _ _ _; rw [ht]; exact hP)⟩, hS.F ht⟩) hS.2.2 dX1_fix_31
    · refine lv_aload_n hx hb dX1_fix_14 rfl (lv_at hl 0 rfl) ?_
      refine lv_iload_n hx hb dX1_fix_15 rfl (lv_at hl 3 rfl) ?_
      refine va_calli (va_runV (As := [.int v]) (rest := []) ⟨hx, hb, hml, hown, hts⟩ (c_isVariable l D _ N ad v) (cwV 1 hts gX1_fix_X1_isVariable rfl rfl rfl (by decide +kernel) ⟨Nat.le_of_ble_eq_true rfl, Nat.le_of_ble_eq_true rfl⟩) ⟨wp0_blind, va_recv hK hP (ci := 1) (q0 := 0) rfl rfl, fun U hU hW => wp0_of (va_one hP 0 rfl) (hK.sub [] rfl) htb hS no_in hU hW⟩ rfl rfl hl.1 rfl (lv_room (Nat.le_of_ble_eq_true rfl)) dX1_fix_16 ⟨Nat.zero_le _, Nat.zero_le _⟩) hS (fun q _ h => h.elim) (fun q h => h.elim) (fun r_16 u_16 t H1 locs ht hvm hw hB hz1 hk1 hS => ?_)
      have hP := xa_same hP hk1
      clear hz1 hk1 hB ht
      generalize H1 = H at hP hS ⊢
      subst hw
      refine xa_if0 (tgt := 30) hx hb dX1_fix_19 (by decide) (fun c_19 => ?_) (fun c_19 => ?_)
      · refine lv_iconst (v := nI 0) hx hb dX1_fix_30 (by decide) ?_
        exact W.zret (v := (nI 0)) hx hb hr (by decide) (fun t ht hW => ⟨⟨(nI 0), (dr, re, tu, kd, uh, bf, la, G), rfl, ⟨by rw [(show spF N g k a v x = none from if_neg (by simp [c_4, c_11, c_19]))]; rfl, by rw [(show spF N g k a v x = none from if_neg (by simp [c_4, c_11, c_19]))]; exact hg⟩, (by show va_P _ _ _ _; rw [ht]; exact hP)⟩, hS.F ht⟩) hS.2.2 dX1_fix_31
      · refine lv_iload hx hb dX1_fix_22 (lv_at hl 4 rfl) ?_
        refine va_calli (va_runS (As := [.int x]) (rest := []) ⟨hx, hb, hml, hown, hts⟩ (c_isValue l D _ x) (va_cwS 1 hts gX1_fix_X1_isValue rfl rfl rfl (by decide +kernel) ⟨Nat.le_of_ble_eq_true rfl, Nat.le_of_ble_eq_true rfl⟩) ⟨wp0_blind, fun U hU hW => wp0_of (va_P.sub hP [] rfl) (hK.sub [] rfl) htb hS no_in hU hW⟩ rfl rfl hl.1 rfl (lv_room (Nat.le_of_ble_eq_true rfl)) dX1_fix_24 ⟨Nat.zero_le _, Nat.zero_le _⟩) hS (fun q _ h => h.elim) (fun q h => h.elim) (fun r_24 u_24 t H1 locs ht hvm hw hB hz1 hk1 hS => ?_)
        have hP := xa_same hP hk1
        clear hz1 hk1 hB ht
        generalize H1 = H at hP hS ⊢
        subst hw
        refine xa_if1 (tgt := 32) hx hb dX1_fix_27 (by decide) (fun c_27 => ?_) (fun c_27 => ?_)
        · obtain ⟨j, hj, ej⟩ := isR_t c_4
          rw [ej] at hl
          obtain ⟨x1, hx1, ex1⟩ := isR_t c_11
          rw [ex1] at hl
          obtain ⟨i, hi1, hi, ei⟩ := isV_t hN c_19
          rw [ei] at hl
          obtain ⟨bv, ebv⟩ := isB_t c_27
          rw [ebv] at hl
          have hbv := tn_le bv
          have hsp : spF N g k a v x = some (va_up g j (fx (g x1) (N - i) bv)) := by unfold spF; rw [if_pos (by rw [c_4, c_11, c_19, c_27]; rfl), ej, ex1, ei, ebv, ix_nI (by omega), ix_nI (by omega), ix_nI (by omega), tn_d]
          refine lv_aload_n hx hb dX1_fix_32 rfl (lv_at hl 0 rfl) ?_
          refine lv_iload_n hx hb dX1_fix_33 rfl (lv_at hl 3 rfl) ?_
          refine va_calli (va_runV (As := [.int (nI i)]) (rest := []) ⟨hx, hb, hml, hown, hts⟩ (c_bitOf l D _ N ad i (by omega)) (cwV 1 hts gX1_fix_X1_bitOf rfl rfl rfl (by decide +kernel) ⟨Nat.le_of_ble_eq_true rfl, Nat.le_of_ble_eq_true rfl⟩) ⟨wp0_blind, va_recv hK hP (ci := 1) (q0 := 0) rfl rfl, fun U hU hW => wp0_of (va_one hP 0 rfl) (hK.sub [] rfl) htb hS no_in hU hW⟩ rfl rfl hl.1 rfl (lv_room (Nat.le_of_ble_eq_true rfl)) dX1_fix_34 ⟨Nat.zero_le _, Nat.zero_le _⟩) hS (fun q _ h => h.elim) (fun q h => h.elim) (fun r_34 u_34 t H1 locs ht hvm hw hB hz1 hk1 hS => ?_)
          have hP := xa_same hP hk1
          clear hz1 hk1 hB ht
          generalize H1 = H at hP hS ⊢
          subst hw
          refine lv_istore (lv' := [(5, .int (nI (N - i))), (0, .ref (ad 0)), (1, .int (nI j)), (2, .int (nI x1)), (3, .int (nI i)), (4, .int (nI bv.toNat))]) hx hb dX1_fix_37 hl (by decide) rfl (fun ls hl => ?_)
          refine lv_iconst (v := nI 0) hx hb dX1_fix_39 (by decide) ?_
          refine lv_istore (lv' := [(6, .int (nI 0)), (5, .int (nI (N - i))), (0, .ref (ad 0)), (1, .int (nI j)), (2, .int (nI x1)), (3, .int (nI i)), (4, .int (nI bv.toNat))]) hx hb dX1_fix_40 hl (by decide) rfl (fun ls hl => ?_)
          have lp_42 : ∀ (n9 w : Nat) (d2 : Nat → Int64) (H : Heap) (locs : List Loc) (ls : Array Slot), w ≤ nw N → nw N + 1 ≤ w + n9 → (∀ z, z < w → d2 z = fxw N (G x1) (N - i) bv z) → va_P D vwCl (dkW N ad cJJ cJ cI d2 re tu kd uh bf la G) H → va_S A s.heap H locs → lv_has ls 13 [(0, .ref (ad 0)), (1, .int (nI j)), (2, .int (nI x1)), (3, .int (nI i)), (4, .int (nI bv.toNat)), (5, .int (nI (N - i))), (6, .int (nI w))] → W p l e (headSpec wsX1_fix ({ frames := 2, cells := 0, slots := 0, locals := 61 } : Room)).room s m ([.ref (ad 0), .int k, .int a, .int v, .int x] : List Value).toArray below meth c H locs 0 0 (MQ below (va_Qi (fun (r : Int32) (u : dkS) => r = nI (spF N g k a v x).isSome.toNat ∧ okG N (dkR u) ((spF N g k a v x).getD g)) (fun (u : dkS) t => va_P D vwCl (dkU N ad cJJ cJ cI u) t.heap) A) ([.ref (ad 0), .int k, .int a, .int v, .int x] : List Value).toArray s 0 0 A) (F0 m 42 ls []) := by
            intro n9
            induction n9 with
            | zero => intro w d2 H locs ls h1 h2; exact absurd h2 (by omega)
            | succ n9 ih =>
              intro w d2 H locs ls hle_42 hmm_42 hI hP hS hl
              have ih_42 := @ih
              refine lv_iload hx hb dX1_fix_42 (lv_at hl 6 rfl) ?_
              refine lv_aload_n hx hb dX1_fix_44 rfl (lv_at hl 0 rfl) ?_
              refine va_get (D := D) (ci := 1) (C := RX1) (T := TX1) (N := 10) hx hb hts (by decide +kernel) hown hK hP 0 rfl rfl 2 (by decide) (hts (.fieldLink RX1 25 "ForkDesk" "words" "I") (by decide +kernel)) (fun _ h9 => h9) rfl dX1_fix_45 ?_
              refine xa_ge (tgt := 127) hx hb (by omega) (by omega) dX1_fix_48 (by decide) (fun c_48 => ?_) (fun c_48 => ?_)
              · refine lv_aload_n hx hb dX1_fix_127 rfl (lv_at hl 0 rfl) ?_
                refine lv_iload_n hx hb dX1_fix_128 rfl (lv_at hl 1 rfl) ?_
                refine va_callv (va_runV (As := [.int (nI j)]) (rest := []) ⟨hx, hb, hml, hown, hts⟩ (c_keepDraft l D _ N hN1 hN ad (aok_true hao) cJJ cJ cI d2 re tu kd uh bf la G j (by omega)) (cwV 1 hts gX1_fix_X1_keepDraft rfl rfl rfl (by decide +kernel) ⟨Nat.le_of_ble_eq_true rfl, Nat.le_of_ble_eq_true rfl⟩) ⟨wp0_blind, va_recv hK hP (ci := 1) (q0 := 0) rfl rfl, fun U hU hW => wp0_of hP hK htb hS (fr_in hao hS hA) hU hW⟩ rfl rfl hl.1 rfl (lv_room (Nat.le_of_ble_eq_true rfl)) dX1_fix_129 ⟨Nat.zero_le _, Nat.zero_le _⟩) hS (fun q _ h => (fr_in hao hS hA) q h) ((fr_in hao hS hA)) (fun u_129 t H1 locs ht hvm hw hB hz1 hk1 hS => ?_)
                rw [ht] at hB
                have hP := hB
                clear hz1 hk1 hB ht
                generalize H1 = H at hP hS ⊢
                refine lv_iconst (v := nI 1) hx hb dX1_fix_132 (by decide) ?_
                exact W.zret (v := (nI 1)) hx hb hr (by decide) (fun t ht hW => ⟨⟨(nI 1), (d2, re, tu, kd, uh, bf, la, va_up G j u_129), rfl, ⟨by rw [hsp]; rfl, by rw [hsp]; exact (okG_up hg (rp_fix (by omega) (hg x1 hx1).1 (hg x1 hx1).2 (fun z hz => by rw [hw z hz]; exact hI z (by omega))) (fx_dm (by omega) (hg x1 hx1).2 _))⟩, (by show va_P _ _ _ _; rw [ht]; exact hP)⟩, hS.F ht⟩) hS.2.2 dX1_fix_133
              · refine lv_aload_n hx hb dX1_fix_51 rfl (lv_at hl 0 rfl) ?_
                refine va_get (D := D) (ci := 1) (C := RX1) (T := TX1) (N := 10) hx hb hts (by decide +kernel) hown hK hP 0 rfl rfl 5 (by decide) (hts (.fieldLink RX1 39 "ForkDesk" "registers" "[[J") (by decide +kernel)) (fun _ h9 => h9) rfl dX1_fix_52 ?_
                refine lv_iload_n hx hb dX1_fix_55 rfl (lv_at hl 2 rfl) ?_
                refine xa_aald hx hb hK hP 1 0 rfl rfl (w := x1) (y := ad (10 + x1)) (by omega) (by decide) rfl dX1_fix_56 ?_
                refine lv_iload hx hb dX1_fix_57 (lv_at hl 6 rfl) ?_
                refine xa_lald hx hb hK hP (10 + x1) 1 (dk_row (by omega)) rfl (w := w) (by omega) (by omega) dX1_fix_59 ?_
                refine lv_lstore (lv' := [(7, .long (G x1 w)), (0, .ref (ad 0)), (1, .int (nI j)), (2, .int (nI x1)), (3, .int (nI i)), (4, .int (nI bv.toNat)), (5, .int (nI (N - i))), (6, .int (nI w))]) hx hb dX1_fix_60 hl (by decide) rfl (fun ls hl => ?_)
                refine lv_aload_n hx hb dX1_fix_62 rfl (lv_at hl 1 rfl) ?_
                refine va_get (D := D) (ci := 1) (C := RX1) (T := TX1) (N := 10) hx hb hts (by decide +kernel) hown hK hP 0 rfl rfl 5 (by decide) (hts (.fieldLink RX1 39 "ForkDesk" "registers" "[[J") (by decide +kernel)) (fun _ h9 => h9) rfl dX1_fix_63 ?_
                refine lv_iload_n hx hb dX1_fix_66 rfl (lv_at hl 3 rfl) ?_
                refine xa_aald hx hb hK hP 1 0 rfl rfl (w := x1) (y := ad (10 + x1)) (by omega) (by decide) rfl dX1_fix_67 ?_
                refine lv_iload hx hb dX1_fix_68 (lv_at hl 7 rfl) ?_
                refine lv_iload hx hb dX1_fix_70 (lv_at hl 6 rfl) ?_
                refine va_calll (va_runS (As := [.ref (ad (10 + x1)), .int (nI w), .int (nI (N - i))]) (rest := []) ⟨hx, hb, hml, hown, hts⟩ (c_acrossBit l D _ N (ad (10 + x1)) cJ (G x1) w (N - i) hN (by omega) (by omega)) (va_cwS 3 hts gX1_fix_X1_acrossBit rfl rfl rfl (by decide +kernel) ⟨Nat.le_of_ble_eq_true rfl, Nat.le_of_ble_eq_true rfl⟩) ⟨wp0_blind, fun U hU hW => wp0_of (va_one hP (10 + x1) (dk_row (by omega))) (hK.sub [1] rfl) htb hS no_in hU hW⟩ rfl rfl hl.1 rfl (lv_room (Nat.le_of_ble_eq_true rfl)) dX1_fix_72 ⟨Nat.zero_le _, Nat.zero_le _⟩) hS (fun q _ h => h.elim) (fun q h => h.elim) (fun r_72 u_72 t H1 locs ht hvm hw hB hz1 hk1 hS => ?_)
                have hP := xa_same hP hk1
                clear hz1 hk1 hB ht
                generalize H1 = H at hP hS ⊢
                subst hw
                refine lv_lstore (lv' := [(9, .long (acr (G x1) w (N - i))), (7, .long (G x1 w)), (0, .ref (ad 0)), (1, .int (nI j)), (2, .int (nI x1)), (3, .int (nI i)), (4, .int (nI bv.toNat)), (5, .int (nI (N - i))), (6, .int (nI w))]) hx hb dX1_fix_75 hl (by decide) rfl (fun ls hl => ?_)
                refine lv_aload_n hx hb dX1_fix_77 rfl (lv_at hl 2 rfl) ?_
                refine lv_iload hx hb dX1_fix_78 (lv_at hl 8 rfl) ?_
                refine lv_iload hx hb dX1_fix_80 (lv_at hl 7 rfl) ?_
                refine va_calll (va_runV (As := [.int (nI w), .int (nI (N - i))]) (rest := []) ⟨hx, hb, hml, hown, hts⟩ (c_pointsWithBit l D _ N ad w (N - i) (by omega) (by omega)) (cwV 2 hts gX1_fix_X1_pointsWithBit rfl rfl rfl (by decide +kernel) ⟨Nat.le_of_ble_eq_true rfl, Nat.le_of_ble_eq_true rfl⟩) ⟨wp0_blind, va_recv hK hP (ci := 1) (q0 := 0) rfl rfl, fun U hU hW => wp0_of (va_one hP 0 rfl) (hK.sub [] rfl) htb hS no_in hU hW⟩ rfl rfl hl.1 rfl (lv_room (Nat.le_of_ble_eq_true rfl)) dX1_fix_82 ⟨Nat.zero_le _, Nat.zero_le _⟩) hS (fun q _ h => h.elim) (fun q h => h.elim) (fun r_82 u_82 t H1 locs ht hvm hw hB hz1 hk1 hS => ?_)
                have hP := xa_same hP hk1
                clear hz1 hk1 hB ht
                generalize H1 = H at hP hS ⊢
                subst hw
                refine lv_lstore (lv' := [(11, .long (pwN N w (N - i))), (9, .long (acr (G x1) w (N - i))), (7, .long (G x1 w)), (0, .ref (ad 0)), (1, .int (nI j)), (2, .int (nI x1)), (3, .int (nI i)), (4, .int (nI bv.toNat)), (5, .int (nI (N - i))), (6, .int (nI w))]) hx hb dX1_fix_85 hl (by decide) rfl (fun ls hl => ?_)
                refine lv_aload_n hx hb dX1_fix_87 rfl (lv_at hl 3 rfl) ?_
                refine va_get (D := D) (ci := 1) (C := RX1) (T := TX1) (N := 10) hx hb hts (by decide +kernel) hown hK hP 0 rfl rfl 6 (by decide) (hts (.fieldLink RX1 42 "ForkDesk" "draft" "[J") (by decide +kernel)) (fun _ h9 => h9) rfl dX1_fix_88 ?_
                refine lv_iload hx hb dX1_fix_91 (lv_at hl 9 rfl) ?_
                refine lv_iload hx hb dX1_fix_93 (lv_at hl 7 rfl) ?_
                refine lv_iconst (v := nI 1) hx hb dX1_fix_95 (by decide) ?_
                refine xa_ne (tgt := 111) hx hb (by omega) (by omega) dX1_fix_96 (by decide) (fun c_96 => ?_) (fun c_96 => ?_)
                · refine lv_lload hx hb dX1_fix_111 (lv_at hl 0 rfl) ?_
                  refine lv_lload hx hb dX1_fix_113 (lv_at hl 1 rfl) ?_
                  refine lv_lload hx hb dX1_fix_115 (lv_at hl 2 rfl) ?_
                  refine va_calll (va_runS (As := [.long (pwN N w (N - i)), .long (acr (G x1) w (N - i)), .long (G x1 w)]) (rest := [.int (nI w), .ref (ad 2)]) ⟨hx, hb, hml, hown, hts⟩ (c_chosen l D _ (pwN N w (N - i)) (acr (G x1) w (N - i)) (G x1 w)) (va_cwS 3 hts gX1_fix_X1_chosen rfl rfl rfl (by decide +kernel) ⟨Nat.le_of_ble_eq_true rfl, Nat.le_of_ble_eq_true rfl⟩) ⟨wp0_blind, fun U hU hW => wp0_of (va_P.sub hP [] rfl) (hK.sub [] rfl) htb hS no_in hU hW⟩ rfl rfl hl.1 rfl (lv_room (Nat.le_of_ble_eq_true rfl)) dX1_fix_117 ⟨Nat.zero_le _, Nat.zero_le _⟩) hS (fun q _ h => h.elim) (fun q h => h.elim) (fun r_117 u_117 t H1 locs ht hvm hw hB hz1 hk1 hS => ?_)
                  have hP := xa_same hP hk1
                  clear hz1 hk1 hB ht
                  generalize H1 = H at hP hS ⊢
                  subst hw
                  refine xa_last hx hb hK hP (dk_D hao) hS 2 1 rfl rfl (w := w) (by omega) (by omega) dX1_fix_120 (fun H locs hP _ hS => ?_)
                  have hP : va_P D vwCl (dkW N ad cJJ cJ cI (vp_updL d2 w (chs (pwN N w (N - i)) (acr (G x1) w (N - i)) (G x1 w))) re tu kd uh bf la G) H := hP
                  refine xa_inc (k := 9) (lv' := [(6, .int (nI (w + 1))), (11, .long (pwN N w (N - i))), (9, .long (acr (G x1) w (N - i))), (7, .long (G x1 w)), (0, .ref (ad 0)), (1, .int (nI j)), (2, .int (nI x1)), (3, .int (nI i)), (4, .int (nI bv.toNat)), (5, .int (nI (N - i)))]) hx hb dX1_fix_121 hl rfl (by decide) rfl (fun ls hl => ?_)
                  refine lv_goto (tgt := 42) hx hb dX1_fix_124 (by decide) ?_
                  exact ih_42 (w + 1) (vp_updL d2 w (chs (pwN N w (N - i)) (acr (G x1) w (N - i)) (G x1 w))) _ _ _ (by omega) (by omega) (fun z hz => by by_cases hzw : z = w; (subst hzw; rw [pk_uLs]; unfold fxw; first | rw [if_pos (tn_1 c_96)] | rw [if_neg (tn_0 c_96)]); (rw [pk_uLn hzw]; exact hI z (by omega))) hP hS (lv_sub hl [4, 5, 6, 7, 8, 9, 0] rfl)
                · refine lv_lload hx hb dX1_fix_99 (lv_at hl 0 rfl) ?_
                  refine lv_lload hx hb dX1_fix_101 (lv_at hl 2 rfl) ?_
                  refine lv_lload hx hb dX1_fix_103 (lv_at hl 1 rfl) ?_
                  refine va_calll (va_runS (As := [.long (pwN N w (N - i)), .long (G x1 w), .long (acr (G x1) w (N - i))]) (rest := [.int (nI w), .ref (ad 2)]) ⟨hx, hb, hml, hown, hts⟩ (c_chosen l D _ (pwN N w (N - i)) (G x1 w) (acr (G x1) w (N - i))) (va_cwS 3 hts gX1_fix_X1_chosen rfl rfl rfl (by decide +kernel) ⟨Nat.le_of_ble_eq_true rfl, Nat.le_of_ble_eq_true rfl⟩) ⟨wp0_blind, fun U hU hW => wp0_of (va_P.sub hP [] rfl) (hK.sub [] rfl) htb hS no_in hU hW⟩ rfl rfl hl.1 rfl (lv_room (Nat.le_of_ble_eq_true rfl)) dX1_fix_105 ⟨Nat.zero_le _, Nat.zero_le _⟩) hS (fun q _ h => h.elim) (fun q h => h.elim) (fun r_105 u_105 t H1 locs ht hvm hw hB hz1 hk1 hS => ?_)
                  have hP := xa_same hP hk1
                  clear hz1 hk1 hB ht
                  generalize H1 = H at hP hS ⊢
                  subst hw
                  refine lv_goto (tgt := 120) hx hb dX1_fix_108 (by decide) ?_
                  refine xa_last hx hb hK hP (dk_D hao) hS 2 1 rfl rfl (w := w) (by omega) (by omega) dX1_fix_120 (fun H locs hP _ hS => ?_)
                  have hP : va_P D vwCl (dkW N ad cJJ cJ cI (vp_updL d2 w (chs (pwN N w (N - i)) (G x1 w) (acr (G x1) w (N - i)))) re tu kd uh bf la G) H := hP
                  refine xa_inc (k := 9) (lv' := [(6, .int (nI (w + 1))), (11, .long (pwN N w (N - i))), (9, .long (acr (G x1) w (N - i))), (7, .long (G x1 w)), (0, .ref (ad 0)), (1, .int (nI j)), (2, .int (nI x1)), (3, .int (nI i)), (4, .int (nI bv.toNat)), (5, .int (nI (N - i)))]) hx hb dX1_fix_121 hl rfl (by decide) rfl (fun ls hl => ?_)
                  refine lv_goto (tgt := 42) hx hb dX1_fix_124 (by decide) ?_
                  exact ih_42 (w + 1) (vp_updL d2 w (chs (pwN N w (N - i)) (G x1 w) (acr (G x1) w (N - i)))) _ _ _ (by omega) (by omega) (fun z hz => by by_cases hzw : z = w; (subst hzw; rw [pk_uLs]; unfold fxw; first | rw [if_pos (tn_1 c_96)] | rw [if_neg (tn_0 c_96)]); (rw [pk_uLn hzw]; exact hI z (by omega))) hP hS (lv_sub hl [4, 5, 6, 7, 8, 9, 0] rfl)
          exact lp_42 (nw N + 1 - 0) 0 dr _ _ _ (by omega) (by omega) (fun z hz => absurd hz (by omega)) hP hS (lv_sub hl [2, 3, 4, 5, 6, 1, 0] rfl)
        · refine lv_iconst (v := nI 0) hx hb dX1_fix_30 (by decide) ?_
          exact W.zret (v := (nI 0)) hx hb hr (by decide) (fun t ht hW => ⟨⟨(nI 0), (dr, re, tu, kd, uh, bf, la, G), rfl, ⟨by rw [(show spF N g k a v x = none from if_neg (by simp [c_4, c_11, c_19, c_27]))]; rfl, by rw [(show spF N g k a v x = none from if_neg (by simp [c_4, c_11, c_19, c_27]))]; exact hg⟩, (by show va_P _ _ _ _; rw [ht]; exact hP)⟩, hS.F ht⟩) hS.2.2 dX1_fix_31
end
section
set_option maxHeartbeats 4000000 in
set_option maxRecDepth 100000 in
/-- exists -/
theorem c_exists (l : Launch) (D : va_G) (sz : Nat) (N : Nat) (hN1 : 1 ≤ N) (hN : N ≤ 12) (ad : Nat → Nat) (hao : aok (fun _ => True) ad) (cJJ cJ cI : ClassId) (dr re : Nat → Int64) (tu kd uh bf la : Nat → Int32) (G : Nat → Nat → Int64) (g : Nat → Nat → Bool) (hg : okG N G g) (k a f t1 : Int32) : Met l yX1_exists wsX1_exists ({ frames := 2, cells := 0, slots := 0, locals := 61 } : Room) (va_Pc [.ref (ad 0), .int k, .int a, .int f, .int t1] (wp0 D (dkW N ad cJJ cJ cI dr re tu kd uh bf la G) (dkT cJJ cJ cI) (fr ad sz) sz)) (va_Qi (fun (r : Int32) (u : dkS) => r = nI (spE N g k a f t1).isSome.toNat ∧ okG N (dkR u) ((spE N g k a f t1).getD g)) (fun (u : dkS) t => va_P D vwCl (dkU N ad cJJ cJ cI u) t.heap) (fr ad sz)) 0 0 (fr ad sz) := by
  refine Met.ofW (cc := cX1_exists) (maxL := 6) (ret := (some .boolean)) (by decide) rfl ?_
  intro p e s m args below meth c s₁ B hml hv
  obtain ⟨rfl, hsz, hP, hK, htb⟩ := hv
  have hx := B.exec
  have hb := B.bytes
  have hr := B.returns
  have hts := atoms_spec (ws := wsX1_exists) B.pre
  have hown : s.vm.findClass RX1 = some m.cls := findClass_of_methodNamed B.named
  have hlocks := B.notSynchronized
  subst hsz
  generalize hAe : fr ad s.heap.size = A at htb ⊢
  have hA : ∀ q : Nat, s.heap.size ≤ q → A q := fun q h => by rw [← hAe]; exact fr_new q h
  have hao : aok A ad := by rw [← hAe]; exact aok_fr hao
  obtain ⟨⟨tt, hZ, hT⟩, hNst⟩ := id htb
  have hS : va_S A s.heap s.heap [] := va_S.rf
  have hl := lv_entry ([.ref (ad 0), .int k, .int a, .int f, .int t1]) (n := 6) (Nat.le_of_ble_eq_true rfl)
  rw [lg_entry_eq]
  generalize (lg_sl ([.ref (ad 0), .int k, .int a, .int f, .int t1]) ++ List.replicate (6 - (lg_sl ([.ref (ad 0), .int k, .int a, .int f, .int t1])).length) Slot.unset).toArray = ls at hl ⊢
  have hl : lv_has ls 6 [(0, .ref (ad 0)), (1, .int k), (2, .int a), (3, .int f), (4, .int t1)] := hl
  have hnw := nw_le hN
  have hnwp := nw_pos N
  have hpw := pw_le N
  have hpwp := pw_pos N
  have hnp := np_le hN
  refine lv_iload_n hx hb dX1_exists_0 rfl (lv_at hl 1 rfl) ?_
  refine va_calli (va_runS (As := [.int k]) (rest := []) ⟨hx, hb, hml, hown, hts⟩ (c_isRegister l D _ k) (va_cwS 1 hts gX1_exists_X1_isRegister rfl rfl rfl (by decide +kernel) ⟨Nat.le_of_ble_eq_true rfl, Nat.le_of_ble_eq_true rfl⟩) ⟨wp0_blind, fun U hU hW => wp0_of (va_P.sub hP [] rfl) (hK.sub [] rfl) htb hS no_in hU hW⟩ rfl rfl hl.1 rfl (lv_room (Nat.le_of_ble_eq_true rfl)) dX1_exists_1 ⟨Nat.zero_le _, Nat.zero_le _⟩) hS (fun q _ h => h.elim) (fun q h => h.elim) (fun r_1 u_1 t H1 locs ht hvm hw hB hz1 hk1 hS => ?_)
  have hP := xa_same hP hk1
  clear hz1 hk1 hB ht
  generalize H1 = H at hP hS ⊢
  subst hw
  refine xa_if0 (tgt := 37) hx hb dX1_exists_4 (by decide) (fun c_4 => ?_) (fun c_4 => ?_)
  · refine lv_iconst (v := nI 0) hx hb dX1_exists_37 (by decide) ?_
    exact W.zret (v := (nI 0)) hx hb hr (by decide) (fun t ht hW => ⟨⟨(nI 0), (dr, re, tu, kd, uh, bf, la, G), rfl, ⟨by rw [(show spE N g k a f t1 = none from if_neg (by simp [c_4]))]; rfl, by rw [(show spE N g k a f t1 = none from if_neg (by simp [c_4]))]; exact hg⟩, (by show va_P _ _ _ _; rw [ht]; exact hP)⟩, hS.F ht⟩) hS.2.2 dX1_exists_38
  · refine lv_iload_n hx hb dX1_exists_7 rfl (lv_at hl 2 rfl) ?_
    refine va_calli (va_runS (As := [.int a]) (rest := []) ⟨hx, hb, hml, hown, hts⟩ (c_isRegister l D _ a) (va_cwS 1 hts gX1_exists_X1_isRegister rfl rfl rfl (by decide +kernel) ⟨Nat.le_of_ble_eq_true rfl, Nat.le_of_ble_eq_true rfl⟩) ⟨wp0_blind, fun U hU hW => wp0_of (va_P.sub hP [] rfl) (hK.sub [] rfl) htb hS no_in hU hW⟩ rfl rfl hl.1 rfl (lv_room (Nat.le_of_ble_eq_true rfl)) dX1_exists_8 ⟨Nat.zero_le _, Nat.zero_le _⟩) hS (fun q _ h => h.elim) (fun q h => h.elim) (fun r_8 u_8 t H1 locs ht hvm hw hB hz1 hk1 hS => ?_)
    have hP := xa_same hP hk1
    clear hz1 hk1 hB ht
    generalize H1 = H at hP hS ⊢
    subst hw
    refine xa_if0 (tgt := 37) hx hb dX1_exists_11 (by decide) (fun c_11 => ?_) (fun c_11 => ?_)
    · refine lv_iconst (v := nI 0) hx hb dX1_exists_37 (by decide) ?_
      exact W.zret (v := (nI 0)) hx hb hr (by decide) (fun t ht hW => ⟨⟨(nI 0), (dr, re, tu, kd, uh, bf, la, G), rfl, ⟨by rw [(show spE N g k a f t1 = none from if_neg (by simp [c_4, c_11]))]; rfl, by rw [(show spE N g k a f t1 = none from if_neg (by simp [c_4, c_11]))]; exact hg⟩, (by show va_P _ _ _ _; rw [ht]; exact hP)⟩, hS.F ht⟩) hS.2.2 dX1_exists_38
    · refine lv_aload_n hx hb dX1_exists_14 rfl (lv_at hl 0 rfl) ?_
      refine lv_iload_n hx hb dX1_exists_15 rfl (lv_at hl 3 rfl) ?_
      refine va_calli (va_runV (As := [.int f]) (rest := []) ⟨hx, hb, hml, hown, hts⟩ (c_isVariable l D _ N ad f) (cwV 1 hts gX1_exists_X1_isVariable rfl rfl rfl (by decide +kernel) ⟨Nat.le_of_ble_eq_true rfl, Nat.le_of_ble_eq_true rfl⟩) ⟨wp0_blind, va_recv hK hP (ci := 1) (q0 := 0) rfl rfl, fun U hU hW => wp0_of (va_one hP 0 rfl) (hK.sub [] rfl) htb hS no_in hU hW⟩ rfl rfl hl.1 rfl (lv_room (Nat.le_of_ble_eq_true rfl)) dX1_exists_16 ⟨Nat.zero_le _, Nat.zero_le _⟩) hS (fun q _ h => h.elim) (fun q h => h.elim) (fun r_16 u_16 t H1 locs ht hvm hw hB hz1 hk1 hS => ?_)
      have hP := xa_same hP hk1
      clear hz1 hk1 hB ht
      generalize H1 = H at hP hS ⊢
      subst hw
      refine xa_if0 (tgt := 37) hx hb dX1_exists_19 (by decide) (fun c_19 => ?_) (fun c_19 => ?_)
      · refine lv_iconst (v := nI 0) hx hb dX1_exists_37 (by decide) ?_
        exact W.zret (v := (nI 0)) hx hb hr (by decide) (fun t ht hW => ⟨⟨(nI 0), (dr, re, tu, kd, uh, bf, la, G), rfl, ⟨by rw [(show spE N g k a f t1 = none from if_neg (by simp [c_4, c_11, c_19]))]; rfl, by rw [(show spE N g k a f t1 = none from if_neg (by simp [c_4, c_11, c_19]))]; exact hg⟩, (by show va_P _ _ _ _; rw [ht]; exact hP)⟩, hS.F ht⟩) hS.2.2 dX1_exists_38
      · refine lv_aload_n hx hb dX1_exists_22 rfl (lv_at hl 0 rfl) ?_
        refine lv_iload hx hb dX1_exists_23 (lv_at hl 4 rfl) ?_
        refine va_calli (va_runV (As := [.int t1]) (rest := []) ⟨hx, hb, hml, hown, hts⟩ (c_isVariable l D _ N ad t1) (cwV 1 hts gX1_exists_X1_isVariable rfl rfl rfl (by decide +kernel) ⟨Nat.le_of_ble_eq_true rfl, Nat.le_of_ble_eq_true rfl⟩) ⟨wp0_blind, va_recv hK hP (ci := 1) (q0 := 0) rfl rfl, fun U hU hW => wp0_of (va_one hP 0 rfl) (hK.sub [] rfl) htb hS no_in hU hW⟩ rfl rfl hl.1 rfl (lv_room (Nat.le_of_ble_eq_true rfl)) dX1_exists_25 ⟨Nat.zero_le _, Nat.zero_le _⟩) hS (fun q _ h => h.elim) (fun q h => h.elim) (fun r_25 u_25 t H1 locs ht hvm hw hB hz1 hk1 hS => ?_)
        have hP := xa_same hP hk1
        clear hz1 hk1 hB ht
        generalize H1 = H at hP hS ⊢
        subst hw
        refine xa_if0 (tgt := 37) hx hb dX1_exists_28 (by decide) (fun c_28 => ?_) (fun c_28 => ?_)
        · refine lv_iconst (v := nI 0) hx hb dX1_exists_37 (by decide) ?_
          exact W.zret (v := (nI 0)) hx hb hr (by decide) (fun t ht hW => ⟨⟨(nI 0), (dr, re, tu, kd, uh, bf, la, G), rfl, ⟨by rw [(show spE N g k a f t1 = none from if_neg (by simp [c_4, c_11, c_19, c_28]))]; rfl, by rw [(show spE N g k a f t1 = none from if_neg (by simp [c_4, c_11, c_19, c_28]))]; exact hg⟩, (by show va_P _ _ _ _; rw [ht]; exact hP)⟩, hS.F ht⟩) hS.2.2 dX1_exists_38
        · refine lv_iload_n hx hb dX1_exists_31 rfl (lv_at hl 3 rfl) ?_
          refine lv_iload hx hb dX1_exists_32 (lv_at hl 4 rfl) ?_
          refine lv_icmp_le (tgt := 39) hx hb dX1_exists_34 (by decide) (fun c_34 => ?_) (fun c_34 => ?_)
          · obtain ⟨j, hj, ej⟩ := isR_t c_4
            rw [ej] at hl
            obtain ⟨x1, hx1, ex1⟩ := isR_t c_11
            rw [ex1] at hl
            obtain ⟨i, hi1, hi, ei⟩ := isV_t hN c_19
            rw [ei] at hl
            obtain ⟨i2, hi21, hi2, ei2⟩ := isV_t hN c_28
            rw [ei2] at hl
            have hii : i ≤ i2 := (nI_leI (by omega) (by omega)).mp (by rw [← ei, ← ei2]; exact c_34)
            have hsp : spE N g k a f t1 = some (va_up g j (exs N i (g x1) (i2 + 1 - i))) := by unfold spE; rw [if_pos (by rw [c_4, c_11, c_19, c_28, decide_eq_true c_34]; rfl), ej, ex1, ei, ei2, ix_nI (by omega), ix_nI (by omega), ix_nI (by omega), ix_nI (by omega)]
            refine lv_aload_n hx hb dX1_exists_39 rfl (lv_at hl 0 rfl) ?_
            refine va_get (D := D) (ci := 1) (C := RX1) (T := TX1) (N := 10) hx hb hts (by decide +kernel) hown hK hP 0 rfl rfl 5 (by decide) (hts (.fieldLink RX1 39 "ForkDesk" "registers" "[[J") (by decide +kernel)) (fun _ h9 => h9) rfl dX1_exists_40 ?_
            refine lv_iload_n hx hb dX1_exists_43 rfl (lv_at hl 2 rfl) ?_
            refine xa_aald hx hb hK hP 1 0 rfl rfl (w := x1) (y := ad (10 + x1)) (by omega) (by decide) rfl dX1_exists_44 ?_
            refine lv_iconst (v := nI 0) hx hb dX1_exists_45 (by decide) ?_
            refine lv_aload_n hx hb dX1_exists_46 rfl (lv_at hl 0 rfl) ?_
            refine va_get (D := D) (ci := 1) (C := RX1) (T := TX1) (N := 10) hx hb hts (by decide +kernel) hown hK hP 0 rfl rfl 6 (by decide) (hts (.fieldLink RX1 42 "ForkDesk" "draft" "[J") (by decide +kernel)) (fun _ h9 => h9) rfl dX1_exists_47 ?_
            refine lv_iconst (v := nI 0) hx hb dX1_exists_50 (by decide) ?_
            refine lv_aload_n hx hb dX1_exists_51 rfl (lv_at hl 0 rfl) ?_
            refine va_get (D := D) (ci := 1) (C := RX1) (T := TX1) (N := 10) hx hb hts (by decide +kernel) hown hK hP 0 rfl rfl 2 (by decide) (hts (.fieldLink RX1 25 "ForkDesk" "words" "I") (by decide +kernel)) (fun _ h9 => h9) rfl dX1_exists_52 ?_
            refine va_copyl hx hb (by rw [hml]; exact hl.1.symm) hown (hts (.methodLink RX1 101 arraycopyName) (by decide +kernel)) (hts (.native arraycopyName) (by decide +kernel)) (hts (.static arraycopyName) (by decide +kernel)) (hts (.initialized "java/lang/System") (by decide +kernel)) hK hP (dk_D hao) hS (10 + x1) 2 1 1 (dk_row hx1) rfl rfl rfl rfl (nI_pos (by omega)) (nI_pos (by omega)) (nI_pos (by omega)) (by rw [nI_clamp (by omega), nI_clamp (by omega)]; omega) (by rw [nI_clamp (by omega), nI_clamp (by omega)]; omega) (fun _ _ => rfl) (Nat.le_of_ble_eq_true rfl) (Nat.le_of_ble_eq_true rfl) dX1_exists_55 (fun H locs hP _ hS => ?_)
            rw [nI_clamp (by omega), nI_clamp (by omega)] at hP
            have hP : va_P D vwCl (dkW N ad cJJ cJ cI (va_cpy (G x1) dr 0 0 (nw N)) re tu kd uh bf la G) H := hP
            refine lv_iload_n hx hb dX1_exists_58 rfl (lv_at hl 3 rfl) ?_
            refine lv_istore (lv' := [(5, .int (nI i)), (0, .ref (ad 0)), (1, .int (nI j)), (2, .int (nI x1)), (3, .int (nI i)), (4, .int (nI i2))]) hx hb dX1_exists_59 hl (by decide) rfl (fun ls hl => ?_)
            have lp_61 : ∀ (n9 v1 : Nat) (d2 : Nat → Int64) (H : Heap) (locs : List Loc) (ls : Array Slot), v1 ≤ i2 + 1 → i2 + 1 + 1 ≤ v1 + n9 → i ≤ v1 → rp (nw N) d2 (exs N i (g x1) (v1 - i)) → va_P D vwCl (dkW N ad cJJ cJ cI d2 re tu kd uh bf la G) H → va_S A s.heap H locs → lv_has ls 6 [(0, .ref (ad 0)), (1, .int (nI j)), (2, .int (nI x1)), (3, .int (nI i)), (4, .int (nI i2)), (5, .int (nI v1))] → W p l e (headSpec wsX1_exists ({ frames := 2, cells := 0, slots := 0, locals := 61 } : Room)).room s m ([.ref (ad 0), .int k, .int a, .int f, .int t1] : List Value).toArray below meth c H locs 0 0 (MQ below (va_Qi (fun (r : Int32) (u : dkS) => r = nI (spE N g k a f t1).isSome.toNat ∧ okG N (dkR u) ((spE N g k a f t1).getD g)) (fun (u : dkS) t => va_P D vwCl (dkU N ad cJJ cJ cI u) t.heap) A) ([.ref (ad 0), .int k, .int a, .int f, .int t1] : List Value).toArray s 0 0 A) (F0 m 61 ls []) := by
              intro n9
              induction n9 with
              | zero => intro v1 d2 H locs ls h1 h2; exact absurd h2 (by omega)
              | succ n9 ih =>
                intro v1 d2 H locs ls hle_61 hmm_61 hiv hI hP hS hl
                have ih_61 := @ih
                refine lv_iload hx hb dX1_exists_61 (lv_at hl 5 rfl) ?_
                refine lv_iload hx hb dX1_exists_63 (lv_at hl 4 rfl) ?_
                refine xa_gt (tgt := 88) hx hb (by omega) (by omega) dX1_exists_65 (by decide) (fun c_65 => ?_) (fun c_65 => ?_)
                · refine lv_aload_n hx hb dX1_exists_88 rfl (lv_at hl 0 rfl) ?_
                  refine lv_iload_n hx hb dX1_exists_89 rfl (lv_at hl 1 rfl) ?_
                  refine va_callv (va_runV (As := [.int (nI j)]) (rest := []) ⟨hx, hb, hml, hown, hts⟩ (c_keepDraft l D _ N hN1 hN ad (aok_true hao) cJJ cJ cI d2 re tu kd uh bf la G j (by omega)) (cwV 1 hts gX1_exists_X1_keepDraft rfl rfl rfl (by decide +kernel) ⟨Nat.le_of_ble_eq_true rfl, Nat.le_of_ble_eq_true rfl⟩) ⟨wp0_blind, va_recv hK hP (ci := 1) (q0 := 0) rfl rfl, fun U hU hW => wp0_of hP hK htb hS (fr_in hao hS hA) hU hW⟩ rfl rfl hl.1 rfl (lv_room (Nat.le_of_ble_eq_true rfl)) dX1_exists_90 ⟨Nat.zero_le _, Nat.zero_le _⟩) hS (fun q _ h => (fr_in hao hS hA) q h) ((fr_in hao hS hA)) (fun u_90 t H1 locs ht hvm hw hB hz1 hk1 hS => ?_)
                  rw [ht] at hB
                  have hP := hB
                  clear hz1 hk1 hB ht
                  generalize H1 = H at hP hS ⊢
                  refine lv_iconst (v := nI 1) hx hb dX1_exists_93 (by decide) ?_
                  exact W.zret (v := (nI 1)) hx hb hr (by decide) (fun t ht hW => ⟨⟨(nI 1), (d2, re, tu, kd, uh, bf, la, va_up G j u_90), rfl, ⟨by rw [hsp]; rfl, by rw [hsp]; exact (okG_up hg (rp_eq (by rw [← show v1 = i2 + 1 by omega]; exact hI) (fun z hz => hw z hz)) (exs_dm hi1 (hg x1 hx1).2 _ (by omega)))⟩, (by show va_P _ _ _ _; rw [ht]; exact hP)⟩, hS.F ht⟩) hS.2.2 dX1_exists_94
                · refine lv_aload_n hx hb dX1_exists_68 rfl (lv_at hl 0 rfl) ?_
                  refine lv_aload_n hx hb dX1_exists_69 rfl (lv_at hl 0 rfl) ?_
                  refine va_get (D := D) (ci := 1) (C := RX1) (T := TX1) (N := 10) hx hb hts (by decide +kernel) hown hK hP 0 rfl rfl 6 (by decide) (hts (.fieldLink RX1 42 "ForkDesk" "draft" "[J") (by decide +kernel)) (fun _ h9 => h9) rfl dX1_exists_70 ?_
                  refine lv_aload_n hx hb dX1_exists_73 rfl (lv_at hl 0 rfl) ?_
                  refine lv_iload hx hb dX1_exists_74 (lv_at hl 5 rfl) ?_
                  refine va_calli (va_runV (As := [.int (nI v1)]) (rest := [.ref (ad 2), .ref (ad 0)]) ⟨hx, hb, hml, hown, hts⟩ (c_bitOf l D _ N ad v1 (by omega)) (cwV 1 hts gX1_exists_X1_bitOf rfl rfl rfl (by decide +kernel) ⟨Nat.le_of_ble_eq_true rfl, Nat.le_of_ble_eq_true rfl⟩) ⟨wp0_blind, va_recv hK hP (ci := 1) (q0 := 0) rfl rfl, fun U hU hW => wp0_of (va_one hP 0 rfl) (hK.sub [] rfl) htb hS no_in hU hW⟩ rfl rfl hl.1 rfl (lv_room (Nat.le_of_ble_eq_true rfl)) dX1_exists_76 ⟨Nat.zero_le _, Nat.zero_le _⟩) hS (fun q _ h => h.elim) (fun q h => h.elim) (fun r_76 u_76 t H1 locs ht hvm hw hB hz1 hk1 hS => ?_)
                  have hP := xa_same hP hk1
                  clear hz1 hk1 hB ht
                  generalize H1 = H at hP hS ⊢
                  subst hw
                  refine va_callv (va_runV (As := [.ref (ad 2), .int (nI (N - v1))]) (rest := []) ⟨hx, hb, hml, hown, hts⟩ (c_spread l D _ N hN ad (ad 2) (fun h => absurd (hao.1 0 2 (by omega) (by omega) h) (by omega)) cJ d2 (N - v1) (by omega)) (cwV 2 hts gX1_exists_X1_spread rfl rfl rfl (by decide +kernel) ⟨Nat.le_of_ble_eq_true rfl, Nat.le_of_ble_eq_true rfl⟩) ⟨wp0_blind, va_recv hK hP (ci := 1) (q0 := 0) rfl rfl, fun U hU hW => wp0_of (hP.sub [0, 2] rfl) (hK.sub [1] rfl) htb hS (one_in (hao.2 2 (by omega))) hU hW⟩ rfl rfl hl.1 rfl (lv_room (Nat.le_of_ble_eq_true rfl)) dX1_exists_79 ⟨Nat.zero_le _, Nat.zero_le _⟩) hS (fun q _ h => (one_in (hao.2 2 (by omega))) q h) ((one_in (hao.2 2 (by omega)))) (fun u_79 t H1 locs ht hvm hw hB hz1 hk1 hS => ?_)
                  rw [ht] at hB
                  have hP := va_put1 hP (dk_D hao) 2 rfl hk1 hB
                  clear hz1 hk1 hB ht
                  generalize H1 = H at hP hS ⊢
                  have hP : va_P D vwCl (dkW N ad cJJ cJ cI u_79 re tu kd uh bf la G) H := hP
                  refine xa_inc (k := 5) (lv' := [(5, .int (nI (v1 + 1))), (0, .ref (ad 0)), (1, .int (nI j)), (2, .int (nI x1)), (3, .int (nI i)), (4, .int (nI i2))]) hx hb dX1_exists_82 hl rfl (by decide) rfl (fun ls hl => ?_)
                  refine lv_goto (tgt := 61) hx hb dX1_exists_85 (by decide) ?_
                  exact ih_61 (v1 + 1) u_79 _ _ _ (by omega) (by omega) (by omega) (by rw [hw, show v1 + 1 - i = (v1 - i) + 1 by omega]; show rp _ _ (sg (N - (i + (v1 - i))) _); rw [show i + (v1 - i) = v1 by omega]; exact spr_rp (by omega) hI) hP hS (lv_sub hl [1, 2, 3, 4, 5, 0] rfl)
            exact lp_61 (i2 + 1 + 1 - i) i (va_cpy (G x1) dr 0 0 (nw N)) _ _ _ (by omega) (by omega) (Nat.le_refl i) (by rw [Nat.sub_self]; exact rp_eq (hg x1 hx1).1 (fun z hz => sb_cpyL hz)) hP hS (lv_sub hl [1, 2, 3, 4, 5, 0] rfl)
          · refine lv_iconst (v := nI 0) hx hb dX1_exists_37 (by decide) ?_
            exact W.zret (v := (nI 0)) hx hb hr (by decide) (fun t ht hW => ⟨⟨(nI 0), (dr, re, tu, kd, uh, bf, la, G), rfl, ⟨by rw [(show spE N g k a f t1 = none from if_neg (by simp [c_4, c_11, c_19, c_28, c_34]))]; rfl, by rw [(show spE N g k a f t1 = none from if_neg (by simp [c_4, c_11, c_19, c_28, c_34]))]; exact hg⟩, (by show va_P _ _ _ _; rw [ht]; exact hP)⟩, hS.F ht⟩) hS.2.2 dX1_exists_38
end
section
set_option maxHeartbeats 4000000 in
set_option maxRecDepth 100000 in
/-- nearest -/
theorem c_nearest (l : Launch) (D : va_G) (sz : Nat) (N : Nat) (hN1 : 1 ≤ N) (hN : N ≤ 12) (ad : Nat → Nat) (hao : aok (fun _ => True) ad) (cJJ cJ cI : ClassId) (dr re : Nat → Int64) (tu kd uh bf la : Nat → Int32) (G : Nat → Nat → Int64) (g : Nat → Nat → Bool) (hg : okG N G g) (k a c1 : Int32) : Met l yX1_nearest wsX1_nearest ({ frames := 2, cells := 0, slots := 0, locals := 61 } : Room) (va_Pc [.ref (ad 0), .int k, .int a, .int c1] (wp0 D (dkW N ad cJJ cJ cI dr re tu kd uh bf la G) (dkT cJJ cJ cI) (fr ad sz) sz)) (va_Qi (fun (r : Int32) (u : dkS) => r = nI (spN N g k a c1).isSome.toNat ∧ okG N (dkR u) ((spN N g k a c1).getD g)) (fun (u : dkS) t => va_P D vwCl (dkU N ad cJJ cJ cI u) t.heap) (fr ad sz)) 0 0 (fr ad sz) := by
  refine Met.ofW (cc := cX1_nearest) (maxL := 6) (ret := (some .boolean)) (by decide) rfl ?_
  intro p e s m args below meth c s₁ B hml hv
  obtain ⟨rfl, hsz, hP, hK, htb⟩ := hv
  have hx := B.exec
  have hb := B.bytes
  have hr := B.returns
  have hts := atoms_spec (ws := wsX1_nearest) B.pre
  have hown : s.vm.findClass RX1 = some m.cls := findClass_of_methodNamed B.named
  have hlocks := B.notSynchronized
  subst hsz
  generalize hAe : fr ad s.heap.size = A at htb ⊢
  have hA : ∀ q : Nat, s.heap.size ≤ q → A q := fun q h => by rw [← hAe]; exact fr_new q h
  have hao : aok A ad := by rw [← hAe]; exact aok_fr hao
  obtain ⟨⟨tt, hZ, hT⟩, hNst⟩ := id htb
  have hS : va_S A s.heap s.heap [] := va_S.rf
  have hl := lv_entry ([.ref (ad 0), .int k, .int a, .int c1]) (n := 6) (Nat.le_of_ble_eq_true rfl)
  rw [lg_entry_eq]
  generalize (lg_sl ([.ref (ad 0), .int k, .int a, .int c1]) ++ List.replicate (6 - (lg_sl ([.ref (ad 0), .int k, .int a, .int c1])).length) Slot.unset).toArray = ls at hl ⊢
  have hl : lv_has ls 6 [(0, .ref (ad 0)), (1, .int k), (2, .int a), (3, .int c1)] := hl
  have hnw := nw_le hN
  have hnwp := nw_pos N
  have hpw := pw_le N
  have hpwp := pw_pos N
  have hnp := np_le hN
  refine lv_iload_n hx hb dX1_nearest_0 rfl (lv_at hl 1 rfl) ?_
  refine va_calli (va_runS (As := [.int k]) (rest := []) ⟨hx, hb, hml, hown, hts⟩ (c_isRegister l D _ k) (va_cwS 1 hts gX1_nearest_X1_isRegister rfl rfl rfl (by decide +kernel) ⟨Nat.le_of_ble_eq_true rfl, Nat.le_of_ble_eq_true rfl⟩) ⟨wp0_blind, fun U hU hW => wp0_of (va_P.sub hP [] rfl) (hK.sub [] rfl) htb hS no_in hU hW⟩ rfl rfl hl.1 rfl (lv_room (Nat.le_of_ble_eq_true rfl)) dX1_nearest_1 ⟨Nat.zero_le _, Nat.zero_le _⟩) hS (fun q _ h => h.elim) (fun q h => h.elim) (fun r_1 u_1 t H1 locs ht hvm hw hB hz1 hk1 hS => ?_)
  have hP := xa_same hP hk1
  clear hz1 hk1 hB ht
  generalize H1 = H at hP hS ⊢
  subst hw
  refine xa_if0 (tgt := 21) hx hb dX1_nearest_4 (by decide) (fun c_4 => ?_) (fun c_4 => ?_)
  · refine lv_iconst (v := nI 0) hx hb dX1_nearest_21 (by decide) ?_
    exact W.zret (v := (nI 0)) hx hb hr (by decide) (fun t ht hW => ⟨⟨(nI 0), (dr, re, tu, kd, uh, bf, la, G), rfl, ⟨by rw [(show spN N g k a c1 = none from if_neg (by simp [c_4]))]; rfl, by rw [(show spN N g k a c1 = none from if_neg (by simp [c_4]))]; exact hg⟩, (by show va_P _ _ _ _; rw [ht]; exact hP)⟩, hS.F ht⟩) hS.2.2 dX1_nearest_22
  · refine lv_iload_n hx hb dX1_nearest_7 rfl (lv_at hl 2 rfl) ?_
    refine va_calli (va_runS (As := [.int a]) (rest := []) ⟨hx, hb, hml, hown, hts⟩ (c_isRegister l D _ a) (va_cwS 1 hts gX1_nearest_X1_isRegister rfl rfl rfl (by decide +kernel) ⟨Nat.le_of_ble_eq_true rfl, Nat.le_of_ble_eq_true rfl⟩) ⟨wp0_blind, fun U hU hW => wp0_of (va_P.sub hP [] rfl) (hK.sub [] rfl) htb hS no_in hU hW⟩ rfl rfl hl.1 rfl (lv_room (Nat.le_of_ble_eq_true rfl)) dX1_nearest_8 ⟨Nat.zero_le _, Nat.zero_le _⟩) hS (fun q _ h => h.elim) (fun q h => h.elim) (fun r_8 u_8 t H1 locs ht hvm hw hB hz1 hk1 hS => ?_)
    have hP := xa_same hP hk1
    clear hz1 hk1 hB ht
    generalize H1 = H at hP hS ⊢
    subst hw
    refine xa_if0 (tgt := 21) hx hb dX1_nearest_11 (by decide) (fun c_11 => ?_) (fun c_11 => ?_)
    · refine lv_iconst (v := nI 0) hx hb dX1_nearest_21 (by decide) ?_
      exact W.zret (v := (nI 0)) hx hb hr (by decide) (fun t ht hW => ⟨⟨(nI 0), (dr, re, tu, kd, uh, bf, la, G), rfl, ⟨by rw [(show spN N g k a c1 = none from if_neg (by simp [c_4, c_11]))]; rfl, by rw [(show spN N g k a c1 = none from if_neg (by simp [c_4, c_11]))]; exact hg⟩, (by show va_P _ _ _ _; rw [ht]; exact hP)⟩, hS.F ht⟩) hS.2.2 dX1_nearest_22
    · refine lv_iload_n hx hb dX1_nearest_14 rfl (lv_at hl 3 rfl) ?_
      refine va_calli (va_runS (As := [.int c1]) (rest := []) ⟨hx, hb, hml, hown, hts⟩ (c_isRegister l D _ c1) (va_cwS 1 hts gX1_nearest_X1_isRegister rfl rfl rfl (by decide +kernel) ⟨Nat.le_of_ble_eq_true rfl, Nat.le_of_ble_eq_true rfl⟩) ⟨wp0_blind, fun U hU hW => wp0_of (va_P.sub hP [] rfl) (hK.sub [] rfl) htb hS no_in hU hW⟩ rfl rfl hl.1 rfl (lv_room (Nat.le_of_ble_eq_true rfl)) dX1_nearest_15 ⟨Nat.zero_le _, Nat.zero_le _⟩) hS (fun q _ h => h.elim) (fun q h => h.elim) (fun r_15 u_15 t H1 locs ht hvm hw hB hz1 hk1 hS => ?_)
      have hP := xa_same hP hk1
      clear hz1 hk1 hB ht
      generalize H1 = H at hP hS ⊢
      subst hw
      refine xa_if1 (tgt := 23) hx hb dX1_nearest_18 (by decide) (fun c_18 => ?_) (fun c_18 => ?_)
      · obtain ⟨j, hj, ej⟩ := isR_t c_4
        rw [ej] at hl
        obtain ⟨x1, hx1, ex1⟩ := isR_t c_11
        rw [ex1] at hl
        obtain ⟨x2, hx2, ex2⟩ := isR_t c_18
        rw [ex2] at hl
        have hsp : spN N g k a c1 = some (va_up g j (ng (g x1) (g x2) N)) := by unfold spN; rw [if_pos (by rw [c_4, c_11, c_18]; rfl), ej, ex1, ex2, ix_nI (by omega), ix_nI (by omega), ix_nI (by omega)]
        refine lv_iconst (v := nI 0) hx hb dX1_nearest_23 (by decide) ?_
        refine lv_istore (lv' := [(4, .int (nI 0)), (0, .ref (ad 0)), (1, .int (nI j)), (2, .int (nI x1)), (3, .int (nI x2))]) hx hb dX1_nearest_24 hl (by decide) rfl (fun ls hl => ?_)
        have lp_26 : ∀ (n9 w : Nat) (d2 : Nat → Int64) (e2 : Nat → Int64) (H : Heap) (locs : List Loc) (ls : Array Slot), w ≤ nw N → nw N + 1 ≤ w + n9 → (∀ z, z < w → e2 z = G x2 z ∧ d2 z = G x1 z &&& G x2 z) → va_P D vwCl (dkW N ad cJJ cJ cI d2 e2 tu kd uh bf la G) H → va_S A s.heap H locs → lv_has ls 6 [(0, .ref (ad 0)), (1, .int (nI j)), (2, .int (nI x1)), (3, .int (nI x2)), (4, .int (nI w))] → W p l e (headSpec wsX1_nearest ({ frames := 2, cells := 0, slots := 0, locals := 61 } : Room)).room s m ([.ref (ad 0), .int k, .int a, .int c1] : List Value).toArray below meth c H locs 0 0 (MQ below (va_Qi (fun (r : Int32) (u : dkS) => r = nI (spN N g k a c1).isSome.toNat ∧ okG N (dkR u) ((spN N g k a c1).getD g)) (fun (u : dkS) t => va_P D vwCl (dkU N ad cJJ cJ cI u) t.heap) A) ([.ref (ad 0), .int k, .int a, .int c1] : List Value).toArray s 0 0 A) (F0 m 26 ls []) := by
          intro n9
          induction n9 with
          | zero => intro w d2 e2 H locs ls h1 h2; exact absurd h2 (by omega)
          | succ n9 ih =>
            intro w d2 e2 H locs ls hle_26 hmm_26 hI hP hS hl
            have ih_26 := @ih
            refine lv_iload hx hb dX1_nearest_26 (lv_at hl 4 rfl) ?_
            refine lv_aload_n hx hb dX1_nearest_28 rfl (lv_at hl 0 rfl) ?_
            refine va_get (D := D) (ci := 1) (C := RX1) (T := TX1) (N := 10) hx hb hts (by decide +kernel) hown hK hP 0 rfl rfl 2 (by decide) (hts (.fieldLink RX1 25 "ForkDesk" "words" "I") (by decide +kernel)) (fun _ h9 => h9) rfl dX1_nearest_29 ?_
            refine xa_ge (tgt := 83) hx hb (by omega) (by omega) dX1_nearest_32 (by decide) (fun c_32 => ?_) (fun c_32 => ?_)
            · refine lv_iconst (v := nI 0) hx hb dX1_nearest_83 (by decide) ?_
              refine lv_istore (lv' := [(4, .int (nI 0)), (0, .ref (ad 0)), (1, .int (nI j)), (2, .int (nI x1)), (3, .int (nI x2))]) hx hb dX1_nearest_84 hl (by decide) rfl (fun ls hl => ?_)
              have lp_86 : ∀ (n9 b : Nat) (d3 : Nat → Int64) (e3 : Nat → Int64) (H : Heap) (locs : List Loc) (ls : Array Slot), b ≤ N → N + 1 ≤ b + n9 → rp (nw N) e3 (nc (g x2) b) → rp (nw N) d3 (ng (g x1) (g x2) b) → va_P D vwCl (dkW N ad cJJ cJ cI d3 e3 tu kd uh bf la G) H → va_S A s.heap H locs → lv_has ls 6 [(0, .ref (ad 0)), (1, .int (nI j)), (2, .int (nI x1)), (3, .int (nI x2)), (4, .int (nI b))] → W p l e (headSpec wsX1_nearest ({ frames := 2, cells := 0, slots := 0, locals := 61 } : Room)).room s m ([.ref (ad 0), .int k, .int a, .int c1] : List Value).toArray below meth c H locs 0 0 (MQ below (va_Qi (fun (r : Int32) (u : dkS) => r = nI (spN N g k a c1).isSome.toNat ∧ okG N (dkR u) ((spN N g k a c1).getD g)) (fun (u : dkS) t => va_P D vwCl (dkU N ad cJJ cJ cI u) t.heap) A) ([.ref (ad 0), .int k, .int a, .int c1] : List Value).toArray s 0 0 A) (F0 m 86 ls []) := by
                intro n9
                induction n9 with
                | zero => intro b d3 e3 H locs ls h1 h2; exact absurd h2 (by omega)
                | succ n9 ih =>
                  intro b d3 e3 H locs ls hle_86 hmm_86 hc hd hP hS hl
                  have ih_86 := @ih
                  refine lv_iload hx hb dX1_nearest_86 (lv_at hl 4 rfl) ?_
                  refine lv_aload_n hx hb dX1_nearest_88 rfl (lv_at hl 0 rfl) ?_
                  refine va_get (D := D) (ci := 1) (C := RX1) (T := TX1) (N := 10) hx hb hts (by decide +kernel) hown hK hP 0 rfl rfl 0 (by decide) (hts (.fieldLink RX1 18 "ForkDesk" "variables" "I") (by decide +kernel)) (fun _ h9 => h9) rfl dX1_nearest_89 ?_
                  refine xa_ge (tgt := 162) hx hb (by omega) (by omega) dX1_nearest_92 (by decide) (fun c_92 => ?_) (fun c_92 => ?_)
                  · refine lv_aload_n hx hb dX1_nearest_162 rfl (lv_at hl 0 rfl) ?_
                    refine lv_iload_n hx hb dX1_nearest_163 rfl (lv_at hl 1 rfl) ?_
                    refine va_callv (va_runV (As := [.int (nI j)]) (rest := []) ⟨hx, hb, hml, hown, hts⟩ (c_keepDraft l D _ N hN1 hN ad (aok_true hao) cJJ cJ cI d3 e3 tu kd uh bf la G j (by omega)) (cwV 1 hts gX1_nearest_X1_keepDraft rfl rfl rfl (by decide +kernel) ⟨Nat.le_of_ble_eq_true rfl, Nat.le_of_ble_eq_true rfl⟩) ⟨wp0_blind, va_recv hK hP (ci := 1) (q0 := 0) rfl rfl, fun U hU hW => wp0_of hP hK htb hS (fr_in hao hS hA) hU hW⟩ rfl rfl hl.1 rfl (lv_room (Nat.le_of_ble_eq_true rfl)) dX1_nearest_164 ⟨Nat.zero_le _, Nat.zero_le _⟩) hS (fun q _ h => (fr_in hao hS hA) q h) ((fr_in hao hS hA)) (fun u_164 t H1 locs ht hvm hw hB hz1 hk1 hS => ?_)
                    rw [ht] at hB
                    have hP := hB
                    clear hz1 hk1 hB ht
                    generalize H1 = H at hP hS ⊢
                    refine lv_iconst (v := nI 1) hx hb dX1_nearest_167 (by decide) ?_
                    exact W.zret (v := (nI 1)) hx hb hr (by decide) (fun t ht hW => ⟨⟨(nI 1), (d3, e3, tu, kd, uh, bf, la, va_up G j u_164), rfl, ⟨by rw [hsp]; rfl, by rw [hsp]; exact (okG_up hg (rp_eq (by have e9 : b = N := (by omega); rw [e9] at hd; exact hd) (fun z hz => hw z hz)) (ng_dm (hg x2 hx2).2 (Nat.le_refl N)))⟩, (by show va_P _ _ _ _; rw [ht]; exact hP)⟩, hS.F ht⟩) hS.2.2 dX1_nearest_168
                  · refine lv_iconst (v := nI 0) hx hb dX1_nearest_95 (by decide) ?_
                    refine lv_istore (lv' := [(5, .int (nI 0)), (0, .ref (ad 0)), (1, .int (nI j)), (2, .int (nI x1)), (3, .int (nI x2)), (4, .int (nI b))]) hx hb dX1_nearest_96 hl (by decide) rfl (fun ls hl => ?_)
                    have lp_98 : ∀ (n9 w : Nat) (d4 : Nat → Int64) (H : Heap) (locs : List Loc) (ls : Array Slot), w ≤ nw N → nw N + 1 ≤ w + n9 → d4 = nst b e3 d3 w → va_P D vwCl (dkW N ad cJJ cJ cI d4 e3 tu kd uh bf la G) H → va_S A s.heap H locs → lv_has ls 6 [(0, .ref (ad 0)), (1, .int (nI j)), (2, .int (nI x1)), (3, .int (nI x2)), (4, .int (nI b)), (5, .int (nI w))] → W p l e (headSpec wsX1_nearest ({ frames := 2, cells := 0, slots := 0, locals := 61 } : Room)).room s m ([.ref (ad 0), .int k, .int a, .int c1] : List Value).toArray below meth c H locs 0 0 (MQ below (va_Qi (fun (r : Int32) (u : dkS) => r = nI (spN N g k a c1).isSome.toNat ∧ okG N (dkR u) ((spN N g k a c1).getD g)) (fun (u : dkS) t => va_P D vwCl (dkU N ad cJJ cJ cI u) t.heap) A) ([.ref (ad 0), .int k, .int a, .int c1] : List Value).toArray s 0 0 A) (F0 m 98 ls []) := by
                      intro n9
                      induction n9 with
                      | zero => intro w d4 H locs ls h1 h2; exact absurd h2 (by omega)
                      | succ n9 ih =>
                        intro w d4 H locs ls hle_98 hmm_98 hJ hP hS hl
                        have ih_98 := @ih
                        refine lv_iload hx hb dX1_nearest_98 (lv_at hl 5 rfl) ?_
                        refine lv_aload_n hx hb dX1_nearest_100 rfl (lv_at hl 0 rfl) ?_
                        refine va_get (D := D) (ci := 1) (C := RX1) (T := TX1) (N := 10) hx hb hts (by decide +kernel) hown hK hP 0 rfl rfl 2 (by decide) (hts (.fieldLink RX1 25 "ForkDesk" "words" "I") (by decide +kernel)) (fun _ h9 => h9) rfl dX1_nearest_101 ?_
                        refine xa_ge (tgt := 146) hx hb (by omega) (by omega) dX1_nearest_104 (by decide) (fun c_104 => ?_) (fun c_104 => ?_)
                        · refine lv_aload_n hx hb dX1_nearest_146 rfl (lv_at hl 0 rfl) ?_
                          refine lv_aload_n hx hb dX1_nearest_147 rfl (lv_at hl 0 rfl) ?_
                          refine va_get (D := D) (ci := 1) (C := RX1) (T := TX1) (N := 10) hx hb hts (by decide +kernel) hown hK hP 0 rfl rfl 7 (by decide) (hts (.fieldLink RX1 46 "ForkDesk" "reached" "[J") (by decide +kernel)) (fun _ h9 => h9) rfl dX1_nearest_148 ?_
                          refine lv_iload hx hb dX1_nearest_151 (lv_at hl 4 rfl) ?_
                          refine va_callv (va_runV (As := [.ref (ad 3), .int (nI b)]) (rest := []) ⟨hx, hb, hml, hown, hts⟩ (c_spread l D _ N hN ad (ad 3) (fun h => absurd (hao.1 0 3 (by omega) (by omega) h) (by omega)) cJ e3 b (by omega)) (cwV 2 hts gX1_nearest_X1_spread rfl rfl rfl (by decide +kernel) ⟨Nat.le_of_ble_eq_true rfl, Nat.le_of_ble_eq_true rfl⟩) ⟨wp0_blind, va_recv hK hP (ci := 1) (q0 := 0) rfl rfl, fun U hU hW => wp0_of (hP.sub [0, 3] rfl) (hK.sub [1] rfl) htb hS (one_in (hao.2 3 (by omega))) hU hW⟩ rfl rfl hl.1 rfl (lv_room (Nat.le_of_ble_eq_true rfl)) dX1_nearest_153 ⟨Nat.zero_le _, Nat.zero_le _⟩) hS (fun q _ h => (one_in (hao.2 3 (by omega))) q h) ((one_in (hao.2 3 (by omega)))) (fun u_153 t H1 locs ht hvm hw hB hz1 hk1 hS => ?_)
                          rw [ht] at hB
                          have hP := va_put1 hP (dk_D hao) 3 rfl hk1 hB
                          clear hz1 hk1 hB ht
                          generalize H1 = H at hP hS ⊢
                          have hP : va_P D vwCl (dkW N ad cJJ cJ cI d4 u_153 tu kd uh bf la G) H := hP
                          refine xa_inc (k := 4) (lv' := [(4, .int (nI (b + 1))), (0, .ref (ad 0)), (1, .int (nI j)), (2, .int (nI x1)), (3, .int (nI x2)), (5, .int (nI w))]) hx hb dX1_nearest_156 hl rfl (by decide) rfl (fun ls hl => ?_)
                          refine lv_goto (tgt := 86) hx hb dX1_nearest_159 (by decide) ?_
                          exact ih_86 (b + 1) d4 u_153 _ _ _ (by omega) (by omega) (by rw [hw, ← nc_sg]; exact spr_rp (by omega) hc) (by rw [hJ, show w = nw N by omega]; exact nst_rp (by omega) hd hc) hP hS (lv_sub hl [1, 2, 3, 4, 0] rfl)
                        · refine lv_aload_n hx hb dX1_nearest_107 rfl (lv_at hl 0 rfl) ?_
                          refine va_get (D := D) (ci := 1) (C := RX1) (T := TX1) (N := 10) hx hb hts (by decide +kernel) hown hK hP 0 rfl rfl 6 (by decide) (hts (.fieldLink RX1 42 "ForkDesk" "draft" "[J") (by decide +kernel)) (fun _ h9 => h9) rfl dX1_nearest_108 ?_
                          refine lv_iload hx hb dX1_nearest_111 (lv_at hl 5 rfl) ?_
                          refine lv_dup2_11 hx hb dX1_nearest_113 rfl rfl ?_
                          refine xa_lald hx hb hK hP 2 1 rfl rfl (w := w) (by omega) (by omega) dX1_nearest_114 ?_
                          refine lv_aload_n hx hb dX1_nearest_115 rfl (lv_at hl 0 rfl) ?_
                          refine va_get (D := D) (ci := 1) (C := RX1) (T := TX1) (N := 10) hx hb hts (by decide +kernel) hown hK hP 0 rfl rfl 6 (by decide) (hts (.fieldLink RX1 42 "ForkDesk" "draft" "[J") (by decide +kernel)) (fun _ h9 => h9) rfl dX1_nearest_116 ?_
                          refine lv_iload hx hb dX1_nearest_119 (lv_at hl 5 rfl) ?_
                          refine lv_iload hx hb dX1_nearest_121 (lv_at hl 4 rfl) ?_
                          refine va_calll (va_runS (As := [.ref (ad 2), .int (nI w), .int (nI b)]) (rest := [.long (d4 w), .int (nI w), .ref (ad 2)]) ⟨hx, hb, hml, hown, hts⟩ (c_acrossBit l D _ N (ad 2) cJ d4 w b hN (by omega) (by omega)) (va_cwS 3 hts gX1_nearest_X1_acrossBit rfl rfl rfl (by decide +kernel) ⟨Nat.le_of_ble_eq_true rfl, Nat.le_of_ble_eq_true rfl⟩) ⟨wp0_blind, fun U hU hW => wp0_of (va_one hP 2 rfl) (hK.sub [1] rfl) htb hS no_in hU hW⟩ rfl rfl hl.1 rfl (lv_room (Nat.le_of_ble_eq_true rfl)) dX1_nearest_123 ⟨Nat.zero_le _, Nat.zero_le _⟩) hS (fun q _ h => h.elim) (fun q h => h.elim) (fun r_123 u_123 t H1 locs ht hvm hw hB hz1 hk1 hS => ?_)
                          have hP := xa_same hP hk1
                          clear hz1 hk1 hB ht
                          generalize H1 = H at hP hS ⊢
                          subst hw
                          refine lv_aload_n hx hb dX1_nearest_126 rfl (lv_at hl 0 rfl) ?_
                          refine va_get (D := D) (ci := 1) (C := RX1) (T := TX1) (N := 10) hx hb hts (by decide +kernel) hown hK hP 0 rfl rfl 7 (by decide) (hts (.fieldLink RX1 46 "ForkDesk" "reached" "[J") (by decide +kernel)) (fun _ h9 => h9) rfl dX1_nearest_127 ?_
                          refine lv_iload hx hb dX1_nearest_130 (lv_at hl 5 rfl) ?_
                          refine xa_lald hx hb hK hP 3 1 rfl rfl (w := w) (by omega) (by omega) dX1_nearest_132 ?_
                          refine lv_ldc2 (v := (-1)) hx hb hown (hts (.constantLong RX1 31 (-1)) (by decide +kernel)) dX1_nearest_133 ?_
                          refine lv_lxor hx hb dX1_nearest_136 ?_
                          refine lv_land hx hb dX1_nearest_137 ?_
                          refine lv_lor hx hb dX1_nearest_138 ?_
                          refine xa_last hx hb hK hP (dk_D hao) hS 2 1 rfl rfl (w := w) (by omega) (by omega) dX1_nearest_139 (fun H locs hP _ hS => ?_)
                          have hP : va_P D vwCl (dkW N ad cJJ cJ cI (vp_updL d4 w ((d4 w) ||| ((acr d4 w b) &&& ((e3 w) ^^^ (-1))))) e3 tu kd uh bf la G) H := hP
                          refine xa_inc (k := 5) (lv' := [(5, .int (nI (w + 1))), (0, .ref (ad 0)), (1, .int (nI j)), (2, .int (nI x1)), (3, .int (nI x2)), (4, .int (nI b))]) hx hb dX1_nearest_140 hl rfl (by decide) rfl (fun ls hl => ?_)
                          refine lv_goto (tgt := 98) hx hb dX1_nearest_143 (by decide) ?_
                          exact ih_98 (w + 1) (vp_updL d4 w ((d4 w) ||| ((acr d4 w b) &&& ((e3 w) ^^^ (-1))))) _ _ _ (by omega) (by omega) (by subst hJ; rfl) hP hS (lv_sub hl [1, 2, 3, 4, 5, 0] rfl)
                    exact lp_98 (nw N + 1 - 0) 0 d3 _ _ _ (by omega) (by omega) rfl hP hS (lv_sub hl [1, 2, 3, 4, 5, 0] rfl)
              exact lp_86 (N + 1 - 0) 0 d2 e2 _ _ _ (by omega) (by omega) (fun z y hz hy => by rw [(hI z (by omega)).1, nc_0]; exact (hg x2 hx2).1 z y hz hy) (fun z y hz hy => by rw [(hI z (by omega)).2, ng_0, lb_and, (hg x1 hx1).1 z y hz hy, (hg x2 hx2).1 z y hz hy]) hP hS (lv_sub hl [1, 2, 3, 4, 0] rfl)
            · refine lv_aload_n hx hb dX1_nearest_35 rfl (lv_at hl 0 rfl) ?_
              refine va_get (D := D) (ci := 1) (C := RX1) (T := TX1) (N := 10) hx hb hts (by decide +kernel) hown hK hP 0 rfl rfl 7 (by decide) (hts (.fieldLink RX1 46 "ForkDesk" "reached" "[J") (by decide +kernel)) (fun _ h9 => h9) rfl dX1_nearest_36 ?_
              refine lv_iload hx hb dX1_nearest_39 (lv_at hl 4 rfl) ?_
              refine lv_aload_n hx hb dX1_nearest_41 rfl (lv_at hl 0 rfl) ?_
              refine va_get (D := D) (ci := 1) (C := RX1) (T := TX1) (N := 10) hx hb hts (by decide +kernel) hown hK hP 0 rfl rfl 5 (by decide) (hts (.fieldLink RX1 39 "ForkDesk" "registers" "[[J") (by decide +kernel)) (fun _ h9 => h9) rfl dX1_nearest_42 ?_
              refine lv_iload_n hx hb dX1_nearest_45 rfl (lv_at hl 3 rfl) ?_
              refine xa_aald hx hb hK hP 1 0 rfl rfl (w := x2) (y := ad (10 + x2)) (by omega) (by decide) rfl dX1_nearest_46 ?_
              refine lv_iload hx hb dX1_nearest_47 (lv_at hl 4 rfl) ?_
              refine xa_lald hx hb hK hP (10 + x2) 1 (dk_row (by omega)) rfl (w := w) (by omega) (by omega) dX1_nearest_49 ?_
              refine xa_last hx hb hK hP (dk_D hao) hS 3 1 rfl rfl (w := w) (by omega) (by omega) dX1_nearest_50 (fun H locs hP _ hS => ?_)
              have hP : va_P D vwCl (dkW N ad cJJ cJ cI d2 (vp_updL e2 w (G x2 w)) tu kd uh bf la G) H := hP
              refine lv_aload_n hx hb dX1_nearest_51 rfl (lv_at hl 0 rfl) ?_
              refine va_get (D := D) (ci := 1) (C := RX1) (T := TX1) (N := 10) hx hb hts (by decide +kernel) hown hK hP 0 rfl rfl 6 (by decide) (hts (.fieldLink RX1 42 "ForkDesk" "draft" "[J") (by decide +kernel)) (fun _ h9 => h9) rfl dX1_nearest_52 ?_
              refine lv_iload hx hb dX1_nearest_55 (lv_at hl 4 rfl) ?_
              refine lv_aload_n hx hb dX1_nearest_57 rfl (lv_at hl 0 rfl) ?_
              refine va_get (D := D) (ci := 1) (C := RX1) (T := TX1) (N := 10) hx hb hts (by decide +kernel) hown hK hP 0 rfl rfl 5 (by decide) (hts (.fieldLink RX1 39 "ForkDesk" "registers" "[[J") (by decide +kernel)) (fun _ h9 => h9) rfl dX1_nearest_58 ?_
              refine lv_iload_n hx hb dX1_nearest_61 rfl (lv_at hl 2 rfl) ?_
              refine xa_aald hx hb hK hP 1 0 rfl rfl (w := x1) (y := ad (10 + x1)) (by omega) (by decide) rfl dX1_nearest_62 ?_
              refine lv_iload hx hb dX1_nearest_63 (lv_at hl 4 rfl) ?_
              refine xa_lald hx hb hK hP (10 + x1) 1 (dk_row (by omega)) rfl (w := w) (by omega) (by omega) dX1_nearest_65 ?_
              refine lv_aload_n hx hb dX1_nearest_66 rfl (lv_at hl 0 rfl) ?_
              refine va_get (D := D) (ci := 1) (C := RX1) (T := TX1) (N := 10) hx hb hts (by decide +kernel) hown hK hP 0 rfl rfl 5 (by decide) (hts (.fieldLink RX1 39 "ForkDesk" "registers" "[[J") (by decide +kernel)) (fun _ h9 => h9) rfl dX1_nearest_67 ?_
              refine lv_iload_n hx hb dX1_nearest_70 rfl (lv_at hl 3 rfl) ?_
              refine xa_aald hx hb hK hP 1 0 rfl rfl (w := x2) (y := ad (10 + x2)) (by omega) (by decide) rfl dX1_nearest_71 ?_
              refine lv_iload hx hb dX1_nearest_72 (lv_at hl 4 rfl) ?_
              refine xa_lald hx hb hK hP (10 + x2) 1 (dk_row (by omega)) rfl (w := w) (by omega) (by omega) dX1_nearest_74 ?_
              refine lv_land hx hb dX1_nearest_75 ?_
              refine xa_last hx hb hK hP (dk_D hao) hS 2 1 rfl rfl (w := w) (by omega) (by omega) dX1_nearest_76 (fun H locs hP _ hS => ?_)
              have hP : va_P D vwCl (dkW N ad cJJ cJ cI (vp_updL d2 w ((G x1 w) &&& (G x2 w))) (vp_updL e2 w (G x2 w)) tu kd uh bf la G) H := hP
              refine xa_inc (k := 4) (lv' := [(4, .int (nI (w + 1))), (0, .ref (ad 0)), (1, .int (nI j)), (2, .int (nI x1)), (3, .int (nI x2))]) hx hb dX1_nearest_77 hl rfl (by decide) rfl (fun ls hl => ?_)
              refine lv_goto (tgt := 26) hx hb dX1_nearest_80 (by decide) ?_
              exact ih_26 (w + 1) (vp_updL d2 w ((G x1 w) &&& (G x2 w))) (vp_updL e2 w (G x2 w)) _ _ _ (by omega) (by omega) (fun z hz => by by_cases hzw : z = w; (subst hzw; rw [pk_uLs, pk_uLs]; exact ⟨rfl, rfl⟩); (rw [pk_uLn hzw, pk_uLn hzw]; exact hI z (by omega))) hP hS (lv_sub hl [1, 2, 3, 4, 0] rfl)
        exact lp_26 (nw N + 1 - 0) 0 dr re _ _ _ (by omega) (by omega) (fun z hz => absurd hz (by omega)) hP hS (lv_sub hl [1, 2, 3, 4, 0] rfl)
      · refine lv_iconst (v := nI 0) hx hb dX1_nearest_21 (by decide) ?_
        exact W.zret (v := (nI 0)) hx hb hr (by decide) (fun t ht hW => ⟨⟨(nI 0), (dr, re, tu, kd, uh, bf, la, G), rfl, ⟨by rw [(show spN N g k a c1 = none from if_neg (by simp [c_4, c_11, c_18]))]; rfl, by rw [(show spN N g k a c1 = none from if_neg (by simp [c_4, c_11, c_18]))]; exact hg⟩, (by show va_P _ _ _ _; rw [ht]; exact hP)⟩, hS.F ht⟩) hS.2.2 dX1_nearest_22
end
section
set_option maxHeartbeats 4000000 in
set_option maxRecDepth 100000 in
/-- at -/
theorem c_at (l : Launch) (D : va_G) (sz : Nat) (N : Nat) (hN1 : 1 ≤ N) (hN : N ≤ 12) (ad : Nat → Nat) (hao : aok (fun _ => True) ad) (cJJ cJ cI : ClassId) (dr re : Nat → Int64) (tu kd uh bf la : Nat → Int32) (G : Nat → Nat → Int64) (g : Nat → Nat → Bool) (hg : okG N G g) (k q : Int32) : Met l yX1_at wsX1_at ({ frames := 1, cells := 0, slots := 0, locals := 21 } : Room) (va_Pc [.ref (ad 0), .int k, .int q] (wp0 D (dkW N ad cJJ cJ cI dr re tu kd uh bf la G) (dkT cJJ cJ cI) (fun _ : Nat => False) sz)) (va_Qi (fun (r : Int32) (_ : Unit) => r = sAt N g k q) (fun _ _ => True) (fun _ : Nat => False)) 0 0 (fun _ : Nat => False) := by
  refine Met.ofW (cc := cX1_at) (maxL := 3) (ret := (some .int)) (by decide) rfl ?_
  intro p e s m args below meth c s₁ B hml hv
  obtain ⟨rfl, hsz, hP, hK, htb⟩ := hv
  have hx := B.exec
  have hb := B.bytes
  have hr := B.returns
  have hts := atoms_spec (ws := wsX1_at) B.pre
  have hown : s.vm.findClass RX1 = some m.cls := findClass_of_methodNamed B.named
  have hlocks := B.notSynchronized
  subst hsz
  obtain ⟨⟨tt, hZ, hT⟩, hNst⟩ := id htb
  have hS : va_S (fun _ : Nat => False) s.heap s.heap [] := va_S.rf
  have hl := lv_entry ([.ref (ad 0), .int k, .int q]) (n := 3) (Nat.le_of_ble_eq_true rfl)
  rw [lg_entry_eq]
  generalize (lg_sl ([.ref (ad 0), .int k, .int q]) ++ List.replicate (3 - (lg_sl ([.ref (ad 0), .int k, .int q])).length) Slot.unset).toArray = ls at hl ⊢
  have hl : lv_has ls 3 [(0, .ref (ad 0)), (1, .int k), (2, .int q)] := hl
  have hnw := nw_le hN
  have hnwp := nw_pos N
  have hpw := pw_le N
  have hpwp := pw_pos N
  have hnp := np_le hN
  refine lv_iload_n hx hb dX1_at_0 rfl (lv_at hl 1 rfl) ?_
  refine va_calli (va_runS (As := [.int k]) (rest := []) ⟨hx, hb, hml, hown, hts⟩ (c_isRegister l D _ k) (va_cwS 1 hts gX1_at_X1_isRegister rfl rfl rfl (by decide +kernel) ⟨Nat.le_of_ble_eq_true rfl, Nat.le_of_ble_eq_true rfl⟩) ⟨wp0_blind, fun U hU hW => wp0_of (va_P.sub hP [] rfl) (hK.sub [] rfl) htb hS no_in hU hW⟩ rfl rfl hl.1 rfl (lv_room (Nat.le_of_ble_eq_true rfl)) dX1_at_1 ⟨Nat.zero_le _, Nat.zero_le _⟩) hS (fun q _ h => h.elim) (fun q h => h.elim) (fun r_1 u_1 t H1 locs ht hvm hw hB hz1 hk1 hS => ?_)
  have hP := xa_same hP hk1
  clear hz1 hk1 hB ht
  generalize H1 = H at hP hS ⊢
  subst hw
  refine xa_if0 (tgt := 19) hx hb dX1_at_4 (by decide) (fun c_4 => ?_) (fun c_4 => ?_)
  · refine lv_iconst (v := (-1)) hx hb dX1_at_19 (by decide) ?_
    exact W.iret (v := (-1)) hx hb hr (fun t ht hW => ⟨⟨(-1), (), rfl, (by unfold sAt; rw [if_neg (by simp [isP, c_4])]), trivial⟩, hS.F ht⟩) hS.2.2 dX1_at_20
  · refine lv_iload_n hx hb dX1_at_7 rfl (lv_at hl 2 rfl) ?_
    refine lv_if_lt (tgt := 19) hx hb dX1_at_8 (by decide) (fun c_8 => ?_) (fun c_8 => ?_)
    · refine lv_iconst (v := (-1)) hx hb dX1_at_19 (by decide) ?_
      exact W.iret (v := (-1)) hx hb hr (fun t ht hW => ⟨⟨(-1), (), rfl, (by unfold sAt; rw [if_neg (by simp [isP, c_4, c_8])]), trivial⟩, hS.F ht⟩) hS.2.2 dX1_at_20
    · refine lv_iload_n hx hb dX1_at_11 rfl (lv_at hl 2 rfl) ?_
      refine lv_aload_n hx hb dX1_at_12 rfl (lv_at hl 0 rfl) ?_
      refine va_get (D := D) (ci := 1) (C := RX1) (T := TX1) (N := 10) hx hb hts (by decide +kernel) hown hK hP 0 rfl rfl 1 (by decide) (hts (.fieldLink RX1 22 "ForkDesk" "points" "I") (by decide +kernel)) (fun _ h9 => h9) rfl dX1_at_13 ?_
      refine lv_icmp_lt (tgt := 21) hx hb dX1_at_16 (by decide) (fun c_16 => ?_) (fun c_16 => ?_)
      · obtain ⟨j, hj, ej⟩ := isR_t c_4
        rw [ej] at hl
        obtain ⟨pp, hpp, epp⟩ := pt_of c_8 c_16 (by omega)
        rw [epp] at hl
        have hpn := pt_nw hpp
        refine lv_aload_n hx hb dX1_at_21 rfl (lv_at hl 0 rfl) ?_
        refine va_get (D := D) (ci := 1) (C := RX1) (T := TX1) (N := 10) hx hb hts (by decide +kernel) hown hK hP 0 rfl rfl 5 (by decide) (hts (.fieldLink RX1 39 "ForkDesk" "registers" "[[J") (by decide +kernel)) (fun _ h9 => h9) rfl dX1_at_22 ?_
        refine lv_iload_n hx hb dX1_at_25 rfl (lv_at hl 1 rfl) ?_
        refine xa_aald hx hb hK hP 1 0 rfl rfl (w := j) (y := ad (10 + j)) (by omega) (by decide) rfl dX1_at_26 ?_
        refine lv_iload_n hx hb dX1_at_27 rfl (lv_at hl 2 rfl) ?_
        refine va_calli (va_runS (As := [.ref (ad (10 + j)), .int (nI pp)]) (rest := []) ⟨hx, hb, hml, hown, hts⟩ (c_valueAt l D _ (ad (10 + j)) cJ (nw N) (G j) pp (by omega) (by omega) (by omega)) (va_cwS 2 hts gX1_at_X1_valueAt rfl rfl rfl (by decide +kernel) ⟨Nat.le_of_ble_eq_true rfl, Nat.le_of_ble_eq_true rfl⟩) ⟨wp0_blind, fun U hU hW => wp0_of (va_one hP (10 + j) (dk_row (by omega))) (hK.sub [1] rfl) htb hS no_in hU hW⟩ rfl rfl hl.1 rfl (lv_room (Nat.le_of_ble_eq_true rfl)) dX1_at_28 ⟨Nat.zero_le _, Nat.zero_le _⟩) hS (fun q _ h => h.elim) (fun q h => h.elim) (fun r_28 u_28 t H1 locs ht hvm hw hB hz1 hk1 hS => ?_)
        have hP := xa_same hP hk1
        clear hz1 hk1 hB ht
        generalize H1 = H at hP hS ⊢
        subst hw
        exact W.iret (v := (nI ((lb (G j (pp / 64)) (pp % 64)).toNat))) hx hb hr (fun t ht hW => ⟨⟨(nI ((lb (G j (pp / 64)) (pp % 64)).toNat)), (), rfl, (by unfold sAt; rw [if_pos (by rw [c_4, show isP N q = true from decide_eq_true ⟨c_8, c_16⟩]; rfl), ej, epp, ix_nI (by omega), ix_nI (by omega), (hg j hj).1 _ _ hpn.1 (Nat.mod_lt _ (by omega)), Nat.div_add_mod]), trivial⟩, hS.F ht⟩) hS.2.2 dX1_at_31
      · refine lv_iconst (v := (-1)) hx hb dX1_at_19 (by decide) ?_
        exact W.iret (v := (-1)) hx hb hr (fun t ht hW => ⟨⟨(-1), (), rfl, (by unfold sAt; rw [if_neg (by simp [isP, c_4, c_8, c_16])]), trivial⟩, hS.F ht⟩) hS.2.2 dX1_at_20

set_option maxHeartbeats 4000000 in
set_option maxRecDepth 100000 in
/-- same -/
theorem c_same (l : Launch) (D : va_G) (sz : Nat) (N : Nat) (hN1 : 1 ≤ N) (hN : N ≤ 12) (ad : Nat → Nat) (hao : aok (fun _ => True) ad) (cJJ cJ cI : ClassId) (dr re : Nat → Int64) (tu kd uh bf la : Nat → Int32) (G : Nat → Nat → Int64) (g : Nat → Nat → Bool) (hg : okG N G g) (a b : Int32) : Met l yX1_same wsX1_same ({ frames := 1, cells := 0, slots := 0, locals := 20 } : Room) (va_Pc [.ref (ad 0), .int a, .int b] (wp0 D (dkW N ad cJJ cJ cI dr re tu kd uh bf la G) (dkT cJJ cJ cI) (fun _ : Nat => False) sz)) (va_Qi (fun (r : Int32) (_ : Unit) => r = nI (sSm N g a b).toNat) (fun _ _ => True) (fun _ : Nat => False)) 0 0 (fun _ : Nat => False) := by
  refine Met.ofW (cc := cX1_same) (maxL := 4) (ret := (some .boolean)) (by decide) rfl ?_
  intro p e s m args below meth c s₁ B hml hv
  obtain ⟨rfl, hsz, hP, hK, htb⟩ := hv
  have hx := B.exec
  have hb := B.bytes
  have hr := B.returns
  have hts := atoms_spec (ws := wsX1_same) B.pre
  have hown : s.vm.findClass RX1 = some m.cls := findClass_of_methodNamed B.named
  have hlocks := B.notSynchronized
  subst hsz
  obtain ⟨⟨tt, hZ, hT⟩, hNst⟩ := id htb
  have hS : va_S (fun _ : Nat => False) s.heap s.heap [] := va_S.rf
  have hl := lv_entry ([.ref (ad 0), .int a, .int b]) (n := 4) (Nat.le_of_ble_eq_true rfl)
  rw [lg_entry_eq]
  generalize (lg_sl ([.ref (ad 0), .int a, .int b]) ++ List.replicate (4 - (lg_sl ([.ref (ad 0), .int a, .int b])).length) Slot.unset).toArray = ls at hl ⊢
  have hl : lv_has ls 4 [(0, .ref (ad 0)), (1, .int a), (2, .int b)] := hl
  have hnw := nw_le hN
  have hnwp := nw_pos N
  have hpw := pw_le N
  have hpwp := pw_pos N
  have hnp := np_le hN
  refine lv_iload_n hx hb dX1_same_0 rfl (lv_at hl 1 rfl) ?_
  refine va_calli (va_runS (As := [.int a]) (rest := []) ⟨hx, hb, hml, hown, hts⟩ (c_isRegister l D _ a) (va_cwS 1 hts gX1_same_X1_isRegister rfl rfl rfl (by decide +kernel) ⟨Nat.le_of_ble_eq_true rfl, Nat.le_of_ble_eq_true rfl⟩) ⟨wp0_blind, fun U hU hW => wp0_of (va_P.sub hP [] rfl) (hK.sub [] rfl) htb hS no_in hU hW⟩ rfl rfl hl.1 rfl (lv_room (Nat.le_of_ble_eq_true rfl)) dX1_same_1 ⟨Nat.zero_le _, Nat.zero_le _⟩) hS (fun q _ h => h.elim) (fun q h => h.elim) (fun r_1 u_1 t H1 locs ht hvm hw hB hz1 hk1 hS => ?_)
  have hP := xa_same hP hk1
  clear hz1 hk1 hB ht
  generalize H1 = H at hP hS ⊢
  subst hw
  refine xa_if0 (tgt := 14) hx hb dX1_same_4 (by decide) (fun c_4 => ?_) (fun c_4 => ?_)
  · refine lv_iconst (v := nI 0) hx hb dX1_same_14 (by decide) ?_
    exact W.zret (v := (nI 0)) hx hb hr (by decide) (fun t ht hW => ⟨⟨(nI 0), (), rfl, (by unfold sSm; simp [c_4]), trivial⟩, hS.F ht⟩) hS.2.2 dX1_same_15
  · refine lv_iload_n hx hb dX1_same_7 rfl (lv_at hl 2 rfl) ?_
    refine va_calli (va_runS (As := [.int b]) (rest := []) ⟨hx, hb, hml, hown, hts⟩ (c_isRegister l D _ b) (va_cwS 1 hts gX1_same_X1_isRegister rfl rfl rfl (by decide +kernel) ⟨Nat.le_of_ble_eq_true rfl, Nat.le_of_ble_eq_true rfl⟩) ⟨wp0_blind, fun U hU hW => wp0_of (va_P.sub hP [] rfl) (hK.sub [] rfl) htb hS no_in hU hW⟩ rfl rfl hl.1 rfl (lv_room (Nat.le_of_ble_eq_true rfl)) dX1_same_8 ⟨Nat.zero_le _, Nat.zero_le _⟩) hS (fun q _ h => h.elim) (fun q h => h.elim) (fun r_8 u_8 t H1 locs ht hvm hw hB hz1 hk1 hS => ?_)
    have hP := xa_same hP hk1
    clear hz1 hk1 hB ht
    generalize H1 = H at hP hS ⊢
    subst hw
    refine xa_if1 (tgt := 16) hx hb dX1_same_11 (by decide) (fun c_11 => ?_) (fun c_11 => ?_)
    · obtain ⟨x1, hx1, ex1⟩ := isR_t c_4
      rw [ex1] at hl
      obtain ⟨x2, hx2, ex2⟩ := isR_t c_11
      rw [ex2] at hl
      have hsm : sSm N g a b = eqg N (g x1) (g x2) := by unfold sSm; rw [c_4, c_11, ex1, ex2, ix_nI (by omega), ix_nI (by omega)]; rfl
      refine lv_iconst (v := nI 0) hx hb dX1_same_16 (by decide) ?_
      refine lv_istore_n (lv' := [(3, .int (nI 0)), (0, .ref (ad 0)), (1, .int (nI x1)), (2, .int (nI x2))]) hx hb dX1_same_17 rfl hl (by decide) rfl (fun ls hl => ?_)
      have lp_18 : ∀ (n9 w : Nat) (H : Heap) (locs : List Loc) (ls : Array Slot), w ≤ nw N → nw N + 1 ≤ w + n9 → (∀ z, z < w → G x1 z = G x2 z) → va_P D vwCl (dkW N ad cJJ cJ cI dr re tu kd uh bf la G) H → va_S (fun _ : Nat => False) s.heap H locs → lv_has ls 4 [(0, .ref (ad 0)), (1, .int (nI x1)), (2, .int (nI x2)), (3, .int (nI w))] → W p l e (headSpec wsX1_same ({ frames := 1, cells := 0, slots := 0, locals := 20 } : Room)).room s m ([.ref (ad 0), .int a, .int b] : List Value).toArray below meth c H locs 0 0 (MQ below (va_Qi (fun (r : Int32) (_ : Unit) => r = nI (sSm N g a b).toNat) (fun _ _ => True) (fun _ : Nat => False)) ([.ref (ad 0), .int a, .int b] : List Value).toArray s 0 0 (fun _ : Nat => False)) (F0 m 18 ls []) := by
        intro n9
        induction n9 with
        | zero => intro w  H locs ls h1 h2; exact absurd h2 (by omega)
        | succ n9 ih =>
          intro w  H locs ls hle_18 hmm_18 hI hP hS hl
          have ih_18 := @ih
          refine lv_iload_n hx hb dX1_same_18 rfl (lv_at hl 3 rfl) ?_
          refine lv_aload_n hx hb dX1_same_19 rfl (lv_at hl 0 rfl) ?_
          refine va_get (D := D) (ci := 1) (C := RX1) (T := TX1) (N := 10) hx hb hts (by decide +kernel) hown hK hP 0 rfl rfl 2 (by decide) (hts (.fieldLink RX1 25 "ForkDesk" "words" "I") (by decide +kernel)) (fun _ h9 => h9) rfl dX1_same_20 ?_
          refine xa_ge (tgt := 54) hx hb (by omega) (by omega) dX1_same_23 (by decide) (fun c_23 => ?_) (fun c_23 => ?_)
          · refine lv_iconst (v := nI 1) hx hb dX1_same_54 (by decide) ?_
            exact W.zret (v := (nI 1)) hx hb hr (by decide) (fun t ht hW => ⟨⟨(nI 1), (), rfl, (by rw [hsm, eqg_t (hg x1 hx1) (hg x2 hx2) (fun z hz => hI z (by omega))]; rfl), trivial⟩, hS.F ht⟩) hS.2.2 dX1_same_55
          · refine lv_aload_n hx hb dX1_same_26 rfl (lv_at hl 0 rfl) ?_
            refine va_get (D := D) (ci := 1) (C := RX1) (T := TX1) (N := 10) hx hb hts (by decide +kernel) hown hK hP 0 rfl rfl 5 (by decide) (hts (.fieldLink RX1 39 "ForkDesk" "registers" "[[J") (by decide +kernel)) (fun _ h9 => h9) rfl dX1_same_27 ?_
            refine lv_iload_n hx hb dX1_same_30 rfl (lv_at hl 1 rfl) ?_
            refine xa_aald hx hb hK hP 1 0 rfl rfl (w := x1) (y := ad (10 + x1)) (by omega) (by decide) rfl dX1_same_31 ?_
            refine lv_iload_n hx hb dX1_same_32 rfl (lv_at hl 3 rfl) ?_
            refine xa_lald hx hb hK hP (10 + x1) 1 (dk_row (by omega)) rfl (w := w) (by omega) (by omega) dX1_same_33 ?_
            refine lv_aload_n hx hb dX1_same_34 rfl (lv_at hl 0 rfl) ?_
            refine va_get (D := D) (ci := 1) (C := RX1) (T := TX1) (N := 10) hx hb hts (by decide +kernel) hown hK hP 0 rfl rfl 5 (by decide) (hts (.fieldLink RX1 39 "ForkDesk" "registers" "[[J") (by decide +kernel)) (fun _ h9 => h9) rfl dX1_same_35 ?_
            refine lv_iload_n hx hb dX1_same_38 rfl (lv_at hl 2 rfl) ?_
            refine xa_aald hx hb hK hP 1 0 rfl rfl (w := x2) (y := ad (10 + x2)) (by omega) (by decide) rfl dX1_same_39 ?_
            refine lv_iload_n hx hb dX1_same_40 rfl (lv_at hl 3 rfl) ?_
            refine xa_lald hx hb hK hP (10 + x2) 1 (dk_row (by omega)) rfl (w := w) (by omega) (by omega) dX1_same_41 ?_
            refine W.lcmp hx hb dX1_same_42 ?_
            refine lv_if_eq (tgt := 48) hx hb dX1_same_43 (by decide) (fun c_43 => ?_) (fun c_43 => ?_)
            · refine xa_inc (k := 3) (lv' := [(3, .int (nI (w + 1))), (0, .ref (ad 0)), (1, .int (nI x1)), (2, .int (nI x2))]) hx hb dX1_same_48 hl rfl (by decide) rfl (fun ls hl => ?_)
              refine lv_goto (tgt := 18) hx hb dX1_same_51 (by decide) ?_
              exact ih_18 (w + 1)  _ _ _ (by omega) (by omega) (fun z hz => by by_cases hzw : z = w; (subst hzw; exact (lg_cmp_eq _ _).mp c_43); (exact hI z (by omega))) hP hS (lv_sub hl [1, 2, 3, 0] rfl)
            · refine lv_iconst (v := nI 0) hx hb dX1_same_46 (by decide) ?_
              exact W.zret (v := (nI 0)) hx hb hr (by decide) (fun t ht hW => ⟨⟨(nI 0), (), rfl, (by rw [hsm, eqg_f (hg x1 hx1) (hg x2 hx2) c_23 (fun h => c_43 ((lg_cmp_eq _ _).mpr h))]; rfl), trivial⟩, hS.F ht⟩) hS.2.2 dX1_same_47
      exact lp_18 (nw N + 1 - 0) 0  _ _ _ (by omega) (by omega) (fun z hz => absurd hz (by omega)) hP hS (lv_sub hl [1, 2, 3, 0] rfl)
    · refine lv_iconst (v := nI 0) hx hb dX1_same_14 (by decide) ?_
      exact W.zret (v := (nI 0)) hx hb hr (by decide) (fun t ht hW => ⟨⟨(nI 0), (), rfl, (by unfold sSm; simp [c_4, c_11]), trivial⟩, hS.F ht⟩) hS.2.2 dX1_same_15
end
section
set_option maxHeartbeats 4000000 in
set_option maxRecDepth 100000 in
/-- kindOf -/
theorem c_kindOf (l : Launch) (D : va_G) (sz : Nat) (N : Nat) (hN1 : 1 ≤ N) (hN : N ≤ 12) (ad : Nat → Nat) (hao : aok (fun _ => True) ad) (cJJ cJ cI : ClassId) (dr re : Nat → Int64) (tu kd uh bf la : Nat → Int32) (G : Nat → Nat → Int64) (lof upf : Nat → Nat) (b : Nat) (hb1 : b < nh N) (hlo : lof b < nm N) (hup : ∀ z, z ≤ b → upf z < 2 ^ 31) (hfk : fk lof upf (nm N) b uh bf la) : Met l yX0_kindOf wsX0_kindOf ({ frames := 0, cells := 0, slots := 0, locals := 0 } : Room) (va_Pc [.ref (ad 5), .int (nI b), .int (nI (lof b)), .int (nI (upf b))] (wp0 D (dkW N ad cJJ cJ cI dr re tu kd uh bf la G) (dkT cJJ cJ cI) (fr ad sz) sz)) (va_Qi (fun (r : Int32) (u : (Nat → Int32) × (Nat → Int32) × (Nat → Int32)) => r = nI (kn lof upf b) ∧ fk lof upf (nm N) (b + 1) u.1 u.2.1 u.2.2) (fun (u : (Nat → Int32) × (Nat → Int32) × (Nat → Int32)) t => va_P D vwCl (dkW N ad cJJ cJ cI dr re tu kd u.1 u.2.1 u.2.2 G) t.heap) (fr ad sz)) 0 0 (fr ad sz) := by
  refine Met.ofW (cc := cX0_kindOf) (maxL := 6) (ret := (some .int)) (by decide) rfl ?_
  intro p e s m args below meth c s₁ B hml hv
  obtain ⟨rfl, hsz, hP, hK, htb⟩ := hv
  have hx := B.exec
  have hb := B.bytes
  have hr := B.returns
  have hts := atoms_spec (ws := wsX0_kindOf) B.pre
  have hown : s.vm.findClass RX0 = some m.cls := findClass_of_methodNamed B.named
  have hlocks := B.notSynchronized
  subst hsz
  generalize hAe : fr ad s.heap.size = A at htb ⊢
  have hA : ∀ q : Nat, s.heap.size ≤ q → A q := fun q h => by rw [← hAe]; exact fr_new q h
  have hao : aok A ad := by rw [← hAe]; exact aok_fr hao
  obtain ⟨⟨tt, hZ, hT⟩, hNst⟩ := id htb
  have hS : va_S A s.heap s.heap [] := va_S.rf
  have hl := lv_entry ([.ref (ad 5), .int (nI b), .int (nI (lof b)), .int (nI (upf b))]) (n := 6) (Nat.le_of_ble_eq_true rfl)
  rw [lg_entry_eq]
  generalize (lg_sl ([.ref (ad 5), .int (nI b), .int (nI (lof b)), .int (nI (upf b))]) ++ List.replicate (6 - (lg_sl ([.ref (ad 5), .int (nI b), .int (nI (lof b)), .int (nI (upf b))])).length) Slot.unset).toArray = ls at hl ⊢
  have hl : lv_has ls 6 [(0, .ref (ad 5)), (1, .int (nI b)), (2, .int (nI (lof b))), (3, .int (nI (upf b)))] := hl
  have hnw := nw_le hN
  have hnwp := nw_pos N
  have hpw := pw_le N
  have hpwp := pw_pos N
  have hnp := np_le hN
  have hnh := nh_le hN1 hN
  have hnm := nm_le hN1 hN
  refine lv_aload_n hx hb dX0_kindOf_0 rfl (lv_at hl 0 rfl) ?_
  refine va_get (D := D) (ci := 0) (C := RX0) (T := TX0) (N := 5) hx hb hts (by decide +kernel) hown hK hP 5 rfl rfl 4 (by decide) (hts (.fieldLink RX0 31 "ForkDesk$ForkCounter" "latest" "[I") (by decide +kernel)) (fun _ h9 => h9) rfl dX0_kindOf_1 ?_
  refine lv_iload_n hx hb dX0_kindOf_4 rfl (lv_at hl 2 rfl) ?_
  refine xa_iald hx hb hK hP 9 2 rfl rfl (w := lof b) (by omega) (by omega) dX0_kindOf_5 ?_
  rw [hfk.1 _ hlo]
  refine lv_istore (lv' := [(4, .int (en (pv lof upf (lof b) b))), (0, .ref (ad 5)), (1, .int (nI b)), (2, .int (nI (lof b))), (3, .int (nI (upf b)))]) hx hb dX0_kindOf_6 hl (by decide) rfl (fun ls hl => ?_)
  refine lv_iload_n hx hb dX0_kindOf_8 rfl (lv_at hl 2 rfl) ?_
  refine lv_istore (lv' := [(5, .int (nI b)), (4, .int (en (pv lof upf (lof b) b))), (0, .ref (ad 5)), (1, .int (nI b)), (2, .int (nI (lof b))), (3, .int (nI (upf b)))]) hx hb dX0_kindOf_9 hl (by decide) rfl (fun ls hl => ?_)
  have lp_11 : ∀ (n9 : Nat) (left : Nat) (mm : Nat) (H : Heap) (locs : List Loc) (ls : Array Slot), (left < n9) → (mm ≤ left) → (left ≤ b) → (nb lof upf (lof b) (upf b) b mm) → va_P D vwCl (dkW N ad cJJ cJ cI dr re tu kd uh bf la G) H → va_S A s.heap H locs → lv_has ls 6 [(0, .ref (ad 5)), (1, .int (nI b)), (2, .int (nI (lof b))), (3, .int (nI (upf b))), (4, .int (en (pv lof upf (lof b) mm))), (5, .int (nI left))] → W p l e (headSpec wsX0_kindOf ({ frames := 0, cells := 0, slots := 0, locals := 0 } : Room)).room s m ([.ref (ad 5), .int (nI b), .int (nI (lof b)), .int (nI (upf b))] : List Value).toArray below meth c H locs 0 0 (MQ below (va_Qi (fun (r : Int32) (u : (Nat → Int32) × (Nat → Int32) × (Nat → Int32)) => r = nI (kn lof upf b) ∧ fk lof upf (nm N) (b + 1) u.1 u.2.1 u.2.2) (fun (u : (Nat → Int32) × (Nat → Int32) × (Nat → Int32)) t => va_P D vwCl (dkW N ad cJJ cJ cI dr re tu kd u.1 u.2.1 u.2.2 G) t.heap) A) ([.ref (ad 5), .int (nI b), .int (nI (lof b)), .int (nI (upf b))] : List Value).toArray s 0 0 A) (F0 m 11 ls []) := by
    intro n9
    induction n9 with
    | zero => intro left mm H locs ls h0; exact absurd h0 (by omega)
    | succ n9 ih =>
      intro left mm H locs ls hn hml hlb hnb hP hS hl
      have ih_11 := @ih
      refine lv_iload hx hb dX0_kindOf_11 (lv_at hl 5 rfl) ?_
      refine lv_if_le (tgt := 51) hx hb dX0_kindOf_13 (by decide) (fun c_13 => ?_) (fun c_13 => ?_)
      · have hl0 : left = 0 := nI_z (by omega) c_13
        have hks : ks lof upf (lof b) (upf b) b = none := nb_end hnb (by rw [show mm = 0 by omega]; rfl)
        refine lv_aload_n hx hb dX0_kindOf_51 rfl (lv_at hl 0 rfl) ?_
        refine va_get (D := D) (ci := 0) (C := RX0) (T := TX0) (N := 5) hx hb hts (by decide +kernel) hown hK hP 5 rfl rfl 2 (by decide) (hts (.fieldLink RX0 19 "ForkDesk$ForkCounter" "upperHalf" "[I") (by decide +kernel)) (fun _ h9 => h9) rfl dX0_kindOf_52 ?_
        refine lv_iload_n hx hb dX0_kindOf_55 rfl (lv_at hl 1 rfl) ?_
        refine lv_iload_n hx hb dX0_kindOf_56 rfl (lv_at hl 3 rfl) ?_
        refine xa_iast hx hb hK hP (dk_D hao) hS 7 2 rfl rfl (w := b) (by omega) (by omega) dX0_kindOf_57 (fun H locs hP _ hS => ?_)
        have hP : va_P D vwCl (dkW N ad cJJ cJ cI dr re tu kd (upd uh b (nI (upf b))) bf la G) H := hP
        refine lv_aload_n hx hb dX0_kindOf_58 rfl (lv_at hl 0 rfl) ?_
        refine va_get (D := D) (ci := 0) (C := RX0) (T := TX0) (N := 5) hx hb hts (by decide +kernel) hown hK hP 5 rfl rfl 3 (by decide) (hts (.fieldLink RX0 22 "ForkDesk$ForkCounter" "before" "[I") (by decide +kernel)) (fun _ h9 => h9) rfl dX0_kindOf_59 ?_
        refine lv_iload_n hx hb dX0_kindOf_62 rfl (lv_at hl 1 rfl) ?_
        refine lv_aload_n hx hb dX0_kindOf_63 rfl (lv_at hl 0 rfl) ?_
        refine va_get (D := D) (ci := 0) (C := RX0) (T := TX0) (N := 5) hx hb hts (by decide +kernel) hown hK hP 5 rfl rfl 4 (by decide) (hts (.fieldLink RX0 31 "ForkDesk$ForkCounter" "latest" "[I") (by decide +kernel)) (fun _ h9 => h9) rfl dX0_kindOf_64 ?_
        refine lv_iload_n hx hb dX0_kindOf_67 rfl (lv_at hl 2 rfl) ?_
        refine xa_iald hx hb hK hP 9 2 rfl rfl (w := lof b) (by omega) (by omega) dX0_kindOf_68 ?_
        refine xa_iast hx hb hK hP (dk_D hao) hS 8 2 rfl rfl (w := b) (by omega) (by omega) dX0_kindOf_69 (fun H locs hP _ hS => ?_)
        have hP : va_P D vwCl (dkW N ad cJJ cJ cI dr re tu kd (upd uh b (nI (upf b))) (upd bf b (la (lof b))) la G) H := hP
        refine lv_aload_n hx hb dX0_kindOf_70 rfl (lv_at hl 0 rfl) ?_
        refine va_get (D := D) (ci := 0) (C := RX0) (T := TX0) (N := 5) hx hb hts (by decide +kernel) hown hK hP 5 rfl rfl 4 (by decide) (hts (.fieldLink RX0 31 "ForkDesk$ForkCounter" "latest" "[I") (by decide +kernel)) (fun _ h9 => h9) rfl dX0_kindOf_71 ?_
        refine lv_iload_n hx hb dX0_kindOf_74 rfl (lv_at hl 2 rfl) ?_
        refine lv_iload_n hx hb dX0_kindOf_75 rfl (lv_at hl 1 rfl) ?_
        refine xa_iast hx hb hK hP (dk_D hao) hS 9 2 rfl rfl (w := lof b) (by omega) (by omega) dX0_kindOf_76 (fun H locs hP _ hS => ?_)
        have hP : va_P D vwCl (dkW N ad cJJ cJ cI dr re tu kd (upd uh b (nI (upf b))) (upd bf b (la (lof b))) (upd la (lof b) (nI b)) G) H := hP
        refine lv_iload_n hx hb dX0_kindOf_77 rfl (lv_at hl 1 rfl) ?_
        exact W.iret (v := (nI b)) hx hb hr (fun t ht hW => ⟨⟨(nI b), (upd uh b (nI (upf b)), upd bf b (la (lof b)), upd la (lof b) (nI b)), rfl, ⟨by unfold kn; rw [hks]; rfl, fk_new hfk hlo hks⟩, (by show va_P _ _ _ _; rw [ht]; exact hP)⟩, hS.F ht⟩) hS.2.2 dX0_kindOf_78
      · refine lv_iload hx hb dX0_kindOf_16 (lv_at hl 4 rfl) ?_
        refine lv_iconst (v := (-1)) hx hb dX0_kindOf_18 (by decide) ?_
        refine lv_icmp_eq (tgt := 51) hx hb dX0_kindOf_19 (by decide) (fun c_19 => ?_) (fun c_19 => ?_)
        · have hpv : pv lof upf (lof b) mm = none := en_n (by omega) c_19
          have hks : ks lof upf (lof b) (upf b) b = none := nb_end hnb hpv
          refine lv_aload_n hx hb dX0_kindOf_51 rfl (lv_at hl 0 rfl) ?_
          refine va_get (D := D) (ci := 0) (C := RX0) (T := TX0) (N := 5) hx hb hts (by decide +kernel) hown hK hP 5 rfl rfl 2 (by decide) (hts (.fieldLink RX0 19 "ForkDesk$ForkCounter" "upperHalf" "[I") (by decide +kernel)) (fun _ h9 => h9) rfl dX0_kindOf_52 ?_
          refine lv_iload_n hx hb dX0_kindOf_55 rfl (lv_at hl 1 rfl) ?_
          refine lv_iload_n hx hb dX0_kindOf_56 rfl (lv_at hl 3 rfl) ?_
          refine xa_iast hx hb hK hP (dk_D hao) hS 7 2 rfl rfl (w := b) (by omega) (by omega) dX0_kindOf_57 (fun H locs hP _ hS => ?_)
          have hP : va_P D vwCl (dkW N ad cJJ cJ cI dr re tu kd (upd uh b (nI (upf b))) bf la G) H := hP
          refine lv_aload_n hx hb dX0_kindOf_58 rfl (lv_at hl 0 rfl) ?_
          refine va_get (D := D) (ci := 0) (C := RX0) (T := TX0) (N := 5) hx hb hts (by decide +kernel) hown hK hP 5 rfl rfl 3 (by decide) (hts (.fieldLink RX0 22 "ForkDesk$ForkCounter" "before" "[I") (by decide +kernel)) (fun _ h9 => h9) rfl dX0_kindOf_59 ?_
          refine lv_iload_n hx hb dX0_kindOf_62 rfl (lv_at hl 1 rfl) ?_
          refine lv_aload_n hx hb dX0_kindOf_63 rfl (lv_at hl 0 rfl) ?_
          refine va_get (D := D) (ci := 0) (C := RX0) (T := TX0) (N := 5) hx hb hts (by decide +kernel) hown hK hP 5 rfl rfl 4 (by decide) (hts (.fieldLink RX0 31 "ForkDesk$ForkCounter" "latest" "[I") (by decide +kernel)) (fun _ h9 => h9) rfl dX0_kindOf_64 ?_
          refine lv_iload_n hx hb dX0_kindOf_67 rfl (lv_at hl 2 rfl) ?_
          refine xa_iald hx hb hK hP 9 2 rfl rfl (w := lof b) (by omega) (by omega) dX0_kindOf_68 ?_
          refine xa_iast hx hb hK hP (dk_D hao) hS 8 2 rfl rfl (w := b) (by omega) (by omega) dX0_kindOf_69 (fun H locs hP _ hS => ?_)
          have hP : va_P D vwCl (dkW N ad cJJ cJ cI dr re tu kd (upd uh b (nI (upf b))) (upd bf b (la (lof b))) la G) H := hP
          refine lv_aload_n hx hb dX0_kindOf_70 rfl (lv_at hl 0 rfl) ?_
          refine va_get (D := D) (ci := 0) (C := RX0) (T := TX0) (N := 5) hx hb hts (by decide +kernel) hown hK hP 5 rfl rfl 4 (by decide) (hts (.fieldLink RX0 31 "ForkDesk$ForkCounter" "latest" "[I") (by decide +kernel)) (fun _ h9 => h9) rfl dX0_kindOf_71 ?_
          refine lv_iload_n hx hb dX0_kindOf_74 rfl (lv_at hl 2 rfl) ?_
          refine lv_iload_n hx hb dX0_kindOf_75 rfl (lv_at hl 1 rfl) ?_
          refine xa_iast hx hb hK hP (dk_D hao) hS 9 2 rfl rfl (w := lof b) (by omega) (by omega) dX0_kindOf_76 (fun H locs hP _ hS => ?_)
          have hP : va_P D vwCl (dkW N ad cJJ cJ cI dr re tu kd (upd uh b (nI (upf b))) (upd bf b (la (lof b))) (upd la (lof b) (nI b)) G) H := hP
          refine lv_iload_n hx hb dX0_kindOf_77 rfl (lv_at hl 1 rfl) ?_
          exact W.iret (v := (nI b)) hx hb hr (fun t ht hW => ⟨⟨(nI b), (upd uh b (nI (upf b)), upd bf b (la (lof b)), upd la (lof b) (nI b)), rfl, ⟨by unfold kn; rw [hks]; rfl, fk_new hfk hlo hks⟩, (by show va_P _ _ _ _; rw [ht]; exact hP)⟩, hS.F ht⟩) hS.2.2 dX0_kindOf_78
        · obtain ⟨f, hpv⟩ := en_s c_19
          obtain ⟨hf1, hf2, hf3, -⟩ := pv_some hpv
          have hupf := hup f (by omega)
          have hupb := hup b (Nat.le_refl b)
          obtain ⟨lf, elf⟩ : ∃ z, left = z + 1 := ⟨left - 1, by omega⟩
          subst elf
          rw [show en (pv lof upf (lof b) mm) = nI f by rw [hpv]; rfl] at hl
          refine lv_aload_n hx hb dX0_kindOf_22 rfl (lv_at hl 0 rfl) ?_
          refine va_get (D := D) (ci := 0) (C := RX0) (T := TX0) (N := 5) hx hb hts (by decide +kernel) hown hK hP 5 rfl rfl 2 (by decide) (hts (.fieldLink RX0 19 "ForkDesk$ForkCounter" "upperHalf" "[I") (by decide +kernel)) (fun _ h9 => h9) rfl dX0_kindOf_23 ?_
          refine lv_iload hx hb dX0_kindOf_26 (lv_at hl 4 rfl) ?_
          refine xa_iald hx hb hK hP 7 2 rfl rfl (w := f) (by omega) (by omega) dX0_kindOf_28 ?_
          rw [(hfk.2 f (by omega) hf3).1]
          refine lv_iload_n hx hb dX0_kindOf_29 rfl (lv_at hl 3 rfl) ?_
          refine xa_ne (tgt := 36) hx hb (by omega) (by omega) dX0_kindOf_30 (by decide) (fun c_30 => ?_) (fun c_30 => ?_)
          · refine lv_aload_n hx hb dX0_kindOf_36 rfl (lv_at hl 0 rfl) ?_
            refine va_get (D := D) (ci := 0) (C := RX0) (T := TX0) (N := 5) hx hb hts (by decide +kernel) hown hK hP 5 rfl rfl 3 (by decide) (hts (.fieldLink RX0 22 "ForkDesk$ForkCounter" "before" "[I") (by decide +kernel)) (fun _ h9 => h9) rfl dX0_kindOf_37 ?_
            refine lv_iload hx hb dX0_kindOf_40 (lv_at hl 4 rfl) ?_
            refine xa_iald hx hb hK hP 8 2 rfl rfl (w := f) (by omega) (by omega) dX0_kindOf_42 ?_
            rw [(hfk.2 f (by omega) hf3).2, hf2]
            refine lv_istore (lv' := [(4, .int (en (pv lof upf (lof b) f))), (0, .ref (ad 5)), (1, .int (nI b)), (2, .int (nI (lof b))), (3, .int (nI (upf b))), (5, .int (nI (lf + 1)))]) hx hb dX0_kindOf_43 hl (by decide) rfl (fun ls hl => ?_)
            refine xa_dec (k := 5) (lv' := [(5, .int (nI lf)), (4, .int (en (pv lof upf (lof b) f))), (0, .ref (ad 5)), (1, .int (nI b)), (2, .int (nI (lof b))), (3, .int (nI (upf b)))]) hx hb dX0_kindOf_45 hl rfl (by decide) rfl (fun ls hl => ?_)
            refine lv_goto (tgt := 11) hx hb dX0_kindOf_48 (by decide) ?_
            exact ih_11 lf f  _ _ _ (by omega) (by omega) (by omega) (nb_on hnb hpv c_30) hP hS (lv_sub hl [2, 3, 4, 5, 1, 0] rfl)
          · refine lv_iload hx hb dX0_kindOf_33 (lv_at hl 4 rfl) ?_
            exact W.iret (v := (nI f)) hx hb hr (fun t ht hW => ⟨⟨(nI f), (uh, bf, la), rfl, ⟨by unfold kn; rw [nb_hit (by omega) hpv c_30]; rfl, fk_old hfk (nb_hit (by omega) hpv c_30)⟩, (by show va_P _ _ _ _; rw [ht]; exact hP)⟩, hS.F ht⟩) hS.2.2 dX0_kindOf_35
  exact lp_11 (b + 1) b b  _ _ _ (by omega) (Nat.le_refl b) (Nat.le_refl b) (nb_0 _ _ _ _ _) hP hS (lv_sub hl [2, 3, 4, 5, 1, 0] rfl)
end
section
set_option maxHeartbeats 4000000 in
set_option maxRecDepth 100000 in
/-- countLevel -/
theorem c_countLevel (l : Launch) (D : va_G) (sz : Nat) (N : Nat) (hN1 : 1 ≤ N) (hN : N ≤ 12) (ad : Nat → Nat) (hao : aok (fun _ => True) ad) (cJJ cJ cI : ClassId) (dr re : Nat → Int64) (tu kd uh bf la : Nat → Int32) (G : Nat → Nat → Int64) (kv : Nat → Nat) (bl : Nat) (hbl : bl ≤ nh N) (hkd : ∀ i, i < 2 * bl → kd i = nI (kv i)) (hkv : ∀ i, i < 2 * bl → kv i < nm N) : Met l yX0_countLevel wsX0_countLevel ({ frames := 1, cells := 0, slots := 0, locals := 25 } : Room) (va_Pc [.ref (ad 5), .int (nI bl)] (wp0 D (dkW N ad cJJ cJ cI dr re tu kd uh bf la G) (dkT cJJ cJ cI) (fr ad sz) sz)) (va_Qi (fun (r : Int32) (u : (Nat → Int32) × (Nat → Int32) × (Nat → Int32) × (Nat → Int32)) => r = nI (cf (fun b => kv (2 * b)) (fun b => kv (2 * b + 1)) bl) ∧ ∀ i, i < bl → u.1 i = nI (kn (fun b => kv (2 * b)) (fun b => kv (2 * b + 1)) i)) (fun (u : (Nat → Int32) × (Nat → Int32) × (Nat → Int32) × (Nat → Int32)) t => va_P D vwCl (dkW N ad cJJ cJ cI dr re tu u.1 u.2.1 u.2.2.1 u.2.2.2 G) t.heap) (fr ad sz)) 0 0 (fr ad sz) := by
  refine Met.ofW (cc := cX0_countLevel) (maxL := 7) (ret := (some .int)) (by decide) rfl ?_
  intro p e s m args below meth c s₁ B hml hv
  obtain ⟨rfl, hsz, hP, hK, htb⟩ := hv
  have hx := B.exec
  have hb := B.bytes
  have hr := B.returns
  have hts := atoms_spec (ws := wsX0_countLevel) B.pre
  have hown : s.vm.findClass RX0 = some m.cls := findClass_of_methodNamed B.named
  have hlocks := B.notSynchronized
  subst hsz
  generalize hAe : fr ad s.heap.size = A at htb ⊢
  have hA : ∀ q : Nat, s.heap.size ≤ q → A q := fun q h => by rw [← hAe]; exact fr_new q h
  have hao : aok A ad := by rw [← hAe]; exact aok_fr hao
  obtain ⟨⟨tt, hZ, hT⟩, hNst⟩ := id htb
  have hS : va_S A s.heap s.heap [] := va_S.rf
  have hl := lv_entry ([.ref (ad 5), .int (nI bl)]) (n := 7) (Nat.le_of_ble_eq_true rfl)
  rw [lg_entry_eq]
  generalize (lg_sl ([.ref (ad 5), .int (nI bl)]) ++ List.replicate (7 - (lg_sl ([.ref (ad 5), .int (nI bl)])).length) Slot.unset).toArray = ls at hl ⊢
  have hl : lv_has ls 7 [(0, .ref (ad 5)), (1, .int (nI bl))] := hl
  have hnw := nw_le hN
  have hnwp := nw_pos N
  have hpw := pw_le N
  have hpwp := pw_pos N
  have hnp := np_le hN
  have hnh := nh_le hN1 hN
  have hnm := nm_le hN1 hN
  have hpn := np_nh hN1
  obtain ⟨lof, elof⟩ : ∃ z : Nat → Nat, z = fun b => kv (2 * b) := ⟨_, rfl⟩
  obtain ⟨upf, eupf⟩ : ∃ z : Nat → Nat, z = fun b => kv (2 * b + 1) := ⟨_, rfl⟩
  rw [← elof, ← eupf]
  refine lv_iconst (v := nI 0) hx hb dX0_countLevel_0 (by decide) ?_
  refine lv_istore_n (lv' := [(2, .int (nI 0)), (0, .ref (ad 5)), (1, .int (nI bl))]) hx hb dX0_countLevel_1 rfl hl (by decide) rfl (fun ls hl => ?_)
  refine lv_aload_n hx hb dX0_countLevel_2 rfl (lv_at hl 1 rfl) ?_
  refine va_get (D := D) (ci := 0) (C := RX0) (T := TX0) (N := 5) hx hb hts (by decide +kernel) hown hK hP 5 rfl rfl 4 (by decide) (hts (.fieldLink RX0 31 "ForkDesk$ForkCounter" "latest" "[I") (by decide +kernel)) (fun _ h9 => h9) rfl dX0_countLevel_3 ?_
  refine lv_iconst (v := (-1)) hx hb dX0_countLevel_6 (by decide) ?_
  refine va_callv (va_runS (As := [.ref (ad 9), .int (-1)]) (rest := []) ⟨hx, hb, hml, hown, hts⟩ (c_fillI l D _ (ad 9) cI (nm N) la (-1) (by omega)) (va_cwS 2 hts gX0_countLevel_J7_fill_53178 rfl rfl rfl (by decide +kernel) ⟨Nat.le_of_ble_eq_true rfl, Nat.le_of_ble_eq_true rfl⟩) ⟨wp0_blind, fun U hU hW => wp0_of (va_one hP 9 rfl) (hK.sub [2] rfl) htb hS (one_in (hao.2 9 (by omega))) hU hW⟩ rfl rfl hl.1 rfl (lv_room (Nat.le_of_ble_eq_true rfl)) dX0_countLevel_7 ⟨Nat.zero_le _, Nat.zero_le _⟩) hS (fun q _ h => (one_in (hao.2 9 (by omega))) q h) ((one_in (hao.2 9 (by omega)))) (fun u_7 t H1 locs ht hvm hw hB hz1 hk1 hS => ?_)
  rw [ht] at hB
  have hP := va_put1 hP (dk_D hao) 9 rfl hk1 hB
  clear hz1 hk1 hB ht
  generalize H1 = H at hP hS ⊢
  have hP : va_P D vwCl (dkW N ad cJJ cJ cI dr re tu kd uh bf u_7 G) H := hP
  refine lv_iconst (v := nI 0) hx hb dX0_countLevel_10 (by decide) ?_
  refine lv_istore_n (lv' := [(3, .int (nI 0)), (2, .int (nI 0)), (0, .ref (ad 5)), (1, .int (nI bl))]) hx hb dX0_countLevel_11 rfl hl (by decide) rfl (fun ls hl => ?_)
  have hfk0 := fk_0 lof upf (nm N) uh bf u_7 (fun x hx => hw x hx)
  have lp_12 : ∀ (n9 b : Nat) (k2 : Nat → Int32) (uh2 : Nat → Int32) (bf2 : Nat → Int32) (la2 : Nat → Int32) (fo : Nat) (H : Heap) (locs : List Loc) (ls : Array Slot), b ≤ bl → bl + 1 ≤ b + n9 → fo = cf lof upf b → fk lof upf (nm N) b uh2 bf2 la2 → (∀ i, i < b → k2 i = nI (kn lof upf i)) → (∀ i, b ≤ i → i < 2 * bl → k2 i = nI (kv i)) → va_P D vwCl (dkW N ad cJJ cJ cI dr re tu k2 uh2 bf2 la2 G) H → va_S A s.heap H locs → lv_has ls 7 [(0, .ref (ad 5)), (1, .int (nI bl)), (2, .int (nI fo)), (3, .int (nI b))] → W p l e (headSpec wsX0_countLevel ({ frames := 1, cells := 0, slots := 0, locals := 25 } : Room)).room s m ([.ref (ad 5), .int (nI bl)] : List Value).toArray below meth c H locs 0 0 (MQ below (va_Qi (fun (r : Int32) (u : (Nat → Int32) × (Nat → Int32) × (Nat → Int32) × (Nat → Int32)) => r = nI (cf lof upf bl) ∧ ∀ i, i < bl → u.1 i = nI (kn lof upf i)) (fun (u : (Nat → Int32) × (Nat → Int32) × (Nat → Int32) × (Nat → Int32)) t => va_P D vwCl (dkW N ad cJJ cJ cI dr re tu u.1 u.2.1 u.2.2.1 u.2.2.2 G) t.heap) A) ([.ref (ad 5), .int (nI bl)] : List Value).toArray s 0 0 A) (F0 m 12 ls []) := by
    intro n9
    induction n9 with
    | zero => intro b k2 uh2 bf2 la2 fo H locs ls h1 h2; exact absurd h2 (by omega)
    | succ n9 ih =>
      intro b k2 uh2 bf2 la2 fo H locs ls hle_12 hmm_12 hfo hfk hq1 hq2 hP hS hl
      have hcf := cf_le lof upf b
      have ih_12 := @ih
      refine lv_iload_n hx hb dX0_countLevel_12 rfl (lv_at hl 3 rfl) ?_
      refine lv_iload_n hx hb dX0_countLevel_13 rfl (lv_at hl 1 rfl) ?_
      refine xa_ge (tgt := 80) hx hb (by omega) (by omega) dX0_countLevel_14 (by decide) (fun c_14 => ?_) (fun c_14 => ?_)
      · refine lv_iload_n hx hb dX0_countLevel_80 rfl (lv_at hl 2 rfl) ?_
        exact W.iret (v := (nI fo)) hx hb hr (fun t ht hW => ⟨⟨(nI fo), (k2, uh2, bf2, la2), rfl, ⟨by rw [hfo, show b = bl by omega], fun i hi => hq1 i (by omega)⟩, (by show va_P _ _ _ _; rw [ht]; exact hP)⟩, hS.F ht⟩) hS.2.2 dX0_countLevel_81
      · refine lv_aload_n hx hb dX0_countLevel_17 rfl (lv_at hl 0 rfl) ?_
        refine va_get (D := D) (ci := 0) (C := RX0) (T := TX0) (N := 5) hx hb hts (by decide +kernel) hown hK hP 5 rfl rfl 1 (by decide) (hts (.fieldLink RX0 15 "ForkDesk$ForkCounter" "kinds" "[I") (by decide +kernel)) (fun _ h9 => h9) rfl dX0_countLevel_18 ?_
        refine lv_iconst (v := nI 2) hx hb dX0_countLevel_21 (by decide) ?_
        refine lv_iload_n hx hb dX0_countLevel_22 rfl (lv_at hl 3 rfl) ?_
        refine xa_imul hx hb dX0_countLevel_23 ?_
        refine xa_iald hx hb hK hP 6 2 rfl rfl (w := 2 * b) (by omega) (by omega) dX0_countLevel_24 ?_
        rw [hq2 (2 * b) (by omega) (by omega), show kv (2 * b) = lof b by rw [elof]]
        refine lv_istore (lv' := [(4, .int (nI (lof b))), (0, .ref (ad 5)), (1, .int (nI bl)), (2, .int (nI fo)), (3, .int (nI b))]) hx hb dX0_countLevel_25 hl (by decide) rfl (fun ls hl => ?_)
        refine lv_aload_n hx hb dX0_countLevel_27 rfl (lv_at hl 1 rfl) ?_
        refine va_get (D := D) (ci := 0) (C := RX0) (T := TX0) (N := 5) hx hb hts (by decide +kernel) hown hK hP 5 rfl rfl 1 (by decide) (hts (.fieldLink RX0 15 "ForkDesk$ForkCounter" "kinds" "[I") (by decide +kernel)) (fun _ h9 => h9) rfl dX0_countLevel_28 ?_
        refine lv_iconst (v := nI 2) hx hb dX0_countLevel_31 (by decide) ?_
        refine lv_iload_n hx hb dX0_countLevel_32 rfl (lv_at hl 4 rfl) ?_
        refine xa_imul hx hb dX0_countLevel_33 ?_
        refine lv_iconst (v := nI 1) hx hb dX0_countLevel_34 (by decide) ?_
        refine xa_iadd hx hb dX0_countLevel_35 ?_
        refine xa_iald hx hb hK hP 6 2 rfl rfl (w := (2 * b) + 1) (by omega) (by omega) dX0_countLevel_36 ?_
        rw [hq2 (2 * b + 1) (by omega) (by omega), show kv (2 * b + 1) = upf b by rw [eupf]]
        have hlob : lof b < nm N := by rw [elof]; exact hkv _ (by omega)
        have hupz : ∀ z, z ≤ b → upf z < nm N := fun z hz => by rw [eupf]; exact hkv _ (by omega)
        have hupb := hupz b (Nat.le_refl b)
        refine lv_istore (lv' := [(5, .int (nI (upf b))), (4, .int (nI (lof b))), (0, .ref (ad 5)), (1, .int (nI bl)), (2, .int (nI fo)), (3, .int (nI b))]) hx hb dX0_countLevel_37 hl (by decide) rfl (fun ls hl => ?_)
        refine lv_aload_n hx hb dX0_countLevel_39 rfl (lv_at hl 2 rfl) ?_
        refine lv_iload_n hx hb dX0_countLevel_40 rfl (lv_at hl 5 rfl) ?_
        refine lv_iload hx hb dX0_countLevel_41 (lv_at hl 1 rfl) ?_
        refine lv_iload hx hb dX0_countLevel_43 (lv_at hl 0 rfl) ?_
        refine va_calli (va_runV (As := [.int (nI b), .int (nI (lof b)), .int (nI (upf b))]) (rest := []) ⟨hx, hb, hml, hown, hts⟩ (c_kindOf l D _ N hN1 hN ad (aok_true hao) cJJ cJ cI dr re tu k2 uh2 bf2 la2 G lof upf b (by omega) hlob (fun z hz => by have := hupz z hz; omega) hfk) (cwV 3 hts gX0_countLevel_X0_kindOf rfl rfl rfl (by decide +kernel) ⟨Nat.le_of_ble_eq_true rfl, Nat.le_of_ble_eq_true rfl⟩) ⟨wp0_blind, va_recv hK hP (ci := 0) (q0 := 5) rfl rfl, fun U hU hW => wp0_of hP hK htb hS (fr_in hao hS hA) hU hW⟩ rfl rfl hl.1 rfl (lv_room (Nat.le_of_ble_eq_true rfl)) dX0_countLevel_45 ⟨Nat.zero_le _, Nat.zero_le _⟩) hS (fun q _ h => (fr_in hao hS hA) q h) ((fr_in hao hS hA)) (fun r_45 u_45 t H1 locs ht hvm hw hB hz1 hk1 hS => ?_)
        rw [ht] at hB
        have hP := hB
        clear hz1 ht
        generalize H1 = H at hP hS ⊢
        rw [hw.1]
        have hkn := kn_le lof upf b
        refine lv_istore (lv' := [(6, .int (nI (kn lof upf b))), (5, .int (nI (upf b))), (4, .int (nI (lof b))), (0, .ref (ad 5)), (1, .int (nI bl)), (2, .int (nI fo)), (3, .int (nI b))]) hx hb dX0_countLevel_48 hl (by decide) rfl (fun ls hl => ?_)
        refine lv_iload hx hb dX0_countLevel_50 (lv_at hl 0 rfl) ?_
        refine lv_iload_n hx hb dX0_countLevel_52 rfl (lv_at hl 6 rfl) ?_
        refine xa_ne (tgt := 66) hx hb (by omega) (by omega) dX0_countLevel_53 (by decide) (fun c_53 => ?_) (fun c_53 => ?_)
        · refine lv_aload_n hx hb dX0_countLevel_66 rfl (lv_at hl 3 rfl) ?_
          refine va_get (D := D) (ci := 0) (C := RX0) (T := TX0) (N := 5) hx hb hts (by decide +kernel) hown hK hP 5 rfl rfl 1 (by decide) (hts (.fieldLink RX0 15 "ForkDesk$ForkCounter" "kinds" "[I") (by decide +kernel)) (fun _ h9 => h9) rfl dX0_countLevel_67 ?_
          refine lv_iload_n hx hb dX0_countLevel_70 rfl (lv_at hl 6 rfl) ?_
          refine lv_iload hx hb dX0_countLevel_71 (lv_at hl 0 rfl) ?_
          refine xa_iast hx hb hK hP (dk_D hao) hS 6 2 rfl rfl (w := b) (by omega) (by omega) dX0_countLevel_73 (fun H locs hP _ hS => ?_)
          have hP : va_P D vwCl (dkW N ad cJJ cJ cI dr re tu (upd k2 b (nI (kn lof upf b))) u_45.1 u_45.2.1 u_45.2.2 G) H := hP
          refine xa_inc (k := 6) (lv' := [(3, .int (nI (b + 1))), (6, .int (nI (kn lof upf b))), (5, .int (nI (upf b))), (4, .int (nI (lof b))), (0, .ref (ad 5)), (1, .int (nI bl)), (2, .int (nI fo))]) hx hb dX0_countLevel_74 hl rfl (by decide) rfl (fun ls hl => ?_)
          refine lv_goto (tgt := 12) hx hb dX0_countLevel_77 (by decide) ?_
          exact ih_12 (b + 1) (upd k2 b (nI (kn lof upf b))) u_45.1 u_45.2.1 u_45.2.2 fo _ _ _ (by omega) (by omega) (by rw [hfo, cf_s, show (fi lof upf b && !decide (lof b = upf b)) = false by first | rw [kn_fi.mp c_53, decide_eq_false c_60]; rfl | (rw [kn_no c_53]; rfl) | (rw [decide_eq_true c_60]; simp)]; rfl) hw.2 (fun i hi => by by_cases hib : i = b; (subst hib; rw [pk_us]); (rw [pk_un hib]; exact hq1 i (by omega))) (fun i h1 h2 => by rw [pk_un (by omega)]; exact hq2 i (by omega) h2) hP hS (lv_sub hl [4, 5, 6, 0] rfl)
        · refine lv_iload hx hb dX0_countLevel_56 (lv_at hl 2 rfl) ?_
          refine lv_iload hx hb dX0_countLevel_58 (lv_at hl 1 rfl) ?_
          refine xa_eq (tgt := 66) hx hb (by omega) (by omega) dX0_countLevel_60 (by decide) (fun c_60 => ?_) (fun c_60 => ?_)
          · refine lv_aload_n hx hb dX0_countLevel_66 rfl (lv_at hl 3 rfl) ?_
            refine va_get (D := D) (ci := 0) (C := RX0) (T := TX0) (N := 5) hx hb hts (by decide +kernel) hown hK hP 5 rfl rfl 1 (by decide) (hts (.fieldLink RX0 15 "ForkDesk$ForkCounter" "kinds" "[I") (by decide +kernel)) (fun _ h9 => h9) rfl dX0_countLevel_67 ?_
            refine lv_iload_n hx hb dX0_countLevel_70 rfl (lv_at hl 6 rfl) ?_
            refine lv_iload hx hb dX0_countLevel_71 (lv_at hl 0 rfl) ?_
            refine xa_iast hx hb hK hP (dk_D hao) hS 6 2 rfl rfl (w := b) (by omega) (by omega) dX0_countLevel_73 (fun H locs hP _ hS => ?_)
            have hP : va_P D vwCl (dkW N ad cJJ cJ cI dr re tu (upd k2 b (nI (kn lof upf b))) u_45.1 u_45.2.1 u_45.2.2 G) H := hP
            refine xa_inc (k := 6) (lv' := [(3, .int (nI (b + 1))), (6, .int (nI (kn lof upf b))), (5, .int (nI (upf b))), (4, .int (nI (lof b))), (0, .ref (ad 5)), (1, .int (nI bl)), (2, .int (nI fo))]) hx hb dX0_countLevel_74 hl rfl (by decide) rfl (fun ls hl => ?_)
            refine lv_goto (tgt := 12) hx hb dX0_countLevel_77 (by decide) ?_
            exact ih_12 (b + 1) (upd k2 b (nI (kn lof upf b))) u_45.1 u_45.2.1 u_45.2.2 fo _ _ _ (by omega) (by omega) (by rw [hfo, cf_s, show (fi lof upf b && !decide (lof b = upf b)) = false by first | rw [kn_fi.mp c_53, decide_eq_false c_60]; rfl | (rw [kn_no c_53]; rfl) | (rw [decide_eq_true c_60]; simp)]; rfl) hw.2 (fun i hi => by by_cases hib : i = b; (subst hib; rw [pk_us]); (rw [pk_un hib]; exact hq1 i (by omega))) (fun i h1 h2 => by rw [pk_un (by omega)]; exact hq2 i (by omega) h2) hP hS (lv_sub hl [4, 5, 6, 0] rfl)
          · refine xa_inc (k := 5) (lv' := [(2, .int (nI (fo + 1))), (6, .int (nI (kn lof upf b))), (5, .int (nI (upf b))), (4, .int (nI (lof b))), (0, .ref (ad 5)), (1, .int (nI bl)), (3, .int (nI b))]) hx hb dX0_countLevel_63 hl rfl (by decide) rfl (fun ls hl => ?_)
            refine lv_aload_n hx hb dX0_countLevel_66 rfl (lv_at hl 4 rfl) ?_
            refine va_get (D := D) (ci := 0) (C := RX0) (T := TX0) (N := 5) hx hb hts (by decide +kernel) hown hK hP 5 rfl rfl 1 (by decide) (hts (.fieldLink RX0 15 "ForkDesk$ForkCounter" "kinds" "[I") (by decide +kernel)) (fun _ h9 => h9) rfl dX0_countLevel_67 ?_
            refine lv_iload_n hx hb dX0_countLevel_70 rfl (lv_at hl 6 rfl) ?_
            refine lv_iload hx hb dX0_countLevel_71 (lv_at hl 1 rfl) ?_
            refine xa_iast hx hb hK hP (dk_D hao) hS 6 2 rfl rfl (w := b) (by omega) (by omega) dX0_countLevel_73 (fun H locs hP _ hS => ?_)
            have hP : va_P D vwCl (dkW N ad cJJ cJ cI dr re tu (upd k2 b (nI (kn lof upf b))) u_45.1 u_45.2.1 u_45.2.2 G) H := hP
            refine xa_inc (k := 6) (lv' := [(3, .int (nI (b + 1))), (2, .int (nI (fo + 1))), (6, .int (nI (kn lof upf b))), (5, .int (nI (upf b))), (4, .int (nI (lof b))), (0, .ref (ad 5)), (1, .int (nI bl))]) hx hb dX0_countLevel_74 hl rfl (by decide) rfl (fun ls hl => ?_)
            refine lv_goto (tgt := 12) hx hb dX0_countLevel_77 (by decide) ?_
            exact ih_12 (b + 1) (upd k2 b (nI (kn lof upf b))) u_45.1 u_45.2.1 u_45.2.2 (fo + 1) _ _ _ (by omega) (by omega) (by rw [hfo, cf_s, show (fi lof upf b && !decide (lof b = upf b)) = true by first | rw [kn_fi.mp c_53, decide_eq_false c_60]; rfl | (rw [kn_no c_53]; rfl) | (rw [decide_eq_true c_60]; simp)]; rfl) hw.2 (fun i hi => by by_cases hib : i = b; (subst hib; rw [pk_us]); (rw [pk_un hib]; exact hq1 i (by omega))) (fun i h1 h2 => by rw [pk_un (by omega)]; exact hq2 i (by omega) h2) hP hS (lv_sub hl [5, 6, 1, 0] rfl)
  exact lp_12 (bl + 1 - 0) 0 kd uh bf u_7 0 _ _ _ (by omega) (by omega) rfl hfk0 (fun i hi => absurd hi (by omega)) (fun i _ hi => hkd i hi) hP hS (lv_sub hl [2, 3, 1, 0] rfl)
end
section
set_option maxHeartbeats 4000000 in
set_option maxRecDepth 100000 in
/-- count -/
theorem c_count (l : Launch) (D : va_G) (sz : Nat) (N : Nat) (hN1 : 1 ≤ N) (hN : N ≤ 12) (ad : Nat → Nat) (hao : aok (fun _ => True) ad) (cJJ cJ cI : ClassId) (dr re : Nat → Int64) (tu kd uh bf la : Nat → Int32) (G : Nat → Nat → Int64) (j : Nat) (hj : j < 32) (gj : Nat → Bool) (hgj : rp (nw N) (G j) gj) : Met l yX0_count wsX0_count ({ frames := 2, cells := 0, slots := 0, locals := 51 } : Room) (va_Pc [.ref (ad 5), .ref (ad (10 + j))] (wp0 D (dkW N ad cJJ cJ cI dr re tu kd uh bf la G) (dkT cJJ cJ cI) (fr ad sz) sz)) (va_Qi (fun (r : Int32) (u : (Nat → Int32) × (Nat → Int32) × (Nat → Int32) × (Nat → Int32)) => r = nI (fc gj N N)) (fun (u : (Nat → Int32) × (Nat → Int32) × (Nat → Int32) × (Nat → Int32)) t => va_P D vwCl (dkW N ad cJJ cJ cI dr re tu u.1 u.2.1 u.2.2.1 u.2.2.2 G) t.heap) (fr ad sz)) 0 0 (fr ad sz) := by
  refine Met.ofW (cc := cX0_count) (maxL := 4) (ret := (some .int)) (by decide) rfl ?_
  intro p e s m args below meth c s₁ B hml hv
  obtain ⟨rfl, hsz, hP, hK, htb⟩ := hv
  have hx := B.exec
  have hb := B.bytes
  have hr := B.returns
  have hts := atoms_spec (ws := wsX0_count) B.pre
  have hown : s.vm.findClass RX0 = some m.cls := findClass_of_methodNamed B.named
  have hlocks := B.notSynchronized
  subst hsz
  generalize hAe : fr ad s.heap.size = A at htb ⊢
  have hA : ∀ q : Nat, s.heap.size ≤ q → A q := fun q h => by rw [← hAe]; exact fr_new q h
  have hao : aok A ad := by rw [← hAe]; exact aok_fr hao
  obtain ⟨⟨tt, hZ, hT⟩, hNst⟩ := id htb
  have hS : va_S A s.heap s.heap [] := va_S.rf
  have hl := lv_entry ([.ref (ad 5), .ref (ad (10 + j))]) (n := 4) (Nat.le_of_ble_eq_true rfl)
  rw [lg_entry_eq]
  generalize (lg_sl ([.ref (ad 5), .ref (ad (10 + j))]) ++ List.replicate (4 - (lg_sl ([.ref (ad 5), .ref (ad (10 + j))])).length) Slot.unset).toArray = ls at hl ⊢
  have hl : lv_has ls 4 [(0, .ref (ad 5)), (1, .ref (ad (10 + j)))] := hl
  have hnw := nw_le hN
  have hnwp := nw_pos N
  have hpw := pw_le N
  have hpwp := pw_pos N
  have hnp := np_le hN
  have hnh := nh_le hN1 hN
  have hnm := nm_le hN1 hN
  have hnp0 : 0 < 2 ^ N := Nat.two_pow_pos N
  refine lv_iconst (v := nI 0) hx hb dX0_count_0 (by decide) ?_
  refine lv_istore_n (lv' := [(2, .int (nI 0)), (0, .ref (ad 5)), (1, .ref (ad (10 + j)))]) hx hb dX0_count_1 rfl hl (by decide) rfl (fun ls hl => ?_)
  have lp_2 : ∀ (n9 pt : Nat) (k2 : Nat → Int32) (H : Heap) (locs : List Loc) (ls : Array Slot), pt ≤ 2 ^ N → 2 ^ N + 1 ≤ pt + n9 → (∀ i, i < pt → k2 i = nI (gj i).toNat) → va_P D vwCl (dkW N ad cJJ cJ cI dr re tu k2 uh bf la G) H → va_S A s.heap H locs → lv_has ls 4 [(0, .ref (ad 5)), (1, .ref (ad (10 + j))), (2, .int (nI pt))] → W p l e (headSpec wsX0_count ({ frames := 2, cells := 0, slots := 0, locals := 51 } : Room)).room s m ([.ref (ad 5), .ref (ad (10 + j))] : List Value).toArray below meth c H locs 0 0 (MQ below (va_Qi (fun (r : Int32) (u : (Nat → Int32) × (Nat → Int32) × (Nat → Int32) × (Nat → Int32)) => r = nI (fc gj N N)) (fun (u : (Nat → Int32) × (Nat → Int32) × (Nat → Int32) × (Nat → Int32)) t => va_P D vwCl (dkW N ad cJJ cJ cI dr re tu u.1 u.2.1 u.2.2.1 u.2.2.2 G) t.heap) A) ([.ref (ad 5), .ref (ad (10 + j))] : List Value).toArray s 0 0 A) (F0 m 2 ls []) := by
    intro n9
    induction n9 with
    | zero => intro pt k2 H locs ls h1 h2; exact absurd h2 (by omega)
    | succ n9 ih =>
      intro pt k2 H locs ls hle_2 hmm_2 hI hP hS hl
      have ih_2 := @ih
      refine lv_iload_n hx hb dX0_count_2 rfl (lv_at hl 2 rfl) ?_
      refine lv_aload_n hx hb dX0_count_3 rfl (lv_at hl 0 rfl) ?_
      refine va_get (D := D) (ci := 0) (C := RX0) (T := TX0) (N := 5) hx hb hts (by decide +kernel) hown hK hP 5 rfl rfl 1 (by decide) (hts (.fieldLink RX0 15 "ForkDesk$ForkCounter" "kinds" "[I") (by decide +kernel)) (fun _ h9 => h9) rfl dX0_count_4 ?_
      refine va_alen hx hb hK hP 6 2 rfl rfl (v := nI (2 ^ N)) rfl dX0_count_7 ?_
      refine xa_ge (tgt := 28) hx hb (by omega) (by omega) dX0_count_8 (by decide) (fun c_8 => ?_) (fun c_8 => ?_)
      · refine lv_iconst (v := nI 0) hx hb dX0_count_28 (by decide) ?_
        refine lv_istore_n (lv' := [(2, .int (nI 0)), (0, .ref (ad 5)), (1, .ref (ad (10 + j)))]) hx hb dX0_count_29 rfl hl (by decide) rfl (fun ls hl => ?_)
        refine lv_aload_n hx hb dX0_count_30 rfl (lv_at hl 1 rfl) ?_
        refine va_get (D := D) (ci := 0) (C := RX0) (T := TX0) (N := 5) hx hb hts (by decide +kernel) hown hK hP 5 rfl rfl 0 (by decide) (hts (.fieldLink RX0 9 "ForkDesk$ForkCounter" "variables" "I") (by decide +kernel)) (fun _ h9 => h9) rfl dX0_count_31 ?_
        refine lv_istore_n (lv' := [(3, .int (nI N)), (2, .int (nI 0)), (0, .ref (ad 5)), (1, .ref (ad (10 + j)))]) hx hb dX0_count_34 rfl hl (by decide) rfl (fun ls hl => ?_)
        have lp_35 : ∀ (n9 : Nat) (v : Nat) (sm : Nat) (k3 : Nat → Int32) (uh3 : Nat → Int32) (bf3 : Nat → Int32) (la3 : Nat → Int32) (H : Heap) (locs : List Loc) (ls : Array Slot), (v < n9) → (v ≤ N) → (sm = fc gj N (N - v)) → (∀ i, i < 2 ^ v → k3 i = nI (kl gj N (N - v) i)) → va_P D vwCl (dkW N ad cJJ cJ cI dr re tu k3 uh3 bf3 la3 G) H → va_S A s.heap H locs → lv_has ls 4 [(0, .ref (ad 5)), (1, .ref (ad (10 + j))), (2, .int (nI sm)), (3, .int (nI v))] → W p l e (headSpec wsX0_count ({ frames := 2, cells := 0, slots := 0, locals := 51 } : Room)).room s m ([.ref (ad 5), .ref (ad (10 + j))] : List Value).toArray below meth c H locs 0 0 (MQ below (va_Qi (fun (r : Int32) (u : (Nat → Int32) × (Nat → Int32) × (Nat → Int32) × (Nat → Int32)) => r = nI (fc gj N N)) (fun (u : (Nat → Int32) × (Nat → Int32) × (Nat → Int32) × (Nat → Int32)) t => va_P D vwCl (dkW N ad cJJ cJ cI dr re tu u.1 u.2.1 u.2.2.1 u.2.2.2 G) t.heap) A) ([.ref (ad 5), .ref (ad (10 + j))] : List Value).toArray s 0 0 A) (F0 m 35 ls []) := by
          intro n9
          induction n9 with
          | zero => intro v sm k3 uh3 bf3 la3 H locs ls h0; exact absurd h0 (by omega)
          | succ n9 ih =>
            intro v sm k3 uh3 bf3 la3 H locs ls hn hvN hsm hkk hP hS hl
            have ih_35 := @ih
            refine lv_iload_n hx hb dX0_count_35 rfl (lv_at hl 3 rfl) ?_
            refine lv_iconst (v := nI 1) hx hb dX0_count_36 (by decide) ?_
            refine xa_lt (tgt := 58) hx hb (by omega) (by omega) dX0_count_37 (by decide) (fun c_37 => ?_) (fun c_37 => ?_)
            · refine lv_iload_n hx hb dX0_count_58 rfl (lv_at hl 2 rfl) ?_
              exact W.iret (v := (nI sm)) hx hb hr (fun t ht hW => ⟨⟨(nI sm), (k3, uh3, bf3, la3), rfl, (by rw [hsm, show v = 0 by omega, Nat.sub_zero]), (by show va_P _ _ _ _; rw [ht]; exact hP)⟩, hS.F ht⟩) hS.2.2 dX0_count_59
            · obtain ⟨v1, ev1⟩ : ∃ z, v = z + 1 := ⟨v - 1, by omega⟩
              subst ev1
              have hv1N : v1 + 1 ≤ N := hvN
              have hvh : 2 ^ v1 ≤ nh N := Nat.pow_le_pow_right (by omega) (by omega)
              refine lv_iload_n hx hb dX0_count_40 rfl (lv_at hl 2 rfl) ?_
              refine lv_aload_n hx hb dX0_count_41 rfl (lv_at hl 0 rfl) ?_
              refine lv_iconst (v := nI 1) hx hb dX0_count_42 (by decide) ?_
              refine lv_iload_n hx hb dX0_count_43 rfl (lv_at hl 3 rfl) ?_
              refine lv_iconst (v := nI 1) hx hb dX0_count_44 (by decide) ?_
              refine xa_isub hx hb (by omega) dX0_count_45 ?_
              refine xa_ishl1 hx hb (by omega) dX0_count_46 ?_
              refine va_calli (va_runV (As := [.int (nI (2 ^ (v1 + 1 - 1)))]) (rest := [.int (nI sm)]) ⟨hx, hb, hml, hown, hts⟩ (c_countLevel l D _ N hN1 hN ad (aok_true hao) cJJ cJ cI dr re tu k3 uh3 bf3 la3 G (kl gj N (N - (v1 + 1))) (2 ^ (v1 + 1 - 1)) (by rw [Nat.add_sub_cancel]; exact hvh) (fun i hi => hkk i (by rw [Nat.add_sub_cancel] at hi; rw [Nat.pow_succ]; omega)) (fun i hi => kl_lt hv1N (by rw [Nat.add_sub_cancel] at hi; rw [Nat.pow_succ]; omega))) (cwV 1 hts gX0_count_X0_countLevel rfl rfl rfl (by decide +kernel) ⟨Nat.le_of_ble_eq_true rfl, Nat.le_of_ble_eq_true rfl⟩) ⟨wp0_blind, va_recv hK hP (ci := 0) (q0 := 5) rfl rfl, fun U hU hW => wp0_of hP hK htb hS (fr_in hao hS hA) hU hW⟩ rfl rfl hl.1 rfl (lv_room (Nat.le_of_ble_eq_true rfl)) dX0_count_47 ⟨Nat.zero_le _, Nat.zero_le _⟩) hS (fun q _ h => (fr_in hao hS hA) q h) ((fr_in hao hS hA)) (fun r_47 u_47 t H1 locs ht hvm hw hB hz1 hk1 hS => ?_)
              rw [ht] at hB
              have hP := hB
              clear hz1 ht
              generalize H1 = H at hP hS ⊢
              rw [hw.1, show v1 + 1 - 1 = v1 by omega]
              have hcf := cf_le (fun b => kl gj N (N - (v1 + 1)) (2 * b)) (fun b => kl gj N (N - (v1 + 1)) (2 * b + 1)) (2 ^ v1)
              refine xa_iadd hx hb dX0_count_50 ?_
              refine lv_istore_n (lv' := [(2, .int (nI (sm + (cf (fun b => kl gj N (N - (v1 + 1)) (2 * b)) (fun b => kl gj N (N - (v1 + 1)) (2 * b + 1)) (2 ^ v1))))), (0, .ref (ad 5)), (1, .ref (ad (10 + j))), (3, .int (nI (v1 + 1)))]) hx hb dX0_count_51 rfl hl (by decide) rfl (fun ls hl => ?_)
              refine xa_dec (k := 3) (lv' := [(3, .int (nI v1)), (2, .int (nI (sm + (cf (fun b => kl gj N (N - (v1 + 1)) (2 * b)) (fun b => kl gj N (N - (v1 + 1)) (2 * b + 1)) (2 ^ v1))))), (0, .ref (ad 5)), (1, .ref (ad (10 + j)))]) hx hb dX0_count_52 hl rfl (by decide) rfl (fun ls hl => ?_)
              refine lv_goto (tgt := 35) hx hb dX0_count_55 (by decide) ?_
              exact ih_35 v1 (sm + cf (fun b => kl gj N (N - (v1 + 1)) (2 * b)) (fun b => kl gj N (N - (v1 + 1)) (2 * b + 1)) (2 ^ v1)) u_47.1 u_47.2.1 u_47.2.2.1 u_47.2.2.2 _ _ _ (by omega) (by omega) (by rw [hsm]; exact fc_s hv1N) (fun i hi => by rw [hw.2 i (by rw [Nat.add_sub_cancel]; exact hi)]; exact congrArg nI (kl_s hv1N i)) hP hS (lv_sub hl [2, 3, 1, 0] rfl)
        exact lp_35 (N + 1) N 0 k2 uh bf la _ _ _ (by omega) (Nat.le_refl N) (by rw [Nat.sub_self]; rfl) (fun i hi => by rw [Nat.sub_self]; exact hI i (by omega)) hP hS (lv_sub hl [2, 3, 1, 0] rfl)
      · refine lv_aload_n hx hb dX0_count_11 rfl (lv_at hl 0 rfl) ?_
        refine va_get (D := D) (ci := 0) (C := RX0) (T := TX0) (N := 5) hx hb hts (by decide +kernel) hown hK hP 5 rfl rfl 1 (by decide) (hts (.fieldLink RX0 15 "ForkDesk$ForkCounter" "kinds" "[I") (by decide +kernel)) (fun _ h9 => h9) rfl dX0_count_12 ?_
        refine lv_iload_n hx hb dX0_count_15 rfl (lv_at hl 2 rfl) ?_
        refine lv_aload_n hx hb dX0_count_16 rfl (lv_at hl 1 rfl) ?_
        refine lv_iload_n hx hb dX0_count_17 rfl (lv_at hl 2 rfl) ?_
        have hpn := pt_nw c_8
        refine va_calli (va_runSN (As := [.ref (ad (10 + j)), .int (nI pt)]) (rest := [.int (nI pt), .ref (ad 6)]) ⟨hx, hb, hml, hown, hts⟩ (c_valueAt l D _ (ad (10 + j)) cJ (nw N) (G j) pt (by omega) (by omega) (by omega)) (⟨va_cnB 2 hts gX0_count_X1_valueAt_n34 rfl rfl rfl hNst (hts (.initialized RX1) (by decide +kernel)) (by decide +kernel) ⟨Nat.le_of_ble_eq_true rfl, Nat.le_of_ble_eq_true rfl⟩, hts (.static yX1_valueAt) (by decide +kernel), trivial⟩) ⟨wp0_blind, fun U hU hW => wp0_of (va_one hP (10 + j) (dk_row (by omega))) (hK.sub [1] rfl) htb hS no_in hU hW⟩ rfl rfl hl.1 rfl (lv_room (Nat.le_of_ble_eq_true rfl)) dX0_count_18 ⟨Nat.zero_le _, Nat.zero_le _⟩) hS (fun q _ h => h.elim) (fun q h => h.elim) (fun r_18 u_18 t H1 locs ht hvm hw hB hz1 hk1 hS => ?_)
        have hP := xa_same hP hk1
        clear hz1 hk1 hB ht
        generalize H1 = H at hP hS ⊢
        subst hw
        refine xa_iast hx hb hK hP (dk_D hao) hS 6 2 rfl rfl (w := pt) (by omega) (by omega) dX0_count_21 (fun H locs hP _ hS => ?_)
        have hP : va_P D vwCl (dkW N ad cJJ cJ cI dr re tu (upd k2 pt (nI ((lb (G j (pt / 64)) (pt % 64)).toNat))) uh bf la G) H := hP
        refine xa_inc (k := 2) (lv' := [(2, .int (nI (pt + 1))), (0, .ref (ad 5)), (1, .ref (ad (10 + j)))]) hx hb dX0_count_22 hl rfl (by decide) rfl (fun ls hl => ?_)
        refine lv_goto (tgt := 2) hx hb dX0_count_25 (by decide) ?_
        exact ih_2 (pt + 1) (upd k2 pt (nI ((lb (G j (pt / 64)) (pt % 64)).toNat))) _ _ _ (by omega) (by omega) (fun i hi => by by_cases hip : i = pt; (subst hip; rw [pk_us, hgj _ _ hpn.1 (Nat.mod_lt _ (by omega)), Nat.div_add_mod]); (rw [pk_un hip]; exact hI i (by omega))) hP hS (lv_sub hl [1, 2, 0] rfl)
  exact lp_2 (2 ^ N + 1 - 0) 0 kd _ _ _ (by omega) (by omega) (fun i hi => absurd hi (by omega)) hP hS (lv_sub hl [1, 2, 0] rfl)
end
section
set_option maxHeartbeats 4000000 in
set_option maxRecDepth 100000 in
/-- readTuples -/
theorem c_readTuples (l : Launch) (D : va_G) (sz : Nat) (N : Nat) (hN1 : 1 ≤ N) (hN : N ≤ 12) (ad : Nat → Nat) (hao : aok (fun _ => True) ad) (cJJ cJ cI : ClassId) (dr re : Nat → Int64) (tu kd uh bf la : Nat → Int32) (G : Nat → Nat → Int64) (x0 cn w : Nat) (h0 : x0 + cn ≤ 32) (hcn : cn ≤ 12) (hw0 : w < nw N) : Met l yX1_readTuples wsX1_readTuples ({ frames := 1, cells := 0, slots := 0, locals := 23 } : Room) (va_Pc [.ref (ad 0), .int (nI x0), .int (nI cn), .int (nI w)] (wp0 D (dkW N ad cJJ cJ cI dr re tu kd uh bf la G) (dkT cJJ cJ cI) (fr ad sz) sz)) (va_Qv (fun (u : Nat → Int32) => ∀ i, i < pw N → u i = nI (tp (fun k i => lb (G k w) i) x0 i cn)) (fun (u : Nat → Int32) t => va_P D vwCl (dkW N ad cJJ cJ cI dr re u kd uh bf la G) t.heap) (fr ad sz)) 0 0 (fr ad sz) := by
  refine Met.ofW (cc := cX1_readTuples) (maxL := 8) (ret := none) (by decide) rfl ?_
  intro p e s m args below meth c s₁ B hml hv
  obtain ⟨rfl, hsz, hP, hK, htb⟩ := hv
  have hx := B.exec
  have hb := B.bytes
  have hr := B.returns
  have hts := atoms_spec (ws := wsX1_readTuples) B.pre
  have hown : s.vm.findClass RX1 = some m.cls := findClass_of_methodNamed B.named
  have hlocks := B.notSynchronized
  subst hsz
  generalize hAe : fr ad s.heap.size = A at htb ⊢
  have hA : ∀ q : Nat, s.heap.size ≤ q → A q := fun q h => by rw [← hAe]; exact fr_new q h
  have hao : aok A ad := by rw [← hAe]; exact aok_fr hao
  obtain ⟨⟨tt, hZ, hT⟩, hNst⟩ := id htb
  have hS : va_S A s.heap s.heap [] := va_S.rf
  have hl := lv_entry ([.ref (ad 0), .int (nI x0), .int (nI cn), .int (nI w)]) (n := 8) (Nat.le_of_ble_eq_true rfl)
  rw [lg_entry_eq]
  generalize (lg_sl ([.ref (ad 0), .int (nI x0), .int (nI cn), .int (nI w)]) ++ List.replicate (8 - (lg_sl ([.ref (ad 0), .int (nI x0), .int (nI cn), .int (nI w)])).length) Slot.unset).toArray = ls at hl ⊢
  have hl : lv_has ls 8 [(0, .ref (ad 0)), (1, .int (nI x0)), (2, .int (nI cn)), (3, .int (nI w))] := hl
  have hnw := nw_le hN
  have hnwp := nw_pos N
  have hpw := pw_le N
  have hpwp := pw_pos N
  have hnp := np_le hN
  refine lv_aload_n hx hb dX1_readTuples_0 rfl (lv_at hl 0 rfl) ?_
  refine va_get (D := D) (ci := 1) (C := RX1) (T := TX1) (N := 10) hx hb hts (by decide +kernel) hown hK hP 0 rfl rfl 8 (by decide) (hts (.fieldLink RX1 49 "ForkDesk" "tuples" "[I") (by decide +kernel)) (fun _ h9 => h9) rfl dX1_readTuples_1 ?_
  refine lv_iconst (v := nI 0) hx hb dX1_readTuples_4 (by decide) ?_
  refine va_callv (va_runS (As := [.ref (ad 4), .int (nI 0)]) (rest := []) ⟨hx, hb, hml, hown, hts⟩ (c_fillI l D _ (ad 4) cI (pw N) tu (nI 0) (by omega)) (va_cwS 2 hts gX1_readTuples_J7_fill_53178 rfl rfl rfl (by decide +kernel) ⟨Nat.le_of_ble_eq_true rfl, Nat.le_of_ble_eq_true rfl⟩) ⟨wp0_blind, fun U hU hW => wp0_of (va_one hP 4 rfl) (hK.sub [2] rfl) htb hS (one_in (hao.2 4 (by omega))) hU hW⟩ rfl rfl hl.1 rfl (lv_room (Nat.le_of_ble_eq_true rfl)) dX1_readTuples_5 ⟨Nat.zero_le _, Nat.zero_le _⟩) hS (fun q _ h => (one_in (hao.2 4 (by omega))) q h) ((one_in (hao.2 4 (by omega)))) (fun u_5 t H1 locs ht hvm hw hB hz1 hk1 hS => ?_)
  rw [ht] at hB
  have hP := va_put1 hP (dk_D hao) 4 rfl hk1 hB
  clear hz1 hk1 hB ht
  generalize H1 = H at hP hS ⊢
  have hP : va_P D vwCl (dkW N ad cJJ cJ cI dr re u_5 kd uh bf la G) H := hP
  refine lv_iload_n hx hb dX1_readTuples_8 rfl (lv_at hl 1 rfl) ?_
  refine lv_istore (lv' := [(4, .int (nI x0)), (0, .ref (ad 0)), (1, .int (nI x0)), (2, .int (nI cn)), (3, .int (nI w))]) hx hb dX1_readTuples_9 hl (by decide) rfl (fun ls hl => ?_)
  have lp_11 : ∀ (n9 k1 : Nat) (t2 : Nat → Int32) (H : Heap) (locs : List Loc) (ls : Array Slot), k1 ≤ x0 + cn → x0 + cn + 1 ≤ k1 + n9 → x0 ≤ k1 → (∀ i, i < pw N → t2 i = nI (tp (fun k i => lb (G k w) i) x0 i (k1 - x0))) → va_P D vwCl (dkW N ad cJJ cJ cI dr re t2 kd uh bf la G) H → va_S A s.heap H locs → lv_has ls 8 [(0, .ref (ad 0)), (1, .int (nI x0)), (2, .int (nI cn)), (3, .int (nI w)), (4, .int (nI k1))] → W p l e (headSpec wsX1_readTuples ({ frames := 1, cells := 0, slots := 0, locals := 23 } : Room)).room s m ([.ref (ad 0), .int (nI x0), .int (nI cn), .int (nI w)] : List Value).toArray below meth c H locs 0 0 (MQ below (va_Qv (fun (u : Nat → Int32) => ∀ i, i < pw N → u i = nI (tp (fun k i => lb (G k w) i) x0 i cn)) (fun (u : Nat → Int32) t => va_P D vwCl (dkW N ad cJJ cJ cI dr re u kd uh bf la G) t.heap) A) ([.ref (ad 0), .int (nI x0), .int (nI cn), .int (nI w)] : List Value).toArray s 0 0 A) (F0 m 11 ls []) := by
    intro n9
    induction n9 with
    | zero => intro k1 t2 H locs ls h1 h2; exact absurd h2 (by omega)
    | succ n9 ih =>
      intro k1 t2 H locs ls hle_11 hmm_11 hk0 hI hP hS hl
      have ih_11 := @ih
      refine lv_iload hx hb dX1_readTuples_11 (lv_at hl 4 rfl) ?_
      refine lv_iload_n hx hb dX1_readTuples_13 rfl (lv_at hl 1 rfl) ?_
      refine lv_iload_n hx hb dX1_readTuples_14 rfl (lv_at hl 2 rfl) ?_
      refine xa_iadd hx hb dX1_readTuples_15 ?_
      refine xa_ge (tgt := 79) hx hb (by omega) (by omega) dX1_readTuples_16 (by decide) (fun c_16 => ?_) (fun c_16 => ?_)
      · exact W.vret hx hb hr (fun t ht hW => ⟨⟨t2, rfl, (fun i hi => by rw [hI i hi, show k1 - x0 = cn by omega]), (by show va_P _ _ _ _; rw [ht]; exact hP)⟩, hS.F ht⟩) hS.2.2 dX1_readTuples_79
      · refine lv_aload_n hx hb dX1_readTuples_19 rfl (lv_at hl 0 rfl) ?_
        refine va_get (D := D) (ci := 1) (C := RX1) (T := TX1) (N := 10) hx hb hts (by decide +kernel) hown hK hP 0 rfl rfl 5 (by decide) (hts (.fieldLink RX1 39 "ForkDesk" "registers" "[[J") (by decide +kernel)) (fun _ h9 => h9) rfl dX1_readTuples_20 ?_
        refine lv_iload hx hb dX1_readTuples_23 (lv_at hl 4 rfl) ?_
        refine xa_aald hx hb hK hP 1 0 rfl rfl (w := k1) (y := ad (10 + k1)) (by omega) (by decide) rfl dX1_readTuples_25 ?_
        refine lv_iload_n hx hb dX1_readTuples_26 rfl (lv_at hl 3 rfl) ?_
        refine xa_lald hx hb hK hP (10 + k1) 1 (dk_row (by omega)) rfl (w := w) (by omega) (by omega) dX1_readTuples_27 ?_
        refine lv_lstore (lv' := [(5, .long (G k1 w)), (0, .ref (ad 0)), (1, .int (nI x0)), (2, .int (nI cn)), (3, .int (nI w)), (4, .int (nI k1))]) hx hb dX1_readTuples_28 hl (by decide) rfl (fun ls hl => ?_)
        refine lv_iconst (v := nI 0) hx hb dX1_readTuples_30 (by decide) ?_
        refine lv_istore (lv' := [(7, .int (nI 0)), (5, .long (G k1 w)), (0, .ref (ad 0)), (1, .int (nI x0)), (2, .int (nI cn)), (3, .int (nI w)), (4, .int (nI k1))]) hx hb dX1_readTuples_31 hl (by decide) rfl (fun ls hl => ?_)
        have lp_33 : ∀ (n9 i1 : Nat) (t3 : Nat → Int32) (H : Heap) (locs : List Loc) (ls : Array Slot), i1 ≤ pw N → pw N + 1 ≤ i1 + n9 → (∀ i, i < i1 → t3 i = nI (tp (fun k i => lb (G k w) i) x0 i (k1 - x0 + 1))) → (∀ i, i1 ≤ i → i < pw N → t3 i = t2 i) → va_P D vwCl (dkW N ad cJJ cJ cI dr re t3 kd uh bf la G) H → va_S A s.heap H locs → lv_has ls 8 [(0, .ref (ad 0)), (1, .int (nI x0)), (2, .int (nI cn)), (3, .int (nI w)), (4, .int (nI k1)), (5, .long (G k1 w)), (7, .int (nI i1))] → W p l e (headSpec wsX1_readTuples ({ frames := 1, cells := 0, slots := 0, locals := 23 } : Room)).room s m ([.ref (ad 0), .int (nI x0), .int (nI cn), .int (nI w)] : List Value).toArray below meth c H locs 0 0 (MQ below (va_Qv (fun (u : Nat → Int32) => ∀ i, i < pw N → u i = nI (tp (fun k i => lb (G k w) i) x0 i cn)) (fun (u : Nat → Int32) t => va_P D vwCl (dkW N ad cJJ cJ cI dr re u kd uh bf la G) t.heap) A) ([.ref (ad 0), .int (nI x0), .int (nI cn), .int (nI w)] : List Value).toArray s 0 0 A) (F0 m 33 ls []) := by
          intro n9
          induction n9 with
          | zero => intro i1 t3 H locs ls h1 h2; exact absurd h2 (by omega)
          | succ n9 ih =>
            intro i1 t3 H locs ls hle_33 hmm_33 hJ hL hP hS hl
            have ih_33 := @ih
            refine lv_iload hx hb dX1_readTuples_33 (lv_at hl 6 rfl) ?_
            refine lv_aload_n hx hb dX1_readTuples_35 rfl (lv_at hl 0 rfl) ?_
            refine va_get (D := D) (ci := 1) (C := RX1) (T := TX1) (N := 10) hx hb hts (by decide +kernel) hown hK hP 0 rfl rfl 3 (by decide) (hts (.fieldLink RX1 28 "ForkDesk" "pointsInWord" "I") (by decide +kernel)) (fun _ h9 => h9) rfl dX1_readTuples_36 ?_
            refine xa_ge (tgt := 73) hx hb (by omega) (by omega) dX1_readTuples_39 (by decide) (fun c_39 => ?_) (fun c_39 => ?_)
            · refine xa_inc (k := 4) (lv' := [(4, .int (nI (k1 + 1))), (0, .ref (ad 0)), (1, .int (nI x0)), (2, .int (nI cn)), (3, .int (nI w)), (5, .long (G k1 w)), (7, .int (nI i1))]) hx hb dX1_readTuples_73 hl rfl (by decide) rfl (fun ls hl => ?_)
              refine lv_goto (tgt := 11) hx hb dX1_readTuples_76 (by decide) ?_
              exact ih_11 (k1 + 1) t3 _ _ _ (by omega) (by omega) (by omega) (fun i hi => by rw [show k1 + 1 - x0 = k1 - x0 + 1 by omega]; exact hJ i (by omega)) hP hS (lv_sub hl [1, 2, 3, 4, 0] rfl)
            · refine lv_aload_n hx hb dX1_readTuples_42 rfl (lv_at hl 0 rfl) ?_
              refine va_get (D := D) (ci := 1) (C := RX1) (T := TX1) (N := 10) hx hb hts (by decide +kernel) hown hK hP 0 rfl rfl 8 (by decide) (hts (.fieldLink RX1 49 "ForkDesk" "tuples" "[I") (by decide +kernel)) (fun _ h9 => h9) rfl dX1_readTuples_43 ?_
              refine lv_iload hx hb dX1_readTuples_46 (lv_at hl 6 rfl) ?_
              refine lv_aload_n hx hb dX1_readTuples_48 rfl (lv_at hl 0 rfl) ?_
              refine va_get (D := D) (ci := 1) (C := RX1) (T := TX1) (N := 10) hx hb hts (by decide +kernel) hown hK hP 0 rfl rfl 8 (by decide) (hts (.fieldLink RX1 49 "ForkDesk" "tuples" "[I") (by decide +kernel)) (fun _ h9 => h9) rfl dX1_readTuples_49 ?_
              refine lv_iload hx hb dX1_readTuples_52 (lv_at hl 6 rfl) ?_
              refine xa_iald hx hb hK hP 4 2 rfl rfl (w := i1) (by omega) (by omega) dX1_readTuples_54 ?_
              refine lv_iconst (v := nI 1) hx hb dX1_readTuples_55 (by decide) ?_
              refine lv_ishl hx hb dX1_readTuples_56 ?_
              refine lv_lload hx hb dX1_readTuples_57 (lv_at hl 5 rfl) ?_
              refine lv_iload hx hb dX1_readTuples_59 (lv_at hl 6 rfl) ?_
              refine lv_lushr (v := ((G k1 w).toUInt64 >>> ((nI i1).toInt64.toUInt64 &&& Int64.toUInt64 63)).toInt64) hx hb dX1_readTuples_61 rfl ?_
              refine lv_l2i (v := (((G k1 w).toUInt64 >>> ((nI i1).toInt64.toUInt64 &&& Int64.toUInt64 63)).toInt64).toInt32) hx hb dX1_readTuples_62 rfl ?_
              refine lv_iconst (v := nI 1) hx hb dX1_readTuples_63 (by decide) ?_
              refine lv_iand hx hb dX1_readTuples_64 ?_
              refine lv_ior hx hb dX1_readTuples_65 ?_
              refine xa_iast hx hb hK hP (dk_D hao) hS 4 2 rfl rfl (w := i1) (by omega) (by omega) dX1_readTuples_66 (fun H locs hP _ hS => ?_)
              have hP : va_P D vwCl (dkW N ad cJJ cJ cI dr re (upd t3 i1 (((t3 i1) <<< ((nI 1) &&& 31)) ||| (((((G k1 w).toUInt64 >>> ((nI i1).toInt64.toUInt64 &&& Int64.toUInt64 63)).toInt64).toInt32) &&& (nI 1)))) kd uh bf la G) H := hP
              refine xa_inc (k := 6) (lv' := [(7, .int (nI (i1 + 1))), (0, .ref (ad 0)), (1, .int (nI x0)), (2, .int (nI cn)), (3, .int (nI w)), (4, .int (nI k1)), (5, .long (G k1 w))]) hx hb dX1_readTuples_67 hl rfl (by decide) rfl (fun ls hl => ?_)
              refine lv_goto (tgt := 33) hx hb dX1_readTuples_70 (by decide) ?_
              exact ih_33 (i1 + 1) (upd t3 i1 (((t3 i1) <<< ((nI 1) &&& 31)) ||| (((((G k1 w).toUInt64 >>> ((nI i1).toInt64.toUInt64 &&& Int64.toUInt64 63)).toInt64).toInt32) &&& (nI 1)))) _ _ _ (by omega) (by omega) (fun i hi => by by_cases hii : i = i1; (subst hii; rw [pk_us, hL i (Nat.le_refl i) (by omega), hI i (by omega), lb_low, lb_shr i (by omega), Nat.add_zero, tp_w (tp_30 _ _ _ (by omega))]; show nI (2 * _ + (lb (G k1 w) i).toNat) = nI (2 * _ + (lb (G (x0 + (k1 - x0)) w) i).toNat); rw [show x0 + (k1 - x0) = k1 by omega]); (rw [pk_un hii]; exact hJ i (by omega))) (fun i h1 h2 => by rw [pk_un (by omega)]; exact hL i (by omega) h2) hP hS (lv_sub hl [1, 2, 3, 4, 5, 6, 0] rfl)
        exact lp_33 (pw N + 1 - 0) 0 t2 _ _ _ (by omega) (by omega) (fun i hi => absurd hi (by omega)) (fun i _ _ => rfl) hP hS (lv_sub hl [2, 3, 4, 5, 6, 1, 0] rfl)
  exact lp_11 (x0 + cn + 1 - x0) x0 u_5 _ _ _ (by omega) (by omega) (Nat.le_refl x0) (fun i hi => by rw [Nat.sub_self]; exact hw i hi) hP hS (lv_sub hl [1, 2, 3, 4, 0] rfl)
end
section
set_option maxHeartbeats 4000000 in
set_option maxRecDepth 100000 in
/-- markTuples -/
theorem c_markTuples (l : Launch) (D : va_G) (sz : Nat) (N : Nat) (hN1 : 1 ≤ N) (hN : N ≤ 12) (ad : Nat → Nat) (hao : aok (fun _ => True) ad) (cJJ cJ cI : ClassId) (dr re : Nat → Int64) (tu kd uh bf la : Nat → Int32) (G : Nat → Nat → Int64) (wd : Int64) (fb : Nat) (tn : Nat → Nat) (htn : ∀ i, i < pw N → tu i = nI (tn i)) (hlt : ∀ i, i < pw N → tn i * 2 ^ fb < 2 ^ N) (hfb : fb < 12) : Met l yX1_markTuples wsX1_markTuples ({ frames := 0, cells := 0, slots := 0, locals := 0 } : Room) (va_Pc [.ref (ad 0), .long wd, .int (nI fb)] (wp0 D (dkW N ad cJJ cJ cI dr re tu kd uh bf la G) (dkT cJJ cJ cI) (fr ad sz) sz)) (va_Qv (fun (u : Nat → Int64) => u = mks wd tn fb dr (pw N)) (fun (u : Nat → Int64) t => va_P D vwCl (dkW N ad cJJ cJ cI u re tu kd uh bf la G) t.heap) (fr ad sz)) 0 0 (fr ad sz) := by
  refine Met.ofW (cc := cX1_markTuples) (maxL := 6) (ret := none) (by decide) rfl ?_
  intro p e s m args below meth c s₁ B hml hv
  obtain ⟨rfl, hsz, hP, hK, htb⟩ := hv
  have hx := B.exec
  have hb := B.bytes
  have hr := B.returns
  have hts := atoms_spec (ws := wsX1_markTuples) B.pre
  have hown : s.vm.findClass RX1 = some m.cls := findClass_of_methodNamed B.named
  have hlocks := B.notSynchronized
  subst hsz
  generalize hAe : fr ad s.heap.size = A at htb ⊢
  have hA : ∀ q : Nat, s.heap.size ≤ q → A q := fun q h => by rw [← hAe]; exact fr_new q h
  have hao : aok A ad := by rw [← hAe]; exact aok_fr hao
  obtain ⟨⟨tt, hZ, hT⟩, hNst⟩ := id htb
  have hS : va_S A s.heap s.heap [] := va_S.rf
  have hl := lv_entry ([.ref (ad 0), .long wd, .int (nI fb)]) (n := 6) (Nat.le_of_ble_eq_true rfl)
  rw [lg_entry_eq]
  generalize (lg_sl ([.ref (ad 0), .long wd, .int (nI fb)]) ++ List.replicate (6 - (lg_sl ([.ref (ad 0), .long wd, .int (nI fb)])).length) Slot.unset).toArray = ls at hl ⊢
  have hl : lv_has ls 6 [(0, .ref (ad 0)), (1, .long wd), (3, .int (nI fb))] := hl
  have hnw := nw_le hN
  have hnwp := nw_pos N
  have hpw := pw_le N
  have hpwp := pw_pos N
  have hnp := np_le hN
  refine lv_iconst (v := nI 0) hx hb dX1_markTuples_0 (by decide) ?_
  refine lv_istore (lv' := [(4, .int (nI 0)), (0, .ref (ad 0)), (1, .long wd), (3, .int (nI fb))]) hx hb dX1_markTuples_1 hl (by decide) rfl (fun ls hl => ?_)
  have lp_3 : ∀ (n9 i1 : Nat) (d2 : Nat → Int64) (H : Heap) (locs : List Loc) (ls : Array Slot), i1 ≤ pw N → pw N + 1 ≤ i1 + n9 → d2 = mks wd tn fb dr i1 → va_P D vwCl (dkW N ad cJJ cJ cI d2 re tu kd uh bf la G) H → va_S A s.heap H locs → lv_has ls 6 [(0, .ref (ad 0)), (1, .long wd), (3, .int (nI fb)), (4, .int (nI i1))] → W p l e (headSpec wsX1_markTuples ({ frames := 0, cells := 0, slots := 0, locals := 0 } : Room)).room s m ([.ref (ad 0), .long wd, .int (nI fb)] : List Value).toArray below meth c H locs 0 0 (MQ below (va_Qv (fun (u : Nat → Int64) => u = mks wd tn fb dr (pw N)) (fun (u : Nat → Int64) t => va_P D vwCl (dkW N ad cJJ cJ cI u re tu kd uh bf la G) t.heap) A) ([.ref (ad 0), .long wd, .int (nI fb)] : List Value).toArray s 0 0 A) (F0 m 3 ls []) := by
    intro n9
    induction n9 with
    | zero => intro i1 d2 H locs ls h1 h2; exact absurd h2 (by omega)
    | succ n9 ih =>
      intro i1 d2 H locs ls hle_3 hmm_3 hI hP hS hl
      have ih_3 := @ih
      refine lv_iload hx hb dX1_markTuples_3 (lv_at hl 3 rfl) ?_
      refine lv_aload_n hx hb dX1_markTuples_5 rfl (lv_at hl 0 rfl) ?_
      refine va_get (D := D) (ci := 1) (C := RX1) (T := TX1) (N := 10) hx hb hts (by decide +kernel) hown hK hP 0 rfl rfl 3 (by decide) (hts (.fieldLink RX1 28 "ForkDesk" "pointsInWord" "I") (by decide +kernel)) (fun _ h9 => h9) rfl dX1_markTuples_6 ?_
      refine xa_ge (tgt := 60) hx hb (by omega) (by omega) dX1_markTuples_9 (by decide) (fun c_9 => ?_) (fun c_9 => ?_)
      · exact W.vret hx hb hr (fun t ht hW => ⟨⟨d2, rfl, (by rw [hI, show i1 = pw N by omega]), (by show va_P _ _ _ _; rw [ht]; exact hP)⟩, hS.F ht⟩) hS.2.2 dX1_markTuples_60
      · refine lv_lload_n hx hb dX1_markTuples_12 rfl (lv_at hl 1 rfl) ?_
        refine lv_iload hx hb dX1_markTuples_13 (lv_at hl 3 rfl) ?_
        refine lv_lushr (v := (wd.toUInt64 >>> ((nI i1).toInt64.toUInt64 &&& Int64.toUInt64 63)).toInt64) hx hb dX1_markTuples_15 rfl ?_
        refine lv_lconst (v := 1) hx hb dX1_markTuples_16 (by decide) ?_
        refine lv_land hx hb dX1_markTuples_17 ?_
        refine lv_lconst (v := 1) hx hb dX1_markTuples_18 (by decide) ?_
        refine W.lcmp hx hb dX1_markTuples_19 ?_
        refine lv_if_ne (tgt := 54) hx hb dX1_markTuples_20 (by decide) (fun c_20 => ?_) (fun c_20 => ?_)
        · refine xa_inc (k := 3) (lv' := [(4, .int (nI (i1 + 1))), (0, .ref (ad 0)), (1, .long wd), (3, .int (nI fb))]) hx hb dX1_markTuples_54 hl rfl (by decide) rfl (fun ls hl => ?_)
          refine lv_goto (tgt := 3) hx hb dX1_markTuples_57 (by decide) ?_
          exact ih_3 (i1 + 1) d2 _ _ _ (by omega) (by omega) (by subst hI; exact (mks_no (mk_f (by omega) c_20)).symm) hP hS (lv_sub hl [1, 2, 3, 0] rfl)
        · refine lv_aload_n hx hb dX1_markTuples_23 rfl (lv_at hl 0 rfl) ?_
          refine va_get (D := D) (ci := 1) (C := RX1) (T := TX1) (N := 10) hx hb hts (by decide +kernel) hown hK hP 0 rfl rfl 8 (by decide) (hts (.fieldLink RX1 49 "ForkDesk" "tuples" "[I") (by decide +kernel)) (fun _ h9 => h9) rfl dX1_markTuples_24 ?_
          refine lv_iload hx hb dX1_markTuples_27 (lv_at hl 3 rfl) ?_
          refine xa_iald hx hb hK hP 4 2 rfl rfl (w := i1) (by omega) (by omega) dX1_markTuples_29 ?_
          rw [htn i1 (by omega)]
          have hti := hlt i1 (by omega)
          have hpn := pt_nw hti
          refine lv_iload_n hx hb dX1_markTuples_30 rfl (lv_at hl 2 rfl) ?_
          refine xa_ishl hx hb (by omega) (by omega) dX1_markTuples_31 ?_
          refine lv_istore (lv' := [(5, .int (nI (tn i1 * 2 ^ fb))), (0, .ref (ad 0)), (1, .long wd), (3, .int (nI fb)), (4, .int (nI i1))]) hx hb dX1_markTuples_32 hl (by decide) rfl (fun ls hl => ?_)
          refine lv_aload_n hx hb dX1_markTuples_34 rfl (lv_at hl 1 rfl) ?_
          refine va_get (D := D) (ci := 1) (C := RX1) (T := TX1) (N := 10) hx hb hts (by decide +kernel) hown hK hP 0 rfl rfl 6 (by decide) (hts (.fieldLink RX1 42 "ForkDesk" "draft" "[J") (by decide +kernel)) (fun _ h9 => h9) rfl dX1_markTuples_35 ?_
          refine lv_iload hx hb dX1_markTuples_38 (lv_at hl 0 rfl) ?_
          refine lv_bipush (v := nI 64) hx hb dX1_markTuples_40 (by decide) ?_
          refine xa_idiv hx hb (by omega) (by omega) (by omega) dX1_markTuples_42 ?_
          refine lv_dup2_11 hx hb dX1_markTuples_43 rfl rfl ?_
          refine xa_lald hx hb hK hP 2 1 rfl rfl (w := (tn i1 * 2 ^ fb) / 64) (by omega) (by omega) dX1_markTuples_44 ?_
          refine lv_lconst (v := 1) hx hb dX1_markTuples_45 (by decide) ?_
          refine lv_iload hx hb dX1_markTuples_46 (lv_at hl 0 rfl) ?_
          refine lv_bipush (v := nI 64) hx hb dX1_markTuples_48 (by decide) ?_
          refine xa_irem hx hb (by omega) (by omega) (by omega) dX1_markTuples_50 ?_
          refine lv_lshl (v := (1 : Int64) <<< ((nI ((tn i1 * 2 ^ fb) % 64)).toInt64 &&& 63)) hx hb dX1_markTuples_51 rfl ?_
          refine lv_lor hx hb dX1_markTuples_52 ?_
          refine xa_last hx hb hK hP (dk_D hao) hS 2 1 rfl rfl (w := (tn i1 * 2 ^ fb) / 64) (by omega) (by omega) dX1_markTuples_53 (fun H locs hP _ hS => ?_)
          have hP : va_P D vwCl (dkW N ad cJJ cJ cI (vp_updL d2 ((tn i1 * 2 ^ fb) / 64) ((d2 ((tn i1 * 2 ^ fb) / 64)) ||| ((1 : Int64) <<< ((nI ((tn i1 * 2 ^ fb) % 64)).toInt64 &&& 63)))) re tu kd uh bf la G) H := hP
          refine xa_inc (k := 4) (lv' := [(4, .int (nI (i1 + 1))), (5, .int (nI (tn i1 * 2 ^ fb))), (0, .ref (ad 0)), (1, .long wd), (3, .int (nI fb))]) hx hb dX1_markTuples_54 hl rfl (by decide) rfl (fun ls hl => ?_)
          refine lv_goto (tgt := 3) hx hb dX1_markTuples_57 (by decide) ?_
          exact ih_3 (i1 + 1) (vp_updL d2 ((tn i1 * 2 ^ fb) / 64) ((d2 ((tn i1 * 2 ^ fb) / 64)) ||| ((1 : Int64) <<< ((nI ((tn i1 * 2 ^ fb) % 64)).toInt64 &&& 63)))) _ _ _ (by omega) (by omega) (by subst hI; exact (mks_yes (mk_t (by omega) c_20)).symm) hP hS (lv_sub hl [2, 3, 4, 0] rfl)
  exact lp_3 (pw N + 1 - 0) 0 dr _ _ _ (by omega) (by omega) rfl hP hS (lv_sub hl [1, 2, 3, 0] rfl)
end
section
set_option maxHeartbeats 4000000 in
set_option maxRecDepth 100000 in
/-- constant -/
theorem c_constant (l : Launch) (D : va_G) (sz : Nat) (N : Nat) (hN1 : 1 ≤ N) (hN : N ≤ 12) (ad : Nat → Nat) (hao : aok (fun _ => True) ad) (cJJ cJ cI : ClassId) (dr re : Nat → Int64) (tu kd uh bf la : Nat → Int32) (G : Nat → Nat → Int64) (g : Nat → Nat → Bool) (hg : okG N G g) (k v : Int32) : Met l yX1_constant wsX1_constant ({ frames := 1, cells := 0, slots := 0, locals := 24 } : Room) (va_Pc [.ref (ad 0), .int k, .int v] (wp0 D (dkW N ad cJJ cJ cI dr re tu kd uh bf la G) (dkT cJJ cJ cI) (fr ad sz) sz)) (va_Qi (fun (r : Int32) (u : dkS) => r = nI (spC N g k v).isSome.toNat ∧ okG N (dkR u) ((spC N g k v).getD g)) (fun (u : dkS) t => va_P D vwCl (dkU N ad cJJ cJ cI u) t.heap) (fr ad sz)) 0 0 (fr ad sz) := by
  refine Met.ofW (cc := cX1_constant) (maxL := 3) (ret := (some .boolean)) (by decide) rfl ?_
  intro p e s m args below meth c s₁ B hml hv
  obtain ⟨rfl, hsz, hP, hK, htb⟩ := hv
  have hx := B.exec
  have hb := B.bytes
  have hr := B.returns
  have hts := atoms_spec (ws := wsX1_constant) B.pre
  have hown : s.vm.findClass RX1 = some m.cls := findClass_of_methodNamed B.named
  have hlocks := B.notSynchronized
  subst hsz
  generalize hAe : fr ad s.heap.size = A at htb ⊢
  have hA : ∀ q : Nat, s.heap.size ≤ q → A q := fun q h => by rw [← hAe]; exact fr_new q h
  have hao : aok A ad := by rw [← hAe]; exact aok_fr hao
  obtain ⟨⟨tt, hZ, hT⟩, hNst⟩ := id htb
  have hS : va_S A s.heap s.heap [] := va_S.rf
  have hl := lv_entry ([.ref (ad 0), .int k, .int v]) (n := 3) (Nat.le_of_ble_eq_true rfl)
  rw [lg_entry_eq]
  generalize (lg_sl ([.ref (ad 0), .int k, .int v]) ++ List.replicate (3 - (lg_sl ([.ref (ad 0), .int k, .int v])).length) Slot.unset).toArray = ls at hl ⊢
  have hl : lv_has ls 3 [(0, .ref (ad 0)), (1, .int k), (2, .int v)] := hl
  have hnw := nw_le hN
  have hnwp := nw_pos N
  have hpw := pw_le N
  have hpwp := pw_pos N
  have hnp := np_le hN
  refine lv_iload_n hx hb dX1_constant_0 rfl (lv_at hl 1 rfl) ?_
  refine va_calli (va_runS (As := [.int k]) (rest := []) ⟨hx, hb, hml, hown, hts⟩ (c_isRegister l D _ k) (va_cwS 1 hts gX1_constant_X1_isRegister rfl rfl rfl (by decide +kernel) ⟨Nat.le_of_ble_eq_true rfl, Nat.le_of_ble_eq_true rfl⟩) ⟨wp0_blind, fun U hU hW => wp0_of (va_P.sub hP [] rfl) (hK.sub [] rfl) htb hS no_in hU hW⟩ rfl rfl hl.1 rfl (lv_room (Nat.le_of_ble_eq_true rfl)) dX1_constant_1 ⟨Nat.zero_le _, Nat.zero_le _⟩) hS (fun q _ h => h.elim) (fun q h => h.elim) (fun r_1 u_1 t H1 locs ht hvm hw hB hz1 hk1 hS => ?_)
  have hP := xa_same hP hk1
  clear hz1 hk1 hB ht
  generalize H1 = H at hP hS ⊢
  subst hw
  refine xa_if0 (tgt := 14) hx hb dX1_constant_4 (by decide) (fun c_4 => ?_) (fun c_4 => ?_)
  · refine lv_iconst (v := nI 0) hx hb dX1_constant_14 (by decide) ?_
    exact W.zret (v := (nI 0)) hx hb hr (by decide) (fun t ht hW => ⟨⟨(nI 0), (dr, re, tu, kd, uh, bf, la, G), rfl, ⟨by rw [(show spC N g k v = none from if_neg (by simp [c_4]))]; rfl, by rw [(show spC N g k v = none from if_neg (by simp [c_4]))]; exact hg⟩, (by show va_P _ _ _ _; rw [ht]; exact hP)⟩, hS.F ht⟩) hS.2.2 dX1_constant_15
  · refine lv_iload_n hx hb dX1_constant_7 rfl (lv_at hl 2 rfl) ?_
    refine va_calli (va_runS (As := [.int v]) (rest := []) ⟨hx, hb, hml, hown, hts⟩ (c_isValue l D _ v) (va_cwS 1 hts gX1_constant_X1_isValue rfl rfl rfl (by decide +kernel) ⟨Nat.le_of_ble_eq_true rfl, Nat.le_of_ble_eq_true rfl⟩) ⟨wp0_blind, fun U hU hW => wp0_of (va_P.sub hP [] rfl) (hK.sub [] rfl) htb hS no_in hU hW⟩ rfl rfl hl.1 rfl (lv_room (Nat.le_of_ble_eq_true rfl)) dX1_constant_8 ⟨Nat.zero_le _, Nat.zero_le _⟩) hS (fun q _ h => h.elim) (fun q h => h.elim) (fun r_8 u_8 t H1 locs ht hvm hw hB hz1 hk1 hS => ?_)
    have hP := xa_same hP hk1
    clear hz1 hk1 hB ht
    generalize H1 = H at hP hS ⊢
    subst hw
    refine xa_if1 (tgt := 16) hx hb dX1_constant_11 (by decide) (fun c_11 => ?_) (fun c_11 => ?_)
    · obtain ⟨j, hj, ej⟩ := isR_t c_4
      rw [ej] at hl
      obtain ⟨bv, ebv⟩ := isB_t c_11
      rw [ebv] at hl
      have hbv := tn_le bv
      have hsp : spC N g k v = some (va_up g j (fun p => bv && decide (p < 2 ^ N))) := by unfold spC; rw [if_pos (by rw [c_4, c_11]; rfl), ej, ebv, ix_nI (by omega), tn_d]
      refine lv_aload_n hx hb dX1_constant_16 rfl (lv_at hl 0 rfl) ?_
      refine va_get (D := D) (ci := 1) (C := RX1) (T := TX1) (N := 10) hx hb hts (by decide +kernel) hown hK hP 0 rfl rfl 5 (by decide) (hts (.fieldLink RX1 39 "ForkDesk" "registers" "[[J") (by decide +kernel)) (fun _ h9 => h9) rfl dX1_constant_17 ?_
      refine lv_iload_n hx hb dX1_constant_20 rfl (lv_at hl 1 rfl) ?_
      refine xa_aald hx hb hK hP 1 0 rfl rfl (w := j) (y := ad (10 + j)) (by omega) (by decide) rfl dX1_constant_21 ?_
      refine lv_iload_n hx hb dX1_constant_22 rfl (lv_at hl 2 rfl) ?_
      refine lv_iconst (v := nI 1) hx hb dX1_constant_23 (by decide) ?_
      refine xa_ne (tgt := 34) hx hb (by omega) (by omega) dX1_constant_24 (by decide) (fun c_24 => ?_) (fun c_24 => ?_)
      · refine lv_lconst (v := 0) hx hb dX1_constant_34 (by decide) ?_
        refine va_callv (va_runS (As := [.ref (ad (10 + j)), .long (0 : Int64)]) (rest := []) ⟨hx, hb, hml, hown, hts⟩ (c_fillL l D _ (ad (10 + j)) cJ (nw N) (G j) (0 : Int64) (by omega)) (va_cwS 2 hts gX1_constant_J7_fill_d0a16 rfl rfl rfl (by decide +kernel) ⟨Nat.le_of_ble_eq_true rfl, Nat.le_of_ble_eq_true rfl⟩) ⟨wp0_blind, fun U hU hW => wp0_of (va_one hP (10 + j) (dk_row (by omega))) (hK.sub [1] rfl) htb hS (one_in (hao.2 (10 + j) (by omega))) hU hW⟩ rfl rfl hl.1 rfl (lv_room (Nat.le_of_ble_eq_true rfl)) dX1_constant_35 ⟨Nat.zero_le _, Nat.zero_le _⟩) hS (fun q _ h => (one_in (hao.2 (10 + j) (by omega))) q h) ((one_in (hao.2 (10 + j) (by omega)))) (fun u_35 t H1 locs ht hvm hw hB hz1 hk1 hS => ?_)
        rw [ht] at hB
        have hP := va_put1 hP (dk_D hao) (10 + j) (dk_row (by omega)) hk1 hB
        rw [dk_set _ (by omega)] at hP
        clear hz1 hk1 hB ht
        generalize H1 = H at hP hS ⊢
        refine lv_iconst (v := nI 1) hx hb dX1_constant_38 (by decide) ?_
        exact W.zret (v := (nI 1)) hx hb hr (by decide) (fun t ht hW => ⟨⟨(nI 1), (dr, re, tu, kd, uh, bf, la, va_up G j u_35), rfl, ⟨by rw [hsp]; rfl, by rw [hsp]; exact (okG_up hg (rp_const (b := bv) (fun z hz => by rw [hw z hz]; first | rw [if_pos (tn_1 c_24)] | rw [if_neg (tn_0 c_24)])) (dm_lt N (fun _ => bv)))⟩, (by show va_P _ _ _ _; rw [ht]; exact hP)⟩, hS.F ht⟩) hS.2.2 dX1_constant_39
      · refine lv_aload_n hx hb dX1_constant_27 rfl (lv_at hl 0 rfl) ?_
        refine va_get (D := D) (ci := 1) (C := RX1) (T := TX1) (N := 10) hx hb hts (by decide +kernel) hown hK hP 0 rfl rfl 4 (by decide) (hts (.fieldLink RX1 33 "ForkDesk" "allOnes" "J") (by decide +kernel)) (fun _ h9 => h9) rfl dX1_constant_28 ?_
        refine lv_goto (tgt := 35) hx hb dX1_constant_31 (by decide) ?_
        refine va_callv (va_runS (As := [.ref (ad (10 + j)), .long (ao N)]) (rest := []) ⟨hx, hb, hml, hown, hts⟩ (c_fillL l D _ (ad (10 + j)) cJ (nw N) (G j) (ao N) (by omega)) (va_cwS 2 hts gX1_constant_J7_fill_d0a16 rfl rfl rfl (by decide +kernel) ⟨Nat.le_of_ble_eq_true rfl, Nat.le_of_ble_eq_true rfl⟩) ⟨wp0_blind, fun U hU hW => wp0_of (va_one hP (10 + j) (dk_row (by omega))) (hK.sub [1] rfl) htb hS (one_in (hao.2 (10 + j) (by omega))) hU hW⟩ rfl rfl hl.1 rfl (lv_room (Nat.le_of_ble_eq_true rfl)) dX1_constant_35 ⟨Nat.zero_le _, Nat.zero_le _⟩) hS (fun q _ h => (one_in (hao.2 (10 + j) (by omega))) q h) ((one_in (hao.2 (10 + j) (by omega)))) (fun u_35 t H1 locs ht hvm hw hB hz1 hk1 hS => ?_)
        rw [ht] at hB
        have hP := va_put1 hP (dk_D hao) (10 + j) (dk_row (by omega)) hk1 hB
        rw [dk_set _ (by omega)] at hP
        clear hz1 hk1 hB ht
        generalize H1 = H at hP hS ⊢
        refine lv_iconst (v := nI 1) hx hb dX1_constant_38 (by decide) ?_
        exact W.zret (v := (nI 1)) hx hb hr (by decide) (fun t ht hW => ⟨⟨(nI 1), (dr, re, tu, kd, uh, bf, la, va_up G j u_35), rfl, ⟨by rw [hsp]; rfl, by rw [hsp]; exact (okG_up hg (rp_const (b := bv) (fun z hz => by rw [hw z hz]; first | rw [if_pos (tn_1 c_24)] | rw [if_neg (tn_0 c_24)])) (dm_lt N (fun _ => bv)))⟩, (by show va_P _ _ _ _; rw [ht]; exact hP)⟩, hS.F ht⟩) hS.2.2 dX1_constant_39
    · refine lv_iconst (v := nI 0) hx hb dX1_constant_14 (by decide) ?_
      exact W.zret (v := (nI 0)) hx hb hr (by decide) (fun t ht hW => ⟨⟨(nI 0), (dr, re, tu, kd, uh, bf, la, G), rfl, ⟨by rw [(show spC N g k v = none from if_neg (by simp [c_4, c_11]))]; rfl, by rw [(show spC N g k v = none from if_neg (by simp [c_4, c_11]))]; exact hg⟩, (by show va_P _ _ _ _; rw [ht]; exact hP)⟩, hS.F ht⟩) hS.2.2 dX1_constant_15
end
section
set_option maxHeartbeats 4000000 in
set_option maxRecDepth 100000 in
/-- substitute -/
theorem c_substitute (l : Launch) (D : va_G) (sz : Nat) (N : Nat) (hN1 : 1 ≤ N) (hN : N ≤ 12) (ad : Nat → Nat) (hao : aok (fun _ => True) ad) (cJJ cJ cI : ClassId) (dr re : Nat → Int64) (tu kd uh bf la : Nat → Int32) (G : Nat → Nat → Int64) (g : Nat → Nat → Bool) (hg : okG N G g) (k a f : Int32) : Met l yX1_substitute wsX1_substitute ({ frames := 2, cells := 0, slots := 0, locals := 61 } : Room) (va_Pc [.ref (ad 0), .int k, .int a, .int f] (wp0 D (dkW N ad cJJ cJ cI dr re tu kd uh bf la G) (dkT cJJ cJ cI) (fr ad sz) sz)) (va_Qi (fun (r : Int32) (u : dkS) => r = nI (spS N g k a f).isSome.toNat ∧ okG N (dkR u) ((spS N g k a f).getD g)) (fun (u : dkS) t => va_P D vwCl (dkU N ad cJJ cJ cI u) t.heap) (fr ad sz)) 0 0 (fr ad sz) := by
  refine Met.ofW (cc := cX1_substitute) (maxL := 8) (ret := (some .boolean)) (by decide) rfl ?_
  intro p e s m args below meth c s₁ B hml hv
  obtain ⟨rfl, hsz, hP, hK, htb⟩ := hv
  have hx := B.exec
  have hb := B.bytes
  have hr := B.returns
  have hts := atoms_spec (ws := wsX1_substitute) B.pre
  have hown : s.vm.findClass RX1 = some m.cls := findClass_of_methodNamed B.named
  have hlocks := B.notSynchronized
  subst hsz
  generalize hAe : fr ad s.heap.size = A at htb ⊢
  have hA : ∀ q : Nat, s.heap.size ≤ q → A q := fun q h => by rw [← hAe]; exact fr_new q h
  have hao : aok A ad := by rw [← hAe]; exact aok_fr hao
  obtain ⟨⟨tt, hZ, hT⟩, hNst⟩ := id htb
  have hS : va_S A s.heap s.heap [] := va_S.rf
  have hl := lv_entry ([.ref (ad 0), .int k, .int a, .int f]) (n := 8) (Nat.le_of_ble_eq_true rfl)
  rw [lg_entry_eq]
  generalize (lg_sl ([.ref (ad 0), .int k, .int a, .int f]) ++ List.replicate (8 - (lg_sl ([.ref (ad 0), .int k, .int a, .int f])).length) Slot.unset).toArray = ls at hl ⊢
  have hl : lv_has ls 8 [(0, .ref (ad 0)), (1, .int k), (2, .int a), (3, .int f)] := hl
  have hnw := nw_le hN
  have hnwp := nw_pos N
  have hpw := pw_le N
  have hpwp := pw_pos N
  have hnp := np_le hN
  refine lv_iload_n hx hb dX1_substitute_0 rfl (lv_at hl 1 rfl) ?_
  refine va_calli (va_runS (As := [.int k]) (rest := []) ⟨hx, hb, hml, hown, hts⟩ (c_isRegister l D _ k) (va_cwS 1 hts gX1_substitute_X1_isRegister rfl rfl rfl (by decide +kernel) ⟨Nat.le_of_ble_eq_true rfl, Nat.le_of_ble_eq_true rfl⟩) ⟨wp0_blind, fun U hU hW => wp0_of (va_P.sub hP [] rfl) (hK.sub [] rfl) htb hS no_in hU hW⟩ rfl rfl hl.1 rfl (lv_room (Nat.le_of_ble_eq_true rfl)) dX1_substitute_1 ⟨Nat.zero_le _, Nat.zero_le _⟩) hS (fun q _ h => h.elim) (fun q h => h.elim) (fun r_1 u_1 t H1 locs ht hvm hw hB hz1 hk1 hS => ?_)
  have hP := xa_same hP hk1
  clear hz1 hk1 hB ht
  generalize H1 = H at hP hS ⊢
  subst hw
  refine xa_if0 (tgt := 25) hx hb dX1_substitute_4 (by decide) (fun c_4 => ?_) (fun c_4 => ?_)
  · refine lv_iconst (v := nI 0) hx hb dX1_substitute_25 (by decide) ?_
    exact W.zret (v := (nI 0)) hx hb hr (by decide) (fun t ht hW => ⟨⟨(nI 0), (dr, re, tu, kd, uh, bf, la, G), rfl, ⟨by rw [(show spS N g k a f = none from if_neg (by simp [c_4]))]; rfl, by rw [(show spS N g k a f = none from if_neg (by simp [c_4]))]; exact hg⟩, (by show va_P _ _ _ _; rw [ht]; exact hP)⟩, hS.F ht⟩) hS.2.2 dX1_substitute_26
  · refine lv_iload_n hx hb dX1_substitute_7 rfl (lv_at hl 2 rfl) ?_
    refine va_calli (va_runS (As := [.int a]) (rest := []) ⟨hx, hb, hml, hown, hts⟩ (c_isRegister l D _ a) (va_cwS 1 hts gX1_substitute_X1_isRegister rfl rfl rfl (by decide +kernel) ⟨Nat.le_of_ble_eq_true rfl, Nat.le_of_ble_eq_true rfl⟩) ⟨wp0_blind, fun U hU hW => wp0_of (va_P.sub hP [] rfl) (hK.sub [] rfl) htb hS no_in hU hW⟩ rfl rfl hl.1 rfl (lv_room (Nat.le_of_ble_eq_true rfl)) dX1_substitute_8 ⟨Nat.zero_le _, Nat.zero_le _⟩) hS (fun q _ h => h.elim) (fun q h => h.elim) (fun r_8 u_8 t H1 locs ht hvm hw hB hz1 hk1 hS => ?_)
    have hP := xa_same hP hk1
    clear hz1 hk1 hB ht
    generalize H1 = H at hP hS ⊢
    subst hw
    refine xa_if0 (tgt := 25) hx hb dX1_substitute_11 (by decide) (fun c_11 => ?_) (fun c_11 => ?_)
    · refine lv_iconst (v := nI 0) hx hb dX1_substitute_25 (by decide) ?_
      exact W.zret (v := (nI 0)) hx hb hr (by decide) (fun t ht hW => ⟨⟨(nI 0), (dr, re, tu, kd, uh, bf, la, G), rfl, ⟨by rw [(show spS N g k a f = none from if_neg (by simp [c_4, c_11]))]; rfl, by rw [(show spS N g k a f = none from if_neg (by simp [c_4, c_11]))]; exact hg⟩, (by show va_P _ _ _ _; rw [ht]; exact hP)⟩, hS.F ht⟩) hS.2.2 dX1_substitute_26
    · refine lv_iload_n hx hb dX1_substitute_14 rfl (lv_at hl 3 rfl) ?_
      refine lv_aload_n hx hb dX1_substitute_15 rfl (lv_at hl 0 rfl) ?_
      refine va_get (D := D) (ci := 1) (C := RX1) (T := TX1) (N := 10) hx hb hts (by decide +kernel) hown hK hP 0 rfl rfl 0 (by decide) (hts (.fieldLink RX1 18 "ForkDesk" "variables" "I") (by decide +kernel)) (fun _ h9 => h9) rfl dX1_substitute_16 ?_
      refine va_calli (va_runS (As := [.int f, .int (nI N)]) (rest := []) ⟨hx, hb, hml, hown, hts⟩ (c_areRegisters l D _ f N (by omega)) (va_cwS 2 hts gX1_substitute_X1_areRegisters rfl rfl rfl (by decide +kernel) ⟨Nat.le_of_ble_eq_true rfl, Nat.le_of_ble_eq_true rfl⟩) ⟨wp0_blind, fun U hU hW => wp0_of (va_P.sub hP [] rfl) (hK.sub [] rfl) htb hS no_in hU hW⟩ rfl rfl hl.1 rfl (lv_room (Nat.le_of_ble_eq_true rfl)) dX1_substitute_19 ⟨Nat.zero_le _, Nat.zero_le _⟩) hS (fun q _ h => h.elim) (fun q h => h.elim) (fun r_19 u_19 t H1 locs ht hvm hw hB hz1 hk1 hS => ?_)
      have hP := xa_same hP hk1
      clear hz1 hk1 hB ht
      generalize H1 = H at hP hS ⊢
      subst hw
      refine xa_if1 (tgt := 27) hx hb dX1_substitute_22 (by decide) (fun c_22 => ?_) (fun c_22 => ?_)
      · obtain ⟨j, hj, ej⟩ := isR_t c_4
        rw [ej] at hl
        obtain ⟨x1, hx1, ex1⟩ := isR_t c_11
        rw [ex1] at hl
        obtain ⟨x0, hx0, ex0⟩ := arR_t (by omega) c_22
        rw [ex0] at hl
        have hsp : spS N g k a f = some (va_up g j (fun p => decide (p < 2 ^ N) && g x1 (tp g x0 p N))) := by unfold spS; rw [if_pos (by rw [c_4, c_11, c_22]; rfl), ej, ex1, ex0, ix_nI (by omega), ix_nI (by omega), ix_nI (by omega)]
        refine lv_iconst (v := nI 0) hx hb dX1_substitute_27 (by decide) ?_
        refine lv_istore (lv' := [(4, .int (nI 0)), (0, .ref (ad 0)), (1, .int (nI j)), (2, .int (nI x1)), (3, .int (nI x0))]) hx hb dX1_substitute_28 hl (by decide) rfl (fun ls hl => ?_)
        have lp_30 : ∀ (n9 w : Nat) (d2 : Nat → Int64) (t2 : Nat → Int32) (H : Heap) (locs : List Loc) (ls : Array Slot), w ≤ nw N → nw N + 1 ≤ w + n9 → (∀ x z, x < w → z < 64 → lb (d2 x) z = (decide (z < pw N) && g x1 (tp g x0 (64 * x + z) N))) → va_P D vwCl (dkW N ad cJJ cJ cI d2 re t2 kd uh bf la G) H → va_S A s.heap H locs → lv_has ls 8 [(0, .ref (ad 0)), (1, .int (nI j)), (2, .int (nI x1)), (3, .int (nI x0)), (4, .int (nI w))] → W p l e (headSpec wsX1_substitute ({ frames := 2, cells := 0, slots := 0, locals := 61 } : Room)).room s m ([.ref (ad 0), .int k, .int a, .int f] : List Value).toArray below meth c H locs 0 0 (MQ below (va_Qi (fun (r : Int32) (u : dkS) => r = nI (spS N g k a f).isSome.toNat ∧ okG N (dkR u) ((spS N g k a f).getD g)) (fun (u : dkS) t => va_P D vwCl (dkU N ad cJJ cJ cI u) t.heap) A) ([.ref (ad 0), .int k, .int a, .int f] : List Value).toArray s 0 0 A) (F0 m 30 ls []) := by
          intro n9
          induction n9 with
          | zero => intro w d2 t2 H locs ls h1 h2; exact absurd h2 (by omega)
          | succ n9 ih =>
            intro w d2 t2 H locs ls hle_30 hmm_30 hI hP hS hl
            have ih_30 := @ih
            refine lv_iload hx hb dX1_substitute_30 (lv_at hl 4 rfl) ?_
            refine lv_aload_n hx hb dX1_substitute_32 rfl (lv_at hl 0 rfl) ?_
            refine va_get (D := D) (ci := 1) (C := RX1) (T := TX1) (N := 10) hx hb hts (by decide +kernel) hown hK hP 0 rfl rfl 2 (by decide) (hts (.fieldLink RX1 25 "ForkDesk" "words" "I") (by decide +kernel)) (fun _ h9 => h9) rfl dX1_substitute_33 ?_
            refine xa_ge (tgt := 111) hx hb (by omega) (by omega) dX1_substitute_36 (by decide) (fun c_36 => ?_) (fun c_36 => ?_)
            · refine lv_aload_n hx hb dX1_substitute_111 rfl (lv_at hl 0 rfl) ?_
              refine lv_iload_n hx hb dX1_substitute_112 rfl (lv_at hl 1 rfl) ?_
              refine va_callv (va_runV (As := [.int (nI j)]) (rest := []) ⟨hx, hb, hml, hown, hts⟩ (c_keepDraft l D _ N hN1 hN ad (aok_true hao) cJJ cJ cI d2 re t2 kd uh bf la G j (by omega)) (cwV 1 hts gX1_substitute_X1_keepDraft rfl rfl rfl (by decide +kernel) ⟨Nat.le_of_ble_eq_true rfl, Nat.le_of_ble_eq_true rfl⟩) ⟨wp0_blind, va_recv hK hP (ci := 1) (q0 := 0) rfl rfl, fun U hU hW => wp0_of hP hK htb hS (fr_in hao hS hA) hU hW⟩ rfl rfl hl.1 rfl (lv_room (Nat.le_of_ble_eq_true rfl)) dX1_substitute_113 ⟨Nat.zero_le _, Nat.zero_le _⟩) hS (fun q _ h => (fr_in hao hS hA) q h) ((fr_in hao hS hA)) (fun u_113 t H1 locs ht hvm hw hB hz1 hk1 hS => ?_)
              rw [ht] at hB
              have hP := hB
              clear hz1 hk1 hB ht
              generalize H1 = H at hP hS ⊢
              refine lv_iconst (v := nI 1) hx hb dX1_substitute_116 (by decide) ?_
              exact W.zret (v := (nI 1)) hx hb hr (by decide) (fun t ht hW => ⟨⟨(nI 1), (d2, re, t2, kd, uh, bf, la, va_up G j u_113), rfl, ⟨by rw [hsp]; rfl, by rw [hsp]; exact (okG_up hg (fun z y hz hy => by rw [hw z hz, hI z y (by omega) hy]; show _ = (decide (64 * z + y < 2 ^ N) && _); rw [show decide (64 * z + y < 2 ^ N) = decide (y < pw N) by rw [decide_eq_decide]; exact nw_pt hz hy]) (dm_sub N _))⟩, (by show va_P _ _ _ _; rw [ht]; exact hP)⟩, hS.F ht⟩) hS.2.2 dX1_substitute_117
            · refine lv_aload_n hx hb dX1_substitute_39 rfl (lv_at hl 0 rfl) ?_
              refine lv_iload_n hx hb dX1_substitute_40 rfl (lv_at hl 3 rfl) ?_
              refine lv_aload_n hx hb dX1_substitute_41 rfl (lv_at hl 0 rfl) ?_
              refine va_get (D := D) (ci := 1) (C := RX1) (T := TX1) (N := 10) hx hb hts (by decide +kernel) hown hK hP 0 rfl rfl 0 (by decide) (hts (.fieldLink RX1 18 "ForkDesk" "variables" "I") (by decide +kernel)) (fun _ h9 => h9) rfl dX1_substitute_42 ?_
              refine lv_iload hx hb dX1_substitute_45 (lv_at hl 4 rfl) ?_
              refine va_callv (va_runV (As := [.int (nI x0), .int (nI N), .int (nI w)]) (rest := []) ⟨hx, hb, hml, hown, hts⟩ (c_readTuples l D _ N hN1 hN ad (aok_true hao) cJJ cJ cI d2 re t2 kd uh bf la G x0 N w (by omega) (by omega) (by omega)) (cwV 3 hts gX1_substitute_X1_readTuples rfl rfl rfl (by decide +kernel) ⟨Nat.le_of_ble_eq_true rfl, Nat.le_of_ble_eq_true rfl⟩) ⟨wp0_blind, va_recv hK hP (ci := 1) (q0 := 0) rfl rfl, fun U hU hW => wp0_of hP hK htb hS (fr_in hao hS hA) hU hW⟩ rfl rfl hl.1 rfl (lv_room (Nat.le_of_ble_eq_true rfl)) dX1_substitute_47 ⟨Nat.zero_le _, Nat.zero_le _⟩) hS (fun q _ h => (fr_in hao hS hA) q h) ((fr_in hao hS hA)) (fun u_47 t H1 locs ht hvm hw hB hz1 hk1 hS => ?_)
              rw [ht] at hB
              have hP := hB
              clear hz1 hk1 hB ht
              generalize H1 = H at hP hS ⊢
              have htu : ∀ i, i < pw N → u_47 i = nI (tp g x0 (64 * w + i) N) := fun i hi => by rw [hw i hi, tp_congr (fun k hk => (hg (x0 + k) (by omega)).1 w i (by omega) (by omega))]
              refine lv_lconst (v := 0) hx hb dX1_substitute_50 (by decide) ?_
              refine lv_lstore (lv' := [(5, .long (0 : Int64)), (0, .ref (ad 0)), (1, .int (nI j)), (2, .int (nI x1)), (3, .int (nI x0)), (4, .int (nI w))]) hx hb dX1_substitute_51 hl (by decide) rfl (fun ls hl => ?_)
              refine lv_iconst (v := nI 0) hx hb dX1_substitute_53 (by decide) ?_
              refine lv_istore (lv' := [(7, .int (nI 0)), (5, .long (0 : Int64)), (0, .ref (ad 0)), (1, .int (nI j)), (2, .int (nI x1)), (3, .int (nI x0)), (4, .int (nI w))]) hx hb dX1_substitute_54 hl (by decide) rfl (fun ls hl => ?_)
              have lp_56 : ∀ (n9 i1 : Nat) (wd : Int64) (H : Heap) (locs : List Loc) (ls : Array Slot), i1 ≤ pw N → pw N + 1 ≤ i1 + n9 → (∀ z, z < 64 → lb wd z = (decide (z < i1) && g x1 (tp g x0 (64 * w + z) N))) → va_P D vwCl (dkW N ad cJJ cJ cI d2 re u_47 kd uh bf la G) H → va_S A s.heap H locs → lv_has ls 8 [(0, .ref (ad 0)), (1, .int (nI j)), (2, .int (nI x1)), (3, .int (nI x0)), (4, .int (nI w)), (5, .long wd), (7, .int (nI i1))] → W p l e (headSpec wsX1_substitute ({ frames := 2, cells := 0, slots := 0, locals := 61 } : Room)).room s m ([.ref (ad 0), .int k, .int a, .int f] : List Value).toArray below meth c H locs 0 0 (MQ below (va_Qi (fun (r : Int32) (u : dkS) => r = nI (spS N g k a f).isSome.toNat ∧ okG N (dkR u) ((spS N g k a f).getD g)) (fun (u : dkS) t => va_P D vwCl (dkU N ad cJJ cJ cI u) t.heap) A) ([.ref (ad 0), .int k, .int a, .int f] : List Value).toArray s 0 0 A) (F0 m 56 ls []) := by
                intro n9
                induction n9 with
                | zero => intro i1 wd H locs ls h1 h2; exact absurd h2 (by omega)
                | succ n9 ih =>
                  intro i1 wd H locs ls hle_56 hmm_56 hJ hP hS hl
                  have ih_56 := @ih
                  refine lv_iload hx hb dX1_substitute_56 (lv_at hl 6 rfl) ?_
                  refine lv_aload_n hx hb dX1_substitute_58 rfl (lv_at hl 0 rfl) ?_
                  refine va_get (D := D) (ci := 1) (C := RX1) (T := TX1) (N := 10) hx hb hts (by decide +kernel) hown hK hP 0 rfl rfl 3 (by decide) (hts (.fieldLink RX1 28 "ForkDesk" "pointsInWord" "I") (by decide +kernel)) (fun _ h9 => h9) rfl dX1_substitute_59 ?_
                  refine xa_ge (tgt := 96) hx hb (by omega) (by omega) dX1_substitute_62 (by decide) (fun c_62 => ?_) (fun c_62 => ?_)
                  · refine lv_aload_n hx hb dX1_substitute_96 rfl (lv_at hl 0 rfl) ?_
                    refine va_get (D := D) (ci := 1) (C := RX1) (T := TX1) (N := 10) hx hb hts (by decide +kernel) hown hK hP 0 rfl rfl 6 (by decide) (hts (.fieldLink RX1 42 "ForkDesk" "draft" "[J") (by decide +kernel)) (fun _ h9 => h9) rfl dX1_substitute_97 ?_
                    refine lv_iload hx hb dX1_substitute_100 (lv_at hl 4 rfl) ?_
                    refine lv_lload hx hb dX1_substitute_102 (lv_at hl 5 rfl) ?_
                    refine xa_last hx hb hK hP (dk_D hao) hS 2 1 rfl rfl (w := w) (by omega) (by omega) dX1_substitute_104 (fun H locs hP _ hS => ?_)
                    have hP : va_P D vwCl (dkW N ad cJJ cJ cI (vp_updL d2 w wd) re u_47 kd uh bf la G) H := hP
                    refine xa_inc (k := 4) (lv' := [(4, .int (nI (w + 1))), (0, .ref (ad 0)), (1, .int (nI j)), (2, .int (nI x1)), (3, .int (nI x0)), (5, .long wd), (7, .int (nI i1))]) hx hb dX1_substitute_105 hl rfl (by decide) rfl (fun ls hl => ?_)
                    refine lv_goto (tgt := 30) hx hb dX1_substitute_108 (by decide) ?_
                    exact ih_30 (w + 1) (vp_updL d2 w wd) u_47 _ _ _ (by omega) (by omega) (fun x z hx hz => by by_cases hxw : x = w; (subst hxw; rw [pk_uLs, hJ z hz, show i1 = pw N by omega]); (rw [pk_uLn hxw]; exact hI x z (by omega) hz)) hP hS (lv_sub hl [1, 2, 3, 4, 0] rfl)
                  · refine lv_lload hx hb dX1_substitute_65 (lv_at hl 5 rfl) ?_
                    refine lv_aload_n hx hb dX1_substitute_67 rfl (lv_at hl 0 rfl) ?_
                    refine va_get (D := D) (ci := 1) (C := RX1) (T := TX1) (N := 10) hx hb hts (by decide +kernel) hown hK hP 0 rfl rfl 5 (by decide) (hts (.fieldLink RX1 39 "ForkDesk" "registers" "[[J") (by decide +kernel)) (fun _ h9 => h9) rfl dX1_substitute_68 ?_
                    refine lv_iload_n hx hb dX1_substitute_71 rfl (lv_at hl 2 rfl) ?_
                    refine xa_aald hx hb hK hP 1 0 rfl rfl (w := x1) (y := ad (10 + x1)) (by omega) (by decide) rfl dX1_substitute_72 ?_
                    refine lv_aload_n hx hb dX1_substitute_73 rfl (lv_at hl 0 rfl) ?_
                    refine va_get (D := D) (ci := 1) (C := RX1) (T := TX1) (N := 10) hx hb hts (by decide +kernel) hown hK hP 0 rfl rfl 8 (by decide) (hts (.fieldLink RX1 49 "ForkDesk" "tuples" "[I") (by decide +kernel)) (fun _ h9 => h9) rfl dX1_substitute_74 ?_
                    refine lv_iload hx hb dX1_substitute_77 (lv_at hl 6 rfl) ?_
                    refine xa_iald hx hb hK hP 4 2 rfl rfl (w := i1) (by omega) (by omega) dX1_substitute_79 ?_
                    rw [htu i1 (by omega)]
                    have hpt := tp_lt g x0 (64 * w + i1) N
                    have hpn := pt_nw hpt
                    refine va_calli (va_runS (As := [.ref (ad (10 + x1)), .int (nI (tp g x0 (64 * w + i1) N))]) (rest := [.long wd]) ⟨hx, hb, hml, hown, hts⟩ (c_valueAt l D _ (ad (10 + x1)) cJ (nw N) (G x1) (tp g x0 (64 * w + i1) N) (by omega) (by omega) (by omega)) (va_cwS 2 hts gX1_substitute_X1_valueAt rfl rfl rfl (by decide +kernel) ⟨Nat.le_of_ble_eq_true rfl, Nat.le_of_ble_eq_true rfl⟩) ⟨wp0_blind, fun U hU hW => wp0_of (va_one hP (10 + x1) (dk_row (by omega))) (hK.sub [1] rfl) htb hS no_in hU hW⟩ rfl rfl hl.1 rfl (lv_room (Nat.le_of_ble_eq_true rfl)) dX1_substitute_80 ⟨Nat.zero_le _, Nat.zero_le _⟩) hS (fun q _ h => h.elim) (fun q h => h.elim) (fun r_80 u_80 t H1 locs ht hvm hw hB hz1 hk1 hS => ?_)
                    have hP := xa_same hP hk1
                    clear hz1 hk1 hB ht
                    generalize H1 = H at hP hS ⊢
                    subst hw
                    rw [(hg x1 hx1).1 _ _ hpn.1 (Nat.mod_lt _ (by omega)), Nat.div_add_mod]
                    refine lv_i2l (v := (nI ((g x1 (tp g x0 (64 * w + i1) N)).toNat)).toInt64) hx hb dX1_substitute_83 rfl ?_
                    refine lv_iload hx hb dX1_substitute_84 (lv_at hl 6 rfl) ?_
                    refine lv_lshl (v := ((nI ((g x1 (tp g x0 (64 * w + i1) N)).toNat)).toInt64) <<< ((nI i1).toInt64 &&& 63)) hx hb dX1_substitute_86 rfl ?_
                    refine lv_lor hx hb dX1_substitute_87 ?_
                    refine lv_lstore (lv' := [(5, .long (wd ||| (((nI ((g x1 (tp g x0 (64 * w + i1) N)).toNat)).toInt64) <<< ((nI i1).toInt64 &&& 63)))), (0, .ref (ad 0)), (1, .int (nI j)), (2, .int (nI x1)), (3, .int (nI x0)), (4, .int (nI w)), (7, .int (nI i1))]) hx hb dX1_substitute_88 hl (by decide) rfl (fun ls hl => ?_)
                    refine xa_inc (k := 6) (lv' := [(7, .int (nI (i1 + 1))), (5, .long (wd ||| (((nI ((g x1 (tp g x0 (64 * w + i1) N)).toNat)).toInt64) <<< ((nI i1).toInt64 &&& 63)))), (0, .ref (ad 0)), (1, .int (nI j)), (2, .int (nI x1)), (3, .int (nI x0)), (4, .int (nI w))]) hx hb dX1_substitute_90 hl rfl (by decide) rfl (fun ls hl => ?_)
                    refine lv_goto (tgt := 56) hx hb dX1_substitute_93 (by decide) ?_
                    exact ih_56 (i1 + 1) (wd ||| (((nI ((g x1 (tp g x0 (64 * w + i1) N)).toNat)).toInt64) <<< ((nI i1).toInt64 &&& 63))) _ _ _ (by omega) (by omega) (fun z hz => by rw [lb_or, hJ z hz, lb_put (by omega) hz]; by_cases hzi : z = i1; (subst hzi; rw [decide_eq_true rfl, decide_eq_false (Nat.lt_irrefl z), decide_eq_true (Nat.lt_succ_self z)]; simp); (rw [decide_eq_false hzi, decide_lt_s hzi]; simp)) hP hS (lv_sub hl [2, 3, 4, 5, 6, 1, 0] rfl)
              exact lp_56 (pw N + 1 - 0) 0 (0 : Int64) _ _ _ (by omega) (by omega) (fun z hz => by rw [lb_0, decide_eq_false (by omega)]; rfl) hP hS (lv_sub hl [2, 3, 4, 5, 6, 1, 0] rfl)
        exact lp_30 (nw N + 1 - 0) 0 dr tu _ _ _ (by omega) (by omega) (fun x z hx _ => absurd hx (by omega)) hP hS (lv_sub hl [1, 2, 3, 4, 0] rfl)
      · refine lv_iconst (v := nI 0) hx hb dX1_substitute_25 (by decide) ?_
        exact W.zret (v := (nI 0)) hx hb hr (by decide) (fun t ht hW => ⟨⟨(nI 0), (dr, re, tu, kd, uh, bf, la, G), rfl, ⟨by rw [(show spS N g k a f = none from if_neg (by simp [c_4, c_11, c_22]))]; rfl, by rw [(show spS N g k a f = none from if_neg (by simp [c_4, c_11, c_22]))]; exact hg⟩, (by show va_P _ _ _ _; rw [ht]; exact hP)⟩, hS.F ht⟩) hS.2.2 dX1_substitute_26
end
section
set_option maxHeartbeats 4000000 in
set_option maxRecDepth 100000 in
/-- image -/
theorem c_image (l : Launch) (D : va_G) (sz : Nat) (N : Nat) (hN1 : 1 ≤ N) (hN : N ≤ 12) (ad : Nat → Nat) (hao : aok (fun _ => True) ad) (cJJ cJ cI : ClassId) (dr re : Nat → Int64) (tu kd uh bf la : Nat → Int32) (G : Nat → Nat → Int64) (g : Nat → Nat → Bool) (hg : okG N G g) (k f mv c1 : Int32) : Met l yX1_image wsX1_image ({ frames := 2, cells := 0, slots := 0, locals := 61 } : Room) (va_Pc [.ref (ad 0), .int k, .int f, .int mv, .int c1] (wp0 D (dkW N ad cJJ cJ cI dr re tu kd uh bf la G) (dkT cJJ cJ cI) (fr ad sz) sz)) (va_Qi (fun (r : Int32) (u : dkS) => r = nI (spI N g k f mv c1).isSome.toNat ∧ okG N (dkR u) ((spI N g k f mv c1).getD g)) (fun (u : dkS) t => va_P D vwCl (dkU N ad cJJ cJ cI u) t.heap) (fr ad sz)) 0 0 (fr ad sz) := by
  refine Met.ofW (cc := cX1_image) (maxL := 7) (ret := (some .boolean)) (by decide) rfl ?_
  intro p e s m args below meth c s₁ B hml hv
  obtain ⟨rfl, hsz, hP, hK, htb⟩ := hv
  have hx := B.exec
  have hb := B.bytes
  have hr := B.returns
  have hts := atoms_spec (ws := wsX1_image) B.pre
  have hown : s.vm.findClass RX1 = some m.cls := findClass_of_methodNamed B.named
  have hlocks := B.notSynchronized
  subst hsz
  generalize hAe : fr ad s.heap.size = A at htb ⊢
  have hA : ∀ q : Nat, s.heap.size ≤ q → A q := fun q h => by rw [← hAe]; exact fr_new q h
  have hao : aok A ad := by rw [← hAe]; exact aok_fr hao
  obtain ⟨⟨tt, hZ, hT⟩, hNst⟩ := id htb
  have hS : va_S A s.heap s.heap [] := va_S.rf
  have hl := lv_entry ([.ref (ad 0), .int k, .int f, .int mv, .int c1]) (n := 7) (Nat.le_of_ble_eq_true rfl)
  rw [lg_entry_eq]
  generalize (lg_sl ([.ref (ad 0), .int k, .int f, .int mv, .int c1]) ++ List.replicate (7 - (lg_sl ([.ref (ad 0), .int k, .int f, .int mv, .int c1])).length) Slot.unset).toArray = ls at hl ⊢
  have hl : lv_has ls 7 [(0, .ref (ad 0)), (1, .int k), (2, .int f), (3, .int mv), (4, .int c1)] := hl
  have hnw := nw_le hN
  have hnwp := nw_pos N
  have hpw := pw_le N
  have hpwp := pw_pos N
  have hnp := np_le hN
  refine lv_iload_n hx hb dX1_image_0 rfl (lv_at hl 1 rfl) ?_
  refine va_calli (va_runS (As := [.int k]) (rest := []) ⟨hx, hb, hml, hown, hts⟩ (c_isRegister l D _ k) (va_cwS 1 hts gX1_image_X1_isRegister rfl rfl rfl (by decide +kernel) ⟨Nat.le_of_ble_eq_true rfl, Nat.le_of_ble_eq_true rfl⟩) ⟨wp0_blind, fun U hU hW => wp0_of (va_P.sub hP [] rfl) (hK.sub [] rfl) htb hS no_in hU hW⟩ rfl rfl hl.1 rfl (lv_room (Nat.le_of_ble_eq_true rfl)) dX1_image_1 ⟨Nat.zero_le _, Nat.zero_le _⟩) hS (fun q _ h => h.elim) (fun q h => h.elim) (fun r_1 u_1 t H1 locs ht hvm hw hB hz1 hk1 hS => ?_)
  have hP := xa_same hP hk1
  clear hz1 hk1 hB ht
  generalize H1 = H at hP hS ⊢
  subst hw
  refine xa_if0 (tgt := 31) hx hb dX1_image_4 (by decide) (fun c_4 => ?_) (fun c_4 => ?_)
  · refine lv_iconst (v := nI 0) hx hb dX1_image_31 (by decide) ?_
    exact W.zret (v := (nI 0)) hx hb hr (by decide) (fun t ht hW => ⟨⟨(nI 0), (dr, re, tu, kd, uh, bf, la, G), rfl, ⟨by rw [(show spI N g k f mv c1 = none from if_neg (by simp [c_4]))]; rfl, by rw [(show spI N g k f mv c1 = none from if_neg (by simp [c_4]))]; exact hg⟩, (by show va_P _ _ _ _; rw [ht]; exact hP)⟩, hS.F ht⟩) hS.2.2 dX1_image_32
  · refine lv_aload_n hx hb dX1_image_7 rfl (lv_at hl 0 rfl) ?_
    refine lv_iload_n hx hb dX1_image_8 rfl (lv_at hl 3 rfl) ?_
    refine va_calli (va_runV (As := [.int mv]) (rest := []) ⟨hx, hb, hml, hown, hts⟩ (c_isVariable l D _ N ad mv) (cwV 1 hts gX1_image_X1_isVariable rfl rfl rfl (by decide +kernel) ⟨Nat.le_of_ble_eq_true rfl, Nat.le_of_ble_eq_true rfl⟩) ⟨wp0_blind, va_recv hK hP (ci := 1) (q0 := 0) rfl rfl, fun U hU hW => wp0_of (va_one hP 0 rfl) (hK.sub [] rfl) htb hS no_in hU hW⟩ rfl rfl hl.1 rfl (lv_room (Nat.le_of_ble_eq_true rfl)) dX1_image_9 ⟨Nat.zero_le _, Nat.zero_le _⟩) hS (fun q _ h => h.elim) (fun q h => h.elim) (fun r_9 u_9 t H1 locs ht hvm hw hB hz1 hk1 hS => ?_)
    have hP := xa_same hP hk1
    clear hz1 hk1 hB ht
    generalize H1 = H at hP hS ⊢
    subst hw
    refine xa_if0 (tgt := 31) hx hb dX1_image_12 (by decide) (fun c_12 => ?_) (fun c_12 => ?_)
    · refine lv_iconst (v := nI 0) hx hb dX1_image_31 (by decide) ?_
      exact W.zret (v := (nI 0)) hx hb hr (by decide) (fun t ht hW => ⟨⟨(nI 0), (dr, re, tu, kd, uh, bf, la, G), rfl, ⟨by rw [(show spI N g k f mv c1 = none from if_neg (by simp [c_4, c_12]))]; rfl, by rw [(show spI N g k f mv c1 = none from if_neg (by simp [c_4, c_12]))]; exact hg⟩, (by show va_P _ _ _ _; rw [ht]; exact hP)⟩, hS.F ht⟩) hS.2.2 dX1_image_32
    · obtain ⟨mm, hmm1, hmm, emm⟩ := isV_t hN c_12
      rw [emm] at hl
      have hix : ix mv = mm := by rw [emm]; exact ix_nI (by omega)
      refine lv_iload_n hx hb dX1_image_15 rfl (lv_at hl 2 rfl) ?_
      refine lv_iload_n hx hb dX1_image_16 rfl (lv_at hl 3 rfl) ?_
      refine va_calli (va_runS (As := [.int f, .int (nI mm)]) (rest := []) ⟨hx, hb, hml, hown, hts⟩ (c_areRegisters l D _ f mm (by omega)) (va_cwS 2 hts gX1_image_X1_areRegisters rfl rfl rfl (by decide +kernel) ⟨Nat.le_of_ble_eq_true rfl, Nat.le_of_ble_eq_true rfl⟩) ⟨wp0_blind, fun U hU hW => wp0_of (va_P.sub hP [] rfl) (hK.sub [] rfl) htb hS no_in hU hW⟩ rfl rfl hl.1 rfl (lv_room (Nat.le_of_ble_eq_true rfl)) dX1_image_17 ⟨Nat.zero_le _, Nat.zero_le _⟩) hS (fun q _ h => h.elim) (fun q h => h.elim) (fun r_17 u_17 t H1 locs ht hvm hw hB hz1 hk1 hS => ?_)
      have hP := xa_same hP hk1
      clear hz1 hk1 hB ht
      generalize H1 = H at hP hS ⊢
      subst hw
      refine xa_if0 (tgt := 31) hx hb dX1_image_20 (by decide) (fun c_20 => ?_) (fun c_20 => ?_)
      · refine lv_iconst (v := nI 0) hx hb dX1_image_31 (by decide) ?_
        exact W.zret (v := (nI 0)) hx hb hr (by decide) (fun t ht hW => ⟨⟨(nI 0), (dr, re, tu, kd, uh, bf, la, G), rfl, ⟨by rw [(show spI N g k f mv c1 = none from if_neg (by simp [c_4, c_12, hix, c_20]))]; rfl, by rw [(show spI N g k f mv c1 = none from if_neg (by simp [c_4, c_12, hix, c_20]))]; exact hg⟩, (by show va_P _ _ _ _; rw [ht]; exact hP)⟩, hS.F ht⟩) hS.2.2 dX1_image_32
      · refine lv_iload hx hb dX1_image_23 (lv_at hl 4 rfl) ?_
        refine va_calli (va_runS (As := [.int c1]) (rest := []) ⟨hx, hb, hml, hown, hts⟩ (c_isRegister l D _ c1) (va_cwS 1 hts gX1_image_X1_isRegister rfl rfl rfl (by decide +kernel) ⟨Nat.le_of_ble_eq_true rfl, Nat.le_of_ble_eq_true rfl⟩) ⟨wp0_blind, fun U hU hW => wp0_of (va_P.sub hP [] rfl) (hK.sub [] rfl) htb hS no_in hU hW⟩ rfl rfl hl.1 rfl (lv_room (Nat.le_of_ble_eq_true rfl)) dX1_image_25 ⟨Nat.zero_le _, Nat.zero_le _⟩) hS (fun q _ h => h.elim) (fun q h => h.elim) (fun r_25 u_25 t H1 locs ht hvm hw hB hz1 hk1 hS => ?_)
        have hP := xa_same hP hk1
        clear hz1 hk1 hB ht
        generalize H1 = H at hP hS ⊢
        subst hw
        refine xa_if1 (tgt := 33) hx hb dX1_image_28 (by decide) (fun c_28 => ?_) (fun c_28 => ?_)
        · obtain ⟨j, hj, ej⟩ := isR_t c_4
          rw [ej] at hl
          obtain ⟨x0, hx0, ex0⟩ := arR_t (by omega) c_20
          rw [ex0] at hl
          obtain ⟨x2, hx2, ex2⟩ := isR_t c_28
          rw [ex2] at hl
          have hsp : spI N g k f mv c1 = some (va_up g j (sgs (imB g x0 mm (N - mm) x2 (2 ^ N)) (N - mm))) := by unfold spI; rw [emm, ix_nI (by omega), if_pos (by rw [c_4, ← emm, c_12, c_20, c_28]; rfl), ej, ex0, ex2, ix_nI (by omega), ix_nI (by omega), ix_nI (by omega)]
          refine lv_aload_n hx hb dX1_image_33 rfl (lv_at hl 0 rfl) ?_
          refine va_get (D := D) (ci := 1) (C := RX1) (T := TX1) (N := 10) hx hb hts (by decide +kernel) hown hK hP 0 rfl rfl 0 (by decide) (hts (.fieldLink RX1 18 "ForkDesk" "variables" "I") (by decide +kernel)) (fun _ h9 => h9) rfl dX1_image_34 ?_
          refine lv_iload_n hx hb dX1_image_37 rfl (lv_at hl 3 rfl) ?_
          refine xa_isub hx hb (by omega) dX1_image_38 ?_
          refine lv_istore (lv' := [(5, .int (nI (N - mm))), (0, .ref (ad 0)), (1, .int (nI j)), (2, .int (nI x0)), (3, .int (nI mm)), (4, .int (nI x2))]) hx hb dX1_image_39 hl (by decide) rfl (fun ls hl => ?_)
          refine lv_aload_n hx hb dX1_image_41 rfl (lv_at hl 1 rfl) ?_
          refine va_get (D := D) (ci := 1) (C := RX1) (T := TX1) (N := 10) hx hb hts (by decide +kernel) hown hK hP 0 rfl rfl 6 (by decide) (hts (.fieldLink RX1 42 "ForkDesk" "draft" "[J") (by decide +kernel)) (fun _ h9 => h9) rfl dX1_image_42 ?_
          refine lv_lconst (v := 0) hx hb dX1_image_45 (by decide) ?_
          refine va_callv (va_runS (As := [.ref (ad 2), .long (0 : Int64)]) (rest := []) ⟨hx, hb, hml, hown, hts⟩ (c_fillL l D _ (ad 2) cJ (nw N) dr (0 : Int64) (by omega)) (va_cwS 2 hts gX1_image_J7_fill_d0a16 rfl rfl rfl (by decide +kernel) ⟨Nat.le_of_ble_eq_true rfl, Nat.le_of_ble_eq_true rfl⟩) ⟨wp0_blind, fun U hU hW => wp0_of (va_one hP 2 rfl) (hK.sub [1] rfl) htb hS (one_in (hao.2 2 (by omega))) hU hW⟩ rfl rfl hl.1 rfl (lv_room (Nat.le_of_ble_eq_true rfl)) dX1_image_46 ⟨Nat.zero_le _, Nat.zero_le _⟩) hS (fun q _ h => (one_in (hao.2 2 (by omega))) q h) ((one_in (hao.2 2 (by omega)))) (fun u_46 t H1 locs ht hvm hw hB hz1 hk1 hS => ?_)
          rw [ht] at hB
          have hP := va_put1 hP (dk_D hao) 2 rfl hk1 hB
          clear hz1 hk1 hB ht
          generalize H1 = H at hP hS ⊢
          have hP : va_P D vwCl (dkW N ad cJJ cJ cI u_46 re tu kd uh bf la G) H := hP
          refine lv_iconst (v := nI 0) hx hb dX1_image_49 (by decide) ?_
          refine lv_istore (lv' := [(6, .int (nI 0)), (5, .int (nI (N - mm))), (0, .ref (ad 0)), (1, .int (nI j)), (2, .int (nI x0)), (3, .int (nI mm)), (4, .int (nI x2))]) hx hb dX1_image_50 hl (by decide) rfl (fun ls hl => ?_)
          have lp_52 : ∀ (n9 w : Nat) (d2 : Nat → Int64) (t2 : Nat → Int32) (H : Heap) (locs : List Loc) (ls : Array Slot), w ≤ nw N → nw N + 1 ≤ w + n9 → (∀ x z, x < nw N → z < 64 → lb (d2 x) z = imB g x0 mm (N - mm) x2 (64 * w) (64 * x + z)) → va_P D vwCl (dkW N ad cJJ cJ cI d2 re t2 kd uh bf la G) H → va_S A s.heap H locs → lv_has ls 7 [(0, .ref (ad 0)), (1, .int (nI j)), (2, .int (nI x0)), (3, .int (nI mm)), (4, .int (nI x2)), (5, .int (nI (N - mm))), (6, .int (nI w))] → W p l e (headSpec wsX1_image ({ frames := 2, cells := 0, slots := 0, locals := 61 } : Room)).room s m ([.ref (ad 0), .int k, .int f, .int mv, .int c1] : List Value).toArray below meth c H locs 0 0 (MQ below (va_Qi (fun (r : Int32) (u : dkS) => r = nI (spI N g k f mv c1).isSome.toNat ∧ okG N (dkR u) ((spI N g k f mv c1).getD g)) (fun (u : dkS) t => va_P D vwCl (dkU N ad cJJ cJ cI u) t.heap) A) ([.ref (ad 0), .int k, .int f, .int mv, .int c1] : List Value).toArray s 0 0 A) (F0 m 52 ls []) := by
            intro n9
            induction n9 with
            | zero => intro w d2 t2 H locs ls h1 h2; exact absurd h2 (by omega)
            | succ n9 ih =>
              intro w d2 t2 H locs ls hle_52 hmm_52 hI hP hS hl
              have ih_52 := @ih
              refine lv_iload hx hb dX1_image_52 (lv_at hl 6 rfl) ?_
              refine lv_aload_n hx hb dX1_image_54 rfl (lv_at hl 0 rfl) ?_
              refine va_get (D := D) (ci := 1) (C := RX1) (T := TX1) (N := 10) hx hb hts (by decide +kernel) hown hK hP 0 rfl rfl 2 (by decide) (hts (.fieldLink RX1 25 "ForkDesk" "words" "I") (by decide +kernel)) (fun _ h9 => h9) rfl dX1_image_55 ?_
              refine xa_ge (tgt := 106) hx hb (by omega) (by omega) dX1_image_58 (by decide) (fun c_58 => ?_) (fun c_58 => ?_)
              · refine lv_iconst (v := nI 0) hx hb dX1_image_106 (by decide) ?_
                refine lv_istore (lv' := [(6, .int (nI 0)), (0, .ref (ad 0)), (1, .int (nI j)), (2, .int (nI x0)), (3, .int (nI mm)), (4, .int (nI x2)), (5, .int (nI (N - mm)))]) hx hb dX1_image_107 hl (by decide) rfl (fun ls hl => ?_)
                have lp_109 : ∀ (n9 b : Nat) (d3 : Nat → Int64) (H : Heap) (locs : List Loc) (ls : Array Slot), b ≤ N - mm → N - mm + 1 ≤ b + n9 → rp (nw N) d3 (sgs (imB g x0 mm (N - mm) x2 (2 ^ N)) b) → va_P D vwCl (dkW N ad cJJ cJ cI d3 re t2 kd uh bf la G) H → va_S A s.heap H locs → lv_has ls 7 [(0, .ref (ad 0)), (1, .int (nI j)), (2, .int (nI x0)), (3, .int (nI mm)), (4, .int (nI x2)), (5, .int (nI (N - mm))), (6, .int (nI b))] → W p l e (headSpec wsX1_image ({ frames := 2, cells := 0, slots := 0, locals := 61 } : Room)).room s m ([.ref (ad 0), .int k, .int f, .int mv, .int c1] : List Value).toArray below meth c H locs 0 0 (MQ below (va_Qi (fun (r : Int32) (u : dkS) => r = nI (spI N g k f mv c1).isSome.toNat ∧ okG N (dkR u) ((spI N g k f mv c1).getD g)) (fun (u : dkS) t => va_P D vwCl (dkU N ad cJJ cJ cI u) t.heap) A) ([.ref (ad 0), .int k, .int f, .int mv, .int c1] : List Value).toArray s 0 0 A) (F0 m 109 ls []) := by
                  intro n9
                  induction n9 with
                  | zero => intro b d3 H locs ls h1 h2; exact absurd h2 (by omega)
                  | succ n9 ih =>
                    intro b d3 H locs ls hle_109 hmm_109 hJ hP hS hl
                    have ih_109 := @ih
                    refine lv_iload hx hb dX1_image_109 (lv_at hl 6 rfl) ?_
                    refine lv_iload hx hb dX1_image_111 (lv_at hl 5 rfl) ?_
                    refine xa_ge (tgt := 132) hx hb (by omega) (by omega) dX1_image_113 (by decide) (fun c_113 => ?_) (fun c_113 => ?_)
                    · refine lv_aload_n hx hb dX1_image_132 rfl (lv_at hl 0 rfl) ?_
                      refine lv_iload_n hx hb dX1_image_133 rfl (lv_at hl 1 rfl) ?_
                      refine va_callv (va_runV (As := [.int (nI j)]) (rest := []) ⟨hx, hb, hml, hown, hts⟩ (c_keepDraft l D _ N hN1 hN ad (aok_true hao) cJJ cJ cI d3 re t2 kd uh bf la G j (by omega)) (cwV 1 hts gX1_image_X1_keepDraft rfl rfl rfl (by decide +kernel) ⟨Nat.le_of_ble_eq_true rfl, Nat.le_of_ble_eq_true rfl⟩) ⟨wp0_blind, va_recv hK hP (ci := 1) (q0 := 0) rfl rfl, fun U hU hW => wp0_of hP hK htb hS (fr_in hao hS hA) hU hW⟩ rfl rfl hl.1 rfl (lv_room (Nat.le_of_ble_eq_true rfl)) dX1_image_134 ⟨Nat.zero_le _, Nat.zero_le _⟩) hS (fun q _ h => (fr_in hao hS hA) q h) ((fr_in hao hS hA)) (fun u_134 t H1 locs ht hvm hw hB hz1 hk1 hS => ?_)
                      rw [ht] at hB
                      have hP := hB
                      clear hz1 hk1 hB ht
                      generalize H1 = H at hP hS ⊢
                      refine lv_iconst (v := nI 1) hx hb dX1_image_137 (by decide) ?_
                      exact W.zret (v := (nI 1)) hx hb hr (by decide) (fun t ht hW => ⟨⟨(nI 1), (d3, re, t2, kd, uh, bf, la, va_up G j u_134), rfl, ⟨by rw [hsp]; rfl, by rw [hsp]; exact (okG_up hg (rp_eq (by have e9 : b = N - mm := (by omega); rw [e9] at hJ; exact hJ) (fun z hz => hw z hz)) (sgs_dm (by omega) (im_dm hmm)))⟩, (by show va_P _ _ _ _; rw [ht]; exact hP)⟩, hS.F ht⟩) hS.2.2 dX1_image_138
                    · refine lv_aload_n hx hb dX1_image_116 rfl (lv_at hl 0 rfl) ?_
                      refine lv_aload_n hx hb dX1_image_117 rfl (lv_at hl 0 rfl) ?_
                      refine va_get (D := D) (ci := 1) (C := RX1) (T := TX1) (N := 10) hx hb hts (by decide +kernel) hown hK hP 0 rfl rfl 6 (by decide) (hts (.fieldLink RX1 42 "ForkDesk" "draft" "[J") (by decide +kernel)) (fun _ h9 => h9) rfl dX1_image_118 ?_
                      refine lv_iload hx hb dX1_image_121 (lv_at hl 6 rfl) ?_
                      refine va_callv (va_runV (As := [.ref (ad 2), .int (nI b)]) (rest := []) ⟨hx, hb, hml, hown, hts⟩ (c_spread l D _ N hN ad (ad 2) (fun h => absurd (hao.1 0 2 (by omega) (by omega) h) (by omega)) cJ d3 b (by omega)) (cwV 2 hts gX1_image_X1_spread rfl rfl rfl (by decide +kernel) ⟨Nat.le_of_ble_eq_true rfl, Nat.le_of_ble_eq_true rfl⟩) ⟨wp0_blind, va_recv hK hP (ci := 1) (q0 := 0) rfl rfl, fun U hU hW => wp0_of (hP.sub [0, 2] rfl) (hK.sub [1] rfl) htb hS (one_in (hao.2 2 (by omega))) hU hW⟩ rfl rfl hl.1 rfl (lv_room (Nat.le_of_ble_eq_true rfl)) dX1_image_123 ⟨Nat.zero_le _, Nat.zero_le _⟩) hS (fun q _ h => (one_in (hao.2 2 (by omega))) q h) ((one_in (hao.2 2 (by omega)))) (fun u_123 t H1 locs ht hvm hw hB hz1 hk1 hS => ?_)
                      rw [ht] at hB
                      have hP := va_put1 hP (dk_D hao) 2 rfl hk1 hB
                      clear hz1 hk1 hB ht
                      generalize H1 = H at hP hS ⊢
                      have hP : va_P D vwCl (dkW N ad cJJ cJ cI u_123 re t2 kd uh bf la G) H := hP
                      refine xa_inc (k := 6) (lv' := [(6, .int (nI (b + 1))), (0, .ref (ad 0)), (1, .int (nI j)), (2, .int (nI x0)), (3, .int (nI mm)), (4, .int (nI x2)), (5, .int (nI (N - mm)))]) hx hb dX1_image_126 hl rfl (by decide) rfl (fun ls hl => ?_)
                      refine lv_goto (tgt := 109) hx hb dX1_image_129 (by decide) ?_
                      exact ih_109 (b + 1) u_123 _ _ _ (by omega) (by omega) (by rw [hw]; exact spr_rp (by omega) hJ) hP hS (lv_sub hl [1, 2, 3, 4, 5, 6, 0] rfl)
                exact lp_109 (N - mm + 1 - 0) 0 d2 _ _ _ (by omega) (by omega) (fun x z hx hz => by rw [hI x z hx hz, show w = nw N by omega, im_end (hg x2 hx2).2]; rfl) hP hS (lv_sub hl [1, 2, 3, 4, 5, 6, 0] rfl)
              · refine lv_aload_n hx hb dX1_image_61 rfl (lv_at hl 0 rfl) ?_
                refine va_get (D := D) (ci := 1) (C := RX1) (T := TX1) (N := 10) hx hb hts (by decide +kernel) hown hK hP 0 rfl rfl 5 (by decide) (hts (.fieldLink RX1 39 "ForkDesk" "registers" "[[J") (by decide +kernel)) (fun _ h9 => h9) rfl dX1_image_62 ?_
                refine lv_iload hx hb dX1_image_65 (lv_at hl 4 rfl) ?_
                refine xa_aald hx hb hK hP 1 0 rfl rfl (w := x2) (y := ad (10 + x2)) (by omega) (by decide) rfl dX1_image_67 ?_
                refine lv_iload hx hb dX1_image_68 (lv_at hl 6 rfl) ?_
                refine xa_lald hx hb hK hP (10 + x2) 1 (dk_row (by omega)) rfl (w := w) (by omega) (by omega) dX1_image_70 ?_
                refine lv_lconst (v := 0) hx hb dX1_image_71 (by decide) ?_
                refine W.lcmp hx hb dX1_image_72 ?_
                refine lv_if_eq (tgt := 100) hx hb dX1_image_73 (by decide) (fun c_73 => ?_) (fun c_73 => ?_)
                · refine xa_inc (k := 6) (lv' := [(6, .int (nI (w + 1))), (0, .ref (ad 0)), (1, .int (nI j)), (2, .int (nI x0)), (3, .int (nI mm)), (4, .int (nI x2)), (5, .int (nI (N - mm)))]) hx hb dX1_image_100 hl rfl (by decide) rfl (fun ls hl => ?_)
                  refine lv_goto (tgt := 52) hx hb dX1_image_103 (by decide) ?_
                  exact ih_52 (w + 1) d2 t2 _ _ _ (by omega) (by omega) (fun x z hx hz => by rw [hI x z hx hz]; exact (im_skip (hg x2 hx2).1 (by omega) ((lg_cmp_eq _ _).mp c_73)).symm) hP hS (lv_sub hl [1, 2, 3, 4, 5, 6, 0] rfl)
                · refine lv_aload_n hx hb dX1_image_76 rfl (lv_at hl 0 rfl) ?_
                  refine lv_iload_n hx hb dX1_image_77 rfl (lv_at hl 2 rfl) ?_
                  refine lv_iload_n hx hb dX1_image_78 rfl (lv_at hl 3 rfl) ?_
                  refine lv_iload hx hb dX1_image_79 (lv_at hl 6 rfl) ?_
                  refine va_callv (va_runV (As := [.int (nI x0), .int (nI mm), .int (nI w)]) (rest := []) ⟨hx, hb, hml, hown, hts⟩ (c_readTuples l D _ N hN1 hN ad (aok_true hao) cJJ cJ cI d2 re t2 kd uh bf la G x0 mm w (by omega) (by omega) (by omega)) (cwV 3 hts gX1_image_X1_readTuples rfl rfl rfl (by decide +kernel) ⟨Nat.le_of_ble_eq_true rfl, Nat.le_of_ble_eq_true rfl⟩) ⟨wp0_blind, va_recv hK hP (ci := 1) (q0 := 0) rfl rfl, fun U hU hW => wp0_of hP hK htb hS (fr_in hao hS hA) hU hW⟩ rfl rfl hl.1 rfl (lv_room (Nat.le_of_ble_eq_true rfl)) dX1_image_81 ⟨Nat.zero_le _, Nat.zero_le _⟩) hS (fun q _ h => (fr_in hao hS hA) q h) ((fr_in hao hS hA)) (fun u_81 t H1 locs ht hvm hw hB hz1 hk1 hS => ?_)
                  rw [ht] at hB
                  have hP := hB
                  clear hz1 hk1 hB ht
                  generalize H1 = H at hP hS ⊢
                  have htu : ∀ i, i < pw N → u_81 i = nI (tp g x0 (64 * w + i) mm) := fun i hi => by rw [hw i hi, tp_congr (fun k hk => (hg (x0 + k) (by omega)).1 w i (by omega) (by omega))]
                  refine lv_aload_n hx hb dX1_image_84 rfl (lv_at hl 0 rfl) ?_
                  refine lv_aload_n hx hb dX1_image_85 rfl (lv_at hl 0 rfl) ?_
                  refine va_get (D := D) (ci := 1) (C := RX1) (T := TX1) (N := 10) hx hb hts (by decide +kernel) hown hK hP 0 rfl rfl 5 (by decide) (hts (.fieldLink RX1 39 "ForkDesk" "registers" "[[J") (by decide +kernel)) (fun _ h9 => h9) rfl dX1_image_86 ?_
                  refine lv_iload hx hb dX1_image_89 (lv_at hl 4 rfl) ?_
                  refine xa_aald hx hb hK hP 1 0 rfl rfl (w := x2) (y := ad (10 + x2)) (by omega) (by decide) rfl dX1_image_91 ?_
                  refine lv_iload hx hb dX1_image_92 (lv_at hl 6 rfl) ?_
                  refine xa_lald hx hb hK hP (10 + x2) 1 (dk_row (by omega)) rfl (w := w) (by omega) (by omega) dX1_image_94 ?_
                  refine lv_iload hx hb dX1_image_95 (lv_at hl 5 rfl) ?_
                  refine va_callv (va_runV (As := [.long (G x2 w), .int (nI (N - mm))]) (rest := []) ⟨hx, hb, hml, hown, hts⟩ (c_markTuples l D _ N hN1 hN ad (aok_true hao) cJJ cJ cI d2 re u_81 kd uh bf la G (G x2 w) (N - mm) (fun i => tp g x0 (64 * w + i) mm) htu (fun i hi => tp_fb hmm (tp_lt g x0 (64 * w + i) mm)) (by omega)) (cwV 2 hts gX1_image_X1_markTuples rfl rfl rfl (by decide +kernel) ⟨Nat.le_of_ble_eq_true rfl, Nat.le_of_ble_eq_true rfl⟩) ⟨wp0_blind, va_recv hK hP (ci := 1) (q0 := 0) rfl rfl, fun U hU hW => wp0_of hP hK htb hS (fr_in hao hS hA) hU hW⟩ rfl rfl hl.1 rfl (lv_room (Nat.le_of_ble_eq_true rfl)) dX1_image_97 ⟨Nat.zero_le _, Nat.zero_le _⟩) hS (fun q _ h => (fr_in hao hS hA) q h) ((fr_in hao hS hA)) (fun u_97 t H1 locs ht hvm hw hB hz1 hk1 hS => ?_)
                  rw [ht] at hB
                  have hP := hB
                  clear hz1 hk1 hB ht
                  generalize H1 = H at hP hS ⊢
                  refine xa_inc (k := 6) (lv' := [(6, .int (nI (w + 1))), (0, .ref (ad 0)), (1, .int (nI j)), (2, .int (nI x0)), (3, .int (nI mm)), (4, .int (nI x2)), (5, .int (nI (N - mm)))]) hx hb dX1_image_100 hl rfl (by decide) rfl (fun ls hl => ?_)
                  refine lv_goto (tgt := 52) hx hb dX1_image_103 (by decide) ?_
                  exact ih_52 (w + 1) u_97 u_81 _ _ _ (by omega) (by omega) (fun x z hx hz => by rw [hw]; exact im_mark (hg x2 hx2) (by omega) hI (fun i hi => tp_fb hmm (tp_lt g x0 (64 * w + i) mm)) x z hx hz) hP hS (lv_sub hl [1, 2, 3, 4, 5, 6, 0] rfl)
          exact lp_52 (nw N + 1 - 0) 0 u_46 tu _ _ _ (by omega) (by omega) (fun x z hx _ => by rw [hw x hx, lb_0]; rfl) hP hS (lv_sub hl [2, 3, 4, 5, 6, 1, 0] rfl)
        · refine lv_iconst (v := nI 0) hx hb dX1_image_31 (by decide) ?_
          exact W.zret (v := (nI 0)) hx hb hr (by decide) (fun t ht hW => ⟨⟨(nI 0), (dr, re, tu, kd, uh, bf, la, G), rfl, ⟨by rw [(show spI N g k f mv c1 = none from if_neg (by simp [c_4, c_12, hix, c_20, c_28]))]; rfl, by rw [(show spI N g k f mv c1 = none from if_neg (by simp [c_4, c_12, hix, c_20, c_28]))]; exact hg⟩, (by show va_P _ _ _ _; rw [ht]; exact hP)⟩, hS.F ht⟩) hS.2.2 dX1_image_32
end
section
set_option maxHeartbeats 4000000 in
set_option maxRecDepth 100000 in
/-- lowestPlace -/
theorem c_lowestPlace (l : Launch) (D : va_G) (sz : Nat) (x : Int64) : Met l yX1_lowestPlace wsX1_lowestPlace ({ frames := 1, cells := 0, slots := 0, locals := 21 } : Room) (va_Pc [.long x] (wp0 D [] [] (fun _ : Nat => False) sz)) (va_Qi (fun (r : Int32) (_ : Unit) => r = nI (pcn (lb ((x &&& -x) - 1)) 64)) (fun _ _ => True) (fun _ : Nat => False)) 0 0 (fun _ : Nat => False) := by
  refine Met.ofW (cc := cX1_lowestPlace) (maxL := 2) (ret := (some .int)) (by decide) rfl ?_
  intro p e s m args below meth c s₁ B hml hv
  obtain ⟨rfl, hsz, hP, hK, htb⟩ := hv
  have hx := B.exec
  have hb := B.bytes
  have hr := B.returns
  have hts := atoms_spec (ws := wsX1_lowestPlace) B.pre
  have hown : s.vm.findClass RX1 = some m.cls := findClass_of_methodNamed B.named
  have hlocks := B.notSynchronized
  subst hsz
  obtain ⟨⟨tt, hZ, hT⟩, hNst⟩ := id htb
  have hS : va_S (fun _ : Nat => False) s.heap s.heap [] := va_S.rf
  have hl := lv_entry ([.long x]) (n := 2) (Nat.le_of_ble_eq_true rfl)
  rw [lg_entry_eq]
  generalize (lg_sl ([.long x]) ++ List.replicate (2 - (lg_sl ([.long x])).length) Slot.unset).toArray = ls at hl ⊢
  have hl : lv_has ls 2 [(0, .long x)] := hl
  refine lv_lload_n hx hb dX1_lowestPlace_0 rfl (lv_at hl 0 rfl) ?_
  refine lv_lload_n hx hb dX1_lowestPlace_1 rfl (lv_at hl 0 rfl) ?_
  refine lv_lneg hx hb dX1_lowestPlace_2 ?_
  refine lv_land hx hb dX1_lowestPlace_3 ?_
  refine lv_lconst (v := 1) hx hb dX1_lowestPlace_4 (by decide) ?_
  refine lv_lsub hx hb dX1_lowestPlace_5 ?_
  refine va_calli (va_runS (As := [.long ((x &&& (-x)) - (1 : Int64))]) (rest := []) ⟨hx, hb, hml, hown, hts⟩ (c_bitCount l D _ ((x &&& (-x)) - (1 : Int64))) (va_cwS 1 hts gX1_lowestPlace_J13_bitCount_95d88 rfl rfl rfl (by decide +kernel) ⟨Nat.le_of_ble_eq_true rfl, Nat.le_of_ble_eq_true rfl⟩) ⟨wp0_blind, fun U hU hW => wp0_of (va_P.sub hP [] rfl) (hK.sub [] rfl) htb hS no_in hU hW⟩ rfl rfl hl.1 rfl (lv_room (Nat.le_of_ble_eq_true rfl)) dX1_lowestPlace_6 ⟨Nat.zero_le _, Nat.zero_le _⟩) hS (fun q _ h => h.elim) (fun q h => h.elim) (fun r_6 u_6 t H1 locs ht hvm hw hB hz1 hk1 hS => ?_)
  have hP := xa_same hP hk1
  clear hz1 hk1 hB ht
  generalize H1 = H at hP hS ⊢
  subst hw
  exact W.iret (v := (nI (pcn (lb ((x &&& (-x)) - (1 : Int64))) 64))) hx hb hr (fun t ht hW => ⟨⟨(nI (pcn (lb ((x &&& (-x)) - (1 : Int64))) 64)), (), rfl, rfl, trivial⟩, hS.F ht⟩) hS.2.2 dX1_lowestPlace_9

set_option maxHeartbeats 4000000 in
set_option maxRecDepth 100000 in
/-- ones -/
theorem c_ones (l : Launch) (D : va_G) (sz : Nat) (N : Nat) (hN1 : 1 ≤ N) (hN : N ≤ 12) (ad : Nat → Nat) (hao : aok (fun _ => True) ad) (cJJ cJ cI : ClassId) (dr re : Nat → Int64) (tu kd uh bf la : Nat → Int32) (G : Nat → Nat → Int64) (g : Nat → Nat → Bool) (hg : okG N G g) (k : Int32) : Met l yX1_ones wsX1_ones ({ frames := 1, cells := 0, slots := 0, locals := 21 } : Room) (va_Pc [.ref (ad 0), .int k] (wp0 D (dkW N ad cJJ cJ cI dr re tu kd uh bf la G) (dkT cJJ cJ cI) (fun _ : Nat => False) sz)) (va_Qi (fun (r : Int32) (_ : Unit) => r = sOn N g k) (fun _ _ => True) (fun _ : Nat => False)) 0 0 (fun _ : Nat => False) := by
  refine Met.ofW (cc := cX1_ones) (maxL := 4) (ret := (some .int)) (by decide) rfl ?_
  intro p e s m args below meth c s₁ B hml hv
  obtain ⟨rfl, hsz, hP, hK, htb⟩ := hv
  have hx := B.exec
  have hb := B.bytes
  have hr := B.returns
  have hts := atoms_spec (ws := wsX1_ones) B.pre
  have hown : s.vm.findClass RX1 = some m.cls := findClass_of_methodNamed B.named
  have hlocks := B.notSynchronized
  subst hsz
  obtain ⟨⟨tt, hZ, hT⟩, hNst⟩ := id htb
  have hS : va_S (fun _ : Nat => False) s.heap s.heap [] := va_S.rf
  have hl := lv_entry ([.ref (ad 0), .int k]) (n := 4) (Nat.le_of_ble_eq_true rfl)
  rw [lg_entry_eq]
  generalize (lg_sl ([.ref (ad 0), .int k]) ++ List.replicate (4 - (lg_sl ([.ref (ad 0), .int k])).length) Slot.unset).toArray = ls at hl ⊢
  have hl : lv_has ls 4 [(0, .ref (ad 0)), (1, .int k)] := hl
  have hnw := nw_le hN
  have hnwp := nw_pos N
  have hpw := pw_le N
  have hpwp := pw_pos N
  have hnp := np_le hN
  refine lv_iload_n hx hb dX1_ones_0 rfl (lv_at hl 1 rfl) ?_
  refine va_calli (va_runS (As := [.int k]) (rest := []) ⟨hx, hb, hml, hown, hts⟩ (c_isRegister l D _ k) (va_cwS 1 hts gX1_ones_X1_isRegister rfl rfl rfl (by decide +kernel) ⟨Nat.le_of_ble_eq_true rfl, Nat.le_of_ble_eq_true rfl⟩) ⟨wp0_blind, fun U hU hW => wp0_of (va_P.sub hP [] rfl) (hK.sub [] rfl) htb hS no_in hU hW⟩ rfl rfl hl.1 rfl (lv_room (Nat.le_of_ble_eq_true rfl)) dX1_ones_1 ⟨Nat.zero_le _, Nat.zero_le _⟩) hS (fun q _ h => h.elim) (fun q h => h.elim) (fun r_1 u_1 t H1 locs ht hvm hw hB hz1 hk1 hS => ?_)
  have hP := xa_same hP hk1
  clear hz1 hk1 hB ht
  generalize H1 = H at hP hS ⊢
  subst hw
  refine xa_if1 (tgt := 9) hx hb dX1_ones_4 (by decide) (fun c_4 => ?_) (fun c_4 => ?_)
  · obtain ⟨j, hj, ej⟩ := isR_t c_4
    rw [ej] at hl
    refine lv_iconst (v := nI 0) hx hb dX1_ones_9 (by decide) ?_
    refine lv_istore_n (lv' := [(2, .int (nI 0)), (0, .ref (ad 0)), (1, .int (nI j))]) hx hb dX1_ones_10 rfl hl (by decide) rfl (fun ls hl => ?_)
    refine lv_iconst (v := nI 0) hx hb dX1_ones_11 (by decide) ?_
    refine lv_istore_n (lv' := [(3, .int (nI 0)), (2, .int (nI 0)), (0, .ref (ad 0)), (1, .int (nI j))]) hx hb dX1_ones_12 rfl hl (by decide) rfl (fun ls hl => ?_)
    have lp_13 : ∀ (n9 w : Nat) (sm : Nat) (H : Heap) (locs : List Loc) (ls : Array Slot), w ≤ nw N → nw N + 1 ≤ w + n9 → sm = pcn (g j) (64 * w) → va_P D vwCl (dkW N ad cJJ cJ cI dr re tu kd uh bf la G) H → va_S (fun _ : Nat => False) s.heap H locs → lv_has ls 4 [(0, .ref (ad 0)), (1, .int (nI j)), (2, .int (nI sm)), (3, .int (nI w))] → W p l e (headSpec wsX1_ones ({ frames := 1, cells := 0, slots := 0, locals := 21 } : Room)).room s m ([.ref (ad 0), .int k] : List Value).toArray below meth c H locs 0 0 (MQ below (va_Qi (fun (r : Int32) (_ : Unit) => r = sOn N g k) (fun _ _ => True) (fun _ : Nat => False)) ([.ref (ad 0), .int k] : List Value).toArray s 0 0 (fun _ : Nat => False)) (F0 m 13 ls []) := by
      intro n9
      induction n9 with
      | zero => intro w sm H locs ls h1 h2; exact absurd h2 (by omega)
      | succ n9 ih =>
        intro w sm H locs ls hle_13 hmm_13 hI hP hS hl
        have hpc := pcn_le (g j) (64 * w)
        have ih_13 := @ih
        refine lv_iload_n hx hb dX1_ones_13 rfl (lv_at hl 3 rfl) ?_
        refine lv_aload_n hx hb dX1_ones_14 rfl (lv_at hl 0 rfl) ?_
        refine va_get (D := D) (ci := 1) (C := RX1) (T := TX1) (N := 10) hx hb hts (by decide +kernel) hown hK hP 0 rfl rfl 2 (by decide) (hts (.fieldLink RX1 25 "ForkDesk" "words" "I") (by decide +kernel)) (fun _ h9 => h9) rfl dX1_ones_15 ?_
        refine xa_ge (tgt := 41) hx hb (by omega) (by omega) dX1_ones_18 (by decide) (fun c_18 => ?_) (fun c_18 => ?_)
        · refine lv_iload_n hx hb dX1_ones_41 rfl (lv_at hl 2 rfl) ?_
          exact W.iret (v := (nI sm)) hx hb hr (fun t ht hW => ⟨⟨(nI sm), (), rfl, (by unfold sOn; rw [if_pos c_4, ej, ix_nI (by omega), hI, show w = nw N by omega, on_e (hg j hj).2]), trivial⟩, hS.F ht⟩) hS.2.2 dX1_ones_42
        · refine lv_iload_n hx hb dX1_ones_21 rfl (lv_at hl 2 rfl) ?_
          refine lv_aload_n hx hb dX1_ones_22 rfl (lv_at hl 0 rfl) ?_
          refine va_get (D := D) (ci := 1) (C := RX1) (T := TX1) (N := 10) hx hb hts (by decide +kernel) hown hK hP 0 rfl rfl 5 (by decide) (hts (.fieldLink RX1 39 "ForkDesk" "registers" "[[J") (by decide +kernel)) (fun _ h9 => h9) rfl dX1_ones_23 ?_
          refine lv_iload_n hx hb dX1_ones_26 rfl (lv_at hl 1 rfl) ?_
          refine xa_aald hx hb hK hP 1 0 rfl rfl (w := j) (y := ad (10 + j)) (by omega) (by decide) rfl dX1_ones_27 ?_
          refine lv_iload_n hx hb dX1_ones_28 rfl (lv_at hl 3 rfl) ?_
          refine xa_lald hx hb hK hP (10 + j) 1 (dk_row (by omega)) rfl (w := w) (by omega) (by omega) dX1_ones_29 ?_
          refine va_calli (va_runS (As := [.long (G j w)]) (rest := [.int (nI sm)]) ⟨hx, hb, hml, hown, hts⟩ (c_bitCount l D _ (G j w)) (va_cwS 1 hts gX1_ones_J13_bitCount_95d88 rfl rfl rfl (by decide +kernel) ⟨Nat.le_of_ble_eq_true rfl, Nat.le_of_ble_eq_true rfl⟩) ⟨wp0_blind, fun U hU hW => wp0_of (va_P.sub hP [] rfl) (hK.sub [] rfl) htb hS no_in hU hW⟩ rfl rfl hl.1 rfl (lv_room (Nat.le_of_ble_eq_true rfl)) dX1_ones_30 ⟨Nat.zero_le _, Nat.zero_le _⟩) hS (fun q _ h => h.elim) (fun q h => h.elim) (fun r_30 u_30 t H1 locs ht hvm hw hB hz1 hk1 hS => ?_)
          have hP := xa_same hP hk1
          clear hz1 hk1 hB ht
          generalize H1 = H at hP hS ⊢
          subst hw
          refine xa_iadd hx hb dX1_ones_33 ?_
          refine lv_istore_n (lv' := [(2, .int (nI (sm + (pcn (lb (G j w)) 64)))), (0, .ref (ad 0)), (1, .int (nI j)), (3, .int (nI w))]) hx hb dX1_ones_34 rfl hl (by decide) rfl (fun ls hl => ?_)
          refine xa_inc (k := 3) (lv' := [(3, .int (nI (w + 1))), (2, .int (nI (sm + (pcn (lb (G j w)) 64)))), (0, .ref (ad 0)), (1, .int (nI j))]) hx hb dX1_ones_35 hl rfl (by decide) rfl (fun ls hl => ?_)
          refine lv_goto (tgt := 13) hx hb dX1_ones_38 (by decide) ?_
          exact ih_13 (w + 1) (sm + (pcn (lb (G j w)) 64)) _ _ _ (by omega) (by omega) (by rw [hI]; exact on_s (hg j hj).1 (by omega)) hP hS (lv_sub hl [2, 3, 1, 0] rfl)
    exact lp_13 (nw N + 1 - 0) 0 0 _ _ _ (by omega) (by omega) rfl hP hS (lv_sub hl [2, 3, 1, 0] rfl)
  · refine lv_iconst (v := (-1)) hx hb dX1_ones_7 (by decide) ?_
    exact W.iret (v := (-1)) hx hb hr (fun t ht hW => ⟨⟨(-1), (), rfl, (by unfold sOn; rw [c_4]; rfl), trivial⟩, hS.F ht⟩) hS.2.2 dX1_ones_8

set_option maxHeartbeats 4000000 in
set_option maxRecDepth 100000 in
/-- least -/
theorem c_least (l : Launch) (D : va_G) (sz : Nat) (N : Nat) (hN1 : 1 ≤ N) (hN : N ≤ 12) (ad : Nat → Nat) (hao : aok (fun _ => True) ad) (cJJ cJ cI : ClassId) (dr re : Nat → Int64) (tu kd uh bf la : Nat → Int32) (G : Nat → Nat → Int64) (g : Nat → Nat → Bool) (hg : okG N G g) (k : Int32) : Met l yX1_least wsX1_least ({ frames := 2, cells := 0, slots := 0, locals := 42 } : Room) (va_Pc [.ref (ad 0), .int k] (wp0 D (dkW N ad cJJ cJ cI dr re tu kd uh bf la G) (dkT cJJ cJ cI) (fun _ : Nat => False) sz)) (va_Qi (fun (r : Int32) (_ : Unit) => r = sLe N g k) (fun _ _ => True) (fun _ : Nat => False)) 0 0 (fun _ : Nat => False) := by
  refine Met.ofW (cc := cX1_least) (maxL := 5) (ret := (some .int)) (by decide) rfl ?_
  intro p e s m args below meth c s₁ B hml hv
  obtain ⟨rfl, hsz, hP, hK, htb⟩ := hv
  have hx := B.exec
  have hb := B.bytes
  have hr := B.returns
  have hts := atoms_spec (ws := wsX1_least) B.pre
  have hown : s.vm.findClass RX1 = some m.cls := findClass_of_methodNamed B.named
  have hlocks := B.notSynchronized
  subst hsz
  obtain ⟨⟨tt, hZ, hT⟩, hNst⟩ := id htb
  have hS : va_S (fun _ : Nat => False) s.heap s.heap [] := va_S.rf
  have hl := lv_entry ([.ref (ad 0), .int k]) (n := 5) (Nat.le_of_ble_eq_true rfl)
  rw [lg_entry_eq]
  generalize (lg_sl ([.ref (ad 0), .int k]) ++ List.replicate (5 - (lg_sl ([.ref (ad 0), .int k])).length) Slot.unset).toArray = ls at hl ⊢
  have hl : lv_has ls 5 [(0, .ref (ad 0)), (1, .int k)] := hl
  have hnw := nw_le hN
  have hnwp := nw_pos N
  have hpw := pw_le N
  have hpwp := pw_pos N
  have hnp := np_le hN
  refine lv_iload_n hx hb dX1_least_0 rfl (lv_at hl 1 rfl) ?_
  refine va_calli (va_runS (As := [.int k]) (rest := []) ⟨hx, hb, hml, hown, hts⟩ (c_isRegister l D _ k) (va_cwS 1 hts gX1_least_X1_isRegister rfl rfl rfl (by decide +kernel) ⟨Nat.le_of_ble_eq_true rfl, Nat.le_of_ble_eq_true rfl⟩) ⟨wp0_blind, fun U hU hW => wp0_of (va_P.sub hP [] rfl) (hK.sub [] rfl) htb hS no_in hU hW⟩ rfl rfl hl.1 rfl (lv_room (Nat.le_of_ble_eq_true rfl)) dX1_least_1 ⟨Nat.zero_le _, Nat.zero_le _⟩) hS (fun q _ h => h.elim) (fun q h => h.elim) (fun r_1 u_1 t H1 locs ht hvm hw hB hz1 hk1 hS => ?_)
  have hP := xa_same hP hk1
  clear hz1 hk1 hB ht
  generalize H1 = H at hP hS ⊢
  subst hw
  refine xa_if1 (tgt := 9) hx hb dX1_least_4 (by decide) (fun c_4 => ?_) (fun c_4 => ?_)
  · obtain ⟨j, hj, ej⟩ := isR_t c_4
    rw [ej] at hl
    refine lv_iconst (v := nI 0) hx hb dX1_least_9 (by decide) ?_
    refine lv_istore_n (lv' := [(2, .int (nI 0)), (0, .ref (ad 0)), (1, .int (nI j))]) hx hb dX1_least_10 rfl hl (by decide) rfl (fun ls hl => ?_)
    have lp_11 : ∀ (n9 w : Nat) (H : Heap) (locs : List Loc) (ls : Array Slot), w ≤ nw N → nw N + 1 ≤ w + n9 → (∀ z, z < w → G j z = 0) → va_P D vwCl (dkW N ad cJJ cJ cI dr re tu kd uh bf la G) H → va_S (fun _ : Nat => False) s.heap H locs → lv_has ls 5 [(0, .ref (ad 0)), (1, .int (nI j)), (2, .int (nI w))] → W p l e (headSpec wsX1_least ({ frames := 2, cells := 0, slots := 0, locals := 42 } : Room)).room s m ([.ref (ad 0), .int k] : List Value).toArray below meth c H locs 0 0 (MQ below (va_Qi (fun (r : Int32) (_ : Unit) => r = sLe N g k) (fun _ _ => True) (fun _ : Nat => False)) ([.ref (ad 0), .int k] : List Value).toArray s 0 0 (fun _ : Nat => False)) (F0 m 11 ls []) := by
      intro n9
      induction n9 with
      | zero => intro w  H locs ls h1 h2; exact absurd h2 (by omega)
      | succ n9 ih =>
        intro w  H locs ls hle_11 hmm_11 hI hP hS hl
        have ih_11 := @ih
        refine lv_iload_n hx hb dX1_least_11 rfl (lv_at hl 2 rfl) ?_
        refine lv_aload_n hx hb dX1_least_12 rfl (lv_at hl 0 rfl) ?_
        refine va_get (D := D) (ci := 1) (C := RX1) (T := TX1) (N := 10) hx hb hts (by decide +kernel) hown hK hP 0 rfl rfl 2 (by decide) (hts (.fieldLink RX1 25 "ForkDesk" "words" "I") (by decide +kernel)) (fun _ h9 => h9) rfl dX1_least_13 ?_
        refine xa_ge (tgt := 50) hx hb (by omega) (by omega) dX1_least_16 (by decide) (fun c_16 => ?_) (fun c_16 => ?_)
        · refine lv_iconst (v := (-1)) hx hb dX1_least_50 (by decide) ?_
          exact W.iret (v := (-1)) hx hb hr (fun t ht hW => ⟨⟨(-1), (), rfl, (by unfold sLe; rw [if_pos c_4, ej, ix_nI (by omega), le_none (hg j hj).1 (fun z hz => hI z (by omega))]; rfl), trivial⟩, hS.F ht⟩) hS.2.2 dX1_least_51
        · refine lv_aload_n hx hb dX1_least_19 rfl (lv_at hl 0 rfl) ?_
          refine va_get (D := D) (ci := 1) (C := RX1) (T := TX1) (N := 10) hx hb hts (by decide +kernel) hown hK hP 0 rfl rfl 5 (by decide) (hts (.fieldLink RX1 39 "ForkDesk" "registers" "[[J") (by decide +kernel)) (fun _ h9 => h9) rfl dX1_least_20 ?_
          refine lv_iload_n hx hb dX1_least_23 rfl (lv_at hl 1 rfl) ?_
          refine xa_aald hx hb hK hP 1 0 rfl rfl (w := j) (y := ad (10 + j)) (by omega) (by decide) rfl dX1_least_24 ?_
          refine lv_iload_n hx hb dX1_least_25 rfl (lv_at hl 2 rfl) ?_
          refine xa_lald hx hb hK hP (10 + j) 1 (dk_row (by omega)) rfl (w := w) (by omega) (by omega) dX1_least_26 ?_
          refine lv_lstore_n (lv' := [(3, .long (G j w)), (0, .ref (ad 0)), (1, .int (nI j)), (2, .int (nI w))]) hx hb dX1_least_27 rfl hl (by decide) rfl (fun ls hl => ?_)
          refine lv_lload_n hx hb dX1_least_28 rfl (lv_at hl 0 rfl) ?_
          refine lv_lconst (v := 0) hx hb dX1_least_29 (by decide) ?_
          refine W.lcmp hx hb dX1_least_30 ?_
          refine lv_if_eq (tgt := 44) hx hb dX1_least_31 (by decide) (fun c_31 => ?_) (fun c_31 => ?_)
          · refine xa_inc (k := 3) (lv' := [(2, .int (nI (w + 1))), (3, .long (G j w)), (0, .ref (ad 0)), (1, .int (nI j))]) hx hb dX1_least_44 hl rfl (by decide) rfl (fun ls hl => ?_)
            refine lv_goto (tgt := 11) hx hb dX1_least_47 (by decide) ?_
            exact ih_11 (w + 1)  _ _ _ (by omega) (by omega) (fun z hz => by by_cases hzw : z = w; (subst hzw; exact (lg_cmp_eq _ _).mp c_31); (exact hI z (by omega))) hP hS (lv_sub hl [2, 3, 0] rfl)
          · refine lv_iload_n hx hb dX1_least_34 rfl (lv_at hl 3 rfl) ?_
            refine lv_bipush (v := nI 64) hx hb dX1_least_35 (by decide) ?_
            refine xa_imul hx hb dX1_least_37 ?_
            refine lv_lload_n hx hb dX1_least_38 rfl (lv_at hl 0 rfl) ?_
            refine va_calli (va_runS (As := [.long (G j w)]) (rest := [.int (nI (w * 64))]) ⟨hx, hb, hml, hown, hts⟩ (c_lowestPlace l D _ (G j w)) (va_cwS 1 hts gX1_least_X1_lowestPlace rfl rfl rfl (by decide +kernel) ⟨Nat.le_of_ble_eq_true rfl, Nat.le_of_ble_eq_true rfl⟩) ⟨wp0_blind, fun U hU hW => wp0_of (va_P.sub hP [] rfl) (hK.sub [] rfl) htb hS no_in hU hW⟩ rfl rfl hl.1 rfl (lv_room (Nat.le_of_ble_eq_true rfl)) dX1_least_39 ⟨Nat.zero_le _, Nat.zero_le _⟩) hS (fun q _ h => h.elim) (fun q h => h.elim) (fun r_39 u_39 t H1 locs ht hvm hw hB hz1 hk1 hS => ?_)
            have hP := xa_same hP hk1
            clear hz1 hk1 hB ht
            generalize H1 = H at hP hS ⊢
            subst hw
            refine xa_iadd hx hb dX1_least_42 ?_
            exact W.iret (v := (nI ((w * 64) + (pcn (lb (((G j w) &&& -(G j w)) - 1)) 64)))) hx hb hr (fun t ht hW => ⟨⟨(nI ((w * 64) + (pcn (lb (((G j w) &&& -(G j w)) - 1)) 64))), (), rfl, (by unfold sLe; rw [if_pos c_4, ej, ix_nI (by omega)]; exact le_some (hg j hj).1 (hg j hj).2 (by omega) hI (fun h => c_31 ((lg_cmp_eq _ _).mpr h))), trivial⟩, hS.F ht⟩) hS.2.2 dX1_least_43
    exact lp_11 (nw N + 1 - 0) 0  _ _ _ (by omega) (by omega) (fun z hz => absurd hz (by omega)) hP hS (lv_sub hl [1, 2, 0] rfl)
  · refine lv_iconst (v := (-1)) hx hb dX1_least_7 (by decide) ?_
    exact W.iret (v := (-1)) hx hb hr (fun t ht hW => ⟨⟨(-1), (), rfl, (by unfold sLe; rw [c_4]; rfl), trivial⟩, hS.F ht⟩) hS.2.2 dX1_least_8

set_option maxHeartbeats 4000000 in
set_option maxRecDepth 100000 in
/-- forks -/
theorem c_forks (l : Launch) (D : va_G) (sz : Nat) (N : Nat) (hN1 : 1 ≤ N) (hN : N ≤ 12) (ad : Nat → Nat) (hao : aok (fun _ => True) ad) (cJJ cJ cI : ClassId) (dr re : Nat → Int64) (tu kd uh bf la : Nat → Int32) (G : Nat → Nat → Int64) (g : Nat → Nat → Bool) (hg : okG N G g) (k : Int32) : Met l yX1_forks wsX1_forks ({ frames := 3, cells := 0, slots := 0, locals := 74 } : Room) (va_Pc [.ref (ad 0), .int k] (wp0 D (dkW N ad cJJ cJ cI dr re tu kd uh bf la G) (dkT cJJ cJ cI) (fr ad sz) sz)) (va_Qi (fun (r : Int32) (u : dkS) => r = sFo N g k ∧ okG N (dkR u) g) (fun (u : dkS) t => va_P D vwCl (dkU N ad cJJ cJ cI u) t.heap) (fr ad sz)) 0 0 (fr ad sz) := by
  refine Met.ofW (cc := cX1_forks) (maxL := 2) (ret := (some .int)) (by decide) rfl ?_
  intro p e s m args below meth c s₁ B hml hv
  obtain ⟨rfl, hsz, hP, hK, htb⟩ := hv
  have hx := B.exec
  have hb := B.bytes
  have hr := B.returns
  have hts := atoms_spec (ws := wsX1_forks) B.pre
  have hown : s.vm.findClass RX1 = some m.cls := findClass_of_methodNamed B.named
  have hlocks := B.notSynchronized
  subst hsz
  generalize hAe : fr ad s.heap.size = A at htb ⊢
  have hA : ∀ q : Nat, s.heap.size ≤ q → A q := fun q h => by rw [← hAe]; exact fr_new q h
  have hao : aok A ad := by rw [← hAe]; exact aok_fr hao
  obtain ⟨⟨tt, hZ, hT⟩, hNst⟩ := id htb
  have hS : va_S A s.heap s.heap [] := va_S.rf
  have hl := lv_entry ([.ref (ad 0), .int k]) (n := 2) (Nat.le_of_ble_eq_true rfl)
  rw [lg_entry_eq]
  generalize (lg_sl ([.ref (ad 0), .int k]) ++ List.replicate (2 - (lg_sl ([.ref (ad 0), .int k])).length) Slot.unset).toArray = ls at hl ⊢
  have hl : lv_has ls 2 [(0, .ref (ad 0)), (1, .int k)] := hl
  have hnw := nw_le hN
  have hnwp := nw_pos N
  have hpw := pw_le N
  have hpwp := pw_pos N
  have hnp := np_le hN
  refine lv_iload_n hx hb dX1_forks_0 rfl (lv_at hl 1 rfl) ?_
  refine va_calli (va_runS (As := [.int k]) (rest := []) ⟨hx, hb, hml, hown, hts⟩ (c_isRegister l D _ k) (va_cwS 1 hts gX1_forks_X1_isRegister rfl rfl rfl (by decide +kernel) ⟨Nat.le_of_ble_eq_true rfl, Nat.le_of_ble_eq_true rfl⟩) ⟨wp0_blind, fun U hU hW => wp0_of (va_P.sub hP [] rfl) (hK.sub [] rfl) htb hS no_in hU hW⟩ rfl rfl hl.1 rfl (lv_room (Nat.le_of_ble_eq_true rfl)) dX1_forks_1 ⟨Nat.zero_le _, Nat.zero_le _⟩) hS (fun q _ h => h.elim) (fun q h => h.elim) (fun r_1 u_1 t H1 locs ht hvm hw hB hz1 hk1 hS => ?_)
  have hP := xa_same hP hk1
  clear hz1 hk1 hB ht
  generalize H1 = H at hP hS ⊢
  subst hw
  refine xa_if0 (tgt := 23) hx hb dX1_forks_4 (by decide) (fun c_4 => ?_) (fun c_4 => ?_)
  · refine lv_iconst (v := (-1)) hx hb dX1_forks_23 (by decide) ?_
    exact W.iret (v := (-1)) hx hb hr (fun t ht hW => ⟨⟨(-1), (dr, re, tu, kd, uh, bf, la, G), rfl, ⟨by unfold sFo; rw [c_4]; rfl, hg⟩, (by show va_P _ _ _ _; rw [ht]; exact hP)⟩, hS.F ht⟩) hS.2.2 dX1_forks_24
  · obtain ⟨j, hj, ej⟩ := isR_t c_4
    rw [ej] at hl
    refine lv_aload_n hx hb dX1_forks_7 rfl (lv_at hl 0 rfl) ?_
    refine va_get (D := D) (ci := 1) (C := RX1) (T := TX1) (N := 10) hx hb hts (by decide +kernel) hown hK hP 0 rfl rfl 9 (by decide) (hts (.fieldLink RX1 58 "ForkDesk" "forkCounter" "LForkDesk$ForkCounter;") (by decide +kernel)) (fun _ h9 => h9) rfl dX1_forks_8 ?_
    refine lv_aload_n hx hb dX1_forks_11 rfl (lv_at hl 0 rfl) ?_
    refine va_get (D := D) (ci := 1) (C := RX1) (T := TX1) (N := 10) hx hb hts (by decide +kernel) hown hK hP 0 rfl rfl 5 (by decide) (hts (.fieldLink RX1 39 "ForkDesk" "registers" "[[J") (by decide +kernel)) (fun _ h9 => h9) rfl dX1_forks_12 ?_
    refine lv_iload_n hx hb dX1_forks_15 rfl (lv_at hl 1 rfl) ?_
    refine xa_aald hx hb hK hP 1 0 rfl rfl (w := j) (y := ad (10 + j)) (by omega) (by decide) rfl dX1_forks_16 ?_
    refine va_calli (va_runV (As := [.ref (ad (10 + j))]) (rest := []) ⟨hx, hb, hml, hown, hts⟩ (c_count l D _ N hN1 hN ad (aok_true hao) cJJ cJ cI dr re tu kd uh bf la G j hj (g j) (hg j hj).1) (cwV 1 hts gX1_forks_X0_count rfl rfl rfl (by decide +kernel) ⟨Nat.le_of_ble_eq_true rfl, Nat.le_of_ble_eq_true rfl⟩) ⟨wp0_blind, va_recv hK hP (ci := 0) (q0 := 5) rfl rfl, fun U hU hW => wp0_of hP hK htb hS (fr_in hao hS hA) hU hW⟩ rfl rfl hl.1 rfl (lv_room (Nat.le_of_ble_eq_true rfl)) dX1_forks_17 ⟨Nat.zero_le _, Nat.zero_le _⟩) hS (fun q _ h => (fr_in hao hS hA) q h) ((fr_in hao hS hA)) (fun r_17 u_17 t H1 locs ht hvm hw hB hz1 hk1 hS => ?_)
    rw [ht] at hB
    have hP := hB
    clear hz1 hk1 hB ht
    generalize H1 = H at hP hS ⊢
    subst hw
    refine lv_goto (tgt := 24) hx hb dX1_forks_20 (by decide) ?_
    exact W.iret (v := (nI (fc (g j) N N))) hx hb hr (fun t ht hW => ⟨⟨(nI (fc (g j) N N)), (dr, re, tu, u_17.1, u_17.2.1, u_17.2.2.1, u_17.2.2.2, G), rfl, ⟨by unfold sFo; rw [if_pos c_4, ej, ix_nI (by omega)], hg⟩, (by show va_P _ _ _ _; rw [ht]; exact hP)⟩, hS.F ht⟩) hS.2.2 dX1_forks_24
end
section
/-! the reference's cells: bd 0 the object, 1 rows, 2 made, 3 parts; arrays of truth by their truth -/
def bz (f : Nat → Bool) : Nat → Int32 := fun i => nI (f i).toNat
theorem bz_up (f : Nat → Bool) (i : Nat) (b : Bool) : upd (bz f) i (vp_nar .boolean (nI b.toNat)) = bz (va_up f i b) := by
  have e : vp_nar .boolean (nI b.toNat) = nI b.toNat := by cases b <;> decide
  rw [e]
  funext j
  by_cases h : j = i
  · subst h
    rw [pk_us]
    show _ = nI (va_up f j b j).toNat
    rw [va_up_self]
  · rw [pk_un h]
    show _ = nI (va_up f i b j).toNat
    rw [va_up_ne _ _ h]
    rfl
abbrev mdF (N : Nat) (bd : Nat → Nat) (th : Int32) : List Value := [.int th, .int (nI N), .int (nI (2 ^ N)), .ref (bd 1), .ref (bd 2), .ref (bd 3)]
abbrev mdW (N : Nat) (bd : Nat → Nat) (cZ cI : ClassId) (th : Int32) (rb mb : Nat → Bool) (pt : Nat → Int32) : va_W :=
  [(bd 0, .inr (2, mdF N bd th)), (bd 1, .inl (cZ, 131072, .inl (bz rb))), (bd 2, .inl (cZ, 4096, .inl (bz mb))), (bd 3, .inl (cI, 2048, .inl pt))]
abbrev mdT (cZ cI : ClassId) : List (ClassId × FieldType) := [(cZ, .boolean), (cI, .int)]
def aok4 (A : Nat → Prop) (bd : Nat → Nat) : Prop := (∀ i j, i < 4 → j < 4 → bd i = bd j → i = j) ∧ ∀ i, i < 4 → A (bd i)
def fr4 (bd : Nat → Nat) (sz : Nat) : Nat → Prop := fun q => (∃ i, i < 4 ∧ q = bd i) ∨ sz ≤ q
theorem aok4_fr {A : Nat → Prop} {bd : Nat → Nat} {sz : Nat} (h : aok4 A bd) : aok4 (fr4 bd sz) bd := ⟨h.1, fun i hi => Or.inl ⟨i, hi, rfl⟩⟩
theorem aok4_true {A : Nat → Prop} {bd : Nat → Nat} (h : aok4 A bd) : aok4 (fun _ => True) bd := ⟨h.1, fun _ _ => trivial⟩
theorem fr4_in {A : Nat → Prop} {bd : Nat → Nat} {H0 H : Heap} {locs : List Loc} (h : aok4 A bd) (hS : va_S A H0 H locs) (hA : ∀ q, H0.size ≤ q → A q) : ∀ q, fr4 bd H.size q → A q := by
  intro q hq
  rcases hq with ⟨i, hi, rfl⟩ | hq
  · exact h.2 i hi
  · exact hA q (Nat.le_trans hS.1 hq)
theorem fr4_new {bd : Nat → Nat} {sz : Nat} : ∀ q, sz ≤ q → fr4 bd sz q := fun _ h => Or.inr h
theorem md_adr {N : Nat} {bd : Nat → Nat} {cZ cI : ClassId} {th : Int32} {rb mb : Nat → Bool} {pt : Nat → Int32} {k : Nat} {q : Nat × va_E} (h : (mdW N bd cZ cI th rb mb pt)[k]? = some q) : k < 4 ∧ q.1 = bd k := by
  match k, h with
  | 0, h => cases h; exact ⟨by omega, rfl⟩
  | 1, h => cases h; exact ⟨by omega, rfl⟩
  | 2, h => cases h; exact ⟨by omega, rfl⟩
  | 3, h => cases h; exact ⟨by omega, rfl⟩
  | k + 4, h => cases h
theorem md_D {A : Nat → Prop} {N : Nat} {bd : Nat → Nat} {cZ cI : ClassId} {th : Int32} {rb mb : Nat → Bool} {pt : Nat → Int32} (h : aok4 A bd) : va_D A (mdW N bd cZ cI th rb mb pt) :=
  ⟨fun i j p q hi hj e => by
    obtain ⟨a1, a2⟩ := md_adr hi
    obtain ⟨b1, b2⟩ := md_adr hj
    exact h.1 i j a1 b1 (by rw [← a2, ← b2, e]), fun k q hk => by
    obtain ⟨a1, a2⟩ := md_adr hk
    rw [a2]
    exact h.2 k a1⟩
section XZ
variable {p : Program} {l : Launch} {e : Env} {R : Room} {s : State} {m : MethodId} {args : Array Value} {below : List Frame} {meth : Method} {c : Code} {H : Heap} {locs : List Loc} {cells slots : Nat} {Q : State → Prop}
variable {cc : ByteArray} {pc : Nat} {ls : Array Slot} {rest : List Value} {D : va_G} {cl : List vw_C} {A : Nat → Prop} {a : Nat} {tys : List (ClassId × FieldType)} {ws : va_W} {H0 : Heap}
theorem xa_zald (hexec : p.tables.exec = Jvm.exec) (hb : c.code = cc) (hK : va_K D cl tys s) (hP : va_P D cl ws H) (q0 t0 : Nat) {cA : ClassId} {n : Nat} {f : Nat → Bool} (ha : ws[q0]? = some (a, .inl (cA, n, .inl (bz f)))) (ht : tys[t0]? = some (cA, .boolean)) {w : Nat} (hw : w < n) (hn : n < 2 ^ 31) (hdg : decode cc pc = .ok (.baload, 1))
    (kk : W p l e R s m args below meth c H locs cells slots Q (F0 m (pc + 1) ls (.int (nI (f w).toNat) :: rest))) : W p l e R s m args below meth c H locs cells slots Q (F0 m pc ls (.int (nI w) :: .ref a :: rest)) :=
  va_zald hexec hb hK hP q0 t0 ha ht (vp_in_nI hw hn) hdg (by rw [nI_clamp (Nat.lt_trans hw hn)]; exact kk)
theorem xa_zast (hexec : p.tables.exec = Jvm.exec) (hb : c.code = cc) (hK : va_K D cl tys s) (hP : va_P D cl ws H) (hD : va_D A ws) (hS : va_S A H0 H locs) (q0 t0 : Nat) {cA : ClassId} {n : Nat} {f : Nat → Bool} (ha : ws[q0]? = some (a, .inl (cA, n, .inl (bz f)))) (ht : tys[t0]? = some (cA, .boolean)) {w : Nat} {b : Bool} (hw : w < n) (hn : n < 2 ^ 31) (hdg : decode cc pc = .ok (.bastore, 1))
    (kk : ∀ (H1 : Heap) (locs1 : List Loc), va_P D cl (ws.set q0 (a, .inl (cA, n, .inl (bz (va_up f w b))))) H1 → va_D A (ws.set q0 (a, .inl (cA, n, .inl (bz (va_up f w b))))) → va_S A H0 H1 locs1 → W p l e R s m args below meth c H1 locs1 cells slots Q (F0 m (pc + 1) ls rest)) : W p l e R s m args below meth c H locs cells slots Q (F0 m pc ls (.int (nI b.toNat) :: .int (nI w) :: .ref a :: rest)) :=
  va_zast hexec hb hK hP hD hS q0 t0 ha ht (vp_in_nI hw hn) hdg (by rw [nI_clamp (Nat.lt_trans hw hn), bz_up]; exact kk)
theorem xb_eq (hexec : p.tables.exec = Jvm.exec) (hb : c.code = cc) {x y : Bool} {off : Int} {tgt : Nat} (hdg : decode cc pc = .ok (.if_icmp .eq off, 3)) (ht : (pc : Int) + off = (tgt : Int))
    (kt : x = y → W p l e R s m args below meth c H locs cells slots Q (F0 m tgt ls rest)) (kf : ¬ x = y → W p l e R s m args below meth c H locs cells slots Q (F0 m (pc + 3) ls rest)) : W p l e R s m args below meth c H locs cells slots Q (F0 m pc ls (.int (nI y.toNat) :: .int (nI x.toNat) :: rest)) :=
  lv_icmp_eq hexec hb hdg ht (fun h => kt (by cases x <;> cases y <;> first | rfl | exact absurd h (by decide))) (fun h => kf (fun e => h (by rw [e])))
theorem xa_ishr (hexec : p.tables.exec = Jvm.exec) (hb : c.code = cc) {x y : Nat} (hx : x < 2 ^ 31) (hy : y < 32) (hdg : decode cc pc = .ok (.ishr, 1)) (k : W p l e R s m args below meth c H locs cells slots Q (F0 m (pc + 1) ls (.int (nI (x / 2 ^ y)) :: rest))) : W p l e R s m args below meth c H locs cells slots Q (F0 m pc ls (.int (nI y) :: .int (nI x) :: rest)) :=
  lv_ishr hexec hb hdg (by rw [pk_shrN hx _ y (xs_l y hy)]; exact k)
theorem xa_ior (hexec : p.tables.exec = Jvm.exec) (hb : c.code = cc) {x y : Nat} (hdg : decode cc pc = .ok (.ior, 1)) (k : W p l e R s m args below meth c H locs cells slots Q (F0 m (pc + 1) ls (.int (nI (x ||| y)) :: rest))) : W p l e R s m args below meth c H locs cells slots Q (F0 m pc ls (.int (nI y) :: .int (nI x) :: rest)) :=
  lv_ior hexec hb hdg (by
    have h : nI x ||| nI y = nI (x ||| y) := by
      apply Int32.toBitVec_inj.1
      show BitVec.ofNat 32 x ||| BitVec.ofNat 32 y = BitVec.ofNat 32 (x ||| y)
      apply BitVec.eq_of_getLsbD_eq
      intro i hi
      simp [hi]
    rw [h]; exact k)
end XZ
/-- the rows hold the functions g -/
def okM (N : Nat) (rb : Nat → Bool) (g : Nat → Nat → Bool) : Prop := ∀ k p, k < 32 → p < 2 ^ N → rb (4096 * k + p) = g k p
/-- keep: row k becomes what was made, p points done -/
def kpt (rb mb : Nat → Bool) (k : Nat) : Nat → Nat → Bool
  | 0 => rb
  | p + 1 => va_up (kpt rb mb k p) (4096 * k + p) (mb p)
theorem kpt_at (rb mb : Nat → Bool) (k : Nat) : ∀ n i, kpt rb mb k n i = if 4096 * k ≤ i ∧ i < 4096 * k + n then mb (i - 4096 * k) else rb i
  | 0, i => by rw [if_neg (by omega)]; rfl
  | n + 1, i => by
    show va_up (kpt rb mb k n) (4096 * k + n) (mb n) i = _
    by_cases e : i = 4096 * k + n
    · subst e
      rw [va_up_self, if_pos (by omega), Nat.add_sub_cancel_left]
    · rw [va_up_ne _ _ e, kpt_at rb mb k n i]
      by_cases h : 4096 * k ≤ i ∧ i < 4096 * k + n
      · rw [if_pos h, if_pos (by omega)]
      · rw [if_neg h, if_neg (by omega)]
theorem okM_up {N : Nat} (hN : N ≤ 12) {rb mb : Nat → Bool} {g : Nat → Nat → Bool} (h : okM N rb g) {j : Nat} (hj : j < 32) {f : Nat → Bool} (hf : ∀ p, p < 2 ^ N → mb p = f p) : okM N (kpt rb mb j (2 ^ N)) (va_up g j f) := fun k p hk hp => by
  have hnp := np_le hN
  rw [kpt_at]
  by_cases e : k = j
  · subst e
    rw [if_pos (by omega), va_up_self, Nat.add_sub_cancel_left]
    exact hf p hp
  · rw [if_neg (by omega), va_up_ne _ _ e]
    exact h k p hk hp
end
section
theorem nar_b (b : Bool) : narrow .boolean (.int (nI b.toNat)) = .int (nI b.toNat) := by cases b <;> rfl
theorem tn_f {b : Bool} (h : ¬ b.toNat = 1) : b = false := by cases b <;> first | rfl | exact absurd rfl h
/-- alike: zz places from a on as from b on -/
def alk (rb : Nat → Bool) (a b zz : Nat) : Bool := (List.range zz).all (fun x => rb (a + x) == rb (b + x))
theorem alk_iff {rb : Nat → Bool} {a b zz : Nat} : alk rb a b zz = true ↔ ∀ x, x < zz → rb (a + x) = rb (b + x) := by
  unfold alk
  rw [List.all_eq_true]
  constructor
  · intro h1 p hp
    exact eq_of_beq (h1 p (List.mem_range.mpr hp))
  · intro h1 p hp
    exact beq_iff_eq.mpr (h1 p (List.mem_range.mp hp))
theorem alk_t {rb : Nat → Bool} {a b zz : Nat} (h : ∀ x, x < zz → rb (a + x) = rb (b + x)) : alk rb a b zz = true := alk_iff.mpr h
theorem alk_f {rb : Nat → Bool} {a b zz x : Nat} (hx : x < zz) (h : ¬ rb (a + x) = rb (b + x)) : alk rb a b zz = false := by
  cases hb : alk rb a b zz with
  | false => rfl
  | true => exact absurd (alk_iff.mp hb x hx) h
theorem isB_in {v : Int32} (h1 : ¬ v < 0) (h2 : v ≤ nI 1) : isB v = true := by
  rcases pk_ix v (n := 2) (by decide) with h3 | h3 | ⟨j, hj, rfl⟩
  · exact absurd h3 h1
  · exact absurd (Int32.lt_of_lt_of_le (by decide : nI 1 < nI 2) h3) (fun q => by rw [Int32.lt_iff_toInt_lt] at q; rw [Int32.le_iff_toInt_le] at h2; omega)
  · rcases (show j = 0 ∨ j = 1 by omega) with rfl | rfl <;> decide
theorem isB_lt {v : Int32} (h : v < 0) : isB v = false := decide_eq_false (fun q => by
  rcases q with rfl | rfl
  · exact absurd h (by decide)
  · exact absurd h (by decide))
theorem isB_gt {v : Int32} (h : ¬ v ≤ nI 1) : isB v = false := decide_eq_false (fun q => by
  rcases q with rfl | rfl
  · exact h (by decide)
  · exact h (by decide))
theorem isO_in {v : Int32} (h1 : ¬ v < 0) (h2 : v ≤ nI 3) : isO v = true := decide_eq_true ⟨h1, fun q => by rw [Int32.lt_iff_toInt_lt] at q; rw [Int32.le_iff_toInt_le] at h2; omega⟩
theorem isO_lt {v : Int32} (h : v < 0) : isO v = false := decide_eq_false (fun q => q.1 h)
theorem isO_gt {v : Int32} (h : ¬ v ≤ nI 3) : isO v = false := decide_eq_false (fun q => q.2 (Int32.not_le.mp h))
/-- combine, as the reference asks op -/
theorem nI_0i {o : Nat} (ho : o < 4) (h : nI o = 0) : o = 0 := (nI_eq (by omega) (by omega)).mp (show nI o = nI 0 from h)
theorem cmg_m0 {o : Nat} {x y z : Bool} (ho : o < 4) (h : nI o = 0) (hz : z = (x && y)) : z = cmg o x y := by
  rw [nI_0i ho h, hz]; rfl
theorem cmg_m1 {o : Nat} {x y z : Bool} (_ : o < 4) (h : o = 1) (hz : z = (x || y)) : z = cmg o x y := by rw [h, hz]; rfl
theorem cmg_m2 {o : Nat} {x y z : Bool} (_ : o < 4) (h : o = 2) (hz : z = (x ^^ y)) : z = cmg o x y := by rw [h, hz]; rfl
theorem cmg_m3 {o : Nat} {x y z : Bool} (ho : o < 4) (h0 : ¬ nI o = 0) (h1 : ¬ o = 1) (h2 : ¬ o = 2) (hz : z = (x && !y)) : z = cmg o x y := by
  have h00 : ¬ o = 0 := fun q => h0 (by rw [q]; rfl)
  rw [show o = 3 by omega, hz]; rfl
end
section
set_option maxHeartbeats 4000000 in
set_option maxRecDepth 100000 in
/-- the reference: isRow -/
theorem c_isRow (l : Launch) (D : va_G) (sz : Nat) (k : Int32) : Met l yX2_isRow wsX2_isRow ({ frames := 0, cells := 0, slots := 0, locals := 0 } : Room) (va_Pc [.int k] (wp0 D [] [] (fun _ : Nat => False) sz)) (va_Qi (fun (r : Int32) (_ : Unit) => r = nI (isR k).toNat) (fun _ _ => True) (fun _ : Nat => False)) 0 0 (fun _ : Nat => False) := by
  refine Met.ofW (cc := cX2_isRow) (maxL := 1) (ret := (some .boolean)) (by decide) rfl ?_
  intro p e s m args below meth c s₁ B hml hv
  obtain ⟨rfl, hsz, hP, hK, htb⟩ := hv
  have hx := B.exec
  have hb := B.bytes
  have hr := B.returns
  have hts := atoms_spec (ws := wsX2_isRow) B.pre
  have hown : s.vm.findClass RX2 = some m.cls := findClass_of_methodNamed B.named
  have hlocks := B.notSynchronized
  subst hsz
  obtain ⟨⟨tt, hZ, hT⟩, hNst⟩ := id htb
  have hS : va_S (fun _ : Nat => False) s.heap s.heap [] := va_S.rf
  have hl := lv_entry ([.int k]) (n := 1) (Nat.le_of_ble_eq_true rfl)
  rw [lg_entry_eq]
  generalize (lg_sl ([.int k]) ++ List.replicate (1 - (lg_sl ([.int k])).length) Slot.unset).toArray = ls at hl ⊢
  have hl : lv_has ls 1 [(0, .int k)] := hl
  refine lv_iload_n hx hb dX2_isRow_0 rfl (lv_at hl 0 rfl) ?_
  refine lv_if_lt (tgt := 14) hx hb dX2_isRow_1 (by decide) (fun c_1 => ?_) (fun c_1 => ?_)
  · refine lv_iconst (v := nI 0) hx hb dX2_isRow_14 (by decide) ?_
    exact W.zret (v := (nI 0)) hx hb hr (by decide) (fun t ht hW => ⟨⟨(nI 0), (), rfl, (by rw [show isR k = false from decide_eq_false (fun q => by first | exact q.1 c_1 | exact q.2 c_7)]; rfl), trivial⟩, hS.F ht⟩) hS.2.2 dX2_isRow_15
  · refine lv_iload_n hx hb dX2_isRow_4 rfl (lv_at hl 0 rfl) ?_
    refine lv_bipush (v := nI 32) hx hb dX2_isRow_5 (by decide) ?_
    refine lv_icmp_ge (tgt := 14) hx hb dX2_isRow_7 (by decide) (fun c_7 => ?_) (fun c_7 => ?_)
    · refine lv_iconst (v := nI 0) hx hb dX2_isRow_14 (by decide) ?_
      exact W.zret (v := (nI 0)) hx hb hr (by decide) (fun t ht hW => ⟨⟨(nI 0), (), rfl, (by rw [show isR k = false from decide_eq_false (fun q => by first | exact q.1 c_1 | exact q.2 c_7)]; rfl), trivial⟩, hS.F ht⟩) hS.2.2 dX2_isRow_15
    · refine lv_iconst (v := nI 1) hx hb dX2_isRow_10 (by decide) ?_
      refine lv_goto (tgt := 15) hx hb dX2_isRow_11 (by decide) ?_
      exact W.zret (v := (nI 1)) hx hb hr (by decide) (fun t ht hW => ⟨⟨(nI 1), (), rfl, (by rw [show isR k = true from decide_eq_true ⟨c_1, c_7⟩]; rfl), trivial⟩, hS.F ht⟩) hS.2.2 dX2_isRow_15

set_option maxHeartbeats 4000000 in
set_option maxRecDepth 100000 in
/-- the reference: isVariable -/
theorem c_isVariableM (l : Launch) (D : va_G) (sz : Nat) (N : Nat) (bd : Nat → Nat) (th v : Int32) : Met l yX2_isVariable wsX2_isVariable ({ frames := 0, cells := 0, slots := 0, locals := 0 } : Room) (va_Pc [.ref (bd 0), .int v] (wp0 D [(bd 0, .inr (2, mdF N bd th))] [] (fun _ : Nat => False) sz)) (va_Qi (fun (r : Int32) (_ : Unit) => r = nI (isV N v).toNat) (fun _ _ => True) (fun _ : Nat => False)) 0 0 (fun _ : Nat => False) := by
  refine Met.ofW (cc := cX2_isVariable) (maxL := 2) (ret := (some .boolean)) (by decide) rfl ?_
  intro p e s m args below meth c s₁ B hml hv
  obtain ⟨rfl, hsz, hP, hK, htb⟩ := hv
  have hx := B.exec
  have hb := B.bytes
  have hr := B.returns
  have hts := atoms_spec (ws := wsX2_isVariable) B.pre
  have hown : s.vm.findClass RX2 = some m.cls := findClass_of_methodNamed B.named
  have hlocks := B.notSynchronized
  subst hsz
  obtain ⟨⟨tt, hZ, hT⟩, hNst⟩ := id htb
  have hS : va_S (fun _ : Nat => False) s.heap s.heap [] := va_S.rf
  have hl := lv_entry ([.ref (bd 0), .int v]) (n := 2) (Nat.le_of_ble_eq_true rfl)
  rw [lg_entry_eq]
  generalize (lg_sl ([.ref (bd 0), .int v]) ++ List.replicate (2 - (lg_sl ([.ref (bd 0), .int v])).length) Slot.unset).toArray = ls at hl ⊢
  have hl : lv_has ls 2 [(0, .ref (bd 0)), (1, .int v)] := hl
  refine lv_iload_n hx hb dX2_isVariable_0 rfl (lv_at hl 1 rfl) ?_
  refine lv_iconst (v := nI 1) hx hb dX2_isVariable_1 (by decide) ?_
  refine lv_icmp_lt (tgt := 17) hx hb dX2_isVariable_2 (by decide) (fun c_2 => ?_) (fun c_2 => ?_)
  · refine lv_iconst (v := nI 0) hx hb dX2_isVariable_17 (by decide) ?_
    exact W.zret (v := (nI 0)) hx hb hr (by decide) (fun t ht hW => ⟨⟨(nI 0), (), rfl, (by rw [show isV N v = false from decide_eq_false (fun q => by first | exact q.1 c_2 | exact q.2 c_10)]; rfl), trivial⟩, hS.F ht⟩) hS.2.2 dX2_isVariable_18
  · refine lv_iload_n hx hb dX2_isVariable_5 rfl (lv_at hl 1 rfl) ?_
    refine lv_aload_n hx hb dX2_isVariable_6 rfl (lv_at hl 0 rfl) ?_
    refine va_get (D := D) (ci := 2) (C := RX2) (T := TX2) (N := 6) hx hb hts (fun w h => List.mem_cons_of_mem _ (inBX2 w h)) hown hK hP 0 rfl rfl 1 (by decide) (hts (.fieldLink RX2 21 "ForkDeskModel" "n" "I") (by decide +kernel)) (fun _ h9 => h9) rfl dX2_isVariable_7 ?_
    refine lv_icmp_gt (tgt := 17) hx hb dX2_isVariable_10 (by decide) (fun c_10 => ?_) (fun c_10 => ?_)
    · refine lv_iconst (v := nI 0) hx hb dX2_isVariable_17 (by decide) ?_
      exact W.zret (v := (nI 0)) hx hb hr (by decide) (fun t ht hW => ⟨⟨(nI 0), (), rfl, (by rw [show isV N v = false from decide_eq_false (fun q => by first | exact q.1 c_2 | exact q.2 c_10)]; rfl), trivial⟩, hS.F ht⟩) hS.2.2 dX2_isVariable_18
    · refine lv_iconst (v := nI 1) hx hb dX2_isVariable_13 (by decide) ?_
      refine lv_goto (tgt := 18) hx hb dX2_isVariable_14 (by decide) ?_
      exact W.zret (v := (nI 1)) hx hb hr (by decide) (fun t ht hW => ⟨⟨(nI 1), (), rfl, (by rw [show isV N v = true from decide_eq_true ⟨c_2, c_10⟩]; rfl), trivial⟩, hS.F ht⟩) hS.2.2 dX2_isVariable_18

set_option maxHeartbeats 4000000 in
set_option maxRecDepth 100000 in
/-- the reference: has -/
theorem c_has (l : Launch) (D : va_G) (sz : Nat) (N : Nat) (bd : Nat → Nat) (cZ : ClassId) (th : Int32) (rb : Nat → Bool) (k p1 : Nat) (hi : 4096 * k + p1 < 131072) : Met l yX2_has wsX2_has ({ frames := 0, cells := 0, slots := 0, locals := 0 } : Room) (va_Pc [.ref (bd 0), .int (nI k), .int (nI p1)] (wp0 D [(bd 0, .inr (2, mdF N bd th)), (bd 1, .inl (cZ, 131072, .inl (bz rb)))] [(cZ, .boolean)] (fun _ : Nat => False) sz)) (va_Qi (fun (r : Int32) (_ : Unit) => r = nI (rb (4096 * k + p1)).toNat) (fun _ _ => True) (fun _ : Nat => False)) 0 0 (fun _ : Nat => False) := by
  refine Met.ofW (cc := cX2_has) (maxL := 3) (ret := (some .boolean)) (by decide) rfl ?_
  intro p e s m args below meth c s₁ B hml hv
  obtain ⟨rfl, hsz, hP, hK, htb⟩ := hv
  have hx := B.exec
  have hb := B.bytes
  have hr := B.returns
  have hts := atoms_spec (ws := wsX2_has) B.pre
  have hown : s.vm.findClass RX2 = some m.cls := findClass_of_methodNamed B.named
  have hlocks := B.notSynchronized
  subst hsz
  obtain ⟨⟨tt, hZ, hT⟩, hNst⟩ := id htb
  have hS : va_S (fun _ : Nat => False) s.heap s.heap [] := va_S.rf
  have hl := lv_entry ([.ref (bd 0), .int (nI k), .int (nI p1)]) (n := 3) (Nat.le_of_ble_eq_true rfl)
  rw [lg_entry_eq]
  generalize (lg_sl ([.ref (bd 0), .int (nI k), .int (nI p1)]) ++ List.replicate (3 - (lg_sl ([.ref (bd 0), .int (nI k), .int (nI p1)])).length) Slot.unset).toArray = ls at hl ⊢
  have hl : lv_has ls 3 [(0, .ref (bd 0)), (1, .int (nI k)), (2, .int (nI p1))] := hl
  refine lv_aload_n hx hb dX2_has_0 rfl (lv_at hl 0 rfl) ?_
  refine va_get (D := D) (ci := 2) (C := RX2) (T := TX2) (N := 6) hx hb hts (fun w h => List.mem_cons_of_mem _ (inBX2 w h)) hown hK hP 0 rfl rfl 3 (by decide) (hts (.fieldLink RX2 8 "ForkDeskModel" "rows" "[Z") (by decide +kernel)) (fun _ h9 => h9) rfl dX2_has_1 ?_
  refine lv_sipush (v := nI 4096) hx hb dX2_has_4 (by decide) ?_
  refine lv_iload_n hx hb dX2_has_7 rfl (lv_at hl 1 rfl) ?_
  refine xa_imul hx hb dX2_has_8 ?_
  refine lv_iload_n hx hb dX2_has_9 rfl (lv_at hl 2 rfl) ?_
  refine xa_iadd hx hb dX2_has_10 ?_
  refine xa_zald hx hb hK hP 1 0 rfl rfl (w := (4096 * k) + p1) (by omega) (by omega) dX2_has_11 ?_
  exact W.zret (v := (nI ((rb ((4096 * k) + p1)).toNat))) hx hb hr (nar_b _) (fun t ht hW => ⟨⟨(nI ((rb ((4096 * k) + p1)).toNat)), (), rfl, rfl, trivial⟩, hS.F ht⟩) hS.2.2 dX2_has_12

set_option maxHeartbeats 4000000 in
set_option maxRecDepth 100000 in
/-- the reference: value -/
theorem c_value (l : Launch) (D : va_G) (sz : Nat) (N : Nat) (hN : N ≤ 12) (bd : Nat → Nat) (th : Int32) (v p1 : Nat) (hv : v ≤ N) (hp : p1 < 2 ^ 31) : Met l yX2_value wsX2_value ({ frames := 0, cells := 0, slots := 0, locals := 0 } : Room) (va_Pc [.ref (bd 0), .int (nI v), .int (nI p1)] (wp0 D [(bd 0, .inr (2, mdF N bd th))] [] (fun _ : Nat => False) sz)) (va_Qi (fun (r : Int32) (_ : Unit) => r = nI (p1 / 2 ^ (N - v) % 2)) (fun _ _ => True) (fun _ : Nat => False)) 0 0 (fun _ : Nat => False) := by
  refine Met.ofW (cc := cX2_value) (maxL := 3) (ret := (some .int)) (by decide) rfl ?_
  intro p e s m args below meth c s₁ B hml hv
  obtain ⟨rfl, hsz, hP, hK, htb⟩ := hv
  have hx := B.exec
  have hb := B.bytes
  have hr := B.returns
  have hts := atoms_spec (ws := wsX2_value) B.pre
  have hown : s.vm.findClass RX2 = some m.cls := findClass_of_methodNamed B.named
  have hlocks := B.notSynchronized
  subst hsz
  obtain ⟨⟨tt, hZ, hT⟩, hNst⟩ := id htb
  have hS : va_S (fun _ : Nat => False) s.heap s.heap [] := va_S.rf
  have hl := lv_entry ([.ref (bd 0), .int (nI v), .int (nI p1)]) (n := 3) (Nat.le_of_ble_eq_true rfl)
  rw [lg_entry_eq]
  generalize (lg_sl ([.ref (bd 0), .int (nI v), .int (nI p1)]) ++ List.replicate (3 - (lg_sl ([.ref (bd 0), .int (nI v), .int (nI p1)])).length) Slot.unset).toArray = ls at hl ⊢
  have hl : lv_has ls 3 [(0, .ref (bd 0)), (1, .int (nI v)), (2, .int (nI p1))] := hl
  have hdiv : p1 / 2 ^ (N - v) ≤ p1 := Nat.div_le_self _ _
  refine lv_iload_n hx hb dX2_value_0 rfl (lv_at hl 2 rfl) ?_
  refine lv_aload_n hx hb dX2_value_1 rfl (lv_at hl 0 rfl) ?_
  refine va_get (D := D) (ci := 2) (C := RX2) (T := TX2) (N := 6) hx hb hts (fun w h => List.mem_cons_of_mem _ (inBX2 w h)) hown hK hP 0 rfl rfl 1 (by decide) (hts (.fieldLink RX2 21 "ForkDeskModel" "n" "I") (by decide +kernel)) (fun _ h9 => h9) rfl dX2_value_2 ?_
  refine lv_iload_n hx hb dX2_value_5 rfl (lv_at hl 1 rfl) ?_
  refine xa_isub hx hb (by omega) dX2_value_6 ?_
  refine xa_ishr hx hb (by omega) (by omega) dX2_value_7 ?_
  refine lv_iconst (v := nI 1) hx hb dX2_value_8 (by decide) ?_
  refine xa_iand1 hx hb (by omega) dX2_value_9 ?_
  exact W.iret (v := (nI ((p1 / 2 ^ (N - v)) % 2))) hx hb hr (fun t ht hW => ⟨⟨(nI ((p1 / 2 ^ (N - v)) % 2)), (), rfl, rfl, trivial⟩, hS.F ht⟩) hS.2.2 dX2_value_10

set_option maxHeartbeats 4000000 in
set_option maxRecDepth 100000 in
/-- the reference: keep -/
theorem c_keep (l : Launch) (D : va_G) (sz : Nat) (N : Nat) (hN1 : 1 ≤ N) (hN : N ≤ 12) (bd : Nat → Nat) (hao : aok4 (fun _ => True) bd) (cZ cI : ClassId) (th : Int32) (rb mb : Nat → Bool) (pt : Nat → Int32) (j : Nat) (hj : j < 32) : Met l yX2_keep wsX2_keep ({ frames := 0, cells := 0, slots := 0, locals := 0 } : Room) (va_Pc [.ref (bd 0), .int (nI j)] (wp0 D (mdW N bd cZ cI th rb mb pt) (mdT cZ cI) (fr4 bd sz) sz)) (va_Qi (fun (r : Int32) (u : Nat → Bool) => r = nI 1 ∧ u = kpt rb mb j (2 ^ N)) (fun (u : Nat → Bool) t => va_P D vwCl (mdW N bd cZ cI th u mb pt) t.heap) (fr4 bd sz)) 0 0 (fr4 bd sz) := by
  refine Met.ofW (cc := cX2_keep) (maxL := 3) (ret := (some .boolean)) (by decide) rfl ?_
  intro p e s m args below meth c s₁ B hml hv
  obtain ⟨rfl, hsz, hP, hK, htb⟩ := hv
  have hx := B.exec
  have hb := B.bytes
  have hr := B.returns
  have hts := atoms_spec (ws := wsX2_keep) B.pre
  have hown : s.vm.findClass RX2 = some m.cls := findClass_of_methodNamed B.named
  have hlocks := B.notSynchronized
  subst hsz
  generalize hAe : fr4 bd s.heap.size = A at htb ⊢
  have hA : ∀ q : Nat, s.heap.size ≤ q → A q := fun q h => by rw [← hAe]; exact fr4_new q h
  have hao : aok4 A bd := by rw [← hAe]; exact aok4_fr hao
  obtain ⟨⟨tt, hZ, hT⟩, hNst⟩ := id htb
  have hS : va_S A s.heap s.heap [] := va_S.rf
  have hl := lv_entry ([.ref (bd 0), .int (nI j)]) (n := 3) (Nat.le_of_ble_eq_true rfl)
  rw [lg_entry_eq]
  generalize (lg_sl ([.ref (bd 0), .int (nI j)]) ++ List.replicate (3 - (lg_sl ([.ref (bd 0), .int (nI j)])).length) Slot.unset).toArray = ls at hl ⊢
  have hl : lv_has ls 3 [(0, .ref (bd 0)), (1, .int (nI j))] := hl
  have hnp := np_le hN
  have hnp0 : 0 < 2 ^ N := Nat.two_pow_pos N
  refine lv_iconst (v := nI 0) hx hb dX2_keep_0 (by decide) ?_
  refine lv_istore_n (lv' := [(2, .int (nI 0)), (0, .ref (bd 0)), (1, .int (nI j))]) hx hb dX2_keep_1 rfl hl (by decide) rfl (fun ls hl => ?_)
  have lp_2 : ∀ (n9 w : Nat) (r2 : Nat → Bool) (H : Heap) (locs : List Loc) (ls : Array Slot), w ≤ 2 ^ N → 2 ^ N + 1 ≤ w + n9 → r2 = kpt rb mb j w → va_P D vwCl (mdW N bd cZ cI th r2 mb pt) H → va_S A s.heap H locs → lv_has ls 3 [(0, .ref (bd 0)), (1, .int (nI j)), (2, .int (nI w))] → W p l e (headSpec wsX2_keep ({ frames := 0, cells := 0, slots := 0, locals := 0 } : Room)).room s m ([.ref (bd 0), .int (nI j)] : List Value).toArray below meth c H locs 0 0 (MQ below (va_Qi (fun (r : Int32) (u : Nat → Bool) => r = nI 1 ∧ u = kpt rb mb j (2 ^ N)) (fun (u : Nat → Bool) t => va_P D vwCl (mdW N bd cZ cI th u mb pt) t.heap) A) ([.ref (bd 0), .int (nI j)] : List Value).toArray s 0 0 A) (F0 m 2 ls []) := by
    intro n9
    induction n9 with
    | zero => intro w r2 H locs ls h1 h2; exact absurd h2 (by omega)
    | succ n9 ih =>
      intro w r2 H locs ls hle_2 hmm_2 hI hP hS hl
      have ih_2 := @ih
      refine lv_iload_n hx hb dX2_keep_2 rfl (lv_at hl 2 rfl) ?_
      refine lv_aload_n hx hb dX2_keep_3 rfl (lv_at hl 0 rfl) ?_
      refine va_get (D := D) (ci := 2) (C := RX2) (T := TX2) (N := 6) hx hb hts (fun w h => List.mem_cons_of_mem _ (inBX2 w h)) hown hK hP 0 rfl rfl 2 (by decide) (hts (.fieldLink RX2 25 "ForkDeskModel" "points" "I") (by decide +kernel)) (fun _ h9 => h9) rfl dX2_keep_4 ?_
      refine xa_ge (tgt := 34) hx hb (by omega) (by omega) dX2_keep_7 (by decide) (fun c_7 => ?_) (fun c_7 => ?_)
      · refine lv_iconst (v := nI 1) hx hb dX2_keep_34 (by decide) ?_
        exact W.zret (v := (nI 1)) hx hb hr (by decide) (fun t ht hW => ⟨⟨(nI 1), r2, rfl, ⟨rfl, by rw [hI, show w = 2 ^ N by omega]⟩, (by show va_P _ _ _ _; rw [ht]; exact hP)⟩, hS.F ht⟩) hS.2.2 dX2_keep_35
      · refine lv_aload_n hx hb dX2_keep_10 rfl (lv_at hl 0 rfl) ?_
        refine va_get (D := D) (ci := 2) (C := RX2) (T := TX2) (N := 6) hx hb hts (fun w h => List.mem_cons_of_mem _ (inBX2 w h)) hown hK hP 0 rfl rfl 3 (by decide) (hts (.fieldLink RX2 8 "ForkDeskModel" "rows" "[Z") (by decide +kernel)) (fun _ h9 => h9) rfl dX2_keep_11 ?_
        refine lv_sipush (v := nI 4096) hx hb dX2_keep_14 (by decide) ?_
        refine lv_iload_n hx hb dX2_keep_17 rfl (lv_at hl 1 rfl) ?_
        refine xa_imul hx hb dX2_keep_18 ?_
        refine lv_iload_n hx hb dX2_keep_19 rfl (lv_at hl 2 rfl) ?_
        refine xa_iadd hx hb dX2_keep_20 ?_
        refine lv_aload_n hx hb dX2_keep_21 rfl (lv_at hl 0 rfl) ?_
        refine va_get (D := D) (ci := 2) (C := RX2) (T := TX2) (N := 6) hx hb hts (fun w h => List.mem_cons_of_mem _ (inBX2 w h)) hown hK hP 0 rfl rfl 4 (by decide) (hts (.fieldLink RX2 14 "ForkDeskModel" "made" "[Z") (by decide +kernel)) (fun _ h9 => h9) rfl dX2_keep_22 ?_
        refine lv_iload_n hx hb dX2_keep_25 rfl (lv_at hl 2 rfl) ?_
        refine xa_zald hx hb hK hP 2 0 rfl rfl (w := w) (by omega) (by omega) dX2_keep_26 ?_
        refine xa_zast hx hb hK hP (md_D hao) hS 1 0 rfl rfl (w := (4096 * j) + w) (b := (mb w)) (by omega) (by omega) dX2_keep_27 (fun H locs hP _ hS => ?_)
        have hP : va_P D vwCl (mdW N bd cZ cI th (va_up r2 ((4096 * j) + w) (mb w)) mb pt) H := hP
        refine xa_inc (k := 2) (lv' := [(2, .int (nI (w + 1))), (0, .ref (bd 0)), (1, .int (nI j))]) hx hb dX2_keep_28 hl rfl (by decide) rfl (fun ls hl => ?_)
        refine lv_goto (tgt := 2) hx hb dX2_keep_31 (by decide) ?_
        exact ih_2 (w + 1) (va_up r2 ((4096 * j) + w) (mb w)) _ _ _ (by omega) (by omega) (by subst hI; rfl) hP hS (lv_sub hl [1, 2, 0] rfl)
  exact lp_2 (2 ^ N + 1 - 0) 0 rb _ _ _ (by omega) (by omega) rfl hP hS (lv_sub hl [1, 2, 0] rfl)

set_option maxHeartbeats 4000000 in
set_option maxRecDepth 100000 in
/-- the reference: led -/
theorem c_led (l : Launch) (D : va_G) (sz : Nat) (N : Nat) (bd : Nat → Nat) (cZ : ClassId) (th : Int32) (rb : Nat → Bool) (x0 cn p1 : Nat) (h0 : x0 + cn ≤ 32) (hcn : cn ≤ 12) (hp : p1 < 4096) : Met l yX2_led wsX2_led ({ frames := 1, cells := 0, slots := 0, locals := 22 } : Room) (va_Pc [.ref (bd 0), .int (nI x0), .int (nI cn), .int (nI p1)] (wp0 D [(bd 0, .inr (2, mdF N bd th)), (bd 1, .inl (cZ, 131072, .inl (bz rb)))] [(cZ, .boolean)] (fun _ : Nat => False) sz)) (va_Qi (fun (r : Int32) (_ : Unit) => r = nI (tp (fun k p => rb (4096 * k + p)) x0 p1 cn)) (fun _ _ => True) (fun _ : Nat => False)) 0 0 (fun _ : Nat => False) := by
  refine Met.ofW (cc := cX2_led) (maxL := 6) (ret := (some .int)) (by decide) rfl ?_
  intro p e s m args below meth c s₁ B hml hv
  obtain ⟨rfl, hsz, hP, hK, htb⟩ := hv
  have hx := B.exec
  have hb := B.bytes
  have hr := B.returns
  have hts := atoms_spec (ws := wsX2_led) B.pre
  have hown : s.vm.findClass RX2 = some m.cls := findClass_of_methodNamed B.named
  have hlocks := B.notSynchronized
  subst hsz
  obtain ⟨⟨tt, hZ, hT⟩, hNst⟩ := id htb
  have hS : va_S (fun _ : Nat => False) s.heap s.heap [] := va_S.rf
  have hl := lv_entry ([.ref (bd 0), .int (nI x0), .int (nI cn), .int (nI p1)]) (n := 6) (Nat.le_of_ble_eq_true rfl)
  rw [lg_entry_eq]
  generalize (lg_sl ([.ref (bd 0), .int (nI x0), .int (nI cn), .int (nI p1)]) ++ List.replicate (6 - (lg_sl ([.ref (bd 0), .int (nI x0), .int (nI cn), .int (nI p1)])).length) Slot.unset).toArray = ls at hl ⊢
  have hl : lv_has ls 6 [(0, .ref (bd 0)), (1, .int (nI x0)), (2, .int (nI cn)), (3, .int (nI p1))] := hl
  refine lv_iconst (v := nI 0) hx hb dX2_led_0 (by decide) ?_
  refine lv_istore (lv' := [(4, .int (nI 0)), (0, .ref (bd 0)), (1, .int (nI x0)), (2, .int (nI cn)), (3, .int (nI p1))]) hx hb dX2_led_1 hl (by decide) rfl (fun ls hl => ?_)
  refine lv_iconst (v := nI 0) hx hb dX2_led_3 (by decide) ?_
  refine lv_istore (lv' := [(5, .int (nI 0)), (4, .int (nI 0)), (0, .ref (bd 0)), (1, .int (nI x0)), (2, .int (nI cn)), (3, .int (nI p1))]) hx hb dX2_led_4 hl (by decide) rfl (fun ls hl => ?_)
  have lp_6 : ∀ (n9 v1 : Nat) (to : Nat) (H : Heap) (locs : List Loc) (ls : Array Slot), v1 ≤ cn → cn + 1 ≤ v1 + n9 → to = tp (fun k p => rb (4096 * k + p)) x0 p1 v1 → va_P D vwCl ([(bd 0, .inr (2, mdF N bd th)), (bd 1, .inl (cZ, 131072, .inl (bz rb)))]) H → va_S (fun _ : Nat => False) s.heap H locs → lv_has ls 6 [(0, .ref (bd 0)), (1, .int (nI x0)), (2, .int (nI cn)), (3, .int (nI p1)), (4, .int (nI to)), (5, .int (nI v1))] → W p l e (headSpec wsX2_led ({ frames := 1, cells := 0, slots := 0, locals := 22 } : Room)).room s m ([.ref (bd 0), .int (nI x0), .int (nI cn), .int (nI p1)] : List Value).toArray below meth c H locs 0 0 (MQ below (va_Qi (fun (r : Int32) (_ : Unit) => r = nI (tp (fun k p => rb (4096 * k + p)) x0 p1 cn)) (fun _ _ => True) (fun _ : Nat => False)) ([.ref (bd 0), .int (nI x0), .int (nI cn), .int (nI p1)] : List Value).toArray s 0 0 (fun _ : Nat => False)) (F0 m 6 ls []) := by
    intro n9
    induction n9 with
    | zero => intro v1 to H locs ls h1 h2; exact absurd h2 (by omega)
    | succ n9 ih =>
      intro v1 to H locs ls hle_6 hmm_6 hI hP hS hl
      have ht30 : to < 2 ^ 30 := by rw [hI]; exact tp_30 _ _ _ (by omega)
      have ih_6 := @ih
      refine lv_iload hx hb dX2_led_6 (lv_at hl 5 rfl) ?_
      refine lv_iload_n hx hb dX2_led_8 rfl (lv_at hl 2 rfl) ?_
      refine xa_ge (tgt := 42) hx hb (by omega) (by omega) dX2_led_9 (by decide) (fun c_9 => ?_) (fun c_9 => ?_)
      · refine lv_iload hx hb dX2_led_42 (lv_at hl 4 rfl) ?_
        exact W.iret (v := (nI to)) hx hb hr (fun t ht hW => ⟨⟨(nI to), (), rfl, (by rw [hI, show v1 = cn by omega]), trivial⟩, hS.F ht⟩) hS.2.2 dX2_led_44
      · refine lv_iload hx hb dX2_led_12 (lv_at hl 4 rfl) ?_
        refine lv_iconst (v := nI 1) hx hb dX2_led_14 (by decide) ?_
        refine lv_ishl hx hb dX2_led_15 ?_
        refine lv_aload_n hx hb dX2_led_16 rfl (lv_at hl 0 rfl) ?_
        refine lv_iload_n hx hb dX2_led_17 rfl (lv_at hl 1 rfl) ?_
        refine lv_iload hx hb dX2_led_18 (lv_at hl 5 rfl) ?_
        refine xa_iadd hx hb dX2_led_20 ?_
        refine lv_iload_n hx hb dX2_led_21 rfl (lv_at hl 3 rfl) ?_
        refine va_calli (va_runV (As := [.int (nI (x0 + v1)), .int (nI p1)]) (rest := [.int ((nI to) <<< ((nI 1) &&& 31))]) ⟨hx, hb, hml, hown, hts⟩ (c_has l D _ N bd cZ th rb (x0 + v1) p1 (by omega)) (cwV 2 hts (goodIn_mono gX2_has) rfl rfl rfl (by decide +kernel) ⟨Nat.le_of_ble_eq_true rfl, Nat.le_of_ble_eq_true rfl⟩) ⟨wp0_blind, va_recv hK hP (ci := 2) (q0 := 0) rfl rfl, fun U hU hW => wp0_of (hP.sub [0, 1] rfl) (hK.sub [0] rfl) htb hS no_in hU hW⟩ rfl rfl hl.1 rfl (lv_room (Nat.le_of_ble_eq_true rfl)) dX2_led_22 ⟨Nat.zero_le _, Nat.zero_le _⟩) hS (fun q _ h => h.elim) (fun q h => h.elim) (fun r_22 u_22 t H1 locs ht hvm hw hB hz1 hk1 hS => ?_)
        have hP := xa_same hP hk1
        clear hz1 hk1 hB ht
        generalize H1 = H at hP hS ⊢
        subst hw
        refine xa_if0 (tgt := 32) hx hb dX2_led_25 (by decide) (fun c_25 => ?_) (fun c_25 => ?_)
        · refine lv_iconst (v := nI 0) hx hb dX2_led_32 (by decide) ?_
          refine lv_ior hx hb dX2_led_33 ?_
          rw [show (nI to) <<< ((nI 1) &&& 31) ||| (nI 0) = nI (2 * to + 0) from tp_w (b := false) ht30]
          refine lv_istore (lv' := [(4, .int (nI (2 * to + 0))), (0, .ref (bd 0)), (1, .int (nI x0)), (2, .int (nI cn)), (3, .int (nI p1)), (5, .int (nI v1))]) hx hb dX2_led_34 hl (by decide) rfl (fun ls hl => ?_)
          refine xa_inc (k := 5) (lv' := [(5, .int (nI (v1 + 1))), (4, .int (nI (2 * to + 0))), (0, .ref (bd 0)), (1, .int (nI x0)), (2, .int (nI cn)), (3, .int (nI p1))]) hx hb dX2_led_36 hl rfl (by decide) rfl (fun ls hl => ?_)
          refine lv_goto (tgt := 6) hx hb dX2_led_39 (by decide) ?_
          exact ih_6 (v1 + 1) (2 * to + 0) _ _ _ (by omega) (by omega) (by rw [hI]; show _ = 2 * tp (fun k p => rb (4096 * k + p)) x0 p1 v1 + (rb (4096 * (x0 + v1) + p1)).toNat; rw [c_25]; rfl) hP hS (lv_sub hl [2, 3, 4, 5, 1, 0] rfl)
        · refine lv_iconst (v := nI 1) hx hb dX2_led_28 (by decide) ?_
          refine lv_goto (tgt := 33) hx hb dX2_led_29 (by decide) ?_
          refine lv_ior hx hb dX2_led_33 ?_
          rw [show (nI to) <<< ((nI 1) &&& 31) ||| (nI 1) = nI (2 * to + 1) from tp_w (b := true) ht30]
          refine lv_istore (lv' := [(4, .int (nI (2 * to + 1))), (0, .ref (bd 0)), (1, .int (nI x0)), (2, .int (nI cn)), (3, .int (nI p1)), (5, .int (nI v1))]) hx hb dX2_led_34 hl (by decide) rfl (fun ls hl => ?_)
          refine xa_inc (k := 5) (lv' := [(5, .int (nI (v1 + 1))), (4, .int (nI (2 * to + 1))), (0, .ref (bd 0)), (1, .int (nI x0)), (2, .int (nI cn)), (3, .int (nI p1))]) hx hb dX2_led_36 hl rfl (by decide) rfl (fun ls hl => ?_)
          refine lv_goto (tgt := 6) hx hb dX2_led_39 (by decide) ?_
          exact ih_6 (v1 + 1) (2 * to + 1) _ _ _ (by omega) (by omega) (by rw [hI]; show _ = 2 * tp (fun k p => rb (4096 * k + p)) x0 p1 v1 + (rb (4096 * (x0 + v1) + p1)).toNat; rw [c_25]; rfl) hP hS (lv_sub hl [2, 3, 4, 5, 1, 0] rfl)
  exact lp_6 (cn + 1 - 0) 0 0 _ _ _ (by omega) (by omega) rfl hP hS (lv_sub hl [2, 3, 4, 5, 1, 0] rfl)

set_option maxHeartbeats 4000000 in
set_option maxRecDepth 100000 in
/-- the reference: alike -/
theorem c_alike (l : Launch) (D : va_G) (sz : Nat) (N : Nat) (bd : Nat → Nat) (cZ : ClassId) (th : Int32) (rb : Nat → Bool) (k a1 a2 zz : Nat) (h1 : 4096 * k + a1 + zz ≤ 131072) (h2 : 4096 * k + a2 + zz ≤ 131072) (hz9 : zz ≤ 4096) : Met l yX2_alike wsX2_alike ({ frames := 1, cells := 0, slots := 0, locals := 22 } : Room) (va_Pc [.ref (bd 0), .int (nI k), .int (nI a1), .int (nI a2), .int (nI zz)] (wp0 D [(bd 0, .inr (2, mdF N bd th)), (bd 1, .inl (cZ, 131072, .inl (bz rb)))] [(cZ, .boolean)] (fun _ : Nat => False) sz)) (va_Qi (fun (r : Int32) (_ : Unit) => r = nI (alk rb (4096 * k + a1) (4096 * k + a2) zz).toNat) (fun _ _ => True) (fun _ : Nat => False)) 0 0 (fun _ : Nat => False) := by
  refine Met.ofW (cc := cX2_alike) (maxL := 6) (ret := (some .boolean)) (by decide) rfl ?_
  intro p e s m args below meth c s₁ B hml hv
  obtain ⟨rfl, hsz, hP, hK, htb⟩ := hv
  have hx := B.exec
  have hb := B.bytes
  have hr := B.returns
  have hts := atoms_spec (ws := wsX2_alike) B.pre
  have hown : s.vm.findClass RX2 = some m.cls := findClass_of_methodNamed B.named
  have hlocks := B.notSynchronized
  subst hsz
  obtain ⟨⟨tt, hZ, hT⟩, hNst⟩ := id htb
  have hS : va_S (fun _ : Nat => False) s.heap s.heap [] := va_S.rf
  have hl := lv_entry ([.ref (bd 0), .int (nI k), .int (nI a1), .int (nI a2), .int (nI zz)]) (n := 6) (Nat.le_of_ble_eq_true rfl)
  rw [lg_entry_eq]
  generalize (lg_sl ([.ref (bd 0), .int (nI k), .int (nI a1), .int (nI a2), .int (nI zz)]) ++ List.replicate (6 - (lg_sl ([.ref (bd 0), .int (nI k), .int (nI a1), .int (nI a2), .int (nI zz)])).length) Slot.unset).toArray = ls at hl ⊢
  have hl : lv_has ls 6 [(0, .ref (bd 0)), (1, .int (nI k)), (2, .int (nI a1)), (3, .int (nI a2)), (4, .int (nI zz))] := hl
  refine lv_iconst (v := nI 0) hx hb dX2_alike_0 (by decide) ?_
  refine lv_istore (lv' := [(5, .int (nI 0)), (0, .ref (bd 0)), (1, .int (nI k)), (2, .int (nI a1)), (3, .int (nI a2)), (4, .int (nI zz))]) hx hb dX2_alike_1 hl (by decide) rfl (fun ls hl => ?_)
  have lp_3 : ∀ (n9 x : Nat) (H : Heap) (locs : List Loc) (ls : Array Slot), x ≤ zz → zz + 1 ≤ x + n9 → (∀ z, z < x → rb (4096 * k + (a1 + z)) = rb (4096 * k + (a2 + z))) → va_P D vwCl ([(bd 0, .inr (2, mdF N bd th)), (bd 1, .inl (cZ, 131072, .inl (bz rb)))]) H → va_S (fun _ : Nat => False) s.heap H locs → lv_has ls 6 [(0, .ref (bd 0)), (1, .int (nI k)), (2, .int (nI a1)), (3, .int (nI a2)), (4, .int (nI zz)), (5, .int (nI x))] → W p l e (headSpec wsX2_alike ({ frames := 1, cells := 0, slots := 0, locals := 22 } : Room)).room s m ([.ref (bd 0), .int (nI k), .int (nI a1), .int (nI a2), .int (nI zz)] : List Value).toArray below meth c H locs 0 0 (MQ below (va_Qi (fun (r : Int32) (_ : Unit) => r = nI (alk rb (4096 * k + a1) (4096 * k + a2) zz).toNat) (fun _ _ => True) (fun _ : Nat => False)) ([.ref (bd 0), .int (nI k), .int (nI a1), .int (nI a2), .int (nI zz)] : List Value).toArray s 0 0 (fun _ : Nat => False)) (F0 m 3 ls []) := by
    intro n9
    induction n9 with
    | zero => intro x  H locs ls h1 h2; exact absurd h2 (by omega)
    | succ n9 ih =>
      intro x  H locs ls hle_3 hmm_3 hI hP hS hl
      have ih_3 := @ih
      refine lv_iload hx hb dX2_alike_3 (lv_at hl 5 rfl) ?_
      refine lv_iload hx hb dX2_alike_5 (lv_at hl 4 rfl) ?_
      refine xa_ge (tgt := 39) hx hb (by omega) (by omega) dX2_alike_7 (by decide) (fun c_7 => ?_) (fun c_7 => ?_)
      · refine lv_iconst (v := nI 1) hx hb dX2_alike_39 (by decide) ?_
        exact W.zret (v := (nI 1)) hx hb hr (by decide) (fun t ht hW => ⟨⟨(nI 1), (), rfl, (by rw [alk_t (fun z hz => by rw [Nat.add_assoc, Nat.add_assoc]; exact hI z (by omega))]; rfl), trivial⟩, hS.F ht⟩) hS.2.2 dX2_alike_40
      · refine lv_aload_n hx hb dX2_alike_10 rfl (lv_at hl 0 rfl) ?_
        refine lv_iload_n hx hb dX2_alike_11 rfl (lv_at hl 1 rfl) ?_
        refine lv_iload_n hx hb dX2_alike_12 rfl (lv_at hl 2 rfl) ?_
        refine lv_iload hx hb dX2_alike_13 (lv_at hl 5 rfl) ?_
        refine xa_iadd hx hb dX2_alike_15 ?_
        refine va_calli (va_runV (As := [.int (nI k), .int (nI (a1 + x))]) (rest := []) ⟨hx, hb, hml, hown, hts⟩ (c_has l D _ N bd cZ th rb k (a1 + x) (by omega)) (cwV 2 hts (goodIn_mono gX2_has) rfl rfl rfl (by decide +kernel) ⟨Nat.le_of_ble_eq_true rfl, Nat.le_of_ble_eq_true rfl⟩) ⟨wp0_blind, va_recv hK hP (ci := 2) (q0 := 0) rfl rfl, fun U hU hW => wp0_of (hP.sub [0, 1] rfl) (hK.sub [0] rfl) htb hS no_in hU hW⟩ rfl rfl hl.1 rfl (lv_room (Nat.le_of_ble_eq_true rfl)) dX2_alike_16 ⟨Nat.zero_le _, Nat.zero_le _⟩) hS (fun q _ h => h.elim) (fun q h => h.elim) (fun r_16 u_16 t H1 locs ht hvm hw hB hz1 hk1 hS => ?_)
        have hP := xa_same hP hk1
        clear hz1 hk1 hB ht
        generalize H1 = H at hP hS ⊢
        subst hw
        refine lv_aload_n hx hb dX2_alike_19 rfl (lv_at hl 0 rfl) ?_
        refine lv_iload_n hx hb dX2_alike_20 rfl (lv_at hl 1 rfl) ?_
        refine lv_iload_n hx hb dX2_alike_21 rfl (lv_at hl 3 rfl) ?_
        refine lv_iload hx hb dX2_alike_22 (lv_at hl 5 rfl) ?_
        refine xa_iadd hx hb dX2_alike_24 ?_
        refine va_calli (va_runV (As := [.int (nI k), .int (nI (a2 + x))]) (rest := [.int (nI ((rb (4096 * k + (a1 + x))).toNat))]) ⟨hx, hb, hml, hown, hts⟩ (c_has l D _ N bd cZ th rb k (a2 + x) (by omega)) (cwV 2 hts (goodIn_mono gX2_has) rfl rfl rfl (by decide +kernel) ⟨Nat.le_of_ble_eq_true rfl, Nat.le_of_ble_eq_true rfl⟩) ⟨wp0_blind, va_recv hK hP (ci := 2) (q0 := 0) rfl rfl, fun U hU hW => wp0_of (hP.sub [0, 1] rfl) (hK.sub [0] rfl) htb hS no_in hU hW⟩ rfl rfl hl.1 rfl (lv_room (Nat.le_of_ble_eq_true rfl)) dX2_alike_25 ⟨Nat.zero_le _, Nat.zero_le _⟩) hS (fun q _ h => h.elim) (fun q h => h.elim) (fun r_25 u_25 t H1 locs ht hvm hw hB hz1 hk1 hS => ?_)
        have hP := xa_same hP hk1
        clear hz1 hk1 hB ht
        generalize H1 = H at hP hS ⊢
        subst hw
        refine xb_eq (tgt := 33) hx hb dX2_alike_28 (by decide) (fun c_28 => ?_) (fun c_28 => ?_)
        · refine xa_inc (k := 5) (lv' := [(5, .int (nI (x + 1))), (0, .ref (bd 0)), (1, .int (nI k)), (2, .int (nI a1)), (3, .int (nI a2)), (4, .int (nI zz))]) hx hb dX2_alike_33 hl rfl (by decide) rfl (fun ls hl => ?_)
          refine lv_goto (tgt := 3) hx hb dX2_alike_36 (by decide) ?_
          exact ih_3 (x + 1)  _ _ _ (by omega) (by omega) (fun z hz => by by_cases hzx : z = x; (subst hzx; exact c_28); (exact hI z (by omega))) hP hS (lv_sub hl [1, 2, 3, 4, 5, 0] rfl)
        · refine lv_iconst (v := nI 0) hx hb dX2_alike_31 (by decide) ?_
          exact W.zret (v := (nI 0)) hx hb hr (by decide) (fun t ht hW => ⟨⟨(nI 0), (), rfl, (by rw [alk_f (x := x) (by omega) (by rw [Nat.add_assoc, Nat.add_assoc]; exact c_28)]; rfl), trivial⟩, hS.F ht⟩) hS.2.2 dX2_alike_32
  exact lp_3 (zz + 1 - 0) 0  _ _ _ (by omega) (by omega) (fun z hz => absurd hz (by omega)) hP hS (lv_sub hl [1, 2, 3, 4, 5, 0] rfl)
end
section
set_option maxHeartbeats 4000000 in
set_option maxRecDepth 100000 in
/-- the reference: constant -/
theorem c_mConstant (l : Launch) (D : va_G) (sz : Nat) (N : Nat) (hN1 : 1 ≤ N) (hN : N ≤ 12) (bd : Nat → Nat) (hao : aok4 (fun _ => True) bd) (cZ cI : ClassId) (th : Int32) (rb mb : Nat → Bool) (pt : Nat → Int32) (g : Nat → Nat → Bool) (hg : okM N rb g) (k v : Int32) : Met l yX2_constant wsX2_constant ({ frames := 1, cells := 0, slots := 0, locals := 22 } : Room) (va_Pc [.ref (bd 0), .int k, .int v] (wp0 D (mdW N bd cZ cI th rb mb pt) (mdT cZ cI) (fr4 bd sz) sz)) (va_Qi (fun (r : Int32) (u : (Nat → Bool) × (Nat → Bool) × (Nat → Int32)) => r = nI (spC N g k v).isSome.toNat ∧ okM N u.1 ((spC N g k v).getD g)) (fun (u : (Nat → Bool) × (Nat → Bool) × (Nat → Int32)) t => va_P D vwCl (mdW N bd cZ cI (nI 0) u.1 u.2.1 u.2.2) t.heap) (fr4 bd sz)) 0 0 (fr4 bd sz) := by
  refine Met.ofW (cc := cX2_constant) (maxL := 4) (ret := (some .boolean)) (by decide) rfl ?_
  intro p e s m args below meth c s₁ B hml hv
  obtain ⟨rfl, hsz, hP, hK, htb⟩ := hv
  have hx := B.exec
  have hb := B.bytes
  have hr := B.returns
  have hts := atoms_spec (ws := wsX2_constant) B.pre
  have hown : s.vm.findClass RX2 = some m.cls := findClass_of_methodNamed B.named
  have hlocks := B.notSynchronized
  subst hsz
  generalize hAe : fr4 bd s.heap.size = A at htb ⊢
  have hA : ∀ q : Nat, s.heap.size ≤ q → A q := fun q h => by rw [← hAe]; exact fr4_new q h
  have hao : aok4 A bd := by rw [← hAe]; exact aok4_fr hao
  obtain ⟨⟨tt, hZ, hT⟩, hNst⟩ := id htb
  have hS : va_S A s.heap s.heap [] := va_S.rf
  have hl := lv_entry ([.ref (bd 0), .int k, .int v]) (n := 4) (Nat.le_of_ble_eq_true rfl)
  rw [lg_entry_eq]
  generalize (lg_sl ([.ref (bd 0), .int k, .int v]) ++ List.replicate (4 - (lg_sl ([.ref (bd 0), .int k, .int v])).length) Slot.unset).toArray = ls at hl ⊢
  have hl : lv_has ls 4 [(0, .ref (bd 0)), (1, .int k), (2, .int v)] := hl
  have hnp := np_le hN
  have hnp0 : 0 < 2 ^ N := Nat.two_pow_pos N
  refine lv_aload_n hx hb dX2_constant_0 rfl (lv_at hl 0 rfl) ?_
  refine lv_iconst (v := nI 0) hx hb dX2_constant_1 (by decide) ?_
  refine va_put (D := D) (ci := 2) (v := .int (nI 0)) (ty := .int) (C := RX2) (T := TX2) (N := 6) hx hb hts (fun w h => List.mem_cons_of_mem _ (inBX2 w h)) tyX2 tyX2_ok nmX2 hown hK hP (md_D hao) hS 0 rfl rfl 0 (by decide) (hts (.fieldLink RX2 28 "ForkDeskModel" "thrown" "I") (by decide +kernel)) (fun _ h9 => h9) rfl (by decide +kernel) rfl rfl (Nat.le_of_ble_eq_true rfl) dX2_constant_2 (fun H locs hP _ hS => ?_)
  have hP : va_P D vwCl (mdW N bd cZ cI (nI 0) rb mb pt) H := hP
  refine lv_iload_n hx hb dX2_constant_5 rfl (lv_at hl 1 rfl) ?_
  refine va_calli (va_runS (As := [.int k]) (rest := []) ⟨hx, hb, hml, hown, hts⟩ (c_isRow l D _ k) (va_cwS 1 hts (goodIn_mono gX2_isRow) rfl rfl rfl (by decide +kernel) ⟨Nat.le_of_ble_eq_true rfl, Nat.le_of_ble_eq_true rfl⟩) ⟨wp0_blind, fun U hU hW => wp0_of (va_P.sub hP [] rfl) (hK.sub [] rfl) htb hS no_in hU hW⟩ rfl rfl hl.1 rfl (lv_room (Nat.le_of_ble_eq_true rfl)) dX2_constant_6 ⟨Nat.zero_le _, Nat.zero_le _⟩) hS (fun q _ h => h.elim) (fun q h => h.elim) (fun r_6 u_6 t H1 locs ht hvm hw hB hz1 hk1 hS => ?_)
  have hP := xa_same hP hk1
  clear hz1 hk1 hB ht
  generalize H1 = H at hP hS ⊢
  subst hw
  refine xa_if0 (tgt := 21) hx hb dX2_constant_9 (by decide) (fun c_9 => ?_) (fun c_9 => ?_)
  · refine lv_iconst (v := nI 0) hx hb dX2_constant_21 (by decide) ?_
    exact W.zret (v := (nI 0)) hx hb hr (by decide) (fun t ht hW => ⟨⟨(nI 0), (rb, mb, pt), rfl, ⟨by rw [(show spC N g k v = none from if_neg (by simp [c_9]))]; rfl, by rw [(show spC N g k v = none from if_neg (by simp [c_9]))]; exact hg⟩, (by show va_P _ _ _ _; rw [ht]; exact hP)⟩, hS.F ht⟩) hS.2.2 dX2_constant_22
  · refine lv_iload_n hx hb dX2_constant_12 rfl (lv_at hl 2 rfl) ?_
    refine lv_if_lt (tgt := 21) hx hb dX2_constant_13 (by decide) (fun c_13 => ?_) (fun c_13 => ?_)
    · refine lv_iconst (v := nI 0) hx hb dX2_constant_21 (by decide) ?_
      exact W.zret (v := (nI 0)) hx hb hr (by decide) (fun t ht hW => ⟨⟨(nI 0), (rb, mb, pt), rfl, ⟨by rw [(show spC N g k v = none from if_neg (by simp [c_9, isB_lt c_13]))]; rfl, by rw [(show spC N g k v = none from if_neg (by simp [c_9, isB_lt c_13]))]; exact hg⟩, (by show va_P _ _ _ _; rw [ht]; exact hP)⟩, hS.F ht⟩) hS.2.2 dX2_constant_22
    · refine lv_iload_n hx hb dX2_constant_16 rfl (lv_at hl 2 rfl) ?_
      refine lv_iconst (v := nI 1) hx hb dX2_constant_17 (by decide) ?_
      refine lv_icmp_le (tgt := 23) hx hb dX2_constant_18 (by decide) (fun c_18 => ?_) (fun c_18 => ?_)
      · have hBt : isB v = true := isB_in c_13 c_18
        obtain ⟨j, hj, ej⟩ := isR_t c_9
        rw [ej] at hl
        obtain ⟨bv, ebv⟩ := isB_t hBt
        rw [ebv] at hl
        have hbv := tn_le bv
        have hsp : spC N g k v = some (va_up g j (fun p => bv && decide (p < 2 ^ N))) := by unfold spC; rw [if_pos (by rw [c_9, hBt]; rfl), ej, ebv, ix_nI (by omega), tn_d]
        refine lv_iconst (v := nI 0) hx hb dX2_constant_23 (by decide) ?_
        refine lv_istore_n (lv' := [(3, .int (nI 0)), (0, .ref (bd 0)), (1, .int (nI j)), (2, .int (nI bv.toNat))]) hx hb dX2_constant_24 rfl hl (by decide) rfl (fun ls hl => ?_)
        have lp_25 : ∀ (n9 w : Nat) (m2 : Nat → Bool) (H : Heap) (locs : List Loc) (ls : Array Slot), w ≤ 2 ^ N → 2 ^ N + 1 ≤ w + n9 → (∀ z, z < w → m2 z = bv) → va_P D vwCl (mdW N bd cZ cI (nI 0) rb m2 pt) H → va_S A s.heap H locs → lv_has ls 4 [(0, .ref (bd 0)), (1, .int (nI j)), (2, .int (nI bv.toNat)), (3, .int (nI w))] → W p l e (headSpec wsX2_constant ({ frames := 1, cells := 0, slots := 0, locals := 22 } : Room)).room s m ([.ref (bd 0), .int k, .int v] : List Value).toArray below meth c H locs 0 0 (MQ below (va_Qi (fun (r : Int32) (u : (Nat → Bool) × (Nat → Bool) × (Nat → Int32)) => r = nI (spC N g k v).isSome.toNat ∧ okM N u.1 ((spC N g k v).getD g)) (fun (u : (Nat → Bool) × (Nat → Bool) × (Nat → Int32)) t => va_P D vwCl (mdW N bd cZ cI (nI 0) u.1 u.2.1 u.2.2) t.heap) A) ([.ref (bd 0), .int k, .int v] : List Value).toArray s 0 0 A) (F0 m 25 ls []) := by
          intro n9
          induction n9 with
          | zero => intro w m2 H locs ls h1 h2; exact absurd h2 (by omega)
          | succ n9 ih =>
            intro w m2 H locs ls hle_25 hmm_25 hI hP hS hl
            have ih_25 := @ih
            refine lv_iload_n hx hb dX2_constant_25 rfl (lv_at hl 3 rfl) ?_
            refine lv_aload_n hx hb dX2_constant_26 rfl (lv_at hl 0 rfl) ?_
            refine va_get (D := D) (ci := 2) (C := RX2) (T := TX2) (N := 6) hx hb hts (fun w h => List.mem_cons_of_mem _ (inBX2 w h)) hown hK hP 0 rfl rfl 2 (by decide) (hts (.fieldLink RX2 25 "ForkDeskModel" "points" "I") (by decide +kernel)) (fun _ h9 => h9) rfl dX2_constant_27 ?_
            refine xa_ge (tgt := 55) hx hb (by omega) (by omega) dX2_constant_30 (by decide) (fun c_30 => ?_) (fun c_30 => ?_)
            · refine lv_aload_n hx hb dX2_constant_55 rfl (lv_at hl 0 rfl) ?_
              refine lv_iload_n hx hb dX2_constant_56 rfl (lv_at hl 1 rfl) ?_
              refine va_calli (va_runV (As := [.int (nI j)]) (rest := []) ⟨hx, hb, hml, hown, hts⟩ (c_keep l D _ N hN1 hN bd (aok4_true hao) cZ cI (nI 0) rb m2 pt j (by omega)) (cwV 1 hts (goodIn_mono gX2_keep) rfl rfl rfl (by decide +kernel) ⟨Nat.le_of_ble_eq_true rfl, Nat.le_of_ble_eq_true rfl⟩) ⟨wp0_blind, va_recv hK hP (ci := 2) (q0 := 0) rfl rfl, fun U hU hW => wp0_of hP hK htb hS (fr4_in hao hS hA) hU hW⟩ rfl rfl hl.1 rfl (lv_room (Nat.le_of_ble_eq_true rfl)) dX2_constant_57 ⟨Nat.zero_le _, Nat.zero_le _⟩) hS (fun q _ h => (fr4_in hao hS hA) q h) ((fr4_in hao hS hA)) (fun r_57 u_57 t H1 locs ht hvm hw hB hz1 hk1 hS => ?_)
              rw [ht] at hB
              obtain ⟨hw1, hw2⟩ := hw
              subst hw1
              subst hw2
              have hP := hB
              clear hz1 hk1 hB ht
              generalize H1 = H at hP hS ⊢
              exact W.zret (v := (nI 1)) hx hb hr (by decide) (fun t ht hW => ⟨⟨(nI 1), (kpt rb m2 j (2 ^ N), m2, pt), rfl, ⟨by rw [hsp]; rfl, by rw [hsp]; exact (okM_up hN hg hj (fun z hz => by rw [hI z (by omega), decide_eq_true hz, Bool.and_true]))⟩, (by show va_P _ _ _ _; rw [ht]; exact hP)⟩, hS.F ht⟩) hS.2.2 dX2_constant_60
            · refine lv_aload_n hx hb dX2_constant_33 rfl (lv_at hl 0 rfl) ?_
              refine va_get (D := D) (ci := 2) (C := RX2) (T := TX2) (N := 6) hx hb hts (fun w h => List.mem_cons_of_mem _ (inBX2 w h)) hown hK hP 0 rfl rfl 4 (by decide) (hts (.fieldLink RX2 14 "ForkDeskModel" "made" "[Z") (by decide +kernel)) (fun _ h9 => h9) rfl dX2_constant_34 ?_
              refine lv_iload_n hx hb dX2_constant_37 rfl (lv_at hl 3 rfl) ?_
              refine lv_iload_n hx hb dX2_constant_38 rfl (lv_at hl 2 rfl) ?_
              refine lv_iconst (v := nI 1) hx hb dX2_constant_39 (by decide) ?_
              refine xa_ne (tgt := 47) hx hb (by omega) (by omega) dX2_constant_40 (by decide) (fun c_40 => ?_) (fun c_40 => ?_)
              · refine lv_iconst (v := nI 0) hx hb dX2_constant_47 (by decide) ?_
                refine xa_zast hx hb hK hP (md_D hao) hS 2 0 rfl rfl (w := w) (b := false) (by omega) (by omega) dX2_constant_48 (fun H locs hP _ hS => ?_)
                have hP : va_P D vwCl (mdW N bd cZ cI (nI 0) rb (va_up m2 w false) pt) H := hP
                refine xa_inc (k := 3) (lv' := [(3, .int (nI (w + 1))), (0, .ref (bd 0)), (1, .int (nI j)), (2, .int (nI bv.toNat))]) hx hb dX2_constant_49 hl rfl (by decide) rfl (fun ls hl => ?_)
                refine lv_goto (tgt := 25) hx hb dX2_constant_52 (by decide) ?_
                exact ih_25 (w + 1) (va_up m2 w false) _ _ _ (by omega) (by omega) (fun z hz => by by_cases hzw : z = w; (subst hzw; rw [va_up_self]; first | exact (tn_1 c_40).symm | exact (tn_f c_40).symm); (rw [va_up_ne _ _ hzw]; exact hI z (by omega))) hP hS (lv_sub hl [1, 2, 3, 0] rfl)
              · refine lv_iconst (v := nI 1) hx hb dX2_constant_43 (by decide) ?_
                refine lv_goto (tgt := 48) hx hb dX2_constant_44 (by decide) ?_
                refine xa_zast hx hb hK hP (md_D hao) hS 2 0 rfl rfl (w := w) (b := true) (by omega) (by omega) dX2_constant_48 (fun H locs hP _ hS => ?_)
                have hP : va_P D vwCl (mdW N bd cZ cI (nI 0) rb (va_up m2 w true) pt) H := hP
                refine xa_inc (k := 3) (lv' := [(3, .int (nI (w + 1))), (0, .ref (bd 0)), (1, .int (nI j)), (2, .int (nI bv.toNat))]) hx hb dX2_constant_49 hl rfl (by decide) rfl (fun ls hl => ?_)
                refine lv_goto (tgt := 25) hx hb dX2_constant_52 (by decide) ?_
                exact ih_25 (w + 1) (va_up m2 w true) _ _ _ (by omega) (by omega) (fun z hz => by by_cases hzw : z = w; (subst hzw; rw [va_up_self]; first | exact (tn_1 c_40).symm | exact (tn_f c_40).symm); (rw [va_up_ne _ _ hzw]; exact hI z (by omega))) hP hS (lv_sub hl [1, 2, 3, 0] rfl)
        exact lp_25 (2 ^ N + 1 - 0) 0 mb _ _ _ (by omega) (by omega) (fun z hz => absurd hz (by omega)) hP hS (lv_sub hl [1, 2, 3, 0] rfl)
      · refine lv_iconst (v := nI 0) hx hb dX2_constant_21 (by decide) ?_
        exact W.zret (v := (nI 0)) hx hb hr (by decide) (fun t ht hW => ⟨⟨(nI 0), (rb, mb, pt), rfl, ⟨by rw [(show spC N g k v = none from if_neg (by simp [c_9, isB_gt c_18]))]; rfl, by rw [(show spC N g k v = none from if_neg (by simp [c_9, isB_gt c_18]))]; exact hg⟩, (by show va_P _ _ _ _; rw [ht]; exact hP)⟩, hS.F ht⟩) hS.2.2 dX2_constant_22
end
section
set_option maxHeartbeats 4000000 in
set_option maxRecDepth 100000 in
/-- the reference: variable -/
theorem c_mVariable (l : Launch) (D : va_G) (sz : Nat) (N : Nat) (hN1 : 1 ≤ N) (hN : N ≤ 12) (bd : Nat → Nat) (hao : aok4 (fun _ => True) bd) (cZ cI : ClassId) (th : Int32) (rb mb : Nat → Bool) (pt : Nat → Int32) (g : Nat → Nat → Bool) (hg : okM N rb g) (k v : Int32) : Met l yX2_variable wsX2_variable ({ frames := 1, cells := 0, slots := 0, locals := 22 } : Room) (va_Pc [.ref (bd 0), .int k, .int v] (wp0 D (mdW N bd cZ cI th rb mb pt) (mdT cZ cI) (fr4 bd sz) sz)) (va_Qi (fun (r : Int32) (u : (Nat → Bool) × (Nat → Bool) × (Nat → Int32)) => r = nI (spV N g k v).isSome.toNat ∧ okM N u.1 ((spV N g k v).getD g)) (fun (u : (Nat → Bool) × (Nat → Bool) × (Nat → Int32)) t => va_P D vwCl (mdW N bd cZ cI (nI 0) u.1 u.2.1 u.2.2) t.heap) (fr4 bd sz)) 0 0 (fr4 bd sz) := by
  refine Met.ofW (cc := cX2_variable) (maxL := 4) (ret := (some .boolean)) (by decide) rfl ?_
  intro p e s m args below meth c s₁ B hml hv
  obtain ⟨rfl, hsz, hP, hK, htb⟩ := hv
  have hx := B.exec
  have hb := B.bytes
  have hr := B.returns
  have hts := atoms_spec (ws := wsX2_variable) B.pre
  have hown : s.vm.findClass RX2 = some m.cls := findClass_of_methodNamed B.named
  have hlocks := B.notSynchronized
  subst hsz
  generalize hAe : fr4 bd s.heap.size = A at htb ⊢
  have hA : ∀ q : Nat, s.heap.size ≤ q → A q := fun q h => by rw [← hAe]; exact fr4_new q h
  have hao : aok4 A bd := by rw [← hAe]; exact aok4_fr hao
  obtain ⟨⟨tt, hZ, hT⟩, hNst⟩ := id htb
  have hS : va_S A s.heap s.heap [] := va_S.rf
  have hl := lv_entry ([.ref (bd 0), .int k, .int v]) (n := 4) (Nat.le_of_ble_eq_true rfl)
  rw [lg_entry_eq]
  generalize (lg_sl ([.ref (bd 0), .int k, .int v]) ++ List.replicate (4 - (lg_sl ([.ref (bd 0), .int k, .int v])).length) Slot.unset).toArray = ls at hl ⊢
  have hl : lv_has ls 4 [(0, .ref (bd 0)), (1, .int k), (2, .int v)] := hl
  have hnp := np_le hN
  have hnp0 : 0 < 2 ^ N := Nat.two_pow_pos N
  refine lv_aload_n hx hb dX2_variable_0 rfl (lv_at hl 0 rfl) ?_
  refine lv_iconst (v := nI 0) hx hb dX2_variable_1 (by decide) ?_
  refine va_put (D := D) (ci := 2) (v := .int (nI 0)) (ty := .int) (C := RX2) (T := TX2) (N := 6) hx hb hts (fun w h => List.mem_cons_of_mem _ (inBX2 w h)) tyX2 tyX2_ok nmX2 hown hK hP (md_D hao) hS 0 rfl rfl 0 (by decide) (hts (.fieldLink RX2 28 "ForkDeskModel" "thrown" "I") (by decide +kernel)) (fun _ h9 => h9) rfl (by decide +kernel) rfl rfl (Nat.le_of_ble_eq_true rfl) dX2_variable_2 (fun H locs hP _ hS => ?_)
  have hP : va_P D vwCl (mdW N bd cZ cI (nI 0) rb mb pt) H := hP
  refine lv_iload_n hx hb dX2_variable_5 rfl (lv_at hl 1 rfl) ?_
  refine va_calli (va_runS (As := [.int k]) (rest := []) ⟨hx, hb, hml, hown, hts⟩ (c_isRow l D _ k) (va_cwS 1 hts (goodIn_mono gX2_isRow) rfl rfl rfl (by decide +kernel) ⟨Nat.le_of_ble_eq_true rfl, Nat.le_of_ble_eq_true rfl⟩) ⟨wp0_blind, fun U hU hW => wp0_of (va_P.sub hP [] rfl) (hK.sub [] rfl) htb hS no_in hU hW⟩ rfl rfl hl.1 rfl (lv_room (Nat.le_of_ble_eq_true rfl)) dX2_variable_6 ⟨Nat.zero_le _, Nat.zero_le _⟩) hS (fun q _ h => h.elim) (fun q h => h.elim) (fun r_6 u_6 t H1 locs ht hvm hw hB hz1 hk1 hS => ?_)
  have hP := xa_same hP hk1
  clear hz1 hk1 hB ht
  generalize H1 = H at hP hS ⊢
  subst hw
  refine xa_if0 (tgt := 20) hx hb dX2_variable_9 (by decide) (fun c_9 => ?_) (fun c_9 => ?_)
  · refine lv_iconst (v := nI 0) hx hb dX2_variable_20 (by decide) ?_
    exact W.zret (v := (nI 0)) hx hb hr (by decide) (fun t ht hW => ⟨⟨(nI 0), (rb, mb, pt), rfl, ⟨by rw [(show spV N g k v = none from if_neg (by simp [c_9]))]; rfl, by rw [(show spV N g k v = none from if_neg (by simp [c_9]))]; exact hg⟩, (by show va_P _ _ _ _; rw [ht]; exact hP)⟩, hS.F ht⟩) hS.2.2 dX2_variable_21
  · refine lv_aload_n hx hb dX2_variable_12 rfl (lv_at hl 0 rfl) ?_
    refine lv_iload_n hx hb dX2_variable_13 rfl (lv_at hl 2 rfl) ?_
    refine va_calli (va_runV (As := [.int v]) (rest := []) ⟨hx, hb, hml, hown, hts⟩ (c_isVariableM l D _ N bd (nI 0) v) (cwV 1 hts (goodIn_mono gX2_isVariable) rfl rfl rfl (by decide +kernel) ⟨Nat.le_of_ble_eq_true rfl, Nat.le_of_ble_eq_true rfl⟩) ⟨wp0_blind, va_recv hK hP (ci := 2) (q0 := 0) rfl rfl, fun U hU hW => wp0_of (va_one hP 0 rfl) (hK.sub [] rfl) htb hS no_in hU hW⟩ rfl rfl hl.1 rfl (lv_room (Nat.le_of_ble_eq_true rfl)) dX2_variable_14 ⟨Nat.zero_le _, Nat.zero_le _⟩) hS (fun q _ h => h.elim) (fun q h => h.elim) (fun r_14 u_14 t H1 locs ht hvm hw hB hz1 hk1 hS => ?_)
    have hP := xa_same hP hk1
    clear hz1 hk1 hB ht
    generalize H1 = H at hP hS ⊢
    subst hw
    refine xa_if1 (tgt := 22) hx hb dX2_variable_17 (by decide) (fun c_17 => ?_) (fun c_17 => ?_)
    · obtain ⟨j, hj, ej⟩ := isR_t c_9
      rw [ej] at hl
      obtain ⟨i, hi1, hi, ei⟩ := isV_t hN c_17
      rw [ei] at hl
      have hsp : spV N g k v = some (va_up g j (fun p => p.testBit (N - i) && decide (p < 2 ^ N))) := by unfold spV; rw [if_pos (by rw [c_9, c_17]; rfl), ej, ei, ix_nI (by omega), ix_nI (by omega)]
      refine lv_iconst (v := nI 0) hx hb dX2_variable_22 (by decide) ?_
      refine lv_istore_n (lv' := [(3, .int (nI 0)), (0, .ref (bd 0)), (1, .int (nI j)), (2, .int (nI i))]) hx hb dX2_variable_23 rfl hl (by decide) rfl (fun ls hl => ?_)
      have lp_24 : ∀ (n9 w : Nat) (m2 : Nat → Bool) (H : Heap) (locs : List Loc) (ls : Array Slot), w ≤ 2 ^ N → 2 ^ N + 1 ≤ w + n9 → (∀ z, z < w → m2 z = z.testBit (N - i)) → va_P D vwCl (mdW N bd cZ cI (nI 0) rb m2 pt) H → va_S A s.heap H locs → lv_has ls 4 [(0, .ref (bd 0)), (1, .int (nI j)), (2, .int (nI i)), (3, .int (nI w))] → W p l e (headSpec wsX2_variable ({ frames := 1, cells := 0, slots := 0, locals := 22 } : Room)).room s m ([.ref (bd 0), .int k, .int v] : List Value).toArray below meth c H locs 0 0 (MQ below (va_Qi (fun (r : Int32) (u : (Nat → Bool) × (Nat → Bool) × (Nat → Int32)) => r = nI (spV N g k v).isSome.toNat ∧ okM N u.1 ((spV N g k v).getD g)) (fun (u : (Nat → Bool) × (Nat → Bool) × (Nat → Int32)) t => va_P D vwCl (mdW N bd cZ cI (nI 0) u.1 u.2.1 u.2.2) t.heap) A) ([.ref (bd 0), .int k, .int v] : List Value).toArray s 0 0 A) (F0 m 24 ls []) := by
        intro n9
        induction n9 with
        | zero => intro w m2 H locs ls h1 h2; exact absurd h2 (by omega)
        | succ n9 ih =>
          intro w m2 H locs ls hle_24 hmm_24 hI hP hS hl
          have ih_24 := @ih
          refine lv_iload_n hx hb dX2_variable_24 rfl (lv_at hl 3 rfl) ?_
          refine lv_aload_n hx hb dX2_variable_25 rfl (lv_at hl 0 rfl) ?_
          refine va_get (D := D) (ci := 2) (C := RX2) (T := TX2) (N := 6) hx hb hts (fun w h => List.mem_cons_of_mem _ (inBX2 w h)) hown hK hP 0 rfl rfl 2 (by decide) (hts (.fieldLink RX2 25 "ForkDeskModel" "points" "I") (by decide +kernel)) (fun _ h9 => h9) rfl dX2_variable_26 ?_
          refine xa_ge (tgt := 59) hx hb (by omega) (by omega) dX2_variable_29 (by decide) (fun c_29 => ?_) (fun c_29 => ?_)
          · refine lv_aload_n hx hb dX2_variable_59 rfl (lv_at hl 0 rfl) ?_
            refine lv_iload_n hx hb dX2_variable_60 rfl (lv_at hl 1 rfl) ?_
            refine va_calli (va_runV (As := [.int (nI j)]) (rest := []) ⟨hx, hb, hml, hown, hts⟩ (c_keep l D _ N hN1 hN bd (aok4_true hao) cZ cI (nI 0) rb m2 pt j (by omega)) (cwV 1 hts (goodIn_mono gX2_keep) rfl rfl rfl (by decide +kernel) ⟨Nat.le_of_ble_eq_true rfl, Nat.le_of_ble_eq_true rfl⟩) ⟨wp0_blind, va_recv hK hP (ci := 2) (q0 := 0) rfl rfl, fun U hU hW => wp0_of hP hK htb hS (fr4_in hao hS hA) hU hW⟩ rfl rfl hl.1 rfl (lv_room (Nat.le_of_ble_eq_true rfl)) dX2_variable_61 ⟨Nat.zero_le _, Nat.zero_le _⟩) hS (fun q _ h => (fr4_in hao hS hA) q h) ((fr4_in hao hS hA)) (fun r_61 u_61 t H1 locs ht hvm hw hB hz1 hk1 hS => ?_)
            rw [ht] at hB
            obtain ⟨hw1, hw2⟩ := hw
            subst hw1
            subst hw2
            have hP := hB
            clear hz1 hk1 hB ht
            generalize H1 = H at hP hS ⊢
            exact W.zret (v := (nI 1)) hx hb hr (by decide) (fun t ht hW => ⟨⟨(nI 1), (kpt rb m2 j (2 ^ N), m2, pt), rfl, ⟨by rw [hsp]; rfl, by rw [hsp]; exact (okM_up hN hg hj (fun z hz => by rw [hI z (by omega), decide_eq_true hz, Bool.and_true]))⟩, (by show va_P _ _ _ _; rw [ht]; exact hP)⟩, hS.F ht⟩) hS.2.2 dX2_variable_64
          · refine lv_aload_n hx hb dX2_variable_32 rfl (lv_at hl 0 rfl) ?_
            refine va_get (D := D) (ci := 2) (C := RX2) (T := TX2) (N := 6) hx hb hts (fun w h => List.mem_cons_of_mem _ (inBX2 w h)) hown hK hP 0 rfl rfl 4 (by decide) (hts (.fieldLink RX2 14 "ForkDeskModel" "made" "[Z") (by decide +kernel)) (fun _ h9 => h9) rfl dX2_variable_33 ?_
            refine lv_iload_n hx hb dX2_variable_36 rfl (lv_at hl 3 rfl) ?_
            refine lv_aload_n hx hb dX2_variable_37 rfl (lv_at hl 0 rfl) ?_
            refine lv_iload_n hx hb dX2_variable_38 rfl (lv_at hl 2 rfl) ?_
            refine lv_iload_n hx hb dX2_variable_39 rfl (lv_at hl 3 rfl) ?_
            refine va_calli (va_runV (As := [.int (nI i), .int (nI w)]) (rest := [.int (nI w), .ref (bd 2)]) ⟨hx, hb, hml, hown, hts⟩ (c_value l D _ N hN bd (nI 0) i w (by omega) (by omega)) (cwV 2 hts (goodIn_mono gX2_value) rfl rfl rfl (by decide +kernel) ⟨Nat.le_of_ble_eq_true rfl, Nat.le_of_ble_eq_true rfl⟩) ⟨wp0_blind, va_recv hK hP (ci := 2) (q0 := 0) rfl rfl, fun U hU hW => wp0_of (va_one hP 0 rfl) (hK.sub [] rfl) htb hS no_in hU hW⟩ rfl rfl hl.1 rfl (lv_room (Nat.le_of_ble_eq_true rfl)) dX2_variable_40 ⟨Nat.zero_le _, Nat.zero_le _⟩) hS (fun q _ h => h.elim) (fun q h => h.elim) (fun r_40 u_40 t H1 locs ht hvm hw hB hz1 hk1 hS => ?_)
            have hP := xa_same hP hk1
            clear hz1 hk1 hB ht
            generalize H1 = H at hP hS ⊢
            subst hw
            refine lv_iconst (v := nI 1) hx hb dX2_variable_43 (by decide) ?_
            refine xa_ne (tgt := 51) hx hb (by omega) (by omega) dX2_variable_44 (by decide) (fun c_44 => ?_) (fun c_44 => ?_)
            · refine lv_iconst (v := nI 0) hx hb dX2_variable_51 (by decide) ?_
              refine xa_zast hx hb hK hP (md_D hao) hS 2 0 rfl rfl (w := w) (b := false) (by omega) (by omega) dX2_variable_52 (fun H locs hP _ hS => ?_)
              have hP : va_P D vwCl (mdW N bd cZ cI (nI 0) rb (va_up m2 w false) pt) H := hP
              refine xa_inc (k := 3) (lv' := [(3, .int (nI (w + 1))), (0, .ref (bd 0)), (1, .int (nI j)), (2, .int (nI i))]) hx hb dX2_variable_53 hl rfl (by decide) rfl (fun ls hl => ?_)
              refine lv_goto (tgt := 24) hx hb dX2_variable_56 (by decide) ?_
              exact ih_24 (w + 1) (va_up m2 w false) _ _ _ (by omega) (by omega) (fun z hz => by by_cases hzw : z = w; (subst hzw; rw [va_up_self]; rw [Nat.testBit_eq_decide_div_mod_eq]; first | exact (decide_eq_true c_44).symm | exact (decide_eq_false c_44).symm); (rw [va_up_ne _ _ hzw]; exact hI z (by omega))) hP hS (lv_sub hl [1, 2, 3, 0] rfl)
            · refine lv_iconst (v := nI 1) hx hb dX2_variable_47 (by decide) ?_
              refine lv_goto (tgt := 52) hx hb dX2_variable_48 (by decide) ?_
              refine xa_zast hx hb hK hP (md_D hao) hS 2 0 rfl rfl (w := w) (b := true) (by omega) (by omega) dX2_variable_52 (fun H locs hP _ hS => ?_)
              have hP : va_P D vwCl (mdW N bd cZ cI (nI 0) rb (va_up m2 w true) pt) H := hP
              refine xa_inc (k := 3) (lv' := [(3, .int (nI (w + 1))), (0, .ref (bd 0)), (1, .int (nI j)), (2, .int (nI i))]) hx hb dX2_variable_53 hl rfl (by decide) rfl (fun ls hl => ?_)
              refine lv_goto (tgt := 24) hx hb dX2_variable_56 (by decide) ?_
              exact ih_24 (w + 1) (va_up m2 w true) _ _ _ (by omega) (by omega) (fun z hz => by by_cases hzw : z = w; (subst hzw; rw [va_up_self]; rw [Nat.testBit_eq_decide_div_mod_eq]; first | exact (decide_eq_true c_44).symm | exact (decide_eq_false c_44).symm); (rw [va_up_ne _ _ hzw]; exact hI z (by omega))) hP hS (lv_sub hl [1, 2, 3, 0] rfl)
      exact lp_24 (2 ^ N + 1 - 0) 0 mb _ _ _ (by omega) (by omega) (fun z hz => absurd hz (by omega)) hP hS (lv_sub hl [1, 2, 3, 0] rfl)
    · refine lv_iconst (v := nI 0) hx hb dX2_variable_20 (by decide) ?_
      exact W.zret (v := (nI 0)) hx hb hr (by decide) (fun t ht hW => ⟨⟨(nI 0), (rb, mb, pt), rfl, ⟨by rw [(show spV N g k v = none from if_neg (by simp [c_9, c_17]))]; rfl, by rw [(show spV N g k v = none from if_neg (by simp [c_9, c_17]))]; exact hg⟩, (by show va_P _ _ _ _; rw [ht]; exact hP)⟩, hS.F ht⟩) hS.2.2 dX2_variable_21
end
section
set_option maxHeartbeats 4000000 in
set_option maxRecDepth 100000 in
/-- the reference: combine -/
theorem c_mCombine (l : Launch) (D : va_G) (sz : Nat) (N : Nat) (hN1 : 1 ≤ N) (hN : N ≤ 12) (bd : Nat → Nat) (hao : aok4 (fun _ => True) bd) (cZ cI : ClassId) (th : Int32) (rb mb : Nat → Bool) (pt : Nat → Int32) (g : Nat → Nat → Bool) (hg : okM N rb g) (k op a b : Int32) : Met l yX2_combine wsX2_combine ({ frames := 1, cells := 0, slots := 0, locals := 22 } : Room) (va_Pc [.ref (bd 0), .int k, .int op, .int a, .int b] (wp0 D (mdW N bd cZ cI th rb mb pt) (mdT cZ cI) (fr4 bd sz) sz)) (va_Qi (fun (r : Int32) (u : (Nat → Bool) × (Nat → Bool) × (Nat → Int32)) => r = nI (spM g k op a b).isSome.toNat ∧ okM N u.1 ((spM g k op a b).getD g)) (fun (u : (Nat → Bool) × (Nat → Bool) × (Nat → Int32)) t => va_P D vwCl (mdW N bd cZ cI (nI 0) u.1 u.2.1 u.2.2) t.heap) (fr4 bd sz)) 0 0 (fr4 bd sz) := by
  refine Met.ofW (cc := cX2_combine) (maxL := 8) (ret := (some .boolean)) (by decide) rfl ?_
  intro p e s m args below meth c s₁ B hml hv
  obtain ⟨rfl, hsz, hP, hK, htb⟩ := hv
  have hx := B.exec
  have hb := B.bytes
  have hr := B.returns
  have hts := atoms_spec (ws := wsX2_combine) B.pre
  have hown : s.vm.findClass RX2 = some m.cls := findClass_of_methodNamed B.named
  have hlocks := B.notSynchronized
  subst hsz
  generalize hAe : fr4 bd s.heap.size = A at htb ⊢
  have hA : ∀ q : Nat, s.heap.size ≤ q → A q := fun q h => by rw [← hAe]; exact fr4_new q h
  have hao : aok4 A bd := by rw [← hAe]; exact aok4_fr hao
  obtain ⟨⟨tt, hZ, hT⟩, hNst⟩ := id htb
  have hS : va_S A s.heap s.heap [] := va_S.rf
  have hl := lv_entry ([.ref (bd 0), .int k, .int op, .int a, .int b]) (n := 8) (Nat.le_of_ble_eq_true rfl)
  rw [lg_entry_eq]
  generalize (lg_sl ([.ref (bd 0), .int k, .int op, .int a, .int b]) ++ List.replicate (8 - (lg_sl ([.ref (bd 0), .int k, .int op, .int a, .int b])).length) Slot.unset).toArray = ls at hl ⊢
  have hl : lv_has ls 8 [(0, .ref (bd 0)), (1, .int k), (2, .int op), (3, .int a), (4, .int b)] := hl
  have hnp := np_le hN
  have hnp0 : 0 < 2 ^ N := Nat.two_pow_pos N
  refine lv_aload_n hx hb dX2_combine_0 rfl (lv_at hl 0 rfl) ?_
  refine lv_iconst (v := nI 0) hx hb dX2_combine_1 (by decide) ?_
  refine va_put (D := D) (ci := 2) (v := .int (nI 0)) (ty := .int) (C := RX2) (T := TX2) (N := 6) hx hb hts (fun w h => List.mem_cons_of_mem _ (inBX2 w h)) tyX2 tyX2_ok nmX2 hown hK hP (md_D hao) hS 0 rfl rfl 0 (by decide) (hts (.fieldLink RX2 28 "ForkDeskModel" "thrown" "I") (by decide +kernel)) (fun _ h9 => h9) rfl (by decide +kernel) rfl rfl (Nat.le_of_ble_eq_true rfl) dX2_combine_2 (fun H locs hP _ hS => ?_)
  have hP : va_P D vwCl (mdW N bd cZ cI (nI 0) rb mb pt) H := hP
  refine lv_iload_n hx hb dX2_combine_5 rfl (lv_at hl 1 rfl) ?_
  refine va_calli (va_runS (As := [.int k]) (rest := []) ⟨hx, hb, hml, hown, hts⟩ (c_isRow l D _ k) (va_cwS 1 hts (goodIn_mono gX2_isRow) rfl rfl rfl (by decide +kernel) ⟨Nat.le_of_ble_eq_true rfl, Nat.le_of_ble_eq_true rfl⟩) ⟨wp0_blind, fun U hU hW => wp0_of (va_P.sub hP [] rfl) (hK.sub [] rfl) htb hS no_in hU hW⟩ rfl rfl hl.1 rfl (lv_room (Nat.le_of_ble_eq_true rfl)) dX2_combine_6 ⟨Nat.zero_le _, Nat.zero_le _⟩) hS (fun q _ h => h.elim) (fun q h => h.elim) (fun r_6 u_6 t H1 locs ht hvm hw hB hz1 hk1 hS => ?_)
  have hP := xa_same hP hk1
  clear hz1 hk1 hB ht
  generalize H1 = H at hP hS ⊢
  subst hw
  refine xa_if0 (tgt := 36) hx hb dX2_combine_9 (by decide) (fun c_9 => ?_) (fun c_9 => ?_)
  · refine lv_iconst (v := nI 0) hx hb dX2_combine_36 (by decide) ?_
    exact W.zret (v := (nI 0)) hx hb hr (by decide) (fun t ht hW => ⟨⟨(nI 0), (rb, mb, pt), rfl, ⟨by rw [(show spM g k op a b = none from if_neg (by simp [c_9]))]; rfl, by rw [(show spM g k op a b = none from if_neg (by simp [c_9]))]; exact hg⟩, (by show va_P _ _ _ _; rw [ht]; exact hP)⟩, hS.F ht⟩) hS.2.2 dX2_combine_37
  · refine lv_iload_n hx hb dX2_combine_12 rfl (lv_at hl 3 rfl) ?_
    refine va_calli (va_runS (As := [.int a]) (rest := []) ⟨hx, hb, hml, hown, hts⟩ (c_isRow l D _ a) (va_cwS 1 hts (goodIn_mono gX2_isRow) rfl rfl rfl (by decide +kernel) ⟨Nat.le_of_ble_eq_true rfl, Nat.le_of_ble_eq_true rfl⟩) ⟨wp0_blind, fun U hU hW => wp0_of (va_P.sub hP [] rfl) (hK.sub [] rfl) htb hS no_in hU hW⟩ rfl rfl hl.1 rfl (lv_room (Nat.le_of_ble_eq_true rfl)) dX2_combine_13 ⟨Nat.zero_le _, Nat.zero_le _⟩) hS (fun q _ h => h.elim) (fun q h => h.elim) (fun r_13 u_13 t H1 locs ht hvm hw hB hz1 hk1 hS => ?_)
    have hP := xa_same hP hk1
    clear hz1 hk1 hB ht
    generalize H1 = H at hP hS ⊢
    subst hw
    refine xa_if0 (tgt := 36) hx hb dX2_combine_16 (by decide) (fun c_16 => ?_) (fun c_16 => ?_)
    · refine lv_iconst (v := nI 0) hx hb dX2_combine_36 (by decide) ?_
      exact W.zret (v := (nI 0)) hx hb hr (by decide) (fun t ht hW => ⟨⟨(nI 0), (rb, mb, pt), rfl, ⟨by rw [(show spM g k op a b = none from if_neg (by simp [c_9, c_16]))]; rfl, by rw [(show spM g k op a b = none from if_neg (by simp [c_9, c_16]))]; exact hg⟩, (by show va_P _ _ _ _; rw [ht]; exact hP)⟩, hS.F ht⟩) hS.2.2 dX2_combine_37
    · refine lv_iload hx hb dX2_combine_19 (lv_at hl 4 rfl) ?_
      refine va_calli (va_runS (As := [.int b]) (rest := []) ⟨hx, hb, hml, hown, hts⟩ (c_isRow l D _ b) (va_cwS 1 hts (goodIn_mono gX2_isRow) rfl rfl rfl (by decide +kernel) ⟨Nat.le_of_ble_eq_true rfl, Nat.le_of_ble_eq_true rfl⟩) ⟨wp0_blind, fun U hU hW => wp0_of (va_P.sub hP [] rfl) (hK.sub [] rfl) htb hS no_in hU hW⟩ rfl rfl hl.1 rfl (lv_room (Nat.le_of_ble_eq_true rfl)) dX2_combine_21 ⟨Nat.zero_le _, Nat.zero_le _⟩) hS (fun q _ h => h.elim) (fun q h => h.elim) (fun r_21 u_21 t H1 locs ht hvm hw hB hz1 hk1 hS => ?_)
      have hP := xa_same hP hk1
      clear hz1 hk1 hB ht
      generalize H1 = H at hP hS ⊢
      subst hw
      refine xa_if0 (tgt := 36) hx hb dX2_combine_24 (by decide) (fun c_24 => ?_) (fun c_24 => ?_)
      · refine lv_iconst (v := nI 0) hx hb dX2_combine_36 (by decide) ?_
        exact W.zret (v := (nI 0)) hx hb hr (by decide) (fun t ht hW => ⟨⟨(nI 0), (rb, mb, pt), rfl, ⟨by rw [(show spM g k op a b = none from if_neg (by simp [c_9, c_16, c_24]))]; rfl, by rw [(show spM g k op a b = none from if_neg (by simp [c_9, c_16, c_24]))]; exact hg⟩, (by show va_P _ _ _ _; rw [ht]; exact hP)⟩, hS.F ht⟩) hS.2.2 dX2_combine_37
      · refine lv_iload_n hx hb dX2_combine_27 rfl (lv_at hl 2 rfl) ?_
        refine lv_if_lt (tgt := 36) hx hb dX2_combine_28 (by decide) (fun c_28 => ?_) (fun c_28 => ?_)
        · refine lv_iconst (v := nI 0) hx hb dX2_combine_36 (by decide) ?_
          exact W.zret (v := (nI 0)) hx hb hr (by decide) (fun t ht hW => ⟨⟨(nI 0), (rb, mb, pt), rfl, ⟨by rw [(show spM g k op a b = none from if_neg (by simp [c_9, c_16, c_24, isO_lt c_28]))]; rfl, by rw [(show spM g k op a b = none from if_neg (by simp [c_9, c_16, c_24, isO_lt c_28]))]; exact hg⟩, (by show va_P _ _ _ _; rw [ht]; exact hP)⟩, hS.F ht⟩) hS.2.2 dX2_combine_37
        · refine lv_iload_n hx hb dX2_combine_31 rfl (lv_at hl 2 rfl) ?_
          refine lv_iconst (v := nI 3) hx hb dX2_combine_32 (by decide) ?_
          refine lv_icmp_le (tgt := 38) hx hb dX2_combine_33 (by decide) (fun c_33 => ?_) (fun c_33 => ?_)
          · have hO : isO op = true := isO_in c_28 c_33
            obtain ⟨j, hj, ej⟩ := isR_t c_9
            rw [ej] at hl
            obtain ⟨o, ho, eo⟩ := isO_t hO
            rw [eo] at hl
            obtain ⟨x1, hx1, ex1⟩ := isR_t c_16
            rw [ex1] at hl
            obtain ⟨x2, hx2, ex2⟩ := isR_t c_24
            rw [ex2] at hl
            have hsp : spM g k op a b = some (va_up g j (fun p => cmg o (g x1 p) (g x2 p))) := by unfold spM; rw [if_pos (by rw [c_9, hO, c_16, c_24]; rfl), ej, eo, ex1, ex2, ix_nI (by omega), ix_nI (by omega), ix_nI (by omega), ix_nI (by omega)]
            refine lv_iconst (v := nI 0) hx hb dX2_combine_38 (by decide) ?_
            refine lv_istore (lv' := [(5, .int (nI 0)), (0, .ref (bd 0)), (1, .int (nI j)), (2, .int (nI o)), (3, .int (nI x1)), (4, .int (nI x2))]) hx hb dX2_combine_39 hl (by decide) rfl (fun ls hl => ?_)
            have lp_41 : ∀ (n9 w : Nat) (m2 : Nat → Bool) (H : Heap) (locs : List Loc) (ls : Array Slot), w ≤ 2 ^ N → 2 ^ N + 1 ≤ w + n9 → (∀ z, z < w → m2 z = cmg o (rb (4096 * x1 + z)) (rb (4096 * x2 + z))) → va_P D vwCl (mdW N bd cZ cI (nI 0) rb m2 pt) H → va_S A s.heap H locs → lv_has ls 8 [(0, .ref (bd 0)), (1, .int (nI j)), (2, .int (nI o)), (3, .int (nI x1)), (4, .int (nI x2)), (5, .int (nI w))] → W p l e (headSpec wsX2_combine ({ frames := 1, cells := 0, slots := 0, locals := 22 } : Room)).room s m ([.ref (bd 0), .int k, .int op, .int a, .int b] : List Value).toArray below meth c H locs 0 0 (MQ below (va_Qi (fun (r : Int32) (u : (Nat → Bool) × (Nat → Bool) × (Nat → Int32)) => r = nI (spM g k op a b).isSome.toNat ∧ okM N u.1 ((spM g k op a b).getD g)) (fun (u : (Nat → Bool) × (Nat → Bool) × (Nat → Int32)) t => va_P D vwCl (mdW N bd cZ cI (nI 0) u.1 u.2.1 u.2.2) t.heap) A) ([.ref (bd 0), .int k, .int op, .int a, .int b] : List Value).toArray s 0 0 A) (F0 m 41 ls []) := by
              intro n9
              induction n9 with
              | zero => intro w m2 H locs ls h1 h2; exact absurd h2 (by omega)
              | succ n9 ih =>
                intro w m2 H locs ls hle_41 hmm_41 hI hP hS hl
                have ih_41 := @ih
                refine lv_iload hx hb dX2_combine_41 (lv_at hl 5 rfl) ?_
                refine lv_aload_n hx hb dX2_combine_43 rfl (lv_at hl 0 rfl) ?_
                refine va_get (D := D) (ci := 2) (C := RX2) (T := TX2) (N := 6) hx hb hts (fun w h => List.mem_cons_of_mem _ (inBX2 w h)) hown hK hP 0 rfl rfl 2 (by decide) (hts (.fieldLink RX2 25 "ForkDeskModel" "points" "I") (by decide +kernel)) (fun _ h9 => h9) rfl dX2_combine_44 ?_
                refine xa_ge (tgt := 162) hx hb (by omega) (by omega) dX2_combine_47 (by decide) (fun c_47 => ?_) (fun c_47 => ?_)
                · refine lv_aload_n hx hb dX2_combine_162 rfl (lv_at hl 0 rfl) ?_
                  refine lv_iload_n hx hb dX2_combine_163 rfl (lv_at hl 1 rfl) ?_
                  refine va_calli (va_runV (As := [.int (nI j)]) (rest := []) ⟨hx, hb, hml, hown, hts⟩ (c_keep l D _ N hN1 hN bd (aok4_true hao) cZ cI (nI 0) rb m2 pt j (by omega)) (cwV 1 hts (goodIn_mono gX2_keep) rfl rfl rfl (by decide +kernel) ⟨Nat.le_of_ble_eq_true rfl, Nat.le_of_ble_eq_true rfl⟩) ⟨wp0_blind, va_recv hK hP (ci := 2) (q0 := 0) rfl rfl, fun U hU hW => wp0_of hP hK htb hS (fr4_in hao hS hA) hU hW⟩ rfl rfl hl.1 rfl (lv_room (Nat.le_of_ble_eq_true rfl)) dX2_combine_164 ⟨Nat.zero_le _, Nat.zero_le _⟩) hS (fun q _ h => (fr4_in hao hS hA) q h) ((fr4_in hao hS hA)) (fun r_164 u_164 t H1 locs ht hvm hw hB hz1 hk1 hS => ?_)
                  rw [ht] at hB
                  obtain ⟨hw1, hw2⟩ := hw
                  subst hw1
                  subst hw2
                  have hP := hB
                  clear hz1 hk1 hB ht
                  generalize H1 = H at hP hS ⊢
                  exact W.zret (v := (nI 1)) hx hb hr (by decide) (fun t ht hW => ⟨⟨(nI 1), (kpt rb m2 j (2 ^ N), m2, pt), rfl, ⟨by rw [hsp]; rfl, by rw [hsp]; exact (okM_up hN hg hj (fun z hz => by rw [hI z (by omega), hg x1 z hx1 hz, hg x2 z hx2 hz]))⟩, (by show va_P _ _ _ _; rw [ht]; exact hP)⟩, hS.F ht⟩) hS.2.2 dX2_combine_167
                · refine lv_aload_n hx hb dX2_combine_50 rfl (lv_at hl 0 rfl) ?_
                  refine lv_iload_n hx hb dX2_combine_51 rfl (lv_at hl 3 rfl) ?_
                  refine lv_iload hx hb dX2_combine_52 (lv_at hl 5 rfl) ?_
                  refine va_calli (va_runV (As := [.int (nI x1), .int (nI w)]) (rest := []) ⟨hx, hb, hml, hown, hts⟩ (c_has l D _ N bd cZ (nI 0) rb x1 w (by omega)) (cwV 2 hts (goodIn_mono gX2_has) rfl rfl rfl (by decide +kernel) ⟨Nat.le_of_ble_eq_true rfl, Nat.le_of_ble_eq_true rfl⟩) ⟨wp0_blind, va_recv hK hP (ci := 2) (q0 := 0) rfl rfl, fun U hU hW => wp0_of (hP.sub [0, 1] rfl) (hK.sub [0] rfl) htb hS no_in hU hW⟩ rfl rfl hl.1 rfl (lv_room (Nat.le_of_ble_eq_true rfl)) dX2_combine_54 ⟨Nat.zero_le _, Nat.zero_le _⟩) hS (fun q _ h => h.elim) (fun q h => h.elim) (fun r_54 u_54 t H1 locs ht hvm hw hB hz1 hk1 hS => ?_)
                  have hP := xa_same hP hk1
                  clear hz1 hk1 hB ht
                  generalize H1 = H at hP hS ⊢
                  subst hw
                  refine lv_istore (lv' := [(6, .int (nI ((rb (4096 * x1 + w)).toNat))), (0, .ref (bd 0)), (1, .int (nI j)), (2, .int (nI o)), (3, .int (nI x1)), (4, .int (nI x2)), (5, .int (nI w))]) hx hb dX2_combine_57 hl (by decide) rfl (fun ls hl => ?_)
                  refine lv_aload_n hx hb dX2_combine_59 rfl (lv_at hl 1 rfl) ?_
                  refine lv_iload hx hb dX2_combine_60 (lv_at hl 5 rfl) ?_
                  refine lv_iload hx hb dX2_combine_62 (lv_at hl 6 rfl) ?_
                  refine va_calli (va_runV (As := [.int (nI x2), .int (nI w)]) (rest := []) ⟨hx, hb, hml, hown, hts⟩ (c_has l D _ N bd cZ (nI 0) rb x2 w (by omega)) (cwV 2 hts (goodIn_mono gX2_has) rfl rfl rfl (by decide +kernel) ⟨Nat.le_of_ble_eq_true rfl, Nat.le_of_ble_eq_true rfl⟩) ⟨wp0_blind, va_recv hK hP (ci := 2) (q0 := 0) rfl rfl, fun U hU hW => wp0_of (hP.sub [0, 1] rfl) (hK.sub [0] rfl) htb hS no_in hU hW⟩ rfl rfl hl.1 rfl (lv_room (Nat.le_of_ble_eq_true rfl)) dX2_combine_64 ⟨Nat.zero_le _, Nat.zero_le _⟩) hS (fun q _ h => h.elim) (fun q h => h.elim) (fun r_64 u_64 t H1 locs ht hvm hw hB hz1 hk1 hS => ?_)
                  have hP := xa_same hP hk1
                  clear hz1 hk1 hB ht
                  generalize H1 = H at hP hS ⊢
                  subst hw
                  refine lv_istore (lv' := [(7, .int (nI ((rb (4096 * x2 + w)).toNat))), (6, .int (nI ((rb (4096 * x1 + w)).toNat))), (0, .ref (bd 0)), (1, .int (nI j)), (2, .int (nI o)), (3, .int (nI x1)), (4, .int (nI x2)), (5, .int (nI w))]) hx hb dX2_combine_67 hl (by decide) rfl (fun ls hl => ?_)
                  refine lv_aload_n hx hb dX2_combine_69 rfl (lv_at hl 2 rfl) ?_
                  refine va_get (D := D) (ci := 2) (C := RX2) (T := TX2) (N := 6) hx hb hts (fun w h => List.mem_cons_of_mem _ (inBX2 w h)) hown hK hP 0 rfl rfl 4 (by decide) (hts (.fieldLink RX2 14 "ForkDeskModel" "made" "[Z") (by decide +kernel)) (fun _ h9 => h9) rfl dX2_combine_70 ?_
                  refine lv_iload hx hb dX2_combine_73 (lv_at hl 7 rfl) ?_
                  refine lv_iload_n hx hb dX2_combine_75 rfl (lv_at hl 4 rfl) ?_
                  refine lv_if_ne (tgt := 97) hx hb dX2_combine_76 (by decide) (fun c_76 => ?_) (fun c_76 => ?_)
                  · refine lv_iload_n hx hb dX2_combine_97 rfl (lv_at hl 4 rfl) ?_
                    refine lv_iconst (v := nI 1) hx hb dX2_combine_98 (by decide) ?_
                    refine xa_ne (tgt := 120) hx hb (by omega) (by omega) dX2_combine_99 (by decide) (fun c_99 => ?_) (fun c_99 => ?_)
                    · refine lv_iload_n hx hb dX2_combine_120 rfl (lv_at hl 4 rfl) ?_
                      refine lv_iconst (v := nI 2) hx hb dX2_combine_121 (by decide) ?_
                      refine xa_ne (tgt := 140) hx hb (by omega) (by omega) dX2_combine_122 (by decide) (fun c_122 => ?_) (fun c_122 => ?_)
                      · refine lv_iload hx hb dX2_combine_140 (lv_at hl 1 rfl) ?_
                        refine xa_if0 (tgt := 154) hx hb dX2_combine_142 (by decide) (fun c_142 => ?_) (fun c_142 => ?_)
                        · refine lv_iconst (v := nI 0) hx hb dX2_combine_154 (by decide) ?_
                          refine xa_zast hx hb hK hP (md_D hao) hS 2 0 rfl rfl (w := w) (b := false) (by omega) (by omega) dX2_combine_155 (fun H locs hP _ hS => ?_)
                          have hP : va_P D vwCl (mdW N bd cZ cI (nI 0) rb (va_up m2 w false) pt) H := hP
                          refine xa_inc (k := 7) (lv' := [(5, .int (nI (w + 1))), (7, .int (nI ((rb (4096 * x2 + w)).toNat))), (6, .int (nI ((rb (4096 * x1 + w)).toNat))), (0, .ref (bd 0)), (1, .int (nI j)), (2, .int (nI o)), (3, .int (nI x1)), (4, .int (nI x2))]) hx hb dX2_combine_156 hl rfl (by decide) rfl (fun ls hl => ?_)
                          refine lv_goto (tgt := 41) hx hb dX2_combine_159 (by decide) ?_
                          exact ih_41 (w + 1) (va_up m2 w false) _ _ _ (by omega) (by omega) (fun z hz => by by_cases hzw : z = w; (subst hzw; rw [va_up_self]; exact cmg_m3 ho c_76 c_99 c_122 (by simp_all)); (rw [va_up_ne _ _ hzw]; exact hI z (by omega))) hP hS (lv_sub hl [3, 4, 5, 6, 7, 0] rfl)
                        · refine lv_iload hx hb dX2_combine_145 (lv_at hl 0 rfl) ?_
                          refine xa_if1 (tgt := 154) hx hb dX2_combine_147 (by decide) (fun c_147 => ?_) (fun c_147 => ?_)
                          · refine lv_iconst (v := nI 0) hx hb dX2_combine_154 (by decide) ?_
                            refine xa_zast hx hb hK hP (md_D hao) hS 2 0 rfl rfl (w := w) (b := false) (by omega) (by omega) dX2_combine_155 (fun H locs hP _ hS => ?_)
                            have hP : va_P D vwCl (mdW N bd cZ cI (nI 0) rb (va_up m2 w false) pt) H := hP
                            refine xa_inc (k := 7) (lv' := [(5, .int (nI (w + 1))), (7, .int (nI ((rb (4096 * x2 + w)).toNat))), (6, .int (nI ((rb (4096 * x1 + w)).toNat))), (0, .ref (bd 0)), (1, .int (nI j)), (2, .int (nI o)), (3, .int (nI x1)), (4, .int (nI x2))]) hx hb dX2_combine_156 hl rfl (by decide) rfl (fun ls hl => ?_)
                            refine lv_goto (tgt := 41) hx hb dX2_combine_159 (by decide) ?_
                            exact ih_41 (w + 1) (va_up m2 w false) _ _ _ (by omega) (by omega) (fun z hz => by by_cases hzw : z = w; (subst hzw; rw [va_up_self]; exact cmg_m3 ho c_76 c_99 c_122 (by simp_all)); (rw [va_up_ne _ _ hzw]; exact hI z (by omega))) hP hS (lv_sub hl [3, 4, 5, 6, 7, 0] rfl)
                          · refine lv_iconst (v := nI 1) hx hb dX2_combine_150 (by decide) ?_
                            refine lv_goto (tgt := 155) hx hb dX2_combine_151 (by decide) ?_
                            refine xa_zast hx hb hK hP (md_D hao) hS 2 0 rfl rfl (w := w) (b := true) (by omega) (by omega) dX2_combine_155 (fun H locs hP _ hS => ?_)
                            have hP : va_P D vwCl (mdW N bd cZ cI (nI 0) rb (va_up m2 w true) pt) H := hP
                            refine xa_inc (k := 7) (lv' := [(5, .int (nI (w + 1))), (7, .int (nI ((rb (4096 * x2 + w)).toNat))), (6, .int (nI ((rb (4096 * x1 + w)).toNat))), (0, .ref (bd 0)), (1, .int (nI j)), (2, .int (nI o)), (3, .int (nI x1)), (4, .int (nI x2))]) hx hb dX2_combine_156 hl rfl (by decide) rfl (fun ls hl => ?_)
                            refine lv_goto (tgt := 41) hx hb dX2_combine_159 (by decide) ?_
                            exact ih_41 (w + 1) (va_up m2 w true) _ _ _ (by omega) (by omega) (fun z hz => by by_cases hzw : z = w; (subst hzw; rw [va_up_self]; exact cmg_m3 ho c_76 c_99 c_122 (by simp_all)); (rw [va_up_ne _ _ hzw]; exact hI z (by omega))) hP hS (lv_sub hl [3, 4, 5, 6, 7, 0] rfl)
                      · refine lv_iload hx hb dX2_combine_125 (lv_at hl 1 rfl) ?_
                        refine lv_iload hx hb dX2_combine_127 (lv_at hl 0 rfl) ?_
                        refine xb_eq (tgt := 136) hx hb dX2_combine_129 (by decide) (fun c_129 => ?_) (fun c_129 => ?_)
                        · refine lv_iconst (v := nI 0) hx hb dX2_combine_136 (by decide) ?_
                          refine lv_goto (tgt := 155) hx hb dX2_combine_137 (by decide) ?_
                          refine xa_zast hx hb hK hP (md_D hao) hS 2 0 rfl rfl (w := w) (b := false) (by omega) (by omega) dX2_combine_155 (fun H locs hP _ hS => ?_)
                          have hP : va_P D vwCl (mdW N bd cZ cI (nI 0) rb (va_up m2 w false) pt) H := hP
                          refine xa_inc (k := 7) (lv' := [(5, .int (nI (w + 1))), (7, .int (nI ((rb (4096 * x2 + w)).toNat))), (6, .int (nI ((rb (4096 * x1 + w)).toNat))), (0, .ref (bd 0)), (1, .int (nI j)), (2, .int (nI o)), (3, .int (nI x1)), (4, .int (nI x2))]) hx hb dX2_combine_156 hl rfl (by decide) rfl (fun ls hl => ?_)
                          refine lv_goto (tgt := 41) hx hb dX2_combine_159 (by decide) ?_
                          exact ih_41 (w + 1) (va_up m2 w false) _ _ _ (by omega) (by omega) (fun z hz => by by_cases hzw : z = w; (subst hzw; rw [va_up_self]; exact cmg_m2 ho c_122 (by simp_all)); (rw [va_up_ne _ _ hzw]; exact hI z (by omega))) hP hS (lv_sub hl [3, 4, 5, 6, 7, 0] rfl)
                        · refine lv_iconst (v := nI 1) hx hb dX2_combine_132 (by decide) ?_
                          refine lv_goto (tgt := 155) hx hb dX2_combine_133 (by decide) ?_
                          refine xa_zast hx hb hK hP (md_D hao) hS 2 0 rfl rfl (w := w) (b := true) (by omega) (by omega) dX2_combine_155 (fun H locs hP _ hS => ?_)
                          have hP : va_P D vwCl (mdW N bd cZ cI (nI 0) rb (va_up m2 w true) pt) H := hP
                          refine xa_inc (k := 7) (lv' := [(5, .int (nI (w + 1))), (7, .int (nI ((rb (4096 * x2 + w)).toNat))), (6, .int (nI ((rb (4096 * x1 + w)).toNat))), (0, .ref (bd 0)), (1, .int (nI j)), (2, .int (nI o)), (3, .int (nI x1)), (4, .int (nI x2))]) hx hb dX2_combine_156 hl rfl (by decide) rfl (fun ls hl => ?_)
                          refine lv_goto (tgt := 41) hx hb dX2_combine_159 (by decide) ?_
                          exact ih_41 (w + 1) (va_up m2 w true) _ _ _ (by omega) (by omega) (fun z hz => by by_cases hzw : z = w; (subst hzw; rw [va_up_self]; exact cmg_m2 ho c_122 (by simp_all)); (rw [va_up_ne _ _ hzw]; exact hI z (by omega))) hP hS (lv_sub hl [3, 4, 5, 6, 7, 0] rfl)
                    · refine lv_iload hx hb dX2_combine_102 (lv_at hl 1 rfl) ?_
                      refine xa_if1 (tgt := 112) hx hb dX2_combine_104 (by decide) (fun c_104 => ?_) (fun c_104 => ?_)
                      · refine lv_iconst (v := nI 1) hx hb dX2_combine_112 (by decide) ?_
                        refine lv_goto (tgt := 155) hx hb dX2_combine_113 (by decide) ?_
                        refine xa_zast hx hb hK hP (md_D hao) hS 2 0 rfl rfl (w := w) (b := true) (by omega) (by omega) dX2_combine_155 (fun H locs hP _ hS => ?_)
                        have hP : va_P D vwCl (mdW N bd cZ cI (nI 0) rb (va_up m2 w true) pt) H := hP
                        refine xa_inc (k := 7) (lv' := [(5, .int (nI (w + 1))), (7, .int (nI ((rb (4096 * x2 + w)).toNat))), (6, .int (nI ((rb (4096 * x1 + w)).toNat))), (0, .ref (bd 0)), (1, .int (nI j)), (2, .int (nI o)), (3, .int (nI x1)), (4, .int (nI x2))]) hx hb dX2_combine_156 hl rfl (by decide) rfl (fun ls hl => ?_)
                        refine lv_goto (tgt := 41) hx hb dX2_combine_159 (by decide) ?_
                        exact ih_41 (w + 1) (va_up m2 w true) _ _ _ (by omega) (by omega) (fun z hz => by by_cases hzw : z = w; (subst hzw; rw [va_up_self]; exact cmg_m1 ho c_99 (by simp_all)); (rw [va_up_ne _ _ hzw]; exact hI z (by omega))) hP hS (lv_sub hl [3, 4, 5, 6, 7, 0] rfl)
                      · refine lv_iload hx hb dX2_combine_107 (lv_at hl 0 rfl) ?_
                        refine xa_if0 (tgt := 116) hx hb dX2_combine_109 (by decide) (fun c_109 => ?_) (fun c_109 => ?_)
                        · refine lv_iconst (v := nI 0) hx hb dX2_combine_116 (by decide) ?_
                          refine lv_goto (tgt := 155) hx hb dX2_combine_117 (by decide) ?_
                          refine xa_zast hx hb hK hP (md_D hao) hS 2 0 rfl rfl (w := w) (b := false) (by omega) (by omega) dX2_combine_155 (fun H locs hP _ hS => ?_)
                          have hP : va_P D vwCl (mdW N bd cZ cI (nI 0) rb (va_up m2 w false) pt) H := hP
                          refine xa_inc (k := 7) (lv' := [(5, .int (nI (w + 1))), (7, .int (nI ((rb (4096 * x2 + w)).toNat))), (6, .int (nI ((rb (4096 * x1 + w)).toNat))), (0, .ref (bd 0)), (1, .int (nI j)), (2, .int (nI o)), (3, .int (nI x1)), (4, .int (nI x2))]) hx hb dX2_combine_156 hl rfl (by decide) rfl (fun ls hl => ?_)
                          refine lv_goto (tgt := 41) hx hb dX2_combine_159 (by decide) ?_
                          exact ih_41 (w + 1) (va_up m2 w false) _ _ _ (by omega) (by omega) (fun z hz => by by_cases hzw : z = w; (subst hzw; rw [va_up_self]; exact cmg_m1 ho c_99 (by simp_all)); (rw [va_up_ne _ _ hzw]; exact hI z (by omega))) hP hS (lv_sub hl [3, 4, 5, 6, 7, 0] rfl)
                        · refine lv_iconst (v := nI 1) hx hb dX2_combine_112 (by decide) ?_
                          refine lv_goto (tgt := 155) hx hb dX2_combine_113 (by decide) ?_
                          refine xa_zast hx hb hK hP (md_D hao) hS 2 0 rfl rfl (w := w) (b := true) (by omega) (by omega) dX2_combine_155 (fun H locs hP _ hS => ?_)
                          have hP : va_P D vwCl (mdW N bd cZ cI (nI 0) rb (va_up m2 w true) pt) H := hP
                          refine xa_inc (k := 7) (lv' := [(5, .int (nI (w + 1))), (7, .int (nI ((rb (4096 * x2 + w)).toNat))), (6, .int (nI ((rb (4096 * x1 + w)).toNat))), (0, .ref (bd 0)), (1, .int (nI j)), (2, .int (nI o)), (3, .int (nI x1)), (4, .int (nI x2))]) hx hb dX2_combine_156 hl rfl (by decide) rfl (fun ls hl => ?_)
                          refine lv_goto (tgt := 41) hx hb dX2_combine_159 (by decide) ?_
                          exact ih_41 (w + 1) (va_up m2 w true) _ _ _ (by omega) (by omega) (fun z hz => by by_cases hzw : z = w; (subst hzw; rw [va_up_self]; exact cmg_m1 ho c_99 (by simp_all)); (rw [va_up_ne _ _ hzw]; exact hI z (by omega))) hP hS (lv_sub hl [3, 4, 5, 6, 7, 0] rfl)
                  · refine lv_iload hx hb dX2_combine_79 (lv_at hl 1 rfl) ?_
                    refine xa_if0 (tgt := 93) hx hb dX2_combine_81 (by decide) (fun c_81 => ?_) (fun c_81 => ?_)
                    · refine lv_iconst (v := nI 0) hx hb dX2_combine_93 (by decide) ?_
                      refine lv_goto (tgt := 155) hx hb dX2_combine_94 (by decide) ?_
                      refine xa_zast hx hb hK hP (md_D hao) hS 2 0 rfl rfl (w := w) (b := false) (by omega) (by omega) dX2_combine_155 (fun H locs hP _ hS => ?_)
                      have hP : va_P D vwCl (mdW N bd cZ cI (nI 0) rb (va_up m2 w false) pt) H := hP
                      refine xa_inc (k := 7) (lv' := [(5, .int (nI (w + 1))), (7, .int (nI ((rb (4096 * x2 + w)).toNat))), (6, .int (nI ((rb (4096 * x1 + w)).toNat))), (0, .ref (bd 0)), (1, .int (nI j)), (2, .int (nI o)), (3, .int (nI x1)), (4, .int (nI x2))]) hx hb dX2_combine_156 hl rfl (by decide) rfl (fun ls hl => ?_)
                      refine lv_goto (tgt := 41) hx hb dX2_combine_159 (by decide) ?_
                      exact ih_41 (w + 1) (va_up m2 w false) _ _ _ (by omega) (by omega) (fun z hz => by by_cases hzw : z = w; (subst hzw; rw [va_up_self]; exact cmg_m0 ho c_76 (by simp_all)); (rw [va_up_ne _ _ hzw]; exact hI z (by omega))) hP hS (lv_sub hl [3, 4, 5, 6, 7, 0] rfl)
                    · refine lv_iload hx hb dX2_combine_84 (lv_at hl 0 rfl) ?_
                      refine xa_if0 (tgt := 93) hx hb dX2_combine_86 (by decide) (fun c_86 => ?_) (fun c_86 => ?_)
                      · refine lv_iconst (v := nI 0) hx hb dX2_combine_93 (by decide) ?_
                        refine lv_goto (tgt := 155) hx hb dX2_combine_94 (by decide) ?_
                        refine xa_zast hx hb hK hP (md_D hao) hS 2 0 rfl rfl (w := w) (b := false) (by omega) (by omega) dX2_combine_155 (fun H locs hP _ hS => ?_)
                        have hP : va_P D vwCl (mdW N bd cZ cI (nI 0) rb (va_up m2 w false) pt) H := hP
                        refine xa_inc (k := 7) (lv' := [(5, .int (nI (w + 1))), (7, .int (nI ((rb (4096 * x2 + w)).toNat))), (6, .int (nI ((rb (4096 * x1 + w)).toNat))), (0, .ref (bd 0)), (1, .int (nI j)), (2, .int (nI o)), (3, .int (nI x1)), (4, .int (nI x2))]) hx hb dX2_combine_156 hl rfl (by decide) rfl (fun ls hl => ?_)
                        refine lv_goto (tgt := 41) hx hb dX2_combine_159 (by decide) ?_
                        exact ih_41 (w + 1) (va_up m2 w false) _ _ _ (by omega) (by omega) (fun z hz => by by_cases hzw : z = w; (subst hzw; rw [va_up_self]; exact cmg_m0 ho c_76 (by simp_all)); (rw [va_up_ne _ _ hzw]; exact hI z (by omega))) hP hS (lv_sub hl [3, 4, 5, 6, 7, 0] rfl)
                      · refine lv_iconst (v := nI 1) hx hb dX2_combine_89 (by decide) ?_
                        refine lv_goto (tgt := 155) hx hb dX2_combine_90 (by decide) ?_
                        refine xa_zast hx hb hK hP (md_D hao) hS 2 0 rfl rfl (w := w) (b := true) (by omega) (by omega) dX2_combine_155 (fun H locs hP _ hS => ?_)
                        have hP : va_P D vwCl (mdW N bd cZ cI (nI 0) rb (va_up m2 w true) pt) H := hP
                        refine xa_inc (k := 7) (lv' := [(5, .int (nI (w + 1))), (7, .int (nI ((rb (4096 * x2 + w)).toNat))), (6, .int (nI ((rb (4096 * x1 + w)).toNat))), (0, .ref (bd 0)), (1, .int (nI j)), (2, .int (nI o)), (3, .int (nI x1)), (4, .int (nI x2))]) hx hb dX2_combine_156 hl rfl (by decide) rfl (fun ls hl => ?_)
                        refine lv_goto (tgt := 41) hx hb dX2_combine_159 (by decide) ?_
                        exact ih_41 (w + 1) (va_up m2 w true) _ _ _ (by omega) (by omega) (fun z hz => by by_cases hzw : z = w; (subst hzw; rw [va_up_self]; exact cmg_m0 ho c_76 (by simp_all)); (rw [va_up_ne _ _ hzw]; exact hI z (by omega))) hP hS (lv_sub hl [3, 4, 5, 6, 7, 0] rfl)
            exact lp_41 (2 ^ N + 1 - 0) 0 mb _ _ _ (by omega) (by omega) (fun z hz => absurd hz (by omega)) hP hS (lv_sub hl [1, 2, 3, 4, 5, 0] rfl)
          · refine lv_iconst (v := nI 0) hx hb dX2_combine_36 (by decide) ?_
            exact W.zret (v := (nI 0)) hx hb hr (by decide) (fun t ht hW => ⟨⟨(nI 0), (rb, mb, pt), rfl, ⟨by rw [(show spM g k op a b = none from if_neg (by simp [c_9, c_16, c_24, isO_gt c_33]))]; rfl, by rw [(show spM g k op a b = none from if_neg (by simp [c_9, c_16, c_24, isO_gt c_33]))]; exact hg⟩, (by show va_P _ _ _ _; rw [ht]; exact hP)⟩, hS.F ht⟩) hS.2.2 dX2_combine_37
end
section
set_option maxHeartbeats 4000000 in
set_option maxRecDepth 100000 in
/-- the reference: choose -/
theorem c_mChoose (l : Launch) (D : va_G) (sz : Nat) (N : Nat) (hN1 : 1 ≤ N) (hN : N ≤ 12) (bd : Nat → Nat) (hao : aok4 (fun _ => True) bd) (cZ cI : ClassId) (th : Int32) (rb mb : Nat → Bool) (pt : Nat → Int32) (g : Nat → Nat → Bool) (hg : okM N rb g) (k a b c1 : Int32) : Met l yX2_choose wsX2_choose ({ frames := 1, cells := 0, slots := 0, locals := 22 } : Room) (va_Pc [.ref (bd 0), .int k, .int a, .int b, .int c1] (wp0 D (mdW N bd cZ cI th rb mb pt) (mdT cZ cI) (fr4 bd sz) sz)) (va_Qi (fun (r : Int32) (u : (Nat → Bool) × (Nat → Bool) × (Nat → Int32)) => r = nI (spH g k a b c1).isSome.toNat ∧ okM N u.1 ((spH g k a b c1).getD g)) (fun (u : (Nat → Bool) × (Nat → Bool) × (Nat → Int32)) t => va_P D vwCl (mdW N bd cZ cI (nI 0) u.1 u.2.1 u.2.2) t.heap) (fr4 bd sz)) 0 0 (fr4 bd sz) := by
  refine Met.ofW (cc := cX2_choose) (maxL := 6) (ret := (some .boolean)) (by decide) rfl ?_
  intro p e s m args below meth c s₁ B hml hv
  obtain ⟨rfl, hsz, hP, hK, htb⟩ := hv
  have hx := B.exec
  have hb := B.bytes
  have hr := B.returns
  have hts := atoms_spec (ws := wsX2_choose) B.pre
  have hown : s.vm.findClass RX2 = some m.cls := findClass_of_methodNamed B.named
  have hlocks := B.notSynchronized
  subst hsz
  generalize hAe : fr4 bd s.heap.size = A at htb ⊢
  have hA : ∀ q : Nat, s.heap.size ≤ q → A q := fun q h => by rw [← hAe]; exact fr4_new q h
  have hao : aok4 A bd := by rw [← hAe]; exact aok4_fr hao
  obtain ⟨⟨tt, hZ, hT⟩, hNst⟩ := id htb
  have hS : va_S A s.heap s.heap [] := va_S.rf
  have hl := lv_entry ([.ref (bd 0), .int k, .int a, .int b, .int c1]) (n := 6) (Nat.le_of_ble_eq_true rfl)
  rw [lg_entry_eq]
  generalize (lg_sl ([.ref (bd 0), .int k, .int a, .int b, .int c1]) ++ List.replicate (6 - (lg_sl ([.ref (bd 0), .int k, .int a, .int b, .int c1])).length) Slot.unset).toArray = ls at hl ⊢
  have hl : lv_has ls 6 [(0, .ref (bd 0)), (1, .int k), (2, .int a), (3, .int b), (4, .int c1)] := hl
  have hnp := np_le hN
  have hnp0 : 0 < 2 ^ N := Nat.two_pow_pos N
  refine lv_aload_n hx hb dX2_choose_0 rfl (lv_at hl 0 rfl) ?_
  refine lv_iconst (v := nI 0) hx hb dX2_choose_1 (by decide) ?_
  refine va_put (D := D) (ci := 2) (v := .int (nI 0)) (ty := .int) (C := RX2) (T := TX2) (N := 6) hx hb hts (fun w h => List.mem_cons_of_mem _ (inBX2 w h)) tyX2 tyX2_ok nmX2 hown hK hP (md_D hao) hS 0 rfl rfl 0 (by decide) (hts (.fieldLink RX2 28 "ForkDeskModel" "thrown" "I") (by decide +kernel)) (fun _ h9 => h9) rfl (by decide +kernel) rfl rfl (Nat.le_of_ble_eq_true rfl) dX2_choose_2 (fun H locs hP _ hS => ?_)
  have hP : va_P D vwCl (mdW N bd cZ cI (nI 0) rb mb pt) H := hP
  refine lv_iload_n hx hb dX2_choose_5 rfl (lv_at hl 1 rfl) ?_
  refine va_calli (va_runS (As := [.int k]) (rest := []) ⟨hx, hb, hml, hown, hts⟩ (c_isRow l D _ k) (va_cwS 1 hts (goodIn_mono gX2_isRow) rfl rfl rfl (by decide +kernel) ⟨Nat.le_of_ble_eq_true rfl, Nat.le_of_ble_eq_true rfl⟩) ⟨wp0_blind, fun U hU hW => wp0_of (va_P.sub hP [] rfl) (hK.sub [] rfl) htb hS no_in hU hW⟩ rfl rfl hl.1 rfl (lv_room (Nat.le_of_ble_eq_true rfl)) dX2_choose_6 ⟨Nat.zero_le _, Nat.zero_le _⟩) hS (fun q _ h => h.elim) (fun q h => h.elim) (fun r_6 u_6 t H1 locs ht hvm hw hB hz1 hk1 hS => ?_)
  have hP := xa_same hP hk1
  clear hz1 hk1 hB ht
  generalize H1 = H at hP hS ⊢
  subst hw
  refine xa_if0 (tgt := 34) hx hb dX2_choose_9 (by decide) (fun c_9 => ?_) (fun c_9 => ?_)
  · refine lv_iconst (v := nI 0) hx hb dX2_choose_34 (by decide) ?_
    exact W.zret (v := (nI 0)) hx hb hr (by decide) (fun t ht hW => ⟨⟨(nI 0), (rb, mb, pt), rfl, ⟨by rw [(show spH g k a b c1 = none from if_neg (by simp [c_9]))]; rfl, by rw [(show spH g k a b c1 = none from if_neg (by simp [c_9]))]; exact hg⟩, (by show va_P _ _ _ _; rw [ht]; exact hP)⟩, hS.F ht⟩) hS.2.2 dX2_choose_35
  · refine lv_iload_n hx hb dX2_choose_12 rfl (lv_at hl 2 rfl) ?_
    refine va_calli (va_runS (As := [.int a]) (rest := []) ⟨hx, hb, hml, hown, hts⟩ (c_isRow l D _ a) (va_cwS 1 hts (goodIn_mono gX2_isRow) rfl rfl rfl (by decide +kernel) ⟨Nat.le_of_ble_eq_true rfl, Nat.le_of_ble_eq_true rfl⟩) ⟨wp0_blind, fun U hU hW => wp0_of (va_P.sub hP [] rfl) (hK.sub [] rfl) htb hS no_in hU hW⟩ rfl rfl hl.1 rfl (lv_room (Nat.le_of_ble_eq_true rfl)) dX2_choose_13 ⟨Nat.zero_le _, Nat.zero_le _⟩) hS (fun q _ h => h.elim) (fun q h => h.elim) (fun r_13 u_13 t H1 locs ht hvm hw hB hz1 hk1 hS => ?_)
    have hP := xa_same hP hk1
    clear hz1 hk1 hB ht
    generalize H1 = H at hP hS ⊢
    subst hw
    refine xa_if0 (tgt := 34) hx hb dX2_choose_16 (by decide) (fun c_16 => ?_) (fun c_16 => ?_)
    · refine lv_iconst (v := nI 0) hx hb dX2_choose_34 (by decide) ?_
      exact W.zret (v := (nI 0)) hx hb hr (by decide) (fun t ht hW => ⟨⟨(nI 0), (rb, mb, pt), rfl, ⟨by rw [(show spH g k a b c1 = none from if_neg (by simp [c_9, c_16]))]; rfl, by rw [(show spH g k a b c1 = none from if_neg (by simp [c_9, c_16]))]; exact hg⟩, (by show va_P _ _ _ _; rw [ht]; exact hP)⟩, hS.F ht⟩) hS.2.2 dX2_choose_35
    · refine lv_iload_n hx hb dX2_choose_19 rfl (lv_at hl 3 rfl) ?_
      refine va_calli (va_runS (As := [.int b]) (rest := []) ⟨hx, hb, hml, hown, hts⟩ (c_isRow l D _ b) (va_cwS 1 hts (goodIn_mono gX2_isRow) rfl rfl rfl (by decide +kernel) ⟨Nat.le_of_ble_eq_true rfl, Nat.le_of_ble_eq_true rfl⟩) ⟨wp0_blind, fun U hU hW => wp0_of (va_P.sub hP [] rfl) (hK.sub [] rfl) htb hS no_in hU hW⟩ rfl rfl hl.1 rfl (lv_room (Nat.le_of_ble_eq_true rfl)) dX2_choose_20 ⟨Nat.zero_le _, Nat.zero_le _⟩) hS (fun q _ h => h.elim) (fun q h => h.elim) (fun r_20 u_20 t H1 locs ht hvm hw hB hz1 hk1 hS => ?_)
      have hP := xa_same hP hk1
      clear hz1 hk1 hB ht
      generalize H1 = H at hP hS ⊢
      subst hw
      refine xa_if0 (tgt := 34) hx hb dX2_choose_23 (by decide) (fun c_23 => ?_) (fun c_23 => ?_)
      · refine lv_iconst (v := nI 0) hx hb dX2_choose_34 (by decide) ?_
        exact W.zret (v := (nI 0)) hx hb hr (by decide) (fun t ht hW => ⟨⟨(nI 0), (rb, mb, pt), rfl, ⟨by rw [(show spH g k a b c1 = none from if_neg (by simp [c_9, c_16, c_23]))]; rfl, by rw [(show spH g k a b c1 = none from if_neg (by simp [c_9, c_16, c_23]))]; exact hg⟩, (by show va_P _ _ _ _; rw [ht]; exact hP)⟩, hS.F ht⟩) hS.2.2 dX2_choose_35
      · refine lv_iload hx hb dX2_choose_26 (lv_at hl 4 rfl) ?_
        refine va_calli (va_runS (As := [.int c1]) (rest := []) ⟨hx, hb, hml, hown, hts⟩ (c_isRow l D _ c1) (va_cwS 1 hts (goodIn_mono gX2_isRow) rfl rfl rfl (by decide +kernel) ⟨Nat.le_of_ble_eq_true rfl, Nat.le_of_ble_eq_true rfl⟩) ⟨wp0_blind, fun U hU hW => wp0_of (va_P.sub hP [] rfl) (hK.sub [] rfl) htb hS no_in hU hW⟩ rfl rfl hl.1 rfl (lv_room (Nat.le_of_ble_eq_true rfl)) dX2_choose_28 ⟨Nat.zero_le _, Nat.zero_le _⟩) hS (fun q _ h => h.elim) (fun q h => h.elim) (fun r_28 u_28 t H1 locs ht hvm hw hB hz1 hk1 hS => ?_)
        have hP := xa_same hP hk1
        clear hz1 hk1 hB ht
        generalize H1 = H at hP hS ⊢
        subst hw
        refine xa_if1 (tgt := 36) hx hb dX2_choose_31 (by decide) (fun c_31 => ?_) (fun c_31 => ?_)
        · obtain ⟨j, hj, ej⟩ := isR_t c_9
          rw [ej] at hl
          obtain ⟨x1, hx1, ex1⟩ := isR_t c_16
          rw [ex1] at hl
          obtain ⟨x2, hx2, ex2⟩ := isR_t c_23
          rw [ex2] at hl
          obtain ⟨x3, hx3, ex3⟩ := isR_t c_31
          rw [ex3] at hl
          have hsp : spH g k a b c1 = some (va_up g j (fun p => if g x1 p = true then g x2 p else g x3 p)) := by unfold spH; rw [if_pos (by rw [c_9, c_16, c_23, c_31]; rfl), ej, ex1, ex2, ex3, ix_nI (by omega), ix_nI (by omega), ix_nI (by omega), ix_nI (by omega)]
          refine lv_iconst (v := nI 0) hx hb dX2_choose_36 (by decide) ?_
          refine lv_istore (lv' := [(5, .int (nI 0)), (0, .ref (bd 0)), (1, .int (nI j)), (2, .int (nI x1)), (3, .int (nI x2)), (4, .int (nI x3))]) hx hb dX2_choose_37 hl (by decide) rfl (fun ls hl => ?_)
          have lp_39 : ∀ (n9 w : Nat) (m2 : Nat → Bool) (H : Heap) (locs : List Loc) (ls : Array Slot), w ≤ 2 ^ N → 2 ^ N + 1 ≤ w + n9 → (∀ z, z < w → m2 z = if rb (4096 * x1 + z) = true then rb (4096 * x2 + z) else rb (4096 * x3 + z)) → va_P D vwCl (mdW N bd cZ cI (nI 0) rb m2 pt) H → va_S A s.heap H locs → lv_has ls 6 [(0, .ref (bd 0)), (1, .int (nI j)), (2, .int (nI x1)), (3, .int (nI x2)), (4, .int (nI x3)), (5, .int (nI w))] → W p l e (headSpec wsX2_choose ({ frames := 1, cells := 0, slots := 0, locals := 22 } : Room)).room s m ([.ref (bd 0), .int k, .int a, .int b, .int c1] : List Value).toArray below meth c H locs 0 0 (MQ below (va_Qi (fun (r : Int32) (u : (Nat → Bool) × (Nat → Bool) × (Nat → Int32)) => r = nI (spH g k a b c1).isSome.toNat ∧ okM N u.1 ((spH g k a b c1).getD g)) (fun (u : (Nat → Bool) × (Nat → Bool) × (Nat → Int32)) t => va_P D vwCl (mdW N bd cZ cI (nI 0) u.1 u.2.1 u.2.2) t.heap) A) ([.ref (bd 0), .int k, .int a, .int b, .int c1] : List Value).toArray s 0 0 A) (F0 m 39 ls []) := by
            intro n9
            induction n9 with
            | zero => intro w m2 H locs ls h1 h2; exact absurd h2 (by omega)
            | succ n9 ih =>
              intro w m2 H locs ls hle_39 hmm_39 hI hP hS hl
              have ih_39 := @ih
              refine lv_iload hx hb dX2_choose_39 (lv_at hl 5 rfl) ?_
              refine lv_aload_n hx hb dX2_choose_41 rfl (lv_at hl 0 rfl) ?_
              refine va_get (D := D) (ci := 2) (C := RX2) (T := TX2) (N := 6) hx hb hts (fun w h => List.mem_cons_of_mem _ (inBX2 w h)) hown hK hP 0 rfl rfl 2 (by decide) (hts (.fieldLink RX2 25 "ForkDeskModel" "points" "I") (by decide +kernel)) (fun _ h9 => h9) rfl dX2_choose_42 ?_
              refine xa_ge (tgt := 89) hx hb (by omega) (by omega) dX2_choose_45 (by decide) (fun c_45 => ?_) (fun c_45 => ?_)
              · refine lv_aload_n hx hb dX2_choose_89 rfl (lv_at hl 0 rfl) ?_
                refine lv_iload_n hx hb dX2_choose_90 rfl (lv_at hl 1 rfl) ?_
                refine va_calli (va_runV (As := [.int (nI j)]) (rest := []) ⟨hx, hb, hml, hown, hts⟩ (c_keep l D _ N hN1 hN bd (aok4_true hao) cZ cI (nI 0) rb m2 pt j (by omega)) (cwV 1 hts (goodIn_mono gX2_keep) rfl rfl rfl (by decide +kernel) ⟨Nat.le_of_ble_eq_true rfl, Nat.le_of_ble_eq_true rfl⟩) ⟨wp0_blind, va_recv hK hP (ci := 2) (q0 := 0) rfl rfl, fun U hU hW => wp0_of hP hK htb hS (fr4_in hao hS hA) hU hW⟩ rfl rfl hl.1 rfl (lv_room (Nat.le_of_ble_eq_true rfl)) dX2_choose_91 ⟨Nat.zero_le _, Nat.zero_le _⟩) hS (fun q _ h => (fr4_in hao hS hA) q h) ((fr4_in hao hS hA)) (fun r_91 u_91 t H1 locs ht hvm hw hB hz1 hk1 hS => ?_)
                rw [ht] at hB
                obtain ⟨hw1, hw2⟩ := hw
                subst hw1
                subst hw2
                have hP := hB
                clear hz1 hk1 hB ht
                generalize H1 = H at hP hS ⊢
                exact W.zret (v := (nI 1)) hx hb hr (by decide) (fun t ht hW => ⟨⟨(nI 1), (kpt rb m2 j (2 ^ N), m2, pt), rfl, ⟨by rw [hsp]; rfl, by rw [hsp]; exact (okM_up hN hg hj (fun z hz => by rw [hI z (by omega), hg x1 z hx1 hz, hg x2 z hx2 hz, hg x3 z hx3 hz]))⟩, (by show va_P _ _ _ _; rw [ht]; exact hP)⟩, hS.F ht⟩) hS.2.2 dX2_choose_94
              · refine lv_aload_n hx hb dX2_choose_48 rfl (lv_at hl 0 rfl) ?_
                refine va_get (D := D) (ci := 2) (C := RX2) (T := TX2) (N := 6) hx hb hts (fun w h => List.mem_cons_of_mem _ (inBX2 w h)) hown hK hP 0 rfl rfl 4 (by decide) (hts (.fieldLink RX2 14 "ForkDeskModel" "made" "[Z") (by decide +kernel)) (fun _ h9 => h9) rfl dX2_choose_49 ?_
                refine lv_iload hx hb dX2_choose_52 (lv_at hl 5 rfl) ?_
                refine lv_aload_n hx hb dX2_choose_54 rfl (lv_at hl 0 rfl) ?_
                refine lv_iload_n hx hb dX2_choose_55 rfl (lv_at hl 2 rfl) ?_
                refine lv_iload hx hb dX2_choose_56 (lv_at hl 5 rfl) ?_
                refine va_calli (va_runV (As := [.int (nI x1), .int (nI w)]) (rest := [.int (nI w), .ref (bd 2)]) ⟨hx, hb, hml, hown, hts⟩ (c_has l D _ N bd cZ (nI 0) rb x1 w (by omega)) (cwV 2 hts (goodIn_mono gX2_has) rfl rfl rfl (by decide +kernel) ⟨Nat.le_of_ble_eq_true rfl, Nat.le_of_ble_eq_true rfl⟩) ⟨wp0_blind, va_recv hK hP (ci := 2) (q0 := 0) rfl rfl, fun U hU hW => wp0_of (hP.sub [0, 1] rfl) (hK.sub [0] rfl) htb hS no_in hU hW⟩ rfl rfl hl.1 rfl (lv_room (Nat.le_of_ble_eq_true rfl)) dX2_choose_58 ⟨Nat.zero_le _, Nat.zero_le _⟩) hS (fun q _ h => h.elim) (fun q h => h.elim) (fun r_58 u_58 t H1 locs ht hvm hw hB hz1 hk1 hS => ?_)
                have hP := xa_same hP hk1
                clear hz1 hk1 hB ht
                generalize H1 = H at hP hS ⊢
                subst hw
                refine xa_if0 (tgt := 74) hx hb dX2_choose_61 (by decide) (fun c_61 => ?_) (fun c_61 => ?_)
                · refine lv_aload_n hx hb dX2_choose_74 rfl (lv_at hl 0 rfl) ?_
                  refine lv_iload hx hb dX2_choose_75 (lv_at hl 4 rfl) ?_
                  refine lv_iload hx hb dX2_choose_77 (lv_at hl 5 rfl) ?_
                  refine va_calli (va_runV (As := [.int (nI x3), .int (nI w)]) (rest := [.int (nI w), .ref (bd 2)]) ⟨hx, hb, hml, hown, hts⟩ (c_has l D _ N bd cZ (nI 0) rb x3 w (by omega)) (cwV 2 hts (goodIn_mono gX2_has) rfl rfl rfl (by decide +kernel) ⟨Nat.le_of_ble_eq_true rfl, Nat.le_of_ble_eq_true rfl⟩) ⟨wp0_blind, va_recv hK hP (ci := 2) (q0 := 0) rfl rfl, fun U hU hW => wp0_of (hP.sub [0, 1] rfl) (hK.sub [0] rfl) htb hS no_in hU hW⟩ rfl rfl hl.1 rfl (lv_room (Nat.le_of_ble_eq_true rfl)) dX2_choose_79 ⟨Nat.zero_le _, Nat.zero_le _⟩) hS (fun q _ h => h.elim) (fun q h => h.elim) (fun r_79 u_79 t H1 locs ht hvm hw hB hz1 hk1 hS => ?_)
                  have hP := xa_same hP hk1
                  clear hz1 hk1 hB ht
                  generalize H1 = H at hP hS ⊢
                  subst hw
                  refine xa_zast hx hb hK hP (md_D hao) hS 2 0 rfl rfl (w := w) (b := (rb (4096 * x3 + w))) (by omega) (by omega) dX2_choose_82 (fun H locs hP _ hS => ?_)
                  have hP : va_P D vwCl (mdW N bd cZ cI (nI 0) rb (va_up m2 w (rb (4096 * x3 + w))) pt) H := hP
                  refine xa_inc (k := 5) (lv' := [(5, .int (nI (w + 1))), (0, .ref (bd 0)), (1, .int (nI j)), (2, .int (nI x1)), (3, .int (nI x2)), (4, .int (nI x3))]) hx hb dX2_choose_83 hl rfl (by decide) rfl (fun ls hl => ?_)
                  refine lv_goto (tgt := 39) hx hb dX2_choose_86 (by decide) ?_
                  exact ih_39 (w + 1) (va_up m2 w (rb (4096 * x3 + w))) _ _ _ (by omega) (by omega) (fun z hz => by by_cases hzw : z = w; (subst hzw; rw [va_up_self]; rw [c_61]; rfl); (rw [va_up_ne _ _ hzw]; exact hI z (by omega))) hP hS (lv_sub hl [1, 2, 3, 4, 5, 0] rfl)
                · refine lv_aload_n hx hb dX2_choose_64 rfl (lv_at hl 0 rfl) ?_
                  refine lv_iload_n hx hb dX2_choose_65 rfl (lv_at hl 3 rfl) ?_
                  refine lv_iload hx hb dX2_choose_66 (lv_at hl 5 rfl) ?_
                  refine va_calli (va_runV (As := [.int (nI x2), .int (nI w)]) (rest := [.int (nI w), .ref (bd 2)]) ⟨hx, hb, hml, hown, hts⟩ (c_has l D _ N bd cZ (nI 0) rb x2 w (by omega)) (cwV 2 hts (goodIn_mono gX2_has) rfl rfl rfl (by decide +kernel) ⟨Nat.le_of_ble_eq_true rfl, Nat.le_of_ble_eq_true rfl⟩) ⟨wp0_blind, va_recv hK hP (ci := 2) (q0 := 0) rfl rfl, fun U hU hW => wp0_of (hP.sub [0, 1] rfl) (hK.sub [0] rfl) htb hS no_in hU hW⟩ rfl rfl hl.1 rfl (lv_room (Nat.le_of_ble_eq_true rfl)) dX2_choose_68 ⟨Nat.zero_le _, Nat.zero_le _⟩) hS (fun q _ h => h.elim) (fun q h => h.elim) (fun r_68 u_68 t H1 locs ht hvm hw hB hz1 hk1 hS => ?_)
                  have hP := xa_same hP hk1
                  clear hz1 hk1 hB ht
                  generalize H1 = H at hP hS ⊢
                  subst hw
                  refine lv_goto (tgt := 82) hx hb dX2_choose_71 (by decide) ?_
                  refine xa_zast hx hb hK hP (md_D hao) hS 2 0 rfl rfl (w := w) (b := (rb (4096 * x2 + w))) (by omega) (by omega) dX2_choose_82 (fun H locs hP _ hS => ?_)
                  have hP : va_P D vwCl (mdW N bd cZ cI (nI 0) rb (va_up m2 w (rb (4096 * x2 + w))) pt) H := hP
                  refine xa_inc (k := 5) (lv' := [(5, .int (nI (w + 1))), (0, .ref (bd 0)), (1, .int (nI j)), (2, .int (nI x1)), (3, .int (nI x2)), (4, .int (nI x3))]) hx hb dX2_choose_83 hl rfl (by decide) rfl (fun ls hl => ?_)
                  refine lv_goto (tgt := 39) hx hb dX2_choose_86 (by decide) ?_
                  exact ih_39 (w + 1) (va_up m2 w (rb (4096 * x2 + w))) _ _ _ (by omega) (by omega) (fun z hz => by by_cases hzw : z = w; (subst hzw; rw [va_up_self]; rw [c_61]; rfl); (rw [va_up_ne _ _ hzw]; exact hI z (by omega))) hP hS (lv_sub hl [1, 2, 3, 4, 5, 0] rfl)
          exact lp_39 (2 ^ N + 1 - 0) 0 mb _ _ _ (by omega) (by omega) (fun z hz => absurd hz (by omega)) hP hS (lv_sub hl [1, 2, 3, 4, 5, 0] rfl)
        · refine lv_iconst (v := nI 0) hx hb dX2_choose_34 (by decide) ?_
          exact W.zret (v := (nI 0)) hx hb hr (by decide) (fun t ht hW => ⟨⟨(nI 0), (rb, mb, pt), rfl, ⟨by rw [(show spH g k a b c1 = none from if_neg (by simp [c_9, c_16, c_23, c_31]))]; rfl, by rw [(show spH g k a b c1 = none from if_neg (by simp [c_9, c_16, c_23, c_31]))]; exact hg⟩, (by show va_P _ _ _ _; rw [ht]; exact hP)⟩, hS.F ht⟩) hS.2.2 dX2_choose_35
end
section
/-- a point with bit b set to v -/
def fxi (p b : Nat) (v : Bool) : Nat := if p.testBit b = v then p else p ^^^ 2 ^ b
theorem fxi_lt {N p b : Nat} {v : Bool} (hp : p < 2 ^ N) (hb : b < N) : fxi p b v < 2 ^ N := by
  unfold fxi
  split
  · exact hp
  · exact xr_lt hp hb
theorem fxi_t {p b : Nat} : p ||| 2 ^ b = fxi p b true := by
  unfold fxi
  apply Nat.eq_of_testBit_eq
  intro j
  rw [Nat.testBit_or, Nat.testBit_two_pow]
  by_cases hp : p.testBit b = true
  · rw [if_pos hp]
    by_cases e : b = j
    · subst e; rw [hp]; rfl
    · rw [decide_eq_false e, Bool.or_false]
  · rw [if_neg hp, Nat.testBit_xor, Nat.testBit_two_pow]
    by_cases e : b = j
    · subst e
      rw [decide_eq_true rfl, Bool.or_true]
      cases h : p.testBit b with
      | false => rfl
      | true => exact absurd h hp
    · rw [decide_eq_false e, Bool.or_false, Bool.xor_false]
theorem fxi_f {p b : Nat} (hb : b < 32) : (nI p) &&& ((nI (2 ^ b)) ^^^ (-1)) = nI (fxi p b false) := by
  apply Int32.toBitVec_inj.1
  show BitVec.ofNat 32 p &&& (BitVec.ofNat 32 (2 ^ b) ^^^ BitVec.allOnes 32) = BitVec.ofNat 32 (fxi p b false)
  apply BitVec.eq_of_getLsbD_eq
  intro i hi
  rw [BitVec.getLsbD_and, BitVec.getLsbD_xor, BitVec.getLsbD_ofNat, BitVec.getLsbD_ofNat, BitVec.getLsbD_ofNat, BitVec.getLsbD_allOnes, Nat.testBit_two_pow]
  simp only [hi, decide_true, Bool.true_and]
  unfold fxi
  by_cases hp : p.testBit b = false
  · rw [if_pos hp]
    by_cases e : b = i
    · subst e; rw [hp]; rfl
    · rw [decide_eq_false e]; simp
  · rw [if_neg hp, Nat.testBit_xor, Nat.testBit_two_pow]
    by_cases e : b = i
    · subst e
      rw [decide_eq_true rfl]
      cases h : p.testBit b with
      | false => exact absurd h hp
      | true => rfl
    · rw [decide_eq_false e]; simp
/-- exists, in place: points below w done -/
theorem ex_t {P w B : Nat} {m3 m4 : Nat → Bool} (_ : 0 ≤ w) (hL : ∀ z, z < P → m4 z = (m3 z || (decide (z ^^^ 2 ^ B < w) && m3 (z ^^^ 2 ^ B)))) (hw : w < P) (hm : m4 w = true) : ∀ z, z < P → va_up m4 (w ^^^ 2 ^ B) true z = (m3 z || (decide (z ^^^ 2 ^ B < w + 1) && m3 (z ^^^ 2 ^ B))) := fun z hz => by
  have h1 := hL w hw
  rw [hm] at h1
  by_cases e : z = w ^^^ 2 ^ B
  · subst e
    rw [va_up_self, xr_xr, decide_eq_true (Nat.lt_succ_self w), Bool.true_and]
    revert h1
    cases m3 w <;> cases m3 (w ^^^ 2 ^ B) <;> simp
  · rw [va_up_ne _ _ e, hL z hz]
    have e2 : ¬ z ^^^ 2 ^ B = w := fun q => e (by rw [← q, xr_xr])
    rw [decide_lt_s e2]
theorem ex_f {P w B : Nat} {m3 m4 : Nat → Bool} (hL : ∀ z, z < P → m4 z = (m3 z || (decide (z ^^^ 2 ^ B < w) && m3 (z ^^^ 2 ^ B)))) (hw : w < P) (hm : m4 w = false) : ∀ z, z < P → m4 z = (m3 z || (decide (z ^^^ 2 ^ B < w + 1) && m3 (z ^^^ 2 ^ B))) := fun z hz => by
  have h1 := hL w hw
  rw [hm] at h1
  have h2 : m3 w = false := by
    revert h1
    cases m3 w <;> simp
  rw [hL z hz]
  by_cases e : z ^^^ 2 ^ B = w
  · rw [e, h2, Bool.and_false, Bool.and_false]
  · rw [decide_lt_s e]
theorem arR_in {f : Int32} {c : Nat} (h1 : ¬ f < 0) (h2 : f ≤ nI (32 - c)) : arR f c = true := decide_eq_true ⟨h1, fun q => by rw [Int32.lt_iff_toInt_lt] at q; rw [Int32.le_iff_toInt_le] at h2; omega⟩
theorem arR_lt {f : Int32} {c : Nat} (h : f < 0) : arR f c = false := decide_eq_false (fun q => q.1 h)
theorem arR_gt {f : Int32} {c : Nat} (h : ¬ f ≤ nI (32 - c)) : arR f c = false := decide_eq_false (fun q => q.2 (Int32.not_le.mp h))
theorem xr_cancel (p q : Nat) : p ^^^ (p ^^^ q) = q := by rw [← Nat.xor_assoc, Nat.xor_self, Nat.zero_xor]
theorem xr_ltN {N p d : Nat} (hp : p < 2 ^ N) (hd : d < 2 ^ N) : p ^^^ d < 2 ^ N := Nat.xor_lt_two_pow hp hd
theorem near_hit {N x1 x2 w d : Nat} {rb : Nat → Bool} {g : Nat → Nat → Bool} (hg : okM N rb g) (hx1 : x1 < 32) (hx2 : x2 < 32) (hw : w < 2 ^ N) (hd : d < 2 ^ N) (h1 : rb (4096 * x2 + (w ^^^ d)) = true) (h0 : ∀ y, y < d → rb (4096 * x2 + (w ^^^ y)) = false) : ng (g x1) (g x2) N w = rb (4096 * x1 + (w ^^^ d)) := by
  rw [hg x2 _ hx2 (xr_ltN hw hd)] at h1
  rw [hg x1 _ hx1 (xr_ltN hw hd)]
  unfold ng
  cases hq : nq (g x2) N w with
  | none =>
    exact absurd (show w ^^^ (w ^^^ d) < 2 ^ N by rw [xr_cancel]; exact hd) (nq_none hq _ h1)
  | some q =>
    obtain ⟨a1, a2, a3⟩ := nq_some hq
    have a4 := a3 _ h1 (by rw [xr_cancel]; exact hd)
    rw [xr_cancel] at a4
    have e : w ^^^ q = d := by
      rcases Nat.lt_or_ge (w ^^^ q) d with h9 | h9
      · have := h0 _ h9
        rw [xr_cancel, hg x2 q hx2 (by have := xr_ltN hw a2; rw [xr_cancel] at this; exact this), a1] at this
        cases this
      · omega
    show g x1 q = g x1 (w ^^^ d)
    rw [← e, xr_cancel]
theorem near_no {N x1 x2 w : Nat} {rb : Nat → Bool} {g : Nat → Nat → Bool} (hg : okM N rb g) (hx2 : x2 < 32) (hw : w < 2 ^ N) (h0 : ∀ y, y < 2 ^ N → rb (4096 * x2 + (w ^^^ y)) = false) : ng (g x1) (g x2) N w = false := by
  unfold ng
  cases hq : nq (g x2) N w with
  | none => rfl
  | some q =>
    obtain ⟨a1, a2, a3⟩ := nq_some hq
    have := h0 _ a2
    rw [xr_cancel, hg x2 q hx2 (by have := xr_ltN hw a2; rw [xr_cancel] at this; exact this), a1] at this
    cases this
end
section
set_option maxHeartbeats 4000000 in
set_option maxRecDepth 100000 in
/-- the reference: fix -/
theorem c_mFix (l : Launch) (D : va_G) (sz : Nat) (N : Nat) (hN1 : 1 ≤ N) (hN : N ≤ 12) (bd : Nat → Nat) (hao : aok4 (fun _ => True) bd) (cZ cI : ClassId) (th : Int32) (rb mb : Nat → Bool) (pt : Nat → Int32) (g : Nat → Nat → Bool) (hg : okM N rb g) (k a v x : Int32) : Met l yX2_fix wsX2_fix ({ frames := 1, cells := 0, slots := 0, locals := 22 } : Room) (va_Pc [.ref (bd 0), .int k, .int a, .int v, .int x] (wp0 D (mdW N bd cZ cI th rb mb pt) (mdT cZ cI) (fr4 bd sz) sz)) (va_Qi (fun (r : Int32) (u : (Nat → Bool) × (Nat → Bool) × (Nat → Int32)) => r = nI (spF N g k a v x).isSome.toNat ∧ okM N u.1 ((spF N g k a v x).getD g)) (fun (u : (Nat → Bool) × (Nat → Bool) × (Nat → Int32)) t => va_P D vwCl (mdW N bd cZ cI (nI 0) u.1 u.2.1 u.2.2) t.heap) (fr4 bd sz)) 0 0 (fr4 bd sz) := by
  refine Met.ofW (cc := cX2_fix) (maxL := 7) (ret := (some .boolean)) (by decide) rfl ?_
  intro p e s m args below meth c s₁ B hml hv
  obtain ⟨rfl, hsz, hP, hK, htb⟩ := hv
  have hx := B.exec
  have hb := B.bytes
  have hr := B.returns
  have hts := atoms_spec (ws := wsX2_fix) B.pre
  have hown : s.vm.findClass RX2 = some m.cls := findClass_of_methodNamed B.named
  have hlocks := B.notSynchronized
  subst hsz
  generalize hAe : fr4 bd s.heap.size = A at htb ⊢
  have hA : ∀ q : Nat, s.heap.size ≤ q → A q := fun q h => by rw [← hAe]; exact fr4_new q h
  have hao : aok4 A bd := by rw [← hAe]; exact aok4_fr hao
  obtain ⟨⟨tt, hZ, hT⟩, hNst⟩ := id htb
  have hS : va_S A s.heap s.heap [] := va_S.rf
  have hl := lv_entry ([.ref (bd 0), .int k, .int a, .int v, .int x]) (n := 7) (Nat.le_of_ble_eq_true rfl)
  rw [lg_entry_eq]
  generalize (lg_sl ([.ref (bd 0), .int k, .int a, .int v, .int x]) ++ List.replicate (7 - (lg_sl ([.ref (bd 0), .int k, .int a, .int v, .int x])).length) Slot.unset).toArray = ls at hl ⊢
  have hl : lv_has ls 7 [(0, .ref (bd 0)), (1, .int k), (2, .int a), (3, .int v), (4, .int x)] := hl
  have hnp := np_le hN
  have hnp0 : 0 < 2 ^ N := Nat.two_pow_pos N
  refine lv_aload_n hx hb dX2_fix_0 rfl (lv_at hl 0 rfl) ?_
  refine lv_iconst (v := nI 0) hx hb dX2_fix_1 (by decide) ?_
  refine va_put (D := D) (ci := 2) (v := .int (nI 0)) (ty := .int) (C := RX2) (T := TX2) (N := 6) hx hb hts (fun w h => List.mem_cons_of_mem _ (inBX2 w h)) tyX2 tyX2_ok nmX2 hown hK hP (md_D hao) hS 0 rfl rfl 0 (by decide) (hts (.fieldLink RX2 28 "ForkDeskModel" "thrown" "I") (by decide +kernel)) (fun _ h9 => h9) rfl (by decide +kernel) rfl rfl (Nat.le_of_ble_eq_true rfl) dX2_fix_2 (fun H locs hP _ hS => ?_)
  have hP : va_P D vwCl (mdW N bd cZ cI (nI 0) rb mb pt) H := hP
  refine lv_iload_n hx hb dX2_fix_5 rfl (lv_at hl 1 rfl) ?_
  refine va_calli (va_runS (As := [.int k]) (rest := []) ⟨hx, hb, hml, hown, hts⟩ (c_isRow l D _ k) (va_cwS 1 hts (goodIn_mono gX2_isRow) rfl rfl rfl (by decide +kernel) ⟨Nat.le_of_ble_eq_true rfl, Nat.le_of_ble_eq_true rfl⟩) ⟨wp0_blind, fun U hU hW => wp0_of (va_P.sub hP [] rfl) (hK.sub [] rfl) htb hS no_in hU hW⟩ rfl rfl hl.1 rfl (lv_room (Nat.le_of_ble_eq_true rfl)) dX2_fix_6 ⟨Nat.zero_le _, Nat.zero_le _⟩) hS (fun q _ h => h.elim) (fun q h => h.elim) (fun r_6 u_6 t H1 locs ht hvm hw hB hz1 hk1 hS => ?_)
  have hP := xa_same hP hk1
  clear hz1 hk1 hB ht
  generalize H1 = H at hP hS ⊢
  subst hw
  refine xa_if0 (tgt := 38) hx hb dX2_fix_9 (by decide) (fun c_9 => ?_) (fun c_9 => ?_)
  · refine lv_iconst (v := nI 0) hx hb dX2_fix_38 (by decide) ?_
    exact W.zret (v := (nI 0)) hx hb hr (by decide) (fun t ht hW => ⟨⟨(nI 0), (rb, mb, pt), rfl, ⟨by rw [(show spF N g k a v x = none from if_neg (by simp [c_9]))]; rfl, by rw [(show spF N g k a v x = none from if_neg (by simp [c_9]))]; exact hg⟩, (by show va_P _ _ _ _; rw [ht]; exact hP)⟩, hS.F ht⟩) hS.2.2 dX2_fix_39
  · refine lv_iload_n hx hb dX2_fix_12 rfl (lv_at hl 2 rfl) ?_
    refine va_calli (va_runS (As := [.int a]) (rest := []) ⟨hx, hb, hml, hown, hts⟩ (c_isRow l D _ a) (va_cwS 1 hts (goodIn_mono gX2_isRow) rfl rfl rfl (by decide +kernel) ⟨Nat.le_of_ble_eq_true rfl, Nat.le_of_ble_eq_true rfl⟩) ⟨wp0_blind, fun U hU hW => wp0_of (va_P.sub hP [] rfl) (hK.sub [] rfl) htb hS no_in hU hW⟩ rfl rfl hl.1 rfl (lv_room (Nat.le_of_ble_eq_true rfl)) dX2_fix_13 ⟨Nat.zero_le _, Nat.zero_le _⟩) hS (fun q _ h => h.elim) (fun q h => h.elim) (fun r_13 u_13 t H1 locs ht hvm hw hB hz1 hk1 hS => ?_)
    have hP := xa_same hP hk1
    clear hz1 hk1 hB ht
    generalize H1 = H at hP hS ⊢
    subst hw
    refine xa_if0 (tgt := 38) hx hb dX2_fix_16 (by decide) (fun c_16 => ?_) (fun c_16 => ?_)
    · refine lv_iconst (v := nI 0) hx hb dX2_fix_38 (by decide) ?_
      exact W.zret (v := (nI 0)) hx hb hr (by decide) (fun t ht hW => ⟨⟨(nI 0), (rb, mb, pt), rfl, ⟨by rw [(show spF N g k a v x = none from if_neg (by simp [c_9, c_16]))]; rfl, by rw [(show spF N g k a v x = none from if_neg (by simp [c_9, c_16]))]; exact hg⟩, (by show va_P _ _ _ _; rw [ht]; exact hP)⟩, hS.F ht⟩) hS.2.2 dX2_fix_39
    · refine lv_aload_n hx hb dX2_fix_19 rfl (lv_at hl 0 rfl) ?_
      refine lv_iload_n hx hb dX2_fix_20 rfl (lv_at hl 3 rfl) ?_
      refine va_calli (va_runV (As := [.int v]) (rest := []) ⟨hx, hb, hml, hown, hts⟩ (c_isVariableM l D _ N bd (nI 0) v) (cwV 1 hts (goodIn_mono gX2_isVariable) rfl rfl rfl (by decide +kernel) ⟨Nat.le_of_ble_eq_true rfl, Nat.le_of_ble_eq_true rfl⟩) ⟨wp0_blind, va_recv hK hP (ci := 2) (q0 := 0) rfl rfl, fun U hU hW => wp0_of (va_one hP 0 rfl) (hK.sub [] rfl) htb hS no_in hU hW⟩ rfl rfl hl.1 rfl (lv_room (Nat.le_of_ble_eq_true rfl)) dX2_fix_21 ⟨Nat.zero_le _, Nat.zero_le _⟩) hS (fun q _ h => h.elim) (fun q h => h.elim) (fun r_21 u_21 t H1 locs ht hvm hw hB hz1 hk1 hS => ?_)
      have hP := xa_same hP hk1
      clear hz1 hk1 hB ht
      generalize H1 = H at hP hS ⊢
      subst hw
      refine xa_if0 (tgt := 38) hx hb dX2_fix_24 (by decide) (fun c_24 => ?_) (fun c_24 => ?_)
      · refine lv_iconst (v := nI 0) hx hb dX2_fix_38 (by decide) ?_
        exact W.zret (v := (nI 0)) hx hb hr (by decide) (fun t ht hW => ⟨⟨(nI 0), (rb, mb, pt), rfl, ⟨by rw [(show spF N g k a v x = none from if_neg (by simp [c_9, c_16, c_24]))]; rfl, by rw [(show spF N g k a v x = none from if_neg (by simp [c_9, c_16, c_24]))]; exact hg⟩, (by show va_P _ _ _ _; rw [ht]; exact hP)⟩, hS.F ht⟩) hS.2.2 dX2_fix_39
      · refine lv_iload hx hb dX2_fix_27 (lv_at hl 4 rfl) ?_
        refine lv_if_lt (tgt := 38) hx hb dX2_fix_29 (by decide) (fun c_29 => ?_) (fun c_29 => ?_)
        · refine lv_iconst (v := nI 0) hx hb dX2_fix_38 (by decide) ?_
          exact W.zret (v := (nI 0)) hx hb hr (by decide) (fun t ht hW => ⟨⟨(nI 0), (rb, mb, pt), rfl, ⟨by rw [(show spF N g k a v x = none from if_neg (by simp [c_9, c_16, c_24, isB_lt c_29]))]; rfl, by rw [(show spF N g k a v x = none from if_neg (by simp [c_9, c_16, c_24, isB_lt c_29]))]; exact hg⟩, (by show va_P _ _ _ _; rw [ht]; exact hP)⟩, hS.F ht⟩) hS.2.2 dX2_fix_39
        · refine lv_iload hx hb dX2_fix_32 (lv_at hl 4 rfl) ?_
          refine lv_iconst (v := nI 1) hx hb dX2_fix_34 (by decide) ?_
          refine lv_icmp_le (tgt := 40) hx hb dX2_fix_35 (by decide) (fun c_35 => ?_) (fun c_35 => ?_)
          · have hBt : isB x = true := isB_in c_29 c_35
            obtain ⟨j, hj, ej⟩ := isR_t c_9
            rw [ej] at hl
            obtain ⟨x1, hx1, ex1⟩ := isR_t c_16
            rw [ex1] at hl
            obtain ⟨i, hi1, hi, ei⟩ := isV_t hN c_24
            rw [ei] at hl
            obtain ⟨bv, ebv⟩ := isB_t hBt
            rw [ebv] at hl
            have hbv := tn_le bv
            have hsp : spF N g k a v x = some (va_up g j (fx (g x1) (N - i) bv)) := by unfold spF; rw [if_pos (by rw [c_9, c_16, c_24, hBt]; rfl), ej, ex1, ei, ebv, ix_nI (by omega), ix_nI (by omega), ix_nI (by omega), tn_d]
            refine lv_iconst (v := nI 1) hx hb dX2_fix_40 (by decide) ?_
            refine lv_aload_n hx hb dX2_fix_41 rfl (lv_at hl 0 rfl) ?_
            refine va_get (D := D) (ci := 2) (C := RX2) (T := TX2) (N := 6) hx hb hts (fun w h => List.mem_cons_of_mem _ (inBX2 w h)) hown hK hP 0 rfl rfl 1 (by decide) (hts (.fieldLink RX2 21 "ForkDeskModel" "n" "I") (by decide +kernel)) (fun _ h9 => h9) rfl dX2_fix_42 ?_
            refine lv_iload_n hx hb dX2_fix_45 rfl (lv_at hl 3 rfl) ?_
            refine xa_isub hx hb (by omega) dX2_fix_46 ?_
            refine xa_ishl1 hx hb (by omega) dX2_fix_47 ?_
            refine lv_istore (lv' := [(5, .int (nI (2 ^ (N - i)))), (0, .ref (bd 0)), (1, .int (nI j)), (2, .int (nI x1)), (3, .int (nI i)), (4, .int (nI bv.toNat))]) hx hb dX2_fix_48 hl (by decide) rfl (fun ls hl => ?_)
            refine lv_iconst (v := nI 0) hx hb dX2_fix_50 (by decide) ?_
            refine lv_istore (lv' := [(6, .int (nI 0)), (5, .int (nI (2 ^ (N - i)))), (0, .ref (bd 0)), (1, .int (nI j)), (2, .int (nI x1)), (3, .int (nI i)), (4, .int (nI bv.toNat))]) hx hb dX2_fix_51 hl (by decide) rfl (fun ls hl => ?_)
            have lp_53 : ∀ (n9 w : Nat) (m2 : Nat → Bool) (H : Heap) (locs : List Loc) (ls : Array Slot), w ≤ 2 ^ N → 2 ^ N + 1 ≤ w + n9 → (∀ z, z < w → m2 z = rb (4096 * x1 + fxi z (N - i) bv)) → va_P D vwCl (mdW N bd cZ cI (nI 0) rb m2 pt) H → va_S A s.heap H locs → lv_has ls 7 [(0, .ref (bd 0)), (1, .int (nI j)), (2, .int (nI x1)), (3, .int (nI i)), (4, .int (nI bv.toNat)), (5, .int (nI (2 ^ (N - i)))), (6, .int (nI w))] → W p l e (headSpec wsX2_fix ({ frames := 1, cells := 0, slots := 0, locals := 22 } : Room)).room s m ([.ref (bd 0), .int k, .int a, .int v, .int x] : List Value).toArray below meth c H locs 0 0 (MQ below (va_Qi (fun (r : Int32) (u : (Nat → Bool) × (Nat → Bool) × (Nat → Int32)) => r = nI (spF N g k a v x).isSome.toNat ∧ okM N u.1 ((spF N g k a v x).getD g)) (fun (u : (Nat → Bool) × (Nat → Bool) × (Nat → Int32)) t => va_P D vwCl (mdW N bd cZ cI (nI 0) u.1 u.2.1 u.2.2) t.heap) A) ([.ref (bd 0), .int k, .int a, .int v, .int x] : List Value).toArray s 0 0 A) (F0 m 53 ls []) := by
              intro n9
              induction n9 with
              | zero => intro w m2 H locs ls h1 h2; exact absurd h2 (by omega)
              | succ n9 ih =>
                intro w m2 H locs ls hle_53 hmm_53 hI hP hS hl
                have ih_53 := @ih
                refine lv_iload hx hb dX2_fix_53 (lv_at hl 6 rfl) ?_
                refine lv_aload_n hx hb dX2_fix_55 rfl (lv_at hl 0 rfl) ?_
                refine va_get (D := D) (ci := 2) (C := RX2) (T := TX2) (N := 6) hx hb hts (fun w h => List.mem_cons_of_mem _ (inBX2 w h)) hown hK hP 0 rfl rfl 2 (by decide) (hts (.fieldLink RX2 25 "ForkDeskModel" "points" "I") (by decide +kernel)) (fun _ h9 => h9) rfl dX2_fix_56 ?_
                refine xa_ge (tgt := 101) hx hb (by omega) (by omega) dX2_fix_59 (by decide) (fun c_59 => ?_) (fun c_59 => ?_)
                · refine lv_aload_n hx hb dX2_fix_101 rfl (lv_at hl 0 rfl) ?_
                  refine lv_iload_n hx hb dX2_fix_102 rfl (lv_at hl 1 rfl) ?_
                  refine va_calli (va_runV (As := [.int (nI j)]) (rest := []) ⟨hx, hb, hml, hown, hts⟩ (c_keep l D _ N hN1 hN bd (aok4_true hao) cZ cI (nI 0) rb m2 pt j (by omega)) (cwV 1 hts (goodIn_mono gX2_keep) rfl rfl rfl (by decide +kernel) ⟨Nat.le_of_ble_eq_true rfl, Nat.le_of_ble_eq_true rfl⟩) ⟨wp0_blind, va_recv hK hP (ci := 2) (q0 := 0) rfl rfl, fun U hU hW => wp0_of hP hK htb hS (fr4_in hao hS hA) hU hW⟩ rfl rfl hl.1 rfl (lv_room (Nat.le_of_ble_eq_true rfl)) dX2_fix_103 ⟨Nat.zero_le _, Nat.zero_le _⟩) hS (fun q _ h => (fr4_in hao hS hA) q h) ((fr4_in hao hS hA)) (fun r_103 u_103 t H1 locs ht hvm hw hB hz1 hk1 hS => ?_)
                  rw [ht] at hB
                  obtain ⟨hw1, hw2⟩ := hw
                  subst hw1
                  subst hw2
                  have hP := hB
                  clear hz1 hk1 hB ht
                  generalize H1 = H at hP hS ⊢
                  exact W.zret (v := (nI 1)) hx hb hr (by decide) (fun t ht hW => ⟨⟨(nI 1), (kpt rb m2 j (2 ^ N), m2, pt), rfl, ⟨by rw [hsp]; rfl, by rw [hsp]; exact (okM_up hN hg hj (fun z hz => by rw [hI z (by omega), hg x1 _ hx1 (fxi_lt hz (show N - i < N by omega))]; rfl))⟩, (by show va_P _ _ _ _; rw [ht]; exact hP)⟩, hS.F ht⟩) hS.2.2 dX2_fix_106
                · refine lv_aload_n hx hb dX2_fix_62 rfl (lv_at hl 0 rfl) ?_
                  refine va_get (D := D) (ci := 2) (C := RX2) (T := TX2) (N := 6) hx hb hts (fun w h => List.mem_cons_of_mem _ (inBX2 w h)) hown hK hP 0 rfl rfl 4 (by decide) (hts (.fieldLink RX2 14 "ForkDeskModel" "made" "[Z") (by decide +kernel)) (fun _ h9 => h9) rfl dX2_fix_63 ?_
                  refine lv_iload hx hb dX2_fix_66 (lv_at hl 6 rfl) ?_
                  refine lv_aload_n hx hb dX2_fix_68 rfl (lv_at hl 0 rfl) ?_
                  refine lv_iload_n hx hb dX2_fix_69 rfl (lv_at hl 2 rfl) ?_
                  refine lv_iload hx hb dX2_fix_70 (lv_at hl 4 rfl) ?_
                  refine lv_iconst (v := nI 1) hx hb dX2_fix_72 (by decide) ?_
                  refine xa_ne (tgt := 84) hx hb (by omega) (by omega) dX2_fix_73 (by decide) (fun c_73 => ?_) (fun c_73 => ?_)
                  · refine lv_iload hx hb dX2_fix_84 (lv_at hl 6 rfl) ?_
                    refine lv_iload hx hb dX2_fix_86 (lv_at hl 5 rfl) ?_
                    refine lv_iconst (v := (-1)) hx hb dX2_fix_88 (by decide) ?_
                    refine lv_ixor hx hb dX2_fix_89 ?_
                    refine lv_iand hx hb dX2_fix_90 ?_
                    rw [fxi_f (show N - i < 32 by omega)]
                    have hfx := fxi_lt (v := false) c_59 (show N - i < N by omega)
                    refine va_calli (va_runV (As := [.int (nI x1), .int (nI (fxi w (N - i) false))]) (rest := [.int (nI w), .ref (bd 2)]) ⟨hx, hb, hml, hown, hts⟩ (c_has l D _ N bd cZ (nI 0) rb x1 (fxi w (N - i) false) (by omega)) (cwV 2 hts (goodIn_mono gX2_has) rfl rfl rfl (by decide +kernel) ⟨Nat.le_of_ble_eq_true rfl, Nat.le_of_ble_eq_true rfl⟩) ⟨wp0_blind, va_recv hK hP (ci := 2) (q0 := 0) rfl rfl, fun U hU hW => wp0_of (hP.sub [0, 1] rfl) (hK.sub [0] rfl) htb hS no_in hU hW⟩ rfl rfl hl.1 rfl (lv_room (Nat.le_of_ble_eq_true rfl)) dX2_fix_91 ⟨Nat.zero_le _, Nat.zero_le _⟩) hS (fun q _ h => h.elim) (fun q h => h.elim) (fun r_91 u_91 t H1 locs ht hvm hw hB hz1 hk1 hS => ?_)
                    have hP := xa_same hP hk1
                    clear hz1 hk1 hB ht
                    generalize H1 = H at hP hS ⊢
                    subst hw
                    refine xa_zast hx hb hK hP (md_D hao) hS 2 0 rfl rfl (w := w) (b := (rb (4096 * x1 + (fxi w (N - i) false)))) (by omega) (by omega) dX2_fix_94 (fun H locs hP _ hS => ?_)
                    have hP : va_P D vwCl (mdW N bd cZ cI (nI 0) rb (va_up m2 w (rb (4096 * x1 + (fxi w (N - i) false)))) pt) H := hP
                    refine xa_inc (k := 6) (lv' := [(6, .int (nI (w + 1))), (0, .ref (bd 0)), (1, .int (nI j)), (2, .int (nI x1)), (3, .int (nI i)), (4, .int (nI bv.toNat)), (5, .int (nI (2 ^ (N - i))))]) hx hb dX2_fix_95 hl rfl (by decide) rfl (fun ls hl => ?_)
                    refine lv_goto (tgt := 53) hx hb dX2_fix_98 (by decide) ?_
                    exact ih_53 (w + 1) (va_up m2 w (rb (4096 * x1 + (fxi w (N - i) false)))) _ _ _ (by omega) (by omega) (fun z hz => by by_cases hzw : z = w; (subst hzw; rw [va_up_self]; first | rw [tn_1 c_73] | rw [tn_f c_73]); (rw [va_up_ne _ _ hzw]; exact hI z (by omega))) hP hS (lv_sub hl [1, 2, 3, 4, 5, 6, 0] rfl)
                  · refine lv_iload hx hb dX2_fix_76 (lv_at hl 6 rfl) ?_
                    refine lv_iload hx hb dX2_fix_78 (lv_at hl 5 rfl) ?_
                    refine xa_ior hx hb dX2_fix_80 ?_
                    refine lv_goto (tgt := 91) hx hb dX2_fix_81 (by decide) ?_
                    rw [fxi_t]
                    have hfx := fxi_lt (v := true) c_59 (show N - i < N by omega)
                    refine va_calli (va_runV (As := [.int (nI x1), .int (nI (fxi w (N - i) true))]) (rest := [.int (nI w), .ref (bd 2)]) ⟨hx, hb, hml, hown, hts⟩ (c_has l D _ N bd cZ (nI 0) rb x1 (fxi w (N - i) true) (by omega)) (cwV 2 hts (goodIn_mono gX2_has) rfl rfl rfl (by decide +kernel) ⟨Nat.le_of_ble_eq_true rfl, Nat.le_of_ble_eq_true rfl⟩) ⟨wp0_blind, va_recv hK hP (ci := 2) (q0 := 0) rfl rfl, fun U hU hW => wp0_of (hP.sub [0, 1] rfl) (hK.sub [0] rfl) htb hS no_in hU hW⟩ rfl rfl hl.1 rfl (lv_room (Nat.le_of_ble_eq_true rfl)) dX2_fix_91 ⟨Nat.zero_le _, Nat.zero_le _⟩) hS (fun q _ h => h.elim) (fun q h => h.elim) (fun r_91 u_91 t H1 locs ht hvm hw hB hz1 hk1 hS => ?_)
                    have hP := xa_same hP hk1
                    clear hz1 hk1 hB ht
                    generalize H1 = H at hP hS ⊢
                    subst hw
                    refine xa_zast hx hb hK hP (md_D hao) hS 2 0 rfl rfl (w := w) (b := (rb (4096 * x1 + (fxi w (N - i) true)))) (by omega) (by omega) dX2_fix_94 (fun H locs hP _ hS => ?_)
                    have hP : va_P D vwCl (mdW N bd cZ cI (nI 0) rb (va_up m2 w (rb (4096 * x1 + (fxi w (N - i) true)))) pt) H := hP
                    refine xa_inc (k := 6) (lv' := [(6, .int (nI (w + 1))), (0, .ref (bd 0)), (1, .int (nI j)), (2, .int (nI x1)), (3, .int (nI i)), (4, .int (nI bv.toNat)), (5, .int (nI (2 ^ (N - i))))]) hx hb dX2_fix_95 hl rfl (by decide) rfl (fun ls hl => ?_)
                    refine lv_goto (tgt := 53) hx hb dX2_fix_98 (by decide) ?_
                    exact ih_53 (w + 1) (va_up m2 w (rb (4096 * x1 + (fxi w (N - i) true)))) _ _ _ (by omega) (by omega) (fun z hz => by by_cases hzw : z = w; (subst hzw; rw [va_up_self]; first | rw [tn_1 c_73] | rw [tn_f c_73]); (rw [va_up_ne _ _ hzw]; exact hI z (by omega))) hP hS (lv_sub hl [1, 2, 3, 4, 5, 6, 0] rfl)
            exact lp_53 (2 ^ N + 1 - 0) 0 mb _ _ _ (by omega) (by omega) (fun z hz => absurd hz (by omega)) hP hS (lv_sub hl [2, 3, 4, 5, 6, 1, 0] rfl)
          · refine lv_iconst (v := nI 0) hx hb dX2_fix_38 (by decide) ?_
            exact W.zret (v := (nI 0)) hx hb hr (by decide) (fun t ht hW => ⟨⟨(nI 0), (rb, mb, pt), rfl, ⟨by rw [(show spF N g k a v x = none from if_neg (by simp [c_9, c_16, c_24, isB_gt c_35]))]; rfl, by rw [(show spF N g k a v x = none from if_neg (by simp [c_9, c_16, c_24, isB_gt c_35]))]; exact hg⟩, (by show va_P _ _ _ _; rw [ht]; exact hP)⟩, hS.F ht⟩) hS.2.2 dX2_fix_39
end
section
set_option maxHeartbeats 4000000 in
set_option maxRecDepth 100000 in
/-- the reference: exists -/
theorem c_mExists (l : Launch) (D : va_G) (sz : Nat) (N : Nat) (hN1 : 1 ≤ N) (hN : N ≤ 12) (bd : Nat → Nat) (hao : aok4 (fun _ => True) bd) (cZ cI : ClassId) (th : Int32) (rb mb : Nat → Bool) (pt : Nat → Int32) (g : Nat → Nat → Bool) (hg : okM N rb g) (k a f t1 : Int32) : Met l yX2_exists wsX2_exists ({ frames := 1, cells := 0, slots := 0, locals := 22 } : Room) (va_Pc [.ref (bd 0), .int k, .int a, .int f, .int t1] (wp0 D (mdW N bd cZ cI th rb mb pt) (mdT cZ cI) (fr4 bd sz) sz)) (va_Qi (fun (r : Int32) (u : (Nat → Bool) × (Nat → Bool) × (Nat → Int32)) => r = nI (spE N g k a f t1).isSome.toNat ∧ okM N u.1 ((spE N g k a f t1).getD g)) (fun (u : (Nat → Bool) × (Nat → Bool) × (Nat → Int32)) t => va_P D vwCl (mdW N bd cZ cI (nI 0) u.1 u.2.1 u.2.2) t.heap) (fr4 bd sz)) 0 0 (fr4 bd sz) := by
  refine Met.ofW (cc := cX2_exists) (maxL := 8) (ret := (some .boolean)) (by decide) rfl ?_
  intro p e s m args below meth c s₁ B hml hv
  obtain ⟨rfl, hsz, hP, hK, htb⟩ := hv
  have hx := B.exec
  have hb := B.bytes
  have hr := B.returns
  have hts := atoms_spec (ws := wsX2_exists) B.pre
  have hown : s.vm.findClass RX2 = some m.cls := findClass_of_methodNamed B.named
  have hlocks := B.notSynchronized
  subst hsz
  generalize hAe : fr4 bd s.heap.size = A at htb ⊢
  have hA : ∀ q : Nat, s.heap.size ≤ q → A q := fun q h => by rw [← hAe]; exact fr4_new q h
  have hao : aok4 A bd := by rw [← hAe]; exact aok4_fr hao
  obtain ⟨⟨tt, hZ, hT⟩, hNst⟩ := id htb
  have hS : va_S A s.heap s.heap [] := va_S.rf
  have hl := lv_entry ([.ref (bd 0), .int k, .int a, .int f, .int t1]) (n := 8) (Nat.le_of_ble_eq_true rfl)
  rw [lg_entry_eq]
  generalize (lg_sl ([.ref (bd 0), .int k, .int a, .int f, .int t1]) ++ List.replicate (8 - (lg_sl ([.ref (bd 0), .int k, .int a, .int f, .int t1])).length) Slot.unset).toArray = ls at hl ⊢
  have hl : lv_has ls 8 [(0, .ref (bd 0)), (1, .int k), (2, .int a), (3, .int f), (4, .int t1)] := hl
  have hnp := np_le hN
  have hnp0 : 0 < 2 ^ N := Nat.two_pow_pos N
  refine lv_aload_n hx hb dX2_exists_0 rfl (lv_at hl 0 rfl) ?_
  refine lv_iconst (v := nI 0) hx hb dX2_exists_1 (by decide) ?_
  refine va_put (D := D) (ci := 2) (v := .int (nI 0)) (ty := .int) (C := RX2) (T := TX2) (N := 6) hx hb hts (fun w h => List.mem_cons_of_mem _ (inBX2 w h)) tyX2 tyX2_ok nmX2 hown hK hP (md_D hao) hS 0 rfl rfl 0 (by decide) (hts (.fieldLink RX2 28 "ForkDeskModel" "thrown" "I") (by decide +kernel)) (fun _ h9 => h9) rfl (by decide +kernel) rfl rfl (Nat.le_of_ble_eq_true rfl) dX2_exists_2 (fun H locs hP _ hS => ?_)
  have hP : va_P D vwCl (mdW N bd cZ cI (nI 0) rb mb pt) H := hP
  refine lv_iload_n hx hb dX2_exists_5 rfl (lv_at hl 1 rfl) ?_
  refine va_calli (va_runS (As := [.int k]) (rest := []) ⟨hx, hb, hml, hown, hts⟩ (c_isRow l D _ k) (va_cwS 1 hts (goodIn_mono gX2_isRow) rfl rfl rfl (by decide +kernel) ⟨Nat.le_of_ble_eq_true rfl, Nat.le_of_ble_eq_true rfl⟩) ⟨wp0_blind, fun U hU hW => wp0_of (va_P.sub hP [] rfl) (hK.sub [] rfl) htb hS no_in hU hW⟩ rfl rfl hl.1 rfl (lv_room (Nat.le_of_ble_eq_true rfl)) dX2_exists_6 ⟨Nat.zero_le _, Nat.zero_le _⟩) hS (fun q _ h => h.elim) (fun q h => h.elim) (fun r_6 u_6 t H1 locs ht hvm hw hB hz1 hk1 hS => ?_)
  have hP := xa_same hP hk1
  clear hz1 hk1 hB ht
  generalize H1 = H at hP hS ⊢
  subst hw
  refine xa_if0 (tgt := 42) hx hb dX2_exists_9 (by decide) (fun c_9 => ?_) (fun c_9 => ?_)
  · refine lv_iconst (v := nI 0) hx hb dX2_exists_42 (by decide) ?_
    exact W.zret (v := (nI 0)) hx hb hr (by decide) (fun t ht hW => ⟨⟨(nI 0), (rb, mb, pt), rfl, ⟨by rw [(show spE N g k a f t1 = none from if_neg (by simp [c_9]))]; rfl, by rw [(show spE N g k a f t1 = none from if_neg (by simp [c_9]))]; exact hg⟩, (by show va_P _ _ _ _; rw [ht]; exact hP)⟩, hS.F ht⟩) hS.2.2 dX2_exists_43
  · refine lv_iload_n hx hb dX2_exists_12 rfl (lv_at hl 2 rfl) ?_
    refine va_calli (va_runS (As := [.int a]) (rest := []) ⟨hx, hb, hml, hown, hts⟩ (c_isRow l D _ a) (va_cwS 1 hts (goodIn_mono gX2_isRow) rfl rfl rfl (by decide +kernel) ⟨Nat.le_of_ble_eq_true rfl, Nat.le_of_ble_eq_true rfl⟩) ⟨wp0_blind, fun U hU hW => wp0_of (va_P.sub hP [] rfl) (hK.sub [] rfl) htb hS no_in hU hW⟩ rfl rfl hl.1 rfl (lv_room (Nat.le_of_ble_eq_true rfl)) dX2_exists_13 ⟨Nat.zero_le _, Nat.zero_le _⟩) hS (fun q _ h => h.elim) (fun q h => h.elim) (fun r_13 u_13 t H1 locs ht hvm hw hB hz1 hk1 hS => ?_)
    have hP := xa_same hP hk1
    clear hz1 hk1 hB ht
    generalize H1 = H at hP hS ⊢
    subst hw
    refine xa_if0 (tgt := 42) hx hb dX2_exists_16 (by decide) (fun c_16 => ?_) (fun c_16 => ?_)
    · refine lv_iconst (v := nI 0) hx hb dX2_exists_42 (by decide) ?_
      exact W.zret (v := (nI 0)) hx hb hr (by decide) (fun t ht hW => ⟨⟨(nI 0), (rb, mb, pt), rfl, ⟨by rw [(show spE N g k a f t1 = none from if_neg (by simp [c_9, c_16]))]; rfl, by rw [(show spE N g k a f t1 = none from if_neg (by simp [c_9, c_16]))]; exact hg⟩, (by show va_P _ _ _ _; rw [ht]; exact hP)⟩, hS.F ht⟩) hS.2.2 dX2_exists_43
    · refine lv_aload_n hx hb dX2_exists_19 rfl (lv_at hl 0 rfl) ?_
      refine lv_iload_n hx hb dX2_exists_20 rfl (lv_at hl 3 rfl) ?_
      refine va_calli (va_runV (As := [.int f]) (rest := []) ⟨hx, hb, hml, hown, hts⟩ (c_isVariableM l D _ N bd (nI 0) f) (cwV 1 hts (goodIn_mono gX2_isVariable) rfl rfl rfl (by decide +kernel) ⟨Nat.le_of_ble_eq_true rfl, Nat.le_of_ble_eq_true rfl⟩) ⟨wp0_blind, va_recv hK hP (ci := 2) (q0 := 0) rfl rfl, fun U hU hW => wp0_of (va_one hP 0 rfl) (hK.sub [] rfl) htb hS no_in hU hW⟩ rfl rfl hl.1 rfl (lv_room (Nat.le_of_ble_eq_true rfl)) dX2_exists_21 ⟨Nat.zero_le _, Nat.zero_le _⟩) hS (fun q _ h => h.elim) (fun q h => h.elim) (fun r_21 u_21 t H1 locs ht hvm hw hB hz1 hk1 hS => ?_)
      have hP := xa_same hP hk1
      clear hz1 hk1 hB ht
      generalize H1 = H at hP hS ⊢
      subst hw
      refine xa_if0 (tgt := 42) hx hb dX2_exists_24 (by decide) (fun c_24 => ?_) (fun c_24 => ?_)
      · refine lv_iconst (v := nI 0) hx hb dX2_exists_42 (by decide) ?_
        exact W.zret (v := (nI 0)) hx hb hr (by decide) (fun t ht hW => ⟨⟨(nI 0), (rb, mb, pt), rfl, ⟨by rw [(show spE N g k a f t1 = none from if_neg (by simp [c_9, c_16, c_24]))]; rfl, by rw [(show spE N g k a f t1 = none from if_neg (by simp [c_9, c_16, c_24]))]; exact hg⟩, (by show va_P _ _ _ _; rw [ht]; exact hP)⟩, hS.F ht⟩) hS.2.2 dX2_exists_43
      · refine lv_aload_n hx hb dX2_exists_27 rfl (lv_at hl 0 rfl) ?_
        refine lv_iload hx hb dX2_exists_28 (lv_at hl 4 rfl) ?_
        refine va_calli (va_runV (As := [.int t1]) (rest := []) ⟨hx, hb, hml, hown, hts⟩ (c_isVariableM l D _ N bd (nI 0) t1) (cwV 1 hts (goodIn_mono gX2_isVariable) rfl rfl rfl (by decide +kernel) ⟨Nat.le_of_ble_eq_true rfl, Nat.le_of_ble_eq_true rfl⟩) ⟨wp0_blind, va_recv hK hP (ci := 2) (q0 := 0) rfl rfl, fun U hU hW => wp0_of (va_one hP 0 rfl) (hK.sub [] rfl) htb hS no_in hU hW⟩ rfl rfl hl.1 rfl (lv_room (Nat.le_of_ble_eq_true rfl)) dX2_exists_30 ⟨Nat.zero_le _, Nat.zero_le _⟩) hS (fun q _ h => h.elim) (fun q h => h.elim) (fun r_30 u_30 t H1 locs ht hvm hw hB hz1 hk1 hS => ?_)
        have hP := xa_same hP hk1
        clear hz1 hk1 hB ht
        generalize H1 = H at hP hS ⊢
        subst hw
        refine xa_if0 (tgt := 42) hx hb dX2_exists_33 (by decide) (fun c_33 => ?_) (fun c_33 => ?_)
        · refine lv_iconst (v := nI 0) hx hb dX2_exists_42 (by decide) ?_
          exact W.zret (v := (nI 0)) hx hb hr (by decide) (fun t ht hW => ⟨⟨(nI 0), (rb, mb, pt), rfl, ⟨by rw [(show spE N g k a f t1 = none from if_neg (by simp [c_9, c_16, c_24, c_33]))]; rfl, by rw [(show spE N g k a f t1 = none from if_neg (by simp [c_9, c_16, c_24, c_33]))]; exact hg⟩, (by show va_P _ _ _ _; rw [ht]; exact hP)⟩, hS.F ht⟩) hS.2.2 dX2_exists_43
        · refine lv_iload_n hx hb dX2_exists_36 rfl (lv_at hl 3 rfl) ?_
          refine lv_iload hx hb dX2_exists_37 (lv_at hl 4 rfl) ?_
          refine lv_icmp_le (tgt := 44) hx hb dX2_exists_39 (by decide) (fun c_39 => ?_) (fun c_39 => ?_)
          · obtain ⟨j, hj, ej⟩ := isR_t c_9
            rw [ej] at hl
            obtain ⟨x1, hx1, ex1⟩ := isR_t c_16
            rw [ex1] at hl
            obtain ⟨i, hi1, hi, ei⟩ := isV_t hN c_24
            rw [ei] at hl
            obtain ⟨i2, hi21, hi2, ei2⟩ := isV_t hN c_33
            rw [ei2] at hl
            have hii : i ≤ i2 := (nI_leI (by omega) (by omega)).mp (by rw [← ei, ← ei2]; exact c_39)
            have hsp : spE N g k a f t1 = some (va_up g j (exs N i (g x1) (i2 + 1 - i))) := by unfold spE; rw [if_pos (by rw [c_9, c_16, c_24, c_33, decide_eq_true c_39]; rfl), ej, ex1, ei, ei2, ix_nI (by omega), ix_nI (by omega), ix_nI (by omega), ix_nI (by omega)]
            refine lv_iconst (v := nI 0) hx hb dX2_exists_44 (by decide) ?_
            refine lv_istore (lv' := [(5, .int (nI 0)), (0, .ref (bd 0)), (1, .int (nI j)), (2, .int (nI x1)), (3, .int (nI i)), (4, .int (nI i2))]) hx hb dX2_exists_45 hl (by decide) rfl (fun ls hl => ?_)
            have lp_47 : ∀ (n9 w : Nat) (m2 : Nat → Bool) (H : Heap) (locs : List Loc) (ls : Array Slot), w ≤ 2 ^ N → 2 ^ N + 1 ≤ w + n9 → (∀ z, z < w → m2 z = rb (4096 * x1 + z)) → va_P D vwCl (mdW N bd cZ cI (nI 0) rb m2 pt) H → va_S A s.heap H locs → lv_has ls 8 [(0, .ref (bd 0)), (1, .int (nI j)), (2, .int (nI x1)), (3, .int (nI i)), (4, .int (nI i2)), (5, .int (nI w))] → W p l e (headSpec wsX2_exists ({ frames := 1, cells := 0, slots := 0, locals := 22 } : Room)).room s m ([.ref (bd 0), .int k, .int a, .int f, .int t1] : List Value).toArray below meth c H locs 0 0 (MQ below (va_Qi (fun (r : Int32) (u : (Nat → Bool) × (Nat → Bool) × (Nat → Int32)) => r = nI (spE N g k a f t1).isSome.toNat ∧ okM N u.1 ((spE N g k a f t1).getD g)) (fun (u : (Nat → Bool) × (Nat → Bool) × (Nat → Int32)) t => va_P D vwCl (mdW N bd cZ cI (nI 0) u.1 u.2.1 u.2.2) t.heap) A) ([.ref (bd 0), .int k, .int a, .int f, .int t1] : List Value).toArray s 0 0 A) (F0 m 47 ls []) := by
              intro n9
              induction n9 with
              | zero => intro w m2 H locs ls h1 h2; exact absurd h2 (by omega)
              | succ n9 ih =>
                intro w m2 H locs ls hle_47 hmm_47 hI hP hS hl
                have ih_47 := @ih
                refine lv_iload hx hb dX2_exists_47 (lv_at hl 5 rfl) ?_
                refine lv_aload_n hx hb dX2_exists_49 rfl (lv_at hl 0 rfl) ?_
                refine va_get (D := D) (ci := 2) (C := RX2) (T := TX2) (N := 6) hx hb hts (fun w h => List.mem_cons_of_mem _ (inBX2 w h)) hown hK hP 0 rfl rfl 2 (by decide) (hts (.fieldLink RX2 25 "ForkDeskModel" "points" "I") (by decide +kernel)) (fun _ h9 => h9) rfl dX2_exists_50 ?_
                refine xa_ge (tgt := 76) hx hb (by omega) (by omega) dX2_exists_53 (by decide) (fun c_53 => ?_) (fun c_53 => ?_)
                · refine lv_iload_n hx hb dX2_exists_76 rfl (lv_at hl 3 rfl) ?_
                  refine lv_istore (lv' := [(5, .int (nI i)), (0, .ref (bd 0)), (1, .int (nI j)), (2, .int (nI x1)), (3, .int (nI i)), (4, .int (nI i2))]) hx hb dX2_exists_77 hl (by decide) rfl (fun ls hl => ?_)
                  have lp_79 : ∀ (n9 v1 : Nat) (m3 : Nat → Bool) (H : Heap) (locs : List Loc) (ls : Array Slot), v1 ≤ i2 + 1 → i2 + 1 + 1 ≤ v1 + n9 → i ≤ v1 → (∀ z, z < 2 ^ N → m3 z = exs N i (g x1) (v1 - i) z) → va_P D vwCl (mdW N bd cZ cI (nI 0) rb m3 pt) H → va_S A s.heap H locs → lv_has ls 8 [(0, .ref (bd 0)), (1, .int (nI j)), (2, .int (nI x1)), (3, .int (nI i)), (4, .int (nI i2)), (5, .int (nI v1))] → W p l e (headSpec wsX2_exists ({ frames := 1, cells := 0, slots := 0, locals := 22 } : Room)).room s m ([.ref (bd 0), .int k, .int a, .int f, .int t1] : List Value).toArray below meth c H locs 0 0 (MQ below (va_Qi (fun (r : Int32) (u : (Nat → Bool) × (Nat → Bool) × (Nat → Int32)) => r = nI (spE N g k a f t1).isSome.toNat ∧ okM N u.1 ((spE N g k a f t1).getD g)) (fun (u : (Nat → Bool) × (Nat → Bool) × (Nat → Int32)) t => va_P D vwCl (mdW N bd cZ cI (nI 0) u.1 u.2.1 u.2.2) t.heap) A) ([.ref (bd 0), .int k, .int a, .int f, .int t1] : List Value).toArray s 0 0 A) (F0 m 79 ls []) := by
                    intro n9
                    induction n9 with
                    | zero => intro v1 m3 H locs ls h1 h2; exact absurd h2 (by omega)
                    | succ n9 ih =>
                      intro v1 m3 H locs ls hle_79 hmm_79 hiv hJ hP hS hl
                      have ih_79 := @ih
                      refine lv_iload hx hb dX2_exists_79 (lv_at hl 5 rfl) ?_
                      refine lv_iload hx hb dX2_exists_81 (lv_at hl 4 rfl) ?_
                      refine xa_gt (tgt := 142) hx hb (by omega) (by omega) dX2_exists_83 (by decide) (fun c_83 => ?_) (fun c_83 => ?_)
                      · refine lv_aload_n hx hb dX2_exists_142 rfl (lv_at hl 0 rfl) ?_
                        refine lv_iload_n hx hb dX2_exists_143 rfl (lv_at hl 1 rfl) ?_
                        refine va_calli (va_runV (As := [.int (nI j)]) (rest := []) ⟨hx, hb, hml, hown, hts⟩ (c_keep l D _ N hN1 hN bd (aok4_true hao) cZ cI (nI 0) rb m3 pt j (by omega)) (cwV 1 hts (goodIn_mono gX2_keep) rfl rfl rfl (by decide +kernel) ⟨Nat.le_of_ble_eq_true rfl, Nat.le_of_ble_eq_true rfl⟩) ⟨wp0_blind, va_recv hK hP (ci := 2) (q0 := 0) rfl rfl, fun U hU hW => wp0_of hP hK htb hS (fr4_in hao hS hA) hU hW⟩ rfl rfl hl.1 rfl (lv_room (Nat.le_of_ble_eq_true rfl)) dX2_exists_144 ⟨Nat.zero_le _, Nat.zero_le _⟩) hS (fun q _ h => (fr4_in hao hS hA) q h) ((fr4_in hao hS hA)) (fun r_144 u_144 t H1 locs ht hvm hw hB hz1 hk1 hS => ?_)
                        rw [ht] at hB
                        obtain ⟨hw1, hw2⟩ := hw
                        subst hw1
                        subst hw2
                        have hP := hB
                        clear hz1 hk1 hB ht
                        generalize H1 = H at hP hS ⊢
                        exact W.zret (v := (nI 1)) hx hb hr (by decide) (fun t ht hW => ⟨⟨(nI 1), (kpt rb m3 j (2 ^ N), m3, pt), rfl, ⟨by rw [hsp]; rfl, by rw [hsp]; exact (okM_up hN hg hj (fun z hz => by rw [hJ z hz, show v1 = i2 + 1 by omega]))⟩, (by show va_P _ _ _ _; rw [ht]; exact hP)⟩, hS.F ht⟩) hS.2.2 dX2_exists_147
                      · refine lv_iconst (v := nI 1) hx hb dX2_exists_86 (by decide) ?_
                        refine lv_aload_n hx hb dX2_exists_87 rfl (lv_at hl 0 rfl) ?_
                        refine va_get (D := D) (ci := 2) (C := RX2) (T := TX2) (N := 6) hx hb hts (fun w h => List.mem_cons_of_mem _ (inBX2 w h)) hown hK hP 0 rfl rfl 1 (by decide) (hts (.fieldLink RX2 21 "ForkDeskModel" "n" "I") (by decide +kernel)) (fun _ h9 => h9) rfl dX2_exists_88 ?_
                        refine lv_iload hx hb dX2_exists_91 (lv_at hl 5 rfl) ?_
                        refine xa_isub hx hb (by omega) dX2_exists_93 ?_
                        refine xa_ishl1 hx hb (by omega) dX2_exists_94 ?_
                        refine lv_istore (lv' := [(6, .int (nI (2 ^ (N - v1)))), (0, .ref (bd 0)), (1, .int (nI j)), (2, .int (nI x1)), (3, .int (nI i)), (4, .int (nI i2)), (5, .int (nI v1))]) hx hb dX2_exists_95 hl (by decide) rfl (fun ls hl => ?_)
                        refine lv_iconst (v := nI 0) hx hb dX2_exists_97 (by decide) ?_
                        refine lv_istore (lv' := [(7, .int (nI 0)), (6, .int (nI (2 ^ (N - v1)))), (0, .ref (bd 0)), (1, .int (nI j)), (2, .int (nI x1)), (3, .int (nI i)), (4, .int (nI i2)), (5, .int (nI v1))]) hx hb dX2_exists_98 hl (by decide) rfl (fun ls hl => ?_)
                        have lp_100 : ∀ (n9 w : Nat) (m4 : Nat → Bool) (H : Heap) (locs : List Loc) (ls : Array Slot), w ≤ 2 ^ N → 2 ^ N + 1 ≤ w + n9 → (∀ z, z < 2 ^ N → m4 z = (m3 z || (decide (z ^^^ 2 ^ (N - v1) < w) && m3 (z ^^^ 2 ^ (N - v1))))) → va_P D vwCl (mdW N bd cZ cI (nI 0) rb m4 pt) H → va_S A s.heap H locs → lv_has ls 8 [(0, .ref (bd 0)), (1, .int (nI j)), (2, .int (nI x1)), (3, .int (nI i)), (4, .int (nI i2)), (5, .int (nI v1)), (6, .int (nI (2 ^ (N - v1)))), (7, .int (nI w))] → W p l e (headSpec wsX2_exists ({ frames := 1, cells := 0, slots := 0, locals := 22 } : Room)).room s m ([.ref (bd 0), .int k, .int a, .int f, .int t1] : List Value).toArray below meth c H locs 0 0 (MQ below (va_Qi (fun (r : Int32) (u : (Nat → Bool) × (Nat → Bool) × (Nat → Int32)) => r = nI (spE N g k a f t1).isSome.toNat ∧ okM N u.1 ((spE N g k a f t1).getD g)) (fun (u : (Nat → Bool) × (Nat → Bool) × (Nat → Int32)) t => va_P D vwCl (mdW N bd cZ cI (nI 0) u.1 u.2.1 u.2.2) t.heap) A) ([.ref (bd 0), .int k, .int a, .int f, .int t1] : List Value).toArray s 0 0 A) (F0 m 100 ls []) := by
                          intro n9
                          induction n9 with
                          | zero => intro w m4 H locs ls h1 h2; exact absurd h2 (by omega)
                          | succ n9 ih =>
                            intro w m4 H locs ls hle_100 hmm_100 hL hP hS hl
                            have ih_100 := @ih
                            refine lv_iload hx hb dX2_exists_100 (lv_at hl 7 rfl) ?_
                            refine lv_aload_n hx hb dX2_exists_102 rfl (lv_at hl 0 rfl) ?_
                            refine va_get (D := D) (ci := 2) (C := RX2) (T := TX2) (N := 6) hx hb hts (fun w h => List.mem_cons_of_mem _ (inBX2 w h)) hown hK hP 0 rfl rfl 2 (by decide) (hts (.fieldLink RX2 25 "ForkDeskModel" "points" "I") (by decide +kernel)) (fun _ h9 => h9) rfl dX2_exists_103 ?_
                            refine xa_ge (tgt := 136) hx hb (by omega) (by omega) dX2_exists_106 (by decide) (fun c_106 => ?_) (fun c_106 => ?_)
                            · refine xa_inc (k := 5) (lv' := [(5, .int (nI (v1 + 1))), (0, .ref (bd 0)), (1, .int (nI j)), (2, .int (nI x1)), (3, .int (nI i)), (4, .int (nI i2)), (6, .int (nI (2 ^ (N - v1)))), (7, .int (nI w))]) hx hb dX2_exists_136 hl rfl (by decide) rfl (fun ls hl => ?_)
                              refine lv_goto (tgt := 79) hx hb dX2_exists_139 (by decide) ?_
                              exact ih_79 (v1 + 1) m4 _ _ _ (by omega) (by omega) (by omega) (fun z hz => by rw [hL z hz, show w = 2 ^ N by omega, decide_eq_true (xr_lt hz (show N - v1 < N by omega)), Bool.true_and, hJ z hz, hJ _ (xr_lt hz (show N - v1 < N by omega)), show v1 + 1 - i = (v1 - i) + 1 by omega]; show _ = sg (N - (i + (v1 - i))) _ z; rw [show i + (v1 - i) = v1 by omega]; rfl) hP hS (lv_sub hl [1, 2, 3, 4, 5, 0] rfl)
                            · refine lv_aload_n hx hb dX2_exists_109 rfl (lv_at hl 0 rfl) ?_
                              refine va_get (D := D) (ci := 2) (C := RX2) (T := TX2) (N := 6) hx hb hts (fun w h => List.mem_cons_of_mem _ (inBX2 w h)) hown hK hP 0 rfl rfl 4 (by decide) (hts (.fieldLink RX2 14 "ForkDeskModel" "made" "[Z") (by decide +kernel)) (fun _ h9 => h9) rfl dX2_exists_110 ?_
                              refine lv_iload hx hb dX2_exists_113 (lv_at hl 7 rfl) ?_
                              refine xa_zald hx hb hK hP 2 0 rfl rfl (w := w) (by omega) (by omega) dX2_exists_115 ?_
                              refine xa_if0 (tgt := 130) hx hb dX2_exists_116 (by decide) (fun c_116 => ?_) (fun c_116 => ?_)
                              · refine xa_inc (k := 7) (lv' := [(7, .int (nI (w + 1))), (0, .ref (bd 0)), (1, .int (nI j)), (2, .int (nI x1)), (3, .int (nI i)), (4, .int (nI i2)), (5, .int (nI v1)), (6, .int (nI (2 ^ (N - v1))))]) hx hb dX2_exists_130 hl rfl (by decide) rfl (fun ls hl => ?_)
                                refine lv_goto (tgt := 100) hx hb dX2_exists_133 (by decide) ?_
                                exact ih_100 (w + 1) m4 _ _ _ (by omega) (by omega) (ex_f hL c_106 c_116) hP hS (lv_sub hl [1, 2, 3, 4, 5, 6, 7, 0] rfl)
                              · have hxl := xr_lt c_106 (show N - v1 < N by omega)
                                refine lv_aload_n hx hb dX2_exists_119 rfl (lv_at hl 0 rfl) ?_
                                refine va_get (D := D) (ci := 2) (C := RX2) (T := TX2) (N := 6) hx hb hts (fun w h => List.mem_cons_of_mem _ (inBX2 w h)) hown hK hP 0 rfl rfl 4 (by decide) (hts (.fieldLink RX2 14 "ForkDeskModel" "made" "[Z") (by decide +kernel)) (fun _ h9 => h9) rfl dX2_exists_120 ?_
                                refine lv_iload hx hb dX2_exists_123 (lv_at hl 7 rfl) ?_
                                refine lv_iload hx hb dX2_exists_125 (lv_at hl 6 rfl) ?_
                                refine xa_ixor hx hb dX2_exists_127 ?_
                                refine lv_iconst (v := nI 1) hx hb dX2_exists_128 (by decide) ?_
                                refine xa_zast hx hb hK hP (md_D hao) hS 2 0 rfl rfl (w := w ^^^ (2 ^ (N - v1))) (b := true) (by omega) (by omega) dX2_exists_129 (fun H locs hP _ hS => ?_)
                                have hP : va_P D vwCl (mdW N bd cZ cI (nI 0) rb (va_up m4 (w ^^^ (2 ^ (N - v1))) true) pt) H := hP
                                refine xa_inc (k := 7) (lv' := [(7, .int (nI (w + 1))), (0, .ref (bd 0)), (1, .int (nI j)), (2, .int (nI x1)), (3, .int (nI i)), (4, .int (nI i2)), (5, .int (nI v1)), (6, .int (nI (2 ^ (N - v1))))]) hx hb dX2_exists_130 hl rfl (by decide) rfl (fun ls hl => ?_)
                                refine lv_goto (tgt := 100) hx hb dX2_exists_133 (by decide) ?_
                                exact ih_100 (w + 1) (va_up m4 (w ^^^ (2 ^ (N - v1))) true) _ _ _ (by omega) (by omega) (ex_t (by omega) hL c_106 c_116) hP hS (lv_sub hl [1, 2, 3, 4, 5, 6, 7, 0] rfl)
                        exact lp_100 (2 ^ N + 1 - 0) 0 m3 _ _ _ (by omega) (by omega) (fun z hz => by rw [decide_eq_false (Nat.not_lt_zero _)]; simp) hP hS (lv_sub hl [2, 3, 4, 5, 6, 7, 1, 0] rfl)
                  exact lp_79 (i2 + 1 + 1 - i) i m2 _ _ _ (by omega) (by omega) (Nat.le_refl i) (fun z hz => by rw [hI z (by omega), Nat.sub_self]; exact hg x1 z hx1 hz) hP hS (lv_sub hl [1, 2, 3, 4, 5, 0] rfl)
                · refine lv_aload_n hx hb dX2_exists_56 rfl (lv_at hl 0 rfl) ?_
                  refine va_get (D := D) (ci := 2) (C := RX2) (T := TX2) (N := 6) hx hb hts (fun w h => List.mem_cons_of_mem _ (inBX2 w h)) hown hK hP 0 rfl rfl 4 (by decide) (hts (.fieldLink RX2 14 "ForkDeskModel" "made" "[Z") (by decide +kernel)) (fun _ h9 => h9) rfl dX2_exists_57 ?_
                  refine lv_iload hx hb dX2_exists_60 (lv_at hl 5 rfl) ?_
                  refine lv_aload_n hx hb dX2_exists_62 rfl (lv_at hl 0 rfl) ?_
                  refine lv_iload_n hx hb dX2_exists_63 rfl (lv_at hl 2 rfl) ?_
                  refine lv_iload hx hb dX2_exists_64 (lv_at hl 5 rfl) ?_
                  refine va_calli (va_runV (As := [.int (nI x1), .int (nI w)]) (rest := [.int (nI w), .ref (bd 2)]) ⟨hx, hb, hml, hown, hts⟩ (c_has l D _ N bd cZ (nI 0) rb x1 w (by omega)) (cwV 2 hts (goodIn_mono gX2_has) rfl rfl rfl (by decide +kernel) ⟨Nat.le_of_ble_eq_true rfl, Nat.le_of_ble_eq_true rfl⟩) ⟨wp0_blind, va_recv hK hP (ci := 2) (q0 := 0) rfl rfl, fun U hU hW => wp0_of (hP.sub [0, 1] rfl) (hK.sub [0] rfl) htb hS no_in hU hW⟩ rfl rfl hl.1 rfl (lv_room (Nat.le_of_ble_eq_true rfl)) dX2_exists_66 ⟨Nat.zero_le _, Nat.zero_le _⟩) hS (fun q _ h => h.elim) (fun q h => h.elim) (fun r_66 u_66 t H1 locs ht hvm hw hB hz1 hk1 hS => ?_)
                  have hP := xa_same hP hk1
                  clear hz1 hk1 hB ht
                  generalize H1 = H at hP hS ⊢
                  subst hw
                  refine xa_zast hx hb hK hP (md_D hao) hS 2 0 rfl rfl (w := w) (b := (rb (4096 * x1 + w))) (by omega) (by omega) dX2_exists_69 (fun H locs hP _ hS => ?_)
                  have hP : va_P D vwCl (mdW N bd cZ cI (nI 0) rb (va_up m2 w (rb (4096 * x1 + w))) pt) H := hP
                  refine xa_inc (k := 5) (lv' := [(5, .int (nI (w + 1))), (0, .ref (bd 0)), (1, .int (nI j)), (2, .int (nI x1)), (3, .int (nI i)), (4, .int (nI i2))]) hx hb dX2_exists_70 hl rfl (by decide) rfl (fun ls hl => ?_)
                  refine lv_goto (tgt := 47) hx hb dX2_exists_73 (by decide) ?_
                  exact ih_47 (w + 1) (va_up m2 w (rb (4096 * x1 + w))) _ _ _ (by omega) (by omega) (fun z hz => by by_cases hzw : z = w; (subst hzw; rw [va_up_self]; skip); (rw [va_up_ne _ _ hzw]; exact hI z (by omega))) hP hS (lv_sub hl [1, 2, 3, 4, 5, 0] rfl)
            exact lp_47 (2 ^ N + 1 - 0) 0 mb _ _ _ (by omega) (by omega) (fun z hz => absurd hz (by omega)) hP hS (lv_sub hl [1, 2, 3, 4, 5, 0] rfl)
          · refine lv_iconst (v := nI 0) hx hb dX2_exists_42 (by decide) ?_
            exact W.zret (v := (nI 0)) hx hb hr (by decide) (fun t ht hW => ⟨⟨(nI 0), (rb, mb, pt), rfl, ⟨by rw [(show spE N g k a f t1 = none from if_neg (by simp [c_9, c_16, c_24, c_33, c_39]))]; rfl, by rw [(show spE N g k a f t1 = none from if_neg (by simp [c_9, c_16, c_24, c_33, c_39]))]; exact hg⟩, (by show va_P _ _ _ _; rw [ht]; exact hP)⟩, hS.F ht⟩) hS.2.2 dX2_exists_43
end
section
set_option maxHeartbeats 4000000 in
set_option maxRecDepth 100000 in
/-- the reference: substitute -/
theorem c_mSubstitute (l : Launch) (D : va_G) (sz : Nat) (N : Nat) (hN1 : 1 ≤ N) (hN : N ≤ 12) (bd : Nat → Nat) (hao : aok4 (fun _ => True) bd) (cZ cI : ClassId) (th : Int32) (rb mb : Nat → Bool) (pt : Nat → Int32) (g : Nat → Nat → Bool) (hg : okM N rb g) (k a f : Int32) : Met l yX2_substitute wsX2_substitute ({ frames := 2, cells := 0, slots := 0, locals := 47 } : Room) (va_Pc [.ref (bd 0), .int k, .int a, .int f] (wp0 D (mdW N bd cZ cI th rb mb pt) (mdT cZ cI) (fr4 bd sz) sz)) (va_Qi (fun (r : Int32) (u : (Nat → Bool) × (Nat → Bool) × (Nat → Int32)) => r = nI (spS N g k a f).isSome.toNat ∧ okM N u.1 ((spS N g k a f).getD g)) (fun (u : (Nat → Bool) × (Nat → Bool) × (Nat → Int32)) t => va_P D vwCl (mdW N bd cZ cI (nI 0) u.1 u.2.1 u.2.2) t.heap) (fr4 bd sz)) 0 0 (fr4 bd sz) := by
  refine Met.ofW (cc := cX2_substitute) (maxL := 5) (ret := (some .boolean)) (by decide) rfl ?_
  intro p e s m args below meth c s₁ B hml hv
  obtain ⟨rfl, hsz, hP, hK, htb⟩ := hv
  have hx := B.exec
  have hb := B.bytes
  have hr := B.returns
  have hts := atoms_spec (ws := wsX2_substitute) B.pre
  have hown : s.vm.findClass RX2 = some m.cls := findClass_of_methodNamed B.named
  have hlocks := B.notSynchronized
  subst hsz
  generalize hAe : fr4 bd s.heap.size = A at htb ⊢
  have hA : ∀ q : Nat, s.heap.size ≤ q → A q := fun q h => by rw [← hAe]; exact fr4_new q h
  have hao : aok4 A bd := by rw [← hAe]; exact aok4_fr hao
  obtain ⟨⟨tt, hZ, hT⟩, hNst⟩ := id htb
  have hS : va_S A s.heap s.heap [] := va_S.rf
  have hl := lv_entry ([.ref (bd 0), .int k, .int a, .int f]) (n := 5) (Nat.le_of_ble_eq_true rfl)
  rw [lg_entry_eq]
  generalize (lg_sl ([.ref (bd 0), .int k, .int a, .int f]) ++ List.replicate (5 - (lg_sl ([.ref (bd 0), .int k, .int a, .int f])).length) Slot.unset).toArray = ls at hl ⊢
  have hl : lv_has ls 5 [(0, .ref (bd 0)), (1, .int k), (2, .int a), (3, .int f)] := hl
  have hnp := np_le hN
  have hnp0 : 0 < 2 ^ N := Nat.two_pow_pos N
  refine lv_aload_n hx hb dX2_substitute_0 rfl (lv_at hl 0 rfl) ?_
  refine lv_iconst (v := nI 0) hx hb dX2_substitute_1 (by decide) ?_
  refine va_put (D := D) (ci := 2) (v := .int (nI 0)) (ty := .int) (C := RX2) (T := TX2) (N := 6) hx hb hts (fun w h => List.mem_cons_of_mem _ (inBX2 w h)) tyX2 tyX2_ok nmX2 hown hK hP (md_D hao) hS 0 rfl rfl 0 (by decide) (hts (.fieldLink RX2 28 "ForkDeskModel" "thrown" "I") (by decide +kernel)) (fun _ h9 => h9) rfl (by decide +kernel) rfl rfl (Nat.le_of_ble_eq_true rfl) dX2_substitute_2 (fun H locs hP _ hS => ?_)
  have hP : va_P D vwCl (mdW N bd cZ cI (nI 0) rb mb pt) H := hP
  refine lv_iload_n hx hb dX2_substitute_5 rfl (lv_at hl 1 rfl) ?_
  refine va_calli (va_runS (As := [.int k]) (rest := []) ⟨hx, hb, hml, hown, hts⟩ (c_isRow l D _ k) (va_cwS 1 hts (goodIn_mono gX2_isRow) rfl rfl rfl (by decide +kernel) ⟨Nat.le_of_ble_eq_true rfl, Nat.le_of_ble_eq_true rfl⟩) ⟨wp0_blind, fun U hU hW => wp0_of (va_P.sub hP [] rfl) (hK.sub [] rfl) htb hS no_in hU hW⟩ rfl rfl hl.1 rfl (lv_room (Nat.le_of_ble_eq_true rfl)) dX2_substitute_6 ⟨Nat.zero_le _, Nat.zero_le _⟩) hS (fun q _ h => h.elim) (fun q h => h.elim) (fun r_6 u_6 t H1 locs ht hvm hw hB hz1 hk1 hS => ?_)
  have hP := xa_same hP hk1
  clear hz1 hk1 hB ht
  generalize H1 = H at hP hS ⊢
  subst hw
  refine xa_if0 (tgt := 34) hx hb dX2_substitute_9 (by decide) (fun c_9 => ?_) (fun c_9 => ?_)
  · refine lv_iconst (v := nI 0) hx hb dX2_substitute_34 (by decide) ?_
    exact W.zret (v := (nI 0)) hx hb hr (by decide) (fun t ht hW => ⟨⟨(nI 0), (rb, mb, pt), rfl, ⟨by rw [(show spS N g k a f = none from if_neg (by simp [c_9]))]; rfl, by rw [(show spS N g k a f = none from if_neg (by simp [c_9]))]; exact hg⟩, (by show va_P _ _ _ _; rw [ht]; exact hP)⟩, hS.F ht⟩) hS.2.2 dX2_substitute_35
  · refine lv_iload_n hx hb dX2_substitute_12 rfl (lv_at hl 2 rfl) ?_
    refine va_calli (va_runS (As := [.int a]) (rest := []) ⟨hx, hb, hml, hown, hts⟩ (c_isRow l D _ a) (va_cwS 1 hts (goodIn_mono gX2_isRow) rfl rfl rfl (by decide +kernel) ⟨Nat.le_of_ble_eq_true rfl, Nat.le_of_ble_eq_true rfl⟩) ⟨wp0_blind, fun U hU hW => wp0_of (va_P.sub hP [] rfl) (hK.sub [] rfl) htb hS no_in hU hW⟩ rfl rfl hl.1 rfl (lv_room (Nat.le_of_ble_eq_true rfl)) dX2_substitute_13 ⟨Nat.zero_le _, Nat.zero_le _⟩) hS (fun q _ h => h.elim) (fun q h => h.elim) (fun r_13 u_13 t H1 locs ht hvm hw hB hz1 hk1 hS => ?_)
    have hP := xa_same hP hk1
    clear hz1 hk1 hB ht
    generalize H1 = H at hP hS ⊢
    subst hw
    refine xa_if0 (tgt := 34) hx hb dX2_substitute_16 (by decide) (fun c_16 => ?_) (fun c_16 => ?_)
    · refine lv_iconst (v := nI 0) hx hb dX2_substitute_34 (by decide) ?_
      exact W.zret (v := (nI 0)) hx hb hr (by decide) (fun t ht hW => ⟨⟨(nI 0), (rb, mb, pt), rfl, ⟨by rw [(show spS N g k a f = none from if_neg (by simp [c_9, c_16]))]; rfl, by rw [(show spS N g k a f = none from if_neg (by simp [c_9, c_16]))]; exact hg⟩, (by show va_P _ _ _ _; rw [ht]; exact hP)⟩, hS.F ht⟩) hS.2.2 dX2_substitute_35
    · refine lv_iload_n hx hb dX2_substitute_19 rfl (lv_at hl 3 rfl) ?_
      refine lv_if_lt (tgt := 34) hx hb dX2_substitute_20 (by decide) (fun c_20 => ?_) (fun c_20 => ?_)
      · refine lv_iconst (v := nI 0) hx hb dX2_substitute_34 (by decide) ?_
        exact W.zret (v := (nI 0)) hx hb hr (by decide) (fun t ht hW => ⟨⟨(nI 0), (rb, mb, pt), rfl, ⟨by rw [(show spS N g k a f = none from if_neg (by simp [c_9, c_16, arR_lt c_20]))]; rfl, by rw [(show spS N g k a f = none from if_neg (by simp [c_9, c_16, arR_lt c_20]))]; exact hg⟩, (by show va_P _ _ _ _; rw [ht]; exact hP)⟩, hS.F ht⟩) hS.2.2 dX2_substitute_35
      · refine lv_iload_n hx hb dX2_substitute_23 rfl (lv_at hl 3 rfl) ?_
        refine lv_bipush (v := nI 32) hx hb dX2_substitute_24 (by decide) ?_
        refine lv_aload_n hx hb dX2_substitute_26 rfl (lv_at hl 0 rfl) ?_
        refine va_get (D := D) (ci := 2) (C := RX2) (T := TX2) (N := 6) hx hb hts (fun w h => List.mem_cons_of_mem _ (inBX2 w h)) hown hK hP 0 rfl rfl 1 (by decide) (hts (.fieldLink RX2 21 "ForkDeskModel" "n" "I") (by decide +kernel)) (fun _ h9 => h9) rfl dX2_substitute_27 ?_
        refine xa_isub hx hb (by omega) dX2_substitute_30 ?_
        refine lv_icmp_le (tgt := 36) hx hb dX2_substitute_31 (by decide) (fun c_31 => ?_) (fun c_31 => ?_)
        · have hAt : arR f N = true := arR_in c_20 c_31
          obtain ⟨j, hj, ej⟩ := isR_t c_9
          rw [ej] at hl
          obtain ⟨x1, hx1, ex1⟩ := isR_t c_16
          rw [ex1] at hl
          obtain ⟨x0, hx0, ex0⟩ := arR_t (by omega) hAt
          rw [ex0] at hl
          have hsp : spS N g k a f = some (va_up g j (fun p => decide (p < 2 ^ N) && g x1 (tp g x0 p N))) := by unfold spS; rw [if_pos (by rw [c_9, c_16, hAt]; rfl), ej, ex1, ex0, ix_nI (by omega), ix_nI (by omega), ix_nI (by omega)]
          refine lv_iconst (v := nI 0) hx hb dX2_substitute_36 (by decide) ?_
          refine lv_istore (lv' := [(4, .int (nI 0)), (0, .ref (bd 0)), (1, .int (nI j)), (2, .int (nI x1)), (3, .int (nI x0))]) hx hb dX2_substitute_37 hl (by decide) rfl (fun ls hl => ?_)
          have lp_39 : ∀ (n9 w : Nat) (m2 : Nat → Bool) (H : Heap) (locs : List Loc) (ls : Array Slot), w ≤ 2 ^ N → 2 ^ N + 1 ≤ w + n9 → (∀ z, z < w → m2 z = rb (4096 * x1 + tp (fun k p => rb (4096 * k + p)) x0 z N)) → va_P D vwCl (mdW N bd cZ cI (nI 0) rb m2 pt) H → va_S A s.heap H locs → lv_has ls 5 [(0, .ref (bd 0)), (1, .int (nI j)), (2, .int (nI x1)), (3, .int (nI x0)), (4, .int (nI w))] → W p l e (headSpec wsX2_substitute ({ frames := 2, cells := 0, slots := 0, locals := 47 } : Room)).room s m ([.ref (bd 0), .int k, .int a, .int f] : List Value).toArray below meth c H locs 0 0 (MQ below (va_Qi (fun (r : Int32) (u : (Nat → Bool) × (Nat → Bool) × (Nat → Int32)) => r = nI (spS N g k a f).isSome.toNat ∧ okM N u.1 ((spS N g k a f).getD g)) (fun (u : (Nat → Bool) × (Nat → Bool) × (Nat → Int32)) t => va_P D vwCl (mdW N bd cZ cI (nI 0) u.1 u.2.1 u.2.2) t.heap) A) ([.ref (bd 0), .int k, .int a, .int f] : List Value).toArray s 0 0 A) (F0 m 39 ls []) := by
            intro n9
            induction n9 with
            | zero => intro w m2 H locs ls h1 h2; exact absurd h2 (by omega)
            | succ n9 ih =>
              intro w m2 H locs ls hle_39 hmm_39 hI hP hS hl
              have ih_39 := @ih
              refine lv_iload hx hb dX2_substitute_39 (lv_at hl 4 rfl) ?_
              refine lv_aload_n hx hb dX2_substitute_41 rfl (lv_at hl 0 rfl) ?_
              refine va_get (D := D) (ci := 2) (C := RX2) (T := TX2) (N := 6) hx hb hts (fun w h => List.mem_cons_of_mem _ (inBX2 w h)) hown hK hP 0 rfl rfl 2 (by decide) (hts (.fieldLink RX2 25 "ForkDeskModel" "points" "I") (by decide +kernel)) (fun _ h9 => h9) rfl dX2_substitute_42 ?_
              refine xa_ge (tgt := 77) hx hb (by omega) (by omega) dX2_substitute_45 (by decide) (fun c_45 => ?_) (fun c_45 => ?_)
              · refine lv_aload_n hx hb dX2_substitute_77 rfl (lv_at hl 0 rfl) ?_
                refine lv_iload_n hx hb dX2_substitute_78 rfl (lv_at hl 1 rfl) ?_
                refine va_calli (va_runV (As := [.int (nI j)]) (rest := []) ⟨hx, hb, hml, hown, hts⟩ (c_keep l D _ N hN1 hN bd (aok4_true hao) cZ cI (nI 0) rb m2 pt j (by omega)) (cwV 1 hts (goodIn_mono gX2_keep) rfl rfl rfl (by decide +kernel) ⟨Nat.le_of_ble_eq_true rfl, Nat.le_of_ble_eq_true rfl⟩) ⟨wp0_blind, va_recv hK hP (ci := 2) (q0 := 0) rfl rfl, fun U hU hW => wp0_of hP hK htb hS (fr4_in hao hS hA) hU hW⟩ rfl rfl hl.1 rfl (lv_room (Nat.le_of_ble_eq_true rfl)) dX2_substitute_79 ⟨Nat.zero_le _, Nat.zero_le _⟩) hS (fun q _ h => (fr4_in hao hS hA) q h) ((fr4_in hao hS hA)) (fun r_79 u_79 t H1 locs ht hvm hw hB hz1 hk1 hS => ?_)
                rw [ht] at hB
                obtain ⟨hw1, hw2⟩ := hw
                subst hw1
                subst hw2
                have hP := hB
                clear hz1 hk1 hB ht
                generalize H1 = H at hP hS ⊢
                exact W.zret (v := (nI 1)) hx hb hr (by decide) (fun t ht hW => ⟨⟨(nI 1), (kpt rb m2 j (2 ^ N), m2, pt), rfl, ⟨by rw [hsp]; rfl, by rw [hsp]; exact (okM_up hN hg hj (fun z hz => by rw [hI z (by omega), tp_congr (g' := g) (p' := z) (fun q hq => hg (x0 + q) z (by omega) hz), hg x1 _ hx1 (tp_lt g x0 z N), decide_eq_true hz, Bool.true_and]))⟩, (by show va_P _ _ _ _; rw [ht]; exact hP)⟩, hS.F ht⟩) hS.2.2 dX2_substitute_82
              · refine lv_aload_n hx hb dX2_substitute_48 rfl (lv_at hl 0 rfl) ?_
                refine va_get (D := D) (ci := 2) (C := RX2) (T := TX2) (N := 6) hx hb hts (fun w h => List.mem_cons_of_mem _ (inBX2 w h)) hown hK hP 0 rfl rfl 4 (by decide) (hts (.fieldLink RX2 14 "ForkDeskModel" "made" "[Z") (by decide +kernel)) (fun _ h9 => h9) rfl dX2_substitute_49 ?_
                refine lv_iload hx hb dX2_substitute_52 (lv_at hl 4 rfl) ?_
                refine lv_aload_n hx hb dX2_substitute_54 rfl (lv_at hl 0 rfl) ?_
                refine lv_iload_n hx hb dX2_substitute_55 rfl (lv_at hl 2 rfl) ?_
                refine lv_aload_n hx hb dX2_substitute_56 rfl (lv_at hl 0 rfl) ?_
                refine lv_iload_n hx hb dX2_substitute_57 rfl (lv_at hl 3 rfl) ?_
                refine lv_aload_n hx hb dX2_substitute_58 rfl (lv_at hl 0 rfl) ?_
                refine va_get (D := D) (ci := 2) (C := RX2) (T := TX2) (N := 6) hx hb hts (fun w h => List.mem_cons_of_mem _ (inBX2 w h)) hown hK hP 0 rfl rfl 1 (by decide) (hts (.fieldLink RX2 21 "ForkDeskModel" "n" "I") (by decide +kernel)) (fun _ h9 => h9) rfl dX2_substitute_59 ?_
                refine lv_iload hx hb dX2_substitute_62 (lv_at hl 4 rfl) ?_
                refine va_calli (va_runV (As := [.int (nI x0), .int (nI N), .int (nI w)]) (rest := [.int (nI x1), .ref (bd 0), .int (nI w), .ref (bd 2)]) ⟨hx, hb, hml, hown, hts⟩ (c_led l D _ N bd cZ (nI 0) rb x0 N w (by omega) (by omega) (by omega)) (cwV 3 hts (goodIn_mono gX2_led) rfl rfl rfl (by decide +kernel) ⟨Nat.le_of_ble_eq_true rfl, Nat.le_of_ble_eq_true rfl⟩) ⟨wp0_blind, va_recv hK hP (ci := 2) (q0 := 0) rfl rfl, fun U hU hW => wp0_of (hP.sub [0, 1] rfl) (hK.sub [0] rfl) htb hS no_in hU hW⟩ rfl rfl hl.1 rfl (lv_room (Nat.le_of_ble_eq_true rfl)) dX2_substitute_64 ⟨Nat.zero_le _, Nat.zero_le _⟩) hS (fun q _ h => h.elim) (fun q h => h.elim) (fun r_64 u_64 t H1 locs ht hvm hw hB hz1 hk1 hS => ?_)
                have hP := xa_same hP hk1
                clear hz1 hk1 hB ht
                generalize H1 = H at hP hS ⊢
                subst hw
                have htl := tp_lt (fun k p => rb (4096 * k + p)) x0 w N
                refine va_calli (va_runV (As := [.int (nI x1), .int (nI (tp (fun k p => rb (4096 * k + p)) x0 w N))]) (rest := [.int (nI w), .ref (bd 2)]) ⟨hx, hb, hml, hown, hts⟩ (c_has l D _ N bd cZ (nI 0) rb x1 (tp (fun k p => rb (4096 * k + p)) x0 w N) (by omega)) (cwV 2 hts (goodIn_mono gX2_has) rfl rfl rfl (by decide +kernel) ⟨Nat.le_of_ble_eq_true rfl, Nat.le_of_ble_eq_true rfl⟩) ⟨wp0_blind, va_recv hK hP (ci := 2) (q0 := 0) rfl rfl, fun U hU hW => wp0_of (hP.sub [0, 1] rfl) (hK.sub [0] rfl) htb hS no_in hU hW⟩ rfl rfl hl.1 rfl (lv_room (Nat.le_of_ble_eq_true rfl)) dX2_substitute_67 ⟨Nat.zero_le _, Nat.zero_le _⟩) hS (fun q _ h => h.elim) (fun q h => h.elim) (fun r_67 u_67 t H1 locs ht hvm hw hB hz1 hk1 hS => ?_)
                have hP := xa_same hP hk1
                clear hz1 hk1 hB ht
                generalize H1 = H at hP hS ⊢
                subst hw
                refine xa_zast hx hb hK hP (md_D hao) hS 2 0 rfl rfl (w := w) (b := (rb (4096 * x1 + (tp (fun k p => rb (4096 * k + p)) x0 w N)))) (by omega) (by omega) dX2_substitute_70 (fun H locs hP _ hS => ?_)
                have hP : va_P D vwCl (mdW N bd cZ cI (nI 0) rb (va_up m2 w (rb (4096 * x1 + (tp (fun k p => rb (4096 * k + p)) x0 w N)))) pt) H := hP
                refine xa_inc (k := 4) (lv' := [(4, .int (nI (w + 1))), (0, .ref (bd 0)), (1, .int (nI j)), (2, .int (nI x1)), (3, .int (nI x0))]) hx hb dX2_substitute_71 hl rfl (by decide) rfl (fun ls hl => ?_)
                refine lv_goto (tgt := 39) hx hb dX2_substitute_74 (by decide) ?_
                exact ih_39 (w + 1) (va_up m2 w (rb (4096 * x1 + (tp (fun k p => rb (4096 * k + p)) x0 w N)))) _ _ _ (by omega) (by omega) (fun z hz => by by_cases hzw : z = w; (subst hzw; rw [va_up_self]; skip); (rw [va_up_ne _ _ hzw]; exact hI z (by omega))) hP hS (lv_sub hl [1, 2, 3, 4, 0] rfl)
          exact lp_39 (2 ^ N + 1 - 0) 0 mb _ _ _ (by omega) (by omega) (fun z hz => absurd hz (by omega)) hP hS (lv_sub hl [1, 2, 3, 4, 0] rfl)
        · refine lv_iconst (v := nI 0) hx hb dX2_substitute_34 (by decide) ?_
          exact W.zret (v := (nI 0)) hx hb hr (by decide) (fun t ht hW => ⟨⟨(nI 0), (rb, mb, pt), rfl, ⟨by rw [(show spS N g k a f = none from if_neg (by simp [c_9, c_16, arR_gt c_31]))]; rfl, by rw [(show spS N g k a f = none from if_neg (by simp [c_9, c_16, arR_gt c_31]))]; exact hg⟩, (by show va_P _ _ _ _; rw [ht]; exact hP)⟩, hS.F ht⟩) hS.2.2 dX2_substitute_35
end
section
set_option maxHeartbeats 4000000 in
set_option maxRecDepth 100000 in
/-- the reference: nearest -/
theorem c_mNearest (l : Launch) (D : va_G) (sz : Nat) (N : Nat) (hN1 : 1 ≤ N) (hN : N ≤ 12) (bd : Nat → Nat) (hao : aok4 (fun _ => True) bd) (cZ cI : ClassId) (th : Int32) (rb mb : Nat → Bool) (pt : Nat → Int32) (g : Nat → Nat → Bool) (hg : okM N rb g) (k a c1 : Int32) : Met l yX2_nearest wsX2_nearest ({ frames := 1, cells := 0, slots := 0, locals := 22 } : Room) (va_Pc [.ref (bd 0), .int k, .int a, .int c1] (wp0 D (mdW N bd cZ cI th rb mb pt) (mdT cZ cI) (fr4 bd sz) sz)) (va_Qi (fun (r : Int32) (u : (Nat → Bool) × (Nat → Bool) × (Nat → Int32)) => r = nI (spN N g k a c1).isSome.toNat ∧ okM N u.1 ((spN N g k a c1).getD g)) (fun (u : (Nat → Bool) × (Nat → Bool) × (Nat → Int32)) t => va_P D vwCl (mdW N bd cZ cI (nI 0) u.1 u.2.1 u.2.2) t.heap) (fr4 bd sz)) 0 0 (fr4 bd sz) := by
  refine Met.ofW (cc := cX2_nearest) (maxL := 6) (ret := (some .boolean)) (by decide) rfl ?_
  intro p e s m args below meth c s₁ B hml hv
  obtain ⟨rfl, hsz, hP, hK, htb⟩ := hv
  have hx := B.exec
  have hb := B.bytes
  have hr := B.returns
  have hts := atoms_spec (ws := wsX2_nearest) B.pre
  have hown : s.vm.findClass RX2 = some m.cls := findClass_of_methodNamed B.named
  have hlocks := B.notSynchronized
  subst hsz
  generalize hAe : fr4 bd s.heap.size = A at htb ⊢
  have hA : ∀ q : Nat, s.heap.size ≤ q → A q := fun q h => by rw [← hAe]; exact fr4_new q h
  have hao : aok4 A bd := by rw [← hAe]; exact aok4_fr hao
  obtain ⟨⟨tt, hZ, hT⟩, hNst⟩ := id htb
  have hS : va_S A s.heap s.heap [] := va_S.rf
  have hl := lv_entry ([.ref (bd 0), .int k, .int a, .int c1]) (n := 6) (Nat.le_of_ble_eq_true rfl)
  rw [lg_entry_eq]
  generalize (lg_sl ([.ref (bd 0), .int k, .int a, .int c1]) ++ List.replicate (6 - (lg_sl ([.ref (bd 0), .int k, .int a, .int c1])).length) Slot.unset).toArray = ls at hl ⊢
  have hl : lv_has ls 6 [(0, .ref (bd 0)), (1, .int k), (2, .int a), (3, .int c1)] := hl
  have hnp := np_le hN
  have hnp0 : 0 < 2 ^ N := Nat.two_pow_pos N
  refine lv_aload_n hx hb dX2_nearest_0 rfl (lv_at hl 0 rfl) ?_
  refine lv_iconst (v := nI 0) hx hb dX2_nearest_1 (by decide) ?_
  refine va_put (D := D) (ci := 2) (v := .int (nI 0)) (ty := .int) (C := RX2) (T := TX2) (N := 6) hx hb hts (fun w h => List.mem_cons_of_mem _ (inBX2 w h)) tyX2 tyX2_ok nmX2 hown hK hP (md_D hao) hS 0 rfl rfl 0 (by decide) (hts (.fieldLink RX2 28 "ForkDeskModel" "thrown" "I") (by decide +kernel)) (fun _ h9 => h9) rfl (by decide +kernel) rfl rfl (Nat.le_of_ble_eq_true rfl) dX2_nearest_2 (fun H locs hP _ hS => ?_)
  have hP : va_P D vwCl (mdW N bd cZ cI (nI 0) rb mb pt) H := hP
  refine lv_iload_n hx hb dX2_nearest_5 rfl (lv_at hl 1 rfl) ?_
  refine va_calli (va_runS (As := [.int k]) (rest := []) ⟨hx, hb, hml, hown, hts⟩ (c_isRow l D _ k) (va_cwS 1 hts (goodIn_mono gX2_isRow) rfl rfl rfl (by decide +kernel) ⟨Nat.le_of_ble_eq_true rfl, Nat.le_of_ble_eq_true rfl⟩) ⟨wp0_blind, fun U hU hW => wp0_of (va_P.sub hP [] rfl) (hK.sub [] rfl) htb hS no_in hU hW⟩ rfl rfl hl.1 rfl (lv_room (Nat.le_of_ble_eq_true rfl)) dX2_nearest_6 ⟨Nat.zero_le _, Nat.zero_le _⟩) hS (fun q _ h => h.elim) (fun q h => h.elim) (fun r_6 u_6 t H1 locs ht hvm hw hB hz1 hk1 hS => ?_)
  have hP := xa_same hP hk1
  clear hz1 hk1 hB ht
  generalize H1 = H at hP hS ⊢
  subst hw
  refine xa_if0 (tgt := 26) hx hb dX2_nearest_9 (by decide) (fun c_9 => ?_) (fun c_9 => ?_)
  · refine lv_iconst (v := nI 0) hx hb dX2_nearest_26 (by decide) ?_
    exact W.zret (v := (nI 0)) hx hb hr (by decide) (fun t ht hW => ⟨⟨(nI 0), (rb, mb, pt), rfl, ⟨by rw [(show spN N g k a c1 = none from if_neg (by simp [c_9]))]; rfl, by rw [(show spN N g k a c1 = none from if_neg (by simp [c_9]))]; exact hg⟩, (by show va_P _ _ _ _; rw [ht]; exact hP)⟩, hS.F ht⟩) hS.2.2 dX2_nearest_27
  · refine lv_iload_n hx hb dX2_nearest_12 rfl (lv_at hl 2 rfl) ?_
    refine va_calli (va_runS (As := [.int a]) (rest := []) ⟨hx, hb, hml, hown, hts⟩ (c_isRow l D _ a) (va_cwS 1 hts (goodIn_mono gX2_isRow) rfl rfl rfl (by decide +kernel) ⟨Nat.le_of_ble_eq_true rfl, Nat.le_of_ble_eq_true rfl⟩) ⟨wp0_blind, fun U hU hW => wp0_of (va_P.sub hP [] rfl) (hK.sub [] rfl) htb hS no_in hU hW⟩ rfl rfl hl.1 rfl (lv_room (Nat.le_of_ble_eq_true rfl)) dX2_nearest_13 ⟨Nat.zero_le _, Nat.zero_le _⟩) hS (fun q _ h => h.elim) (fun q h => h.elim) (fun r_13 u_13 t H1 locs ht hvm hw hB hz1 hk1 hS => ?_)
    have hP := xa_same hP hk1
    clear hz1 hk1 hB ht
    generalize H1 = H at hP hS ⊢
    subst hw
    refine xa_if0 (tgt := 26) hx hb dX2_nearest_16 (by decide) (fun c_16 => ?_) (fun c_16 => ?_)
    · refine lv_iconst (v := nI 0) hx hb dX2_nearest_26 (by decide) ?_
      exact W.zret (v := (nI 0)) hx hb hr (by decide) (fun t ht hW => ⟨⟨(nI 0), (rb, mb, pt), rfl, ⟨by rw [(show spN N g k a c1 = none from if_neg (by simp [c_9, c_16]))]; rfl, by rw [(show spN N g k a c1 = none from if_neg (by simp [c_9, c_16]))]; exact hg⟩, (by show va_P _ _ _ _; rw [ht]; exact hP)⟩, hS.F ht⟩) hS.2.2 dX2_nearest_27
    · refine lv_iload_n hx hb dX2_nearest_19 rfl (lv_at hl 3 rfl) ?_
      refine va_calli (va_runS (As := [.int c1]) (rest := []) ⟨hx, hb, hml, hown, hts⟩ (c_isRow l D _ c1) (va_cwS 1 hts (goodIn_mono gX2_isRow) rfl rfl rfl (by decide +kernel) ⟨Nat.le_of_ble_eq_true rfl, Nat.le_of_ble_eq_true rfl⟩) ⟨wp0_blind, fun U hU hW => wp0_of (va_P.sub hP [] rfl) (hK.sub [] rfl) htb hS no_in hU hW⟩ rfl rfl hl.1 rfl (lv_room (Nat.le_of_ble_eq_true rfl)) dX2_nearest_20 ⟨Nat.zero_le _, Nat.zero_le _⟩) hS (fun q _ h => h.elim) (fun q h => h.elim) (fun r_20 u_20 t H1 locs ht hvm hw hB hz1 hk1 hS => ?_)
      have hP := xa_same hP hk1
      clear hz1 hk1 hB ht
      generalize H1 = H at hP hS ⊢
      subst hw
      refine xa_if1 (tgt := 28) hx hb dX2_nearest_23 (by decide) (fun c_23 => ?_) (fun c_23 => ?_)
      · obtain ⟨j, hj, ej⟩ := isR_t c_9
        rw [ej] at hl
        obtain ⟨x1, hx1, ex1⟩ := isR_t c_16
        rw [ex1] at hl
        obtain ⟨x2, hx2, ex2⟩ := isR_t c_23
        rw [ex2] at hl
        have hsp : spN N g k a c1 = some (va_up g j (ng (g x1) (g x2) N)) := by unfold spN; rw [if_pos (by rw [c_9, c_16, c_23]; rfl), ej, ex1, ex2, ix_nI (by omega), ix_nI (by omega), ix_nI (by omega)]
        refine lv_iconst (v := nI 0) hx hb dX2_nearest_28 (by decide) ?_
        refine lv_istore (lv' := [(4, .int (nI 0)), (0, .ref (bd 0)), (1, .int (nI j)), (2, .int (nI x1)), (3, .int (nI x2))]) hx hb dX2_nearest_29 hl (by decide) rfl (fun ls hl => ?_)
        have lp_31 : ∀ (n9 w : Nat) (m2 : Nat → Bool) (H : Heap) (locs : List Loc) (ls : Array Slot), w ≤ 2 ^ N → 2 ^ N + 1 ≤ w + n9 → (∀ z, z < w → m2 z = ng (g x1) (g x2) N z) → va_P D vwCl (mdW N bd cZ cI (nI 0) rb m2 pt) H → va_S A s.heap H locs → lv_has ls 6 [(0, .ref (bd 0)), (1, .int (nI j)), (2, .int (nI x1)), (3, .int (nI x2)), (4, .int (nI w))] → W p l e (headSpec wsX2_nearest ({ frames := 1, cells := 0, slots := 0, locals := 22 } : Room)).room s m ([.ref (bd 0), .int k, .int a, .int c1] : List Value).toArray below meth c H locs 0 0 (MQ below (va_Qi (fun (r : Int32) (u : (Nat → Bool) × (Nat → Bool) × (Nat → Int32)) => r = nI (spN N g k a c1).isSome.toNat ∧ okM N u.1 ((spN N g k a c1).getD g)) (fun (u : (Nat → Bool) × (Nat → Bool) × (Nat → Int32)) t => va_P D vwCl (mdW N bd cZ cI (nI 0) u.1 u.2.1 u.2.2) t.heap) A) ([.ref (bd 0), .int k, .int a, .int c1] : List Value).toArray s 0 0 A) (F0 m 31 ls []) := by
          intro n9
          induction n9 with
          | zero => intro w m2 H locs ls h1 h2; exact absurd h2 (by omega)
          | succ n9 ih =>
            intro w m2 H locs ls hle_31 hmm_31 hI hP hS hl
            have ih_31 := @ih
            refine lv_iload hx hb dX2_nearest_31 (lv_at hl 4 rfl) ?_
            refine lv_aload_n hx hb dX2_nearest_33 rfl (lv_at hl 0 rfl) ?_
            refine va_get (D := D) (ci := 2) (C := RX2) (T := TX2) (N := 6) hx hb hts (fun w h => List.mem_cons_of_mem _ (inBX2 w h)) hown hK hP 0 rfl rfl 2 (by decide) (hts (.fieldLink RX2 25 "ForkDeskModel" "points" "I") (by decide +kernel)) (fun _ h9 => h9) rfl dX2_nearest_34 ?_
            refine xa_ge (tgt := 111) hx hb (by omega) (by omega) dX2_nearest_37 (by decide) (fun c_37 => ?_) (fun c_37 => ?_)
            · refine lv_aload_n hx hb dX2_nearest_111 rfl (lv_at hl 0 rfl) ?_
              refine lv_iload_n hx hb dX2_nearest_112 rfl (lv_at hl 1 rfl) ?_
              refine va_calli (va_runV (As := [.int (nI j)]) (rest := []) ⟨hx, hb, hml, hown, hts⟩ (c_keep l D _ N hN1 hN bd (aok4_true hao) cZ cI (nI 0) rb m2 pt j (by omega)) (cwV 1 hts (goodIn_mono gX2_keep) rfl rfl rfl (by decide +kernel) ⟨Nat.le_of_ble_eq_true rfl, Nat.le_of_ble_eq_true rfl⟩) ⟨wp0_blind, va_recv hK hP (ci := 2) (q0 := 0) rfl rfl, fun U hU hW => wp0_of hP hK htb hS (fr4_in hao hS hA) hU hW⟩ rfl rfl hl.1 rfl (lv_room (Nat.le_of_ble_eq_true rfl)) dX2_nearest_113 ⟨Nat.zero_le _, Nat.zero_le _⟩) hS (fun q _ h => (fr4_in hao hS hA) q h) ((fr4_in hao hS hA)) (fun r_113 u_113 t H1 locs ht hvm hw hB hz1 hk1 hS => ?_)
              rw [ht] at hB
              obtain ⟨hw1, hw2⟩ := hw
              subst hw1
              subst hw2
              have hP := hB
              clear hz1 hk1 hB ht
              generalize H1 = H at hP hS ⊢
              exact W.zret (v := (nI 1)) hx hb hr (by decide) (fun t ht hW => ⟨⟨(nI 1), (kpt rb m2 j (2 ^ N), m2, pt), rfl, ⟨by rw [hsp]; rfl, by rw [hsp]; exact (okM_up hN hg hj (fun z hz => hI z (by omega)))⟩, (by show va_P _ _ _ _; rw [ht]; exact hP)⟩, hS.F ht⟩) hS.2.2 dX2_nearest_116
            · refine lv_iconst (v := nI 0) hx hb dX2_nearest_40 (by decide) ?_
              refine lv_istore (lv' := [(5, .int (nI 0)), (0, .ref (bd 0)), (1, .int (nI j)), (2, .int (nI x1)), (3, .int (nI x2)), (4, .int (nI w))]) hx hb dX2_nearest_41 hl (by decide) rfl (fun ls hl => ?_)
              have lp_43 : ∀ (n9 d : Nat) (H : Heap) (locs : List Loc) (ls : Array Slot), d ≤ 2 ^ N → 2 ^ N + 1 ≤ d + n9 → (∀ y, y < d → rb (4096 * x2 + (w ^^^ y)) = false) → va_P D vwCl (mdW N bd cZ cI (nI 0) rb m2 pt) H → va_S A s.heap H locs → lv_has ls 6 [(0, .ref (bd 0)), (1, .int (nI j)), (2, .int (nI x1)), (3, .int (nI x2)), (4, .int (nI w)), (5, .int (nI d))] → W p l e (headSpec wsX2_nearest ({ frames := 1, cells := 0, slots := 0, locals := 22 } : Room)).room s m ([.ref (bd 0), .int k, .int a, .int c1] : List Value).toArray below meth c H locs 0 0 (MQ below (va_Qi (fun (r : Int32) (u : (Nat → Bool) × (Nat → Bool) × (Nat → Int32)) => r = nI (spN N g k a c1).isSome.toNat ∧ okM N u.1 ((spN N g k a c1).getD g)) (fun (u : (Nat → Bool) × (Nat → Bool) × (Nat → Int32)) t => va_P D vwCl (mdW N bd cZ cI (nI 0) u.1 u.2.1 u.2.2) t.heap) A) ([.ref (bd 0), .int k, .int a, .int c1] : List Value).toArray s 0 0 A) (F0 m 43 ls []) := by
                intro n9
                induction n9 with
                | zero => intro d  H locs ls h1 h2; exact absurd h2 (by omega)
                | succ n9 ih =>
                  intro d  H locs ls hle_43 hmm_43 hJ hP hS hl
                  have ih_43 := @ih
                  refine lv_iload hx hb dX2_nearest_43 (lv_at hl 5 rfl) ?_
                  refine lv_aload_n hx hb dX2_nearest_45 rfl (lv_at hl 0 rfl) ?_
                  refine va_get (D := D) (ci := 2) (C := RX2) (T := TX2) (N := 6) hx hb hts (fun w h => List.mem_cons_of_mem _ (inBX2 w h)) hown hK hP 0 rfl rfl 2 (by decide) (hts (.fieldLink RX2 25 "ForkDeskModel" "points" "I") (by decide +kernel)) (fun _ h9 => h9) rfl dX2_nearest_46 ?_
                  refine xa_ge (tgt := 71) hx hb (by omega) (by omega) dX2_nearest_49 (by decide) (fun c_49 => ?_) (fun c_49 => ?_)
                  · refine lv_aload_n hx hb dX2_nearest_71 rfl (lv_at hl 0 rfl) ?_
                    refine va_get (D := D) (ci := 2) (C := RX2) (T := TX2) (N := 6) hx hb hts (fun w h => List.mem_cons_of_mem _ (inBX2 w h)) hown hK hP 0 rfl rfl 4 (by decide) (hts (.fieldLink RX2 14 "ForkDeskModel" "made" "[Z") (by decide +kernel)) (fun _ h9 => h9) rfl dX2_nearest_72 ?_
                    refine lv_iload hx hb dX2_nearest_75 (lv_at hl 4 rfl) ?_
                    refine lv_iload hx hb dX2_nearest_77 (lv_at hl 5 rfl) ?_
                    refine lv_aload_n hx hb dX2_nearest_79 rfl (lv_at hl 0 rfl) ?_
                    refine va_get (D := D) (ci := 2) (C := RX2) (T := TX2) (N := 6) hx hb hts (fun w h => List.mem_cons_of_mem _ (inBX2 w h)) hown hK hP 0 rfl rfl 2 (by decide) (hts (.fieldLink RX2 25 "ForkDeskModel" "points" "I") (by decide +kernel)) (fun _ h9 => h9) rfl dX2_nearest_80 ?_
                    refine xa_ge (tgt := 103) hx hb (by omega) (by omega) dX2_nearest_83 (by decide) (fun c_83 => ?_) (fun c_83 => ?_)
                    · refine lv_iconst (v := nI 0) hx hb dX2_nearest_103 (by decide) ?_
                      refine xa_zast hx hb hK hP (md_D hao) hS 2 0 rfl rfl (w := w) (b := false) (by omega) (by omega) dX2_nearest_104 (fun H locs hP _ hS => ?_)
                      have hP : va_P D vwCl (mdW N bd cZ cI (nI 0) rb (va_up m2 w false) pt) H := hP
                      refine xa_inc (k := 4) (lv' := [(4, .int (nI (w + 1))), (0, .ref (bd 0)), (1, .int (nI j)), (2, .int (nI x1)), (3, .int (nI x2)), (5, .int (nI d))]) hx hb dX2_nearest_105 hl rfl (by decide) rfl (fun ls hl => ?_)
                      refine lv_goto (tgt := 31) hx hb dX2_nearest_108 (by decide) ?_
                      exact ih_31 (w + 1) (va_up m2 w false) _ _ _ (by omega) (by omega) (fun z hz => by by_cases hzw : z = w; (subst hzw; rw [va_up_self]; exact (near_no hg hx2 c_37 (fun y hy => hJ y (by omega))).symm); (rw [va_up_ne _ _ hzw]; exact hI z (by omega))) hP hS (lv_sub hl [1, 2, 3, 4, 0] rfl)
                    · exact absurd c_83 (by omega)
                  · have hxd : w ^^^ d < 2 ^ N := Nat.xor_lt_two_pow c_37 c_49
                    refine lv_aload_n hx hb dX2_nearest_52 rfl (lv_at hl 0 rfl) ?_
                    refine lv_iload_n hx hb dX2_nearest_53 rfl (lv_at hl 3 rfl) ?_
                    refine lv_iload hx hb dX2_nearest_54 (lv_at hl 4 rfl) ?_
                    refine lv_iload hx hb dX2_nearest_56 (lv_at hl 5 rfl) ?_
                    refine xa_ixor hx hb dX2_nearest_58 ?_
                    refine va_calli (va_runV (As := [.int (nI x2), .int (nI (w ^^^ d))]) (rest := []) ⟨hx, hb, hml, hown, hts⟩ (c_has l D _ N bd cZ (nI 0) rb x2 (w ^^^ d) (by omega)) (cwV 2 hts (goodIn_mono gX2_has) rfl rfl rfl (by decide +kernel) ⟨Nat.le_of_ble_eq_true rfl, Nat.le_of_ble_eq_true rfl⟩) ⟨wp0_blind, va_recv hK hP (ci := 2) (q0 := 0) rfl rfl, fun U hU hW => wp0_of (hP.sub [0, 1] rfl) (hK.sub [0] rfl) htb hS no_in hU hW⟩ rfl rfl hl.1 rfl (lv_room (Nat.le_of_ble_eq_true rfl)) dX2_nearest_59 ⟨Nat.zero_le _, Nat.zero_le _⟩) hS (fun q _ h => h.elim) (fun q h => h.elim) (fun r_59 u_59 t H1 locs ht hvm hw hB hz1 hk1 hS => ?_)
                    have hP := xa_same hP hk1
                    clear hz1 hk1 hB ht
                    generalize H1 = H at hP hS ⊢
                    subst hw
                    refine xa_if1 (tgt := 71) hx hb dX2_nearest_62 (by decide) (fun c_62 => ?_) (fun c_62 => ?_)
                    · refine lv_aload_n hx hb dX2_nearest_71 rfl (lv_at hl 0 rfl) ?_
                      refine va_get (D := D) (ci := 2) (C := RX2) (T := TX2) (N := 6) hx hb hts (fun w h => List.mem_cons_of_mem _ (inBX2 w h)) hown hK hP 0 rfl rfl 4 (by decide) (hts (.fieldLink RX2 14 "ForkDeskModel" "made" "[Z") (by decide +kernel)) (fun _ h9 => h9) rfl dX2_nearest_72 ?_
                      refine lv_iload hx hb dX2_nearest_75 (lv_at hl 4 rfl) ?_
                      refine lv_iload hx hb dX2_nearest_77 (lv_at hl 5 rfl) ?_
                      refine lv_aload_n hx hb dX2_nearest_79 rfl (lv_at hl 0 rfl) ?_
                      refine va_get (D := D) (ci := 2) (C := RX2) (T := TX2) (N := 6) hx hb hts (fun w h => List.mem_cons_of_mem _ (inBX2 w h)) hown hK hP 0 rfl rfl 2 (by decide) (hts (.fieldLink RX2 25 "ForkDeskModel" "points" "I") (by decide +kernel)) (fun _ h9 => h9) rfl dX2_nearest_80 ?_
                      refine xa_ge (tgt := 103) hx hb (by omega) (by omega) dX2_nearest_83 (by decide) (fun c_83 => ?_) (fun c_83 => ?_)
                      · exact absurd c_83 (by omega)
                      · refine lv_aload_n hx hb dX2_nearest_86 rfl (lv_at hl 0 rfl) ?_
                        refine lv_iload_n hx hb dX2_nearest_87 rfl (lv_at hl 2 rfl) ?_
                        refine lv_iload hx hb dX2_nearest_88 (lv_at hl 4 rfl) ?_
                        refine lv_iload hx hb dX2_nearest_90 (lv_at hl 5 rfl) ?_
                        refine xa_ixor hx hb dX2_nearest_92 ?_
                        refine va_calli (va_runV (As := [.int (nI x1), .int (nI (w ^^^ d))]) (rest := [.int (nI w), .ref (bd 2)]) ⟨hx, hb, hml, hown, hts⟩ (c_has l D _ N bd cZ (nI 0) rb x1 (w ^^^ d) (by omega)) (cwV 2 hts (goodIn_mono gX2_has) rfl rfl rfl (by decide +kernel) ⟨Nat.le_of_ble_eq_true rfl, Nat.le_of_ble_eq_true rfl⟩) ⟨wp0_blind, va_recv hK hP (ci := 2) (q0 := 0) rfl rfl, fun U hU hW => wp0_of (hP.sub [0, 1] rfl) (hK.sub [0] rfl) htb hS no_in hU hW⟩ rfl rfl hl.1 rfl (lv_room (Nat.le_of_ble_eq_true rfl)) dX2_nearest_93 ⟨Nat.zero_le _, Nat.zero_le _⟩) hS (fun q _ h => h.elim) (fun q h => h.elim) (fun r_93 u_93 t H1 locs ht hvm hw hB hz1 hk1 hS => ?_)
                        have hP := xa_same hP hk1
                        clear hz1 hk1 hB ht
                        generalize H1 = H at hP hS ⊢
                        subst hw
                        refine xa_if0 (tgt := 103) hx hb dX2_nearest_96 (by decide) (fun c_96 => ?_) (fun c_96 => ?_)
                        · refine lv_iconst (v := nI 0) hx hb dX2_nearest_103 (by decide) ?_
                          refine xa_zast hx hb hK hP (md_D hao) hS 2 0 rfl rfl (w := w) (b := false) (by omega) (by omega) dX2_nearest_104 (fun H locs hP _ hS => ?_)
                          have hP : va_P D vwCl (mdW N bd cZ cI (nI 0) rb (va_up m2 w false) pt) H := hP
                          refine xa_inc (k := 4) (lv' := [(4, .int (nI (w + 1))), (0, .ref (bd 0)), (1, .int (nI j)), (2, .int (nI x1)), (3, .int (nI x2)), (5, .int (nI d))]) hx hb dX2_nearest_105 hl rfl (by decide) rfl (fun ls hl => ?_)
                          refine lv_goto (tgt := 31) hx hb dX2_nearest_108 (by decide) ?_
                          exact ih_31 (w + 1) (va_up m2 w false) _ _ _ (by omega) (by omega) (fun z hz => by by_cases hzw : z = w; (subst hzw; rw [va_up_self]; rw [near_hit hg hx1 hx2 c_37 c_49 c_62 hJ, c_96]); (rw [va_up_ne _ _ hzw]; exact hI z (by omega))) hP hS (lv_sub hl [1, 2, 3, 4, 0] rfl)
                        · refine lv_iconst (v := nI 1) hx hb dX2_nearest_99 (by decide) ?_
                          refine lv_goto (tgt := 104) hx hb dX2_nearest_100 (by decide) ?_
                          refine xa_zast hx hb hK hP (md_D hao) hS 2 0 rfl rfl (w := w) (b := true) (by omega) (by omega) dX2_nearest_104 (fun H locs hP _ hS => ?_)
                          have hP : va_P D vwCl (mdW N bd cZ cI (nI 0) rb (va_up m2 w true) pt) H := hP
                          refine xa_inc (k := 4) (lv' := [(4, .int (nI (w + 1))), (0, .ref (bd 0)), (1, .int (nI j)), (2, .int (nI x1)), (3, .int (nI x2)), (5, .int (nI d))]) hx hb dX2_nearest_105 hl rfl (by decide) rfl (fun ls hl => ?_)
                          refine lv_goto (tgt := 31) hx hb dX2_nearest_108 (by decide) ?_
                          exact ih_31 (w + 1) (va_up m2 w true) _ _ _ (by omega) (by omega) (fun z hz => by by_cases hzw : z = w; (subst hzw; rw [va_up_self]; rw [near_hit hg hx1 hx2 c_37 c_49 c_62 hJ, c_96]); (rw [va_up_ne _ _ hzw]; exact hI z (by omega))) hP hS (lv_sub hl [1, 2, 3, 4, 0] rfl)
                    · refine xa_inc (k := 5) (lv' := [(5, .int (nI (d + 1))), (0, .ref (bd 0)), (1, .int (nI j)), (2, .int (nI x1)), (3, .int (nI x2)), (4, .int (nI w))]) hx hb dX2_nearest_65 hl rfl (by decide) rfl (fun ls hl => ?_)
                      refine lv_goto (tgt := 43) hx hb dX2_nearest_68 (by decide) ?_
                      exact ih_43 (d + 1)  _ _ _ (by omega) (by omega) (fun y hy => by by_cases hyd : y = d; (subst hyd; exact c_62); (exact hJ y (by omega))) hP hS (lv_sub hl [1, 2, 3, 4, 5, 0] rfl)
              exact lp_43 (2 ^ N + 1 - 0) 0  _ _ _ (by omega) (by omega) (fun y hy => absurd hy (by omega)) hP hS (lv_sub hl [1, 2, 3, 4, 5, 0] rfl)
        exact lp_31 (2 ^ N + 1 - 0) 0 mb _ _ _ (by omega) (by omega) (fun z hz => absurd hz (by omega)) hP hS (lv_sub hl [1, 2, 3, 4, 0] rfl)
      · refine lv_iconst (v := nI 0) hx hb dX2_nearest_26 (by decide) ?_
        exact W.zret (v := (nI 0)) hx hb hr (by decide) (fun t ht hW => ⟨⟨(nI 0), (rb, mb, pt), rfl, ⟨by rw [(show spN N g k a c1 = none from if_neg (by simp [c_9, c_16, c_23]))]; rfl, by rw [(show spN N g k a c1 = none from if_neg (by simp [c_9, c_16, c_23]))]; exact hg⟩, (by show va_P _ _ _ _; rw [ht]; exact hP)⟩, hS.F ht⟩) hS.2.2 dX2_nearest_27
end
section
theorem arR_in2 {f : Int32} {c : Nat} (h1 : ¬ f < 0) (h2 : ¬ nI (32 - c) < f) : arR f c = true := decide_eq_true ⟨h1, h2⟩
theorem arR_g2 {f : Int32} {c : Nat} (h : nI (32 - c) < f) : arR f c = false := decide_eq_false (fun q => q.2 h)
theorem tp_top {N m T : Nat} (hm : m ≤ N) (h : T < 2 ^ m) : T * 2 ^ (N - m) + 2 ^ (N - m) ≤ 2 ^ N := by
  have e : 2 ^ N = 2 ^ m * 2 ^ (N - m) := by rw [← Nat.pow_add]; congr 1; omega
  rw [e, show T * 2 ^ (N - m) + 2 ^ (N - m) = (T + 1) * 2 ^ (N - m) by rw [Nat.succ_mul]]
  exact Nat.mul_le_mul_right _ h
/-- image, as the reference marks: the points whose upper part is a tuple of the first n points of c -/
def imR (g : Nat → Nat → Bool) (x0 m f x2 n y : Nat) : Bool := (List.range n).any (fun p => g x2 p && decide (tp g x0 p m = y / 2 ^ f))
theorem imR_iff {g : Nat → Nat → Bool} {x0 m f x2 n y : Nat} : imR g x0 m f x2 n y = true ↔ ∃ p, p < n ∧ g x2 p = true ∧ tp g x0 p m = y / 2 ^ f := by
  unfold imR
  rw [List.any_eq_true]
  constructor
  · rintro ⟨p, hp, h⟩
    rw [Bool.and_eq_true] at h
    exact ⟨p, List.mem_range.mp hp, h.1, of_decide_eq_true h.2⟩
  · rintro ⟨p, hp, h1, h2⟩
    exact ⟨p, List.mem_range.mpr hp, by rw [h1, decide_eq_true h2]; rfl⟩
theorem imR_s {g : Nat → Nat → Bool} {x0 m f x2 n y : Nat} : imR g x0 m f x2 (n + 1) y = (imR g x0 m f x2 n y || (g x2 n && decide (tp g x0 n m = y / 2 ^ f))) := by
  unfold imR
  rw [List.range_succ, List.any_append]
  simp
theorem imR_no {N x0 m f x2 w : Nat} {rb : Nat → Bool} {g : Nat → Nat → Bool} {m3 : Nat → Bool} (hg : okM N rb g) (hx2 : x2 < 32) (hw : w < 2 ^ N) (h : rb (4096 * x2 + w) = false) (hJ : ∀ y, y < 2 ^ N → m3 y = imR g x0 m f x2 w y) : ∀ y, y < 2 ^ N → m3 y = imR g x0 m f x2 (w + 1) y := fun y hy => by
  rw [imR_s, hJ y hy, ← hg x2 w hx2 hw, h, Bool.false_and, Bool.or_false]
theorem blk {f T TO y : Nat} (hTO : T * 2 ^ f = TO) : T = y / 2 ^ f ↔ TO ≤ y ∧ y < TO + 2 ^ f := by
  have h0 : 0 < 2 ^ f := Nat.two_pow_pos f
  subst hTO
  constructor
  · rintro rfl
    have h1 := Nat.div_add_mod y (2 ^ f)
    have h2 := Nat.mod_lt y h0
    rw [Nat.mul_comm] at h1
    omega
  · rintro ⟨h1, h2⟩
    refine (Nat.div_eq_of_lt_le h1 ?_).symm
    rw [Nat.succ_mul]
    exact h2
theorem imR_yes {N x0 m x2 w T TO : Nat} {rb : Nat → Bool} {g : Nat → Nat → Bool} {m3 m4 : Nat → Bool} (hg : okM N rb g) (hx2 : x2 < 32) (h0 : x0 + m ≤ 32) (hTT : tp (fun k p => rb (4096 * k + p)) x0 w m = T) (hTO : T * 2 ^ (N - m) = TO) (_ : m ≤ N) (hw : w < 2 ^ N) (h : rb (4096 * x2 + w) = true) (hJ : ∀ y, y < 2 ^ N → m3 y = imR g x0 m (N - m) x2 w y) (hL : ∀ y, y < 2 ^ N → m4 y = (m3 y || decide (TO ≤ y ∧ y < TO + 2 ^ (N - m)))) : ∀ y, y < 2 ^ N → m4 y = imR g x0 m (N - m) x2 (w + 1) y := fun y hy => by
  have e : tp g x0 w m = T := by
    rw [← hTT]
    exact tp_congr (fun k hk => (hg (x0 + k) w (by omega) hw).symm)
  rw [imR_s, hL y hy, hJ y hy, ← hg x2 w hx2 hw, h, Bool.true_and, e]
  congr 1
  rw [decide_eq_decide]
  exact (blk hTO).symm
theorem imR_end {N m x0 x2 y : Nat} {g : Nat → Nat → Bool} : imR g x0 m (N - m) x2 (2 ^ N) y = sgs (imB g x0 m (N - m) x2 (2 ^ N)) (N - m) y := bool_iff (by
  rw [imR_iff, sgs_iff]
  have hp : ∀ T : Nat, T * 2 ^ (N - m) / 2 ^ (N - m) = T := fun T => Nat.mul_div_cancel _ (Nat.two_pow_pos _)
  constructor
  · rintro ⟨p, h1, h2, h3⟩
    exact ⟨tp g x0 p m * 2 ^ (N - m), imB_iff.mpr ⟨p, h1, h2, rfl⟩, by rw [hp]; exact h3⟩
  · rintro ⟨z, h1, h2⟩
    obtain ⟨p, h3, h4, h5⟩ := imB_iff.mp h1
    refine ⟨p, h3, h4, ?_⟩
    rw [← h2, ← h5, hp])
theorem sle_end {N w : Nat} {rb : Nat → Bool} {g : Nat → Nat → Bool} {k : Int32} (_ : N ≤ 12) (hg : okM N rb g) (hw : 2 ^ N ≤ w) (hI : ∀ z, z < w → isR k = true ∧ rb (4096 * ix k + z) = false) : -1 = sLe N g k := by
  unfold sLe
  by_cases hk : isR k = true
  · rw [if_pos hk, lq_none (fun p hp => ?_)]
    · rfl
    · obtain ⟨j, hj, ej⟩ := isR_t hk
      rw [ej, ix_nI (by omega), ← hg j p hj hp]
      have := (hI p (by omega)).2
      rw [ej, ix_nI (by omega)] at this
      exact this
  · rw [if_neg hk]
theorem eqg_alk {N x1 x2 : Nat} {rb : Nat → Bool} {g : Nat → Nat → Bool} (hg : okM N rb g) (h1 : x1 < 32) (h2 : x2 < 32) : eqg N (g x1) (g x2) = alk rb (4096 * 0 + 4096 * x1) (4096 * 0 + 4096 * x2) (2 ^ N) := bool_iff (by
  rw [eqg_iff, alk_iff, Nat.mul_zero, Nat.zero_add, Nat.zero_add]
  constructor
  · intro h p hp
    rw [hg x1 p h1 hp, hg x2 p h2 hp]
    exact h p hp
  · intro h p hp
    rw [← hg x1 p h1 hp, ← hg x2 p h2 hp]
    exact h p hp)
end
section
set_option maxHeartbeats 4000000 in
set_option maxRecDepth 100000 in
/-- the reference: image -/
theorem c_mImage (l : Launch) (D : va_G) (sz : Nat) (N : Nat) (hN1 : 1 ≤ N) (hN : N ≤ 12) (bd : Nat → Nat) (hao : aok4 (fun _ => True) bd) (cZ cI : ClassId) (th : Int32) (rb mb : Nat → Bool) (pt : Nat → Int32) (g : Nat → Nat → Bool) (hg : okM N rb g) (k f mv c1 : Int32) : Met l yX2_image wsX2_image ({ frames := 2, cells := 0, slots := 0, locals := 47 } : Room) (va_Pc [.ref (bd 0), .int k, .int f, .int mv, .int c1] (wp0 D (mdW N bd cZ cI th rb mb pt) (mdT cZ cI) (fr4 bd sz) sz)) (va_Qi (fun (r : Int32) (u : (Nat → Bool) × (Nat → Bool) × (Nat → Int32)) => r = nI (spI N g k f mv c1).isSome.toNat ∧ okM N u.1 ((spI N g k f mv c1).getD g)) (fun (u : (Nat → Bool) × (Nat → Bool) × (Nat → Int32)) t => va_P D vwCl (mdW N bd cZ cI (nI 0) u.1 u.2.1 u.2.2) t.heap) (fr4 bd sz)) 0 0 (fr4 bd sz) := by
  refine Met.ofW (cc := cX2_image) (maxL := 9) (ret := (some .boolean)) (by decide) rfl ?_
  intro p e s m args below meth c s₁ B hml hv
  obtain ⟨rfl, hsz, hP, hK, htb⟩ := hv
  have hx := B.exec
  have hb := B.bytes
  have hr := B.returns
  have hts := atoms_spec (ws := wsX2_image) B.pre
  have hown : s.vm.findClass RX2 = some m.cls := findClass_of_methodNamed B.named
  have hlocks := B.notSynchronized
  subst hsz
  generalize hAe : fr4 bd s.heap.size = A at htb ⊢
  have hA : ∀ q : Nat, s.heap.size ≤ q → A q := fun q h => by rw [← hAe]; exact fr4_new q h
  have hao : aok4 A bd := by rw [← hAe]; exact aok4_fr hao
  obtain ⟨⟨tt, hZ, hT⟩, hNst⟩ := id htb
  have hS : va_S A s.heap s.heap [] := va_S.rf
  have hl := lv_entry ([.ref (bd 0), .int k, .int f, .int mv, .int c1]) (n := 9) (Nat.le_of_ble_eq_true rfl)
  rw [lg_entry_eq]
  generalize (lg_sl ([.ref (bd 0), .int k, .int f, .int mv, .int c1]) ++ List.replicate (9 - (lg_sl ([.ref (bd 0), .int k, .int f, .int mv, .int c1])).length) Slot.unset).toArray = ls at hl ⊢
  have hl : lv_has ls 9 [(0, .ref (bd 0)), (1, .int k), (2, .int f), (3, .int mv), (4, .int c1)] := hl
  have hnp := np_le hN
  have hnp0 : 0 < 2 ^ N := Nat.two_pow_pos N
  refine lv_aload_n hx hb dX2_image_0 rfl (lv_at hl 0 rfl) ?_
  refine lv_iconst (v := nI 0) hx hb dX2_image_1 (by decide) ?_
  refine va_put (D := D) (ci := 2) (v := .int (nI 0)) (ty := .int) (C := RX2) (T := TX2) (N := 6) hx hb hts (fun w h => List.mem_cons_of_mem _ (inBX2 w h)) tyX2 tyX2_ok nmX2 hown hK hP (md_D hao) hS 0 rfl rfl 0 (by decide) (hts (.fieldLink RX2 28 "ForkDeskModel" "thrown" "I") (by decide +kernel)) (fun _ h9 => h9) rfl (by decide +kernel) rfl rfl (Nat.le_of_ble_eq_true rfl) dX2_image_2 (fun H locs hP _ hS => ?_)
  have hP : va_P D vwCl (mdW N bd cZ cI (nI 0) rb mb pt) H := hP
  refine lv_iload_n hx hb dX2_image_5 rfl (lv_at hl 1 rfl) ?_
  refine va_calli (va_runS (As := [.int k]) (rest := []) ⟨hx, hb, hml, hown, hts⟩ (c_isRow l D _ k) (va_cwS 1 hts (goodIn_mono gX2_isRow) rfl rfl rfl (by decide +kernel) ⟨Nat.le_of_ble_eq_true rfl, Nat.le_of_ble_eq_true rfl⟩) ⟨wp0_blind, fun U hU hW => wp0_of (va_P.sub hP [] rfl) (hK.sub [] rfl) htb hS no_in hU hW⟩ rfl rfl hl.1 rfl (lv_room (Nat.le_of_ble_eq_true rfl)) dX2_image_6 ⟨Nat.zero_le _, Nat.zero_le _⟩) hS (fun q _ h => h.elim) (fun q h => h.elim) (fun r_6 u_6 t H1 locs ht hvm hw hB hz1 hk1 hS => ?_)
  have hP := xa_same hP hk1
  clear hz1 hk1 hB ht
  generalize H1 = H at hP hS ⊢
  subst hw
  refine xa_if0 (tgt := 40) hx hb dX2_image_9 (by decide) (fun c_9 => ?_) (fun c_9 => ?_)
  · refine lv_iconst (v := nI 0) hx hb dX2_image_40 (by decide) ?_
    exact W.zret (v := (nI 0)) hx hb hr (by decide) (fun t ht hW => ⟨⟨(nI 0), (rb, mb, pt), rfl, ⟨by rw [(show spI N g k f mv c1 = none from if_neg (by simp [c_9]))]; rfl, by rw [(show spI N g k f mv c1 = none from if_neg (by simp [c_9]))]; exact hg⟩, (by show va_P _ _ _ _; rw [ht]; exact hP)⟩, hS.F ht⟩) hS.2.2 dX2_image_41
  · refine lv_aload_n hx hb dX2_image_12 rfl (lv_at hl 0 rfl) ?_
    refine lv_iload_n hx hb dX2_image_13 rfl (lv_at hl 3 rfl) ?_
    refine va_calli (va_runV (As := [.int mv]) (rest := []) ⟨hx, hb, hml, hown, hts⟩ (c_isVariableM l D _ N bd (nI 0) mv) (cwV 1 hts (goodIn_mono gX2_isVariable) rfl rfl rfl (by decide +kernel) ⟨Nat.le_of_ble_eq_true rfl, Nat.le_of_ble_eq_true rfl⟩) ⟨wp0_blind, va_recv hK hP (ci := 2) (q0 := 0) rfl rfl, fun U hU hW => wp0_of (va_one hP 0 rfl) (hK.sub [] rfl) htb hS no_in hU hW⟩ rfl rfl hl.1 rfl (lv_room (Nat.le_of_ble_eq_true rfl)) dX2_image_14 ⟨Nat.zero_le _, Nat.zero_le _⟩) hS (fun q _ h => h.elim) (fun q h => h.elim) (fun r_14 u_14 t H1 locs ht hvm hw hB hz1 hk1 hS => ?_)
    have hP := xa_same hP hk1
    clear hz1 hk1 hB ht
    generalize H1 = H at hP hS ⊢
    subst hw
    refine xa_if0 (tgt := 40) hx hb dX2_image_17 (by decide) (fun c_17 => ?_) (fun c_17 => ?_)
    · refine lv_iconst (v := nI 0) hx hb dX2_image_40 (by decide) ?_
      exact W.zret (v := (nI 0)) hx hb hr (by decide) (fun t ht hW => ⟨⟨(nI 0), (rb, mb, pt), rfl, ⟨by rw [(show spI N g k f mv c1 = none from if_neg (by simp [c_9, c_17]))]; rfl, by rw [(show spI N g k f mv c1 = none from if_neg (by simp [c_9, c_17]))]; exact hg⟩, (by show va_P _ _ _ _; rw [ht]; exact hP)⟩, hS.F ht⟩) hS.2.2 dX2_image_41
    · obtain ⟨mm, hmm1, hmm, emm⟩ := isV_t hN c_17
      rw [emm] at hl
      have hix : ix mv = mm := by rw [emm]; exact ix_nI (by omega)
      refine lv_iload_n hx hb dX2_image_20 rfl (lv_at hl 2 rfl) ?_
      refine lv_if_lt (tgt := 40) hx hb dX2_image_21 (by decide) (fun c_21 => ?_) (fun c_21 => ?_)
      · refine lv_iconst (v := nI 0) hx hb dX2_image_40 (by decide) ?_
        exact W.zret (v := (nI 0)) hx hb hr (by decide) (fun t ht hW => ⟨⟨(nI 0), (rb, mb, pt), rfl, ⟨by rw [(show spI N g k f mv c1 = none from if_neg (by simp [c_9, c_17, hix, arR_lt c_21]))]; rfl, by rw [(show spI N g k f mv c1 = none from if_neg (by simp [c_9, c_17, hix, arR_lt c_21]))]; exact hg⟩, (by show va_P _ _ _ _; rw [ht]; exact hP)⟩, hS.F ht⟩) hS.2.2 dX2_image_41
      · refine lv_iload_n hx hb dX2_image_24 rfl (lv_at hl 2 rfl) ?_
        refine lv_bipush (v := nI 32) hx hb dX2_image_25 (by decide) ?_
        refine lv_iload_n hx hb dX2_image_27 rfl (lv_at hl 3 rfl) ?_
        refine xa_isub hx hb (by omega) dX2_image_28 ?_
        refine lv_icmp_gt (tgt := 40) hx hb dX2_image_29 (by decide) (fun c_29 => ?_) (fun c_29 => ?_)
        · refine lv_iconst (v := nI 0) hx hb dX2_image_40 (by decide) ?_
          exact W.zret (v := (nI 0)) hx hb hr (by decide) (fun t ht hW => ⟨⟨(nI 0), (rb, mb, pt), rfl, ⟨by rw [(show spI N g k f mv c1 = none from if_neg (by simp [c_9, c_17, hix, arR_g2 c_29]))]; rfl, by rw [(show spI N g k f mv c1 = none from if_neg (by simp [c_9, c_17, hix, arR_g2 c_29]))]; exact hg⟩, (by show va_P _ _ _ _; rw [ht]; exact hP)⟩, hS.F ht⟩) hS.2.2 dX2_image_41
        · refine lv_iload hx hb dX2_image_32 (lv_at hl 4 rfl) ?_
          refine va_calli (va_runS (As := [.int c1]) (rest := []) ⟨hx, hb, hml, hown, hts⟩ (c_isRow l D _ c1) (va_cwS 1 hts (goodIn_mono gX2_isRow) rfl rfl rfl (by decide +kernel) ⟨Nat.le_of_ble_eq_true rfl, Nat.le_of_ble_eq_true rfl⟩) ⟨wp0_blind, fun U hU hW => wp0_of (va_P.sub hP [] rfl) (hK.sub [] rfl) htb hS no_in hU hW⟩ rfl rfl hl.1 rfl (lv_room (Nat.le_of_ble_eq_true rfl)) dX2_image_34 ⟨Nat.zero_le _, Nat.zero_le _⟩) hS (fun q _ h => h.elim) (fun q h => h.elim) (fun r_34 u_34 t H1 locs ht hvm hw hB hz1 hk1 hS => ?_)
          have hP := xa_same hP hk1
          clear hz1 hk1 hB ht
          generalize H1 = H at hP hS ⊢
          subst hw
          refine xa_if1 (tgt := 42) hx hb dX2_image_37 (by decide) (fun c_37 => ?_) (fun c_37 => ?_)
          · have hAt : arR f mm = true := arR_in2 c_21 c_29
            obtain ⟨j, hj, ej⟩ := isR_t c_9
            rw [ej] at hl
            obtain ⟨x0, hx0, ex0⟩ := arR_t (by omega) hAt
            rw [ex0] at hl
            obtain ⟨x2, hx2, ex2⟩ := isR_t c_37
            rw [ex2] at hl
            have hsp : spI N g k f mv c1 = some (va_up g j (sgs (imB g x0 mm (N - mm) x2 (2 ^ N)) (N - mm))) := by unfold spI; rw [emm, ix_nI (by omega), if_pos (by rw [c_9, ← emm, c_17, hAt, c_37]; rfl), ej, ex0, ex2, ix_nI (by omega), ix_nI (by omega), ix_nI (by omega)]
            have hf0 : 0 < 2 ^ (N - mm) := Nat.two_pow_pos _
            have hf12 : 2 ^ (N - mm) ≤ 2 ^ N := Nat.pow_le_pow_right (by omega) (by omega)
            refine lv_iconst (v := nI 0) hx hb dX2_image_42 (by decide) ?_
            refine lv_istore (lv' := [(5, .int (nI 0)), (0, .ref (bd 0)), (1, .int (nI j)), (2, .int (nI x0)), (3, .int (nI mm)), (4, .int (nI x2))]) hx hb dX2_image_43 hl (by decide) rfl (fun ls hl => ?_)
            have lp_45 : ∀ (n9 w : Nat) (m2 : Nat → Bool) (H : Heap) (locs : List Loc) (ls : Array Slot), w ≤ 2 ^ N → 2 ^ N + 1 ≤ w + n9 → (∀ z, z < w → m2 z = false) → va_P D vwCl (mdW N bd cZ cI (nI 0) rb m2 pt) H → va_S A s.heap H locs → lv_has ls 9 [(0, .ref (bd 0)), (1, .int (nI j)), (2, .int (nI x0)), (3, .int (nI mm)), (4, .int (nI x2)), (5, .int (nI w))] → W p l e (headSpec wsX2_image ({ frames := 2, cells := 0, slots := 0, locals := 47 } : Room)).room s m ([.ref (bd 0), .int k, .int f, .int mv, .int c1] : List Value).toArray below meth c H locs 0 0 (MQ below (va_Qi (fun (r : Int32) (u : (Nat → Bool) × (Nat → Bool) × (Nat → Int32)) => r = nI (spI N g k f mv c1).isSome.toNat ∧ okM N u.1 ((spI N g k f mv c1).getD g)) (fun (u : (Nat → Bool) × (Nat → Bool) × (Nat → Int32)) t => va_P D vwCl (mdW N bd cZ cI (nI 0) u.1 u.2.1 u.2.2) t.heap) A) ([.ref (bd 0), .int k, .int f, .int mv, .int c1] : List Value).toArray s 0 0 A) (F0 m 45 ls []) := by
              intro n9
              induction n9 with
              | zero => intro w m2 H locs ls h1 h2; exact absurd h2 (by omega)
              | succ n9 ih =>
                intro w m2 H locs ls hle_45 hmm_45 hI hP hS hl
                have ih_45 := @ih
                refine lv_iload hx hb dX2_image_45 (lv_at hl 5 rfl) ?_
                refine lv_aload_n hx hb dX2_image_47 rfl (lv_at hl 0 rfl) ?_
                refine va_get (D := D) (ci := 2) (C := RX2) (T := TX2) (N := 6) hx hb hts (fun w h => List.mem_cons_of_mem _ (inBX2 w h)) hown hK hP 0 rfl rfl 2 (by decide) (hts (.fieldLink RX2 25 "ForkDeskModel" "points" "I") (by decide +kernel)) (fun _ h9 => h9) rfl dX2_image_48 ?_
                refine xa_ge (tgt := 68) hx hb (by omega) (by omega) dX2_image_51 (by decide) (fun c_51 => ?_) (fun c_51 => ?_)
                · refine lv_iconst (v := nI 1) hx hb dX2_image_68 (by decide) ?_
                  refine lv_aload_n hx hb dX2_image_69 rfl (lv_at hl 0 rfl) ?_
                  refine va_get (D := D) (ci := 2) (C := RX2) (T := TX2) (N := 6) hx hb hts (fun w h => List.mem_cons_of_mem _ (inBX2 w h)) hown hK hP 0 rfl rfl 1 (by decide) (hts (.fieldLink RX2 21 "ForkDeskModel" "n" "I") (by decide +kernel)) (fun _ h9 => h9) rfl dX2_image_70 ?_
                  refine lv_iload_n hx hb dX2_image_73 rfl (lv_at hl 3 rfl) ?_
                  refine xa_isub hx hb (by omega) dX2_image_74 ?_
                  refine xa_ishl1 hx hb (by omega) dX2_image_75 ?_
                  refine lv_istore (lv' := [(5, .int (nI (2 ^ (N - mm)))), (0, .ref (bd 0)), (1, .int (nI j)), (2, .int (nI x0)), (3, .int (nI mm)), (4, .int (nI x2))]) hx hb dX2_image_76 hl (by decide) rfl (fun ls hl => ?_)
                  refine lv_iconst (v := nI 0) hx hb dX2_image_78 (by decide) ?_
                  refine lv_istore (lv' := [(6, .int (nI 0)), (5, .int (nI (2 ^ (N - mm)))), (0, .ref (bd 0)), (1, .int (nI j)), (2, .int (nI x0)), (3, .int (nI mm)), (4, .int (nI x2))]) hx hb dX2_image_79 hl (by decide) rfl (fun ls hl => ?_)
                  have lp_81 : ∀ (n9 w : Nat) (m3 : Nat → Bool) (H : Heap) (locs : List Loc) (ls : Array Slot), w ≤ 2 ^ N → 2 ^ N + 1 ≤ w + n9 → (∀ y, y < 2 ^ N → m3 y = imR g x0 mm (N - mm) x2 w y) → va_P D vwCl (mdW N bd cZ cI (nI 0) rb m3 pt) H → va_S A s.heap H locs → lv_has ls 9 [(0, .ref (bd 0)), (1, .int (nI j)), (2, .int (nI x0)), (3, .int (nI mm)), (4, .int (nI x2)), (5, .int (nI (2 ^ (N - mm)))), (6, .int (nI w))] → W p l e (headSpec wsX2_image ({ frames := 2, cells := 0, slots := 0, locals := 47 } : Room)).room s m ([.ref (bd 0), .int k, .int f, .int mv, .int c1] : List Value).toArray below meth c H locs 0 0 (MQ below (va_Qi (fun (r : Int32) (u : (Nat → Bool) × (Nat → Bool) × (Nat → Int32)) => r = nI (spI N g k f mv c1).isSome.toNat ∧ okM N u.1 ((spI N g k f mv c1).getD g)) (fun (u : (Nat → Bool) × (Nat → Bool) × (Nat → Int32)) t => va_P D vwCl (mdW N bd cZ cI (nI 0) u.1 u.2.1 u.2.2) t.heap) A) ([.ref (bd 0), .int k, .int f, .int mv, .int c1] : List Value).toArray s 0 0 A) (F0 m 81 ls []) := by
                    intro n9
                    induction n9 with
                    | zero => intro w m3 H locs ls h1 h2; exact absurd h2 (by omega)
                    | succ n9 ih =>
                      intro w m3 H locs ls hle_81 hmm_81 hJ hP hS hl
                      have ih_81 := @ih
                      refine lv_iload hx hb dX2_image_81 (lv_at hl 6 rfl) ?_
                      refine lv_aload_n hx hb dX2_image_83 rfl (lv_at hl 0 rfl) ?_
                      refine va_get (D := D) (ci := 2) (C := RX2) (T := TX2) (N := 6) hx hb hts (fun w h => List.mem_cons_of_mem _ (inBX2 w h)) hown hK hP 0 rfl rfl 2 (by decide) (hts (.fieldLink RX2 25 "ForkDeskModel" "points" "I") (by decide +kernel)) (fun _ h9 => h9) rfl dX2_image_84 ?_
                      refine xa_ge (tgt := 150) hx hb (by omega) (by omega) dX2_image_87 (by decide) (fun c_87 => ?_) (fun c_87 => ?_)
                      · refine lv_aload_n hx hb dX2_image_150 rfl (lv_at hl 0 rfl) ?_
                        refine lv_iload_n hx hb dX2_image_151 rfl (lv_at hl 1 rfl) ?_
                        refine va_calli (va_runV (As := [.int (nI j)]) (rest := []) ⟨hx, hb, hml, hown, hts⟩ (c_keep l D _ N hN1 hN bd (aok4_true hao) cZ cI (nI 0) rb m3 pt j (by omega)) (cwV 1 hts (goodIn_mono gX2_keep) rfl rfl rfl (by decide +kernel) ⟨Nat.le_of_ble_eq_true rfl, Nat.le_of_ble_eq_true rfl⟩) ⟨wp0_blind, va_recv hK hP (ci := 2) (q0 := 0) rfl rfl, fun U hU hW => wp0_of hP hK htb hS (fr4_in hao hS hA) hU hW⟩ rfl rfl hl.1 rfl (lv_room (Nat.le_of_ble_eq_true rfl)) dX2_image_152 ⟨Nat.zero_le _, Nat.zero_le _⟩) hS (fun q _ h => (fr4_in hao hS hA) q h) ((fr4_in hao hS hA)) (fun r_152 u_152 t H1 locs ht hvm hw hB hz1 hk1 hS => ?_)
                        rw [ht] at hB
                        obtain ⟨hw1, hw2⟩ := hw
                        subst hw1
                        subst hw2
                        have hP := hB
                        clear hz1 hk1 hB ht
                        generalize H1 = H at hP hS ⊢
                        exact W.zret (v := (nI 1)) hx hb hr (by decide) (fun t ht hW => ⟨⟨(nI 1), (kpt rb m3 j (2 ^ N), m3, pt), rfl, ⟨by rw [hsp]; rfl, by rw [hsp]; exact (okM_up hN hg hj (fun z hz => by rw [hJ z hz, show w = 2 ^ N by omega]; exact imR_end))⟩, (by show va_P _ _ _ _; rw [ht]; exact hP)⟩, hS.F ht⟩) hS.2.2 dX2_image_155
                      · refine lv_aload_n hx hb dX2_image_90 rfl (lv_at hl 0 rfl) ?_
                        refine lv_iload hx hb dX2_image_91 (lv_at hl 4 rfl) ?_
                        refine lv_iload hx hb dX2_image_93 (lv_at hl 6 rfl) ?_
                        refine va_calli (va_runV (As := [.int (nI x2), .int (nI w)]) (rest := []) ⟨hx, hb, hml, hown, hts⟩ (c_has l D _ N bd cZ (nI 0) rb x2 w (by omega)) (cwV 2 hts (goodIn_mono gX2_has) rfl rfl rfl (by decide +kernel) ⟨Nat.le_of_ble_eq_true rfl, Nat.le_of_ble_eq_true rfl⟩) ⟨wp0_blind, va_recv hK hP (ci := 2) (q0 := 0) rfl rfl, fun U hU hW => wp0_of (hP.sub [0, 1] rfl) (hK.sub [0] rfl) htb hS no_in hU hW⟩ rfl rfl hl.1 rfl (lv_room (Nat.le_of_ble_eq_true rfl)) dX2_image_95 ⟨Nat.zero_le _, Nat.zero_le _⟩) hS (fun q _ h => h.elim) (fun q h => h.elim) (fun r_95 u_95 t H1 locs ht hvm hw hB hz1 hk1 hS => ?_)
                        have hP := xa_same hP hk1
                        clear hz1 hk1 hB ht
                        generalize H1 = H at hP hS ⊢
                        subst hw
                        refine xa_if1 (tgt := 104) hx hb dX2_image_98 (by decide) (fun c_98 => ?_) (fun c_98 => ?_)
                        · refine lv_aload_n hx hb dX2_image_104 rfl (lv_at hl 0 rfl) ?_
                          refine lv_iload_n hx hb dX2_image_105 rfl (lv_at hl 2 rfl) ?_
                          refine lv_iload_n hx hb dX2_image_106 rfl (lv_at hl 3 rfl) ?_
                          refine lv_iload hx hb dX2_image_107 (lv_at hl 6 rfl) ?_
                          refine va_calli (va_runV (As := [.int (nI x0), .int (nI mm), .int (nI w)]) (rest := []) ⟨hx, hb, hml, hown, hts⟩ (c_led l D _ N bd cZ (nI 0) rb x0 mm w (by omega) (by omega) (by omega)) (cwV 3 hts (goodIn_mono gX2_led) rfl rfl rfl (by decide +kernel) ⟨Nat.le_of_ble_eq_true rfl, Nat.le_of_ble_eq_true rfl⟩) ⟨wp0_blind, va_recv hK hP (ci := 2) (q0 := 0) rfl rfl, fun U hU hW => wp0_of (hP.sub [0, 1] rfl) (hK.sub [0] rfl) htb hS no_in hU hW⟩ rfl rfl hl.1 rfl (lv_room (Nat.le_of_ble_eq_true rfl)) dX2_image_109 ⟨Nat.zero_le _, Nat.zero_le _⟩) hS (fun q _ h => h.elim) (fun q h => h.elim) (fun r_109 u_109 t H1 locs ht hvm hw hB hz1 hk1 hS => ?_)
                          have hP := xa_same hP hk1
                          clear hz1 hk1 hB ht
                          generalize H1 = H at hP hS ⊢
                          subst hw
                          have htl := tp_lt (fun k p => rb (4096 * k + p)) x0 w mm
                          have hto := tp_top hmm htl
                          generalize hTT : tp (fun k p => rb (4096 * k + p)) x0 w mm = TT at htl hto ⊢
                          generalize hTO : TT * 2 ^ (N - mm) = TO at hto
                          refine lv_iload hx hb dX2_image_112 (lv_at hl 5 rfl) ?_
                          refine xa_imul hx hb dX2_image_114 ?_
                          rw [hTO]
                          refine lv_istore (lv' := [(7, .int (nI TO)), (0, .ref (bd 0)), (1, .int (nI j)), (2, .int (nI x0)), (3, .int (nI mm)), (4, .int (nI x2)), (5, .int (nI (2 ^ (N - mm)))), (6, .int (nI w))]) hx hb dX2_image_115 hl (by decide) rfl (fun ls hl => ?_)
                          refine lv_iconst (v := nI 0) hx hb dX2_image_117 (by decide) ?_
                          refine lv_istore (lv' := [(8, .int (nI 0)), (7, .int (nI TO)), (0, .ref (bd 0)), (1, .int (nI j)), (2, .int (nI x0)), (3, .int (nI mm)), (4, .int (nI x2)), (5, .int (nI (2 ^ (N - mm)))), (6, .int (nI w))]) hx hb dX2_image_118 hl (by decide) rfl (fun ls hl => ?_)
                          have lp_120 : ∀ (n9 x : Nat) (m4 : Nat → Bool) (H : Heap) (locs : List Loc) (ls : Array Slot), x ≤ 2 ^ (N - mm) → 2 ^ (N - mm) + 1 ≤ x + n9 → (∀ y, y < 2 ^ N → m4 y = (m3 y || decide (TO ≤ y ∧ y < TO + x))) → va_P D vwCl (mdW N bd cZ cI (nI 0) rb m4 pt) H → va_S A s.heap H locs → lv_has ls 9 [(0, .ref (bd 0)), (1, .int (nI j)), (2, .int (nI x0)), (3, .int (nI mm)), (4, .int (nI x2)), (5, .int (nI (2 ^ (N - mm)))), (6, .int (nI w)), (7, .int (nI TO)), (8, .int (nI x))] → W p l e (headSpec wsX2_image ({ frames := 2, cells := 0, slots := 0, locals := 47 } : Room)).room s m ([.ref (bd 0), .int k, .int f, .int mv, .int c1] : List Value).toArray below meth c H locs 0 0 (MQ below (va_Qi (fun (r : Int32) (u : (Nat → Bool) × (Nat → Bool) × (Nat → Int32)) => r = nI (spI N g k f mv c1).isSome.toNat ∧ okM N u.1 ((spI N g k f mv c1).getD g)) (fun (u : (Nat → Bool) × (Nat → Bool) × (Nat → Int32)) t => va_P D vwCl (mdW N bd cZ cI (nI 0) u.1 u.2.1 u.2.2) t.heap) A) ([.ref (bd 0), .int k, .int f, .int mv, .int c1] : List Value).toArray s 0 0 A) (F0 m 120 ls []) := by
                            intro n9
                            induction n9 with
                            | zero => intro x m4 H locs ls h1 h2; exact absurd h2 (by omega)
                            | succ n9 ih =>
                              intro x m4 H locs ls hle_120 hmm_120 hL hP hS hl
                              have ih_120 := @ih
                              refine lv_iload hx hb dX2_image_120 (lv_at hl 8 rfl) ?_
                              refine lv_iload hx hb dX2_image_122 (lv_at hl 5 rfl) ?_
                              refine xa_ge (tgt := 144) hx hb (by omega) (by omega) dX2_image_124 (by decide) (fun c_124 => ?_) (fun c_124 => ?_)
                              · refine xa_inc (k := 6) (lv' := [(6, .int (nI (w + 1))), (0, .ref (bd 0)), (1, .int (nI j)), (2, .int (nI x0)), (3, .int (nI mm)), (4, .int (nI x2)), (5, .int (nI (2 ^ (N - mm)))), (7, .int (nI TO)), (8, .int (nI x))]) hx hb dX2_image_144 hl rfl (by decide) rfl (fun ls hl => ?_)
                                refine lv_goto (tgt := 81) hx hb dX2_image_147 (by decide) ?_
                                exact ih_81 (w + 1) m4 _ _ _ (by omega) (by omega) (imR_yes hg hx2 (by omega) hTT hTO hmm c_87 c_98 hJ (fun y hy => by rw [hL y hy, show x = 2 ^ (N - mm) by omega])) hP hS (lv_sub hl [1, 2, 3, 4, 5, 6, 0] rfl)
                              · refine lv_aload_n hx hb dX2_image_127 rfl (lv_at hl 0 rfl) ?_
                                refine va_get (D := D) (ci := 2) (C := RX2) (T := TX2) (N := 6) hx hb hts (fun w h => List.mem_cons_of_mem _ (inBX2 w h)) hown hK hP 0 rfl rfl 4 (by decide) (hts (.fieldLink RX2 14 "ForkDeskModel" "made" "[Z") (by decide +kernel)) (fun _ h9 => h9) rfl dX2_image_128 ?_
                                refine lv_iload hx hb dX2_image_131 (lv_at hl 7 rfl) ?_
                                refine lv_iload hx hb dX2_image_133 (lv_at hl 8 rfl) ?_
                                refine xa_iadd hx hb dX2_image_135 ?_
                                refine lv_iconst (v := nI 1) hx hb dX2_image_136 (by decide) ?_
                                refine xa_zast hx hb hK hP (md_D hao) hS 2 0 rfl rfl (w := TO + x) (b := true) (by omega) (by omega) dX2_image_137 (fun H locs hP _ hS => ?_)
                                have hP : va_P D vwCl (mdW N bd cZ cI (nI 0) rb (va_up m4 (TO + x) true) pt) H := hP
                                refine xa_inc (k := 8) (lv' := [(8, .int (nI (x + 1))), (0, .ref (bd 0)), (1, .int (nI j)), (2, .int (nI x0)), (3, .int (nI mm)), (4, .int (nI x2)), (5, .int (nI (2 ^ (N - mm)))), (6, .int (nI w)), (7, .int (nI TO))]) hx hb dX2_image_138 hl rfl (by decide) rfl (fun ls hl => ?_)
                                refine lv_goto (tgt := 120) hx hb dX2_image_141 (by decide) ?_
                                exact ih_120 (x + 1) (va_up m4 (TO + x) true) _ _ _ (by omega) (by omega) (fun y hy => by by_cases hyx : y = TO + x; (subst hyx; rw [va_up_self, decide_eq_true (by omega), Bool.or_true]); (rw [va_up_ne _ _ hyx, hL y hy, show decide (TO ≤ y ∧ y < TO + (x + 1)) = decide (TO ≤ y ∧ y < TO + x) by rw [decide_eq_decide]; omega])) hP hS (lv_sub hl [1, 2, 3, 4, 5, 6, 7, 8, 0] rfl)
                          exact lp_120 (2 ^ (N - mm) + 1 - 0) 0 m3 _ _ _ (by omega) (by omega) (fun y hy => by rw [decide_eq_false (by omega), Bool.or_false]) hP hS (lv_sub hl [2, 3, 4, 5, 6, 7, 8, 1, 0] rfl)
                        · refine lv_goto (tgt := 144) hx hb dX2_image_101 (by decide) ?_
                          refine xa_inc (k := 6) (lv' := [(6, .int (nI (w + 1))), (0, .ref (bd 0)), (1, .int (nI j)), (2, .int (nI x0)), (3, .int (nI mm)), (4, .int (nI x2)), (5, .int (nI (2 ^ (N - mm))))]) hx hb dX2_image_144 hl rfl (by decide) rfl (fun ls hl => ?_)
                          refine lv_goto (tgt := 81) hx hb dX2_image_147 (by decide) ?_
                          exact ih_81 (w + 1) m3 _ _ _ (by omega) (by omega) (imR_no hg hx2 c_87 c_98 hJ) hP hS (lv_sub hl [1, 2, 3, 4, 5, 6, 0] rfl)
                  exact lp_81 (2 ^ N + 1 - 0) 0 m2 _ _ _ (by omega) (by omega) (fun y hy => by rw [hI y (by omega)]; rfl) hP hS (lv_sub hl [2, 3, 4, 5, 6, 1, 0] rfl)
                · refine lv_aload_n hx hb dX2_image_54 rfl (lv_at hl 0 rfl) ?_
                  refine va_get (D := D) (ci := 2) (C := RX2) (T := TX2) (N := 6) hx hb hts (fun w h => List.mem_cons_of_mem _ (inBX2 w h)) hown hK hP 0 rfl rfl 4 (by decide) (hts (.fieldLink RX2 14 "ForkDeskModel" "made" "[Z") (by decide +kernel)) (fun _ h9 => h9) rfl dX2_image_55 ?_
                  refine lv_iload hx hb dX2_image_58 (lv_at hl 5 rfl) ?_
                  refine lv_iconst (v := nI 0) hx hb dX2_image_60 (by decide) ?_
                  refine xa_zast hx hb hK hP (md_D hao) hS 2 0 rfl rfl (w := w) (b := false) (by omega) (by omega) dX2_image_61 (fun H locs hP _ hS => ?_)
                  have hP : va_P D vwCl (mdW N bd cZ cI (nI 0) rb (va_up m2 w false) pt) H := hP
                  refine xa_inc (k := 5) (lv' := [(5, .int (nI (w + 1))), (0, .ref (bd 0)), (1, .int (nI j)), (2, .int (nI x0)), (3, .int (nI mm)), (4, .int (nI x2))]) hx hb dX2_image_62 hl rfl (by decide) rfl (fun ls hl => ?_)
                  refine lv_goto (tgt := 45) hx hb dX2_image_65 (by decide) ?_
                  exact ih_45 (w + 1) (va_up m2 w false) _ _ _ (by omega) (by omega) (fun z hz => by by_cases hzw : z = w; (subst hzw; rw [va_up_self]; skip); (rw [va_up_ne _ _ hzw]; exact hI z (by omega))) hP hS (lv_sub hl [1, 2, 3, 4, 5, 0] rfl)
            exact lp_45 (2 ^ N + 1 - 0) 0 mb _ _ _ (by omega) (by omega) (fun z hz => absurd hz (by omega)) hP hS (lv_sub hl [1, 2, 3, 4, 5, 0] rfl)
          · refine lv_iconst (v := nI 0) hx hb dX2_image_40 (by decide) ?_
            exact W.zret (v := (nI 0)) hx hb hr (by decide) (fun t ht hW => ⟨⟨(nI 0), (rb, mb, pt), rfl, ⟨by rw [(show spI N g k f mv c1 = none from if_neg (by simp [c_9, c_17, hix, arR_in2 c_21 c_29, c_37]))]; rfl, by rw [(show spI N g k f mv c1 = none from if_neg (by simp [c_9, c_17, hix, arR_in2 c_21 c_29, c_37]))]; exact hg⟩, (by show va_P _ _ _ _; rw [ht]; exact hP)⟩, hS.F ht⟩) hS.2.2 dX2_image_41
end
section
set_option maxHeartbeats 4000000 in
set_option maxRecDepth 100000 in
/-- the reference: ones -/
theorem c_mOnes (l : Launch) (D : va_G) (sz : Nat) (N : Nat) (hN1 : 1 ≤ N) (hN : N ≤ 12) (bd : Nat → Nat) (hao : aok4 (fun _ => True) bd) (cZ cI : ClassId) (th : Int32) (rb mb : Nat → Bool) (pt : Nat → Int32) (g : Nat → Nat → Bool) (hg : okM N rb g) (k : Int32) : Met l yX2_ones wsX2_ones ({ frames := 1, cells := 0, slots := 0, locals := 22 } : Room) (va_Pc [.ref (bd 0), .int k] (wp0 D (mdW N bd cZ cI th rb mb pt) (mdT cZ cI) (fr4 bd sz) sz)) (va_Qi (fun (r : Int32) (u : (Nat → Bool) × (Nat → Bool) × (Nat → Int32)) => r = sOn N g k ∧ okM N u.1 g) (fun (u : (Nat → Bool) × (Nat → Bool) × (Nat → Int32)) t => va_P D vwCl (mdW N bd cZ cI (nI 0) u.1 u.2.1 u.2.2) t.heap) (fr4 bd sz)) 0 0 (fr4 bd sz) := by
  refine Met.ofW (cc := cX2_ones) (maxL := 4) (ret := (some .int)) (by decide) rfl ?_
  intro p e s m args below meth c s₁ B hml hv
  obtain ⟨rfl, hsz, hP, hK, htb⟩ := hv
  have hx := B.exec
  have hb := B.bytes
  have hr := B.returns
  have hts := atoms_spec (ws := wsX2_ones) B.pre
  have hown : s.vm.findClass RX2 = some m.cls := findClass_of_methodNamed B.named
  have hlocks := B.notSynchronized
  subst hsz
  generalize hAe : fr4 bd s.heap.size = A at htb ⊢
  have hA : ∀ q : Nat, s.heap.size ≤ q → A q := fun q h => by rw [← hAe]; exact fr4_new q h
  have hao : aok4 A bd := by rw [← hAe]; exact aok4_fr hao
  obtain ⟨⟨tt, hZ, hT⟩, hNst⟩ := id htb
  have hS : va_S A s.heap s.heap [] := va_S.rf
  have hl := lv_entry ([.ref (bd 0), .int k]) (n := 4) (Nat.le_of_ble_eq_true rfl)
  rw [lg_entry_eq]
  generalize (lg_sl ([.ref (bd 0), .int k]) ++ List.replicate (4 - (lg_sl ([.ref (bd 0), .int k])).length) Slot.unset).toArray = ls at hl ⊢
  have hl : lv_has ls 4 [(0, .ref (bd 0)), (1, .int k)] := hl
  have hnp := np_le hN
  have hnp0 : 0 < 2 ^ N := Nat.two_pow_pos N
  refine lv_aload_n hx hb dX2_ones_0 rfl (lv_at hl 0 rfl) ?_
  refine lv_iconst (v := nI 0) hx hb dX2_ones_1 (by decide) ?_
  refine va_put (D := D) (ci := 2) (v := .int (nI 0)) (ty := .int) (C := RX2) (T := TX2) (N := 6) hx hb hts (fun w h => List.mem_cons_of_mem _ (inBX2 w h)) tyX2 tyX2_ok nmX2 hown hK hP (md_D hao) hS 0 rfl rfl 0 (by decide) (hts (.fieldLink RX2 28 "ForkDeskModel" "thrown" "I") (by decide +kernel)) (fun _ h9 => h9) rfl (by decide +kernel) rfl rfl (Nat.le_of_ble_eq_true rfl) dX2_ones_2 (fun H locs hP _ hS => ?_)
  have hP : va_P D vwCl (mdW N bd cZ cI (nI 0) rb mb pt) H := hP
  refine lv_iload_n hx hb dX2_ones_5 rfl (lv_at hl 1 rfl) ?_
  refine va_calli (va_runS (As := [.int k]) (rest := []) ⟨hx, hb, hml, hown, hts⟩ (c_isRow l D _ k) (va_cwS 1 hts (goodIn_mono gX2_isRow) rfl rfl rfl (by decide +kernel) ⟨Nat.le_of_ble_eq_true rfl, Nat.le_of_ble_eq_true rfl⟩) ⟨wp0_blind, fun U hU hW => wp0_of (va_P.sub hP [] rfl) (hK.sub [] rfl) htb hS no_in hU hW⟩ rfl rfl hl.1 rfl (lv_room (Nat.le_of_ble_eq_true rfl)) dX2_ones_6 ⟨Nat.zero_le _, Nat.zero_le _⟩) hS (fun q _ h => h.elim) (fun q h => h.elim) (fun r_6 u_6 t H1 locs ht hvm hw hB hz1 hk1 hS => ?_)
  have hP := xa_same hP hk1
  clear hz1 hk1 hB ht
  generalize H1 = H at hP hS ⊢
  subst hw
  refine xa_if1 (tgt := 14) hx hb dX2_ones_9 (by decide) (fun c_9 => ?_) (fun c_9 => ?_)
  · obtain ⟨j, hj, ej⟩ := isR_t c_9
    rw [ej] at hl
    refine lv_iconst (v := nI 0) hx hb dX2_ones_14 (by decide) ?_
    refine lv_istore_n (lv' := [(2, .int (nI 0)), (0, .ref (bd 0)), (1, .int (nI j))]) hx hb dX2_ones_15 rfl hl (by decide) rfl (fun ls hl => ?_)
    refine lv_iconst (v := nI 0) hx hb dX2_ones_16 (by decide) ?_
    refine lv_istore_n (lv' := [(3, .int (nI 0)), (2, .int (nI 0)), (0, .ref (bd 0)), (1, .int (nI j))]) hx hb dX2_ones_17 rfl hl (by decide) rfl (fun ls hl => ?_)
    have lp_18 : ∀ (n9 w : Nat) (sm : Nat) (H : Heap) (locs : List Loc) (ls : Array Slot), w ≤ 2 ^ N → 2 ^ N + 1 ≤ w + n9 → sm = pcn (g j) w → va_P D vwCl (mdW N bd cZ cI (nI 0) rb mb pt) H → va_S A s.heap H locs → lv_has ls 4 [(0, .ref (bd 0)), (1, .int (nI j)), (2, .int (nI sm)), (3, .int (nI w))] → W p l e (headSpec wsX2_ones ({ frames := 1, cells := 0, slots := 0, locals := 22 } : Room)).room s m ([.ref (bd 0), .int k] : List Value).toArray below meth c H locs 0 0 (MQ below (va_Qi (fun (r : Int32) (u : (Nat → Bool) × (Nat → Bool) × (Nat → Int32)) => r = sOn N g k ∧ okM N u.1 g) (fun (u : (Nat → Bool) × (Nat → Bool) × (Nat → Int32)) t => va_P D vwCl (mdW N bd cZ cI (nI 0) u.1 u.2.1 u.2.2) t.heap) A) ([.ref (bd 0), .int k] : List Value).toArray s 0 0 A) (F0 m 18 ls []) := by
      intro n9
      induction n9 with
      | zero => intro w sm H locs ls h1 h2; exact absurd h2 (by omega)
      | succ n9 ih =>
        intro w sm H locs ls hle_18 hmm_18 hI hP hS hl
        have ih_18 := @ih
        refine lv_iload_n hx hb dX2_ones_18 rfl (lv_at hl 3 rfl) ?_
        refine lv_aload_n hx hb dX2_ones_19 rfl (lv_at hl 0 rfl) ?_
        refine va_get (D := D) (ci := 2) (C := RX2) (T := TX2) (N := 6) hx hb hts (fun w h => List.mem_cons_of_mem _ (inBX2 w h)) hown hK hP 0 rfl rfl 2 (by decide) (hts (.fieldLink RX2 25 "ForkDeskModel" "points" "I") (by decide +kernel)) (fun _ h9 => h9) rfl dX2_ones_20 ?_
        refine xa_ge (tgt := 49) hx hb (by omega) (by omega) dX2_ones_23 (by decide) (fun c_23 => ?_) (fun c_23 => ?_)
        · refine lv_iload_n hx hb dX2_ones_49 rfl (lv_at hl 2 rfl) ?_
          exact W.iret (v := (nI sm)) hx hb hr (fun t ht hW => ⟨⟨(nI sm), (rb, mb, pt), rfl, ⟨by unfold sOn; rw [if_pos c_9, ej, ix_nI (by omega), hI, show w = 2 ^ N by omega], hg⟩, (by show va_P _ _ _ _; rw [ht]; exact hP)⟩, hS.F ht⟩) hS.2.2 dX2_ones_50
        · refine lv_iload_n hx hb dX2_ones_26 rfl (lv_at hl 2 rfl) ?_
          refine lv_aload_n hx hb dX2_ones_27 rfl (lv_at hl 0 rfl) ?_
          refine lv_iload_n hx hb dX2_ones_28 rfl (lv_at hl 1 rfl) ?_
          refine lv_iload_n hx hb dX2_ones_29 rfl (lv_at hl 3 rfl) ?_
          refine va_calli (va_runV (As := [.int (nI j), .int (nI w)]) (rest := [.int (nI sm)]) ⟨hx, hb, hml, hown, hts⟩ (c_has l D _ N bd cZ (nI 0) rb j w (by omega)) (cwV 2 hts (goodIn_mono gX2_has) rfl rfl rfl (by decide +kernel) ⟨Nat.le_of_ble_eq_true rfl, Nat.le_of_ble_eq_true rfl⟩) ⟨wp0_blind, va_recv hK hP (ci := 2) (q0 := 0) rfl rfl, fun U hU hW => wp0_of (hP.sub [0, 1] rfl) (hK.sub [0] rfl) htb hS no_in hU hW⟩ rfl rfl hl.1 rfl (lv_room (Nat.le_of_ble_eq_true rfl)) dX2_ones_30 ⟨Nat.zero_le _, Nat.zero_le _⟩) hS (fun q _ h => h.elim) (fun q h => h.elim) (fun r_30 u_30 t H1 locs ht hvm hw hB hz1 hk1 hS => ?_)
          have hP := xa_same hP hk1
          clear hz1 hk1 hB ht
          generalize H1 = H at hP hS ⊢
          subst hw
          refine xa_if0 (tgt := 40) hx hb dX2_ones_33 (by decide) (fun c_33 => ?_) (fun c_33 => ?_)
          · refine lv_iconst (v := nI 0) hx hb dX2_ones_40 (by decide) ?_
            refine xa_iadd hx hb dX2_ones_41 ?_
            refine lv_istore_n (lv' := [(2, .int (nI (sm + 0))), (0, .ref (bd 0)), (1, .int (nI j)), (3, .int (nI w))]) hx hb dX2_ones_42 rfl hl (by decide) rfl (fun ls hl => ?_)
            refine xa_inc (k := 3) (lv' := [(3, .int (nI (w + 1))), (2, .int (nI (sm + 0))), (0, .ref (bd 0)), (1, .int (nI j))]) hx hb dX2_ones_43 hl rfl (by decide) rfl (fun ls hl => ?_)
            refine lv_goto (tgt := 18) hx hb dX2_ones_46 (by decide) ?_
            exact ih_18 (w + 1) (sm + 0) _ _ _ (by omega) (by omega) (by rw [hI]; show _ = pcn (g j) w + (g j w).toNat; rw [← hg j w hj c_23, c_33]; rfl) hP hS (lv_sub hl [2, 3, 1, 0] rfl)
          · refine lv_iconst (v := nI 1) hx hb dX2_ones_36 (by decide) ?_
            refine lv_goto (tgt := 41) hx hb dX2_ones_37 (by decide) ?_
            refine xa_iadd hx hb dX2_ones_41 ?_
            refine lv_istore_n (lv' := [(2, .int (nI (sm + 1))), (0, .ref (bd 0)), (1, .int (nI j)), (3, .int (nI w))]) hx hb dX2_ones_42 rfl hl (by decide) rfl (fun ls hl => ?_)
            refine xa_inc (k := 3) (lv' := [(3, .int (nI (w + 1))), (2, .int (nI (sm + 1))), (0, .ref (bd 0)), (1, .int (nI j))]) hx hb dX2_ones_43 hl rfl (by decide) rfl (fun ls hl => ?_)
            refine lv_goto (tgt := 18) hx hb dX2_ones_46 (by decide) ?_
            exact ih_18 (w + 1) (sm + 1) _ _ _ (by omega) (by omega) (by rw [hI]; show _ = pcn (g j) w + (g j w).toNat; rw [← hg j w hj c_23, c_33]; rfl) hP hS (lv_sub hl [2, 3, 1, 0] rfl)
    exact lp_18 (2 ^ N + 1 - 0) 0 0 _ _ _ (by omega) (by omega) rfl hP hS (lv_sub hl [2, 3, 1, 0] rfl)
  · refine lv_iconst (v := (-1)) hx hb dX2_ones_12 (by decide) ?_
    exact W.iret (v := (-1)) hx hb hr (fun t ht hW => ⟨⟨(-1), (rb, mb, pt), rfl, ⟨by unfold sOn; rw [c_9]; rfl, hg⟩, (by show va_P _ _ _ _; rw [ht]; exact hP)⟩, hS.F ht⟩) hS.2.2 dX2_ones_13
end
section
set_option maxHeartbeats 4000000 in
set_option maxRecDepth 100000 in
/-- the reference: least -/
theorem c_mLeast (l : Launch) (D : va_G) (sz : Nat) (N : Nat) (hN1 : 1 ≤ N) (hN : N ≤ 12) (bd : Nat → Nat) (hao : aok4 (fun _ => True) bd) (cZ cI : ClassId) (th : Int32) (rb mb : Nat → Bool) (pt : Nat → Int32) (g : Nat → Nat → Bool) (hg : okM N rb g) (k : Int32) : Met l yX2_least wsX2_least ({ frames := 1, cells := 0, slots := 0, locals := 22 } : Room) (va_Pc [.ref (bd 0), .int k] (wp0 D (mdW N bd cZ cI th rb mb pt) (mdT cZ cI) (fr4 bd sz) sz)) (va_Qi (fun (r : Int32) (u : (Nat → Bool) × (Nat → Bool) × (Nat → Int32)) => r = sLe N g k ∧ okM N u.1 g) (fun (u : (Nat → Bool) × (Nat → Bool) × (Nat → Int32)) t => va_P D vwCl (mdW N bd cZ cI (nI 0) u.1 u.2.1 u.2.2) t.heap) (fr4 bd sz)) 0 0 (fr4 bd sz) := by
  refine Met.ofW (cc := cX2_least) (maxL := 3) (ret := (some .int)) (by decide) rfl ?_
  intro p e s m args below meth c s₁ B hml hv
  obtain ⟨rfl, hsz, hP, hK, htb⟩ := hv
  have hx := B.exec
  have hb := B.bytes
  have hr := B.returns
  have hts := atoms_spec (ws := wsX2_least) B.pre
  have hown : s.vm.findClass RX2 = some m.cls := findClass_of_methodNamed B.named
  have hlocks := B.notSynchronized
  subst hsz
  generalize hAe : fr4 bd s.heap.size = A at htb ⊢
  have hA : ∀ q : Nat, s.heap.size ≤ q → A q := fun q h => by rw [← hAe]; exact fr4_new q h
  have hao : aok4 A bd := by rw [← hAe]; exact aok4_fr hao
  obtain ⟨⟨tt, hZ, hT⟩, hNst⟩ := id htb
  have hS : va_S A s.heap s.heap [] := va_S.rf
  have hl := lv_entry ([.ref (bd 0), .int k]) (n := 3) (Nat.le_of_ble_eq_true rfl)
  rw [lg_entry_eq]
  generalize (lg_sl ([.ref (bd 0), .int k]) ++ List.replicate (3 - (lg_sl ([.ref (bd 0), .int k])).length) Slot.unset).toArray = ls at hl ⊢
  have hl : lv_has ls 3 [(0, .ref (bd 0)), (1, .int k)] := hl
  have hnp := np_le hN
  have hnp0 : 0 < 2 ^ N := Nat.two_pow_pos N
  refine lv_aload_n hx hb dX2_least_0 rfl (lv_at hl 0 rfl) ?_
  refine lv_iconst (v := nI 0) hx hb dX2_least_1 (by decide) ?_
  refine va_put (D := D) (ci := 2) (v := .int (nI 0)) (ty := .int) (C := RX2) (T := TX2) (N := 6) hx hb hts (fun w h => List.mem_cons_of_mem _ (inBX2 w h)) tyX2 tyX2_ok nmX2 hown hK hP (md_D hao) hS 0 rfl rfl 0 (by decide) (hts (.fieldLink RX2 28 "ForkDeskModel" "thrown" "I") (by decide +kernel)) (fun _ h9 => h9) rfl (by decide +kernel) rfl rfl (Nat.le_of_ble_eq_true rfl) dX2_least_2 (fun H locs hP _ hS => ?_)
  have hP : va_P D vwCl (mdW N bd cZ cI (nI 0) rb mb pt) H := hP
  refine lv_iconst (v := nI 0) hx hb dX2_least_5 (by decide) ?_
  refine lv_istore_n (lv' := [(2, .int (nI 0)), (0, .ref (bd 0)), (1, .int k)]) hx hb dX2_least_6 rfl hl (by decide) rfl (fun ls hl => ?_)
  have lp_7 : ∀ (n9 w : Nat) (H : Heap) (locs : List Loc) (ls : Array Slot), w ≤ 2 ^ N → 2 ^ N + 1 ≤ w + n9 → (∀ z, z < w → isR k = true ∧ rb (4096 * ix k + z) = false) → va_P D vwCl (mdW N bd cZ cI (nI 0) rb mb pt) H → va_S A s.heap H locs → lv_has ls 3 [(0, .ref (bd 0)), (1, .int k), (2, .int (nI w))] → W p l e (headSpec wsX2_least ({ frames := 1, cells := 0, slots := 0, locals := 22 } : Room)).room s m ([.ref (bd 0), .int k] : List Value).toArray below meth c H locs 0 0 (MQ below (va_Qi (fun (r : Int32) (u : (Nat → Bool) × (Nat → Bool) × (Nat → Int32)) => r = sLe N g k ∧ okM N u.1 g) (fun (u : (Nat → Bool) × (Nat → Bool) × (Nat → Int32)) t => va_P D vwCl (mdW N bd cZ cI (nI 0) u.1 u.2.1 u.2.2) t.heap) A) ([.ref (bd 0), .int k] : List Value).toArray s 0 0 A) (F0 m 7 ls []) := by
    intro n9
    induction n9 with
    | zero => intro w  H locs ls h1 h2; exact absurd h2 (by omega)
    | succ n9 ih =>
      intro w  H locs ls hle_7 hmm_7 hI hP hS hl
      have ih_7 := @ih
      refine lv_iload_n hx hb dX2_least_7 rfl (lv_at hl 2 rfl) ?_
      refine lv_aload_n hx hb dX2_least_8 rfl (lv_at hl 0 rfl) ?_
      refine va_get (D := D) (ci := 2) (C := RX2) (T := TX2) (N := 6) hx hb hts (fun w h => List.mem_cons_of_mem _ (inBX2 w h)) hown hK hP 0 rfl rfl 2 (by decide) (hts (.fieldLink RX2 25 "ForkDeskModel" "points" "I") (by decide +kernel)) (fun _ h9 => h9) rfl dX2_least_9 ?_
      refine xa_ge (tgt := 39) hx hb (by omega) (by omega) dX2_least_12 (by decide) (fun c_12 => ?_) (fun c_12 => ?_)
      · refine lv_iconst (v := (-1)) hx hb dX2_least_39 (by decide) ?_
        exact W.iret (v := (-1)) hx hb hr (fun t ht hW => ⟨⟨(-1), (rb, mb, pt), rfl, ⟨sle_end hN hg (by omega) hI, hg⟩, (by show va_P _ _ _ _; rw [ht]; exact hP)⟩, hS.F ht⟩) hS.2.2 dX2_least_40
      · refine lv_iload_n hx hb dX2_least_15 rfl (lv_at hl 1 rfl) ?_
        refine va_calli (va_runS (As := [.int k]) (rest := []) ⟨hx, hb, hml, hown, hts⟩ (c_isRow l D _ k) (va_cwS 1 hts (goodIn_mono gX2_isRow) rfl rfl rfl (by decide +kernel) ⟨Nat.le_of_ble_eq_true rfl, Nat.le_of_ble_eq_true rfl⟩) ⟨wp0_blind, fun U hU hW => wp0_of (va_P.sub hP [] rfl) (hK.sub [] rfl) htb hS no_in hU hW⟩ rfl rfl hl.1 rfl (lv_room (Nat.le_of_ble_eq_true rfl)) dX2_least_16 ⟨Nat.zero_le _, Nat.zero_le _⟩) hS (fun q _ h => h.elim) (fun q h => h.elim) (fun r_16 u_16 t H1 locs ht hvm hw hB hz1 hk1 hS => ?_)
        have hP := xa_same hP hk1
        clear hz1 hk1 hB ht
        generalize H1 = H at hP hS ⊢
        subst hw
        refine xa_if0 (tgt := 39) hx hb dX2_least_19 (by decide) (fun c_19 => ?_) (fun c_19 => ?_)
        · refine lv_iconst (v := (-1)) hx hb dX2_least_39 (by decide) ?_
          exact W.iret (v := (-1)) hx hb hr (fun t ht hW => ⟨⟨(-1), (rb, mb, pt), rfl, ⟨by unfold sLe; rw [c_19]; rfl, hg⟩, (by show va_P _ _ _ _; rw [ht]; exact hP)⟩, hS.F ht⟩) hS.2.2 dX2_least_40
        · obtain ⟨j, hj, ej⟩ := isR_t c_19
          have hlk := hl
          rw [ej] at hl
          refine lv_aload_n hx hb dX2_least_22 rfl (lv_at hl 0 rfl) ?_
          refine lv_iload_n hx hb dX2_least_23 rfl (lv_at hl 1 rfl) ?_
          refine lv_iload_n hx hb dX2_least_24 rfl (lv_at hl 2 rfl) ?_
          refine va_calli (va_runV (As := [.int (nI j), .int (nI w)]) (rest := []) ⟨hx, hb, hml, hown, hts⟩ (c_has l D _ N bd cZ (nI 0) rb j w (by omega)) (cwV 2 hts (goodIn_mono gX2_has) rfl rfl rfl (by decide +kernel) ⟨Nat.le_of_ble_eq_true rfl, Nat.le_of_ble_eq_true rfl⟩) ⟨wp0_blind, va_recv hK hP (ci := 2) (q0 := 0) rfl rfl, fun U hU hW => wp0_of (hP.sub [0, 1] rfl) (hK.sub [0] rfl) htb hS no_in hU hW⟩ rfl rfl hl.1 rfl (lv_room (Nat.le_of_ble_eq_true rfl)) dX2_least_25 ⟨Nat.zero_le _, Nat.zero_le _⟩) hS (fun q _ h => h.elim) (fun q h => h.elim) (fun r_25 u_25 t H1 locs ht hvm hw hB hz1 hk1 hS => ?_)
          have hP := xa_same hP hk1
          clear hz1 hk1 hB ht
          generalize H1 = H at hP hS ⊢
          subst hw
          refine xa_if0 (tgt := 33) hx hb dX2_least_28 (by decide) (fun c_28 => ?_) (fun c_28 => ?_)
          · rw [← ej] at hl
            refine xa_inc (k := 2) (lv' := [(2, .int (nI (w + 1))), (0, .ref (bd 0)), (1, .int k)]) hx hb dX2_least_33 hl rfl (by decide) rfl (fun ls hl => ?_)
            refine lv_goto (tgt := 7) hx hb dX2_least_36 (by decide) ?_
            exact ih_7 (w + 1)  _ _ _ (by omega) (by omega) (fun z hz => by by_cases hzw : z = w; (subst hzw; exact ⟨c_19, by rw [ej, ix_nI (by omega)]; exact c_28⟩); (exact hI z (by omega))) hP hS (lv_sub hl [1, 2, 0] rfl)
          · refine lv_iload_n hx hb dX2_least_31 rfl (lv_at hl 2 rfl) ?_
            exact W.iret (v := (nI w)) hx hb hr (fun t ht hW => ⟨⟨(nI w), (rb, mb, pt), rfl, ⟨by unfold sLe; rw [if_pos c_19, ej, ix_nI (by omega), lq_some (show g j w = true by rw [← hg j w hj c_12]; exact c_28) (fun q hq => by rw [← hg j q hj (by omega)]; have := (hI q hq).2; rw [ej, ix_nI (by omega)] at this; exact this) c_12]; rfl, hg⟩, (by show va_P _ _ _ _; rw [ht]; exact hP)⟩, hS.F ht⟩) hS.2.2 dX2_least_32
  exact lp_7 (2 ^ N + 1 - 0) 0  _ _ _ (by omega) (by omega) (fun z hz => absurd hz (by omega)) hP hS (lv_sub hl [1, 2, 0] rfl)
end
section
set_option maxHeartbeats 4000000 in
set_option maxRecDepth 100000 in
/-- the reference: at -/
theorem c_mAt (l : Launch) (D : va_G) (sz : Nat) (N : Nat) (hN1 : 1 ≤ N) (hN : N ≤ 12) (bd : Nat → Nat) (hao : aok4 (fun _ => True) bd) (cZ cI : ClassId) (th : Int32) (rb mb : Nat → Bool) (pt : Nat → Int32) (g : Nat → Nat → Bool) (hg : okM N rb g) (k q : Int32) : Met l yX2_at wsX2_at ({ frames := 1, cells := 0, slots := 0, locals := 22 } : Room) (va_Pc [.ref (bd 0), .int k, .int q] (wp0 D (mdW N bd cZ cI th rb mb pt) (mdT cZ cI) (fr4 bd sz) sz)) (va_Qi (fun (r : Int32) (u : (Nat → Bool) × (Nat → Bool) × (Nat → Int32)) => r = sAt N g k q ∧ okM N u.1 g) (fun (u : (Nat → Bool) × (Nat → Bool) × (Nat → Int32)) t => va_P D vwCl (mdW N bd cZ cI (nI 0) u.1 u.2.1 u.2.2) t.heap) (fr4 bd sz)) 0 0 (fr4 bd sz) := by
  refine Met.ofW (cc := cX2_at) (maxL := 3) (ret := (some .int)) (by decide) rfl ?_
  intro p e s m args below meth c s₁ B hml hv
  obtain ⟨rfl, hsz, hP, hK, htb⟩ := hv
  have hx := B.exec
  have hb := B.bytes
  have hr := B.returns
  have hts := atoms_spec (ws := wsX2_at) B.pre
  have hown : s.vm.findClass RX2 = some m.cls := findClass_of_methodNamed B.named
  have hlocks := B.notSynchronized
  subst hsz
  generalize hAe : fr4 bd s.heap.size = A at htb ⊢
  have hA : ∀ q : Nat, s.heap.size ≤ q → A q := fun q h => by rw [← hAe]; exact fr4_new q h
  have hao : aok4 A bd := by rw [← hAe]; exact aok4_fr hao
  obtain ⟨⟨tt, hZ, hT⟩, hNst⟩ := id htb
  have hS : va_S A s.heap s.heap [] := va_S.rf
  have hl := lv_entry ([.ref (bd 0), .int k, .int q]) (n := 3) (Nat.le_of_ble_eq_true rfl)
  rw [lg_entry_eq]
  generalize (lg_sl ([.ref (bd 0), .int k, .int q]) ++ List.replicate (3 - (lg_sl ([.ref (bd 0), .int k, .int q])).length) Slot.unset).toArray = ls at hl ⊢
  have hl : lv_has ls 3 [(0, .ref (bd 0)), (1, .int k), (2, .int q)] := hl
  have hnp := np_le hN
  have hnp0 : 0 < 2 ^ N := Nat.two_pow_pos N
  refine lv_aload_n hx hb dX2_at_0 rfl (lv_at hl 0 rfl) ?_
  refine lv_iconst (v := nI 0) hx hb dX2_at_1 (by decide) ?_
  refine va_put (D := D) (ci := 2) (v := .int (nI 0)) (ty := .int) (C := RX2) (T := TX2) (N := 6) hx hb hts (fun w h => List.mem_cons_of_mem _ (inBX2 w h)) tyX2 tyX2_ok nmX2 hown hK hP (md_D hao) hS 0 rfl rfl 0 (by decide) (hts (.fieldLink RX2 28 "ForkDeskModel" "thrown" "I") (by decide +kernel)) (fun _ h9 => h9) rfl (by decide +kernel) rfl rfl (Nat.le_of_ble_eq_true rfl) dX2_at_2 (fun H locs hP _ hS => ?_)
  have hP : va_P D vwCl (mdW N bd cZ cI (nI 0) rb mb pt) H := hP
  refine lv_iload_n hx hb dX2_at_5 rfl (lv_at hl 1 rfl) ?_
  refine va_calli (va_runS (As := [.int k]) (rest := []) ⟨hx, hb, hml, hown, hts⟩ (c_isRow l D _ k) (va_cwS 1 hts (goodIn_mono gX2_isRow) rfl rfl rfl (by decide +kernel) ⟨Nat.le_of_ble_eq_true rfl, Nat.le_of_ble_eq_true rfl⟩) ⟨wp0_blind, fun U hU hW => wp0_of (va_P.sub hP [] rfl) (hK.sub [] rfl) htb hS no_in hU hW⟩ rfl rfl hl.1 rfl (lv_room (Nat.le_of_ble_eq_true rfl)) dX2_at_6 ⟨Nat.zero_le _, Nat.zero_le _⟩) hS (fun q _ h => h.elim) (fun q h => h.elim) (fun r_6 u_6 t H1 locs ht hvm hw hB hz1 hk1 hS => ?_)
  have hP := xa_same hP hk1
  clear hz1 hk1 hB ht
  generalize H1 = H at hP hS ⊢
  subst hw
  refine xa_if0 (tgt := 24) hx hb dX2_at_9 (by decide) (fun c_9 => ?_) (fun c_9 => ?_)
  · refine lv_iconst (v := (-1)) hx hb dX2_at_24 (by decide) ?_
    refine lv_goto (tgt := 42) hx hb dX2_at_25 (by decide) ?_
    exact W.iret (v := (-1)) hx hb hr (fun t ht hW => ⟨⟨(-1), (rb, mb, pt), rfl, ⟨by unfold sAt; rw [if_neg (by simp [isP, c_9])], hg⟩, (by show va_P _ _ _ _; rw [ht]; exact hP)⟩, hS.F ht⟩) hS.2.2 dX2_at_42
  · refine lv_iload_n hx hb dX2_at_12 rfl (lv_at hl 2 rfl) ?_
    refine lv_if_lt (tgt := 24) hx hb dX2_at_13 (by decide) (fun c_13 => ?_) (fun c_13 => ?_)
    · refine lv_iconst (v := (-1)) hx hb dX2_at_24 (by decide) ?_
      refine lv_goto (tgt := 42) hx hb dX2_at_25 (by decide) ?_
      exact W.iret (v := (-1)) hx hb hr (fun t ht hW => ⟨⟨(-1), (rb, mb, pt), rfl, ⟨by unfold sAt; rw [if_neg (by simp [isP, c_9, c_13])], hg⟩, (by show va_P _ _ _ _; rw [ht]; exact hP)⟩, hS.F ht⟩) hS.2.2 dX2_at_42
    · refine lv_iload_n hx hb dX2_at_16 rfl (lv_at hl 2 rfl) ?_
      refine lv_aload_n hx hb dX2_at_17 rfl (lv_at hl 0 rfl) ?_
      refine va_get (D := D) (ci := 2) (C := RX2) (T := TX2) (N := 6) hx hb hts (fun w h => List.mem_cons_of_mem _ (inBX2 w h)) hown hK hP 0 rfl rfl 2 (by decide) (hts (.fieldLink RX2 25 "ForkDeskModel" "points" "I") (by decide +kernel)) (fun _ h9 => h9) rfl dX2_at_18 ?_
      refine lv_icmp_lt (tgt := 28) hx hb dX2_at_21 (by decide) (fun c_21 => ?_) (fun c_21 => ?_)
      · obtain ⟨j, hj, ej⟩ := isR_t c_9
        rw [ej] at hl
        obtain ⟨pp, hpp, epp⟩ := pt_of c_13 c_21 (by omega)
        rw [epp] at hl
        refine lv_aload_n hx hb dX2_at_28 rfl (lv_at hl 0 rfl) ?_
        refine lv_iload_n hx hb dX2_at_29 rfl (lv_at hl 1 rfl) ?_
        refine lv_iload_n hx hb dX2_at_30 rfl (lv_at hl 2 rfl) ?_
        refine va_calli (va_runV (As := [.int (nI j), .int (nI pp)]) (rest := []) ⟨hx, hb, hml, hown, hts⟩ (c_has l D _ N bd cZ (nI 0) rb j pp (by omega)) (cwV 2 hts (goodIn_mono gX2_has) rfl rfl rfl (by decide +kernel) ⟨Nat.le_of_ble_eq_true rfl, Nat.le_of_ble_eq_true rfl⟩) ⟨wp0_blind, va_recv hK hP (ci := 2) (q0 := 0) rfl rfl, fun U hU hW => wp0_of (hP.sub [0, 1] rfl) (hK.sub [0] rfl) htb hS no_in hU hW⟩ rfl rfl hl.1 rfl (lv_room (Nat.le_of_ble_eq_true rfl)) dX2_at_31 ⟨Nat.zero_le _, Nat.zero_le _⟩) hS (fun q _ h => h.elim) (fun q h => h.elim) (fun r_31 u_31 t H1 locs ht hvm hw hB hz1 hk1 hS => ?_)
        have hP := xa_same hP hk1
        clear hz1 hk1 hB ht
        generalize H1 = H at hP hS ⊢
        subst hw
        refine xa_if0 (tgt := 41) hx hb dX2_at_34 (by decide) (fun c_34 => ?_) (fun c_34 => ?_)
        · refine lv_iconst (v := nI 0) hx hb dX2_at_41 (by decide) ?_
          exact W.iret (v := (nI 0)) hx hb hr (fun t ht hW => ⟨⟨(nI 0), (rb, mb, pt), rfl, ⟨by unfold sAt; rw [if_pos (by rw [c_9, show isP N q = true from decide_eq_true ⟨c_13, c_21⟩]; rfl), ej, epp, ix_nI (by omega), ix_nI (by omega), ← hg j pp hj hpp, c_34]; rfl, hg⟩, (by show va_P _ _ _ _; rw [ht]; exact hP)⟩, hS.F ht⟩) hS.2.2 dX2_at_42
        · refine lv_iconst (v := nI 1) hx hb dX2_at_37 (by decide) ?_
          refine lv_goto (tgt := 42) hx hb dX2_at_38 (by decide) ?_
          exact W.iret (v := (nI 1)) hx hb hr (fun t ht hW => ⟨⟨(nI 1), (rb, mb, pt), rfl, ⟨by unfold sAt; rw [if_pos (by rw [c_9, show isP N q = true from decide_eq_true ⟨c_13, c_21⟩]; rfl), ej, epp, ix_nI (by omega), ix_nI (by omega), ← hg j pp hj hpp, c_34]; rfl, hg⟩, (by show va_P _ _ _ _; rw [ht]; exact hP)⟩, hS.F ht⟩) hS.2.2 dX2_at_42
      · refine lv_iconst (v := (-1)) hx hb dX2_at_24 (by decide) ?_
        refine lv_goto (tgt := 42) hx hb dX2_at_25 (by decide) ?_
        exact W.iret (v := (-1)) hx hb hr (fun t ht hW => ⟨⟨(-1), (rb, mb, pt), rfl, ⟨by unfold sAt; rw [if_neg (by simp [isP, c_9, c_13, c_21])], hg⟩, (by show va_P _ _ _ _; rw [ht]; exact hP)⟩, hS.F ht⟩) hS.2.2 dX2_at_42
end
section
set_option maxHeartbeats 4000000 in
set_option maxRecDepth 100000 in
/-- the reference: same -/
theorem c_mSame (l : Launch) (D : va_G) (sz : Nat) (N : Nat) (hN1 : 1 ≤ N) (hN : N ≤ 12) (bd : Nat → Nat) (hao : aok4 (fun _ => True) bd) (cZ cI : ClassId) (th : Int32) (rb mb : Nat → Bool) (pt : Nat → Int32) (g : Nat → Nat → Bool) (hg : okM N rb g) (a b : Int32) : Met l yX2_same wsX2_same ({ frames := 2, cells := 0, slots := 0, locals := 47 } : Room) (va_Pc [.ref (bd 0), .int a, .int b] (wp0 D (mdW N bd cZ cI th rb mb pt) (mdT cZ cI) (fr4 bd sz) sz)) (va_Qi (fun (r : Int32) (u : (Nat → Bool) × (Nat → Bool) × (Nat → Int32)) => r = nI (sSm N g a b).toNat ∧ okM N u.1 g) (fun (u : (Nat → Bool) × (Nat → Bool) × (Nat → Int32)) t => va_P D vwCl (mdW N bd cZ cI (nI 0) u.1 u.2.1 u.2.2) t.heap) (fr4 bd sz)) 0 0 (fr4 bd sz) := by
  refine Met.ofW (cc := cX2_same) (maxL := 3) (ret := (some .boolean)) (by decide) rfl ?_
  intro p e s m args below meth c s₁ B hml hv
  obtain ⟨rfl, hsz, hP, hK, htb⟩ := hv
  have hx := B.exec
  have hb := B.bytes
  have hr := B.returns
  have hts := atoms_spec (ws := wsX2_same) B.pre
  have hown : s.vm.findClass RX2 = some m.cls := findClass_of_methodNamed B.named
  have hlocks := B.notSynchronized
  subst hsz
  generalize hAe : fr4 bd s.heap.size = A at htb ⊢
  have hA : ∀ q : Nat, s.heap.size ≤ q → A q := fun q h => by rw [← hAe]; exact fr4_new q h
  have hao : aok4 A bd := by rw [← hAe]; exact aok4_fr hao
  obtain ⟨⟨tt, hZ, hT⟩, hNst⟩ := id htb
  have hS : va_S A s.heap s.heap [] := va_S.rf
  have hl := lv_entry ([.ref (bd 0), .int a, .int b]) (n := 3) (Nat.le_of_ble_eq_true rfl)
  rw [lg_entry_eq]
  generalize (lg_sl ([.ref (bd 0), .int a, .int b]) ++ List.replicate (3 - (lg_sl ([.ref (bd 0), .int a, .int b])).length) Slot.unset).toArray = ls at hl ⊢
  have hl : lv_has ls 3 [(0, .ref (bd 0)), (1, .int a), (2, .int b)] := hl
  have hnp := np_le hN
  have hnp0 : 0 < 2 ^ N := Nat.two_pow_pos N
  refine lv_aload_n hx hb dX2_same_0 rfl (lv_at hl 0 rfl) ?_
  refine lv_iconst (v := nI 0) hx hb dX2_same_1 (by decide) ?_
  refine va_put (D := D) (ci := 2) (v := .int (nI 0)) (ty := .int) (C := RX2) (T := TX2) (N := 6) hx hb hts (fun w h => List.mem_cons_of_mem _ (inBX2 w h)) tyX2 tyX2_ok nmX2 hown hK hP (md_D hao) hS 0 rfl rfl 0 (by decide) (hts (.fieldLink RX2 28 "ForkDeskModel" "thrown" "I") (by decide +kernel)) (fun _ h9 => h9) rfl (by decide +kernel) rfl rfl (Nat.le_of_ble_eq_true rfl) dX2_same_2 (fun H locs hP _ hS => ?_)
  have hP : va_P D vwCl (mdW N bd cZ cI (nI 0) rb mb pt) H := hP
  refine lv_iload_n hx hb dX2_same_5 rfl (lv_at hl 1 rfl) ?_
  refine va_calli (va_runS (As := [.int a]) (rest := []) ⟨hx, hb, hml, hown, hts⟩ (c_isRow l D _ a) (va_cwS 1 hts (goodIn_mono gX2_isRow) rfl rfl rfl (by decide +kernel) ⟨Nat.le_of_ble_eq_true rfl, Nat.le_of_ble_eq_true rfl⟩) ⟨wp0_blind, fun U hU hW => wp0_of (va_P.sub hP [] rfl) (hK.sub [] rfl) htb hS no_in hU hW⟩ rfl rfl hl.1 rfl (lv_room (Nat.le_of_ble_eq_true rfl)) dX2_same_6 ⟨Nat.zero_le _, Nat.zero_le _⟩) hS (fun q _ h => h.elim) (fun q h => h.elim) (fun r_6 u_6 t H1 locs ht hvm hw hB hz1 hk1 hS => ?_)
  have hP := xa_same hP hk1
  clear hz1 hk1 hB ht
  generalize H1 = H at hP hS ⊢
  subst hw
  refine xa_if0 (tgt := 45) hx hb dX2_same_9 (by decide) (fun c_9 => ?_) (fun c_9 => ?_)
  · refine lv_iconst (v := nI 0) hx hb dX2_same_45 (by decide) ?_
    exact W.zret (v := (nI 0)) hx hb hr (by decide) (fun t ht hW => ⟨⟨(nI 0), (rb, mb, pt), rfl, ⟨by unfold sSm; simp [c_9], hg⟩, (by show va_P _ _ _ _; rw [ht]; exact hP)⟩, hS.F ht⟩) hS.2.2 dX2_same_46
  · refine lv_iload_n hx hb dX2_same_12 rfl (lv_at hl 2 rfl) ?_
    refine va_calli (va_runS (As := [.int b]) (rest := []) ⟨hx, hb, hml, hown, hts⟩ (c_isRow l D _ b) (va_cwS 1 hts (goodIn_mono gX2_isRow) rfl rfl rfl (by decide +kernel) ⟨Nat.le_of_ble_eq_true rfl, Nat.le_of_ble_eq_true rfl⟩) ⟨wp0_blind, fun U hU hW => wp0_of (va_P.sub hP [] rfl) (hK.sub [] rfl) htb hS no_in hU hW⟩ rfl rfl hl.1 rfl (lv_room (Nat.le_of_ble_eq_true rfl)) dX2_same_13 ⟨Nat.zero_le _, Nat.zero_le _⟩) hS (fun q _ h => h.elim) (fun q h => h.elim) (fun r_13 u_13 t H1 locs ht hvm hw hB hz1 hk1 hS => ?_)
    have hP := xa_same hP hk1
    clear hz1 hk1 hB ht
    generalize H1 = H at hP hS ⊢
    subst hw
    refine xa_if0 (tgt := 45) hx hb dX2_same_16 (by decide) (fun c_16 => ?_) (fun c_16 => ?_)
    · refine lv_iconst (v := nI 0) hx hb dX2_same_45 (by decide) ?_
      exact W.zret (v := (nI 0)) hx hb hr (by decide) (fun t ht hW => ⟨⟨(nI 0), (rb, mb, pt), rfl, ⟨by unfold sSm; simp [c_9, c_16], hg⟩, (by show va_P _ _ _ _; rw [ht]; exact hP)⟩, hS.F ht⟩) hS.2.2 dX2_same_46
    · obtain ⟨x1, hx1, ex1⟩ := isR_t c_9
      rw [ex1] at hl
      obtain ⟨x2, hx2, ex2⟩ := isR_t c_16
      rw [ex2] at hl
      have hsm : sSm N g a b = alk rb (4096 * 0 + 4096 * x1) (4096 * 0 + 4096 * x2) (2 ^ N) := by unfold sSm; rw [c_9, c_16, ex1, ex2, ix_nI (by omega), ix_nI (by omega)]; exact eqg_alk hg hx1 hx2
      refine lv_aload_n hx hb dX2_same_19 rfl (lv_at hl 0 rfl) ?_
      refine lv_iconst (v := nI 0) hx hb dX2_same_20 (by decide) ?_
      refine lv_sipush (v := nI 4096) hx hb dX2_same_21 (by decide) ?_
      refine lv_iload_n hx hb dX2_same_24 rfl (lv_at hl 1 rfl) ?_
      refine xa_imul hx hb dX2_same_25 ?_
      refine lv_sipush (v := nI 4096) hx hb dX2_same_26 (by decide) ?_
      refine lv_iload_n hx hb dX2_same_29 rfl (lv_at hl 2 rfl) ?_
      refine xa_imul hx hb dX2_same_30 ?_
      refine lv_aload_n hx hb dX2_same_31 rfl (lv_at hl 0 rfl) ?_
      refine va_get (D := D) (ci := 2) (C := RX2) (T := TX2) (N := 6) hx hb hts (fun w h => List.mem_cons_of_mem _ (inBX2 w h)) hown hK hP 0 rfl rfl 2 (by decide) (hts (.fieldLink RX2 25 "ForkDeskModel" "points" "I") (by decide +kernel)) (fun _ h9 => h9) rfl dX2_same_32 ?_
      refine va_calli (va_runV (As := [.int (nI 0), .int (nI (4096 * x1)), .int (nI (4096 * x2)), .int (nI (2 ^ N))]) (rest := []) ⟨hx, hb, hml, hown, hts⟩ (c_alike l D _ N bd cZ (nI 0) rb 0 (4096 * x1) (4096 * x2) (2 ^ N) (by omega) (by omega) (by omega)) (cwV 4 hts (goodIn_mono gX2_alike) rfl rfl rfl (by decide +kernel) ⟨Nat.le_of_ble_eq_true rfl, Nat.le_of_ble_eq_true rfl⟩) ⟨wp0_blind, va_recv hK hP (ci := 2) (q0 := 0) rfl rfl, fun U hU hW => wp0_of (hP.sub [0, 1] rfl) (hK.sub [0] rfl) htb hS no_in hU hW⟩ rfl rfl hl.1 rfl (lv_room (Nat.le_of_ble_eq_true rfl)) dX2_same_35 ⟨Nat.zero_le _, Nat.zero_le _⟩) hS (fun q _ h => h.elim) (fun q h => h.elim) (fun r_35 u_35 t H1 locs ht hvm hw hB hz1 hk1 hS => ?_)
      have hP := xa_same hP hk1
      clear hz1 hk1 hB ht
      generalize H1 = H at hP hS ⊢
      subst hw
      refine xa_if0 (tgt := 45) hx hb dX2_same_38 (by decide) (fun c_38 => ?_) (fun c_38 => ?_)
      · refine lv_iconst (v := nI 0) hx hb dX2_same_45 (by decide) ?_
        exact W.zret (v := (nI 0)) hx hb hr (by decide) (fun t ht hW => ⟨⟨(nI 0), (rb, mb, pt), rfl, ⟨by rw [hsm, c_38]; rfl, hg⟩, (by show va_P _ _ _ _; rw [ht]; exact hP)⟩, hS.F ht⟩) hS.2.2 dX2_same_46
      · refine lv_iconst (v := nI 1) hx hb dX2_same_41 (by decide) ?_
        refine lv_goto (tgt := 46) hx hb dX2_same_42 (by decide) ?_
        exact W.zret (v := (nI 1)) hx hb hr (by decide) (fun t ht hW => ⟨⟨(nI 1), (rb, mb, pt), rfl, ⟨by rw [hsm, c_38]; rfl, hg⟩, (by show va_P _ _ _ _; rw [ht]; exact hP)⟩, hS.F ht⟩) hS.2.2 dX2_same_46
end
section
/-! forks, as the reference counts: level by level, the starts of the different blocks with unlike halves kept in parts -/
def lof9 (g : Nat → Bool) (N d : Nat) : Nat → Nat := fun b => kl g N d (2 * b)
def upf9 (g : Nat → Bool) (N d : Nat) : Nat → Nat := fun b => kl g N d (2 * b + 1)
def fsm (g : Nat → Bool) (N : Nat) : Nat → Nat
  | 0 => 0
  | v + 1 => fsm g N v + cf (lof9 g N (N - (v + 1))) (upf9 g N (N - (v + 1))) (2 ^ v)
theorem fsm_fc (g : Nat → Bool) (N : Nat) : ∀ v, v ≤ N → fc g N (N - v) + fsm g N v = fc g N N
  | 0, _ => rfl
  | v + 1, h => by
    have ih := fsm_fc g N v (by omega)
    have e := fc_s (g := g) (N := N) (v := v) h
    show fc g N (N - (v + 1)) + (fsm g N v + cf (lof9 g N (N - (v + 1))) (upf9 g N (N - (v + 1))) (2 ^ v)) = _
    rw [← ih, ← e]
    unfold lof9 upf9
    omega
/-- the parts kept, b blocks done -/
def pok (lo up : Nat → Nat) (Sz b mn : Nat) (pt : Nat → Int32) : Prop := (∀ x, x < mn → ∃ f, f < b ∧ pt x = nI (f * Sz) ∧ fi lo up f = true ∧ ¬ lo f = up f) ∧ ∀ f, f < b → fi lo up f = true → ¬ lo f = up f → ∃ x, x < mn ∧ pt x = nI (f * Sz)
theorem pok_0 (lo up : Nat → Nat) (Sz : Nat) (pt : Nat → Int32) : pok lo up Sz 0 0 pt := ⟨fun x hx => absurd hx (by omega), fun f hf => absurd hf (by omega)⟩
theorem pok_old {lo up : Nat → Nat} {Sz b mn : Nat} {pt : Nat → Int32} (h : pok lo up Sz b mn pt) (hb : ¬ (fi lo up b = true ∧ ¬ lo b = up b)) : pok lo up Sz (b + 1) mn pt := ⟨fun x hx => by
    obtain ⟨f, h1, h2⟩ := h.1 x hx
    exact ⟨f, by omega, h2⟩, fun f hf h1 h2 => by
    rcases Nat.lt_or_ge f b with h3 | h3
    · exact h.2 f h3 h1 h2
    · have e : f = b := by omega
      subst e
      exact absurd ⟨h1, h2⟩ hb⟩
theorem pok_new {lo up : Nat → Nat} {Sz b mn : Nat} {pt : Nat → Int32} (h : pok lo up Sz b mn pt) (h1 : fi lo up b = true) (h2 : ¬ lo b = up b) : pok lo up Sz (b + 1) (mn + 1) (upd pt mn (nI (b * Sz))) := ⟨fun x hx => by
    by_cases e : x = mn
    · subst e
      exact ⟨b, by omega, pk_us, h1, h2⟩
    · obtain ⟨f, h3, h4, h5⟩ := h.1 x (by omega)
      exact ⟨f, by omega, by rw [pk_un e]; exact h4, h5⟩, fun f hf h3 h4 => by
    rcases Nat.lt_or_ge f b with h5 | h5
    · obtain ⟨x, h6, h7⟩ := h.2 f h5 h3 h4
      exact ⟨x, by omega, by rw [pk_un (by omega)]; exact h7⟩
    · have e : f = b := by omega
      subst e
      exact ⟨mn, by omega, pk_us⟩⟩
theorem cf_old {lo up : Nat → Nat} {b : Nat} (hb : ¬ (fi lo up b = true ∧ ¬ lo b = up b)) : cf lo up (b + 1) = cf lo up b := by
  rw [cf_s, show (fi lo up b && !decide (lo b = up b)) = false from ?_]
  · rfl
  · cases hf : fi lo up b with
    | false => rfl
    | true =>
      by_cases h : lo b = up b
      · rw [decide_eq_true h]; rfl
      · exact absurd ⟨hf, h⟩ hb
theorem cf_new {lo up : Nat → Nat} {b : Nat} (h1 : fi lo up b = true) (h2 : ¬ lo b = up b) : cf lo up (b + 1) = cf lo up b + 1 := by
  rw [cf_s, h1, decide_eq_false h2]; rfl
/-- halves, and blocks -/
theorem alk_half {N d j b Sz Hf fv : Nat} {rb : Nat → Bool} {g : Nat → Nat → Bool} (hg : okM N rb g) (hj : j < 32) (hHf : 2 ^ d = Hf) (hSz : Sz = 2 * Hf) (hfv : fv = b * Sz) (hle : fv + Sz ≤ 2 ^ N) : alk rb (4096 * j + fv) (4096 * j + (fv + (Sz / 2))) (Sz / 2) = true ↔ lof9 (g j) N d b = upf9 (g j) N d b := by
  have e2 : Sz / 2 = Hf := by omega
  have e3 : 2 * b * Hf = fv := by rw [hfv, hSz, Nat.mul_comm 2 b, Nat.mul_assoc]
  have e4 : (2 * b + 1) * Hf = fv + Hf := by rw [Nat.succ_mul, e3]
  unfold lof9 upf9
  rw [kl_eq, alk_iff, e2, hHf, e3, e4]
  constructor
  · intro h i hi
    have := h i hi
    rw [Nat.add_assoc, Nat.add_assoc, hg j _ hj (by omega), hg j _ hj (by omega)] at this
    exact this
  · intro h i hi
    rw [Nat.add_assoc, Nat.add_assoc, hg j _ hj (by omega), hg j _ hj (by omega)]
    exact h i hi
theorem alk_full {N d j f b Sz Hf fv : Nat} {rb : Nat → Bool} {g : Nat → Nat → Bool} (hg : okM N rb g) (hj : j < 32) (hHf : 2 ^ d = Hf) (hSz : Sz = 2 * Hf) (hfv : fv = b * Sz) (hle : fv + Sz ≤ 2 ^ N) (hlf : f * Sz + Sz ≤ 2 ^ N) : alk rb (4096 * j + f * Sz) (4096 * j + fv) Sz = true ↔ lof9 (g j) N d f = lof9 (g j) N d b ∧ upf9 (g j) N d f = upf9 (g j) N d b := by
  have e1 : 2 ^ (d + 1) = Sz := by rw [Nat.pow_succ, hHf, hSz, Nat.mul_comm]
  have e2 := kl_eq (g j) N (d + 1) f b
  have e3 : kl (g j) N (d + 1) f = kl (g j) N (d + 1) b ↔ lof9 (g j) N d f = lof9 (g j) N d b ∧ upf9 (g j) N d f = upf9 (g j) N d b := kn_eq
  rw [← e3, e2, alk_iff, e1, ← hfv]
  constructor
  · intro h i hi
    have := h i hi
    rw [Nat.add_assoc, Nat.add_assoc, hg j _ hj (by omega), hg j _ hj (by omega)] at this
    exact this
  · intro h i hi
    rw [Nat.add_assoc, Nat.add_assoc, hg j _ hj (by omega), hg j _ hj (by omega)]
    exact h i hi
theorem fi_dup {lo up : Nat → Nat} {f b : Nat} (hf : f < b) (h : lo f = lo b ∧ up f = up b) : ¬ fi lo up b = true := fun hb => ks_none (fi_t hb) f hf h
theorem fi_all {lo up : Nat → Nat} {Sz b mn : Nat} {pt : Nat → Int32} (hp : pok lo up Sz b mn pt) (hne : ¬ lo b = up b) (hno : ∀ y, y < mn → ∀ f, f < b → pt y = nI (f * Sz) → ¬ (lo f = lo b ∧ up f = up b)) : fi lo up b = true := by
  cases hb : fi lo up b with
  | true => rfl
  | false =>
    cases hk : ks lo up (lo b) (up b) b with
    | none => rw [fi_of hk] at hb; cases hb
    | some r =>
      obtain ⟨h1, h2, h3, h4⟩ := ks_some hk
      obtain ⟨x, h5, h6⟩ := hp.2 r h1 (fi_of (by rw [h2, h3]; exact h4)) (by rw [h2, h3]; exact hne)
      exact absurd ⟨h2, h3⟩ (hno x h5 r h1 h6)
theorem fs_inj {f f' Sz N : Nat} (hN : N ≤ 12) (h0 : 0 < Sz) (h1 : f * Sz + Sz ≤ 2 ^ N) (h2 : f' * Sz + Sz ≤ 2 ^ N) (h : nI (f * Sz) = nI (f' * Sz)) : f = f' := by
  have hnp := np_le hN
  have h3 := (nI_eq (by omega) (by omega)).mp h
  exact Nat.eq_of_mul_eq_mul_right h0 h3
theorem fs_le {f b Sz nb P : Nat} (hP : P = nb * Sz) (hf : f < b) (hb : b ≤ nb) : f * Sz + Sz ≤ P := by
  rw [hP, show f * Sz + Sz = (f + 1) * Sz by rw [Nat.succ_mul]]
  exact Nat.mul_le_mul_right _ (by omega)
end
section
set_option maxHeartbeats 4000000 in
set_option maxRecDepth 100000 in
/-- the reference: forks -/
theorem c_mForks (l : Launch) (D : va_G) (sz : Nat) (N : Nat) (hN1 : 1 ≤ N) (hN : N ≤ 12) (bd : Nat → Nat) (hao : aok4 (fun _ => True) bd) (cZ cI : ClassId) (th : Int32) (rb mb : Nat → Bool) (pt : Nat → Int32) (g : Nat → Nat → Bool) (hg : okM N rb g) (k : Int32) : Met l yX2_forks wsX2_forks ({ frames := 2, cells := 0, slots := 0, locals := 47 } : Room) (va_Pc [.ref (bd 0), .int k] (wp0 D (mdW N bd cZ cI th rb mb pt) (mdT cZ cI) (fr4 bd sz) sz)) (va_Qi (fun (r : Int32) (u : (Nat → Bool) × (Nat → Bool) × (Nat → Int32)) => r = sFo N g k ∧ okM N u.1 g) (fun (u : (Nat → Bool) × (Nat → Bool) × (Nat → Int32)) t => va_P D vwCl (mdW N bd cZ cI (nI 0) u.1 u.2.1 u.2.2) t.heap) (fr4 bd sz)) 0 0 (fr4 bd sz) := by
  refine Met.ofW (cc := cX2_forks) (maxL := 8) (ret := (some .int)) (by decide) rfl ?_
  intro p e s m args below meth c s₁ B hml hv
  obtain ⟨rfl, hsz, hP, hK, htb⟩ := hv
  have hx := B.exec
  have hb := B.bytes
  have hr := B.returns
  have hts := atoms_spec (ws := wsX2_forks) B.pre
  have hown : s.vm.findClass RX2 = some m.cls := findClass_of_methodNamed B.named
  have hlocks := B.notSynchronized
  subst hsz
  generalize hAe : fr4 bd s.heap.size = A at htb ⊢
  have hA : ∀ q : Nat, s.heap.size ≤ q → A q := fun q h => by rw [← hAe]; exact fr4_new q h
  have hao : aok4 A bd := by rw [← hAe]; exact aok4_fr hao
  obtain ⟨⟨tt, hZ, hT⟩, hNst⟩ := id htb
  have hS : va_S A s.heap s.heap [] := va_S.rf
  have hl := lv_entry ([.ref (bd 0), .int k]) (n := 8) (Nat.le_of_ble_eq_true rfl)
  rw [lg_entry_eq]
  generalize (lg_sl ([.ref (bd 0), .int k]) ++ List.replicate (8 - (lg_sl ([.ref (bd 0), .int k])).length) Slot.unset).toArray = ls at hl ⊢
  have hl : lv_has ls 8 [(0, .ref (bd 0)), (1, .int k)] := hl
  have hnp := np_le hN
  have hnp0 : 0 < 2 ^ N := Nat.two_pow_pos N
  refine lv_aload_n hx hb dX2_forks_0 rfl (lv_at hl 0 rfl) ?_
  refine lv_iconst (v := nI 0) hx hb dX2_forks_1 (by decide) ?_
  refine va_put (D := D) (ci := 2) (v := .int (nI 0)) (ty := .int) (C := RX2) (T := TX2) (N := 6) hx hb hts (fun w h => List.mem_cons_of_mem _ (inBX2 w h)) tyX2 tyX2_ok nmX2 hown hK hP (md_D hao) hS 0 rfl rfl 0 (by decide) (hts (.fieldLink RX2 28 "ForkDeskModel" "thrown" "I") (by decide +kernel)) (fun _ h9 => h9) rfl (by decide +kernel) rfl rfl (Nat.le_of_ble_eq_true rfl) dX2_forks_2 (fun H locs hP _ hS => ?_)
  have hP : va_P D vwCl (mdW N bd cZ cI (nI 0) rb mb pt) H := hP
  refine lv_iload_n hx hb dX2_forks_5 rfl (lv_at hl 1 rfl) ?_
  refine va_calli (va_runS (As := [.int k]) (rest := []) ⟨hx, hb, hml, hown, hts⟩ (c_isRow l D _ k) (va_cwS 1 hts (goodIn_mono gX2_isRow) rfl rfl rfl (by decide +kernel) ⟨Nat.le_of_ble_eq_true rfl, Nat.le_of_ble_eq_true rfl⟩) ⟨wp0_blind, fun U hU hW => wp0_of (va_P.sub hP [] rfl) (hK.sub [] rfl) htb hS no_in hU hW⟩ rfl rfl hl.1 rfl (lv_room (Nat.le_of_ble_eq_true rfl)) dX2_forks_6 ⟨Nat.zero_le _, Nat.zero_le _⟩) hS (fun q _ h => h.elim) (fun q h => h.elim) (fun r_6 u_6 t H1 locs ht hvm hw hB hz1 hk1 hS => ?_)
  have hP := xa_same hP hk1
  clear hz1 hk1 hB ht
  generalize H1 = H at hP hS ⊢
  subst hw
  refine xa_if1 (tgt := 14) hx hb dX2_forks_9 (by decide) (fun c_9 => ?_) (fun c_9 => ?_)
  · obtain ⟨j, hj, ej⟩ := isR_t c_9
    rw [ej] at hl
    refine lv_iconst (v := nI 0) hx hb dX2_forks_14 (by decide) ?_
    refine lv_istore_n (lv' := [(2, .int (nI 0)), (0, .ref (bd 0)), (1, .int (nI j))]) hx hb dX2_forks_15 rfl hl (by decide) rfl (fun ls hl => ?_)
    refine lv_iconst (v := nI 1) hx hb dX2_forks_16 (by decide) ?_
    refine lv_istore_n (lv' := [(3, .int (nI 1)), (2, .int (nI 0)), (0, .ref (bd 0)), (1, .int (nI j))]) hx hb dX2_forks_17 rfl hl (by decide) rfl (fun ls hl => ?_)
    have lp_18 : ∀ (n9 v : Nat) (p2 : Nat → Int32) (al : Nat) (H : Heap) (locs : List Loc) (ls : Array Slot), v ≤ N + 1 → N + 1 + 1 ≤ v + n9 → 1 ≤ v → al = fsm (g j) N (v - 1) → al ≤ 4096 * (v - 1) → va_P D vwCl (mdW N bd cZ cI (nI 0) rb mb p2) H → va_S A s.heap H locs → lv_has ls 8 [(0, .ref (bd 0)), (1, .int (nI j)), (2, .int (nI al)), (3, .int (nI v))] → W p l e (headSpec wsX2_forks ({ frames := 2, cells := 0, slots := 0, locals := 47 } : Room)).room s m ([.ref (bd 0), .int k] : List Value).toArray below meth c H locs 0 0 (MQ below (va_Qi (fun (r : Int32) (u : (Nat → Bool) × (Nat → Bool) × (Nat → Int32)) => r = sFo N g k ∧ okM N u.1 g) (fun (u : (Nat → Bool) × (Nat → Bool) × (Nat → Int32)) t => va_P D vwCl (mdW N bd cZ cI (nI 0) u.1 u.2.1 u.2.2) t.heap) A) ([.ref (bd 0), .int k] : List Value).toArray s 0 0 A) (F0 m 18 ls []) := by
      intro n9
      induction n9 with
      | zero => intro v p2 al H locs ls h1 h2; exact absurd h2 (by omega)
      | succ n9 ih =>
        intro v p2 al H locs ls hle_18 hmm_18 hv1 hal hal2 hP hS hl
        have ih_18 := @ih
        refine lv_iload_n hx hb dX2_forks_18 rfl (lv_at hl 3 rfl) ?_
        refine lv_aload_n hx hb dX2_forks_19 rfl (lv_at hl 0 rfl) ?_
        refine va_get (D := D) (ci := 2) (C := RX2) (T := TX2) (N := 6) hx hb hts (fun w h => List.mem_cons_of_mem _ (inBX2 w h)) hown hK hP 0 rfl rfl 1 (by decide) (hts (.fieldLink RX2 21 "ForkDeskModel" "n" "I") (by decide +kernel)) (fun _ h9 => h9) rfl dX2_forks_20 ?_
        refine xa_gt (tgt := 155) hx hb (by omega) (by omega) dX2_forks_23 (by decide) (fun c_23 => ?_) (fun c_23 => ?_)
        · refine lv_iload_n hx hb dX2_forks_155 rfl (lv_at hl 2 rfl) ?_
          exact W.iret (v := (nI al)) hx hb hr (fun t ht hW => ⟨⟨(nI al), (rb, mb, p2), rfl, ⟨by unfold sFo; rw [if_pos c_9, ej, ix_nI (by omega), hal, show v - 1 = N by omega, ← fsm_fc (g j) N N (Nat.le_refl N), Nat.sub_self]; exact congrArg nI (Nat.zero_add _).symm, hg⟩, (by show va_P _ _ _ _; rw [ht]; exact hP)⟩, hS.F ht⟩) hS.2.2 dX2_forks_156
        · refine lv_iconst (v := nI 1) hx hb dX2_forks_26 (by decide) ?_
          refine lv_aload_n hx hb dX2_forks_27 rfl (lv_at hl 0 rfl) ?_
          refine va_get (D := D) (ci := 2) (C := RX2) (T := TX2) (N := 6) hx hb hts (fun w h => List.mem_cons_of_mem _ (inBX2 w h)) hown hK hP 0 rfl rfl 1 (by decide) (hts (.fieldLink RX2 21 "ForkDeskModel" "n" "I") (by decide +kernel)) (fun _ h9 => h9) rfl dX2_forks_28 ?_
          refine lv_iload_n hx hb dX2_forks_31 rfl (lv_at hl 3 rfl) ?_
          refine xa_isub hx hb (by omega) dX2_forks_32 ?_
          refine lv_iconst (v := nI 1) hx hb dX2_forks_33 (by decide) ?_
          refine xa_iadd hx hb dX2_forks_34 ?_
          refine xa_ishl1 hx hb (by omega) dX2_forks_35 ?_
          obtain ⟨d, hd⟩ : ∃ d, N - v = d := ⟨_, rfl⟩
          obtain ⟨Hf, hHf⟩ : ∃ z, 2 ^ d = z := ⟨_, rfl⟩
          obtain ⟨Sz, hSz2⟩ : ∃ z, 2 ^ (N - v + 1) = z := ⟨_, rfl⟩
          have hSz : Sz = 2 * Hf := by rw [← hSz2, hd, Nat.pow_succ, hHf, Nat.mul_comm]
          have hHp : 0 < Hf := by rw [← hHf]; exact Nat.two_pow_pos d
          obtain ⟨nb9, hnb9⟩ : ∃ z, 2 ^ (v - 1) = z := ⟨_, rfl⟩
          have hNB : 2 ^ N = nb9 * Sz := by rw [← hnb9, ← hSz2, ← Nat.pow_add]; congr 1; omega
          have hnb : nb9 ≤ 2048 := by rw [← hnb9]; exact Nat.le_trans (Nat.pow_le_pow_right (by omega) (show v - 1 ≤ 11 by omega)) (by decide)
          have hSzN : Sz ≤ 2 ^ N := by rw [← hSz2]; exact Nat.pow_le_pow_right (by omega) (by omega)
          rw [hSz2]
          refine lv_istore (lv' := [(4, .int (nI Sz)), (0, .ref (bd 0)), (1, .int (nI j)), (2, .int (nI al)), (3, .int (nI v))]) hx hb dX2_forks_36 hl (by decide) rfl (fun ls hl => ?_)
          refine lv_iconst (v := nI 0) hx hb dX2_forks_38 (by decide) ?_
          refine lv_istore (lv' := [(5, .int (nI 0)), (4, .int (nI Sz)), (0, .ref (bd 0)), (1, .int (nI j)), (2, .int (nI al)), (3, .int (nI v))]) hx hb dX2_forks_39 hl (by decide) rfl (fun ls hl => ?_)
          refine lv_iconst (v := nI 0) hx hb dX2_forks_41 (by decide) ?_
          refine lv_istore (lv' := [(6, .int (nI 0)), (5, .int (nI 0)), (4, .int (nI Sz)), (0, .ref (bd 0)), (1, .int (nI j)), (2, .int (nI al)), (3, .int (nI v))]) hx hb dX2_forks_42 hl (by decide) rfl (fun ls hl => ?_)
          have lp_44 : ∀ (n9 : Nat) (b : Nat) (fv : Nat) (mn : Nat) (p3 : Nat → Int32) (H : Heap) (locs : List Loc) (ls : Array Slot), (b ≤ nb9 ∧ nb9 + 1 ≤ b + n9) → (fv = b * Sz) → (mn = cf (lof9 (g j) N d) (upf9 (g j) N d) b) → (pok (lof9 (g j) N d) (upf9 (g j) N d) Sz b mn p3) → va_P D vwCl (mdW N bd cZ cI (nI 0) rb mb p3) H → va_S A s.heap H locs → lv_has ls 8 [(0, .ref (bd 0)), (1, .int (nI j)), (2, .int (nI al)), (3, .int (nI v)), (4, .int (nI Sz)), (5, .int (nI mn)), (6, .int (nI fv))] → W p l e (headSpec wsX2_forks ({ frames := 2, cells := 0, slots := 0, locals := 47 } : Room)).room s m ([.ref (bd 0), .int k] : List Value).toArray below meth c H locs 0 0 (MQ below (va_Qi (fun (r : Int32) (u : (Nat → Bool) × (Nat → Bool) × (Nat → Int32)) => r = sFo N g k ∧ okM N u.1 g) (fun (u : (Nat → Bool) × (Nat → Bool) × (Nat → Int32)) t => va_P D vwCl (mdW N bd cZ cI (nI 0) u.1 u.2.1 u.2.2) t.heap) A) ([.ref (bd 0), .int k] : List Value).toArray s 0 0 A) (F0 m 44 ls []) := by
            intro n9
            induction n9 with
            | zero => intro b fv mn p3 H locs ls h0; exact absurd h0 (by omega)
            | succ n9 ih =>
              intro b fv mn p3 H locs ls hbn hfv hmn hpk hP hS hl
              have hcf : mn ≤ b := by rw [hmn]; exact cf_le _ _ b
              have hfvN : fv ≤ 2 ^ N := by rw [hfv, hNB]; exact Nat.mul_le_mul_right _ hbn.1
              have ih_44 := @ih
              refine lv_iload hx hb dX2_forks_44 (lv_at hl 6 rfl) ?_
              refine lv_aload_n hx hb dX2_forks_46 rfl (lv_at hl 0 rfl) ?_
              refine va_get (D := D) (ci := 2) (C := RX2) (T := TX2) (N := 6) hx hb hts (fun w h => List.mem_cons_of_mem _ (inBX2 w h)) hown hK hP 0 rfl rfl 2 (by decide) (hts (.fieldLink RX2 25 "ForkDeskModel" "points" "I") (by decide +kernel)) (fun _ h9 => h9) rfl dX2_forks_47 ?_
              refine xa_ge (tgt := 144) hx hb (by omega) (by omega) dX2_forks_50 (by decide) (fun c_50 => ?_) (fun c_50 => ?_)
              · have hbe : b = 2 ^ (v - 1) := by rw [hnb9]; rw [hfv, hNB] at c_50; exact Nat.le_antisymm hbn.1 (Nat.le_of_mul_le_mul_right c_50 (by omega))
                refine lv_iload_n hx hb dX2_forks_144 rfl (lv_at hl 2 rfl) ?_
                refine lv_iload hx hb dX2_forks_145 (lv_at hl 5 rfl) ?_
                refine xa_iadd hx hb dX2_forks_147 ?_
                refine lv_istore_n (lv' := [(2, .int (nI (al + mn))), (0, .ref (bd 0)), (1, .int (nI j)), (3, .int (nI v)), (4, .int (nI Sz)), (5, .int (nI mn)), (6, .int (nI fv))]) hx hb dX2_forks_148 rfl hl (by decide) rfl (fun ls hl => ?_)
                refine xa_inc (k := 3) (lv' := [(3, .int (nI (v + 1))), (2, .int (nI (al + mn))), (0, .ref (bd 0)), (1, .int (nI j)), (4, .int (nI Sz)), (5, .int (nI mn)), (6, .int (nI fv))]) hx hb dX2_forks_149 hl rfl (by decide) rfl (fun ls hl => ?_)
                refine lv_goto (tgt := 18) hx hb dX2_forks_152 (by decide) ?_
                exact ih_18 (v + 1) p3 (al + mn) _ _ _ (by omega) (by omega) (by omega) (by rw [hal, hmn, show v + 1 - 1 = (v - 1) + 1 by omega]; show _ = fsm (g j) N (v - 1) + cf (lof9 (g j) N (N - (v - 1 + 1))) (upf9 (g j) N (N - (v - 1 + 1))) (2 ^ (v - 1)); rw [show N - (v - 1 + 1) = d by omega, show b = 2 ^ (v - 1) by omega]) (by omega) hP hS (lv_sub hl [2, 3, 1, 0] rfl)
              · have hb9 : b < nb9 := by rw [hfv, hNB] at c_50; exact Nat.lt_of_mul_lt_mul_right c_50
                have hfs : fv + Sz ≤ 2 ^ N := by rw [hfv]; exact fs_le hNB hb9 (Nat.le_refl _)
                have hhalf := alk_half (d := d) (b := b) (fv := fv) hg hj hHf hSz hfv hfs
                refine lv_aload_n hx hb dX2_forks_53 rfl (lv_at hl 0 rfl) ?_
                refine lv_iload_n hx hb dX2_forks_54 rfl (lv_at hl 1 rfl) ?_
                refine lv_iload hx hb dX2_forks_55 (lv_at hl 6 rfl) ?_
                refine lv_iload hx hb dX2_forks_57 (lv_at hl 6 rfl) ?_
                refine lv_iload hx hb dX2_forks_59 (lv_at hl 4 rfl) ?_
                refine lv_iconst (v := nI 2) hx hb dX2_forks_61 (by decide) ?_
                refine xa_idiv hx hb (by omega) (by omega) (by omega) dX2_forks_62 ?_
                refine xa_iadd hx hb dX2_forks_63 ?_
                refine lv_iload hx hb dX2_forks_64 (lv_at hl 4 rfl) ?_
                refine lv_iconst (v := nI 2) hx hb dX2_forks_66 (by decide) ?_
                refine xa_idiv hx hb (by omega) (by omega) (by omega) dX2_forks_67 ?_
                refine va_calli (va_runV (As := [.int (nI j), .int (nI fv), .int (nI (fv + (Sz / 2))), .int (nI (Sz / 2))]) (rest := []) ⟨hx, hb, hml, hown, hts⟩ (c_alike l D _ N bd cZ (nI 0) rb j fv (fv + (Sz / 2)) (Sz / 2) (by omega) (by omega) (by omega)) (cwV 4 hts (goodIn_mono gX2_alike) rfl rfl rfl (by decide +kernel) ⟨Nat.le_of_ble_eq_true rfl, Nat.le_of_ble_eq_true rfl⟩) ⟨wp0_blind, va_recv hK hP (ci := 2) (q0 := 0) rfl rfl, fun U hU hW => wp0_of (hP.sub [0, 1] rfl) (hK.sub [0] rfl) htb hS no_in hU hW⟩ rfl rfl hl.1 rfl (lv_room (Nat.le_of_ble_eq_true rfl)) dX2_forks_68 ⟨Nat.zero_le _, Nat.zero_le _⟩) hS (fun q _ h => h.elim) (fun q h => h.elim) (fun r_68 u_68 t H1 locs ht hvm hw hB hz1 hk1 hS => ?_)
                have hP := xa_same hP hk1
                clear hz1 hk1 hB ht
                generalize H1 = H at hP hS ⊢
                subst hw
                refine xa_if0 (tgt := 77) hx hb dX2_forks_71 (by decide) (fun c_71 => ?_) (fun c_71 => ?_)
                · have hne : ¬ lof9 (g j) N d b = upf9 (g j) N d b := fun q => by rw [hhalf.mpr q] at c_71; cases c_71
                  refine lv_iconst (v := nI 0) hx hb dX2_forks_77 (by decide) ?_
                  refine lv_istore (lv' := [(7, .int (nI 0)), (0, .ref (bd 0)), (1, .int (nI j)), (2, .int (nI al)), (3, .int (nI v)), (4, .int (nI Sz)), (5, .int (nI mn)), (6, .int (nI fv))]) hx hb dX2_forks_78 hl (by decide) rfl (fun ls hl => ?_)
                  have lp_80 : ∀ (n9 x : Nat) (H : Heap) (locs : List Loc) (ls : Array Slot), x ≤ mn → mn + 1 ≤ x + n9 → (∀ y, y < x → ∀ f, f < b → p3 y = nI (f * Sz) → ¬ (lof9 (g j) N d f = lof9 (g j) N d b ∧ upf9 (g j) N d f = upf9 (g j) N d b)) → va_P D vwCl (mdW N bd cZ cI (nI 0) rb mb p3) H → va_S A s.heap H locs → lv_has ls 8 [(0, .ref (bd 0)), (1, .int (nI j)), (2, .int (nI al)), (3, .int (nI v)), (4, .int (nI Sz)), (5, .int (nI mn)), (6, .int (nI fv)), (7, .int (nI x))] → W p l e (headSpec wsX2_forks ({ frames := 2, cells := 0, slots := 0, locals := 47 } : Room)).room s m ([.ref (bd 0), .int k] : List Value).toArray below meth c H locs 0 0 (MQ below (va_Qi (fun (r : Int32) (u : (Nat → Bool) × (Nat → Bool) × (Nat → Int32)) => r = sFo N g k ∧ okM N u.1 g) (fun (u : (Nat → Bool) × (Nat → Bool) × (Nat → Int32)) t => va_P D vwCl (mdW N bd cZ cI (nI 0) u.1 u.2.1 u.2.2) t.heap) A) ([.ref (bd 0), .int k] : List Value).toArray s 0 0 A) (F0 m 80 ls []) := by
                    intro n9
                    induction n9 with
                    | zero => intro x  H locs ls h1 h2; exact absurd h2 (by omega)
                    | succ n9 ih =>
                      intro x  H locs ls hle_80 hmm_80 hX hP hS hl
                      have ih_80 := @ih
                      refine lv_iload hx hb dX2_forks_80 (lv_at hl 7 rfl) ?_
                      refine lv_iload hx hb dX2_forks_82 (lv_at hl 5 rfl) ?_
                      refine xa_ge (tgt := 112) hx hb (by omega) (by omega) dX2_forks_84 (by decide) (fun c_84 => ?_) (fun c_84 => ?_)
                      · refine lv_iload hx hb dX2_forks_112 (lv_at hl 7 rfl) ?_
                        refine lv_iload hx hb dX2_forks_114 (lv_at hl 5 rfl) ?_
                        refine xa_ge (tgt := 122) hx hb (by omega) (by omega) dX2_forks_116 (by decide) (fun c_116 => ?_) (fun c_116 => ?_)
                        · have hfi : fi (lof9 (g j) N d) (upf9 (g j) N d) b = true := fi_all hpk hne (fun y hy => hX y (by omega))
                          refine lv_aload_n hx hb dX2_forks_122 rfl (lv_at hl 0 rfl) ?_
                          refine va_get (D := D) (ci := 2) (C := RX2) (T := TX2) (N := 6) hx hb hts (fun w h => List.mem_cons_of_mem _ (inBX2 w h)) hown hK hP 0 rfl rfl 5 (by decide) (hts (.fieldLink RX2 17 "ForkDeskModel" "parts" "[I") (by decide +kernel)) (fun _ h9 => h9) rfl dX2_forks_123 ?_
                          refine lv_iload hx hb dX2_forks_126 (lv_at hl 5 rfl) ?_
                          refine lv_iload hx hb dX2_forks_128 (lv_at hl 6 rfl) ?_
                          refine xa_iast hx hb hK hP (md_D hao) hS 3 1 rfl rfl (w := mn) (by omega) (by omega) dX2_forks_130 (fun H locs hP _ hS => ?_)
                          have hP : va_P D vwCl (mdW N bd cZ cI (nI 0) rb mb (upd p3 mn (nI fv))) H := hP
                          refine xa_inc (k := 5) (lv' := [(5, .int (nI (mn + 1))), (0, .ref (bd 0)), (1, .int (nI j)), (2, .int (nI al)), (3, .int (nI v)), (4, .int (nI Sz)), (6, .int (nI fv)), (7, .int (nI x))]) hx hb dX2_forks_131 hl rfl (by decide) rfl (fun ls hl => ?_)
                          refine lv_iload hx hb dX2_forks_134 (lv_at hl 6 rfl) ?_
                          refine lv_iload hx hb dX2_forks_136 (lv_at hl 5 rfl) ?_
                          refine xa_iadd hx hb dX2_forks_138 ?_
                          refine lv_istore (lv' := [(6, .int (nI (fv + Sz))), (5, .int (nI (mn + 1))), (0, .ref (bd 0)), (1, .int (nI j)), (2, .int (nI al)), (3, .int (nI v)), (4, .int (nI Sz)), (7, .int (nI x))]) hx hb dX2_forks_139 hl (by decide) rfl (fun ls hl => ?_)
                          refine lv_goto (tgt := 44) hx hb dX2_forks_141 (by decide) ?_
                          exact ih_44 (b + 1) (fv + Sz) (mn + 1) (upd p3 mn (nI fv)) _ _ _ (by omega) (by rw [hfv, Nat.succ_mul]) (by rw [hmn]; exact (cf_new hfi hne).symm) (by rw [hfv]; exact pok_new hpk hfi hne) hP hS (lv_sub hl [2, 3, 4, 5, 6, 1, 0] rfl)
                        · exact absurd c_116 (by omega)
                      · refine lv_aload_n hx hb dX2_forks_87 rfl (lv_at hl 0 rfl) ?_
                        refine lv_iload_n hx hb dX2_forks_88 rfl (lv_at hl 1 rfl) ?_
                        refine lv_aload_n hx hb dX2_forks_89 rfl (lv_at hl 0 rfl) ?_
                        refine va_get (D := D) (ci := 2) (C := RX2) (T := TX2) (N := 6) hx hb hts (fun w h => List.mem_cons_of_mem _ (inBX2 w h)) hown hK hP 0 rfl rfl 5 (by decide) (hts (.fieldLink RX2 17 "ForkDeskModel" "parts" "[I") (by decide +kernel)) (fun _ h9 => h9) rfl dX2_forks_90 ?_
                        refine lv_iload hx hb dX2_forks_93 (lv_at hl 7 rfl) ?_
                        refine xa_iald hx hb hK hP 3 1 rfl rfl (w := x) (by omega) (by omega) dX2_forks_95 ?_
                        obtain ⟨f, hf1, hf2, hf3, hf4⟩ := hpk.1 x c_84
                        rw [hf2]
                        have hff : f * Sz + Sz ≤ 2 ^ N := fs_le hNB hf1 (by omega)
                        have hfull := alk_full (d := d) (f := f) (b := b) (fv := fv) hg hj hHf hSz hfv hfs hff
                        refine lv_iload hx hb dX2_forks_96 (lv_at hl 6 rfl) ?_
                        refine lv_iload hx hb dX2_forks_98 (lv_at hl 4 rfl) ?_
                        refine va_calli (va_runV (As := [.int (nI j), .int (nI (f * Sz)), .int (nI fv), .int (nI Sz)]) (rest := []) ⟨hx, hb, hml, hown, hts⟩ (c_alike l D _ N bd cZ (nI 0) rb j (f * Sz) fv Sz (by omega) (by omega) (by omega)) (cwV 4 hts (goodIn_mono gX2_alike) rfl rfl rfl (by decide +kernel) ⟨Nat.le_of_ble_eq_true rfl, Nat.le_of_ble_eq_true rfl⟩) ⟨wp0_blind, va_recv hK hP (ci := 2) (q0 := 0) rfl rfl, fun U hU hW => wp0_of (hP.sub [0, 1] rfl) (hK.sub [0] rfl) htb hS no_in hU hW⟩ rfl rfl hl.1 rfl (lv_room (Nat.le_of_ble_eq_true rfl)) dX2_forks_100 ⟨Nat.zero_le _, Nat.zero_le _⟩) hS (fun q _ h => h.elim) (fun q h => h.elim) (fun r_100 u_100 t H1 locs ht hvm hw hB hz1 hk1 hS => ?_)
                        have hP := xa_same hP hk1
                        clear hz1 hk1 hB ht
                        generalize H1 = H at hP hS ⊢
                        subst hw
                        refine xa_if1 (tgt := 112) hx hb dX2_forks_103 (by decide) (fun c_103 => ?_) (fun c_103 => ?_)
                        · refine lv_iload hx hb dX2_forks_112 (lv_at hl 7 rfl) ?_
                          refine lv_iload hx hb dX2_forks_114 (lv_at hl 5 rfl) ?_
                          refine xa_ge (tgt := 122) hx hb (by omega) (by omega) dX2_forks_116 (by decide) (fun c_116 => ?_) (fun c_116 => ?_)
                          · exact absurd c_116 (by omega)
                          · have hnf : ¬ (fi (lof9 (g j) N d) (upf9 (g j) N d) b = true ∧ ¬ lof9 (g j) N d b = upf9 (g j) N d b) := fun q => fi_dup hf1 (hfull.mp c_103) q.1
                            refine lv_goto (tgt := 134) hx hb dX2_forks_119 (by decide) ?_
                            refine lv_iload hx hb dX2_forks_134 (lv_at hl 6 rfl) ?_
                            refine lv_iload hx hb dX2_forks_136 (lv_at hl 4 rfl) ?_
                            refine xa_iadd hx hb dX2_forks_138 ?_
                            refine lv_istore (lv' := [(6, .int (nI (fv + Sz))), (0, .ref (bd 0)), (1, .int (nI j)), (2, .int (nI al)), (3, .int (nI v)), (4, .int (nI Sz)), (5, .int (nI mn)), (7, .int (nI x))]) hx hb dX2_forks_139 hl (by decide) rfl (fun ls hl => ?_)
                            refine lv_goto (tgt := 44) hx hb dX2_forks_141 (by decide) ?_
                            exact ih_44 (b + 1) (fv + Sz) mn p3 _ _ _ (by omega) (by rw [hfv, Nat.succ_mul]) (by rw [hmn]; exact (cf_old hnf).symm) (pok_old hpk hnf) hP hS (lv_sub hl [1, 2, 3, 4, 5, 6, 0] rfl)
                        · refine xa_inc (k := 7) (lv' := [(7, .int (nI (x + 1))), (0, .ref (bd 0)), (1, .int (nI j)), (2, .int (nI al)), (3, .int (nI v)), (4, .int (nI Sz)), (5, .int (nI mn)), (6, .int (nI fv))]) hx hb dX2_forks_106 hl rfl (by decide) rfl (fun ls hl => ?_)
                          refine lv_goto (tgt := 80) hx hb dX2_forks_109 (by decide) ?_
                          exact ih_80 (x + 1)  _ _ _ (by omega) (by omega) (fun y hy f2 hf2b he2 => by by_cases hyx : y = x; (subst hyx; rw [hf2] at he2; rw [← fs_inj hN (by omega) hff (fs_le hNB hf2b (by omega)) he2]; exact fun q => by rw [hfull.mpr q] at c_103; cases c_103); (exact hX y (by omega) f2 hf2b he2)) hP hS (lv_sub hl [1, 2, 3, 4, 5, 6, 7, 0] rfl)
                  exact lp_80 (mn + 1 - 0) 0  _ _ _ (by omega) (by omega) (fun y hy => absurd hy (by omega)) hP hS (lv_sub hl [1, 2, 3, 4, 5, 6, 7, 0] rfl)
                · have hnf : ¬ (fi (lof9 (g j) N d) (upf9 (g j) N d) b = true ∧ ¬ lof9 (g j) N d b = upf9 (g j) N d b) := fun q => q.2 (hhalf.mp c_71)
                  refine lv_goto (tgt := 134) hx hb dX2_forks_74 (by decide) ?_
                  refine lv_iload hx hb dX2_forks_134 (lv_at hl 6 rfl) ?_
                  refine lv_iload hx hb dX2_forks_136 (lv_at hl 4 rfl) ?_
                  refine xa_iadd hx hb dX2_forks_138 ?_
                  refine lv_istore (lv' := [(6, .int (nI (fv + Sz))), (0, .ref (bd 0)), (1, .int (nI j)), (2, .int (nI al)), (3, .int (nI v)), (4, .int (nI Sz)), (5, .int (nI mn))]) hx hb dX2_forks_139 hl (by decide) rfl (fun ls hl => ?_)
                  refine lv_goto (tgt := 44) hx hb dX2_forks_141 (by decide) ?_
                  exact ih_44 (b + 1) (fv + Sz) mn p3 _ _ _ (by omega) (by rw [hfv, Nat.succ_mul]) (by rw [hmn]; exact (cf_old hnf).symm) (pok_old hpk hnf) hP hS (lv_sub hl [1, 2, 3, 4, 5, 6, 0] rfl)
          exact lp_44 (nb9 + 1) 0 0 0 p2 _ _ _ (by omega) (Nat.zero_mul _).symm rfl (pok_0 _ _ _ _) hP hS (lv_sub hl [3, 4, 5, 6, 2, 1, 0] rfl)
    exact lp_18 (N + 1 + 1 - 1) 1 pt 0 _ _ _ (by omega) (by omega) (Nat.le_refl 1) rfl (by omega) hP hS (lv_sub hl [2, 3, 1, 0] rfl)
  · refine lv_iconst (v := (-1)) hx hb dX2_forks_12 (by decide) ?_
    exact W.iret (v := (-1)) hx hb hr (fun t ht hW => ⟨⟨(-1), (rb, mb, pt), rfl, ⟨by unfold sFo; rw [c_9]; rfl, hg⟩, (by show va_P _ _ _ _; rw [ht]; exact hP)⟩, hS.F ht⟩) hS.2.2 dX2_forks_13
end
section
def va_AOA (ty : FieldType) (U : State) : Prop := (Cond.arrayOver (.array ty)).before #[] U = true
theorem va_AOA.use {ty : FieldType} {A : Array Value} {U : State} (h : va_AOA ty U) : (Cond.arrayOver (.array ty)).before A U = true := h
/-! ===== BEGIN new T[n][m]: the outer array a place, the inner ones among the pooled ===== -/
/-- f, but v at every address of l -/
def vr_up {α : Type} (f : Nat → α) (l : List Nat) (v : α) : Nat → α := fun a => if a ∈ l then v else f a
theorem vr_up_in {α : Type} {f : Nat → α} {l : List Nat} {v : α} {a : Nat} (h : a ∈ l) : vr_up f l v a = v := if_pos h
theorem vr_up_ne {α : Type} {f : Nat → α} {l : List Nat} {v : α} {a : Nat} (h : a ∉ l) : vr_up f l v a = f a := if_neg h
theorem vr_rows {L l : List Nat} {f : Nat → va_E} {e : va_E} (h : ∀ a, a ∈ l → a ∉ L) : va_pl L f ++ l.map (fun a => (a, e)) = va_pl (L ++ l) (vr_up f l e) := by
  unfold va_pl
  rw [List.map_append]
  congr 1
  · apply List.map_congr_left
    intro a ha
    rw [vr_up_ne (fun q => h a q ha)]
  · apply List.map_congr_left
    intro a ha
    rw [vr_up_in ha]
theorem vr_lay {X rows : va_W} {x : Nat × va_E} {pl : va_W} {D : va_G} {cl : List vw_C} {H : Heap} (hP : va_P D cl (((X ++ pl) ++ [x]) ++ rows) H) : va_P D cl ((X ++ [x]) ++ (pl ++ rows)) H := by
  rw [List.append_assoc (X ++ pl)] at hP
  have h := va_P.swap hP
  rw [← List.append_assoc X] at h
  have h2 := va_P.swap h
  rw [List.append_assoc (X ++ [x])] at h2
  exact h2
theorem vr_layD {X rows : va_W} {x : Nat × va_E} {pl : va_W} {A : Nat → Prop} (hD : va_D A (((X ++ pl) ++ [x]) ++ rows)) : va_D A ((X ++ [x]) ++ (pl ++ rows)) := by
  rw [List.append_assoc (X ++ pl)] at hD
  have h := va_D.swap hD
  rw [← List.append_assoc X] at h
  have h2 := va_D.swap h
  rw [List.append_assoc (X ++ [x])] at h2
  exact h2
theorem vr_outer (c : ClassId) (N h0 : Nat) : ∀ i : Nat, Jvm.Free.Multi.outerC c N h0 i = arrV c N (fun j => va_rf (if j < i then some (h0 + 1 + j) else none))
  | 0 => by
    show ({ cls := c, slots := Array.replicate N .null, vm := .none } : Cell) = _
    rw [arrV_new]
    refine congrArg (arrV c N) (funext fun j => ?_)
    simp [va_rf]
  | i + 1 => by
    show (Jvm.Free.Multi.outerC c N h0 i).setSlot i (.ref (h0 + 1 + i)) = _
    rw [vr_outer c N h0 i, arrV_store]
    refine congrArg (arrV c N) (funext fun j => ?_)
    by_cases e : j = i
    · subst e
      simp [updV, va_rf]
    · by_cases h : j < i
      · simp [updV, e, h, Nat.lt_succ_of_lt h]
      · simp [updV, e, h, show ¬ j < i + 1 by omega]
section VGM
variable {p : Program} {l : Launch} {e : Env} {R : Room} {s : State} {m : MethodId} {args : Array Value} {below : List Frame} {meth : Method} {c : Code} {H : Heap} {locs : List Loc} {cells slots : Nat} {Q : State → Prop}
variable {cc : ByteArray} {pc : Nat} {ls : Array Slot} {rest : List Value} {D : va_G} {cl : List vw_C} {A : Nat → Prop} {a : Nat} {tys : List (ClassId × FieldType)} {ws : va_W} {H0 : Heap}
theorem va_mna {X : va_W} {L : List Nat} {f : Nat → va_E} {cc : ByteArray} (hexec : p.tables.exec = Jvm.exec) (hb : c.code = cc) {own : String} {index : Nat} {ty : FieldType} {cy : ClassId} (hown : s.vm.findClass own = some m.cls) (hclink : (Cond.classLink own index ("[" ++ (FieldType.array ty).toString)).before args s = true) (hover : va_AOA ty s) (harr : (Cond.arrayClass ty).before args s = true) (hcy : s.vm.findClass (FieldType.array ty).toString = some cy)
    (hK : va_K D cl tys s) (hP : va_P D cl (X ++ va_pl L f) H) (hD : va_D A (X ++ va_pl L f)) (hS : va_S A H0 H locs) (hA : ∀ q, H0.size ≤ q → A q) {n k : Int32} {N' K' : Nat} {z : vp_A} (hn : ¬ n < 0) (hk : ¬ k < 0) (hN : n.toNatClampNeg = N') (hM : k.toNatClampNeg = K')
    (hb1 : N' * 4 ≤ 536870912) (hb2 : K' * componentBytes ty ≤ 536870912) (hb3 : K' ≤ 536870912) (hdf : fits ty (defaultValue ty) = true) (hdd : (defaultValue ty).isDefault = true) (hcells : cells + (1 + N') ≤ R.cells) (hslots : slots + (N' + N' * K') ≤ R.slots) (hz : ∀ c : ClassId, Jvm.Free.Multi.innerC c K' (defaultValue ty) = vp_cell c z) (hdg : decode cc pc = .ok (.multianewarray index 2, 4))
    (kk : ∀ (q : Nat) (r : Nat → Nat) (cA : ClassId) (H1 : Heap), (∀ i j : Nat, i < N' → j < N' → r i = r j → i = j) → (∀ i : Nat, i < N' → r i ∉ L) → va_K D cl (tys ++ [(cA, .array ty)]) s →
      va_P D cl ((X ++ [(q, .inl (cA, N', .inr (.inr (.inr (.inr (fun i => if i < N' then some (r i) else none))))))]) ++ va_pl (L ++ (List.range N').map r) (vr_up f ((List.range N').map r) (.inl (cy, z)))) H1 → va_D A ((X ++ [(q, .inl (cA, N', .inr (.inr (.inr (.inr (fun i => if i < N' then some (r i) else none))))))]) ++ va_pl (L ++ (List.range N').map r) (vr_up f ((List.range N').map r) (.inl (cy, z)))) → va_S A H0 H1 locs →
      W p l e R s m args below meth c H1 locs (cells + 1 + N') (slots + N' + N' * K') Q (F0 m (pc + 4) ls (.ref q :: rest))) : W p l e R s m args below meth c H locs cells slots Q (F0 m pc ls (.int k :: .int n :: rest)) := by
  subst hN
  subst hM
  intro T hT Xs
  obtain ⟨vm₁, cA, comp, -, fA, fC, hO, -, X', step⟩ := Xs.multianewarray2F hexec hown hclink (va_AOA.use hover) harr (g := F0 m pc ls (.int k :: .int n :: rest)) rfl (by rw [hb]; exact hdg) rfl hn hk hb1 hb2 hb3 hdf hdd hcells hslots
  have ec : some cy = some comp := hcy.symm.trans fC
  cases ec
  generalize hF : Jvm.Free.Multi.fill (T.setVm vm₁) cA cy n.toNatClampNeg k.toNatClampNeg (defaultValue ty) n.toNatClampNeg = F at X' step
  have hTh : (T.setVm vm₁).heap = H := hT
  obtain ⟨f1, f2, -, -⟩ := Jvm.Free.Multi.fill_facts (T.setVm vm₁) cA cy n.toNatClampNeg k.toNatClampNeg (defaultValue ty) n.toNatClampNeg
  rw [hF, hTh] at f1 f2
  have hold : ∀ x : Nat, x < H.size → F.heap[x]? = H[x]? := fun x hx => by
    have := Jvm.Free.Multi.fill_old (T.setVm vm₁) cA cy n.toNatClampNeg k.toNatClampNeg (defaultValue ty) (a := x) (by rw [hTh]; exact hx) n.toNatClampNeg
    rw [hF, hTh] at this
    exact this
  have hrow : ∀ j : Nat, j < n.toNatClampNeg → F.heap[H.size + 1 + j]? = some (vp_cell cy z) := fun j hj => by
    have := Jvm.Free.Multi.fill_inner (T.setVm vm₁) cA cy n.toNatClampNeg k.toNatClampNeg (defaultValue ty) n.toNatClampNeg j hj
    rw [hF, hTh, hz] at this
    exact this
  have hout : Jvm.Free.Multi.outerC cA n.toNatClampNeg H.size n.toNatClampNeg = vp_cell cA (n.toNatClampNeg, .inr (.inr (.inr (.inr (fun i => if i < n.toNatClampNeg then some (H.size + 1 + i) else none))))) := by
    rw [vp_cell_q]
    exact vr_outer cA n.toNatClampNeg H.size n.toNatClampNeg
  rw [hout] at f2
  have hlt : ∀ a, a ∈ L → a < H.size := fun a ha => by
    obtain ⟨k9, hk9⟩ := va_pl_get (X := X) (f := f) ha
    exact (hP k9 _ hk9).lt
  have hnl : ∀ i : Nat, i < n.toNatClampNeg → H.size + 1 + i ∉ L := fun i _ h => by
    have := hlt _ h
    omega
  have hnm : ∀ a, a ∈ (List.range n.toNatClampNeg).map (fun i => H.size + 1 + i) → a ∉ L := fun a ha h => by
    obtain ⟨i, -, rfl⟩ := List.mem_map.mp ha
    have := hlt _ h
    omega
  have hP0 : va_P D cl (X ++ va_pl L f) F.heap := hP.kept (fun k9 x hx => hold x.1 ((hP k9 x hx).lt))
  have hP1 : va_P D cl ((X ++ va_pl L f) ++ [(H.size, .inl (cA, n.toNatClampNeg, .inr (.inr (.inr (.inr (fun i => if i < n.toNatClampNeg then some (H.size + 1 + i) else none))))))]) F.heap := hP0.app (fun k9 x hx => by
    have h0 : k9 < 1 := (List.getElem?_eq_some_iff.mp hx).1
    rw [show k9 = 0 by omega] at hx
    cases hx
    exact f2)
  have hP2 : va_P D cl (((X ++ va_pl L f) ++ [(H.size, .inl (cA, n.toNatClampNeg, .inr (.inr (.inr (.inr (fun i => if i < n.toNatClampNeg then some (H.size + 1 + i) else none))))))]) ++ ((List.range n.toNatClampNeg).map (fun i => H.size + 1 + i)).map (fun a => (a, .inl (cy, z)))) F.heap := hP1.app (fun k9 x hx => by
    obtain ⟨a, ha, rfl⟩ := List.mem_map.mp (List.mem_of_getElem? hx)
    obtain ⟨i, hi, rfl⟩ := List.mem_map.mp ha
    exact hrow i (List.mem_range.mp hi))
  have hD2 : va_D A (((X ++ va_pl L f) ++ [(H.size, .inl (cA, n.toNatClampNeg, .inr (.inr (.inr (.inr (fun i => if i < n.toNatClampNeg then some (H.size + 1 + i) else none))))))]) ++ ((List.range n.toNatClampNeg).map (fun i => H.size + 1 + i)).map (fun a => (a, .inl (cy, z)))) := by
    have hD1 := hD.push (e := .inl (cA, n.toNatClampNeg, .inr (.inr (.inr (.inr (fun i => if i < n.toNatClampNeg then some (H.size + 1 + i) else none)))))) hP rfl (hA _ hS.1)
    generalize hW1 : (X ++ va_pl L f) ++ [(H.size, .inl (cA, n.toNatClampNeg, .inr (.inr (.inr (.inr (fun i => if i < n.toNatClampNeg then some (H.size + 1 + i) else none))))))] = W1 at hD1 hP1 ⊢
    have hle : ∀ (k9 : Nat) (x : Nat × va_E), W1[k9]? = some x → x.1 ≤ H.size := fun k9 x hx => by
      rw [← hW1] at hx
      by_cases hl : k9 < (X ++ va_pl L f).length
      · rw [List.getElem?_append_left hl] at hx
        exact Nat.le_of_lt ((hP k9 x hx).lt)
      · rw [List.getElem?_append_right (by omega)] at hx
        have h0 : k9 - (X ++ va_pl L f).length < 1 := (List.getElem?_eq_some_iff.mp hx).1
        rw [show k9 - (X ++ va_pl L f).length = 0 by omega] at hx
        cases hx
        exact Nat.le_refl _
    have hr : ∀ (k9 : Nat) (x : Nat × va_E), (((List.range n.toNatClampNeg).map (fun i => H.size + 1 + i)).map (fun a => ((a, .inl (cy, z)) : Nat × va_E)))[k9]? = some x → x.1 = H.size + 1 + k9 := fun k9 x hx => by
      rw [List.getElem?_map, List.getElem?_map] at hx
      by_cases h9 : k9 < n.toNatClampNeg
      · rw [List.getElem?_range h9] at hx
        cases hx
        rfl
      · have hn0 : (List.range n.toNatClampNeg)[k9]? = none := List.getElem?_eq_none (by rw [List.length_range]; omega)
        rw [hn0] at hx
        cases hx
    refine ⟨fun i j x y hi hj hxy => ?_, fun k9 x hx => ?_⟩
    · by_cases h1 : i < W1.length <;> by_cases h2 : j < W1.length
      · rw [List.getElem?_append_left h1] at hi
        rw [List.getElem?_append_left h2] at hj
        exact hD1.1 i j x y hi hj hxy
      · rw [List.getElem?_append_left h1] at hi
        rw [List.getElem?_append_right (by omega)] at hj
        have := hle _ _ hi
        have := hr _ _ hj
        omega
      · rw [List.getElem?_append_right (by omega)] at hi
        rw [List.getElem?_append_left h2] at hj
        have := hle _ _ hj
        have := hr _ _ hi
        omega
      · rw [List.getElem?_append_right (by omega)] at hi hj
        have := hr _ _ hi
        have := hr _ _ hj
        omega
    · by_cases h1 : k9 < W1.length
      · rw [List.getElem?_append_left h1] at hx
        exact hD1.2 k9 x hx
      · rw [List.getElem?_append_right (by omega)] at hx
        have := hr _ _ hx
        exact hA _ (by have := hS.1; omega)
  have hAr : ArrOfT s cA (.array ty) := fun N9 z9 => by
    obtain ⟨-, k9, hk9, cm9, hkk9⟩ := (hO 0 0 0).1
    exact ⟨(fun q hq => by cases hq), k9, hk9, cm9, hkk9⟩
  have hK2 : va_K D cl (tys ++ [(cA, .array ty)]) s := ⟨hK.1, fun k9 x hx => by
    by_cases hl : k9 < tys.length
    · rw [List.getElem?_append_left hl] at hx
      exact hK.2 k9 x hx
    · rw [List.getElem?_append_right (by omega)] at hx
      have h0 : k9 - tys.length < 1 := (List.getElem?_eq_some_iff.mp hx).1
      rw [show k9 - tys.length = 0 by omega] at hx
      cases hx
      exact ⟨hAr, fA⟩⟩
  obtain ⟨t, a1, b1⟩ := kk H.size (fun i => H.size + 1 + i) cA F.heap (fun i j _ _ h => by have h9 : H.size + 1 + i = H.size + 1 + j := h; omega) hnl hK2 (by rw [← vr_rows hnm]; exact vr_lay hP2) (by rw [← vr_rows hnm]; exact vr_layD hD2) ⟨by rw [f1]; have := hS.1; omega, fun x h1 h2 => (hold x (Nat.lt_of_lt_of_le h1 hS.1)).trans (hS.2.1 x h1 h2), hS.2.2⟩ F rfl X'
  refine ⟨t, step t ?_, b1⟩
  have e : T.heap.size = H.size := by rw [hT]
  rw [e]
  exact a1
end VGM
/-! ===== END ===== -/
end
section
/-! rows for constructors: arrays of a known class, the grid of 32 rows -/
section XC
variable {p : Program} {l : Launch} {e : Env} {R : Room} {s : State} {m : MethodId} {args : Array Value} {below : List Frame} {meth : Method} {c : Code} {H : Heap} {locs : List Loc} {cells slots : Nat} {Q : State → Prop}
variable {cc : ByteArray} {pc : Nat} {ls : Array Slot} {rest : List Value} {D : va_G} {cl : List vw_C} {A : Nat → Prop} {a : Nat} {tys : List (ClassId × FieldType)} {ws : va_W} {H0 : Heap}
theorem xc_newi (hexec : p.tables.exec = Jvm.exec) (hb : c.code = cc) (harr : (Cond.arrayClass .int).before args s = true) (hK : va_K D cl tys s) (t0 : Nat) {cI : ClassId} (ht : tys[t0]? = some (cI, .int)) (hP : va_P D cl ws H) (hD : va_D A ws) (hS : va_S A H0 H locs) (hA : ∀ q, H0.size ≤ q → A q) {n : Nat} (hn : n ≤ 1000000) (hcells : cells + 1 ≤ R.cells) (hslots : slots + n ≤ R.slots) (hdg : decode cc pc = .ok (.newarray .int, 2))
    (kk : ∀ (q : Nat) (H1 : Heap), va_P D cl (ws ++ [(q, .inl (cI, n, .inl (fun _ => 0)))]) H1 → va_D A (ws ++ [(q, .inl (cI, n, .inl (fun _ => 0)))]) → va_S A H0 H1 locs → W p l e R s m args below meth c H1 locs (cells + 1) (slots + n) Q (F0 m (pc + 2) ls (.ref q :: rest))) : W p l e R s m args below meth c H locs cells slots Q (F0 m pc ls (.int (nI n) :: rest)) := by
  refine va_newa (atype := .int) (ty := .int) (a0 := (n, .inl (fun _ => 0))) hexec hb harr rfl hK hP hD hS hA (fun _ => rfl) (nI_pos (by omega)) (nI_clamp (by omega)) (by show n * 4 ≤ 536870912; omega) hcells hslots hdg (fun q cA H1 hK1 hP1 hD1 hS1 => ?_)
  have e9 : cA = cI := by
    have h1 := (hK1.2 tys.length (cA, .int) (by simp)).2
    have h2 := (hK.2 t0 _ ht).2
    exact Option.some.inj (h1.symm.trans h2)
  subst e9
  exact kk q H1 hP1 hD1 hS1
theorem xc_newl (hexec : p.tables.exec = Jvm.exec) (hb : c.code = cc) (harr : (Cond.arrayClass .long).before args s = true) (hK : va_K D cl tys s) (t0 : Nat) {cI : ClassId} (ht : tys[t0]? = some (cI, .long)) (hP : va_P D cl ws H) (hD : va_D A ws) (hS : va_S A H0 H locs) (hA : ∀ q, H0.size ≤ q → A q) {n : Nat} (hn : n ≤ 1000000) (hcells : cells + 1 ≤ R.cells) (hslots : slots + n ≤ R.slots) (hdg : decode cc pc = .ok (.newarray .long, 2))
    (kk : ∀ (q : Nat) (H1 : Heap), va_P D cl (ws ++ [(q, .inl (cI, n, .inr (.inl (fun _ => 0))))]) H1 → va_D A (ws ++ [(q, .inl (cI, n, .inr (.inl (fun _ => 0))))]) → va_S A H0 H1 locs → W p l e R s m args below meth c H1 locs (cells + 1) (slots + n) Q (F0 m (pc + 2) ls (.ref q :: rest))) : W p l e R s m args below meth c H locs cells slots Q (F0 m pc ls (.int (nI n) :: rest)) := by
  refine va_newa (atype := .long) (ty := .long) (a0 := (n, .inr (.inl (fun _ => 0)))) hexec hb harr rfl hK hP hD hS hA (fun _ => rfl) (nI_pos (by omega)) (nI_clamp (by omega)) (by show n * 8 ≤ 536870912; omega) hcells hslots hdg (fun q cA H1 hK1 hP1 hD1 hS1 => ?_)
  have e9 : cA = cI := by
    have h1 := (hK1.2 tys.length (cA, .long) (by simp)).2
    have h2 := (hK.2 t0 _ ht).2
    exact Option.some.inj (h1.symm.trans h2)
  subst e9
  exact kk q H1 hP1 hD1 hS1
theorem xc_newz (hexec : p.tables.exec = Jvm.exec) (hb : c.code = cc) (harr : (Cond.arrayClass .boolean).before args s = true) (hK : va_K D cl tys s) (t0 : Nat) {cI : ClassId} (ht : tys[t0]? = some (cI, .boolean)) (hP : va_P D cl ws H) (hD : va_D A ws) (hS : va_S A H0 H locs) (hA : ∀ q, H0.size ≤ q → A q) {n : Nat} (hn : n ≤ 1000000) (hcells : cells + 1 ≤ R.cells) (hslots : slots + n ≤ R.slots) (hdg : decode cc pc = .ok (.newarray .boolean, 2))
    (kk : ∀ (q : Nat) (H1 : Heap), va_P D cl (ws ++ [(q, .inl (cI, n, .inl (bz (fun _ => false))))]) H1 → va_D A (ws ++ [(q, .inl (cI, n, .inl (bz (fun _ => false))))]) → va_S A H0 H1 locs → W p l e R s m args below meth c H1 locs (cells + 1) (slots + n) Q (F0 m (pc + 2) ls (.ref q :: rest))) : W p l e R s m args below meth c H locs cells slots Q (F0 m pc ls (.int (nI n) :: rest)) := by
  refine va_newa (atype := .boolean) (ty := .boolean) (a0 := (n, .inl (bz (fun _ => false)))) hexec hb harr rfl hK hP hD hS hA (fun _ => rfl) (nI_pos (by omega)) (nI_clamp (by omega)) (by show n * 1 ≤ 536870912; omega) hcells hslots hdg (fun q cA H1 hK1 hP1 hD1 hS1 => ?_)
  have e9 : cA = cI := by
    have h1 := (hK1.2 tys.length (cA, .boolean) (by simp)).2
    have h2 := (hK.2 t0 _ ht).2
    exact Option.some.inj (h1.symm.trans h2)
  subst e9
  exact kk q H1 hP1 hD1 hS1
theorem gw_pl {r : Nat → Nat} {cJ : ClassId} {n M : Nat} {f : Nat → va_E} {z : vp_A} (hz : z = (n, .inr (.inl (fun _ => 0)))) : va_pl ([] ++ (List.range M).map r) (vr_up f ((List.range M).map r) (.inl (cJ, z))) = gw r cJ n M (fun _ _ => 0) := by
  unfold va_pl gw
  rw [List.nil_append, List.map_map]
  apply List.map_congr_left
  intro i hi
  show (r i, vr_up f ((List.range M).map r) (.inl (cJ, z)) (r i)) = _
  rw [vr_up_in (List.mem_map.mpr ⟨i, hi, rfl⟩), hz]
theorem ref_cell {c : ClassId} {n : Nat} {f f' : Nat → Option Nat} (h : ∀ i, i < n → f i = f' i) : vp_cell c (n, .inr (.inr (.inr (.inr f)))) = vp_cell c (n, .inr (.inr (.inr (.inr f')))) := by
  rw [vp_cell_q, vp_cell_q]
  unfold arrV
  congr 2
  funext j
  show va_rf (f j.val) = va_rf (f' j.val)
  rw [h j.val j.isLt]
theorem xc_mna (hexec : p.tables.exec = Jvm.exec) (hb : c.code = cc) {own : String} {index : Nat} (hown : s.vm.findClass own = some m.cls) (hclink : (Cond.classLink own index "[[J").before args s = true) (hover : (Cond.arrayOver (.array .long)).before args s = true) (harr : (Cond.arrayClass .long).before args s = true)
    (hK : va_K D cl tys s) (t0 t1 : Nat) {cJJ cJ : ClassId} (h0 : tys[t0]? = some (cJJ, .array .long)) (h1 : tys[t1]? = some (cJ, .long)) (hP : va_P D cl ws H) (hD : va_D A ws) (hS : va_S A H0 H locs) (hA : ∀ q, H0.size ≤ q → A q) {n : Nat} (hn : n ≤ 64) (hcells : cells + (1 + 32) ≤ R.cells) (hslots : slots + (32 + 32 * n) ≤ R.slots) (hdg : decode cc pc = .ok (.multianewarray index 2, 4))
    (kk : ∀ (q : Nat) (r : Nat → Nat) (H1 : Heap), va_P D cl ((ws ++ [(q, .inl (cJJ, 32, .inr (.inr (.inr (.inr (fun k => some (r k)))))))]) ++ gw r cJ n 32 (fun _ _ => 0)) H1 → va_D A ((ws ++ [(q, .inl (cJJ, 32, .inr (.inr (.inr (.inr (fun k => some (r k)))))))]) ++ gw r cJ n 32 (fun _ _ => 0)) → va_S A H0 H1 locs →
      W p l e R s m args below meth c H1 locs (cells + 1 + 32) (slots + 32 + 32 * n) Q (F0 m (pc + 4) ls (.ref q :: rest))) : W p l e R s m args below meth c H locs cells slots Q (F0 m pc ls (.int (nI n) :: .int (nI 32) :: rest)) := by
  have hP0 : va_P D cl (ws ++ va_pl [] (fun _ => .inr (0, []))) H := by
    show va_P D cl (ws ++ []) H
    rw [List.append_nil]
    exact hP
  have hD0 : va_D A (ws ++ va_pl [] (fun _ => .inr (0, []))) := by
    show va_D A (ws ++ [])
    rw [List.append_nil]
    exact hD
  refine va_mna (ty := .long) (cy := cJ) (N' := 32) (K' := n) (z := (n, .inr (.inl (fun _ => 0)))) hexec hb hown hclink hover harr ((hK.2 t1 _ h1).2) hK hP0 hD0 hS hA (nI_pos (by omega)) (nI_pos (by omega)) (nI_clamp (by omega)) (nI_clamp (by omega)) (by omega) (by show n * 8 ≤ 536870912; omega) (by omega) rfl rfl hcells hslots ?_ hdg (fun q r cA H1 hr1 hr2 hK1 hP1 hD1 hS1 => ?_)
  · intro c9
    show ({ cls := c9, slots := Array.replicate n (defaultValue .long), vm := .none } : Cell) = _
    rw [arrV_new]
    rfl
  · have e9 : cA = cJJ := by
      have h2 := (hK1.2 tys.length (cA, .array .long) (by simp)).2
      have h3 := (hK.2 t0 _ h0).2
      exact Option.some.inj (h2.symm.trans h3)
    subst e9
    rw [gw_pl rfl] at hP1 hD1
    refine kk q r H1 ?_ ?_ hS1
    · intro k x hx
      by_cases hk : k = ws.length
      · subst hk
        rw [List.getElem?_append_left (by simp), List.getElem?_append_right (Nat.le_refl _), Nat.sub_self] at hx
        cases hx
        have h5 := hP1 ws.length _ (by rw [List.getElem?_append_left (by simp), List.getElem?_append_right (Nat.le_refl _), Nat.sub_self]; rfl)
        have h6 : H1[q]? = some (vp_cell cA (32, .inr (.inr (.inr (.inr (fun i => if i < 32 then some (r i) else none)))))) := h5
        exact h6.trans (congrArg some (ref_cell (fun i hi => if_pos hi)))
      · refine hP1 k x ?_
        rcases Nat.lt_or_ge k (ws.length + 1) with h7 | h7
        · rw [List.getElem?_append_left (by simp; omega), List.getElem?_append_left (by omega)] at hx ⊢
          exact hx
        · rw [List.getElem?_append_right (by simp; omega)] at hx ⊢
          simpa using hx
    · refine ⟨fun i j p9 q9 hi hj hpq => ?_, fun k x hx => ?_⟩
      · have hl : ∀ (k : Nat) (x : Nat × va_E), ((ws ++ [(q, .inl (cA, 32, .inr (.inr (.inr (.inr (fun k => some (r k)))))))]) ++ gw r cJ n 32 (fun _ _ => 0))[k]? = some x → ∃ y : Nat × va_E, ((ws ++ [(q, .inl (cA, 32, .inr (.inr (.inr (.inr (fun i => if i < 32 then some (r i) else none))))))]) ++ gw r cJ n 32 (fun _ _ => 0))[k]? = some y ∧ y.1 = x.1 := fun k x hx => by
          by_cases hk : k = ws.length
          · subst hk
            rw [List.getElem?_append_left (by simp), List.getElem?_append_right (Nat.le_refl _), Nat.sub_self] at hx
            cases hx
            exact ⟨(q, .inl (cA, 32, .inr (.inr (.inr (.inr (fun i => if i < 32 then some (r i) else none)))))), by rw [List.getElem?_append_left (by simp), List.getElem?_append_right (Nat.le_refl _), Nat.sub_self]; rfl, rfl⟩
          · refine ⟨x, ?_, rfl⟩
            rcases Nat.lt_or_ge k (ws.length + 1) with h7 | h7
            · rw [List.getElem?_append_left (by simp; omega), List.getElem?_append_left (by omega)] at hx ⊢
              exact hx
            · rw [List.getElem?_append_right (by simp; omega)] at hx ⊢
              simpa using hx
        obtain ⟨y1, g1, g2⟩ := hl i p9 hi
        obtain ⟨y2, g3, g4⟩ := hl j q9 hj
        exact hD1.1 i j y1 y2 g1 g3 (by rw [g2, g4, hpq])
      · by_cases hk : k = ws.length
        · subst hk
          rw [List.getElem?_append_left (by simp), List.getElem?_append_right (Nat.le_refl _), Nat.sub_self] at hx
          cases hx
          exact hD1.2 ws.length (q, .inl (cA, 32, .inr (.inr (.inr (.inr (fun i => if i < 32 then some (r i) else none)))))) (by rw [List.getElem?_append_left (by simp), List.getElem?_append_right (Nat.le_refl _), Nat.sub_self]; rfl)
        · refine hD1.2 k x ?_
          rcases Nat.lt_or_ge k (ws.length + 1) with h7 | h7
          · rw [List.getElem?_append_left (by simp; omega), List.getElem?_append_left (by omega)] at hx ⊢
            exact hx
          · rw [List.getElem?_append_right (by simp; omega)] at hx ⊢
            simpa using hx
end XC
end
