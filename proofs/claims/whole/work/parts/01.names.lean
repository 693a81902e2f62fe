/-! ===== BEGIN words of one list among another's, by their places ===== -/
theorem goodIn_r {big : List Cond} (ws : List Cond) (ps : List Nat) (hp : ws = ps.filterMap (fun i => big[i]?)) (h : ws.all goodWord = true) : GoodIn big ws := by
  intro w hw
  have h1 := List.all_eq_true.mp h w hw
  rw [hp] at hw
  obtain ⟨i, -, hi⟩ := List.mem_filterMap.mp hw
  have hm : w ∈ big := by first | exact List.mem_of_getElem? hi | exact List.getElem?_mem hi
  exact ⟨hm, good_of_word h1⟩
theorem goodIn_app {big a b : List Cond} (ha : GoodIn big a) (hb : GoodIn big b) : GoodIn big (a ++ b) := fun w h => (List.mem_append.mp h).elim (ha w) (hb w)
theorem goodIn_ca {big a b : List Cond} {c : Cond} (ha : GoodIn big (c :: a)) (hb : GoodIn big b) : GoodIn big (c :: (a ++ b)) := fun w h => (List.mem_cons.mp h).elim (fun e => ha w (List.mem_cons.mpr (Or.inl e))) (fun h => (List.mem_append.mp h).elim (fun h => ha w (List.mem_cons.mpr (Or.inr h))) (hb w))
theorem goodIn_sub {big ws : List Cond} (hm : ∀ w ∈ ws, w ∈ big) (h : ws.all goodWord = true) : GoodIn big ws := fun w hw => ⟨hm w hw, good_of_word (List.all_eq_true.mp h w hw)⟩
/-! ===== END ===== -/

/-! ===== BEGIN printed: names, fields, word lists, decode rows ===== -/
def RX0 : String := "ForkDesk$ForkCounter"
def TX0 : u_T := fun k => match k with
  | 0 => ("ForkDesk$ForkCounter", "variables", "I", true)
  | 1 => ("ForkDesk$ForkCounter", "kinds", "[I", true)
  | 2 => ("ForkDesk$ForkCounter", "upperHalf", "[I", true)
  | 3 => ("ForkDesk$ForkCounter", "before", "[I", true)
  | _ => ("ForkDesk$ForkCounter", "latest", "[I", true)
def tyX0 : Nat → FieldType := fun k => match k with
  | 0 => .int
  | 1 => .array .int
  | 2 => .array .int
  | 3 => .array .int
  | _ => .array .int
abbrev wsX00 : List Cond := u_ws RX0 TX0 5
theorem nmX0 : ∀ a, a < 5 → ∀ b, b < 5 → a ≠ b → (TX0 a).2.1 ≠ (TX0 b).2.1 := by decide +kernel
theorem tyX0_ok : ∀ k, k < 5 → parseFieldDescriptor (TX0 k).2.2.1 = some (tyX0 k) := by decide +kernel
abbrev cX0_init : ByteArray := prog_2_method_1_code
def yX0_init : MethodName := ⟨RX0, "<init>", "(I)V"⟩
abbrev cX0_count : ByteArray := prog_2_method_2_code
def yX0_count : MethodName := ⟨RX0, "count", "([J)I"⟩
abbrev cX0_countLevel : ByteArray := prog_2_method_3_code
def yX0_countLevel : MethodName := ⟨RX0, "countLevel", "(I)I"⟩
abbrev cX0_kindOf : ByteArray := prog_2_method_4_code
def yX0_kindOf : MethodName := ⟨RX0, "kindOf", "(III)I"⟩
def RX1 : String := "ForkDesk"
def TX1 : u_T := fun k => match k with
  | 0 => ("ForkDesk", "variables", "I", true)
  | 1 => ("ForkDesk", "points", "I", true)
  | 2 => ("ForkDesk", "words", "I", true)
  | 3 => ("ForkDesk", "pointsInWord", "I", true)
  | 4 => ("ForkDesk", "allOnes", "J", true)
  | 5 => ("ForkDesk", "registers", "[[J", true)
  | 6 => ("ForkDesk", "draft", "[J", true)
  | 7 => ("ForkDesk", "reached", "[J", true)
  | 8 => ("ForkDesk", "tuples", "[I", true)
  | _ => ("ForkDesk", "forkCounter", "LForkDesk$ForkCounter;", true)
def tyX1 : Nat → FieldType := fun k => match k with
  | 0 => .int
  | 1 => .int
  | 2 => .int
  | 3 => .int
  | 4 => .long
  | 5 => .array (.array .long)
  | 6 => .array .long
  | 7 => .array .long
  | 8 => .array .int
  | _ => .object "ForkDesk$ForkCounter"
abbrev wsX10 : List Cond := u_ws RX1 TX1 10
theorem nmX1 : ∀ a, a < 10 → ∀ b, b < 10 → a ≠ b → (TX1 a).2.1 ≠ (TX1 b).2.1 := by decide +kernel
theorem tyX1_ok : ∀ k, k < 10 → parseFieldDescriptor (TX1 k).2.2.1 = some (tyX1 k) := by decide +kernel
abbrev cX1_init : ByteArray := prog_1_method_1_code
def yX1_init : MethodName := ⟨RX1, "<init>", "(I)V"⟩
abbrev cX1_constant : ByteArray := prog_1_method_2_code
def yX1_constant : MethodName := ⟨RX1, "constant", "(II)Z"⟩
abbrev cX1_variable : ByteArray := prog_1_method_3_code
def yX1_variable : MethodName := ⟨RX1, "variable", "(II)Z"⟩
abbrev cX1_combine : ByteArray := prog_1_method_4_code
def yX1_combine : MethodName := ⟨RX1, "combine", "(IIII)Z"⟩
abbrev cX1_choose : ByteArray := prog_1_method_5_code
def yX1_choose : MethodName := ⟨RX1, "choose", "(IIII)Z"⟩
abbrev cX1_fix : ByteArray := prog_1_method_6_code
def yX1_fix : MethodName := ⟨RX1, "fix", "(IIII)Z"⟩
abbrev cX1_exists : ByteArray := prog_1_method_7_code
def yX1_exists : MethodName := ⟨RX1, "exists", "(IIII)Z"⟩
abbrev cX1_substitute : ByteArray := prog_1_method_8_code
def yX1_substitute : MethodName := ⟨RX1, "substitute", "(III)Z"⟩
abbrev cX1_nearest : ByteArray := prog_1_method_9_code
def yX1_nearest : MethodName := ⟨RX1, "nearest", "(III)Z"⟩
abbrev cX1_image : ByteArray := prog_1_method_10_code
def yX1_image : MethodName := ⟨RX1, "image", "(IIII)Z"⟩
abbrev cX1_forks : ByteArray := prog_1_method_11_code
def yX1_forks : MethodName := ⟨RX1, "forks", "(I)I"⟩
abbrev cX1_ones : ByteArray := prog_1_method_12_code
def yX1_ones : MethodName := ⟨RX1, "ones", "(I)I"⟩
abbrev cX1_least : ByteArray := prog_1_method_13_code
def yX1_least : MethodName := ⟨RX1, "least", "(I)I"⟩
abbrev cX1_at : ByteArray := prog_1_method_14_code
def yX1_at : MethodName := ⟨RX1, "at", "(II)I"⟩
abbrev cX1_same : ByteArray := prog_1_method_15_code
def yX1_same : MethodName := ⟨RX1, "same", "(II)Z"⟩
abbrev cX1_isRegister : ByteArray := prog_1_method_16_code
def yX1_isRegister : MethodName := ⟨RX1, "isRegister", "(I)Z"⟩
abbrev cX1_areRegisters : ByteArray := prog_1_method_17_code
def yX1_areRegisters : MethodName := ⟨RX1, "areRegisters", "(II)Z"⟩
abbrev cX1_isVariable : ByteArray := prog_1_method_18_code
def yX1_isVariable : MethodName := ⟨RX1, "isVariable", "(I)Z"⟩
abbrev cX1_isValue : ByteArray := prog_1_method_19_code
def yX1_isValue : MethodName := ⟨RX1, "isValue", "(I)Z"⟩
abbrev cX1_bitOf : ByteArray := prog_1_method_20_code
def yX1_bitOf : MethodName := ⟨RX1, "bitOf", "(I)I"⟩
abbrev cX1_valueAt : ByteArray := prog_1_method_21_code
def yX1_valueAt : MethodName := ⟨RX1, "valueAt", "([JI)I"⟩
abbrev cX1_lowestPlace : ByteArray := prog_1_method_22_code
def yX1_lowestPlace : MethodName := ⟨RX1, "lowestPlace", "(J)I"⟩
abbrev cX1_combined : ByteArray := prog_1_method_23_code
def yX1_combined : MethodName := ⟨RX1, "combined", "(IJJ)J"⟩
abbrev cX1_chosen : ByteArray := prog_1_method_24_code
def yX1_chosen : MethodName := ⟨RX1, "chosen", "(JJJ)J"⟩
abbrev cX1_pointsWithBit : ByteArray := prog_1_method_25_code
def yX1_pointsWithBit : MethodName := ⟨RX1, "pointsWithBit", "(II)J"⟩
abbrev cX1_acrossBit : ByteArray := prog_1_method_26_code
def yX1_acrossBit : MethodName := ⟨RX1, "acrossBit", "([JII)J"⟩
abbrev cX1_spread : ByteArray := prog_1_method_27_code
def yX1_spread : MethodName := ⟨RX1, "spread", "([JI)V"⟩
abbrev cX1_readTuples : ByteArray := prog_1_method_28_code
def yX1_readTuples : MethodName := ⟨RX1, "readTuples", "(III)V"⟩
abbrev cX1_markTuples : ByteArray := prog_1_method_29_code
def yX1_markTuples : MethodName := ⟨RX1, "markTuples", "(JI)V"⟩
abbrev cX1_keepDraft : ByteArray := prog_1_method_30_code
def yX1_keepDraft : MethodName := ⟨RX1, "keepDraft", "(I)V"⟩
def RJ13 : String := "java/lang/Long"
def TJ13 : u_T := fun k => match k with
  | _ => ("", "", "", false)
def tyJ13 : Nat → FieldType := fun k => match k with
  | _ => .int
abbrev wsJ130 : List Cond := u_ws RJ13 TJ13 0
theorem nmJ13 : ∀ a, a < 0 → ∀ b, b < 0 → a ≠ b → (TJ13 a).2.1 ≠ (TJ13 b).2.1 := by decide +kernel
theorem tyJ13_ok : ∀ k, k < 0 → parseFieldDescriptor (TJ13 k).2.2.1 = some (tyJ13 k) := by decide +kernel
abbrev cJ13_bitCount_95d88 : ByteArray := prog_5_method_50_code
def yJ13_bitCount_95d88 : MethodName := ⟨RJ13, "bitCount", "(J)I"⟩
def RJ9 : String := "java/lang/Math"
def TJ9 : u_T := fun k => match k with
  | _ => ("", "", "", false)
def tyJ9 : Nat → FieldType := fun k => match k with
  | _ => .int
abbrev wsJ90 : List Cond := u_ws RJ9 TJ9 0
theorem nmJ9 : ∀ a, a < 0 → ∀ b, b < 0 → a ≠ b → (TJ9 a).2.1 ≠ (TJ9 b).2.1 := by decide +kernel
theorem tyJ9_ok : ∀ k, k < 0 → parseFieldDescriptor (TJ9 k).2.2.1 = some (tyJ9 k) := by decide +kernel
abbrev cJ9_max_7cf53 : ByteArray := prog_6_method_65_code
def yJ9_max_7cf53 : MethodName := ⟨RJ9, "max", "(II)I"⟩
abbrev cJ9_min_7cf53 : ByteArray := prog_6_method_69_code
def yJ9_min_7cf53 : MethodName := ⟨RJ9, "min", "(II)I"⟩
def RJ10 : String := "java/lang/System"
def TJ10 : u_T := fun k => match k with
  | _ => ("", "", "", false)
def tyJ10 : Nat → FieldType := fun k => match k with
  | _ => .int
abbrev wsJ100 : List Cond := u_ws RJ10 TJ10 0
theorem nmJ10 : ∀ a, a < 0 → ∀ b, b < 0 → a ≠ b → (TJ10 a).2.1 ≠ (TJ10 b).2.1 := by decide +kernel
theorem tyJ10_ok : ∀ k, k < 0 → parseFieldDescriptor (TJ10 k).2.2.1 = some (tyJ10 k) := by decide +kernel
def RJ7 : String := "java/util/Arrays"
def TJ7 : u_T := fun k => match k with
  | _ => ("", "", "", false)
def tyJ7 : Nat → FieldType := fun k => match k with
  | _ => .int
abbrev wsJ70 : List Cond := u_ws RJ7 TJ7 0
theorem nmJ7 : ∀ a, a < 0 → ∀ b, b < 0 → a ≠ b → (TJ7 a).2.1 ≠ (TJ7 b).2.1 := by decide +kernel
theorem tyJ7_ok : ∀ k, k < 0 → parseFieldDescriptor (TJ7 k).2.2.1 = some (tyJ7 k) := by decide +kernel
abbrev cJ7_fill_d0a16 : ByteArray := prog_8_method_101_code
def yJ7_fill_d0a16 : MethodName := ⟨RJ7, "fill", "([JJ)V"⟩
abbrev cJ7_fill_53178 : ByteArray := prog_8_method_103_code
def yJ7_fill_53178 : MethodName := ⟨RJ7, "fill", "([II)V"⟩
def RL : String := "ForkDeskLaw"
abbrev cL_cell : ByteArray := method_2_code
def yL_cell : MethodName := ⟨RL, "cell", "([II)I"⟩
abbrev cL_law : ByteArray := code
def yL_law : MethodName := ⟨RL, "law", "([I)Z"⟩
def wsX0_init : List Cond := .code yX0_init cX0_init 3 none :: ([.methodLink RX0 3 objectInit, .instanceMethod objectInit, .code objectInit ⟨#[0xb1]⟩ 1 none, .fieldLink RX0 9 "ForkDesk$ForkCounter" "variables" "I", .arrayClass .int, .fieldLink RX0 15 "ForkDesk$ForkCounter" "kinds" "[I", .fieldLink RX0 19 "ForkDesk$ForkCounter" "upperHalf" "[I", .fieldLink RX0 22 "ForkDesk$ForkCounter" "before" "[I", .methodLink RX0 25 Lib.Math.max.name, .static Lib.Math.max.name, .initialized "java/lang/Math", .code Lib.Math.max.name Lib.Math.max.code 2 (some .int), .fieldLink RX0 31 "ForkDesk$ForkCounter" "latest" "[I"] ++ wsX00)
def wsX1_valueAt : List Cond := .code yX1_valueAt cX1_valueAt 2 (some .int) :: ([])
def wsJ7_fill_53178 : List Cond := .code yJ7_fill_53178 cJ7_fill_53178 4 none :: ([])
def wsX0_kindOf : List Cond := .code yX0_kindOf cX0_kindOf 6 (some .int) :: ([.fieldLink RX0 31 "ForkDesk$ForkCounter" "latest" "[I", .fieldLink RX0 19 "ForkDesk$ForkCounter" "upperHalf" "[I", .fieldLink RX0 22 "ForkDesk$ForkCounter" "before" "[I"] ++ wsX00)
def wsX0_countLevel : List Cond := .code yX0_countLevel cX0_countLevel 7 (some .int) :: ([.fieldLink RX0 31 "ForkDesk$ForkCounter" "latest" "[I", .fieldLink RX0 15 "ForkDesk$ForkCounter" "kinds" "[I", .methodLink RX0 42 yJ7_fill_53178, .static yJ7_fill_53178, .initialized RJ7, .code yJ7_fill_53178 cJ7_fill_53178 4 none, .methodLink RX0 48 yX0_kindOf, .instanceMethod yX0_kindOf, .selects RX0 yX0_kindOf yX0_kindOf, .initialized RX0, .code yX0_kindOf cX0_kindOf 6 (some .int), .fieldLink RX0 19 "ForkDesk$ForkCounter" "upperHalf" "[I", .fieldLink RX0 22 "ForkDesk$ForkCounter" "before" "[I"] ++ wsX00)
def wsX0_count : List Cond := .code yX0_count cX0_count 4 (some .int) :: ([.fieldLink RX0 15 "ForkDesk$ForkCounter" "kinds" "[I", .fieldLink RX0 9 "ForkDesk$ForkCounter" "variables" "I", .static yX1_valueAt, .initialized RX1, .code yX1_valueAt cX1_valueAt 2 (some .int), .methodLink RX0 38 yX0_countLevel, .instanceMethod yX0_countLevel, .selects RX0 yX0_countLevel yX0_countLevel, .initialized RX0, .code yX0_countLevel cX0_countLevel 7 (some .int), .fieldLink RX0 31 "ForkDesk$ForkCounter" "latest" "[I", .methodLink RX0 42 yJ7_fill_53178, .static yJ7_fill_53178, .initialized RJ7, .code yJ7_fill_53178 cJ7_fill_53178 4 none, .methodLink RX0 48 yX0_kindOf, .instanceMethod yX0_kindOf, .selects RX0 yX0_kindOf yX0_kindOf, .code yX0_kindOf cX0_kindOf 6 (some .int), .fieldLink RX0 19 "ForkDesk$ForkCounter" "upperHalf" "[I", .fieldLink RX0 22 "ForkDesk$ForkCounter" "before" "[I"] ++ wsX00)
def wsX1_init_r1 : List Cond := [Cond.methodLink RX1 1 objectInit, Cond.instanceMethod objectInit, Cond.code objectInit ⟨#[0xb1]⟩ 1 none, Cond.methodLink RX1 9 Lib.Math.min.name, Cond.static Lib.Math.min.name, Cond.initialized "java/lang/Math", Cond.code Lib.Math.min.name Lib.Math.min.code 2 (some .int), Cond.methodLink RX1 15 Lib.Math.max.name, Cond.static Lib.Math.max.name, Cond.code Lib.Math.max.name Lib.Math.max.code 2 (some .int), Cond.fieldLink RX1 18 "ForkDesk" "variables" "I", Cond.fieldLink RX1 22 "ForkDesk" "points" "I", Cond.fieldLink RX1 25 "ForkDesk" "words" "I", Cond.fieldLink RX1 28 "ForkDesk" "pointsInWord" "I", Cond.constantLong RX1 31 (-1), Cond.fieldLink RX1 33 "ForkDesk" "allOnes" "J", Cond.classLink RX1 37 "[[J", Cond.arrayClass .long, Cond.fieldLink RX1 39 "ForkDesk" "registers" "[[J", Cond.fieldLink RX1 42 "ForkDesk" "draft" "[J", Cond.fieldLink RX1 46 "ForkDesk" "reached" "[J", Cond.arrayClass .int, Cond.fieldLink RX1 49 "ForkDesk" "tuples" "[I", Cond.classLink RX1 53 RX0]
def wsX1_init_r2 : List Cond := [Cond.instantiable RX0 5, Cond.initialized RX0, Cond.fieldLink RX1 58 "ForkDesk" "forkCounter" "LForkDesk$ForkCounter;", Cond.methodLink RX1 55 yX0_init, Cond.instanceMethod yX0_init, Cond.code yX0_init cX0_init 3 none, Cond.methodLink RX0 3 objectInit, Cond.fieldLink RX0 9 "ForkDesk$ForkCounter" "variables" "I", Cond.fieldLink RX0 15 "ForkDesk$ForkCounter" "kinds" "[I", Cond.fieldLink RX0 19 "ForkDesk$ForkCounter" "upperHalf" "[I", Cond.fieldLink RX0 22 "ForkDesk$ForkCounter" "before" "[I", Cond.methodLink RX0 25 Lib.Math.max.name, Cond.fieldLink RX0 31 "ForkDesk$ForkCounter" "latest" "[I"]
def wsX1_init : List Cond := .code yX1_init cX1_init 2 none :: ((wsX1_init_r1 ++ wsX1_init_r2) ++ wsX10 ++ wsX00)
def wsX1_isRegister : List Cond := .code yX1_isRegister cX1_isRegister 1 (some .boolean) :: ([])
def wsX1_isValue : List Cond := .code yX1_isValue cX1_isValue 1 (some .boolean) :: ([])
def wsJ7_fill_d0a16 : List Cond := .code yJ7_fill_d0a16 cJ7_fill_d0a16 5 none :: ([])
def wsX1_constant : List Cond := .code yX1_constant cX1_constant 3 (some .boolean) :: ([.fieldLink RX1 39 "ForkDesk" "registers" "[[J", .fieldLink RX1 33 "ForkDesk" "allOnes" "J", .methodLink RX1 62 yX1_isRegister, .static yX1_isRegister, .initialized RX1, .code yX1_isRegister cX1_isRegister 1 (some .boolean), .methodLink RX1 66 yX1_isValue, .static yX1_isValue, .code yX1_isValue cX1_isValue 1 (some .boolean), .methodLink RX1 69 yJ7_fill_d0a16, .static yJ7_fill_d0a16, .initialized RJ7, .code yJ7_fill_d0a16 cJ7_fill_d0a16 5 none] ++ wsX10)
def wsX1_isVariable : List Cond := .code yX1_isVariable cX1_isVariable 2 (some .boolean) :: ([.fieldLink RX1 18 "ForkDesk" "variables" "I"] ++ wsX10)
def wsX1_bitOf : List Cond := .code yX1_bitOf cX1_bitOf 2 (some .int) :: ([.fieldLink RX1 18 "ForkDesk" "variables" "I"] ++ wsX10)
def wsX1_pointsWithBit : List Cond := .code yX1_pointsWithBit cX1_pointsWithBit 3 (some .long) :: ([.fieldLink RX1 140 "ForkDesk" "PLACES_WITH_BIT" "[J", .fieldLink RX1 33 "ForkDesk" "allOnes" "J"] ++ wsX10)
def wsX1_variable : List Cond := .code yX1_variable cX1_variable 5 (some .boolean) :: ([.fieldLink RX1 25 "ForkDesk" "words" "I", .fieldLink RX1 39 "ForkDesk" "registers" "[[J", .methodLink RX1 62 yX1_isRegister, .static yX1_isRegister, .initialized RX1, .code yX1_isRegister cX1_isRegister 1 (some .boolean), .methodLink RX1 75 yX1_isVariable, .instanceMethod yX1_isVariable, .selects RX1 yX1_isVariable yX1_isVariable, .code yX1_isVariable cX1_isVariable 2 (some .boolean), .fieldLink RX1 18 "ForkDesk" "variables" "I", .methodLink RX1 78 yX1_bitOf, .instanceMethod yX1_bitOf, .selects RX1 yX1_bitOf yX1_bitOf, .code yX1_bitOf cX1_bitOf 2 (some .int), .methodLink RX1 82 yX1_pointsWithBit, .instanceMethod yX1_pointsWithBit, .selects RX1 yX1_pointsWithBit yX1_pointsWithBit, .code yX1_pointsWithBit cX1_pointsWithBit 3 (some .long), .fieldLink RX1 140 "ForkDesk" "PLACES_WITH_BIT" "[J", .fieldLink RX1 33 "ForkDesk" "allOnes" "J"] ++ wsX10)
def wsX1_combined : List Cond := .code yX1_combined cX1_combined 5 (some .long) :: ([.constantLong RX1 31 (-1)])
def wsX1_combine : List Cond := .code yX1_combine cX1_combine 6 (some .boolean) :: ([.fieldLink RX1 25 "ForkDesk" "words" "I", .fieldLink RX1 39 "ForkDesk" "registers" "[[J", .methodLink RX1 62 yX1_isRegister, .static yX1_isRegister, .initialized RX1, .code yX1_isRegister cX1_isRegister 1 (some .boolean), .methodLink RX1 86 yX1_combined, .static yX1_combined, .code yX1_combined cX1_combined 5 (some .long), .constantLong RX1 31 (-1)] ++ wsX10)
def wsX1_chosen : List Cond := .code yX1_chosen cX1_chosen 6 (some .long) :: ([.constantLong RX1 31 (-1)])
def wsX1_choose : List Cond := .code yX1_choose cX1_choose 6 (some .boolean) :: ([.fieldLink RX1 25 "ForkDesk" "words" "I", .fieldLink RX1 39 "ForkDesk" "registers" "[[J", .methodLink RX1 62 yX1_isRegister, .static yX1_isRegister, .initialized RX1, .code yX1_isRegister cX1_isRegister 1 (some .boolean), .methodLink RX1 90 yX1_chosen, .static yX1_chosen, .code yX1_chosen cX1_chosen 6 (some .long), .constantLong RX1 31 (-1)] ++ wsX10)
def wsX1_acrossBit : List Cond := .code yX1_acrossBit cX1_acrossBit 8 (some .long) :: ([.fieldLink RX1 140 "ForkDesk" "PLACES_WITH_BIT" "[J", .constantLong RX1 31 (-1)])
def wsX1_keepDraft : List Cond := .code yX1_keepDraft cX1_keepDraft 2 none :: ([.fieldLink RX1 42 "ForkDesk" "draft" "[J", .fieldLink RX1 39 "ForkDesk" "registers" "[[J", .fieldLink RX1 25 "ForkDesk" "words" "I", .methodLink RX1 101 arraycopyName, .native arraycopyName, .static arraycopyName, .initialized "java/lang/System"] ++ wsX10)
def wsX1_fix_r1 : List Cond := [Cond.fieldLink RX1 25 "ForkDesk" "words" "I", Cond.fieldLink RX1 39 "ForkDesk" "registers" "[[J", Cond.fieldLink RX1 42 "ForkDesk" "draft" "[J", Cond.methodLink RX1 62 yX1_isRegister, Cond.static yX1_isRegister, Cond.initialized RX1, Cond.code yX1_isRegister cX1_isRegister 1 (some .boolean), Cond.methodLink RX1 75 yX1_isVariable, Cond.instanceMethod yX1_isVariable, Cond.selects RX1 yX1_isVariable yX1_isVariable, Cond.code yX1_isVariable cX1_isVariable 2 (some .boolean), Cond.fieldLink RX1 18 "ForkDesk" "variables" "I", Cond.methodLink RX1 66 yX1_isValue, Cond.static yX1_isValue, Cond.code yX1_isValue cX1_isValue 1 (some .boolean), Cond.methodLink RX1 78 yX1_bitOf, Cond.instanceMethod yX1_bitOf, Cond.selects RX1 yX1_bitOf yX1_bitOf, Cond.code yX1_bitOf cX1_bitOf 2 (some .int), Cond.methodLink RX1 94 yX1_acrossBit, Cond.static yX1_acrossBit, Cond.code yX1_acrossBit cX1_acrossBit 8 (some .long), Cond.fieldLink RX1 140 "ForkDesk" "PLACES_WITH_BIT" "[J", Cond.constantLong RX1 31 (-1)]
def wsX1_fix_r2 : List Cond := [Cond.methodLink RX1 82 yX1_pointsWithBit, Cond.instanceMethod yX1_pointsWithBit, Cond.selects RX1 yX1_pointsWithBit yX1_pointsWithBit, Cond.code yX1_pointsWithBit cX1_pointsWithBit 3 (some .long), Cond.fieldLink RX1 33 "ForkDesk" "allOnes" "J", Cond.methodLink RX1 90 yX1_chosen, Cond.static yX1_chosen, Cond.code yX1_chosen cX1_chosen 6 (some .long), Cond.methodLink RX1 98 yX1_keepDraft, Cond.instanceMethod yX1_keepDraft, Cond.selects RX1 yX1_keepDraft yX1_keepDraft, Cond.code yX1_keepDraft cX1_keepDraft 2 none, Cond.methodLink RX1 101 arraycopyName, Cond.native arraycopyName, Cond.static arraycopyName, Cond.initialized "java/lang/System"]
def wsX1_fix : List Cond := .code yX1_fix cX1_fix 13 (some .boolean) :: ((wsX1_fix_r1 ++ wsX1_fix_r2) ++ wsX10)
def wsX1_spread : List Cond := .code yX1_spread cX1_spread 4 none :: ([.fieldLink RX1 25 "ForkDesk" "words" "I", .methodLink RX1 94 yX1_acrossBit, .static yX1_acrossBit, .initialized RX1, .code yX1_acrossBit cX1_acrossBit 8 (some .long), .fieldLink RX1 140 "ForkDesk" "PLACES_WITH_BIT" "[J", .constantLong RX1 31 (-1)] ++ wsX10)
def wsX1_exists_r1 : List Cond := [Cond.fieldLink RX1 39 "ForkDesk" "registers" "[[J", Cond.fieldLink RX1 42 "ForkDesk" "draft" "[J", Cond.fieldLink RX1 25 "ForkDesk" "words" "I", Cond.methodLink RX1 101 arraycopyName, Cond.native arraycopyName, Cond.static arraycopyName, Cond.initialized "java/lang/System", Cond.methodLink RX1 62 yX1_isRegister, Cond.static yX1_isRegister, Cond.initialized RX1, Cond.code yX1_isRegister cX1_isRegister 1 (some .boolean), Cond.methodLink RX1 75 yX1_isVariable, Cond.instanceMethod yX1_isVariable, Cond.selects RX1 yX1_isVariable yX1_isVariable, Cond.code yX1_isVariable cX1_isVariable 2 (some .boolean), Cond.fieldLink RX1 18 "ForkDesk" "variables" "I", Cond.methodLink RX1 78 yX1_bitOf, Cond.instanceMethod yX1_bitOf, Cond.selects RX1 yX1_bitOf yX1_bitOf, Cond.code yX1_bitOf cX1_bitOf 2 (some .int), Cond.methodLink RX1 107 yX1_spread, Cond.instanceMethod yX1_spread, Cond.selects RX1 yX1_spread yX1_spread, Cond.code yX1_spread cX1_spread 4 none]
def wsX1_exists_r2 : List Cond := [Cond.methodLink RX1 94 yX1_acrossBit, Cond.static yX1_acrossBit, Cond.code yX1_acrossBit cX1_acrossBit 8 (some .long), Cond.fieldLink RX1 140 "ForkDesk" "PLACES_WITH_BIT" "[J", Cond.constantLong RX1 31 (-1), Cond.methodLink RX1 98 yX1_keepDraft, Cond.instanceMethod yX1_keepDraft, Cond.selects RX1 yX1_keepDraft yX1_keepDraft, Cond.code yX1_keepDraft cX1_keepDraft 2 none]
def wsX1_exists : List Cond := .code yX1_exists cX1_exists 6 (some .boolean) :: ((wsX1_exists_r1 ++ wsX1_exists_r2) ++ wsX10)
def wsX1_areRegisters : List Cond := .code yX1_areRegisters cX1_areRegisters 2 (some .boolean) :: ([])
def wsX1_readTuples : List Cond := .code yX1_readTuples cX1_readTuples 8 none :: ([.fieldLink RX1 49 "ForkDesk" "tuples" "[I", .fieldLink RX1 39 "ForkDesk" "registers" "[[J", .fieldLink RX1 28 "ForkDesk" "pointsInWord" "I", .methodLink RX1 143 yJ7_fill_53178, .static yJ7_fill_53178, .initialized RJ7, .code yJ7_fill_53178 cJ7_fill_53178 4 none] ++ wsX10)
def wsX1_substitute_r1 : List Cond := [Cond.fieldLink RX1 18 "ForkDesk" "variables" "I", Cond.fieldLink RX1 25 "ForkDesk" "words" "I", Cond.fieldLink RX1 28 "ForkDesk" "pointsInWord" "I", Cond.fieldLink RX1 39 "ForkDesk" "registers" "[[J", Cond.fieldLink RX1 49 "ForkDesk" "tuples" "[I", Cond.fieldLink RX1 42 "ForkDesk" "draft" "[J", Cond.methodLink RX1 62 yX1_isRegister, Cond.static yX1_isRegister, Cond.initialized RX1, Cond.code yX1_isRegister cX1_isRegister 1 (some .boolean), Cond.methodLink RX1 111 yX1_areRegisters, Cond.static yX1_areRegisters, Cond.code yX1_areRegisters cX1_areRegisters 2 (some .boolean), Cond.methodLink RX1 115 yX1_readTuples, Cond.instanceMethod yX1_readTuples, Cond.selects RX1 yX1_readTuples yX1_readTuples, Cond.code yX1_readTuples cX1_readTuples 8 none, Cond.methodLink RX1 143 yJ7_fill_53178, Cond.static yJ7_fill_53178, Cond.initialized RJ7, Cond.code yJ7_fill_53178 cJ7_fill_53178 4 none, Cond.methodLink RX1 119 yX1_valueAt, Cond.static yX1_valueAt, Cond.code yX1_valueAt cX1_valueAt 2 (some .int)]
def wsX1_substitute_r2 : List Cond := [Cond.methodLink RX1 98 yX1_keepDraft, Cond.instanceMethod yX1_keepDraft, Cond.selects RX1 yX1_keepDraft yX1_keepDraft, Cond.code yX1_keepDraft cX1_keepDraft 2 none, Cond.methodLink RX1 101 arraycopyName, Cond.native arraycopyName, Cond.static arraycopyName, Cond.initialized "java/lang/System"]
def wsX1_substitute : List Cond := .code yX1_substitute cX1_substitute 8 (some .boolean) :: ((wsX1_substitute_r1 ++ wsX1_substitute_r2) ++ wsX10)
def wsX1_nearest_r1 : List Cond := [Cond.fieldLink RX1 25 "ForkDesk" "words" "I", Cond.fieldLink RX1 46 "ForkDesk" "reached" "[J", Cond.fieldLink RX1 39 "ForkDesk" "registers" "[[J", Cond.fieldLink RX1 42 "ForkDesk" "draft" "[J", Cond.fieldLink RX1 18 "ForkDesk" "variables" "I", Cond.constantLong RX1 31 (-1), Cond.methodLink RX1 62 yX1_isRegister, Cond.static yX1_isRegister, Cond.initialized RX1, Cond.code yX1_isRegister cX1_isRegister 1 (some .boolean), Cond.methodLink RX1 94 yX1_acrossBit, Cond.static yX1_acrossBit, Cond.code yX1_acrossBit cX1_acrossBit 8 (some .long), Cond.fieldLink RX1 140 "ForkDesk" "PLACES_WITH_BIT" "[J", Cond.methodLink RX1 107 yX1_spread, Cond.instanceMethod yX1_spread, Cond.selects RX1 yX1_spread yX1_spread, Cond.code yX1_spread cX1_spread 4 none, Cond.methodLink RX1 98 yX1_keepDraft, Cond.instanceMethod yX1_keepDraft, Cond.selects RX1 yX1_keepDraft yX1_keepDraft, Cond.code yX1_keepDraft cX1_keepDraft 2 none, Cond.methodLink RX1 101 arraycopyName, Cond.native arraycopyName]
def wsX1_nearest_r2 : List Cond := [Cond.static arraycopyName, Cond.initialized "java/lang/System"]
def wsX1_nearest : List Cond := .code yX1_nearest cX1_nearest 6 (some .boolean) :: ((wsX1_nearest_r1 ++ wsX1_nearest_r2) ++ wsX10)
def wsX1_markTuples : List Cond := .code yX1_markTuples cX1_markTuples 6 none :: ([.fieldLink RX1 28 "ForkDesk" "pointsInWord" "I", .fieldLink RX1 49 "ForkDesk" "tuples" "[I", .fieldLink RX1 42 "ForkDesk" "draft" "[J"] ++ wsX10)
def wsX1_image_r1 : List Cond := [Cond.fieldLink RX1 18 "ForkDesk" "variables" "I", Cond.fieldLink RX1 42 "ForkDesk" "draft" "[J", Cond.fieldLink RX1 25 "ForkDesk" "words" "I", Cond.fieldLink RX1 39 "ForkDesk" "registers" "[[J", Cond.methodLink RX1 62 yX1_isRegister, Cond.static yX1_isRegister, Cond.initialized RX1, Cond.code yX1_isRegister cX1_isRegister 1 (some .boolean), Cond.methodLink RX1 75 yX1_isVariable, Cond.instanceMethod yX1_isVariable, Cond.selects RX1 yX1_isVariable yX1_isVariable, Cond.code yX1_isVariable cX1_isVariable 2 (some .boolean), Cond.methodLink RX1 111 yX1_areRegisters, Cond.static yX1_areRegisters, Cond.code yX1_areRegisters cX1_areRegisters 2 (some .boolean), Cond.methodLink RX1 69 yJ7_fill_d0a16, Cond.static yJ7_fill_d0a16, Cond.initialized RJ7, Cond.code yJ7_fill_d0a16 cJ7_fill_d0a16 5 none, Cond.methodLink RX1 115 yX1_readTuples, Cond.instanceMethod yX1_readTuples, Cond.selects RX1 yX1_readTuples yX1_readTuples, Cond.code yX1_readTuples cX1_readTuples 8 none, Cond.fieldLink RX1 49 "ForkDesk" "tuples" "[I"]
def wsX1_image_r2 : List Cond := [Cond.fieldLink RX1 28 "ForkDesk" "pointsInWord" "I", Cond.methodLink RX1 143 yJ7_fill_53178, Cond.static yJ7_fill_53178, Cond.code yJ7_fill_53178 cJ7_fill_53178 4 none, Cond.methodLink RX1 123 yX1_markTuples, Cond.instanceMethod yX1_markTuples, Cond.selects RX1 yX1_markTuples yX1_markTuples, Cond.code yX1_markTuples cX1_markTuples 6 none, Cond.methodLink RX1 107 yX1_spread, Cond.instanceMethod yX1_spread, Cond.selects RX1 yX1_spread yX1_spread, Cond.code yX1_spread cX1_spread 4 none, Cond.methodLink RX1 94 yX1_acrossBit, Cond.static yX1_acrossBit, Cond.code yX1_acrossBit cX1_acrossBit 8 (some .long), Cond.fieldLink RX1 140 "ForkDesk" "PLACES_WITH_BIT" "[J", Cond.constantLong RX1 31 (-1), Cond.methodLink RX1 98 yX1_keepDraft, Cond.instanceMethod yX1_keepDraft, Cond.selects RX1 yX1_keepDraft yX1_keepDraft, Cond.code yX1_keepDraft cX1_keepDraft 2 none, Cond.methodLink RX1 101 arraycopyName, Cond.native arraycopyName, Cond.static arraycopyName]
def wsX1_image_r3 : List Cond := [Cond.initialized "java/lang/System"]
def wsX1_image : List Cond := .code yX1_image cX1_image 7 (some .boolean) :: ((wsX1_image_r1 ++ (wsX1_image_r2 ++ wsX1_image_r3)) ++ wsX10)
def wsX1_forks_r1 : List Cond := [Cond.fieldLink RX1 58 "ForkDesk" "forkCounter" "LForkDesk$ForkCounter;", Cond.fieldLink RX1 39 "ForkDesk" "registers" "[[J", Cond.methodLink RX1 62 yX1_isRegister, Cond.static yX1_isRegister, Cond.initialized RX1, Cond.code yX1_isRegister cX1_isRegister 1 (some .boolean), Cond.methodLink RX1 127 yX0_count, Cond.instanceMethod yX0_count, Cond.selects RX0 yX0_count yX0_count, Cond.initialized RX0, Cond.code yX0_count cX0_count 4 (some .int), Cond.fieldLink RX0 15 "ForkDesk$ForkCounter" "kinds" "[I", Cond.fieldLink RX0 9 "ForkDesk$ForkCounter" "variables" "I", Cond.static yX1_valueAt, Cond.code yX1_valueAt cX1_valueAt 2 (some .int), Cond.methodLink RX0 38 yX0_countLevel, Cond.instanceMethod yX0_countLevel, Cond.selects RX0 yX0_countLevel yX0_countLevel, Cond.code yX0_countLevel cX0_countLevel 7 (some .int), Cond.fieldLink RX0 31 "ForkDesk$ForkCounter" "latest" "[I", Cond.methodLink RX0 42 yJ7_fill_53178, Cond.static yJ7_fill_53178, Cond.initialized RJ7, Cond.code yJ7_fill_53178 cJ7_fill_53178 4 none]
def wsX1_forks_r2 : List Cond := [Cond.methodLink RX0 48 yX0_kindOf, Cond.instanceMethod yX0_kindOf, Cond.selects RX0 yX0_kindOf yX0_kindOf, Cond.code yX0_kindOf cX0_kindOf 6 (some .int), Cond.fieldLink RX0 19 "ForkDesk$ForkCounter" "upperHalf" "[I", Cond.fieldLink RX0 22 "ForkDesk$ForkCounter" "before" "[I"]
def wsX1_forks : List Cond := .code yX1_forks cX1_forks 2 (some .int) :: ((wsX1_forks_r1 ++ wsX1_forks_r2) ++ wsX10 ++ wsX00)
def wsJ13_bitCount_95d88 : List Cond := .code yJ13_bitCount_95d88 cJ13_bitCount_95d88 2 (some .int) :: ([.constantLong RJ13 314 (6148914691236517205), .constantLong RJ13 316 (3689348814741910323), .constantLong RJ13 318 (1085102592571150095)])
def wsX1_ones : List Cond := .code yX1_ones cX1_ones 4 (some .int) :: ([.fieldLink RX1 25 "ForkDesk" "words" "I", .fieldLink RX1 39 "ForkDesk" "registers" "[[J", .methodLink RX1 62 yX1_isRegister, .static yX1_isRegister, .initialized RX1, .code yX1_isRegister cX1_isRegister 1 (some .boolean), .methodLink RX1 131 yJ13_bitCount_95d88, .static yJ13_bitCount_95d88, .initialized RJ13, .code yJ13_bitCount_95d88 cJ13_bitCount_95d88 2 (some .int), .constantLong RJ13 314 (6148914691236517205), .constantLong RJ13 316 (3689348814741910323), .constantLong RJ13 318 (1085102592571150095)] ++ wsX10)
def wsX1_lowestPlace : List Cond := .code yX1_lowestPlace cX1_lowestPlace 2 (some .int) :: ([.methodLink RX1 131 yJ13_bitCount_95d88, .static yJ13_bitCount_95d88, .initialized RJ13, .code yJ13_bitCount_95d88 cJ13_bitCount_95d88 2 (some .int), .constantLong RJ13 314 (6148914691236517205), .constantLong RJ13 316 (3689348814741910323), .constantLong RJ13 318 (1085102592571150095)])
def wsX1_least : List Cond := .code yX1_least cX1_least 5 (some .int) :: ([.fieldLink RX1 25 "ForkDesk" "words" "I", .fieldLink RX1 39 "ForkDesk" "registers" "[[J", .methodLink RX1 62 yX1_isRegister, .static yX1_isRegister, .initialized RX1, .code yX1_isRegister cX1_isRegister 1 (some .boolean), .methodLink RX1 137 yX1_lowestPlace, .static yX1_lowestPlace, .code yX1_lowestPlace cX1_lowestPlace 2 (some .int), .methodLink RX1 131 yJ13_bitCount_95d88, .static yJ13_bitCount_95d88, .initialized RJ13, .code yJ13_bitCount_95d88 cJ13_bitCount_95d88 2 (some .int), .constantLong RJ13 314 (6148914691236517205), .constantLong RJ13 316 (3689348814741910323), .constantLong RJ13 318 (1085102592571150095)] ++ wsX10)
def wsX1_at : List Cond := .code yX1_at cX1_at 3 (some .int) :: ([.fieldLink RX1 22 "ForkDesk" "points" "I", .fieldLink RX1 39 "ForkDesk" "registers" "[[J", .methodLink RX1 62 yX1_isRegister, .static yX1_isRegister, .initialized RX1, .code yX1_isRegister cX1_isRegister 1 (some .boolean), .methodLink RX1 119 yX1_valueAt, .static yX1_valueAt, .code yX1_valueAt cX1_valueAt 2 (some .int)] ++ wsX10)
def wsX1_same : List Cond := .code yX1_same cX1_same 4 (some .boolean) :: ([.fieldLink RX1 25 "ForkDesk" "words" "I", .fieldLink RX1 39 "ForkDesk" "registers" "[[J", .methodLink RX1 62 yX1_isRegister, .static yX1_isRegister, .initialized RX1, .code yX1_isRegister cX1_isRegister 1 (some .boolean)] ++ wsX10)
def wsJ9_max_7cf53 : List Cond := .code yJ9_max_7cf53 cJ9_max_7cf53 2 (some .int) :: ([])
def wsJ9_min_7cf53 : List Cond := .code yJ9_min_7cf53 cJ9_min_7cf53 2 (some .int) :: ([])
def wsL_cell : List Cond := .code yL_cell cL_cell 2 (some .int) :: ([])
def RX2 : String := "ForkDeskModel"
def TX2 : u_T := fun k => match k with
  | 0 => ("ForkDeskModel", "thrown", "I", false)
  | 1 => ("ForkDeskModel", "n", "I", true)
  | 2 => ("ForkDeskModel", "points", "I", true)
  | 3 => ("ForkDeskModel", "rows", "[Z", true)
  | 4 => ("ForkDeskModel", "made", "[Z", true)
  | _ => ("ForkDeskModel", "parts", "[I", true)
def tyX2 : Nat → FieldType := fun k => match k with
  | 0 => .int
  | 1 => .int
  | 2 => .int
  | 3 => .array .boolean
  | 4 => .array .boolean
  | _ => .array .int
abbrev wsX20 : List Cond := u_ws RX2 TX2 6
theorem nmX2 : ∀ a, a < 6 → ∀ b, b < 6 → a ≠ b → (TX2 a).2.1 ≠ (TX2 b).2.1 := by decide +kernel
theorem tyX2_ok : ∀ k, k < 6 → parseFieldDescriptor (TX2 k).2.2.1 = some (tyX2 k) := by decide +kernel
abbrev vwCl : List vw_C := [(RX0, TX0, 5), (RX1, TX1, 10), (RX2, TX2, 6)]
set_option maxRecDepth 20000 in
theorem ggX0_count_X1_valueAt : GoodIn wsX0_count wsX1_valueAt := goodIn_r _ [5] (by decide +kernel) (by decide +kernel)
set_option maxRecDepth 20000 in
theorem gX0_count_X1_valueAt_n34 : GoodIn wsX0_count (wsX1_valueAt) := ggX0_count_X1_valueAt
set_option maxRecDepth 20000 in
theorem ggX0_count_X0_countLevel : GoodIn wsX0_count wsX0_countLevel := goodIn_r _ [10, 11, 1, 12, 13, 14, 15, 16, 17, 18, 9, 19, 20, 21, 22, 23, 24, 25, 26] (by decide +kernel) (by decide +kernel)
set_option maxRecDepth 20000 in
theorem gX0_count_X0_countLevel : GoodIn wsX0_count (wsV RX0 38 RX0 yX0_countLevel wsX0_countLevel) := goodIn_app (goodIn_of _ (by decide +kernel)) ggX0_count_X0_countLevel
set_option maxRecDepth 20000 in
theorem ggX0_countLevel_J7_fill_53178 : GoodIn wsX0_countLevel wsJ7_fill_53178 := goodIn_r _ [6] (by decide +kernel) (by decide +kernel)
set_option maxRecDepth 20000 in
theorem gX0_countLevel_J7_fill_53178 : GoodIn wsX0_countLevel (va_wsS RX0 42 yJ7_fill_53178 wsJ7_fill_53178) := goodIn_app (goodIn_of _ (by decide +kernel)) ggX0_countLevel_J7_fill_53178
set_option maxRecDepth 20000 in
theorem ggX0_countLevel_X0_kindOf : GoodIn wsX0_countLevel wsX0_kindOf := goodIn_r _ [11, 1, 12, 13, 14, 15, 16, 17, 18] (by decide +kernel) (by decide +kernel)
set_option maxRecDepth 20000 in
theorem gX0_countLevel_X0_kindOf : GoodIn wsX0_countLevel (wsV RX0 48 RX0 yX0_kindOf wsX0_kindOf) := goodIn_app (goodIn_of _ (by decide +kernel)) ggX0_countLevel_X0_kindOf
set_option maxRecDepth 20000 in
theorem ggX1_init_X0_init : GoodIn wsX1_init wsX0_init := goodIn_r _ [30, 31, 2, 3, 32, 22, 33, 34, 35, 36, 9, 6, 10, 37, 48, 49, 50, 51, 52] (by decide +kernel) (by decide +kernel)
set_option maxRecDepth 20000 in
theorem gX1_init_X0_init : GoodIn wsX1_init (wsX0_init) := ggX1_init_X0_init
set_option maxRecDepth 20000 in
theorem ggX1_constant_X1_isRegister : GoodIn wsX1_constant wsX1_isRegister := goodIn_r _ [6] (by decide +kernel) (by decide +kernel)
set_option maxRecDepth 20000 in
theorem gX1_constant_X1_isRegister : GoodIn wsX1_constant (va_wsS RX1 62 yX1_isRegister wsX1_isRegister) := goodIn_app (goodIn_of _ (by decide +kernel)) ggX1_constant_X1_isRegister
set_option maxRecDepth 20000 in
theorem ggX1_constant_X1_isValue : GoodIn wsX1_constant wsX1_isValue := goodIn_r _ [9] (by decide +kernel) (by decide +kernel)
set_option maxRecDepth 20000 in
theorem gX1_constant_X1_isValue : GoodIn wsX1_constant (va_wsS RX1 66 yX1_isValue wsX1_isValue) := goodIn_app (goodIn_of _ (by decide +kernel)) ggX1_constant_X1_isValue
set_option maxRecDepth 20000 in
theorem ggX1_constant_J7_fill_d0a16 : GoodIn wsX1_constant wsJ7_fill_d0a16 := goodIn_r _ [13] (by decide +kernel) (by decide +kernel)
set_option maxRecDepth 20000 in
theorem gX1_constant_J7_fill_d0a16 : GoodIn wsX1_constant (va_wsS RX1 69 yJ7_fill_d0a16 wsJ7_fill_d0a16) := goodIn_app (goodIn_of _ (by decide +kernel)) ggX1_constant_J7_fill_d0a16
set_option maxRecDepth 20000 in
theorem ggX1_variable_X1_isRegister : GoodIn wsX1_variable wsX1_isRegister := goodIn_r _ [6] (by decide +kernel) (by decide +kernel)
set_option maxRecDepth 20000 in
theorem gX1_variable_X1_isRegister : GoodIn wsX1_variable (va_wsS RX1 62 yX1_isRegister wsX1_isRegister) := goodIn_app (goodIn_of _ (by decide +kernel)) ggX1_variable_X1_isRegister
set_option maxRecDepth 20000 in
theorem ggX1_variable_X1_isVariable : GoodIn wsX1_variable wsX1_isVariable := goodIn_r _ [10, 11, 22, 23, 24, 25, 26, 27, 28, 29, 30, 31] (by decide +kernel) (by decide +kernel)
set_option maxRecDepth 20000 in
theorem gX1_variable_X1_isVariable : GoodIn wsX1_variable (wsV RX1 75 RX1 yX1_isVariable wsX1_isVariable) := goodIn_app (goodIn_of _ (by decide +kernel)) ggX1_variable_X1_isVariable
set_option maxRecDepth 20000 in
theorem ggX1_variable_X1_bitOf : GoodIn wsX1_variable wsX1_bitOf := goodIn_r _ [15, 11, 22, 23, 24, 25, 26, 27, 28, 29, 30, 31] (by decide +kernel) (by decide +kernel)
set_option maxRecDepth 20000 in
theorem gX1_variable_X1_bitOf : GoodIn wsX1_variable (wsV RX1 78 RX1 yX1_bitOf wsX1_bitOf) := goodIn_app (goodIn_of _ (by decide +kernel)) ggX1_variable_X1_bitOf
set_option maxRecDepth 20000 in
theorem ggX1_variable_X1_pointsWithBit : GoodIn wsX1_variable wsX1_pointsWithBit := goodIn_r _ [19, 20, 21, 22, 23, 24, 25, 26, 27, 28, 29, 30, 31] (by decide +kernel) (by decide +kernel)
set_option maxRecDepth 20000 in
theorem gX1_variable_X1_pointsWithBit : GoodIn wsX1_variable (wsV RX1 82 RX1 yX1_pointsWithBit wsX1_pointsWithBit) := goodIn_app (goodIn_of _ (by decide +kernel)) ggX1_variable_X1_pointsWithBit
set_option maxRecDepth 20000 in
theorem ggX1_combine_X1_isRegister : GoodIn wsX1_combine wsX1_isRegister := goodIn_r _ [6] (by decide +kernel) (by decide +kernel)
set_option maxRecDepth 20000 in
theorem gX1_combine_X1_isRegister : GoodIn wsX1_combine (va_wsS RX1 62 yX1_isRegister wsX1_isRegister) := goodIn_app (goodIn_of _ (by decide +kernel)) ggX1_combine_X1_isRegister
set_option maxRecDepth 20000 in
theorem ggX1_combine_X1_combined : GoodIn wsX1_combine wsX1_combined := goodIn_r _ [9, 10] (by decide +kernel) (by decide +kernel)
set_option maxRecDepth 20000 in
theorem gX1_combine_X1_combined : GoodIn wsX1_combine (va_wsS RX1 86 yX1_combined wsX1_combined) := goodIn_app (goodIn_of _ (by decide +kernel)) ggX1_combine_X1_combined
set_option maxRecDepth 20000 in
theorem ggX1_choose_X1_isRegister : GoodIn wsX1_choose wsX1_isRegister := goodIn_r _ [6] (by decide +kernel) (by decide +kernel)
set_option maxRecDepth 20000 in
theorem gX1_choose_X1_isRegister : GoodIn wsX1_choose (va_wsS RX1 62 yX1_isRegister wsX1_isRegister) := goodIn_app (goodIn_of _ (by decide +kernel)) ggX1_choose_X1_isRegister
set_option maxRecDepth 20000 in
theorem ggX1_choose_X1_chosen : GoodIn wsX1_choose wsX1_chosen := goodIn_r _ [9, 10] (by decide +kernel) (by decide +kernel)
set_option maxRecDepth 20000 in
theorem gX1_choose_X1_chosen : GoodIn wsX1_choose (va_wsS RX1 90 yX1_chosen wsX1_chosen) := goodIn_app (goodIn_of _ (by decide +kernel)) ggX1_choose_X1_chosen
set_option maxRecDepth 20000 in
theorem ggX1_fix_X1_isRegister : GoodIn wsX1_fix wsX1_isRegister := goodIn_r _ [7] (by decide +kernel) (by decide +kernel)
set_option maxRecDepth 20000 in
theorem gX1_fix_X1_isRegister : GoodIn wsX1_fix (va_wsS RX1 62 yX1_isRegister wsX1_isRegister) := goodIn_app (goodIn_of _ (by decide +kernel)) ggX1_fix_X1_isRegister
set_option maxRecDepth 20000 in
theorem ggX1_fix_X1_isVariable : GoodIn wsX1_fix wsX1_isVariable := goodIn_r _ [11, 12, 41, 42, 43, 44, 45, 46, 47, 48, 49, 50] (by decide +kernel) (by decide +kernel)
set_option maxRecDepth 20000 in
theorem gX1_fix_X1_isVariable : GoodIn wsX1_fix (wsV RX1 75 RX1 yX1_isVariable wsX1_isVariable) := goodIn_app (goodIn_of _ (by decide +kernel)) ggX1_fix_X1_isVariable
set_option maxRecDepth 20000 in
theorem ggX1_fix_X1_isValue : GoodIn wsX1_fix wsX1_isValue := goodIn_r _ [15] (by decide +kernel) (by decide +kernel)
set_option maxRecDepth 20000 in
theorem gX1_fix_X1_isValue : GoodIn wsX1_fix (va_wsS RX1 66 yX1_isValue wsX1_isValue) := goodIn_app (goodIn_of _ (by decide +kernel)) ggX1_fix_X1_isValue
set_option maxRecDepth 20000 in
theorem ggX1_fix_X1_bitOf : GoodIn wsX1_fix wsX1_bitOf := goodIn_r _ [19, 12, 41, 42, 43, 44, 45, 46, 47, 48, 49, 50] (by decide +kernel) (by decide +kernel)
set_option maxRecDepth 20000 in
theorem gX1_fix_X1_bitOf : GoodIn wsX1_fix (wsV RX1 78 RX1 yX1_bitOf wsX1_bitOf) := goodIn_app (goodIn_of _ (by decide +kernel)) ggX1_fix_X1_bitOf
set_option maxRecDepth 20000 in
theorem ggX1_fix_X1_acrossBit : GoodIn wsX1_fix wsX1_acrossBit := goodIn_r _ [22, 23, 24] (by decide +kernel) (by decide +kernel)
set_option maxRecDepth 20000 in
theorem gX1_fix_X1_acrossBit : GoodIn wsX1_fix (va_wsS RX1 94 yX1_acrossBit wsX1_acrossBit) := goodIn_app (goodIn_of _ (by decide +kernel)) ggX1_fix_X1_acrossBit
set_option maxRecDepth 20000 in
theorem ggX1_fix_X1_pointsWithBit : GoodIn wsX1_fix wsX1_pointsWithBit := goodIn_r _ [28, 23, 29, 41, 42, 43, 44, 45, 46, 47, 48, 49, 50] (by decide +kernel) (by decide +kernel)
set_option maxRecDepth 20000 in
theorem gX1_fix_X1_pointsWithBit : GoodIn wsX1_fix (wsV RX1 82 RX1 yX1_pointsWithBit wsX1_pointsWithBit) := goodIn_app (goodIn_of _ (by decide +kernel)) ggX1_fix_X1_pointsWithBit
set_option maxRecDepth 20000 in
theorem ggX1_fix_X1_chosen : GoodIn wsX1_fix wsX1_chosen := goodIn_r _ [32, 24] (by decide +kernel) (by decide +kernel)
set_option maxRecDepth 20000 in
theorem gX1_fix_X1_chosen : GoodIn wsX1_fix (va_wsS RX1 90 yX1_chosen wsX1_chosen) := goodIn_app (goodIn_of _ (by decide +kernel)) ggX1_fix_X1_chosen
set_option maxRecDepth 20000 in
theorem ggX1_fix_X1_keepDraft : GoodIn wsX1_fix wsX1_keepDraft := goodIn_r _ [36, 3, 2, 1, 37, 38, 39, 40, 41, 42, 43, 44, 45, 46, 47, 48, 49, 50] (by decide +kernel) (by decide +kernel)
set_option maxRecDepth 20000 in
theorem gX1_fix_X1_keepDraft : GoodIn wsX1_fix (wsV RX1 98 RX1 yX1_keepDraft wsX1_keepDraft) := goodIn_app (goodIn_of _ (by decide +kernel)) ggX1_fix_X1_keepDraft
set_option maxRecDepth 20000 in
theorem ggX1_exists_X1_isRegister : GoodIn wsX1_exists wsX1_isRegister := goodIn_r _ [11] (by decide +kernel) (by decide +kernel)
set_option maxRecDepth 20000 in
theorem gX1_exists_X1_isRegister : GoodIn wsX1_exists (va_wsS RX1 62 yX1_isRegister wsX1_isRegister) := goodIn_app (goodIn_of _ (by decide +kernel)) ggX1_exists_X1_isRegister
set_option maxRecDepth 20000 in
theorem ggX1_exists_X1_isVariable : GoodIn wsX1_exists wsX1_isVariable := goodIn_r _ [15, 16, 34, 35, 36, 37, 38, 39, 40, 41, 42, 43] (by decide +kernel) (by decide +kernel)
set_option maxRecDepth 20000 in
theorem gX1_exists_X1_isVariable : GoodIn wsX1_exists (wsV RX1 75 RX1 yX1_isVariable wsX1_isVariable) := goodIn_app (goodIn_of _ (by decide +kernel)) ggX1_exists_X1_isVariable
set_option maxRecDepth 20000 in
theorem ggX1_exists_X1_bitOf : GoodIn wsX1_exists wsX1_bitOf := goodIn_r _ [20, 16, 34, 35, 36, 37, 38, 39, 40, 41, 42, 43] (by decide +kernel) (by decide +kernel)
set_option maxRecDepth 20000 in
theorem gX1_exists_X1_bitOf : GoodIn wsX1_exists (wsV RX1 78 RX1 yX1_bitOf wsX1_bitOf) := goodIn_app (goodIn_of _ (by decide +kernel)) ggX1_exists_X1_bitOf
set_option maxRecDepth 20000 in
theorem ggX1_exists_X1_spread : GoodIn wsX1_exists wsX1_spread := goodIn_r _ [24, 3, 25, 26, 10, 27, 28, 29, 34, 35, 36, 37, 38, 39, 40, 41, 42, 43] (by decide +kernel) (by decide +kernel)
set_option maxRecDepth 20000 in
theorem gX1_exists_X1_spread : GoodIn wsX1_exists (wsV RX1 107 RX1 yX1_spread wsX1_spread) := goodIn_app (goodIn_of _ (by decide +kernel)) ggX1_exists_X1_spread
set_option maxRecDepth 20000 in
theorem ggX1_exists_X1_keepDraft : GoodIn wsX1_exists wsX1_keepDraft := goodIn_r _ [33, 2, 1, 3, 4, 5, 6, 7, 34, 35, 36, 37, 38, 39, 40, 41, 42, 43] (by decide +kernel) (by decide +kernel)
set_option maxRecDepth 20000 in
theorem gX1_exists_X1_keepDraft : GoodIn wsX1_exists (wsV RX1 98 RX1 yX1_keepDraft wsX1_keepDraft) := goodIn_app (goodIn_of _ (by decide +kernel)) ggX1_exists_X1_keepDraft
set_option maxRecDepth 20000 in
theorem ggX1_substitute_X1_isRegister : GoodIn wsX1_substitute wsX1_isRegister := goodIn_r _ [10] (by decide +kernel) (by decide +kernel)
set_option maxRecDepth 20000 in
theorem gX1_substitute_X1_isRegister : GoodIn wsX1_substitute (va_wsS RX1 62 yX1_isRegister wsX1_isRegister) := goodIn_app (goodIn_of _ (by decide +kernel)) ggX1_substitute_X1_isRegister
set_option maxRecDepth 20000 in
theorem ggX1_substitute_X1_areRegisters : GoodIn wsX1_substitute wsX1_areRegisters := goodIn_r _ [13] (by decide +kernel) (by decide +kernel)
set_option maxRecDepth 20000 in
theorem gX1_substitute_X1_areRegisters : GoodIn wsX1_substitute (va_wsS RX1 111 yX1_areRegisters wsX1_areRegisters) := goodIn_app (goodIn_of _ (by decide +kernel)) ggX1_substitute_X1_areRegisters
set_option maxRecDepth 20000 in
theorem ggX1_substitute_X1_readTuples : GoodIn wsX1_substitute wsX1_readTuples := goodIn_r _ [17, 5, 4, 3, 18, 19, 20, 21, 33, 34, 35, 36, 37, 38, 39, 40, 41, 42] (by decide +kernel) (by decide +kernel)
set_option maxRecDepth 20000 in
theorem gX1_substitute_X1_readTuples : GoodIn wsX1_substitute (wsV RX1 115 RX1 yX1_readTuples wsX1_readTuples) := goodIn_app (goodIn_of _ (by decide +kernel)) ggX1_substitute_X1_readTuples
set_option maxRecDepth 20000 in
theorem ggX1_substitute_X1_valueAt : GoodIn wsX1_substitute wsX1_valueAt := goodIn_r _ [24] (by decide +kernel) (by decide +kernel)
set_option maxRecDepth 20000 in
theorem gX1_substitute_X1_valueAt : GoodIn wsX1_substitute (va_wsS RX1 119 yX1_valueAt wsX1_valueAt) := goodIn_app (goodIn_of _ (by decide +kernel)) ggX1_substitute_X1_valueAt
set_option maxRecDepth 20000 in
theorem ggX1_substitute_X1_keepDraft : GoodIn wsX1_substitute wsX1_keepDraft := goodIn_r _ [28, 6, 4, 2, 29, 30, 31, 32, 33, 34, 35, 36, 37, 38, 39, 40, 41, 42] (by decide +kernel) (by decide +kernel)
set_option maxRecDepth 20000 in
theorem gX1_substitute_X1_keepDraft : GoodIn wsX1_substitute (wsV RX1 98 RX1 yX1_keepDraft wsX1_keepDraft) := goodIn_app (goodIn_of _ (by decide +kernel)) ggX1_substitute_X1_keepDraft
set_option maxRecDepth 20000 in
theorem ggX1_nearest_X1_isRegister : GoodIn wsX1_nearest wsX1_isRegister := goodIn_r _ [10] (by decide +kernel) (by decide +kernel)
set_option maxRecDepth 20000 in
theorem gX1_nearest_X1_isRegister : GoodIn wsX1_nearest (va_wsS RX1 62 yX1_isRegister wsX1_isRegister) := goodIn_app (goodIn_of _ (by decide +kernel)) ggX1_nearest_X1_isRegister
set_option maxRecDepth 20000 in
theorem ggX1_nearest_X1_acrossBit : GoodIn wsX1_nearest wsX1_acrossBit := goodIn_r _ [13, 14, 6] (by decide +kernel) (by decide +kernel)
set_option maxRecDepth 20000 in
theorem gX1_nearest_X1_acrossBit : GoodIn wsX1_nearest (va_wsS RX1 94 yX1_acrossBit wsX1_acrossBit) := goodIn_app (goodIn_of _ (by decide +kernel)) ggX1_nearest_X1_acrossBit
set_option maxRecDepth 20000 in
theorem ggX1_nearest_X1_spread : GoodIn wsX1_nearest wsX1_spread := goodIn_r _ [18, 1, 11, 12, 9, 13, 14, 6, 27, 28, 29, 30, 31, 32, 33, 34, 35, 36] (by decide +kernel) (by decide +kernel)
set_option maxRecDepth 20000 in
theorem gX1_nearest_X1_spread : GoodIn wsX1_nearest (wsV RX1 107 RX1 yX1_spread wsX1_spread) := goodIn_app (goodIn_of _ (by decide +kernel)) ggX1_nearest_X1_spread
set_option maxRecDepth 20000 in
theorem ggX1_nearest_X1_keepDraft : GoodIn wsX1_nearest wsX1_keepDraft := goodIn_r _ [22, 4, 3, 1, 23, 24, 25, 26, 27, 28, 29, 30, 31, 32, 33, 34, 35, 36] (by decide +kernel) (by decide +kernel)
set_option maxRecDepth 20000 in
theorem gX1_nearest_X1_keepDraft : GoodIn wsX1_nearest (wsV RX1 98 RX1 yX1_keepDraft wsX1_keepDraft) := goodIn_app (goodIn_of _ (by decide +kernel)) ggX1_nearest_X1_keepDraft
set_option maxRecDepth 20000 in
theorem ggX1_image_X1_isRegister : GoodIn wsX1_image wsX1_isRegister := goodIn_r _ [8] (by decide +kernel) (by decide +kernel)
set_option maxRecDepth 20000 in
theorem gX1_image_X1_isRegister : GoodIn wsX1_image (va_wsS RX1 62 yX1_isRegister wsX1_isRegister) := goodIn_app (goodIn_of _ (by decide +kernel)) ggX1_image_X1_isRegister
set_option maxRecDepth 20000 in
theorem ggX1_image_X1_isVariable : GoodIn wsX1_image wsX1_isVariable := goodIn_r _ [12, 1, 50, 51, 52, 53, 54, 55, 56, 57, 58, 59] (by decide +kernel) (by decide +kernel)
set_option maxRecDepth 20000 in
theorem gX1_image_X1_isVariable : GoodIn wsX1_image (wsV RX1 75 RX1 yX1_isVariable wsX1_isVariable) := goodIn_app (goodIn_of _ (by decide +kernel)) ggX1_image_X1_isVariable
set_option maxRecDepth 20000 in
theorem ggX1_image_X1_areRegisters : GoodIn wsX1_image wsX1_areRegisters := goodIn_r _ [15] (by decide +kernel) (by decide +kernel)
set_option maxRecDepth 20000 in
theorem gX1_image_X1_areRegisters : GoodIn wsX1_image (va_wsS RX1 111 yX1_areRegisters wsX1_areRegisters) := goodIn_app (goodIn_of _ (by decide +kernel)) ggX1_image_X1_areRegisters
set_option maxRecDepth 20000 in
theorem ggX1_image_J7_fill_d0a16 : GoodIn wsX1_image wsJ7_fill_d0a16 := goodIn_r _ [19] (by decide +kernel) (by decide +kernel)
set_option maxRecDepth 20000 in
theorem gX1_image_J7_fill_d0a16 : GoodIn wsX1_image (va_wsS RX1 69 yJ7_fill_d0a16 wsJ7_fill_d0a16) := goodIn_app (goodIn_of _ (by decide +kernel)) ggX1_image_J7_fill_d0a16
set_option maxRecDepth 20000 in
theorem ggX1_image_X1_readTuples : GoodIn wsX1_image wsX1_readTuples := goodIn_r _ [23, 24, 4, 25, 26, 27, 18, 28, 50, 51, 52, 53, 54, 55, 56, 57, 58, 59] (by decide +kernel) (by decide +kernel)
set_option maxRecDepth 20000 in
theorem gX1_image_X1_readTuples : GoodIn wsX1_image (wsV RX1 115 RX1 yX1_readTuples wsX1_readTuples) := goodIn_app (goodIn_of _ (by decide +kernel)) ggX1_image_X1_readTuples
set_option maxRecDepth 20000 in
theorem ggX1_image_X1_markTuples : GoodIn wsX1_image wsX1_markTuples := goodIn_r _ [32, 25, 24, 2, 50, 51, 52, 53, 54, 55, 56, 57, 58, 59] (by decide +kernel) (by decide +kernel)
set_option maxRecDepth 20000 in
theorem gX1_image_X1_markTuples : GoodIn wsX1_image (wsV RX1 123 RX1 yX1_markTuples wsX1_markTuples) := goodIn_app (goodIn_of _ (by decide +kernel)) ggX1_image_X1_markTuples
set_option maxRecDepth 20000 in
theorem ggX1_image_X1_spread : GoodIn wsX1_image wsX1_spread := goodIn_r _ [36, 3, 37, 38, 7, 39, 40, 41, 50, 51, 52, 53, 54, 55, 56, 57, 58, 59] (by decide +kernel) (by decide +kernel)
set_option maxRecDepth 20000 in
theorem gX1_image_X1_spread : GoodIn wsX1_image (wsV RX1 107 RX1 yX1_spread wsX1_spread) := goodIn_app (goodIn_of _ (by decide +kernel)) ggX1_image_X1_spread
set_option maxRecDepth 20000 in
theorem ggX1_image_X1_keepDraft : GoodIn wsX1_image wsX1_keepDraft := goodIn_r _ [45, 2, 4, 3, 46, 47, 48, 49, 50, 51, 52, 53, 54, 55, 56, 57, 58, 59] (by decide +kernel) (by decide +kernel)
set_option maxRecDepth 20000 in
theorem gX1_image_X1_keepDraft : GoodIn wsX1_image (wsV RX1 98 RX1 yX1_keepDraft wsX1_keepDraft) := goodIn_app (goodIn_of _ (by decide +kernel)) ggX1_image_X1_keepDraft
set_option maxRecDepth 20000 in
theorem ggX1_forks_X1_isRegister : GoodIn wsX1_forks wsX1_isRegister := goodIn_r _ [6] (by decide +kernel) (by decide +kernel)
set_option maxRecDepth 20000 in
theorem gX1_forks_X1_isRegister : GoodIn wsX1_forks (va_wsS RX1 62 yX1_isRegister wsX1_isRegister) := goodIn_app (goodIn_of _ (by decide +kernel)) ggX1_forks_X1_isRegister
set_option maxRecDepth 20000 in
theorem ggX1_forks_X0_count : GoodIn wsX1_forks wsX0_count := goodIn_r _ [11, 12, 13, 14, 5, 15, 16, 17, 18, 10, 19, 20, 21, 22, 23, 24, 25, 26, 27, 28, 29, 30, 41, 42, 43, 44, 45] (by decide +kernel) (by decide +kernel)
set_option maxRecDepth 20000 in
theorem gX1_forks_X0_count : GoodIn wsX1_forks (wsV RX1 127 RX0 yX0_count wsX0_count) := goodIn_app (goodIn_of _ (by decide +kernel)) ggX1_forks_X0_count
set_option maxRecDepth 20000 in
theorem ggX1_ones_X1_isRegister : GoodIn wsX1_ones wsX1_isRegister := goodIn_r _ [6] (by decide +kernel) (by decide +kernel)
set_option maxRecDepth 20000 in
theorem gX1_ones_X1_isRegister : GoodIn wsX1_ones (va_wsS RX1 62 yX1_isRegister wsX1_isRegister) := goodIn_app (goodIn_of _ (by decide +kernel)) ggX1_ones_X1_isRegister
set_option maxRecDepth 20000 in
theorem ggX1_ones_J13_bitCount_95d88 : GoodIn wsX1_ones wsJ13_bitCount_95d88 := goodIn_r _ [10, 11, 12, 13] (by decide +kernel) (by decide +kernel)
set_option maxRecDepth 20000 in
theorem gX1_ones_J13_bitCount_95d88 : GoodIn wsX1_ones (va_wsS RX1 131 yJ13_bitCount_95d88 wsJ13_bitCount_95d88) := goodIn_app (goodIn_of _ (by decide +kernel)) ggX1_ones_J13_bitCount_95d88
set_option maxRecDepth 20000 in
theorem ggX1_least_X1_isRegister : GoodIn wsX1_least wsX1_isRegister := goodIn_r _ [6] (by decide +kernel) (by decide +kernel)
set_option maxRecDepth 20000 in
theorem gX1_least_X1_isRegister : GoodIn wsX1_least (va_wsS RX1 62 yX1_isRegister wsX1_isRegister) := goodIn_app (goodIn_of _ (by decide +kernel)) ggX1_least_X1_isRegister
set_option maxRecDepth 20000 in
theorem ggX1_least_X1_lowestPlace : GoodIn wsX1_least wsX1_lowestPlace := goodIn_r _ [9, 10, 11, 12, 13, 14, 15, 16] (by decide +kernel) (by decide +kernel)
set_option maxRecDepth 20000 in
theorem gX1_least_X1_lowestPlace : GoodIn wsX1_least (va_wsS RX1 137 yX1_lowestPlace wsX1_lowestPlace) := goodIn_app (goodIn_of _ (by decide +kernel)) ggX1_least_X1_lowestPlace
set_option maxRecDepth 20000 in
theorem ggX1_at_X1_isRegister : GoodIn wsX1_at wsX1_isRegister := goodIn_r _ [6] (by decide +kernel) (by decide +kernel)
set_option maxRecDepth 20000 in
theorem gX1_at_X1_isRegister : GoodIn wsX1_at (va_wsS RX1 62 yX1_isRegister wsX1_isRegister) := goodIn_app (goodIn_of _ (by decide +kernel)) ggX1_at_X1_isRegister
set_option maxRecDepth 20000 in
theorem ggX1_at_X1_valueAt : GoodIn wsX1_at wsX1_valueAt := goodIn_r _ [9] (by decide +kernel) (by decide +kernel)
set_option maxRecDepth 20000 in
theorem gX1_at_X1_valueAt : GoodIn wsX1_at (va_wsS RX1 119 yX1_valueAt wsX1_valueAt) := goodIn_app (goodIn_of _ (by decide +kernel)) ggX1_at_X1_valueAt
set_option maxRecDepth 20000 in
theorem ggX1_same_X1_isRegister : GoodIn wsX1_same wsX1_isRegister := goodIn_r _ [6] (by decide +kernel) (by decide +kernel)
set_option maxRecDepth 20000 in
theorem gX1_same_X1_isRegister : GoodIn wsX1_same (va_wsS RX1 62 yX1_isRegister wsX1_isRegister) := goodIn_app (goodIn_of _ (by decide +kernel)) ggX1_same_X1_isRegister
set_option maxRecDepth 20000 in
theorem ggX1_lowestPlace_J13_bitCount_95d88 : GoodIn wsX1_lowestPlace wsJ13_bitCount_95d88 := goodIn_r _ [4, 5, 6, 7] (by decide +kernel) (by decide +kernel)
set_option maxRecDepth 20000 in
theorem gX1_lowestPlace_J13_bitCount_95d88 : GoodIn wsX1_lowestPlace (va_wsS RX1 131 yJ13_bitCount_95d88 wsJ13_bitCount_95d88) := goodIn_app (goodIn_of _ (by decide +kernel)) ggX1_lowestPlace_J13_bitCount_95d88
set_option maxRecDepth 20000 in
theorem ggX1_spread_X1_acrossBit : GoodIn wsX1_spread wsX1_acrossBit := goodIn_r _ [5, 6, 7] (by decide +kernel) (by decide +kernel)
set_option maxRecDepth 20000 in
theorem gX1_spread_X1_acrossBit : GoodIn wsX1_spread (va_wsS RX1 94 yX1_acrossBit wsX1_acrossBit) := goodIn_app (goodIn_of _ (by decide +kernel)) ggX1_spread_X1_acrossBit
set_option maxRecDepth 20000 in
theorem ggX1_readTuples_J7_fill_53178 : GoodIn wsX1_readTuples wsJ7_fill_53178 := goodIn_r _ [7] (by decide +kernel) (by decide +kernel)
set_option maxRecDepth 20000 in
theorem gX1_readTuples_J7_fill_53178 : GoodIn wsX1_readTuples (va_wsS RX1 143 yJ7_fill_53178 wsJ7_fill_53178) := goodIn_app (goodIn_of _ (by decide +kernel)) ggX1_readTuples_J7_fill_53178
