/-! ===== BEGIN words of one list among another's, by their places ===== -/
theorem goodIn_r {big : List Cond} (ws : List Cond) (ps : List Nat) (hp : ws = ps.filterMap (fun i => big[i]?)) (h : ws.all goodWord = true) : GoodIn big ws := by
  intro w hw
  have h1 := List.all_eq_true.mp h w hw
  rw [hp] at hw
  obtain ⟨i, -, hi⟩ := List.mem_filterMap.mp hw
  have hm : w ∈ big := by first | exact List.mem_of_getElem? hi | exact List.getElem?_mem hi
  exact ⟨hm, good_of_word h1⟩
theorem goodIn_app {big a b : List Cond} (ha : GoodIn big a) (hb : GoodIn big b) : GoodIn big (a ++ b) := fun w h => (List.mem_append.mp h).elim (ha w) (hb w)
theorem goodIn_ca {big a b : List Cond} {c : Cond} (ha : GoodIn big (c :: a)) (hb : GoodIn big b) : GoodIn big (c :: (a ++ b)) := fun w h => (List.mem_cons.mp h).elim (fun e => ha w (List.mem_cons.mpr (Or.inl e))) (fun h => (List.mem_append.mp h).elim (fun h => ha w (List.mem_cons.mpr (Or.inr h))) (hb w))
theorem goodIn_sub {big ws : List Cond} (hm : ∀ w ∈ ws, w ∈ big) (h : ws.all goodWord = true) : GoodIn big ws := fun w hw => ⟨hm w hw, good_of_word (List.all_eq_true.mp h w hw)⟩
/-! ===== END ===== -/

/-! ===== BEGIN printed: names, fields, word lists, decode rows ===== -/
def RX0 : String := "NineSmells$Paper"
def TX0 : u_T := fun k => match k with
  | 0 => ("NineSmells$Paper", "first", "I", false)
  | 1 => ("NineSmells$Paper", "second", "I", false)
  | 2 => ("NineSmells$Paper", "year", "I", false)
  | 3 => ("NineSmells$Paper", "cold", "I", false)
  | 4 => ("NineSmells$Paper", "washed", "I", false)
  | _ => ("NineSmells$Paper", "drowned", "I", false)
def tyX0 : Nat → FieldType := fun k => match k with
  | 0 => .int
  | 1 => .int
  | 2 => .int
  | 3 => .int
  | 4 => .int
  | _ => .int
abbrev wsX00 : List Cond := u_ws RX0 TX0 6
theorem nmX0 : ∀ a, a < 6 → ∀ b, b < 6 → a ≠ b → (TX0 a).2.1 ≠ (TX0 b).2.1 := by decide +kernel
theorem tyX0_ok : ∀ k, k < 6 → parseFieldDescriptor (TX0 k).2.2.1 = some (tyX0 k) := by decide +kernel
abbrev cX0_init : ByteArray := prog_2_method_1_code
def yX0_init : MethodName := ⟨RX0, "<init>", "()V"⟩
def RX1 : String := "NineSmells$Sheet"
def TX1 : u_T := fun k => match k with
  | 0 => ("NineSmells$Sheet", "has", "Z", false)
  | 1 => ("NineSmells$Sheet", "lane", "I", false)
  | 2 => ("NineSmells$Sheet", "count", "I", false)
  | _ => ("NineSmells$Sheet", "cells", "[I", true)
def tyX1 : Nat → FieldType := fun k => match k with
  | 0 => .boolean
  | 1 => .int
  | 2 => .int
  | _ => .array .int
abbrev wsX10 : List Cond := u_ws RX1 TX1 4
theorem nmX1 : ∀ a, a < 4 → ∀ b, b < 4 → a ≠ b → (TX1 a).2.1 ≠ (TX1 b).2.1 := by decide +kernel
theorem tyX1_ok : ∀ k, k < 4 → parseFieldDescriptor (TX1 k).2.2.1 = some (tyX1 k) := by decide +kernel
abbrev cX1_init : ByteArray := prog_3_method_1_code
def yX1_init : MethodName := ⟨RX1, "<init>", "()V"⟩
abbrev cX1_renew : ByteArray := prog_3_method_2_code
def yX1_renew : MethodName := ⟨RX1, "renew", "(II)V"⟩
abbrev cX1_cut : ByteArray := prog_3_method_3_code
def yX1_cut : MethodName := ⟨RX1, "cut", "(I)I"⟩
abbrev cX1_lacks : ByteArray := prog_3_method_4_code
def yX1_lacks : MethodName := ⟨RX1, "lacks", "(IJ)Z"⟩
def RX2 : String := "NineSmells$Sign"
def TX2 : u_T := fun k => match k with
  | 0 => ("NineSmells$Sign", "kind", "I", false)
  | 1 => ("NineSmells$Sign", "total", "I", false)
  | _ => ("NineSmells$Sign", "strength", "[I", true)
def tyX2 : Nat → FieldType := fun k => match k with
  | 0 => .int
  | 1 => .int
  | _ => .array .int
abbrev wsX20 : List Cond := u_ws RX2 TX2 3
theorem nmX2 : ∀ a, a < 3 → ∀ b, b < 3 → a ≠ b → (TX2 a).2.1 ≠ (TX2 b).2.1 := by decide +kernel
theorem tyX2_ok : ∀ k, k < 3 → parseFieldDescriptor (TX2 k).2.2.1 = some (tyX2 k) := by decide +kernel
abbrev cX2_init : ByteArray := prog_4_method_1_code
def yX2_init : MethodName := ⟨RX2, "<init>", "()V"⟩
def RX3 : String := "NineSmells"
def TX3 : u_T := fun k => match k with
  | 0 => ("NineSmells", "sheets", "[LNineSmells$Sheet;", true)
  | 1 => ("NineSmells", "signs", "[LNineSmells$Sign;", true)
  | 2 => ("NineSmells", "papers", "[LNineSmells$Paper;", true)
  | 3 => ("NineSmells", "halves", "[I", true)
  | 4 => ("NineSmells", "signCount", "I", false)
  | 5 => ("NineSmells", "paperCount", "I", false)
  | 6 => ("NineSmells", "thisYear", "I", false)
  | 7 => ("NineSmells", "bound", "I", false)
  | 8 => ("NineSmells", "trace", "I", false)
  | 9 => ("NineSmells", "latestFault", "I", false)
  | 10 => ("NineSmells", "smelt", "[I", true)
  | 11 => ("NineSmells", "strengths", "[I", true)
  | 12 => ("NineSmells", "hours", "[I", true)
  | _ => ("NineSmells", "newSmell", "[I", true)
def tyX3 : Nat → FieldType := fun k => match k with
  | 0 => .array (.object "NineSmells$Sheet")
  | 1 => .array (.object "NineSmells$Sign")
  | 2 => .array (.object "NineSmells$Paper")
  | 3 => .array .int
  | 4 => .int
  | 5 => .int
  | 6 => .int
  | 7 => .int
  | 8 => .int
  | 9 => .int
  | 10 => .array .int
  | 11 => .array .int
  | 12 => .array .int
  | _ => .array .int
abbrev wsX30 : List Cond := u_ws RX3 TX3 14
theorem nmX3 : ∀ a, a < 14 → ∀ b, b < 14 → a ≠ b → (TX3 a).2.1 ≠ (TX3 b).2.1 := by decide +kernel
theorem tyX3_ok : ∀ k, k < 14 → parseFieldDescriptor (TX3 k).2.2.1 = some (tyX3 k) := by decide +kernel
abbrev cX3_init : ByteArray := prog_1_method_1_code
def yX3_init : MethodName := ⟨RX3, "<init>", "()V"⟩
abbrev cX3_register : ByteArray := prog_1_method_2_code
def yX3_register : MethodName := ⟨RX3, "register", "(IIII)I"⟩
abbrev cX3_half : ByteArray := prog_1_method_4_code
def yX3_half : MethodName := ⟨RX3, "half", "(II)I"⟩
abbrev cX3_bound : ByteArray := prog_1_method_5_code
def yX3_bound : MethodName := ⟨RX3, "bound", "(I)I"⟩
abbrev cX3_textFault : ByteArray := prog_1_method_8_code
def yX3_textFault : MethodName := ⟨RX3, "textFault", "(LNineSmells$Sheet;II)I"⟩
abbrev cX3_goesOn : ByteArray := prog_1_method_9_code
def yX3_goesOn : MethodName := ⟨RX3, "goesOn", "(II)Z"⟩
abbrev cX3_kindOf : ByteArray := prog_1_method_10_code
def yX3_kindOf : MethodName := ⟨RX3, "kindOf", "(I)I"⟩
abbrev cX3_takeText : ByteArray := prog_1_method_11_code
def yX3_takeText : MethodName := ⟨RX3, "takeText", "(LNineSmells$Sheet;II)V"⟩
abbrev cX3_startAnew : ByteArray := prog_1_method_12_code
def yX3_startAnew : MethodName := ⟨RX3, "startAnew", "()V"⟩
abbrev cX3_fade : ByteArray := prog_1_method_13_code
def yX3_fade : MethodName := ⟨RX3, "fade", "(LNineSmells$Sign;III)I"⟩
abbrev cX3_isSign : ByteArray := prog_1_method_14_code
def yX3_isSign : MethodName := ⟨RX3, "isSign", "(I)Z"⟩
abbrev cX3_areTwoSigns : ByteArray := prog_1_method_15_code
def yX3_areTwoSigns : MethodName := ⟨RX3, "areTwoSigns", "(II)Z"⟩
abbrev cX3_isSmell : ByteArray := prog_1_method_16_code
def yX3_isSmell : MethodName := ⟨RX3, "isSmell", "(I)Z"⟩
abbrev cX3_pairNumber : ByteArray := prog_1_method_32_code
def yX3_pairNumber : MethodName := ⟨RX3, "pairNumber", "(II)I"⟩
abbrev cX3_apart : ByteArray := prog_1_method_34_code
def yX3_apart : MethodName := ⟨RX3, "apart", "(II)I"⟩
abbrev cX3_twins : ByteArray := prog_1_method_35_code
def yX3_twins : MethodName := ⟨RX3, "twins", "(I)I"⟩
abbrev cX3_forged : ByteArray := prog_1_method_36_code
def yX3_forged : MethodName := ⟨RX3, "forged", "(IIIIII)I"⟩
abbrev cX3_near : ByteArray := prog_1_method_37_code
def yX3_near : MethodName := ⟨RX3, "near", "(IIII)I"⟩
abbrev cX3_steals : ByteArray := prog_1_method_38_code
def yX3_steals : MethodName := ⟨RX3, "steals", "(II)I"⟩
abbrev cX3_fresh : ByteArray := prog_1_method_39_code
def yX3_fresh : MethodName := ⟨RX3, "fresh", "(I)I"⟩
abbrev cX3_apartOf : ByteArray := prog_1_method_40_code
def yX3_apartOf : MethodName := ⟨RX3, "apartOf", "([I[I)I"⟩
abbrev cX3_areAlike : ByteArray := prog_1_method_41_code
def yX3_areAlike : MethodName := ⟨RX3, "areAlike", "([I[I)Z"⟩
abbrev cX3_areStoppers : ByteArray := prog_1_method_42_code
def yX3_areStoppers : MethodName := ⟨RX3, "areStoppers", "(LNineSmells$Sheet;II)Z"⟩
abbrev cX3_isTakenFor : ByteArray := prog_1_method_43_code
def yX3_isTakenFor : MethodName := ⟨RX3, "isTakenFor", "(IILNineSmells$Sheet;II)Z"⟩
abbrev cX3_strengthNear : ByteArray := prog_1_method_44_code
def yX3_strengthNear : MethodName := ⟨RX3, "strengthNear", "(LNineSmells$Sign;LNineSmells$Sign;II)I"⟩
abbrev cX3_seekNewSmell : ByteArray := prog_1_method_45_code
def yX3_seekNewSmell : MethodName := ⟨RX3, "seekNewSmell", "()V"⟩
abbrev cX3_tryStrengths : ByteArray := prog_1_method_46_code
def yX3_tryStrengths : MethodName := ⟨RX3, "tryStrengths", "(II)V"⟩
abbrev cX3_leastApart : ByteArray := prog_1_method_47_code
def yX3_leastApart : MethodName := ⟨RX3, "leastApart", "(IIII)I"⟩
abbrev cX3_odds : ByteArray := prog_1_method_48_code
def yX3_odds : MethodName := ⟨RX3, "odds", "(IIIIII)J"⟩
abbrev cX3_who : ByteArray := prog_1_method_49_code
def yX3_who : MethodName := ⟨RX3, "who", "(IIII)I"⟩
abbrev cX3_isDoor : ByteArray := prog_1_method_50_code
def yX3_isDoor : MethodName := ⟨RX3, "isDoor", "(LNineSmells$Sheet;II)Z"⟩
abbrev cX3_countHours : ByteArray := prog_1_method_51_code
def yX3_countHours : MethodName := ⟨RX3, "countHours", "(ILNineSmells$Sheet;I)I"⟩
abbrev cX3_leftFrom : ByteArray := prog_1_method_52_code
def yX3_leftFrom : MethodName := ⟨RX3, "leftFrom", "(LNineSmells$Sign;ILNineSmells$Sheet;I)I"⟩
abbrev cX3_ofShare : ByteArray := prog_1_method_53_code
def yX3_ofShare : MethodName := ⟨RX3, "ofShare", "(III)I"⟩
abbrev cX3_sheet : ByteArray := prog_1_method_54_code
def yX3_sheet : MethodName := ⟨RX3, "sheet", "(III)I"⟩
abbrev cX3_put : ByteArray := prog_1_method_56_code
def yX3_put : MethodName := ⟨RX3, "put", "(III)I"⟩
abbrev cX3_cell : ByteArray := prog_1_method_57_code
def yX3_cell : MethodName := ⟨RX3, "cell", "(III)J"⟩
abbrev cX3_fault : ByteArray := prog_1_method_63_code
def yX3_fault : MethodName := ⟨RX3, "fault", "()I"⟩
abbrev cX3_spanRefusal : ByteArray := prog_1_method_69_code
def yX3_spanRefusal : MethodName := ⟨RX3, "spanRefusal", "(IIIJ)I"⟩
abbrev cX3_refused : ByteArray := prog_1_method_70_code
def yX3_refused : MethodName := ⟨RX3, "refused", "(I)I"⟩
abbrev cX3_faulted : ByteArray := prog_1_method_71_code
def yX3_faulted : MethodName := ⟨RX3, "faulted", "(I)I"⟩
abbrev cX3_isSheet : ByteArray := prog_1_method_72_code
def yX3_isSheet : MethodName := ⟨RX3, "isSheet", "(I)Z"⟩
abbrev cX3_isLane : ByteArray := prog_1_method_73_code
def yX3_isLane : MethodName := ⟨RX3, "isLane", "(I)Z"⟩
def RX4 : String := "NineSmellsModel"
def TX4 : u_T := fun k => match k with
  | _ => ("", "", "", false)
def tyX4 : Nat → FieldType := fun k => match k with
  | _ => .int
abbrev wsX40 : List Cond := u_ws RX4 TX4 0
theorem nmX4 : ∀ a, a < 0 → ∀ b, b < 0 → a ≠ b → (TX4 a).2.1 ≠ (TX4 b).2.1 := by decide +kernel
theorem tyX4_ok : ∀ k, k < 0 → parseFieldDescriptor (TX4 k).2.2.1 = some (tyX4 k) := by decide +kernel
def RJ6 : String := "java/lang/Integer"
def TJ6 : u_T := fun k => match k with
  | _ => ("", "", "", false)
def tyJ6 : Nat → FieldType := fun k => match k with
  | _ => .int
abbrev wsJ60 : List Cond := u_ws RJ6 TJ6 0
theorem nmJ6 : ∀ a, a < 0 → ∀ b, b < 0 → a ≠ b → (TJ6 a).2.1 ≠ (TJ6 b).2.1 := by decide +kernel
theorem tyJ6_ok : ∀ k, k < 0 → parseFieldDescriptor (TJ6 k).2.2.1 = some (tyJ6 k) := by decide +kernel
abbrev cJ6_bitCount_0f7a4 : ByteArray := prog_7_method_49_code
def yJ6_bitCount_0f7a4 : MethodName := ⟨RJ6, "bitCount", "(I)I"⟩
def RJ9 : String := "java/lang/Math"
def TJ9 : u_T := fun k => match k with
  | _ => ("", "", "", false)
def tyJ9 : Nat → FieldType := fun k => match k with
  | _ => .int
abbrev wsJ90 : List Cond := u_ws RJ9 TJ9 0
theorem nmJ9 : ∀ a, a < 0 → ∀ b, b < 0 → a ≠ b → (TJ9 a).2.1 ≠ (TJ9 b).2.1 := by decide +kernel
theorem tyJ9_ok : ∀ k, k < 0 → parseFieldDescriptor (TJ9 k).2.2.1 = some (tyJ9 k) := by decide +kernel
abbrev cJ9_abs_0f7a4 : ByteArray := prog_8_method_59_code
def yJ9_abs_0f7a4 : MethodName := ⟨RJ9, "abs", "(I)I"⟩
abbrev cJ9_min_7cf53 : ByteArray := prog_8_method_69_code
def yJ9_min_7cf53 : MethodName := ⟨RJ9, "min", "(II)I"⟩
def RJ7 : String := "java/util/Arrays"
def TJ7 : u_T := fun k => match k with
  | _ => ("", "", "", false)
def tyJ7 : Nat → FieldType := fun k => match k with
  | _ => .int
abbrev wsJ70 : List Cond := u_ws RJ7 TJ7 0
theorem nmJ7 : ∀ a, a < 0 → ∀ b, b < 0 → a ≠ b → (TJ7 a).2.1 ≠ (TJ7 b).2.1 := by decide +kernel
theorem tyJ7_ok : ∀ k, k < 0 → parseFieldDescriptor (TJ7 k).2.2.1 = some (tyJ7 k) := by decide +kernel
abbrev cJ7_fill_53178 : ByteArray := prog_9_method_103_code
def yJ7_fill_53178 : MethodName := ⟨RJ7, "fill", "([II)V"⟩
def RL : String := "NineSmellsLaw"
abbrev cL_cell : ByteArray := method_2_code
def yL_cell : MethodName := ⟨RL, "cell", "([II)I"⟩
abbrev cL_low : ByteArray := method_3_code
def yL_low : MethodName := ⟨RL, "low", "(II)I"⟩
abbrev cL_lay : ByteArray := method_4_code
def yL_lay : MethodName := ⟨RL, "lay", "(LNineSmells;[I[I[I[II)I"⟩
abbrev cL_set : ByteArray := method_5_code
def yL_set : MethodName := ⟨RL, "set", "([I[IIII)V"⟩
abbrev cL_get : ByteArray := method_6_code
def yL_get : MethodName := ⟨RL, "get", "([I[III)I"⟩
abbrev cL_off : ByteArray := method_7_code
def yL_off : MethodName := ⟨RL, "off", "(II)I"⟩
abbrev cL_fades : ByteArray := method_8_code
def yL_fades : MethodName := ⟨RL, "fades", "([IIIII)I"⟩
abbrev cL_apart : ByteArray := method_12_code
def yL_apart : MethodName := ⟨RL, "apart", "([I[III)I"⟩
abbrev cL_bits : ByteArray := method_13_code
def yL_bits : MethodName := ⟨RL, "bits", "(I)I"⟩
abbrev cL_law : ByteArray := code
def yL_law : MethodName := ⟨RL, "law", "([I)Z"⟩
def wsX0_init : List Cond := .code yX0_init cX0_init 1 none :: ([.methodLink RX0 1 objectInit, .instanceMethod objectInit, .code objectInit ⟨#[0xb1]⟩ 1 none])
def wsX1_init : List Cond := .code yX1_init cX1_init 1 none :: ([.methodLink RX1 3 objectInit, .instanceMethod objectInit, .code objectInit ⟨#[0xb1]⟩ 1 none, .arrayClass .int, .fieldLink RX1 9 "NineSmells$Sheet" "cells" "[I"] ++ wsX10)
def wsJ7_fill_53178 : List Cond := .code yJ7_fill_53178 cJ7_fill_53178 4 none :: ([])
def wsX1_renew : List Cond := .code yX1_renew cX1_renew 3 none :: ([.fieldLink RX1 15 "NineSmells$Sheet" "has" "Z", .fieldLink RX1 19 "NineSmells$Sheet" "lane" "I", .fieldLink RX1 23 "NineSmells$Sheet" "count" "I", .fieldLink RX1 9 "NineSmells$Sheet" "cells" "[I", .methodLink RX1 26 yJ7_fill_53178, .static yJ7_fill_53178, .initialized RJ7, .code yJ7_fill_53178 cJ7_fill_53178 4 none] ++ wsX10)
def wsX1_cut : List Cond := .code yX1_cut cX1_cut 2 (some .int) :: ([.fieldLink RX1 19 "NineSmells$Sheet" "lane" "I"] ++ wsX10)
def wsX1_lacks : List Cond := .code yX1_lacks cX1_lacks 4 (some .boolean) :: ([.fieldLink RX1 23 "NineSmells$Sheet" "count" "I"] ++ wsX10)
def wsX2_init : List Cond := .code yX2_init cX2_init 1 none :: ([.methodLink RX2 3 objectInit, .instanceMethod objectInit, .code objectInit ⟨#[0xb1]⟩ 1 none, .arrayClass .int, .fieldLink RX2 9 "NineSmells$Sign" "strength" "[I"] ++ wsX20)
def wsX3_init_r1 : List Cond := [Cond.methodLink RX3 5 objectInit, Cond.instanceMethod objectInit, Cond.code objectInit ⟨#[0xb1]⟩ 1 none, Cond.classLink RX3 11 RX1, Cond.fieldLink RX3 13 "NineSmells" "sheets" "[LNineSmells$Sheet;", Cond.classLink RX3 17 RX2, Cond.fieldLink RX3 19 "NineSmells" "signs" "[LNineSmells$Sign;", Cond.classLink RX3 23 RX0, Cond.fieldLink RX3 25 "NineSmells" "papers" "[LNineSmells$Paper;", Cond.arrayClass .int, Cond.fieldLink RX3 29 "NineSmells" "halves" "[I", Cond.fieldLink RX3 33 "NineSmells" "smelt" "[I", Cond.fieldLink RX3 36 "NineSmells" "strengths" "[I", Cond.fieldLink RX3 39 "NineSmells" "hours" "[I", Cond.fieldLink RX3 42 "NineSmells" "newSmell" "[I", Cond.instantiable RX1 4, Cond.initialized RX1, Cond.instantiable RX2 3, Cond.initialized RX2, Cond.instantiable RX0 6, Cond.initialized RX0, Cond.instanceMethod yX1_init, Cond.code yX1_init cX1_init 1 none, Cond.methodLink RX1 3 objectInit]
def wsX3_init_r2 : List Cond := [Cond.fieldLink RX1 9 "NineSmells$Sheet" "cells" "[I", Cond.instanceMethod yX2_init, Cond.code yX2_init cX2_init 1 none, Cond.methodLink RX2 3 objectInit, Cond.fieldLink RX2 9 "NineSmells$Sign" "strength" "[I", Cond.instanceMethod yX0_init, Cond.code yX0_init cX0_init 1 none, Cond.methodLink RX0 1 objectInit]
def wsX3_init : List Cond := .code yX3_init cX3_init 2 none :: ((wsX3_init_r1 ++ wsX3_init_r2) ++ wsX30 ++ wsX10 ++ wsX20 ++ wsX00)
def wsX3_isSheet : List Cond := .code yX3_isSheet cX3_isSheet 1 (some .boolean) :: ([])
def wsX3_refused : List Cond := .code yX3_refused cX3_refused 2 (some .int) :: ([.fieldLink RX3 216 "NineSmells" "latestFault" "I"] ++ wsX30)
def wsX3_isLane : List Cond := .code yX3_isLane cX3_isLane 1 (some .boolean) :: ([])
def wsX3_faulted : List Cond := .code yX3_faulted cX3_faulted 2 (some .int) :: ([.fieldLink RX3 216 "NineSmells" "latestFault" "I"] ++ wsX30)
def wsX3_spanRefusal : List Cond := .code yX3_spanRefusal cX3_spanRefusal 7 (some .int) :: ([.fieldLink RX3 13 "NineSmells" "sheets" "[LNineSmells$Sheet;", .fieldLink RX3 216 "NineSmells" "latestFault" "I", .methodLink RX3 238 yX3_isSheet, .static yX3_isSheet, .initialized RX3, .code yX3_isSheet cX3_isSheet 1 (some .boolean), .methodLink RX3 183 yX3_refused, .instanceMethod yX3_refused, .selects RX3 yX3_refused yX3_refused, .code yX3_refused cX3_refused 2 (some .int), .methodLink RX3 241 yX3_isLane, .static yX3_isLane, .code yX3_isLane cX3_isLane 1 (some .boolean), .methodLink RX3 244 yX3_faulted, .instanceMethod yX3_faulted, .selects RX3 yX3_faulted yX3_faulted, .code yX3_faulted cX3_faulted 2 (some .int), .instanceMethod yX1_lacks, .initialized RX1, .selects RX1 yX1_lacks yX1_lacks, .code yX1_lacks cX1_lacks 4 (some .boolean), .fieldLink RX1 23 "NineSmells$Sheet" "count" "I"] ++ wsX30 ++ wsX10)
def wsX3_kindOf : List Cond := .code yX3_kindOf cX3_kindOf 1 (some .int) :: ([])
def wsX3_goesOn : List Cond := .code yX3_goesOn cX3_goesOn 3 (some .boolean) :: ([.methodLink RX3 97 yX3_kindOf, .static yX3_kindOf, .initialized RX3, .code yX3_kindOf cX3_kindOf 1 (some .int)])
def wsX3_textFault : List Cond := .code yX3_textFault cX3_textFault 4 (some .int) :: ([.methodLink RX3 93 yX3_goesOn, .static yX3_goesOn, .initialized RX3, .code yX3_goesOn cX3_goesOn 3 (some .boolean), .methodLink RX3 97 yX3_kindOf, .static yX3_kindOf, .code yX3_kindOf cX3_kindOf 1 (some .int)] ++ wsX10)
def wsX3_takeText : List Cond := .code yX3_takeText cX3_takeText 8 none :: ([.fieldLink RX3 63 "NineSmells" "signCount" "I", .fieldLink RX3 19 "NineSmells" "signs" "[LNineSmells$Sign;", .methodLink RX3 97 yX3_kindOf, .static yX3_kindOf, .initialized RX3, .code yX3_kindOf cX3_kindOf 1 (some .int)] ++ wsX30 ++ wsX10 ++ wsX20)
def wsX3_startAnew : List Cond := .code yX3_startAnew cX3_startAnew 1 none :: ([.fieldLink RX3 104 "NineSmells" "paperCount" "I", .fieldLink RX3 83 "NineSmells" "thisYear" "I", .fieldLink RX3 80 "NineSmells" "bound" "I", .fieldLink RX3 29 "NineSmells" "halves" "[I", .fieldLink RX3 42 "NineSmells" "newSmell" "[I", .methodLink RX3 107 yJ7_fill_53178, .static yJ7_fill_53178, .initialized RJ7, .code yJ7_fill_53178 cJ7_fill_53178 4 none] ++ wsX30)
def wsX3_register_r1 : List Cond := [Cond.fieldLink RX3 13 "NineSmells" "sheets" "[LNineSmells$Sheet;", Cond.fieldLink RX3 63 "NineSmells" "signCount" "I", Cond.methodLink RX3 48 yX3_spanRefusal, Cond.instanceMethod yX3_spanRefusal, Cond.selects RX3 yX3_spanRefusal yX3_spanRefusal, Cond.initialized RX3, Cond.code yX3_spanRefusal cX3_spanRefusal 7 (some .int), Cond.fieldLink RX3 216 "NineSmells" "latestFault" "I", Cond.methodLink RX3 238 yX3_isSheet, Cond.static yX3_isSheet, Cond.code yX3_isSheet cX3_isSheet 1 (some .boolean), Cond.methodLink RX3 183 yX3_refused, Cond.instanceMethod yX3_refused, Cond.selects RX3 yX3_refused yX3_refused, Cond.code yX3_refused cX3_refused 2 (some .int), Cond.methodLink RX3 241 yX3_isLane, Cond.static yX3_isLane, Cond.code yX3_isLane cX3_isLane 1 (some .boolean), Cond.methodLink RX3 244 yX3_faulted, Cond.instanceMethod yX3_faulted, Cond.selects RX3 yX3_faulted yX3_faulted, Cond.code yX3_faulted cX3_faulted 2 (some .int), Cond.instanceMethod yX1_lacks, Cond.initialized RX1]
def wsX3_register_r2 : List Cond := [Cond.selects RX1 yX1_lacks yX1_lacks, Cond.code yX1_lacks cX1_lacks 4 (some .boolean), Cond.fieldLink RX1 23 "NineSmells$Sheet" "count" "I", Cond.methodLink RX3 52 yX3_textFault, Cond.static yX3_textFault, Cond.code yX3_textFault cX3_textFault 4 (some .int), Cond.methodLink RX3 93 yX3_goesOn, Cond.static yX3_goesOn, Cond.code yX3_goesOn cX3_goesOn 3 (some .boolean), Cond.methodLink RX3 97 yX3_kindOf, Cond.static yX3_kindOf, Cond.code yX3_kindOf cX3_kindOf 1 (some .int), Cond.methodLink RX3 56 yX3_takeText, Cond.instanceMethod yX3_takeText, Cond.selects RX3 yX3_takeText yX3_takeText, Cond.code yX3_takeText cX3_takeText 8 none, Cond.fieldLink RX3 19 "NineSmells" "signs" "[LNineSmells$Sign;", Cond.methodLink RX3 60 yX3_startAnew, Cond.instanceMethod yX3_startAnew, Cond.selects RX3 yX3_startAnew yX3_startAnew, Cond.code yX3_startAnew cX3_startAnew 1 none, Cond.fieldLink RX3 104 "NineSmells" "paperCount" "I", Cond.fieldLink RX3 83 "NineSmells" "thisYear" "I", Cond.fieldLink RX3 80 "NineSmells" "bound" "I"]
def wsX3_register_r3 : List Cond := [Cond.fieldLink RX3 29 "NineSmells" "halves" "[I", Cond.fieldLink RX3 42 "NineSmells" "newSmell" "[I", Cond.methodLink RX3 107 yJ7_fill_53178, Cond.static yJ7_fill_53178, Cond.initialized RJ7, Cond.code yJ7_fill_53178 cJ7_fill_53178 4 none]
def wsX3_register : List Cond := .code yX3_register cX3_register 7 (some .int) :: ((wsX3_register_r1 ++ (wsX3_register_r2 ++ wsX3_register_r3)) ++ wsX30 ++ wsX10 ++ wsX20)
def wsX3_isSmell : List Cond := .code yX3_isSmell cX3_isSmell 1 (some .boolean) :: ([])
def wsX3_half : List Cond := .code yX3_half cX3_half 4 (some .int) :: ([.fieldLink RX3 63 "NineSmells" "signCount" "I", .fieldLink RX3 29 "NineSmells" "halves" "[I", .methodLink RX3 77 yX3_isSmell, .static yX3_isSmell, .initialized RX3, .code yX3_isSmell cX3_isSmell 1 (some .boolean)] ++ wsX30)
def wsX3_bound : List Cond := .code yX3_bound cX3_bound 3 (some .int) :: ([.fieldLink RX3 63 "NineSmells" "signCount" "I", .fieldLink RX3 80 "NineSmells" "bound" "I"] ++ wsX30)
def wsX3_fade : List Cond := .code yX3_fade cX3_fade 8 (some .int) :: ([.fieldLink RX3 29 "NineSmells" "halves" "[I", .methodLink RX3 113 Lib.Math.min.name, .static Lib.Math.min.name, .initialized "java/lang/Math", .code Lib.Math.min.name Lib.Math.min.code 2 (some .int)] ++ wsX30 ++ wsX20)
def wsX3_isSign : List Cond := .code yX3_isSign cX3_isSign 2 (some .boolean) :: ([.fieldLink RX3 63 "NineSmells" "signCount" "I"] ++ wsX30)
def wsX3_areTwoSigns : List Cond := .code yX3_areTwoSigns cX3_areTwoSigns 3 (some .boolean) :: ([.methodLink RX3 67 yX3_isSign, .instanceMethod yX3_isSign, .selects RX3 yX3_isSign yX3_isSign, .initialized RX3, .code yX3_isSign cX3_isSign 2 (some .boolean), .fieldLink RX3 63 "NineSmells" "signCount" "I"] ++ wsX30)
def wsX3_pairNumber : List Cond := .code yX3_pairNumber cX3_pairNumber 2 (some .int) :: ([])
def wsX3_apartOf : List Cond := .code yX3_apartOf cX3_apartOf 4 (some .int) :: ([.methodLink RX3 172 Lib.Math.abs.name, .static Lib.Math.abs.name, .initialized "java/lang/Math", .code Lib.Math.abs.name Lib.Math.abs.code 1 (some .int)])
def wsX3_apart : List Cond := .code yX3_apart cX3_apart 3 (some .int) :: ([.fieldLink RX3 19 "NineSmells" "signs" "[LNineSmells$Sign;", .methodLink RX3 67 yX3_isSign, .instanceMethod yX3_isSign, .selects RX3 yX3_isSign yX3_isSign, .initialized RX3, .code yX3_isSign cX3_isSign 2 (some .boolean), .fieldLink RX3 63 "NineSmells" "signCount" "I", .methodLink RX3 175 yX3_apartOf, .static yX3_apartOf, .code yX3_apartOf cX3_apartOf 4 (some .int), .methodLink RX3 172 Lib.Math.abs.name, .static Lib.Math.abs.name, .initialized "java/lang/Math", .code Lib.Math.abs.name Lib.Math.abs.code 1 (some .int)] ++ wsX30 ++ wsX20)
def wsX3_areAlike : List Cond := .code yX3_areAlike cX3_areAlike 3 (some .boolean) :: ([.fieldLink RX3 80 "NineSmells" "bound" "I", .methodLink RX3 175 yX3_apartOf, .static yX3_apartOf, .initialized RX3, .code yX3_apartOf cX3_apartOf 4 (some .int), .methodLink RX3 172 Lib.Math.abs.name, .static Lib.Math.abs.name, .initialized "java/lang/Math", .code Lib.Math.abs.name Lib.Math.abs.code 1 (some .int)] ++ wsX30)
def wsX3_twins : List Cond := .code yX3_twins cX3_twins 5 (some .int) :: ([.fieldLink RX3 63 "NineSmells" "signCount" "I", .fieldLink RX3 19 "NineSmells" "signs" "[LNineSmells$Sign;", .methodLink RX3 179 yX3_areAlike, .instanceMethod yX3_areAlike, .selects RX3 yX3_areAlike yX3_areAlike, .initialized RX3, .code yX3_areAlike cX3_areAlike 3 (some .boolean), .fieldLink RX3 80 "NineSmells" "bound" "I", .methodLink RX3 175 yX3_apartOf, .static yX3_apartOf, .code yX3_apartOf cX3_apartOf 4 (some .int), .methodLink RX3 172 Lib.Math.abs.name, .static Lib.Math.abs.name, .initialized "java/lang/Math", .code Lib.Math.abs.name Lib.Math.abs.code 1 (some .int), .methodLink RX3 159 yX3_pairNumber, .static yX3_pairNumber, .code yX3_pairNumber cX3_pairNumber 2 (some .int)] ++ wsX30 ++ wsX20)
def wsX3_areStoppers : List Cond := .code yX3_areStoppers cX3_areStoppers 5 (some .boolean) :: ([.methodLink RX3 77 yX3_isSmell, .static yX3_isSmell, .initialized RX3, .code yX3_isSmell cX3_isSmell 1 (some .boolean)] ++ wsX10)
def wsJ6_bitCount_0f7a4 : List Cond := .code yJ6_bitCount_0f7a4 cJ6_bitCount_0f7a4 1 (some .int) :: ([.constant RJ6 265 (1431655765), .constant RJ6 266 (858993459), .constant RJ6 267 (252645135)])
def wsX3_isTakenFor : List Cond := .code yX3_isTakenFor cX3_isTakenFor 7 (some .boolean) :: ([.fieldLink RX3 36 "NineSmells" "strengths" "[I", .fieldLink RX3 19 "NineSmells" "signs" "[LNineSmells$Sign;", .methodLink RX3 179 yX3_areAlike, .instanceMethod yX3_areAlike, .selects RX3 yX3_areAlike yX3_areAlike, .initialized RX3, .code yX3_areAlike cX3_areAlike 3 (some .boolean), .fieldLink RX3 80 "NineSmells" "bound" "I", .methodLink RX3 175 yX3_apartOf, .static yX3_apartOf, .code yX3_apartOf cX3_apartOf 4 (some .int), .methodLink RX3 172 Lib.Math.abs.name, .static Lib.Math.abs.name, .initialized "java/lang/Math", .code Lib.Math.abs.name Lib.Math.abs.code 1 (some .int)] ++ wsX30 ++ wsX20 ++ wsX10)
def wsX3_forged_r1 : List Cond := [Cond.constantLong RX3 186 (2), Cond.fieldLink RX3 13 "NineSmells" "sheets" "[LNineSmells$Sheet;", Cond.methodLink RX3 119 yX3_areTwoSigns, Cond.instanceMethod yX3_areTwoSigns, Cond.selects RX3 yX3_areTwoSigns yX3_areTwoSigns, Cond.initialized RX3, Cond.code yX3_areTwoSigns cX3_areTwoSigns 3 (some .boolean), Cond.methodLink RX3 67 yX3_isSign, Cond.instanceMethod yX3_isSign, Cond.selects RX3 yX3_isSign yX3_isSign, Cond.code yX3_isSign cX3_isSign 2 (some .boolean), Cond.fieldLink RX3 63 "NineSmells" "signCount" "I", Cond.methodLink RX3 183 yX3_refused, Cond.instanceMethod yX3_refused, Cond.selects RX3 yX3_refused yX3_refused, Cond.code yX3_refused cX3_refused 2 (some .int), Cond.fieldLink RX3 216 "NineSmells" "latestFault" "I", Cond.methodLink RX3 48 yX3_spanRefusal, Cond.instanceMethod yX3_spanRefusal, Cond.selects RX3 yX3_spanRefusal yX3_spanRefusal, Cond.code yX3_spanRefusal cX3_spanRefusal 7 (some .int), Cond.methodLink RX3 238 yX3_isSheet, Cond.static yX3_isSheet, Cond.code yX3_isSheet cX3_isSheet 1 (some .boolean)]
def wsX3_forged_r2 : List Cond := [Cond.methodLink RX3 241 yX3_isLane, Cond.static yX3_isLane, Cond.code yX3_isLane cX3_isLane 1 (some .boolean), Cond.methodLink RX3 244 yX3_faulted, Cond.instanceMethod yX3_faulted, Cond.selects RX3 yX3_faulted yX3_faulted, Cond.code yX3_faulted cX3_faulted 2 (some .int), Cond.instanceMethod yX1_lacks, Cond.initialized RX1, Cond.selects RX1 yX1_lacks yX1_lacks, Cond.code yX1_lacks cX1_lacks 4 (some .boolean), Cond.fieldLink RX1 23 "NineSmells$Sheet" "count" "I", Cond.methodLink RX3 188 yX3_areStoppers, Cond.static yX3_areStoppers, Cond.code yX3_areStoppers cX3_areStoppers 5 (some .boolean), Cond.methodLink RX3 77 yX3_isSmell, Cond.static yX3_isSmell, Cond.code yX3_isSmell cX3_isSmell 1 (some .boolean), Cond.methodLink RX3 192 yJ6_bitCount_0f7a4, Cond.static yJ6_bitCount_0f7a4, Cond.initialized RJ6, Cond.code yJ6_bitCount_0f7a4 cJ6_bitCount_0f7a4 1 (some .int), Cond.constant RJ6 265 (1431655765), Cond.constant RJ6 266 (858993459)]
def wsX3_forged_r3 : List Cond := [Cond.constant RJ6 267 (252645135), Cond.methodLink RX3 197 yX3_isTakenFor, Cond.instanceMethod yX3_isTakenFor, Cond.selects RX3 yX3_isTakenFor yX3_isTakenFor, Cond.code yX3_isTakenFor cX3_isTakenFor 7 (some .boolean), Cond.fieldLink RX3 36 "NineSmells" "strengths" "[I", Cond.fieldLink RX3 19 "NineSmells" "signs" "[LNineSmells$Sign;", Cond.methodLink RX3 179 yX3_areAlike, Cond.instanceMethod yX3_areAlike, Cond.selects RX3 yX3_areAlike yX3_areAlike, Cond.code yX3_areAlike cX3_areAlike 3 (some .boolean), Cond.fieldLink RX3 80 "NineSmells" "bound" "I", Cond.methodLink RX3 175 yX3_apartOf, Cond.static yX3_apartOf, Cond.code yX3_apartOf cX3_apartOf 4 (some .int), Cond.methodLink RX3 172 Lib.Math.abs.name, Cond.static Lib.Math.abs.name, Cond.initialized "java/lang/Math", Cond.code Lib.Math.abs.name Lib.Math.abs.code 1 (some .int)]
def wsX3_forged : List Cond := .code yX3_forged cX3_forged 12 (some .int) :: ((wsX3_forged_r1 ++ (wsX3_forged_r2 ++ wsX3_forged_r3)) ++ wsX30 ++ wsX10 ++ wsX20)
def wsX3_strengthNear : List Cond := .code yX3_strengthNear cX3_strengthNear 5 (some .int) :: ([] ++ wsX20)
def wsX3_near : List Cond := .code yX3_near cX3_near 5 (some .int) :: ([.fieldLink RX3 19 "NineSmells" "signs" "[LNineSmells$Sign;", .methodLink RX3 67 yX3_isSign, .instanceMethod yX3_isSign, .selects RX3 yX3_isSign yX3_isSign, .initialized RX3, .code yX3_isSign cX3_isSign 2 (some .boolean), .fieldLink RX3 63 "NineSmells" "signCount" "I", .methodLink RX3 77 yX3_isSmell, .static yX3_isSmell, .code yX3_isSmell cX3_isSmell 1 (some .boolean), .methodLink RX3 201 yX3_strengthNear, .static yX3_strengthNear, .code yX3_strengthNear cX3_strengthNear 5 (some .int)] ++ wsX30 ++ wsX20)
def wsX3_steals_r1 : List Cond := [Cond.fieldLink RX3 36 "NineSmells" "strengths" "[I", Cond.fieldLink RX3 19 "NineSmells" "signs" "[LNineSmells$Sign;", Cond.methodLink RX3 119 yX3_areTwoSigns, Cond.instanceMethod yX3_areTwoSigns, Cond.selects RX3 yX3_areTwoSigns yX3_areTwoSigns, Cond.initialized RX3, Cond.code yX3_areTwoSigns cX3_areTwoSigns 3 (some .boolean), Cond.methodLink RX3 67 yX3_isSign, Cond.instanceMethod yX3_isSign, Cond.selects RX3 yX3_isSign yX3_isSign, Cond.code yX3_isSign cX3_isSign 2 (some .boolean), Cond.fieldLink RX3 63 "NineSmells" "signCount" "I", Cond.methodLink RX3 201 yX3_strengthNear, Cond.static yX3_strengthNear, Cond.code yX3_strengthNear cX3_strengthNear 5 (some .int), Cond.methodLink RX3 179 yX3_areAlike, Cond.instanceMethod yX3_areAlike, Cond.selects RX3 yX3_areAlike yX3_areAlike, Cond.code yX3_areAlike cX3_areAlike 3 (some .boolean), Cond.fieldLink RX3 80 "NineSmells" "bound" "I", Cond.methodLink RX3 175 yX3_apartOf, Cond.static yX3_apartOf, Cond.code yX3_apartOf cX3_apartOf 4 (some .int), Cond.methodLink RX3 172 Lib.Math.abs.name]
def wsX3_steals_r2 : List Cond := [Cond.static Lib.Math.abs.name, Cond.initialized "java/lang/Math", Cond.code Lib.Math.abs.name Lib.Math.abs.code 1 (some .int)]
def wsX3_steals : List Cond := .code yX3_steals cX3_steals 5 (some .int) :: ((wsX3_steals_r1 ++ wsX3_steals_r2) ++ wsX30 ++ wsX20)
def wsX3_leastApart : List Cond := .code yX3_leastApart cX3_leastApart 9 (some .int) :: ([.constant RX3 158 (2147483647), .fieldLink RX3 63 "NineSmells" "signCount" "I", .fieldLink RX3 19 "NineSmells" "signs" "[LNineSmells$Sign;", .methodLink RX3 172 Lib.Math.abs.name, .static Lib.Math.abs.name, .initialized "java/lang/Math", .code Lib.Math.abs.name Lib.Math.abs.code 1 (some .int), .methodLink RX3 113 Lib.Math.min.name, .static Lib.Math.min.name, .code Lib.Math.min.name Lib.Math.min.code 2 (some .int)] ++ wsX30 ++ wsX20)
def wsX3_tryStrengths : List Cond := .code yX3_tryStrengths cX3_tryStrengths 6 none :: ([.fieldLink RX3 42 "NineSmells" "newSmell" "[I", .methodLink RX3 212 yX3_leastApart, .instanceMethod yX3_leastApart, .selects RX3 yX3_leastApart yX3_leastApart, .initialized RX3, .code yX3_leastApart cX3_leastApart 9 (some .int), .constant RX3 158 (2147483647), .fieldLink RX3 63 "NineSmells" "signCount" "I", .fieldLink RX3 19 "NineSmells" "signs" "[LNineSmells$Sign;", .methodLink RX3 172 Lib.Math.abs.name, .static Lib.Math.abs.name, .initialized "java/lang/Math", .code Lib.Math.abs.name Lib.Math.abs.code 1 (some .int), .methodLink RX3 113 Lib.Math.min.name, .static Lib.Math.min.name, .code Lib.Math.min.name Lib.Math.min.code 2 (some .int)] ++ wsX30 ++ wsX20)
def wsX3_seekNewSmell : List Cond := .code yX3_seekNewSmell cX3_seekNewSmell 3 none :: ([.methodLink RX3 208 yX3_tryStrengths, .instanceMethod yX3_tryStrengths, .selects RX3 yX3_tryStrengths yX3_tryStrengths, .initialized RX3, .code yX3_tryStrengths cX3_tryStrengths 6 none, .fieldLink RX3 42 "NineSmells" "newSmell" "[I", .methodLink RX3 212 yX3_leastApart, .instanceMethod yX3_leastApart, .selects RX3 yX3_leastApart yX3_leastApart, .code yX3_leastApart cX3_leastApart 9 (some .int), .constant RX3 158 (2147483647), .fieldLink RX3 63 "NineSmells" "signCount" "I", .fieldLink RX3 19 "NineSmells" "signs" "[LNineSmells$Sign;", .methodLink RX3 172 Lib.Math.abs.name, .static Lib.Math.abs.name, .initialized "java/lang/Math", .code Lib.Math.abs.name Lib.Math.abs.code 1 (some .int), .methodLink RX3 113 Lib.Math.min.name, .static Lib.Math.min.name, .code Lib.Math.min.name Lib.Math.min.code 2 (some .int)] ++ wsX30 ++ wsX20)
def wsX3_fresh : List Cond := .code yX3_fresh cX3_fresh 2 (some .int) :: ([.fieldLink RX3 42 "NineSmells" "newSmell" "[I", .fieldLink RX3 63 "NineSmells" "signCount" "I", .methodLink RX3 205 yX3_seekNewSmell, .instanceMethod yX3_seekNewSmell, .selects RX3 yX3_seekNewSmell yX3_seekNewSmell, .initialized RX3, .code yX3_seekNewSmell cX3_seekNewSmell 3 none, .methodLink RX3 208 yX3_tryStrengths, .instanceMethod yX3_tryStrengths, .selects RX3 yX3_tryStrengths yX3_tryStrengths, .code yX3_tryStrengths cX3_tryStrengths 6 none, .methodLink RX3 212 yX3_leastApart, .instanceMethod yX3_leastApart, .selects RX3 yX3_leastApart yX3_leastApart, .code yX3_leastApart cX3_leastApart 9 (some .int), .constant RX3 158 (2147483647), .fieldLink RX3 19 "NineSmells" "signs" "[LNineSmells$Sign;", .methodLink RX3 172 Lib.Math.abs.name, .static Lib.Math.abs.name, .initialized "java/lang/Math", .code Lib.Math.abs.name Lib.Math.abs.code 1 (some .int), .methodLink RX3 113 Lib.Math.min.name, .static Lib.Math.min.name, .code Lib.Math.min.name Lib.Math.min.code 2 (some .int)] ++ wsX30 ++ wsX20)
def wsX3_isDoor : List Cond := .code yX3_isDoor cX3_isDoor 5 (some .boolean) :: ([] ++ wsX10)
def wsX3_leftFrom : List Cond := .code yX3_leftFrom cX3_leftFrom 8 (some .int) :: ([.methodLink RX3 172 Lib.Math.abs.name, .static Lib.Math.abs.name, .initialized "java/lang/Math", .code Lib.Math.abs.name Lib.Math.abs.code 1 (some .int), .methodLink RX3 86 yX3_fade, .instanceMethod yX3_fade, .selects RX3 yX3_fade yX3_fade, .initialized RX3, .code yX3_fade cX3_fade 8 (some .int), .fieldLink RX3 29 "NineSmells" "halves" "[I", .methodLink RX3 113 Lib.Math.min.name, .static Lib.Math.min.name, .code Lib.Math.min.name Lib.Math.min.code 2 (some .int)] ++ wsX20 ++ wsX10 ++ wsX30)
def wsX3_countHours : List Cond := .code yX3_countHours cX3_countHours 7 (some .int) :: ([.fieldLink RX3 63 "NineSmells" "signCount" "I", .fieldLink RX3 39 "NineSmells" "hours" "[I", .fieldLink RX3 19 "NineSmells" "signs" "[LNineSmells$Sign;", .fieldLink RX3 80 "NineSmells" "bound" "I", .methodLink RX3 234 yX3_leftFrom, .instanceMethod yX3_leftFrom, .selects RX3 yX3_leftFrom yX3_leftFrom, .initialized RX3, .code yX3_leftFrom cX3_leftFrom 8 (some .int), .methodLink RX3 172 Lib.Math.abs.name, .static Lib.Math.abs.name, .initialized "java/lang/Math", .code Lib.Math.abs.name Lib.Math.abs.code 1 (some .int), .methodLink RX3 86 yX3_fade, .instanceMethod yX3_fade, .selects RX3 yX3_fade yX3_fade, .code yX3_fade cX3_fade 8 (some .int), .fieldLink RX3 29 "NineSmells" "halves" "[I", .methodLink RX3 113 Lib.Math.min.name, .static Lib.Math.min.name, .code Lib.Math.min.name Lib.Math.min.code 2 (some .int)] ++ wsX30 ++ wsX20 ++ wsX10)
def wsX3_ofShare : List Cond := .code yX3_ofShare cX3_ofShare 5 (some .int) :: ([])
def wsX3_odds_r1 : List Cond := [Cond.fieldLink RX3 216 "NineSmells" "latestFault" "I", Cond.constantLong RX3 219 (9), Cond.constantLong RX3 221 (-9223372036854775808), Cond.fieldLink RX3 13 "NineSmells" "sheets" "[LNineSmells$Sheet;", Cond.fieldLink RX3 39 "NineSmells" "hours" "[I", Cond.methodLink RX3 67 yX3_isSign, Cond.instanceMethod yX3_isSign, Cond.selects RX3 yX3_isSign yX3_isSign, Cond.initialized RX3, Cond.code yX3_isSign cX3_isSign 2 (some .boolean), Cond.fieldLink RX3 63 "NineSmells" "signCount" "I", Cond.methodLink RX3 48 yX3_spanRefusal, Cond.instanceMethod yX3_spanRefusal, Cond.selects RX3 yX3_spanRefusal yX3_spanRefusal, Cond.code yX3_spanRefusal cX3_spanRefusal 7 (some .int), Cond.methodLink RX3 238 yX3_isSheet, Cond.static yX3_isSheet, Cond.code yX3_isSheet cX3_isSheet 1 (some .boolean), Cond.methodLink RX3 183 yX3_refused, Cond.instanceMethod yX3_refused, Cond.selects RX3 yX3_refused yX3_refused, Cond.code yX3_refused cX3_refused 2 (some .int), Cond.methodLink RX3 241 yX3_isLane, Cond.static yX3_isLane]
def wsX3_odds_r2 : List Cond := [Cond.code yX3_isLane cX3_isLane 1 (some .boolean), Cond.methodLink RX3 244 yX3_faulted, Cond.instanceMethod yX3_faulted, Cond.selects RX3 yX3_faulted yX3_faulted, Cond.code yX3_faulted cX3_faulted 2 (some .int), Cond.instanceMethod yX1_lacks, Cond.initialized RX1, Cond.selects RX1 yX1_lacks yX1_lacks, Cond.code yX1_lacks cX1_lacks 4 (some .boolean), Cond.fieldLink RX1 23 "NineSmells$Sheet" "count" "I", Cond.methodLink RX3 223 yX3_isDoor, Cond.static yX3_isDoor, Cond.code yX3_isDoor cX3_isDoor 5 (some .boolean), Cond.methodLink RX3 226 yX3_countHours, Cond.instanceMethod yX3_countHours, Cond.selects RX3 yX3_countHours yX3_countHours, Cond.code yX3_countHours cX3_countHours 7 (some .int), Cond.fieldLink RX3 19 "NineSmells" "signs" "[LNineSmells$Sign;", Cond.fieldLink RX3 80 "NineSmells" "bound" "I", Cond.methodLink RX3 234 yX3_leftFrom, Cond.instanceMethod yX3_leftFrom, Cond.selects RX3 yX3_leftFrom yX3_leftFrom, Cond.code yX3_leftFrom cX3_leftFrom 8 (some .int), Cond.methodLink RX3 172 Lib.Math.abs.name]
def wsX3_odds_r3 : List Cond := [Cond.static Lib.Math.abs.name, Cond.initialized "java/lang/Math", Cond.code Lib.Math.abs.name Lib.Math.abs.code 1 (some .int), Cond.methodLink RX3 86 yX3_fade, Cond.instanceMethod yX3_fade, Cond.selects RX3 yX3_fade yX3_fade, Cond.code yX3_fade cX3_fade 8 (some .int), Cond.fieldLink RX3 29 "NineSmells" "halves" "[I", Cond.methodLink RX3 113 Lib.Math.min.name, Cond.static Lib.Math.min.name, Cond.code Lib.Math.min.name Lib.Math.min.code 2 (some .int), Cond.methodLink RX3 230 yX3_ofShare, Cond.static yX3_ofShare, Cond.code yX3_ofShare cX3_ofShare 5 (some .int)]
def wsX3_odds : List Cond := .code yX3_odds cX3_odds 8 (some .long) :: ((wsX3_odds_r1 ++ (wsX3_odds_r2 ++ wsX3_odds_r3)) ++ wsX30 ++ wsX10 ++ wsX20)
def wsX3_who_r1 : List Cond := [Cond.constantLong RX3 219 (9), Cond.fieldLink RX3 13 "NineSmells" "sheets" "[LNineSmells$Sheet;", Cond.fieldLink RX3 63 "NineSmells" "signCount" "I", Cond.fieldLink RX3 39 "NineSmells" "hours" "[I", Cond.methodLink RX3 48 yX3_spanRefusal, Cond.instanceMethod yX3_spanRefusal, Cond.selects RX3 yX3_spanRefusal yX3_spanRefusal, Cond.initialized RX3, Cond.code yX3_spanRefusal cX3_spanRefusal 7 (some .int), Cond.fieldLink RX3 216 "NineSmells" "latestFault" "I", Cond.methodLink RX3 238 yX3_isSheet, Cond.static yX3_isSheet, Cond.code yX3_isSheet cX3_isSheet 1 (some .boolean), Cond.methodLink RX3 183 yX3_refused, Cond.instanceMethod yX3_refused, Cond.selects RX3 yX3_refused yX3_refused, Cond.code yX3_refused cX3_refused 2 (some .int), Cond.methodLink RX3 241 yX3_isLane, Cond.static yX3_isLane, Cond.code yX3_isLane cX3_isLane 1 (some .boolean), Cond.methodLink RX3 244 yX3_faulted, Cond.instanceMethod yX3_faulted, Cond.selects RX3 yX3_faulted yX3_faulted, Cond.code yX3_faulted cX3_faulted 2 (some .int)]
def wsX3_who_r2 : List Cond := [Cond.instanceMethod yX1_lacks, Cond.initialized RX1, Cond.selects RX1 yX1_lacks yX1_lacks, Cond.code yX1_lacks cX1_lacks 4 (some .boolean), Cond.fieldLink RX1 23 "NineSmells$Sheet" "count" "I", Cond.methodLink RX3 223 yX3_isDoor, Cond.static yX3_isDoor, Cond.code yX3_isDoor cX3_isDoor 5 (some .boolean), Cond.methodLink RX3 226 yX3_countHours, Cond.instanceMethod yX3_countHours, Cond.selects RX3 yX3_countHours yX3_countHours, Cond.code yX3_countHours cX3_countHours 7 (some .int), Cond.fieldLink RX3 19 "NineSmells" "signs" "[LNineSmells$Sign;", Cond.fieldLink RX3 80 "NineSmells" "bound" "I", Cond.methodLink RX3 234 yX3_leftFrom, Cond.instanceMethod yX3_leftFrom, Cond.selects RX3 yX3_leftFrom yX3_leftFrom, Cond.code yX3_leftFrom cX3_leftFrom 8 (some .int), Cond.methodLink RX3 172 Lib.Math.abs.name, Cond.static Lib.Math.abs.name, Cond.initialized "java/lang/Math", Cond.code Lib.Math.abs.name Lib.Math.abs.code 1 (some .int), Cond.methodLink RX3 86 yX3_fade, Cond.instanceMethod yX3_fade]
def wsX3_who_r3 : List Cond := [Cond.selects RX3 yX3_fade yX3_fade, Cond.code yX3_fade cX3_fade 8 (some .int), Cond.fieldLink RX3 29 "NineSmells" "halves" "[I", Cond.methodLink RX3 113 Lib.Math.min.name, Cond.static Lib.Math.min.name, Cond.code Lib.Math.min.name Lib.Math.min.code 2 (some .int)]
def wsX3_who : List Cond := .code yX3_who cX3_who 9 (some .int) :: ((wsX3_who_r1 ++ (wsX3_who_r2 ++ wsX3_who_r3)) ++ wsX30 ++ wsX10 ++ wsX20)
def wsX3_sheet_r1 : List Cond := [Cond.fieldLink RX3 216 "NineSmells" "latestFault" "I", Cond.fieldLink RX3 13 "NineSmells" "sheets" "[LNineSmells$Sheet;", Cond.methodLink RX3 238 yX3_isSheet, Cond.static yX3_isSheet, Cond.initialized RX3, Cond.code yX3_isSheet cX3_isSheet 1 (some .boolean), Cond.methodLink RX3 183 yX3_refused, Cond.instanceMethod yX3_refused, Cond.selects RX3 yX3_refused yX3_refused, Cond.code yX3_refused cX3_refused 2 (some .int), Cond.methodLink RX3 241 yX3_isLane, Cond.static yX3_isLane, Cond.code yX3_isLane cX3_isLane 1 (some .boolean), Cond.methodLink RX3 244 yX3_faulted, Cond.instanceMethod yX3_faulted, Cond.selects RX3 yX3_faulted yX3_faulted, Cond.code yX3_faulted cX3_faulted 2 (some .int), Cond.instanceMethod yX1_renew, Cond.initialized RX1, Cond.selects RX1 yX1_renew yX1_renew, Cond.code yX1_renew cX1_renew 3 none, Cond.fieldLink RX1 15 "NineSmells$Sheet" "has" "Z", Cond.fieldLink RX1 19 "NineSmells$Sheet" "lane" "I", Cond.fieldLink RX1 23 "NineSmells$Sheet" "count" "I"]
def wsX3_sheet_r2 : List Cond := [Cond.fieldLink RX1 9 "NineSmells$Sheet" "cells" "[I", Cond.methodLink RX1 26 yJ7_fill_53178, Cond.static yJ7_fill_53178, Cond.initialized RJ7, Cond.code yJ7_fill_53178 cJ7_fill_53178 4 none]
def wsX3_sheet : List Cond := .code yX3_sheet cX3_sheet 4 (some .int) :: ((wsX3_sheet_r1 ++ wsX3_sheet_r2) ++ wsX30 ++ wsX10)
def wsX3_put : List Cond := .code yX3_put cX3_put 5 (some .int) :: ([.fieldLink RX3 13 "NineSmells" "sheets" "[LNineSmells$Sheet;", .fieldLink RX3 216 "NineSmells" "latestFault" "I", .methodLink RX3 238 yX3_isSheet, .static yX3_isSheet, .initialized RX3, .code yX3_isSheet cX3_isSheet 1 (some .boolean), .methodLink RX3 183 yX3_refused, .instanceMethod yX3_refused, .selects RX3 yX3_refused yX3_refused, .code yX3_refused cX3_refused 2 (some .int), .methodLink RX3 244 yX3_faulted, .instanceMethod yX3_faulted, .selects RX3 yX3_faulted yX3_faulted, .code yX3_faulted cX3_faulted 2 (some .int), .instanceMethod yX1_lacks, .initialized RX1, .selects RX1 yX1_lacks yX1_lacks, .code yX1_lacks cX1_lacks 4 (some .boolean), .fieldLink RX1 23 "NineSmells$Sheet" "count" "I", .instanceMethod yX1_cut, .selects RX1 yX1_cut yX1_cut, .code yX1_cut cX1_cut 2 (some .int), .fieldLink RX1 19 "NineSmells$Sheet" "lane" "I"] ++ wsX30 ++ wsX10)
def wsX3_cell_r1 : List Cond := [Cond.constantLong RX3 221 (-9223372036854775808), Cond.fieldLink RX3 13 "NineSmells" "sheets" "[LNineSmells$Sheet;", Cond.methodLink RX3 48 yX3_spanRefusal, Cond.instanceMethod yX3_spanRefusal, Cond.selects RX3 yX3_spanRefusal yX3_spanRefusal, Cond.initialized RX3, Cond.code yX3_spanRefusal cX3_spanRefusal 7 (some .int), Cond.fieldLink RX3 216 "NineSmells" "latestFault" "I", Cond.methodLink RX3 238 yX3_isSheet, Cond.static yX3_isSheet, Cond.code yX3_isSheet cX3_isSheet 1 (some .boolean), Cond.methodLink RX3 183 yX3_refused, Cond.instanceMethod yX3_refused, Cond.selects RX3 yX3_refused yX3_refused, Cond.code yX3_refused cX3_refused 2 (some .int), Cond.methodLink RX3 241 yX3_isLane, Cond.static yX3_isLane, Cond.code yX3_isLane cX3_isLane 1 (some .boolean), Cond.methodLink RX3 244 yX3_faulted, Cond.instanceMethod yX3_faulted, Cond.selects RX3 yX3_faulted yX3_faulted, Cond.code yX3_faulted cX3_faulted 2 (some .int), Cond.instanceMethod yX1_lacks, Cond.initialized RX1]
def wsX3_cell_r2 : List Cond := [Cond.selects RX1 yX1_lacks yX1_lacks, Cond.code yX1_lacks cX1_lacks 4 (some .boolean), Cond.fieldLink RX1 23 "NineSmells$Sheet" "count" "I"]
def wsX3_cell : List Cond := .code yX3_cell cX3_cell 4 (some .long) :: ((wsX3_cell_r1 ++ wsX3_cell_r2) ++ wsX30 ++ wsX10)
def wsX3_fault : List Cond := .code yX3_fault cX3_fault 1 (some .int) :: ([.fieldLink RX3 216 "NineSmells" "latestFault" "I"] ++ wsX30)
def wsJ9_abs_0f7a4 : List Cond := .code yJ9_abs_0f7a4 cJ9_abs_0f7a4 1 (some .int) :: ([])
def wsJ9_min_7cf53 : List Cond := .code yJ9_min_7cf53 cJ9_min_7cf53 2 (some .int) :: ([])
def wsL_cell : List Cond := .code yL_cell cL_cell 2 (some .int) :: ([.constant RL 7 (15485863)])
def wsL_low : List Cond := .code yL_low cL_low 2 (some .int) :: ([.constant RL 8 (2147483647)])
def wsL_set : List Cond := .code yL_set cL_set 5 none :: ([])
def wsL_get : List Cond := .code yL_get cL_get 4 (some .int) :: ([])
def wsL_lay_r1 : List Cond := [Cond.methodLink RL 9 yL_cell, Cond.static yL_cell, Cond.initialized RL, Cond.code yL_cell cL_cell 2 (some .int), Cond.constant RL 7 (15485863), Cond.methodLink RL 15 yL_low, Cond.static yL_low, Cond.code yL_low cL_low 2 (some .int), Cond.constant RL 8 (2147483647), Cond.methodLink RL 19 yX3_put, Cond.instanceMethod yX3_put, Cond.selects RX3 yX3_put yX3_put, Cond.initialized RX3, Cond.code yX3_put cX3_put 5 (some .int), Cond.fieldLink RX3 13 "NineSmells" "sheets" "[LNineSmells$Sheet;", Cond.fieldLink RX3 216 "NineSmells" "latestFault" "I", Cond.methodLink RX3 238 yX3_isSheet, Cond.static yX3_isSheet, Cond.code yX3_isSheet cX3_isSheet 1 (some .boolean), Cond.methodLink RX3 183 yX3_refused, Cond.instanceMethod yX3_refused, Cond.selects RX3 yX3_refused yX3_refused, Cond.code yX3_refused cX3_refused 2 (some .int), Cond.methodLink RX3 244 yX3_faulted]
def wsL_lay_r2 : List Cond := [Cond.instanceMethod yX3_faulted, Cond.selects RX3 yX3_faulted yX3_faulted, Cond.code yX3_faulted cX3_faulted 2 (some .int), Cond.instanceMethod yX1_lacks, Cond.initialized RX1, Cond.selects RX1 yX1_lacks yX1_lacks, Cond.code yX1_lacks cX1_lacks 4 (some .boolean), Cond.fieldLink RX1 23 "NineSmells$Sheet" "count" "I", Cond.instanceMethod yX1_cut, Cond.selects RX1 yX1_cut yX1_cut, Cond.code yX1_cut cX1_cut 2 (some .int), Cond.fieldLink RX1 19 "NineSmells$Sheet" "lane" "I", Cond.methodLink RL 25 yL_set, Cond.static yL_set, Cond.code yL_set cL_set 5 none, Cond.methodLink RL 29 yL_get, Cond.static yL_get, Cond.code yL_get cL_get 4 (some .int), Cond.methodLink RL 33 yX3_register, Cond.instanceMethod yX3_register, Cond.selects RX3 yX3_register yX3_register, Cond.code yX3_register cX3_register 7 (some .int), Cond.fieldLink RX3 63 "NineSmells" "signCount" "I", Cond.methodLink RX3 48 yX3_spanRefusal]
def wsL_lay_r3 : List Cond := [Cond.instanceMethod yX3_spanRefusal, Cond.selects RX3 yX3_spanRefusal yX3_spanRefusal, Cond.code yX3_spanRefusal cX3_spanRefusal 7 (some .int), Cond.methodLink RX3 241 yX3_isLane, Cond.static yX3_isLane, Cond.code yX3_isLane cX3_isLane 1 (some .boolean), Cond.methodLink RX3 52 yX3_textFault, Cond.static yX3_textFault, Cond.code yX3_textFault cX3_textFault 4 (some .int), Cond.methodLink RX3 93 yX3_goesOn, Cond.static yX3_goesOn, Cond.code yX3_goesOn cX3_goesOn 3 (some .boolean), Cond.methodLink RX3 97 yX3_kindOf, Cond.static yX3_kindOf, Cond.code yX3_kindOf cX3_kindOf 1 (some .int), Cond.methodLink RX3 56 yX3_takeText, Cond.instanceMethod yX3_takeText, Cond.selects RX3 yX3_takeText yX3_takeText, Cond.code yX3_takeText cX3_takeText 8 none, Cond.fieldLink RX3 19 "NineSmells" "signs" "[LNineSmells$Sign;", Cond.methodLink RX3 60 yX3_startAnew, Cond.instanceMethod yX3_startAnew, Cond.selects RX3 yX3_startAnew yX3_startAnew, Cond.code yX3_startAnew cX3_startAnew 1 none]
def wsL_lay_r4 : List Cond := [Cond.fieldLink RX3 104 "NineSmells" "paperCount" "I", Cond.fieldLink RX3 83 "NineSmells" "thisYear" "I", Cond.fieldLink RX3 80 "NineSmells" "bound" "I", Cond.fieldLink RX3 29 "NineSmells" "halves" "[I", Cond.fieldLink RX3 42 "NineSmells" "newSmell" "[I", Cond.methodLink RX3 107 yJ7_fill_53178, Cond.static yJ7_fill_53178, Cond.initialized RJ7, Cond.code yJ7_fill_53178 cJ7_fill_53178 4 none]
def wsL_lay : List Cond := .code yL_lay cL_lay 14 (some .int) :: ((wsL_lay_r1 ++ (wsL_lay_r2 ++ (wsL_lay_r3 ++ wsL_lay_r4))) ++ wsX30 ++ wsX10 ++ wsX20)
def wsL_off : List Cond := .code yL_off cL_off 2 (some .int) :: ([])
def wsL_fades : List Cond := .code yL_fades cL_fades 8 (some .int) :: ([])
def wsL_apart : List Cond := .code yL_apart cL_apart 6 (some .int) :: ([.methodLink RL 29 yL_get, .static yL_get, .initialized RL, .code yL_get cL_get 4 (some .int), .methodLink RL 45 yL_off, .static yL_off, .code yL_off cL_off 2 (some .int)])
def wsL_bits : List Cond := .code yL_bits cL_bits 3 (some .int) :: ([])
def wsL_law_r1 : List Cond := [Cond.classLink RL 20 RX3, Cond.instantiable RX3 14, Cond.initialized RX3, Cond.arrayClass .int, Cond.constantLong RL 98 (-9223372036854775808), Cond.methodLink RL 52 yX3_init, Cond.instanceMethod yX3_init, Cond.code yX3_init cX3_init 2 none, Cond.methodLink RX3 5 objectInit, Cond.instanceMethod objectInit, Cond.code objectInit ⟨#[0xb1]⟩ 1 none, Cond.classLink RX3 11 RX1, Cond.fieldLink RX3 13 "NineSmells" "sheets" "[LNineSmells$Sheet;", Cond.classLink RX3 17 RX2, Cond.fieldLink RX3 19 "NineSmells" "signs" "[LNineSmells$Sign;", Cond.classLink RX3 23 RX0, Cond.fieldLink RX3 25 "NineSmells" "papers" "[LNineSmells$Paper;", Cond.fieldLink RX3 29 "NineSmells" "halves" "[I", Cond.fieldLink RX3 33 "NineSmells" "smelt" "[I", Cond.fieldLink RX3 36 "NineSmells" "strengths" "[I", Cond.fieldLink RX3 39 "NineSmells" "hours" "[I", Cond.fieldLink RX3 42 "NineSmells" "newSmell" "[I", Cond.instantiable RX1 4, Cond.initialized RX1]
def wsL_law_r2 : List Cond := [Cond.instantiable RX2 3, Cond.initialized RX2, Cond.instantiable RX0 6, Cond.initialized RX0, Cond.instanceMethod yX1_init, Cond.code yX1_init cX1_init 1 none, Cond.methodLink RX1 3 objectInit, Cond.fieldLink RX1 9 "NineSmells$Sheet" "cells" "[I", Cond.instanceMethod yX2_init, Cond.code yX2_init cX2_init 1 none, Cond.methodLink RX2 3 objectInit, Cond.fieldLink RX2 9 "NineSmells$Sign" "strength" "[I", Cond.instanceMethod yX0_init, Cond.code yX0_init cX0_init 1 none, Cond.methodLink RX0 1 objectInit, Cond.methodLink RL 53 yX3_sheet, Cond.instanceMethod yX3_sheet, Cond.selects RX3 yX3_sheet yX3_sheet, Cond.code yX3_sheet cX3_sheet 4 (some .int), Cond.fieldLink RX3 216 "NineSmells" "latestFault" "I", Cond.methodLink RX3 238 yX3_isSheet, Cond.static yX3_isSheet, Cond.code yX3_isSheet cX3_isSheet 1 (some .boolean), Cond.methodLink RX3 183 yX3_refused]
def wsL_law_r3 : List Cond := [Cond.instanceMethod yX3_refused, Cond.selects RX3 yX3_refused yX3_refused, Cond.code yX3_refused cX3_refused 2 (some .int), Cond.methodLink RX3 241 yX3_isLane, Cond.static yX3_isLane, Cond.code yX3_isLane cX3_isLane 1 (some .boolean), Cond.methodLink RX3 244 yX3_faulted, Cond.instanceMethod yX3_faulted, Cond.selects RX3 yX3_faulted yX3_faulted, Cond.code yX3_faulted cX3_faulted 2 (some .int), Cond.instanceMethod yX1_renew, Cond.selects RX1 yX1_renew yX1_renew, Cond.code yX1_renew cX1_renew 3 none, Cond.fieldLink RX1 15 "NineSmells$Sheet" "has" "Z", Cond.fieldLink RX1 19 "NineSmells$Sheet" "lane" "I", Cond.fieldLink RX1 23 "NineSmells$Sheet" "count" "I", Cond.methodLink RX1 26 yJ7_fill_53178, Cond.static yJ7_fill_53178, Cond.initialized RJ7, Cond.code yJ7_fill_53178 cJ7_fill_53178 4 none, Cond.methodLink RL 56 yL_lay, Cond.static yL_lay, Cond.initialized RL, Cond.code yL_lay cL_lay 14 (some .int)]
def wsL_law_r4 : List Cond := [Cond.methodLink RL 9 yL_cell, Cond.static yL_cell, Cond.code yL_cell cL_cell 2 (some .int), Cond.constant RL 7 (15485863), Cond.methodLink RL 15 yL_low, Cond.static yL_low, Cond.code yL_low cL_low 2 (some .int), Cond.constant RL 8 (2147483647), Cond.methodLink RL 19 yX3_put, Cond.instanceMethod yX3_put, Cond.selects RX3 yX3_put yX3_put, Cond.code yX3_put cX3_put 5 (some .int), Cond.instanceMethod yX1_lacks, Cond.selects RX1 yX1_lacks yX1_lacks, Cond.code yX1_lacks cX1_lacks 4 (some .boolean), Cond.instanceMethod yX1_cut, Cond.selects RX1 yX1_cut yX1_cut, Cond.code yX1_cut cX1_cut 2 (some .int), Cond.methodLink RL 25 yL_set, Cond.static yL_set, Cond.code yL_set cL_set 5 none, Cond.methodLink RL 29 yL_get, Cond.static yL_get, Cond.code yL_get cL_get 4 (some .int)]
def wsL_law_r5 : List Cond := [Cond.methodLink RL 33 yX3_register, Cond.instanceMethod yX3_register, Cond.selects RX3 yX3_register yX3_register, Cond.code yX3_register cX3_register 7 (some .int), Cond.fieldLink RX3 63 "NineSmells" "signCount" "I", Cond.methodLink RX3 48 yX3_spanRefusal, Cond.instanceMethod yX3_spanRefusal, Cond.selects RX3 yX3_spanRefusal yX3_spanRefusal, Cond.code yX3_spanRefusal cX3_spanRefusal 7 (some .int), Cond.methodLink RX3 52 yX3_textFault, Cond.static yX3_textFault, Cond.code yX3_textFault cX3_textFault 4 (some .int), Cond.methodLink RX3 93 yX3_goesOn, Cond.static yX3_goesOn, Cond.code yX3_goesOn cX3_goesOn 3 (some .boolean), Cond.methodLink RX3 97 yX3_kindOf, Cond.static yX3_kindOf, Cond.code yX3_kindOf cX3_kindOf 1 (some .int), Cond.methodLink RX3 56 yX3_takeText, Cond.instanceMethod yX3_takeText, Cond.selects RX3 yX3_takeText yX3_takeText, Cond.code yX3_takeText cX3_takeText 8 none, Cond.methodLink RX3 60 yX3_startAnew, Cond.instanceMethod yX3_startAnew]
def wsL_law_r6 : List Cond := [Cond.selects RX3 yX3_startAnew yX3_startAnew, Cond.code yX3_startAnew cX3_startAnew 1 none, Cond.fieldLink RX3 104 "NineSmells" "paperCount" "I", Cond.fieldLink RX3 83 "NineSmells" "thisYear" "I", Cond.fieldLink RX3 80 "NineSmells" "bound" "I", Cond.methodLink RX3 107 yJ7_fill_53178, Cond.methodLink RL 60 yX3_half, Cond.instanceMethod yX3_half, Cond.selects RX3 yX3_half yX3_half, Cond.code yX3_half cX3_half 4 (some .int), Cond.methodLink RX3 77 yX3_isSmell, Cond.static yX3_isSmell, Cond.code yX3_isSmell cX3_isSmell 1 (some .boolean), Cond.methodLink RL 63 yX3_bound, Cond.instanceMethod yX3_bound, Cond.selects RX3 yX3_bound yX3_bound, Cond.code yX3_bound cX3_bound 3 (some .int), Cond.methodLink RL 67 yL_apart, Cond.static yL_apart, Cond.code yL_apart cL_apart 6 (some .int), Cond.methodLink RL 45 yL_off, Cond.static yL_off, Cond.code yL_off cL_off 2 (some .int), Cond.methodLink RL 70 yX3_apart]
def wsL_law_r7 : List Cond := [Cond.instanceMethod yX3_apart, Cond.selects RX3 yX3_apart yX3_apart, Cond.code yX3_apart cX3_apart 3 (some .int), Cond.methodLink RX3 67 yX3_isSign, Cond.instanceMethod yX3_isSign, Cond.selects RX3 yX3_isSign yX3_isSign, Cond.code yX3_isSign cX3_isSign 2 (some .boolean), Cond.methodLink RX3 175 yX3_apartOf, Cond.static yX3_apartOf, Cond.code yX3_apartOf cX3_apartOf 4 (some .int), Cond.methodLink RX3 172 Lib.Math.abs.name, Cond.static Lib.Math.abs.name, Cond.initialized "java/lang/Math", Cond.code Lib.Math.abs.name Lib.Math.abs.code 1 (some .int), Cond.methodLink RL 72 yX3_twins, Cond.instanceMethod yX3_twins, Cond.selects RX3 yX3_twins yX3_twins, Cond.code yX3_twins cX3_twins 5 (some .int), Cond.methodLink RX3 179 yX3_areAlike, Cond.instanceMethod yX3_areAlike, Cond.selects RX3 yX3_areAlike yX3_areAlike, Cond.code yX3_areAlike cX3_areAlike 3 (some .boolean), Cond.methodLink RX3 159 yX3_pairNumber, Cond.static yX3_pairNumber]
def wsL_law_r8 : List Cond := [Cond.code yX3_pairNumber cX3_pairNumber 2 (some .int), Cond.methodLink RL 75 yX3_cell, Cond.instanceMethod yX3_cell, Cond.selects RX3 yX3_cell yX3_cell, Cond.code yX3_cell cX3_cell 4 (some .long), Cond.constantLong RX3 221 (-9223372036854775808), Cond.methodLink RL 78 yL_bits, Cond.static yL_bits, Cond.code yL_bits cL_bits 3 (some .int), Cond.methodLink RL 81 yX3_forged, Cond.instanceMethod yX3_forged, Cond.selects RX3 yX3_forged yX3_forged, Cond.code yX3_forged cX3_forged 12 (some .int), Cond.constantLong RX3 186 (2), Cond.methodLink RX3 119 yX3_areTwoSigns, Cond.instanceMethod yX3_areTwoSigns, Cond.selects RX3 yX3_areTwoSigns yX3_areTwoSigns, Cond.code yX3_areTwoSigns cX3_areTwoSigns 3 (some .boolean), Cond.methodLink RX3 188 yX3_areStoppers, Cond.static yX3_areStoppers, Cond.code yX3_areStoppers cX3_areStoppers 5 (some .boolean), Cond.methodLink RX3 192 yJ6_bitCount_0f7a4, Cond.static yJ6_bitCount_0f7a4, Cond.initialized RJ6]
def wsL_law_r9 : List Cond := [Cond.code yJ6_bitCount_0f7a4 cJ6_bitCount_0f7a4 1 (some .int), Cond.constant RJ6 265 (1431655765), Cond.constant RJ6 266 (858993459), Cond.constant RJ6 267 (252645135), Cond.methodLink RX3 197 yX3_isTakenFor, Cond.instanceMethod yX3_isTakenFor, Cond.selects RX3 yX3_isTakenFor yX3_isTakenFor, Cond.code yX3_isTakenFor cX3_isTakenFor 7 (some .boolean), Cond.methodLink RL 85 yX3_near, Cond.instanceMethod yX3_near, Cond.selects RX3 yX3_near yX3_near, Cond.code yX3_near cX3_near 5 (some .int), Cond.methodLink RX3 201 yX3_strengthNear, Cond.static yX3_strengthNear, Cond.code yX3_strengthNear cX3_strengthNear 5 (some .int), Cond.methodLink RL 88 yX3_steals, Cond.instanceMethod yX3_steals, Cond.selects RX3 yX3_steals yX3_steals, Cond.code yX3_steals cX3_steals 5 (some .int), Cond.methodLink RL 91 yX3_fresh, Cond.instanceMethod yX3_fresh, Cond.selects RX3 yX3_fresh yX3_fresh, Cond.code yX3_fresh cX3_fresh 2 (some .int), Cond.methodLink RX3 205 yX3_seekNewSmell]
def wsL_law_r10 : List Cond := [Cond.instanceMethod yX3_seekNewSmell, Cond.selects RX3 yX3_seekNewSmell yX3_seekNewSmell, Cond.code yX3_seekNewSmell cX3_seekNewSmell 3 none, Cond.methodLink RX3 208 yX3_tryStrengths, Cond.instanceMethod yX3_tryStrengths, Cond.selects RX3 yX3_tryStrengths yX3_tryStrengths, Cond.code yX3_tryStrengths cX3_tryStrengths 6 none, Cond.methodLink RX3 212 yX3_leastApart, Cond.instanceMethod yX3_leastApart, Cond.selects RX3 yX3_leastApart yX3_leastApart, Cond.code yX3_leastApart cX3_leastApart 9 (some .int), Cond.constant RX3 158 (2147483647), Cond.methodLink RX3 113 Lib.Math.min.name, Cond.static Lib.Math.min.name, Cond.code Lib.Math.min.name Lib.Math.min.code 2 (some .int), Cond.methodLink RL 37 yL_fades, Cond.static yL_fades, Cond.code yL_fades cL_fades 8 (some .int), Cond.methodLink RL 94 yX3_odds, Cond.instanceMethod yX3_odds, Cond.selects RX3 yX3_odds yX3_odds, Cond.code yX3_odds cX3_odds 8 (some .long), Cond.constantLong RX3 219 (9), Cond.methodLink RX3 223 yX3_isDoor]
def wsL_law_r11 : List Cond := [Cond.static yX3_isDoor, Cond.code yX3_isDoor cX3_isDoor 5 (some .boolean), Cond.methodLink RX3 226 yX3_countHours, Cond.instanceMethod yX3_countHours, Cond.selects RX3 yX3_countHours yX3_countHours, Cond.code yX3_countHours cX3_countHours 7 (some .int), Cond.methodLink RX3 234 yX3_leftFrom, Cond.instanceMethod yX3_leftFrom, Cond.selects RX3 yX3_leftFrom yX3_leftFrom, Cond.code yX3_leftFrom cX3_leftFrom 8 (some .int), Cond.methodLink RX3 86 yX3_fade, Cond.instanceMethod yX3_fade, Cond.selects RX3 yX3_fade yX3_fade, Cond.code yX3_fade cX3_fade 8 (some .int), Cond.methodLink RX3 230 yX3_ofShare, Cond.static yX3_ofShare, Cond.code yX3_ofShare cX3_ofShare 5 (some .int), Cond.methodLink RL 100 yX3_who, Cond.instanceMethod yX3_who, Cond.selects RX3 yX3_who yX3_who, Cond.code yX3_who cX3_who 9 (some .int), Cond.methodLink RL 103 yX3_fault, Cond.instanceMethod yX3_fault, Cond.selects RX3 yX3_fault yX3_fault]
def wsL_law_r12 : List Cond := [Cond.code yX3_fault cX3_fault 1 (some .int)]
def wsL_law : List Cond := (wsL_law_r1 ++ (wsL_law_r2 ++ (wsL_law_r3 ++ (wsL_law_r4 ++ (wsL_law_r5 ++ (wsL_law_r6 ++ (wsL_law_r7 ++ (wsL_law_r8 ++ (wsL_law_r9 ++ (wsL_law_r10 ++ (wsL_law_r11 ++ wsL_law_r12))))))))))) ++ wsX30 ++ wsX10 ++ wsX20 ++ wsX00 ++ ([] : List Cond)
abbrev vwCl : List vw_C := [(RX0, TX0, 6), (RX1, TX1, 4), (RX2, TX2, 3), (RX3, TX3, 14)]
