section
-- ===== PART A: goes FIRST, ahead of the names: the tables' words, and 'selects' of the private methods out of them =====
/-- a private method of a class that the tables say can be made, by its rows of tables_1 -/
def lw_okq (q : MethodName × Nat) : Prop := (q.1.cls ≠ "java/lang/invoke/MethodHandle" ∧ q.1.cls ≠ "java/lang/invoke/VarHandle") ∧ Cond.instantiable q.1.cls q.2 ∈ tables_1 ∧ Cond.privateMethod q.1 ∈ tables_1 ∧ Cond.instanceMethod q.1 ∈ tables_1
theorem lw_p0 : lw_okq (⟨"NineSmells", "isSign", "(I)Z"⟩, 14) := ⟨⟨by decide +kernel, by decide +kernel⟩, List.mem_of_getElem? (i := 9) (by decide +kernel), List.mem_of_getElem? (i := 136) (by decide +kernel), List.mem_of_getElem? (i := 137) (by decide +kernel)⟩
theorem lw_p1 : lw_okq (⟨"NineSmells", "areAlike", "([I[I)Z"⟩, 14) := ⟨⟨by decide +kernel, by decide +kernel⟩, List.mem_of_getElem? (i := 9) (by decide +kernel), List.mem_of_getElem? (i := 150) (by decide +kernel), List.mem_of_getElem? (i := 151) (by decide +kernel)⟩
theorem lw_p2 : lw_okq (⟨"NineSmells", "areTwoSigns", "(II)Z"⟩, 14) := ⟨⟨by decide +kernel, by decide +kernel⟩, List.mem_of_getElem? (i := 9) (by decide +kernel), List.mem_of_getElem? (i := 161) (by decide +kernel), List.mem_of_getElem? (i := 162) (by decide +kernel)⟩
theorem lw_p3 : lw_okq (⟨"NineSmells", "refused", "(I)I"⟩, 14) := ⟨⟨by decide +kernel, by decide +kernel⟩, List.mem_of_getElem? (i := 9) (by decide +kernel), List.mem_of_getElem? (i := 165) (by decide +kernel), List.mem_of_getElem? (i := 166) (by decide +kernel)⟩
theorem lw_p4 : lw_okq (⟨"NineSmells", "spanRefusal", "(IIIJ)I"⟩, 14) := ⟨⟨by decide +kernel, by decide +kernel⟩, List.mem_of_getElem? (i := 9) (by decide +kernel), List.mem_of_getElem? (i := 170) (by decide +kernel), List.mem_of_getElem? (i := 171) (by decide +kernel)⟩
theorem lw_p5 : lw_okq (⟨"NineSmells", "faulted", "(I)I"⟩, 14) := ⟨⟨by decide +kernel, by decide +kernel⟩, List.mem_of_getElem? (i := 9) (by decide +kernel), List.mem_of_getElem? (i := 180) (by decide +kernel), List.mem_of_getElem? (i := 181) (by decide +kernel)⟩
theorem lw_p6 : lw_okq (⟨"NineSmells$Sheet", "lacks", "(IJ)Z"⟩, 4) := ⟨⟨by decide +kernel, by decide +kernel⟩, List.mem_of_getElem? (i := 22) (by decide +kernel), List.mem_of_getElem? (i := 184) (by decide +kernel), List.mem_of_getElem? (i := 185) (by decide +kernel)⟩
theorem lw_p7 : lw_okq (⟨"NineSmells", "isTakenFor", "(IILNineSmells$Sheet;II)Z"⟩, 14) := ⟨⟨by decide +kernel, by decide +kernel⟩, List.mem_of_getElem? (i := 9) (by decide +kernel), List.mem_of_getElem? (i := 197) (by decide +kernel), List.mem_of_getElem? (i := 198) (by decide +kernel)⟩
theorem lw_p8 : lw_okq (⟨"NineSmells", "seekNewSmell", "()V"⟩, 14) := ⟨⟨by decide +kernel, by decide +kernel⟩, List.mem_of_getElem? (i := 9) (by decide +kernel), List.mem_of_getElem? (i := 216) (by decide +kernel), List.mem_of_getElem? (i := 217) (by decide +kernel)⟩
theorem lw_p9 : lw_okq (⟨"NineSmells", "tryStrengths", "(II)V"⟩, 14) := ⟨⟨by decide +kernel, by decide +kernel⟩, List.mem_of_getElem? (i := 9) (by decide +kernel), List.mem_of_getElem? (i := 220) (by decide +kernel), List.mem_of_getElem? (i := 221) (by decide +kernel)⟩
theorem lw_p10 : lw_okq (⟨"NineSmells", "leastApart", "(IIII)I"⟩, 14) := ⟨⟨by decide +kernel, by decide +kernel⟩, List.mem_of_getElem? (i := 9) (by decide +kernel), List.mem_of_getElem? (i := 224) (by decide +kernel), List.mem_of_getElem? (i := 225) (by decide +kernel)⟩
theorem lw_p11 : lw_okq (⟨"NineSmells", "countHours", "(ILNineSmells$Sheet;I)I"⟩, 14) := ⟨⟨by decide +kernel, by decide +kernel⟩, List.mem_of_getElem? (i := 9) (by decide +kernel), List.mem_of_getElem? (i := 241) (by decide +kernel), List.mem_of_getElem? (i := 242) (by decide +kernel)⟩
theorem lw_p12 : lw_okq (⟨"NineSmells", "leftFrom", "(LNineSmells$Sign;ILNineSmells$Sheet;I)I"⟩, 14) := ⟨⟨by decide +kernel, by decide +kernel⟩, List.mem_of_getElem? (i := 9) (by decide +kernel), List.mem_of_getElem? (i := 245) (by decide +kernel), List.mem_of_getElem? (i := 246) (by decide +kernel)⟩
theorem lw_p13 : lw_okq (⟨"NineSmells", "fade", "(LNineSmells$Sign;III)I"⟩, 14) := ⟨⟨by decide +kernel, by decide +kernel⟩, List.mem_of_getElem? (i := 9) (by decide +kernel), List.mem_of_getElem? (i := 249) (by decide +kernel), List.mem_of_getElem? (i := 250) (by decide +kernel)⟩
theorem lw_p14 : lw_okq (⟨"NineSmells$Sheet", "renew", "(II)V"⟩, 4) := ⟨⟨by decide +kernel, by decide +kernel⟩, List.mem_of_getElem? (i := 22) (by decide +kernel), List.mem_of_getElem? (i := 264) (by decide +kernel), List.mem_of_getElem? (i := 265) (by decide +kernel)⟩
theorem lw_p15 : lw_okq (⟨"NineSmells$Sheet", "cut", "(I)I"⟩, 4) := ⟨⟨by decide +kernel, by decide +kernel⟩, List.mem_of_getElem? (i := 22) (by decide +kernel), List.mem_of_getElem? (i := 275) (by decide +kernel), List.mem_of_getElem? (i := 276) (by decide +kernel)⟩
def lw_privs_1 : List (MethodName × Nat) := [(⟨"NineSmells", "isSign", "(I)Z"⟩, 14), (⟨"NineSmells", "areAlike", "([I[I)Z"⟩, 14), (⟨"NineSmells", "areTwoSigns", "(II)Z"⟩, 14), (⟨"NineSmells", "refused", "(I)I"⟩, 14), (⟨"NineSmells", "spanRefusal", "(IIIJ)I"⟩, 14), (⟨"NineSmells", "faulted", "(I)I"⟩, 14), (⟨"NineSmells$Sheet", "lacks", "(IJ)Z"⟩, 4), (⟨"NineSmells", "isTakenFor", "(IILNineSmells$Sheet;II)Z"⟩, 14), (⟨"NineSmells", "seekNewSmell", "()V"⟩, 14), (⟨"NineSmells", "tryStrengths", "(II)V"⟩, 14), (⟨"NineSmells", "leastApart", "(IIII)I"⟩, 14), (⟨"NineSmells", "countHours", "(ILNineSmells$Sheet;I)I"⟩, 14), (⟨"NineSmells", "leftFrom", "(LNineSmells$Sign;ILNineSmells$Sheet;I)I"⟩, 14), (⟨"NineSmells", "fade", "(LNineSmells$Sign;III)I"⟩, 14), (⟨"NineSmells$Sheet", "renew", "(II)V"⟩, 4), (⟨"NineSmells$Sheet", "cut", "(I)I"⟩, 4)]
theorem lw_r1 : ∀ q ∈ lw_privs_1, lw_okq q := List.forall_mem_cons.mpr ⟨lw_p0, List.forall_mem_cons.mpr ⟨lw_p1, List.forall_mem_cons.mpr ⟨lw_p2, List.forall_mem_cons.mpr ⟨lw_p3, List.forall_mem_cons.mpr ⟨lw_p4, List.forall_mem_cons.mpr ⟨lw_p5, List.forall_mem_cons.mpr ⟨lw_p6, List.forall_mem_cons.mpr ⟨lw_p7, List.forall_mem_cons.mpr ⟨lw_p8, List.forall_mem_cons.mpr ⟨lw_p9, List.forall_mem_cons.mpr ⟨lw_p10, List.forall_mem_cons.mpr ⟨lw_p11, List.forall_mem_cons.mpr ⟨lw_p12, List.forall_mem_cons.mpr ⟨lw_p13, List.forall_mem_cons.mpr ⟨lw_p14, List.forall_mem_cons.mpr ⟨lw_p15, fun _ h => absurd h List.not_mem_nil⟩⟩⟩⟩⟩⟩⟩⟩⟩⟩⟩⟩⟩⟩⟩⟩
theorem lw_p16 : lw_okq (⟨"NineSmells", "takeText", "(LNineSmells$Sheet;II)V"⟩, 14) := ⟨⟨by decide +kernel, by decide +kernel⟩, List.mem_of_getElem? (i := 9) (by decide +kernel), List.mem_of_getElem? (i := 317) (by decide +kernel), List.mem_of_getElem? (i := 318) (by decide +kernel)⟩
theorem lw_p17 : lw_okq (⟨"NineSmells", "startAnew", "()V"⟩, 14) := ⟨⟨by decide +kernel, by decide +kernel⟩, List.mem_of_getElem? (i := 9) (by decide +kernel), List.mem_of_getElem? (i := 321) (by decide +kernel), List.mem_of_getElem? (i := 322) (by decide +kernel)⟩
def lw_privs_2 : List (MethodName × Nat) := [(⟨"NineSmells", "takeText", "(LNineSmells$Sheet;II)V"⟩, 14), (⟨"NineSmells", "startAnew", "()V"⟩, 14)]
theorem lw_r2 : ∀ q ∈ lw_privs_2, lw_okq q := List.forall_mem_cons.mpr ⟨lw_p16, List.forall_mem_cons.mpr ⟨lw_p17, fun _ h => absurd h List.not_mem_nil⟩⟩
def lw_privs : List (MethodName × Nat) := lw_privs_1 ++ (lw_privs_2)
def lw_tbl : List Cond := k2_sels lw_privs ++ tables_1
theorem lw_privs_ok : ∀ q ∈ lw_privs, lw_okq q := by
  show ∀ q ∈ lw_privs_1 ++ (lw_privs_2), lw_okq q
  exact List.forall_mem_append.mpr ⟨lw_r1, lw_r2⟩
end
section
/-! ===== BEGIN words of one list among another's, by their places ===== -/
theorem goodIn_r {big : List Cond} (ws : List Cond) (ps : List Nat) (hp : ws = ps.filterMap (fun i => big[i]?)) (h : ws.all goodWord = true) : GoodIn big ws := by
  intro w hw
  have h1 := List.all_eq_true.mp h w hw
  rw [hp] at hw
  obtain ⟨i, -, hi⟩ := List.mem_filterMap.mp hw
  have hm : w ∈ big := by first | exact List.mem_of_getElem? hi | exact List.getElem?_mem hi
  exact ⟨hm, good_of_word h1⟩
theorem goodIn_app {big a b : List Cond} (ha : GoodIn big a) (hb : GoodIn big b) : GoodIn big (a ++ b) := fun w h => (List.mem_append.mp h).elim (ha w) (hb w)
theorem goodIn_ca {big a b : List Cond} {c : Cond} (ha : GoodIn big (c :: a)) (hb : GoodIn big b) : GoodIn big (c :: (a ++ b)) := fun w h => (List.mem_cons.mp h).elim (fun e => ha w (List.mem_cons.mpr (Or.inl e))) (fun h => (List.mem_append.mp h).elim (fun h => ha w (List.mem_cons.mpr (Or.inr h))) (hb w))
theorem goodIn_sub {big ws : List Cond} (hm : ∀ w ∈ ws, w ∈ big) (h : ws.all goodWord = true) : GoodIn big ws := fun w hw => ⟨hm w hw, good_of_word (List.all_eq_true.mp h w hw)⟩
/-! ===== END ===== -/

/-! ===== BEGIN printed: names, fields, word lists, decode rows ===== -/
def RX0 : String := "NineSmells$Paper"
def TX0 : u_T := fun k => match k with
  | 0 => ("NineSmells$Paper", "first", "I", false)
  | 1 => ("NineSmells$Paper", "second", "I", false)
  | 2 => ("NineSmells$Paper", "year", "I", false)
  | 3 => ("NineSmells$Paper", "cold", "I", false)
  | 4 => ("NineSmells$Paper", "washed", "I", false)
  | _ => ("NineSmells$Paper", "drowned", "I", false)
def tyX0 : Nat → FieldType := fun k => match k with
  | 0 => .int
  | 1 => .int
  | 2 => .int
  | 3 => .int
  | 4 => .int
  | _ => .int
abbrev wsX00 : List Cond := u_ws RX0 TX0 6
theorem nmX0 : ∀ a, a < 6 → ∀ b, b < 6 → a ≠ b → (TX0 a).2.1 ≠ (TX0 b).2.1 := by decide +kernel
theorem tyX0_ok : ∀ k, k < 6 → parseFieldDescriptor (TX0 k).2.2.1 = some (tyX0 k) := by decide +kernel
abbrev cX0_init : ByteArray := prog_2_method_1_code
def yX0_init : MethodName := ⟨RX0, "<init>", "()V"⟩
def RX1 : String := "NineSmells$Sheet"
def TX1 : u_T := fun k => match k with
  | 0 => ("NineSmells$Sheet", "has", "Z", false)
  | 1 => ("NineSmells$Sheet", "lane", "I", false)
  | 2 => ("NineSmells$Sheet", "count", "I", false)
  | _ => ("NineSmells$Sheet", "cells", "[I", true)
def tyX1 : Nat → FieldType := fun k => match k with
  | 0 => .boolean
  | 1 => .int
  | 2 => .int
  | _ => .array .int
abbrev wsX10 : List Cond := u_ws RX1 TX1 4
theorem nmX1 : ∀ a, a < 4 → ∀ b, b < 4 → a ≠ b → (TX1 a).2.1 ≠ (TX1 b).2.1 := by decide +kernel
theorem tyX1_ok : ∀ k, k < 4 → parseFieldDescriptor (TX1 k).2.2.1 = some (tyX1 k) := by decide +kernel
abbrev cX1_init : ByteArray := prog_3_method_1_code
def yX1_init : MethodName := ⟨RX1, "<init>", "()V"⟩
abbrev cX1_renew : ByteArray := prog_3_method_2_code
def yX1_renew : MethodName := ⟨RX1, "renew", "(II)V"⟩
abbrev cX1_cut : ByteArray := prog_3_method_3_code
def yX1_cut : MethodName := ⟨RX1, "cut", "(I)I"⟩
abbrev cX1_lacks : ByteArray := prog_3_method_4_code
def yX1_lacks : MethodName := ⟨RX1, "lacks", "(IJ)Z"⟩
def RX2 : String := "NineSmells$Sign"
def TX2 : u_T := fun k => match k with
  | 0 => ("NineSmells$Sign", "kind", "I", false)
  | 1 => ("NineSmells$Sign", "total", "I", false)
  | _ => ("NineSmells$Sign", "strength", "[I", true)
def tyX2 : Nat → FieldType := fun k => match k with
  | 0 => .int
  | 1 => .int
  | _ => .array .int
abbrev wsX20 : List Cond := u_ws RX2 TX2 3
theorem nmX2 : ∀ a, a < 3 → ∀ b, b < 3 → a ≠ b → (TX2 a).2.1 ≠ (TX2 b).2.1 := by decide +kernel
theorem tyX2_ok : ∀ k, k < 3 → parseFieldDescriptor (TX2 k).2.2.1 = some (tyX2 k) := by decide +kernel
abbrev cX2_init : ByteArray := prog_4_method_1_code
def yX2_init : MethodName := ⟨RX2, "<init>", "()V"⟩
def RX3 : String := "NineSmells"
def TX3 : u_T := fun k => match k with
  | 0 => ("NineSmells", "sheets", "[LNineSmells$Sheet;", true)
  | 1 => ("NineSmells", "signs", "[LNineSmells$Sign;", true)
  | 2 => ("NineSmells", "papers", "[LNineSmells$Paper;", true)
  | 3 => ("NineSmells", "halves", "[I", true)
  | 4 => ("NineSmells", "signCount", "I", false)
  | 5 => ("NineSmells", "paperCount", "I", false)
  | 6 => ("NineSmells", "thisYear", "I", false)
  | 7 => ("NineSmells", "bound", "I", false)
  | 8 => ("NineSmells", "trace", "I", false)
  | 9 => ("NineSmells", "latestFault", "I", false)
  | 10 => ("NineSmells", "smelt", "[I", true)
  | 11 => ("NineSmells", "strengths", "[I", true)
  | 12 => ("NineSmells", "hours", "[I", true)
  | _ => ("NineSmells", "newSmell", "[I", true)
def tyX3 : Nat → FieldType := fun k => match k with
  | 0 => .array (.object "NineSmells$Sheet")
  | 1 => .array (.object "NineSmells$Sign")
  | 2 => .array (.object "NineSmells$Paper")
  | 3 => .array .int
  | 4 => .int
  | 5 => .int
  | 6 => .int
  | 7 => .int
  | 8 => .int
  | 9 => .int
  | 10 => .array .int
  | 11 => .array .int
  | 12 => .array .int
  | _ => .array .int
abbrev wsX30 : List Cond := u_ws RX3 TX3 14
theorem nmX3 : ∀ a, a < 14 → ∀ b, b < 14 → a ≠ b → (TX3 a).2.1 ≠ (TX3 b).2.1 := by decide +kernel
theorem tyX3_ok : ∀ k, k < 14 → parseFieldDescriptor (TX3 k).2.2.1 = some (tyX3 k) := by decide +kernel
abbrev cX3_init : ByteArray := prog_1_method_1_code
def yX3_init : MethodName := ⟨RX3, "<init>", "()V"⟩
abbrev cX3_register : ByteArray := prog_1_method_2_code
def yX3_register : MethodName := ⟨RX3, "register", "(IIII)I"⟩
abbrev cX3_half : ByteArray := prog_1_method_4_code
def yX3_half : MethodName := ⟨RX3, "half", "(II)I"⟩
abbrev cX3_bound : ByteArray := prog_1_method_5_code
def yX3_bound : MethodName := ⟨RX3, "bound", "(I)I"⟩
abbrev cX3_textFault : ByteArray := prog_1_method_8_code
def yX3_textFault : MethodName := ⟨RX3, "textFault", "(LNineSmells$Sheet;II)I"⟩
abbrev cX3_goesOn : ByteArray := prog_1_method_9_code
def yX3_goesOn : MethodName := ⟨RX3, "goesOn", "(II)Z"⟩
abbrev cX3_kindOf : ByteArray := prog_1_method_10_code
def yX3_kindOf : MethodName := ⟨RX3, "kindOf", "(I)I"⟩
abbrev cX3_takeText : ByteArray := prog_1_method_11_code
def yX3_takeText : MethodName := ⟨RX3, "takeText", "(LNineSmells$Sheet;II)V"⟩
abbrev cX3_startAnew : ByteArray := prog_1_method_12_code
def yX3_startAnew : MethodName := ⟨RX3, "startAnew", "()V"⟩
abbrev cX3_fade : ByteArray := prog_1_method_13_code
def yX3_fade : MethodName := ⟨RX3, "fade", "(LNineSmells$Sign;III)I"⟩
abbrev cX3_isSign : ByteArray := prog_1_method_14_code
def yX3_isSign : MethodName := ⟨RX3, "isSign", "(I)Z"⟩
abbrev cX3_areTwoSigns : ByteArray := prog_1_method_15_code
def yX3_areTwoSigns : MethodName := ⟨RX3, "areTwoSigns", "(II)Z"⟩
abbrev cX3_isSmell : ByteArray := prog_1_method_16_code
def yX3_isSmell : MethodName := ⟨RX3, "isSmell", "(I)Z"⟩
abbrev cX3_pairNumber : ByteArray := prog_1_method_32_code
def yX3_pairNumber : MethodName := ⟨RX3, "pairNumber", "(II)I"⟩
abbrev cX3_apart : ByteArray := prog_1_method_34_code
def yX3_apart : MethodName := ⟨RX3, "apart", "(II)I"⟩
abbrev cX3_twins : ByteArray := prog_1_method_35_code
def yX3_twins : MethodName := ⟨RX3, "twins", "(I)I"⟩
abbrev cX3_forged : ByteArray := prog_1_method_36_code
def yX3_forged : MethodName := ⟨RX3, "forged", "(IIIIII)I"⟩
abbrev cX3_near : ByteArray := prog_1_method_37_code
def yX3_near : MethodName := ⟨RX3, "near", "(IIII)I"⟩
abbrev cX3_steals : ByteArray := prog_1_method_38_code
def yX3_steals : MethodName := ⟨RX3, "steals", "(II)I"⟩
abbrev cX3_fresh : ByteArray := prog_1_method_39_code
def yX3_fresh : MethodName := ⟨RX3, "fresh", "(I)I"⟩
abbrev cX3_apartOf : ByteArray := prog_1_method_40_code
def yX3_apartOf : MethodName := ⟨RX3, "apartOf", "([I[I)I"⟩
abbrev cX3_areAlike : ByteArray := prog_1_method_41_code
def yX3_areAlike : MethodName := ⟨RX3, "areAlike", "([I[I)Z"⟩
abbrev cX3_areStoppers : ByteArray := prog_1_method_42_code
def yX3_areStoppers : MethodName := ⟨RX3, "areStoppers", "(LNineSmells$Sheet;II)Z"⟩
abbrev cX3_isTakenFor : ByteArray := prog_1_method_43_code
def yX3_isTakenFor : MethodName := ⟨RX3, "isTakenFor", "(IILNineSmells$Sheet;II)Z"⟩
abbrev cX3_strengthNear : ByteArray := prog_1_method_44_code
def yX3_strengthNear : MethodName := ⟨RX3, "strengthNear", "(LNineSmells$Sign;LNineSmells$Sign;II)I"⟩
abbrev cX3_seekNewSmell : ByteArray := prog_1_method_45_code
def yX3_seekNewSmell : MethodName := ⟨RX3, "seekNewSmell", "()V"⟩
abbrev cX3_tryStrengths : ByteArray := prog_1_method_46_code
def yX3_tryStrengths : MethodName := ⟨RX3, "tryStrengths", "(II)V"⟩
abbrev cX3_leastApart : ByteArray := prog_1_method_47_code
def yX3_leastApart : MethodName := ⟨RX3, "leastApart", "(IIII)I"⟩
abbrev cX3_odds : ByteArray := prog_1_method_48_code
def yX3_odds : MethodName := ⟨RX3, "odds", "(IIIIII)J"⟩
abbrev cX3_who : ByteArray := prog_1_method_49_code
def yX3_who : MethodName := ⟨RX3, "who", "(IIII)I"⟩
abbrev cX3_isDoor : ByteArray := prog_1_method_50_code
def yX3_isDoor : MethodName := ⟨RX3, "isDoor", "(LNineSmells$Sheet;II)Z"⟩
abbrev cX3_countHours : ByteArray := prog_1_method_51_code
def yX3_countHours : MethodName := ⟨RX3, "countHours", "(ILNineSmells$Sheet;I)I"⟩
abbrev cX3_leftFrom : ByteArray := prog_1_method_52_code
def yX3_leftFrom : MethodName := ⟨RX3, "leftFrom", "(LNineSmells$Sign;ILNineSmells$Sheet;I)I"⟩
abbrev cX3_ofShare : ByteArray := prog_1_method_53_code
def yX3_ofShare : MethodName := ⟨RX3, "ofShare", "(III)I"⟩
abbrev cX3_sheet : ByteArray := prog_1_method_54_code
def yX3_sheet : MethodName := ⟨RX3, "sheet", "(III)I"⟩
abbrev cX3_put : ByteArray := prog_1_method_56_code
def yX3_put : MethodName := ⟨RX3, "put", "(III)I"⟩
abbrev cX3_cell : ByteArray := prog_1_method_57_code
def yX3_cell : MethodName := ⟨RX3, "cell", "(III)J"⟩
abbrev cX3_fault : ByteArray := prog_1_method_63_code
def yX3_fault : MethodName := ⟨RX3, "fault", "()I"⟩
abbrev cX3_spanRefusal : ByteArray := prog_1_method_69_code
def yX3_spanRefusal : MethodName := ⟨RX3, "spanRefusal", "(IIIJ)I"⟩
abbrev cX3_refused : ByteArray := prog_1_method_70_code
def yX3_refused : MethodName := ⟨RX3, "refused", "(I)I"⟩
abbrev cX3_faulted : ByteArray := prog_1_method_71_code
def yX3_faulted : MethodName := ⟨RX3, "faulted", "(I)I"⟩
abbrev cX3_isSheet : ByteArray := prog_1_method_72_code
def yX3_isSheet : MethodName := ⟨RX3, "isSheet", "(I)Z"⟩
abbrev cX3_isLane : ByteArray := prog_1_method_73_code
def yX3_isLane : MethodName := ⟨RX3, "isLane", "(I)Z"⟩
def RX4 : String := "NineSmellsModel"
def TX4 : u_T := fun k => match k with
  | _ => ("", "", "", false)
def tyX4 : Nat → FieldType := fun k => match k with
  | _ => .int
abbrev wsX40 : List Cond := u_ws RX4 TX4 0
theorem nmX4 : ∀ a, a < 0 → ∀ b, b < 0 → a ≠ b → (TX4 a).2.1 ≠ (TX4 b).2.1 := by decide +kernel
theorem tyX4_ok : ∀ k, k < 0 → parseFieldDescriptor (TX4 k).2.2.1 = some (tyX4 k) := by decide +kernel
def RJ6 : String := "java/lang/Integer"
def TJ6 : u_T := fun k => match k with
  | _ => ("", "", "", false)
def tyJ6 : Nat → FieldType := fun k => match k with
  | _ => .int
abbrev wsJ60 : List Cond := u_ws RJ6 TJ6 0
theorem nmJ6 : ∀ a, a < 0 → ∀ b, b < 0 → a ≠ b → (TJ6 a).2.1 ≠ (TJ6 b).2.1 := by decide +kernel
theorem tyJ6_ok : ∀ k, k < 0 → parseFieldDescriptor (TJ6 k).2.2.1 = some (tyJ6 k) := by decide +kernel
abbrev cJ6_bitCount_0f7a4 : ByteArray := prog_7_method_49_code
def yJ6_bitCount_0f7a4 : MethodName := ⟨RJ6, "bitCount", "(I)I"⟩
def RJ9 : String := "java/lang/Math"
def TJ9 : u_T := fun k => match k with
  | _ => ("", "", "", false)
def tyJ9 : Nat → FieldType := fun k => match k with
  | _ => .int
abbrev wsJ90 : List Cond := u_ws RJ9 TJ9 0
theorem nmJ9 : ∀ a, a < 0 → ∀ b, b < 0 → a ≠ b → (TJ9 a).2.1 ≠ (TJ9 b).2.1 := by decide +kernel
theorem tyJ9_ok : ∀ k, k < 0 → parseFieldDescriptor (TJ9 k).2.2.1 = some (tyJ9 k) := by decide +kernel
abbrev cJ9_abs_0f7a4 : ByteArray := prog_8_method_59_code
def yJ9_abs_0f7a4 : MethodName := ⟨RJ9, "abs", "(I)I"⟩
abbrev cJ9_min_7cf53 : ByteArray := prog_8_method_69_code
def yJ9_min_7cf53 : MethodName := ⟨RJ9, "min", "(II)I"⟩
def RJ7 : String := "java/util/Arrays"
def TJ7 : u_T := fun k => match k with
  | _ => ("", "", "", false)
def tyJ7 : Nat → FieldType := fun k => match k with
  | _ => .int
abbrev wsJ70 : List Cond := u_ws RJ7 TJ7 0
theorem nmJ7 : ∀ a, a < 0 → ∀ b, b < 0 → a ≠ b → (TJ7 a).2.1 ≠ (TJ7 b).2.1 := by decide +kernel
theorem tyJ7_ok : ∀ k, k < 0 → parseFieldDescriptor (TJ7 k).2.2.1 = some (tyJ7 k) := by decide +kernel
abbrev cJ7_fill_53178 : ByteArray := prog_9_method_103_code
def yJ7_fill_53178 : MethodName := ⟨RJ7, "fill", "([II)V"⟩
def RL : String := "NineSmellsLaw"
abbrev cL_cell : ByteArray := method_2_code
def yL_cell : MethodName := ⟨RL, "cell", "([II)I"⟩
abbrev cL_low : ByteArray := method_3_code
def yL_low : MethodName := ⟨RL, "low", "(II)I"⟩
abbrev cL_lay : ByteArray := method_4_code
def yL_lay : MethodName := ⟨RL, "lay", "(LNineSmells;[I[I[I[II)I"⟩
abbrev cL_set : ByteArray := method_5_code
def yL_set : MethodName := ⟨RL, "set", "([I[IIII)V"⟩
abbrev cL_get : ByteArray := method_6_code
def yL_get : MethodName := ⟨RL, "get", "([I[III)I"⟩
abbrev cL_off : ByteArray := method_7_code
def yL_off : MethodName := ⟨RL, "off", "(II)I"⟩
abbrev cL_fades : ByteArray := method_8_code
def yL_fades : MethodName := ⟨RL, "fades", "([IIIII)I"⟩
abbrev cL_apart : ByteArray := method_12_code
def yL_apart : MethodName := ⟨RL, "apart", "([I[III)I"⟩
abbrev cL_bits : ByteArray := method_13_code
def yL_bits : MethodName := ⟨RL, "bits", "(I)I"⟩
abbrev cL_law : ByteArray := code
def yL_law : MethodName := ⟨RL, "law", "([I)Z"⟩
def wsX0_init : List Cond := .code yX0_init cX0_init 1 none :: ([.methodLink RX0 1 objectInit, .instanceMethod objectInit, .code objectInit ⟨#[0xb1]⟩ 1 none])
def wsX1_init : List Cond := .code yX1_init cX1_init 1 none :: ([.methodLink RX1 3 objectInit, .instanceMethod objectInit, .code objectInit ⟨#[0xb1]⟩ 1 none, .arrayClass .int, .fieldLink RX1 9 "NineSmells$Sheet" "cells" "[I"] ++ wsX10)
def wsJ7_fill_53178 : List Cond := .code yJ7_fill_53178 cJ7_fill_53178 4 none :: ([])
def wsX1_renew : List Cond := .code yX1_renew cX1_renew 3 none :: ([.fieldLink RX1 15 "NineSmells$Sheet" "has" "Z", .fieldLink RX1 19 "NineSmells$Sheet" "lane" "I", .fieldLink RX1 23 "NineSmells$Sheet" "count" "I", .fieldLink RX1 9 "NineSmells$Sheet" "cells" "[I", .methodLink RX1 26 yJ7_fill_53178, .static yJ7_fill_53178, .initialized RJ7, .code yJ7_fill_53178 cJ7_fill_53178 4 none] ++ wsX10)
def wsX1_cut : List Cond := .code yX1_cut cX1_cut 2 (some .int) :: ([.fieldLink RX1 19 "NineSmells$Sheet" "lane" "I"] ++ wsX10)
def wsX1_lacks : List Cond := .code yX1_lacks cX1_lacks 4 (some .boolean) :: ([.fieldLink RX1 23 "NineSmells$Sheet" "count" "I"] ++ wsX10)
def wsX2_init : List Cond := .code yX2_init cX2_init 1 none :: ([.methodLink RX2 3 objectInit, .instanceMethod objectInit, .code objectInit ⟨#[0xb1]⟩ 1 none, .arrayClass .int, .fieldLink RX2 9 "NineSmells$Sign" "strength" "[I"] ++ wsX20)
def wsX3_init_r1 : List Cond := [Cond.methodLink RX3 5 objectInit, Cond.instanceMethod objectInit, Cond.code objectInit ⟨#[0xb1]⟩ 1 none, Cond.classLink RX3 11 RX1, Cond.fieldLink RX3 13 "NineSmells" "sheets" "[LNineSmells$Sheet;", Cond.classLink RX3 17 RX2, Cond.fieldLink RX3 19 "NineSmells" "signs" "[LNineSmells$Sign;", Cond.classLink RX3 23 RX0, Cond.fieldLink RX3 25 "NineSmells" "papers" "[LNineSmells$Paper;", Cond.arrayClass .int, Cond.fieldLink RX3 29 "NineSmells" "halves" "[I", Cond.fieldLink RX3 33 "NineSmells" "smelt" "[I", Cond.fieldLink RX3 36 "NineSmells" "strengths" "[I", Cond.fieldLink RX3 39 "NineSmells" "hours" "[I", Cond.fieldLink RX3 42 "NineSmells" "newSmell" "[I", Cond.instantiable RX1 4, Cond.initialized RX1, Cond.instantiable RX2 3, Cond.initialized RX2, Cond.instantiable RX0 6, Cond.initialized RX0, Cond.instanceMethod yX1_init, Cond.code yX1_init cX1_init 1 none, Cond.methodLink RX1 3 objectInit]
def wsX3_init_r2 : List Cond := [Cond.fieldLink RX1 9 "NineSmells$Sheet" "cells" "[I", Cond.instanceMethod yX2_init, Cond.code yX2_init cX2_init 1 none, Cond.methodLink RX2 3 objectInit, Cond.fieldLink RX2 9 "NineSmells$Sign" "strength" "[I", Cond.instanceMethod yX0_init, Cond.code yX0_init cX0_init 1 none, Cond.methodLink RX0 1 objectInit]
def wsX3_init : List Cond := .code yX3_init cX3_init 2 none :: ((wsX3_init_r1 ++ wsX3_init_r2) ++ wsX30 ++ wsX10 ++ wsX20 ++ wsX00)
def wsX3_isSheet : List Cond := .code yX3_isSheet cX3_isSheet 1 (some .boolean) :: ([])
def wsX3_refused : List Cond := .code yX3_refused cX3_refused 2 (some .int) :: ([.fieldLink RX3 216 "NineSmells" "latestFault" "I"] ++ wsX30)
def wsX3_isLane : List Cond := .code yX3_isLane cX3_isLane 1 (some .boolean) :: ([])
def wsX3_faulted : List Cond := .code yX3_faulted cX3_faulted 2 (some .int) :: ([.fieldLink RX3 216 "NineSmells" "latestFault" "I"] ++ wsX30)
def wsX3_spanRefusal : List Cond := .code yX3_spanRefusal cX3_spanRefusal 7 (some .int) :: ([.fieldLink RX3 13 "NineSmells" "sheets" "[LNineSmells$Sheet;", .fieldLink RX3 216 "NineSmells" "latestFault" "I", .methodLink RX3 238 yX3_isSheet, .static yX3_isSheet, .initialized RX3, .code yX3_isSheet cX3_isSheet 1 (some .boolean), .methodLink RX3 183 yX3_refused, .instanceMethod yX3_refused, .selects RX3 yX3_refused yX3_refused, .code yX3_refused cX3_refused 2 (some .int), .methodLink RX3 241 yX3_isLane, .static yX3_isLane, .code yX3_isLane cX3_isLane 1 (some .boolean), .methodLink RX3 244 yX3_faulted, .instanceMethod yX3_faulted, .selects RX3 yX3_faulted yX3_faulted, .code yX3_faulted cX3_faulted 2 (some .int), .instanceMethod yX1_lacks, .initialized RX1, .selects RX1 yX1_lacks yX1_lacks, .code yX1_lacks cX1_lacks 4 (some .boolean), .fieldLink RX1 23 "NineSmells$Sheet" "count" "I"] ++ wsX30 ++ wsX10)
def wsX3_kindOf : List Cond := .code yX3_kindOf cX3_kindOf 1 (some .int) :: ([])
def wsX3_goesOn : List Cond := .code yX3_goesOn cX3_goesOn 3 (some .boolean) :: ([.methodLink RX3 97 yX3_kindOf, .static yX3_kindOf, .initialized RX3, .code yX3_kindOf cX3_kindOf 1 (some .int)])
def wsX3_textFault : List Cond := .code yX3_textFault cX3_textFault 4 (some .int) :: ([.methodLink RX3 93 yX3_goesOn, .static yX3_goesOn, .initialized RX3, .code yX3_goesOn cX3_goesOn 3 (some .boolean), .methodLink RX3 97 yX3_kindOf, .static yX3_kindOf, .code yX3_kindOf cX3_kindOf 1 (some .int)] ++ wsX10)
def wsX3_takeText : List Cond := .code yX3_takeText cX3_takeText 8 none :: ([.fieldLink RX3 63 "NineSmells" "signCount" "I", .fieldLink RX3 19 "NineSmells" "signs" "[LNineSmells$Sign;", .methodLink RX3 97 yX3_kindOf, .static yX3_kindOf, .initialized RX3, .code yX3_kindOf cX3_kindOf 1 (some .int)] ++ wsX30 ++ wsX10 ++ wsX20)
def wsX3_startAnew : List Cond := .code yX3_startAnew cX3_startAnew 1 none :: ([.fieldLink RX3 104 "NineSmells" "paperCount" "I", .fieldLink RX3 83 "NineSmells" "thisYear" "I", .fieldLink RX3 80 "NineSmells" "bound" "I", .fieldLink RX3 29 "NineSmells" "halves" "[I", .fieldLink RX3 42 "NineSmells" "newSmell" "[I", .methodLink RX3 107 yJ7_fill_53178, .static yJ7_fill_53178, .initialized RJ7, .code yJ7_fill_53178 cJ7_fill_53178 4 none] ++ wsX30)
def wsX3_register_r1 : List Cond := [Cond.fieldLink RX3 13 "NineSmells" "sheets" "[LNineSmells$Sheet;", Cond.fieldLink RX3 63 "NineSmells" "signCount" "I", Cond.methodLink RX3 48 yX3_spanRefusal, Cond.instanceMethod yX3_spanRefusal, Cond.selects RX3 yX3_spanRefusal yX3_spanRefusal, Cond.initialized RX3, Cond.code yX3_spanRefusal cX3_spanRefusal 7 (some .int), Cond.fieldLink RX3 216 "NineSmells" "latestFault" "I", Cond.methodLink RX3 238 yX3_isSheet, Cond.static yX3_isSheet, Cond.code yX3_isSheet cX3_isSheet 1 (some .boolean), Cond.methodLink RX3 183 yX3_refused, Cond.instanceMethod yX3_refused, Cond.selects RX3 yX3_refused yX3_refused, Cond.code yX3_refused cX3_refused 2 (some .int), Cond.methodLink RX3 241 yX3_isLane, Cond.static yX3_isLane, Cond.code yX3_isLane cX3_isLane 1 (some .boolean), Cond.methodLink RX3 244 yX3_faulted, Cond.instanceMethod yX3_faulted, Cond.selects RX3 yX3_faulted yX3_faulted, Cond.code yX3_faulted cX3_faulted 2 (some .int), Cond.instanceMethod yX1_lacks, Cond.initialized RX1]
def wsX3_register_r2 : List Cond := [Cond.selects RX1 yX1_lacks yX1_lacks, Cond.code yX1_lacks cX1_lacks 4 (some .boolean), Cond.fieldLink RX1 23 "NineSmells$Sheet" "count" "I", Cond.methodLink RX3 52 yX3_textFault, Cond.static yX3_textFault, Cond.code yX3_textFault cX3_textFault 4 (some .int), Cond.methodLink RX3 93 yX3_goesOn, Cond.static yX3_goesOn, Cond.code yX3_goesOn cX3_goesOn 3 (some .boolean), Cond.methodLink RX3 97 yX3_kindOf, Cond.static yX3_kindOf, Cond.code yX3_kindOf cX3_kindOf 1 (some .int), Cond.methodLink RX3 56 yX3_takeText, Cond.instanceMethod yX3_takeText, Cond.selects RX3 yX3_takeText yX3_takeText, Cond.code yX3_takeText cX3_takeText 8 none, Cond.fieldLink RX3 19 "NineSmells" "signs" "[LNineSmells$Sign;", Cond.methodLink RX3 60 yX3_startAnew, Cond.instanceMethod yX3_startAnew, Cond.selects RX3 yX3_startAnew yX3_startAnew, Cond.code yX3_startAnew cX3_startAnew 1 none, Cond.fieldLink RX3 104 "NineSmells" "paperCount" "I", Cond.fieldLink RX3 83 "NineSmells" "thisYear" "I", Cond.fieldLink RX3 80 "NineSmells" "bound" "I"]
def wsX3_register_r3 : List Cond := [Cond.fieldLink RX3 29 "NineSmells" "halves" "[I", Cond.fieldLink RX3 42 "NineSmells" "newSmell" "[I", Cond.methodLink RX3 107 yJ7_fill_53178, Cond.static yJ7_fill_53178, Cond.initialized RJ7, Cond.code yJ7_fill_53178 cJ7_fill_53178 4 none]
def wsX3_register : List Cond := .code yX3_register cX3_register 7 (some .int) :: ((wsX3_register_r1 ++ (wsX3_register_r2 ++ wsX3_register_r3)) ++ wsX30 ++ wsX10 ++ wsX20)
def wsX3_isSmell : List Cond := .code yX3_isSmell cX3_isSmell 1 (some .boolean) :: ([])
def wsX3_half : List Cond := .code yX3_half cX3_half 4 (some .int) :: ([.fieldLink RX3 63 "NineSmells" "signCount" "I", .fieldLink RX3 29 "NineSmells" "halves" "[I", .methodLink RX3 77 yX3_isSmell, .static yX3_isSmell, .initialized RX3, .code yX3_isSmell cX3_isSmell 1 (some .boolean)] ++ wsX30)
def wsX3_bound : List Cond := .code yX3_bound cX3_bound 3 (some .int) :: ([.fieldLink RX3 63 "NineSmells" "signCount" "I", .fieldLink RX3 80 "NineSmells" "bound" "I"] ++ wsX30)
def wsX3_fade : List Cond := .code yX3_fade cX3_fade 8 (some .int) :: ([.fieldLink RX3 29 "NineSmells" "halves" "[I", .methodLink RX3 113 Lib.Math.min.name, .static Lib.Math.min.name, .initialized "java/lang/Math", .code Lib.Math.min.name Lib.Math.min.code 2 (some .int)] ++ wsX30 ++ wsX20)
def wsX3_isSign : List Cond := .code yX3_isSign cX3_isSign 2 (some .boolean) :: ([.fieldLink RX3 63 "NineSmells" "signCount" "I"] ++ wsX30)
def wsX3_areTwoSigns : List Cond := .code yX3_areTwoSigns cX3_areTwoSigns 3 (some .boolean) :: ([.methodLink RX3 67 yX3_isSign, .instanceMethod yX3_isSign, .selects RX3 yX3_isSign yX3_isSign, .initialized RX3, .code yX3_isSign cX3_isSign 2 (some .boolean), .fieldLink RX3 63 "NineSmells" "signCount" "I"] ++ wsX30)
def wsX3_pairNumber : List Cond := .code yX3_pairNumber cX3_pairNumber 2 (some .int) :: ([])
def wsX3_apartOf : List Cond := .code yX3_apartOf cX3_apartOf 4 (some .int) :: ([.methodLink RX3 172 Lib.Math.abs.name, .static Lib.Math.abs.name, .initialized "java/lang/Math", .code Lib.Math.abs.name Lib.Math.abs.code 1 (some .int)])
def wsX3_apart : List Cond := .code yX3_apart cX3_apart 3 (some .int) :: ([.fieldLink RX3 19 "NineSmells" "signs" "[LNineSmells$Sign;", .methodLink RX3 67 yX3_isSign, .instanceMethod yX3_isSign, .selects RX3 yX3_isSign yX3_isSign, .initialized RX3, .code yX3_isSign cX3_isSign 2 (some .boolean), .fieldLink RX3 63 "NineSmells" "signCount" "I", .methodLink RX3 175 yX3_apartOf, .static yX3_apartOf, .code yX3_apartOf cX3_apartOf 4 (some .int), .methodLink RX3 172 Lib.Math.abs.name, .static Lib.Math.abs.name, .initialized "java/lang/Math", .code Lib.Math.abs.name Lib.Math.abs.code 1 (some .int)] ++ wsX30 ++ wsX20)
def wsX3_areAlike : List Cond := .code yX3_areAlike cX3_areAlike 3 (some .boolean) :: ([.fieldLink RX3 80 "NineSmells" "bound" "I", .methodLink RX3 175 yX3_apartOf, .static yX3_apartOf, .initialized RX3, .code yX3_apartOf cX3_apartOf 4 (some .int), .methodLink RX3 172 Lib.Math.abs.name, .static Lib.Math.abs.name, .initialized "java/lang/Math", .code Lib.Math.abs.name Lib.Math.abs.code 1 (some .int)] ++ wsX30)
def wsX3_twins : List Cond := .code yX3_twins cX3_twins 5 (some .int) :: ([.fieldLink RX3 63 "NineSmells" "signCount" "I", .fieldLink RX3 19 "NineSmells" "signs" "[LNineSmells$Sign;", .methodLink RX3 179 yX3_areAlike, .instanceMethod yX3_areAlike, .selects RX3 yX3_areAlike yX3_areAlike, .initialized RX3, .code yX3_areAlike cX3_areAlike 3 (some .boolean), .fieldLink RX3 80 "NineSmells" "bound" "I", .methodLink RX3 175 yX3_apartOf, .static yX3_apartOf, .code yX3_apartOf cX3_apartOf 4 (some .int), .methodLink RX3 172 Lib.Math.abs.name, .static Lib.Math.abs.name, .initialized "java/lang/Math", .code Lib.Math.abs.name Lib.Math.abs.code 1 (some .int), .methodLink RX3 159 yX3_pairNumber, .static yX3_pairNumber, .code yX3_pairNumber cX3_pairNumber 2 (some .int)] ++ wsX30 ++ wsX20)
def wsX3_areStoppers : List Cond := .code yX3_areStoppers cX3_areStoppers 5 (some .boolean) :: ([.methodLink RX3 77 yX3_isSmell, .static yX3_isSmell, .initialized RX3, .code yX3_isSmell cX3_isSmell 1 (some .boolean)] ++ wsX10)
def wsJ6_bitCount_0f7a4 : List Cond := .code yJ6_bitCount_0f7a4 cJ6_bitCount_0f7a4 1 (some .int) :: ([.constant RJ6 265 (1431655765), .constant RJ6 266 (858993459), .constant RJ6 267 (252645135)])
def wsX3_isTakenFor : List Cond := .code yX3_isTakenFor cX3_isTakenFor 7 (some .boolean) :: ([.fieldLink RX3 36 "NineSmells" "strengths" "[I", .fieldLink RX3 19 "NineSmells" "signs" "[LNineSmells$Sign;", .methodLink RX3 179 yX3_areAlike, .instanceMethod yX3_areAlike, .selects RX3 yX3_areAlike yX3_areAlike, .initialized RX3, .code yX3_areAlike cX3_areAlike 3 (some .boolean), .fieldLink RX3 80 "NineSmells" "bound" "I", .methodLink RX3 175 yX3_apartOf, .static yX3_apartOf, .code yX3_apartOf cX3_apartOf 4 (some .int), .methodLink RX3 172 Lib.Math.abs.name, .static Lib.Math.abs.name, .initialized "java/lang/Math", .code Lib.Math.abs.name Lib.Math.abs.code 1 (some .int)] ++ wsX30 ++ wsX20 ++ wsX10)
def wsX3_forged_r1 : List Cond := [Cond.constantLong RX3 186 (2), Cond.fieldLink RX3 13 "NineSmells" "sheets" "[LNineSmells$Sheet;", Cond.methodLink RX3 119 yX3_areTwoSigns, Cond.instanceMethod yX3_areTwoSigns, Cond.selects RX3 yX3_areTwoSigns yX3_areTwoSigns, Cond.initialized RX3, Cond.code yX3_areTwoSigns cX3_areTwoSigns 3 (some .boolean), Cond.methodLink RX3 67 yX3_isSign, Cond.instanceMethod yX3_isSign, Cond.selects RX3 yX3_isSign yX3_isSign, Cond.code yX3_isSign cX3_isSign 2 (some .boolean), Cond.fieldLink RX3 63 "NineSmells" "signCount" "I", Cond.methodLink RX3 183 yX3_refused, Cond.instanceMethod yX3_refused, Cond.selects RX3 yX3_refused yX3_refused, Cond.code yX3_refused cX3_refused 2 (some .int), Cond.fieldLink RX3 216 "NineSmells" "latestFault" "I", Cond.methodLink RX3 48 yX3_spanRefusal, Cond.instanceMethod yX3_spanRefusal, Cond.selects RX3 yX3_spanRefusal yX3_spanRefusal, Cond.code yX3_spanRefusal cX3_spanRefusal 7 (some .int), Cond.methodLink RX3 238 yX3_isSheet, Cond.static yX3_isSheet, Cond.code yX3_isSheet cX3_isSheet 1 (some .boolean)]
def wsX3_forged_r2 : List Cond := [Cond.methodLink RX3 241 yX3_isLane, Cond.static yX3_isLane, Cond.code yX3_isLane cX3_isLane 1 (some .boolean), Cond.methodLink RX3 244 yX3_faulted, Cond.instanceMethod yX3_faulted, Cond.selects RX3 yX3_faulted yX3_faulted, Cond.code yX3_faulted cX3_faulted 2 (some .int), Cond.instanceMethod yX1_lacks, Cond.initialized RX1, Cond.selects RX1 yX1_lacks yX1_lacks, Cond.code yX1_lacks cX1_lacks 4 (some .boolean), Cond.fieldLink RX1 23 "NineSmells$Sheet" "count" "I", Cond.methodLink RX3 188 yX3_areStoppers, Cond.static yX3_areStoppers, Cond.code yX3_areStoppers cX3_areStoppers 5 (some .boolean), Cond.methodLink RX3 77 yX3_isSmell, Cond.static yX3_isSmell, Cond.code yX3_isSmell cX3_isSmell 1 (some .boolean), Cond.methodLink RX3 192 yJ6_bitCount_0f7a4, Cond.static yJ6_bitCount_0f7a4, Cond.initialized RJ6, Cond.code yJ6_bitCount_0f7a4 cJ6_bitCount_0f7a4 1 (some .int), Cond.constant RJ6 265 (1431655765), Cond.constant RJ6 266 (858993459)]
def wsX3_forged_r3 : List Cond := [Cond.constant RJ6 267 (252645135), Cond.methodLink RX3 197 yX3_isTakenFor, Cond.instanceMethod yX3_isTakenFor, Cond.selects RX3 yX3_isTakenFor yX3_isTakenFor, Cond.code yX3_isTakenFor cX3_isTakenFor 7 (some .boolean), Cond.fieldLink RX3 36 "NineSmells" "strengths" "[I", Cond.fieldLink RX3 19 "NineSmells" "signs" "[LNineSmells$Sign;", Cond.methodLink RX3 179 yX3_areAlike, Cond.instanceMethod yX3_areAlike, Cond.selects RX3 yX3_areAlike yX3_areAlike, Cond.code yX3_areAlike cX3_areAlike 3 (some .boolean), Cond.fieldLink RX3 80 "NineSmells" "bound" "I", Cond.methodLink RX3 175 yX3_apartOf, Cond.static yX3_apartOf, Cond.code yX3_apartOf cX3_apartOf 4 (some .int), Cond.methodLink RX3 172 Lib.Math.abs.name, Cond.static Lib.Math.abs.name, Cond.initialized "java/lang/Math", Cond.code Lib.Math.abs.name Lib.Math.abs.code 1 (some .int)]
def wsX3_forged : List Cond := .code yX3_forged cX3_forged 12 (some .int) :: ((wsX3_forged_r1 ++ (wsX3_forged_r2 ++ wsX3_forged_r3)) ++ wsX30 ++ wsX10 ++ wsX20)
def wsX3_strengthNear : List Cond := .code yX3_strengthNear cX3_strengthNear 5 (some .int) :: ([] ++ wsX20)
def wsX3_near : List Cond := .code yX3_near cX3_near 5 (some .int) :: ([.fieldLink RX3 19 "NineSmells" "signs" "[LNineSmells$Sign;", .methodLink RX3 67 yX3_isSign, .instanceMethod yX3_isSign, .selects RX3 yX3_isSign yX3_isSign, .initialized RX3, .code yX3_isSign cX3_isSign 2 (some .boolean), .fieldLink RX3 63 "NineSmells" "signCount" "I", .methodLink RX3 77 yX3_isSmell, .static yX3_isSmell, .code yX3_isSmell cX3_isSmell 1 (some .boolean), .methodLink RX3 201 yX3_strengthNear, .static yX3_strengthNear, .code yX3_strengthNear cX3_strengthNear 5 (some .int)] ++ wsX30 ++ wsX20)
def wsX3_steals_r1 : List Cond := [Cond.fieldLink RX3 36 "NineSmells" "strengths" "[I", Cond.fieldLink RX3 19 "NineSmells" "signs" "[LNineSmells$Sign;", Cond.methodLink RX3 119 yX3_areTwoSigns, Cond.instanceMethod yX3_areTwoSigns, Cond.selects RX3 yX3_areTwoSigns yX3_areTwoSigns, Cond.initialized RX3, Cond.code yX3_areTwoSigns cX3_areTwoSigns 3 (some .boolean), Cond.methodLink RX3 67 yX3_isSign, Cond.instanceMethod yX3_isSign, Cond.selects RX3 yX3_isSign yX3_isSign, Cond.code yX3_isSign cX3_isSign 2 (some .boolean), Cond.fieldLink RX3 63 "NineSmells" "signCount" "I", Cond.methodLink RX3 201 yX3_strengthNear, Cond.static yX3_strengthNear, Cond.code yX3_strengthNear cX3_strengthNear 5 (some .int), Cond.methodLink RX3 179 yX3_areAlike, Cond.instanceMethod yX3_areAlike, Cond.selects RX3 yX3_areAlike yX3_areAlike, Cond.code yX3_areAlike cX3_areAlike 3 (some .boolean), Cond.fieldLink RX3 80 "NineSmells" "bound" "I", Cond.methodLink RX3 175 yX3_apartOf, Cond.static yX3_apartOf, Cond.code yX3_apartOf cX3_apartOf 4 (some .int), Cond.methodLink RX3 172 Lib.Math.abs.name]
def wsX3_steals_r2 : List Cond := [Cond.static Lib.Math.abs.name, Cond.initialized "java/lang/Math", Cond.code Lib.Math.abs.name Lib.Math.abs.code 1 (some .int)]
def wsX3_steals : List Cond := .code yX3_steals cX3_steals 5 (some .int) :: ((wsX3_steals_r1 ++ wsX3_steals_r2) ++ wsX30 ++ wsX20)
def wsX3_leastApart : List Cond := .code yX3_leastApart cX3_leastApart 9 (some .int) :: ([.constant RX3 158 (2147483647), .fieldLink RX3 63 "NineSmells" "signCount" "I", .fieldLink RX3 19 "NineSmells" "signs" "[LNineSmells$Sign;", .methodLink RX3 172 Lib.Math.abs.name, .static Lib.Math.abs.name, .initialized "java/lang/Math", .code Lib.Math.abs.name Lib.Math.abs.code 1 (some .int), .methodLink RX3 113 Lib.Math.min.name, .static Lib.Math.min.name, .code Lib.Math.min.name Lib.Math.min.code 2 (some .int)] ++ wsX30 ++ wsX20)
def wsX3_tryStrengths : List Cond := .code yX3_tryStrengths cX3_tryStrengths 6 none :: ([.fieldLink RX3 42 "NineSmells" "newSmell" "[I", .methodLink RX3 212 yX3_leastApart, .instanceMethod yX3_leastApart, .selects RX3 yX3_leastApart yX3_leastApart, .initialized RX3, .code yX3_leastApart cX3_leastApart 9 (some .int), .constant RX3 158 (2147483647), .fieldLink RX3 63 "NineSmells" "signCount" "I", .fieldLink RX3 19 "NineSmells" "signs" "[LNineSmells$Sign;", .methodLink RX3 172 Lib.Math.abs.name, .static Lib.Math.abs.name, .initialized "java/lang/Math", .code Lib.Math.abs.name Lib.Math.abs.code 1 (some .int), .methodLink RX3 113 Lib.Math.min.name, .static Lib.Math.min.name, .code Lib.Math.min.name Lib.Math.min.code 2 (some .int)] ++ wsX30 ++ wsX20)
def wsX3_seekNewSmell : List Cond := .code yX3_seekNewSmell cX3_seekNewSmell 3 none :: ([.methodLink RX3 208 yX3_tryStrengths, .instanceMethod yX3_tryStrengths, .selects RX3 yX3_tryStrengths yX3_tryStrengths, .initialized RX3, .code yX3_tryStrengths cX3_tryStrengths 6 none, .fieldLink RX3 42 "NineSmells" "newSmell" "[I", .methodLink RX3 212 yX3_leastApart, .instanceMethod yX3_leastApart, .selects RX3 yX3_leastApart yX3_leastApart, .code yX3_leastApart cX3_leastApart 9 (some .int), .constant RX3 158 (2147483647), .fieldLink RX3 63 "NineSmells" "signCount" "I", .fieldLink RX3 19 "NineSmells" "signs" "[LNineSmells$Sign;", .methodLink RX3 172 Lib.Math.abs.name, .static Lib.Math.abs.name, .initialized "java/lang/Math", .code Lib.Math.abs.name Lib.Math.abs.code 1 (some .int), .methodLink RX3 113 Lib.Math.min.name, .static Lib.Math.min.name, .code Lib.Math.min.name Lib.Math.min.code 2 (some .int)] ++ wsX30 ++ wsX20)
def wsX3_fresh : List Cond := .code yX3_fresh cX3_fresh 2 (some .int) :: ([.fieldLink RX3 42 "NineSmells" "newSmell" "[I", .fieldLink RX3 63 "NineSmells" "signCount" "I", .methodLink RX3 205 yX3_seekNewSmell, .instanceMethod yX3_seekNewSmell, .selects RX3 yX3_seekNewSmell yX3_seekNewSmell, .initialized RX3, .code yX3_seekNewSmell cX3_seekNewSmell 3 none, .methodLink RX3 208 yX3_tryStrengths, .instanceMethod yX3_tryStrengths, .selects RX3 yX3_tryStrengths yX3_tryStrengths, .code yX3_tryStrengths cX3_tryStrengths 6 none, .methodLink RX3 212 yX3_leastApart, .instanceMethod yX3_leastApart, .selects RX3 yX3_leastApart yX3_leastApart, .code yX3_leastApart cX3_leastApart 9 (some .int), .constant RX3 158 (2147483647), .fieldLink RX3 19 "NineSmells" "signs" "[LNineSmells$Sign;", .methodLink RX3 172 Lib.Math.abs.name, .static Lib.Math.abs.name, .initialized "java/lang/Math", .code Lib.Math.abs.name Lib.Math.abs.code 1 (some .int), .methodLink RX3 113 Lib.Math.min.name, .static Lib.Math.min.name, .code Lib.Math.min.name Lib.Math.min.code 2 (some .int)] ++ wsX30 ++ wsX20)
def wsX3_isDoor : List Cond := .code yX3_isDoor cX3_isDoor 5 (some .boolean) :: ([] ++ wsX10)
def wsX3_leftFrom : List Cond := .code yX3_leftFrom cX3_leftFrom 8 (some .int) :: ([.methodLink RX3 172 Lib.Math.abs.name, .static Lib.Math.abs.name, .initialized "java/lang/Math", .code Lib.Math.abs.name Lib.Math.abs.code 1 (some .int), .methodLink RX3 86 yX3_fade, .instanceMethod yX3_fade, .selects RX3 yX3_fade yX3_fade, .initialized RX3, .code yX3_fade cX3_fade 8 (some .int), .fieldLink RX3 29 "NineSmells" "halves" "[I", .methodLink RX3 113 Lib.Math.min.name, .static Lib.Math.min.name, .code Lib.Math.min.name Lib.Math.min.code 2 (some .int)] ++ wsX20 ++ wsX10 ++ wsX30)
def wsX3_countHours : List Cond := .code yX3_countHours cX3_countHours 7 (some .int) :: ([.fieldLink RX3 63 "NineSmells" "signCount" "I", .fieldLink RX3 39 "NineSmells" "hours" "[I", .fieldLink RX3 19 "NineSmells" "signs" "[LNineSmells$Sign;", .fieldLink RX3 80 "NineSmells" "bound" "I", .methodLink RX3 234 yX3_leftFrom, .instanceMethod yX3_leftFrom, .selects RX3 yX3_leftFrom yX3_leftFrom, .initialized RX3, .code yX3_leftFrom cX3_leftFrom 8 (some .int), .methodLink RX3 172 Lib.Math.abs.name, .static Lib.Math.abs.name, .initialized "java/lang/Math", .code Lib.Math.abs.name Lib.Math.abs.code 1 (some .int), .methodLink RX3 86 yX3_fade, .instanceMethod yX3_fade, .selects RX3 yX3_fade yX3_fade, .code yX3_fade cX3_fade 8 (some .int), .fieldLink RX3 29 "NineSmells" "halves" "[I", .methodLink RX3 113 Lib.Math.min.name, .static Lib.Math.min.name, .code Lib.Math.min.name Lib.Math.min.code 2 (some .int)] ++ wsX30 ++ wsX20 ++ wsX10)
def wsX3_ofShare : List Cond := .code yX3_ofShare cX3_ofShare 5 (some .int) :: ([])
def wsX3_odds_r1 : List Cond := [Cond.fieldLink RX3 216 "NineSmells" "latestFault" "I", Cond.constantLong RX3 219 (9), Cond.constantLong RX3 221 (-9223372036854775808), Cond.fieldLink RX3 13 "NineSmells" "sheets" "[LNineSmells$Sheet;", Cond.fieldLink RX3 39 "NineSmells" "hours" "[I", Cond.methodLink RX3 67 yX3_isSign, Cond.instanceMethod yX3_isSign, Cond.selects RX3 yX3_isSign yX3_isSign, Cond.initialized RX3, Cond.code yX3_isSign cX3_isSign 2 (some .boolean), Cond.fieldLink RX3 63 "NineSmells" "signCount" "I", Cond.methodLink RX3 48 yX3_spanRefusal, Cond.instanceMethod yX3_spanRefusal, Cond.selects RX3 yX3_spanRefusal yX3_spanRefusal, Cond.code yX3_spanRefusal cX3_spanRefusal 7 (some .int), Cond.methodLink RX3 238 yX3_isSheet, Cond.static yX3_isSheet, Cond.code yX3_isSheet cX3_isSheet 1 (some .boolean), Cond.methodLink RX3 183 yX3_refused, Cond.instanceMethod yX3_refused, Cond.selects RX3 yX3_refused yX3_refused, Cond.code yX3_refused cX3_refused 2 (some .int), Cond.methodLink RX3 241 yX3_isLane, Cond.static yX3_isLane]
def wsX3_odds_r2 : List Cond := [Cond.code yX3_isLane cX3_isLane 1 (some .boolean), Cond.methodLink RX3 244 yX3_faulted, Cond.instanceMethod yX3_faulted, Cond.selects RX3 yX3_faulted yX3_faulted, Cond.code yX3_faulted cX3_faulted 2 (some .int), Cond.instanceMethod yX1_lacks, Cond.initialized RX1, Cond.selects RX1 yX1_lacks yX1_lacks, Cond.code yX1_lacks cX1_lacks 4 (some .boolean), Cond.fieldLink RX1 23 "NineSmells$Sheet" "count" "I", Cond.methodLink RX3 223 yX3_isDoor, Cond.static yX3_isDoor, Cond.code yX3_isDoor cX3_isDoor 5 (some .boolean), Cond.methodLink RX3 226 yX3_countHours, Cond.instanceMethod yX3_countHours, Cond.selects RX3 yX3_countHours yX3_countHours, Cond.code yX3_countHours cX3_countHours 7 (some .int), Cond.fieldLink RX3 19 "NineSmells" "signs" "[LNineSmells$Sign;", Cond.fieldLink RX3 80 "NineSmells" "bound" "I", Cond.methodLink RX3 234 yX3_leftFrom, Cond.instanceMethod yX3_leftFrom, Cond.selects RX3 yX3_leftFrom yX3_leftFrom, Cond.code yX3_leftFrom cX3_leftFrom 8 (some .int), Cond.methodLink RX3 172 Lib.Math.abs.name]
def wsX3_odds_r3 : List Cond := [Cond.static Lib.Math.abs.name, Cond.initialized "java/lang/Math", Cond.code Lib.Math.abs.name Lib.Math.abs.code 1 (some .int), Cond.methodLink RX3 86 yX3_fade, Cond.instanceMethod yX3_fade, Cond.selects RX3 yX3_fade yX3_fade, Cond.code yX3_fade cX3_fade 8 (some .int), Cond.fieldLink RX3 29 "NineSmells" "halves" "[I", Cond.methodLink RX3 113 Lib.Math.min.name, Cond.static Lib.Math.min.name, Cond.code Lib.Math.min.name Lib.Math.min.code 2 (some .int), Cond.methodLink RX3 230 yX3_ofShare, Cond.static yX3_ofShare, Cond.code yX3_ofShare cX3_ofShare 5 (some .int)]
def wsX3_odds : List Cond := .code yX3_odds cX3_odds 8 (some .long) :: ((wsX3_odds_r1 ++ (wsX3_odds_r2 ++ wsX3_odds_r3)) ++ wsX30 ++ wsX10 ++ wsX20)
def wsX3_who_r1 : List Cond := [Cond.constantLong RX3 219 (9), Cond.fieldLink RX3 13 "NineSmells" "sheets" "[LNineSmells$Sheet;", Cond.fieldLink RX3 63 "NineSmells" "signCount" "I", Cond.fieldLink RX3 39 "NineSmells" "hours" "[I", Cond.methodLink RX3 48 yX3_spanRefusal, Cond.instanceMethod yX3_spanRefusal, Cond.selects RX3 yX3_spanRefusal yX3_spanRefusal, Cond.initialized RX3, Cond.code yX3_spanRefusal cX3_spanRefusal 7 (some .int), Cond.fieldLink RX3 216 "NineSmells" "latestFault" "I", Cond.methodLink RX3 238 yX3_isSheet, Cond.static yX3_isSheet, Cond.code yX3_isSheet cX3_isSheet 1 (some .boolean), Cond.methodLink RX3 183 yX3_refused, Cond.instanceMethod yX3_refused, Cond.selects RX3 yX3_refused yX3_refused, Cond.code yX3_refused cX3_refused 2 (some .int), Cond.methodLink RX3 241 yX3_isLane, Cond.static yX3_isLane, Cond.code yX3_isLane cX3_isLane 1 (some .boolean), Cond.methodLink RX3 244 yX3_faulted, Cond.instanceMethod yX3_faulted, Cond.selects RX3 yX3_faulted yX3_faulted, Cond.code yX3_faulted cX3_faulted 2 (some .int)]
def wsX3_who_r2 : List Cond := [Cond.instanceMethod yX1_lacks, Cond.initialized RX1, Cond.selects RX1 yX1_lacks yX1_lacks, Cond.code yX1_lacks cX1_lacks 4 (some .boolean), Cond.fieldLink RX1 23 "NineSmells$Sheet" "count" "I", Cond.methodLink RX3 223 yX3_isDoor, Cond.static yX3_isDoor, Cond.code yX3_isDoor cX3_isDoor 5 (some .boolean), Cond.methodLink RX3 226 yX3_countHours, Cond.instanceMethod yX3_countHours, Cond.selects RX3 yX3_countHours yX3_countHours, Cond.code yX3_countHours cX3_countHours 7 (some .int), Cond.fieldLink RX3 19 "NineSmells" "signs" "[LNineSmells$Sign;", Cond.fieldLink RX3 80 "NineSmells" "bound" "I", Cond.methodLink RX3 234 yX3_leftFrom, Cond.instanceMethod yX3_leftFrom, Cond.selects RX3 yX3_leftFrom yX3_leftFrom, Cond.code yX3_leftFrom cX3_leftFrom 8 (some .int), Cond.methodLink RX3 172 Lib.Math.abs.name, Cond.static Lib.Math.abs.name, Cond.initialized "java/lang/Math", Cond.code Lib.Math.abs.name Lib.Math.abs.code 1 (some .int), Cond.methodLink RX3 86 yX3_fade, Cond.instanceMethod yX3_fade]
def wsX3_who_r3 : List Cond := [Cond.selects RX3 yX3_fade yX3_fade, Cond.code yX3_fade cX3_fade 8 (some .int), Cond.fieldLink RX3 29 "NineSmells" "halves" "[I", Cond.methodLink RX3 113 Lib.Math.min.name, Cond.static Lib.Math.min.name, Cond.code Lib.Math.min.name Lib.Math.min.code 2 (some .int)]
def wsX3_who : List Cond := .code yX3_who cX3_who 9 (some .int) :: ((wsX3_who_r1 ++ (wsX3_who_r2 ++ wsX3_who_r3)) ++ wsX30 ++ wsX10 ++ wsX20)
def wsX3_sheet_r1 : List Cond := [Cond.fieldLink RX3 216 "NineSmells" "latestFault" "I", Cond.fieldLink RX3 13 "NineSmells" "sheets" "[LNineSmells$Sheet;", Cond.methodLink RX3 238 yX3_isSheet, Cond.static yX3_isSheet, Cond.initialized RX3, Cond.code yX3_isSheet cX3_isSheet 1 (some .boolean), Cond.methodLink RX3 183 yX3_refused, Cond.instanceMethod yX3_refused, Cond.selects RX3 yX3_refused yX3_refused, Cond.code yX3_refused cX3_refused 2 (some .int), Cond.methodLink RX3 241 yX3_isLane, Cond.static yX3_isLane, Cond.code yX3_isLane cX3_isLane 1 (some .boolean), Cond.methodLink RX3 244 yX3_faulted, Cond.instanceMethod yX3_faulted, Cond.selects RX3 yX3_faulted yX3_faulted, Cond.code yX3_faulted cX3_faulted 2 (some .int), Cond.instanceMethod yX1_renew, Cond.initialized RX1, Cond.selects RX1 yX1_renew yX1_renew, Cond.code yX1_renew cX1_renew 3 none, Cond.fieldLink RX1 15 "NineSmells$Sheet" "has" "Z", Cond.fieldLink RX1 19 "NineSmells$Sheet" "lane" "I", Cond.fieldLink RX1 23 "NineSmells$Sheet" "count" "I"]
def wsX3_sheet_r2 : List Cond := [Cond.fieldLink RX1 9 "NineSmells$Sheet" "cells" "[I", Cond.methodLink RX1 26 yJ7_fill_53178, Cond.static yJ7_fill_53178, Cond.initialized RJ7, Cond.code yJ7_fill_53178 cJ7_fill_53178 4 none]
def wsX3_sheet : List Cond := .code yX3_sheet cX3_sheet 4 (some .int) :: ((wsX3_sheet_r1 ++ wsX3_sheet_r2) ++ wsX30 ++ wsX10)
def wsX3_put : List Cond := .code yX3_put cX3_put 5 (some .int) :: ([.fieldLink RX3 13 "NineSmells" "sheets" "[LNineSmells$Sheet;", .fieldLink RX3 216 "NineSmells" "latestFault" "I", .methodLink RX3 238 yX3_isSheet, .static yX3_isSheet, .initialized RX3, .code yX3_isSheet cX3_isSheet 1 (some .boolean), .methodLink RX3 183 yX3_refused, .instanceMethod yX3_refused, .selects RX3 yX3_refused yX3_refused, .code yX3_refused cX3_refused 2 (some .int), .methodLink RX3 244 yX3_faulted, .instanceMethod yX3_faulted, .selects RX3 yX3_faulted yX3_faulted, .code yX3_faulted cX3_faulted 2 (some .int), .instanceMethod yX1_lacks, .initialized RX1, .selects RX1 yX1_lacks yX1_lacks, .code yX1_lacks cX1_lacks 4 (some .boolean), .fieldLink RX1 23 "NineSmells$Sheet" "count" "I", .instanceMethod yX1_cut, .selects RX1 yX1_cut yX1_cut, .code yX1_cut cX1_cut 2 (some .int), .fieldLink RX1 19 "NineSmells$Sheet" "lane" "I"] ++ wsX30 ++ wsX10)
def wsX3_cell_r1 : List Cond := [Cond.constantLong RX3 221 (-9223372036854775808), Cond.fieldLink RX3 13 "NineSmells" "sheets" "[LNineSmells$Sheet;", Cond.methodLink RX3 48 yX3_spanRefusal, Cond.instanceMethod yX3_spanRefusal, Cond.selects RX3 yX3_spanRefusal yX3_spanRefusal, Cond.initialized RX3, Cond.code yX3_spanRefusal cX3_spanRefusal 7 (some .int), Cond.fieldLink RX3 216 "NineSmells" "latestFault" "I", Cond.methodLink RX3 238 yX3_isSheet, Cond.static yX3_isSheet, Cond.code yX3_isSheet cX3_isSheet 1 (some .boolean), Cond.methodLink RX3 183 yX3_refused, Cond.instanceMethod yX3_refused, Cond.selects RX3 yX3_refused yX3_refused, Cond.code yX3_refused cX3_refused 2 (some .int), Cond.methodLink RX3 241 yX3_isLane, Cond.static yX3_isLane, Cond.code yX3_isLane cX3_isLane 1 (some .boolean), Cond.methodLink RX3 244 yX3_faulted, Cond.instanceMethod yX3_faulted, Cond.selects RX3 yX3_faulted yX3_faulted, Cond.code yX3_faulted cX3_faulted 2 (some .int), Cond.instanceMethod yX1_lacks, Cond.initialized RX1]
def wsX3_cell_r2 : List Cond := [Cond.selects RX1 yX1_lacks yX1_lacks, Cond.code yX1_lacks cX1_lacks 4 (some .boolean), Cond.fieldLink RX1 23 "NineSmells$Sheet" "count" "I"]
def wsX3_cell : List Cond := .code yX3_cell cX3_cell 4 (some .long) :: ((wsX3_cell_r1 ++ wsX3_cell_r2) ++ wsX30 ++ wsX10)
def wsX3_fault : List Cond := .code yX3_fault cX3_fault 1 (some .int) :: ([.fieldLink RX3 216 "NineSmells" "latestFault" "I"] ++ wsX30)
def wsJ9_abs_0f7a4 : List Cond := .code yJ9_abs_0f7a4 cJ9_abs_0f7a4 1 (some .int) :: ([])
def wsJ9_min_7cf53 : List Cond := .code yJ9_min_7cf53 cJ9_min_7cf53 2 (some .int) :: ([])
def wsL_cell : List Cond := .code yL_cell cL_cell 2 (some .int) :: ([.constant RL 7 (15485863)])
def wsL_low : List Cond := .code yL_low cL_low 2 (some .int) :: ([.constant RL 8 (2147483647)])
def wsL_set : List Cond := .code yL_set cL_set 5 none :: ([])
def wsL_get : List Cond := .code yL_get cL_get 4 (some .int) :: ([])
def wsL_lay_r1 : List Cond := [Cond.methodLink RL 9 yL_cell, Cond.static yL_cell, Cond.initialized RL, Cond.code yL_cell cL_cell 2 (some .int), Cond.constant RL 7 (15485863), Cond.methodLink RL 15 yL_low, Cond.static yL_low, Cond.code yL_low cL_low 2 (some .int), Cond.constant RL 8 (2147483647), Cond.methodLink RL 19 yX3_put, Cond.instanceMethod yX3_put, Cond.selects RX3 yX3_put yX3_put, Cond.initialized RX3, Cond.code yX3_put cX3_put 5 (some .int), Cond.fieldLink RX3 13 "NineSmells" "sheets" "[LNineSmells$Sheet;", Cond.fieldLink RX3 216 "NineSmells" "latestFault" "I", Cond.methodLink RX3 238 yX3_isSheet, Cond.static yX3_isSheet, Cond.code yX3_isSheet cX3_isSheet 1 (some .boolean), Cond.methodLink RX3 183 yX3_refused, Cond.instanceMethod yX3_refused, Cond.selects RX3 yX3_refused yX3_refused, Cond.code yX3_refused cX3_refused 2 (some .int), Cond.methodLink RX3 244 yX3_faulted]
def wsL_lay_r2 : List Cond := [Cond.instanceMethod yX3_faulted, Cond.selects RX3 yX3_faulted yX3_faulted, Cond.code yX3_faulted cX3_faulted 2 (some .int), Cond.instanceMethod yX1_lacks, Cond.initialized RX1, Cond.selects RX1 yX1_lacks yX1_lacks, Cond.code yX1_lacks cX1_lacks 4 (some .boolean), Cond.fieldLink RX1 23 "NineSmells$Sheet" "count" "I", Cond.instanceMethod yX1_cut, Cond.selects RX1 yX1_cut yX1_cut, Cond.code yX1_cut cX1_cut 2 (some .int), Cond.fieldLink RX1 19 "NineSmells$Sheet" "lane" "I", Cond.methodLink RL 25 yL_set, Cond.static yL_set, Cond.code yL_set cL_set 5 none, Cond.methodLink RL 29 yL_get, Cond.static yL_get, Cond.code yL_get cL_get 4 (some .int), Cond.methodLink RL 33 yX3_register, Cond.instanceMethod yX3_register, Cond.selects RX3 yX3_register yX3_register, Cond.code yX3_register cX3_register 7 (some .int), Cond.fieldLink RX3 63 "NineSmells" "signCount" "I", Cond.methodLink RX3 48 yX3_spanRefusal]
def wsL_lay_r3 : List Cond := [Cond.instanceMethod yX3_spanRefusal, Cond.selects RX3 yX3_spanRefusal yX3_spanRefusal, Cond.code yX3_spanRefusal cX3_spanRefusal 7 (some .int), Cond.methodLink RX3 241 yX3_isLane, Cond.static yX3_isLane, Cond.code yX3_isLane cX3_isLane 1 (some .boolean), Cond.methodLink RX3 52 yX3_textFault, Cond.static yX3_textFault, Cond.code yX3_textFault cX3_textFault 4 (some .int), Cond.methodLink RX3 93 yX3_goesOn, Cond.static yX3_goesOn, Cond.code yX3_goesOn cX3_goesOn 3 (some .boolean), Cond.methodLink RX3 97 yX3_kindOf, Cond.static yX3_kindOf, Cond.code yX3_kindOf cX3_kindOf 1 (some .int), Cond.methodLink RX3 56 yX3_takeText, Cond.instanceMethod yX3_takeText, Cond.selects RX3 yX3_takeText yX3_takeText, Cond.code yX3_takeText cX3_takeText 8 none, Cond.fieldLink RX3 19 "NineSmells" "signs" "[LNineSmells$Sign;", Cond.methodLink RX3 60 yX3_startAnew, Cond.instanceMethod yX3_startAnew, Cond.selects RX3 yX3_startAnew yX3_startAnew, Cond.code yX3_startAnew cX3_startAnew 1 none]
def wsL_lay_r4 : List Cond := [Cond.fieldLink RX3 104 "NineSmells" "paperCount" "I", Cond.fieldLink RX3 83 "NineSmells" "thisYear" "I", Cond.fieldLink RX3 80 "NineSmells" "bound" "I", Cond.fieldLink RX3 29 "NineSmells" "halves" "[I", Cond.fieldLink RX3 42 "NineSmells" "newSmell" "[I", Cond.methodLink RX3 107 yJ7_fill_53178, Cond.static yJ7_fill_53178, Cond.initialized RJ7, Cond.code yJ7_fill_53178 cJ7_fill_53178 4 none]
def wsL_lay : List Cond := .code yL_lay cL_lay 14 (some .int) :: ((wsL_lay_r1 ++ (wsL_lay_r2 ++ (wsL_lay_r3 ++ wsL_lay_r4))) ++ wsX30 ++ wsX10 ++ wsX20)
def wsL_off : List Cond := .code yL_off cL_off 2 (some .int) :: ([])
def wsL_fades : List Cond := .code yL_fades cL_fades 8 (some .int) :: ([])
def wsL_apart : List Cond := .code yL_apart cL_apart 6 (some .int) :: ([.methodLink RL 29 yL_get, .static yL_get, .initialized RL, .code yL_get cL_get 4 (some .int), .methodLink RL 45 yL_off, .static yL_off, .code yL_off cL_off 2 (some .int)])
def wsL_bits : List Cond := .code yL_bits cL_bits 3 (some .int) :: ([])
def wsL_law_r1 : List Cond := [Cond.classLink RL 20 RX3, Cond.instantiable RX3 14, Cond.initialized RX3, Cond.arrayClass .int, Cond.constantLong RL 98 (-9223372036854775808), Cond.methodLink RL 52 yX3_init, Cond.instanceMethod yX3_init, Cond.code yX3_init cX3_init 2 none, Cond.methodLink RX3 5 objectInit, Cond.instanceMethod objectInit, Cond.code objectInit ⟨#[0xb1]⟩ 1 none, Cond.classLink RX3 11 RX1, Cond.fieldLink RX3 13 "NineSmells" "sheets" "[LNineSmells$Sheet;", Cond.classLink RX3 17 RX2, Cond.fieldLink RX3 19 "NineSmells" "signs" "[LNineSmells$Sign;", Cond.classLink RX3 23 RX0, Cond.fieldLink RX3 25 "NineSmells" "papers" "[LNineSmells$Paper;", Cond.fieldLink RX3 29 "NineSmells" "halves" "[I", Cond.fieldLink RX3 33 "NineSmells" "smelt" "[I", Cond.fieldLink RX3 36 "NineSmells" "strengths" "[I", Cond.fieldLink RX3 39 "NineSmells" "hours" "[I", Cond.fieldLink RX3 42 "NineSmells" "newSmell" "[I", Cond.instantiable RX1 4, Cond.initialized RX1]
def wsL_law_r2 : List Cond := [Cond.instantiable RX2 3, Cond.initialized RX2, Cond.instantiable RX0 6, Cond.initialized RX0, Cond.instanceMethod yX1_init, Cond.code yX1_init cX1_init 1 none, Cond.methodLink RX1 3 objectInit, Cond.fieldLink RX1 9 "NineSmells$Sheet" "cells" "[I", Cond.instanceMethod yX2_init, Cond.code yX2_init cX2_init 1 none, Cond.methodLink RX2 3 objectInit, Cond.fieldLink RX2 9 "NineSmells$Sign" "strength" "[I", Cond.instanceMethod yX0_init, Cond.code yX0_init cX0_init 1 none, Cond.methodLink RX0 1 objectInit, Cond.methodLink RL 53 yX3_sheet, Cond.instanceMethod yX3_sheet, Cond.selects RX3 yX3_sheet yX3_sheet, Cond.code yX3_sheet cX3_sheet 4 (some .int), Cond.fieldLink RX3 216 "NineSmells" "latestFault" "I", Cond.methodLink RX3 238 yX3_isSheet, Cond.static yX3_isSheet, Cond.code yX3_isSheet cX3_isSheet 1 (some .boolean), Cond.methodLink RX3 183 yX3_refused]
def wsL_law_r3 : List Cond := [Cond.instanceMethod yX3_refused, Cond.selects RX3 yX3_refused yX3_refused, Cond.code yX3_refused cX3_refused 2 (some .int), Cond.methodLink RX3 241 yX3_isLane, Cond.static yX3_isLane, Cond.code yX3_isLane cX3_isLane 1 (some .boolean), Cond.methodLink RX3 244 yX3_faulted, Cond.instanceMethod yX3_faulted, Cond.selects RX3 yX3_faulted yX3_faulted, Cond.code yX3_faulted cX3_faulted 2 (some .int), Cond.instanceMethod yX1_renew, Cond.selects RX1 yX1_renew yX1_renew, Cond.code yX1_renew cX1_renew 3 none, Cond.fieldLink RX1 15 "NineSmells$Sheet" "has" "Z", Cond.fieldLink RX1 19 "NineSmells$Sheet" "lane" "I", Cond.fieldLink RX1 23 "NineSmells$Sheet" "count" "I", Cond.methodLink RX1 26 yJ7_fill_53178, Cond.static yJ7_fill_53178, Cond.initialized RJ7, Cond.code yJ7_fill_53178 cJ7_fill_53178 4 none, Cond.methodLink RL 56 yL_lay, Cond.static yL_lay, Cond.initialized RL, Cond.code yL_lay cL_lay 14 (some .int)]
def wsL_law_r4 : List Cond := [Cond.methodLink RL 9 yL_cell, Cond.static yL_cell, Cond.code yL_cell cL_cell 2 (some .int), Cond.constant RL 7 (15485863), Cond.methodLink RL 15 yL_low, Cond.static yL_low, Cond.code yL_low cL_low 2 (some .int), Cond.constant RL 8 (2147483647), Cond.methodLink RL 19 yX3_put, Cond.instanceMethod yX3_put, Cond.selects RX3 yX3_put yX3_put, Cond.code yX3_put cX3_put 5 (some .int), Cond.instanceMethod yX1_lacks, Cond.selects RX1 yX1_lacks yX1_lacks, Cond.code yX1_lacks cX1_lacks 4 (some .boolean), Cond.instanceMethod yX1_cut, Cond.selects RX1 yX1_cut yX1_cut, Cond.code yX1_cut cX1_cut 2 (some .int), Cond.methodLink RL 25 yL_set, Cond.static yL_set, Cond.code yL_set cL_set 5 none, Cond.methodLink RL 29 yL_get, Cond.static yL_get, Cond.code yL_get cL_get 4 (some .int)]
def wsL_law_r5 : List Cond := [Cond.methodLink RL 33 yX3_register, Cond.instanceMethod yX3_register, Cond.selects RX3 yX3_register yX3_register, Cond.code yX3_register cX3_register 7 (some .int), Cond.fieldLink RX3 63 "NineSmells" "signCount" "I", Cond.methodLink RX3 48 yX3_spanRefusal, Cond.instanceMethod yX3_spanRefusal, Cond.selects RX3 yX3_spanRefusal yX3_spanRefusal, Cond.code yX3_spanRefusal cX3_spanRefusal 7 (some .int), Cond.methodLink RX3 52 yX3_textFault, Cond.static yX3_textFault, Cond.code yX3_textFault cX3_textFault 4 (some .int), Cond.methodLink RX3 93 yX3_goesOn, Cond.static yX3_goesOn, Cond.code yX3_goesOn cX3_goesOn 3 (some .boolean), Cond.methodLink RX3 97 yX3_kindOf, Cond.static yX3_kindOf, Cond.code yX3_kindOf cX3_kindOf 1 (some .int), Cond.methodLink RX3 56 yX3_takeText, Cond.instanceMethod yX3_takeText, Cond.selects RX3 yX3_takeText yX3_takeText, Cond.code yX3_takeText cX3_takeText 8 none, Cond.methodLink RX3 60 yX3_startAnew, Cond.instanceMethod yX3_startAnew]
def wsL_law_r6 : List Cond := [Cond.selects RX3 yX3_startAnew yX3_startAnew, Cond.code yX3_startAnew cX3_startAnew 1 none, Cond.fieldLink RX3 104 "NineSmells" "paperCount" "I", Cond.fieldLink RX3 83 "NineSmells" "thisYear" "I", Cond.fieldLink RX3 80 "NineSmells" "bound" "I", Cond.methodLink RX3 107 yJ7_fill_53178, Cond.methodLink RL 60 yX3_half, Cond.instanceMethod yX3_half, Cond.selects RX3 yX3_half yX3_half, Cond.code yX3_half cX3_half 4 (some .int), Cond.methodLink RX3 77 yX3_isSmell, Cond.static yX3_isSmell, Cond.code yX3_isSmell cX3_isSmell 1 (some .boolean), Cond.methodLink RL 63 yX3_bound, Cond.instanceMethod yX3_bound, Cond.selects RX3 yX3_bound yX3_bound, Cond.code yX3_bound cX3_bound 3 (some .int), Cond.methodLink RL 67 yL_apart, Cond.static yL_apart, Cond.code yL_apart cL_apart 6 (some .int), Cond.methodLink RL 45 yL_off, Cond.static yL_off, Cond.code yL_off cL_off 2 (some .int), Cond.methodLink RL 70 yX3_apart]
def wsL_law_r7 : List Cond := [Cond.instanceMethod yX3_apart, Cond.selects RX3 yX3_apart yX3_apart, Cond.code yX3_apart cX3_apart 3 (some .int), Cond.methodLink RX3 67 yX3_isSign, Cond.instanceMethod yX3_isSign, Cond.selects RX3 yX3_isSign yX3_isSign, Cond.code yX3_isSign cX3_isSign 2 (some .boolean), Cond.methodLink RX3 175 yX3_apartOf, Cond.static yX3_apartOf, Cond.code yX3_apartOf cX3_apartOf 4 (some .int), Cond.methodLink RX3 172 Lib.Math.abs.name, Cond.static Lib.Math.abs.name, Cond.initialized "java/lang/Math", Cond.code Lib.Math.abs.name Lib.Math.abs.code 1 (some .int), Cond.methodLink RL 72 yX3_twins, Cond.instanceMethod yX3_twins, Cond.selects RX3 yX3_twins yX3_twins, Cond.code yX3_twins cX3_twins 5 (some .int), Cond.methodLink RX3 179 yX3_areAlike, Cond.instanceMethod yX3_areAlike, Cond.selects RX3 yX3_areAlike yX3_areAlike, Cond.code yX3_areAlike cX3_areAlike 3 (some .boolean), Cond.methodLink RX3 159 yX3_pairNumber, Cond.static yX3_pairNumber]
def wsL_law_r8 : List Cond := [Cond.code yX3_pairNumber cX3_pairNumber 2 (some .int), Cond.methodLink RL 75 yX3_cell, Cond.instanceMethod yX3_cell, Cond.selects RX3 yX3_cell yX3_cell, Cond.code yX3_cell cX3_cell 4 (some .long), Cond.constantLong RX3 221 (-9223372036854775808), Cond.methodLink RL 78 yL_bits, Cond.static yL_bits, Cond.code yL_bits cL_bits 3 (some .int), Cond.methodLink RL 81 yX3_forged, Cond.instanceMethod yX3_forged, Cond.selects RX3 yX3_forged yX3_forged, Cond.code yX3_forged cX3_forged 12 (some .int), Cond.constantLong RX3 186 (2), Cond.methodLink RX3 119 yX3_areTwoSigns, Cond.instanceMethod yX3_areTwoSigns, Cond.selects RX3 yX3_areTwoSigns yX3_areTwoSigns, Cond.code yX3_areTwoSigns cX3_areTwoSigns 3 (some .boolean), Cond.methodLink RX3 188 yX3_areStoppers, Cond.static yX3_areStoppers, Cond.code yX3_areStoppers cX3_areStoppers 5 (some .boolean), Cond.methodLink RX3 192 yJ6_bitCount_0f7a4, Cond.static yJ6_bitCount_0f7a4, Cond.initialized RJ6]
def wsL_law_r9 : List Cond := [Cond.code yJ6_bitCount_0f7a4 cJ6_bitCount_0f7a4 1 (some .int), Cond.constant RJ6 265 (1431655765), Cond.constant RJ6 266 (858993459), Cond.constant RJ6 267 (252645135), Cond.methodLink RX3 197 yX3_isTakenFor, Cond.instanceMethod yX3_isTakenFor, Cond.selects RX3 yX3_isTakenFor yX3_isTakenFor, Cond.code yX3_isTakenFor cX3_isTakenFor 7 (some .boolean), Cond.methodLink RL 85 yX3_near, Cond.instanceMethod yX3_near, Cond.selects RX3 yX3_near yX3_near, Cond.code yX3_near cX3_near 5 (some .int), Cond.methodLink RX3 201 yX3_strengthNear, Cond.static yX3_strengthNear, Cond.code yX3_strengthNear cX3_strengthNear 5 (some .int), Cond.methodLink RL 88 yX3_steals, Cond.instanceMethod yX3_steals, Cond.selects RX3 yX3_steals yX3_steals, Cond.code yX3_steals cX3_steals 5 (some .int), Cond.methodLink RL 91 yX3_fresh, Cond.instanceMethod yX3_fresh, Cond.selects RX3 yX3_fresh yX3_fresh, Cond.code yX3_fresh cX3_fresh 2 (some .int), Cond.methodLink RX3 205 yX3_seekNewSmell]
def wsL_law_r10 : List Cond := [Cond.instanceMethod yX3_seekNewSmell, Cond.selects RX3 yX3_seekNewSmell yX3_seekNewSmell, Cond.code yX3_seekNewSmell cX3_seekNewSmell 3 none, Cond.methodLink RX3 208 yX3_tryStrengths, Cond.instanceMethod yX3_tryStrengths, Cond.selects RX3 yX3_tryStrengths yX3_tryStrengths, Cond.code yX3_tryStrengths cX3_tryStrengths 6 none, Cond.methodLink RX3 212 yX3_leastApart, Cond.instanceMethod yX3_leastApart, Cond.selects RX3 yX3_leastApart yX3_leastApart, Cond.code yX3_leastApart cX3_leastApart 9 (some .int), Cond.constant RX3 158 (2147483647), Cond.methodLink RX3 113 Lib.Math.min.name, Cond.static Lib.Math.min.name, Cond.code Lib.Math.min.name Lib.Math.min.code 2 (some .int), Cond.methodLink RL 37 yL_fades, Cond.static yL_fades, Cond.code yL_fades cL_fades 8 (some .int), Cond.methodLink RL 94 yX3_odds, Cond.instanceMethod yX3_odds, Cond.selects RX3 yX3_odds yX3_odds, Cond.code yX3_odds cX3_odds 8 (some .long), Cond.constantLong RX3 219 (9), Cond.methodLink RX3 223 yX3_isDoor]
def wsL_law_r11 : List Cond := [Cond.static yX3_isDoor, Cond.code yX3_isDoor cX3_isDoor 5 (some .boolean), Cond.methodLink RX3 226 yX3_countHours, Cond.instanceMethod yX3_countHours, Cond.selects RX3 yX3_countHours yX3_countHours, Cond.code yX3_countHours cX3_countHours 7 (some .int), Cond.methodLink RX3 234 yX3_leftFrom, Cond.instanceMethod yX3_leftFrom, Cond.selects RX3 yX3_leftFrom yX3_leftFrom, Cond.code yX3_leftFrom cX3_leftFrom 8 (some .int), Cond.methodLink RX3 86 yX3_fade, Cond.instanceMethod yX3_fade, Cond.selects RX3 yX3_fade yX3_fade, Cond.code yX3_fade cX3_fade 8 (some .int), Cond.methodLink RX3 230 yX3_ofShare, Cond.static yX3_ofShare, Cond.code yX3_ofShare cX3_ofShare 5 (some .int), Cond.methodLink RL 100 yX3_who, Cond.instanceMethod yX3_who, Cond.selects RX3 yX3_who yX3_who, Cond.code yX3_who cX3_who 9 (some .int), Cond.methodLink RL 103 yX3_fault, Cond.instanceMethod yX3_fault, Cond.selects RX3 yX3_fault yX3_fault]
def wsL_law_r12 : List Cond := [Cond.code yX3_fault cX3_fault 1 (some .int)]
def wsL_law : List Cond := (wsL_law_r1 ++ (wsL_law_r2 ++ (wsL_law_r3 ++ (wsL_law_r4 ++ (wsL_law_r5 ++ (wsL_law_r6 ++ (wsL_law_r7 ++ (wsL_law_r8 ++ (wsL_law_r9 ++ (wsL_law_r10 ++ (wsL_law_r11 ++ wsL_law_r12))))))))))) ++ wsX30 ++ wsX10 ++ wsX20 ++ wsX00 ++ ([] : List Cond)
abbrev vwCl : List vw_C := [(RX0, TX0, 6), (RX1, TX1, 4), (RX2, TX2, 3), (RX3, TX3, 14)]
end
section
theorem tb_t1 {w : Cond} (h : w ∈ tables_1_1) : w ∈ lw_tbl := List.mem_append_right _ (List.mem_append_left _ h)
theorem tb_t2 {w : Cond} (h : w ∈ tables_1_2) : w ∈ lw_tbl := List.mem_append_right _ (List.mem_append_right _ h)
theorem tb_sel {w : Cond} (h : w ∈ k2_sels lw_privs) : w ∈ lw_tbl := List.mem_append_left _ h
theorem tb_s1 {w : Cond} (h : w ∈ k2_sels lw_privs_1) : w ∈ lw_tbl := tb_sel (by unfold lw_privs k2_sels; rw [List.map_append]; exact List.mem_append_left _ h)
theorem tb_s2 {w : Cond} (h : w ∈ k2_sels lw_privs_2) : w ∈ lw_tbl := tb_sel (by unfold lw_privs k2_sels; rw [List.map_append]; exact List.mem_append_right _ h)
set_option maxRecDepth 20000 in
theorem inX0 : ∀ w ∈ wsX00, w ∈ lw_tbl := by
  show ∀ w ∈ [u_lay RX0 TX0 0, u_lay RX0 TX0 1, u_lay RX0 TX0 2, u_lay RX0 TX0 3, u_lay RX0 TX0 4, u_lay RX0 TX0 5], w ∈ lw_tbl
  exact List.forall_mem_cons.mpr ⟨tb_t1 (List.mem_of_getElem? (i := 65) rfl), List.forall_mem_cons.mpr ⟨tb_t1 (List.mem_of_getElem? (i := 67) rfl), List.forall_mem_cons.mpr ⟨tb_t1 (List.mem_of_getElem? (i := 69) rfl), List.forall_mem_cons.mpr ⟨tb_t1 (List.mem_of_getElem? (i := 71) rfl), List.forall_mem_cons.mpr ⟨tb_t1 (List.mem_of_getElem? (i := 73) rfl), List.forall_mem_cons.mpr ⟨tb_t1 (List.mem_of_getElem? (i := 75) rfl), fun _ h => absurd h List.not_mem_nil⟩⟩⟩⟩⟩⟩
set_option maxRecDepth 20000 in
theorem inX1 : ∀ w ∈ wsX10, w ∈ lw_tbl := by
  show ∀ w ∈ [u_lay RX1 TX1 0, u_lay RX1 TX1 1, u_lay RX1 TX1 2, u_lay RX1 TX1 3], w ∈ lw_tbl
  exact List.forall_mem_cons.mpr ⟨tb_t1 (List.mem_of_getElem? (i := 34) rfl), List.forall_mem_cons.mpr ⟨tb_t1 (List.mem_of_getElem? (i := 36) rfl), List.forall_mem_cons.mpr ⟨tb_t1 (List.mem_of_getElem? (i := 38) rfl), List.forall_mem_cons.mpr ⟨tb_t1 (List.mem_of_getElem? (i := 40) rfl), fun _ h => absurd h List.not_mem_nil⟩⟩⟩⟩
set_option maxRecDepth 20000 in
theorem inX2 : ∀ w ∈ wsX20, w ∈ lw_tbl := by
  show ∀ w ∈ [u_lay RX2 TX2 0, u_lay RX2 TX2 1, u_lay RX2 TX2 2], w ∈ lw_tbl
  exact List.forall_mem_cons.mpr ⟨tb_t1 (List.mem_of_getElem? (i := 53) rfl), List.forall_mem_cons.mpr ⟨tb_t1 (List.mem_of_getElem? (i := 55) rfl), List.forall_mem_cons.mpr ⟨tb_t1 (List.mem_of_getElem? (i := 57) rfl), fun _ h => absurd h List.not_mem_nil⟩⟩⟩
set_option maxRecDepth 20000 in
theorem inX3 : ∀ w ∈ wsX30, w ∈ lw_tbl := by
  show ∀ w ∈ [u_lay RX3 TX3 0, u_lay RX3 TX3 1, u_lay RX3 TX3 2, u_lay RX3 TX3 3, u_lay RX3 TX3 4, u_lay RX3 TX3 5, u_lay RX3 TX3 6, u_lay RX3 TX3 7, u_lay RX3 TX3 8, u_lay RX3 TX3 9, u_lay RX3 TX3 10, u_lay RX3 TX3 11, u_lay RX3 TX3 12, u_lay RX3 TX3 13], w ∈ lw_tbl
  exact List.forall_mem_cons.mpr ⟨tb_t1 (List.mem_of_getElem? (i := 91) rfl), List.forall_mem_cons.mpr ⟨tb_t1 (List.mem_of_getElem? (i := 93) rfl), List.forall_mem_cons.mpr ⟨tb_t1 (List.mem_of_getElem? (i := 95) rfl), List.forall_mem_cons.mpr ⟨tb_t1 (List.mem_of_getElem? (i := 97) rfl), List.forall_mem_cons.mpr ⟨tb_t1 (List.mem_of_getElem? (i := 99) rfl), List.forall_mem_cons.mpr ⟨tb_t1 (List.mem_of_getElem? (i := 101) rfl), List.forall_mem_cons.mpr ⟨tb_t1 (List.mem_of_getElem? (i := 103) rfl), List.forall_mem_cons.mpr ⟨tb_t1 (List.mem_of_getElem? (i := 105) rfl), List.forall_mem_cons.mpr ⟨tb_t1 (List.mem_of_getElem? (i := 107) rfl), List.forall_mem_cons.mpr ⟨tb_t1 (List.mem_of_getElem? (i := 109) rfl), List.forall_mem_cons.mpr ⟨tb_t1 (List.mem_of_getElem? (i := 111) rfl), List.forall_mem_cons.mpr ⟨tb_t1 (List.mem_of_getElem? (i := 113) rfl), List.forall_mem_cons.mpr ⟨tb_t1 (List.mem_of_getElem? (i := 115) rfl), List.forall_mem_cons.mpr ⟨tb_t1 (List.mem_of_getElem? (i := 117) rfl), fun _ h => absurd h List.not_mem_nil⟩⟩⟩⟩⟩⟩⟩⟩⟩⟩⟩⟩⟩⟩
set_option maxRecDepth 20000 in
theorem wsL_r1_in : ∀ w ∈ wsL_law_r1, w ∈ lw_tbl := List.forall_mem_cons.mpr ⟨tb_t1 (List.mem_of_getElem? (i := 8) rfl), List.forall_mem_cons.mpr ⟨tb_t1 (List.mem_of_getElem? (i := 9) rfl), List.forall_mem_cons.mpr ⟨tb_t1 (List.mem_of_getElem? (i := 1) rfl), List.forall_mem_cons.mpr ⟨tb_t1 (List.mem_of_getElem? (i := 43) rfl), List.forall_mem_cons.mpr ⟨tb_t2 (List.mem_of_getElem? (i := 97) rfl), List.forall_mem_cons.mpr ⟨tb_t1 (List.mem_of_getElem? (i := 10) rfl), List.forall_mem_cons.mpr ⟨tb_t1 (List.mem_of_getElem? (i := 11) rfl), List.forall_mem_cons.mpr ⟨tb_t1 (List.mem_of_getElem? (i := 12) rfl), List.forall_mem_cons.mpr ⟨tb_t1 (List.mem_of_getElem? (i := 13) rfl), List.forall_mem_cons.mpr ⟨tb_t1 (List.mem_of_getElem? (i := 14) rfl), List.forall_mem_cons.mpr ⟨tb_t1 (List.mem_of_getElem? (i := 15) rfl), List.forall_mem_cons.mpr ⟨tb_t1 (List.mem_of_getElem? (i := 16) rfl), List.forall_mem_cons.mpr ⟨tb_t1 (List.mem_of_getElem? (i := 78) rfl), List.forall_mem_cons.mpr ⟨tb_t1 (List.mem_of_getElem? (i := 18) rfl), List.forall_mem_cons.mpr ⟨tb_t1 (List.mem_of_getElem? (i := 79) rfl), List.forall_mem_cons.mpr ⟨tb_t1 (List.mem_of_getElem? (i := 20) rfl), List.forall_mem_cons.mpr ⟨tb_t1 (List.mem_of_getElem? (i := 80) rfl), List.forall_mem_cons.mpr ⟨tb_t1 (List.mem_of_getElem? (i := 81) rfl), List.forall_mem_cons.mpr ⟨tb_t1 (List.mem_of_getElem? (i := 87) rfl), List.forall_mem_cons.mpr ⟨tb_t1 (List.mem_of_getElem? (i := 88) rfl), List.forall_mem_cons.mpr ⟨tb_t1 (List.mem_of_getElem? (i := 89) rfl), List.forall_mem_cons.mpr ⟨tb_t1 (List.mem_of_getElem? (i := 90) rfl), List.forall_mem_cons.mpr ⟨tb_t1 (List.mem_of_getElem? (i := 22) rfl), List.forall_mem_cons.mpr ⟨tb_t1 (List.mem_of_getElem? (i := 2) rfl), fun _ h => absurd h List.not_mem_nil⟩⟩⟩⟩⟩⟩⟩⟩⟩⟩⟩⟩⟩⟩⟩⟩⟩⟩⟩⟩⟩⟩⟩⟩
set_option maxRecDepth 20000 in
theorem wsL_r2_in : ∀ w ∈ wsL_law_r2, w ∈ lw_tbl := List.forall_mem_cons.mpr ⟨tb_t1 (List.mem_of_getElem? (i := 44) rfl), List.forall_mem_cons.mpr ⟨tb_t1 (List.mem_of_getElem? (i := 3) rfl), List.forall_mem_cons.mpr ⟨tb_t1 (List.mem_of_getElem? (i := 60) rfl), List.forall_mem_cons.mpr ⟨tb_t1 (List.mem_of_getElem? (i := 4) rfl), List.forall_mem_cons.mpr ⟨tb_t1 (List.mem_of_getElem? (i := 24) rfl), List.forall_mem_cons.mpr ⟨tb_t1 (List.mem_of_getElem? (i := 25) rfl), List.forall_mem_cons.mpr ⟨tb_t1 (List.mem_of_getElem? (i := 26) rfl), List.forall_mem_cons.mpr ⟨tb_t1 (List.mem_of_getElem? (i := 32) rfl), List.forall_mem_cons.mpr ⟨tb_t1 (List.mem_of_getElem? (i := 46) rfl), List.forall_mem_cons.mpr ⟨tb_t1 (List.mem_of_getElem? (i := 47) rfl), List.forall_mem_cons.mpr ⟨tb_t1 (List.mem_of_getElem? (i := 48) rfl), List.forall_mem_cons.mpr ⟨tb_t1 (List.mem_of_getElem? (i := 51) rfl), List.forall_mem_cons.mpr ⟨tb_t1 (List.mem_of_getElem? (i := 62) rfl), List.forall_mem_cons.mpr ⟨tb_t1 (List.mem_of_getElem? (i := 63) rfl), List.forall_mem_cons.mpr ⟨tb_t1 (List.mem_of_getElem? (i := 64) rfl), List.forall_mem_cons.mpr ⟨tb_t2 (List.mem_of_getElem? (i := 19) rfl), List.forall_mem_cons.mpr ⟨tb_t2 (List.mem_of_getElem? (i := 20) rfl), List.forall_mem_cons.mpr ⟨tb_t2 (List.mem_of_getElem? (i := 21) rfl), List.forall_mem_cons.mpr ⟨tb_t2 (List.mem_of_getElem? (i := 22) rfl), List.forall_mem_cons.mpr ⟨tb_t1 (List.mem_of_getElem? (i := 86) rfl), List.forall_mem_cons.mpr ⟨tb_t1 (List.mem_of_getElem? (i := 173) rfl), List.forall_mem_cons.mpr ⟨tb_t1 (List.mem_of_getElem? (i := 174) rfl), List.forall_mem_cons.mpr ⟨tb_t1 (List.mem_of_getElem? (i := 175) rfl), List.forall_mem_cons.mpr ⟨tb_t1 (List.mem_of_getElem? (i := 164) rfl), fun _ h => absurd h List.not_mem_nil⟩⟩⟩⟩⟩⟩⟩⟩⟩⟩⟩⟩⟩⟩⟩⟩⟩⟩⟩⟩⟩⟩⟩⟩
set_option maxRecDepth 20000 in
theorem wsL_r3_in : ∀ w ∈ wsL_law_r3, w ∈ lw_tbl := List.forall_mem_cons.mpr ⟨tb_t1 (List.mem_of_getElem? (i := 166) rfl), List.forall_mem_cons.mpr ⟨tb_s1 (List.mem_of_getElem? (i := 3) rfl), List.forall_mem_cons.mpr ⟨tb_t1 (List.mem_of_getElem? (i := 167) rfl), List.forall_mem_cons.mpr ⟨tb_t1 (List.mem_of_getElem? (i := 176) rfl), List.forall_mem_cons.mpr ⟨tb_t1 (List.mem_of_getElem? (i := 177) rfl), List.forall_mem_cons.mpr ⟨tb_t1 (List.mem_of_getElem? (i := 178) rfl), List.forall_mem_cons.mpr ⟨tb_t1 (List.mem_of_getElem? (i := 179) rfl), List.forall_mem_cons.mpr ⟨tb_t1 (List.mem_of_getElem? (i := 181) rfl), List.forall_mem_cons.mpr ⟨tb_s1 (List.mem_of_getElem? (i := 5) rfl), List.forall_mem_cons.mpr ⟨tb_t1 (List.mem_of_getElem? (i := 182) rfl), List.forall_mem_cons.mpr ⟨tb_t2 (List.mem_of_getElem? (i := 25) rfl), List.forall_mem_cons.mpr ⟨tb_s1 (List.mem_of_getElem? (i := 14) rfl), List.forall_mem_cons.mpr ⟨tb_t2 (List.mem_of_getElem? (i := 26) rfl), List.forall_mem_cons.mpr ⟨tb_t1 (List.mem_of_getElem? (i := 27) rfl), List.forall_mem_cons.mpr ⟨tb_t1 (List.mem_of_getElem? (i := 29) rfl), List.forall_mem_cons.mpr ⟨tb_t1 (List.mem_of_getElem? (i := 31) rfl), List.forall_mem_cons.mpr ⟨tb_t2 (List.mem_of_getElem? (i := 27) rfl), List.forall_mem_cons.mpr ⟨tb_t2 (List.mem_of_getElem? (i := 28) rfl), List.forall_mem_cons.mpr ⟨tb_t1 (List.mem_of_getElem? (i := 5) rfl), List.forall_mem_cons.mpr ⟨tb_t2 (List.mem_of_getElem? (i := 29) rfl), List.forall_mem_cons.mpr ⟨tb_t2 (List.mem_of_getElem? (i := 54) rfl), List.forall_mem_cons.mpr ⟨tb_t2 (List.mem_of_getElem? (i := 55) rfl), List.forall_mem_cons.mpr ⟨tb_t1 (List.mem_of_getElem? (i := 0) rfl), List.forall_mem_cons.mpr ⟨tb_t2 (List.mem_of_getElem? (i := 56) rfl), fun _ h => absurd h List.not_mem_nil⟩⟩⟩⟩⟩⟩⟩⟩⟩⟩⟩⟩⟩⟩⟩⟩⟩⟩⟩⟩⟩⟩⟩⟩
set_option maxRecDepth 20000 in
theorem wsL_r4_in : ∀ w ∈ wsL_law_r4, w ∈ lw_tbl := List.forall_mem_cons.mpr ⟨tb_t2 (List.mem_of_getElem? (i := 46) rfl), List.forall_mem_cons.mpr ⟨tb_t2 (List.mem_of_getElem? (i := 47) rfl), List.forall_mem_cons.mpr ⟨tb_t2 (List.mem_of_getElem? (i := 48) rfl), List.forall_mem_cons.mpr ⟨tb_t2 (List.mem_of_getElem? (i := 49) rfl), List.forall_mem_cons.mpr ⟨tb_t2 (List.mem_of_getElem? (i := 50) rfl), List.forall_mem_cons.mpr ⟨tb_t2 (List.mem_of_getElem? (i := 51) rfl), List.forall_mem_cons.mpr ⟨tb_t2 (List.mem_of_getElem? (i := 52) rfl), List.forall_mem_cons.mpr ⟨tb_t2 (List.mem_of_getElem? (i := 53) rfl), List.forall_mem_cons.mpr ⟨tb_t2 (List.mem_of_getElem? (i := 30) rfl), List.forall_mem_cons.mpr ⟨tb_t2 (List.mem_of_getElem? (i := 31) rfl), List.forall_mem_cons.mpr ⟨tb_t2 (List.mem_of_getElem? (i := 32) rfl), List.forall_mem_cons.mpr ⟨tb_t2 (List.mem_of_getElem? (i := 33) rfl), List.forall_mem_cons.mpr ⟨tb_t1 (List.mem_of_getElem? (i := 185) rfl), List.forall_mem_cons.mpr ⟨tb_s1 (List.mem_of_getElem? (i := 6) rfl), List.forall_mem_cons.mpr ⟨tb_t1 (List.mem_of_getElem? (i := 186) rfl), List.forall_mem_cons.mpr ⟨tb_t2 (List.mem_of_getElem? (i := 36) rfl), List.forall_mem_cons.mpr ⟨tb_s1 (List.mem_of_getElem? (i := 15) rfl), List.forall_mem_cons.mpr ⟨tb_t2 (List.mem_of_getElem? (i := 37) rfl), List.forall_mem_cons.mpr ⟨tb_t2 (List.mem_of_getElem? (i := 57) rfl), List.forall_mem_cons.mpr ⟨tb_t2 (List.mem_of_getElem? (i := 58) rfl), List.forall_mem_cons.mpr ⟨tb_t2 (List.mem_of_getElem? (i := 59) rfl), List.forall_mem_cons.mpr ⟨tb_t2 (List.mem_of_getElem? (i := 60) rfl), List.forall_mem_cons.mpr ⟨tb_t2 (List.mem_of_getElem? (i := 61) rfl), List.forall_mem_cons.mpr ⟨tb_t2 (List.mem_of_getElem? (i := 62) rfl), fun _ h => absurd h List.not_mem_nil⟩⟩⟩⟩⟩⟩⟩⟩⟩⟩⟩⟩⟩⟩⟩⟩⟩⟩⟩⟩⟩⟩⟩⟩
set_option maxRecDepth 20000 in
theorem wsL_r5_in : ∀ w ∈ wsL_law_r5, w ∈ lw_tbl := List.forall_mem_cons.mpr ⟨tb_t2 (List.mem_of_getElem? (i := 63) rfl), List.forall_mem_cons.mpr ⟨tb_t2 (List.mem_of_getElem? (i := 64) rfl), List.forall_mem_cons.mpr ⟨tb_t2 (List.mem_of_getElem? (i := 65) rfl), List.forall_mem_cons.mpr ⟨tb_t2 (List.mem_of_getElem? (i := 66) rfl), List.forall_mem_cons.mpr ⟨tb_t1 (List.mem_of_getElem? (i := 82) rfl), List.forall_mem_cons.mpr ⟨tb_t1 (List.mem_of_getElem? (i := 169) rfl), List.forall_mem_cons.mpr ⟨tb_t1 (List.mem_of_getElem? (i := 171) rfl), List.forall_mem_cons.mpr ⟨tb_s1 (List.mem_of_getElem? (i := 4) rfl), List.forall_mem_cons.mpr ⟨tb_t1 (List.mem_of_getElem? (i := 172) rfl), List.forall_mem_cons.mpr ⟨tb_t2 (List.mem_of_getElem? (i := 67) rfl), List.forall_mem_cons.mpr ⟨tb_t2 (List.mem_of_getElem? (i := 68) rfl), List.forall_mem_cons.mpr ⟨tb_t2 (List.mem_of_getElem? (i := 69) rfl), List.forall_mem_cons.mpr ⟨tb_t2 (List.mem_of_getElem? (i := 70) rfl), List.forall_mem_cons.mpr ⟨tb_t2 (List.mem_of_getElem? (i := 71) rfl), List.forall_mem_cons.mpr ⟨tb_t2 (List.mem_of_getElem? (i := 72) rfl), List.forall_mem_cons.mpr ⟨tb_t2 (List.mem_of_getElem? (i := 73) rfl), List.forall_mem_cons.mpr ⟨tb_t2 (List.mem_of_getElem? (i := 74) rfl), List.forall_mem_cons.mpr ⟨tb_t2 (List.mem_of_getElem? (i := 75) rfl), List.forall_mem_cons.mpr ⟨tb_t2 (List.mem_of_getElem? (i := 76) rfl), List.forall_mem_cons.mpr ⟨tb_t2 (List.mem_of_getElem? (i := 78) rfl), List.forall_mem_cons.mpr ⟨tb_s2 (List.mem_of_getElem? (i := 0) rfl), List.forall_mem_cons.mpr ⟨tb_t2 (List.mem_of_getElem? (i := 79) rfl), List.forall_mem_cons.mpr ⟨tb_t2 (List.mem_of_getElem? (i := 80) rfl), List.forall_mem_cons.mpr ⟨tb_t2 (List.mem_of_getElem? (i := 82) rfl), fun _ h => absurd h List.not_mem_nil⟩⟩⟩⟩⟩⟩⟩⟩⟩⟩⟩⟩⟩⟩⟩⟩⟩⟩⟩⟩⟩⟩⟩⟩
set_option maxRecDepth 20000 in
theorem wsL_r6_in : ∀ w ∈ wsL_law_r6, w ∈ lw_tbl := List.forall_mem_cons.mpr ⟨tb_s2 (List.mem_of_getElem? (i := 1) rfl), List.forall_mem_cons.mpr ⟨tb_t2 (List.mem_of_getElem? (i := 83) rfl), List.forall_mem_cons.mpr ⟨tb_t1 (List.mem_of_getElem? (i := 83) rfl), List.forall_mem_cons.mpr ⟨tb_t1 (List.mem_of_getElem? (i := 84) rfl), List.forall_mem_cons.mpr ⟨tb_t1 (List.mem_of_getElem? (i := 85) rfl), List.forall_mem_cons.mpr ⟨tb_t2 (List.mem_of_getElem? (i := 84) rfl), List.forall_mem_cons.mpr ⟨tb_t1 (List.mem_of_getElem? (i := 120) rfl), List.forall_mem_cons.mpr ⟨tb_t1 (List.mem_of_getElem? (i := 121) rfl), List.forall_mem_cons.mpr ⟨tb_t1 (List.mem_of_getElem? (i := 122) rfl), List.forall_mem_cons.mpr ⟨tb_t1 (List.mem_of_getElem? (i := 123) rfl), List.forall_mem_cons.mpr ⟨tb_t1 (List.mem_of_getElem? (i := 124) rfl), List.forall_mem_cons.mpr ⟨tb_t1 (List.mem_of_getElem? (i := 125) rfl), List.forall_mem_cons.mpr ⟨tb_t1 (List.mem_of_getElem? (i := 126) rfl), List.forall_mem_cons.mpr ⟨tb_t1 (List.mem_of_getElem? (i := 127) rfl), List.forall_mem_cons.mpr ⟨tb_t1 (List.mem_of_getElem? (i := 128) rfl), List.forall_mem_cons.mpr ⟨tb_t1 (List.mem_of_getElem? (i := 129) rfl), List.forall_mem_cons.mpr ⟨tb_t1 (List.mem_of_getElem? (i := 130) rfl), List.forall_mem_cons.mpr ⟨tb_t2 (List.mem_of_getElem? (i := 91) rfl), List.forall_mem_cons.mpr ⟨tb_t2 (List.mem_of_getElem? (i := 92) rfl), List.forall_mem_cons.mpr ⟨tb_t2 (List.mem_of_getElem? (i := 93) rfl), List.forall_mem_cons.mpr ⟨tb_t2 (List.mem_of_getElem? (i := 85) rfl), List.forall_mem_cons.mpr ⟨tb_t2 (List.mem_of_getElem? (i := 86) rfl), List.forall_mem_cons.mpr ⟨tb_t2 (List.mem_of_getElem? (i := 87) rfl), List.forall_mem_cons.mpr ⟨tb_t1 (List.mem_of_getElem? (i := 131) rfl), fun _ h => absurd h List.not_mem_nil⟩⟩⟩⟩⟩⟩⟩⟩⟩⟩⟩⟩⟩⟩⟩⟩⟩⟩⟩⟩⟩⟩⟩⟩
set_option maxRecDepth 20000 in
theorem wsL_r7_in : ∀ w ∈ wsL_law_r7, w ∈ lw_tbl := List.forall_mem_cons.mpr ⟨tb_t1 (List.mem_of_getElem? (i := 132) rfl), List.forall_mem_cons.mpr ⟨tb_t1 (List.mem_of_getElem? (i := 133) rfl), List.forall_mem_cons.mpr ⟨tb_t1 (List.mem_of_getElem? (i := 134) rfl), List.forall_mem_cons.mpr ⟨tb_t1 (List.mem_of_getElem? (i := 135) rfl), List.forall_mem_cons.mpr ⟨tb_t1 (List.mem_of_getElem? (i := 137) rfl), List.forall_mem_cons.mpr ⟨tb_s1 (List.mem_of_getElem? (i := 0) rfl), List.forall_mem_cons.mpr ⟨tb_t1 (List.mem_of_getElem? (i := 138) rfl), List.forall_mem_cons.mpr ⟨tb_t1 (List.mem_of_getElem? (i := 139) rfl), List.forall_mem_cons.mpr ⟨tb_t1 (List.mem_of_getElem? (i := 140) rfl), List.forall_mem_cons.mpr ⟨tb_t1 (List.mem_of_getElem? (i := 141) rfl), List.forall_mem_cons.mpr ⟨tb_t1 (List.mem_of_getElem? (i := 142) rfl), List.forall_mem_cons.mpr ⟨tb_t1 (List.mem_of_getElem? (i := 143) rfl), List.forall_mem_cons.mpr ⟨tb_t1 (List.mem_of_getElem? (i := 6) rfl), List.forall_mem_cons.mpr ⟨tb_t1 (List.mem_of_getElem? (i := 144) rfl), List.forall_mem_cons.mpr ⟨tb_t1 (List.mem_of_getElem? (i := 145) rfl), List.forall_mem_cons.mpr ⟨tb_t1 (List.mem_of_getElem? (i := 146) rfl), List.forall_mem_cons.mpr ⟨tb_t1 (List.mem_of_getElem? (i := 147) rfl), List.forall_mem_cons.mpr ⟨tb_t1 (List.mem_of_getElem? (i := 148) rfl), List.forall_mem_cons.mpr ⟨tb_t1 (List.mem_of_getElem? (i := 149) rfl), List.forall_mem_cons.mpr ⟨tb_t1 (List.mem_of_getElem? (i := 151) rfl), List.forall_mem_cons.mpr ⟨tb_s1 (List.mem_of_getElem? (i := 1) rfl), List.forall_mem_cons.mpr ⟨tb_t1 (List.mem_of_getElem? (i := 152) rfl), List.forall_mem_cons.mpr ⟨tb_t1 (List.mem_of_getElem? (i := 153) rfl), List.forall_mem_cons.mpr ⟨tb_t1 (List.mem_of_getElem? (i := 154) rfl), fun _ h => absurd h List.not_mem_nil⟩⟩⟩⟩⟩⟩⟩⟩⟩⟩⟩⟩⟩⟩⟩⟩⟩⟩⟩⟩⟩⟩⟩⟩
set_option maxRecDepth 20000 in
theorem wsL_r8_in : ∀ w ∈ wsL_law_r8, w ∈ lw_tbl := List.forall_mem_cons.mpr ⟨tb_t1 (List.mem_of_getElem? (i := 155) rfl), List.forall_mem_cons.mpr ⟨tb_t2 (List.mem_of_getElem? (i := 38) rfl), List.forall_mem_cons.mpr ⟨tb_t2 (List.mem_of_getElem? (i := 39) rfl), List.forall_mem_cons.mpr ⟨tb_t2 (List.mem_of_getElem? (i := 40) rfl), List.forall_mem_cons.mpr ⟨tb_t2 (List.mem_of_getElem? (i := 41) rfl), List.forall_mem_cons.mpr ⟨tb_t1 (List.mem_of_getElem? (i := 236) rfl), List.forall_mem_cons.mpr ⟨tb_t2 (List.mem_of_getElem? (i := 94) rfl), List.forall_mem_cons.mpr ⟨tb_t2 (List.mem_of_getElem? (i := 95) rfl), List.forall_mem_cons.mpr ⟨tb_t2 (List.mem_of_getElem? (i := 96) rfl), List.forall_mem_cons.mpr ⟨tb_t1 (List.mem_of_getElem? (i := 156) rfl), List.forall_mem_cons.mpr ⟨tb_t1 (List.mem_of_getElem? (i := 157) rfl), List.forall_mem_cons.mpr ⟨tb_t1 (List.mem_of_getElem? (i := 158) rfl), List.forall_mem_cons.mpr ⟨tb_t1 (List.mem_of_getElem? (i := 159) rfl), List.forall_mem_cons.mpr ⟨tb_t1 (List.mem_of_getElem? (i := 168) rfl), List.forall_mem_cons.mpr ⟨tb_t1 (List.mem_of_getElem? (i := 160) rfl), List.forall_mem_cons.mpr ⟨tb_t1 (List.mem_of_getElem? (i := 162) rfl), List.forall_mem_cons.mpr ⟨tb_s1 (List.mem_of_getElem? (i := 2) rfl), List.forall_mem_cons.mpr ⟨tb_t1 (List.mem_of_getElem? (i := 163) rfl), List.forall_mem_cons.mpr ⟨tb_t1 (List.mem_of_getElem? (i := 187) rfl), List.forall_mem_cons.mpr ⟨tb_t1 (List.mem_of_getElem? (i := 188) rfl), List.forall_mem_cons.mpr ⟨tb_t1 (List.mem_of_getElem? (i := 189) rfl), List.forall_mem_cons.mpr ⟨tb_t1 (List.mem_of_getElem? (i := 190) rfl), List.forall_mem_cons.mpr ⟨tb_t1 (List.mem_of_getElem? (i := 191) rfl), List.forall_mem_cons.mpr ⟨tb_t1 (List.mem_of_getElem? (i := 7) rfl), fun _ h => absurd h List.not_mem_nil⟩⟩⟩⟩⟩⟩⟩⟩⟩⟩⟩⟩⟩⟩⟩⟩⟩⟩⟩⟩⟩⟩⟩⟩
set_option maxRecDepth 20000 in
theorem wsL_r9_in : ∀ w ∈ wsL_law_r9, w ∈ lw_tbl := List.forall_mem_cons.mpr ⟨tb_t1 (List.mem_of_getElem? (i := 192) rfl), List.forall_mem_cons.mpr ⟨tb_t1 (List.mem_of_getElem? (i := 193) rfl), List.forall_mem_cons.mpr ⟨tb_t1 (List.mem_of_getElem? (i := 194) rfl), List.forall_mem_cons.mpr ⟨tb_t1 (List.mem_of_getElem? (i := 195) rfl), List.forall_mem_cons.mpr ⟨tb_t1 (List.mem_of_getElem? (i := 196) rfl), List.forall_mem_cons.mpr ⟨tb_t1 (List.mem_of_getElem? (i := 198) rfl), List.forall_mem_cons.mpr ⟨tb_s1 (List.mem_of_getElem? (i := 7) rfl), List.forall_mem_cons.mpr ⟨tb_t1 (List.mem_of_getElem? (i := 199) rfl), List.forall_mem_cons.mpr ⟨tb_t1 (List.mem_of_getElem? (i := 200) rfl), List.forall_mem_cons.mpr ⟨tb_t1 (List.mem_of_getElem? (i := 201) rfl), List.forall_mem_cons.mpr ⟨tb_t1 (List.mem_of_getElem? (i := 202) rfl), List.forall_mem_cons.mpr ⟨tb_t1 (List.mem_of_getElem? (i := 203) rfl), List.forall_mem_cons.mpr ⟨tb_t1 (List.mem_of_getElem? (i := 204) rfl), List.forall_mem_cons.mpr ⟨tb_t1 (List.mem_of_getElem? (i := 205) rfl), List.forall_mem_cons.mpr ⟨tb_t1 (List.mem_of_getElem? (i := 206) rfl), List.forall_mem_cons.mpr ⟨tb_t1 (List.mem_of_getElem? (i := 207) rfl), List.forall_mem_cons.mpr ⟨tb_t1 (List.mem_of_getElem? (i := 208) rfl), List.forall_mem_cons.mpr ⟨tb_t1 (List.mem_of_getElem? (i := 209) rfl), List.forall_mem_cons.mpr ⟨tb_t1 (List.mem_of_getElem? (i := 210) rfl), List.forall_mem_cons.mpr ⟨tb_t1 (List.mem_of_getElem? (i := 211) rfl), List.forall_mem_cons.mpr ⟨tb_t1 (List.mem_of_getElem? (i := 212) rfl), List.forall_mem_cons.mpr ⟨tb_t1 (List.mem_of_getElem? (i := 213) rfl), List.forall_mem_cons.mpr ⟨tb_t1 (List.mem_of_getElem? (i := 214) rfl), List.forall_mem_cons.mpr ⟨tb_t1 (List.mem_of_getElem? (i := 215) rfl), fun _ h => absurd h List.not_mem_nil⟩⟩⟩⟩⟩⟩⟩⟩⟩⟩⟩⟩⟩⟩⟩⟩⟩⟩⟩⟩⟩⟩⟩⟩
set_option maxRecDepth 20000 in
theorem wsL_r10_in : ∀ w ∈ wsL_law_r10, w ∈ lw_tbl := List.forall_mem_cons.mpr ⟨tb_t1 (List.mem_of_getElem? (i := 217) rfl), List.forall_mem_cons.mpr ⟨tb_s1 (List.mem_of_getElem? (i := 8) rfl), List.forall_mem_cons.mpr ⟨tb_t1 (List.mem_of_getElem? (i := 218) rfl), List.forall_mem_cons.mpr ⟨tb_t1 (List.mem_of_getElem? (i := 219) rfl), List.forall_mem_cons.mpr ⟨tb_t1 (List.mem_of_getElem? (i := 221) rfl), List.forall_mem_cons.mpr ⟨tb_s1 (List.mem_of_getElem? (i := 9) rfl), List.forall_mem_cons.mpr ⟨tb_t1 (List.mem_of_getElem? (i := 222) rfl), List.forall_mem_cons.mpr ⟨tb_t1 (List.mem_of_getElem? (i := 223) rfl), List.forall_mem_cons.mpr ⟨tb_t1 (List.mem_of_getElem? (i := 225) rfl), List.forall_mem_cons.mpr ⟨tb_s1 (List.mem_of_getElem? (i := 10) rfl), List.forall_mem_cons.mpr ⟨tb_t1 (List.mem_of_getElem? (i := 226) rfl), List.forall_mem_cons.mpr ⟨tb_t1 (List.mem_of_getElem? (i := 227) rfl), List.forall_mem_cons.mpr ⟨tb_t1 (List.mem_of_getElem? (i := 228) rfl), List.forall_mem_cons.mpr ⟨tb_t1 (List.mem_of_getElem? (i := 229) rfl), List.forall_mem_cons.mpr ⟨tb_t1 (List.mem_of_getElem? (i := 230) rfl), List.forall_mem_cons.mpr ⟨tb_t2 (List.mem_of_getElem? (i := 88) rfl), List.forall_mem_cons.mpr ⟨tb_t2 (List.mem_of_getElem? (i := 89) rfl), List.forall_mem_cons.mpr ⟨tb_t2 (List.mem_of_getElem? (i := 90) rfl), List.forall_mem_cons.mpr ⟨tb_t1 (List.mem_of_getElem? (i := 231) rfl), List.forall_mem_cons.mpr ⟨tb_t1 (List.mem_of_getElem? (i := 232) rfl), List.forall_mem_cons.mpr ⟨tb_t1 (List.mem_of_getElem? (i := 233) rfl), List.forall_mem_cons.mpr ⟨tb_t1 (List.mem_of_getElem? (i := 234) rfl), List.forall_mem_cons.mpr ⟨tb_t1 (List.mem_of_getElem? (i := 235) rfl), List.forall_mem_cons.mpr ⟨tb_t1 (List.mem_of_getElem? (i := 237) rfl), fun _ h => absurd h List.not_mem_nil⟩⟩⟩⟩⟩⟩⟩⟩⟩⟩⟩⟩⟩⟩⟩⟩⟩⟩⟩⟩⟩⟩⟩⟩
set_option maxRecDepth 20000 in
theorem wsL_r11_in : ∀ w ∈ wsL_law_r11, w ∈ lw_tbl := List.forall_mem_cons.mpr ⟨tb_t1 (List.mem_of_getElem? (i := 238) rfl), List.forall_mem_cons.mpr ⟨tb_t1 (List.mem_of_getElem? (i := 239) rfl), List.forall_mem_cons.mpr ⟨tb_t2 (List.mem_of_getElem? (i := 0) rfl), List.forall_mem_cons.mpr ⟨tb_t2 (List.mem_of_getElem? (i := 2) rfl), List.forall_mem_cons.mpr ⟨tb_s1 (List.mem_of_getElem? (i := 11) rfl), List.forall_mem_cons.mpr ⟨tb_t2 (List.mem_of_getElem? (i := 3) rfl), List.forall_mem_cons.mpr ⟨tb_t2 (List.mem_of_getElem? (i := 4) rfl), List.forall_mem_cons.mpr ⟨tb_t2 (List.mem_of_getElem? (i := 6) rfl), List.forall_mem_cons.mpr ⟨tb_s1 (List.mem_of_getElem? (i := 12) rfl), List.forall_mem_cons.mpr ⟨tb_t2 (List.mem_of_getElem? (i := 7) rfl), List.forall_mem_cons.mpr ⟨tb_t2 (List.mem_of_getElem? (i := 8) rfl), List.forall_mem_cons.mpr ⟨tb_t2 (List.mem_of_getElem? (i := 10) rfl), List.forall_mem_cons.mpr ⟨tb_s1 (List.mem_of_getElem? (i := 13) rfl), List.forall_mem_cons.mpr ⟨tb_t2 (List.mem_of_getElem? (i := 11) rfl), List.forall_mem_cons.mpr ⟨tb_t2 (List.mem_of_getElem? (i := 12) rfl), List.forall_mem_cons.mpr ⟨tb_t2 (List.mem_of_getElem? (i := 13) rfl), List.forall_mem_cons.mpr ⟨tb_t2 (List.mem_of_getElem? (i := 14) rfl), List.forall_mem_cons.mpr ⟨tb_t2 (List.mem_of_getElem? (i := 15) rfl), List.forall_mem_cons.mpr ⟨tb_t2 (List.mem_of_getElem? (i := 16) rfl), List.forall_mem_cons.mpr ⟨tb_t2 (List.mem_of_getElem? (i := 17) rfl), List.forall_mem_cons.mpr ⟨tb_t2 (List.mem_of_getElem? (i := 18) rfl), List.forall_mem_cons.mpr ⟨tb_t2 (List.mem_of_getElem? (i := 42) rfl), List.forall_mem_cons.mpr ⟨tb_t2 (List.mem_of_getElem? (i := 43) rfl), List.forall_mem_cons.mpr ⟨tb_t2 (List.mem_of_getElem? (i := 44) rfl), fun _ h => absurd h List.not_mem_nil⟩⟩⟩⟩⟩⟩⟩⟩⟩⟩⟩⟩⟩⟩⟩⟩⟩⟩⟩⟩⟩⟩⟩⟩
set_option maxRecDepth 20000 in
theorem wsL_r12_in : ∀ w ∈ wsL_law_r12, w ∈ lw_tbl := List.forall_mem_cons.mpr ⟨tb_t2 (List.mem_of_getElem? (i := 45) rfl), fun _ h => absurd h List.not_mem_nil⟩
theorem wsL_law_in : ∀ w ∈ wsL_law, w ∈ lw_tbl := List.forall_mem_append.mpr ⟨List.forall_mem_append.mpr ⟨List.forall_mem_append.mpr ⟨List.forall_mem_append.mpr ⟨List.forall_mem_append.mpr ⟨List.forall_mem_append.mpr ⟨wsL_r1_in, List.forall_mem_append.mpr ⟨wsL_r2_in, List.forall_mem_append.mpr ⟨wsL_r3_in, List.forall_mem_append.mpr ⟨wsL_r4_in, List.forall_mem_append.mpr ⟨wsL_r5_in, List.forall_mem_append.mpr ⟨wsL_r6_in, List.forall_mem_append.mpr ⟨wsL_r7_in, List.forall_mem_append.mpr ⟨wsL_r8_in, List.forall_mem_append.mpr ⟨wsL_r9_in, List.forall_mem_append.mpr ⟨wsL_r10_in, List.forall_mem_append.mpr ⟨wsL_r11_in, wsL_r12_in⟩⟩⟩⟩⟩⟩⟩⟩⟩⟩⟩, inX3⟩, inX1⟩, inX2⟩, inX0⟩, fun _ h => absurd h List.not_mem_nil⟩
theorem inlX0 : ∀ w ∈ wsX00, w ∈ wsL_law := fun _ h => List.mem_append_left _ (List.mem_append_right _ h)
theorem inlX1 : ∀ w ∈ wsX10, w ∈ wsL_law := fun _ h => List.mem_append_left _ (List.mem_append_left _ (List.mem_append_left _ (List.mem_append_right _ h)))
theorem inlX2 : ∀ w ∈ wsX20, w ∈ wsL_law := fun _ h => List.mem_append_left _ (List.mem_append_left _ (List.mem_append_right _ h))
theorem inlX3 : ∀ w ∈ wsX30, w ∈ wsL_law := fun _ h => List.mem_append_left _ (List.mem_append_left _ (List.mem_append_left _ (List.mem_append_left _ (List.mem_append_right _ h))))
end
section
theorem dX0_init_0 : decode cX0_init 0 = .ok (.aload_n 0, 1) := by decide +kernel
theorem dX0_init_1 : decode cX0_init 1 = .ok (.invokespecial 1, 3) := by decide +kernel
theorem dX0_init_4 : decode cX0_init 4 = .ok (.return_, 1) := by decide +kernel
theorem dX1_init_0 : decode cX1_init 0 = .ok (.aload_n 0, 1) := by decide +kernel
theorem dX1_init_1 : decode cX1_init 1 = .ok (.invokespecial 3, 3) := by decide +kernel
theorem dX1_init_4 : decode cX1_init 4 = .ok (.aload_n 0, 1) := by decide +kernel
theorem dX1_init_5 : decode cX1_init 5 = .ok (.bipush 90, 2) := by decide +kernel
theorem dX1_init_7 : decode cX1_init 7 = .ok (.newarray .int, 2) := by decide +kernel
theorem dX1_init_9 : decode cX1_init 9 = .ok (.putfield 9, 3) := by decide +kernel
theorem dX1_init_12 : decode cX1_init 12 = .ok (.return_, 1) := by decide +kernel
set_option maxRecDepth 20000 in
theorem ggX1_renew_J7_fill_53178 : GoodIn wsX1_renew wsJ7_fill_53178 := goodIn_r _ [8] (by decide +kernel) (by decide +kernel)
set_option maxRecDepth 20000 in
theorem gX1_renew_J7_fill_53178 : GoodIn wsX1_renew (va_wsS RX1 26 yJ7_fill_53178 wsJ7_fill_53178) := goodIn_app (goodIn_of _ (by decide +kernel)) ggX1_renew_J7_fill_53178
theorem dX1_renew_0 : decode cX1_renew 0 = .ok (.aload_n 0, 1) := by decide +kernel
theorem dX1_renew_1 : decode cX1_renew 1 = .ok (.iconst 1, 1) := by decide +kernel
theorem dX1_renew_2 : decode cX1_renew 2 = .ok (.putfield 15, 3) := by decide +kernel
theorem dX1_renew_5 : decode cX1_renew 5 = .ok (.aload_n 0, 1) := by decide +kernel
theorem dX1_renew_6 : decode cX1_renew 6 = .ok (.iload_n 1, 1) := by decide +kernel
theorem dX1_renew_7 : decode cX1_renew 7 = .ok (.putfield 19, 3) := by decide +kernel
theorem dX1_renew_10 : decode cX1_renew 10 = .ok (.aload_n 0, 1) := by decide +kernel
theorem dX1_renew_11 : decode cX1_renew 11 = .ok (.iload_n 2, 1) := by decide +kernel
theorem dX1_renew_12 : decode cX1_renew 12 = .ok (.putfield 23, 3) := by decide +kernel
theorem dX1_renew_15 : decode cX1_renew 15 = .ok (.aload_n 0, 1) := by decide +kernel
theorem dX1_renew_16 : decode cX1_renew 16 = .ok (.getfield 9, 3) := by decide +kernel
theorem dX1_renew_19 : decode cX1_renew 19 = .ok (.iconst 0, 1) := by decide +kernel
theorem dX1_renew_20 : decode cX1_renew 20 = .ok (.invokestatic 26, 3) := by decide +kernel
theorem dX1_renew_23 : decode cX1_renew 23 = .ok (.return_, 1) := by decide +kernel
theorem dX1_cut_0 : decode cX1_cut 0 = .ok (.aload_n 0, 1) := by decide +kernel
theorem dX1_cut_1 : decode cX1_cut 1 = .ok (.getfield 19, 3) := by decide +kernel
theorem dX1_cut_4 : decode cX1_cut 4 = .ok (.ifCond .ne 6, 3) := by decide +kernel
theorem dX1_cut_7 : decode cX1_cut 7 = .ok (.iload_n 1, 1) := by decide +kernel
theorem dX1_cut_8 : decode cX1_cut 8 = .ok (.i2b, 1) := by decide +kernel
theorem dX1_cut_9 : decode cX1_cut 9 = .ok (.ireturn, 1) := by decide +kernel
theorem dX1_cut_10 : decode cX1_cut 10 = .ok (.aload_n 0, 1) := by decide +kernel
theorem dX1_cut_11 : decode cX1_cut 11 = .ok (.getfield 19, 3) := by decide +kernel
theorem dX1_cut_14 : decode cX1_cut 14 = .ok (.iconst 1, 1) := by decide +kernel
theorem dX1_cut_15 : decode cX1_cut 15 = .ok (.if_icmp .ne 8, 3) := by decide +kernel
theorem dX1_cut_18 : decode cX1_cut 18 = .ok (.iload_n 1, 1) := by decide +kernel
theorem dX1_cut_19 : decode cX1_cut 19 = .ok (.i2s, 1) := by decide +kernel
theorem dX1_cut_20 : decode cX1_cut 20 = .ok (.goto 4, 3) := by decide +kernel
theorem dX1_cut_23 : decode cX1_cut 23 = .ok (.iload_n 1, 1) := by decide +kernel
theorem dX1_cut_24 : decode cX1_cut 24 = .ok (.ireturn, 1) := by decide +kernel
theorem dX1_lacks_0 : decode cX1_lacks 0 = .ok (.iload_n 1, 1) := by decide +kernel
theorem dX1_lacks_1 : decode cX1_lacks 1 = .ok (.ifCond .lt 16, 3) := by decide +kernel
theorem dX1_lacks_4 : decode cX1_lacks 4 = .ok (.iload_n 1, 1) := by decide +kernel
theorem dX1_lacks_5 : decode cX1_lacks 5 = .ok (.i2l, 1) := by decide +kernel
theorem dX1_lacks_6 : decode cX1_lacks 6 = .ok (.lload_n 2, 1) := by decide +kernel
theorem dX1_lacks_7 : decode cX1_lacks 7 = .ok (.ladd, 1) := by decide +kernel
theorem dX1_lacks_8 : decode cX1_lacks 8 = .ok (.aload_n 0, 1) := by decide +kernel
theorem dX1_lacks_9 : decode cX1_lacks 9 = .ok (.getfield 23, 3) := by decide +kernel
theorem dX1_lacks_12 : decode cX1_lacks 12 = .ok (.i2l, 1) := by decide +kernel
theorem dX1_lacks_13 : decode cX1_lacks 13 = .ok (.lcmp, 1) := by decide +kernel
theorem dX1_lacks_14 : decode cX1_lacks 14 = .ok (.ifCond .le 7, 3) := by decide +kernel
theorem dX1_lacks_17 : decode cX1_lacks 17 = .ok (.iconst 1, 1) := by decide +kernel
theorem dX1_lacks_18 : decode cX1_lacks 18 = .ok (.goto 4, 3) := by decide +kernel
theorem dX1_lacks_21 : decode cX1_lacks 21 = .ok (.iconst 0, 1) := by decide +kernel
theorem dX1_lacks_22 : decode cX1_lacks 22 = .ok (.ireturn, 1) := by decide +kernel
theorem dX2_init_0 : decode cX2_init 0 = .ok (.aload_n 0, 1) := by decide +kernel
theorem dX2_init_1 : decode cX2_init 1 = .ok (.invokespecial 3, 3) := by decide +kernel
theorem dX2_init_4 : decode cX2_init 4 = .ok (.aload_n 0, 1) := by decide +kernel
theorem dX2_init_5 : decode cX2_init 5 = .ok (.bipush 9, 2) := by decide +kernel
theorem dX2_init_7 : decode cX2_init 7 = .ok (.newarray .int, 2) := by decide +kernel
theorem dX2_init_9 : decode cX2_init 9 = .ok (.putfield 9, 3) := by decide +kernel
theorem dX2_init_12 : decode cX2_init 12 = .ok (.return_, 1) := by decide +kernel
set_option maxRecDepth 20000 in
theorem ggX3_init_X1_init : GoodIn wsX3_init wsX1_init := goodIn_r _ [23, 24, 2, 3, 10, 25, 47, 48, 49, 50] (by decide +kernel) (by decide +kernel)
set_option maxRecDepth 20000 in
theorem gX3_init_X1_init_n45 : GoodIn wsX3_init (wsX1_init) := ggX3_init_X1_init
set_option maxRecDepth 20000 in
theorem ggX3_init_X2_init : GoodIn wsX3_init wsX2_init := goodIn_r _ [27, 28, 2, 3, 10, 29, 51, 52, 53] (by decide +kernel) (by decide +kernel)
set_option maxRecDepth 20000 in
theorem gX3_init_X2_init_n46 : GoodIn wsX3_init (wsX2_init) := ggX3_init_X2_init
set_option maxRecDepth 20000 in
theorem ggX3_init_X0_init : GoodIn wsX3_init wsX0_init := goodIn_r _ [31, 32, 2, 3] (by decide +kernel) (by decide +kernel)
set_option maxRecDepth 20000 in
theorem gX3_init_X0_init_n47 : GoodIn wsX3_init (wsX0_init) := ggX3_init_X0_init
theorem dX3_init_0 : decode cX3_init 0 = .ok (.aload_n 0, 1) := by decide +kernel
theorem dX3_init_1 : decode cX3_init 1 = .ok (.invokespecial 5, 3) := by decide +kernel
theorem dX3_init_4 : decode cX3_init 4 = .ok (.aload_n 0, 1) := by decide +kernel
theorem dX3_init_5 : decode cX3_init 5 = .ok (.iconst 4, 1) := by decide +kernel
theorem dX3_init_6 : decode cX3_init 6 = .ok (.anewarray 11, 3) := by decide +kernel
theorem dX3_init_9 : decode cX3_init 9 = .ok (.putfield 13, 3) := by decide +kernel
theorem dX3_init_12 : decode cX3_init 12 = .ok (.aload_n 0, 1) := by decide +kernel
theorem dX3_init_13 : decode cX3_init 13 = .ok (.bipush 8, 2) := by decide +kernel
theorem dX3_init_15 : decode cX3_init 15 = .ok (.anewarray 17, 3) := by decide +kernel
theorem dX3_init_18 : decode cX3_init 18 = .ok (.putfield 19, 3) := by decide +kernel
theorem dX3_init_21 : decode cX3_init 21 = .ok (.aload_n 0, 1) := by decide +kernel
theorem dX3_init_22 : decode cX3_init 22 = .ok (.bipush 8, 2) := by decide +kernel
theorem dX3_init_24 : decode cX3_init 24 = .ok (.anewarray 23, 3) := by decide +kernel
theorem dX3_init_27 : decode cX3_init 27 = .ok (.putfield 25, 3) := by decide +kernel
theorem dX3_init_30 : decode cX3_init 30 = .ok (.aload_n 0, 1) := by decide +kernel
theorem dX3_init_31 : decode cX3_init 31 = .ok (.bipush 9, 2) := by decide +kernel
theorem dX3_init_33 : decode cX3_init 33 = .ok (.newarray .int, 2) := by decide +kernel
theorem dX3_init_35 : decode cX3_init 35 = .ok (.putfield 29, 3) := by decide +kernel
theorem dX3_init_38 : decode cX3_init 38 = .ok (.aload_n 0, 1) := by decide +kernel
theorem dX3_init_39 : decode cX3_init 39 = .ok (.bipush 9, 2) := by decide +kernel
theorem dX3_init_41 : decode cX3_init 41 = .ok (.newarray .int, 2) := by decide +kernel
theorem dX3_init_43 : decode cX3_init 43 = .ok (.putfield 33, 3) := by decide +kernel
theorem dX3_init_46 : decode cX3_init 46 = .ok (.aload_n 0, 1) := by decide +kernel
theorem dX3_init_47 : decode cX3_init 47 = .ok (.bipush 9, 2) := by decide +kernel
theorem dX3_init_49 : decode cX3_init 49 = .ok (.newarray .int, 2) := by decide +kernel
theorem dX3_init_51 : decode cX3_init 51 = .ok (.putfield 36, 3) := by decide +kernel
theorem dX3_init_54 : decode cX3_init 54 = .ok (.aload_n 0, 1) := by decide +kernel
theorem dX3_init_55 : decode cX3_init 55 = .ok (.bipush 8, 2) := by decide +kernel
theorem dX3_init_57 : decode cX3_init 57 = .ok (.newarray .int, 2) := by decide +kernel
theorem dX3_init_59 : decode cX3_init 59 = .ok (.putfield 39, 3) := by decide +kernel
theorem dX3_init_62 : decode cX3_init 62 = .ok (.aload_n 0, 1) := by decide +kernel
theorem dX3_init_63 : decode cX3_init 63 = .ok (.iconst 5, 1) := by decide +kernel
theorem dX3_init_64 : decode cX3_init 64 = .ok (.newarray .int, 2) := by decide +kernel
theorem dX3_init_66 : decode cX3_init 66 = .ok (.putfield 42, 3) := by decide +kernel
theorem dX3_init_69 : decode cX3_init 69 = .ok (.iconst 0, 1) := by decide +kernel
theorem dX3_init_70 : decode cX3_init 70 = .ok (.istore_n 1, 1) := by decide +kernel
theorem dX3_init_71 : decode cX3_init 71 = .ok (.iload_n 1, 1) := by decide +kernel
theorem dX3_init_72 : decode cX3_init 72 = .ok (.iconst 4, 1) := by decide +kernel
theorem dX3_init_73 : decode cX3_init 73 = .ok (.if_icmp .ge 22, 3) := by decide +kernel
theorem dX3_init_76 : decode cX3_init 76 = .ok (.aload_n 0, 1) := by decide +kernel
theorem dX3_init_77 : decode cX3_init 77 = .ok (.getfield 13, 3) := by decide +kernel
theorem dX3_init_80 : decode cX3_init 80 = .ok (.iload_n 1, 1) := by decide +kernel
theorem dX3_init_81 : decode cX3_init 81 = .ok (.new 11, 3) := by decide +kernel
theorem dX3_init_84 : decode cX3_init 84 = .ok (.dup, 1) := by decide +kernel
theorem dX3_init_85 : decode cX3_init 85 = .ok (.invokespecial 45, 3) := by decide +kernel
theorem dX3_init_88 : decode cX3_init 88 = .ok (.aastore, 1) := by decide +kernel
theorem dX3_init_89 : decode cX3_init 89 = .ok (.iinc 1 1, 3) := by decide +kernel
theorem dX3_init_92 : decode cX3_init 92 = .ok (.goto (-21), 3) := by decide +kernel
theorem dX3_init_95 : decode cX3_init 95 = .ok (.iconst 0, 1) := by decide +kernel
theorem dX3_init_96 : decode cX3_init 96 = .ok (.istore_n 1, 1) := by decide +kernel
theorem dX3_init_97 : decode cX3_init 97 = .ok (.iload_n 1, 1) := by decide +kernel
theorem dX3_init_98 : decode cX3_init 98 = .ok (.bipush 8, 2) := by decide +kernel
theorem dX3_init_100 : decode cX3_init 100 = .ok (.if_icmp .ge 22, 3) := by decide +kernel
theorem dX3_init_103 : decode cX3_init 103 = .ok (.aload_n 0, 1) := by decide +kernel
theorem dX3_init_104 : decode cX3_init 104 = .ok (.getfield 19, 3) := by decide +kernel
theorem dX3_init_107 : decode cX3_init 107 = .ok (.iload_n 1, 1) := by decide +kernel
theorem dX3_init_108 : decode cX3_init 108 = .ok (.new 17, 3) := by decide +kernel
theorem dX3_init_111 : decode cX3_init 111 = .ok (.dup, 1) := by decide +kernel
theorem dX3_init_112 : decode cX3_init 112 = .ok (.invokespecial 46, 3) := by decide +kernel
theorem dX3_init_115 : decode cX3_init 115 = .ok (.aastore, 1) := by decide +kernel
theorem dX3_init_116 : decode cX3_init 116 = .ok (.iinc 1 1, 3) := by decide +kernel
theorem dX3_init_119 : decode cX3_init 119 = .ok (.goto (-22), 3) := by decide +kernel
theorem dX3_init_122 : decode cX3_init 122 = .ok (.iconst 0, 1) := by decide +kernel
theorem dX3_init_123 : decode cX3_init 123 = .ok (.istore_n 1, 1) := by decide +kernel
theorem dX3_init_124 : decode cX3_init 124 = .ok (.iload_n 1, 1) := by decide +kernel
theorem dX3_init_125 : decode cX3_init 125 = .ok (.bipush 8, 2) := by decide +kernel
theorem dX3_init_127 : decode cX3_init 127 = .ok (.if_icmp .ge 22, 3) := by decide +kernel
theorem dX3_init_130 : decode cX3_init 130 = .ok (.aload_n 0, 1) := by decide +kernel
theorem dX3_init_131 : decode cX3_init 131 = .ok (.getfield 25, 3) := by decide +kernel
theorem dX3_init_134 : decode cX3_init 134 = .ok (.iload_n 1, 1) := by decide +kernel
theorem dX3_init_135 : decode cX3_init 135 = .ok (.new 23, 3) := by decide +kernel
theorem dX3_init_138 : decode cX3_init 138 = .ok (.dup, 1) := by decide +kernel
theorem dX3_init_139 : decode cX3_init 139 = .ok (.invokespecial 47, 3) := by decide +kernel
theorem dX3_init_142 : decode cX3_init 142 = .ok (.aastore, 1) := by decide +kernel
theorem dX3_init_143 : decode cX3_init 143 = .ok (.iinc 1 1, 3) := by decide +kernel
theorem dX3_init_146 : decode cX3_init 146 = .ok (.goto (-22), 3) := by decide +kernel
theorem dX3_init_149 : decode cX3_init 149 = .ok (.return_, 1) := by decide +kernel
set_option maxRecDepth 20000 in
theorem ggX3_register_X3_spanRefusal : GoodIn wsX3_register wsX3_spanRefusal := goodIn_r _ [7, 1, 8, 9, 10, 6, 11, 12, 13, 14, 15, 16, 17, 18, 19, 20, 21, 22, 23, 24, 25, 26, 27, 55, 56, 57, 58, 59, 60, 61, 62, 63, 64, 65, 66, 67, 68, 69, 70, 71, 72] (by decide +kernel) (by decide +kernel)
set_option maxRecDepth 20000 in
theorem gX3_register_X3_spanRefusal : GoodIn wsX3_register (wsV RX3 48 RX3 yX3_spanRefusal wsX3_spanRefusal) := goodIn_app (goodIn_of _ (by decide +kernel)) ggX3_register_X3_spanRefusal
set_option maxRecDepth 20000 in
theorem ggX3_register_X3_textFault : GoodIn wsX3_register wsX3_textFault := goodIn_r _ [30, 31, 32, 6, 33, 34, 35, 36, 69, 70, 71, 72] (by decide +kernel) (by decide +kernel)
set_option maxRecDepth 20000 in
theorem gX3_register_X3_textFault : GoodIn wsX3_register (va_wsS RX3 52 yX3_textFault wsX3_textFault) := goodIn_app (goodIn_of _ (by decide +kernel)) ggX3_register_X3_textFault
set_option maxRecDepth 20000 in
theorem ggX3_register_X3_takeText : GoodIn wsX3_register wsX3_takeText := goodIn_r _ [40, 2, 41, 34, 35, 6, 36, 55, 56, 57, 58, 59, 60, 61, 62, 63, 64, 65, 66, 67, 68, 69, 70, 71, 72, 73, 74, 75] (by decide +kernel) (by decide +kernel)
set_option maxRecDepth 20000 in
theorem gX3_register_X3_takeText : GoodIn wsX3_register (wsV RX3 56 RX3 yX3_takeText wsX3_takeText) := goodIn_app (goodIn_of _ (by decide +kernel)) ggX3_register_X3_takeText
set_option maxRecDepth 20000 in
theorem ggX3_register_X3_startAnew : GoodIn wsX3_register wsX3_startAnew := goodIn_r _ [45, 46, 47, 48, 49, 50, 51, 52, 53, 54, 55, 56, 57, 58, 59, 60, 61, 62, 63, 64, 65, 66, 67, 68] (by decide +kernel) (by decide +kernel)
set_option maxRecDepth 20000 in
theorem gX3_register_X3_startAnew : GoodIn wsX3_register (wsV RX3 60 RX3 yX3_startAnew wsX3_startAnew) := goodIn_app (goodIn_of _ (by decide +kernel)) ggX3_register_X3_startAnew
theorem dX3_register_0 : decode cX3_register 0 = .ok (.aload_n 0, 1) := by decide +kernel
theorem dX3_register_1 : decode cX3_register 1 = .ok (.iload_n 1, 1) := by decide +kernel
theorem dX3_register_2 : decode cX3_register 2 = .ok (.iload_n 2, 1) := by decide +kernel
theorem dX3_register_3 : decode cX3_register 3 = .ok (.iload_n 3, 1) := by decide +kernel
theorem dX3_register_4 : decode cX3_register 4 = .ok (.iload 4, 2) := by decide +kernel
theorem dX3_register_6 : decode cX3_register 6 = .ok (.i2l, 1) := by decide +kernel
theorem dX3_register_7 : decode cX3_register 7 = .ok (.invokevirtual 48, 3) := by decide +kernel
theorem dX3_register_10 : decode cX3_register 10 = .ok (.istore 5, 2) := by decide +kernel
theorem dX3_register_12 : decode cX3_register 12 = .ok (.iload 5, 2) := by decide +kernel
theorem dX3_register_14 : decode cX3_register 14 = .ok (.ifCond .eq 6, 3) := by decide +kernel
theorem dX3_register_17 : decode cX3_register 17 = .ok (.iload 5, 2) := by decide +kernel
theorem dX3_register_19 : decode cX3_register 19 = .ok (.ireturn, 1) := by decide +kernel
theorem dX3_register_20 : decode cX3_register 20 = .ok (.aload_n 0, 1) := by decide +kernel
theorem dX3_register_21 : decode cX3_register 21 = .ok (.getfield 13, 3) := by decide +kernel
theorem dX3_register_24 : decode cX3_register 24 = .ok (.iload_n 1, 1) := by decide +kernel
theorem dX3_register_25 : decode cX3_register 25 = .ok (.aaload, 1) := by decide +kernel
theorem dX3_register_26 : decode cX3_register 26 = .ok (.iload_n 3, 1) := by decide +kernel
theorem dX3_register_27 : decode cX3_register 27 = .ok (.iload 4, 2) := by decide +kernel
theorem dX3_register_29 : decode cX3_register 29 = .ok (.invokestatic 52, 3) := by decide +kernel
theorem dX3_register_32 : decode cX3_register 32 = .ok (.istore 6, 2) := by decide +kernel
theorem dX3_register_34 : decode cX3_register 34 = .ok (.iload 6, 2) := by decide +kernel
theorem dX3_register_36 : decode cX3_register 36 = .ok (.ifCond .lt 9, 3) := by decide +kernel
theorem dX3_register_39 : decode cX3_register 39 = .ok (.bipush (-100), 2) := by decide +kernel
theorem dX3_register_41 : decode cX3_register 41 = .ok (.iload 6, 2) := by decide +kernel
theorem dX3_register_43 : decode cX3_register 43 = .ok (.isub, 1) := by decide +kernel
theorem dX3_register_44 : decode cX3_register 44 = .ok (.ireturn, 1) := by decide +kernel
theorem dX3_register_45 : decode cX3_register 45 = .ok (.aload_n 0, 1) := by decide +kernel
theorem dX3_register_46 : decode cX3_register 46 = .ok (.aload_n 0, 1) := by decide +kernel
theorem dX3_register_47 : decode cX3_register 47 = .ok (.getfield 13, 3) := by decide +kernel
theorem dX3_register_50 : decode cX3_register 50 = .ok (.iload_n 1, 1) := by decide +kernel
theorem dX3_register_51 : decode cX3_register 51 = .ok (.aaload, 1) := by decide +kernel
theorem dX3_register_52 : decode cX3_register 52 = .ok (.iload_n 3, 1) := by decide +kernel
theorem dX3_register_53 : decode cX3_register 53 = .ok (.iload 4, 2) := by decide +kernel
theorem dX3_register_55 : decode cX3_register 55 = .ok (.invokevirtual 56, 3) := by decide +kernel
theorem dX3_register_58 : decode cX3_register 58 = .ok (.aload_n 0, 1) := by decide +kernel
theorem dX3_register_59 : decode cX3_register 59 = .ok (.invokevirtual 60, 3) := by decide +kernel
theorem dX3_register_62 : decode cX3_register 62 = .ok (.aload_n 0, 1) := by decide +kernel
theorem dX3_register_63 : decode cX3_register 63 = .ok (.getfield 63, 3) := by decide +kernel
theorem dX3_register_66 : decode cX3_register 66 = .ok (.ireturn, 1) := by decide +kernel
set_option maxRecDepth 20000 in
theorem ggX3_half_X3_isSmell : GoodIn wsX3_half wsX3_isSmell := goodIn_r _ [6] (by decide +kernel) (by decide +kernel)
set_option maxRecDepth 20000 in
theorem gX3_half_X3_isSmell : GoodIn wsX3_half (va_wsS RX3 77 yX3_isSmell wsX3_isSmell) := goodIn_app (goodIn_of _ (by decide +kernel)) ggX3_half_X3_isSmell
theorem dX3_half_0 : decode cX3_half 0 = .ok (.iload_n 1, 1) := by decide +kernel
theorem dX3_half_1 : decode cX3_half 1 = .ok (.invokestatic 77, 3) := by decide +kernel
theorem dX3_half_4 : decode cX3_half 4 = .ok (.ifCond .ne 5, 3) := by decide +kernel
theorem dX3_half_7 : decode cX3_half 7 = .ok (.iconst (-1), 1) := by decide +kernel
theorem dX3_half_8 : decode cX3_half 8 = .ok (.ireturn, 1) := by decide +kernel
theorem dX3_half_9 : decode cX3_half 9 = .ok (.iload_n 2, 1) := by decide +kernel
theorem dX3_half_10 : decode cX3_half 10 = .ok (.iconst 1, 1) := by decide +kernel
theorem dX3_half_11 : decode cX3_half 11 = .ok (.if_icmp .lt 9, 3) := by decide +kernel
theorem dX3_half_14 : decode cX3_half 14 = .ok (.iload_n 2, 1) := by decide +kernel
theorem dX3_half_15 : decode cX3_half 15 = .ok (.bipush 9, 2) := by decide +kernel
theorem dX3_half_17 : decode cX3_half 17 = .ok (.if_icmp .le 6, 3) := by decide +kernel
theorem dX3_half_20 : decode cX3_half 20 = .ok (.bipush (-2), 2) := by decide +kernel
theorem dX3_half_22 : decode cX3_half 22 = .ok (.ireturn, 1) := by decide +kernel
theorem dX3_half_23 : decode cX3_half 23 = .ok (.aload_n 0, 1) := by decide +kernel
theorem dX3_half_24 : decode cX3_half 24 = .ok (.getfield 63, 3) := by decide +kernel
theorem dX3_half_27 : decode cX3_half 27 = .ok (.ifCond .ne 6, 3) := by decide +kernel
theorem dX3_half_30 : decode cX3_half 30 = .ok (.bipush (-3), 2) := by decide +kernel
theorem dX3_half_32 : decode cX3_half 32 = .ok (.ireturn, 1) := by decide +kernel
theorem dX3_half_33 : decode cX3_half 33 = .ok (.aload_n 0, 1) := by decide +kernel
theorem dX3_half_34 : decode cX3_half 34 = .ok (.getfield 29, 3) := by decide +kernel
theorem dX3_half_37 : decode cX3_half 37 = .ok (.iload_n 1, 1) := by decide +kernel
theorem dX3_half_38 : decode cX3_half 38 = .ok (.iaload, 1) := by decide +kernel
theorem dX3_half_39 : decode cX3_half 39 = .ok (.istore_n 3, 1) := by decide +kernel
theorem dX3_half_40 : decode cX3_half 40 = .ok (.aload_n 0, 1) := by decide +kernel
theorem dX3_half_41 : decode cX3_half 41 = .ok (.getfield 29, 3) := by decide +kernel
theorem dX3_half_44 : decode cX3_half 44 = .ok (.iload_n 1, 1) := by decide +kernel
theorem dX3_half_45 : decode cX3_half 45 = .ok (.iload_n 2, 1) := by decide +kernel
theorem dX3_half_46 : decode cX3_half 46 = .ok (.iastore, 1) := by decide +kernel
theorem dX3_half_47 : decode cX3_half 47 = .ok (.iload_n 3, 1) := by decide +kernel
theorem dX3_half_48 : decode cX3_half 48 = .ok (.ireturn, 1) := by decide +kernel
theorem dX3_bound_0 : decode cX3_bound 0 = .ok (.iload_n 1, 1) := by decide +kernel
theorem dX3_bound_1 : decode cX3_bound 1 = .ok (.ifCond .lt 10, 3) := by decide +kernel
theorem dX3_bound_4 : decode cX3_bound 4 = .ok (.iload_n 1, 1) := by decide +kernel
theorem dX3_bound_5 : decode cX3_bound 5 = .ok (.sipush 999, 3) := by decide +kernel
theorem dX3_bound_8 : decode cX3_bound 8 = .ok (.if_icmp .le 6, 3) := by decide +kernel
theorem dX3_bound_11 : decode cX3_bound 11 = .ok (.bipush (-2), 2) := by decide +kernel
theorem dX3_bound_13 : decode cX3_bound 13 = .ok (.ireturn, 1) := by decide +kernel
theorem dX3_bound_14 : decode cX3_bound 14 = .ok (.aload_n 0, 1) := by decide +kernel
theorem dX3_bound_15 : decode cX3_bound 15 = .ok (.getfield 63, 3) := by decide +kernel
theorem dX3_bound_18 : decode cX3_bound 18 = .ok (.ifCond .ne 6, 3) := by decide +kernel
theorem dX3_bound_21 : decode cX3_bound 21 = .ok (.bipush (-3), 2) := by decide +kernel
theorem dX3_bound_23 : decode cX3_bound 23 = .ok (.ireturn, 1) := by decide +kernel
theorem dX3_bound_24 : decode cX3_bound 24 = .ok (.aload_n 0, 1) := by decide +kernel
theorem dX3_bound_25 : decode cX3_bound 25 = .ok (.getfield 80, 3) := by decide +kernel
theorem dX3_bound_28 : decode cX3_bound 28 = .ok (.istore_n 2, 1) := by decide +kernel
theorem dX3_bound_29 : decode cX3_bound 29 = .ok (.aload_n 0, 1) := by decide +kernel
theorem dX3_bound_30 : decode cX3_bound 30 = .ok (.iload_n 1, 1) := by decide +kernel
theorem dX3_bound_31 : decode cX3_bound 31 = .ok (.putfield 80, 3) := by decide +kernel
theorem dX3_bound_34 : decode cX3_bound 34 = .ok (.iload_n 2, 1) := by decide +kernel
theorem dX3_bound_35 : decode cX3_bound 35 = .ok (.ireturn, 1) := by decide +kernel
set_option maxRecDepth 20000 in
theorem ggX3_textFault_X3_goesOn : GoodIn wsX3_textFault wsX3_goesOn := goodIn_r _ [4, 5, 6, 3, 7] (by decide +kernel) (by decide +kernel)
set_option maxRecDepth 20000 in
theorem gX3_textFault_X3_goesOn : GoodIn wsX3_textFault (va_wsS RX3 93 yX3_goesOn wsX3_goesOn) := goodIn_app (goodIn_of _ (by decide +kernel)) ggX3_textFault_X3_goesOn
theorem dX3_textFault_0 : decode cX3_textFault 0 = .ok (.iconst 0, 1) := by decide +kernel
theorem dX3_textFault_1 : decode cX3_textFault 1 = .ok (.istore_n 3, 1) := by decide +kernel
theorem dX3_textFault_2 : decode cX3_textFault 2 = .ok (.iload_n 3, 1) := by decide +kernel
theorem dX3_textFault_3 : decode cX3_textFault 3 = .ok (.iload_n 2, 1) := by decide +kernel
theorem dX3_textFault_4 : decode cX3_textFault 4 = .ok (.if_icmp .ge 26, 3) := by decide +kernel
theorem dX3_textFault_7 : decode cX3_textFault 7 = .ok (.aload_n 0, 1) := by decide +kernel
theorem dX3_textFault_8 : decode cX3_textFault 8 = .ok (.getfield 90, 3) := by decide +kernel
theorem dX3_textFault_11 : decode cX3_textFault 11 = .ok (.iload_n 1, 1) := by decide +kernel
theorem dX3_textFault_12 : decode cX3_textFault 12 = .ok (.iload_n 3, 1) := by decide +kernel
theorem dX3_textFault_13 : decode cX3_textFault 13 = .ok (.iadd, 1) := by decide +kernel
theorem dX3_textFault_14 : decode cX3_textFault 14 = .ok (.iaload, 1) := by decide +kernel
theorem dX3_textFault_15 : decode cX3_textFault 15 = .ok (.iload_n 3, 1) := by decide +kernel
theorem dX3_textFault_16 : decode cX3_textFault 16 = .ok (.invokestatic 93, 3) := by decide +kernel
theorem dX3_textFault_19 : decode cX3_textFault 19 = .ok (.ifCond .ne 5, 3) := by decide +kernel
theorem dX3_textFault_22 : decode cX3_textFault 22 = .ok (.iload_n 3, 1) := by decide +kernel
theorem dX3_textFault_23 : decode cX3_textFault 23 = .ok (.ireturn, 1) := by decide +kernel
theorem dX3_textFault_24 : decode cX3_textFault 24 = .ok (.iinc 3 1, 3) := by decide +kernel
theorem dX3_textFault_27 : decode cX3_textFault 27 = .ok (.goto (-25), 3) := by decide +kernel
theorem dX3_textFault_30 : decode cX3_textFault 30 = .ok (.iload_n 2, 1) := by decide +kernel
theorem dX3_textFault_31 : decode cX3_textFault 31 = .ok (.bipush 11, 2) := by decide +kernel
theorem dX3_textFault_33 : decode cX3_textFault 33 = .ok (.irem, 1) := by decide +kernel
theorem dX3_textFault_34 : decode cX3_textFault 34 = .ok (.bipush 10, 2) := by decide +kernel
theorem dX3_textFault_36 : decode cX3_textFault 36 = .ok (.if_icmp .ne 17, 3) := by decide +kernel
theorem dX3_textFault_39 : decode cX3_textFault 39 = .ok (.iload_n 2, 1) := by decide +kernel
theorem dX3_textFault_40 : decode cX3_textFault 40 = .ok (.bipush 11, 2) := by decide +kernel
theorem dX3_textFault_42 : decode cX3_textFault 42 = .ok (.idiv, 1) := by decide +kernel
theorem dX3_textFault_43 : decode cX3_textFault 43 = .ok (.iconst 1, 1) := by decide +kernel
theorem dX3_textFault_44 : decode cX3_textFault 44 = .ok (.iadd, 1) := by decide +kernel
theorem dX3_textFault_45 : decode cX3_textFault 45 = .ok (.iconst 2, 1) := by decide +kernel
theorem dX3_textFault_46 : decode cX3_textFault 46 = .ok (.if_icmp .lt 7, 3) := by decide +kernel
theorem dX3_textFault_49 : decode cX3_textFault 49 = .ok (.iconst 1, 1) := by decide +kernel
theorem dX3_textFault_50 : decode cX3_textFault 50 = .ok (.goto 4, 3) := by decide +kernel
theorem dX3_textFault_53 : decode cX3_textFault 53 = .ok (.iconst 0, 1) := by decide +kernel
theorem dX3_textFault_54 : decode cX3_textFault 54 = .ok (.istore_n 3, 1) := by decide +kernel
theorem dX3_textFault_55 : decode cX3_textFault 55 = .ok (.iload_n 3, 1) := by decide +kernel
theorem dX3_textFault_56 : decode cX3_textFault 56 = .ok (.ifCond .eq 7, 3) := by decide +kernel
theorem dX3_textFault_59 : decode cX3_textFault 59 = .ok (.iconst (-1), 1) := by decide +kernel
theorem dX3_textFault_60 : decode cX3_textFault 60 = .ok (.goto 4, 3) := by decide +kernel
theorem dX3_textFault_63 : decode cX3_textFault 63 = .ok (.iload_n 2, 1) := by decide +kernel
theorem dX3_textFault_64 : decode cX3_textFault 64 = .ok (.ireturn, 1) := by decide +kernel
set_option maxRecDepth 20000 in
theorem ggX3_goesOn_X3_kindOf : GoodIn wsX3_goesOn wsX3_kindOf := goodIn_r _ [4] (by decide +kernel) (by decide +kernel)
set_option maxRecDepth 20000 in
theorem gX3_goesOn_X3_kindOf : GoodIn wsX3_goesOn (va_wsS RX3 97 yX3_kindOf wsX3_kindOf) := goodIn_app (goodIn_of _ (by decide +kernel)) ggX3_goesOn_X3_kindOf
theorem dX3_goesOn_0 : decode cX3_goesOn 0 = .ok (.iload_n 1, 1) := by decide +kernel
theorem dX3_goesOn_1 : decode cX3_goesOn 1 = .ok (.bipush 11, 2) := by decide +kernel
theorem dX3_goesOn_3 : decode cX3_goesOn 3 = .ok (.irem, 1) := by decide +kernel
theorem dX3_goesOn_4 : decode cX3_goesOn 4 = .ok (.istore_n 2, 1) := by decide +kernel
theorem dX3_goesOn_5 : decode cX3_goesOn 5 = .ok (.iload_n 2, 1) := by decide +kernel
theorem dX3_goesOn_6 : decode cX3_goesOn 6 = .ok (.ifCond .ne 16, 3) := by decide +kernel
theorem dX3_goesOn_9 : decode cX3_goesOn 9 = .ok (.iload_n 0, 1) := by decide +kernel
theorem dX3_goesOn_10 : decode cX3_goesOn 10 = .ok (.invokestatic 97, 3) := by decide +kernel
theorem dX3_goesOn_13 : decode cX3_goesOn 13 = .ok (.ifCond .lt 7, 3) := by decide +kernel
theorem dX3_goesOn_16 : decode cX3_goesOn 16 = .ok (.iconst 1, 1) := by decide +kernel
theorem dX3_goesOn_17 : decode cX3_goesOn 17 = .ok (.goto 4, 3) := by decide +kernel
theorem dX3_goesOn_20 : decode cX3_goesOn 20 = .ok (.iconst 0, 1) := by decide +kernel
theorem dX3_goesOn_21 : decode cX3_goesOn 21 = .ok (.ireturn, 1) := by decide +kernel
theorem dX3_goesOn_22 : decode cX3_goesOn 22 = .ok (.iload_n 2, 1) := by decide +kernel
theorem dX3_goesOn_23 : decode cX3_goesOn 23 = .ok (.bipush 10, 2) := by decide +kernel
theorem dX3_goesOn_25 : decode cX3_goesOn 25 = .ok (.if_icmp .ne 26, 3) := by decide +kernel
theorem dX3_goesOn_28 : decode cX3_goesOn 28 = .ok (.iload_n 0, 1) := by decide +kernel
theorem dX3_goesOn_29 : decode cX3_goesOn 29 = .ok (.bipush 59, 2) := by decide +kernel
theorem dX3_goesOn_31 : decode cX3_goesOn 31 = .ok (.if_icmp .ne 18, 3) := by decide +kernel
theorem dX3_goesOn_34 : decode cX3_goesOn 34 = .ok (.iload_n 1, 1) := by decide +kernel
theorem dX3_goesOn_35 : decode cX3_goesOn 35 = .ok (.bipush 11, 2) := by decide +kernel
theorem dX3_goesOn_37 : decode cX3_goesOn 37 = .ok (.idiv, 1) := by decide +kernel
theorem dX3_goesOn_38 : decode cX3_goesOn 38 = .ok (.iconst 1, 1) := by decide +kernel
theorem dX3_goesOn_39 : decode cX3_goesOn 39 = .ok (.iadd, 1) := by decide +kernel
theorem dX3_goesOn_40 : decode cX3_goesOn 40 = .ok (.bipush 8, 2) := by decide +kernel
theorem dX3_goesOn_42 : decode cX3_goesOn 42 = .ok (.if_icmp .ge 7, 3) := by decide +kernel
theorem dX3_goesOn_45 : decode cX3_goesOn 45 = .ok (.iconst 1, 1) := by decide +kernel
theorem dX3_goesOn_46 : decode cX3_goesOn 46 = .ok (.goto 4, 3) := by decide +kernel
theorem dX3_goesOn_49 : decode cX3_goesOn 49 = .ok (.iconst 0, 1) := by decide +kernel
theorem dX3_goesOn_50 : decode cX3_goesOn 50 = .ok (.ireturn, 1) := by decide +kernel
theorem dX3_goesOn_51 : decode cX3_goesOn 51 = .ok (.iload_n 0, 1) := by decide +kernel
theorem dX3_goesOn_52 : decode cX3_goesOn 52 = .ok (.bipush 48, 2) := by decide +kernel
theorem dX3_goesOn_54 : decode cX3_goesOn 54 = .ok (.if_icmp .lt 13, 3) := by decide +kernel
theorem dX3_goesOn_57 : decode cX3_goesOn 57 = .ok (.iload_n 0, 1) := by decide +kernel
theorem dX3_goesOn_58 : decode cX3_goesOn 58 = .ok (.bipush 57, 2) := by decide +kernel
theorem dX3_goesOn_60 : decode cX3_goesOn 60 = .ok (.if_icmp .gt 7, 3) := by decide +kernel
theorem dX3_goesOn_63 : decode cX3_goesOn 63 = .ok (.iconst 1, 1) := by decide +kernel
theorem dX3_goesOn_64 : decode cX3_goesOn 64 = .ok (.goto 4, 3) := by decide +kernel
theorem dX3_goesOn_67 : decode cX3_goesOn 67 = .ok (.iconst 0, 1) := by decide +kernel
theorem dX3_goesOn_68 : decode cX3_goesOn 68 = .ok (.ireturn, 1) := by decide +kernel
theorem dX3_kindOf_0 : decode cX3_kindOf 0 = .ok (.iload_n 0, 1) := by decide +kernel
theorem dX3_kindOf_1 : decode cX3_kindOf 1 = .ok (.lookupswitch 41 #[(102, 37), (112, 35), (115, 39)], 35) := by decide +kernel
theorem dX3_kindOf_36 : decode cX3_kindOf 36 = .ok (.iconst 0, 1) := by decide +kernel
theorem dX3_kindOf_37 : decode cX3_kindOf 37 = .ok (.ireturn, 1) := by decide +kernel
theorem dX3_kindOf_38 : decode cX3_kindOf 38 = .ok (.iconst 1, 1) := by decide +kernel
theorem dX3_kindOf_39 : decode cX3_kindOf 39 = .ok (.ireturn, 1) := by decide +kernel
theorem dX3_kindOf_40 : decode cX3_kindOf 40 = .ok (.iconst 2, 1) := by decide +kernel
theorem dX3_kindOf_41 : decode cX3_kindOf 41 = .ok (.ireturn, 1) := by decide +kernel
theorem dX3_kindOf_42 : decode cX3_kindOf 42 = .ok (.iconst (-1), 1) := by decide +kernel
theorem dX3_kindOf_43 : decode cX3_kindOf 43 = .ok (.ireturn, 1) := by decide +kernel
set_option maxRecDepth 20000 in
theorem ggX3_takeText_X3_kindOf : GoodIn wsX3_takeText wsX3_kindOf := goodIn_r _ [6] (by decide +kernel) (by decide +kernel)
set_option maxRecDepth 20000 in
theorem gX3_takeText_X3_kindOf : GoodIn wsX3_takeText (va_wsS RX3 97 yX3_kindOf wsX3_kindOf) := goodIn_app (goodIn_of _ (by decide +kernel)) ggX3_takeText_X3_kindOf
theorem dX3_takeText_0 : decode cX3_takeText 0 = .ok (.aload_n 0, 1) := by decide +kernel
theorem dX3_takeText_1 : decode cX3_takeText 1 = .ok (.iload_n 3, 1) := by decide +kernel
theorem dX3_takeText_2 : decode cX3_takeText 2 = .ok (.bipush 11, 2) := by decide +kernel
theorem dX3_takeText_4 : decode cX3_takeText 4 = .ok (.idiv, 1) := by decide +kernel
theorem dX3_takeText_5 : decode cX3_takeText 5 = .ok (.iconst 1, 1) := by decide +kernel
theorem dX3_takeText_6 : decode cX3_takeText 6 = .ok (.iadd, 1) := by decide +kernel
theorem dX3_takeText_7 : decode cX3_takeText 7 = .ok (.putfield 63, 3) := by decide +kernel
theorem dX3_takeText_10 : decode cX3_takeText 10 = .ok (.iconst 0, 1) := by decide +kernel
theorem dX3_takeText_11 : decode cX3_takeText 11 = .ok (.istore 4, 2) := by decide +kernel
theorem dX3_takeText_13 : decode cX3_takeText 13 = .ok (.iload 4, 2) := by decide +kernel
theorem dX3_takeText_15 : decode cX3_takeText 15 = .ok (.aload_n 0, 1) := by decide +kernel
theorem dX3_takeText_16 : decode cX3_takeText 16 = .ok (.getfield 63, 3) := by decide +kernel
theorem dX3_takeText_19 : decode cX3_takeText 19 = .ok (.if_icmp .ge 114, 3) := by decide +kernel
theorem dX3_takeText_22 : decode cX3_takeText 22 = .ok (.iload_n 2, 1) := by decide +kernel
theorem dX3_takeText_23 : decode cX3_takeText 23 = .ok (.iload 4, 2) := by decide +kernel
theorem dX3_takeText_25 : decode cX3_takeText 25 = .ok (.bipush 11, 2) := by decide +kernel
theorem dX3_takeText_27 : decode cX3_takeText 27 = .ok (.imul, 1) := by decide +kernel
theorem dX3_takeText_28 : decode cX3_takeText 28 = .ok (.iadd, 1) := by decide +kernel
theorem dX3_takeText_29 : decode cX3_takeText 29 = .ok (.istore 5, 2) := by decide +kernel
theorem dX3_takeText_31 : decode cX3_takeText 31 = .ok (.aload_n 0, 1) := by decide +kernel
theorem dX3_takeText_32 : decode cX3_takeText 32 = .ok (.getfield 19, 3) := by decide +kernel
theorem dX3_takeText_35 : decode cX3_takeText 35 = .ok (.iload 4, 2) := by decide +kernel
theorem dX3_takeText_37 : decode cX3_takeText 37 = .ok (.aaload, 1) := by decide +kernel
theorem dX3_takeText_38 : decode cX3_takeText 38 = .ok (.aload_n 1, 1) := by decide +kernel
theorem dX3_takeText_39 : decode cX3_takeText 39 = .ok (.getfield 90, 3) := by decide +kernel
theorem dX3_takeText_42 : decode cX3_takeText 42 = .ok (.iload 5, 2) := by decide +kernel
theorem dX3_takeText_44 : decode cX3_takeText 44 = .ok (.iaload, 1) := by decide +kernel
theorem dX3_takeText_45 : decode cX3_takeText 45 = .ok (.invokestatic 97, 3) := by decide +kernel
theorem dX3_takeText_48 : decode cX3_takeText 48 = .ok (.putfield 71, 3) := by decide +kernel
theorem dX3_takeText_51 : decode cX3_takeText 51 = .ok (.aload_n 0, 1) := by decide +kernel
theorem dX3_takeText_52 : decode cX3_takeText 52 = .ok (.getfield 19, 3) := by decide +kernel
theorem dX3_takeText_55 : decode cX3_takeText 55 = .ok (.iload 4, 2) := by decide +kernel
theorem dX3_takeText_57 : decode cX3_takeText 57 = .ok (.aaload, 1) := by decide +kernel
theorem dX3_takeText_58 : decode cX3_takeText 58 = .ok (.iconst 0, 1) := by decide +kernel
theorem dX3_takeText_59 : decode cX3_takeText 59 = .ok (.putfield 101, 3) := by decide +kernel
theorem dX3_takeText_62 : decode cX3_takeText 62 = .ok (.iconst 0, 1) := by decide +kernel
theorem dX3_takeText_63 : decode cX3_takeText 63 = .ok (.istore 6, 2) := by decide +kernel
theorem dX3_takeText_65 : decode cX3_takeText 65 = .ok (.iload 6, 2) := by decide +kernel
theorem dX3_takeText_67 : decode cX3_takeText 67 = .ok (.bipush 9, 2) := by decide +kernel
theorem dX3_takeText_69 : decode cX3_takeText 69 = .ok (.if_icmp .ge 58, 3) := by decide +kernel
theorem dX3_takeText_72 : decode cX3_takeText 72 = .ok (.aload_n 1, 1) := by decide +kernel
theorem dX3_takeText_73 : decode cX3_takeText 73 = .ok (.getfield 90, 3) := by decide +kernel
theorem dX3_takeText_76 : decode cX3_takeText 76 = .ok (.iload 5, 2) := by decide +kernel
theorem dX3_takeText_78 : decode cX3_takeText 78 = .ok (.iconst 1, 1) := by decide +kernel
theorem dX3_takeText_79 : decode cX3_takeText 79 = .ok (.iadd, 1) := by decide +kernel
theorem dX3_takeText_80 : decode cX3_takeText 80 = .ok (.iload 6, 2) := by decide +kernel
theorem dX3_takeText_82 : decode cX3_takeText 82 = .ok (.iadd, 1) := by decide +kernel
theorem dX3_takeText_83 : decode cX3_takeText 83 = .ok (.iaload, 1) := by decide +kernel
theorem dX3_takeText_84 : decode cX3_takeText 84 = .ok (.bipush 48, 2) := by decide +kernel
theorem dX3_takeText_86 : decode cX3_takeText 86 = .ok (.isub, 1) := by decide +kernel
theorem dX3_takeText_87 : decode cX3_takeText 87 = .ok (.istore 7, 2) := by decide +kernel
theorem dX3_takeText_89 : decode cX3_takeText 89 = .ok (.aload_n 0, 1) := by decide +kernel
theorem dX3_takeText_90 : decode cX3_takeText 90 = .ok (.getfield 19, 3) := by decide +kernel
theorem dX3_takeText_93 : decode cX3_takeText 93 = .ok (.iload 4, 2) := by decide +kernel
theorem dX3_takeText_95 : decode cX3_takeText 95 = .ok (.aaload, 1) := by decide +kernel
theorem dX3_takeText_96 : decode cX3_takeText 96 = .ok (.getfield 74, 3) := by decide +kernel
theorem dX3_takeText_99 : decode cX3_takeText 99 = .ok (.iload 6, 2) := by decide +kernel
theorem dX3_takeText_101 : decode cX3_takeText 101 = .ok (.iload 7, 2) := by decide +kernel
theorem dX3_takeText_103 : decode cX3_takeText 103 = .ok (.iastore, 1) := by decide +kernel
theorem dX3_takeText_104 : decode cX3_takeText 104 = .ok (.aload_n 0, 1) := by decide +kernel
theorem dX3_takeText_105 : decode cX3_takeText 105 = .ok (.getfield 19, 3) := by decide +kernel
theorem dX3_takeText_108 : decode cX3_takeText 108 = .ok (.iload 4, 2) := by decide +kernel
theorem dX3_takeText_110 : decode cX3_takeText 110 = .ok (.aaload, 1) := by decide +kernel
theorem dX3_takeText_111 : decode cX3_takeText 111 = .ok (.dup, 1) := by decide +kernel
theorem dX3_takeText_112 : decode cX3_takeText 112 = .ok (.getfield 101, 3) := by decide +kernel
theorem dX3_takeText_115 : decode cX3_takeText 115 = .ok (.iload 7, 2) := by decide +kernel
theorem dX3_takeText_117 : decode cX3_takeText 117 = .ok (.iadd, 1) := by decide +kernel
theorem dX3_takeText_118 : decode cX3_takeText 118 = .ok (.putfield 101, 3) := by decide +kernel
theorem dX3_takeText_121 : decode cX3_takeText 121 = .ok (.iinc 6 1, 3) := by decide +kernel
theorem dX3_takeText_124 : decode cX3_takeText 124 = .ok (.goto (-59), 3) := by decide +kernel
theorem dX3_takeText_127 : decode cX3_takeText 127 = .ok (.iinc 4 1, 3) := by decide +kernel
theorem dX3_takeText_130 : decode cX3_takeText 130 = .ok (.goto (-117), 3) := by decide +kernel
theorem dX3_takeText_133 : decode cX3_takeText 133 = .ok (.return_, 1) := by decide +kernel
set_option maxRecDepth 20000 in
theorem ggX3_startAnew_J7_fill_53178 : GoodIn wsX3_startAnew wsJ7_fill_53178 := goodIn_r _ [9] (by decide +kernel) (by decide +kernel)
set_option maxRecDepth 20000 in
theorem gX3_startAnew_J7_fill_53178 : GoodIn wsX3_startAnew (va_wsS RX3 107 yJ7_fill_53178 wsJ7_fill_53178) := goodIn_app (goodIn_of _ (by decide +kernel)) ggX3_startAnew_J7_fill_53178
theorem dX3_startAnew_0 : decode cX3_startAnew 0 = .ok (.aload_n 0, 1) := by decide +kernel
theorem dX3_startAnew_1 : decode cX3_startAnew 1 = .ok (.iconst 0, 1) := by decide +kernel
theorem dX3_startAnew_2 : decode cX3_startAnew 2 = .ok (.putfield 104, 3) := by decide +kernel
theorem dX3_startAnew_5 : decode cX3_startAnew 5 = .ok (.aload_n 0, 1) := by decide +kernel
theorem dX3_startAnew_6 : decode cX3_startAnew 6 = .ok (.iconst 0, 1) := by decide +kernel
theorem dX3_startAnew_7 : decode cX3_startAnew 7 = .ok (.putfield 83, 3) := by decide +kernel
theorem dX3_startAnew_10 : decode cX3_startAnew 10 = .ok (.aload_n 0, 1) := by decide +kernel
theorem dX3_startAnew_11 : decode cX3_startAnew 11 = .ok (.bipush 40, 2) := by decide +kernel
theorem dX3_startAnew_13 : decode cX3_startAnew 13 = .ok (.putfield 80, 3) := by decide +kernel
theorem dX3_startAnew_16 : decode cX3_startAnew 16 = .ok (.aload_n 0, 1) := by decide +kernel
theorem dX3_startAnew_17 : decode cX3_startAnew 17 = .ok (.getfield 29, 3) := by decide +kernel
theorem dX3_startAnew_20 : decode cX3_startAnew 20 = .ok (.iconst 5, 1) := by decide +kernel
theorem dX3_startAnew_21 : decode cX3_startAnew 21 = .ok (.invokestatic 107, 3) := by decide +kernel
theorem dX3_startAnew_24 : decode cX3_startAnew 24 = .ok (.aload_n 0, 1) := by decide +kernel
theorem dX3_startAnew_25 : decode cX3_startAnew 25 = .ok (.getfield 42, 3) := by decide +kernel
theorem dX3_startAnew_28 : decode cX3_startAnew 28 = .ok (.iconst 0, 1) := by decide +kernel
theorem dX3_startAnew_29 : decode cX3_startAnew 29 = .ok (.iconst (-1), 1) := by decide +kernel
theorem dX3_startAnew_30 : decode cX3_startAnew 30 = .ok (.iastore, 1) := by decide +kernel
theorem dX3_startAnew_31 : decode cX3_startAnew 31 = .ok (.return_, 1) := by decide +kernel
theorem dX3_fade_0 : decode cX3_fade 0 = .ok (.aload_n 0, 1) := by decide +kernel
theorem dX3_fade_1 : decode cX3_fade 1 = .ok (.getfield 29, 3) := by decide +kernel
theorem dX3_fade_4 : decode cX3_fade 4 = .ok (.iload_n 2, 1) := by decide +kernel
theorem dX3_fade_5 : decode cX3_fade 5 = .ok (.iaload, 1) := by decide +kernel
theorem dX3_fade_6 : decode cX3_fade 6 = .ok (.istore 5, 2) := by decide +kernel
theorem dX3_fade_8 : decode cX3_fade 8 = .ok (.aload_n 1, 1) := by decide +kernel
theorem dX3_fade_9 : decode cX3_fade 9 = .ok (.getfield 71, 3) := by decide +kernel
theorem dX3_fade_12 : decode cX3_fade 12 = .ok (.iconst 2, 1) := by decide +kernel
theorem dX3_fade_13 : decode cX3_fade 13 = .ok (.if_icmp .eq 9, 3) := by decide +kernel
theorem dX3_fade_16 : decode cX3_fade 16 = .ok (.iload 5, 2) := by decide +kernel
theorem dX3_fade_18 : decode cX3_fade 18 = .ok (.iconst 1, 1) := by decide +kernel
theorem dX3_fade_19 : decode cX3_fade 19 = .ok (.if_icmp .ge 5, 3) := by decide +kernel
theorem dX3_fade_22 : decode cX3_fade 22 = .ok (.iload_n 3, 1) := by decide +kernel
theorem dX3_fade_23 : decode cX3_fade 23 = .ok (.ireturn, 1) := by decide +kernel
theorem dX3_fade_24 : decode cX3_fade 24 = .ok (.iload 4, 2) := by decide +kernel
theorem dX3_fade_26 : decode cX3_fade 26 = .ok (.iload 5, 2) := by decide +kernel
theorem dX3_fade_28 : decode cX3_fade 28 = .ok (.idiv, 1) := by decide +kernel
theorem dX3_fade_29 : decode cX3_fade 29 = .ok (.istore 6, 2) := by decide +kernel
theorem dX3_fade_31 : decode cX3_fade 31 = .ok (.aload_n 1, 1) := by decide +kernel
theorem dX3_fade_32 : decode cX3_fade 32 = .ok (.getfield 71, 3) := by decide +kernel
theorem dX3_fade_35 : decode cX3_fade 35 = .ok (.iconst 1, 1) := by decide +kernel
theorem dX3_fade_36 : decode cX3_fade 36 = .ok (.if_icmp .ne 10, 3) := by decide +kernel
theorem dX3_fade_39 : decode cX3_fade 39 = .ok (.iload 6, 2) := by decide +kernel
theorem dX3_fade_41 : decode cX3_fade 41 = .ok (.iconst 2, 1) := by decide +kernel
theorem dX3_fade_42 : decode cX3_fade 42 = .ok (.idiv, 1) := by decide +kernel
theorem dX3_fade_43 : decode cX3_fade 43 = .ok (.goto 5, 3) := by decide +kernel
theorem dX3_fade_46 : decode cX3_fade 46 = .ok (.iload 6, 2) := by decide +kernel
theorem dX3_fade_48 : decode cX3_fade 48 = .ok (.istore 7, 2) := by decide +kernel
theorem dX3_fade_50 : decode cX3_fade 50 = .ok (.iload_n 3, 1) := by decide +kernel
theorem dX3_fade_51 : decode cX3_fade 51 = .ok (.iload 7, 2) := by decide +kernel
theorem dX3_fade_53 : decode cX3_fade 53 = .ok (.bipush 31, 2) := by decide +kernel
theorem dX3_fade_55 : decode cX3_fade 55 = .ok (.invokestatic 113, 3) := by decide +kernel
theorem dX3_fade_58 : decode cX3_fade 58 = .ok (.ishr, 1) := by decide +kernel
theorem dX3_fade_59 : decode cX3_fade 59 = .ok (.ireturn, 1) := by decide +kernel
theorem dX3_isSign_0 : decode cX3_isSign 0 = .ok (.iload_n 1, 1) := by decide +kernel
theorem dX3_isSign_1 : decode cX3_isSign 1 = .ok (.ifCond .lt 15, 3) := by decide +kernel
theorem dX3_isSign_4 : decode cX3_isSign 4 = .ok (.iload_n 1, 1) := by decide +kernel
theorem dX3_isSign_5 : decode cX3_isSign 5 = .ok (.aload_n 0, 1) := by decide +kernel
theorem dX3_isSign_6 : decode cX3_isSign 6 = .ok (.getfield 63, 3) := by decide +kernel
theorem dX3_isSign_9 : decode cX3_isSign 9 = .ok (.if_icmp .ge 7, 3) := by decide +kernel
theorem dX3_isSign_12 : decode cX3_isSign 12 = .ok (.iconst 1, 1) := by decide +kernel
theorem dX3_isSign_13 : decode cX3_isSign 13 = .ok (.goto 4, 3) := by decide +kernel
theorem dX3_isSign_16 : decode cX3_isSign 16 = .ok (.iconst 0, 1) := by decide +kernel
theorem dX3_isSign_17 : decode cX3_isSign 17 = .ok (.ireturn, 1) := by decide +kernel
set_option maxRecDepth 20000 in
theorem ggX3_areTwoSigns_X3_isSign : GoodIn wsX3_areTwoSigns wsX3_isSign := goodIn_r _ [5, 6, 7, 8, 9, 10, 11, 12, 13, 14, 15, 16, 17, 18, 19, 20] (by decide +kernel) (by decide +kernel)
set_option maxRecDepth 20000 in
theorem gX3_areTwoSigns_X3_isSign : GoodIn wsX3_areTwoSigns (wsV RX3 67 RX3 yX3_isSign wsX3_isSign) := goodIn_app (goodIn_of _ (by decide +kernel)) ggX3_areTwoSigns_X3_isSign
theorem dX3_areTwoSigns_0 : decode cX3_areTwoSigns 0 = .ok (.aload_n 0, 1) := by decide +kernel
theorem dX3_areTwoSigns_1 : decode cX3_areTwoSigns 1 = .ok (.iload_n 1, 1) := by decide +kernel
theorem dX3_areTwoSigns_2 : decode cX3_areTwoSigns 2 = .ok (.invokevirtual 67, 3) := by decide +kernel
theorem dX3_areTwoSigns_5 : decode cX3_areTwoSigns 5 = .ok (.ifCond .eq 20, 3) := by decide +kernel
theorem dX3_areTwoSigns_8 : decode cX3_areTwoSigns 8 = .ok (.aload_n 0, 1) := by decide +kernel
theorem dX3_areTwoSigns_9 : decode cX3_areTwoSigns 9 = .ok (.iload_n 2, 1) := by decide +kernel
theorem dX3_areTwoSigns_10 : decode cX3_areTwoSigns 10 = .ok (.invokevirtual 67, 3) := by decide +kernel
theorem dX3_areTwoSigns_13 : decode cX3_areTwoSigns 13 = .ok (.ifCond .eq 12, 3) := by decide +kernel
theorem dX3_areTwoSigns_16 : decode cX3_areTwoSigns 16 = .ok (.iload_n 1, 1) := by decide +kernel
theorem dX3_areTwoSigns_17 : decode cX3_areTwoSigns 17 = .ok (.iload_n 2, 1) := by decide +kernel
theorem dX3_areTwoSigns_18 : decode cX3_areTwoSigns 18 = .ok (.if_icmp .eq 7, 3) := by decide +kernel
theorem dX3_areTwoSigns_21 : decode cX3_areTwoSigns 21 = .ok (.iconst 1, 1) := by decide +kernel
theorem dX3_areTwoSigns_22 : decode cX3_areTwoSigns 22 = .ok (.goto 4, 3) := by decide +kernel
theorem dX3_areTwoSigns_25 : decode cX3_areTwoSigns 25 = .ok (.iconst 0, 1) := by decide +kernel
theorem dX3_areTwoSigns_26 : decode cX3_areTwoSigns 26 = .ok (.ireturn, 1) := by decide +kernel
theorem dX3_isSmell_0 : decode cX3_isSmell 0 = .ok (.iload_n 0, 1) := by decide +kernel
theorem dX3_isSmell_1 : decode cX3_isSmell 1 = .ok (.ifCond .lt 13, 3) := by decide +kernel
theorem dX3_isSmell_4 : decode cX3_isSmell 4 = .ok (.iload_n 0, 1) := by decide +kernel
theorem dX3_isSmell_5 : decode cX3_isSmell 5 = .ok (.bipush 9, 2) := by decide +kernel
theorem dX3_isSmell_7 : decode cX3_isSmell 7 = .ok (.if_icmp .ge 7, 3) := by decide +kernel
theorem dX3_isSmell_10 : decode cX3_isSmell 10 = .ok (.iconst 1, 1) := by decide +kernel
theorem dX3_isSmell_11 : decode cX3_isSmell 11 = .ok (.goto 4, 3) := by decide +kernel
theorem dX3_isSmell_14 : decode cX3_isSmell 14 = .ok (.iconst 0, 1) := by decide +kernel
theorem dX3_isSmell_15 : decode cX3_isSmell 15 = .ok (.ireturn, 1) := by decide +kernel
theorem dX3_pairNumber_0 : decode cX3_pairNumber 0 = .ok (.bipush 10, 2) := by decide +kernel
theorem dX3_pairNumber_2 : decode cX3_pairNumber 2 = .ok (.iload_n 0, 1) := by decide +kernel
theorem dX3_pairNumber_3 : decode cX3_pairNumber 3 = .ok (.imul, 1) := by decide +kernel
theorem dX3_pairNumber_4 : decode cX3_pairNumber 4 = .ok (.iload_n 1, 1) := by decide +kernel
theorem dX3_pairNumber_5 : decode cX3_pairNumber 5 = .ok (.iadd, 1) := by decide +kernel
theorem dX3_pairNumber_6 : decode cX3_pairNumber 6 = .ok (.ireturn, 1) := by decide +kernel
set_option maxRecDepth 20000 in
theorem ggX3_apart_X3_isSign : GoodIn wsX3_apart wsX3_isSign := goodIn_r _ [6, 7, 15, 16, 17, 18, 19, 20, 21, 22, 23, 24, 25, 26, 27, 28] (by decide +kernel) (by decide +kernel)
set_option maxRecDepth 20000 in
theorem gX3_apart_X3_isSign : GoodIn wsX3_apart (wsV RX3 67 RX3 yX3_isSign wsX3_isSign) := goodIn_app (goodIn_of _ (by decide +kernel)) ggX3_apart_X3_isSign
set_option maxRecDepth 20000 in
theorem ggX3_apart_X3_apartOf : GoodIn wsX3_apart wsX3_apartOf := goodIn_r _ [10, 11, 12, 13, 14] (by decide +kernel) (by decide +kernel)
set_option maxRecDepth 20000 in
theorem gX3_apart_X3_apartOf : GoodIn wsX3_apart (va_wsS RX3 175 yX3_apartOf wsX3_apartOf) := goodIn_app (goodIn_of _ (by decide +kernel)) ggX3_apart_X3_apartOf
theorem dX3_apart_0 : decode cX3_apart 0 = .ok (.aload_n 0, 1) := by decide +kernel
theorem dX3_apart_1 : decode cX3_apart 1 = .ok (.iload_n 1, 1) := by decide +kernel
theorem dX3_apart_2 : decode cX3_apart 2 = .ok (.invokevirtual 67, 3) := by decide +kernel
theorem dX3_apart_5 : decode cX3_apart 5 = .ok (.ifCond .eq 11, 3) := by decide +kernel
theorem dX3_apart_8 : decode cX3_apart 8 = .ok (.aload_n 0, 1) := by decide +kernel
theorem dX3_apart_9 : decode cX3_apart 9 = .ok (.iload_n 2, 1) := by decide +kernel
theorem dX3_apart_10 : decode cX3_apart 10 = .ok (.invokevirtual 67, 3) := by decide +kernel
theorem dX3_apart_13 : decode cX3_apart 13 = .ok (.ifCond .ne 5, 3) := by decide +kernel
theorem dX3_apart_16 : decode cX3_apart 16 = .ok (.iconst (-1), 1) := by decide +kernel
theorem dX3_apart_17 : decode cX3_apart 17 = .ok (.ireturn, 1) := by decide +kernel
theorem dX3_apart_18 : decode cX3_apart 18 = .ok (.aload_n 0, 1) := by decide +kernel
theorem dX3_apart_19 : decode cX3_apart 19 = .ok (.getfield 19, 3) := by decide +kernel
theorem dX3_apart_22 : decode cX3_apart 22 = .ok (.iload_n 1, 1) := by decide +kernel
theorem dX3_apart_23 : decode cX3_apart 23 = .ok (.aaload, 1) := by decide +kernel
theorem dX3_apart_24 : decode cX3_apart 24 = .ok (.getfield 74, 3) := by decide +kernel
theorem dX3_apart_27 : decode cX3_apart 27 = .ok (.aload_n 0, 1) := by decide +kernel
theorem dX3_apart_28 : decode cX3_apart 28 = .ok (.getfield 19, 3) := by decide +kernel
theorem dX3_apart_31 : decode cX3_apart 31 = .ok (.iload_n 2, 1) := by decide +kernel
theorem dX3_apart_32 : decode cX3_apart 32 = .ok (.aaload, 1) := by decide +kernel
theorem dX3_apart_33 : decode cX3_apart 33 = .ok (.getfield 74, 3) := by decide +kernel
theorem dX3_apart_36 : decode cX3_apart 36 = .ok (.invokestatic 175, 3) := by decide +kernel
theorem dX3_apart_39 : decode cX3_apart 39 = .ok (.ireturn, 1) := by decide +kernel
set_option maxRecDepth 20000 in
theorem ggX3_twins_X3_areAlike : GoodIn wsX3_twins wsX3_areAlike := goodIn_r _ [7, 8, 9, 10, 6, 11, 12, 13, 14, 15, 19, 20, 21, 22, 23, 24, 25, 26, 27, 28, 29, 30, 31, 32] (by decide +kernel) (by decide +kernel)
set_option maxRecDepth 20000 in
theorem gX3_twins_X3_areAlike : GoodIn wsX3_twins (wsV RX3 179 RX3 yX3_areAlike wsX3_areAlike) := goodIn_app (goodIn_of _ (by decide +kernel)) ggX3_twins_X3_areAlike
set_option maxRecDepth 20000 in
theorem ggX3_twins_X3_pairNumber : GoodIn wsX3_twins wsX3_pairNumber := goodIn_r _ [18] (by decide +kernel) (by decide +kernel)
set_option maxRecDepth 20000 in
theorem gX3_twins_X3_pairNumber : GoodIn wsX3_twins (va_wsS RX3 159 yX3_pairNumber wsX3_pairNumber) := goodIn_app (goodIn_of _ (by decide +kernel)) ggX3_twins_X3_pairNumber
theorem dX3_twins_0 : decode cX3_twins 0 = .ok (.iload_n 1, 1) := by decide +kernel
theorem dX3_twins_1 : decode cX3_twins 1 = .ok (.iconst (-1), 1) := by decide +kernel
theorem dX3_twins_2 : decode cX3_twins 2 = .ok (.if_icmp .ge 5, 3) := by decide +kernel
theorem dX3_twins_5 : decode cX3_twins 5 = .ok (.iconst (-1), 1) := by decide +kernel
theorem dX3_twins_6 : decode cX3_twins 6 = .ok (.ireturn, 1) := by decide +kernel
theorem dX3_twins_7 : decode cX3_twins 7 = .ok (.iconst 0, 1) := by decide +kernel
theorem dX3_twins_8 : decode cX3_twins 8 = .ok (.istore_n 2, 1) := by decide +kernel
theorem dX3_twins_9 : decode cX3_twins 9 = .ok (.iconst 0, 1) := by decide +kernel
theorem dX3_twins_10 : decode cX3_twins 10 = .ok (.istore_n 3, 1) := by decide +kernel
theorem dX3_twins_11 : decode cX3_twins 11 = .ok (.iload_n 3, 1) := by decide +kernel
theorem dX3_twins_12 : decode cX3_twins 12 = .ok (.aload_n 0, 1) := by decide +kernel
theorem dX3_twins_13 : decode cX3_twins 13 = .ok (.getfield 63, 3) := by decide +kernel
theorem dX3_twins_16 : decode cX3_twins 16 = .ok (.if_icmp .ge 70, 3) := by decide +kernel
theorem dX3_twins_19 : decode cX3_twins 19 = .ok (.iload_n 3, 1) := by decide +kernel
theorem dX3_twins_20 : decode cX3_twins 20 = .ok (.iconst 1, 1) := by decide +kernel
theorem dX3_twins_21 : decode cX3_twins 21 = .ok (.iadd, 1) := by decide +kernel
theorem dX3_twins_22 : decode cX3_twins 22 = .ok (.istore 4, 2) := by decide +kernel
theorem dX3_twins_24 : decode cX3_twins 24 = .ok (.iload 4, 2) := by decide +kernel
theorem dX3_twins_26 : decode cX3_twins 26 = .ok (.aload_n 0, 1) := by decide +kernel
theorem dX3_twins_27 : decode cX3_twins 27 = .ok (.getfield 63, 3) := by decide +kernel
theorem dX3_twins_30 : decode cX3_twins 30 = .ok (.if_icmp .ge 50, 3) := by decide +kernel
theorem dX3_twins_33 : decode cX3_twins 33 = .ok (.aload_n 0, 1) := by decide +kernel
theorem dX3_twins_34 : decode cX3_twins 34 = .ok (.aload_n 0, 1) := by decide +kernel
theorem dX3_twins_35 : decode cX3_twins 35 = .ok (.getfield 19, 3) := by decide +kernel
theorem dX3_twins_38 : decode cX3_twins 38 = .ok (.iload_n 3, 1) := by decide +kernel
theorem dX3_twins_39 : decode cX3_twins 39 = .ok (.aaload, 1) := by decide +kernel
theorem dX3_twins_40 : decode cX3_twins 40 = .ok (.getfield 74, 3) := by decide +kernel
theorem dX3_twins_43 : decode cX3_twins 43 = .ok (.aload_n 0, 1) := by decide +kernel
theorem dX3_twins_44 : decode cX3_twins 44 = .ok (.getfield 19, 3) := by decide +kernel
theorem dX3_twins_47 : decode cX3_twins 47 = .ok (.iload 4, 2) := by decide +kernel
theorem dX3_twins_49 : decode cX3_twins 49 = .ok (.aaload, 1) := by decide +kernel
theorem dX3_twins_50 : decode cX3_twins 50 = .ok (.getfield 74, 3) := by decide +kernel
theorem dX3_twins_53 : decode cX3_twins 53 = .ok (.invokevirtual 179, 3) := by decide +kernel
theorem dX3_twins_56 : decode cX3_twins 56 = .ok (.ifCond .eq 18, 3) := by decide +kernel
theorem dX3_twins_59 : decode cX3_twins 59 = .ok (.iload_n 2, 1) := by decide +kernel
theorem dX3_twins_60 : decode cX3_twins 60 = .ok (.iload_n 1, 1) := by decide +kernel
theorem dX3_twins_61 : decode cX3_twins 61 = .ok (.if_icmp .ne 10, 3) := by decide +kernel
theorem dX3_twins_64 : decode cX3_twins 64 = .ok (.iload_n 3, 1) := by decide +kernel
theorem dX3_twins_65 : decode cX3_twins 65 = .ok (.iload 4, 2) := by decide +kernel
theorem dX3_twins_67 : decode cX3_twins 67 = .ok (.invokestatic 159, 3) := by decide +kernel
theorem dX3_twins_70 : decode cX3_twins 70 = .ok (.ireturn, 1) := by decide +kernel
theorem dX3_twins_71 : decode cX3_twins 71 = .ok (.iinc 2 1, 3) := by decide +kernel
theorem dX3_twins_74 : decode cX3_twins 74 = .ok (.iinc 4 1, 3) := by decide +kernel
theorem dX3_twins_77 : decode cX3_twins 77 = .ok (.goto (-53), 3) := by decide +kernel
theorem dX3_twins_80 : decode cX3_twins 80 = .ok (.iinc 3 1, 3) := by decide +kernel
theorem dX3_twins_83 : decode cX3_twins 83 = .ok (.goto (-72), 3) := by decide +kernel
theorem dX3_twins_86 : decode cX3_twins 86 = .ok (.iload_n 1, 1) := by decide +kernel
theorem dX3_twins_87 : decode cX3_twins 87 = .ok (.iconst (-1), 1) := by decide +kernel
theorem dX3_twins_88 : decode cX3_twins 88 = .ok (.if_icmp .ne 7, 3) := by decide +kernel
theorem dX3_twins_91 : decode cX3_twins 91 = .ok (.iload_n 2, 1) := by decide +kernel
theorem dX3_twins_92 : decode cX3_twins 92 = .ok (.goto 5, 3) := by decide +kernel
theorem dX3_twins_95 : decode cX3_twins 95 = .ok (.bipush (-9), 2) := by decide +kernel
theorem dX3_twins_97 : decode cX3_twins 97 = .ok (.ireturn, 1) := by decide +kernel
set_option maxRecDepth 20000 in
theorem ggX3_forged_X3_areTwoSigns : GoodIn wsX3_forged wsX3_areTwoSigns := goodIn_r _ [7, 8, 9, 10, 6, 11, 12, 68, 69, 70, 71, 72, 73, 74, 75, 76, 77, 78, 79, 80, 81] (by decide +kernel) (by decide +kernel)
set_option maxRecDepth 20000 in
theorem gX3_forged_X3_areTwoSigns : GoodIn wsX3_forged (wsV RX3 119 RX3 yX3_areTwoSigns wsX3_areTwoSigns) := goodIn_app (goodIn_of _ (by decide +kernel)) ggX3_forged_X3_areTwoSigns
set_option maxRecDepth 20000 in
theorem ggX3_forged_X3_refused : GoodIn wsX3_forged wsX3_refused := goodIn_r _ [16, 17, 68, 69, 70, 71, 72, 73, 74, 75, 76, 77, 78, 79, 80, 81] (by decide +kernel) (by decide +kernel)
set_option maxRecDepth 20000 in
theorem gX3_forged_X3_refused : GoodIn wsX3_forged (wsV RX3 183 RX3 yX3_refused wsX3_refused) := goodIn_app (goodIn_of _ (by decide +kernel)) ggX3_forged_X3_refused
set_option maxRecDepth 20000 in
theorem ggX3_forged_X3_spanRefusal : GoodIn wsX3_forged wsX3_spanRefusal := goodIn_r _ [21, 2, 17, 22, 23, 6, 24, 13, 14, 15, 16, 25, 26, 27, 28, 29, 30, 31, 32, 33, 34, 35, 36, 68, 69, 70, 71, 72, 73, 74, 75, 76, 77, 78, 79, 80, 81, 82, 83, 84, 85] (by decide +kernel) (by decide +kernel)
set_option maxRecDepth 20000 in
theorem gX3_forged_X3_spanRefusal : GoodIn wsX3_forged (wsV RX3 48 RX3 yX3_spanRefusal wsX3_spanRefusal) := goodIn_app (goodIn_of _ (by decide +kernel)) ggX3_forged_X3_spanRefusal
set_option maxRecDepth 20000 in
theorem ggX3_forged_X3_areStoppers : GoodIn wsX3_forged wsX3_areStoppers := goodIn_r _ [39, 40, 41, 6, 42, 82, 83, 84, 85] (by decide +kernel) (by decide +kernel)
set_option maxRecDepth 20000 in
theorem gX3_forged_X3_areStoppers : GoodIn wsX3_forged (va_wsS RX3 188 yX3_areStoppers wsX3_areStoppers) := goodIn_app (goodIn_of _ (by decide +kernel)) ggX3_forged_X3_areStoppers
set_option maxRecDepth 20000 in
theorem ggX3_forged_J6_bitCount_0f7a4 : GoodIn wsX3_forged wsJ6_bitCount_0f7a4 := goodIn_r _ [46, 47, 48, 49] (by decide +kernel) (by decide +kernel)
set_option maxRecDepth 20000 in
theorem gX3_forged_J6_bitCount_0f7a4 : GoodIn wsX3_forged (va_wsS RX3 192 yJ6_bitCount_0f7a4 wsJ6_bitCount_0f7a4) := goodIn_app (goodIn_of _ (by decide +kernel)) ggX3_forged_J6_bitCount_0f7a4
set_option maxRecDepth 20000 in
theorem ggX3_forged_X3_isTakenFor : GoodIn wsX3_forged wsX3_isTakenFor := goodIn_r _ [53, 54, 55, 56, 57, 58, 6, 59, 60, 61, 62, 63, 64, 65, 66, 67, 68, 69, 70, 71, 72, 73, 74, 75, 76, 77, 78, 79, 80, 81, 86, 87, 88, 82, 83, 84, 85] (by decide +kernel) (by decide +kernel)
set_option maxRecDepth 20000 in
theorem gX3_forged_X3_isTakenFor : GoodIn wsX3_forged (wsV RX3 197 RX3 yX3_isTakenFor wsX3_isTakenFor) := goodIn_app (goodIn_of _ (by decide +kernel)) ggX3_forged_X3_isTakenFor
theorem dX3_forged_0 : decode cX3_forged 0 = .ok (.aload_n 0, 1) := by decide +kernel
theorem dX3_forged_1 : decode cX3_forged 1 = .ok (.iload_n 1, 1) := by decide +kernel
theorem dX3_forged_2 : decode cX3_forged 2 = .ok (.iload_n 2, 1) := by decide +kernel
theorem dX3_forged_3 : decode cX3_forged 3 = .ok (.invokevirtual 119, 3) := by decide +kernel
theorem dX3_forged_6 : decode cX3_forged 6 = .ok (.ifCond .ne 9, 3) := by decide +kernel
theorem dX3_forged_9 : decode cX3_forged 9 = .ok (.aload_n 0, 1) := by decide +kernel
theorem dX3_forged_10 : decode cX3_forged 10 = .ok (.iconst (-1), 1) := by decide +kernel
theorem dX3_forged_11 : decode cX3_forged 11 = .ok (.invokevirtual 183, 3) := by decide +kernel
theorem dX3_forged_14 : decode cX3_forged 14 = .ok (.ireturn, 1) := by decide +kernel
theorem dX3_forged_15 : decode cX3_forged 15 = .ok (.aload_n 0, 1) := by decide +kernel
theorem dX3_forged_16 : decode cX3_forged 16 = .ok (.iload_n 3, 1) := by decide +kernel
theorem dX3_forged_17 : decode cX3_forged 17 = .ok (.iload 4, 2) := by decide +kernel
theorem dX3_forged_19 : decode cX3_forged 19 = .ok (.iload 5, 2) := by decide +kernel
theorem dX3_forged_21 : decode cX3_forged 21 = .ok (.ldc2_w 186, 3) := by decide +kernel
theorem dX3_forged_24 : decode cX3_forged 24 = .ok (.iload 6, 2) := by decide +kernel
theorem dX3_forged_26 : decode cX3_forged 26 = .ok (.i2l, 1) := by decide +kernel
theorem dX3_forged_27 : decode cX3_forged 27 = .ok (.lmul, 1) := by decide +kernel
theorem dX3_forged_28 : decode cX3_forged 28 = .ok (.invokevirtual 48, 3) := by decide +kernel
theorem dX3_forged_31 : decode cX3_forged 31 = .ok (.istore 7, 2) := by decide +kernel
theorem dX3_forged_33 : decode cX3_forged 33 = .ok (.iload 7, 2) := by decide +kernel
theorem dX3_forged_35 : decode cX3_forged 35 = .ok (.ifCond .eq 6, 3) := by decide +kernel
theorem dX3_forged_38 : decode cX3_forged 38 = .ok (.iload 7, 2) := by decide +kernel
theorem dX3_forged_40 : decode cX3_forged 40 = .ok (.ireturn, 1) := by decide +kernel
theorem dX3_forged_41 : decode cX3_forged 41 = .ok (.iload 6, 2) := by decide +kernel
theorem dX3_forged_43 : decode cX3_forged 43 = .ok (.bipush 10, 2) := by decide +kernel
theorem dX3_forged_45 : decode cX3_forged 45 = .ok (.if_icmp .gt 19, 3) := by decide +kernel
theorem dX3_forged_48 : decode cX3_forged 48 = .ok (.aload_n 0, 1) := by decide +kernel
theorem dX3_forged_49 : decode cX3_forged 49 = .ok (.getfield 13, 3) := by decide +kernel
theorem dX3_forged_52 : decode cX3_forged 52 = .ok (.iload_n 3, 1) := by decide +kernel
theorem dX3_forged_53 : decode cX3_forged 53 = .ok (.aaload, 1) := by decide +kernel
theorem dX3_forged_54 : decode cX3_forged 54 = .ok (.iload 5, 2) := by decide +kernel
theorem dX3_forged_56 : decode cX3_forged 56 = .ok (.iload 6, 2) := by decide +kernel
theorem dX3_forged_58 : decode cX3_forged 58 = .ok (.invokestatic 188, 3) := by decide +kernel
theorem dX3_forged_61 : decode cX3_forged 61 = .ok (.ifCond .ne 6, 3) := by decide +kernel
theorem dX3_forged_64 : decode cX3_forged 64 = .ok (.bipush (-2), 2) := by decide +kernel
theorem dX3_forged_66 : decode cX3_forged 66 = .ok (.ireturn, 1) := by decide +kernel
theorem dX3_forged_67 : decode cX3_forged 67 = .ok (.bipush (-9), 2) := by decide +kernel
theorem dX3_forged_69 : decode cX3_forged 69 = .ok (.istore 8, 2) := by decide +kernel
theorem dX3_forged_71 : decode cX3_forged 71 = .ok (.iload 6, 2) := by decide +kernel
theorem dX3_forged_73 : decode cX3_forged 73 = .ok (.iconst 1, 1) := by decide +kernel
theorem dX3_forged_74 : decode cX3_forged 74 = .ok (.iadd, 1) := by decide +kernel
theorem dX3_forged_75 : decode cX3_forged 75 = .ok (.istore 9, 2) := by decide +kernel
theorem dX3_forged_77 : decode cX3_forged 77 = .ok (.iconst 0, 1) := by decide +kernel
theorem dX3_forged_78 : decode cX3_forged 78 = .ok (.istore 10, 2) := by decide +kernel
theorem dX3_forged_80 : decode cX3_forged 80 = .ok (.iload 10, 2) := by decide +kernel
theorem dX3_forged_82 : decode cX3_forged 82 = .ok (.iconst 1, 1) := by decide +kernel
theorem dX3_forged_83 : decode cX3_forged 83 = .ok (.iload 6, 2) := by decide +kernel
theorem dX3_forged_85 : decode cX3_forged 85 = .ok (.ishl, 1) := by decide +kernel
theorem dX3_forged_86 : decode cX3_forged 86 = .ok (.if_icmp .ge 50, 3) := by decide +kernel
theorem dX3_forged_89 : decode cX3_forged 89 = .ok (.iload 10, 2) := by decide +kernel
theorem dX3_forged_91 : decode cX3_forged 91 = .ok (.invokestatic 192, 3) := by decide +kernel
theorem dX3_forged_94 : decode cX3_forged 94 = .ok (.istore 11, 2) := by decide +kernel
theorem dX3_forged_96 : decode cX3_forged 96 = .ok (.iload 11, 2) := by decide +kernel
theorem dX3_forged_98 : decode cX3_forged 98 = .ok (.iload 9, 2) := by decide +kernel
theorem dX3_forged_100 : decode cX3_forged 100 = .ok (.if_icmp .ge 30, 3) := by decide +kernel
theorem dX3_forged_103 : decode cX3_forged 103 = .ok (.aload_n 0, 1) := by decide +kernel
theorem dX3_forged_104 : decode cX3_forged 104 = .ok (.iload_n 1, 1) := by decide +kernel
theorem dX3_forged_105 : decode cX3_forged 105 = .ok (.iload_n 2, 1) := by decide +kernel
theorem dX3_forged_106 : decode cX3_forged 106 = .ok (.aload_n 0, 1) := by decide +kernel
theorem dX3_forged_107 : decode cX3_forged 107 = .ok (.getfield 13, 3) := by decide +kernel
theorem dX3_forged_110 : decode cX3_forged 110 = .ok (.iload_n 3, 1) := by decide +kernel
theorem dX3_forged_111 : decode cX3_forged 111 = .ok (.aaload, 1) := by decide +kernel
theorem dX3_forged_112 : decode cX3_forged 112 = .ok (.iload 5, 2) := by decide +kernel
theorem dX3_forged_114 : decode cX3_forged 114 = .ok (.iload 10, 2) := by decide +kernel
theorem dX3_forged_116 : decode cX3_forged 116 = .ok (.invokevirtual 197, 3) := by decide +kernel
theorem dX3_forged_119 : decode cX3_forged 119 = .ok (.ifCond .eq 11, 3) := by decide +kernel
theorem dX3_forged_122 : decode cX3_forged 122 = .ok (.iload 10, 2) := by decide +kernel
theorem dX3_forged_124 : decode cX3_forged 124 = .ok (.istore 8, 2) := by decide +kernel
theorem dX3_forged_126 : decode cX3_forged 126 = .ok (.iload 11, 2) := by decide +kernel
theorem dX3_forged_128 : decode cX3_forged 128 = .ok (.istore 9, 2) := by decide +kernel
theorem dX3_forged_130 : decode cX3_forged 130 = .ok (.iinc 10 1, 3) := by decide +kernel
theorem dX3_forged_133 : decode cX3_forged 133 = .ok (.goto (-53), 3) := by decide +kernel
theorem dX3_forged_136 : decode cX3_forged 136 = .ok (.iload 8, 2) := by decide +kernel
theorem dX3_forged_138 : decode cX3_forged 138 = .ok (.ireturn, 1) := by decide +kernel
set_option maxRecDepth 20000 in
theorem ggX3_near_X3_isSign : GoodIn wsX3_near wsX3_isSign := goodIn_r _ [6, 7, 14, 15, 16, 17, 18, 19, 20, 21, 22, 23, 24, 25, 26, 27] (by decide +kernel) (by decide +kernel)
set_option maxRecDepth 20000 in
theorem gX3_near_X3_isSign : GoodIn wsX3_near (wsV RX3 67 RX3 yX3_isSign wsX3_isSign) := goodIn_app (goodIn_of _ (by decide +kernel)) ggX3_near_X3_isSign
set_option maxRecDepth 20000 in
theorem ggX3_near_X3_isSmell : GoodIn wsX3_near wsX3_isSmell := goodIn_r _ [10] (by decide +kernel) (by decide +kernel)
set_option maxRecDepth 20000 in
theorem gX3_near_X3_isSmell : GoodIn wsX3_near (va_wsS RX3 77 yX3_isSmell wsX3_isSmell) := goodIn_app (goodIn_of _ (by decide +kernel)) ggX3_near_X3_isSmell
set_option maxRecDepth 20000 in
theorem ggX3_near_X3_strengthNear : GoodIn wsX3_near wsX3_strengthNear := goodIn_r _ [13, 28, 29, 30] (by decide +kernel) (by decide +kernel)
set_option maxRecDepth 20000 in
theorem gX3_near_X3_strengthNear : GoodIn wsX3_near (va_wsS RX3 201 yX3_strengthNear wsX3_strengthNear) := goodIn_app (goodIn_of _ (by decide +kernel)) ggX3_near_X3_strengthNear
theorem dX3_near_0 : decode cX3_near 0 = .ok (.aload_n 0, 1) := by decide +kernel
theorem dX3_near_1 : decode cX3_near 1 = .ok (.iload_n 1, 1) := by decide +kernel
theorem dX3_near_2 : decode cX3_near 2 = .ok (.invokevirtual 67, 3) := by decide +kernel
theorem dX3_near_5 : decode cX3_near 5 = .ok (.ifCond .eq 19, 3) := by decide +kernel
theorem dX3_near_8 : decode cX3_near 8 = .ok (.aload_n 0, 1) := by decide +kernel
theorem dX3_near_9 : decode cX3_near 9 = .ok (.iload_n 2, 1) := by decide +kernel
theorem dX3_near_10 : decode cX3_near 10 = .ok (.invokevirtual 67, 3) := by decide +kernel
theorem dX3_near_13 : decode cX3_near 13 = .ok (.ifCond .eq 11, 3) := by decide +kernel
theorem dX3_near_16 : decode cX3_near 16 = .ok (.iload 4, 2) := by decide +kernel
theorem dX3_near_18 : decode cX3_near 18 = .ok (.invokestatic 77, 3) := by decide +kernel
theorem dX3_near_21 : decode cX3_near 21 = .ok (.ifCond .ne 5, 3) := by decide +kernel
theorem dX3_near_24 : decode cX3_near 24 = .ok (.iconst (-1), 1) := by decide +kernel
theorem dX3_near_25 : decode cX3_near 25 = .ok (.ireturn, 1) := by decide +kernel
theorem dX3_near_26 : decode cX3_near 26 = .ok (.iload_n 3, 1) := by decide +kernel
theorem dX3_near_27 : decode cX3_near 27 = .ok (.ifCond .lt 9, 3) := by decide +kernel
theorem dX3_near_30 : decode cX3_near 30 = .ok (.iload_n 3, 1) := by decide +kernel
theorem dX3_near_31 : decode cX3_near 31 = .ok (.bipush 10, 2) := by decide +kernel
theorem dX3_near_33 : decode cX3_near 33 = .ok (.if_icmp .le 6, 3) := by decide +kernel
theorem dX3_near_36 : decode cX3_near 36 = .ok (.bipush (-2), 2) := by decide +kernel
theorem dX3_near_38 : decode cX3_near 38 = .ok (.ireturn, 1) := by decide +kernel
theorem dX3_near_39 : decode cX3_near 39 = .ok (.aload_n 0, 1) := by decide +kernel
theorem dX3_near_40 : decode cX3_near 40 = .ok (.getfield 19, 3) := by decide +kernel
theorem dX3_near_43 : decode cX3_near 43 = .ok (.iload_n 1, 1) := by decide +kernel
theorem dX3_near_44 : decode cX3_near 44 = .ok (.aaload, 1) := by decide +kernel
theorem dX3_near_45 : decode cX3_near 45 = .ok (.aload_n 0, 1) := by decide +kernel
theorem dX3_near_46 : decode cX3_near 46 = .ok (.getfield 19, 3) := by decide +kernel
theorem dX3_near_49 : decode cX3_near 49 = .ok (.iload_n 2, 1) := by decide +kernel
theorem dX3_near_50 : decode cX3_near 50 = .ok (.aaload, 1) := by decide +kernel
theorem dX3_near_51 : decode cX3_near 51 = .ok (.iload_n 3, 1) := by decide +kernel
theorem dX3_near_52 : decode cX3_near 52 = .ok (.iload 4, 2) := by decide +kernel
theorem dX3_near_54 : decode cX3_near 54 = .ok (.invokestatic 201, 3) := by decide +kernel
theorem dX3_near_57 : decode cX3_near 57 = .ok (.ireturn, 1) := by decide +kernel
set_option maxRecDepth 20000 in
theorem ggX3_steals_X3_areTwoSigns : GoodIn wsX3_steals wsX3_areTwoSigns := goodIn_r _ [7, 8, 9, 10, 6, 11, 12, 28, 29, 30, 31, 32, 33, 34, 35, 36, 37, 38, 39, 40, 41] (by decide +kernel) (by decide +kernel)
set_option maxRecDepth 20000 in
theorem gX3_steals_X3_areTwoSigns : GoodIn wsX3_steals (wsV RX3 119 RX3 yX3_areTwoSigns wsX3_areTwoSigns) := goodIn_app (goodIn_of _ (by decide +kernel)) ggX3_steals_X3_areTwoSigns
set_option maxRecDepth 20000 in
theorem ggX3_steals_X3_strengthNear : GoodIn wsX3_steals wsX3_strengthNear := goodIn_r _ [15, 42, 43, 44] (by decide +kernel) (by decide +kernel)
set_option maxRecDepth 20000 in
theorem gX3_steals_X3_strengthNear : GoodIn wsX3_steals (va_wsS RX3 201 yX3_strengthNear wsX3_strengthNear) := goodIn_app (goodIn_of _ (by decide +kernel)) ggX3_steals_X3_strengthNear
set_option maxRecDepth 20000 in
theorem ggX3_steals_X3_areAlike : GoodIn wsX3_steals wsX3_areAlike := goodIn_r _ [19, 20, 21, 22, 6, 23, 24, 25, 26, 27, 28, 29, 30, 31, 32, 33, 34, 35, 36, 37, 38, 39, 40, 41] (by decide +kernel) (by decide +kernel)
set_option maxRecDepth 20000 in
theorem gX3_steals_X3_areAlike : GoodIn wsX3_steals (wsV RX3 179 RX3 yX3_areAlike wsX3_areAlike) := goodIn_app (goodIn_of _ (by decide +kernel)) ggX3_steals_X3_areAlike
theorem dX3_steals_0 : decode cX3_steals 0 = .ok (.aload_n 0, 1) := by decide +kernel
theorem dX3_steals_1 : decode cX3_steals 1 = .ok (.iload_n 1, 1) := by decide +kernel
theorem dX3_steals_2 : decode cX3_steals 2 = .ok (.iload_n 2, 1) := by decide +kernel
theorem dX3_steals_3 : decode cX3_steals 3 = .ok (.invokevirtual 119, 3) := by decide +kernel
theorem dX3_steals_6 : decode cX3_steals 6 = .ok (.ifCond .ne 5, 3) := by decide +kernel
theorem dX3_steals_9 : decode cX3_steals 9 = .ok (.iconst (-1), 1) := by decide +kernel
theorem dX3_steals_10 : decode cX3_steals 10 = .ok (.ireturn, 1) := by decide +kernel
theorem dX3_steals_11 : decode cX3_steals 11 = .ok (.iconst 0, 1) := by decide +kernel
theorem dX3_steals_12 : decode cX3_steals 12 = .ok (.istore_n 3, 1) := by decide +kernel
theorem dX3_steals_13 : decode cX3_steals 13 = .ok (.iload_n 3, 1) := by decide +kernel
theorem dX3_steals_14 : decode cX3_steals 14 = .ok (.bipush 10, 2) := by decide +kernel
theorem dX3_steals_16 : decode cX3_steals 16 = .ok (.if_icmp .gt 72, 3) := by decide +kernel
theorem dX3_steals_19 : decode cX3_steals 19 = .ok (.iconst 0, 1) := by decide +kernel
theorem dX3_steals_20 : decode cX3_steals 20 = .ok (.istore 4, 2) := by decide +kernel
theorem dX3_steals_22 : decode cX3_steals 22 = .ok (.iload 4, 2) := by decide +kernel
theorem dX3_steals_24 : decode cX3_steals 24 = .ok (.bipush 9, 2) := by decide +kernel
theorem dX3_steals_26 : decode cX3_steals 26 = .ok (.if_icmp .ge 34, 3) := by decide +kernel
theorem dX3_steals_29 : decode cX3_steals 29 = .ok (.aload_n 0, 1) := by decide +kernel
theorem dX3_steals_30 : decode cX3_steals 30 = .ok (.getfield 36, 3) := by decide +kernel
theorem dX3_steals_33 : decode cX3_steals 33 = .ok (.iload 4, 2) := by decide +kernel
theorem dX3_steals_35 : decode cX3_steals 35 = .ok (.aload_n 0, 1) := by decide +kernel
theorem dX3_steals_36 : decode cX3_steals 36 = .ok (.getfield 19, 3) := by decide +kernel
theorem dX3_steals_39 : decode cX3_steals 39 = .ok (.iload_n 1, 1) := by decide +kernel
theorem dX3_steals_40 : decode cX3_steals 40 = .ok (.aaload, 1) := by decide +kernel
theorem dX3_steals_41 : decode cX3_steals 41 = .ok (.aload_n 0, 1) := by decide +kernel
theorem dX3_steals_42 : decode cX3_steals 42 = .ok (.getfield 19, 3) := by decide +kernel
theorem dX3_steals_45 : decode cX3_steals 45 = .ok (.iload_n 2, 1) := by decide +kernel
theorem dX3_steals_46 : decode cX3_steals 46 = .ok (.aaload, 1) := by decide +kernel
theorem dX3_steals_47 : decode cX3_steals 47 = .ok (.iload_n 3, 1) := by decide +kernel
theorem dX3_steals_48 : decode cX3_steals 48 = .ok (.iload 4, 2) := by decide +kernel
theorem dX3_steals_50 : decode cX3_steals 50 = .ok (.invokestatic 201, 3) := by decide +kernel
theorem dX3_steals_53 : decode cX3_steals 53 = .ok (.iastore, 1) := by decide +kernel
theorem dX3_steals_54 : decode cX3_steals 54 = .ok (.iinc 4 1, 3) := by decide +kernel
theorem dX3_steals_57 : decode cX3_steals 57 = .ok (.goto (-35), 3) := by decide +kernel
theorem dX3_steals_60 : decode cX3_steals 60 = .ok (.aload_n 0, 1) := by decide +kernel
theorem dX3_steals_61 : decode cX3_steals 61 = .ok (.aload_n 0, 1) := by decide +kernel
theorem dX3_steals_62 : decode cX3_steals 62 = .ok (.getfield 36, 3) := by decide +kernel
theorem dX3_steals_65 : decode cX3_steals 65 = .ok (.aload_n 0, 1) := by decide +kernel
theorem dX3_steals_66 : decode cX3_steals 66 = .ok (.getfield 19, 3) := by decide +kernel
theorem dX3_steals_69 : decode cX3_steals 69 = .ok (.iload_n 2, 1) := by decide +kernel
theorem dX3_steals_70 : decode cX3_steals 70 = .ok (.aaload, 1) := by decide +kernel
theorem dX3_steals_71 : decode cX3_steals 71 = .ok (.getfield 74, 3) := by decide +kernel
theorem dX3_steals_74 : decode cX3_steals 74 = .ok (.invokevirtual 179, 3) := by decide +kernel
theorem dX3_steals_77 : decode cX3_steals 77 = .ok (.ifCond .eq 5, 3) := by decide +kernel
theorem dX3_steals_80 : decode cX3_steals 80 = .ok (.iload_n 3, 1) := by decide +kernel
theorem dX3_steals_81 : decode cX3_steals 81 = .ok (.ireturn, 1) := by decide +kernel
theorem dX3_steals_82 : decode cX3_steals 82 = .ok (.iinc 3 1, 3) := by decide +kernel
theorem dX3_steals_85 : decode cX3_steals 85 = .ok (.goto (-72), 3) := by decide +kernel
theorem dX3_steals_88 : decode cX3_steals 88 = .ok (.bipush (-9), 2) := by decide +kernel
theorem dX3_steals_90 : decode cX3_steals 90 = .ok (.ireturn, 1) := by decide +kernel
set_option maxRecDepth 20000 in
theorem ggX3_fresh_X3_seekNewSmell : GoodIn wsX3_fresh wsX3_seekNewSmell := goodIn_r _ [7, 8, 9, 10, 6, 11, 1, 12, 13, 14, 15, 16, 2, 17, 18, 19, 20, 21, 22, 23, 24, 25, 26, 27, 28, 29, 30, 31, 32, 33, 34, 35, 36, 37, 38, 39, 40, 41] (by decide +kernel) (by decide +kernel)
set_option maxRecDepth 20000 in
theorem gX3_fresh_X3_seekNewSmell : GoodIn wsX3_fresh (wsV RX3 205 RX3 yX3_seekNewSmell wsX3_seekNewSmell) := goodIn_app (goodIn_of _ (by decide +kernel)) ggX3_fresh_X3_seekNewSmell
theorem dX3_fresh_0 : decode cX3_fresh 0 = .ok (.iload_n 1, 1) := by decide +kernel
theorem dX3_fresh_1 : decode cX3_fresh 1 = .ok (.ifCond .lt 12, 3) := by decide +kernel
theorem dX3_fresh_4 : decode cX3_fresh 4 = .ok (.iload_n 1, 1) := by decide +kernel
theorem dX3_fresh_5 : decode cX3_fresh 5 = .ok (.aload_n 0, 1) := by decide +kernel
theorem dX3_fresh_6 : decode cX3_fresh 6 = .ok (.getfield 42, 3) := by decide +kernel
theorem dX3_fresh_9 : decode cX3_fresh 9 = .ok (.arraylength, 1) := by decide +kernel
theorem dX3_fresh_10 : decode cX3_fresh 10 = .ok (.if_icmp .lt 6, 3) := by decide +kernel
theorem dX3_fresh_13 : decode cX3_fresh 13 = .ok (.bipush (-2), 2) := by decide +kernel
theorem dX3_fresh_15 : decode cX3_fresh 15 = .ok (.ireturn, 1) := by decide +kernel
theorem dX3_fresh_16 : decode cX3_fresh 16 = .ok (.aload_n 0, 1) := by decide +kernel
theorem dX3_fresh_17 : decode cX3_fresh 17 = .ok (.getfield 63, 3) := by decide +kernel
theorem dX3_fresh_20 : decode cX3_fresh 20 = .ok (.ifCond .ne 6, 3) := by decide +kernel
theorem dX3_fresh_23 : decode cX3_fresh 23 = .ok (.bipush (-3), 2) := by decide +kernel
theorem dX3_fresh_25 : decode cX3_fresh 25 = .ok (.ireturn, 1) := by decide +kernel
theorem dX3_fresh_26 : decode cX3_fresh 26 = .ok (.aload_n 0, 1) := by decide +kernel
theorem dX3_fresh_27 : decode cX3_fresh 27 = .ok (.getfield 42, 3) := by decide +kernel
theorem dX3_fresh_30 : decode cX3_fresh 30 = .ok (.iconst 0, 1) := by decide +kernel
theorem dX3_fresh_31 : decode cX3_fresh 31 = .ok (.iaload, 1) := by decide +kernel
theorem dX3_fresh_32 : decode cX3_fresh 32 = .ok (.iconst (-1), 1) := by decide +kernel
theorem dX3_fresh_33 : decode cX3_fresh 33 = .ok (.if_icmp .ne 7, 3) := by decide +kernel
theorem dX3_fresh_36 : decode cX3_fresh 36 = .ok (.aload_n 0, 1) := by decide +kernel
theorem dX3_fresh_37 : decode cX3_fresh 37 = .ok (.invokevirtual 205, 3) := by decide +kernel
theorem dX3_fresh_40 : decode cX3_fresh 40 = .ok (.aload_n 0, 1) := by decide +kernel
theorem dX3_fresh_41 : decode cX3_fresh 41 = .ok (.getfield 42, 3) := by decide +kernel
theorem dX3_fresh_44 : decode cX3_fresh 44 = .ok (.iload_n 1, 1) := by decide +kernel
theorem dX3_fresh_45 : decode cX3_fresh 45 = .ok (.iaload, 1) := by decide +kernel
theorem dX3_fresh_46 : decode cX3_fresh 46 = .ok (.ireturn, 1) := by decide +kernel
theorem dX3_apartOf_0 : decode cX3_apartOf 0 = .ok (.iconst 0, 1) := by decide +kernel
theorem dX3_apartOf_1 : decode cX3_apartOf 1 = .ok (.istore_n 2, 1) := by decide +kernel
theorem dX3_apartOf_2 : decode cX3_apartOf 2 = .ok (.iconst 0, 1) := by decide +kernel
theorem dX3_apartOf_3 : decode cX3_apartOf 3 = .ok (.istore_n 3, 1) := by decide +kernel
theorem dX3_apartOf_4 : decode cX3_apartOf 4 = .ok (.iload_n 3, 1) := by decide +kernel
theorem dX3_apartOf_5 : decode cX3_apartOf 5 = .ok (.bipush 9, 2) := by decide +kernel
theorem dX3_apartOf_7 : decode cX3_apartOf 7 = .ok (.if_icmp .ge 22, 3) := by decide +kernel
theorem dX3_apartOf_10 : decode cX3_apartOf 10 = .ok (.iload_n 2, 1) := by decide +kernel
theorem dX3_apartOf_11 : decode cX3_apartOf 11 = .ok (.aload_n 0, 1) := by decide +kernel
theorem dX3_apartOf_12 : decode cX3_apartOf 12 = .ok (.iload_n 3, 1) := by decide +kernel
theorem dX3_apartOf_13 : decode cX3_apartOf 13 = .ok (.iaload, 1) := by decide +kernel
theorem dX3_apartOf_14 : decode cX3_apartOf 14 = .ok (.aload_n 1, 1) := by decide +kernel
theorem dX3_apartOf_15 : decode cX3_apartOf 15 = .ok (.iload_n 3, 1) := by decide +kernel
theorem dX3_apartOf_16 : decode cX3_apartOf 16 = .ok (.iaload, 1) := by decide +kernel
theorem dX3_apartOf_17 : decode cX3_apartOf 17 = .ok (.isub, 1) := by decide +kernel
theorem dX3_apartOf_18 : decode cX3_apartOf 18 = .ok (.invokestatic 172, 3) := by decide +kernel
theorem dX3_apartOf_21 : decode cX3_apartOf 21 = .ok (.iadd, 1) := by decide +kernel
theorem dX3_apartOf_22 : decode cX3_apartOf 22 = .ok (.istore_n 2, 1) := by decide +kernel
theorem dX3_apartOf_23 : decode cX3_apartOf 23 = .ok (.iinc 3 1, 3) := by decide +kernel
theorem dX3_apartOf_26 : decode cX3_apartOf 26 = .ok (.goto (-22), 3) := by decide +kernel
theorem dX3_apartOf_29 : decode cX3_apartOf 29 = .ok (.iload_n 2, 1) := by decide +kernel
theorem dX3_apartOf_30 : decode cX3_apartOf 30 = .ok (.ireturn, 1) := by decide +kernel
set_option maxRecDepth 20000 in
theorem ggX3_areAlike_X3_apartOf : GoodIn wsX3_areAlike wsX3_apartOf := goodIn_r _ [5, 6, 7, 8, 9] (by decide +kernel) (by decide +kernel)
set_option maxRecDepth 20000 in
theorem gX3_areAlike_X3_apartOf : GoodIn wsX3_areAlike (va_wsS RX3 175 yX3_apartOf wsX3_apartOf) := goodIn_app (goodIn_of _ (by decide +kernel)) ggX3_areAlike_X3_apartOf
theorem dX3_areAlike_0 : decode cX3_areAlike 0 = .ok (.bipush 8, 2) := by decide +kernel
theorem dX3_areAlike_2 : decode cX3_areAlike 2 = .ok (.aload_n 1, 1) := by decide +kernel
theorem dX3_areAlike_3 : decode cX3_areAlike 3 = .ok (.aload_n 2, 1) := by decide +kernel
theorem dX3_areAlike_4 : decode cX3_areAlike 4 = .ok (.invokestatic 175, 3) := by decide +kernel
theorem dX3_areAlike_7 : decode cX3_areAlike 7 = .ok (.imul, 1) := by decide +kernel
theorem dX3_areAlike_8 : decode cX3_areAlike 8 = .ok (.aload_n 0, 1) := by decide +kernel
theorem dX3_areAlike_9 : decode cX3_areAlike 9 = .ok (.getfield 80, 3) := by decide +kernel
theorem dX3_areAlike_12 : decode cX3_areAlike 12 = .ok (.if_icmp .gt 7, 3) := by decide +kernel
theorem dX3_areAlike_15 : decode cX3_areAlike 15 = .ok (.iconst 1, 1) := by decide +kernel
theorem dX3_areAlike_16 : decode cX3_areAlike 16 = .ok (.goto 4, 3) := by decide +kernel
theorem dX3_areAlike_19 : decode cX3_areAlike 19 = .ok (.iconst 0, 1) := by decide +kernel
theorem dX3_areAlike_20 : decode cX3_areAlike 20 = .ok (.ireturn, 1) := by decide +kernel
set_option maxRecDepth 20000 in
theorem ggX3_areStoppers_X3_isSmell : GoodIn wsX3_areStoppers wsX3_isSmell := goodIn_r _ [4] (by decide +kernel) (by decide +kernel)
set_option maxRecDepth 20000 in
theorem gX3_areStoppers_X3_isSmell : GoodIn wsX3_areStoppers (va_wsS RX3 77 yX3_isSmell wsX3_isSmell) := goodIn_app (goodIn_of _ (by decide +kernel)) ggX3_areStoppers_X3_isSmell
theorem dX3_areStoppers_0 : decode cX3_areStoppers 0 = .ok (.iconst 0, 1) := by decide +kernel
theorem dX3_areStoppers_1 : decode cX3_areStoppers 1 = .ok (.istore_n 3, 1) := by decide +kernel
theorem dX3_areStoppers_2 : decode cX3_areStoppers 2 = .ok (.iload_n 3, 1) := by decide +kernel
theorem dX3_areStoppers_3 : decode cX3_areStoppers 3 = .ok (.iload_n 2, 1) := by decide +kernel
theorem dX3_areStoppers_4 : decode cX3_areStoppers 4 = .ok (.if_icmp .ge 54, 3) := by decide +kernel
theorem dX3_areStoppers_7 : decode cX3_areStoppers 7 = .ok (.aload_n 0, 1) := by decide +kernel
theorem dX3_areStoppers_8 : decode cX3_areStoppers 8 = .ok (.getfield 90, 3) := by decide +kernel
theorem dX3_areStoppers_11 : decode cX3_areStoppers 11 = .ok (.iload_n 1, 1) := by decide +kernel
theorem dX3_areStoppers_12 : decode cX3_areStoppers 12 = .ok (.iconst 2, 1) := by decide +kernel
theorem dX3_areStoppers_13 : decode cX3_areStoppers 13 = .ok (.iload_n 3, 1) := by decide +kernel
theorem dX3_areStoppers_14 : decode cX3_areStoppers 14 = .ok (.imul, 1) := by decide +kernel
theorem dX3_areStoppers_15 : decode cX3_areStoppers 15 = .ok (.iadd, 1) := by decide +kernel
theorem dX3_areStoppers_16 : decode cX3_areStoppers 16 = .ok (.iconst 1, 1) := by decide +kernel
theorem dX3_areStoppers_17 : decode cX3_areStoppers 17 = .ok (.iadd, 1) := by decide +kernel
theorem dX3_areStoppers_18 : decode cX3_areStoppers 18 = .ok (.iaload, 1) := by decide +kernel
theorem dX3_areStoppers_19 : decode cX3_areStoppers 19 = .ok (.istore 4, 2) := by decide +kernel
theorem dX3_areStoppers_21 : decode cX3_areStoppers 21 = .ok (.aload_n 0, 1) := by decide +kernel
theorem dX3_areStoppers_22 : decode cX3_areStoppers 22 = .ok (.getfield 90, 3) := by decide +kernel
theorem dX3_areStoppers_25 : decode cX3_areStoppers 25 = .ok (.iload_n 1, 1) := by decide +kernel
theorem dX3_areStoppers_26 : decode cX3_areStoppers 26 = .ok (.iconst 2, 1) := by decide +kernel
theorem dX3_areStoppers_27 : decode cX3_areStoppers 27 = .ok (.iload_n 3, 1) := by decide +kernel
theorem dX3_areStoppers_28 : decode cX3_areStoppers 28 = .ok (.imul, 1) := by decide +kernel
theorem dX3_areStoppers_29 : decode cX3_areStoppers 29 = .ok (.iadd, 1) := by decide +kernel
theorem dX3_areStoppers_30 : decode cX3_areStoppers 30 = .ok (.iaload, 1) := by decide +kernel
theorem dX3_areStoppers_31 : decode cX3_areStoppers 31 = .ok (.invokestatic 77, 3) := by decide +kernel
theorem dX3_areStoppers_34 : decode cX3_areStoppers 34 = .ok (.ifCond .eq 16, 3) := by decide +kernel
theorem dX3_areStoppers_37 : decode cX3_areStoppers 37 = .ok (.iload 4, 2) := by decide +kernel
theorem dX3_areStoppers_39 : decode cX3_areStoppers 39 = .ok (.iconst 1, 1) := by decide +kernel
theorem dX3_areStoppers_40 : decode cX3_areStoppers 40 = .ok (.if_icmp .lt 10, 3) := by decide +kernel
theorem dX3_areStoppers_43 : decode cX3_areStoppers 43 = .ok (.iload 4, 2) := by decide +kernel
theorem dX3_areStoppers_45 : decode cX3_areStoppers 45 = .ok (.bipush 9, 2) := by decide +kernel
theorem dX3_areStoppers_47 : decode cX3_areStoppers 47 = .ok (.if_icmp .le 5, 3) := by decide +kernel
theorem dX3_areStoppers_50 : decode cX3_areStoppers 50 = .ok (.iconst 0, 1) := by decide +kernel
theorem dX3_areStoppers_51 : decode cX3_areStoppers 51 = .ok (.ireturn, 1) := by decide +kernel
theorem dX3_areStoppers_52 : decode cX3_areStoppers 52 = .ok (.iinc 3 1, 3) := by decide +kernel
theorem dX3_areStoppers_55 : decode cX3_areStoppers 55 = .ok (.goto (-53), 3) := by decide +kernel
theorem dX3_areStoppers_58 : decode cX3_areStoppers 58 = .ok (.iconst 1, 1) := by decide +kernel
theorem dX3_areStoppers_59 : decode cX3_areStoppers 59 = .ok (.ireturn, 1) := by decide +kernel
set_option maxRecDepth 20000 in
theorem ggX3_isTakenFor_X3_areAlike : GoodIn wsX3_isTakenFor wsX3_areAlike := goodIn_r _ [7, 8, 9, 10, 6, 11, 12, 13, 14, 15, 16, 17, 18, 19, 20, 21, 22, 23, 24, 25, 26, 27, 28, 29] (by decide +kernel) (by decide +kernel)
set_option maxRecDepth 20000 in
theorem gX3_isTakenFor_X3_areAlike : GoodIn wsX3_isTakenFor (wsV RX3 179 RX3 yX3_areAlike wsX3_areAlike) := goodIn_app (goodIn_of _ (by decide +kernel)) ggX3_isTakenFor_X3_areAlike
theorem dX3_isTakenFor_0 : decode cX3_isTakenFor 0 = .ok (.iconst 0, 1) := by decide +kernel
theorem dX3_isTakenFor_1 : decode cX3_isTakenFor 1 = .ok (.istore 6, 2) := by decide +kernel
theorem dX3_isTakenFor_3 : decode cX3_isTakenFor 3 = .ok (.iload 6, 2) := by decide +kernel
theorem dX3_isTakenFor_5 : decode cX3_isTakenFor 5 = .ok (.bipush 9, 2) := by decide +kernel
theorem dX3_isTakenFor_7 : decode cX3_isTakenFor 7 = .ok (.if_icmp .ge 28, 3) := by decide +kernel
theorem dX3_isTakenFor_10 : decode cX3_isTakenFor 10 = .ok (.aload_n 0, 1) := by decide +kernel
theorem dX3_isTakenFor_11 : decode cX3_isTakenFor 11 = .ok (.getfield 36, 3) := by decide +kernel
theorem dX3_isTakenFor_14 : decode cX3_isTakenFor 14 = .ok (.iload 6, 2) := by decide +kernel
theorem dX3_isTakenFor_16 : decode cX3_isTakenFor 16 = .ok (.aload_n 0, 1) := by decide +kernel
theorem dX3_isTakenFor_17 : decode cX3_isTakenFor 17 = .ok (.getfield 19, 3) := by decide +kernel
theorem dX3_isTakenFor_20 : decode cX3_isTakenFor 20 = .ok (.iload_n 1, 1) := by decide +kernel
theorem dX3_isTakenFor_21 : decode cX3_isTakenFor 21 = .ok (.aaload, 1) := by decide +kernel
theorem dX3_isTakenFor_22 : decode cX3_isTakenFor 22 = .ok (.getfield 74, 3) := by decide +kernel
theorem dX3_isTakenFor_25 : decode cX3_isTakenFor 25 = .ok (.iload 6, 2) := by decide +kernel
theorem dX3_isTakenFor_27 : decode cX3_isTakenFor 27 = .ok (.iaload, 1) := by decide +kernel
theorem dX3_isTakenFor_28 : decode cX3_isTakenFor 28 = .ok (.iastore, 1) := by decide +kernel
theorem dX3_isTakenFor_29 : decode cX3_isTakenFor 29 = .ok (.iinc 6 1, 3) := by decide +kernel
theorem dX3_isTakenFor_32 : decode cX3_isTakenFor 32 = .ok (.goto (-29), 3) := by decide +kernel
theorem dX3_isTakenFor_35 : decode cX3_isTakenFor 35 = .ok (.iconst 0, 1) := by decide +kernel
theorem dX3_isTakenFor_36 : decode cX3_isTakenFor 36 = .ok (.istore 6, 2) := by decide +kernel
theorem dX3_isTakenFor_38 : decode cX3_isTakenFor 38 = .ok (.iload 6, 2) := by decide +kernel
theorem dX3_isTakenFor_40 : decode cX3_isTakenFor 40 = .ok (.bipush 10, 2) := by decide +kernel
theorem dX3_isTakenFor_42 : decode cX3_isTakenFor 42 = .ok (.if_icmp .ge 53, 3) := by decide +kernel
theorem dX3_isTakenFor_45 : decode cX3_isTakenFor 45 = .ok (.iload 5, 2) := by decide +kernel
theorem dX3_isTakenFor_47 : decode cX3_isTakenFor 47 = .ok (.iload 6, 2) := by decide +kernel
theorem dX3_isTakenFor_49 : decode cX3_isTakenFor 49 = .ok (.ishr, 1) := by decide +kernel
theorem dX3_isTakenFor_50 : decode cX3_isTakenFor 50 = .ok (.iconst 1, 1) := by decide +kernel
theorem dX3_isTakenFor_51 : decode cX3_isTakenFor 51 = .ok (.iand, 1) := by decide +kernel
theorem dX3_isTakenFor_52 : decode cX3_isTakenFor 52 = .ok (.ifCond .eq 37, 3) := by decide +kernel
theorem dX3_isTakenFor_55 : decode cX3_isTakenFor 55 = .ok (.aload_n 0, 1) := by decide +kernel
theorem dX3_isTakenFor_56 : decode cX3_isTakenFor 56 = .ok (.getfield 36, 3) := by decide +kernel
theorem dX3_isTakenFor_59 : decode cX3_isTakenFor 59 = .ok (.aload_n 3, 1) := by decide +kernel
theorem dX3_isTakenFor_60 : decode cX3_isTakenFor 60 = .ok (.getfield 90, 3) := by decide +kernel
theorem dX3_isTakenFor_63 : decode cX3_isTakenFor 63 = .ok (.iload 4, 2) := by decide +kernel
theorem dX3_isTakenFor_65 : decode cX3_isTakenFor 65 = .ok (.iconst 2, 1) := by decide +kernel
theorem dX3_isTakenFor_66 : decode cX3_isTakenFor 66 = .ok (.iload 6, 2) := by decide +kernel
theorem dX3_isTakenFor_68 : decode cX3_isTakenFor 68 = .ok (.imul, 1) := by decide +kernel
theorem dX3_isTakenFor_69 : decode cX3_isTakenFor 69 = .ok (.iadd, 1) := by decide +kernel
theorem dX3_isTakenFor_70 : decode cX3_isTakenFor 70 = .ok (.iaload, 1) := by decide +kernel
theorem dX3_isTakenFor_71 : decode cX3_isTakenFor 71 = .ok (.dup2, 1) := by decide +kernel
theorem dX3_isTakenFor_72 : decode cX3_isTakenFor 72 = .ok (.iaload, 1) := by decide +kernel
theorem dX3_isTakenFor_73 : decode cX3_isTakenFor 73 = .ok (.aload_n 3, 1) := by decide +kernel
theorem dX3_isTakenFor_74 : decode cX3_isTakenFor 74 = .ok (.getfield 90, 3) := by decide +kernel
theorem dX3_isTakenFor_77 : decode cX3_isTakenFor 77 = .ok (.iload 4, 2) := by decide +kernel
theorem dX3_isTakenFor_79 : decode cX3_isTakenFor 79 = .ok (.iconst 2, 1) := by decide +kernel
theorem dX3_isTakenFor_80 : decode cX3_isTakenFor 80 = .ok (.iload 6, 2) := by decide +kernel
theorem dX3_isTakenFor_82 : decode cX3_isTakenFor 82 = .ok (.imul, 1) := by decide +kernel
theorem dX3_isTakenFor_83 : decode cX3_isTakenFor 83 = .ok (.iadd, 1) := by decide +kernel
theorem dX3_isTakenFor_84 : decode cX3_isTakenFor 84 = .ok (.iconst 1, 1) := by decide +kernel
theorem dX3_isTakenFor_85 : decode cX3_isTakenFor 85 = .ok (.iadd, 1) := by decide +kernel
theorem dX3_isTakenFor_86 : decode cX3_isTakenFor 86 = .ok (.iaload, 1) := by decide +kernel
theorem dX3_isTakenFor_87 : decode cX3_isTakenFor 87 = .ok (.iadd, 1) := by decide +kernel
theorem dX3_isTakenFor_88 : decode cX3_isTakenFor 88 = .ok (.iastore, 1) := by decide +kernel
theorem dX3_isTakenFor_89 : decode cX3_isTakenFor 89 = .ok (.iinc 6 1, 3) := by decide +kernel
theorem dX3_isTakenFor_92 : decode cX3_isTakenFor 92 = .ok (.goto (-54), 3) := by decide +kernel
theorem dX3_isTakenFor_95 : decode cX3_isTakenFor 95 = .ok (.aload_n 0, 1) := by decide +kernel
theorem dX3_isTakenFor_96 : decode cX3_isTakenFor 96 = .ok (.aload_n 0, 1) := by decide +kernel
theorem dX3_isTakenFor_97 : decode cX3_isTakenFor 97 = .ok (.getfield 36, 3) := by decide +kernel
theorem dX3_isTakenFor_100 : decode cX3_isTakenFor 100 = .ok (.aload_n 0, 1) := by decide +kernel
theorem dX3_isTakenFor_101 : decode cX3_isTakenFor 101 = .ok (.getfield 19, 3) := by decide +kernel
theorem dX3_isTakenFor_104 : decode cX3_isTakenFor 104 = .ok (.iload_n 2, 1) := by decide +kernel
theorem dX3_isTakenFor_105 : decode cX3_isTakenFor 105 = .ok (.aaload, 1) := by decide +kernel
theorem dX3_isTakenFor_106 : decode cX3_isTakenFor 106 = .ok (.getfield 74, 3) := by decide +kernel
theorem dX3_isTakenFor_109 : decode cX3_isTakenFor 109 = .ok (.invokevirtual 179, 3) := by decide +kernel
theorem dX3_isTakenFor_112 : decode cX3_isTakenFor 112 = .ok (.ireturn, 1) := by decide +kernel
theorem dX3_strengthNear_0 : decode cX3_strengthNear 0 = .ok (.aload_n 1, 1) := by decide +kernel
theorem dX3_strengthNear_1 : decode cX3_strengthNear 1 = .ok (.getfield 74, 3) := by decide +kernel
theorem dX3_strengthNear_4 : decode cX3_strengthNear 4 = .ok (.iload_n 3, 1) := by decide +kernel
theorem dX3_strengthNear_5 : decode cX3_strengthNear 5 = .ok (.iaload, 1) := by decide +kernel
theorem dX3_strengthNear_6 : decode cX3_strengthNear 6 = .ok (.aload_n 0, 1) := by decide +kernel
theorem dX3_strengthNear_7 : decode cX3_strengthNear 7 = .ok (.getfield 74, 3) := by decide +kernel
theorem dX3_strengthNear_10 : decode cX3_strengthNear 10 = .ok (.iload_n 3, 1) := by decide +kernel
theorem dX3_strengthNear_11 : decode cX3_strengthNear 11 = .ok (.iaload, 1) := by decide +kernel
theorem dX3_strengthNear_12 : decode cX3_strengthNear 12 = .ok (.isub, 1) := by decide +kernel
theorem dX3_strengthNear_13 : decode cX3_strengthNear 13 = .ok (.istore 4, 2) := by decide +kernel
theorem dX3_strengthNear_15 : decode cX3_strengthNear 15 = .ok (.aload_n 0, 1) := by decide +kernel
theorem dX3_strengthNear_16 : decode cX3_strengthNear 16 = .ok (.getfield 74, 3) := by decide +kernel
theorem dX3_strengthNear_19 : decode cX3_strengthNear 19 = .ok (.iload_n 3, 1) := by decide +kernel
theorem dX3_strengthNear_20 : decode cX3_strengthNear 20 = .ok (.iaload, 1) := by decide +kernel
theorem dX3_strengthNear_21 : decode cX3_strengthNear 21 = .ok (.iload 4, 2) := by decide +kernel
theorem dX3_strengthNear_23 : decode cX3_strengthNear 23 = .ok (.iload_n 2, 1) := by decide +kernel
theorem dX3_strengthNear_24 : decode cX3_strengthNear 24 = .ok (.imul, 1) := by decide +kernel
theorem dX3_strengthNear_25 : decode cX3_strengthNear 25 = .ok (.bipush 10, 2) := by decide +kernel
theorem dX3_strengthNear_27 : decode cX3_strengthNear 27 = .ok (.idiv, 1) := by decide +kernel
theorem dX3_strengthNear_28 : decode cX3_strengthNear 28 = .ok (.iadd, 1) := by decide +kernel
theorem dX3_strengthNear_29 : decode cX3_strengthNear 29 = .ok (.ireturn, 1) := by decide +kernel
set_option maxRecDepth 20000 in
theorem ggX3_seekNewSmell_X3_tryStrengths : GoodIn wsX3_seekNewSmell wsX3_tryStrengths := goodIn_r _ [5, 6, 7, 8, 9, 4, 10, 11, 12, 13, 14, 15, 16, 17, 18, 19, 20, 21, 22, 23, 24, 25, 26, 27, 28, 29, 30, 31, 32, 33, 34, 35, 36, 37] (by decide +kernel) (by decide +kernel)
set_option maxRecDepth 20000 in
theorem gX3_seekNewSmell_X3_tryStrengths : GoodIn wsX3_seekNewSmell (wsV RX3 208 RX3 yX3_tryStrengths wsX3_tryStrengths) := goodIn_app (goodIn_of _ (by decide +kernel)) ggX3_seekNewSmell_X3_tryStrengths
theorem dX3_seekNewSmell_0 : decode cX3_seekNewSmell 0 = .ok (.iconst 0, 1) := by decide +kernel
theorem dX3_seekNewSmell_1 : decode cX3_seekNewSmell 1 = .ok (.istore_n 1, 1) := by decide +kernel
theorem dX3_seekNewSmell_2 : decode cX3_seekNewSmell 2 = .ok (.iload_n 1, 1) := by decide +kernel
theorem dX3_seekNewSmell_3 : decode cX3_seekNewSmell 3 = .ok (.bipush 9, 2) := by decide +kernel
theorem dX3_seekNewSmell_5 : decode cX3_seekNewSmell 5 = .ok (.if_icmp .ge 31, 3) := by decide +kernel
theorem dX3_seekNewSmell_8 : decode cX3_seekNewSmell 8 = .ok (.iload_n 1, 1) := by decide +kernel
theorem dX3_seekNewSmell_9 : decode cX3_seekNewSmell 9 = .ok (.iconst 1, 1) := by decide +kernel
theorem dX3_seekNewSmell_10 : decode cX3_seekNewSmell 10 = .ok (.iadd, 1) := by decide +kernel
theorem dX3_seekNewSmell_11 : decode cX3_seekNewSmell 11 = .ok (.istore_n 2, 1) := by decide +kernel
theorem dX3_seekNewSmell_12 : decode cX3_seekNewSmell 12 = .ok (.iload_n 2, 1) := by decide +kernel
theorem dX3_seekNewSmell_13 : decode cX3_seekNewSmell 13 = .ok (.bipush 9, 2) := by decide +kernel
theorem dX3_seekNewSmell_15 : decode cX3_seekNewSmell 15 = .ok (.if_icmp .ge 15, 3) := by decide +kernel
theorem dX3_seekNewSmell_18 : decode cX3_seekNewSmell 18 = .ok (.aload_n 0, 1) := by decide +kernel
theorem dX3_seekNewSmell_19 : decode cX3_seekNewSmell 19 = .ok (.iload_n 1, 1) := by decide +kernel
theorem dX3_seekNewSmell_20 : decode cX3_seekNewSmell 20 = .ok (.iload_n 2, 1) := by decide +kernel
theorem dX3_seekNewSmell_21 : decode cX3_seekNewSmell 21 = .ok (.invokevirtual 208, 3) := by decide +kernel
theorem dX3_seekNewSmell_24 : decode cX3_seekNewSmell 24 = .ok (.iinc 2 1, 3) := by decide +kernel
theorem dX3_seekNewSmell_27 : decode cX3_seekNewSmell 27 = .ok (.goto (-15), 3) := by decide +kernel
theorem dX3_seekNewSmell_30 : decode cX3_seekNewSmell 30 = .ok (.iinc 1 1, 3) := by decide +kernel
theorem dX3_seekNewSmell_33 : decode cX3_seekNewSmell 33 = .ok (.goto (-31), 3) := by decide +kernel
theorem dX3_seekNewSmell_36 : decode cX3_seekNewSmell 36 = .ok (.return_, 1) := by decide +kernel
set_option maxRecDepth 20000 in
theorem ggX3_tryStrengths_X3_leastApart : GoodIn wsX3_tryStrengths wsX3_leastApart := goodIn_r _ [6, 7, 8, 9, 10, 11, 12, 13, 14, 15, 16, 17, 18, 19, 20, 21, 22, 23, 24, 25, 26, 27, 28, 29, 30, 31, 32, 33] (by decide +kernel) (by decide +kernel)
set_option maxRecDepth 20000 in
theorem gX3_tryStrengths_X3_leastApart : GoodIn wsX3_tryStrengths (wsV RX3 212 RX3 yX3_leastApart wsX3_leastApart) := goodIn_app (goodIn_of _ (by decide +kernel)) ggX3_tryStrengths_X3_leastApart
theorem dX3_tryStrengths_0 : decode cX3_tryStrengths 0 = .ok (.iconst 0, 1) := by decide +kernel
theorem dX3_tryStrengths_1 : decode cX3_tryStrengths 1 = .ok (.istore_n 3, 1) := by decide +kernel
theorem dX3_tryStrengths_2 : decode cX3_tryStrengths 2 = .ok (.iload_n 3, 1) := by decide +kernel
theorem dX3_tryStrengths_3 : decode cX3_tryStrengths 3 = .ok (.bipush 9, 2) := by decide +kernel
theorem dX3_tryStrengths_5 : decode cX3_tryStrengths 5 = .ok (.if_icmp .gt 84, 3) := by decide +kernel
theorem dX3_tryStrengths_8 : decode cX3_tryStrengths 8 = .ok (.iconst 0, 1) := by decide +kernel
theorem dX3_tryStrengths_9 : decode cX3_tryStrengths 9 = .ok (.istore 4, 2) := by decide +kernel
theorem dX3_tryStrengths_11 : decode cX3_tryStrengths 11 = .ok (.iload 4, 2) := by decide +kernel
theorem dX3_tryStrengths_13 : decode cX3_tryStrengths 13 = .ok (.bipush 9, 2) := by decide +kernel
theorem dX3_tryStrengths_15 : decode cX3_tryStrengths 15 = .ok (.if_icmp .gt 68, 3) := by decide +kernel
theorem dX3_tryStrengths_18 : decode cX3_tryStrengths 18 = .ok (.aload_n 0, 1) := by decide +kernel
theorem dX3_tryStrengths_19 : decode cX3_tryStrengths 19 = .ok (.iload_n 1, 1) := by decide +kernel
theorem dX3_tryStrengths_20 : decode cX3_tryStrengths 20 = .ok (.iload_n 2, 1) := by decide +kernel
theorem dX3_tryStrengths_21 : decode cX3_tryStrengths 21 = .ok (.iload_n 3, 1) := by decide +kernel
theorem dX3_tryStrengths_22 : decode cX3_tryStrengths 22 = .ok (.iload 4, 2) := by decide +kernel
theorem dX3_tryStrengths_24 : decode cX3_tryStrengths 24 = .ok (.invokevirtual 212, 3) := by decide +kernel
theorem dX3_tryStrengths_27 : decode cX3_tryStrengths 27 = .ok (.istore 5, 2) := by decide +kernel
theorem dX3_tryStrengths_29 : decode cX3_tryStrengths 29 = .ok (.iload 5, 2) := by decide +kernel
theorem dX3_tryStrengths_31 : decode cX3_tryStrengths 31 = .ok (.aload_n 0, 1) := by decide +kernel
theorem dX3_tryStrengths_32 : decode cX3_tryStrengths 32 = .ok (.getfield 42, 3) := by decide +kernel
theorem dX3_tryStrengths_35 : decode cX3_tryStrengths 35 = .ok (.iconst 0, 1) := by decide +kernel
theorem dX3_tryStrengths_36 : decode cX3_tryStrengths 36 = .ok (.iaload, 1) := by decide +kernel
theorem dX3_tryStrengths_37 : decode cX3_tryStrengths 37 = .ok (.if_icmp .le 40, 3) := by decide +kernel
theorem dX3_tryStrengths_40 : decode cX3_tryStrengths 40 = .ok (.aload_n 0, 1) := by decide +kernel
theorem dX3_tryStrengths_41 : decode cX3_tryStrengths 41 = .ok (.getfield 42, 3) := by decide +kernel
theorem dX3_tryStrengths_44 : decode cX3_tryStrengths 44 = .ok (.iconst 0, 1) := by decide +kernel
theorem dX3_tryStrengths_45 : decode cX3_tryStrengths 45 = .ok (.iload 5, 2) := by decide +kernel
theorem dX3_tryStrengths_47 : decode cX3_tryStrengths 47 = .ok (.iastore, 1) := by decide +kernel
theorem dX3_tryStrengths_48 : decode cX3_tryStrengths 48 = .ok (.aload_n 0, 1) := by decide +kernel
theorem dX3_tryStrengths_49 : decode cX3_tryStrengths 49 = .ok (.getfield 42, 3) := by decide +kernel
theorem dX3_tryStrengths_52 : decode cX3_tryStrengths 52 = .ok (.iconst 1, 1) := by decide +kernel
theorem dX3_tryStrengths_53 : decode cX3_tryStrengths 53 = .ok (.iload_n 1, 1) := by decide +kernel
theorem dX3_tryStrengths_54 : decode cX3_tryStrengths 54 = .ok (.iastore, 1) := by decide +kernel
theorem dX3_tryStrengths_55 : decode cX3_tryStrengths 55 = .ok (.aload_n 0, 1) := by decide +kernel
theorem dX3_tryStrengths_56 : decode cX3_tryStrengths 56 = .ok (.getfield 42, 3) := by decide +kernel
theorem dX3_tryStrengths_59 : decode cX3_tryStrengths 59 = .ok (.iconst 2, 1) := by decide +kernel
theorem dX3_tryStrengths_60 : decode cX3_tryStrengths 60 = .ok (.iload_n 2, 1) := by decide +kernel
theorem dX3_tryStrengths_61 : decode cX3_tryStrengths 61 = .ok (.iastore, 1) := by decide +kernel
theorem dX3_tryStrengths_62 : decode cX3_tryStrengths 62 = .ok (.aload_n 0, 1) := by decide +kernel
theorem dX3_tryStrengths_63 : decode cX3_tryStrengths 63 = .ok (.getfield 42, 3) := by decide +kernel
theorem dX3_tryStrengths_66 : decode cX3_tryStrengths 66 = .ok (.iconst 3, 1) := by decide +kernel
theorem dX3_tryStrengths_67 : decode cX3_tryStrengths 67 = .ok (.iload_n 3, 1) := by decide +kernel
theorem dX3_tryStrengths_68 : decode cX3_tryStrengths 68 = .ok (.iastore, 1) := by decide +kernel
theorem dX3_tryStrengths_69 : decode cX3_tryStrengths 69 = .ok (.aload_n 0, 1) := by decide +kernel
theorem dX3_tryStrengths_70 : decode cX3_tryStrengths 70 = .ok (.getfield 42, 3) := by decide +kernel
theorem dX3_tryStrengths_73 : decode cX3_tryStrengths 73 = .ok (.iconst 4, 1) := by decide +kernel
theorem dX3_tryStrengths_74 : decode cX3_tryStrengths 74 = .ok (.iload 4, 2) := by decide +kernel
theorem dX3_tryStrengths_76 : decode cX3_tryStrengths 76 = .ok (.iastore, 1) := by decide +kernel
theorem dX3_tryStrengths_77 : decode cX3_tryStrengths 77 = .ok (.iinc 4 1, 3) := by decide +kernel
theorem dX3_tryStrengths_80 : decode cX3_tryStrengths 80 = .ok (.goto (-69), 3) := by decide +kernel
theorem dX3_tryStrengths_83 : decode cX3_tryStrengths 83 = .ok (.iinc 3 1, 3) := by decide +kernel
theorem dX3_tryStrengths_86 : decode cX3_tryStrengths 86 = .ok (.goto (-84), 3) := by decide +kernel
theorem dX3_tryStrengths_89 : decode cX3_tryStrengths 89 = .ok (.return_, 1) := by decide +kernel
theorem dX3_leastApart_0 : decode cX3_leastApart 0 = .ok (.ldc 158, 2) := by decide +kernel
theorem dX3_leastApart_2 : decode cX3_leastApart 2 = .ok (.istore 5, 2) := by decide +kernel
theorem dX3_leastApart_4 : decode cX3_leastApart 4 = .ok (.iconst 0, 1) := by decide +kernel
theorem dX3_leastApart_5 : decode cX3_leastApart 5 = .ok (.istore 6, 2) := by decide +kernel
theorem dX3_leastApart_7 : decode cX3_leastApart 7 = .ok (.iload 6, 2) := by decide +kernel
theorem dX3_leastApart_9 : decode cX3_leastApart 9 = .ok (.aload_n 0, 1) := by decide +kernel
theorem dX3_leastApart_10 : decode cX3_leastApart 10 = .ok (.getfield 63, 3) := by decide +kernel
theorem dX3_leastApart_13 : decode cX3_leastApart 13 = .ok (.if_icmp .ge 73, 3) := by decide +kernel
theorem dX3_leastApart_16 : decode cX3_leastApart 16 = .ok (.aload_n 0, 1) := by decide +kernel
theorem dX3_leastApart_17 : decode cX3_leastApart 17 = .ok (.getfield 19, 3) := by decide +kernel
theorem dX3_leastApart_20 : decode cX3_leastApart 20 = .ok (.iload 6, 2) := by decide +kernel
theorem dX3_leastApart_22 : decode cX3_leastApart 22 = .ok (.aaload, 1) := by decide +kernel
theorem dX3_leastApart_23 : decode cX3_leastApart 23 = .ok (.getfield 74, 3) := by decide +kernel
theorem dX3_leastApart_26 : decode cX3_leastApart 26 = .ok (.astore 7, 2) := by decide +kernel
theorem dX3_leastApart_28 : decode cX3_leastApart 28 = .ok (.aload_n 0, 1) := by decide +kernel
theorem dX3_leastApart_29 : decode cX3_leastApart 29 = .ok (.getfield 19, 3) := by decide +kernel
theorem dX3_leastApart_32 : decode cX3_leastApart 32 = .ok (.iload 6, 2) := by decide +kernel
theorem dX3_leastApart_34 : decode cX3_leastApart 34 = .ok (.aaload, 1) := by decide +kernel
theorem dX3_leastApart_35 : decode cX3_leastApart 35 = .ok (.getfield 101, 3) := by decide +kernel
theorem dX3_leastApart_38 : decode cX3_leastApart 38 = .ok (.aload 7, 2) := by decide +kernel
theorem dX3_leastApart_40 : decode cX3_leastApart 40 = .ok (.iload_n 1, 1) := by decide +kernel
theorem dX3_leastApart_41 : decode cX3_leastApart 41 = .ok (.iaload, 1) := by decide +kernel
theorem dX3_leastApart_42 : decode cX3_leastApart 42 = .ok (.isub, 1) := by decide +kernel
theorem dX3_leastApart_43 : decode cX3_leastApart 43 = .ok (.aload 7, 2) := by decide +kernel
theorem dX3_leastApart_45 : decode cX3_leastApart 45 = .ok (.iload_n 2, 1) := by decide +kernel
theorem dX3_leastApart_46 : decode cX3_leastApart 46 = .ok (.iaload, 1) := by decide +kernel
theorem dX3_leastApart_47 : decode cX3_leastApart 47 = .ok (.isub, 1) := by decide +kernel
theorem dX3_leastApart_48 : decode cX3_leastApart 48 = .ok (.istore 8, 2) := by decide +kernel
theorem dX3_leastApart_50 : decode cX3_leastApart 50 = .ok (.iload 5, 2) := by decide +kernel
theorem dX3_leastApart_52 : decode cX3_leastApart 52 = .ok (.iload 8, 2) := by decide +kernel
theorem dX3_leastApart_54 : decode cX3_leastApart 54 = .ok (.iload_n 3, 1) := by decide +kernel
theorem dX3_leastApart_55 : decode cX3_leastApart 55 = .ok (.aload 7, 2) := by decide +kernel
theorem dX3_leastApart_57 : decode cX3_leastApart 57 = .ok (.iload_n 1, 1) := by decide +kernel
theorem dX3_leastApart_58 : decode cX3_leastApart 58 = .ok (.iaload, 1) := by decide +kernel
theorem dX3_leastApart_59 : decode cX3_leastApart 59 = .ok (.isub, 1) := by decide +kernel
theorem dX3_leastApart_60 : decode cX3_leastApart 60 = .ok (.invokestatic 172, 3) := by decide +kernel
theorem dX3_leastApart_63 : decode cX3_leastApart 63 = .ok (.iadd, 1) := by decide +kernel
theorem dX3_leastApart_64 : decode cX3_leastApart 64 = .ok (.iload 4, 2) := by decide +kernel
theorem dX3_leastApart_66 : decode cX3_leastApart 66 = .ok (.aload 7, 2) := by decide +kernel
theorem dX3_leastApart_68 : decode cX3_leastApart 68 = .ok (.iload_n 2, 1) := by decide +kernel
theorem dX3_leastApart_69 : decode cX3_leastApart 69 = .ok (.iaload, 1) := by decide +kernel
theorem dX3_leastApart_70 : decode cX3_leastApart 70 = .ok (.isub, 1) := by decide +kernel
theorem dX3_leastApart_71 : decode cX3_leastApart 71 = .ok (.invokestatic 172, 3) := by decide +kernel
theorem dX3_leastApart_74 : decode cX3_leastApart 74 = .ok (.iadd, 1) := by decide +kernel
theorem dX3_leastApart_75 : decode cX3_leastApart 75 = .ok (.invokestatic 113, 3) := by decide +kernel
theorem dX3_leastApart_78 : decode cX3_leastApart 78 = .ok (.istore 5, 2) := by decide +kernel
theorem dX3_leastApart_80 : decode cX3_leastApart 80 = .ok (.iinc 6 1, 3) := by decide +kernel
theorem dX3_leastApart_83 : decode cX3_leastApart 83 = .ok (.goto (-76), 3) := by decide +kernel
theorem dX3_leastApart_86 : decode cX3_leastApart 86 = .ok (.iload 5, 2) := by decide +kernel
theorem dX3_leastApart_88 : decode cX3_leastApart 88 = .ok (.ireturn, 1) := by decide +kernel
set_option maxRecDepth 20000 in
theorem ggX3_odds_X3_isSign : GoodIn wsX3_odds wsX3_isSign := goodIn_r _ [10, 11, 63, 64, 65, 66, 67, 68, 69, 70, 71, 72, 73, 74, 75, 76] (by decide +kernel) (by decide +kernel)
set_option maxRecDepth 20000 in
theorem gX3_odds_X3_isSign : GoodIn wsX3_odds (wsV RX3 67 RX3 yX3_isSign wsX3_isSign) := goodIn_app (goodIn_of _ (by decide +kernel)) ggX3_odds_X3_isSign
set_option maxRecDepth 20000 in
theorem ggX3_odds_X3_spanRefusal : GoodIn wsX3_odds wsX3_spanRefusal := goodIn_r _ [15, 4, 1, 16, 17, 9, 18, 19, 20, 21, 22, 23, 24, 25, 26, 27, 28, 29, 30, 31, 32, 33, 34, 63, 64, 65, 66, 67, 68, 69, 70, 71, 72, 73, 74, 75, 76, 77, 78, 79, 80] (by decide +kernel) (by decide +kernel)
set_option maxRecDepth 20000 in
theorem gX3_odds_X3_spanRefusal : GoodIn wsX3_odds (wsV RX3 48 RX3 yX3_spanRefusal wsX3_spanRefusal) := goodIn_app (goodIn_of _ (by decide +kernel)) ggX3_odds_X3_spanRefusal
set_option maxRecDepth 20000 in
theorem ggX3_odds_X3_isDoor : GoodIn wsX3_odds wsX3_isDoor := goodIn_r _ [37, 77, 78, 79, 80] (by decide +kernel) (by decide +kernel)
set_option maxRecDepth 20000 in
theorem gX3_odds_X3_isDoor : GoodIn wsX3_odds (va_wsS RX3 223 yX3_isDoor wsX3_isDoor) := goodIn_app (goodIn_of _ (by decide +kernel)) ggX3_odds_X3_isDoor
set_option maxRecDepth 20000 in
theorem ggX3_odds_X3_countHours : GoodIn wsX3_odds wsX3_countHours := goodIn_r _ [41, 11, 5, 42, 43, 44, 45, 46, 9, 47, 48, 49, 50, 51, 52, 53, 54, 55, 56, 57, 58, 59, 63, 64, 65, 66, 67, 68, 69, 70, 71, 72, 73, 74, 75, 76, 81, 82, 83, 77, 78, 79, 80] (by decide +kernel) (by decide +kernel)
set_option maxRecDepth 20000 in
theorem gX3_odds_X3_countHours : GoodIn wsX3_odds (wsV RX3 226 RX3 yX3_countHours wsX3_countHours) := goodIn_app (goodIn_of _ (by decide +kernel)) ggX3_odds_X3_countHours
set_option maxRecDepth 20000 in
theorem ggX3_odds_X3_ofShare : GoodIn wsX3_odds wsX3_ofShare := goodIn_r _ [62] (by decide +kernel) (by decide +kernel)
set_option maxRecDepth 20000 in
theorem gX3_odds_X3_ofShare : GoodIn wsX3_odds (va_wsS RX3 230 yX3_ofShare wsX3_ofShare) := goodIn_app (goodIn_of _ (by decide +kernel)) ggX3_odds_X3_ofShare
theorem dX3_odds_0 : decode cX3_odds 0 = .ok (.aload_n 0, 1) := by decide +kernel
theorem dX3_odds_1 : decode cX3_odds 1 = .ok (.iconst 0, 1) := by decide +kernel
theorem dX3_odds_2 : decode cX3_odds 2 = .ok (.putfield 216, 3) := by decide +kernel
theorem dX3_odds_5 : decode cX3_odds 5 = .ok (.aload_n 0, 1) := by decide +kernel
theorem dX3_odds_6 : decode cX3_odds 6 = .ok (.iload_n 1, 1) := by decide +kernel
theorem dX3_odds_7 : decode cX3_odds 7 = .ok (.invokevirtual 67, 3) := by decide +kernel
theorem dX3_odds_10 : decode cX3_odds 10 = .ok (.ifCond .eq 18, 3) := by decide +kernel
theorem dX3_odds_13 : decode cX3_odds 13 = .ok (.aload_n 0, 1) := by decide +kernel
theorem dX3_odds_14 : decode cX3_odds 14 = .ok (.iload_n 3, 1) := by decide +kernel
theorem dX3_odds_15 : decode cX3_odds 15 = .ok (.iload 4, 2) := by decide +kernel
theorem dX3_odds_17 : decode cX3_odds 17 = .ok (.iload 5, 2) := by decide +kernel
theorem dX3_odds_19 : decode cX3_odds 19 = .ok (.ldc2_w 219, 3) := by decide +kernel
theorem dX3_odds_22 : decode cX3_odds 22 = .ok (.invokevirtual 48, 3) := by decide +kernel
theorem dX3_odds_25 : decode cX3_odds 25 = .ok (.ifCond .eq 7, 3) := by decide +kernel
theorem dX3_odds_28 : decode cX3_odds 28 = .ok (.ldc2_w 221, 3) := by decide +kernel
theorem dX3_odds_31 : decode cX3_odds 31 = .ok (.lreturn, 1) := by decide +kernel
theorem dX3_odds_32 : decode cX3_odds 32 = .ok (.aload_n 0, 1) := by decide +kernel
theorem dX3_odds_33 : decode cX3_odds 33 = .ok (.getfield 13, 3) := by decide +kernel
theorem dX3_odds_36 : decode cX3_odds 36 = .ok (.iload_n 3, 1) := by decide +kernel
theorem dX3_odds_37 : decode cX3_odds 37 = .ok (.aaload, 1) := by decide +kernel
theorem dX3_odds_38 : decode cX3_odds 38 = .ok (.iload 5, 2) := by decide +kernel
theorem dX3_odds_40 : decode cX3_odds 40 = .ok (.iload_n 2, 1) := by decide +kernel
theorem dX3_odds_41 : decode cX3_odds 41 = .ok (.invokestatic 223, 3) := by decide +kernel
theorem dX3_odds_44 : decode cX3_odds 44 = .ok (.ifCond .eq 14, 3) := by decide +kernel
theorem dX3_odds_47 : decode cX3_odds 47 = .ok (.iload 6, 2) := by decide +kernel
theorem dX3_odds_49 : decode cX3_odds 49 = .ok (.ifCond .lt 9, 3) := by decide +kernel
theorem dX3_odds_52 : decode cX3_odds 52 = .ok (.iload 6, 2) := by decide +kernel
theorem dX3_odds_54 : decode cX3_odds 54 = .ok (.iconst 1, 1) := by decide +kernel
theorem dX3_odds_55 : decode cX3_odds 55 = .ok (.if_icmp .le 7, 3) := by decide +kernel
theorem dX3_odds_58 : decode cX3_odds 58 = .ok (.ldc2_w 221, 3) := by decide +kernel
theorem dX3_odds_61 : decode cX3_odds 61 = .ok (.lreturn, 1) := by decide +kernel
theorem dX3_odds_62 : decode cX3_odds 62 = .ok (.aload_n 0, 1) := by decide +kernel
theorem dX3_odds_63 : decode cX3_odds 63 = .ok (.iload_n 2, 1) := by decide +kernel
theorem dX3_odds_64 : decode cX3_odds 64 = .ok (.aload_n 0, 1) := by decide +kernel
theorem dX3_odds_65 : decode cX3_odds 65 = .ok (.getfield 13, 3) := by decide +kernel
theorem dX3_odds_68 : decode cX3_odds 68 = .ok (.iload_n 3, 1) := by decide +kernel
theorem dX3_odds_69 : decode cX3_odds 69 = .ok (.aaload, 1) := by decide +kernel
theorem dX3_odds_70 : decode cX3_odds 70 = .ok (.iload 5, 2) := by decide +kernel
theorem dX3_odds_72 : decode cX3_odds 72 = .ok (.invokevirtual 226, 3) := by decide +kernel
theorem dX3_odds_75 : decode cX3_odds 75 = .ok (.istore 7, 2) := by decide +kernel
theorem dX3_odds_77 : decode cX3_odds 77 = .ok (.iload 7, 2) := by decide +kernel
theorem dX3_odds_79 : decode cX3_odds 79 = .ok (.ifCond .ne 7, 3) := by decide +kernel
theorem dX3_odds_82 : decode cX3_odds 82 = .ok (.ldc2_w 221, 3) := by decide +kernel
theorem dX3_odds_85 : decode cX3_odds 85 = .ok (.lreturn, 1) := by decide +kernel
theorem dX3_odds_86 : decode cX3_odds 86 = .ok (.aload_n 0, 1) := by decide +kernel
theorem dX3_odds_87 : decode cX3_odds 87 = .ok (.getfield 39, 3) := by decide +kernel
theorem dX3_odds_90 : decode cX3_odds 90 = .ok (.iload_n 1, 1) := by decide +kernel
theorem dX3_odds_91 : decode cX3_odds 91 = .ok (.iaload, 1) := by decide +kernel
theorem dX3_odds_92 : decode cX3_odds 92 = .ok (.iload 7, 2) := by decide +kernel
theorem dX3_odds_94 : decode cX3_odds 94 = .ok (.iload 6, 2) := by decide +kernel
theorem dX3_odds_96 : decode cX3_odds 96 = .ok (.invokestatic 230, 3) := by decide +kernel
theorem dX3_odds_99 : decode cX3_odds 99 = .ok (.i2l, 1) := by decide +kernel
theorem dX3_odds_100 : decode cX3_odds 100 = .ok (.lreturn, 1) := by decide +kernel
set_option maxRecDepth 20000 in
theorem ggX3_who_X3_spanRefusal : GoodIn wsX3_who wsX3_spanRefusal := goodIn_r _ [9, 2, 10, 11, 12, 8, 13, 14, 15, 16, 17, 18, 19, 20, 21, 22, 23, 24, 25, 26, 27, 28, 29, 55, 56, 57, 58, 59, 60, 61, 62, 63, 64, 65, 66, 67, 68, 69, 70, 71, 72] (by decide +kernel) (by decide +kernel)
set_option maxRecDepth 20000 in
theorem gX3_who_X3_spanRefusal : GoodIn wsX3_who (wsV RX3 48 RX3 yX3_spanRefusal wsX3_spanRefusal) := goodIn_app (goodIn_of _ (by decide +kernel)) ggX3_who_X3_spanRefusal
set_option maxRecDepth 20000 in
theorem ggX3_who_X3_isDoor : GoodIn wsX3_who wsX3_isDoor := goodIn_r _ [32, 69, 70, 71, 72] (by decide +kernel) (by decide +kernel)
set_option maxRecDepth 20000 in
theorem gX3_who_X3_isDoor : GoodIn wsX3_who (va_wsS RX3 223 yX3_isDoor wsX3_isDoor) := goodIn_app (goodIn_of _ (by decide +kernel)) ggX3_who_X3_isDoor
set_option maxRecDepth 20000 in
theorem ggX3_who_X3_countHours : GoodIn wsX3_who wsX3_countHours := goodIn_r _ [36, 3, 4, 37, 38, 39, 40, 41, 8, 42, 43, 44, 45, 46, 47, 48, 49, 50, 51, 52, 53, 54, 55, 56, 57, 58, 59, 60, 61, 62, 63, 64, 65, 66, 67, 68, 73, 74, 75, 69, 70, 71, 72] (by decide +kernel) (by decide +kernel)
set_option maxRecDepth 20000 in
theorem gX3_who_X3_countHours : GoodIn wsX3_who (wsV RX3 226 RX3 yX3_countHours wsX3_countHours) := goodIn_app (goodIn_of _ (by decide +kernel)) ggX3_who_X3_countHours
theorem dX3_who_0 : decode cX3_who 0 = .ok (.aload_n 0, 1) := by decide +kernel
theorem dX3_who_1 : decode cX3_who 1 = .ok (.iload_n 2, 1) := by decide +kernel
theorem dX3_who_2 : decode cX3_who 2 = .ok (.iload_n 3, 1) := by decide +kernel
theorem dX3_who_3 : decode cX3_who 3 = .ok (.iload 4, 2) := by decide +kernel
theorem dX3_who_5 : decode cX3_who 5 = .ok (.ldc2_w 219, 3) := by decide +kernel
theorem dX3_who_8 : decode cX3_who 8 = .ok (.invokevirtual 48, 3) := by decide +kernel
theorem dX3_who_11 : decode cX3_who 11 = .ok (.istore 5, 2) := by decide +kernel
theorem dX3_who_13 : decode cX3_who 13 = .ok (.iload 5, 2) := by decide +kernel
theorem dX3_who_15 : decode cX3_who 15 = .ok (.ifCond .eq 6, 3) := by decide +kernel
theorem dX3_who_18 : decode cX3_who 18 = .ok (.iload 5, 2) := by decide +kernel
theorem dX3_who_20 : decode cX3_who 20 = .ok (.ireturn, 1) := by decide +kernel
theorem dX3_who_21 : decode cX3_who 21 = .ok (.aload_n 0, 1) := by decide +kernel
theorem dX3_who_22 : decode cX3_who 22 = .ok (.getfield 13, 3) := by decide +kernel
theorem dX3_who_25 : decode cX3_who 25 = .ok (.iload_n 2, 1) := by decide +kernel
theorem dX3_who_26 : decode cX3_who 26 = .ok (.aaload, 1) := by decide +kernel
theorem dX3_who_27 : decode cX3_who 27 = .ok (.iload 4, 2) := by decide +kernel
theorem dX3_who_29 : decode cX3_who 29 = .ok (.iload_n 1, 1) := by decide +kernel
theorem dX3_who_30 : decode cX3_who 30 = .ok (.invokestatic 223, 3) := by decide +kernel
theorem dX3_who_33 : decode cX3_who 33 = .ok (.ifCond .ne 6, 3) := by decide +kernel
theorem dX3_who_36 : decode cX3_who 36 = .ok (.bipush (-2), 2) := by decide +kernel
theorem dX3_who_38 : decode cX3_who 38 = .ok (.ireturn, 1) := by decide +kernel
theorem dX3_who_39 : decode cX3_who 39 = .ok (.aload_n 0, 1) := by decide +kernel
theorem dX3_who_40 : decode cX3_who 40 = .ok (.iload_n 1, 1) := by decide +kernel
theorem dX3_who_41 : decode cX3_who 41 = .ok (.aload_n 0, 1) := by decide +kernel
theorem dX3_who_42 : decode cX3_who 42 = .ok (.getfield 13, 3) := by decide +kernel
theorem dX3_who_45 : decode cX3_who 45 = .ok (.iload_n 2, 1) := by decide +kernel
theorem dX3_who_46 : decode cX3_who 46 = .ok (.aaload, 1) := by decide +kernel
theorem dX3_who_47 : decode cX3_who 47 = .ok (.iload 4, 2) := by decide +kernel
theorem dX3_who_49 : decode cX3_who 49 = .ok (.invokevirtual 226, 3) := by decide +kernel
theorem dX3_who_52 : decode cX3_who 52 = .ok (.pop, 1) := by decide +kernel
theorem dX3_who_53 : decode cX3_who 53 = .ok (.bipush (-9), 2) := by decide +kernel
theorem dX3_who_55 : decode cX3_who 55 = .ok (.istore 6, 2) := by decide +kernel
theorem dX3_who_57 : decode cX3_who 57 = .ok (.iconst 0, 1) := by decide +kernel
theorem dX3_who_58 : decode cX3_who 58 = .ok (.istore 7, 2) := by decide +kernel
theorem dX3_who_60 : decode cX3_who 60 = .ok (.iconst 0, 1) := by decide +kernel
theorem dX3_who_61 : decode cX3_who 61 = .ok (.istore 8, 2) := by decide +kernel
theorem dX3_who_63 : decode cX3_who 63 = .ok (.iload 8, 2) := by decide +kernel
theorem dX3_who_65 : decode cX3_who 65 = .ok (.aload_n 0, 1) := by decide +kernel
theorem dX3_who_66 : decode cX3_who 66 = .ok (.getfield 63, 3) := by decide +kernel
theorem dX3_who_69 : decode cX3_who 69 = .ok (.if_icmp .ge 34, 3) := by decide +kernel
theorem dX3_who_72 : decode cX3_who 72 = .ok (.aload_n 0, 1) := by decide +kernel
theorem dX3_who_73 : decode cX3_who 73 = .ok (.getfield 39, 3) := by decide +kernel
theorem dX3_who_76 : decode cX3_who 76 = .ok (.iload 8, 2) := by decide +kernel
theorem dX3_who_78 : decode cX3_who 78 = .ok (.iaload, 1) := by decide +kernel
theorem dX3_who_79 : decode cX3_who 79 = .ok (.iload 7, 2) := by decide +kernel
theorem dX3_who_81 : decode cX3_who 81 = .ok (.if_icmp .le 16, 3) := by decide +kernel
theorem dX3_who_84 : decode cX3_who 84 = .ok (.aload_n 0, 1) := by decide +kernel
theorem dX3_who_85 : decode cX3_who 85 = .ok (.getfield 39, 3) := by decide +kernel
theorem dX3_who_88 : decode cX3_who 88 = .ok (.iload 8, 2) := by decide +kernel
theorem dX3_who_90 : decode cX3_who 90 = .ok (.iaload, 1) := by decide +kernel
theorem dX3_who_91 : decode cX3_who 91 = .ok (.istore 7, 2) := by decide +kernel
theorem dX3_who_93 : decode cX3_who 93 = .ok (.iload 8, 2) := by decide +kernel
theorem dX3_who_95 : decode cX3_who 95 = .ok (.istore 6, 2) := by decide +kernel
theorem dX3_who_97 : decode cX3_who 97 = .ok (.iinc 8 1, 3) := by decide +kernel
theorem dX3_who_100 : decode cX3_who 100 = .ok (.goto (-37), 3) := by decide +kernel
theorem dX3_who_103 : decode cX3_who 103 = .ok (.iload 6, 2) := by decide +kernel
theorem dX3_who_105 : decode cX3_who 105 = .ok (.ireturn, 1) := by decide +kernel
theorem dX3_isDoor_0 : decode cX3_isDoor 0 = .ok (.iconst 0, 1) := by decide +kernel
theorem dX3_isDoor_1 : decode cX3_isDoor 1 = .ok (.istore_n 3, 1) := by decide +kernel
theorem dX3_isDoor_2 : decode cX3_isDoor 2 = .ok (.iload_n 3, 1) := by decide +kernel
theorem dX3_isDoor_3 : decode cX3_isDoor 3 = .ok (.bipush 9, 2) := by decide +kernel
theorem dX3_isDoor_5 : decode cX3_isDoor 5 = .ok (.if_icmp .ge 33, 3) := by decide +kernel
theorem dX3_isDoor_8 : decode cX3_isDoor 8 = .ok (.aload_n 0, 1) := by decide +kernel
theorem dX3_isDoor_9 : decode cX3_isDoor 9 = .ok (.getfield 90, 3) := by decide +kernel
theorem dX3_isDoor_12 : decode cX3_isDoor 12 = .ok (.iload_n 1, 1) := by decide +kernel
theorem dX3_isDoor_13 : decode cX3_isDoor 13 = .ok (.iload_n 3, 1) := by decide +kernel
theorem dX3_isDoor_14 : decode cX3_isDoor 14 = .ok (.iadd, 1) := by decide +kernel
theorem dX3_isDoor_15 : decode cX3_isDoor 15 = .ok (.iaload, 1) := by decide +kernel
theorem dX3_isDoor_16 : decode cX3_isDoor 16 = .ok (.istore 4, 2) := by decide +kernel
theorem dX3_isDoor_18 : decode cX3_isDoor 18 = .ok (.iload 4, 2) := by decide +kernel
theorem dX3_isDoor_20 : decode cX3_isDoor 20 = .ok (.ifCond .lt 10, 3) := by decide +kernel
theorem dX3_isDoor_23 : decode cX3_isDoor 23 = .ok (.iload 4, 2) := by decide +kernel
theorem dX3_isDoor_25 : decode cX3_isDoor 25 = .ok (.bipush 99, 2) := by decide +kernel
theorem dX3_isDoor_27 : decode cX3_isDoor 27 = .ok (.if_icmp .le 5, 3) := by decide +kernel
theorem dX3_isDoor_30 : decode cX3_isDoor 30 = .ok (.iconst 0, 1) := by decide +kernel
theorem dX3_isDoor_31 : decode cX3_isDoor 31 = .ok (.ireturn, 1) := by decide +kernel
theorem dX3_isDoor_32 : decode cX3_isDoor 32 = .ok (.iinc 3 1, 3) := by decide +kernel
theorem dX3_isDoor_35 : decode cX3_isDoor 35 = .ok (.goto (-33), 3) := by decide +kernel
theorem dX3_isDoor_38 : decode cX3_isDoor 38 = .ok (.iload_n 2, 1) := by decide +kernel
theorem dX3_isDoor_39 : decode cX3_isDoor 39 = .ok (.ifCond .lt 12, 3) := by decide +kernel
theorem dX3_isDoor_42 : decode cX3_isDoor 42 = .ok (.iload_n 2, 1) := by decide +kernel
theorem dX3_isDoor_43 : decode cX3_isDoor 43 = .ok (.iconst 3, 1) := by decide +kernel
theorem dX3_isDoor_44 : decode cX3_isDoor 44 = .ok (.if_icmp .gt 7, 3) := by decide +kernel
theorem dX3_isDoor_47 : decode cX3_isDoor 47 = .ok (.iconst 1, 1) := by decide +kernel
theorem dX3_isDoor_48 : decode cX3_isDoor 48 = .ok (.goto 4, 3) := by decide +kernel
theorem dX3_isDoor_51 : decode cX3_isDoor 51 = .ok (.iconst 0, 1) := by decide +kernel
theorem dX3_isDoor_52 : decode cX3_isDoor 52 = .ok (.ireturn, 1) := by decide +kernel
set_option maxRecDepth 20000 in
theorem ggX3_countHours_X3_leftFrom : GoodIn wsX3_countHours wsX3_leftFrom := goodIn_r _ [9, 10, 11, 12, 13, 14, 15, 16, 8, 17, 18, 19, 20, 21, 36, 37, 38, 39, 40, 41, 42, 22, 23, 24, 25, 26, 27, 28, 29, 30, 31, 32, 33, 34, 35] (by decide +kernel) (by decide +kernel)
set_option maxRecDepth 20000 in
theorem gX3_countHours_X3_leftFrom : GoodIn wsX3_countHours (wsV RX3 234 RX3 yX3_leftFrom wsX3_leftFrom) := goodIn_app (goodIn_of _ (by decide +kernel)) ggX3_countHours_X3_leftFrom
theorem dX3_countHours_0 : decode cX3_countHours 0 = .ok (.iconst 0, 1) := by decide +kernel
theorem dX3_countHours_1 : decode cX3_countHours 1 = .ok (.istore 4, 2) := by decide +kernel
theorem dX3_countHours_3 : decode cX3_countHours 3 = .ok (.iconst 0, 1) := by decide +kernel
theorem dX3_countHours_4 : decode cX3_countHours 4 = .ok (.istore 5, 2) := by decide +kernel
theorem dX3_countHours_6 : decode cX3_countHours 6 = .ok (.iload 5, 2) := by decide +kernel
theorem dX3_countHours_8 : decode cX3_countHours 8 = .ok (.aload_n 0, 1) := by decide +kernel
theorem dX3_countHours_9 : decode cX3_countHours 9 = .ok (.getfield 63, 3) := by decide +kernel
theorem dX3_countHours_12 : decode cX3_countHours 12 = .ok (.if_icmp .ge 83, 3) := by decide +kernel
theorem dX3_countHours_15 : decode cX3_countHours 15 = .ok (.aload_n 0, 1) := by decide +kernel
theorem dX3_countHours_16 : decode cX3_countHours 16 = .ok (.getfield 39, 3) := by decide +kernel
theorem dX3_countHours_19 : decode cX3_countHours 19 = .ok (.iload 5, 2) := by decide +kernel
theorem dX3_countHours_21 : decode cX3_countHours 21 = .ok (.iconst 0, 1) := by decide +kernel
theorem dX3_countHours_22 : decode cX3_countHours 22 = .ok (.iastore, 1) := by decide +kernel
theorem dX3_countHours_23 : decode cX3_countHours 23 = .ok (.iconst 0, 1) := by decide +kernel
theorem dX3_countHours_24 : decode cX3_countHours 24 = .ok (.istore 6, 2) := by decide +kernel
theorem dX3_countHours_26 : decode cX3_countHours 26 = .ok (.iload 6, 2) := by decide +kernel
theorem dX3_countHours_28 : decode cX3_countHours 28 = .ok (.bipush 10, 2) := by decide +kernel
theorem dX3_countHours_30 : decode cX3_countHours 30 = .ok (.if_icmp .ge 47, 3) := by decide +kernel
theorem dX3_countHours_33 : decode cX3_countHours 33 = .ok (.aload_n 0, 1) := by decide +kernel
theorem dX3_countHours_34 : decode cX3_countHours 34 = .ok (.aload_n 0, 1) := by decide +kernel
theorem dX3_countHours_35 : decode cX3_countHours 35 = .ok (.getfield 19, 3) := by decide +kernel
theorem dX3_countHours_38 : decode cX3_countHours 38 = .ok (.iload 5, 2) := by decide +kernel
theorem dX3_countHours_40 : decode cX3_countHours 40 = .ok (.aaload, 1) := by decide +kernel
theorem dX3_countHours_41 : decode cX3_countHours 41 = .ok (.iload 6, 2) := by decide +kernel
theorem dX3_countHours_43 : decode cX3_countHours 43 = .ok (.iload 6, 2) := by decide +kernel
theorem dX3_countHours_45 : decode cX3_countHours 45 = .ok (.iload_n 1, 1) := by decide +kernel
theorem dX3_countHours_46 : decode cX3_countHours 46 = .ok (.imul, 1) := by decide +kernel
theorem dX3_countHours_47 : decode cX3_countHours 47 = .ok (.iadd, 1) := by decide +kernel
theorem dX3_countHours_48 : decode cX3_countHours 48 = .ok (.aload_n 2, 1) := by decide +kernel
theorem dX3_countHours_49 : decode cX3_countHours 49 = .ok (.iload_n 3, 1) := by decide +kernel
theorem dX3_countHours_50 : decode cX3_countHours 50 = .ok (.invokevirtual 234, 3) := by decide +kernel
theorem dX3_countHours_53 : decode cX3_countHours 53 = .ok (.aload_n 0, 1) := by decide +kernel
theorem dX3_countHours_54 : decode cX3_countHours 54 = .ok (.getfield 80, 3) := by decide +kernel
theorem dX3_countHours_57 : decode cX3_countHours 57 = .ok (.if_icmp .gt 14, 3) := by decide +kernel
theorem dX3_countHours_60 : decode cX3_countHours 60 = .ok (.aload_n 0, 1) := by decide +kernel
theorem dX3_countHours_61 : decode cX3_countHours 61 = .ok (.getfield 39, 3) := by decide +kernel
theorem dX3_countHours_64 : decode cX3_countHours 64 = .ok (.iload 5, 2) := by decide +kernel
theorem dX3_countHours_66 : decode cX3_countHours 66 = .ok (.dup2, 1) := by decide +kernel
theorem dX3_countHours_67 : decode cX3_countHours 67 = .ok (.iaload, 1) := by decide +kernel
theorem dX3_countHours_68 : decode cX3_countHours 68 = .ok (.iconst 1, 1) := by decide +kernel
theorem dX3_countHours_69 : decode cX3_countHours 69 = .ok (.iadd, 1) := by decide +kernel
theorem dX3_countHours_70 : decode cX3_countHours 70 = .ok (.iastore, 1) := by decide +kernel
theorem dX3_countHours_71 : decode cX3_countHours 71 = .ok (.iinc 6 1, 3) := by decide +kernel
theorem dX3_countHours_74 : decode cX3_countHours 74 = .ok (.goto (-48), 3) := by decide +kernel
theorem dX3_countHours_77 : decode cX3_countHours 77 = .ok (.iload 4, 2) := by decide +kernel
theorem dX3_countHours_79 : decode cX3_countHours 79 = .ok (.aload_n 0, 1) := by decide +kernel
theorem dX3_countHours_80 : decode cX3_countHours 80 = .ok (.getfield 39, 3) := by decide +kernel
theorem dX3_countHours_83 : decode cX3_countHours 83 = .ok (.iload 5, 2) := by decide +kernel
theorem dX3_countHours_85 : decode cX3_countHours 85 = .ok (.iaload, 1) := by decide +kernel
theorem dX3_countHours_86 : decode cX3_countHours 86 = .ok (.iadd, 1) := by decide +kernel
theorem dX3_countHours_87 : decode cX3_countHours 87 = .ok (.istore 4, 2) := by decide +kernel
theorem dX3_countHours_89 : decode cX3_countHours 89 = .ok (.iinc 5 1, 3) := by decide +kernel
theorem dX3_countHours_92 : decode cX3_countHours 92 = .ok (.goto (-86), 3) := by decide +kernel
theorem dX3_countHours_95 : decode cX3_countHours 95 = .ok (.iload 4, 2) := by decide +kernel
theorem dX3_countHours_97 : decode cX3_countHours 97 = .ok (.ireturn, 1) := by decide +kernel
set_option maxRecDepth 20000 in
theorem ggX3_leftFrom_X3_fade : GoodIn wsX3_leftFrom wsX3_fade := goodIn_r _ [9, 10, 11, 12, 3, 13, 21, 22, 23, 24, 25, 26, 27, 28, 29, 30, 31, 32, 33, 34, 14, 15, 16] (by decide +kernel) (by decide +kernel)
set_option maxRecDepth 20000 in
theorem gX3_leftFrom_X3_fade : GoodIn wsX3_leftFrom (wsV RX3 86 RX3 yX3_fade wsX3_fade) := goodIn_app (goodIn_of _ (by decide +kernel)) ggX3_leftFrom_X3_fade
theorem dX3_leftFrom_0 : decode cX3_leftFrom 0 = .ok (.iconst 0, 1) := by decide +kernel
theorem dX3_leftFrom_1 : decode cX3_leftFrom 1 = .ok (.istore 5, 2) := by decide +kernel
theorem dX3_leftFrom_3 : decode cX3_leftFrom 3 = .ok (.iconst 0, 1) := by decide +kernel
theorem dX3_leftFrom_4 : decode cX3_leftFrom 4 = .ok (.istore 6, 2) := by decide +kernel
theorem dX3_leftFrom_6 : decode cX3_leftFrom 6 = .ok (.iload 6, 2) := by decide +kernel
theorem dX3_leftFrom_8 : decode cX3_leftFrom 8 = .ok (.bipush 9, 2) := by decide +kernel
theorem dX3_leftFrom_10 : decode cX3_leftFrom 10 = .ok (.if_icmp .ge 50, 3) := by decide +kernel
theorem dX3_leftFrom_13 : decode cX3_leftFrom 13 = .ok (.aload_n 0, 1) := by decide +kernel
theorem dX3_leftFrom_14 : decode cX3_leftFrom 14 = .ok (.aload_n 1, 1) := by decide +kernel
theorem dX3_leftFrom_15 : decode cX3_leftFrom 15 = .ok (.iload 6, 2) := by decide +kernel
theorem dX3_leftFrom_17 : decode cX3_leftFrom 17 = .ok (.bipush 8, 2) := by decide +kernel
theorem dX3_leftFrom_19 : decode cX3_leftFrom 19 = .ok (.aload_n 1, 1) := by decide +kernel
theorem dX3_leftFrom_20 : decode cX3_leftFrom 20 = .ok (.getfield 74, 3) := by decide +kernel
theorem dX3_leftFrom_23 : decode cX3_leftFrom 23 = .ok (.iload 6, 2) := by decide +kernel
theorem dX3_leftFrom_25 : decode cX3_leftFrom 25 = .ok (.iaload, 1) := by decide +kernel
theorem dX3_leftFrom_26 : decode cX3_leftFrom 26 = .ok (.imul, 1) := by decide +kernel
theorem dX3_leftFrom_27 : decode cX3_leftFrom 27 = .ok (.iload_n 2, 1) := by decide +kernel
theorem dX3_leftFrom_28 : decode cX3_leftFrom 28 = .ok (.invokevirtual 86, 3) := by decide +kernel
theorem dX3_leftFrom_31 : decode cX3_leftFrom 31 = .ok (.istore 7, 2) := by decide +kernel
theorem dX3_leftFrom_33 : decode cX3_leftFrom 33 = .ok (.iload 5, 2) := by decide +kernel
theorem dX3_leftFrom_35 : decode cX3_leftFrom 35 = .ok (.iload 7, 2) := by decide +kernel
theorem dX3_leftFrom_37 : decode cX3_leftFrom 37 = .ok (.aload_n 3, 1) := by decide +kernel
theorem dX3_leftFrom_38 : decode cX3_leftFrom 38 = .ok (.getfield 90, 3) := by decide +kernel
theorem dX3_leftFrom_41 : decode cX3_leftFrom 41 = .ok (.iload 4, 2) := by decide +kernel
theorem dX3_leftFrom_43 : decode cX3_leftFrom 43 = .ok (.iload 6, 2) := by decide +kernel
theorem dX3_leftFrom_45 : decode cX3_leftFrom 45 = .ok (.iadd, 1) := by decide +kernel
theorem dX3_leftFrom_46 : decode cX3_leftFrom 46 = .ok (.iaload, 1) := by decide +kernel
theorem dX3_leftFrom_47 : decode cX3_leftFrom 47 = .ok (.isub, 1) := by decide +kernel
theorem dX3_leftFrom_48 : decode cX3_leftFrom 48 = .ok (.invokestatic 172, 3) := by decide +kernel
theorem dX3_leftFrom_51 : decode cX3_leftFrom 51 = .ok (.iadd, 1) := by decide +kernel
theorem dX3_leftFrom_52 : decode cX3_leftFrom 52 = .ok (.istore 5, 2) := by decide +kernel
theorem dX3_leftFrom_54 : decode cX3_leftFrom 54 = .ok (.iinc 6 1, 3) := by decide +kernel
theorem dX3_leftFrom_57 : decode cX3_leftFrom 57 = .ok (.goto (-51), 3) := by decide +kernel
theorem dX3_leftFrom_60 : decode cX3_leftFrom 60 = .ok (.iload 5, 2) := by decide +kernel
theorem dX3_leftFrom_62 : decode cX3_leftFrom 62 = .ok (.ireturn, 1) := by decide +kernel
theorem dX3_ofShare_0 : decode cX3_ofShare 0 = .ok (.iload_n 2, 1) := by decide +kernel
theorem dX3_ofShare_1 : decode cX3_ofShare 1 = .ok (.ifCond .ne 7, 3) := by decide +kernel
theorem dX3_ofShare_4 : decode cX3_ofShare 4 = .ok (.iload_n 0, 1) := by decide +kernel
theorem dX3_ofShare_5 : decode cX3_ofShare 5 = .ok (.goto 4, 3) := by decide +kernel
theorem dX3_ofShare_8 : decode cX3_ofShare 8 = .ok (.iload_n 1, 1) := by decide +kernel
theorem dX3_ofShare_9 : decode cX3_ofShare 9 = .ok (.istore_n 3, 1) := by decide +kernel
theorem dX3_ofShare_10 : decode cX3_ofShare 10 = .ok (.iload_n 1, 1) := by decide +kernel
theorem dX3_ofShare_11 : decode cX3_ofShare 11 = .ok (.istore 4, 2) := by decide +kernel
theorem dX3_ofShare_13 : decode cX3_ofShare 13 = .ok (.iload 4, 2) := by decide +kernel
theorem dX3_ofShare_15 : decode cX3_ofShare 15 = .ok (.iconst 1, 1) := by decide +kernel
theorem dX3_ofShare_16 : decode cX3_ofShare 16 = .ok (.if_icmp .le 28, 3) := by decide +kernel
theorem dX3_ofShare_19 : decode cX3_ofShare 19 = .ok (.iload_n 0, 1) := by decide +kernel
theorem dX3_ofShare_20 : decode cX3_ofShare 20 = .ok (.iload 4, 2) := by decide +kernel
theorem dX3_ofShare_22 : decode cX3_ofShare 22 = .ok (.irem, 1) := by decide +kernel
theorem dX3_ofShare_23 : decode cX3_ofShare 23 = .ok (.ifCond .ne 15, 3) := by decide +kernel
theorem dX3_ofShare_26 : decode cX3_ofShare 26 = .ok (.iload_n 1, 1) := by decide +kernel
theorem dX3_ofShare_27 : decode cX3_ofShare 27 = .ok (.iload 4, 2) := by decide +kernel
theorem dX3_ofShare_29 : decode cX3_ofShare 29 = .ok (.irem, 1) := by decide +kernel
theorem dX3_ofShare_30 : decode cX3_ofShare 30 = .ok (.ifCond .ne 8, 3) := by decide +kernel
theorem dX3_ofShare_33 : decode cX3_ofShare 33 = .ok (.iload_n 3, 1) := by decide +kernel
theorem dX3_ofShare_34 : decode cX3_ofShare 34 = .ok (.iload 4, 2) := by decide +kernel
theorem dX3_ofShare_36 : decode cX3_ofShare 36 = .ok (.idiv, 1) := by decide +kernel
theorem dX3_ofShare_37 : decode cX3_ofShare 37 = .ok (.ireturn, 1) := by decide +kernel
theorem dX3_ofShare_38 : decode cX3_ofShare 38 = .ok (.iinc 4 (-1), 3) := by decide +kernel
theorem dX3_ofShare_41 : decode cX3_ofShare 41 = .ok (.goto (-28), 3) := by decide +kernel
theorem dX3_ofShare_44 : decode cX3_ofShare 44 = .ok (.iload_n 3, 1) := by decide +kernel
theorem dX3_ofShare_45 : decode cX3_ofShare 45 = .ok (.ireturn, 1) := by decide +kernel
set_option maxRecDepth 20000 in
theorem ggX3_sheet_X3_isSheet : GoodIn wsX3_sheet wsX3_isSheet := goodIn_r _ [6] (by decide +kernel) (by decide +kernel)
set_option maxRecDepth 20000 in
theorem gX3_sheet_X3_isSheet : GoodIn wsX3_sheet (va_wsS RX3 238 yX3_isSheet wsX3_isSheet) := goodIn_app (goodIn_of _ (by decide +kernel)) ggX3_sheet_X3_isSheet
set_option maxRecDepth 20000 in
theorem ggX3_sheet_X3_refused : GoodIn wsX3_sheet wsX3_refused := goodIn_r _ [10, 1, 30, 31, 32, 33, 34, 35, 36, 37, 38, 39, 40, 41, 42, 43] (by decide +kernel) (by decide +kernel)
set_option maxRecDepth 20000 in
theorem gX3_sheet_X3_refused : GoodIn wsX3_sheet (wsV RX3 183 RX3 yX3_refused wsX3_refused) := goodIn_app (goodIn_of _ (by decide +kernel)) ggX3_sheet_X3_refused
set_option maxRecDepth 20000 in
theorem ggX3_sheet_X3_isLane : GoodIn wsX3_sheet wsX3_isLane := goodIn_r _ [13] (by decide +kernel) (by decide +kernel)
set_option maxRecDepth 20000 in
theorem gX3_sheet_X3_isLane : GoodIn wsX3_sheet (va_wsS RX3 241 yX3_isLane wsX3_isLane) := goodIn_app (goodIn_of _ (by decide +kernel)) ggX3_sheet_X3_isLane
set_option maxRecDepth 20000 in
theorem ggX3_sheet_X3_faulted : GoodIn wsX3_sheet wsX3_faulted := goodIn_r _ [17, 1, 30, 31, 32, 33, 34, 35, 36, 37, 38, 39, 40, 41, 42, 43] (by decide +kernel) (by decide +kernel)
set_option maxRecDepth 20000 in
theorem gX3_sheet_X3_faulted : GoodIn wsX3_sheet (wsV RX3 244 RX3 yX3_faulted wsX3_faulted) := goodIn_app (goodIn_of _ (by decide +kernel)) ggX3_sheet_X3_faulted
set_option maxRecDepth 20000 in
theorem ggX3_sheet_X1_renew : GoodIn wsX3_sheet wsX1_renew := goodIn_r _ [21, 22, 23, 24, 25, 26, 27, 28, 29, 44, 45, 46, 47] (by decide +kernel) (by decide +kernel)
set_option maxRecDepth 20000 in
theorem gX3_sheet_X1_renew_n247 : GoodIn wsX3_sheet (wsX1_renew) := ggX3_sheet_X1_renew
theorem dX3_sheet_0 : decode cX3_sheet 0 = .ok (.iload_n 1, 1) := by decide +kernel
theorem dX3_sheet_1 : decode cX3_sheet 1 = .ok (.invokestatic 238, 3) := by decide +kernel
theorem dX3_sheet_4 : decode cX3_sheet 4 = .ok (.ifCond .ne 9, 3) := by decide +kernel
theorem dX3_sheet_7 : decode cX3_sheet 7 = .ok (.aload_n 0, 1) := by decide +kernel
theorem dX3_sheet_8 : decode cX3_sheet 8 = .ok (.iconst (-1), 1) := by decide +kernel
theorem dX3_sheet_9 : decode cX3_sheet 9 = .ok (.invokevirtual 183, 3) := by decide +kernel
theorem dX3_sheet_12 : decode cX3_sheet 12 = .ok (.ireturn, 1) := by decide +kernel
theorem dX3_sheet_13 : decode cX3_sheet 13 = .ok (.iload_n 2, 1) := by decide +kernel
theorem dX3_sheet_14 : decode cX3_sheet 14 = .ok (.invokestatic 241, 3) := by decide +kernel
theorem dX3_sheet_17 : decode cX3_sheet 17 = .ok (.ifCond .eq 9, 3) := by decide +kernel
theorem dX3_sheet_20 : decode cX3_sheet 20 = .ok (.iload_n 3, 1) := by decide +kernel
theorem dX3_sheet_21 : decode cX3_sheet 21 = .ok (.bipush 90, 2) := by decide +kernel
theorem dX3_sheet_23 : decode cX3_sheet 23 = .ok (.if_icmp .le 10, 3) := by decide +kernel
theorem dX3_sheet_26 : decode cX3_sheet 26 = .ok (.aload_n 0, 1) := by decide +kernel
theorem dX3_sheet_27 : decode cX3_sheet 27 = .ok (.bipush (-2), 2) := by decide +kernel
theorem dX3_sheet_29 : decode cX3_sheet 29 = .ok (.invokevirtual 183, 3) := by decide +kernel
theorem dX3_sheet_32 : decode cX3_sheet 32 = .ok (.ireturn, 1) := by decide +kernel
theorem dX3_sheet_33 : decode cX3_sheet 33 = .ok (.iload_n 3, 1) := by decide +kernel
theorem dX3_sheet_34 : decode cX3_sheet 34 = .ok (.ifCond .ge 9, 3) := by decide +kernel
theorem dX3_sheet_37 : decode cX3_sheet 37 = .ok (.aload_n 0, 1) := by decide +kernel
theorem dX3_sheet_38 : decode cX3_sheet 38 = .ok (.iconst 4, 1) := by decide +kernel
theorem dX3_sheet_39 : decode cX3_sheet 39 = .ok (.invokevirtual 244, 3) := by decide +kernel
theorem dX3_sheet_42 : decode cX3_sheet 42 = .ok (.ireturn, 1) := by decide +kernel
theorem dX3_sheet_43 : decode cX3_sheet 43 = .ok (.aload_n 0, 1) := by decide +kernel
theorem dX3_sheet_44 : decode cX3_sheet 44 = .ok (.iconst 0, 1) := by decide +kernel
theorem dX3_sheet_45 : decode cX3_sheet 45 = .ok (.putfield 216, 3) := by decide +kernel
theorem dX3_sheet_48 : decode cX3_sheet 48 = .ok (.aload_n 0, 1) := by decide +kernel
theorem dX3_sheet_49 : decode cX3_sheet 49 = .ok (.getfield 13, 3) := by decide +kernel
theorem dX3_sheet_52 : decode cX3_sheet 52 = .ok (.iload_n 1, 1) := by decide +kernel
theorem dX3_sheet_53 : decode cX3_sheet 53 = .ok (.aaload, 1) := by decide +kernel
theorem dX3_sheet_54 : decode cX3_sheet 54 = .ok (.iload_n 2, 1) := by decide +kernel
theorem dX3_sheet_55 : decode cX3_sheet 55 = .ok (.iload_n 3, 1) := by decide +kernel
theorem dX3_sheet_56 : decode cX3_sheet 56 = .ok (.invokevirtual 247, 3) := by decide +kernel
theorem dX3_sheet_59 : decode cX3_sheet 59 = .ok (.iconst 1, 1) := by decide +kernel
theorem dX3_sheet_60 : decode cX3_sheet 60 = .ok (.ireturn, 1) := by decide +kernel
set_option maxRecDepth 20000 in
theorem ggX3_put_X3_isSheet : GoodIn wsX3_put wsX3_isSheet := goodIn_r _ [6] (by decide +kernel) (by decide +kernel)
set_option maxRecDepth 20000 in
theorem gX3_put_X3_isSheet : GoodIn wsX3_put (va_wsS RX3 238 yX3_isSheet wsX3_isSheet) := goodIn_app (goodIn_of _ (by decide +kernel)) ggX3_put_X3_isSheet
set_option maxRecDepth 20000 in
theorem ggX3_put_X3_refused : GoodIn wsX3_put wsX3_refused := goodIn_r _ [10, 2, 24, 25, 26, 27, 28, 29, 30, 31, 32, 33, 34, 35, 36, 37] (by decide +kernel) (by decide +kernel)
set_option maxRecDepth 20000 in
theorem gX3_put_X3_refused : GoodIn wsX3_put (wsV RX3 183 RX3 yX3_refused wsX3_refused) := goodIn_app (goodIn_of _ (by decide +kernel)) ggX3_put_X3_refused
set_option maxRecDepth 20000 in
theorem ggX3_put_X3_faulted : GoodIn wsX3_put wsX3_faulted := goodIn_r _ [14, 2, 24, 25, 26, 27, 28, 29, 30, 31, 32, 33, 34, 35, 36, 37] (by decide +kernel) (by decide +kernel)
set_option maxRecDepth 20000 in
theorem gX3_put_X3_faulted : GoodIn wsX3_put (wsV RX3 244 RX3 yX3_faulted wsX3_faulted) := goodIn_app (goodIn_of _ (by decide +kernel)) ggX3_put_X3_faulted
set_option maxRecDepth 20000 in
theorem ggX3_put_X1_lacks : GoodIn wsX3_put wsX1_lacks := goodIn_r _ [18, 19, 38, 39, 40, 41] (by decide +kernel) (by decide +kernel)
set_option maxRecDepth 20000 in
theorem gX3_put_X1_lacks_n254 : GoodIn wsX3_put (wsX1_lacks) := ggX3_put_X1_lacks
set_option maxRecDepth 20000 in
theorem ggX3_put_X1_cut : GoodIn wsX3_put wsX1_cut := goodIn_r _ [22, 23, 38, 39, 40, 41] (by decide +kernel) (by decide +kernel)
set_option maxRecDepth 20000 in
theorem gX3_put_X1_cut_n258 : GoodIn wsX3_put (wsX1_cut) := ggX3_put_X1_cut
theorem dX3_put_0 : decode cX3_put 0 = .ok (.iload_n 1, 1) := by decide +kernel
theorem dX3_put_1 : decode cX3_put 1 = .ok (.invokestatic 238, 3) := by decide +kernel
theorem dX3_put_4 : decode cX3_put 4 = .ok (.ifCond .ne 9, 3) := by decide +kernel
theorem dX3_put_7 : decode cX3_put 7 = .ok (.aload_n 0, 1) := by decide +kernel
theorem dX3_put_8 : decode cX3_put 8 = .ok (.iconst (-1), 1) := by decide +kernel
theorem dX3_put_9 : decode cX3_put 9 = .ok (.invokevirtual 183, 3) := by decide +kernel
theorem dX3_put_12 : decode cX3_put 12 = .ok (.ireturn, 1) := by decide +kernel
theorem dX3_put_13 : decode cX3_put 13 = .ok (.aload_n 0, 1) := by decide +kernel
theorem dX3_put_14 : decode cX3_put 14 = .ok (.getfield 13, 3) := by decide +kernel
theorem dX3_put_17 : decode cX3_put 17 = .ok (.iload_n 1, 1) := by decide +kernel
theorem dX3_put_18 : decode cX3_put 18 = .ok (.aaload, 1) := by decide +kernel
theorem dX3_put_19 : decode cX3_put 19 = .ok (.astore 4, 2) := by decide +kernel
theorem dX3_put_21 : decode cX3_put 21 = .ok (.aload 4, 2) := by decide +kernel
theorem dX3_put_23 : decode cX3_put 23 = .ok (.getfield 250, 3) := by decide +kernel
theorem dX3_put_26 : decode cX3_put 26 = .ok (.ifCond .ne 9, 3) := by decide +kernel
theorem dX3_put_29 : decode cX3_put 29 = .ok (.aload_n 0, 1) := by decide +kernel
theorem dX3_put_30 : decode cX3_put 30 = .ok (.iconst 1, 1) := by decide +kernel
theorem dX3_put_31 : decode cX3_put 31 = .ok (.invokevirtual 244, 3) := by decide +kernel
theorem dX3_put_34 : decode cX3_put 34 = .ok (.ireturn, 1) := by decide +kernel
theorem dX3_put_35 : decode cX3_put 35 = .ok (.aload 4, 2) := by decide +kernel
theorem dX3_put_37 : decode cX3_put 37 = .ok (.iload_n 2, 1) := by decide +kernel
theorem dX3_put_38 : decode cX3_put 38 = .ok (.lconst 1, 1) := by decide +kernel
theorem dX3_put_39 : decode cX3_put 39 = .ok (.invokevirtual 254, 3) := by decide +kernel
theorem dX3_put_42 : decode cX3_put 42 = .ok (.ifCond .eq 9, 3) := by decide +kernel
theorem dX3_put_45 : decode cX3_put 45 = .ok (.aload_n 0, 1) := by decide +kernel
theorem dX3_put_46 : decode cX3_put 46 = .ok (.iconst 3, 1) := by decide +kernel
theorem dX3_put_47 : decode cX3_put 47 = .ok (.invokevirtual 244, 3) := by decide +kernel
theorem dX3_put_50 : decode cX3_put 50 = .ok (.ireturn, 1) := by decide +kernel
theorem dX3_put_51 : decode cX3_put 51 = .ok (.aload_n 0, 1) := by decide +kernel
theorem dX3_put_52 : decode cX3_put 52 = .ok (.iconst 0, 1) := by decide +kernel
theorem dX3_put_53 : decode cX3_put 53 = .ok (.putfield 216, 3) := by decide +kernel
theorem dX3_put_56 : decode cX3_put 56 = .ok (.aload 4, 2) := by decide +kernel
theorem dX3_put_58 : decode cX3_put 58 = .ok (.getfield 90, 3) := by decide +kernel
theorem dX3_put_61 : decode cX3_put 61 = .ok (.iload_n 2, 1) := by decide +kernel
theorem dX3_put_62 : decode cX3_put 62 = .ok (.aload 4, 2) := by decide +kernel
theorem dX3_put_64 : decode cX3_put 64 = .ok (.iload_n 3, 1) := by decide +kernel
theorem dX3_put_65 : decode cX3_put 65 = .ok (.invokevirtual 258, 3) := by decide +kernel
theorem dX3_put_68 : decode cX3_put 68 = .ok (.iastore, 1) := by decide +kernel
theorem dX3_put_69 : decode cX3_put 69 = .ok (.iconst 1, 1) := by decide +kernel
theorem dX3_put_70 : decode cX3_put 70 = .ok (.ireturn, 1) := by decide +kernel
set_option maxRecDepth 20000 in
theorem ggX3_cell_X3_spanRefusal : GoodIn wsX3_cell wsX3_spanRefusal := goodIn_r _ [7, 2, 8, 9, 10, 6, 11, 12, 13, 14, 15, 16, 17, 18, 19, 20, 21, 22, 23, 24, 25, 26, 27, 28, 29, 30, 31, 32, 33, 34, 35, 36, 37, 38, 39, 40, 41, 42, 43, 44, 45] (by decide +kernel) (by decide +kernel)
set_option maxRecDepth 20000 in
theorem gX3_cell_X3_spanRefusal : GoodIn wsX3_cell (wsV RX3 48 RX3 yX3_spanRefusal wsX3_spanRefusal) := goodIn_app (goodIn_of _ (by decide +kernel)) ggX3_cell_X3_spanRefusal
theorem dX3_cell_0 : decode cX3_cell 0 = .ok (.aload_n 0, 1) := by decide +kernel
theorem dX3_cell_1 : decode cX3_cell 1 = .ok (.iload_n 1, 1) := by decide +kernel
theorem dX3_cell_2 : decode cX3_cell 2 = .ok (.iload_n 3, 1) := by decide +kernel
theorem dX3_cell_3 : decode cX3_cell 3 = .ok (.iload_n 2, 1) := by decide +kernel
theorem dX3_cell_4 : decode cX3_cell 4 = .ok (.lconst 1, 1) := by decide +kernel
theorem dX3_cell_5 : decode cX3_cell 5 = .ok (.invokevirtual 48, 3) := by decide +kernel
theorem dX3_cell_8 : decode cX3_cell 8 = .ok (.ifCond .eq 7, 3) := by decide +kernel
theorem dX3_cell_11 : decode cX3_cell 11 = .ok (.ldc2_w 221, 3) := by decide +kernel
theorem dX3_cell_14 : decode cX3_cell 14 = .ok (.lreturn, 1) := by decide +kernel
theorem dX3_cell_15 : decode cX3_cell 15 = .ok (.aload_n 0, 1) := by decide +kernel
theorem dX3_cell_16 : decode cX3_cell 16 = .ok (.getfield 13, 3) := by decide +kernel
theorem dX3_cell_19 : decode cX3_cell 19 = .ok (.iload_n 1, 1) := by decide +kernel
theorem dX3_cell_20 : decode cX3_cell 20 = .ok (.aaload, 1) := by decide +kernel
theorem dX3_cell_21 : decode cX3_cell 21 = .ok (.getfield 90, 3) := by decide +kernel
theorem dX3_cell_24 : decode cX3_cell 24 = .ok (.iload_n 2, 1) := by decide +kernel
theorem dX3_cell_25 : decode cX3_cell 25 = .ok (.iaload, 1) := by decide +kernel
theorem dX3_cell_26 : decode cX3_cell 26 = .ok (.i2l, 1) := by decide +kernel
theorem dX3_cell_27 : decode cX3_cell 27 = .ok (.lreturn, 1) := by decide +kernel
theorem dX3_fault_0 : decode cX3_fault 0 = .ok (.aload_n 0, 1) := by decide +kernel
theorem dX3_fault_1 : decode cX3_fault 1 = .ok (.getfield 216, 3) := by decide +kernel
theorem dX3_fault_4 : decode cX3_fault 4 = .ok (.ireturn, 1) := by decide +kernel
set_option maxRecDepth 20000 in
theorem ggX3_spanRefusal_X3_isSheet : GoodIn wsX3_spanRefusal wsX3_isSheet := goodIn_r _ [6] (by decide +kernel) (by decide +kernel)
set_option maxRecDepth 20000 in
theorem gX3_spanRefusal_X3_isSheet : GoodIn wsX3_spanRefusal (va_wsS RX3 238 yX3_isSheet wsX3_isSheet) := goodIn_app (goodIn_of _ (by decide +kernel)) ggX3_spanRefusal_X3_isSheet
set_option maxRecDepth 20000 in
theorem ggX3_spanRefusal_X3_refused : GoodIn wsX3_spanRefusal wsX3_refused := goodIn_r _ [10, 2, 23, 24, 25, 26, 27, 28, 29, 30, 31, 32, 33, 34, 35, 36] (by decide +kernel) (by decide +kernel)
set_option maxRecDepth 20000 in
theorem gX3_spanRefusal_X3_refused : GoodIn wsX3_spanRefusal (wsV RX3 183 RX3 yX3_refused wsX3_refused) := goodIn_app (goodIn_of _ (by decide +kernel)) ggX3_spanRefusal_X3_refused
set_option maxRecDepth 20000 in
theorem ggX3_spanRefusal_X3_isLane : GoodIn wsX3_spanRefusal wsX3_isLane := goodIn_r _ [13] (by decide +kernel) (by decide +kernel)
set_option maxRecDepth 20000 in
theorem gX3_spanRefusal_X3_isLane : GoodIn wsX3_spanRefusal (va_wsS RX3 241 yX3_isLane wsX3_isLane) := goodIn_app (goodIn_of _ (by decide +kernel)) ggX3_spanRefusal_X3_isLane
set_option maxRecDepth 20000 in
theorem ggX3_spanRefusal_X3_faulted : GoodIn wsX3_spanRefusal wsX3_faulted := goodIn_r _ [17, 2, 23, 24, 25, 26, 27, 28, 29, 30, 31, 32, 33, 34, 35, 36] (by decide +kernel) (by decide +kernel)
set_option maxRecDepth 20000 in
theorem gX3_spanRefusal_X3_faulted : GoodIn wsX3_spanRefusal (wsV RX3 244 RX3 yX3_faulted wsX3_faulted) := goodIn_app (goodIn_of _ (by decide +kernel)) ggX3_spanRefusal_X3_faulted
set_option maxRecDepth 20000 in
theorem ggX3_spanRefusal_X1_lacks : GoodIn wsX3_spanRefusal wsX1_lacks := goodIn_r _ [21, 22, 37, 38, 39, 40] (by decide +kernel) (by decide +kernel)
set_option maxRecDepth 20000 in
theorem gX3_spanRefusal_X1_lacks_n254 : GoodIn wsX3_spanRefusal (wsX1_lacks) := ggX3_spanRefusal_X1_lacks
theorem dX3_spanRefusal_0 : decode cX3_spanRefusal 0 = .ok (.iload_n 1, 1) := by decide +kernel
theorem dX3_spanRefusal_1 : decode cX3_spanRefusal 1 = .ok (.invokestatic 238, 3) := by decide +kernel
theorem dX3_spanRefusal_4 : decode cX3_spanRefusal 4 = .ok (.ifCond .ne 9, 3) := by decide +kernel
theorem dX3_spanRefusal_7 : decode cX3_spanRefusal 7 = .ok (.aload_n 0, 1) := by decide +kernel
theorem dX3_spanRefusal_8 : decode cX3_spanRefusal 8 = .ok (.iconst (-1), 1) := by decide +kernel
theorem dX3_spanRefusal_9 : decode cX3_spanRefusal 9 = .ok (.invokevirtual 183, 3) := by decide +kernel
theorem dX3_spanRefusal_12 : decode cX3_spanRefusal 12 = .ok (.ireturn, 1) := by decide +kernel
theorem dX3_spanRefusal_13 : decode cX3_spanRefusal 13 = .ok (.iload_n 2, 1) := by decide +kernel
theorem dX3_spanRefusal_14 : decode cX3_spanRefusal 14 = .ok (.invokestatic 241, 3) := by decide +kernel
theorem dX3_spanRefusal_17 : decode cX3_spanRefusal 17 = .ok (.ifCond .ne 10, 3) := by decide +kernel
theorem dX3_spanRefusal_20 : decode cX3_spanRefusal 20 = .ok (.aload_n 0, 1) := by decide +kernel
theorem dX3_spanRefusal_21 : decode cX3_spanRefusal 21 = .ok (.bipush (-2), 2) := by decide +kernel
theorem dX3_spanRefusal_23 : decode cX3_spanRefusal 23 = .ok (.invokevirtual 183, 3) := by decide +kernel
theorem dX3_spanRefusal_26 : decode cX3_spanRefusal 26 = .ok (.ireturn, 1) := by decide +kernel
theorem dX3_spanRefusal_27 : decode cX3_spanRefusal 27 = .ok (.aload_n 0, 1) := by decide +kernel
theorem dX3_spanRefusal_28 : decode cX3_spanRefusal 28 = .ok (.getfield 13, 3) := by decide +kernel
theorem dX3_spanRefusal_31 : decode cX3_spanRefusal 31 = .ok (.iload_n 1, 1) := by decide +kernel
theorem dX3_spanRefusal_32 : decode cX3_spanRefusal 32 = .ok (.aaload, 1) := by decide +kernel
theorem dX3_spanRefusal_33 : decode cX3_spanRefusal 33 = .ok (.astore 6, 2) := by decide +kernel
theorem dX3_spanRefusal_35 : decode cX3_spanRefusal 35 = .ok (.aload 6, 2) := by decide +kernel
theorem dX3_spanRefusal_37 : decode cX3_spanRefusal 37 = .ok (.getfield 250, 3) := by decide +kernel
theorem dX3_spanRefusal_40 : decode cX3_spanRefusal 40 = .ok (.ifCond .eq 18, 3) := by decide +kernel
theorem dX3_spanRefusal_43 : decode cX3_spanRefusal 43 = .ok (.aload 6, 2) := by decide +kernel
theorem dX3_spanRefusal_45 : decode cX3_spanRefusal 45 = .ok (.getfield 261, 3) := by decide +kernel
theorem dX3_spanRefusal_48 : decode cX3_spanRefusal 48 = .ok (.iload_n 2, 1) := by decide +kernel
theorem dX3_spanRefusal_49 : decode cX3_spanRefusal 49 = .ok (.if_icmp .eq 9, 3) := by decide +kernel
theorem dX3_spanRefusal_52 : decode cX3_spanRefusal 52 = .ok (.aload_n 0, 1) := by decide +kernel
theorem dX3_spanRefusal_53 : decode cX3_spanRefusal 53 = .ok (.iconst 2, 1) := by decide +kernel
theorem dX3_spanRefusal_54 : decode cX3_spanRefusal 54 = .ok (.invokevirtual 244, 3) := by decide +kernel
theorem dX3_spanRefusal_57 : decode cX3_spanRefusal 57 = .ok (.ireturn, 1) := by decide +kernel
theorem dX3_spanRefusal_58 : decode cX3_spanRefusal 58 = .ok (.aload 6, 2) := by decide +kernel
theorem dX3_spanRefusal_60 : decode cX3_spanRefusal 60 = .ok (.getfield 250, 3) := by decide +kernel
theorem dX3_spanRefusal_63 : decode cX3_spanRefusal 63 = .ok (.ifCond .ne 9, 3) := by decide +kernel
theorem dX3_spanRefusal_66 : decode cX3_spanRefusal 66 = .ok (.aload_n 0, 1) := by decide +kernel
theorem dX3_spanRefusal_67 : decode cX3_spanRefusal 67 = .ok (.iconst 1, 1) := by decide +kernel
theorem dX3_spanRefusal_68 : decode cX3_spanRefusal 68 = .ok (.invokevirtual 244, 3) := by decide +kernel
theorem dX3_spanRefusal_71 : decode cX3_spanRefusal 71 = .ok (.ireturn, 1) := by decide +kernel
theorem dX3_spanRefusal_72 : decode cX3_spanRefusal 72 = .ok (.lload 4, 2) := by decide +kernel
theorem dX3_spanRefusal_74 : decode cX3_spanRefusal 74 = .ok (.lconst 0, 1) := by decide +kernel
theorem dX3_spanRefusal_75 : decode cX3_spanRefusal 75 = .ok (.lcmp, 1) := by decide +kernel
theorem dX3_spanRefusal_76 : decode cX3_spanRefusal 76 = .ok (.ifCond .ge 9, 3) := by decide +kernel
theorem dX3_spanRefusal_79 : decode cX3_spanRefusal 79 = .ok (.aload_n 0, 1) := by decide +kernel
theorem dX3_spanRefusal_80 : decode cX3_spanRefusal 80 = .ok (.iconst 4, 1) := by decide +kernel
theorem dX3_spanRefusal_81 : decode cX3_spanRefusal 81 = .ok (.invokevirtual 244, 3) := by decide +kernel
theorem dX3_spanRefusal_84 : decode cX3_spanRefusal 84 = .ok (.ireturn, 1) := by decide +kernel
theorem dX3_spanRefusal_85 : decode cX3_spanRefusal 85 = .ok (.aload 6, 2) := by decide +kernel
theorem dX3_spanRefusal_87 : decode cX3_spanRefusal 87 = .ok (.iload_n 3, 1) := by decide +kernel
theorem dX3_spanRefusal_88 : decode cX3_spanRefusal 88 = .ok (.lload 4, 2) := by decide +kernel
theorem dX3_spanRefusal_90 : decode cX3_spanRefusal 90 = .ok (.invokevirtual 254, 3) := by decide +kernel
theorem dX3_spanRefusal_93 : decode cX3_spanRefusal 93 = .ok (.ifCond .eq 9, 3) := by decide +kernel
theorem dX3_spanRefusal_96 : decode cX3_spanRefusal 96 = .ok (.aload_n 0, 1) := by decide +kernel
theorem dX3_spanRefusal_97 : decode cX3_spanRefusal 97 = .ok (.iconst 3, 1) := by decide +kernel
theorem dX3_spanRefusal_98 : decode cX3_spanRefusal 98 = .ok (.invokevirtual 244, 3) := by decide +kernel
theorem dX3_spanRefusal_101 : decode cX3_spanRefusal 101 = .ok (.ireturn, 1) := by decide +kernel
theorem dX3_spanRefusal_102 : decode cX3_spanRefusal 102 = .ok (.aload_n 0, 1) := by decide +kernel
theorem dX3_spanRefusal_103 : decode cX3_spanRefusal 103 = .ok (.iconst 0, 1) := by decide +kernel
theorem dX3_spanRefusal_104 : decode cX3_spanRefusal 104 = .ok (.putfield 216, 3) := by decide +kernel
theorem dX3_spanRefusal_107 : decode cX3_spanRefusal 107 = .ok (.iconst 0, 1) := by decide +kernel
theorem dX3_spanRefusal_108 : decode cX3_spanRefusal 108 = .ok (.ireturn, 1) := by decide +kernel
theorem dX3_refused_0 : decode cX3_refused 0 = .ok (.aload_n 0, 1) := by decide +kernel
theorem dX3_refused_1 : decode cX3_refused 1 = .ok (.iconst 0, 1) := by decide +kernel
theorem dX3_refused_2 : decode cX3_refused 2 = .ok (.putfield 216, 3) := by decide +kernel
theorem dX3_refused_5 : decode cX3_refused 5 = .ok (.iload_n 1, 1) := by decide +kernel
theorem dX3_refused_6 : decode cX3_refused 6 = .ok (.ireturn, 1) := by decide +kernel
theorem dX3_faulted_0 : decode cX3_faulted 0 = .ok (.aload_n 0, 1) := by decide +kernel
theorem dX3_faulted_1 : decode cX3_faulted 1 = .ok (.iload_n 1, 1) := by decide +kernel
theorem dX3_faulted_2 : decode cX3_faulted 2 = .ok (.putfield 216, 3) := by decide +kernel
theorem dX3_faulted_5 : decode cX3_faulted 5 = .ok (.bipush (-10), 2) := by decide +kernel
theorem dX3_faulted_7 : decode cX3_faulted 7 = .ok (.iload_n 1, 1) := by decide +kernel
theorem dX3_faulted_8 : decode cX3_faulted 8 = .ok (.isub, 1) := by decide +kernel
theorem dX3_faulted_9 : decode cX3_faulted 9 = .ok (.ireturn, 1) := by decide +kernel
theorem dX3_isSheet_0 : decode cX3_isSheet 0 = .ok (.iload_n 0, 1) := by decide +kernel
theorem dX3_isSheet_1 : decode cX3_isSheet 1 = .ok (.ifCond .lt 12, 3) := by decide +kernel
theorem dX3_isSheet_4 : decode cX3_isSheet 4 = .ok (.iload_n 0, 1) := by decide +kernel
theorem dX3_isSheet_5 : decode cX3_isSheet 5 = .ok (.iconst 4, 1) := by decide +kernel
theorem dX3_isSheet_6 : decode cX3_isSheet 6 = .ok (.if_icmp .ge 7, 3) := by decide +kernel
theorem dX3_isSheet_9 : decode cX3_isSheet 9 = .ok (.iconst 1, 1) := by decide +kernel
theorem dX3_isSheet_10 : decode cX3_isSheet 10 = .ok (.goto 4, 3) := by decide +kernel
theorem dX3_isSheet_13 : decode cX3_isSheet 13 = .ok (.iconst 0, 1) := by decide +kernel
theorem dX3_isSheet_14 : decode cX3_isSheet 14 = .ok (.ireturn, 1) := by decide +kernel
theorem dX3_isLane_0 : decode cX3_isLane 0 = .ok (.iload_n 0, 1) := by decide +kernel
theorem dX3_isLane_1 : decode cX3_isLane 1 = .ok (.ifCond .lt 12, 3) := by decide +kernel
theorem dX3_isLane_4 : decode cX3_isLane 4 = .ok (.iload_n 0, 1) := by decide +kernel
theorem dX3_isLane_5 : decode cX3_isLane 5 = .ok (.iconst 3, 1) := by decide +kernel
theorem dX3_isLane_6 : decode cX3_isLane 6 = .ok (.if_icmp .ge 7, 3) := by decide +kernel
theorem dX3_isLane_9 : decode cX3_isLane 9 = .ok (.iconst 1, 1) := by decide +kernel
theorem dX3_isLane_10 : decode cX3_isLane 10 = .ok (.goto 4, 3) := by decide +kernel
theorem dX3_isLane_13 : decode cX3_isLane 13 = .ok (.iconst 0, 1) := by decide +kernel
theorem dX3_isLane_14 : decode cX3_isLane 14 = .ok (.ireturn, 1) := by decide +kernel
end
section
theorem dJ6_bitCount_0f7a4_0 : decode cJ6_bitCount_0f7a4 0 = .ok (.iload_n 0, 1) := by decide +kernel
theorem dJ6_bitCount_0f7a4_1 : decode cJ6_bitCount_0f7a4 1 = .ok (.iload_n 0, 1) := by decide +kernel
theorem dJ6_bitCount_0f7a4_2 : decode cJ6_bitCount_0f7a4 2 = .ok (.iconst 1, 1) := by decide +kernel
theorem dJ6_bitCount_0f7a4_3 : decode cJ6_bitCount_0f7a4 3 = .ok (.iushr, 1) := by decide +kernel
theorem dJ6_bitCount_0f7a4_4 : decode cJ6_bitCount_0f7a4 4 = .ok (.ldc_w 265, 3) := by decide +kernel
theorem dJ6_bitCount_0f7a4_7 : decode cJ6_bitCount_0f7a4 7 = .ok (.iand, 1) := by decide +kernel
theorem dJ6_bitCount_0f7a4_8 : decode cJ6_bitCount_0f7a4 8 = .ok (.isub, 1) := by decide +kernel
theorem dJ6_bitCount_0f7a4_9 : decode cJ6_bitCount_0f7a4 9 = .ok (.istore_n 0, 1) := by decide +kernel
theorem dJ6_bitCount_0f7a4_10 : decode cJ6_bitCount_0f7a4 10 = .ok (.iload_n 0, 1) := by decide +kernel
theorem dJ6_bitCount_0f7a4_11 : decode cJ6_bitCount_0f7a4 11 = .ok (.ldc_w 266, 3) := by decide +kernel
theorem dJ6_bitCount_0f7a4_14 : decode cJ6_bitCount_0f7a4 14 = .ok (.iand, 1) := by decide +kernel
theorem dJ6_bitCount_0f7a4_15 : decode cJ6_bitCount_0f7a4 15 = .ok (.iload_n 0, 1) := by decide +kernel
theorem dJ6_bitCount_0f7a4_16 : decode cJ6_bitCount_0f7a4 16 = .ok (.iconst 2, 1) := by decide +kernel
theorem dJ6_bitCount_0f7a4_17 : decode cJ6_bitCount_0f7a4 17 = .ok (.iushr, 1) := by decide +kernel
theorem dJ6_bitCount_0f7a4_18 : decode cJ6_bitCount_0f7a4 18 = .ok (.ldc_w 266, 3) := by decide +kernel
theorem dJ6_bitCount_0f7a4_21 : decode cJ6_bitCount_0f7a4 21 = .ok (.iand, 1) := by decide +kernel
theorem dJ6_bitCount_0f7a4_22 : decode cJ6_bitCount_0f7a4 22 = .ok (.iadd, 1) := by decide +kernel
theorem dJ6_bitCount_0f7a4_23 : decode cJ6_bitCount_0f7a4 23 = .ok (.istore_n 0, 1) := by decide +kernel
theorem dJ6_bitCount_0f7a4_24 : decode cJ6_bitCount_0f7a4 24 = .ok (.iload_n 0, 1) := by decide +kernel
theorem dJ6_bitCount_0f7a4_25 : decode cJ6_bitCount_0f7a4 25 = .ok (.iload_n 0, 1) := by decide +kernel
theorem dJ6_bitCount_0f7a4_26 : decode cJ6_bitCount_0f7a4 26 = .ok (.iconst 4, 1) := by decide +kernel
theorem dJ6_bitCount_0f7a4_27 : decode cJ6_bitCount_0f7a4 27 = .ok (.iushr, 1) := by decide +kernel
theorem dJ6_bitCount_0f7a4_28 : decode cJ6_bitCount_0f7a4 28 = .ok (.iadd, 1) := by decide +kernel
theorem dJ6_bitCount_0f7a4_29 : decode cJ6_bitCount_0f7a4 29 = .ok (.ldc_w 267, 3) := by decide +kernel
theorem dJ6_bitCount_0f7a4_32 : decode cJ6_bitCount_0f7a4 32 = .ok (.iand, 1) := by decide +kernel
theorem dJ6_bitCount_0f7a4_33 : decode cJ6_bitCount_0f7a4 33 = .ok (.istore_n 0, 1) := by decide +kernel
theorem dJ6_bitCount_0f7a4_34 : decode cJ6_bitCount_0f7a4 34 = .ok (.iload_n 0, 1) := by decide +kernel
theorem dJ6_bitCount_0f7a4_35 : decode cJ6_bitCount_0f7a4 35 = .ok (.iload_n 0, 1) := by decide +kernel
theorem dJ6_bitCount_0f7a4_36 : decode cJ6_bitCount_0f7a4 36 = .ok (.bipush 8, 2) := by decide +kernel
theorem dJ6_bitCount_0f7a4_38 : decode cJ6_bitCount_0f7a4 38 = .ok (.iushr, 1) := by decide +kernel
theorem dJ6_bitCount_0f7a4_39 : decode cJ6_bitCount_0f7a4 39 = .ok (.iadd, 1) := by decide +kernel
theorem dJ6_bitCount_0f7a4_40 : decode cJ6_bitCount_0f7a4 40 = .ok (.istore_n 0, 1) := by decide +kernel
theorem dJ6_bitCount_0f7a4_41 : decode cJ6_bitCount_0f7a4 41 = .ok (.iload_n 0, 1) := by decide +kernel
theorem dJ6_bitCount_0f7a4_42 : decode cJ6_bitCount_0f7a4 42 = .ok (.iload_n 0, 1) := by decide +kernel
theorem dJ6_bitCount_0f7a4_43 : decode cJ6_bitCount_0f7a4 43 = .ok (.bipush 16, 2) := by decide +kernel
theorem dJ6_bitCount_0f7a4_45 : decode cJ6_bitCount_0f7a4 45 = .ok (.iushr, 1) := by decide +kernel
theorem dJ6_bitCount_0f7a4_46 : decode cJ6_bitCount_0f7a4 46 = .ok (.iadd, 1) := by decide +kernel
theorem dJ6_bitCount_0f7a4_47 : decode cJ6_bitCount_0f7a4 47 = .ok (.istore_n 0, 1) := by decide +kernel
theorem dJ6_bitCount_0f7a4_48 : decode cJ6_bitCount_0f7a4 48 = .ok (.iload_n 0, 1) := by decide +kernel
theorem dJ6_bitCount_0f7a4_49 : decode cJ6_bitCount_0f7a4 49 = .ok (.bipush 63, 2) := by decide +kernel
theorem dJ6_bitCount_0f7a4_51 : decode cJ6_bitCount_0f7a4 51 = .ok (.iand, 1) := by decide +kernel
theorem dJ6_bitCount_0f7a4_52 : decode cJ6_bitCount_0f7a4 52 = .ok (.ireturn, 1) := by decide +kernel
theorem dJ9_abs_0f7a4_0 : decode cJ9_abs_0f7a4 0 = .ok (.iload_n 0, 1) := by decide +kernel
theorem dJ9_abs_0f7a4_1 : decode cJ9_abs_0f7a4 1 = .ok (.ifCond .ge 8, 3) := by decide +kernel
theorem dJ9_abs_0f7a4_4 : decode cJ9_abs_0f7a4 4 = .ok (.iload_n 0, 1) := by decide +kernel
theorem dJ9_abs_0f7a4_5 : decode cJ9_abs_0f7a4 5 = .ok (.ineg, 1) := by decide +kernel
theorem dJ9_abs_0f7a4_6 : decode cJ9_abs_0f7a4 6 = .ok (.goto 4, 3) := by decide +kernel
theorem dJ9_abs_0f7a4_9 : decode cJ9_abs_0f7a4 9 = .ok (.iload_n 0, 1) := by decide +kernel
theorem dJ9_abs_0f7a4_10 : decode cJ9_abs_0f7a4 10 = .ok (.ireturn, 1) := by decide +kernel
theorem dJ9_min_7cf53_0 : decode cJ9_min_7cf53 0 = .ok (.iload_n 0, 1) := by decide +kernel
theorem dJ9_min_7cf53_1 : decode cJ9_min_7cf53 1 = .ok (.iload_n 1, 1) := by decide +kernel
theorem dJ9_min_7cf53_2 : decode cJ9_min_7cf53 2 = .ok (.if_icmp .gt 7, 3) := by decide +kernel
theorem dJ9_min_7cf53_5 : decode cJ9_min_7cf53 5 = .ok (.iload_n 0, 1) := by decide +kernel
theorem dJ9_min_7cf53_6 : decode cJ9_min_7cf53 6 = .ok (.goto 4, 3) := by decide +kernel
theorem dJ9_min_7cf53_9 : decode cJ9_min_7cf53 9 = .ok (.iload_n 1, 1) := by decide +kernel
theorem dJ9_min_7cf53_10 : decode cJ9_min_7cf53 10 = .ok (.ireturn, 1) := by decide +kernel
theorem dJ7_fill_53178_0 : decode cJ7_fill_53178 0 = .ok (.iconst 0, 1) := by decide +kernel
theorem dJ7_fill_53178_1 : decode cJ7_fill_53178 1 = .ok (.istore_n 2, 1) := by decide +kernel
theorem dJ7_fill_53178_2 : decode cJ7_fill_53178 2 = .ok (.aload_n 0, 1) := by decide +kernel
theorem dJ7_fill_53178_3 : decode cJ7_fill_53178 3 = .ok (.arraylength, 1) := by decide +kernel
theorem dJ7_fill_53178_4 : decode cJ7_fill_53178 4 = .ok (.istore_n 3, 1) := by decide +kernel
theorem dJ7_fill_53178_5 : decode cJ7_fill_53178 5 = .ok (.iload_n 2, 1) := by decide +kernel
theorem dJ7_fill_53178_6 : decode cJ7_fill_53178 6 = .ok (.iload_n 3, 1) := by decide +kernel
theorem dJ7_fill_53178_7 : decode cJ7_fill_53178 7 = .ok (.if_icmp .ge 13, 3) := by decide +kernel
theorem dJ7_fill_53178_10 : decode cJ7_fill_53178 10 = .ok (.aload_n 0, 1) := by decide +kernel
theorem dJ7_fill_53178_11 : decode cJ7_fill_53178 11 = .ok (.iload_n 2, 1) := by decide +kernel
theorem dJ7_fill_53178_12 : decode cJ7_fill_53178 12 = .ok (.iload_n 1, 1) := by decide +kernel
theorem dJ7_fill_53178_13 : decode cJ7_fill_53178 13 = .ok (.iastore, 1) := by decide +kernel
theorem dJ7_fill_53178_14 : decode cJ7_fill_53178 14 = .ok (.iinc 2 1, 3) := by decide +kernel
theorem dJ7_fill_53178_17 : decode cJ7_fill_53178 17 = .ok (.goto (-12), 3) := by decide +kernel
theorem dJ7_fill_53178_20 : decode cJ7_fill_53178 20 = .ok (.return_, 1) := by decide +kernel
theorem dL_cell_0 : decode cL_cell 0 = .ok (.iload_n 1, 1) := by decide +kernel
theorem dL_cell_1 : decode cL_cell 1 = .ok (.aload_n 0, 1) := by decide +kernel
theorem dL_cell_2 : decode cL_cell 2 = .ok (.arraylength, 1) := by decide +kernel
theorem dL_cell_3 : decode cL_cell 3 = .ok (.if_icmp .ge 9, 3) := by decide +kernel
theorem dL_cell_6 : decode cL_cell 6 = .ok (.aload_n 0, 1) := by decide +kernel
theorem dL_cell_7 : decode cL_cell 7 = .ok (.iload_n 1, 1) := by decide +kernel
theorem dL_cell_8 : decode cL_cell 8 = .ok (.iaload, 1) := by decide +kernel
theorem dL_cell_9 : decode cL_cell 9 = .ok (.goto 11, 3) := by decide +kernel
theorem dL_cell_12 : decode cL_cell 12 = .ok (.ldc 7, 2) := by decide +kernel
theorem dL_cell_14 : decode cL_cell 14 = .ok (.iload_n 1, 1) := by decide +kernel
theorem dL_cell_15 : decode cL_cell 15 = .ok (.imul, 1) := by decide +kernel
theorem dL_cell_16 : decode cL_cell 16 = .ok (.sipush 977, 3) := by decide +kernel
theorem dL_cell_19 : decode cL_cell 19 = .ok (.iadd, 1) := by decide +kernel
theorem dL_cell_20 : decode cL_cell 20 = .ok (.ireturn, 1) := by decide +kernel
theorem dL_low_0 : decode cL_low 0 = .ok (.iload_n 0, 1) := by decide +kernel
theorem dL_low_1 : decode cL_low 1 = .ok (.ldc 8, 2) := by decide +kernel
theorem dL_low_3 : decode cL_low 3 = .ok (.iand, 1) := by decide +kernel
theorem dL_low_4 : decode cL_low 4 = .ok (.iload_n 1, 1) := by decide +kernel
theorem dL_low_5 : decode cL_low 5 = .ok (.irem, 1) := by decide +kernel
theorem dL_low_6 : decode cL_low 6 = .ok (.ireturn, 1) := by decide +kernel
set_option maxRecDepth 20000 in
theorem ggL_lay_L_cell : GoodIn wsL_lay wsL_cell := goodIn_r _ [4, 5] (by decide +kernel) (by decide +kernel)
set_option maxRecDepth 20000 in
theorem gL_lay_L_cell : GoodIn wsL_lay (va_wsS RL 9 yL_cell wsL_cell) := goodIn_app (goodIn_of _ (by decide +kernel)) ggL_lay_L_cell
set_option maxRecDepth 20000 in
theorem ggL_lay_L_low : GoodIn wsL_lay wsL_low := goodIn_r _ [8, 9] (by decide +kernel) (by decide +kernel)
set_option maxRecDepth 20000 in
theorem gL_lay_L_low : GoodIn wsL_lay (va_wsS RL 15 yL_low wsL_low) := goodIn_app (goodIn_of _ (by decide +kernel)) ggL_lay_L_low
set_option maxRecDepth 20000 in
theorem ggL_lay_X3_put : GoodIn wsL_lay wsX3_put := goodIn_r _ [14, 15, 16, 17, 18, 13, 19, 20, 21, 22, 23, 24, 25, 26, 27, 28, 29, 30, 31, 32, 33, 34, 35, 36, 82, 83, 84, 85, 86, 87, 88, 89, 90, 91, 92, 93, 94, 95, 96, 97, 98, 99] (by decide +kernel) (by decide +kernel)
set_option maxRecDepth 20000 in
theorem gL_lay_X3_put : GoodIn wsL_lay (wsV RL 19 RX3 yX3_put wsX3_put) := goodIn_app (goodIn_of _ (by decide +kernel)) ggL_lay_X3_put
set_option maxRecDepth 20000 in
theorem ggL_lay_L_set : GoodIn wsL_lay wsL_set := goodIn_r _ [39] (by decide +kernel) (by decide +kernel)
set_option maxRecDepth 20000 in
theorem gL_lay_L_set : GoodIn wsL_lay (va_wsS RL 25 yL_set wsL_set) := goodIn_app (goodIn_of _ (by decide +kernel)) ggL_lay_L_set
set_option maxRecDepth 20000 in
theorem ggL_lay_L_get : GoodIn wsL_lay wsL_get := goodIn_r _ [42] (by decide +kernel) (by decide +kernel)
set_option maxRecDepth 20000 in
theorem gL_lay_L_get : GoodIn wsL_lay (va_wsS RL 29 yL_get wsL_get) := goodIn_app (goodIn_of _ (by decide +kernel)) ggL_lay_L_get
set_option maxRecDepth 20000 in
theorem ggL_lay_X3_register : GoodIn wsL_lay wsX3_register := goodIn_r _ [46, 15, 47, 48, 49, 50, 13, 51, 16, 17, 18, 19, 20, 21, 22, 23, 52, 53, 54, 24, 25, 26, 27, 28, 29, 30, 31, 32, 55, 56, 57, 58, 59, 60, 61, 62, 63, 64, 65, 66, 67, 68, 69, 70, 71, 72, 73, 74, 75, 76, 77, 78, 79, 80, 81, 82, 83, 84, 85, 86, 87, 88, 89, 90, 91, 92, 93, 94, 95, 96, 97, 98, 99, 100, 101, 102] (by decide +kernel) (by decide +kernel)
set_option maxRecDepth 20000 in
theorem gL_lay_X3_register : GoodIn wsL_lay (wsV RL 33 RX3 yX3_register wsX3_register) := goodIn_app (goodIn_of _ (by decide +kernel)) ggL_lay_X3_register
theorem dL_lay_0 : decode cL_lay 0 = .ok (.aload 4, 2) := by decide +kernel
theorem dL_lay_2 : decode cL_lay 2 = .ok (.iload 5, 2) := by decide +kernel
theorem dL_lay_4 : decode cL_lay 4 = .ok (.invokestatic 9, 3) := by decide +kernel
theorem dL_lay_7 : decode cL_lay 7 = .ok (.istore 6, 2) := by decide +kernel
theorem dL_lay_9 : decode cL_lay 9 = .ok (.aload_n 1, 1) := by decide +kernel
theorem dL_lay_10 : decode cL_lay 10 = .ok (.iconst 0, 1) := by decide +kernel
theorem dL_lay_11 : decode cL_lay 11 = .ok (.iconst 2, 1) := by decide +kernel
theorem dL_lay_12 : decode cL_lay 12 = .ok (.iload 6, 2) := by decide +kernel
theorem dL_lay_14 : decode cL_lay 14 = .ok (.bipush 7, 2) := by decide +kernel
theorem dL_lay_16 : decode cL_lay 16 = .ok (.invokestatic 15, 3) := by decide +kernel
theorem dL_lay_19 : decode cL_lay 19 = .ok (.iadd, 1) := by decide +kernel
theorem dL_lay_20 : decode cL_lay 20 = .ok (.iastore, 1) := by decide +kernel
theorem dL_lay_21 : decode cL_lay 21 = .ok (.aload_n 1, 1) := by decide +kernel
theorem dL_lay_22 : decode cL_lay 22 = .ok (.iconst 1, 1) := by decide +kernel
theorem dL_lay_23 : decode cL_lay 23 = .ok (.iconst 0, 1) := by decide +kernel
theorem dL_lay_24 : decode cL_lay 24 = .ok (.iastore, 1) := by decide +kernel
theorem dL_lay_25 : decode cL_lay 25 = .ok (.aload_n 1, 1) := by decide +kernel
theorem dL_lay_26 : decode cL_lay 26 = .ok (.iconst 2, 1) := by decide +kernel
theorem dL_lay_27 : decode cL_lay 27 = .ok (.bipush 40, 2) := by decide +kernel
theorem dL_lay_29 : decode cL_lay 29 = .ok (.iastore, 1) := by decide +kernel
theorem dL_lay_30 : decode cL_lay 30 = .ok (.iconst 1, 1) := by decide +kernel
theorem dL_lay_31 : decode cL_lay 31 = .ok (.istore 7, 2) := by decide +kernel
theorem dL_lay_33 : decode cL_lay 33 = .ok (.iconst 0, 1) := by decide +kernel
theorem dL_lay_34 : decode cL_lay 34 = .ok (.istore 8, 2) := by decide +kernel
theorem dL_lay_36 : decode cL_lay 36 = .ok (.iconst 0, 1) := by decide +kernel
theorem dL_lay_37 : decode cL_lay 37 = .ok (.istore 9, 2) := by decide +kernel
theorem dL_lay_39 : decode cL_lay 39 = .ok (.iload 9, 2) := by decide +kernel
theorem dL_lay_41 : decode cL_lay 41 = .ok (.aload_n 1, 1) := by decide +kernel
theorem dL_lay_42 : decode cL_lay 42 = .ok (.iconst 0, 1) := by decide +kernel
theorem dL_lay_43 : decode cL_lay 43 = .ok (.iaload, 1) := by decide +kernel
theorem dL_lay_44 : decode cL_lay 44 = .ok (.if_icmp .ge 274, 3) := by decide +kernel
theorem dL_lay_47 : decode cL_lay 47 = .ok (.aload 4, 2) := by decide +kernel
theorem dL_lay_49 : decode cL_lay 49 = .ok (.iload 5, 2) := by decide +kernel
theorem dL_lay_51 : decode cL_lay 51 = .ok (.iconst 1, 1) := by decide +kernel
theorem dL_lay_52 : decode cL_lay 52 = .ok (.iadd, 1) := by decide +kernel
theorem dL_lay_53 : decode cL_lay 53 = .ok (.iload 9, 2) := by decide +kernel
theorem dL_lay_55 : decode cL_lay 55 = .ok (.iadd, 1) := by decide +kernel
theorem dL_lay_56 : decode cL_lay 56 = .ok (.invokestatic 9, 3) := by decide +kernel
theorem dL_lay_59 : decode cL_lay 59 = .ok (.istore 10, 2) := by decide +kernel
theorem dL_lay_61 : decode cL_lay 61 = .ok (.iload 9, 2) := by decide +kernel
theorem dL_lay_63 : decode cL_lay 63 = .ok (.ifCond .le 31, 3) := by decide +kernel
theorem dL_lay_66 : decode cL_lay 66 = .ok (.iload 7, 2) := by decide +kernel
theorem dL_lay_68 : decode cL_lay 68 = .ok (.ifCond .eq 20, 3) := by decide +kernel
theorem dL_lay_71 : decode cL_lay 71 = .ok (.aload_n 0, 1) := by decide +kernel
theorem dL_lay_72 : decode cL_lay 72 = .ok (.iconst 0, 1) := by decide +kernel
theorem dL_lay_73 : decode cL_lay 73 = .ok (.iload 8, 2) := by decide +kernel
theorem dL_lay_75 : decode cL_lay 75 = .ok (.bipush 59, 2) := by decide +kernel
theorem dL_lay_77 : decode cL_lay 77 = .ok (.invokevirtual 19, 3) := by decide +kernel
theorem dL_lay_80 : decode cL_lay 80 = .ok (.iconst 1, 1) := by decide +kernel
theorem dL_lay_81 : decode cL_lay 81 = .ok (.if_icmp .ne 7, 3) := by decide +kernel
theorem dL_lay_84 : decode cL_lay 84 = .ok (.iconst 1, 1) := by decide +kernel
theorem dL_lay_85 : decode cL_lay 85 = .ok (.goto 4, 3) := by decide +kernel
theorem dL_lay_88 : decode cL_lay 88 = .ok (.iconst 0, 1) := by decide +kernel
theorem dL_lay_89 : decode cL_lay 89 = .ok (.istore 7, 2) := by decide +kernel
theorem dL_lay_91 : decode cL_lay 91 = .ok (.iinc 8 1, 3) := by decide +kernel
theorem dL_lay_94 : decode cL_lay 94 = .ok (.iload 10, 2) := by decide +kernel
theorem dL_lay_96 : decode cL_lay 96 = .ok (.iconst 3, 1) := by decide +kernel
theorem dL_lay_97 : decode cL_lay 97 = .ok (.invokestatic 15, 3) := by decide +kernel
theorem dL_lay_100 : decode cL_lay 100 = .ok (.istore 11, 2) := by decide +kernel
theorem dL_lay_102 : decode cL_lay 102 = .ok (.aload_n 2, 1) := by decide +kernel
theorem dL_lay_103 : decode cL_lay 103 = .ok (.aload_n 3, 1) := by decide +kernel
theorem dL_lay_104 : decode cL_lay 104 = .ok (.iload 9, 2) := by decide +kernel
theorem dL_lay_106 : decode cL_lay 106 = .ok (.iconst 0, 1) := by decide +kernel
theorem dL_lay_107 : decode cL_lay 107 = .ok (.iload 11, 2) := by decide +kernel
theorem dL_lay_109 : decode cL_lay 109 = .ok (.invokestatic 25, 3) := by decide +kernel
theorem dL_lay_112 : decode cL_lay 112 = .ok (.iload 7, 2) := by decide +kernel
theorem dL_lay_114 : decode cL_lay 114 = .ok (.ifCond .eq 41, 3) := by decide +kernel
theorem dL_lay_117 : decode cL_lay 117 = .ok (.aload_n 0, 1) := by decide +kernel
theorem dL_lay_118 : decode cL_lay 118 = .ok (.iconst 0, 1) := by decide +kernel
theorem dL_lay_119 : decode cL_lay 119 = .ok (.iload 8, 2) := by decide +kernel
theorem dL_lay_121 : decode cL_lay 121 = .ok (.iload 11, 2) := by decide +kernel
theorem dL_lay_123 : decode cL_lay 123 = .ok (.ifCond .ne 8, 3) := by decide +kernel
theorem dL_lay_126 : decode cL_lay 126 = .ok (.bipush 112, 2) := by decide +kernel
theorem dL_lay_128 : decode cL_lay 128 = .ok (.goto 16, 3) := by decide +kernel
theorem dL_lay_131 : decode cL_lay 131 = .ok (.iload 11, 2) := by decide +kernel
theorem dL_lay_133 : decode cL_lay 133 = .ok (.iconst 1, 1) := by decide +kernel
theorem dL_lay_134 : decode cL_lay 134 = .ok (.if_icmp .ne 8, 3) := by decide +kernel
theorem dL_lay_137 : decode cL_lay 137 = .ok (.bipush 102, 2) := by decide +kernel
theorem dL_lay_139 : decode cL_lay 139 = .ok (.goto 5, 3) := by decide +kernel
theorem dL_lay_142 : decode cL_lay 142 = .ok (.bipush 115, 2) := by decide +kernel
theorem dL_lay_144 : decode cL_lay 144 = .ok (.invokevirtual 19, 3) := by decide +kernel
theorem dL_lay_147 : decode cL_lay 147 = .ok (.iconst 1, 1) := by decide +kernel
theorem dL_lay_148 : decode cL_lay 148 = .ok (.if_icmp .ne 7, 3) := by decide +kernel
theorem dL_lay_151 : decode cL_lay 151 = .ok (.iconst 1, 1) := by decide +kernel
theorem dL_lay_152 : decode cL_lay 152 = .ok (.goto 4, 3) := by decide +kernel
theorem dL_lay_155 : decode cL_lay 155 = .ok (.iconst 0, 1) := by decide +kernel
theorem dL_lay_156 : decode cL_lay 156 = .ok (.istore 7, 2) := by decide +kernel
theorem dL_lay_158 : decode cL_lay 158 = .ok (.iinc 8 1, 3) := by decide +kernel
theorem dL_lay_161 : decode cL_lay 161 = .ok (.iconst 0, 1) := by decide +kernel
theorem dL_lay_162 : decode cL_lay 162 = .ok (.istore 12, 2) := by decide +kernel
theorem dL_lay_164 : decode cL_lay 164 = .ok (.iload 12, 2) := by decide +kernel
theorem dL_lay_166 : decode cL_lay 166 = .ok (.bipush 9, 2) := by decide +kernel
theorem dL_lay_168 : decode cL_lay 168 = .ok (.if_icmp .ge 144, 3) := by decide +kernel
theorem dL_lay_171 : decode cL_lay 171 = .ok (.aload_n 1, 1) := by decide +kernel
theorem dL_lay_172 : decode cL_lay 172 = .ok (.iconst 3, 1) := by decide +kernel
theorem dL_lay_173 : decode cL_lay 173 = .ok (.iload 12, 2) := by decide +kernel
theorem dL_lay_175 : decode cL_lay 175 = .ok (.iadd, 1) := by decide +kernel
theorem dL_lay_176 : decode cL_lay 176 = .ok (.iconst 5, 1) := by decide +kernel
theorem dL_lay_177 : decode cL_lay 177 = .ok (.iastore, 1) := by decide +kernel
theorem dL_lay_178 : decode cL_lay 178 = .ok (.iload 10, 2) := by decide +kernel
theorem dL_lay_180 : decode cL_lay 180 = .ok (.iload 12, 2) := by decide +kernel
theorem dL_lay_182 : decode cL_lay 182 = .ok (.ishr, 1) := by decide +kernel
theorem dL_lay_183 : decode cL_lay 183 = .ok (.bipush 7, 2) := by decide +kernel
theorem dL_lay_185 : decode cL_lay 185 = .ok (.iand, 1) := by decide +kernel
theorem dL_lay_186 : decode cL_lay 186 = .ok (.iconst 4, 1) := by decide +kernel
theorem dL_lay_187 : decode cL_lay 187 = .ok (.if_icmp .ge 7, 3) := by decide +kernel
theorem dL_lay_190 : decode cL_lay 190 = .ok (.iconst 0, 1) := by decide +kernel
theorem dL_lay_191 : decode cL_lay 191 = .ok (.goto 20, 3) := by decide +kernel
theorem dL_lay_194 : decode cL_lay 194 = .ok (.iload 10, 2) := by decide +kernel
theorem dL_lay_196 : decode cL_lay 196 = .ok (.iconst 2, 1) := by decide +kernel
theorem dL_lay_197 : decode cL_lay 197 = .ok (.iload 12, 2) := by decide +kernel
theorem dL_lay_199 : decode cL_lay 199 = .ok (.imul, 1) := by decide +kernel
theorem dL_lay_200 : decode cL_lay 200 = .ok (.ishr, 1) := by decide +kernel
theorem dL_lay_201 : decode cL_lay 201 = .ok (.iconst 3, 1) := by decide +kernel
theorem dL_lay_202 : decode cL_lay 202 = .ok (.iload 12, 2) := by decide +kernel
theorem dL_lay_204 : decode cL_lay 204 = .ok (.imul, 1) := by decide +kernel
theorem dL_lay_205 : decode cL_lay 205 = .ok (.iadd, 1) := by decide +kernel
theorem dL_lay_206 : decode cL_lay 206 = .ok (.bipush 10, 2) := by decide +kernel
theorem dL_lay_208 : decode cL_lay 208 = .ok (.invokestatic 15, 3) := by decide +kernel
theorem dL_lay_211 : decode cL_lay 211 = .ok (.istore 13, 2) := by decide +kernel
theorem dL_lay_213 : decode cL_lay 213 = .ok (.iload 9, 2) := by decide +kernel
theorem dL_lay_215 : decode cL_lay 215 = .ok (.ifCond .le 43, 3) := by decide +kernel
theorem dL_lay_218 : decode cL_lay 218 = .ok (.iload 6, 2) := by decide +kernel
theorem dL_lay_220 : decode cL_lay 220 = .ok (.bipush 6, 2) := by decide +kernel
theorem dL_lay_222 : decode cL_lay 222 = .ok (.iload 9, 2) := by decide +kernel
theorem dL_lay_224 : decode cL_lay 224 = .ok (.iadd, 1) := by decide +kernel
theorem dL_lay_225 : decode cL_lay 225 = .ok (.ishr, 1) := by decide +kernel
theorem dL_lay_226 : decode cL_lay 226 = .ok (.iconst 1, 1) := by decide +kernel
theorem dL_lay_227 : decode cL_lay 227 = .ok (.iand, 1) := by decide +kernel
theorem dL_lay_228 : decode cL_lay 228 = .ok (.iconst 1, 1) := by decide +kernel
theorem dL_lay_229 : decode cL_lay 229 = .ok (.if_icmp .ne 29, 3) := by decide +kernel
theorem dL_lay_232 : decode cL_lay 232 = .ok (.iload 12, 2) := by decide +kernel
theorem dL_lay_234 : decode cL_lay 234 = .ok (.iload 10, 2) := by decide +kernel
theorem dL_lay_236 : decode cL_lay 236 = .ok (.bipush 7, 2) := by decide +kernel
theorem dL_lay_238 : decode cL_lay 238 = .ok (.iand, 1) := by decide +kernel
theorem dL_lay_239 : decode cL_lay 239 = .ok (.if_icmp .eq 19, 3) := by decide +kernel
theorem dL_lay_242 : decode cL_lay 242 = .ok (.aload_n 2, 1) := by decide +kernel
theorem dL_lay_243 : decode cL_lay 243 = .ok (.aload_n 3, 1) := by decide +kernel
theorem dL_lay_244 : decode cL_lay 244 = .ok (.iload 9, 2) := by decide +kernel
theorem dL_lay_246 : decode cL_lay 246 = .ok (.iconst 1, 1) := by decide +kernel
theorem dL_lay_247 : decode cL_lay 247 = .ok (.isub, 1) := by decide +kernel
theorem dL_lay_248 : decode cL_lay 248 = .ok (.iconst 1, 1) := by decide +kernel
theorem dL_lay_249 : decode cL_lay 249 = .ok (.iload 12, 2) := by decide +kernel
theorem dL_lay_251 : decode cL_lay 251 = .ok (.iadd, 1) := by decide +kernel
theorem dL_lay_252 : decode cL_lay 252 = .ok (.invokestatic 29, 3) := by decide +kernel
theorem dL_lay_255 : decode cL_lay 255 = .ok (.goto 5, 3) := by decide +kernel
theorem dL_lay_258 : decode cL_lay 258 = .ok (.iload 13, 2) := by decide +kernel
theorem dL_lay_260 : decode cL_lay 260 = .ok (.istore 13, 2) := by decide +kernel
theorem dL_lay_262 : decode cL_lay 262 = .ok (.aload_n 2, 1) := by decide +kernel
theorem dL_lay_263 : decode cL_lay 263 = .ok (.aload_n 3, 1) := by decide +kernel
theorem dL_lay_264 : decode cL_lay 264 = .ok (.iload 9, 2) := by decide +kernel
theorem dL_lay_266 : decode cL_lay 266 = .ok (.iconst 1, 1) := by decide +kernel
theorem dL_lay_267 : decode cL_lay 267 = .ok (.iload 12, 2) := by decide +kernel
theorem dL_lay_269 : decode cL_lay 269 = .ok (.iadd, 1) := by decide +kernel
theorem dL_lay_270 : decode cL_lay 270 = .ok (.iload 13, 2) := by decide +kernel
theorem dL_lay_272 : decode cL_lay 272 = .ok (.invokestatic 25, 3) := by decide +kernel
theorem dL_lay_275 : decode cL_lay 275 = .ok (.iload 7, 2) := by decide +kernel
theorem dL_lay_277 : decode cL_lay 277 = .ok (.ifCond .eq 23, 3) := by decide +kernel
theorem dL_lay_280 : decode cL_lay 280 = .ok (.aload_n 0, 1) := by decide +kernel
theorem dL_lay_281 : decode cL_lay 281 = .ok (.iconst 0, 1) := by decide +kernel
theorem dL_lay_282 : decode cL_lay 282 = .ok (.iload 8, 2) := by decide +kernel
theorem dL_lay_284 : decode cL_lay 284 = .ok (.bipush 48, 2) := by decide +kernel
theorem dL_lay_286 : decode cL_lay 286 = .ok (.iload 13, 2) := by decide +kernel
theorem dL_lay_288 : decode cL_lay 288 = .ok (.iadd, 1) := by decide +kernel
theorem dL_lay_289 : decode cL_lay 289 = .ok (.invokevirtual 19, 3) := by decide +kernel
theorem dL_lay_292 : decode cL_lay 292 = .ok (.iconst 1, 1) := by decide +kernel
theorem dL_lay_293 : decode cL_lay 293 = .ok (.if_icmp .ne 7, 3) := by decide +kernel
theorem dL_lay_296 : decode cL_lay 296 = .ok (.iconst 1, 1) := by decide +kernel
theorem dL_lay_297 : decode cL_lay 297 = .ok (.goto 4, 3) := by decide +kernel
theorem dL_lay_300 : decode cL_lay 300 = .ok (.iconst 0, 1) := by decide +kernel
theorem dL_lay_301 : decode cL_lay 301 = .ok (.istore 7, 2) := by decide +kernel
theorem dL_lay_303 : decode cL_lay 303 = .ok (.iinc 8 1, 3) := by decide +kernel
theorem dL_lay_306 : decode cL_lay 306 = .ok (.iinc 12 1, 3) := by decide +kernel
theorem dL_lay_309 : decode cL_lay 309 = .ok (.goto (-145), 3) := by decide +kernel
theorem dL_lay_312 : decode cL_lay 312 = .ok (.iinc 9 1, 3) := by decide +kernel
theorem dL_lay_315 : decode cL_lay 315 = .ok (.goto (-276), 3) := by decide +kernel
theorem dL_lay_318 : decode cL_lay 318 = .ok (.aload_n 1, 1) := by decide +kernel
theorem dL_lay_319 : decode cL_lay 319 = .ok (.bipush 12, 2) := by decide +kernel
theorem dL_lay_321 : decode cL_lay 321 = .ok (.iload 8, 2) := by decide +kernel
theorem dL_lay_323 : decode cL_lay 323 = .ok (.iastore, 1) := by decide +kernel
theorem dL_lay_324 : decode cL_lay 324 = .ok (.iload 7, 2) := by decide +kernel
theorem dL_lay_326 : decode cL_lay 326 = .ok (.ifCond .eq 15, 3) := by decide +kernel
theorem dL_lay_329 : decode cL_lay 329 = .ok (.aload_n 0, 1) := by decide +kernel
theorem dL_lay_330 : decode cL_lay 330 = .ok (.iconst 0, 1) := by decide +kernel
theorem dL_lay_331 : decode cL_lay 331 = .ok (.iconst 0, 1) := by decide +kernel
theorem dL_lay_332 : decode cL_lay 332 = .ok (.iconst 0, 1) := by decide +kernel
theorem dL_lay_333 : decode cL_lay 333 = .ok (.iload 8, 2) := by decide +kernel
theorem dL_lay_335 : decode cL_lay 335 = .ok (.invokevirtual 33, 3) := by decide +kernel
theorem dL_lay_338 : decode cL_lay 338 = .ok (.goto 6, 3) := by decide +kernel
theorem dL_lay_341 : decode cL_lay 341 = .ok (.sipush (-999), 3) := by decide +kernel
theorem dL_lay_344 : decode cL_lay 344 = .ok (.ireturn, 1) := by decide +kernel
theorem dL_set_0 : decode cL_set 0 = .ok (.iload_n 2, 1) := by decide +kernel
theorem dL_set_1 : decode cL_set 1 = .ok (.bipush 6, 2) := by decide +kernel
theorem dL_set_3 : decode cL_set 3 = .ok (.if_icmp .ge 16, 3) := by decide +kernel
theorem dL_set_6 : decode cL_set 6 = .ok (.aload_n 0, 1) := by decide +kernel
theorem dL_set_7 : decode cL_set 7 = .ok (.bipush 10, 2) := by decide +kernel
theorem dL_set_9 : decode cL_set 9 = .ok (.iload_n 2, 1) := by decide +kernel
theorem dL_set_10 : decode cL_set 10 = .ok (.imul, 1) := by decide +kernel
theorem dL_set_11 : decode cL_set 11 = .ok (.iload_n 3, 1) := by decide +kernel
theorem dL_set_12 : decode cL_set 12 = .ok (.iadd, 1) := by decide +kernel
theorem dL_set_13 : decode cL_set 13 = .ok (.iload 4, 2) := by decide +kernel
theorem dL_set_15 : decode cL_set 15 = .ok (.iastore, 1) := by decide +kernel
theorem dL_set_16 : decode cL_set 16 = .ok (.goto 16, 3) := by decide +kernel
theorem dL_set_19 : decode cL_set 19 = .ok (.aload_n 1, 1) := by decide +kernel
theorem dL_set_20 : decode cL_set 20 = .ok (.bipush 10, 2) := by decide +kernel
theorem dL_set_22 : decode cL_set 22 = .ok (.iload_n 2, 1) := by decide +kernel
theorem dL_set_23 : decode cL_set 23 = .ok (.bipush 6, 2) := by decide +kernel
theorem dL_set_25 : decode cL_set 25 = .ok (.isub, 1) := by decide +kernel
theorem dL_set_26 : decode cL_set 26 = .ok (.imul, 1) := by decide +kernel
theorem dL_set_27 : decode cL_set 27 = .ok (.iload_n 3, 1) := by decide +kernel
theorem dL_set_28 : decode cL_set 28 = .ok (.iadd, 1) := by decide +kernel
theorem dL_set_29 : decode cL_set 29 = .ok (.iload 4, 2) := by decide +kernel
theorem dL_set_31 : decode cL_set 31 = .ok (.iastore, 1) := by decide +kernel
theorem dL_set_32 : decode cL_set 32 = .ok (.return_, 1) := by decide +kernel
theorem dL_get_0 : decode cL_get 0 = .ok (.iload_n 2, 1) := by decide +kernel
theorem dL_get_1 : decode cL_get 1 = .ok (.bipush 6, 2) := by decide +kernel
theorem dL_get_3 : decode cL_get 3 = .ok (.if_icmp .ge 14, 3) := by decide +kernel
theorem dL_get_6 : decode cL_get 6 = .ok (.aload_n 0, 1) := by decide +kernel
theorem dL_get_7 : decode cL_get 7 = .ok (.bipush 10, 2) := by decide +kernel
theorem dL_get_9 : decode cL_get 9 = .ok (.iload_n 2, 1) := by decide +kernel
theorem dL_get_10 : decode cL_get 10 = .ok (.imul, 1) := by decide +kernel
theorem dL_get_11 : decode cL_get 11 = .ok (.iload_n 3, 1) := by decide +kernel
theorem dL_get_12 : decode cL_get 12 = .ok (.iadd, 1) := by decide +kernel
theorem dL_get_13 : decode cL_get 13 = .ok (.iaload, 1) := by decide +kernel
theorem dL_get_14 : decode cL_get 14 = .ok (.goto 14, 3) := by decide +kernel
theorem dL_get_17 : decode cL_get 17 = .ok (.aload_n 1, 1) := by decide +kernel
theorem dL_get_18 : decode cL_get 18 = .ok (.bipush 10, 2) := by decide +kernel
theorem dL_get_20 : decode cL_get 20 = .ok (.iload_n 2, 1) := by decide +kernel
theorem dL_get_21 : decode cL_get 21 = .ok (.bipush 6, 2) := by decide +kernel
theorem dL_get_23 : decode cL_get 23 = .ok (.isub, 1) := by decide +kernel
theorem dL_get_24 : decode cL_get 24 = .ok (.imul, 1) := by decide +kernel
theorem dL_get_25 : decode cL_get 25 = .ok (.iload_n 3, 1) := by decide +kernel
theorem dL_get_26 : decode cL_get 26 = .ok (.iadd, 1) := by decide +kernel
theorem dL_get_27 : decode cL_get 27 = .ok (.iaload, 1) := by decide +kernel
theorem dL_get_28 : decode cL_get 28 = .ok (.ireturn, 1) := by decide +kernel
theorem dL_off_0 : decode cL_off 0 = .ok (.iload_n 0, 1) := by decide +kernel
theorem dL_off_1 : decode cL_off 1 = .ok (.iload_n 1, 1) := by decide +kernel
theorem dL_off_2 : decode cL_off 2 = .ok (.if_icmp .ge 9, 3) := by decide +kernel
theorem dL_off_5 : decode cL_off 5 = .ok (.iload_n 1, 1) := by decide +kernel
theorem dL_off_6 : decode cL_off 6 = .ok (.iload_n 0, 1) := by decide +kernel
theorem dL_off_7 : decode cL_off 7 = .ok (.isub, 1) := by decide +kernel
theorem dL_off_8 : decode cL_off 8 = .ok (.goto 6, 3) := by decide +kernel
theorem dL_off_11 : decode cL_off 11 = .ok (.iload_n 0, 1) := by decide +kernel
theorem dL_off_12 : decode cL_off 12 = .ok (.iload_n 1, 1) := by decide +kernel
theorem dL_off_13 : decode cL_off 13 = .ok (.isub, 1) := by decide +kernel
theorem dL_off_14 : decode cL_off 14 = .ok (.ireturn, 1) := by decide +kernel
theorem dL_fades_0 : decode cL_fades 0 = .ok (.iload_n 3, 1) := by decide +kernel
theorem dL_fades_1 : decode cL_fades 1 = .ok (.istore 5, 2) := by decide +kernel
theorem dL_fades_3 : decode cL_fades 3 = .ok (.iload_n 1, 1) := by decide +kernel
theorem dL_fades_4 : decode cL_fades 4 = .ok (.iconst 2, 1) := by decide +kernel
theorem dL_fades_5 : decode cL_fades 5 = .ok (.if_icmp .ne 9, 3) := by decide +kernel
theorem dL_fades_8 : decode cL_fades 8 = .ok (.sipush 1000, 3) := by decide +kernel
theorem dL_fades_11 : decode cL_fades 11 = .ok (.goto 12, 3) := by decide +kernel
theorem dL_fades_14 : decode cL_fades 14 = .ok (.aload_n 0, 1) := by decide +kernel
theorem dL_fades_15 : decode cL_fades 15 = .ok (.iconst 3, 1) := by decide +kernel
theorem dL_fades_16 : decode cL_fades 16 = .ok (.iload_n 2, 1) := by decide +kernel
theorem dL_fades_17 : decode cL_fades 17 = .ok (.iadd, 1) := by decide +kernel
theorem dL_fades_18 : decode cL_fades 18 = .ok (.iaload, 1) := by decide +kernel
theorem dL_fades_19 : decode cL_fades 19 = .ok (.iconst 1, 1) := by decide +kernel
theorem dL_fades_20 : decode cL_fades 20 = .ok (.iload_n 1, 1) := by decide +kernel
theorem dL_fades_21 : decode cL_fades 21 = .ok (.iadd, 1) := by decide +kernel
theorem dL_fades_22 : decode cL_fades 22 = .ok (.imul, 1) := by decide +kernel
theorem dL_fades_23 : decode cL_fades 23 = .ok (.istore 6, 2) := by decide +kernel
theorem dL_fades_25 : decode cL_fades 25 = .ok (.iload 4, 2) := by decide +kernel
theorem dL_fades_27 : decode cL_fades 27 = .ok (.istore 7, 2) := by decide +kernel
theorem dL_fades_29 : decode cL_fades 29 = .ok (.iload 7, 2) := by decide +kernel
theorem dL_fades_31 : decode cL_fades 31 = .ok (.iload 6, 2) := by decide +kernel
theorem dL_fades_33 : decode cL_fades 33 = .ok (.if_icmp .lt 24, 3) := by decide +kernel
theorem dL_fades_36 : decode cL_fades 36 = .ok (.iload 5, 2) := by decide +kernel
theorem dL_fades_38 : decode cL_fades 38 = .ok (.iload 5, 2) := by decide +kernel
theorem dL_fades_40 : decode cL_fades 40 = .ok (.iconst 2, 1) := by decide +kernel
theorem dL_fades_41 : decode cL_fades 41 = .ok (.irem, 1) := by decide +kernel
theorem dL_fades_42 : decode cL_fades 42 = .ok (.isub, 1) := by decide +kernel
theorem dL_fades_43 : decode cL_fades 43 = .ok (.iconst 2, 1) := by decide +kernel
theorem dL_fades_44 : decode cL_fades 44 = .ok (.idiv, 1) := by decide +kernel
theorem dL_fades_45 : decode cL_fades 45 = .ok (.istore 5, 2) := by decide +kernel
theorem dL_fades_47 : decode cL_fades 47 = .ok (.iload 7, 2) := by decide +kernel
theorem dL_fades_49 : decode cL_fades 49 = .ok (.iload 6, 2) := by decide +kernel
theorem dL_fades_51 : decode cL_fades 51 = .ok (.isub, 1) := by decide +kernel
theorem dL_fades_52 : decode cL_fades 52 = .ok (.istore 7, 2) := by decide +kernel
theorem dL_fades_54 : decode cL_fades 54 = .ok (.goto (-25), 3) := by decide +kernel
theorem dL_fades_57 : decode cL_fades 57 = .ok (.iload 5, 2) := by decide +kernel
theorem dL_fades_59 : decode cL_fades 59 = .ok (.ireturn, 1) := by decide +kernel
set_option maxRecDepth 20000 in
theorem ggL_apart_L_get : GoodIn wsL_apart wsL_get := goodIn_r _ [4] (by decide +kernel) (by decide +kernel)
set_option maxRecDepth 20000 in
theorem gL_apart_L_get : GoodIn wsL_apart (va_wsS RL 29 yL_get wsL_get) := goodIn_app (goodIn_of _ (by decide +kernel)) ggL_apart_L_get
set_option maxRecDepth 20000 in
theorem ggL_apart_L_off : GoodIn wsL_apart wsL_off := goodIn_r _ [7] (by decide +kernel) (by decide +kernel)
set_option maxRecDepth 20000 in
theorem gL_apart_L_off : GoodIn wsL_apart (va_wsS RL 45 yL_off wsL_off) := goodIn_app (goodIn_of _ (by decide +kernel)) ggL_apart_L_off
theorem dL_apart_0 : decode cL_apart 0 = .ok (.iconst 0, 1) := by decide +kernel
theorem dL_apart_1 : decode cL_apart 1 = .ok (.istore 4, 2) := by decide +kernel
theorem dL_apart_3 : decode cL_apart 3 = .ok (.iconst 1, 1) := by decide +kernel
theorem dL_apart_4 : decode cL_apart 4 = .ok (.istore 5, 2) := by decide +kernel
theorem dL_apart_6 : decode cL_apart 6 = .ok (.iload 5, 2) := by decide +kernel
theorem dL_apart_8 : decode cL_apart 8 = .ok (.bipush 10, 2) := by decide +kernel
theorem dL_apart_10 : decode cL_apart 10 = .ok (.if_icmp .ge 33, 3) := by decide +kernel
theorem dL_apart_13 : decode cL_apart 13 = .ok (.iload 4, 2) := by decide +kernel
theorem dL_apart_15 : decode cL_apart 15 = .ok (.aload_n 0, 1) := by decide +kernel
theorem dL_apart_16 : decode cL_apart 16 = .ok (.aload_n 1, 1) := by decide +kernel
theorem dL_apart_17 : decode cL_apart 17 = .ok (.iload_n 2, 1) := by decide +kernel
theorem dL_apart_18 : decode cL_apart 18 = .ok (.iload 5, 2) := by decide +kernel
theorem dL_apart_20 : decode cL_apart 20 = .ok (.invokestatic 29, 3) := by decide +kernel
theorem dL_apart_23 : decode cL_apart 23 = .ok (.aload_n 0, 1) := by decide +kernel
theorem dL_apart_24 : decode cL_apart 24 = .ok (.aload_n 1, 1) := by decide +kernel
theorem dL_apart_25 : decode cL_apart 25 = .ok (.iload_n 3, 1) := by decide +kernel
theorem dL_apart_26 : decode cL_apart 26 = .ok (.iload 5, 2) := by decide +kernel
theorem dL_apart_28 : decode cL_apart 28 = .ok (.invokestatic 29, 3) := by decide +kernel
theorem dL_apart_31 : decode cL_apart 31 = .ok (.invokestatic 45, 3) := by decide +kernel
theorem dL_apart_34 : decode cL_apart 34 = .ok (.iadd, 1) := by decide +kernel
theorem dL_apart_35 : decode cL_apart 35 = .ok (.istore 4, 2) := by decide +kernel
theorem dL_apart_37 : decode cL_apart 37 = .ok (.iinc 5 1, 3) := by decide +kernel
theorem dL_apart_40 : decode cL_apart 40 = .ok (.goto (-34), 3) := by decide +kernel
theorem dL_apart_43 : decode cL_apart 43 = .ok (.iload 4, 2) := by decide +kernel
theorem dL_apart_45 : decode cL_apart 45 = .ok (.ireturn, 1) := by decide +kernel
theorem dL_bits_0 : decode cL_bits 0 = .ok (.iconst 0, 1) := by decide +kernel
theorem dL_bits_1 : decode cL_bits 1 = .ok (.istore_n 1, 1) := by decide +kernel
theorem dL_bits_2 : decode cL_bits 2 = .ok (.iload_n 0, 1) := by decide +kernel
theorem dL_bits_3 : decode cL_bits 3 = .ok (.istore_n 2, 1) := by decide +kernel
theorem dL_bits_4 : decode cL_bits 4 = .ok (.iload_n 2, 1) := by decide +kernel
theorem dL_bits_5 : decode cL_bits 5 = .ok (.ifCond .eq 15, 3) := by decide +kernel
theorem dL_bits_8 : decode cL_bits 8 = .ok (.iinc 1 1, 3) := by decide +kernel
theorem dL_bits_11 : decode cL_bits 11 = .ok (.iload_n 2, 1) := by decide +kernel
theorem dL_bits_12 : decode cL_bits 12 = .ok (.iload_n 2, 1) := by decide +kernel
theorem dL_bits_13 : decode cL_bits 13 = .ok (.iconst 1, 1) := by decide +kernel
theorem dL_bits_14 : decode cL_bits 14 = .ok (.isub, 1) := by decide +kernel
theorem dL_bits_15 : decode cL_bits 15 = .ok (.iand, 1) := by decide +kernel
theorem dL_bits_16 : decode cL_bits 16 = .ok (.istore_n 2, 1) := by decide +kernel
theorem dL_bits_17 : decode cL_bits 17 = .ok (.goto (-13), 3) := by decide +kernel
theorem dL_bits_20 : decode cL_bits 20 = .ok (.iload_n 1, 1) := by decide +kernel
theorem dL_bits_21 : decode cL_bits 21 = .ok (.ireturn, 1) := by decide +kernel
end
section
set_option maxRecDepth 20000 in
theorem ggL_law_X3_init : GoodIn wsL_law wsX3_init := goodIn_r _ [7, 8, 9, 10, 11, 12, 13, 14, 15, 16, 3, 17, 18, 19, 20, 21, 22, 23, 24, 25, 26, 27, 28, 29, 30, 31, 32, 33, 34, 35, 36, 37, 38, 265, 266, 267, 268, 269, 270, 271, 272, 273, 274, 275, 276, 277, 278, 279, 280, 281, 282, 283, 284, 285, 286, 287, 288, 289, 290, 291] (by decide +kernel) (by decide +kernel)
set_option maxRecDepth 20000 in
theorem gL_law_X3_init : GoodIn wsL_law (wsX3_init) := ggL_law_X3_init
set_option maxRecDepth 20000 in
theorem ggL_law_X3_sheet : GoodIn wsL_law wsX3_sheet := goodIn_r _ [42, 43, 12, 44, 45, 2, 46, 47, 48, 49, 50, 51, 52, 53, 54, 55, 56, 57, 58, 23, 59, 60, 61, 62, 63, 31, 64, 65, 66, 67, 265, 266, 267, 268, 269, 270, 271, 272, 273, 274, 275, 276, 277, 278, 279, 280, 281, 282] (by decide +kernel) (by decide +kernel)
set_option maxRecDepth 20000 in
theorem gL_law_X3_sheet : GoodIn wsL_law (wsV RL 53 RX3 yX3_sheet wsX3_sheet) := goodIn_app (goodIn_of _ (by decide +kernel)) ggL_law_X3_sheet
set_option maxRecDepth 20000 in
theorem ggL_law_L_lay : GoodIn wsL_law wsL_lay := goodIn_r _ [71, 72, 73, 70, 74, 75, 76, 77, 78, 79, 80, 81, 82, 2, 83, 12, 43, 44, 45, 46, 47, 48, 49, 50, 54, 55, 56, 57, 84, 23, 85, 86, 63, 87, 88, 89, 62, 90, 91, 92, 93, 94, 95, 96, 97, 98, 99, 100, 101, 102, 103, 104, 51, 52, 53, 105, 106, 107, 108, 109, 110, 111, 112, 113, 114, 115, 116, 117, 14, 118, 119, 120, 121, 122, 123, 124, 17, 21, 125, 65, 66, 67, 265, 266, 267, 268, 269, 270, 271, 272, 273, 274, 275, 276, 277, 278, 279, 280, 281, 282, 283, 284, 285] (by decide +kernel) (by decide +kernel)
set_option maxRecDepth 20000 in
theorem gL_law_L_lay : GoodIn wsL_law (va_wsS RL 56 yL_lay wsL_lay) := goodIn_app (goodIn_of _ (by decide +kernel)) ggL_law_L_lay
set_option maxRecDepth 20000 in
theorem ggL_law_L_cell : GoodIn wsL_law wsL_cell := goodIn_r _ [74, 75] (by decide +kernel) (by decide +kernel)
set_option maxRecDepth 20000 in
theorem gL_law_L_cell : GoodIn wsL_law (va_wsS RL 9 yL_cell wsL_cell) := goodIn_app (goodIn_of _ (by decide +kernel)) ggL_law_L_cell
set_option maxRecDepth 20000 in
theorem ggL_law_L_low : GoodIn wsL_law wsL_low := goodIn_r _ [78, 79] (by decide +kernel) (by decide +kernel)
set_option maxRecDepth 20000 in
theorem gL_law_L_low : GoodIn wsL_law (va_wsS RL 15 yL_low wsL_low) := goodIn_app (goodIn_of _ (by decide +kernel)) ggL_law_L_low
set_option maxRecDepth 20000 in
theorem ggL_law_X3_half : GoodIn wsL_law wsX3_half := goodIn_r _ [129, 100, 17, 130, 131, 2, 132, 265, 266, 267, 268, 269, 270, 271, 272, 273, 274, 275, 276, 277, 278] (by decide +kernel) (by decide +kernel)
set_option maxRecDepth 20000 in
theorem gL_law_X3_half : GoodIn wsL_law (wsV RL 60 RX3 yX3_half wsX3_half) := goodIn_app (goodIn_of _ (by decide +kernel)) ggL_law_X3_half
set_option maxRecDepth 20000 in
theorem ggL_law_X3_bound : GoodIn wsL_law wsX3_bound := goodIn_r _ [136, 100, 124, 265, 266, 267, 268, 269, 270, 271, 272, 273, 274, 275, 276, 277, 278] (by decide +kernel) (by decide +kernel)
set_option maxRecDepth 20000 in
theorem gL_law_X3_bound : GoodIn wsL_law (wsV RL 63 RX3 yX3_bound wsX3_bound) := goodIn_app (goodIn_of _ (by decide +kernel)) ggL_law_X3_bound
set_option maxRecDepth 20000 in
theorem ggL_law_L_apart : GoodIn wsL_law wsL_apart := goodIn_r _ [139, 93, 94, 70, 95, 140, 141, 142] (by decide +kernel) (by decide +kernel)
set_option maxRecDepth 20000 in
theorem gL_law_L_apart : GoodIn wsL_law (va_wsS RL 67 yL_apart wsL_apart) := goodIn_app (goodIn_of _ (by decide +kernel)) ggL_law_L_apart
set_option maxRecDepth 20000 in
theorem ggL_law_X3_apart : GoodIn wsL_law wsX3_apart := goodIn_r _ [146, 14, 147, 148, 149, 2, 150, 100, 151, 152, 153, 154, 155, 156, 157, 265, 266, 267, 268, 269, 270, 271, 272, 273, 274, 275, 276, 277, 278, 283, 284, 285] (by decide +kernel) (by decide +kernel)
set_option maxRecDepth 20000 in
theorem gL_law_X3_apart : GoodIn wsL_law (wsV RL 70 RX3 yX3_apart wsX3_apart) := goodIn_app (goodIn_of _ (by decide +kernel)) ggL_law_X3_apart
set_option maxRecDepth 20000 in
theorem ggL_law_X3_twins : GoodIn wsL_law wsX3_twins := goodIn_r _ [161, 100, 14, 162, 163, 164, 2, 165, 124, 151, 152, 153, 154, 155, 156, 157, 166, 167, 168, 265, 266, 267, 268, 269, 270, 271, 272, 273, 274, 275, 276, 277, 278, 283, 284, 285] (by decide +kernel) (by decide +kernel)
set_option maxRecDepth 20000 in
theorem gL_law_X3_twins : GoodIn wsL_law (wsV RL 72 RX3 yX3_twins wsX3_twins) := goodIn_app (goodIn_of _ (by decide +kernel)) ggL_law_X3_twins
set_option maxRecDepth 20000 in
theorem ggL_law_X3_put : GoodIn wsL_law wsX3_put := goodIn_r _ [83, 12, 43, 44, 45, 2, 46, 47, 48, 49, 50, 54, 55, 56, 57, 84, 23, 85, 86, 63, 87, 88, 89, 62, 265, 266, 267, 268, 269, 270, 271, 272, 273, 274, 275, 276, 277, 278, 279, 280, 281, 282] (by decide +kernel) (by decide +kernel)
set_option maxRecDepth 20000 in
theorem gL_law_X3_put : GoodIn wsL_law (wsV RL 19 RX3 yX3_put wsX3_put) := goodIn_app (goodIn_of _ (by decide +kernel)) ggL_law_X3_put
set_option maxRecDepth 20000 in
theorem ggL_law_L_get : GoodIn wsL_law wsL_get := goodIn_r _ [95] (by decide +kernel) (by decide +kernel)
set_option maxRecDepth 20000 in
theorem gL_law_L_get : GoodIn wsL_law (va_wsS RL 29 yL_get wsL_get) := goodIn_app (goodIn_of _ (by decide +kernel)) ggL_law_L_get
set_option maxRecDepth 20000 in
theorem ggL_law_X3_cell : GoodIn wsL_law wsX3_cell := goodIn_r _ [172, 173, 12, 101, 102, 103, 2, 104, 43, 44, 45, 46, 47, 48, 49, 50, 51, 52, 53, 54, 55, 56, 57, 84, 23, 85, 86, 63, 265, 266, 267, 268, 269, 270, 271, 272, 273, 274, 275, 276, 277, 278, 279, 280, 281, 282] (by decide +kernel) (by decide +kernel)
set_option maxRecDepth 20000 in
theorem gL_law_X3_cell : GoodIn wsL_law (wsV RL 75 RX3 yX3_cell wsX3_cell) := goodIn_app (goodIn_of _ (by decide +kernel)) ggL_law_X3_cell
set_option maxRecDepth 20000 in
theorem ggL_law_L_off : GoodIn wsL_law wsL_off := goodIn_r _ [142] (by decide +kernel) (by decide +kernel)
set_option maxRecDepth 20000 in
theorem gL_law_L_off : GoodIn wsL_law (va_wsS RL 45 yL_off wsL_off) := goodIn_app (goodIn_of _ (by decide +kernel)) ggL_law_L_off
set_option maxRecDepth 20000 in
theorem ggL_law_L_bits : GoodIn wsL_law wsL_bits := goodIn_r _ [176] (by decide +kernel) (by decide +kernel)
set_option maxRecDepth 20000 in
theorem gL_law_L_bits : GoodIn wsL_law (va_wsS RL 78 yL_bits wsL_bits) := goodIn_app (goodIn_of _ (by decide +kernel)) ggL_law_L_bits
set_option maxRecDepth 20000 in
theorem ggL_law_X3_forged : GoodIn wsL_law wsX3_forged := goodIn_r _ [180, 181, 12, 182, 183, 184, 2, 185, 147, 148, 149, 150, 100, 47, 48, 49, 50, 43, 101, 102, 103, 104, 44, 45, 46, 51, 52, 53, 54, 55, 56, 57, 84, 23, 85, 86, 63, 186, 187, 188, 130, 131, 132, 189, 190, 191, 192, 193, 194, 195, 196, 197, 198, 199, 19, 14, 162, 163, 164, 165, 124, 151, 152, 153, 154, 155, 156, 157, 265, 266, 267, 268, 269, 270, 271, 272, 273, 274, 275, 276, 277, 278, 279, 280, 281, 282, 283, 284, 285] (by decide +kernel) (by decide +kernel)
set_option maxRecDepth 20000 in
theorem gL_law_X3_forged : GoodIn wsL_law (wsV RL 81 RX3 yX3_forged wsX3_forged) := goodIn_app (goodIn_of _ (by decide +kernel)) ggL_law_X3_forged
set_option maxRecDepth 20000 in
theorem ggL_law_X3_near : GoodIn wsL_law wsX3_near := goodIn_r _ [203, 14, 147, 148, 149, 2, 150, 100, 130, 131, 132, 204, 205, 206, 265, 266, 267, 268, 269, 270, 271, 272, 273, 274, 275, 276, 277, 278, 283, 284, 285] (by decide +kernel) (by decide +kernel)
set_option maxRecDepth 20000 in
theorem gL_law_X3_near : GoodIn wsL_law (wsV RL 85 RX3 yX3_near wsX3_near) := goodIn_app (goodIn_of _ (by decide +kernel)) ggL_law_X3_near
set_option maxRecDepth 20000 in
theorem ggL_law_X3_steals : GoodIn wsL_law wsX3_steals := goodIn_r _ [210, 19, 14, 182, 183, 184, 2, 185, 147, 148, 149, 150, 100, 204, 205, 206, 162, 163, 164, 165, 124, 151, 152, 153, 154, 155, 156, 157, 265, 266, 267, 268, 269, 270, 271, 272, 273, 274, 275, 276, 277, 278, 283, 284, 285] (by decide +kernel) (by decide +kernel)
set_option maxRecDepth 20000 in
theorem gL_law_X3_steals : GoodIn wsL_law (wsV RL 88 RX3 yX3_steals wsX3_steals) := goodIn_app (goodIn_of _ (by decide +kernel)) ggL_law_X3_steals
set_option maxRecDepth 20000 in
theorem ggL_law_X3_fresh : GoodIn wsL_law wsX3_fresh := goodIn_r _ [214, 21, 100, 215, 216, 217, 2, 218, 219, 220, 221, 222, 223, 224, 225, 226, 227, 14, 154, 155, 156, 157, 228, 229, 230, 265, 266, 267, 268, 269, 270, 271, 272, 273, 274, 275, 276, 277, 278, 283, 284, 285] (by decide +kernel) (by decide +kernel)
set_option maxRecDepth 20000 in
theorem gL_law_X3_fresh : GoodIn wsL_law (wsV RL 91 RX3 yX3_fresh wsX3_fresh) := goodIn_app (goodIn_of _ (by decide +kernel)) ggL_law_X3_fresh
set_option maxRecDepth 20000 in
theorem ggL_law_L_fades : GoodIn wsL_law wsL_fades := goodIn_r _ [233] (by decide +kernel) (by decide +kernel)
set_option maxRecDepth 20000 in
theorem gL_law_L_fades : GoodIn wsL_law (va_wsS RL 37 yL_fades wsL_fades) := goodIn_app (goodIn_of _ (by decide +kernel)) ggL_law_L_fades
set_option maxRecDepth 20000 in
theorem ggL_law_X3_odds : GoodIn wsL_law wsX3_odds := goodIn_r _ [237, 43, 238, 173, 12, 20, 147, 148, 149, 2, 150, 100, 101, 102, 103, 104, 44, 45, 46, 47, 48, 49, 50, 51, 52, 53, 54, 55, 56, 57, 84, 23, 85, 86, 63, 239, 240, 241, 242, 243, 244, 245, 14, 124, 246, 247, 248, 249, 154, 155, 156, 157, 250, 251, 252, 253, 17, 228, 229, 230, 254, 255, 256, 265, 266, 267, 268, 269, 270, 271, 272, 273, 274, 275, 276, 277, 278, 279, 280, 281, 282, 283, 284, 285] (by decide +kernel) (by decide +kernel)
set_option maxRecDepth 20000 in
theorem gL_law_X3_odds : GoodIn wsL_law (wsV RL 94 RX3 yX3_odds wsX3_odds) := goodIn_app (goodIn_of _ (by decide +kernel)) ggL_law_X3_odds
set_option maxRecDepth 20000 in
theorem ggL_law_X3_who : GoodIn wsL_law wsX3_who := goodIn_r _ [260, 238, 12, 100, 20, 101, 102, 103, 2, 104, 43, 44, 45, 46, 47, 48, 49, 50, 51, 52, 53, 54, 55, 56, 57, 84, 23, 85, 86, 63, 239, 240, 241, 242, 243, 244, 245, 14, 124, 246, 247, 248, 249, 154, 155, 156, 157, 250, 251, 252, 253, 17, 228, 229, 230, 265, 266, 267, 268, 269, 270, 271, 272, 273, 274, 275, 276, 277, 278, 279, 280, 281, 282, 283, 284, 285] (by decide +kernel) (by decide +kernel)
set_option maxRecDepth 20000 in
theorem gL_law_X3_who : GoodIn wsL_law (wsV RL 100 RX3 yX3_who wsX3_who) := goodIn_app (goodIn_of _ (by decide +kernel)) ggL_law_X3_who
set_option maxRecDepth 20000 in
theorem ggL_law_X3_fault : GoodIn wsL_law wsX3_fault := goodIn_r _ [264, 43, 265, 266, 267, 268, 269, 270, 271, 272, 273, 274, 275, 276, 277, 278] (by decide +kernel) (by decide +kernel)
set_option maxRecDepth 20000 in
theorem gL_law_X3_fault : GoodIn wsL_law (wsV RL 103 RX3 yX3_fault wsX3_fault) := goodIn_app (goodIn_of _ (by decide +kernel)) ggL_law_X3_fault
theorem dL_law_0 : decode cL_law 0 = .ok (.new 20, 3) := by decide +kernel
theorem dL_law_3 : decode cL_law 3 = .ok (.dup, 1) := by decide +kernel
theorem dL_law_4 : decode cL_law 4 = .ok (.invokespecial 52, 3) := by decide +kernel
theorem dL_law_7 : decode cL_law 7 = .ok (.astore_n 1, 1) := by decide +kernel
theorem dL_law_8 : decode cL_law 8 = .ok (.bipush 16, 2) := by decide +kernel
theorem dL_law_10 : decode cL_law 10 = .ok (.newarray .int, 2) := by decide +kernel
theorem dL_law_12 : decode cL_law 12 = .ok (.astore_n 2, 1) := by decide +kernel
theorem dL_law_13 : decode cL_law 13 = .ok (.bipush 60, 2) := by decide +kernel
theorem dL_law_15 : decode cL_law 15 = .ok (.newarray .int, 2) := by decide +kernel
theorem dL_law_17 : decode cL_law 17 = .ok (.astore_n 3, 1) := by decide +kernel
theorem dL_law_18 : decode cL_law 18 = .ok (.bipush 20, 2) := by decide +kernel
theorem dL_law_20 : decode cL_law 20 = .ok (.newarray .int, 2) := by decide +kernel
theorem dL_law_22 : decode cL_law 22 = .ok (.astore 4, 2) := by decide +kernel
theorem dL_law_24 : decode cL_law 24 = .ok (.aload_n 1, 1) := by decide +kernel
theorem dL_law_25 : decode cL_law 25 = .ok (.iconst 0, 1) := by decide +kernel
theorem dL_law_26 : decode cL_law 26 = .ok (.iconst 0, 1) := by decide +kernel
theorem dL_law_27 : decode cL_law 27 = .ok (.bipush 90, 2) := by decide +kernel
theorem dL_law_29 : decode cL_law 29 = .ok (.invokevirtual 53, 3) := by decide +kernel
theorem dL_law_32 : decode cL_law 32 = .ok (.iconst 1, 1) := by decide +kernel
theorem dL_law_33 : decode cL_law 33 = .ok (.if_icmp .ne 31, 3) := by decide +kernel
theorem dL_law_36 : decode cL_law 36 = .ok (.aload_n 1, 1) := by decide +kernel
theorem dL_law_37 : decode cL_law 37 = .ok (.iconst 1, 1) := by decide +kernel
theorem dL_law_38 : decode cL_law 38 = .ok (.iconst 1, 1) := by decide +kernel
theorem dL_law_39 : decode cL_law 39 = .ok (.bipush 24, 2) := by decide +kernel
theorem dL_law_41 : decode cL_law 41 = .ok (.invokevirtual 53, 3) := by decide +kernel
theorem dL_law_44 : decode cL_law 44 = .ok (.iconst 1, 1) := by decide +kernel
theorem dL_law_45 : decode cL_law 45 = .ok (.if_icmp .ne 19, 3) := by decide +kernel
theorem dL_law_48 : decode cL_law 48 = .ok (.aload_n 1, 1) := by decide +kernel
theorem dL_law_49 : decode cL_law 49 = .ok (.aload_n 2, 1) := by decide +kernel
theorem dL_law_50 : decode cL_law 50 = .ok (.aload_n 3, 1) := by decide +kernel
theorem dL_law_51 : decode cL_law 51 = .ok (.aload 4, 2) := by decide +kernel
theorem dL_law_53 : decode cL_law 53 = .ok (.aload_n 0, 1) := by decide +kernel
theorem dL_law_54 : decode cL_law 54 = .ok (.iconst 0, 1) := by decide +kernel
theorem dL_law_55 : decode cL_law 55 = .ok (.invokestatic 56, 3) := by decide +kernel
theorem dL_law_58 : decode cL_law 58 = .ok (.aload_n 2, 1) := by decide +kernel
theorem dL_law_59 : decode cL_law 59 = .ok (.iconst 0, 1) := by decide +kernel
theorem dL_law_60 : decode cL_law 60 = .ok (.iaload, 1) := by decide +kernel
theorem dL_law_61 : decode cL_law 61 = .ok (.if_icmp .eq 5, 3) := by decide +kernel
theorem dL_law_64 : decode cL_law 64 = .ok (.iconst 0, 1) := by decide +kernel
theorem dL_law_65 : decode cL_law 65 = .ok (.ireturn, 1) := by decide +kernel
theorem dL_law_66 : decode cL_law 66 = .ok (.aload_n 2, 1) := by decide +kernel
theorem dL_law_67 : decode cL_law 67 = .ok (.iconst 0, 1) := by decide +kernel
theorem dL_law_68 : decode cL_law 68 = .ok (.iaload, 1) := by decide +kernel
theorem dL_law_69 : decode cL_law 69 = .ok (.istore 5, 2) := by decide +kernel
theorem dL_law_71 : decode cL_law 71 = .ok (.iconst 0, 1) := by decide +kernel
theorem dL_law_72 : decode cL_law 72 = .ok (.istore 6, 2) := by decide +kernel
theorem dL_law_74 : decode cL_law 74 = .ok (.iload 6, 2) := by decide +kernel
theorem dL_law_76 : decode cL_law 76 = .ok (.iconst 3, 1) := by decide +kernel
theorem dL_law_77 : decode cL_law 77 = .ok (.if_icmp .ge 1823, 3) := by decide +kernel
theorem dL_law_80 : decode cL_law 80 = .ok (.aload_n 0, 1) := by decide +kernel
theorem dL_law_81 : decode cL_law 81 = .ok (.bipush 9, 2) := by decide +kernel
theorem dL_law_83 : decode cL_law 83 = .ok (.iload 6, 2) := by decide +kernel
theorem dL_law_85 : decode cL_law 85 = .ok (.iadd, 1) := by decide +kernel
theorem dL_law_86 : decode cL_law 86 = .ok (.invokestatic 9, 3) := by decide +kernel
theorem dL_law_89 : decode cL_law 89 = .ok (.istore 7, 2) := by decide +kernel
theorem dL_law_91 : decode cL_law 91 = .ok (.iload 7, 2) := by decide +kernel
theorem dL_law_93 : decode cL_law 93 = .ok (.bipush 9, 2) := by decide +kernel
theorem dL_law_95 : decode cL_law 95 = .ok (.invokestatic 15, 3) := by decide +kernel
theorem dL_law_98 : decode cL_law 98 = .ok (.istore 8, 2) := by decide +kernel
theorem dL_law_100 : decode cL_law 100 = .ok (.iconst 1, 1) := by decide +kernel
theorem dL_law_101 : decode cL_law 101 = .ok (.iload 7, 2) := by decide +kernel
theorem dL_law_103 : decode cL_law 103 = .ok (.iconst 4, 1) := by decide +kernel
theorem dL_law_104 : decode cL_law 104 = .ok (.ishr, 1) := by decide +kernel
theorem dL_law_105 : decode cL_law 105 = .ok (.bipush 9, 2) := by decide +kernel
theorem dL_law_107 : decode cL_law 107 = .ok (.invokestatic 15, 3) := by decide +kernel
theorem dL_law_110 : decode cL_law 110 = .ok (.iadd, 1) := by decide +kernel
theorem dL_law_111 : decode cL_law 111 = .ok (.istore 9, 2) := by decide +kernel
theorem dL_law_113 : decode cL_law 113 = .ok (.aload_n 1, 1) := by decide +kernel
theorem dL_law_114 : decode cL_law 114 = .ok (.iload 8, 2) := by decide +kernel
theorem dL_law_116 : decode cL_law 116 = .ok (.iload 9, 2) := by decide +kernel
theorem dL_law_118 : decode cL_law 118 = .ok (.invokevirtual 60, 3) := by decide +kernel
theorem dL_law_121 : decode cL_law 121 = .ok (.aload_n 2, 1) := by decide +kernel
theorem dL_law_122 : decode cL_law 122 = .ok (.iconst 3, 1) := by decide +kernel
theorem dL_law_123 : decode cL_law 123 = .ok (.iload 8, 2) := by decide +kernel
theorem dL_law_125 : decode cL_law 125 = .ok (.iadd, 1) := by decide +kernel
theorem dL_law_126 : decode cL_law 126 = .ok (.iaload, 1) := by decide +kernel
theorem dL_law_127 : decode cL_law 127 = .ok (.if_icmp .eq 5, 3) := by decide +kernel
theorem dL_law_130 : decode cL_law 130 = .ok (.iconst 0, 1) := by decide +kernel
theorem dL_law_131 : decode cL_law 131 = .ok (.ireturn, 1) := by decide +kernel
theorem dL_law_132 : decode cL_law 132 = .ok (.aload_n 2, 1) := by decide +kernel
theorem dL_law_133 : decode cL_law 133 = .ok (.iconst 3, 1) := by decide +kernel
theorem dL_law_134 : decode cL_law 134 = .ok (.iload 8, 2) := by decide +kernel
theorem dL_law_136 : decode cL_law 136 = .ok (.iadd, 1) := by decide +kernel
theorem dL_law_137 : decode cL_law 137 = .ok (.iload 9, 2) := by decide +kernel
theorem dL_law_139 : decode cL_law 139 = .ok (.iastore, 1) := by decide +kernel
theorem dL_law_140 : decode cL_law 140 = .ok (.iload 7, 2) := by decide +kernel
theorem dL_law_142 : decode cL_law 142 = .ok (.bipush 8, 2) := by decide +kernel
theorem dL_law_144 : decode cL_law 144 = .ok (.ishr, 1) := by decide +kernel
theorem dL_law_145 : decode cL_law 145 = .ok (.sipush 400, 3) := by decide +kernel
theorem dL_law_148 : decode cL_law 148 = .ok (.invokestatic 15, 3) := by decide +kernel
theorem dL_law_151 : decode cL_law 151 = .ok (.istore 10, 2) := by decide +kernel
theorem dL_law_153 : decode cL_law 153 = .ok (.aload_n 1, 1) := by decide +kernel
theorem dL_law_154 : decode cL_law 154 = .ok (.iload 10, 2) := by decide +kernel
theorem dL_law_156 : decode cL_law 156 = .ok (.invokevirtual 63, 3) := by decide +kernel
theorem dL_law_159 : decode cL_law 159 = .ok (.aload_n 2, 1) := by decide +kernel
theorem dL_law_160 : decode cL_law 160 = .ok (.iconst 2, 1) := by decide +kernel
theorem dL_law_161 : decode cL_law 161 = .ok (.iaload, 1) := by decide +kernel
theorem dL_law_162 : decode cL_law 162 = .ok (.if_icmp .eq 5, 3) := by decide +kernel
theorem dL_law_165 : decode cL_law 165 = .ok (.iconst 0, 1) := by decide +kernel
theorem dL_law_166 : decode cL_law 166 = .ok (.ireturn, 1) := by decide +kernel
theorem dL_law_167 : decode cL_law 167 = .ok (.aload_n 2, 1) := by decide +kernel
theorem dL_law_168 : decode cL_law 168 = .ok (.iconst 2, 1) := by decide +kernel
theorem dL_law_169 : decode cL_law 169 = .ok (.iload 10, 2) := by decide +kernel
theorem dL_law_171 : decode cL_law 171 = .ok (.iastore, 1) := by decide +kernel
theorem dL_law_172 : decode cL_law 172 = .ok (.iconst 0, 1) := by decide +kernel
theorem dL_law_173 : decode cL_law 173 = .ok (.istore 11, 2) := by decide +kernel
theorem dL_law_175 : decode cL_law 175 = .ok (.iconst 0, 1) := by decide +kernel
theorem dL_law_176 : decode cL_law 176 = .ok (.istore 12, 2) := by decide +kernel
theorem dL_law_178 : decode cL_law 178 = .ok (.iload 12, 2) := by decide +kernel
theorem dL_law_180 : decode cL_law 180 = .ok (.iload 5, 2) := by decide +kernel
theorem dL_law_182 : decode cL_law 182 = .ok (.if_icmp .ge 91, 3) := by decide +kernel
theorem dL_law_185 : decode cL_law 185 = .ok (.iconst 0, 1) := by decide +kernel
theorem dL_law_186 : decode cL_law 186 = .ok (.istore 13, 2) := by decide +kernel
theorem dL_law_188 : decode cL_law 188 = .ok (.iload 13, 2) := by decide +kernel
theorem dL_law_190 : decode cL_law 190 = .ok (.iload 5, 2) := by decide +kernel
theorem dL_law_192 : decode cL_law 192 = .ok (.if_icmp .ge 75, 3) := by decide +kernel
theorem dL_law_195 : decode cL_law 195 = .ok (.aload_n 3, 1) := by decide +kernel
theorem dL_law_196 : decode cL_law 196 = .ok (.aload 4, 2) := by decide +kernel
theorem dL_law_198 : decode cL_law 198 = .ok (.iload 12, 2) := by decide +kernel
theorem dL_law_200 : decode cL_law 200 = .ok (.iload 13, 2) := by decide +kernel
theorem dL_law_202 : decode cL_law 202 = .ok (.invokestatic 67, 3) := by decide +kernel
theorem dL_law_205 : decode cL_law 205 = .ok (.istore 14, 2) := by decide +kernel
theorem dL_law_207 : decode cL_law 207 = .ok (.aload_n 1, 1) := by decide +kernel
theorem dL_law_208 : decode cL_law 208 = .ok (.iload 12, 2) := by decide +kernel
theorem dL_law_210 : decode cL_law 210 = .ok (.iload 13, 2) := by decide +kernel
theorem dL_law_212 : decode cL_law 212 = .ok (.invokevirtual 70, 3) := by decide +kernel
theorem dL_law_215 : decode cL_law 215 = .ok (.iload 14, 2) := by decide +kernel
theorem dL_law_217 : decode cL_law 217 = .ok (.if_icmp .eq 5, 3) := by decide +kernel
theorem dL_law_220 : decode cL_law 220 = .ok (.iconst 0, 1) := by decide +kernel
theorem dL_law_221 : decode cL_law 221 = .ok (.ireturn, 1) := by decide +kernel
theorem dL_law_222 : decode cL_law 222 = .ok (.iload 12, 2) := by decide +kernel
theorem dL_law_224 : decode cL_law 224 = .ok (.iload 13, 2) := by decide +kernel
theorem dL_law_226 : decode cL_law 226 = .ok (.if_icmp .ge 35, 3) := by decide +kernel
theorem dL_law_229 : decode cL_law 229 = .ok (.bipush 8, 2) := by decide +kernel
theorem dL_law_231 : decode cL_law 231 = .ok (.iload 14, 2) := by decide +kernel
theorem dL_law_233 : decode cL_law 233 = .ok (.imul, 1) := by decide +kernel
theorem dL_law_234 : decode cL_law 234 = .ok (.iload 10, 2) := by decide +kernel
theorem dL_law_236 : decode cL_law 236 = .ok (.if_icmp .gt 25, 3) := by decide +kernel
theorem dL_law_239 : decode cL_law 239 = .ok (.aload_n 1, 1) := by decide +kernel
theorem dL_law_240 : decode cL_law 240 = .ok (.iload 11, 2) := by decide +kernel
theorem dL_law_242 : decode cL_law 242 = .ok (.invokevirtual 72, 3) := by decide +kernel
theorem dL_law_245 : decode cL_law 245 = .ok (.bipush 10, 2) := by decide +kernel
theorem dL_law_247 : decode cL_law 247 = .ok (.iload 12, 2) := by decide +kernel
theorem dL_law_249 : decode cL_law 249 = .ok (.imul, 1) := by decide +kernel
theorem dL_law_250 : decode cL_law 250 = .ok (.iload 13, 2) := by decide +kernel
theorem dL_law_252 : decode cL_law 252 = .ok (.iadd, 1) := by decide +kernel
theorem dL_law_253 : decode cL_law 253 = .ok (.if_icmp .eq 5, 3) := by decide +kernel
theorem dL_law_256 : decode cL_law 256 = .ok (.iconst 0, 1) := by decide +kernel
theorem dL_law_257 : decode cL_law 257 = .ok (.ireturn, 1) := by decide +kernel
theorem dL_law_258 : decode cL_law 258 = .ok (.iinc 11 1, 3) := by decide +kernel
theorem dL_law_261 : decode cL_law 261 = .ok (.iinc 13 1, 3) := by decide +kernel
theorem dL_law_264 : decode cL_law 264 = .ok (.goto (-76), 3) := by decide +kernel
theorem dL_law_267 : decode cL_law 267 = .ok (.iinc 12 1, 3) := by decide +kernel
theorem dL_law_270 : decode cL_law 270 = .ok (.goto (-92), 3) := by decide +kernel
theorem dL_law_273 : decode cL_law 273 = .ok (.aload_n 1, 1) := by decide +kernel
theorem dL_law_274 : decode cL_law 274 = .ok (.iconst (-1), 1) := by decide +kernel
theorem dL_law_275 : decode cL_law 275 = .ok (.invokevirtual 72, 3) := by decide +kernel
theorem dL_law_278 : decode cL_law 278 = .ok (.iload 11, 2) := by decide +kernel
theorem dL_law_280 : decode cL_law 280 = .ok (.if_icmp .ne 35, 3) := by decide +kernel
theorem dL_law_283 : decode cL_law 283 = .ok (.aload_n 1, 1) := by decide +kernel
theorem dL_law_284 : decode cL_law 284 = .ok (.iload 11, 2) := by decide +kernel
theorem dL_law_286 : decode cL_law 286 = .ok (.invokevirtual 72, 3) := by decide +kernel
theorem dL_law_289 : decode cL_law 289 = .ok (.bipush (-9), 2) := by decide +kernel
theorem dL_law_291 : decode cL_law 291 = .ok (.if_icmp .ne 24, 3) := by decide +kernel
theorem dL_law_294 : decode cL_law 294 = .ok (.aload_n 1, 1) := by decide +kernel
theorem dL_law_295 : decode cL_law 295 = .ok (.bipush (-2), 2) := by decide +kernel
theorem dL_law_297 : decode cL_law 297 = .ok (.invokevirtual 72, 3) := by decide +kernel
theorem dL_law_300 : decode cL_law 300 = .ok (.iconst (-1), 1) := by decide +kernel
theorem dL_law_301 : decode cL_law 301 = .ok (.if_icmp .ne 14, 3) := by decide +kernel
theorem dL_law_304 : decode cL_law 304 = .ok (.aload_n 1, 1) := by decide +kernel
theorem dL_law_305 : decode cL_law 305 = .ok (.iconst 0, 1) := by decide +kernel
theorem dL_law_306 : decode cL_law 306 = .ok (.iload 5, 2) := by decide +kernel
theorem dL_law_308 : decode cL_law 308 = .ok (.invokevirtual 70, 3) := by decide +kernel
theorem dL_law_311 : decode cL_law 311 = .ok (.iconst (-1), 1) := by decide +kernel
theorem dL_law_312 : decode cL_law 312 = .ok (.if_icmp .eq 5, 3) := by decide +kernel
theorem dL_law_315 : decode cL_law 315 = .ok (.iconst 0, 1) := by decide +kernel
theorem dL_law_316 : decode cL_law 316 = .ok (.ireturn, 1) := by decide +kernel
theorem dL_law_317 : decode cL_law 317 = .ok (.iload 7, 2) := by decide +kernel
theorem dL_law_319 : decode cL_law 319 = .ok (.bipush 17, 2) := by decide +kernel
theorem dL_law_321 : decode cL_law 321 = .ok (.ishr, 1) := by decide +kernel
theorem dL_law_322 : decode cL_law 322 = .ok (.iload 5, 2) := by decide +kernel
theorem dL_law_324 : decode cL_law 324 = .ok (.invokestatic 15, 3) := by decide +kernel
theorem dL_law_327 : decode cL_law 327 = .ok (.istore 12, 2) := by decide +kernel
theorem dL_law_329 : decode cL_law 329 = .ok (.iload 12, 2) := by decide +kernel
theorem dL_law_331 : decode cL_law 331 = .ok (.iconst 1, 1) := by decide +kernel
theorem dL_law_332 : decode cL_law 332 = .ok (.iadd, 1) := by decide +kernel
theorem dL_law_333 : decode cL_law 333 = .ok (.iload 7, 2) := by decide +kernel
theorem dL_law_335 : decode cL_law 335 = .ok (.bipush 20, 2) := by decide +kernel
theorem dL_law_337 : decode cL_law 337 = .ok (.ishr, 1) := by decide +kernel
theorem dL_law_338 : decode cL_law 338 = .ok (.iload 5, 2) := by decide +kernel
theorem dL_law_340 : decode cL_law 340 = .ok (.iconst 1, 1) := by decide +kernel
theorem dL_law_341 : decode cL_law 341 = .ok (.isub, 1) := by decide +kernel
theorem dL_law_342 : decode cL_law 342 = .ok (.invokestatic 15, 3) := by decide +kernel
theorem dL_law_345 : decode cL_law 345 = .ok (.iadd, 1) := by decide +kernel
theorem dL_law_346 : decode cL_law 346 = .ok (.iload 5, 2) := by decide +kernel
theorem dL_law_348 : decode cL_law 348 = .ok (.irem, 1) := by decide +kernel
theorem dL_law_349 : decode cL_law 349 = .ok (.istore 13, 2) := by decide +kernel
theorem dL_law_351 : decode cL_law 351 = .ok (.aload_n 0, 1) := by decide +kernel
theorem dL_law_352 : decode cL_law 352 = .ok (.bipush 12, 2) := by decide +kernel
theorem dL_law_354 : decode cL_law 354 = .ok (.iload 6, 2) := by decide +kernel
theorem dL_law_356 : decode cL_law 356 = .ok (.iadd, 1) := by decide +kernel
theorem dL_law_357 : decode cL_law 357 = .ok (.invokestatic 9, 3) := by decide +kernel
theorem dL_law_360 : decode cL_law 360 = .ok (.bipush 8, 2) := by decide +kernel
theorem dL_law_362 : decode cL_law 362 = .ok (.invokestatic 15, 3) := by decide +kernel
theorem dL_law_365 : decode cL_law 365 = .ok (.istore 14, 2) := by decide +kernel
theorem dL_law_367 : decode cL_law 367 = .ok (.iconst 0, 1) := by decide +kernel
theorem dL_law_368 : decode cL_law 368 = .ok (.istore 15, 2) := by decide +kernel
theorem dL_law_370 : decode cL_law 370 = .ok (.iload 15, 2) := by decide +kernel
theorem dL_law_372 : decode cL_law 372 = .ok (.iload 14, 2) := by decide +kernel
theorem dL_law_374 : decode cL_law 374 = .ok (.if_icmp .ge 81, 3) := by decide +kernel
theorem dL_law_377 : decode cL_law 377 = .ok (.aload_n 1, 1) := by decide +kernel
theorem dL_law_378 : decode cL_law 378 = .ok (.iconst 1, 1) := by decide +kernel
theorem dL_law_379 : decode cL_law 379 = .ok (.iconst 2, 1) := by decide +kernel
theorem dL_law_380 : decode cL_law 380 = .ok (.iload 15, 2) := by decide +kernel
theorem dL_law_382 : decode cL_law 382 = .ok (.imul, 1) := by decide +kernel
theorem dL_law_383 : decode cL_law 383 = .ok (.aload_n 0, 1) := by decide +kernel
theorem dL_law_384 : decode cL_law 384 = .ok (.bipush 12, 2) := by decide +kernel
theorem dL_law_386 : decode cL_law 386 = .ok (.iload 6, 2) := by decide +kernel
theorem dL_law_388 : decode cL_law 388 = .ok (.iadd, 1) := by decide +kernel
theorem dL_law_389 : decode cL_law 389 = .ok (.invokestatic 9, 3) := by decide +kernel
theorem dL_law_392 : decode cL_law 392 = .ok (.iconst 3, 1) := by decide +kernel
theorem dL_law_393 : decode cL_law 393 = .ok (.iconst 3, 1) := by decide +kernel
theorem dL_law_394 : decode cL_law 394 = .ok (.iload 15, 2) := by decide +kernel
theorem dL_law_396 : decode cL_law 396 = .ok (.imul, 1) := by decide +kernel
theorem dL_law_397 : decode cL_law 397 = .ok (.iadd, 1) := by decide +kernel
theorem dL_law_398 : decode cL_law 398 = .ok (.ishr, 1) := by decide +kernel
theorem dL_law_399 : decode cL_law 399 = .ok (.bipush 9, 2) := by decide +kernel
theorem dL_law_401 : decode cL_law 401 = .ok (.invokestatic 15, 3) := by decide +kernel
theorem dL_law_404 : decode cL_law 404 = .ok (.invokevirtual 19, 3) := by decide +kernel
theorem dL_law_407 : decode cL_law 407 = .ok (.iconst 1, 1) := by decide +kernel
theorem dL_law_408 : decode cL_law 408 = .ok (.if_icmp .ne 39, 3) := by decide +kernel
theorem dL_law_411 : decode cL_law 411 = .ok (.aload_n 1, 1) := by decide +kernel
theorem dL_law_412 : decode cL_law 412 = .ok (.iconst 1, 1) := by decide +kernel
theorem dL_law_413 : decode cL_law 413 = .ok (.iconst 2, 1) := by decide +kernel
theorem dL_law_414 : decode cL_law 414 = .ok (.iload 15, 2) := by decide +kernel
theorem dL_law_416 : decode cL_law 416 = .ok (.imul, 1) := by decide +kernel
theorem dL_law_417 : decode cL_law 417 = .ok (.iconst 1, 1) := by decide +kernel
theorem dL_law_418 : decode cL_law 418 = .ok (.iadd, 1) := by decide +kernel
theorem dL_law_419 : decode cL_law 419 = .ok (.iconst 1, 1) := by decide +kernel
theorem dL_law_420 : decode cL_law 420 = .ok (.aload_n 0, 1) := by decide +kernel
theorem dL_law_421 : decode cL_law 421 = .ok (.bipush 15, 2) := by decide +kernel
theorem dL_law_423 : decode cL_law 423 = .ok (.iload 6, 2) := by decide +kernel
theorem dL_law_425 : decode cL_law 425 = .ok (.iadd, 1) := by decide +kernel
theorem dL_law_426 : decode cL_law 426 = .ok (.invokestatic 9, 3) := by decide +kernel
theorem dL_law_429 : decode cL_law 429 = .ok (.iconst 3, 1) := by decide +kernel
theorem dL_law_430 : decode cL_law 430 = .ok (.iload 15, 2) := by decide +kernel
theorem dL_law_432 : decode cL_law 432 = .ok (.imul, 1) := by decide +kernel
theorem dL_law_433 : decode cL_law 433 = .ok (.ishr, 1) := by decide +kernel
theorem dL_law_434 : decode cL_law 434 = .ok (.bipush 9, 2) := by decide +kernel
theorem dL_law_436 : decode cL_law 436 = .ok (.invokestatic 15, 3) := by decide +kernel
theorem dL_law_439 : decode cL_law 439 = .ok (.iadd, 1) := by decide +kernel
theorem dL_law_440 : decode cL_law 440 = .ok (.invokevirtual 19, 3) := by decide +kernel
theorem dL_law_443 : decode cL_law 443 = .ok (.iconst 1, 1) := by decide +kernel
theorem dL_law_444 : decode cL_law 444 = .ok (.if_icmp .eq 5, 3) := by decide +kernel
theorem dL_law_447 : decode cL_law 447 = .ok (.iconst 0, 1) := by decide +kernel
theorem dL_law_448 : decode cL_law 448 = .ok (.ireturn, 1) := by decide +kernel
theorem dL_law_449 : decode cL_law 449 = .ok (.iinc 15 1, 3) := by decide +kernel
theorem dL_law_452 : decode cL_law 452 = .ok (.goto (-82), 3) := by decide +kernel
theorem dL_law_455 : decode cL_law 455 = .ok (.bipush (-9), 2) := by decide +kernel
theorem dL_law_457 : decode cL_law 457 = .ok (.istore 15, 2) := by decide +kernel
theorem dL_law_459 : decode cL_law 459 = .ok (.iconst 1, 1) := by decide +kernel
theorem dL_law_460 : decode cL_law 460 = .ok (.iload 14, 2) := by decide +kernel
theorem dL_law_462 : decode cL_law 462 = .ok (.ishl, 1) := by decide +kernel
theorem dL_law_463 : decode cL_law 463 = .ok (.iconst 1, 1) := by decide +kernel
theorem dL_law_464 : decode cL_law 464 = .ok (.isub, 1) := by decide +kernel
theorem dL_law_465 : decode cL_law 465 = .ok (.istore 16, 2) := by decide +kernel
theorem dL_law_467 : decode cL_law 467 = .ok (.iload 16, 2) := by decide +kernel
theorem dL_law_469 : decode cL_law 469 = .ok (.ifCond .lt 186, 3) := by decide +kernel
theorem dL_law_472 : decode cL_law 472 = .ok (.bipush 9, 2) := by decide +kernel
theorem dL_law_474 : decode cL_law 474 = .ok (.newarray .int, 2) := by decide +kernel
theorem dL_law_476 : decode cL_law 476 = .ok (.astore 17, 2) := by decide +kernel
theorem dL_law_478 : decode cL_law 478 = .ok (.iconst 0, 1) := by decide +kernel
theorem dL_law_479 : decode cL_law 479 = .ok (.istore 18, 2) := by decide +kernel
theorem dL_law_481 : decode cL_law 481 = .ok (.iload 18, 2) := by decide +kernel
theorem dL_law_483 : decode cL_law 483 = .ok (.bipush 9, 2) := by decide +kernel
theorem dL_law_485 : decode cL_law 485 = .ok (.if_icmp .ge 26, 3) := by decide +kernel
theorem dL_law_488 : decode cL_law 488 = .ok (.aload 17, 2) := by decide +kernel
theorem dL_law_490 : decode cL_law 490 = .ok (.iload 18, 2) := by decide +kernel
theorem dL_law_492 : decode cL_law 492 = .ok (.aload_n 3, 1) := by decide +kernel
theorem dL_law_493 : decode cL_law 493 = .ok (.aload 4, 2) := by decide +kernel
theorem dL_law_495 : decode cL_law 495 = .ok (.iload 12, 2) := by decide +kernel
theorem dL_law_497 : decode cL_law 497 = .ok (.iconst 1, 1) := by decide +kernel
theorem dL_law_498 : decode cL_law 498 = .ok (.iload 18, 2) := by decide +kernel
theorem dL_law_500 : decode cL_law 500 = .ok (.iadd, 1) := by decide +kernel
theorem dL_law_501 : decode cL_law 501 = .ok (.invokestatic 29, 3) := by decide +kernel
theorem dL_law_504 : decode cL_law 504 = .ok (.iastore, 1) := by decide +kernel
theorem dL_law_505 : decode cL_law 505 = .ok (.iinc 18 1, 3) := by decide +kernel
theorem dL_law_508 : decode cL_law 508 = .ok (.goto (-27), 3) := by decide +kernel
theorem dL_law_511 : decode cL_law 511 = .ok (.iconst 0, 1) := by decide +kernel
theorem dL_law_512 : decode cL_law 512 = .ok (.istore 18, 2) := by decide +kernel
theorem dL_law_514 : decode cL_law 514 = .ok (.iload 18, 2) := by decide +kernel
theorem dL_law_516 : decode cL_law 516 = .ok (.iload 14, 2) := by decide +kernel
theorem dL_law_518 : decode cL_law 518 = .ok (.if_icmp .ge 50, 3) := by decide +kernel
theorem dL_law_521 : decode cL_law 521 = .ok (.iload 16, 2) := by decide +kernel
theorem dL_law_523 : decode cL_law 523 = .ok (.iload 18, 2) := by decide +kernel
theorem dL_law_525 : decode cL_law 525 = .ok (.ishr, 1) := by decide +kernel
theorem dL_law_526 : decode cL_law 526 = .ok (.iconst 1, 1) := by decide +kernel
theorem dL_law_527 : decode cL_law 527 = .ok (.iand, 1) := by decide +kernel
theorem dL_law_528 : decode cL_law 528 = .ok (.iconst 1, 1) := by decide +kernel
theorem dL_law_529 : decode cL_law 529 = .ok (.if_icmp .ne 33, 3) := by decide +kernel
theorem dL_law_532 : decode cL_law 532 = .ok (.aload 17, 2) := by decide +kernel
theorem dL_law_534 : decode cL_law 534 = .ok (.aload_n 1, 1) := by decide +kernel
theorem dL_law_535 : decode cL_law 535 = .ok (.iconst 1, 1) := by decide +kernel
theorem dL_law_536 : decode cL_law 536 = .ok (.iconst 2, 1) := by decide +kernel
theorem dL_law_537 : decode cL_law 537 = .ok (.iload 18, 2) := by decide +kernel
theorem dL_law_539 : decode cL_law 539 = .ok (.imul, 1) := by decide +kernel
theorem dL_law_540 : decode cL_law 540 = .ok (.iconst 1, 1) := by decide +kernel
theorem dL_law_541 : decode cL_law 541 = .ok (.invokevirtual 75, 3) := by decide +kernel
theorem dL_law_544 : decode cL_law 544 = .ok (.l2i, 1) := by decide +kernel
theorem dL_law_545 : decode cL_law 545 = .ok (.dup2, 1) := by decide +kernel
theorem dL_law_546 : decode cL_law 546 = .ok (.iaload, 1) := by decide +kernel
theorem dL_law_547 : decode cL_law 547 = .ok (.aload_n 1, 1) := by decide +kernel
theorem dL_law_548 : decode cL_law 548 = .ok (.iconst 1, 1) := by decide +kernel
theorem dL_law_549 : decode cL_law 549 = .ok (.iconst 2, 1) := by decide +kernel
theorem dL_law_550 : decode cL_law 550 = .ok (.iload 18, 2) := by decide +kernel
theorem dL_law_552 : decode cL_law 552 = .ok (.imul, 1) := by decide +kernel
theorem dL_law_553 : decode cL_law 553 = .ok (.iconst 1, 1) := by decide +kernel
theorem dL_law_554 : decode cL_law 554 = .ok (.iadd, 1) := by decide +kernel
theorem dL_law_555 : decode cL_law 555 = .ok (.iconst 1, 1) := by decide +kernel
theorem dL_law_556 : decode cL_law 556 = .ok (.invokevirtual 75, 3) := by decide +kernel
theorem dL_law_559 : decode cL_law 559 = .ok (.l2i, 1) := by decide +kernel
theorem dL_law_560 : decode cL_law 560 = .ok (.iadd, 1) := by decide +kernel
theorem dL_law_561 : decode cL_law 561 = .ok (.iastore, 1) := by decide +kernel
theorem dL_law_562 : decode cL_law 562 = .ok (.iinc 18 1, 3) := by decide +kernel
theorem dL_law_565 : decode cL_law 565 = .ok (.goto (-51), 3) := by decide +kernel
theorem dL_law_568 : decode cL_law 568 = .ok (.iconst 0, 1) := by decide +kernel
theorem dL_law_569 : decode cL_law 569 = .ok (.istore 18, 2) := by decide +kernel
theorem dL_law_571 : decode cL_law 571 = .ok (.iconst 0, 1) := by decide +kernel
theorem dL_law_572 : decode cL_law 572 = .ok (.istore 19, 2) := by decide +kernel
theorem dL_law_574 : decode cL_law 574 = .ok (.iload 19, 2) := by decide +kernel
theorem dL_law_576 : decode cL_law 576 = .ok (.bipush 9, 2) := by decide +kernel
theorem dL_law_578 : decode cL_law 578 = .ok (.if_icmp .ge 37, 3) := by decide +kernel
theorem dL_law_581 : decode cL_law 581 = .ok (.iload 18, 2) := by decide +kernel
theorem dL_law_583 : decode cL_law 583 = .ok (.bipush 8, 2) := by decide +kernel
theorem dL_law_585 : decode cL_law 585 = .ok (.aload 17, 2) := by decide +kernel
theorem dL_law_587 : decode cL_law 587 = .ok (.iload 19, 2) := by decide +kernel
theorem dL_law_589 : decode cL_law 589 = .ok (.iaload, 1) := by decide +kernel
theorem dL_law_590 : decode cL_law 590 = .ok (.aload_n 3, 1) := by decide +kernel
theorem dL_law_591 : decode cL_law 591 = .ok (.aload 4, 2) := by decide +kernel
theorem dL_law_593 : decode cL_law 593 = .ok (.iload 13, 2) := by decide +kernel
theorem dL_law_595 : decode cL_law 595 = .ok (.iconst 1, 1) := by decide +kernel
theorem dL_law_596 : decode cL_law 596 = .ok (.iload 19, 2) := by decide +kernel
theorem dL_law_598 : decode cL_law 598 = .ok (.iadd, 1) := by decide +kernel
theorem dL_law_599 : decode cL_law 599 = .ok (.invokestatic 29, 3) := by decide +kernel
theorem dL_law_602 : decode cL_law 602 = .ok (.invokestatic 45, 3) := by decide +kernel
theorem dL_law_605 : decode cL_law 605 = .ok (.imul, 1) := by decide +kernel
theorem dL_law_606 : decode cL_law 606 = .ok (.iadd, 1) := by decide +kernel
theorem dL_law_607 : decode cL_law 607 = .ok (.istore 18, 2) := by decide +kernel
theorem dL_law_609 : decode cL_law 609 = .ok (.iinc 19 1, 3) := by decide +kernel
theorem dL_law_612 : decode cL_law 612 = .ok (.goto (-38), 3) := by decide +kernel
theorem dL_law_615 : decode cL_law 615 = .ok (.iload 18, 2) := by decide +kernel
theorem dL_law_617 : decode cL_law 617 = .ok (.iload 10, 2) := by decide +kernel
theorem dL_law_619 : decode cL_law 619 = .ok (.if_icmp .gt 26, 3) := by decide +kernel
theorem dL_law_622 : decode cL_law 622 = .ok (.iload 15, 2) := by decide +kernel
theorem dL_law_624 : decode cL_law 624 = .ok (.ifCond .lt 16, 3) := by decide +kernel
theorem dL_law_627 : decode cL_law 627 = .ok (.iload 16, 2) := by decide +kernel
theorem dL_law_629 : decode cL_law 629 = .ok (.invokestatic 78, 3) := by decide +kernel
theorem dL_law_632 : decode cL_law 632 = .ok (.iload 15, 2) := by decide +kernel
theorem dL_law_634 : decode cL_law 634 = .ok (.invokestatic 78, 3) := by decide +kernel
theorem dL_law_637 : decode cL_law 637 = .ok (.if_icmp .gt 8, 3) := by decide +kernel
theorem dL_law_640 : decode cL_law 640 = .ok (.iload 16, 2) := by decide +kernel
theorem dL_law_642 : decode cL_law 642 = .ok (.goto 5, 3) := by decide +kernel
theorem dL_law_645 : decode cL_law 645 = .ok (.iload 15, 2) := by decide +kernel
theorem dL_law_647 : decode cL_law 647 = .ok (.istore 15, 2) := by decide +kernel
theorem dL_law_649 : decode cL_law 649 = .ok (.iinc 16 (-1), 3) := by decide +kernel
theorem dL_law_652 : decode cL_law 652 = .ok (.goto (-185), 3) := by decide +kernel
theorem dL_law_655 : decode cL_law 655 = .ok (.aload_n 1, 1) := by decide +kernel
theorem dL_law_656 : decode cL_law 656 = .ok (.iload 12, 2) := by decide +kernel
theorem dL_law_658 : decode cL_law 658 = .ok (.iload 13, 2) := by decide +kernel
theorem dL_law_660 : decode cL_law 660 = .ok (.iconst 1, 1) := by decide +kernel
theorem dL_law_661 : decode cL_law 661 = .ok (.iconst 1, 1) := by decide +kernel
theorem dL_law_662 : decode cL_law 662 = .ok (.iconst 0, 1) := by decide +kernel
theorem dL_law_663 : decode cL_law 663 = .ok (.iload 14, 2) := by decide +kernel
theorem dL_law_665 : decode cL_law 665 = .ok (.invokevirtual 81, 3) := by decide +kernel
theorem dL_law_668 : decode cL_law 668 = .ok (.iload 15, 2) := by decide +kernel
theorem dL_law_670 : decode cL_law 670 = .ok (.if_icmp .ne 151, 3) := by decide +kernel
theorem dL_law_673 : decode cL_law 673 = .ok (.aload_n 1, 1) := by decide +kernel
theorem dL_law_674 : decode cL_law 674 = .ok (.iload 12, 2) := by decide +kernel
theorem dL_law_676 : decode cL_law 676 = .ok (.iload 12, 2) := by decide +kernel
theorem dL_law_678 : decode cL_law 678 = .ok (.iconst 1, 1) := by decide +kernel
theorem dL_law_679 : decode cL_law 679 = .ok (.iconst 1, 1) := by decide +kernel
theorem dL_law_680 : decode cL_law 680 = .ok (.iconst 0, 1) := by decide +kernel
theorem dL_law_681 : decode cL_law 681 = .ok (.iload 14, 2) := by decide +kernel
theorem dL_law_683 : decode cL_law 683 = .ok (.invokevirtual 81, 3) := by decide +kernel
theorem dL_law_686 : decode cL_law 686 = .ok (.iconst (-1), 1) := by decide +kernel
theorem dL_law_687 : decode cL_law 687 = .ok (.if_icmp .ne 134, 3) := by decide +kernel
theorem dL_law_690 : decode cL_law 690 = .ok (.aload_n 1, 1) := by decide +kernel
theorem dL_law_691 : decode cL_law 691 = .ok (.iload 12, 2) := by decide +kernel
theorem dL_law_693 : decode cL_law 693 = .ok (.iload 13, 2) := by decide +kernel
theorem dL_law_695 : decode cL_law 695 = .ok (.iconst 4, 1) := by decide +kernel
theorem dL_law_696 : decode cL_law 696 = .ok (.iconst 1, 1) := by decide +kernel
theorem dL_law_697 : decode cL_law 697 = .ok (.iconst 0, 1) := by decide +kernel
theorem dL_law_698 : decode cL_law 698 = .ok (.iconst 0, 1) := by decide +kernel
theorem dL_law_699 : decode cL_law 699 = .ok (.invokevirtual 81, 3) := by decide +kernel
theorem dL_law_702 : decode cL_law 702 = .ok (.iconst (-1), 1) := by decide +kernel
theorem dL_law_703 : decode cL_law 703 = .ok (.if_icmp .ne 118, 3) := by decide +kernel
theorem dL_law_706 : decode cL_law 706 = .ok (.aload_n 1, 1) := by decide +kernel
theorem dL_law_707 : decode cL_law 707 = .ok (.iload 12, 2) := by decide +kernel
theorem dL_law_709 : decode cL_law 709 = .ok (.iload 13, 2) := by decide +kernel
theorem dL_law_711 : decode cL_law 711 = .ok (.iconst 1, 1) := by decide +kernel
theorem dL_law_712 : decode cL_law 712 = .ok (.iconst 3, 1) := by decide +kernel
theorem dL_law_713 : decode cL_law 713 = .ok (.iconst 0, 1) := by decide +kernel
theorem dL_law_714 : decode cL_law 714 = .ok (.iconst 0, 1) := by decide +kernel
theorem dL_law_715 : decode cL_law 715 = .ok (.invokevirtual 81, 3) := by decide +kernel
theorem dL_law_718 : decode cL_law 718 = .ok (.bipush (-2), 2) := by decide +kernel
theorem dL_law_720 : decode cL_law 720 = .ok (.if_icmp .ne 101, 3) := by decide +kernel
theorem dL_law_723 : decode cL_law 723 = .ok (.aload_n 1, 1) := by decide +kernel
theorem dL_law_724 : decode cL_law 724 = .ok (.iload 12, 2) := by decide +kernel
theorem dL_law_726 : decode cL_law 726 = .ok (.iload 13, 2) := by decide +kernel
theorem dL_law_728 : decode cL_law 728 = .ok (.iconst 1, 1) := by decide +kernel
theorem dL_law_729 : decode cL_law 729 = .ok (.iconst 0, 1) := by decide +kernel
theorem dL_law_730 : decode cL_law 730 = .ok (.iconst 0, 1) := by decide +kernel
theorem dL_law_731 : decode cL_law 731 = .ok (.iconst 1, 1) := by decide +kernel
theorem dL_law_732 : decode cL_law 732 = .ok (.invokevirtual 81, 3) := by decide +kernel
theorem dL_law_735 : decode cL_law 735 = .ok (.bipush (-12), 2) := by decide +kernel
theorem dL_law_737 : decode cL_law 737 = .ok (.if_icmp .ne 84, 3) := by decide +kernel
theorem dL_law_740 : decode cL_law 740 = .ok (.aload_n 1, 1) := by decide +kernel
theorem dL_law_741 : decode cL_law 741 = .ok (.iload 12, 2) := by decide +kernel
theorem dL_law_743 : decode cL_law 743 = .ok (.iload 13, 2) := by decide +kernel
theorem dL_law_745 : decode cL_law 745 = .ok (.iconst 1, 1) := by decide +kernel
theorem dL_law_746 : decode cL_law 746 = .ok (.iconst 1, 1) := by decide +kernel
theorem dL_law_747 : decode cL_law 747 = .ok (.iconst 0, 1) := by decide +kernel
theorem dL_law_748 : decode cL_law 748 = .ok (.bipush 13, 2) := by decide +kernel
theorem dL_law_750 : decode cL_law 750 = .ok (.invokevirtual 81, 3) := by decide +kernel
theorem dL_law_753 : decode cL_law 753 = .ok (.bipush (-13), 2) := by decide +kernel
theorem dL_law_755 : decode cL_law 755 = .ok (.if_icmp .ne 66, 3) := by decide +kernel
theorem dL_law_758 : decode cL_law 758 = .ok (.aload_n 1, 1) := by decide +kernel
theorem dL_law_759 : decode cL_law 759 = .ok (.iload 12, 2) := by decide +kernel
theorem dL_law_761 : decode cL_law 761 = .ok (.iload 13, 2) := by decide +kernel
theorem dL_law_763 : decode cL_law 763 = .ok (.iconst 1, 1) := by decide +kernel
theorem dL_law_764 : decode cL_law 764 = .ok (.iconst 1, 1) := by decide +kernel
theorem dL_law_765 : decode cL_law 765 = .ok (.iconst 0, 1) := by decide +kernel
theorem dL_law_766 : decode cL_law 766 = .ok (.bipush 11, 2) := by decide +kernel
theorem dL_law_768 : decode cL_law 768 = .ok (.invokevirtual 81, 3) := by decide +kernel
theorem dL_law_771 : decode cL_law 771 = .ok (.bipush (-2), 2) := by decide +kernel
theorem dL_law_773 : decode cL_law 773 = .ok (.if_icmp .ne 48, 3) := by decide +kernel
theorem dL_law_776 : decode cL_law 776 = .ok (.aload_n 1, 1) := by decide +kernel
theorem dL_law_777 : decode cL_law 777 = .ok (.iload 12, 2) := by decide +kernel
theorem dL_law_779 : decode cL_law 779 = .ok (.iload 13, 2) := by decide +kernel
theorem dL_law_781 : decode cL_law 781 = .ok (.iconst 1, 1) := by decide +kernel
theorem dL_law_782 : decode cL_law 782 = .ok (.iconst 1, 1) := by decide +kernel
theorem dL_law_783 : decode cL_law 783 = .ok (.iconst 0, 1) := by decide +kernel
theorem dL_law_784 : decode cL_law 784 = .ok (.iconst (-1), 1) := by decide +kernel
theorem dL_law_785 : decode cL_law 785 = .ok (.invokevirtual 81, 3) := by decide +kernel
theorem dL_law_788 : decode cL_law 788 = .ok (.bipush (-14), 2) := by decide +kernel
theorem dL_law_790 : decode cL_law 790 = .ok (.if_icmp .ne 31, 3) := by decide +kernel
theorem dL_law_793 : decode cL_law 793 = .ok (.aload_n 1, 1) := by decide +kernel
theorem dL_law_794 : decode cL_law 794 = .ok (.iconst 1, 1) := by decide +kernel
theorem dL_law_795 : decode cL_law 795 = .ok (.iconst 1, 1) := by decide +kernel
theorem dL_law_796 : decode cL_law 796 = .ok (.iconst 0, 1) := by decide +kernel
theorem dL_law_797 : decode cL_law 797 = .ok (.invokevirtual 19, 3) := by decide +kernel
theorem dL_law_800 : decode cL_law 800 = .ok (.iconst 1, 1) := by decide +kernel
theorem dL_law_801 : decode cL_law 801 = .ok (.if_icmp .ne 20, 3) := by decide +kernel
theorem dL_law_804 : decode cL_law 804 = .ok (.aload_n 1, 1) := by decide +kernel
theorem dL_law_805 : decode cL_law 805 = .ok (.iload 12, 2) := by decide +kernel
theorem dL_law_807 : decode cL_law 807 = .ok (.iload 13, 2) := by decide +kernel
theorem dL_law_809 : decode cL_law 809 = .ok (.iconst 1, 1) := by decide +kernel
theorem dL_law_810 : decode cL_law 810 = .ok (.iconst 1, 1) := by decide +kernel
theorem dL_law_811 : decode cL_law 811 = .ok (.iconst 0, 1) := by decide +kernel
theorem dL_law_812 : decode cL_law 812 = .ok (.iconst 1, 1) := by decide +kernel
theorem dL_law_813 : decode cL_law 813 = .ok (.invokevirtual 81, 3) := by decide +kernel
theorem dL_law_816 : decode cL_law 816 = .ok (.bipush (-2), 2) := by decide +kernel
theorem dL_law_818 : decode cL_law 818 = .ok (.if_icmp .eq 5, 3) := by decide +kernel
theorem dL_law_821 : decode cL_law 821 = .ok (.iconst 0, 1) := by decide +kernel
theorem dL_law_822 : decode cL_law 822 = .ok (.ireturn, 1) := by decide +kernel
theorem dL_law_823 : decode cL_law 823 = .ok (.bipush (-9), 2) := by decide +kernel
theorem dL_law_825 : decode cL_law 825 = .ok (.istore 16, 2) := by decide +kernel
theorem dL_law_827 : decode cL_law 827 = .ok (.bipush 10, 2) := by decide +kernel
theorem dL_law_829 : decode cL_law 829 = .ok (.istore 17, 2) := by decide +kernel
theorem dL_law_831 : decode cL_law 831 = .ok (.iload 17, 2) := by decide +kernel
theorem dL_law_833 : decode cL_law 833 = .ok (.ifCond .lt 153, 3) := by decide +kernel
theorem dL_law_836 : decode cL_law 836 = .ok (.iconst 0, 1) := by decide +kernel
theorem dL_law_837 : decode cL_law 837 = .ok (.istore 18, 2) := by decide +kernel
theorem dL_law_839 : decode cL_law 839 = .ok (.iconst 0, 1) := by decide +kernel
theorem dL_law_840 : decode cL_law 840 = .ok (.istore 19, 2) := by decide +kernel
theorem dL_law_842 : decode cL_law 842 = .ok (.iload 19, 2) := by decide +kernel
theorem dL_law_844 : decode cL_law 844 = .ok (.bipush 9, 2) := by decide +kernel
theorem dL_law_846 : decode cL_law 846 = .ok (.if_icmp .ge 118, 3) := by decide +kernel
theorem dL_law_849 : decode cL_law 849 = .ok (.aload_n 3, 1) := by decide +kernel
theorem dL_law_850 : decode cL_law 850 = .ok (.aload 4, 2) := by decide +kernel
end
section
theorem dL_law_852 : decode cL_law 852 = .ok (.iload 12, 2) := by decide +kernel
theorem dL_law_854 : decode cL_law 854 = .ok (.iconst 1, 1) := by decide +kernel
theorem dL_law_855 : decode cL_law 855 = .ok (.iload 19, 2) := by decide +kernel
theorem dL_law_857 : decode cL_law 857 = .ok (.iadd, 1) := by decide +kernel
theorem dL_law_858 : decode cL_law 858 = .ok (.invokestatic 29, 3) := by decide +kernel
theorem dL_law_861 : decode cL_law 861 = .ok (.istore 20, 2) := by decide +kernel
theorem dL_law_863 : decode cL_law 863 = .ok (.aload_n 3, 1) := by decide +kernel
theorem dL_law_864 : decode cL_law 864 = .ok (.aload 4, 2) := by decide +kernel
theorem dL_law_866 : decode cL_law 866 = .ok (.iload 13, 2) := by decide +kernel
theorem dL_law_868 : decode cL_law 868 = .ok (.iconst 1, 1) := by decide +kernel
theorem dL_law_869 : decode cL_law 869 = .ok (.iload 19, 2) := by decide +kernel
theorem dL_law_871 : decode cL_law 871 = .ok (.iadd, 1) := by decide +kernel
theorem dL_law_872 : decode cL_law 872 = .ok (.invokestatic 29, 3) := by decide +kernel
theorem dL_law_875 : decode cL_law 875 = .ok (.istore 21, 2) := by decide +kernel
theorem dL_law_877 : decode cL_law 877 = .ok (.iload 20, 2) := by decide +kernel
theorem dL_law_879 : decode cL_law 879 = .ok (.iload 21, 2) := by decide +kernel
theorem dL_law_881 : decode cL_law 881 = .ok (.invokestatic 45, 3) := by decide +kernel
theorem dL_law_884 : decode cL_law 884 = .ok (.iload 17, 2) := by decide +kernel
theorem dL_law_886 : decode cL_law 886 = .ok (.imul, 1) := by decide +kernel
theorem dL_law_887 : decode cL_law 887 = .ok (.istore 22, 2) := by decide +kernel
theorem dL_law_889 : decode cL_law 889 = .ok (.iload 22, 2) := by decide +kernel
theorem dL_law_891 : decode cL_law 891 = .ok (.iload 22, 2) := by decide +kernel
theorem dL_law_893 : decode cL_law 893 = .ok (.bipush 10, 2) := by decide +kernel
theorem dL_law_895 : decode cL_law 895 = .ok (.irem, 1) := by decide +kernel
theorem dL_law_896 : decode cL_law 896 = .ok (.isub, 1) := by decide +kernel
theorem dL_law_897 : decode cL_law 897 = .ok (.bipush 10, 2) := by decide +kernel
theorem dL_law_899 : decode cL_law 899 = .ok (.idiv, 1) := by decide +kernel
theorem dL_law_900 : decode cL_law 900 = .ok (.istore 22, 2) := by decide +kernel
theorem dL_law_902 : decode cL_law 902 = .ok (.iload 21, 2) := by decide +kernel
theorem dL_law_904 : decode cL_law 904 = .ok (.iload 20, 2) := by decide +kernel
theorem dL_law_906 : decode cL_law 906 = .ok (.if_icmp .ge 11, 3) := by decide +kernel
theorem dL_law_909 : decode cL_law 909 = .ok (.iload 20, 2) := by decide +kernel
theorem dL_law_911 : decode cL_law 911 = .ok (.iload 22, 2) := by decide +kernel
theorem dL_law_913 : decode cL_law 913 = .ok (.isub, 1) := by decide +kernel
theorem dL_law_914 : decode cL_law 914 = .ok (.goto 8, 3) := by decide +kernel
theorem dL_law_917 : decode cL_law 917 = .ok (.iload 20, 2) := by decide +kernel
theorem dL_law_919 : decode cL_law 919 = .ok (.iload 22, 2) := by decide +kernel
theorem dL_law_921 : decode cL_law 921 = .ok (.iadd, 1) := by decide +kernel
theorem dL_law_922 : decode cL_law 922 = .ok (.istore 23, 2) := by decide +kernel
theorem dL_law_924 : decode cL_law 924 = .ok (.iload 18, 2) := by decide +kernel
theorem dL_law_926 : decode cL_law 926 = .ok (.bipush 8, 2) := by decide +kernel
theorem dL_law_928 : decode cL_law 928 = .ok (.iload 23, 2) := by decide +kernel
theorem dL_law_930 : decode cL_law 930 = .ok (.iload 21, 2) := by decide +kernel
theorem dL_law_932 : decode cL_law 932 = .ok (.invokestatic 45, 3) := by decide +kernel
theorem dL_law_935 : decode cL_law 935 = .ok (.imul, 1) := by decide +kernel
theorem dL_law_936 : decode cL_law 936 = .ok (.iadd, 1) := by decide +kernel
theorem dL_law_937 : decode cL_law 937 = .ok (.istore 18, 2) := by decide +kernel
theorem dL_law_939 : decode cL_law 939 = .ok (.aload_n 1, 1) := by decide +kernel
theorem dL_law_940 : decode cL_law 940 = .ok (.iload 12, 2) := by decide +kernel
theorem dL_law_942 : decode cL_law 942 = .ok (.iload 13, 2) := by decide +kernel
theorem dL_law_944 : decode cL_law 944 = .ok (.iload 17, 2) := by decide +kernel
theorem dL_law_946 : decode cL_law 946 = .ok (.iload 19, 2) := by decide +kernel
theorem dL_law_948 : decode cL_law 948 = .ok (.invokevirtual 85, 3) := by decide +kernel
theorem dL_law_951 : decode cL_law 951 = .ok (.iload 23, 2) := by decide +kernel
theorem dL_law_953 : decode cL_law 953 = .ok (.if_icmp .eq 5, 3) := by decide +kernel
theorem dL_law_956 : decode cL_law 956 = .ok (.iconst 0, 1) := by decide +kernel
theorem dL_law_957 : decode cL_law 957 = .ok (.ireturn, 1) := by decide +kernel
theorem dL_law_958 : decode cL_law 958 = .ok (.iinc 19 1, 3) := by decide +kernel
theorem dL_law_961 : decode cL_law 961 = .ok (.goto (-119), 3) := by decide +kernel
theorem dL_law_964 : decode cL_law 964 = .ok (.iload 18, 2) := by decide +kernel
theorem dL_law_966 : decode cL_law 966 = .ok (.iload 10, 2) := by decide +kernel
theorem dL_law_968 : decode cL_law 968 = .ok (.if_icmp .gt 8, 3) := by decide +kernel
theorem dL_law_971 : decode cL_law 971 = .ok (.iload 17, 2) := by decide +kernel
theorem dL_law_973 : decode cL_law 973 = .ok (.goto 5, 3) := by decide +kernel
theorem dL_law_976 : decode cL_law 976 = .ok (.iload 16, 2) := by decide +kernel
theorem dL_law_978 : decode cL_law 978 = .ok (.istore 16, 2) := by decide +kernel
theorem dL_law_980 : decode cL_law 980 = .ok (.iinc 17 (-1), 3) := by decide +kernel
theorem dL_law_983 : decode cL_law 983 = .ok (.goto (-152), 3) := by decide +kernel
theorem dL_law_986 : decode cL_law 986 = .ok (.aload_n 1, 1) := by decide +kernel
theorem dL_law_987 : decode cL_law 987 = .ok (.iload 12, 2) := by decide +kernel
theorem dL_law_989 : decode cL_law 989 = .ok (.iload 13, 2) := by decide +kernel
theorem dL_law_991 : decode cL_law 991 = .ok (.invokevirtual 88, 3) := by decide +kernel
theorem dL_law_994 : decode cL_law 994 = .ok (.iload 16, 2) := by decide +kernel
theorem dL_law_996 : decode cL_law 996 = .ok (.if_icmp .ne 44, 3) := by decide +kernel
theorem dL_law_999 : decode cL_law 999 = .ok (.aload_n 1, 1) := by decide +kernel
theorem dL_law_1000 : decode cL_law 1000 = .ok (.iload 12, 2) := by decide +kernel
theorem dL_law_1002 : decode cL_law 1002 = .ok (.iload 12, 2) := by decide +kernel
theorem dL_law_1004 : decode cL_law 1004 = .ok (.invokevirtual 88, 3) := by decide +kernel
theorem dL_law_1007 : decode cL_law 1007 = .ok (.iconst (-1), 1) := by decide +kernel
theorem dL_law_1008 : decode cL_law 1008 = .ok (.if_icmp .ne 32, 3) := by decide +kernel
theorem dL_law_1011 : decode cL_law 1011 = .ok (.aload_n 1, 1) := by decide +kernel
theorem dL_law_1012 : decode cL_law 1012 = .ok (.iload 12, 2) := by decide +kernel
theorem dL_law_1014 : decode cL_law 1014 = .ok (.iload 13, 2) := by decide +kernel
theorem dL_law_1016 : decode cL_law 1016 = .ok (.iconst (-1), 1) := by decide +kernel
theorem dL_law_1017 : decode cL_law 1017 = .ok (.iconst 0, 1) := by decide +kernel
theorem dL_law_1018 : decode cL_law 1018 = .ok (.invokevirtual 85, 3) := by decide +kernel
theorem dL_law_1021 : decode cL_law 1021 = .ok (.bipush (-2), 2) := by decide +kernel
theorem dL_law_1023 : decode cL_law 1023 = .ok (.if_icmp .ne 17, 3) := by decide +kernel
theorem dL_law_1026 : decode cL_law 1026 = .ok (.aload_n 1, 1) := by decide +kernel
theorem dL_law_1027 : decode cL_law 1027 = .ok (.iload 12, 2) := by decide +kernel
theorem dL_law_1029 : decode cL_law 1029 = .ok (.iload 5, 2) := by decide +kernel
theorem dL_law_1031 : decode cL_law 1031 = .ok (.iconst 0, 1) := by decide +kernel
theorem dL_law_1032 : decode cL_law 1032 = .ok (.iconst 0, 1) := by decide +kernel
theorem dL_law_1033 : decode cL_law 1033 = .ok (.invokevirtual 85, 3) := by decide +kernel
theorem dL_law_1036 : decode cL_law 1036 = .ok (.iconst (-1), 1) := by decide +kernel
theorem dL_law_1037 : decode cL_law 1037 = .ok (.if_icmp .eq 5, 3) := by decide +kernel
theorem dL_law_1040 : decode cL_law 1040 = .ok (.iconst 0, 1) := by decide +kernel
theorem dL_law_1041 : decode cL_law 1041 = .ok (.ireturn, 1) := by decide +kernel
theorem dL_law_1042 : decode cL_law 1042 = .ok (.iload 6, 2) := by decide +kernel
theorem dL_law_1044 : decode cL_law 1044 = .ok (.ifCond .ne 284, 3) := by decide +kernel
theorem dL_law_1047 : decode cL_law 1047 = .ok (.iconst (-1), 1) := by decide +kernel
theorem dL_law_1048 : decode cL_law 1048 = .ok (.istore 17, 2) := by decide +kernel
theorem dL_law_1050 : decode cL_law 1050 = .ok (.iconst 0, 1) := by decide +kernel
theorem dL_law_1051 : decode cL_law 1051 = .ok (.istore 18, 2) := by decide +kernel
theorem dL_law_1053 : decode cL_law 1053 = .ok (.bipush 80, 2) := by decide +kernel
theorem dL_law_1055 : decode cL_law 1055 = .ok (.istore 19, 2) := by decide +kernel
theorem dL_law_1057 : decode cL_law 1057 = .ok (.iload 19, 2) := by decide +kernel
theorem dL_law_1059 : decode cL_law 1059 = .ok (.ifCond .lt 188, 3) := by decide +kernel
theorem dL_law_1062 : decode cL_law 1062 = .ok (.bipush 99, 2) := by decide +kernel
theorem dL_law_1064 : decode cL_law 1064 = .ok (.istore 20, 2) := by decide +kernel
theorem dL_law_1066 : decode cL_law 1066 = .ok (.iload 20, 2) := by decide +kernel
theorem dL_law_1068 : decode cL_law 1068 = .ok (.ifCond .lt 173, 3) := by decide +kernel
theorem dL_law_1071 : decode cL_law 1071 = .ok (.iload 19, 2) := by decide +kernel
theorem dL_law_1073 : decode cL_law 1073 = .ok (.bipush 9, 2) := by decide +kernel
theorem dL_law_1075 : decode cL_law 1075 = .ok (.idiv, 1) := by decide +kernel
theorem dL_law_1076 : decode cL_law 1076 = .ok (.iload 19, 2) := by decide +kernel
theorem dL_law_1078 : decode cL_law 1078 = .ok (.bipush 9, 2) := by decide +kernel
theorem dL_law_1080 : decode cL_law 1080 = .ok (.irem, 1) := by decide +kernel
theorem dL_law_1081 : decode cL_law 1081 = .ok (.if_icmp .ge 160, 3) := by decide +kernel
theorem dL_law_1084 : decode cL_law 1084 = .ok (.sipush 9999, 3) := by decide +kernel
theorem dL_law_1087 : decode cL_law 1087 = .ok (.istore 21, 2) := by decide +kernel
theorem dL_law_1089 : decode cL_law 1089 = .ok (.iconst 0, 1) := by decide +kernel
theorem dL_law_1090 : decode cL_law 1090 = .ok (.istore 22, 2) := by decide +kernel
theorem dL_law_1092 : decode cL_law 1092 = .ok (.iload 22, 2) := by decide +kernel
theorem dL_law_1094 : decode cL_law 1094 = .ok (.iload 5, 2) := by decide +kernel
theorem dL_law_1096 : decode cL_law 1096 = .ok (.if_icmp .ge 101, 3) := by decide +kernel
theorem dL_law_1099 : decode cL_law 1099 = .ok (.iconst 0, 1) := by decide +kernel
theorem dL_law_1100 : decode cL_law 1100 = .ok (.istore 23, 2) := by decide +kernel
theorem dL_law_1102 : decode cL_law 1102 = .ok (.iconst 0, 1) := by decide +kernel
theorem dL_law_1103 : decode cL_law 1103 = .ok (.istore 24, 2) := by decide +kernel
theorem dL_law_1105 : decode cL_law 1105 = .ok (.iload 24, 2) := by decide +kernel
theorem dL_law_1107 : decode cL_law 1107 = .ok (.bipush 9, 2) := by decide +kernel
theorem dL_law_1109 : decode cL_law 1109 = .ok (.if_icmp .ge 66, 3) := by decide +kernel
theorem dL_law_1112 : decode cL_law 1112 = .ok (.iload 23, 2) := by decide +kernel
theorem dL_law_1114 : decode cL_law 1114 = .ok (.aload_n 3, 1) := by decide +kernel
theorem dL_law_1115 : decode cL_law 1115 = .ok (.aload 4, 2) := by decide +kernel
theorem dL_law_1117 : decode cL_law 1117 = .ok (.iload 22, 2) := by decide +kernel
theorem dL_law_1119 : decode cL_law 1119 = .ok (.iconst 1, 1) := by decide +kernel
theorem dL_law_1120 : decode cL_law 1120 = .ok (.iload 24, 2) := by decide +kernel
theorem dL_law_1122 : decode cL_law 1122 = .ok (.iadd, 1) := by decide +kernel
theorem dL_law_1123 : decode cL_law 1123 = .ok (.invokestatic 29, 3) := by decide +kernel
theorem dL_law_1126 : decode cL_law 1126 = .ok (.iload 24, 2) := by decide +kernel
theorem dL_law_1128 : decode cL_law 1128 = .ok (.iload 19, 2) := by decide +kernel
theorem dL_law_1130 : decode cL_law 1130 = .ok (.bipush 9, 2) := by decide +kernel
theorem dL_law_1132 : decode cL_law 1132 = .ok (.idiv, 1) := by decide +kernel
theorem dL_law_1133 : decode cL_law 1133 = .ok (.if_icmp .ne 11, 3) := by decide +kernel
theorem dL_law_1136 : decode cL_law 1136 = .ok (.iload 20, 2) := by decide +kernel
theorem dL_law_1138 : decode cL_law 1138 = .ok (.bipush 10, 2) := by decide +kernel
theorem dL_law_1140 : decode cL_law 1140 = .ok (.idiv, 1) := by decide +kernel
theorem dL_law_1141 : decode cL_law 1141 = .ok (.goto 22, 3) := by decide +kernel
theorem dL_law_1144 : decode cL_law 1144 = .ok (.iload 24, 2) := by decide +kernel
theorem dL_law_1146 : decode cL_law 1146 = .ok (.iload 19, 2) := by decide +kernel
theorem dL_law_1148 : decode cL_law 1148 = .ok (.bipush 9, 2) := by decide +kernel
theorem dL_law_1150 : decode cL_law 1150 = .ok (.irem, 1) := by decide +kernel
theorem dL_law_1151 : decode cL_law 1151 = .ok (.if_icmp .ne 11, 3) := by decide +kernel
theorem dL_law_1154 : decode cL_law 1154 = .ok (.iload 20, 2) := by decide +kernel
theorem dL_law_1156 : decode cL_law 1156 = .ok (.bipush 10, 2) := by decide +kernel
theorem dL_law_1158 : decode cL_law 1158 = .ok (.irem, 1) := by decide +kernel
theorem dL_law_1159 : decode cL_law 1159 = .ok (.goto 4, 3) := by decide +kernel
theorem dL_law_1162 : decode cL_law 1162 = .ok (.iconst 0, 1) := by decide +kernel
theorem dL_law_1163 : decode cL_law 1163 = .ok (.invokestatic 45, 3) := by decide +kernel
theorem dL_law_1166 : decode cL_law 1166 = .ok (.iadd, 1) := by decide +kernel
theorem dL_law_1167 : decode cL_law 1167 = .ok (.istore 23, 2) := by decide +kernel
theorem dL_law_1169 : decode cL_law 1169 = .ok (.iinc 24 1, 3) := by decide +kernel
theorem dL_law_1172 : decode cL_law 1172 = .ok (.goto (-67), 3) := by decide +kernel
theorem dL_law_1175 : decode cL_law 1175 = .ok (.iload 23, 2) := by decide +kernel
theorem dL_law_1177 : decode cL_law 1177 = .ok (.iload 21, 2) := by decide +kernel
theorem dL_law_1179 : decode cL_law 1179 = .ok (.if_icmp .ge 8, 3) := by decide +kernel
theorem dL_law_1182 : decode cL_law 1182 = .ok (.iload 23, 2) := by decide +kernel
theorem dL_law_1184 : decode cL_law 1184 = .ok (.goto 5, 3) := by decide +kernel
theorem dL_law_1187 : decode cL_law 1187 = .ok (.iload 21, 2) := by decide +kernel
theorem dL_law_1189 : decode cL_law 1189 = .ok (.istore 21, 2) := by decide +kernel
theorem dL_law_1191 : decode cL_law 1191 = .ok (.iinc 22 1, 3) := by decide +kernel
theorem dL_law_1194 : decode cL_law 1194 = .ok (.goto (-102), 3) := by decide +kernel
theorem dL_law_1197 : decode cL_law 1197 = .ok (.iload 21, 2) := by decide +kernel
theorem dL_law_1199 : decode cL_law 1199 = .ok (.iload 17, 2) := by decide +kernel
theorem dL_law_1201 : decode cL_law 1201 = .ok (.if_icmp .lt 14, 3) := by decide +kernel
theorem dL_law_1204 : decode cL_law 1204 = .ok (.bipush 100, 2) := by decide +kernel
theorem dL_law_1206 : decode cL_law 1206 = .ok (.iload 19, 2) := by decide +kernel
theorem dL_law_1208 : decode cL_law 1208 = .ok (.imul, 1) := by decide +kernel
theorem dL_law_1209 : decode cL_law 1209 = .ok (.iload 20, 2) := by decide +kernel
theorem dL_law_1211 : decode cL_law 1211 = .ok (.iadd, 1) := by decide +kernel
theorem dL_law_1212 : decode cL_law 1212 = .ok (.goto 5, 3) := by decide +kernel
theorem dL_law_1215 : decode cL_law 1215 = .ok (.iload 18, 2) := by decide +kernel
theorem dL_law_1217 : decode cL_law 1217 = .ok (.istore 18, 2) := by decide +kernel
theorem dL_law_1219 : decode cL_law 1219 = .ok (.iload 21, 2) := by decide +kernel
theorem dL_law_1221 : decode cL_law 1221 = .ok (.iload 17, 2) := by decide +kernel
theorem dL_law_1223 : decode cL_law 1223 = .ok (.if_icmp .le 8, 3) := by decide +kernel
theorem dL_law_1226 : decode cL_law 1226 = .ok (.iload 21, 2) := by decide +kernel
theorem dL_law_1228 : decode cL_law 1228 = .ok (.goto 5, 3) := by decide +kernel
theorem dL_law_1231 : decode cL_law 1231 = .ok (.iload 17, 2) := by decide +kernel
theorem dL_law_1233 : decode cL_law 1233 = .ok (.istore 17, 2) := by decide +kernel
theorem dL_law_1235 : decode cL_law 1235 = .ok (.iinc 20 (-1), 3) := by decide +kernel
theorem dL_law_1238 : decode cL_law 1238 = .ok (.goto (-172), 3) := by decide +kernel
theorem dL_law_1241 : decode cL_law 1241 = .ok (.iinc 19 (-1), 3) := by decide +kernel
theorem dL_law_1244 : decode cL_law 1244 = .ok (.goto (-187), 3) := by decide +kernel
theorem dL_law_1247 : decode cL_law 1247 = .ok (.aload_n 1, 1) := by decide +kernel
theorem dL_law_1248 : decode cL_law 1248 = .ok (.iconst 0, 1) := by decide +kernel
theorem dL_law_1249 : decode cL_law 1249 = .ok (.invokevirtual 91, 3) := by decide +kernel
theorem dL_law_1252 : decode cL_law 1252 = .ok (.iload 17, 2) := by decide +kernel
theorem dL_law_1254 : decode cL_law 1254 = .ok (.if_icmp .ne 72, 3) := by decide +kernel
theorem dL_law_1257 : decode cL_law 1257 = .ok (.aload_n 1, 1) := by decide +kernel
theorem dL_law_1258 : decode cL_law 1258 = .ok (.iconst 1, 1) := by decide +kernel
theorem dL_law_1259 : decode cL_law 1259 = .ok (.invokevirtual 91, 3) := by decide +kernel
theorem dL_law_1262 : decode cL_law 1262 = .ok (.iload 18, 2) := by decide +kernel
theorem dL_law_1264 : decode cL_law 1264 = .ok (.sipush 900, 3) := by decide +kernel
theorem dL_law_1267 : decode cL_law 1267 = .ok (.idiv, 1) := by decide +kernel
theorem dL_law_1268 : decode cL_law 1268 = .ok (.if_icmp .ne 58, 3) := by decide +kernel
theorem dL_law_1271 : decode cL_law 1271 = .ok (.aload_n 1, 1) := by decide +kernel
theorem dL_law_1272 : decode cL_law 1272 = .ok (.iconst 2, 1) := by decide +kernel
theorem dL_law_1273 : decode cL_law 1273 = .ok (.invokevirtual 91, 3) := by decide +kernel
theorem dL_law_1276 : decode cL_law 1276 = .ok (.iload 18, 2) := by decide +kernel
theorem dL_law_1278 : decode cL_law 1278 = .ok (.bipush 100, 2) := by decide +kernel
theorem dL_law_1280 : decode cL_law 1280 = .ok (.idiv, 1) := by decide +kernel
theorem dL_law_1281 : decode cL_law 1281 = .ok (.bipush 9, 2) := by decide +kernel
theorem dL_law_1283 : decode cL_law 1283 = .ok (.irem, 1) := by decide +kernel
theorem dL_law_1284 : decode cL_law 1284 = .ok (.if_icmp .ne 42, 3) := by decide +kernel
theorem dL_law_1287 : decode cL_law 1287 = .ok (.aload_n 1, 1) := by decide +kernel
theorem dL_law_1288 : decode cL_law 1288 = .ok (.iconst 3, 1) := by decide +kernel
theorem dL_law_1289 : decode cL_law 1289 = .ok (.invokevirtual 91, 3) := by decide +kernel
theorem dL_law_1292 : decode cL_law 1292 = .ok (.iload 18, 2) := by decide +kernel
theorem dL_law_1294 : decode cL_law 1294 = .ok (.bipush 10, 2) := by decide +kernel
theorem dL_law_1296 : decode cL_law 1296 = .ok (.idiv, 1) := by decide +kernel
theorem dL_law_1297 : decode cL_law 1297 = .ok (.bipush 10, 2) := by decide +kernel
theorem dL_law_1299 : decode cL_law 1299 = .ok (.irem, 1) := by decide +kernel
theorem dL_law_1300 : decode cL_law 1300 = .ok (.if_icmp .ne 26, 3) := by decide +kernel
theorem dL_law_1303 : decode cL_law 1303 = .ok (.aload_n 1, 1) := by decide +kernel
theorem dL_law_1304 : decode cL_law 1304 = .ok (.iconst 4, 1) := by decide +kernel
theorem dL_law_1305 : decode cL_law 1305 = .ok (.invokevirtual 91, 3) := by decide +kernel
theorem dL_law_1308 : decode cL_law 1308 = .ok (.iload 18, 2) := by decide +kernel
theorem dL_law_1310 : decode cL_law 1310 = .ok (.bipush 10, 2) := by decide +kernel
theorem dL_law_1312 : decode cL_law 1312 = .ok (.irem, 1) := by decide +kernel
theorem dL_law_1313 : decode cL_law 1313 = .ok (.if_icmp .ne 13, 3) := by decide +kernel
theorem dL_law_1316 : decode cL_law 1316 = .ok (.aload_n 1, 1) := by decide +kernel
theorem dL_law_1317 : decode cL_law 1317 = .ok (.iconst (-1), 1) := by decide +kernel
theorem dL_law_1318 : decode cL_law 1318 = .ok (.invokevirtual 91, 3) := by decide +kernel
theorem dL_law_1321 : decode cL_law 1321 = .ok (.bipush (-2), 2) := by decide +kernel
theorem dL_law_1323 : decode cL_law 1323 = .ok (.if_icmp .eq 5, 3) := by decide +kernel
theorem dL_law_1326 : decode cL_law 1326 = .ok (.iconst 0, 1) := by decide +kernel
theorem dL_law_1327 : decode cL_law 1327 = .ok (.ireturn, 1) := by decide +kernel
theorem dL_law_1328 : decode cL_law 1328 = .ok (.aload_n 0, 1) := by decide +kernel
theorem dL_law_1329 : decode cL_law 1329 = .ok (.bipush 18, 2) := by decide +kernel
theorem dL_law_1331 : decode cL_law 1331 = .ok (.iload 6, 2) := by decide +kernel
theorem dL_law_1333 : decode cL_law 1333 = .ok (.iadd, 1) := by decide +kernel
theorem dL_law_1334 : decode cL_law 1334 = .ok (.invokestatic 9, 3) := by decide +kernel
theorem dL_law_1337 : decode cL_law 1337 = .ok (.istore 17, 2) := by decide +kernel
theorem dL_law_1339 : decode cL_law 1339 = .ok (.iload 17, 2) := by decide +kernel
theorem dL_law_1341 : decode cL_law 1341 = .ok (.iload 5, 2) := by decide +kernel
theorem dL_law_1343 : decode cL_law 1343 = .ok (.invokestatic 15, 3) := by decide +kernel
theorem dL_law_1346 : decode cL_law 1346 = .ok (.istore 18, 2) := by decide +kernel
theorem dL_law_1348 : decode cL_law 1348 = .ok (.iload 17, 2) := by decide +kernel
theorem dL_law_1350 : decode cL_law 1350 = .ok (.iconst 3, 1) := by decide +kernel
theorem dL_law_1351 : decode cL_law 1351 = .ok (.ishr, 1) := by decide +kernel
theorem dL_law_1352 : decode cL_law 1352 = .ok (.bipush 10, 2) := by decide +kernel
theorem dL_law_1354 : decode cL_law 1354 = .ok (.invokestatic 15, 3) := by decide +kernel
theorem dL_law_1357 : decode cL_law 1357 = .ok (.istore 19, 2) := by decide +kernel
theorem dL_law_1359 : decode cL_law 1359 = .ok (.iload 17, 2) := by decide +kernel
theorem dL_law_1361 : decode cL_law 1361 = .ok (.bipush 7, 2) := by decide +kernel
theorem dL_law_1363 : decode cL_law 1363 = .ok (.ishr, 1) := by decide +kernel
theorem dL_law_1364 : decode cL_law 1364 = .ok (.iconst 4, 1) := by decide +kernel
theorem dL_law_1365 : decode cL_law 1365 = .ok (.invokestatic 15, 3) := by decide +kernel
theorem dL_law_1368 : decode cL_law 1368 = .ok (.istore 20, 2) := by decide +kernel
theorem dL_law_1370 : decode cL_law 1370 = .ok (.bipush 9, 2) := by decide +kernel
theorem dL_law_1372 : decode cL_law 1372 = .ok (.newarray .int, 2) := by decide +kernel
theorem dL_law_1374 : decode cL_law 1374 = .ok (.astore 21, 2) := by decide +kernel
theorem dL_law_1376 : decode cL_law 1376 = .ok (.iconst 0, 1) := by decide +kernel
theorem dL_law_1377 : decode cL_law 1377 = .ok (.istore 22, 2) := by decide +kernel
theorem dL_law_1379 : decode cL_law 1379 = .ok (.iload 22, 2) := by decide +kernel
theorem dL_law_1381 : decode cL_law 1381 = .ok (.bipush 9, 2) := by decide +kernel
theorem dL_law_1383 : decode cL_law 1383 = .ok (.if_icmp .ge 87, 3) := by decide +kernel
theorem dL_law_1386 : decode cL_law 1386 = .ok (.aload_n 2, 1) := by decide +kernel
theorem dL_law_1387 : decode cL_law 1387 = .ok (.aload_n 3, 1) := by decide +kernel
theorem dL_law_1388 : decode cL_law 1388 = .ok (.aload 4, 2) := by decide +kernel
theorem dL_law_1390 : decode cL_law 1390 = .ok (.iload 18, 2) := by decide +kernel
theorem dL_law_1392 : decode cL_law 1392 = .ok (.iconst 0, 1) := by decide +kernel
theorem dL_law_1393 : decode cL_law 1393 = .ok (.invokestatic 29, 3) := by decide +kernel
theorem dL_law_1396 : decode cL_law 1396 = .ok (.iload 22, 2) := by decide +kernel
theorem dL_law_1398 : decode cL_law 1398 = .ok (.bipush 8, 2) := by decide +kernel
theorem dL_law_1400 : decode cL_law 1400 = .ok (.aload_n 3, 1) := by decide +kernel
theorem dL_law_1401 : decode cL_law 1401 = .ok (.aload 4, 2) := by decide +kernel
theorem dL_law_1403 : decode cL_law 1403 = .ok (.iload 18, 2) := by decide +kernel
theorem dL_law_1405 : decode cL_law 1405 = .ok (.iconst 1, 1) := by decide +kernel
theorem dL_law_1406 : decode cL_law 1406 = .ok (.iload 22, 2) := by decide +kernel
theorem dL_law_1408 : decode cL_law 1408 = .ok (.iadd, 1) := by decide +kernel
theorem dL_law_1409 : decode cL_law 1409 = .ok (.invokestatic 29, 3) := by decide +kernel
theorem dL_law_1412 : decode cL_law 1412 = .ok (.imul, 1) := by decide +kernel
theorem dL_law_1413 : decode cL_law 1413 = .ok (.iload 19, 2) := by decide +kernel
theorem dL_law_1415 : decode cL_law 1415 = .ok (.iload 19, 2) := by decide +kernel
theorem dL_law_1417 : decode cL_law 1417 = .ok (.iload 20, 2) := by decide +kernel
theorem dL_law_1419 : decode cL_law 1419 = .ok (.imul, 1) := by decide +kernel
theorem dL_law_1420 : decode cL_law 1420 = .ok (.iadd, 1) := by decide +kernel
theorem dL_law_1421 : decode cL_law 1421 = .ok (.invokestatic 37, 3) := by decide +kernel
theorem dL_law_1424 : decode cL_law 1424 = .ok (.iload 17, 2) := by decide +kernel
theorem dL_law_1426 : decode cL_law 1426 = .ok (.bipush 9, 2) := by decide +kernel
theorem dL_law_1428 : decode cL_law 1428 = .ok (.iload 22, 2) := by decide +kernel
theorem dL_law_1430 : decode cL_law 1430 = .ok (.iadd, 1) := by decide +kernel
theorem dL_law_1431 : decode cL_law 1431 = .ok (.ishr, 1) := by decide +kernel
theorem dL_law_1432 : decode cL_law 1432 = .ok (.iconst 3, 1) := by decide +kernel
theorem dL_law_1433 : decode cL_law 1433 = .ok (.invokestatic 15, 3) := by decide +kernel
theorem dL_law_1436 : decode cL_law 1436 = .ok (.iadd, 1) := by decide +kernel
theorem dL_law_1437 : decode cL_law 1437 = .ok (.istore 23, 2) := by decide +kernel
theorem dL_law_1439 : decode cL_law 1439 = .ok (.aload 21, 2) := by decide +kernel
theorem dL_law_1441 : decode cL_law 1441 = .ok (.iload 22, 2) := by decide +kernel
theorem dL_law_1443 : decode cL_law 1443 = .ok (.iload 23, 2) := by decide +kernel
theorem dL_law_1445 : decode cL_law 1445 = .ok (.iastore, 1) := by decide +kernel
theorem dL_law_1446 : decode cL_law 1446 = .ok (.aload_n 1, 1) := by decide +kernel
theorem dL_law_1447 : decode cL_law 1447 = .ok (.iconst 1, 1) := by decide +kernel
theorem dL_law_1448 : decode cL_law 1448 = .ok (.bipush 10, 2) := by decide +kernel
theorem dL_law_1450 : decode cL_law 1450 = .ok (.iload 22, 2) := by decide +kernel
theorem dL_law_1452 : decode cL_law 1452 = .ok (.iadd, 1) := by decide +kernel
theorem dL_law_1453 : decode cL_law 1453 = .ok (.iload 23, 2) := by decide +kernel
theorem dL_law_1455 : decode cL_law 1455 = .ok (.invokevirtual 19, 3) := by decide +kernel
theorem dL_law_1458 : decode cL_law 1458 = .ok (.iconst 1, 1) := by decide +kernel
theorem dL_law_1459 : decode cL_law 1459 = .ok (.if_icmp .eq 5, 3) := by decide +kernel
theorem dL_law_1462 : decode cL_law 1462 = .ok (.iconst 0, 1) := by decide +kernel
theorem dL_law_1463 : decode cL_law 1463 = .ok (.ireturn, 1) := by decide +kernel
theorem dL_law_1464 : decode cL_law 1464 = .ok (.iinc 22 1, 3) := by decide +kernel
theorem dL_law_1467 : decode cL_law 1467 = .ok (.goto (-88), 3) := by decide +kernel
theorem dL_law_1470 : decode cL_law 1470 = .ok (.iconst 0, 1) := by decide +kernel
theorem dL_law_1471 : decode cL_law 1471 = .ok (.istore 22, 2) := by decide +kernel
theorem dL_law_1473 : decode cL_law 1473 = .ok (.bipush 8, 2) := by decide +kernel
theorem dL_law_1475 : decode cL_law 1475 = .ok (.newarray .int, 2) := by decide +kernel
theorem dL_law_1477 : decode cL_law 1477 = .ok (.astore 23, 2) := by decide +kernel
theorem dL_law_1479 : decode cL_law 1479 = .ok (.iconst 0, 1) := by decide +kernel
theorem dL_law_1480 : decode cL_law 1480 = .ok (.istore 24, 2) := by decide +kernel
theorem dL_law_1482 : decode cL_law 1482 = .ok (.iload 24, 2) := by decide +kernel
theorem dL_law_1484 : decode cL_law 1484 = .ok (.iload 5, 2) := by decide +kernel
theorem dL_law_1486 : decode cL_law 1486 = .ok (.if_icmp .ge 124, 3) := by decide +kernel
theorem dL_law_1489 : decode cL_law 1489 = .ok (.iconst 0, 1) := by decide +kernel
theorem dL_law_1490 : decode cL_law 1490 = .ok (.istore 25, 2) := by decide +kernel
theorem dL_law_1492 : decode cL_law 1492 = .ok (.iload 25, 2) := by decide +kernel
theorem dL_law_1494 : decode cL_law 1494 = .ok (.bipush 10, 2) := by decide +kernel
theorem dL_law_1496 : decode cL_law 1496 = .ok (.if_icmp .ge 98, 3) := by decide +kernel
theorem dL_law_1499 : decode cL_law 1499 = .ok (.iconst 0, 1) := by decide +kernel
theorem dL_law_1500 : decode cL_law 1500 = .ok (.istore 26, 2) := by decide +kernel
theorem dL_law_1502 : decode cL_law 1502 = .ok (.iconst 0, 1) := by decide +kernel
theorem dL_law_1503 : decode cL_law 1503 = .ok (.istore 27, 2) := by decide +kernel
theorem dL_law_1505 : decode cL_law 1505 = .ok (.iload 27, 2) := by decide +kernel
theorem dL_law_1507 : decode cL_law 1507 = .ok (.bipush 9, 2) := by decide +kernel
theorem dL_law_1509 : decode cL_law 1509 = .ok (.if_icmp .ge 59, 3) := by decide +kernel
theorem dL_law_1512 : decode cL_law 1512 = .ok (.iload 26, 2) := by decide +kernel
theorem dL_law_1514 : decode cL_law 1514 = .ok (.aload_n 2, 1) := by decide +kernel
theorem dL_law_1515 : decode cL_law 1515 = .ok (.aload_n 3, 1) := by decide +kernel
theorem dL_law_1516 : decode cL_law 1516 = .ok (.aload 4, 2) := by decide +kernel
theorem dL_law_1518 : decode cL_law 1518 = .ok (.iload 24, 2) := by decide +kernel
theorem dL_law_1520 : decode cL_law 1520 = .ok (.iconst 0, 1) := by decide +kernel
theorem dL_law_1521 : decode cL_law 1521 = .ok (.invokestatic 29, 3) := by decide +kernel
theorem dL_law_1524 : decode cL_law 1524 = .ok (.iload 27, 2) := by decide +kernel
theorem dL_law_1526 : decode cL_law 1526 = .ok (.bipush 8, 2) := by decide +kernel
theorem dL_law_1528 : decode cL_law 1528 = .ok (.aload_n 3, 1) := by decide +kernel
theorem dL_law_1529 : decode cL_law 1529 = .ok (.aload 4, 2) := by decide +kernel
theorem dL_law_1531 : decode cL_law 1531 = .ok (.iload 24, 2) := by decide +kernel
theorem dL_law_1533 : decode cL_law 1533 = .ok (.iconst 1, 1) := by decide +kernel
theorem dL_law_1534 : decode cL_law 1534 = .ok (.iload 27, 2) := by decide +kernel
theorem dL_law_1536 : decode cL_law 1536 = .ok (.iadd, 1) := by decide +kernel
theorem dL_law_1537 : decode cL_law 1537 = .ok (.invokestatic 29, 3) := by decide +kernel
theorem dL_law_1540 : decode cL_law 1540 = .ok (.imul, 1) := by decide +kernel
theorem dL_law_1541 : decode cL_law 1541 = .ok (.iload 25, 2) := by decide +kernel
theorem dL_law_1543 : decode cL_law 1543 = .ok (.iconst 1, 1) := by decide +kernel
theorem dL_law_1544 : decode cL_law 1544 = .ok (.iload 20, 2) := by decide +kernel
theorem dL_law_1546 : decode cL_law 1546 = .ok (.iadd, 1) := by decide +kernel
theorem dL_law_1547 : decode cL_law 1547 = .ok (.imul, 1) := by decide +kernel
theorem dL_law_1548 : decode cL_law 1548 = .ok (.invokestatic 37, 3) := by decide +kernel
theorem dL_law_1551 : decode cL_law 1551 = .ok (.aload 21, 2) := by decide +kernel
theorem dL_law_1553 : decode cL_law 1553 = .ok (.iload 27, 2) := by decide +kernel
theorem dL_law_1555 : decode cL_law 1555 = .ok (.iaload, 1) := by decide +kernel
theorem dL_law_1556 : decode cL_law 1556 = .ok (.invokestatic 45, 3) := by decide +kernel
theorem dL_law_1559 : decode cL_law 1559 = .ok (.iadd, 1) := by decide +kernel
theorem dL_law_1560 : decode cL_law 1560 = .ok (.istore 26, 2) := by decide +kernel
theorem dL_law_1562 : decode cL_law 1562 = .ok (.iinc 27 1, 3) := by decide +kernel
theorem dL_law_1565 : decode cL_law 1565 = .ok (.goto (-60), 3) := by decide +kernel
theorem dL_law_1568 : decode cL_law 1568 = .ok (.aload 23, 2) := by decide +kernel
theorem dL_law_1570 : decode cL_law 1570 = .ok (.iload 24, 2) := by decide +kernel
theorem dL_law_1572 : decode cL_law 1572 = .ok (.dup2, 1) := by decide +kernel
theorem dL_law_1573 : decode cL_law 1573 = .ok (.iaload, 1) := by decide +kernel
theorem dL_law_1574 : decode cL_law 1574 = .ok (.iload 26, 2) := by decide +kernel
theorem dL_law_1576 : decode cL_law 1576 = .ok (.iload 10, 2) := by decide +kernel
theorem dL_law_1578 : decode cL_law 1578 = .ok (.if_icmp .gt 7, 3) := by decide +kernel
theorem dL_law_1581 : decode cL_law 1581 = .ok (.iconst 1, 1) := by decide +kernel
theorem dL_law_1582 : decode cL_law 1582 = .ok (.goto 4, 3) := by decide +kernel
theorem dL_law_1585 : decode cL_law 1585 = .ok (.iconst 0, 1) := by decide +kernel
theorem dL_law_1586 : decode cL_law 1586 = .ok (.iadd, 1) := by decide +kernel
theorem dL_law_1587 : decode cL_law 1587 = .ok (.iastore, 1) := by decide +kernel
theorem dL_law_1588 : decode cL_law 1588 = .ok (.iinc 25 1, 3) := by decide +kernel
theorem dL_law_1591 : decode cL_law 1591 = .ok (.goto (-99), 3) := by decide +kernel
theorem dL_law_1594 : decode cL_law 1594 = .ok (.iload 22, 2) := by decide +kernel
theorem dL_law_1596 : decode cL_law 1596 = .ok (.aload 23, 2) := by decide +kernel
theorem dL_law_1598 : decode cL_law 1598 = .ok (.iload 24, 2) := by decide +kernel
theorem dL_law_1600 : decode cL_law 1600 = .ok (.iaload, 1) := by decide +kernel
theorem dL_law_1601 : decode cL_law 1601 = .ok (.iadd, 1) := by decide +kernel
theorem dL_law_1602 : decode cL_law 1602 = .ok (.istore 22, 2) := by decide +kernel
theorem dL_law_1604 : decode cL_law 1604 = .ok (.iinc 24 1, 3) := by decide +kernel
theorem dL_law_1607 : decode cL_law 1607 = .ok (.goto (-125), 3) := by decide +kernel
theorem dL_law_1610 : decode cL_law 1610 = .ok (.bipush (-9), 2) := by decide +kernel
theorem dL_law_1612 : decode cL_law 1612 = .ok (.istore 24, 2) := by decide +kernel
theorem dL_law_1614 : decode cL_law 1614 = .ok (.iload 5, 2) := by decide +kernel
theorem dL_law_1616 : decode cL_law 1616 = .ok (.iconst 1, 1) := by decide +kernel
theorem dL_law_1617 : decode cL_law 1617 = .ok (.isub, 1) := by decide +kernel
theorem dL_law_1618 : decode cL_law 1618 = .ok (.istore 25, 2) := by decide +kernel
theorem dL_law_1620 : decode cL_law 1620 = .ok (.iload 25, 2) := by decide +kernel
theorem dL_law_1622 : decode cL_law 1622 = .ok (.ifCond .lt 130, 3) := by decide +kernel
theorem dL_law_1625 : decode cL_law 1625 = .ok (.aload 23, 2) := by decide +kernel
theorem dL_law_1627 : decode cL_law 1627 = .ok (.iload 25, 2) := by decide +kernel
theorem dL_law_1629 : decode cL_law 1629 = .ok (.iaload, 1) := by decide +kernel
theorem dL_law_1630 : decode cL_law 1630 = .ok (.ifCond .le 26, 3) := by decide +kernel
theorem dL_law_1633 : decode cL_law 1633 = .ok (.iload 24, 2) := by decide +kernel
theorem dL_law_1635 : decode cL_law 1635 = .ok (.ifCond .lt 16, 3) := by decide +kernel
theorem dL_law_1638 : decode cL_law 1638 = .ok (.aload 23, 2) := by decide +kernel
theorem dL_law_1640 : decode cL_law 1640 = .ok (.iload 25, 2) := by decide +kernel
theorem dL_law_1642 : decode cL_law 1642 = .ok (.iaload, 1) := by decide +kernel
theorem dL_law_1643 : decode cL_law 1643 = .ok (.aload 23, 2) := by decide +kernel
theorem dL_law_1645 : decode cL_law 1645 = .ok (.iload 24, 2) := by decide +kernel
theorem dL_law_1647 : decode cL_law 1647 = .ok (.iaload, 1) := by decide +kernel
theorem dL_law_1648 : decode cL_law 1648 = .ok (.if_icmp .lt 8, 3) := by decide +kernel
theorem dL_law_1651 : decode cL_law 1651 = .ok (.iload 25, 2) := by decide +kernel
theorem dL_law_1653 : decode cL_law 1653 = .ok (.goto 5, 3) := by decide +kernel
theorem dL_law_1656 : decode cL_law 1656 = .ok (.iload 24, 2) := by decide +kernel
theorem dL_law_1658 : decode cL_law 1658 = .ok (.istore 24, 2) := by decide +kernel
theorem dL_law_1660 : decode cL_law 1660 = .ok (.aload_n 1, 1) := by decide +kernel
theorem dL_law_1661 : decode cL_law 1661 = .ok (.iload 25, 2) := by decide +kernel
theorem dL_law_1663 : decode cL_law 1663 = .ok (.iload 20, 2) := by decide +kernel
theorem dL_law_1665 : decode cL_law 1665 = .ok (.iconst 1, 1) := by decide +kernel
theorem dL_law_1666 : decode cL_law 1666 = .ok (.iconst 1, 1) := by decide +kernel
theorem dL_law_1667 : decode cL_law 1667 = .ok (.bipush 10, 2) := by decide +kernel
theorem dL_law_1669 : decode cL_law 1669 = .ok (.iconst 0, 1) := by decide +kernel
theorem dL_law_1670 : decode cL_law 1670 = .ok (.invokevirtual 94, 3) := by decide +kernel
theorem dL_law_1673 : decode cL_law 1673 = .ok (.lstore 26, 2) := by decide +kernel
theorem dL_law_1675 : decode cL_law 1675 = .ok (.aload_n 1, 1) := by decide +kernel
theorem dL_law_1676 : decode cL_law 1676 = .ok (.iload 25, 2) := by decide +kernel
theorem dL_law_1678 : decode cL_law 1678 = .ok (.iload 20, 2) := by decide +kernel
theorem dL_law_1680 : decode cL_law 1680 = .ok (.iconst 1, 1) := by decide +kernel
theorem dL_law_1681 : decode cL_law 1681 = .ok (.iconst 1, 1) := by decide +kernel
theorem dL_law_1682 : decode cL_law 1682 = .ok (.bipush 10, 2) := by decide +kernel
theorem dL_law_1684 : decode cL_law 1684 = .ok (.iconst 1, 1) := by decide +kernel
theorem dL_law_1685 : decode cL_law 1685 = .ok (.invokevirtual 94, 3) := by decide +kernel
theorem dL_law_1688 : decode cL_law 1688 = .ok (.lstore 28, 2) := by decide +kernel
theorem dL_law_1690 : decode cL_law 1690 = .ok (.iload 22, 2) := by decide +kernel
theorem dL_law_1692 : decode cL_law 1692 = .ok (.ifCond .ne 15, 3) := by decide +kernel
theorem dL_law_1695 : decode cL_law 1695 = .ok (.lload 26, 2) := by decide +kernel
theorem dL_law_1697 : decode cL_law 1697 = .ok (.ldc2_w 98, 3) := by decide +kernel
theorem dL_law_1700 : decode cL_law 1700 = .ok (.lcmp, 1) := by decide +kernel
theorem dL_law_1701 : decode cL_law 1701 = .ok (.ifCond .eq 45, 3) := by decide +kernel
theorem dL_law_1704 : decode cL_law 1704 = .ok (.goto 40, 3) := by decide +kernel
theorem dL_law_1707 : decode cL_law 1707 = .ok (.lload 28, 2) := by decide +kernel
theorem dL_law_1709 : decode cL_law 1709 = .ok (.lconst 1, 1) := by decide +kernel
theorem dL_law_1710 : decode cL_law 1710 = .ok (.lcmp, 1) := by decide +kernel
theorem dL_law_1711 : decode cL_law 1711 = .ok (.ifCond .lt 33, 3) := by decide +kernel
theorem dL_law_1714 : decode cL_law 1714 = .ok (.iload 22, 2) := by decide +kernel
theorem dL_law_1716 : decode cL_law 1716 = .ok (.i2l, 1) := by decide +kernel
theorem dL_law_1717 : decode cL_law 1717 = .ok (.lload 28, 2) := by decide +kernel
theorem dL_law_1719 : decode cL_law 1719 = .ok (.lrem, 1) := by decide +kernel
theorem dL_law_1720 : decode cL_law 1720 = .ok (.lconst 0, 1) := by decide +kernel
theorem dL_law_1721 : decode cL_law 1721 = .ok (.lcmp, 1) := by decide +kernel
theorem dL_law_1722 : decode cL_law 1722 = .ok (.ifCond .ne 22, 3) := by decide +kernel
theorem dL_law_1725 : decode cL_law 1725 = .ok (.lload 26, 2) := by decide +kernel
theorem dL_law_1727 : decode cL_law 1727 = .ok (.iload 22, 2) := by decide +kernel
theorem dL_law_1729 : decode cL_law 1729 = .ok (.i2l, 1) := by decide +kernel
theorem dL_law_1730 : decode cL_law 1730 = .ok (.lload 28, 2) := by decide +kernel
theorem dL_law_1732 : decode cL_law 1732 = .ok (.ldiv, 1) := by decide +kernel
theorem dL_law_1733 : decode cL_law 1733 = .ok (.lmul, 1) := by decide +kernel
theorem dL_law_1734 : decode cL_law 1734 = .ok (.aload 23, 2) := by decide +kernel
theorem dL_law_1736 : decode cL_law 1736 = .ok (.iload 25, 2) := by decide +kernel
theorem dL_law_1738 : decode cL_law 1738 = .ok (.iaload, 1) := by decide +kernel
theorem dL_law_1739 : decode cL_law 1739 = .ok (.i2l, 1) := by decide +kernel
theorem dL_law_1740 : decode cL_law 1740 = .ok (.lcmp, 1) := by decide +kernel
theorem dL_law_1741 : decode cL_law 1741 = .ok (.ifCond .eq 5, 3) := by decide +kernel
theorem dL_law_1744 : decode cL_law 1744 = .ok (.iconst 0, 1) := by decide +kernel
theorem dL_law_1745 : decode cL_law 1745 = .ok (.ireturn, 1) := by decide +kernel
theorem dL_law_1746 : decode cL_law 1746 = .ok (.iinc 25 (-1), 3) := by decide +kernel
theorem dL_law_1749 : decode cL_law 1749 = .ok (.goto (-129), 3) := by decide +kernel
theorem dL_law_1752 : decode cL_law 1752 = .ok (.aload_n 1, 1) := by decide +kernel
theorem dL_law_1753 : decode cL_law 1753 = .ok (.iload 20, 2) := by decide +kernel
theorem dL_law_1755 : decode cL_law 1755 = .ok (.iconst 1, 1) := by decide +kernel
theorem dL_law_1756 : decode cL_law 1756 = .ok (.iconst 1, 1) := by decide +kernel
theorem dL_law_1757 : decode cL_law 1757 = .ok (.bipush 10, 2) := by decide +kernel
theorem dL_law_1759 : decode cL_law 1759 = .ok (.invokevirtual 100, 3) := by decide +kernel
theorem dL_law_1762 : decode cL_law 1762 = .ok (.iload 24, 2) := by decide +kernel
theorem dL_law_1764 : decode cL_law 1764 = .ok (.if_icmp .ne 128, 3) := by decide +kernel
theorem dL_law_1767 : decode cL_law 1767 = .ok (.aload_n 1, 1) := by decide +kernel
theorem dL_law_1768 : decode cL_law 1768 = .ok (.iconst 4, 1) := by decide +kernel
theorem dL_law_1769 : decode cL_law 1769 = .ok (.iconst 1, 1) := by decide +kernel
theorem dL_law_1770 : decode cL_law 1770 = .ok (.iconst 1, 1) := by decide +kernel
theorem dL_law_1771 : decode cL_law 1771 = .ok (.bipush 10, 2) := by decide +kernel
theorem dL_law_1773 : decode cL_law 1773 = .ok (.invokevirtual 100, 3) := by decide +kernel
theorem dL_law_1776 : decode cL_law 1776 = .ok (.bipush (-2), 2) := by decide +kernel
theorem dL_law_1778 : decode cL_law 1778 = .ok (.if_icmp .ne 114, 3) := by decide +kernel
theorem dL_law_1781 : decode cL_law 1781 = .ok (.aload_n 1, 1) := by decide +kernel
theorem dL_law_1782 : decode cL_law 1782 = .ok (.iload 20, 2) := by decide +kernel
theorem dL_law_1784 : decode cL_law 1784 = .ok (.iconst 1, 1) := by decide +kernel
theorem dL_law_1785 : decode cL_law 1785 = .ok (.iconst 1, 1) := by decide +kernel
theorem dL_law_1786 : decode cL_law 1786 = .ok (.bipush 16, 2) := by decide +kernel
theorem dL_law_1788 : decode cL_law 1788 = .ok (.invokevirtual 100, 3) := by decide +kernel
theorem dL_law_1791 : decode cL_law 1791 = .ok (.bipush (-13), 2) := by decide +kernel
theorem dL_law_1793 : decode cL_law 1793 = .ok (.if_icmp .ne 99, 3) := by decide +kernel
theorem dL_law_1796 : decode cL_law 1796 = .ok (.aload_n 1, 1) := by decide +kernel
theorem dL_law_1797 : decode cL_law 1797 = .ok (.iload 20, 2) := by decide +kernel
theorem dL_law_1799 : decode cL_law 1799 = .ok (.iconst 1, 1) := by decide +kernel
theorem dL_law_1800 : decode cL_law 1800 = .ok (.iconst 0, 1) := by decide +kernel
theorem dL_law_1801 : decode cL_law 1801 = .ok (.bipush 10, 2) := by decide +kernel
theorem dL_law_1803 : decode cL_law 1803 = .ok (.invokevirtual 100, 3) := by decide +kernel
theorem dL_law_1806 : decode cL_law 1806 = .ok (.bipush (-12), 2) := by decide +kernel
theorem dL_law_1808 : decode cL_law 1808 = .ok (.if_icmp .ne 84, 3) := by decide +kernel
theorem dL_law_1811 : decode cL_law 1811 = .ok (.aload_n 1, 1) := by decide +kernel
theorem dL_law_1812 : decode cL_law 1812 = .ok (.iload 5, 2) := by decide +kernel
theorem dL_law_1814 : decode cL_law 1814 = .ok (.iload 20, 2) := by decide +kernel
theorem dL_law_1816 : decode cL_law 1816 = .ok (.iconst 1, 1) := by decide +kernel
theorem dL_law_1817 : decode cL_law 1817 = .ok (.iconst 1, 1) := by decide +kernel
theorem dL_law_1818 : decode cL_law 1818 = .ok (.bipush 10, 2) := by decide +kernel
theorem dL_law_1820 : decode cL_law 1820 = .ok (.iconst 0, 1) := by decide +kernel
theorem dL_law_1821 : decode cL_law 1821 = .ok (.invokevirtual 94, 3) := by decide +kernel
theorem dL_law_1824 : decode cL_law 1824 = .ok (.ldc2_w 98, 3) := by decide +kernel
theorem dL_law_1827 : decode cL_law 1827 = .ok (.lcmp, 1) := by decide +kernel
theorem dL_law_1828 : decode cL_law 1828 = .ok (.ifCond .ne 64, 3) := by decide +kernel
theorem dL_law_1831 : decode cL_law 1831 = .ok (.aload_n 1, 1) := by decide +kernel
theorem dL_law_1832 : decode cL_law 1832 = .ok (.invokevirtual 103, 3) := by decide +kernel
theorem dL_law_1835 : decode cL_law 1835 = .ok (.ifCond .ne 57, 3) := by decide +kernel
theorem dL_law_1838 : decode cL_law 1838 = .ok (.aload_n 1, 1) := by decide +kernel
theorem dL_law_1839 : decode cL_law 1839 = .ok (.iconst 0, 1) := by decide +kernel
theorem dL_law_1840 : decode cL_law 1840 = .ok (.iload 20, 2) := by decide +kernel
theorem dL_law_1842 : decode cL_law 1842 = .ok (.iconst 1, 1) := by decide +kernel
theorem dL_law_1843 : decode cL_law 1843 = .ok (.iconst 1, 1) := by decide +kernel
theorem dL_law_1844 : decode cL_law 1844 = .ok (.bipush 16, 2) := by decide +kernel
theorem dL_law_1846 : decode cL_law 1846 = .ok (.iconst 0, 1) := by decide +kernel
theorem dL_law_1847 : decode cL_law 1847 = .ok (.invokevirtual 94, 3) := by decide +kernel
theorem dL_law_1850 : decode cL_law 1850 = .ok (.ldc2_w 98, 3) := by decide +kernel
theorem dL_law_1853 : decode cL_law 1853 = .ok (.lcmp, 1) := by decide +kernel
theorem dL_law_1854 : decode cL_law 1854 = .ok (.ifCond .ne 38, 3) := by decide +kernel
theorem dL_law_1857 : decode cL_law 1857 = .ok (.aload_n 1, 1) := by decide +kernel
theorem dL_law_1858 : decode cL_law 1858 = .ok (.invokevirtual 103, 3) := by decide +kernel
theorem dL_law_1861 : decode cL_law 1861 = .ok (.iconst 3, 1) := by decide +kernel
theorem dL_law_1862 : decode cL_law 1862 = .ok (.if_icmp .ne 30, 3) := by decide +kernel
theorem dL_law_1865 : decode cL_law 1865 = .ok (.aload_n 1, 1) := by decide +kernel
theorem dL_law_1866 : decode cL_law 1866 = .ok (.iconst 1, 1) := by decide +kernel
theorem dL_law_1867 : decode cL_law 1867 = .ok (.bipush 18, 2) := by decide +kernel
theorem dL_law_1869 : decode cL_law 1869 = .ok (.iconst (-1), 1) := by decide +kernel
theorem dL_law_1870 : decode cL_law 1870 = .ok (.invokevirtual 19, 3) := by decide +kernel
theorem dL_law_1873 : decode cL_law 1873 = .ok (.iconst 1, 1) := by decide +kernel
theorem dL_law_1874 : decode cL_law 1874 = .ok (.if_icmp .ne 18, 3) := by decide +kernel
theorem dL_law_1877 : decode cL_law 1877 = .ok (.aload_n 1, 1) := by decide +kernel
theorem dL_law_1878 : decode cL_law 1878 = .ok (.iload 20, 2) := by decide +kernel
theorem dL_law_1880 : decode cL_law 1880 = .ok (.iconst 1, 1) := by decide +kernel
theorem dL_law_1881 : decode cL_law 1881 = .ok (.iconst 1, 1) := by decide +kernel
theorem dL_law_1882 : decode cL_law 1882 = .ok (.bipush 10, 2) := by decide +kernel
theorem dL_law_1884 : decode cL_law 1884 = .ok (.invokevirtual 100, 3) := by decide +kernel
theorem dL_law_1887 : decode cL_law 1887 = .ok (.bipush (-2), 2) := by decide +kernel
theorem dL_law_1889 : decode cL_law 1889 = .ok (.if_icmp .eq 5, 3) := by decide +kernel
theorem dL_law_1892 : decode cL_law 1892 = .ok (.iconst 0, 1) := by decide +kernel
theorem dL_law_1893 : decode cL_law 1893 = .ok (.ireturn, 1) := by decide +kernel
theorem dL_law_1894 : decode cL_law 1894 = .ok (.iinc 6 1, 3) := by decide +kernel
theorem dL_law_1897 : decode cL_law 1897 = .ok (.goto (-1823), 3) := by decide +kernel
theorem dL_law_1900 : decode cL_law 1900 = .ok (.aload_n 1, 1) := by decide +kernel
theorem dL_law_1901 : decode cL_law 1901 = .ok (.iconst 0, 1) := by decide +kernel
theorem dL_law_1902 : decode cL_law 1902 = .ok (.iconst 4, 1) := by decide +kernel
theorem dL_law_1903 : decode cL_law 1903 = .ok (.iconst 1, 1) := by decide +kernel
theorem dL_law_1904 : decode cL_law 1904 = .ok (.iconst 0, 1) := by decide +kernel
theorem dL_law_1905 : decode cL_law 1905 = .ok (.invokevirtual 100, 3) := by decide +kernel
theorem dL_law_1908 : decode cL_law 1908 = .ok (.iconst (-1), 1) := by decide +kernel
theorem dL_law_1909 : decode cL_law 1909 = .ok (.if_icmp .ne 24, 3) := by decide +kernel
theorem dL_law_1912 : decode cL_law 1912 = .ok (.aload_n 1, 1) := by decide +kernel
theorem dL_law_1913 : decode cL_law 1913 = .ok (.iconst 0, 1) := by decide +kernel
theorem dL_law_1914 : decode cL_law 1914 = .ok (.iconst 0, 1) := by decide +kernel
theorem dL_law_1915 : decode cL_law 1915 = .ok (.iconst 4, 1) := by decide +kernel
theorem dL_law_1916 : decode cL_law 1916 = .ok (.iconst 1, 1) := by decide +kernel
theorem dL_law_1917 : decode cL_law 1917 = .ok (.iconst 0, 1) := by decide +kernel
theorem dL_law_1918 : decode cL_law 1918 = .ok (.iconst 0, 1) := by decide +kernel
theorem dL_law_1919 : decode cL_law 1919 = .ok (.invokevirtual 94, 3) := by decide +kernel
theorem dL_law_1922 : decode cL_law 1922 = .ok (.ldc2_w 98, 3) := by decide +kernel
theorem dL_law_1925 : decode cL_law 1925 = .ok (.lcmp, 1) := by decide +kernel
theorem dL_law_1926 : decode cL_law 1926 = .ok (.ifCond .ne 7, 3) := by decide +kernel
theorem dL_law_1929 : decode cL_law 1929 = .ok (.iconst 1, 1) := by decide +kernel
theorem dL_law_1930 : decode cL_law 1930 = .ok (.goto 4, 3) := by decide +kernel
theorem dL_law_1933 : decode cL_law 1933 = .ok (.iconst 0, 1) := by decide +kernel
theorem dL_law_1934 : decode cL_law 1934 = .ok (.ireturn, 1) := by decide +kernel
end
section
/-! the system's worlds: a fixed number of cells at fixed addresses, each with a row of ints; what a call changes are the ints alone -/
abbrev St : Type := Nat → Nat → Int32
abbrev ix (i : Int32) : Nat := i.toNatClampNeg
/-- one cell's row replaced; one place of it -/
def u1 (σ : St) (c : Nat) (f : Nat → Int32) : St := fun c' => if c' = c then f else σ c'
def u2 (σ : St) (c k : Nat) (v : Int32) : St := u1 σ c (upd (σ c) k v)
theorem u1_same (σ : St) (c : Nat) (f : Nat → Int32) : u1 σ c f c = f := if_pos rfl
theorem u1_ne {σ : St} {c c' : Nat} (f : Nat → Int32) (h : c' ≠ c) : u1 σ c f c' = σ c' := if_neg h
/-- the world's cells: n of them, cell c at ad c, made of its row by E -/
def Wd (n : Nat) (E : Nat → (Nat → Int32) → va_E) (ad : Nat → Nat) (σ : St) : va_W := (List.range n).map (fun c => (ad c, E c (σ c)))
theorem Wd_get {n : Nat} {E : Nat → (Nat → Int32) → va_E} {ad : Nat → Nat} {σ : St} {c : Nat} (h : c < n) : (Wd n E ad σ)[c]? = some (ad c, E c (σ c)) := by
  unfold Wd
  rw [List.getElem?_map, List.getElem?_range h]
  rfl
theorem Wd_get_inv {n : Nat} {E : Nat → (Nat → Int32) → va_E} {ad : Nat → Nat} {σ : St} {c : Nat} {q : Nat × va_E} (h : (Wd n E ad σ)[c]? = some q) : c < n ∧ q = (ad c, E c (σ c)) := by
  have hl : c < n := by
    have h1 := (List.getElem?_eq_some_iff.mp h).1
    unfold Wd at h1
    simpa using h1
  rw [Wd_get hl] at h
  exact ⟨hl, (Option.some.inj h).symm⟩
theorem Wd_set {n : Nat} {E : Nat → (Nat → Int32) → va_E} {ad : Nat → Nat} {σ : St} {c : Nat} {f : Nat → Int32} {e : va_E} (he : E c f = e) : (Wd n E ad σ).set c (ad c, e) = Wd n E ad (u1 σ c f) := by
  subst he
  refine List.ext_getElem? (fun j => ?_)
  rcases Nat.lt_or_ge j n with hj | hj
  · rw [Wd_get hj, List.getElem?_set]
    by_cases hcj : c = j
    · subst hcj
      rw [if_pos rfl, u1_same]
      have hl : c < (Wd n E ad σ).length := by simp [Wd, hj]
      rw [if_pos hl]
    · rw [if_neg hcj, Wd_get hj, u1_ne _ (fun h => hcj h.symm)]
  · have h1 : (Wd n E ad (u1 σ c f))[j]? = none := by simp [Wd, hj]
    have h2 : ((Wd n E ad σ).set c (ad c, E c f))[j]? = none := by simp [Wd, hj]
    rw [h1, h2]
theorem Wd_addr {n : Nat} {E : Nat → (Nat → Int32) → va_E} {ad : Nat → Nat} {σ τ : St} {A B : Nat → Prop} (hD : va_D A (Wd n E ad σ)) (hB : ∀ c, c < n → B (ad c)) : va_D B (Wd n E ad τ) := by
  refine ⟨fun i j p q hi hj hpq => ?_, fun k q hk => ?_⟩
  · obtain ⟨li, rfl⟩ := Wd_get_inv hi
    obtain ⟨lj, rfl⟩ := Wd_get_inv hj
    exact hD.1 i j _ _ (Wd_get li) (Wd_get lj) hpq
  · obtain ⟨lk, rfl⟩ := Wd_get_inv hk
    exact hB k lk
/-- a method's own cells and what is new -/
def CA (n : Nat) (ad : Nat → Nat) (sz : Nat) : Nat → Prop := fun q => (∃ c, c < n ∧ q = ad c) ∨ sz ≤ q
/-- the world within a walk -/
def CW (n : Nat) (E : Nat → (Nat → Int32) → va_E) (ad : Nat → Nat) (D : va_G) (A : Nat → Prop) (H0 : Heap) (σ : St) (H : Heap) (locs : List Loc) : Prop :=
  va_P D vwCl (Wd n E ad σ) H ∧ va_D A (Wd n E ad σ) ∧ va_S A H0 H locs ∧ ∀ q, H0.size ≤ q → A q
/-- the private links of nest mates, the arrays of the class's own classes -/
def nestF : List (Nat × String × String × String) := [(250, "NineSmells$Sheet", "has", "Z"), (261, "NineSmells$Sheet", "lane", "I"), (90, "NineSmells$Sheet", "cells", "[I"), (71, "NineSmells$Sign", "kind", "I"), (101, "NineSmells$Sign", "total", "I"), (74, "NineSmells$Sign", "strength", "[I")]
def nestM : List (Nat × MethodName) := [(45, yX1_init), (46, yX2_init), (47, yX0_init), (254, yX1_lacks), (247, yX1_renew), (258, yX1_cut)]
def NW (U : State) : Prop := (∀ q ∈ nestF, va_Nw (.fieldLinkNest RX3 q.1 q.2.1 q.2.2.1 q.2.2.2 RX3) U) ∧ ∀ q ∈ nestM, va_Nw (.methodLinkNest RX3 q.1 q.2 RX3) U
theorem NW.warm {s U : State} (hW : s.WarmedH U.vm) (h : NW s) : NW U := ⟨fun q hq => va_Nw.warmF hW (h.1 q hq), fun q hq => va_Nw.warmM hW (h.2 q hq)⟩
theorem NW.same {u U : State} (e : u.vm = U.vm) (h : NW u) : NW U := ⟨fun q hq => va_Nw.same rfl e (h.1 q hq), fun q hq => va_Nw.same rfl e (h.2 q hq)⟩
theorem NW.f {U : State} {args : Array Value} (h : NW U) (i : Nat) {q : Nat × String × String × String} (hq : nestF[i]? = some q) : (Cond.fieldLinkNest RX3 q.1 q.2.1 q.2.2.1 q.2.2.2 RX3).before args U = true := va_Nw.use rfl (h.1 q (List.mem_of_getElem? hq))
theorem NW.m {U : State} (h : NW U) (i : Nat) {q : Nat × MethodName} (hq : nestM[i]? = some q) : va_Nw (.methodLinkNest RX3 q.1 q.2 RX3) U := h.2 q (List.mem_of_getElem? hq)
/-- a method's start: its world of so many cells -/
def PreW (n : Nat) (E : Nat → (Nat → Int32) → va_E) (ad : Nat → Nat) (D : va_G) (tys : List (ClassId × FieldType)) (σ : St) (sz : Nat) (av : List Value) : Array Value → State → Prop :=
  va_Pc av (fun U => U.heap.size = sz ∧ va_P D vwCl (Wd n E ad σ) U.heap ∧ va_K D vwCl tys U ∧ va_D (fun _ => True) (Wd n E ad σ) ∧ NW U)
theorem PreW.blind {n : Nat} {E : Nat → (Nat → Int32) → va_E} {ad : Nat → Nat} {D : va_G} {tys : List (ClassId × FieldType)} {σ : St} {sz : Nat} {av : List Value} : FrameBlind (PreW n E ad D tys σ sz av) := by
  intro a U g mk q
  obtain ⟨q0, q1, qP, qK, qD, qN⟩ := q
  exact ⟨q0, q1, qP, va_K.moved (u := U) (U := U.calling g mk a) (Vm.Alike.refl U.vm) qK, qD, qN.same rfl⟩
/-- what a method of this world answers, the world behind it -/
def QWi (n : Nat) (E : Nat → (Nat → Int32) → va_E) (ad : Nat → Nat) (D : va_G) (tgt : Int32 × St) (A : Nat → Prop) : Array Value → State → Outcome → State → Prop := va_Qi (fun (v : Int32) (u : St) => (v, u) = tgt) (fun u t => va_P D vwCl (Wd n E ad u) t.heap) A
def QWl (n : Nat) (E : Nat → (Nat → Int32) → va_E) (ad : Nat → Nat) (D : va_G) (tgt : Int64 × St) (A : Nat → Prop) : Array Value → State → Outcome → State → Prop := va_Ql (fun (v : Int64) (u : St) => (v, u) = tgt) (fun u t => va_P D vwCl (Wd n E ad u) t.heap) A
def QWv (n : Nat) (E : Nat → (Nat → Int32) → va_E) (ad : Nat → Nat) (D : va_G) (tgt : St) (A : Nat → Prop) : Array Value → State → Outcome → State → Prop := va_Qv (fun (u : St) => u = tgt) (fun u t => va_P D vwCl (Wd n E ad u) t.heap) A
/-- .. of one that changes nothing -/
def Q0i (tgt : Int32) : Array Value → State → Outcome → State → Prop := fun _ st oc t => oc = .returned (some (.int tgt)) ∧ t.heap = st.heap
def Q0l (tgt : Int64) : Array Value → State → Outcome → State → Prop := fun _ st oc t => oc = .returned (some (.long tgt)) ∧ t.heap = st.heap
def Pre0 (av : List Value) : Array Value → State → Prop := va_Pc av (fun _ => True)
theorem Pre0.blind {av : List Value} : FrameBlind (Pre0 av) := fun _ _ _ _ q => ⟨q.1, trivial⟩
def N0 : Addr → Prop := fun _ => False
section HEADS
variable {l : Launch} {n : Nat} {E : Nat → (Nat → Int32) → va_E} {ad : Nat → Nat} {D : va_G} {tys : List (ClassId × FieldType)} {σ : St} {sz : Nat}
/-- the head of any method of a world -/
theorem headW {y : MethodName} {ws ws' : List Cond} {rm : Room} {Qc : Array Value → State → Outcome → State → Prop} {free : Addr → Prop} {cc : ByteArray} {maxL : Nat} {ret : Option FieldType} (av : List Value)
    (hy : plainName y.cls = true) (hw : ws = Cond.code y cc maxL ret :: ws') (hent : (lg_sl av).length ≤ maxL)
    (body : ∀ (p : Program) (e : Env) (s : State) (m : MethodId) (below : List Frame) (meth : Method) (c : Code), CallFix p m c cc maxL s av.toArray ws y.cls → meth.sig.returnType = ret → meth.locks = false → va_K D vwCl tys s → NW s → s.heap.size = sz → CW n E ad D (CA n ad sz) s.heap σ s.heap [] →
      ∀ ls : Array Slot, lv_has ls maxL (lv_args 0 av) → W p l e (headSpec ws rm).room s m av.toArray below meth c s.heap [] 0 0 (MQ below Qc av.toArray s 0 0 free) (F0 m 0 ls [])) : Met l y ws rm (PreW n E ad D tys σ sz av) Qc 0 0 free := by
  refine Met.ofW (cc := cc) (maxL := maxL) (ret := ret) hy hw ?_
  intro p e s m args below meth c s₁ B hml hv
  obtain ⟨rfl, hsz, hP, hK, hD0, hN⟩ := hv
  have hts := atoms_spec (ws := ws) B.pre
  have hown : s.vm.findClass y.cls = some m.cls := findClass_of_methodNamed B.named
  have hl := lv_entry av (n := maxL) hent
  rw [lg_entry_eq]
  refine body p e s m below meth c ⟨B.exec, B.bytes, hml, hown, hts⟩ B.returns B.notSynchronized hK hN hsz ⟨hP, Wd_addr hD0 (fun c hc => Or.inl ⟨c, hc, rfl⟩), va_S.rf, fun q hq => Or.inr (by rw [← hsz]; exact hq)⟩ _ hl
/-- .. of a method without a world -/
theorem head0 {y : MethodName} {ws ws' : List Cond} {rm : Room} {Qc : Array Value → State → Outcome → State → Prop} {free : Addr → Prop} {cc : ByteArray} {maxL : Nat} {ret : Option FieldType} (av : List Value)
    (hy : plainName y.cls = true) (hw : ws = Cond.code y cc maxL ret :: ws') (hent : (lg_sl av).length ≤ maxL)
    (body : ∀ (p : Program) (e : Env) (s : State) (m : MethodId) (below : List Frame) (meth : Method) (c : Code), CallFix p m c cc maxL s av.toArray ws y.cls → meth.sig.returnType = ret → meth.locks = false →
      ∀ ls : Array Slot, lv_has ls maxL (lv_args 0 av) → W p l e (headSpec ws rm).room s m av.toArray below meth c s.heap [] 0 0 (MQ below Qc av.toArray s 0 0 free) (F0 m 0 ls [])) : Met l y ws rm (Pre0 av) Qc 0 0 free := by
  refine Met.ofW (cc := cc) (maxL := maxL) (ret := ret) hy hw ?_
  intro p e s m args below meth c s₁ B hml hv
  obtain ⟨rfl, -⟩ := hv
  have hts := atoms_spec (ws := ws) B.pre
  have hown : s.vm.findClass y.cls = some m.cls := findClass_of_methodNamed B.named
  have hl := lv_entry av (n := maxL) hent
  rw [lg_entry_eq]
  exact body p e s m below meth c ⟨B.exec, B.bytes, hml, hown, hts⟩ B.returns B.notSynchronized _ hl
end HEADS
section ROWS
variable {p : Program} {l : Launch} {e : Env} {R : Room} {s : State} {m : MethodId} {args : Array Value} {below : List Frame} {meth : Method} {c : Code} {H : Heap} {locs : List Loc} {cells slots : Nat} {Q : State → Prop}
variable {cc : ByteArray} {nL : Nat} {Ts : List Cond} {own : String} {pc : Nat} {ls : Array Slot} {rest : List Value}
variable {n : Nat} {E : Nat → (Nat → Int32) → va_E} {ad : Nat → Nat} {D : va_G} {A : Nat → Prop} {H0 : Heap} {σ : St} {tys : List (ClassId × FieldType)}
/-- getfield, of one's own class -/
theorem r_get (S : CallFix p m c cc nL s args Ts own) (hK : va_K D vwCl tys s) (w : CW n E ad D A H0 σ H locs) {k : Nat} (hk : k < n) {ci : Nat} {fs : List Value} (he : E k (σ k) = .inr (ci, fs)) {C : String} {T : u_T} {N : Nat} (hc : vwCl[ci]? = some (C, T, N)) (hin : ∀ w ∈ u_ws C T N, w ∈ Ts) (j : Nat) (hj : j < N) {index : Nat} (hlink : (Cond.fieldLink own index (T j).1 (T j).2.1 (T j).2.2.1) ∈ Ts) {v : Value} (hv : fs[j]? = some v) (hdg : decode cc pc = .ok (.getfield index, 3))
    (kk : W p l e R s m args below meth c H locs cells slots Q (F0 m (pc + 3) ls (v :: rest))) : W p l e R s m args below meth c H locs cells slots Q (F0 m pc ls (.ref (ad k) :: rest)) := by
  obtain ⟨hx, hb, hml, hown, hts⟩ := S
  exact va_get hx hb hts hin hown hK w.1 k (by rw [Wd_get hk, he]) hc j hj (hts _ hlink) (fun _ h => h) hv hdg kk
/-- .. of a nest mate -/
theorem r_getN (S : CallFix p m c cc nL s args Ts RX3) (hK : va_K D vwCl tys s) (hN : NW s) (w : CW n E ad D A H0 σ H locs) {k : Nat} (hk : k < n) {ci : Nat} {fs : List Value} (he : E k (σ k) = .inr (ci, fs)) {C : String} {T : u_T} {N : Nat} (hc : vwCl[ci]? = some (C, T, N)) (hin : ∀ w ∈ u_ws C T N, w ∈ Ts) (j : Nat) (hj : j < N) {index : Nat} (i : Nat) (hi : nestF[i]? = some (index, (T j).1, (T j).2.1, (T j).2.2.1)) {v : Value} (hv : fs[j]? = some v) (hdg : decode cc pc = .ok (.getfield index, 3))
    (kk : W p l e R s m args below meth c H locs cells slots Q (F0 m (pc + 3) ls (v :: rest))) : W p l e R s m args below meth c H locs cells slots Q (F0 m pc ls (.ref (ad k) :: rest)) := by
  obtain ⟨hx, hb, hml, hown, hts⟩ := S
  exact va_getN hx hb hts hin hown hK w.1 k (by rw [Wd_get hk, he]) hc j hj (hN.f i hi) (fun _ h => h) hv hdg kk
theorem r_put (S : CallFix p m c cc nL s args Ts own) (hK : va_K D vwCl tys s) (w : CW n E ad D A H0 σ H locs) {k : Nat} (hk : k < n) {ci : Nat} {fs : List Value} (he : E k (σ k) = .inr (ci, fs)) {C : String} {T : u_T} {N : Nat} (hc : vwCl[ci]? = some (C, T, N)) (hin : ∀ w ∈ u_ws C T N, w ∈ Ts) (ty0 : Nat → FieldType) (hty : ∀ k, k < N → parseFieldDescriptor (T k).2.2.1 = some (ty0 k)) (hnm : ∀ a, a < N → ∀ b, b < N → a ≠ b → (T a).2.1 ≠ (T b).2.1) (j : Nat) (hj : j < N) {index : Nat} (hlink : (Cond.fieldLink own index (T j).1 (T j).2.1 (T j).2.2.1) ∈ Ts) (hfin : (T j).2.2.2 = false) {x : Int32} {ty : FieldType} (hd : parseFieldDescriptor (T j).2.2.1 = some ty) (hn : narrow ty (.int x) = .int x) (hfit : fits ty (.int x) = true) (hl : j < fs.length) (hs : E k (upd (σ k) j x) = .inr (ci, fs.set j (.int x))) (hdg : decode cc pc = .ok (.putfield index, 3))
    (kk : ∀ (H1 : Heap) (locs1 : List Loc), CW n E ad D A H0 (u2 σ k j x) H1 locs1 → W p l e R s m args below meth c H1 locs1 cells slots Q (F0 m (pc + 3) ls rest)) : W p l e R s m args below meth c H locs cells slots Q (F0 m pc ls (.int x :: .ref (ad k) :: rest)) := by
  obtain ⟨hx, hb, hml, hown, hts⟩ := S
  refine va_put hx hb hts hin ty0 hty hnm hown hK w.1 w.2.1 w.2.2.1 k (by rw [Wd_get hk, he]) hc j hj (hts _ hlink) (fun _ h => h) hfin hd hn hfit hl hdg (fun H1 locs1 hP hD hS => kk H1 locs1 ?_)
  rw [Wd_set hs] at hP hD
  exact ⟨hP, hD, hS, w.2.2.2⟩
theorem r_putN (S : CallFix p m c cc nL s args Ts RX3) (hK : va_K D vwCl tys s) (hN : NW s) (w : CW n E ad D A H0 σ H locs) {k : Nat} (hk : k < n) {ci : Nat} {fs : List Value} (he : E k (σ k) = .inr (ci, fs)) {C : String} {T : u_T} {N : Nat} (hc : vwCl[ci]? = some (C, T, N)) (hin : ∀ w ∈ u_ws C T N, w ∈ Ts) (ty0 : Nat → FieldType) (hty : ∀ k, k < N → parseFieldDescriptor (T k).2.2.1 = some (ty0 k)) (hnm : ∀ a, a < N → ∀ b, b < N → a ≠ b → (T a).2.1 ≠ (T b).2.1) (j : Nat) (hj : j < N) {index : Nat} (i : Nat) (hi : nestF[i]? = some (index, (T j).1, (T j).2.1, (T j).2.2.1)) (hfin : (T j).2.2.2 = false) {x : Int32} {ty : FieldType} (hd : parseFieldDescriptor (T j).2.2.1 = some ty) (hn : narrow ty (.int x) = .int x) (hfit : fits ty (.int x) = true) (hl : j < fs.length) (hs : E k (upd (σ k) j x) = .inr (ci, fs.set j (.int x))) (hdg : decode cc pc = .ok (.putfield index, 3))
    (kk : ∀ (H1 : Heap) (locs1 : List Loc), CW n E ad D A H0 (u2 σ k j x) H1 locs1 → W p l e R s m args below meth c H1 locs1 cells slots Q (F0 m (pc + 3) ls rest)) : W p l e R s m args below meth c H locs cells slots Q (F0 m pc ls (.int x :: .ref (ad k) :: rest)) := by
  obtain ⟨hx, hb, hml, hown, hts⟩ := S
  refine va_putN hx hb hts hin ty0 hty hnm hown hK w.1 w.2.1 w.2.2.1 k (by rw [Wd_get hk, he]) hc j hj (hN.f i hi) (fun _ h => h) hfin hd hn hfit hl hdg (fun H1 locs1 hP hD hS => kk H1 locs1 ?_)
  rw [Wd_set hs] at hP hD
  exact ⟨hP, hD, hS, w.2.2.2⟩
/-- int arrays; arrays of objects -/
theorem r_iald (S : CallFix p m c cc nL s args Ts own) (hK : va_K D vwCl tys s) (w : CW n E ad D A H0 σ H locs) {k : Nat} (hk : k < n) {cA : ClassId} {N : Nat} (he : ∀ f, E k f = .inl (cA, N, .inl f)) (ht : tys[0]? = some (cA, .int)) {i : Int32} (hi : vp_in i N) (hdg : decode cc pc = .ok (.iaload, 1))
    (kk : W p l e R s m args below meth c H locs cells slots Q (F0 m (pc + 1) ls (.int (σ k (ix i)) :: rest))) : W p l e R s m args below meth c H locs cells slots Q (F0 m pc ls (.int i :: .ref (ad k) :: rest)) :=
  va_iald S.1 S.2.1 hK w.1 k 0 (by rw [Wd_get hk, he]) ht hi hdg kk
theorem r_iast (S : CallFix p m c cc nL s args Ts own) (hK : va_K D vwCl tys s) (w : CW n E ad D A H0 σ H locs) {k : Nat} (hk : k < n) {cA : ClassId} {N : Nat} (he : ∀ f, E k f = .inl (cA, N, .inl f)) (ht : tys[0]? = some (cA, .int)) {i x : Int32} (hi : vp_in i N) (hdg : decode cc pc = .ok (.iastore, 1))
    (kk : ∀ (H1 : Heap) (locs1 : List Loc), CW n E ad D A H0 (u2 σ k (ix i) x) H1 locs1 → W p l e R s m args below meth c H1 locs1 cells slots Q (F0 m (pc + 1) ls rest)) : W p l e R s m args below meth c H locs cells slots Q (F0 m pc ls (.int x :: .int i :: .ref (ad k) :: rest)) := by
  refine va_iast S.1 S.2.1 hK w.1 w.2.1 w.2.2.1 k 0 (by rw [Wd_get hk, he]) ht hi hdg (fun H1 locs1 hP hD hS => kk H1 locs1 ?_)
  rw [Wd_set (he _)] at hP hD
  exact ⟨hP, hD, hS, w.2.2.2⟩
theorem r_aald (S : CallFix p m c cc nL s args Ts own) (hK : va_K D vwCl tys s) (w : CW n E ad D A H0 σ H locs) {k : Nat} (hk : k < n) {cA : ClassId} {N t0 b0 : Nat} {C : String} (he : E k (σ k) = .inl (cA, N, .inr (.inr (.inr (.inr (fun j => some (ad (b0 + j)))))))) (ht : tys[t0]? = some (cA, .object C)) {i : Int32} (hi : vp_in i N) (hdg : decode cc pc = .ok (.aaload, 1))
    (kk : W p l e R s m args below meth c H locs cells slots Q (F0 m (pc + 1) ls (.ref (ad (b0 + ix i)) :: rest))) : W p l e R s m args below meth c H locs cells slots Q (F0 m pc ls (.int i :: .ref (ad k) :: rest)) :=
  va_aldq (f := fun j => some (ad (b0 + j))) S.1 S.2.1 hK w.1 k t0 (by rw [Wd_get hk, he]) ht hi hdg kk
theorem r_alen (S : CallFix p m c cc nL s args Ts own) (hK : va_K D vwCl tys s) (w : CW n E ad D A H0 σ H locs) {k : Nat} (hk : k < n) {cA : ClassId} {N : Nat} (he : ∀ f, E k f = .inl (cA, N, .inl f)) (ht : tys[0]? = some (cA, .int)) {v : Int32} (hv : Int32.ofNat N = v) (hdg : decode cc pc = .ok (.arraylength, 1))
    (kk : W p l e R s m args below meth c H locs cells slots Q (F0 m (pc + 1) ls (.int v :: rest))) : W p l e R s m args below meth c H locs cells slots Q (F0 m pc ls (.ref (ad k) :: rest)) :=
  va_alen S.1 S.2.1 hK w.1 k 0 (by rw [Wd_get hk, he]) ht hv hdg kk
theorem r_copy (S : CallFix p m c cc nL s args Ts own) (hls : ls.size = nL) (hK : va_K D vwCl tys s) (w : CW n E ad D A H0 σ H locs) {index : Nat} (hl1 : (Cond.methodLink own index arraycopyName) ∈ Ts) (hl2 : (Cond.native arraycopyName) ∈ Ts) (hl3 : (Cond.static arraycopyName) ∈ Ts) (hl4 : (Cond.initialized "java/lang/System") ∈ Ts) {k0 k1 : Nat} (hk0 : k0 < n) (hk1 : k1 < n) {cA : ClassId} {n0 n1 : Nat} (he0 : ∀ f, E k0 f = .inl (cA, n0, .inl f)) (he1 : ∀ f, E k1 f = .inl (cA, n1, .inl f)) (ht : tys[0]? = some (cA, .int)) {sp dp nn : Int32} (h1 : ¬ sp < 0) (h2 : ¬ dp < 0) (h3 : ¬ nn < 0) (h4 : ix sp + ix nn ≤ n0) (h5 : ix dp + ix nn ≤ n1) (hframes : 1 ≤ R.frames) (hlocals : (rest.map fun v => v.category).sum + (nativeFrameWords "java/lang/System" "arraycopy" 5 + 11) ≤ R.locals) (hdg : decode cc pc = .ok (.invokestatic index, 3))
    (kk : ∀ (H1 : Heap) (locs1 : List Loc), CW n E ad D A H0 (u1 σ k1 (va_cpy (σ k0) (σ k1) (ix sp) (ix dp) (ix nn))) H1 locs1 → W p l e R s m args below meth c H1 locs1 cells slots Q (F0 m (pc + 3) ls rest)) : W p l e R s m args below meth c H locs cells slots Q (F0 m pc ls (.int nn :: .int dp :: .ref (ad k1) :: .int sp :: .ref (ad k0) :: rest)) := by
  obtain ⟨hx, hb, hml, hown, hts⟩ := S
  refine va_copyi hx hb (by rw [hml, hls]) hown (hts _ hl1) (hts _ hl2) (hts _ hl3) (hts _ hl4) hK w.1 w.2.1 w.2.2.1 k0 k1 0 0 (by rw [Wd_get hk0, he0]) (by rw [Wd_get hk1, he1]) ht ht rfl h1 h2 h3 h4 h5 (fun _ _ => rfl) hframes hlocals hdg (fun H1 locs1 hP hD hS => kk H1 locs1 ?_)
  rw [Wd_set (he1 _)] at hP hD
  exact ⟨hP, hD, hS, w.2.2.2⟩
/-- what a call of a method of this world asks -/
theorem preV (hK : va_K D vwCl tys s) (hN : NW s) (w : CW n E ad D A H0 σ H locs) {k : Nat} (hk : k < n) {ci : Nat} {fs : List Value} (he : E k (σ k) = .inr (ci, fs)) {q : vw_C} (hc : vwCl[ci]? = some q) {As : List Value} : PreV s H q.1 (ad k) (PreW n E ad D tys σ H.size (.ref (ad k) :: As)) As :=
  ⟨PreW.blind, va_recv hK w.1 hc (q0 := k) (by rw [Wd_get hk, he]), fun U hU hW => ⟨rfl, by rw [hU], by rw [hU]; exact w.1, va_K.moved hW.alike hK, w.2.1.weaken (fun _ _ _ _ => trivial), hN.warm hW⟩⟩
theorem preS (hK : va_K D vwCl tys s) (hN : NW s) (w : CW n E ad D A H0 σ H locs) {As : List Value} : PreS s H (PreW n E ad D tys σ H.size As) As :=
  ⟨PreW.blind, fun U hU hW => ⟨rfl, by rw [hU], by rw [hU]; exact w.1, va_K.moved hW.alike hK, w.2.1.weaken (fun _ _ _ _ => trivial), hN.warm hW⟩⟩
theorem pre0S {As : List Value} : PreS s H (Pre0 As) As := ⟨Pre0.blind, fun _ _ _ => ⟨rfl, trivial⟩⟩
theorem CW.free (w : CW n E ad D A H0 σ H locs) : ∀ q, CA n ad H.size q → A q := by
  intro q h
  rcases h with ⟨k, hk, rfl⟩ | h
  · exact w.2.1.2 k _ (Wd_get hk)
  · exact w.2.2.2 q (Nat.le_trans w.2.2.1.1 h)
variable {a : Array Value} {st0 : List Value}
theorem callWi (w : CW n E ad D A H0 σ H locs) {tgt : Int32 × St} (hr : va_Run p l e R s m args below meth c H locs cells slots 0 0 (F0 m pc ls st0) rest (QWi n E ad D tgt (CA n ad H.size) a) (CA n ad H.size))
    (kk : ∀ (H1 : Heap) (locs1 : List Loc), CW n E ad D A H0 tgt.2 H1 locs1 → W p l e R s m args below meth c H1 locs1 cells slots Q (F0 m (pc + 3) ls (.int tgt.1 :: rest))) : W p l e R s m args below meth c H locs cells slots Q (F0 m pc ls st0) := by
  refine va_calli hr w.2.2.1 (fun q _ h => w.free q h) w.free (fun r u t H1 locs1 ht hvm hw hB hz hk1 hS => ?_)
  subst hw
  rw [ht] at hB
  exact kk H1 locs1 ⟨hB, Wd_addr w.2.1 (fun k hk => w.2.1.2 k _ (Wd_get hk)), hS, w.2.2.2⟩
theorem callWl (w : CW n E ad D A H0 σ H locs) {tgt : Int64 × St} (hr : va_Run p l e R s m args below meth c H locs cells slots 0 0 (F0 m pc ls st0) rest (QWl n E ad D tgt (CA n ad H.size) a) (CA n ad H.size))
    (kk : ∀ (H1 : Heap) (locs1 : List Loc), CW n E ad D A H0 tgt.2 H1 locs1 → W p l e R s m args below meth c H1 locs1 cells slots Q (F0 m (pc + 3) ls (.long tgt.1 :: rest))) : W p l e R s m args below meth c H locs cells slots Q (F0 m pc ls st0) := by
  refine va_calll hr w.2.2.1 (fun q _ h => w.free q h) w.free (fun r u t H1 locs1 ht hvm hw hB hz hk1 hS => ?_)
  subst hw
  rw [ht] at hB
  exact kk H1 locs1 ⟨hB, Wd_addr w.2.1 (fun k hk => w.2.1.2 k _ (Wd_get hk)), hS, w.2.2.2⟩
theorem callWv (w : CW n E ad D A H0 σ H locs) {tgt : St} (hr : va_Run p l e R s m args below meth c H locs cells slots 0 0 (F0 m pc ls st0) rest (QWv n E ad D tgt (CA n ad H.size) a) (CA n ad H.size))
    (kk : ∀ (H1 : Heap) (locs1 : List Loc), CW n E ad D A H0 tgt H1 locs1 → W p l e R s m args below meth c H1 locs1 cells slots Q (F0 m (pc + 3) ls rest)) : W p l e R s m args below meth c H locs cells slots Q (F0 m pc ls st0) := by
  refine va_callv hr w.2.2.1 (fun q _ h => w.free q h) w.free (fun u t H1 locs1 ht hvm hw hB hz hk1 hS => ?_)
  subst hw
  rw [ht] at hB
  exact kk H1 locs1 ⟨hB, Wd_addr w.2.1 (fun k hk => w.2.1.2 k _ (Wd_get hk)), hS, w.2.2.2⟩
theorem call0i {tgt : Int32} (hr : va_Run p l e R s m args below meth c H locs cells slots 0 0 (F0 m pc ls st0) rest (Q0i tgt a) N0)
    (kk : W p l e R s m args below meth c H locs cells slots Q (F0 m (pc + 3) ls (.int tgt :: rest))) : W p l e R s m args below meth c H locs cells slots Q (F0 m pc ls st0) := by
  intro T hT X
  obtain ⟨v, st₀, t, T', L, h0, X', hL, e1, e2, ⟨hv, hh⟩, st⟩ := hr T hT X
  cases hv
  obtain ⟨t2, a1, b1⟩ := kk T' (by rw [e1, hh, h0]) (Stand.forget X' (fun q h => (hL q h).elim))
  exact ⟨t2, st t2 a1, b1⟩
theorem call0l {tgt : Int64} (hr : va_Run p l e R s m args below meth c H locs cells slots 0 0 (F0 m pc ls st0) rest (Q0l tgt a) N0)
    (kk : W p l e R s m args below meth c H locs cells slots Q (F0 m (pc + 3) ls (.long tgt :: rest))) : W p l e R s m args below meth c H locs cells slots Q (F0 m pc ls st0) := by
  intro T hT X
  obtain ⟨v, st₀, t, T', L, h0, X', hL, e1, e2, ⟨hv, hh⟩, st⟩ := hr T hT X
  cases hv
  obtain ⟨t2, a1, b1⟩ := kk T' (by rw [e1, hh, h0]) (Stand.forget X' (fun q h => (hL q h).elim))
  exact ⟨t2, st t2 a1, b1⟩
/-- Math's, with names for the answers -/
def jabs (x : Int32) : Int32 := if 0 ≤ x then x else 0 - x
def jmax (x y : Int32) : Int32 := if x < y then y else x
def jmin (x y : Int32) : Int32 := if y < x then y else x
theorem r_abs (S : CallFix p m c cc nL s args Ts own) (hls : ls.size = nL) {index : Nat} (h1 : (Cond.methodLink own index Lib.Math.abs.name) ∈ Ts) (h2 : (Cond.static Lib.Math.abs.name) ∈ Ts) (h3 : (Cond.initialized "java/lang/Math") ∈ Ts) (h4 : (Cond.code Lib.Math.abs.name Lib.Math.abs.code 1 (some .int)) ∈ Ts) (hR : 1 ≤ R.frames ∧ (rest.map fun v => v.category).sum + 13 ≤ R.locals ∧ cells ≤ R.cells ∧ slots ≤ R.slots) {x : Int32} (hdg : decode cc pc = .ok (.invokestatic index, 3))
    (kk : W p l e R s m args below meth c H locs cells slots Q (F0 m (pc + 3) ls (.int (jabs x) :: rest))) : W p l e R s m args below meth c H locs cells slots Q (F0 m pc ls (.int x :: rest)) := by
  obtain ⟨hx, hb, hml, hown, hts⟩ := S
  exact va_mabs hx hb (by rw [hml, hls]) hown (hts _ h1) (hts _ h2) (hts _ h3) (hts _ h4) hR.1 hR.2.1 hR.2.2.1 hR.2.2.2 hdg kk
theorem r_max (S : CallFix p m c cc nL s args Ts own) (hls : ls.size = nL) {index : Nat} (h1 : (Cond.methodLink own index Lib.Math.max.name) ∈ Ts) (h2 : (Cond.static Lib.Math.max.name) ∈ Ts) (h3 : (Cond.initialized "java/lang/Math") ∈ Ts) (h4 : (Cond.code Lib.Math.max.name Lib.Math.max.code 2 (some .int)) ∈ Ts) (hR : 1 ≤ R.frames ∧ (rest.map fun v => v.category).sum + 13 ≤ R.locals ∧ cells ≤ R.cells ∧ slots ≤ R.slots) {x y : Int32} (hdg : decode cc pc = .ok (.invokestatic index, 3))
    (kk : W p l e R s m args below meth c H locs cells slots Q (F0 m (pc + 3) ls (.int (jmax x y) :: rest))) : W p l e R s m args below meth c H locs cells slots Q (F0 m pc ls (.int y :: .int x :: rest)) := by
  obtain ⟨hx, hb, hml, hown, hts⟩ := S
  exact va_mmax hx hb (by rw [hml, hls]) hown (hts _ h1) (hts _ h2) (hts _ h3) (hts _ h4) hR.1 hR.2.1 hR.2.2.1 hR.2.2.2 hdg kk
theorem r_min (S : CallFix p m c cc nL s args Ts own) (hls : ls.size = nL) {index : Nat} (h1 : (Cond.methodLink own index Lib.Math.min.name) ∈ Ts) (h2 : (Cond.static Lib.Math.min.name) ∈ Ts) (h3 : (Cond.initialized "java/lang/Math") ∈ Ts) (h4 : (Cond.code Lib.Math.min.name Lib.Math.min.code 2 (some .int)) ∈ Ts) (hR : 1 ≤ R.frames ∧ (rest.map fun v => v.category).sum + 13 ≤ R.locals ∧ cells ≤ R.cells ∧ slots ≤ R.slots) {x y : Int32} (hdg : decode cc pc = .ok (.invokestatic index, 3))
    (kk : W p l e R s m args below meth c H locs cells slots Q (F0 m (pc + 3) ls (.int (jmin x y) :: rest))) : W p l e R s m args below meth c H locs cells slots Q (F0 m pc ls (.int y :: .int x :: rest)) := by
  obtain ⟨hx, hb, hml, hown, hts⟩ := S
  exact va_mmin hx hb (by rw [hml, hls]) hown (hts _ h1) (hts _ h2) (hts _ h3) (hts _ h4) hR.1 hR.2.1 hR.2.2.1 hR.2.2.2 hdg kk
/-- ends -/
theorem endWi {n0 : Nat} (S : CallFix p m c cc nL s args Ts own) (hr : meth.sig.returnType = some .int) (hlocks : meth.locks = false) (w : CW n E ad D (CA n ad n0) s.heap σ H locs) {v : Int32} {tgt : Int32 × St} (hG : (v, σ) = tgt) (hdg : decode cc pc = .ok (.ireturn, 1)) : W p l e R s m args below meth c H locs cells slots (MQ below (QWi n E ad D tgt (CA n ad n0)) args s cells slots (CA n ad n0)) (F0 m pc ls [.int v]) :=
  W.iret (v := v) S.1 S.2.1 hr (fun t ht hW => ⟨⟨v, σ, rfl, hG, by show va_P D vwCl (Wd n E ad σ) t.heap; rw [ht]; exact w.1⟩, w.2.2.1.F ht⟩) w.2.2.1.2.2 hdg hlocks
theorem endWz {n0 : Nat} (S : CallFix p m c cc nL s args Ts own) (hr : meth.sig.returnType = some .boolean) (hlocks : meth.locks = false) (w : CW n E ad D (CA n ad n0) s.heap σ H locs) {v : Int32} (hn : v = 0 ∨ v = 1) {tgt : Int32 × St} (hG : (v, σ) = tgt) (hdg : decode cc pc = .ok (.ireturn, 1)) : W p l e R s m args below meth c H locs cells slots (MQ below (QWi n E ad D tgt (CA n ad n0)) args s cells slots (CA n ad n0)) (F0 m pc ls [.int v]) :=
  W.zret (v := v) S.1 S.2.1 hr (by rcases hn with rfl | rfl <;> rfl) (fun t ht hW => ⟨⟨v, σ, rfl, hG, by show va_P D vwCl (Wd n E ad σ) t.heap; rw [ht]; exact w.1⟩, w.2.2.1.F ht⟩) w.2.2.1.2.2 hdg hlocks
theorem endWl {n0 : Nat} (S : CallFix p m c cc nL s args Ts own) (hr : meth.sig.returnType = some .long) (hlocks : meth.locks = false) (w : CW n E ad D (CA n ad n0) s.heap σ H locs) {v : Int64} {tgt : Int64 × St} (hG : (v, σ) = tgt) (hdg : decode cc pc = .ok (.lreturn, 1)) : W p l e R s m args below meth c H locs cells slots (MQ below (QWl n E ad D tgt (CA n ad n0)) args s cells slots (CA n ad n0)) (F0 m pc ls [.long v]) :=
  W.lret (v := v) S.1 S.2.1 hr (fun t ht hW => ⟨⟨v, σ, rfl, hG, by show va_P D vwCl (Wd n E ad σ) t.heap; rw [ht]; exact w.1⟩, w.2.2.1.F ht⟩) w.2.2.1.2.2 hdg hlocks
theorem endWv {n0 : Nat} (S : CallFix p m c cc nL s args Ts own) (hr : meth.sig.returnType = none) (hlocks : meth.locks = false) (w : CW n E ad D (CA n ad n0) s.heap σ H locs) {tgt : St} (hG : σ = tgt) (hdg : decode cc pc = .ok (.return_, 1)) : W p l e R s m args below meth c H locs cells slots (MQ below (QWv n E ad D tgt (CA n ad n0)) args s cells slots (CA n ad n0)) (F0 m pc ls []) :=
  W.vret S.1 S.2.1 hr (fun t ht hW => ⟨⟨σ, rfl, hG, by show va_P D vwCl (Wd n E ad σ) t.heap; rw [ht]; exact w.1⟩, w.2.2.1.F ht⟩) w.2.2.1.2.2 hdg hlocks
theorem end0i (S : CallFix p m c cc nL s args Ts own) (hr : meth.sig.returnType = some .int) (hlocks : meth.locks = false) {v tgt : Int32} (hG : v = tgt) (hdg : decode cc pc = .ok (.ireturn, 1)) : W p l e R s m args below meth c s.heap [] cells slots (MQ below (Q0i tgt) args s cells slots N0) (F0 m pc ls [.int v]) :=
  W.iret (v := v) S.1 S.2.1 hr (fun t ht hW => ⟨by rw [hG], ht⟩) (fun q h => absurd h List.not_mem_nil) hdg hlocks
theorem end0z (S : CallFix p m c cc nL s args Ts own) (hr : meth.sig.returnType = some .boolean) (hlocks : meth.locks = false) {v tgt : Int32} (hn : v = 0 ∨ v = 1) (hG : v = tgt) (hdg : decode cc pc = .ok (.ireturn, 1)) : W p l e R s m args below meth c s.heap [] cells slots (MQ below (Q0i tgt) args s cells slots N0) (F0 m pc ls [.int v]) :=
  W.zret (v := v) S.1 S.2.1 hr (by rcases hn with rfl | rfl <;> rfl) (fun t ht hW => ⟨by rw [hG], ht⟩) (fun q h => absurd h List.not_mem_nil) hdg hlocks
theorem end0l (S : CallFix p m c cc nL s args Ts own) (hr : meth.sig.returnType = some .long) (hlocks : meth.locks = false) {v tgt : Int64} (hG : v = tgt) (hdg : decode cc pc = .ok (.lreturn, 1)) : W p l e R s m args below meth c s.heap [] cells slots (MQ below (Q0l tgt) args s cells slots N0) (F0 m pc ls [.long v]) :=
  W.lret (v := v) S.1 S.2.1 hr (fun t ht hW => ⟨by rw [hG], ht⟩) (fun q h => absurd h List.not_mem_nil) hdg hlocks
end ROWS
/-! numbers in toInt -/
theorem qt_lt {x y : Int32} (h : x < y) : x.toInt < y.toInt := Int32.lt_iff_toInt_lt.mp h
theorem qt_le {x y : Int32} (h : x ≤ y) : x.toInt ≤ y.toInt := Int32.le_iff_toInt_le.mp h
theorem qt_nlt {x y : Int32} (h : ¬ x < y) : y.toInt ≤ x.toInt := Int.not_lt.mp (fun q => h (Int32.lt_iff_toInt_lt.mpr q))
theorem qt_nle {x y : Int32} (h : ¬ x ≤ y) : y.toInt < x.toInt := Int.not_le.mp (fun q => h (Int32.le_iff_toInt_le.mpr q))
theorem qt_eq {x y : Int32} (h : x = y) : x.toInt = y.toInt := congrArg Int32.toInt h
theorem qt_ne {x y : Int32} (h : ¬ x = y) : x.toInt ≠ y.toInt := fun q => h (Int32.toInt_inj.mp q)
theorem qm_lt {x y : Int32} (h : x.toInt < y.toInt) : x < y := Int32.lt_iff_toInt_lt.mpr h
theorem qm_le {x y : Int32} (h : x.toInt ≤ y.toInt) : x ≤ y := Int32.le_iff_toInt_le.mpr h
theorem qm_nlt {x y : Int32} (h : y.toInt ≤ x.toInt) : ¬ x < y := fun q => by have := qt_lt q; omega
theorem qm_nle {x y : Int32} (h : y.toInt < x.toInt) : ¬ x ≤ y := fun q => by have := qt_le q; omega
theorem qm_eq {x y : Int32} (h : x.toInt = y.toInt) : x = y := Int32.toInt_inj.mp h
theorem vpi {x : Int32} {n : Nat} (h0 : 0 ≤ x.toInt) (h1 : x.toInt < n) : vp_in x n := vp_in_iff.mpr ⟨h0, h1⟩
theorem vpl {x : Int32} {n : Nat} (h : vp_in x n) : ix x < n := Nat.not_le.mp fun q => h (Or.inr q)
theorem ix_toInt {x : Int32} (h : 0 ≤ x.toInt) : (ix x : Int) = x.toInt := by
  unfold ix Int32.toNatClampNeg
  exact Int.toNat_of_nonneg h
theorem a_toInt {a b : Int32} (h1 : -2147483648 ≤ a.toInt + b.toInt) (h2 : a.toInt + b.toInt < 2147483648) : (a + b).toInt = a.toInt + b.toInt := by
  rw [Int32.toInt_add]
  exact Int.bmod_eq_of_le (by omega) (by omega)
theorem s_toInt {a b : Int32} (h1 : -2147483648 ≤ a.toInt - b.toInt) (h2 : a.toInt - b.toInt < 2147483648) : (a - b).toInt = a.toInt - b.toInt := by
  rw [Int32.toInt_sub]
  exact Int.bmod_eq_of_le (by omega) (by omega)
theorem x_toInt {a b : Int32} (h1 : -2147483648 ≤ a.toInt * b.toInt) (h2 : a.toInt * b.toInt < 2147483648) : (a * b).toInt = a.toInt * b.toInt := by
  rw [Int32.toInt_mul]
  exact Int.bmod_eq_of_le (by omega) (by omega)
theorem i1_toInt {a b : Int32} (h : a < b) : (a + 1).toInt = a.toInt + 1 := by
  have h1 := qt_lt h
  have h2 : b.toInt < 2147483648 := Int32.toInt_lt b
  have h3 : -2147483648 ≤ a.toInt := Int32.le_toInt a
  have h4 : (1 : Int32).toInt = 1 := by decide
  rw [a_toInt (by omega) (by omega), h4]
end
section
/-! the class's world: cell 0 the object; 1, 2, 3 its rows of SHEETS, SIGNS, PAPERS; 4 .. 8 its rows of ints; 9 .. 12 SHEETS, 13 .. 16 their cells; 17 .. 24 SIGNS, 25 .. 32 their strengths; 33 .. 40 PAPERS -/
def fsO (ad : Nat → Nat) (f : Nat → Int32) : List Value := [.ref (ad 1), .ref (ad 2), .ref (ad 3), .ref (ad 4), .int (f 4), .int (f 5), .int (f 6), .int (f 7), .int (f 8), .int (f 9), .ref (ad 5), .ref (ad 6), .ref (ad 7), .ref (ad 8)]
def fsSh (ad : Nat → Nat) (q : Nat) (f : Nat → Int32) : List Value := [.int (f 0), .int (f 1), .int (f 2), .ref (ad (13 + q))]
def fsSg (ad : Nat → Nat) (x : Nat) (f : Nat → Int32) : List Value := [.int (f 0), .int (f 1), .ref (ad (25 + x))]
def fsPa (f : Nat → Int32) : List Value := [.int (f 0), .int (f 1), .int (f 2), .int (f 3), .int (f 4), .int (f 5)]
def eRefs (ad : Nat → Nat) (cA : ClassId) (N b : Nat) : va_E := .inl (cA, N, .inr (.inr (.inr (.inr (fun j => some (ad (b + j)))))))
def eC (ad : Nat → Nat) (c : Nat) (f : Nat → Int32) : va_E :=
  if c = 0 then .inr (3, fsO ad f)
  else if c = 1 then eRefs ad (ad 101) 4 9
  else if c = 2 then eRefs ad (ad 102) 8 17
  else if c = 3 then eRefs ad (ad 103) 8 33
  else if c < 7 then .inl (ad 100, 9, .inl f)
  else if c = 7 then .inl (ad 100, 8, .inl f)
  else if c = 8 then .inl (ad 100, 5, .inl f)
  else if c < 13 then .inr (1, fsSh ad (c - 9) f)
  else if c < 17 then .inl (ad 100, 90, .inl f)
  else if c < 25 then .inr (2, fsSg ad (c - 17) f)
  else if c < 33 then .inl (ad 100, 9, .inl f)
  else .inr (0, fsPa f)
theorem eC_0 (ad : Nat → Nat) (f : Nat → Int32) : eC ad 0 f = .inr (3, fsO ad f) := rfl
theorem eC_1 (ad : Nat → Nat) (f : Nat → Int32) : eC ad 1 f = .inl (ad 101, 4, .inr (.inr (.inr (.inr (fun j => some (ad (9 + j))))))) := rfl
theorem eC_2 (ad : Nat → Nat) (f : Nat → Int32) : eC ad 2 f = .inl (ad 102, 8, .inr (.inr (.inr (.inr (fun j => some (ad (17 + j))))))) := rfl
theorem eC_3 (ad : Nat → Nat) (f : Nat → Int32) : eC ad 3 f = .inl (ad 103, 8, .inr (.inr (.inr (.inr (fun j => some (ad (33 + j))))))) := rfl
theorem eC_4 (ad : Nat → Nat) (f : Nat → Int32) : eC ad 4 f = .inl (ad 100, 9, .inl f) := rfl
theorem eC_5 (ad : Nat → Nat) (f : Nat → Int32) : eC ad 5 f = .inl (ad 100, 9, .inl f) := rfl
theorem eC_6 (ad : Nat → Nat) (f : Nat → Int32) : eC ad 6 f = .inl (ad 100, 9, .inl f) := rfl
theorem eC_7 (ad : Nat → Nat) (f : Nat → Int32) : eC ad 7 f = .inl (ad 100, 8, .inl f) := rfl
theorem eC_8 (ad : Nat → Nat) (f : Nat → Int32) : eC ad 8 f = .inl (ad 100, 5, .inl f) := rfl
theorem eC_sh (ad : Nat → Nat) {q : Nat} (h : q < 4) (f : Nat → Int32) : eC ad (9 + q) f = .inr (1, fsSh ad q f) := by
  unfold eC
  rw [if_neg (by omega), if_neg (by omega), if_neg (by omega), if_neg (by omega), if_neg (by omega), if_neg (by omega), if_neg (by omega), if_pos (by omega), Nat.add_sub_cancel_left]
theorem eC_sc (ad : Nat → Nat) {q : Nat} (h : q < 4) (f : Nat → Int32) : eC ad (13 + q) f = .inl (ad 100, 90, .inl f) := by
  unfold eC
  rw [if_neg (by omega), if_neg (by omega), if_neg (by omega), if_neg (by omega), if_neg (by omega), if_neg (by omega), if_neg (by omega), if_neg (by omega), if_pos (by omega)]
theorem eC_sg (ad : Nat → Nat) {x : Nat} (h : x < 8) (f : Nat → Int32) : eC ad (17 + x) f = .inr (2, fsSg ad x f) := by
  unfold eC
  rw [if_neg (by omega), if_neg (by omega), if_neg (by omega), if_neg (by omega), if_neg (by omega), if_neg (by omega), if_neg (by omega), if_neg (by omega), if_neg (by omega), if_pos (by omega), Nat.add_sub_cancel_left]
theorem eC_st (ad : Nat → Nat) {x : Nat} (h : x < 8) (f : Nat → Int32) : eC ad (25 + x) f = .inl (ad 100, 9, .inl f) := by
  unfold eC
  rw [if_neg (by omega), if_neg (by omega), if_neg (by omega), if_neg (by omega), if_neg (by omega), if_neg (by omega), if_neg (by omega), if_neg (by omega), if_neg (by omega), if_neg (by omega), if_pos (by omega)]
theorem eC_pa (ad : Nat → Nat) {p : Nat} (h : p < 8) (f : Nat → Int32) : eC ad (33 + p) f = .inr (0, fsPa f) := by
  unfold eC
  rw [if_neg (by omega), if_neg (by omega), if_neg (by omega), if_neg (by omega), if_neg (by omega), if_neg (by omega), if_neg (by omega), if_neg (by omega), if_neg (by omega), if_neg (by omega), if_neg (by omega)]
/-- a row of nine strengths: a SIGN's, or the one that calls work in -/
def st9 (c : Nat) : Prop := c = 6 ∨ ∃ x, x < 8 ∧ c = 25 + x
theorem eC_9 (ad : Nat → Nat) {c : Nat} (h : st9 c) (f : Nat → Int32) : eC ad c f = .inl (ad 100, 9, .inl f) := by
  rcases h with rfl | ⟨x, hx, rfl⟩
  · rfl
  · exact eC_st ad hx f
theorem st9_lt {c : Nat} (h : st9 c) : c < 41 := by
  rcases h with rfl | ⟨x, hx, rfl⟩ <;> omega
def tyC (ad : Nat → Nat) : List (ClassId × FieldType) := [(ad 100, .int), (ad 101, .object "NineSmells$Sheet"), (ad 102, .object "NineSmells$Sign"), (ad 103, .object "NineSmells$Paper")]
theorem sO (ad : Nat → Nat) (f : Nat → Int32) (v : Int32) : ∀ k, (4 ≤ k ∧ k < 10) → eC ad 0 (upd f k v) = .inr (3, (fsO ad f).set k (.int v)) := by
  intro k hk
  rcases (show k = 4 ∨ k = 5 ∨ k = 6 ∨ k = 7 ∨ k = 8 ∨ k = 9 by omega) with rfl | rfl | rfl | rfl | rfl | rfl <;> rfl
theorem sSh (ad : Nat → Nat) {q : Nat} (h : q < 4) (f : Nat → Int32) (v : Int32) : ∀ k, k < 3 → eC ad (9 + q) (upd f k v) = .inr (1, (fsSh ad q f).set k (.int v)) := by
  intro k hk
  rw [eC_sh ad h]
  rcases (show k = 0 ∨ k = 1 ∨ k = 2 by omega) with rfl | rfl | rfl <;> rfl
theorem sSg (ad : Nat → Nat) {x : Nat} (h : x < 8) (f : Nat → Int32) (v : Int32) : ∀ k, k < 2 → eC ad (17 + x) (upd f k v) = .inr (2, (fsSg ad x f).set k (.int v)) := by
  intro k hk
  rw [eC_sg ad h]
  rcases (show k = 0 ∨ k = 1 by omega) with rfl | rfl <;> rfl
theorem sPa (ad : Nat → Nat) {p : Nat} (h : p < 8) (f : Nat → Int32) (v : Int32) : ∀ k, k < 6 → eC ad (33 + p) (upd f k v) = .inr (0, (fsPa f).set k (.int v)) := by
  intro k hk
  rw [eC_pa ad h]
  rcases (show k = 0 ∨ k = 1 ∨ k = 2 ∨ k = 3 ∨ k = 4 ∨ k = 5 by omega) with rfl | rfl | rfl | rfl | rfl | rfl <;> rfl
/-! what holds of the numbers at every time: no index is out of its row -/
def OkC (σ : St) : Prop := (0 ≤ (σ 0 4).toInt ∧ (σ 0 4).toInt ≤ 8) ∧ (0 ≤ (σ 0 5).toInt ∧ (σ 0 5).toInt ≤ 8) ∧ (∀ j, j < 9 → (σ 0 4).toInt ≠ 0 → 1 ≤ (σ 4 j).toInt ∧ (σ 4 j).toInt ≤ 9) ∧ (∀ q, q < 4 → 0 ≤ (σ (9 + q) 2).toInt ∧ (σ (9 + q) 2).toInt ≤ 90) ∧ (∀ p, p < 8 → vp_in (σ (33 + p) 0) 8 ∧ vp_in (σ (33 + p) 1) 8) ∧ (0 ≤ (σ 0 6).toInt ∧ (σ 0 6).toInt ≤ 99)
def scrC (c : Nat) : Prop := (5 ≤ c ∧ c ≤ 8) ∨ (13 ≤ c ∧ c < 33)
theorem okC_cell {σ τ : St} (h : OkC σ) (h0 : τ 0 4 = σ 0 4 ∧ τ 0 5 = σ 0 5 ∧ τ 0 6 = σ 0 6) (h4 : τ 4 = σ 4) (hs : ∀ q, q < 4 → τ (9 + q) 2 = σ (9 + q) 2) (hp : ∀ p, p < 8 → τ (33 + p) 0 = σ (33 + p) 0 ∧ τ (33 + p) 1 = σ (33 + p) 1) : OkC τ := by
  obtain ⟨a, b, c, d, e, f⟩ := h
  refine ⟨by rw [h0.1]; exact a, by rw [h0.2.1]; exact b, by rw [h4, h0.1]; exact c, fun q hq => by rw [hs q hq]; exact d q hq, fun p hp' => by rw [(hp p hp').1, (hp p hp').2]; exact e p hp', by rw [h0.2.2]; exact f⟩
theorem okC_scr {σ : St} {c : Nat} {f : Nat → Int32} (hc : scrC c) (h : OkC σ) : OkC (u1 σ c f) := by
  unfold scrC at hc
  exact okC_cell h ⟨by rw [u1_ne f (by omega)], by rw [u1_ne f (by omega)], by rw [u1_ne f (by omega)]⟩ (u1_ne f (by omega)) (fun q hq => by rw [u1_ne f (by omega)]) (fun p hp => by rw [u1_ne f (by omega)]; exact ⟨rfl, rfl⟩)
theorem u2_self (σ : St) (c k : Nat) (v : Int32) : u2 σ c k v c k = v := by
  unfold u2
  rw [u1_same, upd, if_pos rfl]
theorem u2_nk {σ : St} {c k j : Nat} {v : Int32} (h : j ≠ k) : u2 σ c k v c j = σ c j := by
  unfold u2
  rw [u1_same, upd, if_neg h]
theorem u2_nc {σ : St} {c c' k : Nat} {v : Int32} (h : c' ≠ c) : u2 σ c k v c' = σ c' := u1_ne _ h
theorem u2_o {σ : St} {c k : Nat} {v : Int32} (h : c ≠ 0) (j : Nat) : u2 σ c k v 0 j = σ 0 j := by rw [u2_nc (fun q => h q.symm)]
theorem okC_obj {σ : St} {k : Nat} {v : Int32} (hk : 7 ≤ k) (h : OkC σ) : OkC (u2 σ 0 k v) :=
  okC_cell h ⟨u2_nk (by omega), u2_nk (by omega), u2_nk (by omega)⟩ (u2_nc (by omega)) (fun q hq => by rw [u2_nc (by omega)]) (fun p hp => by rw [u2_nc (by omega)]; exact ⟨rfl, rfl⟩)
theorem okC_pa {σ : St} {p k : Nat} {v : Int32} (hk : 2 ≤ k) (h : OkC σ) : OkC (u2 σ (33 + p) k v) := by
  refine okC_cell h ⟨u2_o (by omega) _, u2_o (by omega) _, u2_o (by omega) _⟩ (u2_nc (by omega)) (fun q hq => by rw [u2_nc (by omega)]) (fun p' hp => ?_)
  by_cases e : 33 + p' = 33 + p
  · rw [e]
    exact ⟨u2_nk (by omega), u2_nk (by omega)⟩
  · rw [u2_nc e]
    exact ⟨rfl, rfl⟩
/-! more of toInt -/
theorem inc_toInt {a : Int32} (h0 : 0 ≤ a.toInt) (h : a.toInt < 2147483647) : (a + 1).toInt = a.toInt + 1 := by
  have h4 : (1 : Int32).toInt = 1 := by decide
  rw [a_toInt (by omega) (by omega), h4]
theorem dec_toInt {a : Int32} (h0 : -2147483648 < a.toInt) (h : a.toInt < 2147483648) : (a + (-1)).toInt = a.toInt - 1 := by
  have h4 : (-1 : Int32).toInt = -1 := by decide
  rw [a_toInt (by omega) (by omega), h4]
  omega
theorem mk_toInt {a k : Int32} {z : Int} (hk : k.toInt = z) (h1 : -2147483648 ≤ a.toInt * z) (h2 : a.toInt * z < 2147483648) : (a * k).toInt = a.toInt * z := by
  rw [x_toInt (by rw [hk]; exact h1) (by rw [hk]; exact h2), hk]
theorem km_toInt {a k : Int32} {z : Int} (hk : k.toInt = z) (h1 : -2147483648 ≤ z * a.toInt) (h2 : z * a.toInt < 2147483648) : (k * a).toInt = z * a.toInt := by
  rw [x_toInt (by rw [hk]; exact h1) (by rw [hk]; exact h2), hk]
theorem dv_le {a b : Int32} {z : Int} (hz : 0 ≤ z) (h : a.toInt ≤ z) (hb : 1 ≤ b.toInt) (h0 : -2147483648 < a.toInt) : (a / b).toInt ≤ z := by
  rw [Int32.toInt_div_of_ne_left _ _ (fun q => by rw [q] at h0; exact absurd h0 (by decide))]
  have h1 : a.toInt.tdiv b.toInt ≤ z := by
    rcases Int.le_total 0 a.toInt with q | q
    · exact Int.le_trans (Int.tdiv_le_self b.toInt q) h
    · have h2 : 0 ≤ (-a.toInt).tdiv b.toInt := Int.tdiv_nonneg (by omega) (by omega)
      rw [Int.neg_tdiv] at h2
      omega
  exact h1
theorem nz_of {b : Int32} (h : 1 ≤ b.toInt) : ¬ b = 0 := fun q => by rw [q] at h; exact absurd h (by decide)
/-! the law's rows: 0 what is told by how many, 1 and 2 the SIGNS, 3 what stoppers or a door leave, 4 the hours of each SIGN -/
def lenL (c : Nat) : Nat := [16, 60, 20, 9, 8].getD c 0
def eL (ad : Nat → Nat) (c : Nat) (f : Nat → Int32) : va_E := .inl (ad 100, lenL c, .inl f)
def tyL (ad : Nat → Nat) : List (ClassId × FieldType) := [(ad 100, .int)]
end
section
/-! java.util.Arrays.fill of a row of ints -/
def fillF (N : Nat) (v : Int32) (f : Nat → Int32) : Nat → Int32 := fun j => if j < N then v else f j
abbrev fW (a : Nat) (cA : ClassId) (N : Nat) (f : Nat → Int32) : va_W := [(a, .inl (cA, N, .inl f))]
def PreF (D : va_G) (a : Nat) (cA : ClassId) (N : Nat) (f : Nat → Int32) (sz : Nat) (v : Int32) : Array Value → State → Prop :=
  va_Pc [.ref a, .int v] (fun U => U.heap.size = sz ∧ va_P D vwCl (fW a cA N f) U.heap ∧ va_K D vwCl [(cA, .int)] U)
def PostF (D : va_G) (a : Nat) (cA : ClassId) (N : Nat) (f : Nat → Int32) (sz : Nat) (v : Int32) : Array Value → State → Outcome → State → Prop :=
  va_Qv (fun u : Nat → Int32 => u = fillF N v f) (fun u t => va_P D vwCl (fW a cA N u) t.heap) (va_A (fW a cA N f) sz)
theorem fillF_step {N : Nat} {v : Int32} {f : Nat → Int32} {i : Nat} (hi : i < N) : upd (fillF i v f) i v = fillF (i + 1) v f := by
  funext j
  unfold upd fillF
  by_cases h : j = i
  · rw [if_pos h, if_pos (by omega)]
  · rw [if_neg h]
    by_cases h2 : j < i
    · rw [if_pos h2, if_pos (by omega)]
    · rw [if_neg h2, if_neg (by omega)]
set_option maxHeartbeats 4000000 in
set_option maxRecDepth 100000 in
theorem c_fill (l : Launch) (D : va_G) (a : Nat) (cA : ClassId) (N : Nat) (hN : N < 2 ^ 31) (f : Nat → Int32) (sz : Nat) (v : Int32) : Met l yJ7_fill_53178 wsJ7_fill_53178 ({ frames := 0, cells := 0, slots := 0, locals := 0 }) (PreF D a cA N f sz v) (PostF D a cA N f sz v) 0 0 (va_A (fW a cA N f) sz) := by
  refine Met.ofW (cc := cJ7_fill_53178) (maxL := 4) (ret := none) (by decide) rfl ?_
  intro p e s m args below meth c s₁ B hml hv
  obtain ⟨rfl, hsz, hP, hK⟩ := hv
  have hx := B.exec
  have hb := B.bytes
  have hr := B.returns
  have hlocks := B.notSynchronized
  have hD : va_D (va_A (fW a cA N f) sz) (fW a cA N f) := by
    refine ⟨fun i j p q hi hj _ => ?_, fun k q hk => va_A.in hk⟩
    have h1 := (List.getElem?_eq_some_iff.mp hi).1
    have h2 := (List.getElem?_eq_some_iff.mp hj).1
    simp at h1 h2
    omega
  unfold PostF
  generalize hA : va_A (fW a cA N f) sz = A at hD ⊢
  have hS : va_S A s.heap s.heap [] := va_S.rf
  have hl := lv_entry ([.ref a, .int v]) (n := 4) (Nat.le_of_ble_eq_true rfl)
  rw [lg_entry_eq]
  generalize (lg_sl ([.ref a, .int v]) ++ List.replicate (4 - (lg_sl ([.ref a, .int v])).length) Slot.unset).toArray = ls at hl ⊢
  have hl : lv_has ls 4 [(0, .ref a), (1, .int v)] := hl
  refine lv_iconst (v := 0) hx hb dJ7_fill_53178_0 (by decide) ?_
  refine lv_istore_n (lv' := [(2, .int 0), (0, .ref a), (1, .int v)]) hx hb dJ7_fill_53178_1 rfl hl (by decide) rfl (fun ls hl => ?_)
  refine lv_aload_n hx hb dJ7_fill_53178_2 rfl (lv_at hl 1 rfl) ?_
  refine va_alen hx hb hK hP 0 0 rfl rfl (v := nI N) rfl dJ7_fill_53178_3 ?_
  refine lv_istore_n (lv' := [(3, .int (nI N)), (2, .int 0), (0, .ref a), (1, .int v)]) hx hb dJ7_fill_53178_4 rfl hl (by decide) rfl (fun ls hl => ?_)
  have L : ∀ (n i : Nat), i ≤ N → N + 1 ≤ i + n → ∀ (H : Heap) (locs : List Loc), va_P D vwCl (fW a cA N (fillF i v f)) H → va_D A (fW a cA N (fillF i v f)) → va_S A s.heap H locs → ∀ ls : Array Slot, lv_has ls 4 [(3, .int (nI N)), (2, .int (nI i)), (0, .ref a), (1, .int v)] → W p l e (headSpec wsJ7_fill_53178 { frames := 0, cells := 0, slots := 0, locals := 0 }).room s m ([.ref a, .int v] : List Value).toArray below meth c H locs 0 0 (MQ below (va_Qv (fun u : Nat → Int32 => u = fillF N v f) (fun u t => va_P D vwCl (fW a cA N u) t.heap) A) ([.ref a, .int v] : List Value).toArray s 0 0 A) (F0 m 5 ls []) := by
    intro n
    induction n with
    | zero => intro i h1 h2; exact absurd h2 (by omega)
    | succ n ih =>
      intro i h1 h2 H locs hP hD hS ls hl
      refine lv_iload_n hx hb dJ7_fill_53178_5 rfl (lv_at hl 1 rfl) ?_
      refine lv_iload_n hx hb dJ7_fill_53178_6 rfl (lv_at hl 0 rfl) ?_
      refine lv_icmp_ge (tgt := 20) hx hb dJ7_fill_53178_7 (by decide) (fun c7 => ?_) (fun c7 => ?_)
      · have hi : i = N := by
          rcases Nat.lt_or_ge i N with q | q
          · exact absurd c7 (nI_ge q hN)
          · omega
        subst hi
        exact W.vret hx hb hr (fun t ht hW => ⟨⟨fillF i v f, rfl, rfl, by show va_P _ _ _ t.heap; rw [ht]; exact hP⟩, hS.F ht⟩) hS.2.2 dJ7_fill_53178_20 hlocks
      · have hi : i < N := by
          rcases Nat.lt_or_ge i N with q | q
          · exact q
          · exact absurd (nI_le q (by omega)) c7
        refine lv_aload_n hx hb dJ7_fill_53178_10 rfl (lv_at hl 2 rfl) ?_
        refine lv_iload_n hx hb dJ7_fill_53178_11 rfl (lv_at hl 1 rfl) ?_
        refine lv_iload_n hx hb dJ7_fill_53178_12 rfl (lv_at hl 3 rfl) ?_
        refine va_iast hx hb hK hP hD hS 0 0 (cA := cA) (n := N) (f := fillF i v f) rfl rfl (vp_in_nI hi hN) dJ7_fill_53178_13 (fun H locs hP hD hS => ?_)
        have e1 : upd (fillF i v f) (nI i).toNatClampNeg v = fillF (i + 1) v f := by rw [nI_clamp (by omega)]; exact fillF_step hi
        rw [e1] at hP hD
        refine lv_iinc (v := nI (i + 1)) (lv' := [(2, .int (nI (i + 1))), (3, .int (nI N)), (0, .ref a), (1, .int v)]) hx hb dJ7_fill_53178_14 hl (k := 1) rfl (nI_1 i) (by decide) rfl (fun ls hl => ?_)
        refine lv_goto (tgt := 5) hx hb dJ7_fill_53178_17 (by decide) ?_
        exact ih (i + 1) hi (by omega) H locs hP hD hS ls (lv_sub hl [1, 0, 2, 3] rfl)
  have e0 : fillF 0 v f = f := by
    funext j
    unfold fillF
    rw [if_neg (by omega)]
  exact L (N + 1) 0 (by omega) (by omega) s.heap [] (by rw [e0]; exact hP) (by rw [e0]; exact hD) hS ls (by rw [nI_0]; exact hl)
theorem hd_J7_fill_53178 : yJ7_fill_53178.cls ≠ "java/lang/invoke/MethodHandle" ∧ yJ7_fill_53178.cls ≠ "java/lang/invoke/VarHandle" ∧ (parseMethodDescriptor yJ7_fill_53178.desc).map (fun d => d.parameters.length) = some 2 := by decide +kernel
section FILL
variable {p : Program} {l : Launch} {e : Env} {R : Room} {s : State} {m : MethodId} {args : Array Value} {below : List Frame} {meth : Method} {c : Code} {H : Heap} {locs : List Loc} {cells slots : Nat} {Q : State → Prop}
variable {cc : ByteArray} {nL : Nat} {Ts : List Cond} {own : String} {pc : Nat} {ls : Array Slot}
variable {n : Nat} {E : Nat → (Nat → Int32) → va_E} {ad : Nat → Nat} {D : va_G} {A : Nat → Prop} {H0 : Heap} {σ : St} {tys : List (ClassId × FieldType)}
theorem PreF.blind {a : Nat} {cA : ClassId} {N : Nat} {f : Nat → Int32} {sz : Nat} {v : Int32} : FrameBlind (PreF D a cA N f sz v) := by
  intro a U g mk q
  obtain ⟨q0, q1, qP, qK⟩ := q
  exact ⟨q0, q1, qP, va_K.moved (u := U) (U := U.calling g mk a) (Vm.Alike.refl U.vm) qK⟩
theorem callFill {cA : ClassId} {N : Nat} (hN : N < 2 ^ 31) (S : CallFix p m c cc nL s args Ts own) (hls : ls.size = nL) (hK : va_K D vwCl tys s) (hNW : NW s) (w : CW n E ad D A H0 σ H locs) {k : Nat} (hk : k < n) (he : ∀ f, E k f = .inl (cA, N, .inl f)) (ht : tys[0]? = some (cA, .int)) {index : Nat} (g : GoodIn Ts (va_wsS own index yJ7_fill_53178 wsJ7_fill_53178)) (hf : 1 ≤ R.frames) (hlo : 23 ≤ R.locals) {v : Int32} (hdg : decode cc pc = .ok (.invokestatic index, 3)) (hcs : cells ≤ R.cells ∧ slots ≤ R.slots)
    (kk : ∀ (H1 : Heap) (locs1 : List Loc), CW n E ad D A H0 (u1 σ k (fillF N v (σ k))) H1 locs1 → W p l e R s m args below meth c H1 locs1 cells slots Q (F0 m (pc + 3) ls [])) : W p l e R s m args below meth c H locs cells slots Q (F0 m pc ls [.int v, .ref (ad k)]) := by
  have hPk : va_P D vwCl (fW (ad k) cA N (σ k)) H := fun i q hi => by
    have h1 := (List.getElem?_eq_some_iff.mp hi).1
    simp at h1
    subst h1
    cases hi
    have := w.1 k _ (Wd_get hk)
    rw [he] at this
    exact this
  have hKk : va_K D vwCl [(cA, .int)] s := ⟨hK.1, fun i q hi => by
    have h1 := (List.getElem?_eq_some_iff.mp hi).1
    simp at h1
    subst h1
    cases hi
    exact hK.2 0 _ ht⟩
  have hfr : ∀ q, va_A (fW (ad k) cA N (σ k)) H.size q → A q := by
    intro q h
    rcases h with ⟨i, e1, h⟩ | h
    · have h1 := (List.getElem?_eq_some_iff.mp h).1
      simp at h1
      subst h1
      cases h
      exact w.2.1.2 k _ (Wd_get hk)
    · exact w.2.2.2 q (Nat.le_trans w.2.2.1.1 h)
  refine va_callv (va_runS (As := [.ref (ad k), .int v]) (rest := []) S (c_fill l D (ad k) cA N hN (σ k) H.size v) (va_cwS 2 S.2.2.2.2 g rfl rfl rfl hd_J7_fill_53178 ⟨hf, hlo⟩) ⟨PreF.blind, fun U hU hW => ⟨rfl, by rw [hU], by rw [hU]; exact hPk, va_K.moved hW.alike hKk⟩⟩ rfl rfl hls rfl (lv_room (Nat.le_of_ble_eq_true rfl)) hdg hcs) w.2.2.1 (fun q _ h => hfr q h) hfr (fun u t H1 locs1 ht hvm hw hB hz hk1 hS => ?_)
  subst hw
  rw [ht] at hB
  refine kk H1 locs1 ⟨fun c q hc => ?_, Wd_addr w.2.1 (fun c hc => w.2.1.2 c _ (Wd_get hc)), hS, w.2.2.2⟩
  obtain ⟨hcn, rfl⟩ := Wd_get_inv hc
  by_cases hck : c = k
  · subst hck
    rw [u1_same, he]
    exact hB 0 _ rfl
  · rw [u1_ne _ hck]
    have hat := w.1 c _ (Wd_get hcn)
    refine hat.kept (hk1 _ hat.lt (fun h => ?_))
    rcases h with ⟨i, e1, h⟩ | h
    · have h1 := (List.getElem?_eq_some_iff.mp h).1
      simp at h1
      subst h1
      have h2 : ad k = ad c := congrArg Prod.fst (Option.some.inj h)
      exact hck (w.2.1.1 c k _ _ (Wd_get hcn) (Wd_get hk) h2.symm)
    · exact absurd hat.lt (Nat.not_lt.mpr h)
end FILL
end
section
/-! what each method answers, and what it leaves: printed out of the bytecode by program (wip/whole/gen.py) -/
set_option maxRecDepth 20000 in
def f_J6_bitCount_0f7a4 (p1 : Int32) : Int32 :=
  ((((((((p1 - (((p1.toUInt32 >>> ((1 : Int32).toUInt32 &&& Int32.toUInt32 31)).toInt32) &&& 1431655765)) &&& 858993459) + ((((p1 - (((p1.toUInt32 >>> ((1 : Int32).toUInt32 &&& Int32.toUInt32 31)).toInt32) &&& 1431655765)).toUInt32 >>> ((2 : Int32).toUInt32 &&& Int32.toUInt32 31)).toInt32) &&& 858993459)) + (((((p1 - (((p1.toUInt32 >>> ((1 : Int32).toUInt32 &&& Int32.toUInt32 31)).toInt32) &&& 1431655765)) &&& 858993459) + ((((p1 - (((p1.toUInt32 >>> ((1 : Int32).toUInt32 &&& Int32.toUInt32 31)).toInt32) &&& 1431655765)).toUInt32 >>> ((2 : Int32).toUInt32 &&& Int32.toUInt32 31)).toInt32) &&& 858993459)).toUInt32 >>> ((4 : Int32).toUInt32 &&& Int32.toUInt32 31)).toInt32)) &&& 252645135) + (((((((p1 - (((p1.toUInt32 >>> ((1 : Int32).toUInt32 &&& Int32.toUInt32 31)).toInt32) &&& 1431655765)) &&& 858993459) + ((((p1 - (((p1.toUInt32 >>> ((1 : Int32).toUInt32 &&& Int32.toUInt32 31)).toInt32) &&& 1431655765)).toUInt32 >>> ((2 : Int32).toUInt32 &&& Int32.toUInt32 31)).toInt32) &&& 858993459)) + (((((p1 - (((p1.toUInt32 >>> ((1 : Int32).toUInt32 &&& Int32.toUInt32 31)).toInt32) &&& 1431655765)) &&& 858993459) + ((((p1 - (((p1.toUInt32 >>> ((1 : Int32).toUInt32 &&& Int32.toUInt32 31)).toInt32) &&& 1431655765)).toUInt32 >>> ((2 : Int32).toUInt32 &&& Int32.toUInt32 31)).toInt32) &&& 858993459)).toUInt32 >>> ((4 : Int32).toUInt32 &&& Int32.toUInt32 31)).toInt32)) &&& 252645135).toUInt32 >>> ((8 : Int32).toUInt32 &&& Int32.toUInt32 31)).toInt32)) + ((((((((p1 - (((p1.toUInt32 >>> ((1 : Int32).toUInt32 &&& Int32.toUInt32 31)).toInt32) &&& 1431655765)) &&& 858993459) + ((((p1 - (((p1.toUInt32 >>> ((1 : Int32).toUInt32 &&& Int32.toUInt32 31)).toInt32) &&& 1431655765)).toUInt32 >>> ((2 : Int32).toUInt32 &&& Int32.toUInt32 31)).toInt32) &&& 858993459)) + (((((p1 - (((p1.toUInt32 >>> ((1 : Int32).toUInt32 &&& Int32.toUInt32 31)).toInt32) &&& 1431655765)) &&& 858993459) + ((((p1 - (((p1.toUInt32 >>> ((1 : Int32).toUInt32 &&& Int32.toUInt32 31)).toInt32) &&& 1431655765)).toUInt32 >>> ((2 : Int32).toUInt32 &&& Int32.toUInt32 31)).toInt32) &&& 858993459)).toUInt32 >>> ((4 : Int32).toUInt32 &&& Int32.toUInt32 31)).toInt32)) &&& 252645135) + (((((((p1 - (((p1.toUInt32 >>> ((1 : Int32).toUInt32 &&& Int32.toUInt32 31)).toInt32) &&& 1431655765)) &&& 858993459) + ((((p1 - (((p1.toUInt32 >>> ((1 : Int32).toUInt32 &&& Int32.toUInt32 31)).toInt32) &&& 1431655765)).toUInt32 >>> ((2 : Int32).toUInt32 &&& Int32.toUInt32 31)).toInt32) &&& 858993459)) + (((((p1 - (((p1.toUInt32 >>> ((1 : Int32).toUInt32 &&& Int32.toUInt32 31)).toInt32) &&& 1431655765)) &&& 858993459) + ((((p1 - (((p1.toUInt32 >>> ((1 : Int32).toUInt32 &&& Int32.toUInt32 31)).toInt32) &&& 1431655765)).toUInt32 >>> ((2 : Int32).toUInt32 &&& Int32.toUInt32 31)).toInt32) &&& 858993459)).toUInt32 >>> ((4 : Int32).toUInt32 &&& Int32.toUInt32 31)).toInt32)) &&& 252645135).toUInt32 >>> ((8 : Int32).toUInt32 &&& Int32.toUInt32 31)).toInt32)).toUInt32 >>> ((16 : Int32).toUInt32 &&& Int32.toUInt32 31)).toInt32)) &&& 63)
set_option maxRecDepth 20000 in
def f_X1_renew (σ : St) (r0 : Nat) (p1 : Int32) (p2 : Int32) : St :=
  (u1 (u2 (u2 (u2 σ (9 + r0) 0 1) (9 + r0) 1 p1) (9 + r0) 2 p2) (13 + r0) (fillF 90 0 ((u2 (u2 (u2 σ (9 + r0) 0 1) (9 + r0) 1 p1) (9 + r0) 2 p2) (13 + r0))))
set_option maxRecDepth 20000 in
def f_X1_cut (σ : St) (r0 : Nat) (p1 : Int32) : Int32 :=
  (if (σ (9 + r0) 1) = 0 then p1.toInt8.toInt32 else (if (σ (9 + r0) 1) = 1 then p1.toInt16.toInt32 else p1))
set_option maxRecDepth 20000 in
def f_X1_lacks (σ : St) (r0 : Nat) (p1 : Int32) (p2 : Int64) : Int32 :=
  (if p1 < 0 then 1 else (if (lg_cmp (p1.toInt64 + p2) ((σ (9 + r0) 2).toInt64)) ≤ 0 then 0 else 1))
set_option maxRecDepth 20000 in
def f_X3_isSheet (p1 : Int32) : Int32 :=
  (if p1 < 0 then 0 else (if 4 ≤ p1 then 0 else 1))
set_option maxRecDepth 20000 in
def f_X3_refused (σ : St) (p1 : Int32) : Int32 × St :=
  (p1, (u2 σ 0 9 0))
set_option maxRecDepth 20000 in
def f_X3_isLane (p1 : Int32) : Int32 :=
  (if p1 < 0 then 0 else (if 3 ≤ p1 then 0 else 1))
set_option maxRecDepth 20000 in
def f_X3_faulted (σ : St) (p1 : Int32) : Int32 × St :=
  (((-10) - p1), (u2 σ 0 9 p1))
set_option maxRecDepth 20000 in
def f_X3_spanRefusal (σ : St) (p1 : Int32) (p2 : Int32) (p3 : Int32) (p4 : Int64) : Int32 × St :=
  (if (f_X3_isSheet p1) = 0 then ((f_X3_refused σ (-1)).1, (f_X3_refused σ (-1)).2) else (if (f_X3_isLane p2) = 0 then ((f_X3_refused σ (-2)).1, (f_X3_refused σ (-2)).2) else (if (σ (9 + (ix p1)) 0) = 0 then (if (σ (9 + (ix p1)) 0) = 0 then ((f_X3_faulted σ 1).1, (f_X3_faulted σ 1).2) else (if 0 ≤ (lg_cmp p4 0) then (if (f_X1_lacks σ (ix p1) p3 p4) = 0 then (0, (u2 σ 0 9 0)) else ((f_X3_faulted σ 3).1, (f_X3_faulted σ 3).2)) else ((f_X3_faulted σ 4).1, (f_X3_faulted σ 4).2))) else (if (σ (9 + (ix p1)) 1) = p2 then (if (σ (9 + (ix p1)) 0) = 0 then ((f_X3_faulted σ 1).1, (f_X3_faulted σ 1).2) else (if 0 ≤ (lg_cmp p4 0) then (if (f_X1_lacks σ (ix p1) p3 p4) = 0 then (0, (u2 σ 0 9 0)) else ((f_X3_faulted σ 3).1, (f_X3_faulted σ 3).2)) else ((f_X3_faulted σ 4).1, (f_X3_faulted σ 4).2))) else ((f_X3_faulted σ 2).1, (f_X3_faulted σ 2).2)))))
set_option maxRecDepth 20000 in
def f_X3_kindOf (p1 : Int32) : Int32 :=
  (if p1 = 102 then 1 else (if p1 = 112 then 0 else (if p1 = 115 then 2 else (-1))))
set_option maxRecDepth 20000 in
def f_X3_goesOn (p1 : Int32) (p2 : Int32) : Int32 :=
  (if (p2 - (p2 / 11) * 11) = 0 then (if (f_X3_kindOf p1) < 0 then 0 else 1) else (if (p2 - (p2 / 11) * 11) = 10 then (if p1 = 59 then (if 8 ≤ ((p2 / 11) + 1) then 0 else 1) else 0) else (if p1 < 48 then 0 else (if 57 < p1 then 0 else 1))))
set_option maxRecDepth 20000 in
def lp_X3_textFault_2 (σ : St) (a0 : Nat) (a1 : Int32) (a2 : Int32) : Nat → Int32 → ((Int32) ⊕ (Unit))
  | 0, a3 => Sum.inr ()
  | n + 1, a3 => (if a2 ≤ a3 then (Sum.inr ()) else (if (f_X3_goesOn (σ (13 + a0) (ix (a1 + a3))) a3) = 0 then (Sum.inl a3) else (lp_X3_textFault_2 σ a0 a1 a2 n (a3 + 1))))
set_option maxRecDepth 20000 in
def f_X3_textFault (σ : St) (p1 : Nat) (p2 : Int32) (p3 : Int32) : Int32 :=
  (match (lp_X3_textFault_2 σ p1 p2 p3 200 0) with | Sum.inl r => r | Sum.inr _ => (if (if (p3 - (p3 / 11) * 11) = 10 then (if ((p3 / 11) + 1) < 2 then 0 else 1) else 0) = 0 then p3 else (-1)))
set_option maxRecDepth 20000 in
def lp_X3_takeText_65 (a1 : Nat) (a2 : Int32) (a4 : Int32) (a5 : Int32) : Nat → Int32 → St → St
  | 0, a6, σ => σ
  | n + 1, a6, σ => (if 9 ≤ a6 then σ else (lp_X3_takeText_65 a1 a2 a4 a5 n (a6 + 1) (u2 (u2 σ (25 + (ix a4)) (ix a6) ((σ (13 + a1) (ix ((a5 + 1) + a6))) - 48)) (17 + (ix a4)) 1 (((u2 σ (25 + (ix a4)) (ix a6) ((σ (13 + a1) (ix ((a5 + 1) + a6))) - 48)) (17 + (ix a4)) 1) + ((σ (13 + a1) (ix ((a5 + 1) + a6))) - 48)))))
set_option maxRecDepth 20000 in
def lp_X3_takeText_13 (a1 : Nat) (a2 : Int32) : Nat → Int32 → St → St
  | 0, a4, σ => σ
  | n + 1, a4, σ => (if (σ 0 4) ≤ a4 then σ else (lp_X3_takeText_13 a1 a2 n (a4 + 1) (lp_X3_takeText_65 a1 a2 a4 (a2 + (a4 * 11)) 200 0 (u2 (u2 σ (17 + (ix a4)) 0 (f_X3_kindOf (σ (13 + a1) (ix (a2 + (a4 * 11)))))) (17 + (ix a4)) 1 0))))
set_option maxRecDepth 20000 in
def f_X3_takeText (σ : St) (p1 : Nat) (p2 : Int32) (p3 : Int32) : St :=
  (lp_X3_takeText_13 p1 p2 200 0 (u2 σ 0 4 ((p3 / 11) + 1)))
set_option maxRecDepth 20000 in
def f_X3_startAnew (σ : St) : St :=
  (u2 (u1 (u2 (u2 (u2 σ 0 5 0) 0 6 0) 0 7 40) 4 (fillF 9 5 ((u2 (u2 (u2 σ 0 5 0) 0 6 0) 0 7 40) 4))) 8 (ix 0) (-1))
set_option maxRecDepth 20000 in
def f_X3_register (σ : St) (p1 : Int32) (p2 : Int32) (p3 : Int32) (p4 : Int32) : Int32 × St :=
  (if ((f_X3_spanRefusal σ p1 p2 p3 p4.toInt64).1) = 0 then (if (f_X3_textFault ((f_X3_spanRefusal σ p1 p2 p3 p4.toInt64).2) (ix p1) p3 p4) < 0 then (((f_X3_startAnew (f_X3_takeText ((f_X3_spanRefusal σ p1 p2 p3 p4.toInt64).2) (ix p1) p3 p4)) 0 4), (f_X3_startAnew (f_X3_takeText ((f_X3_spanRefusal σ p1 p2 p3 p4.toInt64).2) (ix p1) p3 p4))) else (((-100) - (f_X3_textFault ((f_X3_spanRefusal σ p1 p2 p3 p4.toInt64).2) (ix p1) p3 p4)), (f_X3_spanRefusal σ p1 p2 p3 p4.toInt64).2)) else ((f_X3_spanRefusal σ p1 p2 p3 p4.toInt64).1, (f_X3_spanRefusal σ p1 p2 p3 p4.toInt64).2))
set_option maxRecDepth 20000 in
def f_X3_isSmell (p1 : Int32) : Int32 :=
  (if p1 < 0 then 0 else (if 9 ≤ p1 then 0 else 1))
set_option maxRecDepth 20000 in
def f_X3_half (σ : St) (p1 : Int32) (p2 : Int32) : Int32 × St :=
  (if (f_X3_isSmell p1) = 0 then ((-1), σ) else (if p2 < 1 then ((-2), σ) else (if p2 ≤ 9 then (if (σ 0 4) = 0 then ((-3), σ) else ((σ 4 (ix p1)), (u2 σ 4 (ix p1) p2))) else ((-2), σ))))
set_option maxRecDepth 20000 in
def f_X3_bound (σ : St) (p1 : Int32) : Int32 × St :=
  (if p1 < 0 then ((-2), σ) else (if p1 ≤ 999 then (if (σ 0 4) = 0 then ((-3), σ) else ((σ 0 7), (u2 σ 0 7 p1))) else ((-2), σ)))
set_option maxRecDepth 20000 in
def f_X3_fade (σ : St) (p1 : Nat) (p2 : Int32) (p3 : Int32) (p4 : Int32) : Int32 :=
  (if (σ (17 + p1) 0) = 2 then p3 else (if 1 ≤ (σ 4 (ix p2)) then (p3 >>> ((jmin (if (σ (17 + p1) 0) = 1 then ((p4 / (σ 4 (ix p2))) / 2) else (p4 / (σ 4 (ix p2)))) 31) &&& 31)) else p3))
set_option maxRecDepth 20000 in
def f_X3_isSign (σ : St) (p1 : Int32) : Int32 :=
  (if p1 < 0 then 0 else (if (σ 0 4) ≤ p1 then 0 else 1))
set_option maxRecDepth 20000 in
def f_X3_areTwoSigns (σ : St) (p1 : Int32) (p2 : Int32) : Int32 :=
  (if (f_X3_isSign σ p1) = 0 then 0 else (if (f_X3_isSign σ p2) = 0 then 0 else (if p1 = p2 then 0 else 1)))
set_option maxRecDepth 20000 in
def f_X3_pairNumber (p1 : Int32) (p2 : Int32) : Int32 :=
  ((10 * p1) + p2)
set_option maxRecDepth 20000 in
def lp_X3_apartOf_4 (σ : St) (a0 : Nat) (a1 : Nat) : Nat → Int32 → Int32 → Int32
  | 0, a2, a3 => a2
  | n + 1, a2, a3 => (if 9 ≤ a3 then a2 else (lp_X3_apartOf_4 σ a0 a1 n (a2 + (jabs ((σ a0 (ix a3)) - (σ a1 (ix a3))))) (a3 + 1)))
set_option maxRecDepth 20000 in
def f_X3_apartOf (σ : St) (p1 : Nat) (p2 : Nat) : Int32 :=
  (lp_X3_apartOf_4 σ p1 p2 200 0 0)
set_option maxRecDepth 20000 in
def f_X3_apart (σ : St) (p1 : Int32) (p2 : Int32) : Int32 :=
  (if (f_X3_isSign σ p1) = 0 then (-1) else (if (f_X3_isSign σ p2) = 0 then (-1) else (f_X3_apartOf σ (25 + (ix p1)) (25 + (ix p2)))))
set_option maxRecDepth 20000 in
def f_X3_areAlike (σ : St) (p1 : Nat) (p2 : Nat) : Int32 :=
  (if (σ 0 7) < (8 * (f_X3_apartOf σ p1 p2)) then 0 else 1)
set_option maxRecDepth 20000 in
def lp_X3_twins_24 (σ : St) (a1 : Int32) (a3 : Int32) : Nat → Int32 → Int32 → ((Int32) ⊕ (Int32))
  | 0, a2, a4 => Sum.inr a2
  | n + 1, a2, a4 => (if (σ 0 4) ≤ a4 then (Sum.inr a2) else (if (f_X3_areAlike σ (25 + (ix a3)) (25 + (ix a4))) = 0 then (lp_X3_twins_24 σ a1 a3 n a2 (a4 + 1)) else (if a2 = a1 then (Sum.inl (f_X3_pairNumber a3 a4)) else (lp_X3_twins_24 σ a1 a3 n (a2 + 1) (a4 + 1)))))
set_option maxRecDepth 20000 in
def lp_X3_twins_11 (σ : St) (a1 : Int32) : Nat → Int32 → Int32 → ((Int32) ⊕ (Int32))
  | 0, a2, a3 => Sum.inr a2
  | n + 1, a2, a3 => (if (σ 0 4) ≤ a3 then (Sum.inr a2) else (match (lp_X3_twins_24 σ a1 a3 200 a2 (a3 + 1)) with | Sum.inl r => (Sum.inl r) | Sum.inr v2_24e => (lp_X3_twins_11 σ a1 n v2_24e (a3 + 1))))
set_option maxRecDepth 20000 in
def f_X3_twins (σ : St) (p1 : Int32) : Int32 :=
  (if (-1) ≤ p1 then (match (lp_X3_twins_11 σ p1 200 0 0) with | Sum.inl r => r | Sum.inr v2_11e => (if p1 = (-1) then v2_11e else (-9))) else (-1))
set_option maxRecDepth 20000 in
def lp_X3_areStoppers_2 (σ : St) (a0 : Nat) (a1 : Int32) (a2 : Int32) : Nat → Int32 → ((Int32) ⊕ (Unit))
  | 0, a3 => Sum.inr ()
  | n + 1, a3 => (if a2 ≤ a3 then (Sum.inr ()) else (if (f_X3_isSmell (σ (13 + a0) (ix (a1 + (2 * a3))))) = 0 then (Sum.inl 0) else (if (σ (13 + a0) (ix ((a1 + (2 * a3)) + 1))) < 1 then (Sum.inl 0) else (if (σ (13 + a0) (ix ((a1 + (2 * a3)) + 1))) ≤ 9 then (lp_X3_areStoppers_2 σ a0 a1 a2 n (a3 + 1)) else (Sum.inl 0)))))
set_option maxRecDepth 20000 in
def f_X3_areStoppers (σ : St) (p1 : Nat) (p2 : Int32) (p3 : Int32) : Int32 :=
  (match (lp_X3_areStoppers_2 σ p1 p2 p3 200 0) with | Sum.inl r => r | Sum.inr _ => 1)
set_option maxRecDepth 20000 in
def lp_X3_isTakenFor_3 (a1 : Int32) (a2 : Int32) (a3 : Nat) (a4 : Int32) (a5 : Int32) : Nat → Int32 → St → St
  | 0, a6, σ => σ
  | n + 1, a6, σ => (if 9 ≤ a6 then σ else (lp_X3_isTakenFor_3 a1 a2 a3 a4 a5 n (a6 + 1) (u2 σ 6 (ix a6) (σ (25 + (ix a1)) (ix a6)))))
set_option maxRecDepth 20000 in
def lp_X3_isTakenFor_38 (a2 : Int32) (a3 : Nat) (a4 : Int32) (a5 : Int32) : Nat → Int32 → St → St
  | 0, a6, σ => σ
  | n + 1, a6, σ => (if 10 ≤ a6 then σ else (if ((a5 >>> (a6 &&& 31)) &&& 1) = 0 then (lp_X3_isTakenFor_38 a2 a3 a4 a5 n (a6 + 1) σ) else (lp_X3_isTakenFor_38 a2 a3 a4 a5 n (a6 + 1) (u2 σ 6 (ix (σ (13 + a3) (ix (a4 + (2 * a6))))) ((σ 6 (ix (σ (13 + a3) (ix (a4 + (2 * a6)))))) + (σ (13 + a3) (ix ((a4 + (2 * a6)) + 1))))))))
set_option maxRecDepth 20000 in
def f_X3_isTakenFor (σ : St) (p1 : Int32) (p2 : Int32) (p3 : Nat) (p4 : Int32) (p5 : Int32) : Int32 × St :=
  ((f_X3_areAlike (lp_X3_isTakenFor_38 p2 p3 p4 p5 200 0 (lp_X3_isTakenFor_3 p1 p2 p3 p4 p5 200 0 σ)) 6 (25 + (ix p2))), (lp_X3_isTakenFor_38 p2 p3 p4 p5 200 0 (lp_X3_isTakenFor_3 p1 p2 p3 p4 p5 200 0 σ)))
set_option maxRecDepth 20000 in
def lp_X3_forged_80 (a1 : Int32) (a2 : Int32) (a3 : Int32) (a5 : Int32) (a6 : Int32) : Nat → Int32 → Int32 → Int32 → St → (Int32 × St)
  | 0, a8, a9, a10, σ => (a8, σ)
  | n + 1, a8, a9, a10, σ => (if ((1 : Int32) <<< (a6 &&& 31)) ≤ a10 then (a8, σ) else (if a9 ≤ (f_J6_bitCount_0f7a4 a10) then (lp_X3_forged_80 a1 a2 a3 a5 a6 n a8 a9 (a10 + 1) σ) else (if ((f_X3_isTakenFor σ a1 a2 (ix a3) a5 a10).1) = 0 then (lp_X3_forged_80 a1 a2 a3 a5 a6 n a8 a9 (a10 + 1) ((f_X3_isTakenFor σ a1 a2 (ix a3) a5 a10).2)) else (lp_X3_forged_80 a1 a2 a3 a5 a6 n a10 (f_J6_bitCount_0f7a4 a10) (a10 + 1) ((f_X3_isTakenFor σ a1 a2 (ix a3) a5 a10).2)))))
set_option maxRecDepth 20000 in
def f_X3_forged (σ : St) (p1 : Int32) (p2 : Int32) (p3 : Int32) (p4 : Int32) (p5 : Int32) (p6 : Int32) : Int32 × St :=
  (if (f_X3_areTwoSigns σ p1 p2) = 0 then ((f_X3_refused σ (-1)).1, (f_X3_refused σ (-1)).2) else (if ((f_X3_spanRefusal σ p3 p4 p5 (2 * p6.toInt64)).1) = 0 then (if 10 < p6 then ((-2), (f_X3_spanRefusal σ p3 p4 p5 (2 * p6.toInt64)).2) else (if (f_X3_areStoppers ((f_X3_spanRefusal σ p3 p4 p5 (2 * p6.toInt64)).2) (ix p3) p5 p6) = 0 then ((-2), (f_X3_spanRefusal σ p3 p4 p5 (2 * p6.toInt64)).2) else (match (lp_X3_forged_80 p1 p2 p3 p5 p6 1100 (-9) (p6 + 1) 0 ((f_X3_spanRefusal σ p3 p4 p5 (2 * p6.toInt64)).2)) with | (v8_80e, S_80e) => (v8_80e, S_80e)))) else ((f_X3_spanRefusal σ p3 p4 p5 (2 * p6.toInt64)).1, (f_X3_spanRefusal σ p3 p4 p5 (2 * p6.toInt64)).2)))
set_option maxRecDepth 20000 in
def f_X3_strengthNear (σ : St) (p1 : Nat) (p2 : Nat) (p3 : Int32) (p4 : Int32) : Int32 :=
  ((σ (25 + p1) (ix p4)) + ((((σ (25 + p2) (ix p4)) - (σ (25 + p1) (ix p4))) * p3) / 10))
set_option maxRecDepth 20000 in
def f_X3_near (σ : St) (p1 : Int32) (p2 : Int32) (p3 : Int32) (p4 : Int32) : Int32 :=
  (if (f_X3_isSign σ p1) = 0 then (-1) else (if (f_X3_isSign σ p2) = 0 then (-1) else (if (f_X3_isSmell p4) = 0 then (-1) else (if p3 < 0 then (-2) else (if p3 ≤ 10 then (f_X3_strengthNear σ (ix p1) (ix p2) p3 p4) else (-2))))))
set_option maxRecDepth 20000 in
def lp_X3_steals_22 (a1 : Int32) (a2 : Int32) (a3 : Int32) : Nat → Int32 → St → St
  | 0, a4, σ => σ
  | n + 1, a4, σ => (if 9 ≤ a4 then σ else (lp_X3_steals_22 a1 a2 a3 n (a4 + 1) (u2 σ 6 (ix a4) (f_X3_strengthNear σ (ix a1) (ix a2) a3 a4))))
set_option maxRecDepth 20000 in
def lp_X3_steals_13 (a1 : Int32) (a2 : Int32) : Nat → Int32 → St → ((Int32 × St) ⊕ (St))
  | 0, a3, σ => Sum.inr σ
  | n + 1, a3, σ => (if 10 < a3 then (Sum.inr σ) else (if (f_X3_areAlike (lp_X3_steals_22 a1 a2 a3 200 0 σ) 6 (25 + (ix a2))) = 0 then (lp_X3_steals_13 a1 a2 n (a3 + 1) (lp_X3_steals_22 a1 a2 a3 200 0 σ)) else (Sum.inl (a3, (lp_X3_steals_22 a1 a2 a3 200 0 σ)))))
set_option maxRecDepth 20000 in
def f_X3_steals (σ : St) (p1 : Int32) (p2 : Int32) : Int32 × St :=
  (if (f_X3_areTwoSigns σ p1 p2) = 0 then ((-1), σ) else (match (lp_X3_steals_13 p1 p2 200 0 σ) with | Sum.inl r => r | Sum.inr S_13e => ((-9), S_13e)))
set_option maxRecDepth 20000 in
def lp_X3_leastApart_7 (σ : St) (a1 : Int32) (a2 : Int32) (a3 : Int32) (a4 : Int32) : Nat → Int32 → Int32 → Int32
  | 0, a5, a6 => a5
  | n + 1, a5, a6 => (if (σ 0 4) ≤ a6 then a5 else (lp_X3_leastApart_7 σ a1 a2 a3 a4 n (jmin a5 (((((σ (17 + (ix a6)) 1) - (σ (25 + (ix a6)) (ix a1))) - (σ (25 + (ix a6)) (ix a2))) + (jabs (a3 - (σ (25 + (ix a6)) (ix a1))))) + (jabs (a4 - (σ (25 + (ix a6)) (ix a2)))))) (a6 + 1)))
set_option maxRecDepth 20000 in
def f_X3_leastApart (σ : St) (p1 : Int32) (p2 : Int32) (p3 : Int32) (p4 : Int32) : Int32 :=
  (lp_X3_leastApart_7 σ p1 p2 p3 p4 200 2147483647 0)
set_option maxRecDepth 20000 in
def lp_X3_tryStrengths_11 (a1 : Int32) (a2 : Int32) (a3 : Int32) : Nat → Int32 → St → St
  | 0, a4, σ => σ
  | n + 1, a4, σ => (if 9 < a4 then σ else (if (f_X3_leastApart σ a1 a2 a3 a4) ≤ (σ 8 (ix 0)) then (lp_X3_tryStrengths_11 a1 a2 a3 n (a4 + 1) σ) else (lp_X3_tryStrengths_11 a1 a2 a3 n (a4 + 1) (u2 (u2 (u2 (u2 (u2 σ 8 (ix 0) (f_X3_leastApart σ a1 a2 a3 a4)) 8 (ix 1) a1) 8 (ix 2) a2) 8 (ix 3) a3) 8 (ix 4) a4))))
set_option maxRecDepth 20000 in
def lp_X3_tryStrengths_2 (a1 : Int32) (a2 : Int32) : Nat → Int32 → St → St
  | 0, a3, σ => σ
  | n + 1, a3, σ => (if 9 < a3 then σ else (lp_X3_tryStrengths_2 a1 a2 n (a3 + 1) (lp_X3_tryStrengths_11 a1 a2 a3 200 0 σ)))
set_option maxRecDepth 20000 in
def f_X3_tryStrengths (σ : St) (p1 : Int32) (p2 : Int32) : St :=
  (lp_X3_tryStrengths_2 p1 p2 200 0 σ)
set_option maxRecDepth 20000 in
def lp_X3_seekNewSmell_12 (a1 : Int32) : Nat → Int32 → St → St
  | 0, a2, σ => σ
  | n + 1, a2, σ => (if 9 ≤ a2 then σ else (lp_X3_seekNewSmell_12 a1 n (a2 + 1) (f_X3_tryStrengths σ a1 a2)))
set_option maxRecDepth 20000 in
def lp_X3_seekNewSmell_2  : Nat → Int32 → St → St
  | 0, a1, σ => σ
  | n + 1, a1, σ => (if 9 ≤ a1 then σ else (lp_X3_seekNewSmell_2 n (a1 + 1) (lp_X3_seekNewSmell_12 a1 200 (a1 + 1) σ)))
set_option maxRecDepth 20000 in
def f_X3_seekNewSmell (σ : St) : St :=
  (lp_X3_seekNewSmell_2 200 0 σ)
set_option maxRecDepth 20000 in
def f_X3_fresh (σ : St) (p1 : Int32) : Int32 × St :=
  (if p1 < 0 then ((-2), σ) else (if p1 < 5 then (if (σ 0 4) = 0 then ((-3), σ) else (if (σ 8 (ix 0)) = (-1) then (((f_X3_seekNewSmell σ) 8 (ix p1)), (f_X3_seekNewSmell σ)) else ((σ 8 (ix p1)), σ))) else ((-2), σ)))
set_option maxRecDepth 20000 in
def lp_X3_isDoor_2 (σ : St) (a0 : Nat) (a1 : Int32) (a2 : Int32) : Nat → Int32 → ((Int32) ⊕ (Unit))
  | 0, a3 => Sum.inr ()
  | n + 1, a3 => (if 9 ≤ a3 then (Sum.inr ()) else (if (σ (13 + a0) (ix (a1 + a3))) < 0 then (Sum.inl 0) else (if (σ (13 + a0) (ix (a1 + a3))) ≤ 99 then (lp_X3_isDoor_2 σ a0 a1 a2 n (a3 + 1)) else (Sum.inl 0))))
set_option maxRecDepth 20000 in
def f_X3_isDoor (σ : St) (p1 : Nat) (p2 : Int32) (p3 : Int32) : Int32 :=
  (match (lp_X3_isDoor_2 σ p1 p2 p3 200 0) with | Sum.inl r => r | Sum.inr _ => (if p3 < 0 then 0 else (if 3 < p3 then 0 else 1)))
set_option maxRecDepth 20000 in
def lp_X3_leftFrom_6 (σ : St) (a1 : Nat) (a2 : Int32) (a3 : Nat) (a4 : Int32) : Nat → Int32 → Int32 → Int32
  | 0, a5, a6 => a5
  | n + 1, a5, a6 => (if 9 ≤ a6 then a5 else (lp_X3_leftFrom_6 σ a1 a2 a3 a4 n (a5 + (jabs ((f_X3_fade σ a1 a6 (8 * (σ (25 + a1) (ix a6))) a2) - (σ (13 + a3) (ix (a4 + a6)))))) (a6 + 1)))
set_option maxRecDepth 20000 in
def f_X3_leftFrom (σ : St) (p1 : Nat) (p2 : Int32) (p3 : Nat) (p4 : Int32) : Int32 :=
  (lp_X3_leftFrom_6 σ p1 p2 p3 p4 200 0 0)
set_option maxRecDepth 20000 in
def lp_X3_countHours_26 (a1 : Int32) (a2 : Nat) (a3 : Int32) (a4 : Int32) (a5 : Int32) : Nat → Int32 → St → St
  | 0, a6, σ => σ
  | n + 1, a6, σ => (if 10 ≤ a6 then σ else (if (σ 0 7) < (f_X3_leftFrom σ (ix a5) (a6 + (a6 * a1)) a2 a3) then (lp_X3_countHours_26 a1 a2 a3 a4 a5 n (a6 + 1) σ) else (lp_X3_countHours_26 a1 a2 a3 a4 a5 n (a6 + 1) (u2 σ 7 (ix a5) ((σ 7 (ix a5)) + 1)))))
set_option maxRecDepth 20000 in
def lp_X3_countHours_6 (a1 : Int32) (a2 : Nat) (a3 : Int32) : Nat → Int32 → Int32 → St → (Int32 × St)
  | 0, a4, a5, σ => (a4, σ)
  | n + 1, a4, a5, σ => (if (σ 0 4) ≤ a5 then (a4, σ) else (lp_X3_countHours_6 a1 a2 a3 n (a4 + ((lp_X3_countHours_26 a1 a2 a3 a4 a5 200 0 (u2 σ 7 (ix a5) 0)) 7 (ix a5))) (a5 + 1) (lp_X3_countHours_26 a1 a2 a3 a4 a5 200 0 (u2 σ 7 (ix a5) 0))))
set_option maxRecDepth 20000 in
def f_X3_countHours (σ : St) (p1 : Int32) (p2 : Nat) (p3 : Int32) : Int32 × St :=
  (match (lp_X3_countHours_6 p1 p2 p3 200 0 0 σ) with | (v4_6e, S_6e) => (v4_6e, S_6e))
set_option maxRecDepth 20000 in
def lp_X3_ofShare_13 (a0 : Int32) (a1 : Int32) (a3 : Int32) : Nat → Int32 → ((Int32) ⊕ (Unit))
  | 0, a4 => Sum.inr ()
  | n + 1, a4 => (if a4 ≤ 1 then (Sum.inr ()) else (if (a0 - (a0 / a4) * a4) = 0 then (if (a1 - (a1 / a4) * a4) = 0 then (Sum.inl (a3 / a4)) else (lp_X3_ofShare_13 a0 a1 a3 n (a4 + (-1)))) else (lp_X3_ofShare_13 a0 a1 a3 n (a4 + (-1)))))
set_option maxRecDepth 20000 in
def f_X3_ofShare (p1 : Int32) (p2 : Int32) (p3 : Int32) : Int32 :=
  (match (lp_X3_ofShare_13 p1 p2 (if p3 = 0 then p1 else p2) 200 p2) with | Sum.inl r => r | Sum.inr _ => (if p3 = 0 then p1 else p2))
set_option maxRecDepth 20000 in
def f_X3_odds (σ : St) (p1 : Int32) (p2 : Int32) (p3 : Int32) (p4 : Int32) (p5 : Int32) (p6 : Int32) : Int64 × St :=
  (if (f_X3_isSign (u2 σ 0 9 0) p1) = 0 then ((-9223372036854775808), (u2 σ 0 9 0)) else (if ((f_X3_spanRefusal (u2 σ 0 9 0) p3 p4 p5 9).1) = 0 then (if (f_X3_isDoor ((f_X3_spanRefusal (u2 σ 0 9 0) p3 p4 p5 9).2) (ix p3) p5 p2) = 0 then ((-9223372036854775808), (f_X3_spanRefusal (u2 σ 0 9 0) p3 p4 p5 9).2) else (if p6 < 0 then ((-9223372036854775808), (f_X3_spanRefusal (u2 σ 0 9 0) p3 p4 p5 9).2) else (if p6 ≤ 1 then (if ((f_X3_countHours ((f_X3_spanRefusal (u2 σ 0 9 0) p3 p4 p5 9).2) p2 (ix p3) p5).1) = 0 then ((-9223372036854775808), (f_X3_countHours ((f_X3_spanRefusal (u2 σ 0 9 0) p3 p4 p5 9).2) p2 (ix p3) p5).2) else ((f_X3_ofShare (((f_X3_countHours ((f_X3_spanRefusal (u2 σ 0 9 0) p3 p4 p5 9).2) p2 (ix p3) p5).2) 7 (ix p1)) ((f_X3_countHours ((f_X3_spanRefusal (u2 σ 0 9 0) p3 p4 p5 9).2) p2 (ix p3) p5).1) p6).toInt64, (f_X3_countHours ((f_X3_spanRefusal (u2 σ 0 9 0) p3 p4 p5 9).2) p2 (ix p3) p5).2)) else ((-9223372036854775808), (f_X3_spanRefusal (u2 σ 0 9 0) p3 p4 p5 9).2)))) else ((-9223372036854775808), (f_X3_spanRefusal (u2 σ 0 9 0) p3 p4 p5 9).2)))
set_option maxRecDepth 20000 in
def lp_X3_who_63 (σ : St) : Nat → Int32 → Int32 → Int32 → Int32
  | 0, a6, a7, a8 => a6
  | n + 1, a6, a7, a8 => (if (σ 0 4) ≤ a8 then a6 else (if (σ 7 (ix a8)) ≤ a7 then (lp_X3_who_63 σ n a6 a7 (a8 + 1)) else (lp_X3_who_63 σ n a8 (σ 7 (ix a8)) (a8 + 1))))
set_option maxRecDepth 20000 in
def f_X3_who (σ : St) (p1 : Int32) (p2 : Int32) (p3 : Int32) (p4 : Int32) : Int32 × St :=
  (if ((f_X3_spanRefusal σ p2 p3 p4 9).1) = 0 then (if (f_X3_isDoor ((f_X3_spanRefusal σ p2 p3 p4 9).2) (ix p2) p4 p1) = 0 then ((-2), (f_X3_spanRefusal σ p2 p3 p4 9).2) else ((lp_X3_who_63 ((f_X3_countHours ((f_X3_spanRefusal σ p2 p3 p4 9).2) p1 (ix p2) p4).2) 200 (-9) 0 0), (f_X3_countHours ((f_X3_spanRefusal σ p2 p3 p4 9).2) p1 (ix p2) p4).2)) else ((f_X3_spanRefusal σ p2 p3 p4 9).1, (f_X3_spanRefusal σ p2 p3 p4 9).2))
set_option maxRecDepth 20000 in
def f_X3_sheet (σ : St) (p1 : Int32) (p2 : Int32) (p3 : Int32) : Int32 × St :=
  (if (f_X3_isSheet p1) = 0 then ((f_X3_refused σ (-1)).1, (f_X3_refused σ (-1)).2) else (if (f_X3_isLane p2) = 0 then ((f_X3_refused σ (-2)).1, (f_X3_refused σ (-2)).2) else (if p3 ≤ 90 then (if 0 ≤ p3 then (1, (f_X1_renew (u2 σ 0 9 0) (ix p1) p2 p3)) else ((f_X3_faulted σ 4).1, (f_X3_faulted σ 4).2)) else ((f_X3_refused σ (-2)).1, (f_X3_refused σ (-2)).2))))
set_option maxRecDepth 20000 in
def f_X3_put (σ : St) (p1 : Int32) (p2 : Int32) (p3 : Int32) : Int32 × St :=
  (if (f_X3_isSheet p1) = 0 then ((f_X3_refused σ (-1)).1, (f_X3_refused σ (-1)).2) else (if (σ (9 + (ix p1)) 0) = 0 then ((f_X3_faulted σ 1).1, (f_X3_faulted σ 1).2) else (if (f_X1_lacks σ (ix p1) p2 1) = 0 then (1, (u2 (u2 σ 0 9 0) (13 + (ix p1)) (ix p2) (f_X1_cut (u2 σ 0 9 0) (ix p1) p3))) else ((f_X3_faulted σ 3).1, (f_X3_faulted σ 3).2))))
set_option maxRecDepth 20000 in
def f_X3_cell (σ : St) (p1 : Int32) (p2 : Int32) (p3 : Int32) : Int64 × St :=
  (if ((f_X3_spanRefusal σ p1 p3 p2 1).1) = 0 then ((((f_X3_spanRefusal σ p1 p3 p2 1).2) (13 + (ix p1)) (ix p2)).toInt64, (f_X3_spanRefusal σ p1 p3 p2 1).2) else ((-9223372036854775808), (f_X3_spanRefusal σ p1 p3 p2 1).2))
set_option maxRecDepth 20000 in
def f_X3_fault (σ : St) : Int32 :=
  (σ 0 9)
set_option maxRecDepth 20000 in
def f_L_low (p1 : Int32) (p2 : Int32) : Int32 :=
  ((p1 &&& 2147483647) - ((p1 &&& 2147483647) / p2) * p2)
set_option maxRecDepth 20000 in
def f_L_set (σ : St) (p3 : Int32) (p4 : Int32) (p5 : Int32) : St :=
  (if 6 ≤ p3 then (u2 σ 2 (ix ((10 * (p3 - 6)) + p4)) p5) else (u2 σ 1 (ix ((10 * p3) + p4)) p5))
set_option maxRecDepth 20000 in
def f_L_get (σ : St) (p3 : Int32) (p4 : Int32) : Int32 :=
  (if 6 ≤ p3 then (σ 2 (ix ((10 * (p3 - 6)) + p4))) else (σ 1 (ix ((10 * p3) + p4))))
set_option maxRecDepth 20000 in
def f_L_off (p1 : Int32) (p2 : Int32) : Int32 :=
  (if p2 ≤ p1 then (p1 - p2) else (p2 - p1))
set_option maxRecDepth 20000 in
def lp_L_fades_29 (σ : St) (a6 : Int32) : Nat → Int32 → Int32 → Int32
  | 0, a5, a7 => a5
  | n + 1, a5, a7 => (if a7 < a6 then a5 else (lp_L_fades_29 σ a6 n ((a5 - (a5 - (a5 / 2) * 2)) / 2) (a7 - a6)))
set_option maxRecDepth 20000 in
def f_L_fades (σ : St) (p2 : Int32) (p3 : Int32) (p4 : Int32) (p5 : Int32) : Int32 :=
  (lp_L_fades_29 σ (if p2 = 2 then 1000 else ((σ 0 (ix (3 + p3))) * (1 + p2))) 200 p4 p5)
set_option maxRecDepth 20000 in
def lp_L_apart_6 (σ : St) (a2 : Int32) (a3 : Int32) : Nat → Int32 → Int32 → Int32
  | 0, a4, a5 => a4
  | n + 1, a4, a5 => (if 10 ≤ a5 then a4 else (lp_L_apart_6 σ a2 a3 n (a4 + (f_L_off (f_L_get σ a2 a5) (f_L_get σ a3 a5))) (a5 + 1)))
set_option maxRecDepth 20000 in
def f_L_apart (σ : St) (p3 : Int32) (p4 : Int32) : Int32 :=
  (lp_L_apart_6 σ p3 p4 200 0 1)
set_option maxRecDepth 20000 in
def lp_L_bits_4  : Nat → Int32 → Int32 → Int32
  | 0, a1, a2 => a1
  | n + 1, a1, a2 => (if a2 = 0 then a1 else (lp_L_bits_4 n (a1 + 1) (a2 &&& (a2 - 1))))
set_option maxRecDepth 20000 in
def f_L_bits (p1 : Int32) : Int32 :=
  (lp_L_bits_4 1100 0 p1)
theorem hd_J6_bitCount_0f7a4 : yJ6_bitCount_0f7a4.cls ≠ "java/lang/invoke/MethodHandle" ∧ yJ6_bitCount_0f7a4.cls ≠ "java/lang/invoke/VarHandle" ∧ (parseMethodDescriptor yJ6_bitCount_0f7a4.desc).map (fun d => d.parameters.length) = some 1 := by decide +kernel
theorem hd_X1_renew : yX1_renew.cls ≠ "java/lang/invoke/MethodHandle" ∧ yX1_renew.cls ≠ "java/lang/invoke/VarHandle" ∧ (parseMethodDescriptor yX1_renew.desc).map (fun d => d.parameters.length) = some 2 := by decide +kernel
theorem hd_X1_cut : yX1_cut.cls ≠ "java/lang/invoke/MethodHandle" ∧ yX1_cut.cls ≠ "java/lang/invoke/VarHandle" ∧ (parseMethodDescriptor yX1_cut.desc).map (fun d => d.parameters.length) = some 1 := by decide +kernel
theorem hd_X1_lacks : yX1_lacks.cls ≠ "java/lang/invoke/MethodHandle" ∧ yX1_lacks.cls ≠ "java/lang/invoke/VarHandle" ∧ (parseMethodDescriptor yX1_lacks.desc).map (fun d => d.parameters.length) = some 2 := by decide +kernel
theorem hd_X3_isSheet : yX3_isSheet.cls ≠ "java/lang/invoke/MethodHandle" ∧ yX3_isSheet.cls ≠ "java/lang/invoke/VarHandle" ∧ (parseMethodDescriptor yX3_isSheet.desc).map (fun d => d.parameters.length) = some 1 := by decide +kernel
theorem hd_X3_refused : yX3_refused.cls ≠ "java/lang/invoke/MethodHandle" ∧ yX3_refused.cls ≠ "java/lang/invoke/VarHandle" ∧ (parseMethodDescriptor yX3_refused.desc).map (fun d => d.parameters.length) = some 1 := by decide +kernel
theorem hd_X3_isLane : yX3_isLane.cls ≠ "java/lang/invoke/MethodHandle" ∧ yX3_isLane.cls ≠ "java/lang/invoke/VarHandle" ∧ (parseMethodDescriptor yX3_isLane.desc).map (fun d => d.parameters.length) = some 1 := by decide +kernel
theorem hd_X3_faulted : yX3_faulted.cls ≠ "java/lang/invoke/MethodHandle" ∧ yX3_faulted.cls ≠ "java/lang/invoke/VarHandle" ∧ (parseMethodDescriptor yX3_faulted.desc).map (fun d => d.parameters.length) = some 1 := by decide +kernel
theorem hd_X3_spanRefusal : yX3_spanRefusal.cls ≠ "java/lang/invoke/MethodHandle" ∧ yX3_spanRefusal.cls ≠ "java/lang/invoke/VarHandle" ∧ (parseMethodDescriptor yX3_spanRefusal.desc).map (fun d => d.parameters.length) = some 4 := by decide +kernel
theorem hd_X3_kindOf : yX3_kindOf.cls ≠ "java/lang/invoke/MethodHandle" ∧ yX3_kindOf.cls ≠ "java/lang/invoke/VarHandle" ∧ (parseMethodDescriptor yX3_kindOf.desc).map (fun d => d.parameters.length) = some 1 := by decide +kernel
theorem hd_X3_goesOn : yX3_goesOn.cls ≠ "java/lang/invoke/MethodHandle" ∧ yX3_goesOn.cls ≠ "java/lang/invoke/VarHandle" ∧ (parseMethodDescriptor yX3_goesOn.desc).map (fun d => d.parameters.length) = some 2 := by decide +kernel
theorem hd_X3_textFault : yX3_textFault.cls ≠ "java/lang/invoke/MethodHandle" ∧ yX3_textFault.cls ≠ "java/lang/invoke/VarHandle" ∧ (parseMethodDescriptor yX3_textFault.desc).map (fun d => d.parameters.length) = some 3 := by decide +kernel
theorem hd_X3_takeText : yX3_takeText.cls ≠ "java/lang/invoke/MethodHandle" ∧ yX3_takeText.cls ≠ "java/lang/invoke/VarHandle" ∧ (parseMethodDescriptor yX3_takeText.desc).map (fun d => d.parameters.length) = some 3 := by decide +kernel
theorem hd_X3_startAnew : yX3_startAnew.cls ≠ "java/lang/invoke/MethodHandle" ∧ yX3_startAnew.cls ≠ "java/lang/invoke/VarHandle" ∧ (parseMethodDescriptor yX3_startAnew.desc).map (fun d => d.parameters.length) = some 0 := by decide +kernel
theorem hd_X3_register : yX3_register.cls ≠ "java/lang/invoke/MethodHandle" ∧ yX3_register.cls ≠ "java/lang/invoke/VarHandle" ∧ (parseMethodDescriptor yX3_register.desc).map (fun d => d.parameters.length) = some 4 := by decide +kernel
theorem hd_X3_isSmell : yX3_isSmell.cls ≠ "java/lang/invoke/MethodHandle" ∧ yX3_isSmell.cls ≠ "java/lang/invoke/VarHandle" ∧ (parseMethodDescriptor yX3_isSmell.desc).map (fun d => d.parameters.length) = some 1 := by decide +kernel
theorem hd_X3_half : yX3_half.cls ≠ "java/lang/invoke/MethodHandle" ∧ yX3_half.cls ≠ "java/lang/invoke/VarHandle" ∧ (parseMethodDescriptor yX3_half.desc).map (fun d => d.parameters.length) = some 2 := by decide +kernel
theorem hd_X3_bound : yX3_bound.cls ≠ "java/lang/invoke/MethodHandle" ∧ yX3_bound.cls ≠ "java/lang/invoke/VarHandle" ∧ (parseMethodDescriptor yX3_bound.desc).map (fun d => d.parameters.length) = some 1 := by decide +kernel
theorem hd_X3_fade : yX3_fade.cls ≠ "java/lang/invoke/MethodHandle" ∧ yX3_fade.cls ≠ "java/lang/invoke/VarHandle" ∧ (parseMethodDescriptor yX3_fade.desc).map (fun d => d.parameters.length) = some 4 := by decide +kernel
theorem hd_X3_isSign : yX3_isSign.cls ≠ "java/lang/invoke/MethodHandle" ∧ yX3_isSign.cls ≠ "java/lang/invoke/VarHandle" ∧ (parseMethodDescriptor yX3_isSign.desc).map (fun d => d.parameters.length) = some 1 := by decide +kernel
theorem hd_X3_areTwoSigns : yX3_areTwoSigns.cls ≠ "java/lang/invoke/MethodHandle" ∧ yX3_areTwoSigns.cls ≠ "java/lang/invoke/VarHandle" ∧ (parseMethodDescriptor yX3_areTwoSigns.desc).map (fun d => d.parameters.length) = some 2 := by decide +kernel
theorem hd_X3_pairNumber : yX3_pairNumber.cls ≠ "java/lang/invoke/MethodHandle" ∧ yX3_pairNumber.cls ≠ "java/lang/invoke/VarHandle" ∧ (parseMethodDescriptor yX3_pairNumber.desc).map (fun d => d.parameters.length) = some 2 := by decide +kernel
theorem hd_X3_apartOf : yX3_apartOf.cls ≠ "java/lang/invoke/MethodHandle" ∧ yX3_apartOf.cls ≠ "java/lang/invoke/VarHandle" ∧ (parseMethodDescriptor yX3_apartOf.desc).map (fun d => d.parameters.length) = some 2 := by decide +kernel
theorem hd_X3_apart : yX3_apart.cls ≠ "java/lang/invoke/MethodHandle" ∧ yX3_apart.cls ≠ "java/lang/invoke/VarHandle" ∧ (parseMethodDescriptor yX3_apart.desc).map (fun d => d.parameters.length) = some 2 := by decide +kernel
theorem hd_X3_areAlike : yX3_areAlike.cls ≠ "java/lang/invoke/MethodHandle" ∧ yX3_areAlike.cls ≠ "java/lang/invoke/VarHandle" ∧ (parseMethodDescriptor yX3_areAlike.desc).map (fun d => d.parameters.length) = some 2 := by decide +kernel
theorem hd_X3_twins : yX3_twins.cls ≠ "java/lang/invoke/MethodHandle" ∧ yX3_twins.cls ≠ "java/lang/invoke/VarHandle" ∧ (parseMethodDescriptor yX3_twins.desc).map (fun d => d.parameters.length) = some 1 := by decide +kernel
theorem hd_X3_areStoppers : yX3_areStoppers.cls ≠ "java/lang/invoke/MethodHandle" ∧ yX3_areStoppers.cls ≠ "java/lang/invoke/VarHandle" ∧ (parseMethodDescriptor yX3_areStoppers.desc).map (fun d => d.parameters.length) = some 3 := by decide +kernel
theorem hd_X3_isTakenFor : yX3_isTakenFor.cls ≠ "java/lang/invoke/MethodHandle" ∧ yX3_isTakenFor.cls ≠ "java/lang/invoke/VarHandle" ∧ (parseMethodDescriptor yX3_isTakenFor.desc).map (fun d => d.parameters.length) = some 5 := by decide +kernel
theorem hd_X3_forged : yX3_forged.cls ≠ "java/lang/invoke/MethodHandle" ∧ yX3_forged.cls ≠ "java/lang/invoke/VarHandle" ∧ (parseMethodDescriptor yX3_forged.desc).map (fun d => d.parameters.length) = some 6 := by decide +kernel
theorem hd_X3_strengthNear : yX3_strengthNear.cls ≠ "java/lang/invoke/MethodHandle" ∧ yX3_strengthNear.cls ≠ "java/lang/invoke/VarHandle" ∧ (parseMethodDescriptor yX3_strengthNear.desc).map (fun d => d.parameters.length) = some 4 := by decide +kernel
theorem hd_X3_near : yX3_near.cls ≠ "java/lang/invoke/MethodHandle" ∧ yX3_near.cls ≠ "java/lang/invoke/VarHandle" ∧ (parseMethodDescriptor yX3_near.desc).map (fun d => d.parameters.length) = some 4 := by decide +kernel
theorem hd_X3_steals : yX3_steals.cls ≠ "java/lang/invoke/MethodHandle" ∧ yX3_steals.cls ≠ "java/lang/invoke/VarHandle" ∧ (parseMethodDescriptor yX3_steals.desc).map (fun d => d.parameters.length) = some 2 := by decide +kernel
theorem hd_X3_leastApart : yX3_leastApart.cls ≠ "java/lang/invoke/MethodHandle" ∧ yX3_leastApart.cls ≠ "java/lang/invoke/VarHandle" ∧ (parseMethodDescriptor yX3_leastApart.desc).map (fun d => d.parameters.length) = some 4 := by decide +kernel
theorem hd_X3_tryStrengths : yX3_tryStrengths.cls ≠ "java/lang/invoke/MethodHandle" ∧ yX3_tryStrengths.cls ≠ "java/lang/invoke/VarHandle" ∧ (parseMethodDescriptor yX3_tryStrengths.desc).map (fun d => d.parameters.length) = some 2 := by decide +kernel
theorem hd_X3_seekNewSmell : yX3_seekNewSmell.cls ≠ "java/lang/invoke/MethodHandle" ∧ yX3_seekNewSmell.cls ≠ "java/lang/invoke/VarHandle" ∧ (parseMethodDescriptor yX3_seekNewSmell.desc).map (fun d => d.parameters.length) = some 0 := by decide +kernel
theorem hd_X3_fresh : yX3_fresh.cls ≠ "java/lang/invoke/MethodHandle" ∧ yX3_fresh.cls ≠ "java/lang/invoke/VarHandle" ∧ (parseMethodDescriptor yX3_fresh.desc).map (fun d => d.parameters.length) = some 1 := by decide +kernel
theorem hd_X3_isDoor : yX3_isDoor.cls ≠ "java/lang/invoke/MethodHandle" ∧ yX3_isDoor.cls ≠ "java/lang/invoke/VarHandle" ∧ (parseMethodDescriptor yX3_isDoor.desc).map (fun d => d.parameters.length) = some 3 := by decide +kernel
theorem hd_X3_leftFrom : yX3_leftFrom.cls ≠ "java/lang/invoke/MethodHandle" ∧ yX3_leftFrom.cls ≠ "java/lang/invoke/VarHandle" ∧ (parseMethodDescriptor yX3_leftFrom.desc).map (fun d => d.parameters.length) = some 4 := by decide +kernel
theorem hd_X3_countHours : yX3_countHours.cls ≠ "java/lang/invoke/MethodHandle" ∧ yX3_countHours.cls ≠ "java/lang/invoke/VarHandle" ∧ (parseMethodDescriptor yX3_countHours.desc).map (fun d => d.parameters.length) = some 3 := by decide +kernel
theorem hd_X3_ofShare : yX3_ofShare.cls ≠ "java/lang/invoke/MethodHandle" ∧ yX3_ofShare.cls ≠ "java/lang/invoke/VarHandle" ∧ (parseMethodDescriptor yX3_ofShare.desc).map (fun d => d.parameters.length) = some 3 := by decide +kernel
theorem hd_X3_odds : yX3_odds.cls ≠ "java/lang/invoke/MethodHandle" ∧ yX3_odds.cls ≠ "java/lang/invoke/VarHandle" ∧ (parseMethodDescriptor yX3_odds.desc).map (fun d => d.parameters.length) = some 6 := by decide +kernel
theorem hd_X3_who : yX3_who.cls ≠ "java/lang/invoke/MethodHandle" ∧ yX3_who.cls ≠ "java/lang/invoke/VarHandle" ∧ (parseMethodDescriptor yX3_who.desc).map (fun d => d.parameters.length) = some 4 := by decide +kernel
theorem hd_X3_sheet : yX3_sheet.cls ≠ "java/lang/invoke/MethodHandle" ∧ yX3_sheet.cls ≠ "java/lang/invoke/VarHandle" ∧ (parseMethodDescriptor yX3_sheet.desc).map (fun d => d.parameters.length) = some 3 := by decide +kernel
theorem hd_X3_put : yX3_put.cls ≠ "java/lang/invoke/MethodHandle" ∧ yX3_put.cls ≠ "java/lang/invoke/VarHandle" ∧ (parseMethodDescriptor yX3_put.desc).map (fun d => d.parameters.length) = some 3 := by decide +kernel
theorem hd_X3_cell : yX3_cell.cls ≠ "java/lang/invoke/MethodHandle" ∧ yX3_cell.cls ≠ "java/lang/invoke/VarHandle" ∧ (parseMethodDescriptor yX3_cell.desc).map (fun d => d.parameters.length) = some 3 := by decide +kernel
theorem hd_X3_fault : yX3_fault.cls ≠ "java/lang/invoke/MethodHandle" ∧ yX3_fault.cls ≠ "java/lang/invoke/VarHandle" ∧ (parseMethodDescriptor yX3_fault.desc).map (fun d => d.parameters.length) = some 0 := by decide +kernel
theorem hd_L_low : yL_low.cls ≠ "java/lang/invoke/MethodHandle" ∧ yL_low.cls ≠ "java/lang/invoke/VarHandle" ∧ (parseMethodDescriptor yL_low.desc).map (fun d => d.parameters.length) = some 2 := by decide +kernel
theorem hd_L_set : yL_set.cls ≠ "java/lang/invoke/MethodHandle" ∧ yL_set.cls ≠ "java/lang/invoke/VarHandle" ∧ (parseMethodDescriptor yL_set.desc).map (fun d => d.parameters.length) = some 5 := by decide +kernel
theorem hd_L_get : yL_get.cls ≠ "java/lang/invoke/MethodHandle" ∧ yL_get.cls ≠ "java/lang/invoke/VarHandle" ∧ (parseMethodDescriptor yL_get.desc).map (fun d => d.parameters.length) = some 4 := by decide +kernel
theorem hd_L_off : yL_off.cls ≠ "java/lang/invoke/MethodHandle" ∧ yL_off.cls ≠ "java/lang/invoke/VarHandle" ∧ (parseMethodDescriptor yL_off.desc).map (fun d => d.parameters.length) = some 2 := by decide +kernel
theorem hd_L_fades : yL_fades.cls ≠ "java/lang/invoke/MethodHandle" ∧ yL_fades.cls ≠ "java/lang/invoke/VarHandle" ∧ (parseMethodDescriptor yL_fades.desc).map (fun d => d.parameters.length) = some 5 := by decide +kernel
theorem hd_L_apart : yL_apart.cls ≠ "java/lang/invoke/MethodHandle" ∧ yL_apart.cls ≠ "java/lang/invoke/VarHandle" ∧ (parseMethodDescriptor yL_apart.desc).map (fun d => d.parameters.length) = some 4 := by decide +kernel
theorem hd_L_bits : yL_bits.cls ≠ "java/lang/invoke/MethodHandle" ∧ yL_bits.cls ≠ "java/lang/invoke/VarHandle" ∧ (parseMethodDescriptor yL_bits.desc).map (fun d => d.parameters.length) = some 1 := by decide +kernel
end
section
/-! what the answers of the class's own questions say; that the numbers stay in their rows -/
theorem bf_isSign_n {σ : St} {x : Int32} (h : ¬ f_X3_isSign σ x = 0) : 0 ≤ x.toInt ∧ x.toInt < (σ 0 4).toInt := by
  unfold f_X3_isSign at h
  by_cases h1 : x < 0
  · rw [if_pos h1] at h; exact absurd rfl h
  · rw [if_neg h1] at h
    by_cases h2 : σ 0 4 ≤ x
    · rw [if_pos h2] at h; exact absurd rfl h
    · exact ⟨qt_nlt h1, qt_nle h2⟩
theorem bf_isSmell_n {x : Int32} (h : ¬ f_X3_isSmell x = 0) : 0 ≤ x.toInt ∧ x.toInt < 9 := by
  unfold f_X3_isSmell at h
  by_cases h1 : x < 0
  · rw [if_pos h1] at h; exact absurd rfl h
  · rw [if_neg h1] at h
    by_cases h2 : 9 ≤ x
    · rw [if_pos h2] at h; exact absurd rfl h
    · exact ⟨qt_nlt h1, qt_nle h2⟩
theorem bf_isSheet_n {x : Int32} (h : ¬ f_X3_isSheet x = 0) : 0 ≤ x.toInt ∧ x.toInt < 4 := by
  unfold f_X3_isSheet at h
  by_cases h1 : x < 0
  · rw [if_pos h1] at h; exact absurd rfl h
  · rw [if_neg h1] at h
    by_cases h2 : 4 ≤ x
    · rw [if_pos h2] at h; exact absurd rfl h
    · exact ⟨qt_nlt h1, qt_nle h2⟩
theorem bf_areTwoSigns_n {σ : St} {x y : Int32} (h : ¬ f_X3_areTwoSigns σ x y = 0) : (0 ≤ x.toInt ∧ x.toInt < (σ 0 4).toInt) ∧ (0 ≤ y.toInt ∧ y.toInt < (σ 0 4).toInt) ∧ x ≠ y := by
  unfold f_X3_areTwoSigns at h
  by_cases h1 : f_X3_isSign σ x = 0
  · rw [if_pos h1] at h; exact absurd rfl h
  · rw [if_neg h1] at h
    by_cases h2 : f_X3_isSign σ y = 0
    · rw [if_pos h2] at h; exact absurd rfl h
    · rw [if_neg h2] at h
      by_cases h3 : x = y
      · rw [if_pos h3] at h; exact absurd rfl h
      · exact ⟨bf_isSign_n h1, bf_isSign_n h2, h3⟩
/-- the stoppers of a set lie in their sheet -/
def HST (σ : St) (q : Nat) (a s : Int32) : Prop := ∀ k : Int32, 0 ≤ k.toInt → k.toInt < 10 → ¬ ((s >>> (k &&& 31)) &&& 1) = 0 → vp_in (a + 2 * k) 90 ∧ vp_in (a + 2 * k + 1) 90 ∧ vp_in (σ (13 + q) (ix (a + 2 * k))) 9
theorem hst_congr {σ τ : St} {q : Nat} {a s : Int32} (e : τ (13 + q) = σ (13 + q)) (h : HST σ q a s) : HST τ q a s := fun k h0 h1 h2 => by
  rw [e]
  exact h k h0 h1 h2
theorem bo_X3_areAlike {σ : St} {a b : Nat} : f_X3_areAlike σ a b = 0 ∨ f_X3_areAlike σ a b = 1 := by
  unfold f_X3_areAlike
  split
  · exact Or.inl rfl
  · exact Or.inr rfl
/-! the promises about the answers, proved -/
theorem ite_ind {α : Sort _} {c : Prop} [Decidable c] {a b : α} {P : α → Prop} (ha : c → P a) (hb : ¬ c → P b) : P (if c then a else b) := by
  by_cases h : c
  · rw [if_pos h]; exact ha h
  · rw [if_neg h]; exact hb h
theorem lb (x : Int32) : -2147483648 ≤ x.toInt ∧ x.toInt < 2147483648 := ⟨Int32.le_toInt x, Int32.toInt_lt x⟩
theorem la_toInt {a b : Int64} (h1 : -9223372036854775808 ≤ a.toInt + b.toInt) (h2 : a.toInt + b.toInt < 9223372036854775808) : (a + b).toInt = a.toInt + b.toInt := by
  rw [Int64.toInt_add]
  exact Int.bmod_eq_of_le (by omega) (by omega)
theorem ls_toInt {a b : Int64} (h1 : -9223372036854775808 ≤ a.toInt - b.toInt) (h2 : a.toInt - b.toInt < 9223372036854775808) : (a - b).toInt = a.toInt - b.toInt := by
  rw [Int64.toInt_sub]
  exact Int.bmod_eq_of_le (by omega) (by omega)
theorem lx_toInt {a b : Int64} (h1 : -9223372036854775808 ≤ a.toInt * b.toInt) (h2 : a.toInt * b.toInt < 9223372036854775808) : (a * b).toInt = a.toInt * b.toInt := by
  rw [Int64.toInt_mul]
  exact Int.bmod_eq_of_le (by omega) (by omega)
theorem lg_lt {x y : Int64} (h : lg_cmp x y < 0) : x.toInt < y.toInt := Int64.lt_iff_toInt_lt.mp ((lg_cmp_lt x y).mp h)
theorem lg_nlt {x y : Int64} (h : ¬ lg_cmp x y < 0) : y.toInt ≤ x.toInt := Int.not_lt.mp (fun q => h ((lg_cmp_lt x y).mpr (Int64.lt_iff_toInt_lt.mpr q)))
theorem bf_lacks_z {σ : St} {r : Nat} {i : Int32} {n : Int64} (h : f_X1_lacks σ r i n = 0) : 0 ≤ i.toInt ∧ (n.toInt < 4294967296 → -4294967296 ≤ n.toInt → i.toInt + n.toInt ≤ (σ (9 + r) 2).toInt) := by
  unfold f_X1_lacks at h
  by_cases h1 : i < 0
  · rw [if_pos h1] at h; exact absurd h (by decide)
  · rw [if_neg h1] at h
    by_cases h2 : lg_cmp (i.toInt64 + n) (σ (9 + r) 2).toInt64 ≤ 0
    · refine ⟨qt_nlt h1, fun h3 h4 => ?_⟩
      have h5 := Int64.le_iff_toInt_le.mp ((lg_cmp_le _ _).mp h2)
      have h6 := lb i
      rw [la_toInt (by rw [Int32.toInt_toInt64]; omega) (by rw [Int32.toInt_toInt64]; omega), Int32.toInt_toInt64, Int32.toInt_toInt64] at h5
      exact h5
    · rw [if_neg h2] at h; exact absurd h (by decide)
theorem sp_z {σ : St} {k lane i : Int32} {n : Int64} (h : (f_X3_spanRefusal σ k lane i n).1 = 0) : (0 ≤ k.toInt ∧ k.toInt < 4) ∧ (0 ≤ i.toInt ∧ 0 ≤ n.toInt ∧ (n.toInt < 4294967296 → i.toInt + n.toInt ≤ (σ (9 + ix k) 2).toInt)) := by
  unfold f_X3_spanRefusal at h
  by_cases h1 : f_X3_isSheet k = 0
  · rw [if_pos h1] at h; exact absurd h (by show ¬ (-1 : Int32) = 0; decide)
  rw [if_neg h1] at h
  by_cases h2 : f_X3_isLane lane = 0
  · rw [if_pos h2] at h; exact absurd h (by show ¬ (-2 : Int32) = 0; decide)
  rw [if_neg h2] at h
  have key : (if σ (9 + ix k) 0 = 0 then ((f_X3_faulted σ 1).1, (f_X3_faulted σ 1).2) else if 0 ≤ lg_cmp n 0 then (if f_X1_lacks σ (ix k) i n = 0 then ((0 : Int32), u2 σ 0 9 0) else ((f_X3_faulted σ 3).1, (f_X3_faulted σ 3).2)) else ((f_X3_faulted σ 4).1, (f_X3_faulted σ 4).2)).1 = 0 → 0 ≤ i.toInt ∧ 0 ≤ n.toInt ∧ (n.toInt < 4294967296 → i.toInt + n.toInt ≤ (σ (9 + ix k) 2).toInt) := by
    intro h
    by_cases h3 : σ (9 + ix k) 0 = 0
    · rw [if_pos h3] at h; exact absurd h (by show ¬ (-10 - 1 : Int32) = 0; decide)
    rw [if_neg h3] at h
    by_cases h4 : 0 ≤ lg_cmp n 0
    · rw [if_pos h4] at h
      by_cases h5 : f_X1_lacks σ (ix k) i n = 0
      · have h6 : (0 : Int64).toInt ≤ n.toInt := Int64.le_iff_toInt_le.mp ((lg_cmp_ge n 0).mp h4)
        have h7 : (0 : Int64).toInt = 0 := by decide
        have h8 := bf_lacks_z h5
        exact ⟨h8.1, by omega, fun q => h8.2 q (by omega)⟩
      · rw [if_neg h5] at h; exact absurd h (by show ¬ (-10 - 3 : Int32) = 0; decide)
    · rw [if_neg h4] at h; exact absurd h (by show ¬ (-10 - 4 : Int32) = 0; decide)
  refine ⟨bf_isSheet_n h1, ?_⟩
  by_cases h3 : σ (9 + ix k) 0 = 0
  · rw [if_pos h3] at h; exact key h
  rw [if_neg h3] at h
  by_cases h4 : σ (9 + ix k) 1 = lane
  · rw [if_pos h4] at h; exact key h
  · rw [if_neg h4] at h; exact absurd h (by show ¬ (-10 - 2 : Int32) = 0; decide)
theorem fr_X3_spanRefusal {σ : St} {k lane i : Int32} {n : Int64} : ∃ v, (f_X3_spanRefusal σ k lane i n).2 = u2 σ 0 9 v := by
  unfold f_X3_spanRefusal
  repeat' split
  all_goals exact ⟨_, rfl⟩
theorem ok_tryStrengths_11 {a b d : Int32} : ∀ (n : Nat) (x : Int32) (σ : St), OkC σ → OkC (lp_X3_tryStrengths_11 a b d n x σ) := by
  intro n
  induction n with
  | zero => intro x σ h; exact h
  | succ n ih =>
    intro x σ h
    rw [lp_X3_tryStrengths_11]
    refine ite_ind (fun _ => h) (fun _ => ite_ind (fun _ => ih _ _ h) (fun _ => ih _ _ ?_))
    have s8 : scrC 8 := by unfold scrC; omega
    exact okC_scr s8 (okC_scr s8 (okC_scr s8 (okC_scr s8 (okC_scr s8 h))))
theorem ok_tryStrengths_2 {a b : Int32} : ∀ (n : Nat) (x : Int32) (σ : St), OkC σ → OkC (lp_X3_tryStrengths_2 a b n x σ) := by
  intro n
  induction n with
  | zero => intro x σ h; exact h
  | succ n ih =>
    intro x σ h
    rw [lp_X3_tryStrengths_2]
    exact ite_ind (fun _ => h) (fun _ => ih _ _ (ok_tryStrengths_11 _ _ _ h))
theorem ok_X3_tryStrengths {σ : St} {a b : Int32} (h : OkC σ) : OkC (f_X3_tryStrengths σ a b) := ok_tryStrengths_2 _ _ _ h
theorem fr_countHours_26 {a1 a3 a4 a5 : Int32} {q c : Nat} (hc : c ≠ 7) : ∀ (n : Nat) (x : Int32) (σ : St), lp_X3_countHours_26 a1 q a3 a4 a5 n x σ c = σ c := by
  intro n
  induction n with
  | zero => intro x σ; rfl
  | succ n ih =>
    intro x σ
    rw [lp_X3_countHours_26]
    by_cases h : 10 ≤ x
    · rw [if_pos h]
    · rw [if_neg h]
      refine ite_ind (P := fun z : St => z c = σ c) (fun _ => ih _ _) (fun _ => ?_)
      rw [ih, u2_nc hc]
theorem fr_countHours_6 {a1 a3 : Int32} {q c : Nat} (hc : c ≠ 7) : ∀ (n : Nat) (t x : Int32) (σ : St), (lp_X3_countHours_6 a1 q a3 n t x σ).2 c = σ c := by
  intro n
  induction n with
  | zero => intro t x σ; rfl
  | succ n ih =>
    intro t x σ
    rw [lp_X3_countHours_6]
    by_cases h : σ 0 4 ≤ x
    · rw [if_pos h]
    · rw [if_neg h, ih, fr_countHours_26 hc, u2_nc hc]
theorem countHours_eq {σ : St} {a : Int32} {q : Nat} {b : Int32} : f_X3_countHours σ a q b = lp_X3_countHours_6 a q b 200 0 0 σ := by
  unfold f_X3_countHours
  generalize lp_X3_countHours_6 a q b 200 0 0 σ = z
  cases z
  rfl
theorem fr_X3_countHours {σ : St} {a : Int32} {q c : Nat} {b : Int32} (hc : c ≠ 7) : (f_X3_countHours σ a q b).2 c = σ c := by
  rw [countHours_eq]
  exact fr_countHours_6 hc _ _ _ _
theorem ok_X3_countHours {σ : St} {a : Int32} {q : Nat} {b : Int32} (h : OkC σ) : OkC (f_X3_countHours σ a q b).2 := by
  refine okC_cell h ⟨?_, ?_, ?_⟩ ?_ (fun k hk => ?_) (fun k hk => ⟨?_, ?_⟩)
  all_goals rw [fr_X3_countHours (by omega)]
theorem le_countHours_26 {a1 a3 a4 a5 : Int32} {q : Nat} : ∀ (n : Nat) (x : Int32) (σ : St), 0 ≤ x.toInt → x.toInt ≤ 10 → 0 ≤ (σ 7 (ix a5)).toInt → (σ 7 (ix a5)).toInt ≤ x.toInt → 0 ≤ (lp_X3_countHours_26 a1 q a3 a4 a5 n x σ 7 (ix a5)).toInt ∧ (lp_X3_countHours_26 a1 q a3 a4 a5 n x σ 7 (ix a5)).toInt ≤ 10 := by
  intro n
  induction n with
  | zero => intro x σ h0 h1 h2 h3; exact ⟨h2, by show (σ 7 (ix a5)).toInt ≤ 10; omega⟩
  | succ n ih =>
    intro x σ h0 h1 h2 h3
    rw [lp_X3_countHours_26]
    by_cases h : 10 ≤ x
    · rw [if_pos h]; exact ⟨h2, by omega⟩
    · have h4 := qt_nle h
      have h5 : (10 : Int32).toInt = 10 := by decide
      have h6 := inc_toInt (a := x) (by omega) (by omega)
      rw [if_neg h]
      refine ite_ind (P := fun z : St => 0 ≤ (z 7 (ix a5)).toInt ∧ (z 7 (ix a5)).toInt ≤ 10) (fun _ => ih _ _ (by omega) (by omega) h2 (by omega)) (fun _ => ih _ _ (by omega) (by omega) ?_ ?_)
      all_goals rw [u2_self, inc_toInt (by omega) (by omega)]; omega
theorem le_countHours_6 {a1 a3 : Int32} {q : Nat} : ∀ (n : Nat) (t x : Int32) (σ : St), (σ 0 4).toInt ≤ 8 → 0 ≤ x.toInt → x.toInt ≤ 8 → 0 ≤ t.toInt → t.toInt ≤ 10 * x.toInt → 0 ≤ (lp_X3_countHours_6 a1 q a3 n t x σ).1.toInt ∧ (lp_X3_countHours_6 a1 q a3 n t x σ).1.toInt ≤ 100 := by
  intro n
  induction n with
  | zero => intro t x σ hs h0 h1 h2 h3; exact ⟨h2, by show t.toInt ≤ 100; omega⟩
  | succ n ih =>
    intro t x σ hs h0 h1 h2 h3
    rw [lp_X3_countHours_6]
    by_cases h : σ 0 4 ≤ x
    · rw [if_pos h]; exact ⟨h2, by show t.toInt ≤ 100; omega⟩
    · have h4 := qt_nle h
      have h6 := inc_toInt (a := x) (by omega) (by omega)
      have z0 : (0 : Int32).toInt = 0 := by decide
      rw [if_neg h]
      have h7 := le_countHours_26 (a1 := a1) (a3 := a3) (a4 := t) (a5 := x) (q := q) 200 0 (u2 σ 7 (ix x) 0) (by decide) (by decide) (by rw [u2_self]; decide) (by rw [u2_self]; decide)
      have h8 := a_toInt (a := t) (b := lp_X3_countHours_26 a1 q a3 t x 200 0 (u2 σ 7 (ix x) 0) 7 (ix x)) (by omega) (by omega)
      refine ih _ _ _ ?_ (by omega) (by omega) (by omega) (by omega)
      rw [fr_countHours_26 (by omega), u2_nc (by omega)]
      exact hs
theorem ch_le {σ : St} {a : Int32} {q : Nat} {b : Int32} (h : OkC σ) : 0 ≤ (f_X3_countHours σ a q b).1.toInt ∧ (f_X3_countHours σ a q b).1.toInt ≤ 100 := by
  rw [countHours_eq]
  exact le_countHours_6 _ _ _ _ h.1.2 (by decide) (by decide) (by decide) (by decide)
theorem fr_isTakenFor_3 {x y : Int32} {q : Nat} {a s : Int32} {c : Nat} (hc : c ≠ 6) : ∀ (n : Nat) (k : Int32) (σ : St), lp_X3_isTakenFor_3 x y q a s n k σ c = σ c := by
  intro n
  induction n with
  | zero => intro k σ; rfl
  | succ n ih =>
    intro k σ
    rw [lp_X3_isTakenFor_3]
    by_cases h : 9 ≤ k
    · rw [if_pos h]
    · rw [if_neg h, ih, u2_nc hc]
theorem fr_isTakenFor_38 {y : Int32} {q : Nat} {a s : Int32} {c : Nat} (hc : c ≠ 6) : ∀ (n : Nat) (k : Int32) (σ : St), lp_X3_isTakenFor_38 y q a s n k σ c = σ c := by
  intro n
  induction n with
  | zero => intro k σ; rfl
  | succ n ih =>
    intro k σ
    rw [lp_X3_isTakenFor_38]
    by_cases h : 10 ≤ k
    · rw [if_pos h]
    · rw [if_neg h]
      refine ite_ind (P := fun z : St => z c = σ c) (fun _ => ih _ _) (fun _ => ?_)
      rw [ih, u2_nc hc]
theorem fr_X3_isTakenFor {σ : St} {x y : Int32} {q : Nat} {a s : Int32} {c : Nat} (hc : c ≠ 6) : (f_X3_isTakenFor σ x y q a s).2 c = σ c := by
  show lp_X3_isTakenFor_38 y q a s 200 0 _ c = σ c
  rw [fr_isTakenFor_38 hc, fr_isTakenFor_3 hc]
theorem ok_X3_isTakenFor {σ : St} {x y : Int32} {q : Nat} {a s : Int32} (h : OkC σ) : OkC (f_X3_isTakenFor σ x y q a s).2 := by
  refine okC_cell h ⟨?_, ?_, ?_⟩ ?_ (fun k hk => ?_) (fun k hk => ⟨?_, ?_⟩)
  all_goals rw [fr_X3_isTakenFor (by omega)]
theorem nI_ix {x : Int32} (h : 0 ≤ x.toInt) : x = nI (ix x) := by
  obtain ⟨j, hj, rfl⟩ := nI_of (qm_nlt h)
  show nI j = nI (nI j).toNatClampNeg
  rw [nI_clamp hj]
theorem bit_lt : ∀ n : Nat, n < 11 → ∀ k : Nat, k < 10 → n ≤ k → ∀ s : Nat, s < 2 ^ n → ((nI s) >>> (nI k &&& 31)) &&& 1 = 0 := by decide +kernel
theorem sh_le {p : Int32} (h0 : 0 ≤ p.toInt) (h1 : p.toInt ≤ 10) : 1 ≤ ((1 : Int32) <<< (p &&& 31)).toInt ∧ ((1 : Int32) <<< (p &&& 31)).toInt ≤ 1024 := by
  have h2 := ix_toInt h0
  rw [nI_ix h0]
  generalize ix p = k at h2
  have h3 : k < 11 := by omega
  revert h3
  have T : ∀ k : Nat, k < 11 → 1 ≤ ((1 : Int32) <<< (nI k &&& 31)).toInt ∧ ((1 : Int32) <<< (nI k &&& 31)).toInt ≤ 1024 := by decide +kernel
  exact T k
theorem sh_eq {p : Int32} (h0 : 0 ≤ p.toInt) (h1 : p.toInt ≤ 10) : ((1 : Int32) <<< (p &&& 31)).toInt = 2 ^ ix p := by
  have h2 := ix_toInt h0
  have T : ∀ k : Nat, k < 11 → ((1 : Int32) <<< (nI k &&& 31)).toInt = 2 ^ k := by decide +kernel
  have h3 := T (ix p) (by omega)
  rw [← nI_ix h0] at h3
  exact h3
theorem l2_toInt (x : Int32) : (2 * x.toInt64).toInt = 2 * x.toInt := by
  have h1 := lb x
  have h2 : (2 : Int64).toInt = 2 := by decide
  rw [lx_toInt (by rw [Int32.toInt_toInt64, h2]; omega) (by rw [Int32.toInt_toInt64, h2]; omega), Int32.toInt_toInt64, h2]
theorem as_2 {σ : St} {q : Nat} {a b : Int32} : ∀ (n : Nat) (x : Int32), 0 ≤ x.toInt → (match lp_X3_areStoppers_2 σ q a b n x with | Sum.inl r => r = 0 | Sum.inr _ => b.toInt - x.toInt < n → ∀ k : Int32, x.toInt ≤ k.toInt → k.toInt < b.toInt → (¬ f_X3_isSmell (σ (13 + q) (ix (a + 2 * k))) = 0) ∧ ¬ σ (13 + q) (ix (a + 2 * k + 1)) < 1 ∧ σ (13 + q) (ix (a + 2 * k + 1)) ≤ 9) := by
  intro n
  induction n with
  | zero => intro x h0; intro h1 k h2 h3; omega
  | succ n ih =>
    intro x h0
    rw [lp_X3_areStoppers_2]
    by_cases h1 : b ≤ x
    · rw [if_pos h1]
      intro h2 k h3 h4
      have := qt_le h1
      omega
    rw [if_neg h1]
    by_cases h2 : f_X3_isSmell (σ (13 + q) (ix (a + 2 * x))) = 0
    · rw [if_pos h2]
    rw [if_neg h2]
    by_cases h3 : σ (13 + q) (ix (a + 2 * x + 1)) < 1
    · rw [if_pos h3]
    rw [if_neg h3]
    by_cases h4 : σ (13 + q) (ix (a + 2 * x + 1)) ≤ 9
    · rw [if_pos h4]
      have h5 := qt_nle h1
      have h6 := lb b
      have h7 := inc_toInt (a := x) h0 (by omega)
      have h := ih (x + 1) (by omega)
      generalize lp_X3_areStoppers_2 σ q a b n (x + 1) = z at h ⊢
      cases z with
      | inl r => exact h
      | inr _ =>
        intro h8 k h9 h10
        by_cases e : k.toInt = x.toInt
        · have e := qm_eq e
          subst e
          exact ⟨h2, h3, h4⟩
        · exact h (by omega) k (by omega) h10
    · rw [if_neg h4]
theorem as_all {σ : St} {q : Nat} {a n : Int32} (h1 : 0 ≤ n.toInt ∧ n.toInt ≤ 10) (h : ¬ f_X3_areStoppers σ q a n = 0) : ∀ k : Int32, 0 ≤ k.toInt → k.toInt < n.toInt → (¬ f_X3_isSmell (σ (13 + q) (ix (a + 2 * k))) = 0) ∧ ¬ σ (13 + q) (ix (a + 2 * k + 1)) < 1 ∧ σ (13 + q) (ix (a + 2 * k + 1)) ≤ 9 := by
  unfold f_X3_areStoppers at h
  have z0 : (0 : Int32).toInt = 0 := by decide
  have h2 := as_2 (σ := σ) (q := q) (a := a) (b := n) 200 0 (by decide)
  generalize lp_X3_areStoppers_2 σ q a n 200 0 = z at h h2
  cases z with
  | inl r => exact absurd h2 h
  | inr _ => exact fun k h3 h4 => h2 (by omega) k (by omega) h4
theorem as_n {σ : St} {q : Nat} {a n : Int32} (h0 : 0 ≤ a.toInt) (h1 : 0 ≤ n.toInt ∧ n.toInt ≤ 10) (h2 : a.toInt + 2 * n.toInt ≤ 90) (h : ¬ f_X3_areStoppers σ q a n = 0) : ∀ s : Int32, 0 ≤ s.toInt → ¬ (1 : Int32) <<< (n &&& 31) ≤ s → HST σ q a s := by
  intro s hs0 hs1 k hk0 hk1 hb
  have hs2 := qt_nle hs1
  rw [sh_eq h1.1 h1.2] at hs2
  have ek := ix_toInt hk0
  have en := ix_toInt h1.1
  have es := ix_toInt hs0
  have hk : k.toInt < n.toInt := by
    refine Int.not_le.mp (fun q => hb ?_)
    rw [nI_ix hs0, nI_ix hk0]
    refine bit_lt (ix n) (by omega) (ix k) (by omega) (by omega) (ix s) ?_
    have e2 : ((2 ^ ix n : Nat) : Int) = 2 ^ ix n := by norm_cast
    omega
  have h3 := as_all h1 h k hk0 hk
  have e2 := km_toInt (a := k) (k := 2) (z := 2) (by decide) (by omega) (by omega)
  have e3 := a_toInt (a := a) (b := 2 * k) (by omega) (by omega)
  have e4 := inc_toInt (a := a + 2 * k) (by omega) (by omega)
  have h4 := bf_isSmell_n h3.1
  exact ⟨vpi (by omega) (by omega), vpi (by omega) (by omega), vpi (by omega) (by omega)⟩
theorem tf_2 {σ : St} {q : Nat} {a b : Int32} : ∀ (n : Nat) (x : Int32), 0 ≤ x.toInt → (match lp_X3_textFault_2 σ q a b n x with | Sum.inl r => 0 ≤ r.toInt | Sum.inr _ => True) := by
  intro n
  induction n with
  | zero => intro x h0; trivial
  | succ n ih =>
    intro x h0
    rw [lp_X3_textFault_2]
    by_cases h1 : b ≤ x
    · rw [if_pos h1]; trivial
    rw [if_neg h1]
    have h5 := qt_nle h1
    have h6 := lb b
    have h7 := inc_toInt (a := x) h0 (by omega)
    refine ite_ind (P := fun z : Int32 ⊕ Unit => match z with | Sum.inl r => 0 ≤ r.toInt | Sum.inr _ => True) (fun _ => h0) (fun _ => ih _ (by omega))
theorem dv_toInt {a b : Int32} (ha : 0 ≤ a.toInt) (hb : 0 < b.toInt) : (a / b).toInt = a.toInt / b.toInt := by
  rw [Int32.toInt_div_of_ne_left _ _ (fun q => by rw [q] at ha; exact absurd ha (by decide)), Int.tdiv_eq_ediv_of_nonneg ha]
theorem tf_neg {σ : St} {q : Nat} {a n : Int32} (h0 : 0 ≤ n.toInt) (h1 : n.toInt ≤ 90) (h : (f_X3_textFault σ q a n).toInt < 0) : (0 ≤ (n / 11 + 1).toInt ∧ (n / 11 + 1).toInt ≤ 8) ∧ 11 * (n / 11 + 1).toInt ≤ n.toInt + 1 := by
  unfold f_X3_textFault at h
  have h2 := tf_2 (σ := σ) (q := q) (a := a) (b := n) 200 0 (by decide)
  generalize lp_X3_textFault_2 σ q a n 200 0 = z at h h2
  have z11 : (11 : Int32).toInt = 11 := by decide
  have z10 : (10 : Int32).toInt = 10 := by decide
  have e1 := dv_toInt (a := n) (b := 11) h0 (by decide)
  rw [z11] at e1
  have e2 := inc_toInt (a := n / 11) (by omega) (by omega)
  have e3 := mk_toInt (a := n / 11) (k := 11) (z := 11) (by decide) (by omega) (by omega)
  have e4 := s_toInt (a := n) (b := n / 11 * 11) (by omega) (by omega)
  cases z with
  | inl r => exact absurd h2 (by show ¬ 0 ≤ r.toInt; exact Int.not_le.mpr h)
  | inr _ =>
    dsimp only at h
    by_cases h3 : n - n / 11 * 11 = 10
    · have h4 := qt_eq h3
      omega
    · rw [if_neg h3, if_pos rfl] at h
      omega
theorem ok_X3_spanRefusal {σ : St} {k lane i : Int32} {n : Int64} (h : OkC σ) : OkC (f_X3_spanRefusal σ k lane i n).2 := by
  obtain ⟨v, hv⟩ := fr_X3_spanRefusal (σ := σ) (k := k) (lane := lane) (i := i) (n := n)
  rw [hv]
  exact okC_obj (by omega) h
end
section
/-! numbers of the law -/
theorem fd_each {h k : Int32} (hh : 1 ≤ h.toInt ∧ h.toInt ≤ 9) (hk : 0 ≤ k.toInt ∧ k.toInt ≤ 2) : (h * (1 + k)).toInt = h.toInt * (1 + k.toInt) ∧ 1 ≤ (h * (1 + k)).toInt ∧ (h * (1 + k)).toInt ≤ 27 := by
  have z1 : (1 : Int32).toInt = 1 := by decide
  have e := a_toInt (a := 1) (b := k) (by omega) (by omega)
  rcases (show k.toInt = 0 ∨ k.toInt = 1 ∨ k.toInt = 2 by omega) with q | q | q
  · rw [mk_toInt (a := h) (k := 1 + k) (z := 1) (by omega) (by omega) (by omega), q]
    omega
  · rw [mk_toInt (a := h) (k := 1 + k) (z := 2) (by omega) (by omega) (by omega), q]
    omega
  · rw [mk_toInt (a := h) (k := 1 + k) (z := 3) (by omega) (by omega) (by omega), q]
    omega
theorem and_pred_tab : ∀ a : Nat, a < 1025 → a ≠ 0 → 0 ≤ (nI a &&& (nI a - 1)).toInt ∧ (nI a &&& (nI a - 1)).toInt < (nI a).toInt := by decide +kernel
theorem and_pred {a : Int32} (h0 : 0 < a.toInt) (h : a.toInt ≤ 1024) : 0 ≤ (a &&& (a - 1)).toInt ∧ (a &&& (a - 1)).toInt < a.toInt := by
  have e := ix_toInt (x := a) (by omega)
  have q := and_pred_tab (ix a) (by omega) (by omega)
  rw [← nI_ix (by omega)] at q
  exact q
theorem ediv_b {a b : Int} (ha : 0 ≤ a) (hb : 0 < b) : 0 ≤ a / b * b ∧ a / b * b ≤ a ∧ a - a / b * b < b ∧ 0 ≤ a / b ∧ a / b ≤ a := by
  have h1 := Int.ediv_mul_le a (Int.ne_of_gt hb)
  have h2 := Int.lt_ediv_add_one_mul_self a hb
  have h3 := Int.ediv_nonneg ha (Int.le_of_lt hb)
  have h4 : (a / b + 1) * b = a / b * b + b := by rw [Int.add_mul, Int.one_mul]
  have h5 := Int.mul_nonneg h3 (Int.le_of_lt hb)
  have h6 := Int.ediv_le_self b ha
  exact ⟨h5, h1, by omega, h3, h6⟩
theorem irem_toInt {a b : Int32} (h0 : 0 ≤ a.toInt) (h1 : 0 < b.toInt) : (a - a / b * b).toInt = a.toInt % b.toInt := by
  have h2 := dv_toInt h0 h1
  have h3 := ediv_b h0 h1
  have h4 := lb a
  have h5 := x_toInt (a := a / b) (b := b) (by rw [h2]; omega) (by rw [h2]; omega)
  rw [s_toInt (by rw [h5, h2]; omega) (by rw [h5, h2]; omega), h5, h2]
  have h6 := Int.emod_def a.toInt b.toInt
  rw [Int.mul_comm] at h6
  omega
theorem rem_bd {a b : Int32} (h0 : 0 ≤ a.toInt) (h1 : 0 < b.toInt) : 0 ≤ (a - a / b * b).toInt ∧ (a - a / b * b).toInt < b.toInt := by
  rw [irem_toInt h0 h1]
  exact ⟨Int.emod_nonneg _ (by omega), Int.emod_lt_of_pos _ h1⟩
theorem and_max (v : Int32) : 0 ≤ (v &&& 2147483647).toInt := by
  obtain ⟨j, hj, e⟩ := pk_andE v (m := 2147483647) 31 (by decide)
  rw [e, nI_toInt hj]
  omega
end
section
set_option maxHeartbeats 4000000 in
set_option maxRecDepth 100000 in
theorem c_J6_bitCount_0f7a4 (l : Launch) (p1 : Int32) : Met l yJ6_bitCount_0f7a4 wsJ6_bitCount_0f7a4 ({ frames := 0, cells := 0, slots := 0, locals := 0 }) (Pre0 ([.int p1] : List Value)) (Q0i (f_J6_bitCount_0f7a4 p1)) 0 0 N0 := by
  generalize hG : f_J6_bitCount_0f7a4 p1 = T
  refine head0 (cc := cJ6_bitCount_0f7a4) (maxL := 1) (ret := (some .int)) ([.int p1] : List Value) (by decide) rfl (Nat.le_of_ble_eq_true rfl) ?_
  intro p e s m below meth c S hr hlocks ls hl
  have S : CallFix p m c cJ6_bitCount_0f7a4 1 s ([.int p1] : List Value).toArray wsJ6_bitCount_0f7a4 RJ6 := S
  have hx := S.1
  have hb := S.2.1
  have z0 : (0 : Int32).toInt = 0 := by decide
  have z1 : (1 : Int32).toInt = 1 := by decide
  have hl : lv_has ls 1 [(0, .int p1)] := hl
  rw [f_J6_bitCount_0f7a4] at hG
  refine lv_iload_n hx hb dJ6_bitCount_0f7a4_0 rfl (lv_at hl 0 rfl) ?_
  refine lv_iload_n hx hb dJ6_bitCount_0f7a4_1 rfl (lv_at hl 0 rfl) ?_
  refine lv_iconst (v := 1) hx hb dJ6_bitCount_0f7a4_2 (by decide) ?_
  refine lv_iushr hx hb dJ6_bitCount_0f7a4_3 rfl ?_
  refine lv_ldcw hx hb S.2.2.2.1 (S.2.2.2.2 _ (List.mem_of_getElem? (i := 1) rfl)) dJ6_bitCount_0f7a4_4 ?_
  refine lv_iand hx hb dJ6_bitCount_0f7a4_7 ?_
  refine lv_isub hx hb dJ6_bitCount_0f7a4_8 ?_
  refine lv_istore_n (lv' := [(0, .int (p1 - (((p1.toUInt32 >>> ((1 : Int32).toUInt32 &&& Int32.toUInt32 31)).toInt32) &&& 1431655765)))]) hx hb dJ6_bitCount_0f7a4_9 rfl hl (by decide) rfl (fun ls hl => ?_)
  refine lv_iload_n hx hb dJ6_bitCount_0f7a4_10 rfl (lv_at hl 0 rfl) ?_
  refine lv_ldcw hx hb S.2.2.2.1 (S.2.2.2.2 _ (List.mem_of_getElem? (i := 2) rfl)) dJ6_bitCount_0f7a4_11 ?_
  refine lv_iand hx hb dJ6_bitCount_0f7a4_14 ?_
  refine lv_iload_n hx hb dJ6_bitCount_0f7a4_15 rfl (lv_at hl 0 rfl) ?_
  refine lv_iconst (v := 2) hx hb dJ6_bitCount_0f7a4_16 (by decide) ?_
  refine lv_iushr hx hb dJ6_bitCount_0f7a4_17 rfl ?_
  refine lv_ldcw hx hb S.2.2.2.1 (S.2.2.2.2 _ (List.mem_of_getElem? (i := 2) rfl)) dJ6_bitCount_0f7a4_18 ?_
  refine lv_iand hx hb dJ6_bitCount_0f7a4_21 ?_
  refine lv_iadd hx hb dJ6_bitCount_0f7a4_22 ?_
  refine lv_istore_n (lv' := [(0, .int (((p1 - (((p1.toUInt32 >>> ((1 : Int32).toUInt32 &&& Int32.toUInt32 31)).toInt32) &&& 1431655765)) &&& 858993459) + ((((p1 - (((p1.toUInt32 >>> ((1 : Int32).toUInt32 &&& Int32.toUInt32 31)).toInt32) &&& 1431655765)).toUInt32 >>> ((2 : Int32).toUInt32 &&& Int32.toUInt32 31)).toInt32) &&& 858993459)))]) hx hb dJ6_bitCount_0f7a4_23 rfl hl (by decide) rfl (fun ls hl => ?_)
  refine lv_iload_n hx hb dJ6_bitCount_0f7a4_24 rfl (lv_at hl 0 rfl) ?_
  refine lv_iload_n hx hb dJ6_bitCount_0f7a4_25 rfl (lv_at hl 0 rfl) ?_
  refine lv_iconst (v := 4) hx hb dJ6_bitCount_0f7a4_26 (by decide) ?_
  refine lv_iushr hx hb dJ6_bitCount_0f7a4_27 rfl ?_
  refine lv_iadd hx hb dJ6_bitCount_0f7a4_28 ?_
  refine lv_ldcw hx hb S.2.2.2.1 (S.2.2.2.2 _ (List.mem_of_getElem? (i := 3) rfl)) dJ6_bitCount_0f7a4_29 ?_
  refine lv_iand hx hb dJ6_bitCount_0f7a4_32 ?_
  refine lv_istore_n (lv' := [(0, .int (((((p1 - (((p1.toUInt32 >>> ((1 : Int32).toUInt32 &&& Int32.toUInt32 31)).toInt32) &&& 1431655765)) &&& 858993459) + ((((p1 - (((p1.toUInt32 >>> ((1 : Int32).toUInt32 &&& Int32.toUInt32 31)).toInt32) &&& 1431655765)).toUInt32 >>> ((2 : Int32).toUInt32 &&& Int32.toUInt32 31)).toInt32) &&& 858993459)) + (((((p1 - (((p1.toUInt32 >>> ((1 : Int32).toUInt32 &&& Int32.toUInt32 31)).toInt32) &&& 1431655765)) &&& 858993459) + ((((p1 - (((p1.toUInt32 >>> ((1 : Int32).toUInt32 &&& Int32.toUInt32 31)).toInt32) &&& 1431655765)).toUInt32 >>> ((2 : Int32).toUInt32 &&& Int32.toUInt32 31)).toInt32) &&& 858993459)).toUInt32 >>> ((4 : Int32).toUInt32 &&& Int32.toUInt32 31)).toInt32)) &&& 252645135))]) hx hb dJ6_bitCount_0f7a4_33 rfl hl (by decide) rfl (fun ls hl => ?_)
  refine lv_iload_n hx hb dJ6_bitCount_0f7a4_34 rfl (lv_at hl 0 rfl) ?_
  refine lv_iload_n hx hb dJ6_bitCount_0f7a4_35 rfl (lv_at hl 0 rfl) ?_
  refine lv_bipush (v := 8) hx hb dJ6_bitCount_0f7a4_36 (by decide) ?_
  refine lv_iushr hx hb dJ6_bitCount_0f7a4_38 rfl ?_
  refine lv_iadd hx hb dJ6_bitCount_0f7a4_39 ?_
  refine lv_istore_n (lv' := [(0, .int ((((((p1 - (((p1.toUInt32 >>> ((1 : Int32).toUInt32 &&& Int32.toUInt32 31)).toInt32) &&& 1431655765)) &&& 858993459) + ((((p1 - (((p1.toUInt32 >>> ((1 : Int32).toUInt32 &&& Int32.toUInt32 31)).toInt32) &&& 1431655765)).toUInt32 >>> ((2 : Int32).toUInt32 &&& Int32.toUInt32 31)).toInt32) &&& 858993459)) + (((((p1 - (((p1.toUInt32 >>> ((1 : Int32).toUInt32 &&& Int32.toUInt32 31)).toInt32) &&& 1431655765)) &&& 858993459) + ((((p1 - (((p1.toUInt32 >>> ((1 : Int32).toUInt32 &&& Int32.toUInt32 31)).toInt32) &&& 1431655765)).toUInt32 >>> ((2 : Int32).toUInt32 &&& Int32.toUInt32 31)).toInt32) &&& 858993459)).toUInt32 >>> ((4 : Int32).toUInt32 &&& Int32.toUInt32 31)).toInt32)) &&& 252645135) + (((((((p1 - (((p1.toUInt32 >>> ((1 : Int32).toUInt32 &&& Int32.toUInt32 31)).toInt32) &&& 1431655765)) &&& 858993459) + ((((p1 - (((p1.toUInt32 >>> ((1 : Int32).toUInt32 &&& Int32.toUInt32 31)).toInt32) &&& 1431655765)).toUInt32 >>> ((2 : Int32).toUInt32 &&& Int32.toUInt32 31)).toInt32) &&& 858993459)) + (((((p1 - (((p1.toUInt32 >>> ((1 : Int32).toUInt32 &&& Int32.toUInt32 31)).toInt32) &&& 1431655765)) &&& 858993459) + ((((p1 - (((p1.toUInt32 >>> ((1 : Int32).toUInt32 &&& Int32.toUInt32 31)).toInt32) &&& 1431655765)).toUInt32 >>> ((2 : Int32).toUInt32 &&& Int32.toUInt32 31)).toInt32) &&& 858993459)).toUInt32 >>> ((4 : Int32).toUInt32 &&& Int32.toUInt32 31)).toInt32)) &&& 252645135).toUInt32 >>> ((8 : Int32).toUInt32 &&& Int32.toUInt32 31)).toInt32)))]) hx hb dJ6_bitCount_0f7a4_40 rfl hl (by decide) rfl (fun ls hl => ?_)
  refine lv_iload_n hx hb dJ6_bitCount_0f7a4_41 rfl (lv_at hl 0 rfl) ?_
  refine lv_iload_n hx hb dJ6_bitCount_0f7a4_42 rfl (lv_at hl 0 rfl) ?_
  refine lv_bipush (v := 16) hx hb dJ6_bitCount_0f7a4_43 (by decide) ?_
  refine lv_iushr hx hb dJ6_bitCount_0f7a4_45 rfl ?_
  refine lv_iadd hx hb dJ6_bitCount_0f7a4_46 ?_
  refine lv_istore_n (lv' := [(0, .int (((((((p1 - (((p1.toUInt32 >>> ((1 : Int32).toUInt32 &&& Int32.toUInt32 31)).toInt32) &&& 1431655765)) &&& 858993459) + ((((p1 - (((p1.toUInt32 >>> ((1 : Int32).toUInt32 &&& Int32.toUInt32 31)).toInt32) &&& 1431655765)).toUInt32 >>> ((2 : Int32).toUInt32 &&& Int32.toUInt32 31)).toInt32) &&& 858993459)) + (((((p1 - (((p1.toUInt32 >>> ((1 : Int32).toUInt32 &&& Int32.toUInt32 31)).toInt32) &&& 1431655765)) &&& 858993459) + ((((p1 - (((p1.toUInt32 >>> ((1 : Int32).toUInt32 &&& Int32.toUInt32 31)).toInt32) &&& 1431655765)).toUInt32 >>> ((2 : Int32).toUInt32 &&& Int32.toUInt32 31)).toInt32) &&& 858993459)).toUInt32 >>> ((4 : Int32).toUInt32 &&& Int32.toUInt32 31)).toInt32)) &&& 252645135) + (((((((p1 - (((p1.toUInt32 >>> ((1 : Int32).toUInt32 &&& Int32.toUInt32 31)).toInt32) &&& 1431655765)) &&& 858993459) + ((((p1 - (((p1.toUInt32 >>> ((1 : Int32).toUInt32 &&& Int32.toUInt32 31)).toInt32) &&& 1431655765)).toUInt32 >>> ((2 : Int32).toUInt32 &&& Int32.toUInt32 31)).toInt32) &&& 858993459)) + (((((p1 - (((p1.toUInt32 >>> ((1 : Int32).toUInt32 &&& Int32.toUInt32 31)).toInt32) &&& 1431655765)) &&& 858993459) + ((((p1 - (((p1.toUInt32 >>> ((1 : Int32).toUInt32 &&& Int32.toUInt32 31)).toInt32) &&& 1431655765)).toUInt32 >>> ((2 : Int32).toUInt32 &&& Int32.toUInt32 31)).toInt32) &&& 858993459)).toUInt32 >>> ((4 : Int32).toUInt32 &&& Int32.toUInt32 31)).toInt32)) &&& 252645135).toUInt32 >>> ((8 : Int32).toUInt32 &&& Int32.toUInt32 31)).toInt32)) + ((((((((p1 - (((p1.toUInt32 >>> ((1 : Int32).toUInt32 &&& Int32.toUInt32 31)).toInt32) &&& 1431655765)) &&& 858993459) + ((((p1 - (((p1.toUInt32 >>> ((1 : Int32).toUInt32 &&& Int32.toUInt32 31)).toInt32) &&& 1431655765)).toUInt32 >>> ((2 : Int32).toUInt32 &&& Int32.toUInt32 31)).toInt32) &&& 858993459)) + (((((p1 - (((p1.toUInt32 >>> ((1 : Int32).toUInt32 &&& Int32.toUInt32 31)).toInt32) &&& 1431655765)) &&& 858993459) + ((((p1 - (((p1.toUInt32 >>> ((1 : Int32).toUInt32 &&& Int32.toUInt32 31)).toInt32) &&& 1431655765)).toUInt32 >>> ((2 : Int32).toUInt32 &&& Int32.toUInt32 31)).toInt32) &&& 858993459)).toUInt32 >>> ((4 : Int32).toUInt32 &&& Int32.toUInt32 31)).toInt32)) &&& 252645135) + (((((((p1 - (((p1.toUInt32 >>> ((1 : Int32).toUInt32 &&& Int32.toUInt32 31)).toInt32) &&& 1431655765)) &&& 858993459) + ((((p1 - (((p1.toUInt32 >>> ((1 : Int32).toUInt32 &&& Int32.toUInt32 31)).toInt32) &&& 1431655765)).toUInt32 >>> ((2 : Int32).toUInt32 &&& Int32.toUInt32 31)).toInt32) &&& 858993459)) + (((((p1 - (((p1.toUInt32 >>> ((1 : Int32).toUInt32 &&& Int32.toUInt32 31)).toInt32) &&& 1431655765)) &&& 858993459) + ((((p1 - (((p1.toUInt32 >>> ((1 : Int32).toUInt32 &&& Int32.toUInt32 31)).toInt32) &&& 1431655765)).toUInt32 >>> ((2 : Int32).toUInt32 &&& Int32.toUInt32 31)).toInt32) &&& 858993459)).toUInt32 >>> ((4 : Int32).toUInt32 &&& Int32.toUInt32 31)).toInt32)) &&& 252645135).toUInt32 >>> ((8 : Int32).toUInt32 &&& Int32.toUInt32 31)).toInt32)).toUInt32 >>> ((16 : Int32).toUInt32 &&& Int32.toUInt32 31)).toInt32)))]) hx hb dJ6_bitCount_0f7a4_47 rfl hl (by decide) rfl (fun ls hl => ?_)
  refine lv_iload_n hx hb dJ6_bitCount_0f7a4_48 rfl (lv_at hl 0 rfl) ?_
  refine lv_bipush (v := 63) hx hb dJ6_bitCount_0f7a4_49 (by decide) ?_
  refine lv_iand hx hb dJ6_bitCount_0f7a4_51 ?_
  exact end0i S hr hlocks hG dJ6_bitCount_0f7a4_52
set_option maxHeartbeats 4000000 in
set_option maxRecDepth 100000 in
theorem c_X1_renew (l : Launch) (ad : Nat → Nat) (D : va_G) (sz : Nat) (σ : St) (r0 : Nat) (p1 : Int32) (p2 : Int32) (hr0 : r0 < 4) : Met l yX1_renew wsX1_renew ({ frames := 1, cells := 0, slots := 0, locals := 23 }) (PreW 41 (eC ad) ad D (tyC ad) σ sz ([.ref (ad (9 + r0)), .int p1, .int p2] : List Value)) (QWv 41 (eC ad) ad D (f_X1_renew σ r0 p1 p2) (CA 41 ad sz)) 0 0 (CA 41 ad sz) := by
  generalize hG : f_X1_renew σ r0 p1 p2 = T
  refine headW (cc := cX1_renew) (maxL := 3) (ret := none) ([.ref (ad (9 + r0)), .int p1, .int p2] : List Value) (by decide) rfl (Nat.le_of_ble_eq_true rfl) ?_
  intro p e s m below meth c S hr hlocks hK hN hsz w ls hl
  have S : CallFix p m c cX1_renew 3 s ([.ref (ad (9 + r0)), .int p1, .int p2] : List Value).toArray wsX1_renew RX1 := S
  have hx := S.1
  have hb := S.2.1
  have z0 : (0 : Int32).toInt = 0 := by decide
  have z1 : (1 : Int32).toInt = 1 := by decide
  have hl : lv_has ls 3 [(0, .ref (ad (9 + r0))), (1, .int p1), (2, .int p2)] := hl
  have hinX1 : ∀ w ∈ wsX10, w ∈ wsX1_renew := (fun _ h => List.mem_cons_of_mem _ (List.mem_append_right _ h))
  rw [f_X1_renew] at hG
  refine lv_aload_n hx hb dX1_renew_0 rfl (lv_at hl 0 rfl) ?_
  refine lv_iconst (v := 1) hx hb dX1_renew_1 (by decide) ?_
  refine r_put (C := RX1) (T := TX1) (N := 4) S hK w (k := (9 + r0)) (Nat.lt_of_lt_of_le (Nat.add_lt_add_left hr0 9) (by decide)) (eC_sh ad hr0 _) rfl hinX1 tyX1 tyX1_ok nmX1 0 (by decide) (List.mem_of_getElem? (i := 1) rfl) rfl (x := 1) (ty := .boolean) (by decide +kernel) (by first | rfl | decide) (by first | rfl | decide) (by show _ < List.length _; exact Nat.le_of_ble_eq_true rfl) (sSh ad hr0 _ _ 0 (by decide)) dX1_renew_2 (fun H locs w => ?_)
  refine lv_aload_n hx hb dX1_renew_5 rfl (lv_at hl 0 rfl) ?_
  refine lv_iload_n hx hb dX1_renew_6 rfl (lv_at hl 1 rfl) ?_
  refine r_put (C := RX1) (T := TX1) (N := 4) S hK w (k := (9 + r0)) (Nat.lt_of_lt_of_le (Nat.add_lt_add_left hr0 9) (by decide)) (eC_sh ad hr0 _) rfl hinX1 tyX1 tyX1_ok nmX1 1 (by decide) (List.mem_of_getElem? (i := 2) rfl) rfl (x := p1) (ty := .int) (by decide +kernel) rfl rfl (by show _ < List.length _; exact Nat.le_of_ble_eq_true rfl) (sSh ad hr0 _ _ 1 (by decide)) dX1_renew_7 (fun H locs w => ?_)
  refine lv_aload_n hx hb dX1_renew_10 rfl (lv_at hl 0 rfl) ?_
  refine lv_iload_n hx hb dX1_renew_11 rfl (lv_at hl 2 rfl) ?_
  refine r_put (C := RX1) (T := TX1) (N := 4) S hK w (k := (9 + r0)) (Nat.lt_of_lt_of_le (Nat.add_lt_add_left hr0 9) (by decide)) (eC_sh ad hr0 _) rfl hinX1 tyX1 tyX1_ok nmX1 2 (by decide) (List.mem_of_getElem? (i := 3) rfl) rfl (x := p2) (ty := .int) (by decide +kernel) rfl rfl (by show _ < List.length _; exact Nat.le_of_ble_eq_true rfl) (sSh ad hr0 _ _ 2 (by decide)) dX1_renew_12 (fun H locs w => ?_)
  refine lv_aload_n hx hb dX1_renew_15 rfl (lv_at hl 0 rfl) ?_
  refine r_get (C := RX1) (T := TX1) (N := 4) S hK w (k := (9 + r0)) (Nat.lt_of_lt_of_le (Nat.add_lt_add_left hr0 9) (by decide)) (eC_sh ad hr0 _) rfl hinX1 3 (by decide) (List.mem_of_getElem? (i := 4) rfl) rfl dX1_renew_16 ?_
  refine lv_iconst (v := 0) hx hb dX1_renew_19 (by decide) ?_
  refine callFill (cA := ad 100) (N := 90) (by decide) S hl.1 hK hN w (k := (13 + r0)) (Nat.lt_of_lt_of_le (Nat.add_lt_add_left hr0 13) (by decide)) (fun f => eC_sc ad hr0 f) rfl gX1_renew_J7_fill_53178 (Nat.le_of_ble_eq_true rfl) (Nat.le_of_ble_eq_true rfl) dX1_renew_20 ⟨Nat.zero_le _, Nat.zero_le _⟩ (fun H locs w => ?_)
  exact endWv S hr hlocks w hG dX1_renew_23
set_option maxHeartbeats 4000000 in
set_option maxRecDepth 100000 in
theorem c_X1_cut (l : Launch) (ad : Nat → Nat) (D : va_G) (sz : Nat) (σ : St) (r0 : Nat) (p1 : Int32) (hr0 : r0 < 4) : Met l yX1_cut wsX1_cut ({ frames := 0, cells := 0, slots := 0, locals := 0 }) (PreW 41 (eC ad) ad D (tyC ad) σ sz ([.ref (ad (9 + r0)), .int p1] : List Value)) (Q0i (f_X1_cut σ r0 p1)) 0 0 N0 := by
  generalize hG : f_X1_cut σ r0 p1 = T
  refine headW (cc := cX1_cut) (maxL := 2) (ret := (some .int)) ([.ref (ad (9 + r0)), .int p1] : List Value) (by decide) rfl (Nat.le_of_ble_eq_true rfl) ?_
  intro p e s m below meth c S hr hlocks hK hN hsz w ls hl
  have S : CallFix p m c cX1_cut 2 s ([.ref (ad (9 + r0)), .int p1] : List Value).toArray wsX1_cut RX1 := S
  have hx := S.1
  have hb := S.2.1
  have z0 : (0 : Int32).toInt = 0 := by decide
  have z1 : (1 : Int32).toInt = 1 := by decide
  have hl : lv_has ls 2 [(0, .ref (ad (9 + r0))), (1, .int p1)] := hl
  have hinX1 : ∀ w ∈ wsX10, w ∈ wsX1_cut := (fun _ h => List.mem_cons_of_mem _ (List.mem_append_right _ h))
  rw [f_X1_cut] at hG
  refine lv_aload_n hx hb dX1_cut_0 rfl (lv_at hl 0 rfl) ?_
  refine r_get (C := RX1) (T := TX1) (N := 4) S hK w (k := (9 + r0)) (Nat.lt_of_lt_of_le (Nat.add_lt_add_left hr0 9) (by decide)) (eC_sh ad hr0 _) rfl hinX1 1 (by decide) (List.mem_of_getElem? (i := 1) rfl) rfl dX1_cut_1 ?_
  refine lv_if_ne (tgt := 10) hx hb dX1_cut_4 (by decide) (fun c4 => ?_) (fun c4 => ?_)
  · have t4 : (σ (9 + r0) 1).toInt ≠ 0 := qt_ne c4
    rw [if_neg c4] at hG
    refine lv_aload_n hx hb dX1_cut_10 rfl (lv_at hl 0 rfl) ?_
    refine r_get (C := RX1) (T := TX1) (N := 4) S hK w (k := (9 + r0)) (Nat.lt_of_lt_of_le (Nat.add_lt_add_left hr0 9) (by decide)) (eC_sh ad hr0 _) rfl hinX1 1 (by decide) (List.mem_of_getElem? (i := 1) rfl) rfl dX1_cut_11 ?_
    refine lv_iconst (v := 1) hx hb dX1_cut_14 (by decide) ?_
    refine lv_icmp_ne (tgt := 23) hx hb dX1_cut_15 (by decide) (fun c15 => ?_) (fun c15 => ?_)
    · have t15 : (σ (9 + r0) 1).toInt ≠ 1 := qt_ne c15
      rw [if_neg c15] at hG
      refine lv_iload_n hx hb dX1_cut_23 rfl (lv_at hl 1 rfl) ?_
      exact end0i S hr hlocks hG dX1_cut_24
    · have t15 : (σ (9 + r0) 1).toInt = 1 := qt_eq c15
      rw [if_pos c15] at hG
      refine lv_iload_n hx hb dX1_cut_18 rfl (lv_at hl 1 rfl) ?_
      refine lv_i2s hx hb dX1_cut_19 rfl ?_
      refine lv_goto (tgt := 24) hx hb dX1_cut_20 (by decide) ?_
      exact end0i S hr hlocks hG dX1_cut_24
  · have t4 : (σ (9 + r0) 1).toInt = 0 := qt_eq c4
    rw [if_pos c4] at hG
    refine lv_iload_n hx hb dX1_cut_7 rfl (lv_at hl 1 rfl) ?_
    refine lv_i2b hx hb dX1_cut_8 rfl ?_
    exact end0i S hr hlocks hG dX1_cut_9
set_option maxHeartbeats 4000000 in
set_option maxRecDepth 100000 in
theorem c_X1_lacks (l : Launch) (ad : Nat → Nat) (D : va_G) (sz : Nat) (σ : St) (r0 : Nat) (p1 : Int32) (p2 : Int64) (hr0 : r0 < 4) : Met l yX1_lacks wsX1_lacks ({ frames := 0, cells := 0, slots := 0, locals := 0 }) (PreW 41 (eC ad) ad D (tyC ad) σ sz ([.ref (ad (9 + r0)), .int p1, .long p2] : List Value)) (Q0i (f_X1_lacks σ r0 p1 p2)) 0 0 N0 := by
  generalize hG : f_X1_lacks σ r0 p1 p2 = T
  refine headW (cc := cX1_lacks) (maxL := 4) (ret := (some .boolean)) ([.ref (ad (9 + r0)), .int p1, .long p2] : List Value) (by decide) rfl (Nat.le_of_ble_eq_true rfl) ?_
  intro p e s m below meth c S hr hlocks hK hN hsz w ls hl
  have S : CallFix p m c cX1_lacks 4 s ([.ref (ad (9 + r0)), .int p1, .long p2] : List Value).toArray wsX1_lacks RX1 := S
  have hx := S.1
  have hb := S.2.1
  have z0 : (0 : Int32).toInt = 0 := by decide
  have z1 : (1 : Int32).toInt = 1 := by decide
  have hl : lv_has ls 4 [(0, .ref (ad (9 + r0))), (1, .int p1), (2, .long p2)] := hl
  have hinX1 : ∀ w ∈ wsX10, w ∈ wsX1_lacks := (fun _ h => List.mem_cons_of_mem _ (List.mem_append_right _ h))
  rw [f_X1_lacks] at hG
  refine lv_iload_n hx hb dX1_lacks_0 rfl (lv_at hl 1 rfl) ?_
  refine lv_if_lt (tgt := 17) hx hb dX1_lacks_1 (by decide) (fun c1 => ?_) (fun c1 => ?_)
  · have t1 : p1.toInt < 0 := qt_lt c1
    rw [if_pos c1] at hG
    refine lv_iconst (v := 1) hx hb dX1_lacks_17 (by decide) ?_
    refine lv_goto (tgt := 22) hx hb dX1_lacks_18 (by decide) ?_
    exact end0z S hr hlocks (Or.inr rfl) hG dX1_lacks_22
  · have t1 : 0 ≤ p1.toInt := qt_nlt c1
    rw [if_neg c1] at hG
    refine lv_iload_n hx hb dX1_lacks_4 rfl (lv_at hl 1 rfl) ?_
    refine lv_i2l hx hb dX1_lacks_5 rfl ?_
    refine lv_lload_n hx hb dX1_lacks_6 rfl (lv_at hl 2 rfl) ?_
    refine lv_ladd hx hb dX1_lacks_7 ?_
    refine lv_aload_n hx hb dX1_lacks_8 rfl (lv_at hl 0 rfl) ?_
    refine r_get (C := RX1) (T := TX1) (N := 4) S hK w (k := (9 + r0)) (Nat.lt_of_lt_of_le (Nat.add_lt_add_left hr0 9) (by decide)) (eC_sh ad hr0 _) rfl hinX1 2 (by decide) (List.mem_of_getElem? (i := 1) rfl) rfl dX1_lacks_9 ?_
    refine lv_i2l hx hb dX1_lacks_12 rfl ?_
    refine W.lcmp hx hb dX1_lacks_13 ?_
    refine lv_if_le (tgt := 21) hx hb dX1_lacks_14 (by decide) (fun c14 => ?_) (fun c14 => ?_)
    · rw [if_pos c14] at hG
      refine lv_iconst (v := 0) hx hb dX1_lacks_21 (by decide) ?_
      exact end0z S hr hlocks (Or.inl rfl) hG dX1_lacks_22
    · rw [if_neg c14] at hG
      refine lv_iconst (v := 1) hx hb dX1_lacks_17 (by decide) ?_
      refine lv_goto (tgt := 22) hx hb dX1_lacks_18 (by decide) ?_
      exact end0z S hr hlocks (Or.inr rfl) hG dX1_lacks_22
set_option maxHeartbeats 4000000 in
set_option maxRecDepth 100000 in
theorem c_X3_isSheet (l : Launch) (p1 : Int32) : Met l yX3_isSheet wsX3_isSheet ({ frames := 0, cells := 0, slots := 0, locals := 0 }) (Pre0 ([.int p1] : List Value)) (Q0i (f_X3_isSheet p1)) 0 0 N0 := by
  generalize hG : f_X3_isSheet p1 = T
  refine head0 (cc := cX3_isSheet) (maxL := 1) (ret := (some .boolean)) ([.int p1] : List Value) (by decide) rfl (Nat.le_of_ble_eq_true rfl) ?_
  intro p e s m below meth c S hr hlocks ls hl
  have S : CallFix p m c cX3_isSheet 1 s ([.int p1] : List Value).toArray wsX3_isSheet RX3 := S
  have hx := S.1
  have hb := S.2.1
  have z0 : (0 : Int32).toInt = 0 := by decide
  have z1 : (1 : Int32).toInt = 1 := by decide
  have hl : lv_has ls 1 [(0, .int p1)] := hl
  rw [f_X3_isSheet] at hG
  refine lv_iload_n hx hb dX3_isSheet_0 rfl (lv_at hl 0 rfl) ?_
  refine lv_if_lt (tgt := 13) hx hb dX3_isSheet_1 (by decide) (fun c1 => ?_) (fun c1 => ?_)
  · have t1 : p1.toInt < 0 := qt_lt c1
    rw [if_pos c1] at hG
    refine lv_iconst (v := 0) hx hb dX3_isSheet_13 (by decide) ?_
    exact end0z S hr hlocks (Or.inl rfl) hG dX3_isSheet_14
  · have t1 : 0 ≤ p1.toInt := qt_nlt c1
    rw [if_neg c1] at hG
    refine lv_iload_n hx hb dX3_isSheet_4 rfl (lv_at hl 0 rfl) ?_
    refine lv_iconst (v := 4) hx hb dX3_isSheet_5 (by decide) ?_
    refine lv_icmp_ge (tgt := 13) hx hb dX3_isSheet_6 (by decide) (fun c6 => ?_) (fun c6 => ?_)
    · have t6 : 4 ≤ p1.toInt := qt_le c6
      rw [if_pos c6] at hG
      refine lv_iconst (v := 0) hx hb dX3_isSheet_13 (by decide) ?_
      exact end0z S hr hlocks (Or.inl rfl) hG dX3_isSheet_14
    · have t6 : p1.toInt < 4 := qt_nle c6
      rw [if_neg c6] at hG
      refine lv_iconst (v := 1) hx hb dX3_isSheet_9 (by decide) ?_
      refine lv_goto (tgt := 14) hx hb dX3_isSheet_10 (by decide) ?_
      exact end0z S hr hlocks (Or.inr rfl) hG dX3_isSheet_14
set_option maxHeartbeats 4000000 in
set_option maxRecDepth 100000 in
theorem c_X3_refused (l : Launch) (ad : Nat → Nat) (D : va_G) (sz : Nat) (σ : St) (p1 : Int32) : Met l yX3_refused wsX3_refused ({ frames := 0, cells := 0, slots := 0, locals := 0 }) (PreW 41 (eC ad) ad D (tyC ad) σ sz ([.ref (ad 0), .int p1] : List Value)) (QWi 41 (eC ad) ad D (f_X3_refused σ p1) (CA 41 ad sz)) 0 0 (CA 41 ad sz) := by
  generalize hG : f_X3_refused σ p1 = T
  refine headW (cc := cX3_refused) (maxL := 2) (ret := (some .int)) ([.ref (ad 0), .int p1] : List Value) (by decide) rfl (Nat.le_of_ble_eq_true rfl) ?_
  intro p e s m below meth c S hr hlocks hK hN hsz w ls hl
  have S : CallFix p m c cX3_refused 2 s ([.ref (ad 0), .int p1] : List Value).toArray wsX3_refused RX3 := S
  have hx := S.1
  have hb := S.2.1
  have z0 : (0 : Int32).toInt = 0 := by decide
  have z1 : (1 : Int32).toInt = 1 := by decide
  have hl : lv_has ls 2 [(0, .ref (ad 0)), (1, .int p1)] := hl
  have hinX3 : ∀ w ∈ wsX30, w ∈ wsX3_refused := (fun _ h => List.mem_cons_of_mem _ (List.mem_append_right _ h))
  rw [f_X3_refused] at hG
  refine lv_aload_n hx hb dX3_refused_0 rfl (lv_at hl 0 rfl) ?_
  refine lv_iconst (v := 0) hx hb dX3_refused_1 (by decide) ?_
  refine r_put (C := RX3) (T := TX3) (N := 14) S hK w (k := 0) (by decide) (eC_0 ad _) rfl hinX3 tyX3 tyX3_ok nmX3 9 (by decide) (List.mem_of_getElem? (i := 1) rfl) rfl (x := 0) (ty := .int) (by decide +kernel) rfl rfl (by show _ < List.length _; exact Nat.le_of_ble_eq_true rfl) (sO ad _ _ 9 (by decide)) dX3_refused_2 (fun H locs w => ?_)
  refine lv_iload_n hx hb dX3_refused_5 rfl (lv_at hl 1 rfl) ?_
  exact endWi S hr hlocks w hG dX3_refused_6
set_option maxHeartbeats 4000000 in
set_option maxRecDepth 100000 in
theorem c_X3_isLane (l : Launch) (p1 : Int32) : Met l yX3_isLane wsX3_isLane ({ frames := 0, cells := 0, slots := 0, locals := 0 }) (Pre0 ([.int p1] : List Value)) (Q0i (f_X3_isLane p1)) 0 0 N0 := by
  generalize hG : f_X3_isLane p1 = T
  refine head0 (cc := cX3_isLane) (maxL := 1) (ret := (some .boolean)) ([.int p1] : List Value) (by decide) rfl (Nat.le_of_ble_eq_true rfl) ?_
  intro p e s m below meth c S hr hlocks ls hl
  have S : CallFix p m c cX3_isLane 1 s ([.int p1] : List Value).toArray wsX3_isLane RX3 := S
  have hx := S.1
  have hb := S.2.1
  have z0 : (0 : Int32).toInt = 0 := by decide
  have z1 : (1 : Int32).toInt = 1 := by decide
  have hl : lv_has ls 1 [(0, .int p1)] := hl
  rw [f_X3_isLane] at hG
  refine lv_iload_n hx hb dX3_isLane_0 rfl (lv_at hl 0 rfl) ?_
  refine lv_if_lt (tgt := 13) hx hb dX3_isLane_1 (by decide) (fun c1 => ?_) (fun c1 => ?_)
  · have t1 : p1.toInt < 0 := qt_lt c1
    rw [if_pos c1] at hG
    refine lv_iconst (v := 0) hx hb dX3_isLane_13 (by decide) ?_
    exact end0z S hr hlocks (Or.inl rfl) hG dX3_isLane_14
  · have t1 : 0 ≤ p1.toInt := qt_nlt c1
    rw [if_neg c1] at hG
    refine lv_iload_n hx hb dX3_isLane_4 rfl (lv_at hl 0 rfl) ?_
    refine lv_iconst (v := 3) hx hb dX3_isLane_5 (by decide) ?_
    refine lv_icmp_ge (tgt := 13) hx hb dX3_isLane_6 (by decide) (fun c6 => ?_) (fun c6 => ?_)
    · have t6 : 3 ≤ p1.toInt := qt_le c6
      rw [if_pos c6] at hG
      refine lv_iconst (v := 0) hx hb dX3_isLane_13 (by decide) ?_
      exact end0z S hr hlocks (Or.inl rfl) hG dX3_isLane_14
    · have t6 : p1.toInt < 3 := qt_nle c6
      rw [if_neg c6] at hG
      refine lv_iconst (v := 1) hx hb dX3_isLane_9 (by decide) ?_
      refine lv_goto (tgt := 14) hx hb dX3_isLane_10 (by decide) ?_
      exact end0z S hr hlocks (Or.inr rfl) hG dX3_isLane_14
set_option maxHeartbeats 4000000 in
set_option maxRecDepth 100000 in
theorem c_X3_faulted (l : Launch) (ad : Nat → Nat) (D : va_G) (sz : Nat) (σ : St) (p1 : Int32) : Met l yX3_faulted wsX3_faulted ({ frames := 0, cells := 0, slots := 0, locals := 0 }) (PreW 41 (eC ad) ad D (tyC ad) σ sz ([.ref (ad 0), .int p1] : List Value)) (QWi 41 (eC ad) ad D (f_X3_faulted σ p1) (CA 41 ad sz)) 0 0 (CA 41 ad sz) := by
  generalize hG : f_X3_faulted σ p1 = T
  refine headW (cc := cX3_faulted) (maxL := 2) (ret := (some .int)) ([.ref (ad 0), .int p1] : List Value) (by decide) rfl (Nat.le_of_ble_eq_true rfl) ?_
  intro p e s m below meth c S hr hlocks hK hN hsz w ls hl
  have S : CallFix p m c cX3_faulted 2 s ([.ref (ad 0), .int p1] : List Value).toArray wsX3_faulted RX3 := S
  have hx := S.1
  have hb := S.2.1
  have z0 : (0 : Int32).toInt = 0 := by decide
  have z1 : (1 : Int32).toInt = 1 := by decide
  have hl : lv_has ls 2 [(0, .ref (ad 0)), (1, .int p1)] := hl
  have hinX3 : ∀ w ∈ wsX30, w ∈ wsX3_faulted := (fun _ h => List.mem_cons_of_mem _ (List.mem_append_right _ h))
  rw [f_X3_faulted] at hG
  refine lv_aload_n hx hb dX3_faulted_0 rfl (lv_at hl 0 rfl) ?_
  refine lv_iload_n hx hb dX3_faulted_1 rfl (lv_at hl 1 rfl) ?_
  refine r_put (C := RX3) (T := TX3) (N := 14) S hK w (k := 0) (by decide) (eC_0 ad _) rfl hinX3 tyX3 tyX3_ok nmX3 9 (by decide) (List.mem_of_getElem? (i := 1) rfl) rfl (x := p1) (ty := .int) (by decide +kernel) rfl rfl (by show _ < List.length _; exact Nat.le_of_ble_eq_true rfl) (sO ad _ _ 9 (by decide)) dX3_faulted_2 (fun H locs w => ?_)
  refine lv_bipush (v := (-10)) hx hb dX3_faulted_5 (by decide) ?_
  refine lv_iload_n hx hb dX3_faulted_7 rfl (lv_at hl 1 rfl) ?_
  refine lv_isub hx hb dX3_faulted_8 ?_
  exact endWi S hr hlocks w hG dX3_faulted_9
set_option maxHeartbeats 4000000 in
set_option maxRecDepth 100000 in
theorem c_X3_spanRefusal (l : Launch) (ad : Nat → Nat) (D : va_G) (sz : Nat) (σ : St) (p1 : Int32) (p2 : Int32) (p3 : Int32) (p4 : Int64) : Met l yX3_spanRefusal wsX3_spanRefusal ({ frames := 1, cells := 0, slots := 0, locals := 23 }) (PreW 41 (eC ad) ad D (tyC ad) σ sz ([.ref (ad 0), .int p1, .int p2, .int p3, .long p4] : List Value)) (QWi 41 (eC ad) ad D (f_X3_spanRefusal σ p1 p2 p3 p4) (CA 41 ad sz)) 0 0 (CA 41 ad sz) := by
  generalize hG : f_X3_spanRefusal σ p1 p2 p3 p4 = T
  refine headW (cc := cX3_spanRefusal) (maxL := 7) (ret := (some .int)) ([.ref (ad 0), .int p1, .int p2, .int p3, .long p4] : List Value) (by decide) rfl (Nat.le_of_ble_eq_true rfl) ?_
  intro p e s m below meth c S hr hlocks hK hN hsz w ls hl
  have S : CallFix p m c cX3_spanRefusal 7 s ([.ref (ad 0), .int p1, .int p2, .int p3, .long p4] : List Value).toArray wsX3_spanRefusal RX3 := S
  have hx := S.1
  have hb := S.2.1
  have z0 : (0 : Int32).toInt = 0 := by decide
  have z1 : (1 : Int32).toInt = 1 := by decide
  have hl : lv_has ls 7 [(0, .ref (ad 0)), (1, .int p1), (2, .int p2), (3, .int p3), (4, .long p4)] := hl
  have hinX3 : ∀ w ∈ wsX30, w ∈ wsX3_spanRefusal := (fun _ h => List.mem_cons_of_mem _ (List.mem_append_left _ (List.mem_append_right _ h)))
  have hinX1 : ∀ w ∈ wsX10, w ∈ wsX3_spanRefusal := (fun _ h => List.mem_cons_of_mem _ (List.mem_append_right _ h))
  rw [f_X3_spanRefusal] at hG
  refine lv_iload_n hx hb dX3_spanRefusal_0 rfl (lv_at hl 1 rfl) ?_
  refine call0i (va_runS (As := [.int p1]) (rest := []) S (c_X3_isSheet l p1) (va_cwS 1 S.2.2.2.2 gX3_spanRefusal_X3_isSheet rfl rfl rfl hd_X3_isSheet ⟨Nat.le_of_ble_eq_true rfl, Nat.le_of_ble_eq_true rfl⟩) pre0S rfl rfl hl.1 rfl (lv_room (Nat.le_of_ble_eq_true rfl)) dX3_spanRefusal_1 ⟨Nat.zero_le _, Nat.zero_le _⟩) ?_
  refine lv_if_ne (tgt := 13) hx hb dX3_spanRefusal_4 (by decide) (fun c4 => ?_) (fun c4 => ?_)
  · have t4 := bf_isSheet_n c4
    rw [if_neg c4] at hG
    refine lv_iload_n hx hb dX3_spanRefusal_13 rfl (lv_at hl 2 rfl) ?_
    refine call0i (va_runS (As := [.int p2]) (rest := []) S (c_X3_isLane l p2) (va_cwS 1 S.2.2.2.2 gX3_spanRefusal_X3_isLane rfl rfl rfl hd_X3_isLane ⟨Nat.le_of_ble_eq_true rfl, Nat.le_of_ble_eq_true rfl⟩) pre0S rfl rfl hl.1 rfl (lv_room (Nat.le_of_ble_eq_true rfl)) dX3_spanRefusal_14 ⟨Nat.zero_le _, Nat.zero_le _⟩) ?_
    refine lv_if_ne (tgt := 27) hx hb dX3_spanRefusal_17 (by decide) (fun c17 => ?_) (fun c17 => ?_)
    · rw [if_neg c17] at hG
      refine lv_aload_n hx hb dX3_spanRefusal_27 rfl (lv_at hl 0 rfl) ?_
      refine r_get (C := RX3) (T := TX3) (N := 14) S hK w (k := 0) (by decide) (eC_0 ad _) rfl hinX3 0 (by decide) (List.mem_of_getElem? (i := 1) rfl) rfl dX3_spanRefusal_28 ?_
      refine lv_iload_n hx hb dX3_spanRefusal_31 rfl (lv_at hl 1 rfl) ?_
      have g32 : vp_in p1 4 := vpi (by omega) (by omega)
      refine r_aald S hK w (k := 1) (by decide) (eC_1 ad _) (t0 := 1) rfl g32 dX3_spanRefusal_32 ?_
      refine lv_astore (lv' := [(6, .ref (ad (9 + (ix p1)))), (0, .ref (ad 0)), (1, .int p1), (2, .int p2), (3, .int p3), (4, .long p4)]) hx hb dX3_spanRefusal_33 hl (by decide) rfl (fun ls hl => ?_)
      refine lv_aload hx hb dX3_spanRefusal_35 (lv_at hl 0 rfl) ?_
      refine r_getN (C := RX1) (T := TX1) (N := 4) S hK hN w (k := (9 + (ix p1))) (Nat.lt_of_lt_of_le (Nat.add_lt_add_left (vpl g32) 9) (by decide)) (eC_sh ad (vpl g32) _) rfl hinX1 0 (by decide) 0 rfl rfl dX3_spanRefusal_37 ?_
      refine lv_if_eq (tgt := 58) hx hb dX3_spanRefusal_40 (by decide) (fun c40 => ?_) (fun c40 => ?_)
      · have t40 : (σ (9 + (ix p1)) 0).toInt = 0 := qt_eq c40
        rw [if_pos c40] at hG
        refine lv_aload hx hb dX3_spanRefusal_58 (lv_at hl 0 rfl) ?_
        refine r_getN (C := RX1) (T := TX1) (N := 4) S hK hN w (k := (9 + (ix p1))) (Nat.lt_of_lt_of_le (Nat.add_lt_add_left (vpl g32) 9) (by decide)) (eC_sh ad (vpl g32) _) rfl hinX1 0 (by decide) 0 rfl rfl dX3_spanRefusal_60 ?_
        refine lv_if_ne (tgt := 72) hx hb dX3_spanRefusal_63 (by decide) (fun c63 => ?_) (fun c63 => ?_)
        · have t63 : (σ (9 + (ix p1)) 0).toInt ≠ 0 := qt_ne c63
          rw [if_neg c63] at hG
          refine lv_lload hx hb dX3_spanRefusal_72 (lv_at hl 5 rfl) ?_
          refine lv_lconst (v := 0) hx hb dX3_spanRefusal_74 (by decide) ?_
          refine W.lcmp hx hb dX3_spanRefusal_75 ?_
          refine lv_if_ge (tgt := 85) hx hb dX3_spanRefusal_76 (by decide) (fun c76 => ?_) (fun c76 => ?_)
          · rw [if_pos c76] at hG
            refine lv_aload hx hb dX3_spanRefusal_85 (lv_at hl 0 rfl) ?_
            refine lv_iload_n hx hb dX3_spanRefusal_87 rfl (lv_at hl 4 rfl) ?_
            refine lv_lload hx hb dX3_spanRefusal_88 (lv_at hl 5 rfl) ?_
            refine call0i (va_runVN (As := [.int p3, .long p4]) (rest := []) S (c_X1_lacks l ad D s.heap.size σ (ix p1) p3 p4 (vpl g32)) ⟨va_cnB 2 S.2.2.2.2 gX3_spanRefusal_X1_lacks_n254 rfl rfl rfl (hN.m 3 rfl) (S.2.2.2.2 _ (List.mem_of_getElem? (i := 19) rfl)) hd_X1_lacks ⟨Nat.le_of_ble_eq_true rfl, Nat.le_of_ble_eq_true rfl⟩, S.2.2.2.2 _ (List.mem_of_getElem? (i := 18) rfl), S.2.2.2.2 _ (List.mem_of_getElem? (i := 20) rfl)⟩ (preV hK hN w (k := (9 + (ix p1))) (Nat.lt_of_lt_of_le (Nat.add_lt_add_left (vpl g32) 9) (by decide)) (eC_sh ad (vpl g32) _) (q := (RX1, TX1, 4)) rfl) rfl rfl hl.1 rfl (lv_room (Nat.le_of_ble_eq_true rfl)) dX3_spanRefusal_90 ⟨Nat.zero_le _, Nat.zero_le _⟩) ?_
            refine lv_if_eq (tgt := 102) hx hb dX3_spanRefusal_93 (by decide) (fun c93 => ?_) (fun c93 => ?_)
            · have t93 := bf_lacks_z c93
              rw [if_pos c93] at hG
              refine lv_aload_n hx hb dX3_spanRefusal_102 rfl (lv_at hl 1 rfl) ?_
              refine lv_iconst (v := 0) hx hb dX3_spanRefusal_103 (by decide) ?_
              refine r_put (C := RX3) (T := TX3) (N := 14) S hK w (k := 0) (by decide) (eC_0 ad _) rfl hinX3 tyX3 tyX3_ok nmX3 9 (by decide) (List.mem_of_getElem? (i := 2) rfl) rfl (x := 0) (ty := .int) (by decide +kernel) rfl rfl (by show _ < List.length _; exact Nat.le_of_ble_eq_true rfl) (sO ad _ _ 9 (by decide)) dX3_spanRefusal_104 (fun H locs w => ?_)
              refine lv_iconst (v := 0) hx hb dX3_spanRefusal_107 (by decide) ?_
              exact endWi S hr hlocks w hG dX3_spanRefusal_108
            · rw [if_neg c93] at hG
              refine lv_aload_n hx hb dX3_spanRefusal_96 rfl (lv_at hl 1 rfl) ?_
              refine lv_iconst (v := 3) hx hb dX3_spanRefusal_97 (by decide) ?_
              refine callWi w (va_runV (As := [.int 3]) (rest := []) S (c_X3_faulted l ad D s.heap.size σ 3) (cwV 1 S.2.2.2.2 gX3_spanRefusal_X3_faulted rfl rfl rfl ⟨rfl, hd_X3_faulted⟩ ⟨Nat.le_of_ble_eq_true rfl, Nat.le_of_ble_eq_true rfl⟩) (preV hK hN w (k := 0) (by decide) (eC_0 ad _) (q := (RX3, TX3, 14)) rfl) rfl rfl hl.1 rfl (lv_room (Nat.le_of_ble_eq_true rfl)) dX3_spanRefusal_98 ⟨Nat.zero_le _, Nat.zero_le _⟩) (fun H locs w => ?_)
              exact endWi S hr hlocks w hG dX3_spanRefusal_101
          · rw [if_neg c76] at hG
            refine lv_aload_n hx hb dX3_spanRefusal_79 rfl (lv_at hl 1 rfl) ?_
            refine lv_iconst (v := 4) hx hb dX3_spanRefusal_80 (by decide) ?_
            refine callWi w (va_runV (As := [.int 4]) (rest := []) S (c_X3_faulted l ad D s.heap.size σ 4) (cwV 1 S.2.2.2.2 gX3_spanRefusal_X3_faulted rfl rfl rfl ⟨rfl, hd_X3_faulted⟩ ⟨Nat.le_of_ble_eq_true rfl, Nat.le_of_ble_eq_true rfl⟩) (preV hK hN w (k := 0) (by decide) (eC_0 ad _) (q := (RX3, TX3, 14)) rfl) rfl rfl hl.1 rfl (lv_room (Nat.le_of_ble_eq_true rfl)) dX3_spanRefusal_81 ⟨Nat.zero_le _, Nat.zero_le _⟩) (fun H locs w => ?_)
            exact endWi S hr hlocks w hG dX3_spanRefusal_84
        · have t63 : (σ (9 + (ix p1)) 0).toInt = 0 := qt_eq c63
          rw [if_pos c63] at hG
          refine lv_aload_n hx hb dX3_spanRefusal_66 rfl (lv_at hl 1 rfl) ?_
          refine lv_iconst (v := 1) hx hb dX3_spanRefusal_67 (by decide) ?_
          refine callWi w (va_runV (As := [.int 1]) (rest := []) S (c_X3_faulted l ad D s.heap.size σ 1) (cwV 1 S.2.2.2.2 gX3_spanRefusal_X3_faulted rfl rfl rfl ⟨rfl, hd_X3_faulted⟩ ⟨Nat.le_of_ble_eq_true rfl, Nat.le_of_ble_eq_true rfl⟩) (preV hK hN w (k := 0) (by decide) (eC_0 ad _) (q := (RX3, TX3, 14)) rfl) rfl rfl hl.1 rfl (lv_room (Nat.le_of_ble_eq_true rfl)) dX3_spanRefusal_68 ⟨Nat.zero_le _, Nat.zero_le _⟩) (fun H locs w => ?_)
          exact endWi S hr hlocks w hG dX3_spanRefusal_71
      · have t40 : (σ (9 + (ix p1)) 0).toInt ≠ 0 := qt_ne c40
        rw [if_neg c40] at hG
        refine lv_aload hx hb dX3_spanRefusal_43 (lv_at hl 0 rfl) ?_
        refine r_getN (C := RX1) (T := TX1) (N := 4) S hK hN w (k := (9 + (ix p1))) (Nat.lt_of_lt_of_le (Nat.add_lt_add_left (vpl g32) 9) (by decide)) (eC_sh ad (vpl g32) _) rfl hinX1 1 (by decide) 1 rfl rfl dX3_spanRefusal_45 ?_
        refine lv_iload_n hx hb dX3_spanRefusal_48 rfl (lv_at hl 3 rfl) ?_
        refine lv_icmp_eq (tgt := 58) hx hb dX3_spanRefusal_49 (by decide) (fun c49 => ?_) (fun c49 => ?_)
        · have t49 : (σ (9 + (ix p1)) 1).toInt = p2.toInt := qt_eq c49
          rw [if_pos c49] at hG
          refine lv_aload hx hb dX3_spanRefusal_58 (lv_at hl 0 rfl) ?_
          refine r_getN (C := RX1) (T := TX1) (N := 4) S hK hN w (k := (9 + (ix p1))) (Nat.lt_of_lt_of_le (Nat.add_lt_add_left (vpl g32) 9) (by decide)) (eC_sh ad (vpl g32) _) rfl hinX1 0 (by decide) 0 rfl rfl dX3_spanRefusal_60 ?_
          refine lv_if_ne (tgt := 72) hx hb dX3_spanRefusal_63 (by decide) (fun c63 => ?_) (fun c63 => ?_)
          · have t63 : (σ (9 + (ix p1)) 0).toInt ≠ 0 := qt_ne c63
            rw [if_neg c63] at hG
            refine lv_lload hx hb dX3_spanRefusal_72 (lv_at hl 5 rfl) ?_
            refine lv_lconst (v := 0) hx hb dX3_spanRefusal_74 (by decide) ?_
            refine W.lcmp hx hb dX3_spanRefusal_75 ?_
            refine lv_if_ge (tgt := 85) hx hb dX3_spanRefusal_76 (by decide) (fun c76 => ?_) (fun c76 => ?_)
            · rw [if_pos c76] at hG
              refine lv_aload hx hb dX3_spanRefusal_85 (lv_at hl 0 rfl) ?_
              refine lv_iload_n hx hb dX3_spanRefusal_87 rfl (lv_at hl 4 rfl) ?_
              refine lv_lload hx hb dX3_spanRefusal_88 (lv_at hl 5 rfl) ?_
              refine call0i (va_runVN (As := [.int p3, .long p4]) (rest := []) S (c_X1_lacks l ad D s.heap.size σ (ix p1) p3 p4 (vpl g32)) ⟨va_cnB 2 S.2.2.2.2 gX3_spanRefusal_X1_lacks_n254 rfl rfl rfl (hN.m 3 rfl) (S.2.2.2.2 _ (List.mem_of_getElem? (i := 19) rfl)) hd_X1_lacks ⟨Nat.le_of_ble_eq_true rfl, Nat.le_of_ble_eq_true rfl⟩, S.2.2.2.2 _ (List.mem_of_getElem? (i := 18) rfl), S.2.2.2.2 _ (List.mem_of_getElem? (i := 20) rfl)⟩ (preV hK hN w (k := (9 + (ix p1))) (Nat.lt_of_lt_of_le (Nat.add_lt_add_left (vpl g32) 9) (by decide)) (eC_sh ad (vpl g32) _) (q := (RX1, TX1, 4)) rfl) rfl rfl hl.1 rfl (lv_room (Nat.le_of_ble_eq_true rfl)) dX3_spanRefusal_90 ⟨Nat.zero_le _, Nat.zero_le _⟩) ?_
              refine lv_if_eq (tgt := 102) hx hb dX3_spanRefusal_93 (by decide) (fun c93 => ?_) (fun c93 => ?_)
              · have t93 := bf_lacks_z c93
                rw [if_pos c93] at hG
                refine lv_aload_n hx hb dX3_spanRefusal_102 rfl (lv_at hl 1 rfl) ?_
                refine lv_iconst (v := 0) hx hb dX3_spanRefusal_103 (by decide) ?_
                refine r_put (C := RX3) (T := TX3) (N := 14) S hK w (k := 0) (by decide) (eC_0 ad _) rfl hinX3 tyX3 tyX3_ok nmX3 9 (by decide) (List.mem_of_getElem? (i := 2) rfl) rfl (x := 0) (ty := .int) (by decide +kernel) rfl rfl (by show _ < List.length _; exact Nat.le_of_ble_eq_true rfl) (sO ad _ _ 9 (by decide)) dX3_spanRefusal_104 (fun H locs w => ?_)
                refine lv_iconst (v := 0) hx hb dX3_spanRefusal_107 (by decide) ?_
                exact endWi S hr hlocks w hG dX3_spanRefusal_108
              · rw [if_neg c93] at hG
                refine lv_aload_n hx hb dX3_spanRefusal_96 rfl (lv_at hl 1 rfl) ?_
                refine lv_iconst (v := 3) hx hb dX3_spanRefusal_97 (by decide) ?_
                refine callWi w (va_runV (As := [.int 3]) (rest := []) S (c_X3_faulted l ad D s.heap.size σ 3) (cwV 1 S.2.2.2.2 gX3_spanRefusal_X3_faulted rfl rfl rfl ⟨rfl, hd_X3_faulted⟩ ⟨Nat.le_of_ble_eq_true rfl, Nat.le_of_ble_eq_true rfl⟩) (preV hK hN w (k := 0) (by decide) (eC_0 ad _) (q := (RX3, TX3, 14)) rfl) rfl rfl hl.1 rfl (lv_room (Nat.le_of_ble_eq_true rfl)) dX3_spanRefusal_98 ⟨Nat.zero_le _, Nat.zero_le _⟩) (fun H locs w => ?_)
                exact endWi S hr hlocks w hG dX3_spanRefusal_101
            · rw [if_neg c76] at hG
              refine lv_aload_n hx hb dX3_spanRefusal_79 rfl (lv_at hl 1 rfl) ?_
              refine lv_iconst (v := 4) hx hb dX3_spanRefusal_80 (by decide) ?_
              refine callWi w (va_runV (As := [.int 4]) (rest := []) S (c_X3_faulted l ad D s.heap.size σ 4) (cwV 1 S.2.2.2.2 gX3_spanRefusal_X3_faulted rfl rfl rfl ⟨rfl, hd_X3_faulted⟩ ⟨Nat.le_of_ble_eq_true rfl, Nat.le_of_ble_eq_true rfl⟩) (preV hK hN w (k := 0) (by decide) (eC_0 ad _) (q := (RX3, TX3, 14)) rfl) rfl rfl hl.1 rfl (lv_room (Nat.le_of_ble_eq_true rfl)) dX3_spanRefusal_81 ⟨Nat.zero_le _, Nat.zero_le _⟩) (fun H locs w => ?_)
              exact endWi S hr hlocks w hG dX3_spanRefusal_84
          · have t63 : (σ (9 + (ix p1)) 0).toInt = 0 := qt_eq c63
            rw [if_pos c63] at hG
            refine lv_aload_n hx hb dX3_spanRefusal_66 rfl (lv_at hl 1 rfl) ?_
            refine lv_iconst (v := 1) hx hb dX3_spanRefusal_67 (by decide) ?_
            refine callWi w (va_runV (As := [.int 1]) (rest := []) S (c_X3_faulted l ad D s.heap.size σ 1) (cwV 1 S.2.2.2.2 gX3_spanRefusal_X3_faulted rfl rfl rfl ⟨rfl, hd_X3_faulted⟩ ⟨Nat.le_of_ble_eq_true rfl, Nat.le_of_ble_eq_true rfl⟩) (preV hK hN w (k := 0) (by decide) (eC_0 ad _) (q := (RX3, TX3, 14)) rfl) rfl rfl hl.1 rfl (lv_room (Nat.le_of_ble_eq_true rfl)) dX3_spanRefusal_68 ⟨Nat.zero_le _, Nat.zero_le _⟩) (fun H locs w => ?_)
            exact endWi S hr hlocks w hG dX3_spanRefusal_71
        · have t49 : (σ (9 + (ix p1)) 1).toInt ≠ p2.toInt := qt_ne c49
          rw [if_neg c49] at hG
          refine lv_aload_n hx hb dX3_spanRefusal_52 rfl (lv_at hl 1 rfl) ?_
          refine lv_iconst (v := 2) hx hb dX3_spanRefusal_53 (by decide) ?_
          refine callWi w (va_runV (As := [.int 2]) (rest := []) S (c_X3_faulted l ad D s.heap.size σ 2) (cwV 1 S.2.2.2.2 gX3_spanRefusal_X3_faulted rfl rfl rfl ⟨rfl, hd_X3_faulted⟩ ⟨Nat.le_of_ble_eq_true rfl, Nat.le_of_ble_eq_true rfl⟩) (preV hK hN w (k := 0) (by decide) (eC_0 ad _) (q := (RX3, TX3, 14)) rfl) rfl rfl hl.1 rfl (lv_room (Nat.le_of_ble_eq_true rfl)) dX3_spanRefusal_54 ⟨Nat.zero_le _, Nat.zero_le _⟩) (fun H locs w => ?_)
          exact endWi S hr hlocks w hG dX3_spanRefusal_57
    · rw [if_pos c17] at hG
      refine lv_aload_n hx hb dX3_spanRefusal_20 rfl (lv_at hl 0 rfl) ?_
      refine lv_bipush (v := (-2)) hx hb dX3_spanRefusal_21 (by decide) ?_
      refine callWi w (va_runV (As := [.int (-2)]) (rest := []) S (c_X3_refused l ad D s.heap.size σ (-2)) (cwV 1 S.2.2.2.2 gX3_spanRefusal_X3_refused rfl rfl rfl ⟨rfl, hd_X3_refused⟩ ⟨Nat.le_of_ble_eq_true rfl, Nat.le_of_ble_eq_true rfl⟩) (preV hK hN w (k := 0) (by decide) (eC_0 ad _) (q := (RX3, TX3, 14)) rfl) rfl rfl hl.1 rfl (lv_room (Nat.le_of_ble_eq_true rfl)) dX3_spanRefusal_23 ⟨Nat.zero_le _, Nat.zero_le _⟩) (fun H locs w => ?_)
      exact endWi S hr hlocks w hG dX3_spanRefusal_26
  · rw [if_pos c4] at hG
    refine lv_aload_n hx hb dX3_spanRefusal_7 rfl (lv_at hl 0 rfl) ?_
    refine lv_iconst (v := (-1)) hx hb dX3_spanRefusal_8 (by decide) ?_
    refine callWi w (va_runV (As := [.int (-1)]) (rest := []) S (c_X3_refused l ad D s.heap.size σ (-1)) (cwV 1 S.2.2.2.2 gX3_spanRefusal_X3_refused rfl rfl rfl ⟨rfl, hd_X3_refused⟩ ⟨Nat.le_of_ble_eq_true rfl, Nat.le_of_ble_eq_true rfl⟩) (preV hK hN w (k := 0) (by decide) (eC_0 ad _) (q := (RX3, TX3, 14)) rfl) rfl rfl hl.1 rfl (lv_room (Nat.le_of_ble_eq_true rfl)) dX3_spanRefusal_9 ⟨Nat.zero_le _, Nat.zero_le _⟩) (fun H locs w => ?_)
    exact endWi S hr hlocks w hG dX3_spanRefusal_12
set_option maxHeartbeats 4000000 in
set_option maxRecDepth 100000 in
theorem c_X3_kindOf (l : Launch) (p1 : Int32) : Met l yX3_kindOf wsX3_kindOf ({ frames := 0, cells := 0, slots := 0, locals := 0 }) (Pre0 ([.int p1] : List Value)) (Q0i (f_X3_kindOf p1)) 0 0 N0 := by
  generalize hG : f_X3_kindOf p1 = T
  refine head0 (cc := cX3_kindOf) (maxL := 1) (ret := (some .int)) ([.int p1] : List Value) (by decide) rfl (Nat.le_of_ble_eq_true rfl) ?_
  intro p e s m below meth c S hr hlocks ls hl
  have S : CallFix p m c cX3_kindOf 1 s ([.int p1] : List Value).toArray wsX3_kindOf RX3 := S
  have hx := S.1
  have hb := S.2.1
  have z0 : (0 : Int32).toInt = 0 := by decide
  have z1 : (1 : Int32).toInt = 1 := by decide
  have hl : lv_has ls 1 [(0, .int p1)] := hl
  rw [f_X3_kindOf] at hG
  refine lv_iload_n hx hb dX3_kindOf_0 rfl (lv_at hl 0 rfl) ?_
  by_cases c1_0 : p1 = 102
  · rw [if_pos c1_0] at hG
    refine lv_lookup (tgt := 38) hx hb dX3_kindOf_1 (by decide) (off := 37) (by rw [c1_0]; decide) (by decide) ?_
    refine lv_iconst (v := 1) hx hb dX3_kindOf_38 (by decide) ?_
    exact end0i S hr hlocks hG dX3_kindOf_39
  rw [if_neg c1_0] at hG
  by_cases c1_1 : p1 = 112
  · rw [if_pos c1_1] at hG
    refine lv_lookup (tgt := 36) hx hb dX3_kindOf_1 (by decide) (off := 35) (by rw [c1_1]; decide) (by decide) ?_
    refine lv_iconst (v := 0) hx hb dX3_kindOf_36 (by decide) ?_
    exact end0i S hr hlocks hG dX3_kindOf_37
  rw [if_neg c1_1] at hG
  by_cases c1_2 : p1 = 115
  · rw [if_pos c1_2] at hG
    refine lv_lookup (tgt := 40) hx hb dX3_kindOf_1 (by decide) (off := 39) (by rw [c1_2]; decide) (by decide) ?_
    refine lv_iconst (v := 2) hx hb dX3_kindOf_40 (by decide) ?_
    exact end0i S hr hlocks hG dX3_kindOf_41
  rw [if_neg c1_2] at hG
  refine lv_lookup (tgt := 42) hx hb dX3_kindOf_1 (by decide) (off := 41) (by show Op.lookupswitch.offset [(102, 37), (112, 35), (115, 39)] 41 p1.toInt = 41; rw [lv_osw (a := 102) c1_0 (by decide), lv_osw (a := 112) c1_1 (by decide), lv_osw (a := 115) c1_2 (by decide)]; rfl) (by decide) ?_
  refine lv_iconst (v := (-1)) hx hb dX3_kindOf_42 (by decide) ?_
  exact end0i S hr hlocks hG dX3_kindOf_43
set_option maxHeartbeats 4000000 in
set_option maxRecDepth 100000 in
theorem c_X3_goesOn (l : Launch) (p1 : Int32) (p2 : Int32) : Met l yX3_goesOn wsX3_goesOn ({ frames := 1, cells := 0, slots := 0, locals := 20 }) (Pre0 ([.int p1, .int p2] : List Value)) (Q0i (f_X3_goesOn p1 p2)) 0 0 N0 := by
  generalize hG : f_X3_goesOn p1 p2 = T
  refine head0 (cc := cX3_goesOn) (maxL := 3) (ret := (some .boolean)) ([.int p1, .int p2] : List Value) (by decide) rfl (Nat.le_of_ble_eq_true rfl) ?_
  intro p e s m below meth c S hr hlocks ls hl
  have S : CallFix p m c cX3_goesOn 3 s ([.int p1, .int p2] : List Value).toArray wsX3_goesOn RX3 := S
  have hx := S.1
  have hb := S.2.1
  have z0 : (0 : Int32).toInt = 0 := by decide
  have z1 : (1 : Int32).toInt = 1 := by decide
  have hl : lv_has ls 3 [(0, .int p1), (1, .int p2)] := hl
  rw [f_X3_goesOn] at hG
  refine lv_iload_n hx hb dX3_goesOn_0 rfl (lv_at hl 1 rfl) ?_
  refine lv_bipush (v := 11) hx hb dX3_goesOn_1 (by decide) ?_
  refine lv_irem hx hb dX3_goesOn_3 (by decide) ?_
  refine lv_istore_n (lv' := [(2, .int (p2 - (p2 / 11) * 11)), (0, .int p1), (1, .int p2)]) hx hb dX3_goesOn_4 rfl hl (by decide) rfl (fun ls hl => ?_)
  refine lv_iload_n hx hb dX3_goesOn_5 rfl (lv_at hl 0 rfl) ?_
  refine lv_if_ne (tgt := 22) hx hb dX3_goesOn_6 (by decide) (fun c6 => ?_) (fun c6 => ?_)
  · have t6 : (p2 - (p2 / 11) * 11).toInt ≠ 0 := qt_ne c6
    rw [if_neg c6] at hG
    refine lv_iload_n hx hb dX3_goesOn_22 rfl (lv_at hl 0 rfl) ?_
    refine lv_bipush (v := 10) hx hb dX3_goesOn_23 (by decide) ?_
    refine lv_icmp_ne (tgt := 51) hx hb dX3_goesOn_25 (by decide) (fun c25 => ?_) (fun c25 => ?_)
    · have t25 : (p2 - (p2 / 11) * 11).toInt ≠ 10 := qt_ne c25
      rw [if_neg c25] at hG
      refine lv_iload_n hx hb dX3_goesOn_51 rfl (lv_at hl 1 rfl) ?_
      refine lv_bipush (v := 48) hx hb dX3_goesOn_52 (by decide) ?_
      refine lv_icmp_lt (tgt := 67) hx hb dX3_goesOn_54 (by decide) (fun c54 => ?_) (fun c54 => ?_)
      · have t54 : p1.toInt < 48 := qt_lt c54
        rw [if_pos c54] at hG
        refine lv_iconst (v := 0) hx hb dX3_goesOn_67 (by decide) ?_
        exact end0z S hr hlocks (Or.inl rfl) hG dX3_goesOn_68
      · have t54 : 48 ≤ p1.toInt := qt_nlt c54
        rw [if_neg c54] at hG
        refine lv_iload_n hx hb dX3_goesOn_57 rfl (lv_at hl 1 rfl) ?_
        refine lv_bipush (v := 57) hx hb dX3_goesOn_58 (by decide) ?_
        refine lv_icmp_gt (tgt := 67) hx hb dX3_goesOn_60 (by decide) (fun c60 => ?_) (fun c60 => ?_)
        · have t60 : 57 < p1.toInt := qt_lt c60
          rw [if_pos c60] at hG
          refine lv_iconst (v := 0) hx hb dX3_goesOn_67 (by decide) ?_
          exact end0z S hr hlocks (Or.inl rfl) hG dX3_goesOn_68
        · have t60 : p1.toInt ≤ 57 := qt_nlt c60
          rw [if_neg c60] at hG
          refine lv_iconst (v := 1) hx hb dX3_goesOn_63 (by decide) ?_
          refine lv_goto (tgt := 68) hx hb dX3_goesOn_64 (by decide) ?_
          exact end0z S hr hlocks (Or.inr rfl) hG dX3_goesOn_68
    · have t25 : (p2 - (p2 / 11) * 11).toInt = 10 := qt_eq c25
      rw [if_pos c25] at hG
      refine lv_iload_n hx hb dX3_goesOn_28 rfl (lv_at hl 1 rfl) ?_
      refine lv_bipush (v := 59) hx hb dX3_goesOn_29 (by decide) ?_
      refine lv_icmp_ne (tgt := 49) hx hb dX3_goesOn_31 (by decide) (fun c31 => ?_) (fun c31 => ?_)
      · have t31 : p1.toInt ≠ 59 := qt_ne c31
        rw [if_neg c31] at hG
        refine lv_iconst (v := 0) hx hb dX3_goesOn_49 (by decide) ?_
        exact end0z S hr hlocks (Or.inl rfl) hG dX3_goesOn_50
      · have t31 : p1.toInt = 59 := qt_eq c31
        rw [if_pos c31] at hG
        refine lv_iload_n hx hb dX3_goesOn_34 rfl (lv_at hl 2 rfl) ?_
        refine lv_bipush (v := 11) hx hb dX3_goesOn_35 (by decide) ?_
        refine lv_idiv hx hb dX3_goesOn_37 (by decide) ?_
        refine lv_iconst (v := 1) hx hb dX3_goesOn_38 (by decide) ?_
        refine lv_iadd hx hb dX3_goesOn_39 ?_
        refine lv_bipush (v := 8) hx hb dX3_goesOn_40 (by decide) ?_
        refine lv_icmp_ge (tgt := 49) hx hb dX3_goesOn_42 (by decide) (fun c42 => ?_) (fun c42 => ?_)
        · have t42 : 8 ≤ ((p2 / 11) + 1).toInt := qt_le c42
          rw [if_pos c42] at hG
          refine lv_iconst (v := 0) hx hb dX3_goesOn_49 (by decide) ?_
          exact end0z S hr hlocks (Or.inl rfl) hG dX3_goesOn_50
        · have t42 : ((p2 / 11) + 1).toInt < 8 := qt_nle c42
          rw [if_neg c42] at hG
          refine lv_iconst (v := 1) hx hb dX3_goesOn_45 (by decide) ?_
          refine lv_goto (tgt := 50) hx hb dX3_goesOn_46 (by decide) ?_
          exact end0z S hr hlocks (Or.inr rfl) hG dX3_goesOn_50
  · have t6 : (p2 - (p2 / 11) * 11).toInt = 0 := qt_eq c6
    rw [if_pos c6] at hG
    refine lv_iload_n hx hb dX3_goesOn_9 rfl (lv_at hl 1 rfl) ?_
    refine call0i (va_runS (As := [.int p1]) (rest := []) S (c_X3_kindOf l p1) (va_cwS 1 S.2.2.2.2 gX3_goesOn_X3_kindOf rfl rfl rfl hd_X3_kindOf ⟨Nat.le_of_ble_eq_true rfl, Nat.le_of_ble_eq_true rfl⟩) pre0S rfl rfl hl.1 rfl (lv_room (Nat.le_of_ble_eq_true rfl)) dX3_goesOn_10 ⟨Nat.zero_le _, Nat.zero_le _⟩) ?_
    refine lv_if_lt (tgt := 20) hx hb dX3_goesOn_13 (by decide) (fun c13 => ?_) (fun c13 => ?_)
    · have t13 : (f_X3_kindOf p1).toInt < 0 := qt_lt c13
      rw [if_pos c13] at hG
      refine lv_iconst (v := 0) hx hb dX3_goesOn_20 (by decide) ?_
      exact end0z S hr hlocks (Or.inl rfl) hG dX3_goesOn_21
    · have t13 : 0 ≤ (f_X3_kindOf p1).toInt := qt_nlt c13
      rw [if_neg c13] at hG
      refine lv_iconst (v := 1) hx hb dX3_goesOn_16 (by decide) ?_
      refine lv_goto (tgt := 21) hx hb dX3_goesOn_17 (by decide) ?_
      exact end0z S hr hlocks (Or.inr rfl) hG dX3_goesOn_21
set_option maxHeartbeats 4000000 in
set_option maxRecDepth 100000 in
theorem c_X3_textFault (l : Launch) (ad : Nat → Nat) (D : va_G) (sz : Nat) (σ : St) (p1 : Nat) (p2 : Int32) (p3 : Int32) (hp1 : p1 < 4) (hb1 : 0 ≤ p2.toInt) (hb2 : 0 ≤ p3.toInt) (hb3 : p2.toInt + p3.toInt ≤ 90) : Met l yX3_textFault wsX3_textFault ({ frames := 2, cells := 0, slots := 0, locals := 42 }) (PreW 41 (eC ad) ad D (tyC ad) σ sz ([.ref (ad (9 + p1)), .int p2, .int p3] : List Value)) (Q0i (f_X3_textFault σ p1 p2 p3)) 0 0 N0 := by
  generalize hG : f_X3_textFault σ p1 p2 p3 = T
  refine headW (cc := cX3_textFault) (maxL := 4) (ret := (some .int)) ([.ref (ad (9 + p1)), .int p2, .int p3] : List Value) (by decide) rfl (Nat.le_of_ble_eq_true rfl) ?_
  intro p e s m below meth c S hr hlocks hK hN hsz w ls hl
  have S : CallFix p m c cX3_textFault 4 s ([.ref (ad (9 + p1)), .int p2, .int p3] : List Value).toArray wsX3_textFault RX3 := S
  have hx := S.1
  have hb := S.2.1
  have z0 : (0 : Int32).toInt = 0 := by decide
  have z1 : (1 : Int32).toInt = 1 := by decide
  have hl : lv_has ls 4 [(0, .ref (ad (9 + p1))), (1, .int p2), (2, .int p3)] := hl
  have hinX1 : ∀ w ∈ wsX10, w ∈ wsX3_textFault := (fun _ h => List.mem_cons_of_mem _ (List.mem_append_right _ h))
  rw [f_X3_textFault] at hG
  refine lv_iconst (v := 0) hx hb dX3_textFault_0 (by decide) ?_
  refine lv_istore_n (lv' := [(3, .int 0), (0, .ref (ad (9 + p1))), (1, .int p2), (2, .int p3)]) hx hb dX3_textFault_1 rfl hl (by decide) rfl (fun ls hl => ?_)
  have L2 : ∀ (n : Nat) (res2 : (Int32) ⊕ (Unit)), ∀ (v3_2 : Int32), ((0 ≤ v3_2.toInt ∧ v3_2.toInt ≤ p3.toInt)) → (p3.toInt - v3_2.toInt).toNat < n → (lp_X3_textFault_2 σ p1 p2 p3 n v3_2) = res2 → (∀ r : Int32, res2 = Sum.inl r → r = T) → (res2 = Sum.inr () → ∀ ls : Array Slot, lv_has ls 4 [(2, .int p3)] → W p l e (headSpec wsX3_textFault ({ frames := 2, cells := 0, slots := 0, locals := 42 })).room s m ([.ref (ad (9 + p1)), .int p2, .int p3] : List Value).toArray below meth c s.heap [] 0 0 (MQ below (Q0i T) ([.ref (ad (9 + p1)), .int p2, .int p3] : List Value).toArray s 0 0 N0) (F0 m 30 ls [])) → ∀ ls : Array Slot, lv_has ls 4 [(0, .ref (ad (9 + p1))), (1, .int p2), (2, .int p3), (3, .int v3_2)] → W p l e (headSpec wsX3_textFault ({ frames := 2, cells := 0, slots := 0, locals := 42 })).room s m ([.ref (ad (9 + p1)), .int p2, .int p3] : List Value).toArray below meth c s.heap [] 0 0 (MQ below (Q0i T) ([.ref (ad (9 + p1)), .int p2, .int p3] : List Value).toArray s 0 0 N0) (F0 m 2 ls []) := by
    intro n
    induction n with
    | zero => intro _ _ _ hm; exact absurd hm (Nat.not_lt_zero _)
    | succ n ih2 =>
      intro res2 v3_2 hI2 hm2 hG hret2 hex2 ls hl
      have i2_0 := hI2
      rw [lp_X3_textFault_2] at hG
      refine lv_iload_n hx hb dX3_textFault_2 rfl (lv_at hl 3 rfl) ?_
      refine lv_iload_n hx hb dX3_textFault_3 rfl (lv_at hl 2 rfl) ?_
      refine lv_icmp_ge (tgt := 30) hx hb dX3_textFault_4 (by decide) (fun c4 => ?_) (fun c4 => ?_)
      · have t4 : p3.toInt ≤ v3_2.toInt := qt_le c4
        rw [if_pos c4] at hG
        exact hex2  hG.symm ls (lv_sub hl [2] rfl)
      · have t4 : v3_2.toInt < p3.toInt := qt_nle c4
        rw [if_neg c4] at hG
        refine lv_aload_n hx hb dX3_textFault_7 rfl (lv_at hl 0 rfl) ?_
        refine r_getN (C := RX1) (T := TX1) (N := 4) S hK hN w (k := (9 + p1)) (Nat.lt_of_lt_of_le (Nat.add_lt_add_left hp1 9) (by decide)) (eC_sh ad hp1 _) rfl hinX1 3 (by decide) 2 rfl rfl dX3_textFault_8 ?_
        refine lv_iload_n hx hb dX3_textFault_11 rfl (lv_at hl 1 rfl) ?_
        refine lv_iload_n hx hb dX3_textFault_12 rfl (lv_at hl 3 rfl) ?_
        refine lv_iadd hx hb dX3_textFault_13 ?_
        have e14 := a_toInt (a := p2) (b := v3_2) (by omega) (by omega)
        have g14 : vp_in (p2 + v3_2) 90 := vpi (by omega) (by omega)
        refine r_iald (cA := ad 100) (N := 90) S hK w (k := (13 + p1)) (Nat.lt_of_lt_of_le (Nat.add_lt_add_left hp1 13) (by decide)) (fun f => eC_sc ad hp1 f) rfl g14 dX3_textFault_14 ?_
        refine lv_iload_n hx hb dX3_textFault_15 rfl (lv_at hl 3 rfl) ?_
        refine call0i (va_runS (As := [.int (σ (13 + p1) (ix (p2 + v3_2))), .int v3_2]) (rest := []) S (c_X3_goesOn l (σ (13 + p1) (ix (p2 + v3_2))) v3_2) (va_cwS 2 S.2.2.2.2 gX3_textFault_X3_goesOn rfl rfl rfl hd_X3_goesOn ⟨Nat.le_of_ble_eq_true rfl, Nat.le_of_ble_eq_true rfl⟩) pre0S rfl rfl hl.1 rfl (lv_room (Nat.le_of_ble_eq_true rfl)) dX3_textFault_16 ⟨Nat.zero_le _, Nat.zero_le _⟩) ?_
        refine lv_if_ne (tgt := 24) hx hb dX3_textFault_19 (by decide) (fun c19 => ?_) (fun c19 => ?_)
        · rw [if_neg c19] at hG
          refine lv_iinc (v := (v3_2 + 1)) (lv' := [(3, .int (v3_2 + 1)), (0, .ref (ad (9 + p1))), (1, .int p2), (2, .int p3)]) hx hb dX3_textFault_24 hl (k := 3) rfl rfl (by decide) rfl (fun ls hl => ?_)
          refine lv_goto (tgt := 2) hx hb dX3_textFault_27 (by decide) ?_
          have b3_2 : (v3_2 + 1).toInt = v3_2.toInt + 1 := inc_toInt (by omega) (by omega)
          exact ih2 _ (v3_2 + 1) (by omega) (by omega) hG hret2 hex2 ls (lv_sub hl [1, 2, 3, 0] rfl)
        · rw [if_pos c19] at hG
          refine lv_iload_n hx hb dX3_textFault_22 rfl (lv_at hl 3 rfl) ?_
          exact end0i S hr hlocks (hret2 _ hG.symm) dX3_textFault_23
  refine L2 200 _ 0 (by omega) (by omega) rfl (fun r hr2 => by rw [hr2] at hG; exact hG) (fun hr2 ls hl => ?_) ls (lv_sub hl [1, 2, 3, 0] rfl)
  rw [hr2] at hG
  dsimp only at hG
  refine lv_iload_n hx hb dX3_textFault_30 rfl (lv_at hl 0 rfl) ?_
  refine lv_bipush (v := 11) hx hb dX3_textFault_31 (by decide) ?_
  refine lv_irem hx hb dX3_textFault_33 (by decide) ?_
  refine lv_bipush (v := 10) hx hb dX3_textFault_34 (by decide) ?_
  have J36_54 : ∀ (k0_36_54 : Int32), (if k0_36_54 = 0 then p3 else (-1)) = T → ∀ ls : Array Slot, lv_has ls 4 [(2, .int p3)] → W p l e (headSpec wsX3_textFault ({ frames := 2, cells := 0, slots := 0, locals := 42 })).room s m ([.ref (ad (9 + p1)), .int p2, .int p3] : List Value).toArray below meth c s.heap [] 0 0 (MQ below (Q0i T) ([.ref (ad (9 + p1)), .int p2, .int p3] : List Value).toArray s 0 0 N0) (F0 m 54 ls [.int k0_36_54]) := by
    intro k0_36_54 hG ls hl
    refine lv_istore_n (lv' := [(3, .int k0_36_54), (2, .int p3)]) hx hb dX3_textFault_54 rfl hl (by decide) rfl (fun ls hl => ?_)
    refine lv_iload_n hx hb dX3_textFault_55 rfl (lv_at hl 0 rfl) ?_
    refine lv_if_eq (tgt := 63) hx hb dX3_textFault_56 (by decide) (fun c56 => ?_) (fun c56 => ?_)
    · have t56 : k0_36_54.toInt = 0 := qt_eq c56
      rw [if_pos c56] at hG
      refine lv_iload_n hx hb dX3_textFault_63 rfl (lv_at hl 1 rfl) ?_
      exact end0i S hr hlocks hG dX3_textFault_64
    · have t56 : k0_36_54.toInt ≠ 0 := qt_ne c56
      rw [if_neg c56] at hG
      refine lv_iconst (v := (-1)) hx hb dX3_textFault_59 (by decide) ?_
      refine lv_goto (tgt := 64) hx hb dX3_textFault_60 (by decide) ?_
      exact end0i S hr hlocks hG dX3_textFault_64
  refine lv_icmp_ne (tgt := 53) hx hb dX3_textFault_36 (by decide) (fun c36 => ?_) (fun c36 => ?_)
  · have t36 : (p3 - (p3 / 11) * 11).toInt ≠ 10 := qt_ne c36
    simp only [if_neg c36] at hG
    refine lv_iconst (v := 0) hx hb dX3_textFault_53 (by decide) ?_
    exact J36_54 0 hG ls (lv_sub hl [0] rfl)
  · have t36 : (p3 - (p3 / 11) * 11).toInt = 10 := qt_eq c36
    simp only [if_pos c36] at hG
    refine lv_iload_n hx hb dX3_textFault_39 rfl (lv_at hl 0 rfl) ?_
    refine lv_bipush (v := 11) hx hb dX3_textFault_40 (by decide) ?_
    refine lv_idiv hx hb dX3_textFault_42 (by decide) ?_
    refine lv_iconst (v := 1) hx hb dX3_textFault_43 (by decide) ?_
    refine lv_iadd hx hb dX3_textFault_44 ?_
    refine lv_iconst (v := 2) hx hb dX3_textFault_45 (by decide) ?_
    refine lv_icmp_lt (tgt := 53) hx hb dX3_textFault_46 (by decide) (fun c46 => ?_) (fun c46 => ?_)
    · have t46 : ((p3 / 11) + 1).toInt < 2 := qt_lt c46
      simp only [if_pos c46] at hG
      refine lv_iconst (v := 0) hx hb dX3_textFault_53 (by decide) ?_
      exact J36_54 0 hG ls (lv_sub hl [0] rfl)
    · have t46 : 2 ≤ ((p3 / 11) + 1).toInt := qt_nlt c46
      simp only [if_neg c46] at hG
      refine lv_iconst (v := 1) hx hb dX3_textFault_49 (by decide) ?_
      refine lv_goto (tgt := 54) hx hb dX3_textFault_50 (by decide) ?_
      exact J36_54 1 hG ls (lv_sub hl [0] rfl)
set_option maxHeartbeats 4000000 in
set_option maxRecDepth 100000 in
theorem c_X3_takeText (l : Launch) (ad : Nat → Nat) (D : va_G) (sz : Nat) (σ : St) (p1 : Nat) (p2 : Int32) (p3 : Int32) (hp1 : p1 < 4) (hb1 : 0 ≤ p2.toInt) (hb2 : 0 ≤ (p3 / 11 + 1).toInt ∧ (p3 / 11 + 1).toInt ≤ 8) (hb3 : p2.toInt + 11 * (p3 / 11 + 1).toInt ≤ 91) : Met l yX3_takeText wsX3_takeText ({ frames := 1, cells := 0, slots := 0, locals := 20 }) (PreW 41 (eC ad) ad D (tyC ad) σ sz ([.ref (ad 0), .ref (ad (9 + p1)), .int p2, .int p3] : List Value)) (QWv 41 (eC ad) ad D (f_X3_takeText σ p1 p2 p3) (CA 41 ad sz)) 0 0 (CA 41 ad sz) := by
  generalize hG : f_X3_takeText σ p1 p2 p3 = T
  refine headW (cc := cX3_takeText) (maxL := 8) (ret := none) ([.ref (ad 0), .ref (ad (9 + p1)), .int p2, .int p3] : List Value) (by decide) rfl (Nat.le_of_ble_eq_true rfl) ?_
  intro p e s m below meth c S hr hlocks hK hN hsz w ls hl
  have S : CallFix p m c cX3_takeText 8 s ([.ref (ad 0), .ref (ad (9 + p1)), .int p2, .int p3] : List Value).toArray wsX3_takeText RX3 := S
  have hx := S.1
  have hb := S.2.1
  have z0 : (0 : Int32).toInt = 0 := by decide
  have z1 : (1 : Int32).toInt = 1 := by decide
  have hl : lv_has ls 8 [(0, .ref (ad 0)), (1, .ref (ad (9 + p1))), (2, .int p2), (3, .int p3)] := hl
  have hinX3 : ∀ w ∈ wsX30, w ∈ wsX3_takeText := (fun _ h => List.mem_cons_of_mem _ (List.mem_append_left _ (List.mem_append_left _ (List.mem_append_right _ h))))
  have hinX1 : ∀ w ∈ wsX10, w ∈ wsX3_takeText := (fun _ h => List.mem_cons_of_mem _ (List.mem_append_left _ (List.mem_append_right _ h)))
  have hinX2 : ∀ w ∈ wsX20, w ∈ wsX3_takeText := (fun _ h => List.mem_cons_of_mem _ (List.mem_append_right _ h))
  rw [f_X3_takeText] at hG
  refine lv_aload_n hx hb dX3_takeText_0 rfl (lv_at hl 0 rfl) ?_
  refine lv_iload_n hx hb dX3_takeText_1 rfl (lv_at hl 3 rfl) ?_
  refine lv_bipush (v := 11) hx hb dX3_takeText_2 (by decide) ?_
  refine lv_idiv hx hb dX3_takeText_4 (by decide) ?_
  refine lv_iconst (v := 1) hx hb dX3_takeText_5 (by decide) ?_
  refine lv_iadd hx hb dX3_takeText_6 ?_
  refine r_put (C := RX3) (T := TX3) (N := 14) S hK w (k := 0) (by decide) (eC_0 ad _) rfl hinX3 tyX3 tyX3_ok nmX3 4 (by decide) (List.mem_of_getElem? (i := 1) rfl) rfl (x := ((p3 / 11) + 1)) (ty := .int) (by decide +kernel) rfl rfl (by show _ < List.length _; exact Nat.le_of_ble_eq_true rfl) (sO ad _ _ 4 (by decide)) dX3_takeText_7 (fun H locs w => ?_)
  refine lv_iconst (v := 0) hx hb dX3_takeText_10 (by decide) ?_
  refine lv_istore (lv' := [(4, .int 0), (0, .ref (ad 0)), (1, .ref (ad (9 + p1))), (2, .int p2), (3, .int p3)]) hx hb dX3_takeText_11 hl (by decide) rfl (fun ls hl => ?_)
  have L13 : ∀ (n : Nat) (res13 : St), ∀ (v4_13 : Int32), ∀ (S_13 : St), ((0 ≤ v4_13.toInt ∧ v4_13.toInt ≤ 8) ∧ (S_13 0 4 = p3 / 11 + 1)) → (8 - v4_13.toInt).toNat < n → (lp_X3_takeText_13 p1 p2 n v4_13 S_13) = res13 → (∀ (S_13e : St), res13 = S_13e → ∀ (H : Heap) (locs : List Loc), CW 41 (eC ad) ad D (CA 41 ad sz) s.heap S_13e H locs → ∀ ls : Array Slot, lv_has ls 8 [(0, .ref (ad 0))] → W p l e (headSpec wsX3_takeText ({ frames := 1, cells := 0, slots := 0, locals := 20 })).room s m ([.ref (ad 0), .ref (ad (9 + p1)), .int p2, .int p3] : List Value).toArray below meth c H locs 0 0 (MQ below (QWv 41 (eC ad) ad D T (CA 41 ad sz)) ([.ref (ad 0), .ref (ad (9 + p1)), .int p2, .int p3] : List Value).toArray s 0 0 (CA 41 ad sz)) (F0 m 133 ls [])) → ∀ (H : Heap) (locs : List Loc), CW 41 (eC ad) ad D (CA 41 ad sz) s.heap S_13 H locs → ∀ ls : Array Slot, lv_has ls 8 [(0, .ref (ad 0)), (1, .ref (ad (9 + p1))), (2, .int p2), (4, .int v4_13)] → W p l e (headSpec wsX3_takeText ({ frames := 1, cells := 0, slots := 0, locals := 20 })).room s m ([.ref (ad 0), .ref (ad (9 + p1)), .int p2, .int p3] : List Value).toArray below meth c H locs 0 0 (MQ below (QWv 41 (eC ad) ad D T (CA 41 ad sz)) ([.ref (ad 0), .ref (ad (9 + p1)), .int p2, .int p3] : List Value).toArray s 0 0 (CA 41 ad sz)) (F0 m 13 ls []) := by
    intro n
    induction n with
    | zero => intro _ _ _ _ hm; exact absurd hm (Nat.not_lt_zero _)
    | succ n ih13 =>
      intro res13 v4_13 S_13 hI13 hm13 hG hex13 H locs w ls hl
      obtain ⟨i13_0, i13_1⟩ := id hI13
      rw [lp_X3_takeText_13] at hG
      have q13 : (S_13 0 4).toInt = (p3 / 11 + 1).toInt := by rw [i13_1]
      refine lv_iload hx hb dX3_takeText_13 (lv_at hl 3 rfl) ?_
      refine lv_aload_n hx hb dX3_takeText_15 rfl (lv_at hl 0 rfl) ?_
      refine r_get (C := RX3) (T := TX3) (N := 14) S hK w (k := 0) (by decide) (eC_0 ad _) rfl hinX3 4 (by decide) (List.mem_of_getElem? (i := 1) rfl) rfl dX3_takeText_16 ?_
      refine lv_icmp_ge (tgt := 133) hx hb dX3_takeText_19 (by decide) (fun c19 => ?_) (fun c19 => ?_)
      · have t19 : (S_13 0 4).toInt ≤ v4_13.toInt := qt_le c19
        rw [if_pos c19] at hG
        exact hex13 S_13 hG.symm _ _ w ls (lv_sub hl [0] rfl)
      · have t19 : v4_13.toInt < (S_13 0 4).toInt := qt_nle c19
        rw [if_neg c19] at hG
        refine lv_iload_n hx hb dX3_takeText_22 rfl (lv_at hl 2 rfl) ?_
        refine lv_iload hx hb dX3_takeText_23 (lv_at hl 3 rfl) ?_
        refine lv_bipush (v := 11) hx hb dX3_takeText_25 (by decide) ?_
        refine lv_imul hx hb dX3_takeText_27 ?_
        refine lv_iadd hx hb dX3_takeText_28 ?_
        refine lv_istore (lv' := [(5, .int (p2 + (v4_13 * 11))), (0, .ref (ad 0)), (1, .ref (ad (9 + p1))), (2, .int p2), (4, .int v4_13)]) hx hb dX3_takeText_29 hl (by decide) rfl (fun ls hl => ?_)
        refine lv_aload_n hx hb dX3_takeText_31 rfl (lv_at hl 1 rfl) ?_
        refine r_get (C := RX3) (T := TX3) (N := 14) S hK w (k := 0) (by decide) (eC_0 ad _) rfl hinX3 1 (by decide) (List.mem_of_getElem? (i := 2) rfl) rfl dX3_takeText_32 ?_
        refine lv_iload hx hb dX3_takeText_35 (lv_at hl 4 rfl) ?_
        have g37 : vp_in v4_13 8 := vpi (by omega) (by omega)
        refine r_aald S hK w (k := 2) (by decide) (eC_2 ad _) (t0 := 2) rfl g37 dX3_takeText_37 ?_
        refine lv_aload_n hx hb dX3_takeText_38 rfl (lv_at hl 2 rfl) ?_
        refine r_getN (C := RX1) (T := TX1) (N := 4) S hK hN w (k := (9 + p1)) (Nat.lt_of_lt_of_le (Nat.add_lt_add_left hp1 9) (by decide)) (eC_sh ad hp1 _) rfl hinX1 3 (by decide) 2 rfl rfl dX3_takeText_39 ?_
        refine lv_iload hx hb dX3_takeText_42 (lv_at hl 0 rfl) ?_
        have e43 := mk_toInt (a := v4_13) (k := 11) (z := 11) (by decide) (by omega) (by omega)
        have e44 := a_toInt (a := p2) (b := v4_13 * 11) (by omega) (by omega)
        have g44 : vp_in (p2 + (v4_13 * 11)) 90 := vpi (by omega) (by omega)
        refine r_iald (cA := ad 100) (N := 90) S hK w (k := (13 + p1)) (Nat.lt_of_lt_of_le (Nat.add_lt_add_left hp1 13) (by decide)) (fun f => eC_sc ad hp1 f) rfl g44 dX3_takeText_44 ?_
        refine call0i (va_runS (As := [.int (S_13 (13 + p1) (ix (p2 + (v4_13 * 11))))]) (rest := [.ref (ad (17 + (ix v4_13)))]) S (c_X3_kindOf l (S_13 (13 + p1) (ix (p2 + (v4_13 * 11))))) (va_cwS 1 S.2.2.2.2 gX3_takeText_X3_kindOf rfl rfl rfl hd_X3_kindOf ⟨Nat.le_of_ble_eq_true rfl, Nat.le_of_ble_eq_true rfl⟩) pre0S rfl rfl hl.1 rfl (lv_room (Nat.le_of_ble_eq_true rfl)) dX3_takeText_45 ⟨Nat.zero_le _, Nat.zero_le _⟩) ?_
        refine r_putN (C := RX2) (T := TX2) (N := 3) S hK hN w (k := (17 + (ix v4_13))) (Nat.lt_of_lt_of_le (Nat.add_lt_add_left (vpl g37) 17) (by decide)) (eC_sg ad (vpl g37) _) rfl hinX2 tyX2 tyX2_ok nmX2 0 (by decide) 3 rfl rfl (x := (f_X3_kindOf (S_13 (13 + p1) (ix (p2 + (v4_13 * 11)))))) (ty := .int) (by decide +kernel) rfl rfl (by show _ < List.length _; exact Nat.le_of_ble_eq_true rfl) (sSg ad (vpl g37) _ _ 0 (by decide)) dX3_takeText_48 (fun H locs w => ?_)
        refine lv_aload_n hx hb dX3_takeText_51 rfl (lv_at hl 1 rfl) ?_
        refine r_get (C := RX3) (T := TX3) (N := 14) S hK w (k := 0) (by decide) (eC_0 ad _) rfl hinX3 1 (by decide) (List.mem_of_getElem? (i := 2) rfl) rfl dX3_takeText_52 ?_
        refine lv_iload hx hb dX3_takeText_55 (lv_at hl 4 rfl) ?_
        have g57 : vp_in v4_13 8 := vpi (by omega) (by omega)
        refine r_aald S hK w (k := 2) (by decide) (eC_2 ad _) (t0 := 2) rfl g57 dX3_takeText_57 ?_
        refine lv_iconst (v := 0) hx hb dX3_takeText_58 (by decide) ?_
        refine r_putN (C := RX2) (T := TX2) (N := 3) S hK hN w (k := (17 + (ix v4_13))) (Nat.lt_of_lt_of_le (Nat.add_lt_add_left (vpl g57) 17) (by decide)) (eC_sg ad (vpl g57) _) rfl hinX2 tyX2 tyX2_ok nmX2 1 (by decide) 4 rfl rfl (x := 0) (ty := .int) (by decide +kernel) rfl rfl (by show _ < List.length _; exact Nat.le_of_ble_eq_true rfl) (sSg ad (vpl g57) _ _ 1 (by decide)) dX3_takeText_59 (fun H locs w => ?_)
        refine lv_iconst (v := 0) hx hb dX3_takeText_62 (by decide) ?_
        refine lv_istore (lv' := [(6, .int 0), (5, .int (p2 + (v4_13 * 11))), (0, .ref (ad 0)), (1, .ref (ad (9 + p1))), (2, .int p2), (4, .int v4_13)]) hx hb dX3_takeText_63 hl (by decide) rfl (fun ls hl => ?_)
        have L65 : ∀ (n : Nat) (res65 : St), ∀ (v6_65 : Int32), ∀ (S_65 : St), ((0 ≤ v6_65.toInt ∧ v6_65.toInt ≤ 9) ∧ (S_65 0 4 = p3 / 11 + 1)) → (9 - v6_65.toInt).toNat < n → (lp_X3_takeText_65 p1 p2 v4_13 (p2 + (v4_13 * 11)) n v6_65 S_65) = res65 → (∀ (S_65e : St), (S_65e 0 4 = p3 / 11 + 1) → res65 = S_65e → ∀ (H : Heap) (locs : List Loc), CW 41 (eC ad) ad D (CA 41 ad sz) s.heap S_65e H locs → ∀ ls : Array Slot, lv_has ls 8 [(0, .ref (ad 0)), (1, .ref (ad (9 + p1))), (2, .int p2), (4, .int v4_13)] → W p l e (headSpec wsX3_takeText ({ frames := 1, cells := 0, slots := 0, locals := 20 })).room s m ([.ref (ad 0), .ref (ad (9 + p1)), .int p2, .int p3] : List Value).toArray below meth c H locs 0 0 (MQ below (QWv 41 (eC ad) ad D T (CA 41 ad sz)) ([.ref (ad 0), .ref (ad (9 + p1)), .int p2, .int p3] : List Value).toArray s 0 0 (CA 41 ad sz)) (F0 m 127 ls [])) → ∀ (H : Heap) (locs : List Loc), CW 41 (eC ad) ad D (CA 41 ad sz) s.heap S_65 H locs → ∀ ls : Array Slot, lv_has ls 8 [(0, .ref (ad 0)), (1, .ref (ad (9 + p1))), (2, .int p2), (4, .int v4_13), (5, .int (p2 + (v4_13 * 11))), (6, .int v6_65)] → W p l e (headSpec wsX3_takeText ({ frames := 1, cells := 0, slots := 0, locals := 20 })).room s m ([.ref (ad 0), .ref (ad (9 + p1)), .int p2, .int p3] : List Value).toArray below meth c H locs 0 0 (MQ below (QWv 41 (eC ad) ad D T (CA 41 ad sz)) ([.ref (ad 0), .ref (ad (9 + p1)), .int p2, .int p3] : List Value).toArray s 0 0 (CA 41 ad sz)) (F0 m 65 ls []) := by
          intro n
          induction n with
          | zero => intro _ _ _ _ hm; exact absurd hm (Nat.not_lt_zero _)
          | succ n ih65 =>
            intro res65 v6_65 S_65 hI65 hm65 hG hex65 H locs w ls hl
            obtain ⟨i65_0, i65_1⟩ := id hI65
            rw [lp_X3_takeText_65] at hG
            refine lv_iload hx hb dX3_takeText_65 (lv_at hl 5 rfl) ?_
            refine lv_bipush (v := 9) hx hb dX3_takeText_67 (by decide) ?_
            refine lv_icmp_ge (tgt := 127) hx hb dX3_takeText_69 (by decide) (fun c69 => ?_) (fun c69 => ?_)
            · have t69 : 9 ≤ v6_65.toInt := qt_le c69
              rw [if_pos c69] at hG
              exact hex65 S_65 i65_1 hG.symm _ _ w ls (lv_sub hl [0, 1, 2, 3] rfl)
            · have t69 : v6_65.toInt < 9 := qt_nle c69
              rw [if_neg c69] at hG
              refine lv_aload_n hx hb dX3_takeText_72 rfl (lv_at hl 1 rfl) ?_
              refine r_getN (C := RX1) (T := TX1) (N := 4) S hK hN w (k := (9 + p1)) (Nat.lt_of_lt_of_le (Nat.add_lt_add_left hp1 9) (by decide)) (eC_sh ad hp1 _) rfl hinX1 3 (by decide) 2 rfl rfl dX3_takeText_73 ?_
              refine lv_iload hx hb dX3_takeText_76 (lv_at hl 4 rfl) ?_
              refine lv_iconst (v := 1) hx hb dX3_takeText_78 (by decide) ?_
              refine lv_iadd hx hb dX3_takeText_79 ?_
              refine lv_iload hx hb dX3_takeText_80 (lv_at hl 5 rfl) ?_
              refine lv_iadd hx hb dX3_takeText_82 ?_
              have e81 := inc_toInt (a := p2 + v4_13 * 11) (by omega) (by omega)
              have e82 := a_toInt (a := p2 + v4_13 * 11 + 1) (b := v6_65) (by omega) (by omega)
              have g83 : vp_in (((p2 + (v4_13 * 11)) + 1) + v6_65) 90 := vpi (by omega) (by omega)
              refine r_iald (cA := ad 100) (N := 90) S hK w (k := (13 + p1)) (Nat.lt_of_lt_of_le (Nat.add_lt_add_left hp1 13) (by decide)) (fun f => eC_sc ad hp1 f) rfl g83 dX3_takeText_83 ?_
              refine lv_bipush (v := 48) hx hb dX3_takeText_84 (by decide) ?_
              refine lv_isub hx hb dX3_takeText_86 ?_
              refine lv_istore (lv' := [(7, .int ((S_65 (13 + p1) (ix (((p2 + (v4_13 * 11)) + 1) + v6_65))) - 48)), (0, .ref (ad 0)), (1, .ref (ad (9 + p1))), (2, .int p2), (4, .int v4_13), (5, .int (p2 + (v4_13 * 11))), (6, .int v6_65)]) hx hb dX3_takeText_87 hl (by decide) rfl (fun ls hl => ?_)
              refine lv_aload_n hx hb dX3_takeText_89 rfl (lv_at hl 1 rfl) ?_
              refine r_get (C := RX3) (T := TX3) (N := 14) S hK w (k := 0) (by decide) (eC_0 ad _) rfl hinX3 1 (by decide) (List.mem_of_getElem? (i := 2) rfl) rfl dX3_takeText_90 ?_
              refine lv_iload hx hb dX3_takeText_93 (lv_at hl 4 rfl) ?_
              have g95 : vp_in v4_13 8 := vpi (by omega) (by omega)
              refine r_aald S hK w (k := 2) (by decide) (eC_2 ad _) (t0 := 2) rfl g95 dX3_takeText_95 ?_
              refine r_getN (C := RX2) (T := TX2) (N := 3) S hK hN w (k := (17 + (ix v4_13))) (Nat.lt_of_lt_of_le (Nat.add_lt_add_left (vpl g95) 17) (by decide)) (eC_sg ad (vpl g95) _) rfl hinX2 2 (by decide) 5 rfl rfl dX3_takeText_96 ?_
              refine lv_iload hx hb dX3_takeText_99 (lv_at hl 6 rfl) ?_
              refine lv_iload hx hb dX3_takeText_101 (lv_at hl 0 rfl) ?_
              have g103 : vp_in v6_65 9 := vpi (by omega) (by omega)
              refine r_iast (cA := ad 100) (N := 9) S hK w (k := (25 + (ix v4_13))) (Nat.lt_of_lt_of_le (Nat.add_lt_add_left (vpl g95) 25) (by decide)) (fun f => eC_st ad (vpl g95) f) rfl g103 dX3_takeText_103 (fun H locs w => ?_)
              refine lv_aload_n hx hb dX3_takeText_104 rfl (lv_at hl 1 rfl) ?_
              refine r_get (C := RX3) (T := TX3) (N := 14) S hK w (k := 0) (by decide) (eC_0 ad _) rfl hinX3 1 (by decide) (List.mem_of_getElem? (i := 2) rfl) rfl dX3_takeText_105 ?_
              refine lv_iload hx hb dX3_takeText_108 (lv_at hl 4 rfl) ?_
              have g110 : vp_in v4_13 8 := vpi (by omega) (by omega)
              refine r_aald S hK w (k := 2) (by decide) (eC_2 ad _) (t0 := 2) rfl g110 dX3_takeText_110 ?_
              refine lv_dup hx hb dX3_takeText_111 rfl ?_
              refine r_getN (C := RX2) (T := TX2) (N := 3) S hK hN w (k := (17 + (ix v4_13))) (Nat.lt_of_lt_of_le (Nat.add_lt_add_left (vpl g110) 17) (by decide)) (eC_sg ad (vpl g110) _) rfl hinX2 1 (by decide) 4 rfl rfl dX3_takeText_112 ?_
              refine lv_iload hx hb dX3_takeText_115 (lv_at hl 0 rfl) ?_
              refine lv_iadd hx hb dX3_takeText_117 ?_
              refine r_putN (C := RX2) (T := TX2) (N := 3) S hK hN w (k := (17 + (ix v4_13))) (Nat.lt_of_lt_of_le (Nat.add_lt_add_left (vpl g110) 17) (by decide)) (eC_sg ad (vpl g110) _) rfl hinX2 tyX2 tyX2_ok nmX2 1 (by decide) 4 rfl rfl (x := (((u2 S_65 (25 + (ix v4_13)) (ix v6_65) ((S_65 (13 + p1) (ix (((p2 + (v4_13 * 11)) + 1) + v6_65))) - 48)) (17 + (ix v4_13)) 1) + ((S_65 (13 + p1) (ix (((p2 + (v4_13 * 11)) + 1) + v6_65))) - 48))) (ty := .int) (by decide +kernel) rfl rfl (by show _ < List.length _; exact Nat.le_of_ble_eq_true rfl) (sSg ad (vpl g110) _ _ 1 (by decide)) dX3_takeText_118 (fun H locs w => ?_)
              refine lv_iinc (v := (v6_65 + 1)) (lv' := [(6, .int (v6_65 + 1)), (7, .int ((S_65 (13 + p1) (ix (((p2 + (v4_13 * 11)) + 1) + v6_65))) - 48)), (0, .ref (ad 0)), (1, .ref (ad (9 + p1))), (2, .int p2), (4, .int v4_13), (5, .int (p2 + (v4_13 * 11)))]) hx hb dX3_takeText_121 hl (k := 6) rfl rfl (by decide) rfl (fun ls hl => ?_)
              refine lv_goto (tgt := 65) hx hb dX3_takeText_124 (by decide) ?_
              have b6_65 : (v6_65 + 1).toInt = v6_65.toInt + 1 := inc_toInt (by omega) (by omega)
              exact ih65 _ (v6_65 + 1) (u2 (u2 S_65 (25 + (ix v4_13)) (ix v6_65) ((S_65 (13 + p1) (ix (((p2 + (v4_13 * 11)) + 1) + v6_65))) - 48)) (17 + (ix v4_13)) 1 (((u2 S_65 (25 + (ix v4_13)) (ix v6_65) ((S_65 (13 + p1) (ix (((p2 + (v4_13 * 11)) + 1) + v6_65))) - 48)) (17 + (ix v4_13)) 1) + ((S_65 (13 + p1) (ix (((p2 + (v4_13 * 11)) + 1) + v6_65))) - 48))) ⟨(by omega), (by rw [u2_o (by omega), u2_o (by omega)]; exact i65_1)⟩ (by omega) hG hex65 _ _ w ls (lv_sub hl [2, 3, 4, 5, 6, 0] rfl)
        refine L65 200 _ 0 (u2 (u2 S_13 (17 + (ix v4_13)) 0 (f_X3_kindOf (S_13 (13 + p1) (ix (p2 + (v4_13 * 11)))))) (17 + (ix v4_13)) 1 0) ⟨(by omega), (by rw [u2_o (by omega), u2_o (by omega)]; exact i13_1)⟩ (by omega) rfl (fun S_65e x65_0 hr65 H locs w ls hl => ?_) _ _ w ls (lv_sub hl [2, 3, 4, 5, 1, 0] rfl)
        rw [hr65] at hG
        refine lv_iinc (v := (v4_13 + 1)) (lv' := [(4, .int (v4_13 + 1)), (0, .ref (ad 0)), (1, .ref (ad (9 + p1))), (2, .int p2)]) hx hb dX3_takeText_127 hl (k := 3) rfl rfl (by decide) rfl (fun ls hl => ?_)
        refine lv_goto (tgt := 13) hx hb dX3_takeText_130 (by decide) ?_
        have b4_13 : (v4_13 + 1).toInt = v4_13.toInt + 1 := inc_toInt (by omega) (by omega)
        exact ih13 _ (v4_13 + 1) S_65e ⟨(by omega), x65_0⟩ (by omega) hG hex13 _ _ w ls (lv_sub hl [1, 2, 3, 0] rfl)
  refine L13 200 _ 0 (u2 σ 0 4 ((p3 / 11) + 1)) ⟨(by omega), rfl⟩ (by omega) rfl (fun S_13e hr13 H locs w ls hl => ?_) _ _ w ls (lv_sub hl [1, 2, 3, 0] rfl)
  rw [hr13] at hG
  exact endWv S hr hlocks w hG dX3_takeText_133
set_option maxHeartbeats 4000000 in
set_option maxRecDepth 100000 in
theorem c_X3_startAnew (l : Launch) (ad : Nat → Nat) (D : va_G) (sz : Nat) (σ : St) : Met l yX3_startAnew wsX3_startAnew ({ frames := 1, cells := 0, slots := 0, locals := 23 }) (PreW 41 (eC ad) ad D (tyC ad) σ sz ([.ref (ad 0)] : List Value)) (QWv 41 (eC ad) ad D (f_X3_startAnew σ) (CA 41 ad sz)) 0 0 (CA 41 ad sz) := by
  generalize hG : f_X3_startAnew σ = T
  refine headW (cc := cX3_startAnew) (maxL := 1) (ret := none) ([.ref (ad 0)] : List Value) (by decide) rfl (Nat.le_of_ble_eq_true rfl) ?_
  intro p e s m below meth c S hr hlocks hK hN hsz w ls hl
  have S : CallFix p m c cX3_startAnew 1 s ([.ref (ad 0)] : List Value).toArray wsX3_startAnew RX3 := S
  have hx := S.1
  have hb := S.2.1
  have z0 : (0 : Int32).toInt = 0 := by decide
  have z1 : (1 : Int32).toInt = 1 := by decide
  have hl : lv_has ls 1 [(0, .ref (ad 0))] := hl
  have hinX3 : ∀ w ∈ wsX30, w ∈ wsX3_startAnew := (fun _ h => List.mem_cons_of_mem _ (List.mem_append_right _ h))
  rw [f_X3_startAnew] at hG
  refine lv_aload_n hx hb dX3_startAnew_0 rfl (lv_at hl 0 rfl) ?_
  refine lv_iconst (v := 0) hx hb dX3_startAnew_1 (by decide) ?_
  refine r_put (C := RX3) (T := TX3) (N := 14) S hK w (k := 0) (by decide) (eC_0 ad _) rfl hinX3 tyX3 tyX3_ok nmX3 5 (by decide) (List.mem_of_getElem? (i := 1) rfl) rfl (x := 0) (ty := .int) (by decide +kernel) rfl rfl (by show _ < List.length _; exact Nat.le_of_ble_eq_true rfl) (sO ad _ _ 5 (by decide)) dX3_startAnew_2 (fun H locs w => ?_)
  refine lv_aload_n hx hb dX3_startAnew_5 rfl (lv_at hl 0 rfl) ?_
  refine lv_iconst (v := 0) hx hb dX3_startAnew_6 (by decide) ?_
  refine r_put (C := RX3) (T := TX3) (N := 14) S hK w (k := 0) (by decide) (eC_0 ad _) rfl hinX3 tyX3 tyX3_ok nmX3 6 (by decide) (List.mem_of_getElem? (i := 2) rfl) rfl (x := 0) (ty := .int) (by decide +kernel) rfl rfl (by show _ < List.length _; exact Nat.le_of_ble_eq_true rfl) (sO ad _ _ 6 (by decide)) dX3_startAnew_7 (fun H locs w => ?_)
  refine lv_aload_n hx hb dX3_startAnew_10 rfl (lv_at hl 0 rfl) ?_
  refine lv_bipush (v := 40) hx hb dX3_startAnew_11 (by decide) ?_
  refine r_put (C := RX3) (T := TX3) (N := 14) S hK w (k := 0) (by decide) (eC_0 ad _) rfl hinX3 tyX3 tyX3_ok nmX3 7 (by decide) (List.mem_of_getElem? (i := 3) rfl) rfl (x := 40) (ty := .int) (by decide +kernel) rfl rfl (by show _ < List.length _; exact Nat.le_of_ble_eq_true rfl) (sO ad _ _ 7 (by decide)) dX3_startAnew_13 (fun H locs w => ?_)
  refine lv_aload_n hx hb dX3_startAnew_16 rfl (lv_at hl 0 rfl) ?_
  refine r_get (C := RX3) (T := TX3) (N := 14) S hK w (k := 0) (by decide) (eC_0 ad _) rfl hinX3 3 (by decide) (List.mem_of_getElem? (i := 4) rfl) rfl dX3_startAnew_17 ?_
  refine lv_iconst (v := 5) hx hb dX3_startAnew_20 (by decide) ?_
  refine callFill (cA := ad 100) (N := 9) (by decide) S hl.1 hK hN w (k := 4) (by decide) (fun f => eC_4 ad f) rfl gX3_startAnew_J7_fill_53178 (Nat.le_of_ble_eq_true rfl) (Nat.le_of_ble_eq_true rfl) dX3_startAnew_21 ⟨Nat.zero_le _, Nat.zero_le _⟩ (fun H locs w => ?_)
  refine lv_aload_n hx hb dX3_startAnew_24 rfl (lv_at hl 0 rfl) ?_
  refine r_get (C := RX3) (T := TX3) (N := 14) S hK w (k := 0) (by decide) (eC_0 ad _) rfl hinX3 13 (by decide) (List.mem_of_getElem? (i := 5) rfl) rfl dX3_startAnew_25 ?_
  refine lv_iconst (v := 0) hx hb dX3_startAnew_28 (by decide) ?_
  refine lv_iconst (v := (-1)) hx hb dX3_startAnew_29 (by decide) ?_
  have g30 : vp_in 0 5 := vpi (by decide) (by decide)
  refine r_iast (cA := ad 100) (N := 5) S hK w (k := 8) (by decide) (fun f => eC_8 ad f) rfl g30 dX3_startAnew_30 (fun H locs w => ?_)
  exact endWv S hr hlocks w hG dX3_startAnew_31
set_option maxHeartbeats 4000000 in
set_option maxRecDepth 100000 in
theorem c_X3_register (l : Launch) (ad : Nat → Nat) (D : va_G) (sz : Nat) (σ : St) (p1 : Int32) (p2 : Int32) (p3 : Int32) (p4 : Int32) (hok : OkC σ) : Met l yX3_register wsX3_register ({ frames := 3, cells := 0, slots := 0, locals := 65 }) (PreW 41 (eC ad) ad D (tyC ad) σ sz ([.ref (ad 0), .int p1, .int p2, .int p3, .int p4] : List Value)) (QWi 41 (eC ad) ad D (f_X3_register σ p1 p2 p3 p4) (CA 41 ad sz)) 0 0 (CA 41 ad sz) := by
  generalize hG : f_X3_register σ p1 p2 p3 p4 = T
  refine headW (cc := cX3_register) (maxL := 7) (ret := (some .int)) ([.ref (ad 0), .int p1, .int p2, .int p3, .int p4] : List Value) (by decide) rfl (Nat.le_of_ble_eq_true rfl) ?_
  intro p e s m below meth c S hr hlocks hK hN hsz w ls hl
  have S : CallFix p m c cX3_register 7 s ([.ref (ad 0), .int p1, .int p2, .int p3, .int p4] : List Value).toArray wsX3_register RX3 := S
  have hx := S.1
  have hb := S.2.1
  have z0 : (0 : Int32).toInt = 0 := by decide
  have z1 : (1 : Int32).toInt = 1 := by decide
  have hl : lv_has ls 7 [(0, .ref (ad 0)), (1, .int p1), (2, .int p2), (3, .int p3), (4, .int p4)] := hl
  have hinX3 : ∀ w ∈ wsX30, w ∈ wsX3_register := (fun _ h => List.mem_cons_of_mem _ (List.mem_append_left _ (List.mem_append_left _ (List.mem_append_right _ h))))
  have hinX1 : ∀ w ∈ wsX10, w ∈ wsX3_register := (fun _ h => List.mem_cons_of_mem _ (List.mem_append_left _ (List.mem_append_right _ h)))
  have hinX2 : ∀ w ∈ wsX20, w ∈ wsX3_register := (fun _ h => List.mem_cons_of_mem _ (List.mem_append_right _ h))
  have okf0 := hok.1
  have okf1 := hok.2.1
  have okf2 := hok.2.2.1
  have okf3 := hok.2.2.2.1
  have okf4 := hok.2.2.2.2.1
  have okf5 := hok.2.2.2.2.2
  rw [f_X3_register] at hG
  refine lv_aload_n hx hb dX3_register_0 rfl (lv_at hl 0 rfl) ?_
  refine lv_iload_n hx hb dX3_register_1 rfl (lv_at hl 1 rfl) ?_
  refine lv_iload_n hx hb dX3_register_2 rfl (lv_at hl 2 rfl) ?_
  refine lv_iload_n hx hb dX3_register_3 rfl (lv_at hl 3 rfl) ?_
  refine lv_iload hx hb dX3_register_4 (lv_at hl 4 rfl) ?_
  refine lv_i2l hx hb dX3_register_6 rfl ?_
  have ok3 := okf3
  refine callWi w (va_runV (As := [.int p1, .int p2, .int p3, .long p4.toInt64]) (rest := []) S (c_X3_spanRefusal l ad D s.heap.size σ p1 p2 p3 p4.toInt64) (cwV 4 S.2.2.2.2 gX3_register_X3_spanRefusal rfl rfl rfl ⟨rfl, hd_X3_spanRefusal⟩ ⟨Nat.le_of_ble_eq_true rfl, Nat.le_of_ble_eq_true rfl⟩) (preV hK hN w (k := 0) (by decide) (eC_0 ad _) (q := (RX3, TX3, 14)) rfl) rfl rfl hl.1 rfl (lv_room (Nat.le_of_ble_eq_true rfl)) dX3_register_7 ⟨Nat.zero_le _, Nat.zero_le _⟩) (fun H locs w => ?_)
  have hok : OkC ((f_X3_spanRefusal σ p1 p2 p3 p4.toInt64).2) := ok_X3_spanRefusal hok
  have okf0 := hok.1
  have okf1 := hok.2.1
  have okf2 := hok.2.2.1
  have okf3 := hok.2.2.2.1
  have okf4 := hok.2.2.2.2.1
  have okf5 := hok.2.2.2.2.2
  refine lv_istore (lv' := [(5, .int ((f_X3_spanRefusal σ p1 p2 p3 p4.toInt64).1)), (0, .ref (ad 0)), (1, .int p1), (2, .int p2), (3, .int p3), (4, .int p4)]) hx hb dX3_register_10 hl (by decide) rfl (fun ls hl => ?_)
  refine lv_iload hx hb dX3_register_12 (lv_at hl 0 rfl) ?_
  refine lv_if_eq (tgt := 20) hx hb dX3_register_14 (by decide) (fun c14 => ?_) (fun c14 => ?_)
  · have t14 : ((f_X3_spanRefusal σ p1 p2 p3 p4.toInt64).1).toInt = 0 := qt_eq c14
    rw [if_pos c14] at hG
    have z := sp_z c14
    have zl : p4.toInt64.toInt = p4.toInt := Int32.toInt_toInt64 p4
    have zb : p4.toInt < 2147483648 := Int32.toInt_lt p4
    have z3 := ok3 (ix p1) (vpl (vpi (by omega) (by omega)))
    refine lv_aload_n hx hb dX3_register_20 rfl (lv_at hl 1 rfl) ?_
    refine r_get (C := RX3) (T := TX3) (N := 14) S hK w (k := 0) (by decide) (eC_0 ad _) rfl hinX3 0 (by decide) (List.mem_of_getElem? (i := 1) rfl) rfl dX3_register_21 ?_
    refine lv_iload_n hx hb dX3_register_24 rfl (lv_at hl 2 rfl) ?_
    have g25 : vp_in p1 4 := vpi (by omega) (by omega)
    refine r_aald S hK w (k := 1) (by decide) (eC_1 ad _) (t0 := 1) rfl g25 dX3_register_25 ?_
    refine lv_iload_n hx hb dX3_register_26 rfl (lv_at hl 4 rfl) ?_
    refine lv_iload hx hb dX3_register_27 (lv_at hl 5 rfl) ?_
    refine call0i (va_runS (As := [.ref (ad (9 + (ix p1))), .int p3, .int p4]) (rest := []) S (c_X3_textFault l ad D H.size ((f_X3_spanRefusal σ p1 p2 p3 p4.toInt64).2) (ix p1) p3 p4 (vpl g25) (by omega) (by omega) (by omega)) (va_cwS 3 S.2.2.2.2 gX3_register_X3_textFault rfl rfl rfl hd_X3_textFault ⟨Nat.le_of_ble_eq_true rfl, Nat.le_of_ble_eq_true rfl⟩) (preS hK hN w) rfl rfl hl.1 rfl (lv_room (Nat.le_of_ble_eq_true rfl)) dX3_register_29 ⟨Nat.zero_le _, Nat.zero_le _⟩) ?_
    refine lv_istore (lv' := [(6, .int (f_X3_textFault ((f_X3_spanRefusal σ p1 p2 p3 p4.toInt64).2) (ix p1) p3 p4)), (5, .int ((f_X3_spanRefusal σ p1 p2 p3 p4.toInt64).1)), (0, .ref (ad 0)), (1, .int p1), (2, .int p2), (3, .int p3), (4, .int p4)]) hx hb dX3_register_32 hl (by decide) rfl (fun ls hl => ?_)
    refine lv_iload hx hb dX3_register_34 (lv_at hl 0 rfl) ?_
    refine lv_if_lt (tgt := 45) hx hb dX3_register_36 (by decide) (fun c36 => ?_) (fun c36 => ?_)
    · have t36 : (f_X3_textFault ((f_X3_spanRefusal σ p1 p2 p3 p4.toInt64).2) (ix p1) p3 p4).toInt < 0 := qt_lt c36
      rw [if_pos c36] at hG
      have zt := tf_neg (by omega) (by omega) t36
      refine lv_aload_n hx hb dX3_register_45 rfl (lv_at hl 2 rfl) ?_
      refine lv_aload_n hx hb dX3_register_46 rfl (lv_at hl 2 rfl) ?_
      refine r_get (C := RX3) (T := TX3) (N := 14) S hK w (k := 0) (by decide) (eC_0 ad _) rfl hinX3 0 (by decide) (List.mem_of_getElem? (i := 1) rfl) rfl dX3_register_47 ?_
      refine lv_iload_n hx hb dX3_register_50 rfl (lv_at hl 3 rfl) ?_
      have g51 : vp_in p1 4 := vpi (by omega) (by omega)
      refine r_aald S hK w (k := 1) (by decide) (eC_1 ad _) (t0 := 1) rfl g51 dX3_register_51 ?_
      refine lv_iload_n hx hb dX3_register_52 rfl (lv_at hl 5 rfl) ?_
      refine lv_iload hx hb dX3_register_53 (lv_at hl 6 rfl) ?_
      refine callWv w (va_runV (As := [.ref (ad (9 + (ix p1))), .int p3, .int p4]) (rest := []) S (c_X3_takeText l ad D H.size ((f_X3_spanRefusal σ p1 p2 p3 p4.toInt64).2) (ix p1) p3 p4 (vpl g51) (by omega) zt.1 (by have := zt.2; omega)) (cwV 3 S.2.2.2.2 gX3_register_X3_takeText rfl rfl rfl ⟨rfl, hd_X3_takeText⟩ ⟨Nat.le_of_ble_eq_true rfl, Nat.le_of_ble_eq_true rfl⟩) (preV hK hN w (k := 0) (by decide) (eC_0 ad _) (q := (RX3, TX3, 14)) rfl) rfl rfl hl.1 rfl (lv_room (Nat.le_of_ble_eq_true rfl)) dX3_register_55 ⟨Nat.zero_le _, Nat.zero_le _⟩) (fun H locs w => ?_)
      refine lv_aload_n hx hb dX3_register_58 rfl (lv_at hl 2 rfl) ?_
      refine callWv w (va_runV (As := []) (rest := []) S (c_X3_startAnew l ad D H.size (f_X3_takeText ((f_X3_spanRefusal σ p1 p2 p3 p4.toInt64).2) (ix p1) p3 p4)) (cwV 0 S.2.2.2.2 gX3_register_X3_startAnew rfl rfl rfl ⟨rfl, hd_X3_startAnew⟩ ⟨Nat.le_of_ble_eq_true rfl, Nat.le_of_ble_eq_true rfl⟩) (preV hK hN w (k := 0) (by decide) (eC_0 ad _) (q := (RX3, TX3, 14)) rfl) rfl rfl hl.1 rfl (lv_room (Nat.le_of_ble_eq_true rfl)) dX3_register_59 ⟨Nat.zero_le _, Nat.zero_le _⟩) (fun H locs w => ?_)
      refine lv_aload_n hx hb dX3_register_62 rfl (lv_at hl 2 rfl) ?_
      refine r_get (C := RX3) (T := TX3) (N := 14) S hK w (k := 0) (by decide) (eC_0 ad _) rfl hinX3 4 (by decide) (List.mem_of_getElem? (i := 2) rfl) rfl dX3_register_63 ?_
      exact endWi S hr hlocks w hG dX3_register_66
    · have t36 : 0 ≤ (f_X3_textFault ((f_X3_spanRefusal σ p1 p2 p3 p4.toInt64).2) (ix p1) p3 p4).toInt := qt_nlt c36
      rw [if_neg c36] at hG
      refine lv_bipush (v := (-100)) hx hb dX3_register_39 (by decide) ?_
      refine lv_iload hx hb dX3_register_41 (lv_at hl 0 rfl) ?_
      refine lv_isub hx hb dX3_register_43 ?_
      exact endWi S hr hlocks w hG dX3_register_44
  · have t14 : ((f_X3_spanRefusal σ p1 p2 p3 p4.toInt64).1).toInt ≠ 0 := qt_ne c14
    rw [if_neg c14] at hG
    refine lv_iload hx hb dX3_register_17 (lv_at hl 0 rfl) ?_
    exact endWi S hr hlocks w hG dX3_register_19
set_option maxHeartbeats 4000000 in
set_option maxRecDepth 100000 in
theorem c_X3_isSmell (l : Launch) (p1 : Int32) : Met l yX3_isSmell wsX3_isSmell ({ frames := 0, cells := 0, slots := 0, locals := 0 }) (Pre0 ([.int p1] : List Value)) (Q0i (f_X3_isSmell p1)) 0 0 N0 := by
  generalize hG : f_X3_isSmell p1 = T
  refine head0 (cc := cX3_isSmell) (maxL := 1) (ret := (some .boolean)) ([.int p1] : List Value) (by decide) rfl (Nat.le_of_ble_eq_true rfl) ?_
  intro p e s m below meth c S hr hlocks ls hl
  have S : CallFix p m c cX3_isSmell 1 s ([.int p1] : List Value).toArray wsX3_isSmell RX3 := S
  have hx := S.1
  have hb := S.2.1
  have z0 : (0 : Int32).toInt = 0 := by decide
  have z1 : (1 : Int32).toInt = 1 := by decide
  have hl : lv_has ls 1 [(0, .int p1)] := hl
  rw [f_X3_isSmell] at hG
  refine lv_iload_n hx hb dX3_isSmell_0 rfl (lv_at hl 0 rfl) ?_
  refine lv_if_lt (tgt := 14) hx hb dX3_isSmell_1 (by decide) (fun c1 => ?_) (fun c1 => ?_)
  · have t1 : p1.toInt < 0 := qt_lt c1
    rw [if_pos c1] at hG
    refine lv_iconst (v := 0) hx hb dX3_isSmell_14 (by decide) ?_
    exact end0z S hr hlocks (Or.inl rfl) hG dX3_isSmell_15
  · have t1 : 0 ≤ p1.toInt := qt_nlt c1
    rw [if_neg c1] at hG
    refine lv_iload_n hx hb dX3_isSmell_4 rfl (lv_at hl 0 rfl) ?_
    refine lv_bipush (v := 9) hx hb dX3_isSmell_5 (by decide) ?_
    refine lv_icmp_ge (tgt := 14) hx hb dX3_isSmell_7 (by decide) (fun c7 => ?_) (fun c7 => ?_)
    · have t7 : 9 ≤ p1.toInt := qt_le c7
      rw [if_pos c7] at hG
      refine lv_iconst (v := 0) hx hb dX3_isSmell_14 (by decide) ?_
      exact end0z S hr hlocks (Or.inl rfl) hG dX3_isSmell_15
    · have t7 : p1.toInt < 9 := qt_nle c7
      rw [if_neg c7] at hG
      refine lv_iconst (v := 1) hx hb dX3_isSmell_10 (by decide) ?_
      refine lv_goto (tgt := 15) hx hb dX3_isSmell_11 (by decide) ?_
      exact end0z S hr hlocks (Or.inr rfl) hG dX3_isSmell_15
set_option maxHeartbeats 4000000 in
set_option maxRecDepth 100000 in
theorem c_X3_half (l : Launch) (ad : Nat → Nat) (D : va_G) (sz : Nat) (σ : St) (p1 : Int32) (p2 : Int32) : Met l yX3_half wsX3_half ({ frames := 1, cells := 0, slots := 0, locals := 20 }) (PreW 41 (eC ad) ad D (tyC ad) σ sz ([.ref (ad 0), .int p1, .int p2] : List Value)) (QWi 41 (eC ad) ad D (f_X3_half σ p1 p2) (CA 41 ad sz)) 0 0 (CA 41 ad sz) := by
  generalize hG : f_X3_half σ p1 p2 = T
  refine headW (cc := cX3_half) (maxL := 4) (ret := (some .int)) ([.ref (ad 0), .int p1, .int p2] : List Value) (by decide) rfl (Nat.le_of_ble_eq_true rfl) ?_
  intro p e s m below meth c S hr hlocks hK hN hsz w ls hl
  have S : CallFix p m c cX3_half 4 s ([.ref (ad 0), .int p1, .int p2] : List Value).toArray wsX3_half RX3 := S
  have hx := S.1
  have hb := S.2.1
  have z0 : (0 : Int32).toInt = 0 := by decide
  have z1 : (1 : Int32).toInt = 1 := by decide
  have hl : lv_has ls 4 [(0, .ref (ad 0)), (1, .int p1), (2, .int p2)] := hl
  have hinX3 : ∀ w ∈ wsX30, w ∈ wsX3_half := (fun _ h => List.mem_cons_of_mem _ (List.mem_append_right _ h))
  rw [f_X3_half] at hG
  refine lv_iload_n hx hb dX3_half_0 rfl (lv_at hl 1 rfl) ?_
  refine call0i (va_runS (As := [.int p1]) (rest := []) S (c_X3_isSmell l p1) (va_cwS 1 S.2.2.2.2 gX3_half_X3_isSmell rfl rfl rfl hd_X3_isSmell ⟨Nat.le_of_ble_eq_true rfl, Nat.le_of_ble_eq_true rfl⟩) pre0S rfl rfl hl.1 rfl (lv_room (Nat.le_of_ble_eq_true rfl)) dX3_half_1 ⟨Nat.zero_le _, Nat.zero_le _⟩) ?_
  refine lv_if_ne (tgt := 9) hx hb dX3_half_4 (by decide) (fun c4 => ?_) (fun c4 => ?_)
  · have t4 := bf_isSmell_n c4
    rw [if_neg c4] at hG
    refine lv_iload_n hx hb dX3_half_9 rfl (lv_at hl 2 rfl) ?_
    refine lv_iconst (v := 1) hx hb dX3_half_10 (by decide) ?_
    refine lv_icmp_lt (tgt := 20) hx hb dX3_half_11 (by decide) (fun c11 => ?_) (fun c11 => ?_)
    · have t11 : p2.toInt < 1 := qt_lt c11
      rw [if_pos c11] at hG
      refine lv_bipush (v := (-2)) hx hb dX3_half_20 (by decide) ?_
      exact endWi S hr hlocks w hG dX3_half_22
    · have t11 : 1 ≤ p2.toInt := qt_nlt c11
      rw [if_neg c11] at hG
      refine lv_iload_n hx hb dX3_half_14 rfl (lv_at hl 2 rfl) ?_
      refine lv_bipush (v := 9) hx hb dX3_half_15 (by decide) ?_
      refine lv_icmp_le (tgt := 23) hx hb dX3_half_17 (by decide) (fun c17 => ?_) (fun c17 => ?_)
      · have t17 : p2.toInt ≤ 9 := qt_le c17
        rw [if_pos c17] at hG
        refine lv_aload_n hx hb dX3_half_23 rfl (lv_at hl 0 rfl) ?_
        refine r_get (C := RX3) (T := TX3) (N := 14) S hK w (k := 0) (by decide) (eC_0 ad _) rfl hinX3 4 (by decide) (List.mem_of_getElem? (i := 1) rfl) rfl dX3_half_24 ?_
        refine lv_if_ne (tgt := 33) hx hb dX3_half_27 (by decide) (fun c27 => ?_) (fun c27 => ?_)
        · have t27 : (σ 0 4).toInt ≠ 0 := qt_ne c27
          rw [if_neg c27] at hG
          refine lv_aload_n hx hb dX3_half_33 rfl (lv_at hl 0 rfl) ?_
          refine r_get (C := RX3) (T := TX3) (N := 14) S hK w (k := 0) (by decide) (eC_0 ad _) rfl hinX3 3 (by decide) (List.mem_of_getElem? (i := 2) rfl) rfl dX3_half_34 ?_
          refine lv_iload_n hx hb dX3_half_37 rfl (lv_at hl 1 rfl) ?_
          have g38 : vp_in p1 9 := vpi (by omega) (by omega)
          refine r_iald (cA := ad 100) (N := 9) S hK w (k := 4) (by decide) (fun f => eC_4 ad f) rfl g38 dX3_half_38 ?_
          refine lv_istore_n (lv' := [(3, .int (σ 4 (ix p1))), (0, .ref (ad 0)), (1, .int p1), (2, .int p2)]) hx hb dX3_half_39 rfl hl (by decide) rfl (fun ls hl => ?_)
          refine lv_aload_n hx hb dX3_half_40 rfl (lv_at hl 1 rfl) ?_
          refine r_get (C := RX3) (T := TX3) (N := 14) S hK w (k := 0) (by decide) (eC_0 ad _) rfl hinX3 3 (by decide) (List.mem_of_getElem? (i := 2) rfl) rfl dX3_half_41 ?_
          refine lv_iload_n hx hb dX3_half_44 rfl (lv_at hl 2 rfl) ?_
          refine lv_iload_n hx hb dX3_half_45 rfl (lv_at hl 3 rfl) ?_
          have g46 : vp_in p1 9 := vpi (by omega) (by omega)
          refine r_iast (cA := ad 100) (N := 9) S hK w (k := 4) (by decide) (fun f => eC_4 ad f) rfl g46 dX3_half_46 (fun H locs w => ?_)
          refine lv_iload_n hx hb dX3_half_47 rfl (lv_at hl 0 rfl) ?_
          exact endWi S hr hlocks w hG dX3_half_48
        · have t27 : (σ 0 4).toInt = 0 := qt_eq c27
          rw [if_pos c27] at hG
          refine lv_bipush (v := (-3)) hx hb dX3_half_30 (by decide) ?_
          exact endWi S hr hlocks w hG dX3_half_32
      · have t17 : 9 < p2.toInt := qt_nle c17
        rw [if_neg c17] at hG
        refine lv_bipush (v := (-2)) hx hb dX3_half_20 (by decide) ?_
        exact endWi S hr hlocks w hG dX3_half_22
  · rw [if_pos c4] at hG
    refine lv_iconst (v := (-1)) hx hb dX3_half_7 (by decide) ?_
    exact endWi S hr hlocks w hG dX3_half_8
set_option maxHeartbeats 4000000 in
set_option maxRecDepth 100000 in
theorem c_X3_bound (l : Launch) (ad : Nat → Nat) (D : va_G) (sz : Nat) (σ : St) (p1 : Int32) : Met l yX3_bound wsX3_bound ({ frames := 0, cells := 0, slots := 0, locals := 0 }) (PreW 41 (eC ad) ad D (tyC ad) σ sz ([.ref (ad 0), .int p1] : List Value)) (QWi 41 (eC ad) ad D (f_X3_bound σ p1) (CA 41 ad sz)) 0 0 (CA 41 ad sz) := by
  generalize hG : f_X3_bound σ p1 = T
  refine headW (cc := cX3_bound) (maxL := 3) (ret := (some .int)) ([.ref (ad 0), .int p1] : List Value) (by decide) rfl (Nat.le_of_ble_eq_true rfl) ?_
  intro p e s m below meth c S hr hlocks hK hN hsz w ls hl
  have S : CallFix p m c cX3_bound 3 s ([.ref (ad 0), .int p1] : List Value).toArray wsX3_bound RX3 := S
  have hx := S.1
  have hb := S.2.1
  have z0 : (0 : Int32).toInt = 0 := by decide
  have z1 : (1 : Int32).toInt = 1 := by decide
  have hl : lv_has ls 3 [(0, .ref (ad 0)), (1, .int p1)] := hl
  have hinX3 : ∀ w ∈ wsX30, w ∈ wsX3_bound := (fun _ h => List.mem_cons_of_mem _ (List.mem_append_right _ h))
  rw [f_X3_bound] at hG
  refine lv_iload_n hx hb dX3_bound_0 rfl (lv_at hl 1 rfl) ?_
  refine lv_if_lt (tgt := 11) hx hb dX3_bound_1 (by decide) (fun c1 => ?_) (fun c1 => ?_)
  · have t1 : p1.toInt < 0 := qt_lt c1
    rw [if_pos c1] at hG
    refine lv_bipush (v := (-2)) hx hb dX3_bound_11 (by decide) ?_
    exact endWi S hr hlocks w hG dX3_bound_13
  · have t1 : 0 ≤ p1.toInt := qt_nlt c1
    rw [if_neg c1] at hG
    refine lv_iload_n hx hb dX3_bound_4 rfl (lv_at hl 1 rfl) ?_
    refine lv_sipush (v := 999) hx hb dX3_bound_5 (by decide) ?_
    refine lv_icmp_le (tgt := 14) hx hb dX3_bound_8 (by decide) (fun c8 => ?_) (fun c8 => ?_)
    · have t8 : p1.toInt ≤ 999 := qt_le c8
      rw [if_pos c8] at hG
      refine lv_aload_n hx hb dX3_bound_14 rfl (lv_at hl 0 rfl) ?_
      refine r_get (C := RX3) (T := TX3) (N := 14) S hK w (k := 0) (by decide) (eC_0 ad _) rfl hinX3 4 (by decide) (List.mem_of_getElem? (i := 1) rfl) rfl dX3_bound_15 ?_
      refine lv_if_ne (tgt := 24) hx hb dX3_bound_18 (by decide) (fun c18 => ?_) (fun c18 => ?_)
      · have t18 : (σ 0 4).toInt ≠ 0 := qt_ne c18
        rw [if_neg c18] at hG
        refine lv_aload_n hx hb dX3_bound_24 rfl (lv_at hl 0 rfl) ?_
        refine r_get (C := RX3) (T := TX3) (N := 14) S hK w (k := 0) (by decide) (eC_0 ad _) rfl hinX3 7 (by decide) (List.mem_of_getElem? (i := 2) rfl) rfl dX3_bound_25 ?_
        refine lv_istore_n (lv' := [(2, .int (σ 0 7)), (0, .ref (ad 0)), (1, .int p1)]) hx hb dX3_bound_28 rfl hl (by decide) rfl (fun ls hl => ?_)
        refine lv_aload_n hx hb dX3_bound_29 rfl (lv_at hl 1 rfl) ?_
        refine lv_iload_n hx hb dX3_bound_30 rfl (lv_at hl 2 rfl) ?_
        refine r_put (C := RX3) (T := TX3) (N := 14) S hK w (k := 0) (by decide) (eC_0 ad _) rfl hinX3 tyX3 tyX3_ok nmX3 7 (by decide) (List.mem_of_getElem? (i := 2) rfl) rfl (x := p1) (ty := .int) (by decide +kernel) rfl rfl (by show _ < List.length _; exact Nat.le_of_ble_eq_true rfl) (sO ad _ _ 7 (by decide)) dX3_bound_31 (fun H locs w => ?_)
        refine lv_iload_n hx hb dX3_bound_34 rfl (lv_at hl 0 rfl) ?_
        exact endWi S hr hlocks w hG dX3_bound_35
      · have t18 : (σ 0 4).toInt = 0 := qt_eq c18
        rw [if_pos c18] at hG
        refine lv_bipush (v := (-3)) hx hb dX3_bound_21 (by decide) ?_
        exact endWi S hr hlocks w hG dX3_bound_23
    · have t8 : 999 < p1.toInt := qt_nle c8
      rw [if_neg c8] at hG
      refine lv_bipush (v := (-2)) hx hb dX3_bound_11 (by decide) ?_
      exact endWi S hr hlocks w hG dX3_bound_13
set_option maxHeartbeats 4000000 in
set_option maxRecDepth 100000 in
theorem c_X3_fade (l : Launch) (ad : Nat → Nat) (D : va_G) (sz : Nat) (σ : St) (p1 : Nat) (p2 : Int32) (p3 : Int32) (p4 : Int32) (hok : OkC σ) (hp1 : p1 < 8) (hsm : 0 ≤ p2.toInt ∧ p2.toInt < 9) : Met l yX3_fade wsX3_fade ({ frames := 1, cells := 0, slots := 0, locals := 21 }) (PreW 41 (eC ad) ad D (tyC ad) σ sz ([.ref (ad 0), .ref (ad (17 + p1)), .int p2, .int p3, .int p4] : List Value)) (Q0i (f_X3_fade σ p1 p2 p3 p4)) 0 0 N0 := by
  generalize hG : f_X3_fade σ p1 p2 p3 p4 = T
  refine headW (cc := cX3_fade) (maxL := 8) (ret := (some .int)) ([.ref (ad 0), .ref (ad (17 + p1)), .int p2, .int p3, .int p4] : List Value) (by decide) rfl (Nat.le_of_ble_eq_true rfl) ?_
  intro p e s m below meth c S hr hlocks hK hN hsz w ls hl
  have S : CallFix p m c cX3_fade 8 s ([.ref (ad 0), .ref (ad (17 + p1)), .int p2, .int p3, .int p4] : List Value).toArray wsX3_fade RX3 := S
  have hx := S.1
  have hb := S.2.1
  have z0 : (0 : Int32).toInt = 0 := by decide
  have z1 : (1 : Int32).toInt = 1 := by decide
  have hl : lv_has ls 8 [(0, .ref (ad 0)), (1, .ref (ad (17 + p1))), (2, .int p2), (3, .int p3), (4, .int p4)] := hl
  have hinX3 : ∀ w ∈ wsX30, w ∈ wsX3_fade := (fun _ h => List.mem_cons_of_mem _ (List.mem_append_left _ (List.mem_append_right _ h)))
  have hinX2 : ∀ w ∈ wsX20, w ∈ wsX3_fade := (fun _ h => List.mem_cons_of_mem _ (List.mem_append_right _ h))
  have okf0 := hok.1
  have okf1 := hok.2.1
  have okf2 := hok.2.2.1
  have okf3 := hok.2.2.2.1
  have okf4 := hok.2.2.2.2.1
  have okf5 := hok.2.2.2.2.2
  rw [f_X3_fade] at hG
  refine lv_aload_n hx hb dX3_fade_0 rfl (lv_at hl 0 rfl) ?_
  refine r_get (C := RX3) (T := TX3) (N := 14) S hK w (k := 0) (by decide) (eC_0 ad _) rfl hinX3 3 (by decide) (List.mem_of_getElem? (i := 1) rfl) rfl dX3_fade_1 ?_
  refine lv_iload_n hx hb dX3_fade_4 rfl (lv_at hl 2 rfl) ?_
  have g5 : vp_in p2 9 := vpi (by omega) (by omega)
  refine r_iald (cA := ad 100) (N := 9) S hK w (k := 4) (by decide) (fun f => eC_4 ad f) rfl g5 dX3_fade_5 ?_
  refine lv_istore (lv' := [(5, .int (σ 4 (ix p2))), (0, .ref (ad 0)), (1, .ref (ad (17 + p1))), (2, .int p2), (3, .int p3), (4, .int p4)]) hx hb dX3_fade_6 hl (by decide) rfl (fun ls hl => ?_)
  refine lv_aload_n hx hb dX3_fade_8 rfl (lv_at hl 2 rfl) ?_
  refine r_getN (C := RX2) (T := TX2) (N := 3) S hK hN w (k := (17 + p1)) (Nat.lt_of_lt_of_le (Nat.add_lt_add_left hp1 17) (by decide)) (eC_sg ad hp1 _) rfl hinX2 0 (by decide) 3 rfl rfl dX3_fade_9 ?_
  refine lv_iconst (v := 2) hx hb dX3_fade_12 (by decide) ?_
  refine lv_icmp_eq (tgt := 22) hx hb dX3_fade_13 (by decide) (fun c13 => ?_) (fun c13 => ?_)
  · have t13 : (σ (17 + p1) 0).toInt = 2 := qt_eq c13
    rw [if_pos c13] at hG
    refine lv_iload_n hx hb dX3_fade_22 rfl (lv_at hl 4 rfl) ?_
    exact end0i S hr hlocks hG dX3_fade_23
  · have t13 : (σ (17 + p1) 0).toInt ≠ 2 := qt_ne c13
    rw [if_neg c13] at hG
    refine lv_iload hx hb dX3_fade_16 (lv_at hl 0 rfl) ?_
    refine lv_iconst (v := 1) hx hb dX3_fade_18 (by decide) ?_
    refine lv_icmp_ge (tgt := 24) hx hb dX3_fade_19 (by decide) (fun c19 => ?_) (fun c19 => ?_)
    · have t19 : 1 ≤ (σ 4 (ix p2)).toInt := qt_le c19
      rw [if_pos c19] at hG
      refine lv_iload hx hb dX3_fade_24 (lv_at hl 5 rfl) ?_
      refine lv_iload hx hb dX3_fade_26 (lv_at hl 0 rfl) ?_
      refine lv_idiv hx hb dX3_fade_28 (nz_of t19) ?_
      refine lv_istore (lv' := [(6, .int (p4 / (σ 4 (ix p2)))), (5, .int (σ 4 (ix p2))), (0, .ref (ad 0)), (1, .ref (ad (17 + p1))), (2, .int p2), (3, .int p3), (4, .int p4)]) hx hb dX3_fade_29 hl (by decide) rfl (fun ls hl => ?_)
      refine lv_aload_n hx hb dX3_fade_31 rfl (lv_at hl 3 rfl) ?_
      refine r_getN (C := RX2) (T := TX2) (N := 3) S hK hN w (k := (17 + p1)) (Nat.lt_of_lt_of_le (Nat.add_lt_add_left hp1 17) (by decide)) (eC_sg ad hp1 _) rfl hinX2 0 (by decide) 3 rfl rfl dX3_fade_32 ?_
      refine lv_iconst (v := 1) hx hb dX3_fade_35 (by decide) ?_
      have J36_48 : ∀ (k0_36_48 : Int32), (p3 >>> ((jmin k0_36_48 31) &&& 31)) = T → ∀ ls : Array Slot, lv_has ls 8 [(0, .ref (ad 0)), (3, .int p3)] → W p l e (headSpec wsX3_fade ({ frames := 1, cells := 0, slots := 0, locals := 21 })).room s m ([.ref (ad 0), .ref (ad (17 + p1)), .int p2, .int p3, .int p4] : List Value).toArray below meth c s.heap [] 0 0 (MQ below (Q0i T) ([.ref (ad 0), .ref (ad (17 + p1)), .int p2, .int p3, .int p4] : List Value).toArray s 0 0 N0) (F0 m 48 ls [.int k0_36_48]) := by
        intro k0_36_48 hG ls hl
        refine lv_istore (lv' := [(7, .int k0_36_48), (0, .ref (ad 0)), (3, .int p3)]) hx hb dX3_fade_48 hl (by decide) rfl (fun ls hl => ?_)
        refine lv_iload_n hx hb dX3_fade_50 rfl (lv_at hl 2 rfl) ?_
        refine lv_iload hx hb dX3_fade_51 (lv_at hl 0 rfl) ?_
        refine lv_bipush (v := 31) hx hb dX3_fade_53 (by decide) ?_
        refine r_min S hl.1 (List.mem_of_getElem? (i := 2) rfl) (List.mem_of_getElem? (i := 3) rfl) (List.mem_of_getElem? (i := 4) rfl) (List.mem_of_getElem? (i := 5) rfl) ⟨Nat.le_of_ble_eq_true rfl, Nat.le_of_ble_eq_true rfl, Nat.zero_le _, Nat.zero_le _⟩ dX3_fade_55 ?_
        refine lv_ishr hx hb dX3_fade_58 ?_
        exact end0i S hr hlocks hG dX3_fade_59
      refine lv_icmp_ne (tgt := 46) hx hb dX3_fade_36 (by decide) (fun c36 => ?_) (fun c36 => ?_)
      · have t36 : (σ (17 + p1) 0).toInt ≠ 1 := qt_ne c36
        simp only [if_neg c36] at hG
        refine lv_iload hx hb dX3_fade_46 (lv_at hl 0 rfl) ?_
        exact J36_48 (p4 / (σ 4 (ix p2))) hG ls (lv_sub hl [2, 5] rfl)
      · have t36 : (σ (17 + p1) 0).toInt = 1 := qt_eq c36
        simp only [if_pos c36] at hG
        refine lv_iload hx hb dX3_fade_39 (lv_at hl 0 rfl) ?_
        refine lv_iconst (v := 2) hx hb dX3_fade_41 (by decide) ?_
        refine lv_idiv hx hb dX3_fade_42 (by decide) ?_
        refine lv_goto (tgt := 48) hx hb dX3_fade_43 (by decide) ?_
        exact J36_48 ((p4 / (σ 4 (ix p2))) / 2) hG ls (lv_sub hl [2, 5] rfl)
    · have t19 : (σ 4 (ix p2)).toInt < 1 := qt_nle c19
      rw [if_neg c19] at hG
      refine lv_iload_n hx hb dX3_fade_22 rfl (lv_at hl 4 rfl) ?_
      exact end0i S hr hlocks hG dX3_fade_23
set_option maxHeartbeats 4000000 in
set_option maxRecDepth 100000 in
theorem c_X3_isSign (l : Launch) (ad : Nat → Nat) (D : va_G) (sz : Nat) (σ : St) (p1 : Int32) : Met l yX3_isSign wsX3_isSign ({ frames := 0, cells := 0, slots := 0, locals := 0 }) (PreW 41 (eC ad) ad D (tyC ad) σ sz ([.ref (ad 0), .int p1] : List Value)) (Q0i (f_X3_isSign σ p1)) 0 0 N0 := by
  generalize hG : f_X3_isSign σ p1 = T
  refine headW (cc := cX3_isSign) (maxL := 2) (ret := (some .boolean)) ([.ref (ad 0), .int p1] : List Value) (by decide) rfl (Nat.le_of_ble_eq_true rfl) ?_
  intro p e s m below meth c S hr hlocks hK hN hsz w ls hl
  have S : CallFix p m c cX3_isSign 2 s ([.ref (ad 0), .int p1] : List Value).toArray wsX3_isSign RX3 := S
  have hx := S.1
  have hb := S.2.1
  have z0 : (0 : Int32).toInt = 0 := by decide
  have z1 : (1 : Int32).toInt = 1 := by decide
  have hl : lv_has ls 2 [(0, .ref (ad 0)), (1, .int p1)] := hl
  have hinX3 : ∀ w ∈ wsX30, w ∈ wsX3_isSign := (fun _ h => List.mem_cons_of_mem _ (List.mem_append_right _ h))
  rw [f_X3_isSign] at hG
  refine lv_iload_n hx hb dX3_isSign_0 rfl (lv_at hl 1 rfl) ?_
  refine lv_if_lt (tgt := 16) hx hb dX3_isSign_1 (by decide) (fun c1 => ?_) (fun c1 => ?_)
  · have t1 : p1.toInt < 0 := qt_lt c1
    rw [if_pos c1] at hG
    refine lv_iconst (v := 0) hx hb dX3_isSign_16 (by decide) ?_
    exact end0z S hr hlocks (Or.inl rfl) hG dX3_isSign_17
  · have t1 : 0 ≤ p1.toInt := qt_nlt c1
    rw [if_neg c1] at hG
    refine lv_iload_n hx hb dX3_isSign_4 rfl (lv_at hl 1 rfl) ?_
    refine lv_aload_n hx hb dX3_isSign_5 rfl (lv_at hl 0 rfl) ?_
    refine r_get (C := RX3) (T := TX3) (N := 14) S hK w (k := 0) (by decide) (eC_0 ad _) rfl hinX3 4 (by decide) (List.mem_of_getElem? (i := 1) rfl) rfl dX3_isSign_6 ?_
    refine lv_icmp_ge (tgt := 16) hx hb dX3_isSign_9 (by decide) (fun c9 => ?_) (fun c9 => ?_)
    · have t9 : (σ 0 4).toInt ≤ p1.toInt := qt_le c9
      rw [if_pos c9] at hG
      refine lv_iconst (v := 0) hx hb dX3_isSign_16 (by decide) ?_
      exact end0z S hr hlocks (Or.inl rfl) hG dX3_isSign_17
    · have t9 : p1.toInt < (σ 0 4).toInt := qt_nle c9
      rw [if_neg c9] at hG
      refine lv_iconst (v := 1) hx hb dX3_isSign_12 (by decide) ?_
      refine lv_goto (tgt := 17) hx hb dX3_isSign_13 (by decide) ?_
      exact end0z S hr hlocks (Or.inr rfl) hG dX3_isSign_17
set_option maxHeartbeats 4000000 in
set_option maxRecDepth 100000 in
theorem c_X3_areTwoSigns (l : Launch) (ad : Nat → Nat) (D : va_G) (sz : Nat) (σ : St) (p1 : Int32) (p2 : Int32) : Met l yX3_areTwoSigns wsX3_areTwoSigns ({ frames := 1, cells := 0, slots := 0, locals := 21 }) (PreW 41 (eC ad) ad D (tyC ad) σ sz ([.ref (ad 0), .int p1, .int p2] : List Value)) (Q0i (f_X3_areTwoSigns σ p1 p2)) 0 0 N0 := by
  generalize hG : f_X3_areTwoSigns σ p1 p2 = T
  refine headW (cc := cX3_areTwoSigns) (maxL := 3) (ret := (some .boolean)) ([.ref (ad 0), .int p1, .int p2] : List Value) (by decide) rfl (Nat.le_of_ble_eq_true rfl) ?_
  intro p e s m below meth c S hr hlocks hK hN hsz w ls hl
  have S : CallFix p m c cX3_areTwoSigns 3 s ([.ref (ad 0), .int p1, .int p2] : List Value).toArray wsX3_areTwoSigns RX3 := S
  have hx := S.1
  have hb := S.2.1
  have z0 : (0 : Int32).toInt = 0 := by decide
  have z1 : (1 : Int32).toInt = 1 := by decide
  have hl : lv_has ls 3 [(0, .ref (ad 0)), (1, .int p1), (2, .int p2)] := hl
  have hinX3 : ∀ w ∈ wsX30, w ∈ wsX3_areTwoSigns := (fun _ h => List.mem_cons_of_mem _ (List.mem_append_right _ h))
  rw [f_X3_areTwoSigns] at hG
  refine lv_aload_n hx hb dX3_areTwoSigns_0 rfl (lv_at hl 0 rfl) ?_
  refine lv_iload_n hx hb dX3_areTwoSigns_1 rfl (lv_at hl 1 rfl) ?_
  refine call0i (va_runV (As := [.int p1]) (rest := []) S (c_X3_isSign l ad D s.heap.size σ p1) (cwV 1 S.2.2.2.2 gX3_areTwoSigns_X3_isSign rfl rfl rfl ⟨rfl, hd_X3_isSign⟩ ⟨Nat.le_of_ble_eq_true rfl, Nat.le_of_ble_eq_true rfl⟩) (preV hK hN w (k := 0) (by decide) (eC_0 ad _) (q := (RX3, TX3, 14)) rfl) rfl rfl hl.1 rfl (lv_room (Nat.le_of_ble_eq_true rfl)) dX3_areTwoSigns_2 ⟨Nat.zero_le _, Nat.zero_le _⟩) ?_
  refine lv_if_eq (tgt := 25) hx hb dX3_areTwoSigns_5 (by decide) (fun c5 => ?_) (fun c5 => ?_)
  · rw [if_pos c5] at hG
    refine lv_iconst (v := 0) hx hb dX3_areTwoSigns_25 (by decide) ?_
    exact end0z S hr hlocks (Or.inl rfl) hG dX3_areTwoSigns_26
  · have t5 := bf_isSign_n c5
    rw [if_neg c5] at hG
    refine lv_aload_n hx hb dX3_areTwoSigns_8 rfl (lv_at hl 0 rfl) ?_
    refine lv_iload_n hx hb dX3_areTwoSigns_9 rfl (lv_at hl 2 rfl) ?_
    refine call0i (va_runV (As := [.int p2]) (rest := []) S (c_X3_isSign l ad D s.heap.size σ p2) (cwV 1 S.2.2.2.2 gX3_areTwoSigns_X3_isSign rfl rfl rfl ⟨rfl, hd_X3_isSign⟩ ⟨Nat.le_of_ble_eq_true rfl, Nat.le_of_ble_eq_true rfl⟩) (preV hK hN w (k := 0) (by decide) (eC_0 ad _) (q := (RX3, TX3, 14)) rfl) rfl rfl hl.1 rfl (lv_room (Nat.le_of_ble_eq_true rfl)) dX3_areTwoSigns_10 ⟨Nat.zero_le _, Nat.zero_le _⟩) ?_
    refine lv_if_eq (tgt := 25) hx hb dX3_areTwoSigns_13 (by decide) (fun c13 => ?_) (fun c13 => ?_)
    · rw [if_pos c13] at hG
      refine lv_iconst (v := 0) hx hb dX3_areTwoSigns_25 (by decide) ?_
      exact end0z S hr hlocks (Or.inl rfl) hG dX3_areTwoSigns_26
    · have t13 := bf_isSign_n c13
      rw [if_neg c13] at hG
      refine lv_iload_n hx hb dX3_areTwoSigns_16 rfl (lv_at hl 1 rfl) ?_
      refine lv_iload_n hx hb dX3_areTwoSigns_17 rfl (lv_at hl 2 rfl) ?_
      refine lv_icmp_eq (tgt := 25) hx hb dX3_areTwoSigns_18 (by decide) (fun c18 => ?_) (fun c18 => ?_)
      · have t18 : p1.toInt = p2.toInt := qt_eq c18
        rw [if_pos c18] at hG
        refine lv_iconst (v := 0) hx hb dX3_areTwoSigns_25 (by decide) ?_
        exact end0z S hr hlocks (Or.inl rfl) hG dX3_areTwoSigns_26
      · have t18 : p1.toInt ≠ p2.toInt := qt_ne c18
        rw [if_neg c18] at hG
        refine lv_iconst (v := 1) hx hb dX3_areTwoSigns_21 (by decide) ?_
        refine lv_goto (tgt := 26) hx hb dX3_areTwoSigns_22 (by decide) ?_
        exact end0z S hr hlocks (Or.inr rfl) hG dX3_areTwoSigns_26
set_option maxHeartbeats 4000000 in
set_option maxRecDepth 100000 in
theorem c_X3_pairNumber (l : Launch) (p1 : Int32) (p2 : Int32) : Met l yX3_pairNumber wsX3_pairNumber ({ frames := 0, cells := 0, slots := 0, locals := 0 }) (Pre0 ([.int p1, .int p2] : List Value)) (Q0i (f_X3_pairNumber p1 p2)) 0 0 N0 := by
  generalize hG : f_X3_pairNumber p1 p2 = T
  refine head0 (cc := cX3_pairNumber) (maxL := 2) (ret := (some .int)) ([.int p1, .int p2] : List Value) (by decide) rfl (Nat.le_of_ble_eq_true rfl) ?_
  intro p e s m below meth c S hr hlocks ls hl
  have S : CallFix p m c cX3_pairNumber 2 s ([.int p1, .int p2] : List Value).toArray wsX3_pairNumber RX3 := S
  have hx := S.1
  have hb := S.2.1
  have z0 : (0 : Int32).toInt = 0 := by decide
  have z1 : (1 : Int32).toInt = 1 := by decide
  have hl : lv_has ls 2 [(0, .int p1), (1, .int p2)] := hl
  rw [f_X3_pairNumber] at hG
  refine lv_bipush (v := 10) hx hb dX3_pairNumber_0 (by decide) ?_
  refine lv_iload_n hx hb dX3_pairNumber_2 rfl (lv_at hl 0 rfl) ?_
  refine lv_imul hx hb dX3_pairNumber_3 ?_
  refine lv_iload_n hx hb dX3_pairNumber_4 rfl (lv_at hl 1 rfl) ?_
  refine lv_iadd hx hb dX3_pairNumber_5 ?_
  exact end0i S hr hlocks hG dX3_pairNumber_6
set_option maxHeartbeats 4000000 in
set_option maxRecDepth 100000 in
theorem c_X3_apartOf (l : Launch) (ad : Nat → Nat) (D : va_G) (sz : Nat) (σ : St) (p1 : Nat) (p2 : Nat) (hp1 : st9 p1) (hp2 : st9 p2) : Met l yX3_apartOf wsX3_apartOf ({ frames := 1, cells := 0, slots := 0, locals := 21 }) (PreW 41 (eC ad) ad D (tyC ad) σ sz ([.ref (ad p1), .ref (ad p2)] : List Value)) (Q0i (f_X3_apartOf σ p1 p2)) 0 0 N0 := by
  generalize hG : f_X3_apartOf σ p1 p2 = T
  refine headW (cc := cX3_apartOf) (maxL := 4) (ret := (some .int)) ([.ref (ad p1), .ref (ad p2)] : List Value) (by decide) rfl (Nat.le_of_ble_eq_true rfl) ?_
  intro p e s m below meth c S hr hlocks hK hN hsz w ls hl
  have S : CallFix p m c cX3_apartOf 4 s ([.ref (ad p1), .ref (ad p2)] : List Value).toArray wsX3_apartOf RX3 := S
  have hx := S.1
  have hb := S.2.1
  have z0 : (0 : Int32).toInt = 0 := by decide
  have z1 : (1 : Int32).toInt = 1 := by decide
  have hl : lv_has ls 4 [(0, .ref (ad p1)), (1, .ref (ad p2))] := hl
  rw [f_X3_apartOf] at hG
  refine lv_iconst (v := 0) hx hb dX3_apartOf_0 (by decide) ?_
  refine lv_istore_n (lv' := [(2, .int 0), (0, .ref (ad p1)), (1, .ref (ad p2))]) hx hb dX3_apartOf_1 rfl hl (by decide) rfl (fun ls hl => ?_)
  refine lv_iconst (v := 0) hx hb dX3_apartOf_2 (by decide) ?_
  refine lv_istore_n (lv' := [(3, .int 0), (2, .int 0), (0, .ref (ad p1)), (1, .ref (ad p2))]) hx hb dX3_apartOf_3 rfl hl (by decide) rfl (fun ls hl => ?_)
  have L4 : ∀ (n : Nat) (res4 : Int32), ∀ (v2_4 : Int32), ∀ (v3_4 : Int32), ((0 ≤ v3_4.toInt ∧ v3_4.toInt ≤ 9)) → (9 - v3_4.toInt).toNat < n → (lp_X3_apartOf_4 σ p1 p2 n v2_4 v3_4) = res4 → (∀ (v2_4e : Int32), res4 = v2_4e → ∀ ls : Array Slot, lv_has ls 4 [(2, .int v2_4e)] → W p l e (headSpec wsX3_apartOf ({ frames := 1, cells := 0, slots := 0, locals := 21 })).room s m ([.ref (ad p1), .ref (ad p2)] : List Value).toArray below meth c s.heap [] 0 0 (MQ below (Q0i T) ([.ref (ad p1), .ref (ad p2)] : List Value).toArray s 0 0 N0) (F0 m 29 ls [])) → ∀ ls : Array Slot, lv_has ls 4 [(0, .ref (ad p1)), (1, .ref (ad p2)), (2, .int v2_4), (3, .int v3_4)] → W p l e (headSpec wsX3_apartOf ({ frames := 1, cells := 0, slots := 0, locals := 21 })).room s m ([.ref (ad p1), .ref (ad p2)] : List Value).toArray below meth c s.heap [] 0 0 (MQ below (Q0i T) ([.ref (ad p1), .ref (ad p2)] : List Value).toArray s 0 0 N0) (F0 m 4 ls []) := by
    intro n
    induction n with
    | zero => intro _ _ _ _ hm; exact absurd hm (Nat.not_lt_zero _)
    | succ n ih4 =>
      intro res4 v2_4 v3_4 hI4 hm4 hG hex4 ls hl
      have i4_0 := hI4
      rw [lp_X3_apartOf_4] at hG
      refine lv_iload_n hx hb dX3_apartOf_4 rfl (lv_at hl 3 rfl) ?_
      refine lv_bipush (v := 9) hx hb dX3_apartOf_5 (by decide) ?_
      refine lv_icmp_ge (tgt := 29) hx hb dX3_apartOf_7 (by decide) (fun c7 => ?_) (fun c7 => ?_)
      · have t7 : 9 ≤ v3_4.toInt := qt_le c7
        rw [if_pos c7] at hG
        exact hex4 v2_4 hG.symm ls (lv_sub hl [2] rfl)
      · have t7 : v3_4.toInt < 9 := qt_nle c7
        rw [if_neg c7] at hG
        refine lv_iload_n hx hb dX3_apartOf_10 rfl (lv_at hl 2 rfl) ?_
        refine lv_aload_n hx hb dX3_apartOf_11 rfl (lv_at hl 0 rfl) ?_
        refine lv_iload_n hx hb dX3_apartOf_12 rfl (lv_at hl 3 rfl) ?_
        have g13 : vp_in v3_4 9 := vpi (by omega) (by omega)
        refine r_iald (cA := ad 100) (N := 9) S hK w (k := p1) (st9_lt hp1) (fun f => eC_9 ad hp1 f) rfl g13 dX3_apartOf_13 ?_
        refine lv_aload_n hx hb dX3_apartOf_14 rfl (lv_at hl 1 rfl) ?_
        refine lv_iload_n hx hb dX3_apartOf_15 rfl (lv_at hl 3 rfl) ?_
        have g16 : vp_in v3_4 9 := vpi (by omega) (by omega)
        refine r_iald (cA := ad 100) (N := 9) S hK w (k := p2) (st9_lt hp2) (fun f => eC_9 ad hp2 f) rfl g16 dX3_apartOf_16 ?_
        refine lv_isub hx hb dX3_apartOf_17 ?_
        refine r_abs S hl.1 (List.mem_of_getElem? (i := 1) rfl) (List.mem_of_getElem? (i := 2) rfl) (List.mem_of_getElem? (i := 3) rfl) (List.mem_of_getElem? (i := 4) rfl) ⟨Nat.le_of_ble_eq_true rfl, Nat.le_of_ble_eq_true rfl, Nat.zero_le _, Nat.zero_le _⟩ dX3_apartOf_18 ?_
        refine lv_iadd hx hb dX3_apartOf_21 ?_
        refine lv_istore_n (lv' := [(2, .int (v2_4 + (jabs ((σ p1 (ix v3_4)) - (σ p2 (ix v3_4)))))), (0, .ref (ad p1)), (1, .ref (ad p2)), (3, .int v3_4)]) hx hb dX3_apartOf_22 rfl hl (by decide) rfl (fun ls hl => ?_)
        refine lv_iinc (v := (v3_4 + 1)) (lv' := [(3, .int (v3_4 + 1)), (2, .int (v2_4 + (jabs ((σ p1 (ix v3_4)) - (σ p2 (ix v3_4)))))), (0, .ref (ad p1)), (1, .ref (ad p2))]) hx hb dX3_apartOf_23 hl (k := 3) rfl rfl (by decide) rfl (fun ls hl => ?_)
        refine lv_goto (tgt := 4) hx hb dX3_apartOf_26 (by decide) ?_
        have b3_4 : (v3_4 + 1).toInt = v3_4.toInt + 1 := inc_toInt (by omega) (by omega)
        exact ih4 _ (v2_4 + (jabs ((σ p1 (ix v3_4)) - (σ p2 (ix v3_4))))) (v3_4 + 1) (by omega) (by omega) hG hex4 ls (lv_sub hl [2, 3, 1, 0] rfl)
  refine L4 200 _ 0 0 (by omega) (by omega) rfl (fun v2_4e hr4 ls hl => ?_) ls (lv_sub hl [2, 3, 1, 0] rfl)
  rw [hr4] at hG
  refine lv_iload_n hx hb dX3_apartOf_29 rfl (lv_at hl 0 rfl) ?_
  exact end0i S hr hlocks hG dX3_apartOf_30
set_option maxHeartbeats 4000000 in
set_option maxRecDepth 100000 in
theorem c_X3_apart (l : Launch) (ad : Nat → Nat) (D : va_G) (sz : Nat) (σ : St) (p1 : Int32) (p2 : Int32) (hok : OkC σ) : Met l yX3_apart wsX3_apart ({ frames := 2, cells := 0, slots := 0, locals := 44 }) (PreW 41 (eC ad) ad D (tyC ad) σ sz ([.ref (ad 0), .int p1, .int p2] : List Value)) (Q0i (f_X3_apart σ p1 p2)) 0 0 N0 := by
  generalize hG : f_X3_apart σ p1 p2 = T
  refine headW (cc := cX3_apart) (maxL := 3) (ret := (some .int)) ([.ref (ad 0), .int p1, .int p2] : List Value) (by decide) rfl (Nat.le_of_ble_eq_true rfl) ?_
  intro p e s m below meth c S hr hlocks hK hN hsz w ls hl
  have S : CallFix p m c cX3_apart 3 s ([.ref (ad 0), .int p1, .int p2] : List Value).toArray wsX3_apart RX3 := S
  have hx := S.1
  have hb := S.2.1
  have z0 : (0 : Int32).toInt = 0 := by decide
  have z1 : (1 : Int32).toInt = 1 := by decide
  have hl : lv_has ls 3 [(0, .ref (ad 0)), (1, .int p1), (2, .int p2)] := hl
  have hinX3 : ∀ w ∈ wsX30, w ∈ wsX3_apart := (fun _ h => List.mem_cons_of_mem _ (List.mem_append_left _ (List.mem_append_right _ h)))
  have hinX2 : ∀ w ∈ wsX20, w ∈ wsX3_apart := (fun _ h => List.mem_cons_of_mem _ (List.mem_append_right _ h))
  have okf0 := hok.1
  have okf1 := hok.2.1
  have okf2 := hok.2.2.1
  have okf3 := hok.2.2.2.1
  have okf4 := hok.2.2.2.2.1
  have okf5 := hok.2.2.2.2.2
  rw [f_X3_apart] at hG
  refine lv_aload_n hx hb dX3_apart_0 rfl (lv_at hl 0 rfl) ?_
  refine lv_iload_n hx hb dX3_apart_1 rfl (lv_at hl 1 rfl) ?_
  refine call0i (va_runV (As := [.int p1]) (rest := []) S (c_X3_isSign l ad D s.heap.size σ p1) (cwV 1 S.2.2.2.2 gX3_apart_X3_isSign rfl rfl rfl ⟨rfl, hd_X3_isSign⟩ ⟨Nat.le_of_ble_eq_true rfl, Nat.le_of_ble_eq_true rfl⟩) (preV hK hN w (k := 0) (by decide) (eC_0 ad _) (q := (RX3, TX3, 14)) rfl) rfl rfl hl.1 rfl (lv_room (Nat.le_of_ble_eq_true rfl)) dX3_apart_2 ⟨Nat.zero_le _, Nat.zero_le _⟩) ?_
  refine lv_if_eq (tgt := 16) hx hb dX3_apart_5 (by decide) (fun c5 => ?_) (fun c5 => ?_)
  · rw [if_pos c5] at hG
    refine lv_iconst (v := (-1)) hx hb dX3_apart_16 (by decide) ?_
    exact end0i S hr hlocks hG dX3_apart_17
  · have t5 := bf_isSign_n c5
    rw [if_neg c5] at hG
    refine lv_aload_n hx hb dX3_apart_8 rfl (lv_at hl 0 rfl) ?_
    refine lv_iload_n hx hb dX3_apart_9 rfl (lv_at hl 2 rfl) ?_
    refine call0i (va_runV (As := [.int p2]) (rest := []) S (c_X3_isSign l ad D s.heap.size σ p2) (cwV 1 S.2.2.2.2 gX3_apart_X3_isSign rfl rfl rfl ⟨rfl, hd_X3_isSign⟩ ⟨Nat.le_of_ble_eq_true rfl, Nat.le_of_ble_eq_true rfl⟩) (preV hK hN w (k := 0) (by decide) (eC_0 ad _) (q := (RX3, TX3, 14)) rfl) rfl rfl hl.1 rfl (lv_room (Nat.le_of_ble_eq_true rfl)) dX3_apart_10 ⟨Nat.zero_le _, Nat.zero_le _⟩) ?_
    refine lv_if_ne (tgt := 18) hx hb dX3_apart_13 (by decide) (fun c13 => ?_) (fun c13 => ?_)
    · have t13 := bf_isSign_n c13
      rw [if_neg c13] at hG
      refine lv_aload_n hx hb dX3_apart_18 rfl (lv_at hl 0 rfl) ?_
      refine r_get (C := RX3) (T := TX3) (N := 14) S hK w (k := 0) (by decide) (eC_0 ad _) rfl hinX3 1 (by decide) (List.mem_of_getElem? (i := 1) rfl) rfl dX3_apart_19 ?_
      refine lv_iload_n hx hb dX3_apart_22 rfl (lv_at hl 1 rfl) ?_
      have g23 : vp_in p1 8 := vpi (by omega) (by omega)
      refine r_aald S hK w (k := 2) (by decide) (eC_2 ad _) (t0 := 2) rfl g23 dX3_apart_23 ?_
      refine r_getN (C := RX2) (T := TX2) (N := 3) S hK hN w (k := (17 + (ix p1))) (Nat.lt_of_lt_of_le (Nat.add_lt_add_left (vpl g23) 17) (by decide)) (eC_sg ad (vpl g23) _) rfl hinX2 2 (by decide) 5 rfl rfl dX3_apart_24 ?_
      refine lv_aload_n hx hb dX3_apart_27 rfl (lv_at hl 0 rfl) ?_
      refine r_get (C := RX3) (T := TX3) (N := 14) S hK w (k := 0) (by decide) (eC_0 ad _) rfl hinX3 1 (by decide) (List.mem_of_getElem? (i := 1) rfl) rfl dX3_apart_28 ?_
      refine lv_iload_n hx hb dX3_apart_31 rfl (lv_at hl 2 rfl) ?_
      have g32 : vp_in p2 8 := vpi (by omega) (by omega)
      refine r_aald S hK w (k := 2) (by decide) (eC_2 ad _) (t0 := 2) rfl g32 dX3_apart_32 ?_
      refine r_getN (C := RX2) (T := TX2) (N := 3) S hK hN w (k := (17 + (ix p2))) (Nat.lt_of_lt_of_le (Nat.add_lt_add_left (vpl g32) 17) (by decide)) (eC_sg ad (vpl g32) _) rfl hinX2 2 (by decide) 5 rfl rfl dX3_apart_33 ?_
      refine call0i (va_runS (As := [.ref (ad (25 + (ix p1))), .ref (ad (25 + (ix p2)))]) (rest := []) S (c_X3_apartOf l ad D s.heap.size σ (25 + (ix p1)) (25 + (ix p2)) (Or.inr ⟨_, (vpl g23), rfl⟩) (Or.inr ⟨_, (vpl g32), rfl⟩)) (va_cwS 2 S.2.2.2.2 gX3_apart_X3_apartOf rfl rfl rfl hd_X3_apartOf ⟨Nat.le_of_ble_eq_true rfl, Nat.le_of_ble_eq_true rfl⟩) (preS hK hN w) rfl rfl hl.1 rfl (lv_room (Nat.le_of_ble_eq_true rfl)) dX3_apart_36 ⟨Nat.zero_le _, Nat.zero_le _⟩) ?_
      exact end0i S hr hlocks hG dX3_apart_39
    · rw [if_pos c13] at hG
      refine lv_iconst (v := (-1)) hx hb dX3_apart_16 (by decide) ?_
      exact end0i S hr hlocks hG dX3_apart_17
set_option maxHeartbeats 4000000 in
set_option maxRecDepth 100000 in
theorem c_X3_areAlike (l : Launch) (ad : Nat → Nat) (D : va_G) (sz : Nat) (σ : St) (p1 : Nat) (p2 : Nat) (hp1 : st9 p1) (hp2 : st9 p2) : Met l yX3_areAlike wsX3_areAlike ({ frames := 2, cells := 0, slots := 0, locals := 44 }) (PreW 41 (eC ad) ad D (tyC ad) σ sz ([.ref (ad 0), .ref (ad p1), .ref (ad p2)] : List Value)) (Q0i (f_X3_areAlike σ p1 p2)) 0 0 N0 := by
  generalize hG : f_X3_areAlike σ p1 p2 = T
  refine headW (cc := cX3_areAlike) (maxL := 3) (ret := (some .boolean)) ([.ref (ad 0), .ref (ad p1), .ref (ad p2)] : List Value) (by decide) rfl (Nat.le_of_ble_eq_true rfl) ?_
  intro p e s m below meth c S hr hlocks hK hN hsz w ls hl
  have S : CallFix p m c cX3_areAlike 3 s ([.ref (ad 0), .ref (ad p1), .ref (ad p2)] : List Value).toArray wsX3_areAlike RX3 := S
  have hx := S.1
  have hb := S.2.1
  have z0 : (0 : Int32).toInt = 0 := by decide
  have z1 : (1 : Int32).toInt = 1 := by decide
  have hl : lv_has ls 3 [(0, .ref (ad 0)), (1, .ref (ad p1)), (2, .ref (ad p2))] := hl
  have hinX3 : ∀ w ∈ wsX30, w ∈ wsX3_areAlike := (fun _ h => List.mem_cons_of_mem _ (List.mem_append_right _ h))
  rw [f_X3_areAlike] at hG
  refine lv_bipush (v := 8) hx hb dX3_areAlike_0 (by decide) ?_
  refine lv_aload_n hx hb dX3_areAlike_2 rfl (lv_at hl 1 rfl) ?_
  refine lv_aload_n hx hb dX3_areAlike_3 rfl (lv_at hl 2 rfl) ?_
  refine call0i (va_runS (As := [.ref (ad p1), .ref (ad p2)]) (rest := [.int 8]) S (c_X3_apartOf l ad D s.heap.size σ p1 p2 hp1 hp2) (va_cwS 2 S.2.2.2.2 gX3_areAlike_X3_apartOf rfl rfl rfl hd_X3_apartOf ⟨Nat.le_of_ble_eq_true rfl, Nat.le_of_ble_eq_true rfl⟩) (preS hK hN w) rfl rfl hl.1 rfl (lv_room (Nat.le_of_ble_eq_true rfl)) dX3_areAlike_4 ⟨Nat.zero_le _, Nat.zero_le _⟩) ?_
  refine lv_imul hx hb dX3_areAlike_7 ?_
  refine lv_aload_n hx hb dX3_areAlike_8 rfl (lv_at hl 0 rfl) ?_
  refine r_get (C := RX3) (T := TX3) (N := 14) S hK w (k := 0) (by decide) (eC_0 ad _) rfl hinX3 7 (by decide) (List.mem_of_getElem? (i := 1) rfl) rfl dX3_areAlike_9 ?_
  refine lv_icmp_gt (tgt := 19) hx hb dX3_areAlike_12 (by decide) (fun c12 => ?_) (fun c12 => ?_)
  · have t12 : (σ 0 7).toInt < (8 * (f_X3_apartOf σ p1 p2)).toInt := qt_lt c12
    rw [if_pos c12] at hG
    refine lv_iconst (v := 0) hx hb dX3_areAlike_19 (by decide) ?_
    exact end0z S hr hlocks (Or.inl rfl) hG dX3_areAlike_20
  · have t12 : (8 * (f_X3_apartOf σ p1 p2)).toInt ≤ (σ 0 7).toInt := qt_nlt c12
    rw [if_neg c12] at hG
    refine lv_iconst (v := 1) hx hb dX3_areAlike_15 (by decide) ?_
    refine lv_goto (tgt := 20) hx hb dX3_areAlike_16 (by decide) ?_
    exact end0z S hr hlocks (Or.inr rfl) hG dX3_areAlike_20
set_option maxHeartbeats 4000000 in
set_option maxRecDepth 100000 in
theorem c_X3_twins (l : Launch) (ad : Nat → Nat) (D : va_G) (sz : Nat) (σ : St) (p1 : Int32) (hok : OkC σ) : Met l yX3_twins wsX3_twins ({ frames := 3, cells := 0, slots := 0, locals := 66 }) (PreW 41 (eC ad) ad D (tyC ad) σ sz ([.ref (ad 0), .int p1] : List Value)) (Q0i (f_X3_twins σ p1)) 0 0 N0 := by
  generalize hG : f_X3_twins σ p1 = T
  refine headW (cc := cX3_twins) (maxL := 5) (ret := (some .int)) ([.ref (ad 0), .int p1] : List Value) (by decide) rfl (Nat.le_of_ble_eq_true rfl) ?_
  intro p e s m below meth c S hr hlocks hK hN hsz w ls hl
  have S : CallFix p m c cX3_twins 5 s ([.ref (ad 0), .int p1] : List Value).toArray wsX3_twins RX3 := S
  have hx := S.1
  have hb := S.2.1
  have z0 : (0 : Int32).toInt = 0 := by decide
  have z1 : (1 : Int32).toInt = 1 := by decide
  have hl : lv_has ls 5 [(0, .ref (ad 0)), (1, .int p1)] := hl
  have hinX3 : ∀ w ∈ wsX30, w ∈ wsX3_twins := (fun _ h => List.mem_cons_of_mem _ (List.mem_append_left _ (List.mem_append_right _ h)))
  have hinX2 : ∀ w ∈ wsX20, w ∈ wsX3_twins := (fun _ h => List.mem_cons_of_mem _ (List.mem_append_right _ h))
  have okf0 := hok.1
  have okf1 := hok.2.1
  have okf2 := hok.2.2.1
  have okf3 := hok.2.2.2.1
  have okf4 := hok.2.2.2.2.1
  have okf5 := hok.2.2.2.2.2
  rw [f_X3_twins] at hG
  refine lv_iload_n hx hb dX3_twins_0 rfl (lv_at hl 1 rfl) ?_
  refine lv_iconst (v := (-1)) hx hb dX3_twins_1 (by decide) ?_
  refine lv_icmp_ge (tgt := 7) hx hb dX3_twins_2 (by decide) (fun c2 => ?_) (fun c2 => ?_)
  · have t2 : -1 ≤ p1.toInt := qt_le c2
    rw [if_pos c2] at hG
    refine lv_iconst (v := 0) hx hb dX3_twins_7 (by decide) ?_
    refine lv_istore_n (lv' := [(2, .int 0), (0, .ref (ad 0)), (1, .int p1)]) hx hb dX3_twins_8 rfl hl (by decide) rfl (fun ls hl => ?_)
    refine lv_iconst (v := 0) hx hb dX3_twins_9 (by decide) ?_
    refine lv_istore_n (lv' := [(3, .int 0), (2, .int 0), (0, .ref (ad 0)), (1, .int p1)]) hx hb dX3_twins_10 rfl hl (by decide) rfl (fun ls hl => ?_)
    have L11 : ∀ (n : Nat) (res11 : (Int32) ⊕ (Int32)), ∀ (v2_11 : Int32), ∀ (v3_11 : Int32), ((0 ≤ v3_11.toInt ∧ v3_11.toInt ≤ 8)) → (8 - v3_11.toInt).toNat < n → (lp_X3_twins_11 σ p1 n v2_11 v3_11) = res11 → (∀ r : Int32, res11 = Sum.inl r → r = T) → (∀ (v2_11e : Int32), res11 = Sum.inr v2_11e → ∀ ls : Array Slot, lv_has ls 5 [(0, .ref (ad 0)), (1, .int p1), (2, .int v2_11e)] → W p l e (headSpec wsX3_twins ({ frames := 3, cells := 0, slots := 0, locals := 66 })).room s m ([.ref (ad 0), .int p1] : List Value).toArray below meth c s.heap [] 0 0 (MQ below (Q0i T) ([.ref (ad 0), .int p1] : List Value).toArray s 0 0 N0) (F0 m 86 ls [])) → ∀ ls : Array Slot, lv_has ls 5 [(0, .ref (ad 0)), (1, .int p1), (2, .int v2_11), (3, .int v3_11)] → W p l e (headSpec wsX3_twins ({ frames := 3, cells := 0, slots := 0, locals := 66 })).room s m ([.ref (ad 0), .int p1] : List Value).toArray below meth c s.heap [] 0 0 (MQ below (Q0i T) ([.ref (ad 0), .int p1] : List Value).toArray s 0 0 N0) (F0 m 11 ls []) := by
      intro n
      induction n with
      | zero => intro _ _ _ _ hm; exact absurd hm (Nat.not_lt_zero _)
      | succ n ih11 =>
        intro res11 v2_11 v3_11 hI11 hm11 hG hret11 hex11 ls hl
        have i11_0 := hI11
        rw [lp_X3_twins_11] at hG
        refine lv_iload_n hx hb dX3_twins_11 rfl (lv_at hl 3 rfl) ?_
        refine lv_aload_n hx hb dX3_twins_12 rfl (lv_at hl 0 rfl) ?_
        refine r_get (C := RX3) (T := TX3) (N := 14) S hK w (k := 0) (by decide) (eC_0 ad _) rfl hinX3 4 (by decide) (List.mem_of_getElem? (i := 1) rfl) rfl dX3_twins_13 ?_
        refine lv_icmp_ge (tgt := 86) hx hb dX3_twins_16 (by decide) (fun c16 => ?_) (fun c16 => ?_)
        · have t16 : (σ 0 4).toInt ≤ v3_11.toInt := qt_le c16
          rw [if_pos c16] at hG
          exact hex11 v2_11 hG.symm ls (lv_sub hl [0, 1, 2] rfl)
        · have t16 : v3_11.toInt < (σ 0 4).toInt := qt_nle c16
          rw [if_neg c16] at hG
          refine lv_iload_n hx hb dX3_twins_19 rfl (lv_at hl 3 rfl) ?_
          refine lv_iconst (v := 1) hx hb dX3_twins_20 (by decide) ?_
          refine lv_iadd hx hb dX3_twins_21 ?_
          refine lv_istore (lv' := [(4, .int (v3_11 + 1)), (0, .ref (ad 0)), (1, .int p1), (2, .int v2_11), (3, .int v3_11)]) hx hb dX3_twins_22 hl (by decide) rfl (fun ls hl => ?_)
          have L24 : ∀ (n : Nat) (res24 : (Int32) ⊕ (Int32)), ∀ (v2_24 : Int32), ∀ (v4_24 : Int32), ((0 ≤ v4_24.toInt ∧ v4_24.toInt ≤ 8)) → (8 - v4_24.toInt).toNat < n → (lp_X3_twins_24 σ p1 v3_11 n v2_24 v4_24) = res24 → (∀ r : Int32, res24 = Sum.inl r → r = T) → (∀ (v2_24e : Int32), res24 = Sum.inr v2_24e → ∀ ls : Array Slot, lv_has ls 5 [(0, .ref (ad 0)), (1, .int p1), (2, .int v2_24e), (3, .int v3_11)] → W p l e (headSpec wsX3_twins ({ frames := 3, cells := 0, slots := 0, locals := 66 })).room s m ([.ref (ad 0), .int p1] : List Value).toArray below meth c s.heap [] 0 0 (MQ below (Q0i T) ([.ref (ad 0), .int p1] : List Value).toArray s 0 0 N0) (F0 m 80 ls [])) → ∀ ls : Array Slot, lv_has ls 5 [(0, .ref (ad 0)), (1, .int p1), (2, .int v2_24), (3, .int v3_11), (4, .int v4_24)] → W p l e (headSpec wsX3_twins ({ frames := 3, cells := 0, slots := 0, locals := 66 })).room s m ([.ref (ad 0), .int p1] : List Value).toArray below meth c s.heap [] 0 0 (MQ below (Q0i T) ([.ref (ad 0), .int p1] : List Value).toArray s 0 0 N0) (F0 m 24 ls []) := by
            intro n
            induction n with
            | zero => intro _ _ _ _ hm; exact absurd hm (Nat.not_lt_zero _)
            | succ n ih24 =>
              intro res24 v2_24 v4_24 hI24 hm24 hG hret24 hex24 ls hl
              have i24_0 := hI24
              rw [lp_X3_twins_24] at hG
              refine lv_iload hx hb dX3_twins_24 (lv_at hl 4 rfl) ?_
              refine lv_aload_n hx hb dX3_twins_26 rfl (lv_at hl 0 rfl) ?_
              refine r_get (C := RX3) (T := TX3) (N := 14) S hK w (k := 0) (by decide) (eC_0 ad _) rfl hinX3 4 (by decide) (List.mem_of_getElem? (i := 1) rfl) rfl dX3_twins_27 ?_
              refine lv_icmp_ge (tgt := 80) hx hb dX3_twins_30 (by decide) (fun c30 => ?_) (fun c30 => ?_)
              · have t30 : (σ 0 4).toInt ≤ v4_24.toInt := qt_le c30
                rw [if_pos c30] at hG
                exact hex24 v2_24 hG.symm ls (lv_sub hl [0, 1, 2, 3] rfl)
              · have t30 : v4_24.toInt < (σ 0 4).toInt := qt_nle c30
                rw [if_neg c30] at hG
                refine lv_aload_n hx hb dX3_twins_33 rfl (lv_at hl 0 rfl) ?_
                refine lv_aload_n hx hb dX3_twins_34 rfl (lv_at hl 0 rfl) ?_
                refine r_get (C := RX3) (T := TX3) (N := 14) S hK w (k := 0) (by decide) (eC_0 ad _) rfl hinX3 1 (by decide) (List.mem_of_getElem? (i := 2) rfl) rfl dX3_twins_35 ?_
                refine lv_iload_n hx hb dX3_twins_38 rfl (lv_at hl 3 rfl) ?_
                have g39 : vp_in v3_11 8 := vpi (by omega) (by omega)
                refine r_aald S hK w (k := 2) (by decide) (eC_2 ad _) (t0 := 2) rfl g39 dX3_twins_39 ?_
                refine r_getN (C := RX2) (T := TX2) (N := 3) S hK hN w (k := (17 + (ix v3_11))) (Nat.lt_of_lt_of_le (Nat.add_lt_add_left (vpl g39) 17) (by decide)) (eC_sg ad (vpl g39) _) rfl hinX2 2 (by decide) 5 rfl rfl dX3_twins_40 ?_
                refine lv_aload_n hx hb dX3_twins_43 rfl (lv_at hl 0 rfl) ?_
                refine r_get (C := RX3) (T := TX3) (N := 14) S hK w (k := 0) (by decide) (eC_0 ad _) rfl hinX3 1 (by decide) (List.mem_of_getElem? (i := 2) rfl) rfl dX3_twins_44 ?_
                refine lv_iload hx hb dX3_twins_47 (lv_at hl 4 rfl) ?_
                have g49 : vp_in v4_24 8 := vpi (by omega) (by omega)
                refine r_aald S hK w (k := 2) (by decide) (eC_2 ad _) (t0 := 2) rfl g49 dX3_twins_49 ?_
                refine r_getN (C := RX2) (T := TX2) (N := 3) S hK hN w (k := (17 + (ix v4_24))) (Nat.lt_of_lt_of_le (Nat.add_lt_add_left (vpl g49) 17) (by decide)) (eC_sg ad (vpl g49) _) rfl hinX2 2 (by decide) 5 rfl rfl dX3_twins_50 ?_
                refine call0i (va_runV (As := [.ref (ad (25 + (ix v3_11))), .ref (ad (25 + (ix v4_24)))]) (rest := []) S (c_X3_areAlike l ad D s.heap.size σ (25 + (ix v3_11)) (25 + (ix v4_24)) (Or.inr ⟨_, (vpl g39), rfl⟩) (Or.inr ⟨_, (vpl g49), rfl⟩)) (cwV 2 S.2.2.2.2 gX3_twins_X3_areAlike rfl rfl rfl ⟨rfl, hd_X3_areAlike⟩ ⟨Nat.le_of_ble_eq_true rfl, Nat.le_of_ble_eq_true rfl⟩) (preV hK hN w (k := 0) (by decide) (eC_0 ad _) (q := (RX3, TX3, 14)) rfl) rfl rfl hl.1 rfl (lv_room (Nat.le_of_ble_eq_true rfl)) dX3_twins_53 ⟨Nat.zero_le _, Nat.zero_le _⟩) ?_
                refine lv_if_eq (tgt := 74) hx hb dX3_twins_56 (by decide) (fun c56 => ?_) (fun c56 => ?_)
                · rw [if_pos c56] at hG
                  refine lv_iinc (v := (v4_24 + 1)) (lv' := [(4, .int (v4_24 + 1)), (0, .ref (ad 0)), (1, .int p1), (2, .int v2_24), (3, .int v3_11)]) hx hb dX3_twins_74 hl (k := 4) rfl rfl (by decide) rfl (fun ls hl => ?_)
                  refine lv_goto (tgt := 24) hx hb dX3_twins_77 (by decide) ?_
                  have b4_24 : (v4_24 + 1).toInt = v4_24.toInt + 1 := inc_toInt (by omega) (by omega)
                  exact ih24 _ v2_24 (v4_24 + 1) (by omega) (by omega) hG hret24 hex24 ls (lv_sub hl [1, 2, 3, 4, 0] rfl)
                · rw [if_neg c56] at hG
                  refine lv_iload_n hx hb dX3_twins_59 rfl (lv_at hl 2 rfl) ?_
                  refine lv_iload_n hx hb dX3_twins_60 rfl (lv_at hl 1 rfl) ?_
                  refine lv_icmp_ne (tgt := 71) hx hb dX3_twins_61 (by decide) (fun c61 => ?_) (fun c61 => ?_)
                  · have t61 : v2_24.toInt ≠ p1.toInt := qt_ne c61
                    rw [if_neg c61] at hG
                    refine lv_iinc (v := (v2_24 + 1)) (lv' := [(2, .int (v2_24 + 1)), (0, .ref (ad 0)), (1, .int p1), (3, .int v3_11), (4, .int v4_24)]) hx hb dX3_twins_71 hl (k := 2) rfl rfl (by decide) rfl (fun ls hl => ?_)
                    refine lv_iinc (v := (v4_24 + 1)) (lv' := [(4, .int (v4_24 + 1)), (2, .int (v2_24 + 1)), (0, .ref (ad 0)), (1, .int p1), (3, .int v3_11)]) hx hb dX3_twins_74 hl (k := 4) rfl rfl (by decide) rfl (fun ls hl => ?_)
                    refine lv_goto (tgt := 24) hx hb dX3_twins_77 (by decide) ?_
                    have b4_24 : (v4_24 + 1).toInt = v4_24.toInt + 1 := inc_toInt (by omega) (by omega)
                    exact ih24 _ (v2_24 + 1) (v4_24 + 1) (by omega) (by omega) hG hret24 hex24 ls (lv_sub hl [2, 3, 1, 4, 0] rfl)
                  · have t61 : v2_24.toInt = p1.toInt := qt_eq c61
                    rw [if_pos c61] at hG
                    refine lv_iload_n hx hb dX3_twins_64 rfl (lv_at hl 3 rfl) ?_
                    refine lv_iload hx hb dX3_twins_65 (lv_at hl 4 rfl) ?_
                    refine call0i (va_runS (As := [.int v3_11, .int v4_24]) (rest := []) S (c_X3_pairNumber l v3_11 v4_24) (va_cwS 2 S.2.2.2.2 gX3_twins_X3_pairNumber rfl rfl rfl hd_X3_pairNumber ⟨Nat.le_of_ble_eq_true rfl, Nat.le_of_ble_eq_true rfl⟩) pre0S rfl rfl hl.1 rfl (lv_room (Nat.le_of_ble_eq_true rfl)) dX3_twins_67 ⟨Nat.zero_le _, Nat.zero_le _⟩) ?_
                    exact end0i S hr hlocks (hret24 _ hG.symm) dX3_twins_70
          have e24 := inc_toInt (a := v3_11) (by omega) (by omega)
          refine L24 200 _ v2_11 (v3_11 + 1) (by omega) (by omega) rfl (fun r hr24 => by rw [hr24] at hG; exact hret11 _ hG.symm) (fun v2_24e hr24 ls hl => ?_) ls (lv_sub hl [1, 2, 3, 4, 0] rfl)
          rw [hr24] at hG
          dsimp only at hG
          refine lv_iinc (v := (v3_11 + 1)) (lv' := [(3, .int (v3_11 + 1)), (0, .ref (ad 0)), (1, .int p1), (2, .int v2_24e)]) hx hb dX3_twins_80 hl (k := 3) rfl rfl (by decide) rfl (fun ls hl => ?_)
          refine lv_goto (tgt := 11) hx hb dX3_twins_83 (by decide) ?_
          have b3_11 : (v3_11 + 1).toInt = v3_11.toInt + 1 := inc_toInt (by omega) (by omega)
          exact ih11 _ v2_24e (v3_11 + 1) (by omega) (by omega) hG hret11 hex11 ls (lv_sub hl [1, 2, 3, 0] rfl)
    refine L11 200 _ 0 0 (by omega) (by omega) rfl (fun r hr11 => by rw [hr11] at hG; exact hG) (fun v2_11e hr11 ls hl => ?_) ls (lv_sub hl [2, 3, 1, 0] rfl)
    rw [hr11] at hG
    dsimp only at hG
    refine lv_iload_n hx hb dX3_twins_86 rfl (lv_at hl 1 rfl) ?_
    refine lv_iconst (v := (-1)) hx hb dX3_twins_87 (by decide) ?_
    refine lv_icmp_ne (tgt := 95) hx hb dX3_twins_88 (by decide) (fun c88 => ?_) (fun c88 => ?_)
    · have t88 : p1.toInt ≠ -1 := qt_ne c88
      rw [if_neg c88] at hG
      refine lv_bipush (v := (-9)) hx hb dX3_twins_95 (by decide) ?_
      exact end0i S hr hlocks hG dX3_twins_97
    · have t88 : p1.toInt = -1 := qt_eq c88
      rw [if_pos c88] at hG
      refine lv_iload_n hx hb dX3_twins_91 rfl (lv_at hl 2 rfl) ?_
      refine lv_goto (tgt := 97) hx hb dX3_twins_92 (by decide) ?_
      exact end0i S hr hlocks hG dX3_twins_97
  · have t2 : p1.toInt < -1 := qt_nle c2
    rw [if_neg c2] at hG
    refine lv_iconst (v := (-1)) hx hb dX3_twins_5 (by decide) ?_
    exact end0i S hr hlocks hG dX3_twins_6
end
section
set_option maxHeartbeats 4000000 in
set_option maxRecDepth 100000 in
theorem c_X3_areStoppers (l : Launch) (ad : Nat → Nat) (D : va_G) (sz : Nat) (σ : St) (p1 : Nat) (p2 : Int32) (p3 : Int32) (hp1 : p1 < 4) (hb1 : 0 ≤ p2.toInt) (hb2 : 0 ≤ p3.toInt ∧ p3.toInt ≤ 10) (hb3 : p2.toInt + 2 * p3.toInt ≤ 90) : Met l yX3_areStoppers wsX3_areStoppers ({ frames := 1, cells := 0, slots := 0, locals := 20 }) (PreW 41 (eC ad) ad D (tyC ad) σ sz ([.ref (ad (9 + p1)), .int p2, .int p3] : List Value)) (Q0i (f_X3_areStoppers σ p1 p2 p3)) 0 0 N0 := by
  generalize hG : f_X3_areStoppers σ p1 p2 p3 = T
  refine headW (cc := cX3_areStoppers) (maxL := 5) (ret := (some .boolean)) ([.ref (ad (9 + p1)), .int p2, .int p3] : List Value) (by decide) rfl (Nat.le_of_ble_eq_true rfl) ?_
  intro p e s m below meth c S hr hlocks hK hN hsz w ls hl
  have S : CallFix p m c cX3_areStoppers 5 s ([.ref (ad (9 + p1)), .int p2, .int p3] : List Value).toArray wsX3_areStoppers RX3 := S
  have hx := S.1
  have hb := S.2.1
  have z0 : (0 : Int32).toInt = 0 := by decide
  have z1 : (1 : Int32).toInt = 1 := by decide
  have hl : lv_has ls 5 [(0, .ref (ad (9 + p1))), (1, .int p2), (2, .int p3)] := hl
  have hinX1 : ∀ w ∈ wsX10, w ∈ wsX3_areStoppers := (fun _ h => List.mem_cons_of_mem _ (List.mem_append_right _ h))
  rw [f_X3_areStoppers] at hG
  refine lv_iconst (v := 0) hx hb dX3_areStoppers_0 (by decide) ?_
  refine lv_istore_n (lv' := [(3, .int 0), (0, .ref (ad (9 + p1))), (1, .int p2), (2, .int p3)]) hx hb dX3_areStoppers_1 rfl hl (by decide) rfl (fun ls hl => ?_)
  have L2 : ∀ (n : Nat) (res2 : (Int32) ⊕ (Unit)), ∀ (v3_2 : Int32), ((0 ≤ v3_2.toInt ∧ v3_2.toInt ≤ p3.toInt)) → (p3.toInt - v3_2.toInt).toNat < n → (lp_X3_areStoppers_2 σ p1 p2 p3 n v3_2) = res2 → (∀ r : Int32, res2 = Sum.inl r → r = T) → (res2 = Sum.inr () → ∀ ls : Array Slot, lv_has ls 5 [] → W p l e (headSpec wsX3_areStoppers ({ frames := 1, cells := 0, slots := 0, locals := 20 })).room s m ([.ref (ad (9 + p1)), .int p2, .int p3] : List Value).toArray below meth c s.heap [] 0 0 (MQ below (Q0i T) ([.ref (ad (9 + p1)), .int p2, .int p3] : List Value).toArray s 0 0 N0) (F0 m 58 ls [])) → ∀ ls : Array Slot, lv_has ls 5 [(0, .ref (ad (9 + p1))), (1, .int p2), (2, .int p3), (3, .int v3_2)] → W p l e (headSpec wsX3_areStoppers ({ frames := 1, cells := 0, slots := 0, locals := 20 })).room s m ([.ref (ad (9 + p1)), .int p2, .int p3] : List Value).toArray below meth c s.heap [] 0 0 (MQ below (Q0i T) ([.ref (ad (9 + p1)), .int p2, .int p3] : List Value).toArray s 0 0 N0) (F0 m 2 ls []) := by
    intro n
    induction n with
    | zero => intro _ _ _ hm; exact absurd hm (Nat.not_lt_zero _)
    | succ n ih2 =>
      intro res2 v3_2 hI2 hm2 hG hret2 hex2 ls hl
      have i2_0 := hI2
      rw [lp_X3_areStoppers_2] at hG
      refine lv_iload_n hx hb dX3_areStoppers_2 rfl (lv_at hl 3 rfl) ?_
      refine lv_iload_n hx hb dX3_areStoppers_3 rfl (lv_at hl 2 rfl) ?_
      refine lv_icmp_ge (tgt := 58) hx hb dX3_areStoppers_4 (by decide) (fun c4 => ?_) (fun c4 => ?_)
      · have t4 : p3.toInt ≤ v3_2.toInt := qt_le c4
        rw [if_pos c4] at hG
        exact hex2  hG.symm ls (lv_sub hl [] rfl)
      · have t4 : v3_2.toInt < p3.toInt := qt_nle c4
        rw [if_neg c4] at hG
        refine lv_aload_n hx hb dX3_areStoppers_7 rfl (lv_at hl 0 rfl) ?_
        refine r_getN (C := RX1) (T := TX1) (N := 4) S hK hN w (k := (9 + p1)) (Nat.lt_of_lt_of_le (Nat.add_lt_add_left hp1 9) (by decide)) (eC_sh ad hp1 _) rfl hinX1 3 (by decide) 2 rfl rfl dX3_areStoppers_8 ?_
        refine lv_iload_n hx hb dX3_areStoppers_11 rfl (lv_at hl 1 rfl) ?_
        refine lv_iconst (v := 2) hx hb dX3_areStoppers_12 (by decide) ?_
        refine lv_iload_n hx hb dX3_areStoppers_13 rfl (lv_at hl 3 rfl) ?_
        refine lv_imul hx hb dX3_areStoppers_14 ?_
        refine lv_iadd hx hb dX3_areStoppers_15 ?_
        refine lv_iconst (v := 1) hx hb dX3_areStoppers_16 (by decide) ?_
        refine lv_iadd hx hb dX3_areStoppers_17 ?_
        have e14 := km_toInt (a := v3_2) (k := 2) (z := 2) (by decide) (by omega) (by omega)
        have e15 := a_toInt (a := p2) (b := 2 * v3_2) (by omega) (by omega)
        have e17 := inc_toInt (a := p2 + 2 * v3_2) (by omega) (by omega)
        have g18 : vp_in ((p2 + (2 * v3_2)) + 1) 90 := vpi (by omega) (by omega)
        refine r_iald (cA := ad 100) (N := 90) S hK w (k := (13 + p1)) (Nat.lt_of_lt_of_le (Nat.add_lt_add_left hp1 13) (by decide)) (fun f => eC_sc ad hp1 f) rfl g18 dX3_areStoppers_18 ?_
        refine lv_istore (lv' := [(4, .int (σ (13 + p1) (ix ((p2 + (2 * v3_2)) + 1)))), (0, .ref (ad (9 + p1))), (1, .int p2), (2, .int p3), (3, .int v3_2)]) hx hb dX3_areStoppers_19 hl (by decide) rfl (fun ls hl => ?_)
        refine lv_aload_n hx hb dX3_areStoppers_21 rfl (lv_at hl 1 rfl) ?_
        refine r_getN (C := RX1) (T := TX1) (N := 4) S hK hN w (k := (9 + p1)) (Nat.lt_of_lt_of_le (Nat.add_lt_add_left hp1 9) (by decide)) (eC_sh ad hp1 _) rfl hinX1 3 (by decide) 2 rfl rfl dX3_areStoppers_22 ?_
        refine lv_iload_n hx hb dX3_areStoppers_25 rfl (lv_at hl 2 rfl) ?_
        refine lv_iconst (v := 2) hx hb dX3_areStoppers_26 (by decide) ?_
        refine lv_iload_n hx hb dX3_areStoppers_27 rfl (lv_at hl 4 rfl) ?_
        refine lv_imul hx hb dX3_areStoppers_28 ?_
        refine lv_iadd hx hb dX3_areStoppers_29 ?_
        have g30 : vp_in (p2 + (2 * v3_2)) 90 := vpi (by omega) (by omega)
        refine r_iald (cA := ad 100) (N := 90) S hK w (k := (13 + p1)) (Nat.lt_of_lt_of_le (Nat.add_lt_add_left hp1 13) (by decide)) (fun f => eC_sc ad hp1 f) rfl g30 dX3_areStoppers_30 ?_
        refine call0i (va_runS (As := [.int (σ (13 + p1) (ix (p2 + (2 * v3_2))))]) (rest := []) S (c_X3_isSmell l (σ (13 + p1) (ix (p2 + (2 * v3_2))))) (va_cwS 1 S.2.2.2.2 gX3_areStoppers_X3_isSmell rfl rfl rfl hd_X3_isSmell ⟨Nat.le_of_ble_eq_true rfl, Nat.le_of_ble_eq_true rfl⟩) pre0S rfl rfl hl.1 rfl (lv_room (Nat.le_of_ble_eq_true rfl)) dX3_areStoppers_31 ⟨Nat.zero_le _, Nat.zero_le _⟩) ?_
        refine lv_if_eq (tgt := 50) hx hb dX3_areStoppers_34 (by decide) (fun c34 => ?_) (fun c34 => ?_)
        · rw [if_pos c34] at hG
          refine lv_iconst (v := 0) hx hb dX3_areStoppers_50 (by decide) ?_
          exact end0z S hr hlocks (Or.inl rfl) (hret2 _ hG.symm) dX3_areStoppers_51
        · have t34 := bf_isSmell_n c34
          rw [if_neg c34] at hG
          refine lv_iload hx hb dX3_areStoppers_37 (lv_at hl 0 rfl) ?_
          refine lv_iconst (v := 1) hx hb dX3_areStoppers_39 (by decide) ?_
          refine lv_icmp_lt (tgt := 50) hx hb dX3_areStoppers_40 (by decide) (fun c40 => ?_) (fun c40 => ?_)
          · have t40 : (σ (13 + p1) (ix ((p2 + (2 * v3_2)) + 1))).toInt < 1 := qt_lt c40
            rw [if_pos c40] at hG
            refine lv_iconst (v := 0) hx hb dX3_areStoppers_50 (by decide) ?_
            exact end0z S hr hlocks (Or.inl rfl) (hret2 _ hG.symm) dX3_areStoppers_51
          · have t40 : 1 ≤ (σ (13 + p1) (ix ((p2 + (2 * v3_2)) + 1))).toInt := qt_nlt c40
            rw [if_neg c40] at hG
            refine lv_iload hx hb dX3_areStoppers_43 (lv_at hl 0 rfl) ?_
            refine lv_bipush (v := 9) hx hb dX3_areStoppers_45 (by decide) ?_
            refine lv_icmp_le (tgt := 52) hx hb dX3_areStoppers_47 (by decide) (fun c47 => ?_) (fun c47 => ?_)
            · have t47 : (σ (13 + p1) (ix ((p2 + (2 * v3_2)) + 1))).toInt ≤ 9 := qt_le c47
              rw [if_pos c47] at hG
              refine lv_iinc (v := (v3_2 + 1)) (lv' := [(3, .int (v3_2 + 1)), (4, .int (σ (13 + p1) (ix ((p2 + (2 * v3_2)) + 1)))), (0, .ref (ad (9 + p1))), (1, .int p2), (2, .int p3)]) hx hb dX3_areStoppers_52 hl (k := 4) rfl rfl (by decide) rfl (fun ls hl => ?_)
              refine lv_goto (tgt := 2) hx hb dX3_areStoppers_55 (by decide) ?_
              have b3_2 : (v3_2 + 1).toInt = v3_2.toInt + 1 := inc_toInt (by omega) (by omega)
              exact ih2 _ (v3_2 + 1) (by omega) (by omega) hG hret2 hex2 ls (lv_sub hl [2, 3, 4, 0] rfl)
            · have t47 : 9 < (σ (13 + p1) (ix ((p2 + (2 * v3_2)) + 1))).toInt := qt_nle c47
              rw [if_neg c47] at hG
              refine lv_iconst (v := 0) hx hb dX3_areStoppers_50 (by decide) ?_
              exact end0z S hr hlocks (Or.inl rfl) (hret2 _ hG.symm) dX3_areStoppers_51
  refine L2 200 _ 0 (by omega) (by omega) rfl (fun r hr2 => by rw [hr2] at hG; exact hG) (fun hr2 ls hl => ?_) ls (lv_sub hl [1, 2, 3, 0] rfl)
  rw [hr2] at hG
  dsimp only at hG
  refine lv_iconst (v := 1) hx hb dX3_areStoppers_58 (by decide) ?_
  exact end0z S hr hlocks (Or.inr rfl) hG dX3_areStoppers_59
set_option maxHeartbeats 4000000 in
set_option maxRecDepth 100000 in
theorem c_X3_isTakenFor (l : Launch) (ad : Nat → Nat) (D : va_G) (sz : Nat) (σ : St) (p1 : Int32) (p2 : Int32) (p3 : Nat) (p4 : Int32) (p5 : Int32) (hp3 : p3 < 4) (hx1 : 0 ≤ p1.toInt ∧ p1.toInt < 8) (hx2 : 0 ≤ p2.toInt ∧ p2.toInt < 8) (hst : HST σ p3 p4 p5) : Met l yX3_isTakenFor wsX3_isTakenFor ({ frames := 3, cells := 0, slots := 0, locals := 66 }) (PreW 41 (eC ad) ad D (tyC ad) σ sz ([.ref (ad 0), .int p1, .int p2, .ref (ad (9 + p3)), .int p4, .int p5] : List Value)) (QWi 41 (eC ad) ad D (f_X3_isTakenFor σ p1 p2 p3 p4 p5) (CA 41 ad sz)) 0 0 (CA 41 ad sz) := by
  generalize hG : f_X3_isTakenFor σ p1 p2 p3 p4 p5 = T
  refine headW (cc := cX3_isTakenFor) (maxL := 7) (ret := (some .boolean)) ([.ref (ad 0), .int p1, .int p2, .ref (ad (9 + p3)), .int p4, .int p5] : List Value) (by decide) rfl (Nat.le_of_ble_eq_true rfl) ?_
  intro p e s m below meth c S hr hlocks hK hN hsz w ls hl
  have S : CallFix p m c cX3_isTakenFor 7 s ([.ref (ad 0), .int p1, .int p2, .ref (ad (9 + p3)), .int p4, .int p5] : List Value).toArray wsX3_isTakenFor RX3 := S
  have hx := S.1
  have hb := S.2.1
  have z0 : (0 : Int32).toInt = 0 := by decide
  have z1 : (1 : Int32).toInt = 1 := by decide
  have hl : lv_has ls 7 [(0, .ref (ad 0)), (1, .int p1), (2, .int p2), (3, .ref (ad (9 + p3))), (4, .int p4), (5, .int p5)] := hl
  have hinX3 : ∀ w ∈ wsX30, w ∈ wsX3_isTakenFor := (fun _ h => List.mem_cons_of_mem _ (List.mem_append_left _ (List.mem_append_left _ (List.mem_append_right _ h))))
  have hinX2 : ∀ w ∈ wsX20, w ∈ wsX3_isTakenFor := (fun _ h => List.mem_cons_of_mem _ (List.mem_append_left _ (List.mem_append_right _ h)))
  have hinX1 : ∀ w ∈ wsX10, w ∈ wsX3_isTakenFor := (fun _ h => List.mem_cons_of_mem _ (List.mem_append_right _ h))
  rw [f_X3_isTakenFor] at hG
  refine lv_iconst (v := 0) hx hb dX3_isTakenFor_0 (by decide) ?_
  refine lv_istore (lv' := [(6, .int 0), (0, .ref (ad 0)), (1, .int p1), (2, .int p2), (3, .ref (ad (9 + p3))), (4, .int p4), (5, .int p5)]) hx hb dX3_isTakenFor_1 hl (by decide) rfl (fun ls hl => ?_)
  have L3 : ∀ (n : Nat) (res3 : St), ∀ (v6_3 : Int32), ∀ (S_3 : St), ((0 ≤ v6_3.toInt ∧ v6_3.toInt ≤ 9) ∧ (S_3 (13 + p3) = σ (13 + p3))) → (9 - v6_3.toInt).toNat < n → (lp_X3_isTakenFor_3 p1 p2 p3 p4 p5 n v6_3 S_3) = res3 → (∀ (S_3e : St), (S_3e (13 + p3) = σ (13 + p3)) → res3 = S_3e → ∀ (H : Heap) (locs : List Loc), CW 41 (eC ad) ad D (CA 41 ad sz) s.heap S_3e H locs → ∀ ls : Array Slot, lv_has ls 7 [(0, .ref (ad 0)), (2, .int p2), (3, .ref (ad (9 + p3))), (4, .int p4), (5, .int p5)] → W p l e (headSpec wsX3_isTakenFor ({ frames := 3, cells := 0, slots := 0, locals := 66 })).room s m ([.ref (ad 0), .int p1, .int p2, .ref (ad (9 + p3)), .int p4, .int p5] : List Value).toArray below meth c H locs 0 0 (MQ below (QWi 41 (eC ad) ad D T (CA 41 ad sz)) ([.ref (ad 0), .int p1, .int p2, .ref (ad (9 + p3)), .int p4, .int p5] : List Value).toArray s 0 0 (CA 41 ad sz)) (F0 m 35 ls [])) → ∀ (H : Heap) (locs : List Loc), CW 41 (eC ad) ad D (CA 41 ad sz) s.heap S_3 H locs → ∀ ls : Array Slot, lv_has ls 7 [(0, .ref (ad 0)), (1, .int p1), (2, .int p2), (3, .ref (ad (9 + p3))), (4, .int p4), (5, .int p5), (6, .int v6_3)] → W p l e (headSpec wsX3_isTakenFor ({ frames := 3, cells := 0, slots := 0, locals := 66 })).room s m ([.ref (ad 0), .int p1, .int p2, .ref (ad (9 + p3)), .int p4, .int p5] : List Value).toArray below meth c H locs 0 0 (MQ below (QWi 41 (eC ad) ad D T (CA 41 ad sz)) ([.ref (ad 0), .int p1, .int p2, .ref (ad (9 + p3)), .int p4, .int p5] : List Value).toArray s 0 0 (CA 41 ad sz)) (F0 m 3 ls []) := by
    intro n
    induction n with
    | zero => intro _ _ _ _ hm; exact absurd hm (Nat.not_lt_zero _)
    | succ n ih3 =>
      intro res3 v6_3 S_3 hI3 hm3 hG hex3 H locs w ls hl
      obtain ⟨i3_0, i3_1⟩ := id hI3
      rw [lp_X3_isTakenFor_3] at hG
      refine lv_iload hx hb dX3_isTakenFor_3 (lv_at hl 6 rfl) ?_
      refine lv_bipush (v := 9) hx hb dX3_isTakenFor_5 (by decide) ?_
      refine lv_icmp_ge (tgt := 35) hx hb dX3_isTakenFor_7 (by decide) (fun c7 => ?_) (fun c7 => ?_)
      · have t7 : 9 ≤ v6_3.toInt := qt_le c7
        rw [if_pos c7] at hG
        exact hex3 S_3 i3_1 hG.symm _ _ w ls (lv_sub hl [0, 2, 3, 4, 5] rfl)
      · have t7 : v6_3.toInt < 9 := qt_nle c7
        rw [if_neg c7] at hG
        refine lv_aload_n hx hb dX3_isTakenFor_10 rfl (lv_at hl 0 rfl) ?_
        refine r_get (C := RX3) (T := TX3) (N := 14) S hK w (k := 0) (by decide) (eC_0 ad _) rfl hinX3 11 (by decide) (List.mem_of_getElem? (i := 1) rfl) rfl dX3_isTakenFor_11 ?_
        refine lv_iload hx hb dX3_isTakenFor_14 (lv_at hl 6 rfl) ?_
        refine lv_aload_n hx hb dX3_isTakenFor_16 rfl (lv_at hl 0 rfl) ?_
        refine r_get (C := RX3) (T := TX3) (N := 14) S hK w (k := 0) (by decide) (eC_0 ad _) rfl hinX3 1 (by decide) (List.mem_of_getElem? (i := 2) rfl) rfl dX3_isTakenFor_17 ?_
        refine lv_iload_n hx hb dX3_isTakenFor_20 rfl (lv_at hl 1 rfl) ?_
        have g21 : vp_in p1 8 := vpi (by omega) (by omega)
        refine r_aald S hK w (k := 2) (by decide) (eC_2 ad _) (t0 := 2) rfl g21 dX3_isTakenFor_21 ?_
        refine r_getN (C := RX2) (T := TX2) (N := 3) S hK hN w (k := (17 + (ix p1))) (Nat.lt_of_lt_of_le (Nat.add_lt_add_left (vpl g21) 17) (by decide)) (eC_sg ad (vpl g21) _) rfl hinX2 2 (by decide) 5 rfl rfl dX3_isTakenFor_22 ?_
        refine lv_iload hx hb dX3_isTakenFor_25 (lv_at hl 6 rfl) ?_
        have g27 : vp_in v6_3 9 := vpi (by omega) (by omega)
        refine r_iald (cA := ad 100) (N := 9) S hK w (k := (25 + (ix p1))) (Nat.lt_of_lt_of_le (Nat.add_lt_add_left (vpl g21) 25) (by decide)) (fun f => eC_st ad (vpl g21) f) rfl g27 dX3_isTakenFor_27 ?_
        have g28 : vp_in v6_3 9 := vpi (by omega) (by omega)
        refine r_iast (cA := ad 100) (N := 9) S hK w (k := 6) (by decide) (fun f => eC_6 ad f) rfl g28 dX3_isTakenFor_28 (fun H locs w => ?_)
        refine lv_iinc (v := (v6_3 + 1)) (lv' := [(6, .int (v6_3 + 1)), (0, .ref (ad 0)), (1, .int p1), (2, .int p2), (3, .ref (ad (9 + p3))), (4, .int p4), (5, .int p5)]) hx hb dX3_isTakenFor_29 hl (k := 6) rfl rfl (by decide) rfl (fun ls hl => ?_)
        refine lv_goto (tgt := 3) hx hb dX3_isTakenFor_32 (by decide) ?_
        have b6_3 : (v6_3 + 1).toInt = v6_3.toInt + 1 := inc_toInt (by omega) (by omega)
        exact ih3 _ (v6_3 + 1) (u2 S_3 6 (ix v6_3) (S_3 (25 + (ix p1)) (ix v6_3))) ⟨(by omega), (by rw [u2_nc (by omega)]; exact i3_1)⟩ (by omega) hG hex3 _ _ w ls (lv_sub hl [1, 2, 3, 4, 5, 6, 0] rfl)
  refine L3 200 _ 0 σ ⟨(by omega), rfl⟩ (by omega) rfl (fun S_3e x3_0 hr3 H locs w ls hl => ?_) _ _ w ls (lv_sub hl [1, 2, 3, 4, 5, 6, 0] rfl)
  rw [hr3] at hG
  refine lv_iconst (v := 0) hx hb dX3_isTakenFor_35 (by decide) ?_
  refine lv_istore (lv' := [(6, .int 0), (0, .ref (ad 0)), (2, .int p2), (3, .ref (ad (9 + p3))), (4, .int p4), (5, .int p5)]) hx hb dX3_isTakenFor_36 hl (by decide) rfl (fun ls hl => ?_)
  have L38 : ∀ (n : Nat) (res38 : St), ∀ (v6_38 : Int32), ∀ (S_38 : St), ((0 ≤ v6_38.toInt ∧ v6_38.toInt ≤ 10) ∧ (S_38 (13 + p3) = σ (13 + p3))) → (10 - v6_38.toInt).toNat < n → (lp_X3_isTakenFor_38 p2 p3 p4 p5 n v6_38 S_38) = res38 → (∀ (S_38e : St), res38 = S_38e → ∀ (H : Heap) (locs : List Loc), CW 41 (eC ad) ad D (CA 41 ad sz) s.heap S_38e H locs → ∀ ls : Array Slot, lv_has ls 7 [(0, .ref (ad 0)), (2, .int p2)] → W p l e (headSpec wsX3_isTakenFor ({ frames := 3, cells := 0, slots := 0, locals := 66 })).room s m ([.ref (ad 0), .int p1, .int p2, .ref (ad (9 + p3)), .int p4, .int p5] : List Value).toArray below meth c H locs 0 0 (MQ below (QWi 41 (eC ad) ad D T (CA 41 ad sz)) ([.ref (ad 0), .int p1, .int p2, .ref (ad (9 + p3)), .int p4, .int p5] : List Value).toArray s 0 0 (CA 41 ad sz)) (F0 m 95 ls [])) → ∀ (H : Heap) (locs : List Loc), CW 41 (eC ad) ad D (CA 41 ad sz) s.heap S_38 H locs → ∀ ls : Array Slot, lv_has ls 7 [(0, .ref (ad 0)), (2, .int p2), (3, .ref (ad (9 + p3))), (4, .int p4), (5, .int p5), (6, .int v6_38)] → W p l e (headSpec wsX3_isTakenFor ({ frames := 3, cells := 0, slots := 0, locals := 66 })).room s m ([.ref (ad 0), .int p1, .int p2, .ref (ad (9 + p3)), .int p4, .int p5] : List Value).toArray below meth c H locs 0 0 (MQ below (QWi 41 (eC ad) ad D T (CA 41 ad sz)) ([.ref (ad 0), .int p1, .int p2, .ref (ad (9 + p3)), .int p4, .int p5] : List Value).toArray s 0 0 (CA 41 ad sz)) (F0 m 38 ls []) := by
    intro n
    induction n with
    | zero => intro _ _ _ _ hm; exact absurd hm (Nat.not_lt_zero _)
    | succ n ih38 =>
      intro res38 v6_38 S_38 hI38 hm38 hG hex38 H locs w ls hl
      obtain ⟨i38_0, i38_1⟩ := id hI38
      rw [lp_X3_isTakenFor_38] at hG
      refine lv_iload hx hb dX3_isTakenFor_38 (lv_at hl 5 rfl) ?_
      refine lv_bipush (v := 10) hx hb dX3_isTakenFor_40 (by decide) ?_
      refine lv_icmp_ge (tgt := 95) hx hb dX3_isTakenFor_42 (by decide) (fun c42 => ?_) (fun c42 => ?_)
      · have t42 : 10 ≤ v6_38.toInt := qt_le c42
        rw [if_pos c42] at hG
        exact hex38 S_38 hG.symm _ _ w ls (lv_sub hl [0, 1] rfl)
      · have t42 : v6_38.toInt < 10 := qt_nle c42
        rw [if_neg c42] at hG
        refine lv_iload hx hb dX3_isTakenFor_45 (lv_at hl 4 rfl) ?_
        refine lv_iload hx hb dX3_isTakenFor_47 (lv_at hl 5 rfl) ?_
        refine lv_ishr hx hb dX3_isTakenFor_49 ?_
        refine lv_iconst (v := 1) hx hb dX3_isTakenFor_50 (by decide) ?_
        refine lv_iand hx hb dX3_isTakenFor_51 ?_
        refine lv_if_eq (tgt := 89) hx hb dX3_isTakenFor_52 (by decide) (fun c52 => ?_) (fun c52 => ?_)
        · have t52 : ((p5 >>> (v6_38 &&& 31)) &&& 1).toInt = 0 := qt_eq c52
          rw [if_pos c52] at hG
          refine lv_iinc (v := (v6_38 + 1)) (lv' := [(6, .int (v6_38 + 1)), (0, .ref (ad 0)), (2, .int p2), (3, .ref (ad (9 + p3))), (4, .int p4), (5, .int p5)]) hx hb dX3_isTakenFor_89 hl (k := 5) rfl rfl (by decide) rfl (fun ls hl => ?_)
          refine lv_goto (tgt := 38) hx hb dX3_isTakenFor_92 (by decide) ?_
          have b6_38 : (v6_38 + 1).toInt = v6_38.toInt + 1 := inc_toInt (by omega) (by omega)
          exact ih38 _ (v6_38 + 1) S_38 ⟨(by omega), (by first | exact i38_1 | (rw [u2_nc (by omega)]; exact i38_1))⟩ (by omega) hG hex38 _ _ w ls (lv_sub hl [1, 2, 3, 4, 5, 0] rfl)
        · have t52 : ((p5 >>> (v6_38 &&& 31)) &&& 1).toInt ≠ 0 := qt_ne c52
          rw [if_neg c52] at hG
          have hs := hst v6_38 (by omega) (by omega) c52
          refine lv_aload_n hx hb dX3_isTakenFor_55 rfl (lv_at hl 0 rfl) ?_
          refine r_get (C := RX3) (T := TX3) (N := 14) S hK w (k := 0) (by decide) (eC_0 ad _) rfl hinX3 11 (by decide) (List.mem_of_getElem? (i := 1) rfl) rfl dX3_isTakenFor_56 ?_
          refine lv_aload_n hx hb dX3_isTakenFor_59 rfl (lv_at hl 2 rfl) ?_
          refine r_getN (C := RX1) (T := TX1) (N := 4) S hK hN w (k := (9 + p3)) (Nat.lt_of_lt_of_le (Nat.add_lt_add_left hp3 9) (by decide)) (eC_sh ad hp3 _) rfl hinX1 3 (by decide) 2 rfl rfl dX3_isTakenFor_60 ?_
          refine lv_iload hx hb dX3_isTakenFor_63 (lv_at hl 3 rfl) ?_
          refine lv_iconst (v := 2) hx hb dX3_isTakenFor_65 (by decide) ?_
          refine lv_iload hx hb dX3_isTakenFor_66 (lv_at hl 5 rfl) ?_
          refine lv_imul hx hb dX3_isTakenFor_68 ?_
          refine lv_iadd hx hb dX3_isTakenFor_69 ?_
          have g70 : vp_in (p4 + (2 * v6_38)) 90 := hs.1
          refine r_iald (cA := ad 100) (N := 90) S hK w (k := (13 + p3)) (Nat.lt_of_lt_of_le (Nat.add_lt_add_left hp3 13) (by decide)) (fun f => eC_sc ad hp3 f) rfl g70 dX3_isTakenFor_70 ?_
          refine lv_dup2_11 hx hb dX3_isTakenFor_71 rfl rfl ?_
          have g72 : vp_in (S_38 (13 + p3) (ix (p4 + (2 * v6_38)))) 9 := (by rw [i38_1]; exact hs.2.2)
          refine r_iald (cA := ad 100) (N := 9) S hK w (k := 6) (by decide) (fun f => eC_6 ad f) rfl g72 dX3_isTakenFor_72 ?_
          refine lv_aload_n hx hb dX3_isTakenFor_73 rfl (lv_at hl 2 rfl) ?_
          refine r_getN (C := RX1) (T := TX1) (N := 4) S hK hN w (k := (9 + p3)) (Nat.lt_of_lt_of_le (Nat.add_lt_add_left hp3 9) (by decide)) (eC_sh ad hp3 _) rfl hinX1 3 (by decide) 2 rfl rfl dX3_isTakenFor_74 ?_
          refine lv_iload hx hb dX3_isTakenFor_77 (lv_at hl 3 rfl) ?_
          refine lv_iconst (v := 2) hx hb dX3_isTakenFor_79 (by decide) ?_
          refine lv_iload hx hb dX3_isTakenFor_80 (lv_at hl 5 rfl) ?_
          refine lv_imul hx hb dX3_isTakenFor_82 ?_
          refine lv_iadd hx hb dX3_isTakenFor_83 ?_
          refine lv_iconst (v := 1) hx hb dX3_isTakenFor_84 (by decide) ?_
          refine lv_iadd hx hb dX3_isTakenFor_85 ?_
          have g86 : vp_in ((p4 + (2 * v6_38)) + 1) 90 := hs.2.1
          refine r_iald (cA := ad 100) (N := 90) S hK w (k := (13 + p3)) (Nat.lt_of_lt_of_le (Nat.add_lt_add_left hp3 13) (by decide)) (fun f => eC_sc ad hp3 f) rfl g86 dX3_isTakenFor_86 ?_
          refine lv_iadd hx hb dX3_isTakenFor_87 ?_
          have g88 : vp_in (S_38 (13 + p3) (ix (p4 + (2 * v6_38)))) 9 := (by rw [i38_1]; exact hs.2.2)
          refine r_iast (cA := ad 100) (N := 9) S hK w (k := 6) (by decide) (fun f => eC_6 ad f) rfl g88 dX3_isTakenFor_88 (fun H locs w => ?_)
          refine lv_iinc (v := (v6_38 + 1)) (lv' := [(6, .int (v6_38 + 1)), (0, .ref (ad 0)), (2, .int p2), (3, .ref (ad (9 + p3))), (4, .int p4), (5, .int p5)]) hx hb dX3_isTakenFor_89 hl (k := 5) rfl rfl (by decide) rfl (fun ls hl => ?_)
          refine lv_goto (tgt := 38) hx hb dX3_isTakenFor_92 (by decide) ?_
          have b6_38 : (v6_38 + 1).toInt = v6_38.toInt + 1 := inc_toInt (by omega) (by omega)
          exact ih38 _ (v6_38 + 1) (u2 S_38 6 (ix (S_38 (13 + p3) (ix (p4 + (2 * v6_38))))) ((S_38 6 (ix (S_38 (13 + p3) (ix (p4 + (2 * v6_38)))))) + (S_38 (13 + p3) (ix ((p4 + (2 * v6_38)) + 1))))) ⟨(by omega), (by first | exact i38_1 | (rw [u2_nc (by omega)]; exact i38_1))⟩ (by omega) hG hex38 _ _ w ls (lv_sub hl [1, 2, 3, 4, 5, 0] rfl)
  refine L38 200 _ 0 S_3e ⟨(by omega), x3_0⟩ (by omega) rfl (fun S_38e hr38 H locs w ls hl => ?_) _ _ w ls (lv_sub hl [1, 2, 3, 4, 5, 0] rfl)
  rw [hr38] at hG
  refine lv_aload_n hx hb dX3_isTakenFor_95 rfl (lv_at hl 0 rfl) ?_
  refine lv_aload_n hx hb dX3_isTakenFor_96 rfl (lv_at hl 0 rfl) ?_
  refine r_get (C := RX3) (T := TX3) (N := 14) S hK w (k := 0) (by decide) (eC_0 ad _) rfl hinX3 11 (by decide) (List.mem_of_getElem? (i := 1) rfl) rfl dX3_isTakenFor_97 ?_
  refine lv_aload_n hx hb dX3_isTakenFor_100 rfl (lv_at hl 0 rfl) ?_
  refine r_get (C := RX3) (T := TX3) (N := 14) S hK w (k := 0) (by decide) (eC_0 ad _) rfl hinX3 1 (by decide) (List.mem_of_getElem? (i := 2) rfl) rfl dX3_isTakenFor_101 ?_
  refine lv_iload_n hx hb dX3_isTakenFor_104 rfl (lv_at hl 1 rfl) ?_
  have g105 : vp_in p2 8 := vpi (by omega) (by omega)
  refine r_aald S hK w (k := 2) (by decide) (eC_2 ad _) (t0 := 2) rfl g105 dX3_isTakenFor_105 ?_
  refine r_getN (C := RX2) (T := TX2) (N := 3) S hK hN w (k := (17 + (ix p2))) (Nat.lt_of_lt_of_le (Nat.add_lt_add_left (vpl g105) 17) (by decide)) (eC_sg ad (vpl g105) _) rfl hinX2 2 (by decide) 5 rfl rfl dX3_isTakenFor_106 ?_
  refine call0i (va_runV (As := [.ref (ad 6), .ref (ad (25 + (ix p2)))]) (rest := []) S (c_X3_areAlike l ad D H.size S_38e 6 (25 + (ix p2)) (Or.inl rfl) (Or.inr ⟨_, (vpl g105), rfl⟩)) (cwV 2 S.2.2.2.2 gX3_isTakenFor_X3_areAlike rfl rfl rfl ⟨rfl, hd_X3_areAlike⟩ ⟨Nat.le_of_ble_eq_true rfl, Nat.le_of_ble_eq_true rfl⟩) (preV hK hN w (k := 0) (by decide) (eC_0 ad _) (q := (RX3, TX3, 14)) rfl) rfl rfl hl.1 rfl (lv_room (Nat.le_of_ble_eq_true rfl)) dX3_isTakenFor_109 ⟨Nat.zero_le _, Nat.zero_le _⟩) ?_
  exact endWz S hr hlocks w bo_X3_areAlike hG dX3_isTakenFor_112
set_option maxHeartbeats 4000000 in
set_option maxRecDepth 100000 in
theorem c_X3_forged (l : Launch) (ad : Nat → Nat) (D : va_G) (sz : Nat) (σ : St) (p1 : Int32) (p2 : Int32) (p3 : Int32) (p4 : Int32) (p5 : Int32) (p6 : Int32) (hok : OkC σ) : Met l yX3_forged wsX3_forged ({ frames := 4, cells := 0, slots := 0, locals := 92 }) (PreW 41 (eC ad) ad D (tyC ad) σ sz ([.ref (ad 0), .int p1, .int p2, .int p3, .int p4, .int p5, .int p6] : List Value)) (QWi 41 (eC ad) ad D (f_X3_forged σ p1 p2 p3 p4 p5 p6) (CA 41 ad sz)) 0 0 (CA 41 ad sz) := by
  generalize hG : f_X3_forged σ p1 p2 p3 p4 p5 p6 = T
  refine headW (cc := cX3_forged) (maxL := 12) (ret := (some .int)) ([.ref (ad 0), .int p1, .int p2, .int p3, .int p4, .int p5, .int p6] : List Value) (by decide) rfl (Nat.le_of_ble_eq_true rfl) ?_
  intro p e s m below meth c S hr hlocks hK hN hsz w ls hl
  have S : CallFix p m c cX3_forged 12 s ([.ref (ad 0), .int p1, .int p2, .int p3, .int p4, .int p5, .int p6] : List Value).toArray wsX3_forged RX3 := S
  have hx := S.1
  have hb := S.2.1
  have z0 : (0 : Int32).toInt = 0 := by decide
  have z1 : (1 : Int32).toInt = 1 := by decide
  have hl : lv_has ls 12 [(0, .ref (ad 0)), (1, .int p1), (2, .int p2), (3, .int p3), (4, .int p4), (5, .int p5), (6, .int p6)] := hl
  have hinX3 : ∀ w ∈ wsX30, w ∈ wsX3_forged := (fun _ h => List.mem_cons_of_mem _ (List.mem_append_left _ (List.mem_append_left _ (List.mem_append_right _ h))))
  have hinX1 : ∀ w ∈ wsX10, w ∈ wsX3_forged := (fun _ h => List.mem_cons_of_mem _ (List.mem_append_left _ (List.mem_append_right _ h)))
  have hinX2 : ∀ w ∈ wsX20, w ∈ wsX3_forged := (fun _ h => List.mem_cons_of_mem _ (List.mem_append_right _ h))
  have okf0 := hok.1
  have okf1 := hok.2.1
  have okf2 := hok.2.2.1
  have okf3 := hok.2.2.2.1
  have okf4 := hok.2.2.2.2.1
  have okf5 := hok.2.2.2.2.2
  rw [f_X3_forged] at hG
  refine lv_aload_n hx hb dX3_forged_0 rfl (lv_at hl 0 rfl) ?_
  refine lv_iload_n hx hb dX3_forged_1 rfl (lv_at hl 1 rfl) ?_
  refine lv_iload_n hx hb dX3_forged_2 rfl (lv_at hl 2 rfl) ?_
  refine call0i (va_runV (As := [.int p1, .int p2]) (rest := []) S (c_X3_areTwoSigns l ad D s.heap.size σ p1 p2) (cwV 2 S.2.2.2.2 gX3_forged_X3_areTwoSigns rfl rfl rfl ⟨rfl, hd_X3_areTwoSigns⟩ ⟨Nat.le_of_ble_eq_true rfl, Nat.le_of_ble_eq_true rfl⟩) (preV hK hN w (k := 0) (by decide) (eC_0 ad _) (q := (RX3, TX3, 14)) rfl) rfl rfl hl.1 rfl (lv_room (Nat.le_of_ble_eq_true rfl)) dX3_forged_3 ⟨Nat.zero_le _, Nat.zero_le _⟩) ?_
  refine lv_if_ne (tgt := 15) hx hb dX3_forged_6 (by decide) (fun c6 => ?_) (fun c6 => ?_)
  · have t6 := bf_areTwoSigns_n c6
    rw [if_neg c6] at hG
    refine lv_aload_n hx hb dX3_forged_15 rfl (lv_at hl 0 rfl) ?_
    refine lv_iload_n hx hb dX3_forged_16 rfl (lv_at hl 3 rfl) ?_
    refine lv_iload hx hb dX3_forged_17 (lv_at hl 4 rfl) ?_
    refine lv_iload hx hb dX3_forged_19 (lv_at hl 5 rfl) ?_
    refine lv_ldc2 hx hb S.2.2.2.1 (S.2.2.2.2 _ (List.mem_of_getElem? (i := 1) rfl)) dX3_forged_21 ?_
    refine lv_iload hx hb dX3_forged_24 (lv_at hl 6 rfl) ?_
    refine lv_i2l hx hb dX3_forged_26 rfl ?_
    refine lv_lmul hx hb dX3_forged_27 ?_
    have ok3 := okf3
    refine callWi w (va_runV (As := [.int p3, .int p4, .int p5, .long (2 * p6.toInt64)]) (rest := []) S (c_X3_spanRefusal l ad D s.heap.size σ p3 p4 p5 (2 * p6.toInt64)) (cwV 4 S.2.2.2.2 gX3_forged_X3_spanRefusal rfl rfl rfl ⟨rfl, hd_X3_spanRefusal⟩ ⟨Nat.le_of_ble_eq_true rfl, Nat.le_of_ble_eq_true rfl⟩) (preV hK hN w (k := 0) (by decide) (eC_0 ad _) (q := (RX3, TX3, 14)) rfl) rfl rfl hl.1 rfl (lv_room (Nat.le_of_ble_eq_true rfl)) dX3_forged_28 ⟨Nat.zero_le _, Nat.zero_le _⟩) (fun H locs w => ?_)
    have hok : OkC ((f_X3_spanRefusal σ p3 p4 p5 (2 * p6.toInt64)).2) := ok_X3_spanRefusal hok
    have okf0 := hok.1
    have okf1 := hok.2.1
    have okf2 := hok.2.2.1
    have okf3 := hok.2.2.2.1
    have okf4 := hok.2.2.2.2.1
    have okf5 := hok.2.2.2.2.2
    refine lv_istore (lv' := [(7, .int ((f_X3_spanRefusal σ p3 p4 p5 (2 * p6.toInt64)).1)), (0, .ref (ad 0)), (1, .int p1), (2, .int p2), (3, .int p3), (4, .int p4), (5, .int p5), (6, .int p6)]) hx hb dX3_forged_31 hl (by decide) rfl (fun ls hl => ?_)
    refine lv_iload hx hb dX3_forged_33 (lv_at hl 0 rfl) ?_
    refine lv_if_eq (tgt := 41) hx hb dX3_forged_35 (by decide) (fun c35 => ?_) (fun c35 => ?_)
    · have t35 : ((f_X3_spanRefusal σ p3 p4 p5 (2 * p6.toInt64)).1).toInt = 0 := qt_eq c35
      rw [if_pos c35] at hG
      have z := sp_z c35
      have zl := l2_toInt p6
      have zb : p6.toInt < 2147483648 := Int32.toInt_lt p6
      have z3 := ok3 (ix p3) (vpl (vpi (by omega) (by omega)))
      refine lv_iload hx hb dX3_forged_41 (lv_at hl 7 rfl) ?_
      refine lv_bipush (v := 10) hx hb dX3_forged_43 (by decide) ?_
      refine lv_icmp_gt (tgt := 64) hx hb dX3_forged_45 (by decide) (fun c45 => ?_) (fun c45 => ?_)
      · have t45 : 10 < p6.toInt := qt_lt c45
        rw [if_pos c45] at hG
        refine lv_bipush (v := (-2)) hx hb dX3_forged_64 (by decide) ?_
        exact endWi S hr hlocks w hG dX3_forged_66
      · have t45 : p6.toInt ≤ 10 := qt_nlt c45
        rw [if_neg c45] at hG
        refine lv_aload_n hx hb dX3_forged_48 rfl (lv_at hl 1 rfl) ?_
        refine r_get (C := RX3) (T := TX3) (N := 14) S hK w (k := 0) (by decide) (eC_0 ad _) rfl hinX3 0 (by decide) (List.mem_of_getElem? (i := 2) rfl) rfl dX3_forged_49 ?_
        refine lv_iload_n hx hb dX3_forged_52 rfl (lv_at hl 4 rfl) ?_
        have g53 : vp_in p3 4 := vpi (by omega) (by omega)
        refine r_aald S hK w (k := 1) (by decide) (eC_1 ad _) (t0 := 1) rfl g53 dX3_forged_53 ?_
        refine lv_iload hx hb dX3_forged_54 (lv_at hl 6 rfl) ?_
        refine lv_iload hx hb dX3_forged_56 (lv_at hl 7 rfl) ?_
        refine call0i (va_runS (As := [.ref (ad (9 + (ix p3))), .int p5, .int p6]) (rest := []) S (c_X3_areStoppers l ad D H.size ((f_X3_spanRefusal σ p3 p4 p5 (2 * p6.toInt64)).2) (ix p3) p5 p6 (vpl g53) (by omega) (by omega) (by omega)) (va_cwS 3 S.2.2.2.2 gX3_forged_X3_areStoppers rfl rfl rfl hd_X3_areStoppers ⟨Nat.le_of_ble_eq_true rfl, Nat.le_of_ble_eq_true rfl⟩) (preS hK hN w) rfl rfl hl.1 rfl (lv_room (Nat.le_of_ble_eq_true rfl)) dX3_forged_58 ⟨Nat.zero_le _, Nat.zero_le _⟩) ?_
        refine lv_if_ne (tgt := 67) hx hb dX3_forged_61 (by decide) (fun c61 => ?_) (fun c61 => ?_)
        · rw [if_neg c61] at hG
          have zs := as_n (by omega) (by omega) (by omega) c61
          refine lv_bipush (v := (-9)) hx hb dX3_forged_67 (by decide) ?_
          refine lv_istore (lv' := [(8, .int (-9)), (7, .int ((f_X3_spanRefusal σ p3 p4 p5 (2 * p6.toInt64)).1)), (0, .ref (ad 0)), (1, .int p1), (2, .int p2), (3, .int p3), (4, .int p4), (5, .int p5), (6, .int p6)]) hx hb dX3_forged_69 hl (by decide) rfl (fun ls hl => ?_)
          refine lv_iload hx hb dX3_forged_71 (lv_at hl 8 rfl) ?_
          refine lv_iconst (v := 1) hx hb dX3_forged_73 (by decide) ?_
          refine lv_iadd hx hb dX3_forged_74 ?_
          refine lv_istore (lv' := [(9, .int (p6 + 1)), (8, .int (-9)), (7, .int ((f_X3_spanRefusal σ p3 p4 p5 (2 * p6.toInt64)).1)), (0, .ref (ad 0)), (1, .int p1), (2, .int p2), (3, .int p3), (4, .int p4), (5, .int p5), (6, .int p6)]) hx hb dX3_forged_75 hl (by decide) rfl (fun ls hl => ?_)
          refine lv_iconst (v := 0) hx hb dX3_forged_77 (by decide) ?_
          refine lv_istore (lv' := [(10, .int 0), (9, .int (p6 + 1)), (8, .int (-9)), (7, .int ((f_X3_spanRefusal σ p3 p4 p5 (2 * p6.toInt64)).1)), (0, .ref (ad 0)), (1, .int p1), (2, .int p2), (3, .int p3), (4, .int p4), (5, .int p5), (6, .int p6)]) hx hb dX3_forged_78 hl (by decide) rfl (fun ls hl => ?_)
          have L80 : ∀ (n : Nat) (res80 : Int32 × St), ∀ (v8_80 : Int32), ∀ (v9_80 : Int32), ∀ (v10_80 : Int32), ∀ (S_80 : St), ((OkC S_80) ∧ (0 ≤ v10_80.toInt ∧ v10_80.toInt ≤ 1024) ∧ (S_80 (13 + ix p3) = (f_X3_spanRefusal σ p3 p4 p5 (2 * p6.toInt64)).2 (13 + ix p3))) → (1024 - v10_80.toInt).toNat < n → (lp_X3_forged_80 p1 p2 p3 p5 p6 n v8_80 v9_80 v10_80 S_80) = res80 → (∀ (v8_80e : Int32), ∀ (S_80e : St), (OkC S_80e) → res80 = (v8_80e, S_80e) → ∀ (H : Heap) (locs : List Loc), CW 41 (eC ad) ad D (CA 41 ad sz) s.heap S_80e H locs → ∀ ls : Array Slot, lv_has ls 12 [(0, .ref (ad 0)), (8, .int v8_80e)] → W p l e (headSpec wsX3_forged ({ frames := 4, cells := 0, slots := 0, locals := 92 })).room s m ([.ref (ad 0), .int p1, .int p2, .int p3, .int p4, .int p5, .int p6] : List Value).toArray below meth c H locs 0 0 (MQ below (QWi 41 (eC ad) ad D T (CA 41 ad sz)) ([.ref (ad 0), .int p1, .int p2, .int p3, .int p4, .int p5, .int p6] : List Value).toArray s 0 0 (CA 41 ad sz)) (F0 m 136 ls [])) → ∀ (H : Heap) (locs : List Loc), CW 41 (eC ad) ad D (CA 41 ad sz) s.heap S_80 H locs → ∀ ls : Array Slot, lv_has ls 12 [(0, .ref (ad 0)), (1, .int p1), (2, .int p2), (3, .int p3), (5, .int p5), (6, .int p6), (8, .int v8_80), (9, .int v9_80), (10, .int v10_80)] → W p l e (headSpec wsX3_forged ({ frames := 4, cells := 0, slots := 0, locals := 92 })).room s m ([.ref (ad 0), .int p1, .int p2, .int p3, .int p4, .int p5, .int p6] : List Value).toArray below meth c H locs 0 0 (MQ below (QWi 41 (eC ad) ad D T (CA 41 ad sz)) ([.ref (ad 0), .int p1, .int p2, .int p3, .int p4, .int p5, .int p6] : List Value).toArray s 0 0 (CA 41 ad sz)) (F0 m 80 ls []) := by
            intro n
            induction n with
            | zero => intro _ _ _ _ _ _ hm; exact absurd hm (Nat.not_lt_zero _)
            | succ n ih80 =>
              intro res80 v8_80 v9_80 v10_80 S_80 hI80 hm80 hG hex80 H locs w ls hl
              obtain ⟨hok, i80_1, i80_2⟩ := id hI80
              have okf0 := hok.1
              have okf1 := hok.2.1
              have okf2 := hok.2.2.1
              have okf3 := hok.2.2.2.1
              have okf4 := hok.2.2.2.2.1
              have okf5 := hok.2.2.2.2.2
              rw [lp_X3_forged_80] at hG
              have sl := sh_le (p := p6) (by omega) (by omega)
              refine lv_iload hx hb dX3_forged_80 (lv_at hl 8 rfl) ?_
              refine lv_iconst (v := 1) hx hb dX3_forged_82 (by decide) ?_
              refine lv_iload hx hb dX3_forged_83 (lv_at hl 5 rfl) ?_
              refine lv_ishl hx hb dX3_forged_85 ?_
              refine lv_icmp_ge (tgt := 136) hx hb dX3_forged_86 (by decide) (fun c86 => ?_) (fun c86 => ?_)
              · have t86 : ((1 : Int32) <<< (p6 &&& 31)).toInt ≤ v10_80.toInt := qt_le c86
                rw [if_pos c86] at hG
                exact hex80 v8_80 S_80 hok hG.symm _ _ w ls (lv_sub hl [0, 6] rfl)
              · have t86 : v10_80.toInt < ((1 : Int32) <<< (p6 &&& 31)).toInt := qt_nle c86
                rw [if_neg c86] at hG
                have zq := zs v10_80 (by omega) c86
                refine lv_iload hx hb dX3_forged_89 (lv_at hl 8 rfl) ?_
                refine call0i (va_runS (As := [.int v10_80]) (rest := []) S (c_J6_bitCount_0f7a4 l v10_80) (va_cwS 1 S.2.2.2.2 gX3_forged_J6_bitCount_0f7a4 rfl rfl rfl hd_J6_bitCount_0f7a4 ⟨Nat.le_of_ble_eq_true rfl, Nat.le_of_ble_eq_true rfl⟩) pre0S rfl rfl hl.1 rfl (lv_room (Nat.le_of_ble_eq_true rfl)) dX3_forged_91 ⟨Nat.zero_le _, Nat.zero_le _⟩) ?_
                refine lv_istore (lv' := [(11, .int (f_J6_bitCount_0f7a4 v10_80)), (0, .ref (ad 0)), (1, .int p1), (2, .int p2), (3, .int p3), (5, .int p5), (6, .int p6), (8, .int v8_80), (9, .int v9_80), (10, .int v10_80)]) hx hb dX3_forged_94 hl (by decide) rfl (fun ls hl => ?_)
                refine lv_iload hx hb dX3_forged_96 (lv_at hl 0 rfl) ?_
                refine lv_iload hx hb dX3_forged_98 (lv_at hl 8 rfl) ?_
                refine lv_icmp_ge (tgt := 130) hx hb dX3_forged_100 (by decide) (fun c100 => ?_) (fun c100 => ?_)
                · have t100 : v9_80.toInt ≤ (f_J6_bitCount_0f7a4 v10_80).toInt := qt_le c100
                  rw [if_pos c100] at hG
                  refine lv_iinc (v := (v10_80 + 1)) (lv' := [(10, .int (v10_80 + 1)), (11, .int (f_J6_bitCount_0f7a4 v10_80)), (0, .ref (ad 0)), (1, .int p1), (2, .int p2), (3, .int p3), (5, .int p5), (6, .int p6), (8, .int v8_80), (9, .int v9_80)]) hx hb dX3_forged_130 hl (k := 9) rfl rfl (by decide) rfl (fun ls hl => ?_)
                  refine lv_goto (tgt := 80) hx hb dX3_forged_133 (by decide) ?_
                  have b10_80 : (v10_80 + 1).toInt = v10_80.toInt + 1 := inc_toInt (by omega) (by omega)
                  exact ih80 _ v8_80 v9_80 (v10_80 + 1) S_80 ⟨hok, (by omega), (by first | exact i80_2 | (rw [fr_X3_isTakenFor (by omega)]; exact i80_2))⟩ (by omega) hG hex80 _ _ w ls (lv_sub hl [2, 3, 4, 5, 6, 7, 8, 9, 0] rfl)
                · have t100 : (f_J6_bitCount_0f7a4 v10_80).toInt < v9_80.toInt := qt_nle c100
                  rw [if_neg c100] at hG
                  refine lv_aload_n hx hb dX3_forged_103 rfl (lv_at hl 1 rfl) ?_
                  refine lv_iload_n hx hb dX3_forged_104 rfl (lv_at hl 2 rfl) ?_
                  refine lv_iload_n hx hb dX3_forged_105 rfl (lv_at hl 3 rfl) ?_
                  refine lv_aload_n hx hb dX3_forged_106 rfl (lv_at hl 1 rfl) ?_
                  refine r_get (C := RX3) (T := TX3) (N := 14) S hK w (k := 0) (by decide) (eC_0 ad _) rfl hinX3 0 (by decide) (List.mem_of_getElem? (i := 2) rfl) rfl dX3_forged_107 ?_
                  refine lv_iload_n hx hb dX3_forged_110 rfl (lv_at hl 4 rfl) ?_
                  have g111 : vp_in p3 4 := vpi (by omega) (by omega)
                  refine r_aald S hK w (k := 1) (by decide) (eC_1 ad _) (t0 := 1) rfl g111 dX3_forged_111 ?_
                  refine lv_iload hx hb dX3_forged_112 (lv_at hl 5 rfl) ?_
                  refine lv_iload hx hb dX3_forged_114 (lv_at hl 9 rfl) ?_
                  refine callWi w (va_runV (As := [.int p1, .int p2, .ref (ad (9 + (ix p3))), .int p5, .int v10_80]) (rest := []) S (c_X3_isTakenFor l ad D H.size S_80 p1 p2 (ix p3) p5 v10_80 (vpl g111) (by omega) (by omega) (hst_congr i80_2 zq)) (cwV 5 S.2.2.2.2 gX3_forged_X3_isTakenFor rfl rfl rfl ⟨rfl, hd_X3_isTakenFor⟩ ⟨Nat.le_of_ble_eq_true rfl, Nat.le_of_ble_eq_true rfl⟩) (preV hK hN w (k := 0) (by decide) (eC_0 ad _) (q := (RX3, TX3, 14)) rfl) rfl rfl hl.1 rfl (lv_room (Nat.le_of_ble_eq_true rfl)) dX3_forged_116 ⟨Nat.zero_le _, Nat.zero_le _⟩) (fun H locs w => ?_)
                  have hok : OkC ((f_X3_isTakenFor S_80 p1 p2 (ix p3) p5 v10_80).2) := ok_X3_isTakenFor hok
                  have okf0 := hok.1
                  have okf1 := hok.2.1
                  have okf2 := hok.2.2.1
                  have okf3 := hok.2.2.2.1
                  have okf4 := hok.2.2.2.2.1
                  have okf5 := hok.2.2.2.2.2
                  refine lv_if_eq (tgt := 130) hx hb dX3_forged_119 (by decide) (fun c119 => ?_) (fun c119 => ?_)
                  · have t119 : ((f_X3_isTakenFor S_80 p1 p2 (ix p3) p5 v10_80).1).toInt = 0 := qt_eq c119
                    rw [if_pos c119] at hG
                    refine lv_iinc (v := (v10_80 + 1)) (lv' := [(10, .int (v10_80 + 1)), (11, .int (f_J6_bitCount_0f7a4 v10_80)), (0, .ref (ad 0)), (1, .int p1), (2, .int p2), (3, .int p3), (5, .int p5), (6, .int p6), (8, .int v8_80), (9, .int v9_80)]) hx hb dX3_forged_130 hl (k := 9) rfl rfl (by decide) rfl (fun ls hl => ?_)
                    refine lv_goto (tgt := 80) hx hb dX3_forged_133 (by decide) ?_
                    have b10_80 : (v10_80 + 1).toInt = v10_80.toInt + 1 := inc_toInt (by omega) (by omega)
                    exact ih80 _ v8_80 v9_80 (v10_80 + 1) ((f_X3_isTakenFor S_80 p1 p2 (ix p3) p5 v10_80).2) ⟨hok, (by omega), (by first | exact i80_2 | (rw [fr_X3_isTakenFor (by omega)]; exact i80_2))⟩ (by omega) hG hex80 _ _ w ls (lv_sub hl [2, 3, 4, 5, 6, 7, 8, 9, 0] rfl)
                  · have t119 : ((f_X3_isTakenFor S_80 p1 p2 (ix p3) p5 v10_80).1).toInt ≠ 0 := qt_ne c119
                    rw [if_neg c119] at hG
                    refine lv_iload hx hb dX3_forged_122 (lv_at hl 9 rfl) ?_
                    refine lv_istore (lv' := [(8, .int v10_80), (11, .int (f_J6_bitCount_0f7a4 v10_80)), (0, .ref (ad 0)), (1, .int p1), (2, .int p2), (3, .int p3), (5, .int p5), (6, .int p6), (9, .int v9_80), (10, .int v10_80)]) hx hb dX3_forged_124 hl (by decide) rfl (fun ls hl => ?_)
                    refine lv_iload hx hb dX3_forged_126 (lv_at hl 1 rfl) ?_
                    refine lv_istore (lv' := [(9, .int (f_J6_bitCount_0f7a4 v10_80)), (8, .int v10_80), (11, .int (f_J6_bitCount_0f7a4 v10_80)), (0, .ref (ad 0)), (1, .int p1), (2, .int p2), (3, .int p3), (5, .int p5), (6, .int p6), (10, .int v10_80)]) hx hb dX3_forged_128 hl (by decide) rfl (fun ls hl => ?_)
                    refine lv_iinc (v := (v10_80 + 1)) (lv' := [(10, .int (v10_80 + 1)), (9, .int (f_J6_bitCount_0f7a4 v10_80)), (8, .int v10_80), (11, .int (f_J6_bitCount_0f7a4 v10_80)), (0, .ref (ad 0)), (1, .int p1), (2, .int p2), (3, .int p3), (5, .int p5), (6, .int p6)]) hx hb dX3_forged_130 hl (k := 9) rfl rfl (by decide) rfl (fun ls hl => ?_)
                    refine lv_goto (tgt := 80) hx hb dX3_forged_133 (by decide) ?_
                    have b10_80 : (v10_80 + 1).toInt = v10_80.toInt + 1 := inc_toInt (by omega) (by omega)
                    exact ih80 _ v10_80 (f_J6_bitCount_0f7a4 v10_80) (v10_80 + 1) ((f_X3_isTakenFor S_80 p1 p2 (ix p3) p5 v10_80).2) ⟨hok, (by omega), (by first | exact i80_2 | (rw [fr_X3_isTakenFor (by omega)]; exact i80_2))⟩ (by omega) hG hex80 _ _ w ls (lv_sub hl [4, 5, 6, 7, 8, 9, 2, 1, 0] rfl)
          refine L80 1100 _ (-9) (p6 + 1) 0 ((f_X3_spanRefusal σ p3 p4 p5 (2 * p6.toInt64)).2) ⟨hok, (by omega), rfl⟩ (by omega) rfl (fun v8_80e S_80e hok hr80 H locs w ls hl => ?_) _ _ w ls (lv_sub hl [4, 5, 6, 7, 9, 10, 2, 1, 0] rfl)
          rw [hr80] at hG
          dsimp only at hG
          have okf0 := hok.1
          have okf1 := hok.2.1
          have okf2 := hok.2.2.1
          have okf3 := hok.2.2.2.1
          have okf4 := hok.2.2.2.2.1
          have okf5 := hok.2.2.2.2.2
          refine lv_iload hx hb dX3_forged_136 (lv_at hl 1 rfl) ?_
          exact endWi S hr hlocks w hG dX3_forged_138
        · rw [if_pos c61] at hG
          refine lv_bipush (v := (-2)) hx hb dX3_forged_64 (by decide) ?_
          exact endWi S hr hlocks w hG dX3_forged_66
    · have t35 : ((f_X3_spanRefusal σ p3 p4 p5 (2 * p6.toInt64)).1).toInt ≠ 0 := qt_ne c35
      rw [if_neg c35] at hG
      refine lv_iload hx hb dX3_forged_38 (lv_at hl 0 rfl) ?_
      exact endWi S hr hlocks w hG dX3_forged_40
  · rw [if_pos c6] at hG
    refine lv_aload_n hx hb dX3_forged_9 rfl (lv_at hl 0 rfl) ?_
    refine lv_iconst (v := (-1)) hx hb dX3_forged_10 (by decide) ?_
    refine callWi w (va_runV (As := [.int (-1)]) (rest := []) S (c_X3_refused l ad D s.heap.size σ (-1)) (cwV 1 S.2.2.2.2 gX3_forged_X3_refused rfl rfl rfl ⟨rfl, hd_X3_refused⟩ ⟨Nat.le_of_ble_eq_true rfl, Nat.le_of_ble_eq_true rfl⟩) (preV hK hN w (k := 0) (by decide) (eC_0 ad _) (q := (RX3, TX3, 14)) rfl) rfl rfl hl.1 rfl (lv_room (Nat.le_of_ble_eq_true rfl)) dX3_forged_11 ⟨Nat.zero_le _, Nat.zero_le _⟩) (fun H locs w => ?_)
    exact endWi S hr hlocks w hG dX3_forged_14
set_option maxHeartbeats 4000000 in
set_option maxRecDepth 100000 in
theorem c_X3_strengthNear (l : Launch) (ad : Nat → Nat) (D : va_G) (sz : Nat) (σ : St) (p1 : Nat) (p2 : Nat) (p3 : Int32) (p4 : Int32) (hp1 : p1 < 8) (hp2 : p2 < 8) (hsm : 0 ≤ p4.toInt ∧ p4.toInt < 9) : Met l yX3_strengthNear wsX3_strengthNear ({ frames := 0, cells := 0, slots := 0, locals := 0 }) (PreW 41 (eC ad) ad D (tyC ad) σ sz ([.ref (ad (17 + p1)), .ref (ad (17 + p2)), .int p3, .int p4] : List Value)) (Q0i (f_X3_strengthNear σ p1 p2 p3 p4)) 0 0 N0 := by
  generalize hG : f_X3_strengthNear σ p1 p2 p3 p4 = T
  refine headW (cc := cX3_strengthNear) (maxL := 5) (ret := (some .int)) ([.ref (ad (17 + p1)), .ref (ad (17 + p2)), .int p3, .int p4] : List Value) (by decide) rfl (Nat.le_of_ble_eq_true rfl) ?_
  intro p e s m below meth c S hr hlocks hK hN hsz w ls hl
  have S : CallFix p m c cX3_strengthNear 5 s ([.ref (ad (17 + p1)), .ref (ad (17 + p2)), .int p3, .int p4] : List Value).toArray wsX3_strengthNear RX3 := S
  have hx := S.1
  have hb := S.2.1
  have z0 : (0 : Int32).toInt = 0 := by decide
  have z1 : (1 : Int32).toInt = 1 := by decide
  have hl : lv_has ls 5 [(0, .ref (ad (17 + p1))), (1, .ref (ad (17 + p2))), (2, .int p3), (3, .int p4)] := hl
  have hinX2 : ∀ w ∈ wsX20, w ∈ wsX3_strengthNear := (fun _ h => List.mem_cons_of_mem _ (List.mem_append_right _ h))
  rw [f_X3_strengthNear] at hG
  refine lv_aload_n hx hb dX3_strengthNear_0 rfl (lv_at hl 1 rfl) ?_
  refine r_getN (C := RX2) (T := TX2) (N := 3) S hK hN w (k := (17 + p2)) (Nat.lt_of_lt_of_le (Nat.add_lt_add_left hp2 17) (by decide)) (eC_sg ad hp2 _) rfl hinX2 2 (by decide) 5 rfl rfl dX3_strengthNear_1 ?_
  refine lv_iload_n hx hb dX3_strengthNear_4 rfl (lv_at hl 3 rfl) ?_
  have g5 : vp_in p4 9 := vpi (by omega) (by omega)
  refine r_iald (cA := ad 100) (N := 9) S hK w (k := (25 + p2)) (Nat.lt_of_lt_of_le (Nat.add_lt_add_left hp2 25) (by decide)) (fun f => eC_st ad hp2 f) rfl g5 dX3_strengthNear_5 ?_
  refine lv_aload_n hx hb dX3_strengthNear_6 rfl (lv_at hl 0 rfl) ?_
  refine r_getN (C := RX2) (T := TX2) (N := 3) S hK hN w (k := (17 + p1)) (Nat.lt_of_lt_of_le (Nat.add_lt_add_left hp1 17) (by decide)) (eC_sg ad hp1 _) rfl hinX2 2 (by decide) 5 rfl rfl dX3_strengthNear_7 ?_
  refine lv_iload_n hx hb dX3_strengthNear_10 rfl (lv_at hl 3 rfl) ?_
  have g11 : vp_in p4 9 := vpi (by omega) (by omega)
  refine r_iald (cA := ad 100) (N := 9) S hK w (k := (25 + p1)) (Nat.lt_of_lt_of_le (Nat.add_lt_add_left hp1 25) (by decide)) (fun f => eC_st ad hp1 f) rfl g11 dX3_strengthNear_11 ?_
  refine lv_isub hx hb dX3_strengthNear_12 ?_
  refine lv_istore (lv' := [(4, .int ((σ (25 + p2) (ix p4)) - (σ (25 + p1) (ix p4)))), (0, .ref (ad (17 + p1))), (1, .ref (ad (17 + p2))), (2, .int p3), (3, .int p4)]) hx hb dX3_strengthNear_13 hl (by decide) rfl (fun ls hl => ?_)
  refine lv_aload_n hx hb dX3_strengthNear_15 rfl (lv_at hl 1 rfl) ?_
  refine r_getN (C := RX2) (T := TX2) (N := 3) S hK hN w (k := (17 + p1)) (Nat.lt_of_lt_of_le (Nat.add_lt_add_left hp1 17) (by decide)) (eC_sg ad hp1 _) rfl hinX2 2 (by decide) 5 rfl rfl dX3_strengthNear_16 ?_
  refine lv_iload_n hx hb dX3_strengthNear_19 rfl (lv_at hl 4 rfl) ?_
  have g20 : vp_in p4 9 := vpi (by omega) (by omega)
  refine r_iald (cA := ad 100) (N := 9) S hK w (k := (25 + p1)) (Nat.lt_of_lt_of_le (Nat.add_lt_add_left hp1 25) (by decide)) (fun f => eC_st ad hp1 f) rfl g20 dX3_strengthNear_20 ?_
  refine lv_iload hx hb dX3_strengthNear_21 (lv_at hl 0 rfl) ?_
  refine lv_iload_n hx hb dX3_strengthNear_23 rfl (lv_at hl 3 rfl) ?_
  refine lv_imul hx hb dX3_strengthNear_24 ?_
  refine lv_bipush (v := 10) hx hb dX3_strengthNear_25 (by decide) ?_
  refine lv_idiv hx hb dX3_strengthNear_27 (by decide) ?_
  refine lv_iadd hx hb dX3_strengthNear_28 ?_
  exact end0i S hr hlocks hG dX3_strengthNear_29
set_option maxHeartbeats 4000000 in
set_option maxRecDepth 100000 in
theorem c_X3_near (l : Launch) (ad : Nat → Nat) (D : va_G) (sz : Nat) (σ : St) (p1 : Int32) (p2 : Int32) (p3 : Int32) (p4 : Int32) (hok : OkC σ) : Met l yX3_near wsX3_near ({ frames := 1, cells := 0, slots := 0, locals := 24 }) (PreW 41 (eC ad) ad D (tyC ad) σ sz ([.ref (ad 0), .int p1, .int p2, .int p3, .int p4] : List Value)) (Q0i (f_X3_near σ p1 p2 p3 p4)) 0 0 N0 := by
  generalize hG : f_X3_near σ p1 p2 p3 p4 = T
  refine headW (cc := cX3_near) (maxL := 5) (ret := (some .int)) ([.ref (ad 0), .int p1, .int p2, .int p3, .int p4] : List Value) (by decide) rfl (Nat.le_of_ble_eq_true rfl) ?_
  intro p e s m below meth c S hr hlocks hK hN hsz w ls hl
  have S : CallFix p m c cX3_near 5 s ([.ref (ad 0), .int p1, .int p2, .int p3, .int p4] : List Value).toArray wsX3_near RX3 := S
  have hx := S.1
  have hb := S.2.1
  have z0 : (0 : Int32).toInt = 0 := by decide
  have z1 : (1 : Int32).toInt = 1 := by decide
  have hl : lv_has ls 5 [(0, .ref (ad 0)), (1, .int p1), (2, .int p2), (3, .int p3), (4, .int p4)] := hl
  have hinX3 : ∀ w ∈ wsX30, w ∈ wsX3_near := (fun _ h => List.mem_cons_of_mem _ (List.mem_append_left _ (List.mem_append_right _ h)))
  have hinX2 : ∀ w ∈ wsX20, w ∈ wsX3_near := (fun _ h => List.mem_cons_of_mem _ (List.mem_append_right _ h))
  have okf0 := hok.1
  have okf1 := hok.2.1
  have okf2 := hok.2.2.1
  have okf3 := hok.2.2.2.1
  have okf4 := hok.2.2.2.2.1
  have okf5 := hok.2.2.2.2.2
  rw [f_X3_near] at hG
  refine lv_aload_n hx hb dX3_near_0 rfl (lv_at hl 0 rfl) ?_
  refine lv_iload_n hx hb dX3_near_1 rfl (lv_at hl 1 rfl) ?_
  refine call0i (va_runV (As := [.int p1]) (rest := []) S (c_X3_isSign l ad D s.heap.size σ p1) (cwV 1 S.2.2.2.2 gX3_near_X3_isSign rfl rfl rfl ⟨rfl, hd_X3_isSign⟩ ⟨Nat.le_of_ble_eq_true rfl, Nat.le_of_ble_eq_true rfl⟩) (preV hK hN w (k := 0) (by decide) (eC_0 ad _) (q := (RX3, TX3, 14)) rfl) rfl rfl hl.1 rfl (lv_room (Nat.le_of_ble_eq_true rfl)) dX3_near_2 ⟨Nat.zero_le _, Nat.zero_le _⟩) ?_
  refine lv_if_eq (tgt := 24) hx hb dX3_near_5 (by decide) (fun c5 => ?_) (fun c5 => ?_)
  · rw [if_pos c5] at hG
    refine lv_iconst (v := (-1)) hx hb dX3_near_24 (by decide) ?_
    exact end0i S hr hlocks hG dX3_near_25
  · have t5 := bf_isSign_n c5
    rw [if_neg c5] at hG
    refine lv_aload_n hx hb dX3_near_8 rfl (lv_at hl 0 rfl) ?_
    refine lv_iload_n hx hb dX3_near_9 rfl (lv_at hl 2 rfl) ?_
    refine call0i (va_runV (As := [.int p2]) (rest := []) S (c_X3_isSign l ad D s.heap.size σ p2) (cwV 1 S.2.2.2.2 gX3_near_X3_isSign rfl rfl rfl ⟨rfl, hd_X3_isSign⟩ ⟨Nat.le_of_ble_eq_true rfl, Nat.le_of_ble_eq_true rfl⟩) (preV hK hN w (k := 0) (by decide) (eC_0 ad _) (q := (RX3, TX3, 14)) rfl) rfl rfl hl.1 rfl (lv_room (Nat.le_of_ble_eq_true rfl)) dX3_near_10 ⟨Nat.zero_le _, Nat.zero_le _⟩) ?_
    refine lv_if_eq (tgt := 24) hx hb dX3_near_13 (by decide) (fun c13 => ?_) (fun c13 => ?_)
    · rw [if_pos c13] at hG
      refine lv_iconst (v := (-1)) hx hb dX3_near_24 (by decide) ?_
      exact end0i S hr hlocks hG dX3_near_25
    · have t13 := bf_isSign_n c13
      rw [if_neg c13] at hG
      refine lv_iload hx hb dX3_near_16 (lv_at hl 4 rfl) ?_
      refine call0i (va_runS (As := [.int p4]) (rest := []) S (c_X3_isSmell l p4) (va_cwS 1 S.2.2.2.2 gX3_near_X3_isSmell rfl rfl rfl hd_X3_isSmell ⟨Nat.le_of_ble_eq_true rfl, Nat.le_of_ble_eq_true rfl⟩) pre0S rfl rfl hl.1 rfl (lv_room (Nat.le_of_ble_eq_true rfl)) dX3_near_18 ⟨Nat.zero_le _, Nat.zero_le _⟩) ?_
      refine lv_if_ne (tgt := 26) hx hb dX3_near_21 (by decide) (fun c21 => ?_) (fun c21 => ?_)
      · have t21 := bf_isSmell_n c21
        rw [if_neg c21] at hG
        refine lv_iload_n hx hb dX3_near_26 rfl (lv_at hl 3 rfl) ?_
        refine lv_if_lt (tgt := 36) hx hb dX3_near_27 (by decide) (fun c27 => ?_) (fun c27 => ?_)
        · have t27 : p3.toInt < 0 := qt_lt c27
          rw [if_pos c27] at hG
          refine lv_bipush (v := (-2)) hx hb dX3_near_36 (by decide) ?_
          exact end0i S hr hlocks hG dX3_near_38
        · have t27 : 0 ≤ p3.toInt := qt_nlt c27
          rw [if_neg c27] at hG
          refine lv_iload_n hx hb dX3_near_30 rfl (lv_at hl 3 rfl) ?_
          refine lv_bipush (v := 10) hx hb dX3_near_31 (by decide) ?_
          refine lv_icmp_le (tgt := 39) hx hb dX3_near_33 (by decide) (fun c33 => ?_) (fun c33 => ?_)
          · have t33 : p3.toInt ≤ 10 := qt_le c33
            rw [if_pos c33] at hG
            refine lv_aload_n hx hb dX3_near_39 rfl (lv_at hl 0 rfl) ?_
            refine r_get (C := RX3) (T := TX3) (N := 14) S hK w (k := 0) (by decide) (eC_0 ad _) rfl hinX3 1 (by decide) (List.mem_of_getElem? (i := 1) rfl) rfl dX3_near_40 ?_
            refine lv_iload_n hx hb dX3_near_43 rfl (lv_at hl 1 rfl) ?_
            have g44 : vp_in p1 8 := vpi (by omega) (by omega)
            refine r_aald S hK w (k := 2) (by decide) (eC_2 ad _) (t0 := 2) rfl g44 dX3_near_44 ?_
            refine lv_aload_n hx hb dX3_near_45 rfl (lv_at hl 0 rfl) ?_
            refine r_get (C := RX3) (T := TX3) (N := 14) S hK w (k := 0) (by decide) (eC_0 ad _) rfl hinX3 1 (by decide) (List.mem_of_getElem? (i := 1) rfl) rfl dX3_near_46 ?_
            refine lv_iload_n hx hb dX3_near_49 rfl (lv_at hl 2 rfl) ?_
            have g50 : vp_in p2 8 := vpi (by omega) (by omega)
            refine r_aald S hK w (k := 2) (by decide) (eC_2 ad _) (t0 := 2) rfl g50 dX3_near_50 ?_
            refine lv_iload_n hx hb dX3_near_51 rfl (lv_at hl 3 rfl) ?_
            refine lv_iload hx hb dX3_near_52 (lv_at hl 4 rfl) ?_
            refine call0i (va_runS (As := [.ref (ad (17 + (ix p1))), .ref (ad (17 + (ix p2))), .int p3, .int p4]) (rest := []) S (c_X3_strengthNear l ad D s.heap.size σ (ix p1) (ix p2) p3 p4 (vpl g44) (vpl g50) (by omega)) (va_cwS 4 S.2.2.2.2 gX3_near_X3_strengthNear rfl rfl rfl hd_X3_strengthNear ⟨Nat.le_of_ble_eq_true rfl, Nat.le_of_ble_eq_true rfl⟩) (preS hK hN w) rfl rfl hl.1 rfl (lv_room (Nat.le_of_ble_eq_true rfl)) dX3_near_54 ⟨Nat.zero_le _, Nat.zero_le _⟩) ?_
            exact end0i S hr hlocks hG dX3_near_57
          · have t33 : 10 < p3.toInt := qt_nle c33
            rw [if_neg c33] at hG
            refine lv_bipush (v := (-2)) hx hb dX3_near_36 (by decide) ?_
            exact end0i S hr hlocks hG dX3_near_38
      · rw [if_pos c21] at hG
        refine lv_iconst (v := (-1)) hx hb dX3_near_24 (by decide) ?_
        exact end0i S hr hlocks hG dX3_near_25
set_option maxHeartbeats 4000000 in
set_option maxRecDepth 100000 in
theorem c_X3_steals (l : Launch) (ad : Nat → Nat) (D : va_G) (sz : Nat) (σ : St) (p1 : Int32) (p2 : Int32) (hok : OkC σ) : Met l yX3_steals wsX3_steals ({ frames := 3, cells := 0, slots := 0, locals := 66 }) (PreW 41 (eC ad) ad D (tyC ad) σ sz ([.ref (ad 0), .int p1, .int p2] : List Value)) (QWi 41 (eC ad) ad D (f_X3_steals σ p1 p2) (CA 41 ad sz)) 0 0 (CA 41 ad sz) := by
  generalize hG : f_X3_steals σ p1 p2 = T
  refine headW (cc := cX3_steals) (maxL := 5) (ret := (some .int)) ([.ref (ad 0), .int p1, .int p2] : List Value) (by decide) rfl (Nat.le_of_ble_eq_true rfl) ?_
  intro p e s m below meth c S hr hlocks hK hN hsz w ls hl
  have S : CallFix p m c cX3_steals 5 s ([.ref (ad 0), .int p1, .int p2] : List Value).toArray wsX3_steals RX3 := S
  have hx := S.1
  have hb := S.2.1
  have z0 : (0 : Int32).toInt = 0 := by decide
  have z1 : (1 : Int32).toInt = 1 := by decide
  have hl : lv_has ls 5 [(0, .ref (ad 0)), (1, .int p1), (2, .int p2)] := hl
  have hinX3 : ∀ w ∈ wsX30, w ∈ wsX3_steals := (fun _ h => List.mem_cons_of_mem _ (List.mem_append_left _ (List.mem_append_right _ h)))
  have hinX2 : ∀ w ∈ wsX20, w ∈ wsX3_steals := (fun _ h => List.mem_cons_of_mem _ (List.mem_append_right _ h))
  have okf0 := hok.1
  have okf1 := hok.2.1
  have okf2 := hok.2.2.1
  have okf3 := hok.2.2.2.1
  have okf4 := hok.2.2.2.2.1
  have okf5 := hok.2.2.2.2.2
  rw [f_X3_steals] at hG
  refine lv_aload_n hx hb dX3_steals_0 rfl (lv_at hl 0 rfl) ?_
  refine lv_iload_n hx hb dX3_steals_1 rfl (lv_at hl 1 rfl) ?_
  refine lv_iload_n hx hb dX3_steals_2 rfl (lv_at hl 2 rfl) ?_
  refine call0i (va_runV (As := [.int p1, .int p2]) (rest := []) S (c_X3_areTwoSigns l ad D s.heap.size σ p1 p2) (cwV 2 S.2.2.2.2 gX3_steals_X3_areTwoSigns rfl rfl rfl ⟨rfl, hd_X3_areTwoSigns⟩ ⟨Nat.le_of_ble_eq_true rfl, Nat.le_of_ble_eq_true rfl⟩) (preV hK hN w (k := 0) (by decide) (eC_0 ad _) (q := (RX3, TX3, 14)) rfl) rfl rfl hl.1 rfl (lv_room (Nat.le_of_ble_eq_true rfl)) dX3_steals_3 ⟨Nat.zero_le _, Nat.zero_le _⟩) ?_
  refine lv_if_ne (tgt := 11) hx hb dX3_steals_6 (by decide) (fun c6 => ?_) (fun c6 => ?_)
  · have t6 := bf_areTwoSigns_n c6
    rw [if_neg c6] at hG
    refine lv_iconst (v := 0) hx hb dX3_steals_11 (by decide) ?_
    refine lv_istore_n (lv' := [(3, .int 0), (0, .ref (ad 0)), (1, .int p1), (2, .int p2)]) hx hb dX3_steals_12 rfl hl (by decide) rfl (fun ls hl => ?_)
    have L13 : ∀ (n : Nat) (res13 : (Int32 × St) ⊕ (St)), ∀ (v3_13 : Int32), ∀ (S_13 : St), ((OkC S_13) ∧ (0 ≤ v3_13.toInt ∧ v3_13.toInt ≤ 11)) → (11 - v3_13.toInt).toNat < n → (lp_X3_steals_13 p1 p2 n v3_13 S_13) = res13 → (∀ r : Int32 × St, res13 = Sum.inl r → r = T) → (∀ (S_13e : St), (OkC S_13e) → res13 = Sum.inr S_13e → ∀ (H : Heap) (locs : List Loc), CW 41 (eC ad) ad D (CA 41 ad sz) s.heap S_13e H locs → ∀ ls : Array Slot, lv_has ls 5 [(0, .ref (ad 0))] → W p l e (headSpec wsX3_steals ({ frames := 3, cells := 0, slots := 0, locals := 66 })).room s m ([.ref (ad 0), .int p1, .int p2] : List Value).toArray below meth c H locs 0 0 (MQ below (QWi 41 (eC ad) ad D T (CA 41 ad sz)) ([.ref (ad 0), .int p1, .int p2] : List Value).toArray s 0 0 (CA 41 ad sz)) (F0 m 88 ls [])) → ∀ (H : Heap) (locs : List Loc), CW 41 (eC ad) ad D (CA 41 ad sz) s.heap S_13 H locs → ∀ ls : Array Slot, lv_has ls 5 [(0, .ref (ad 0)), (1, .int p1), (2, .int p2), (3, .int v3_13)] → W p l e (headSpec wsX3_steals ({ frames := 3, cells := 0, slots := 0, locals := 66 })).room s m ([.ref (ad 0), .int p1, .int p2] : List Value).toArray below meth c H locs 0 0 (MQ below (QWi 41 (eC ad) ad D T (CA 41 ad sz)) ([.ref (ad 0), .int p1, .int p2] : List Value).toArray s 0 0 (CA 41 ad sz)) (F0 m 13 ls []) := by
      intro n
      induction n with
      | zero => intro _ _ _ _ hm; exact absurd hm (Nat.not_lt_zero _)
      | succ n ih13 =>
        intro res13 v3_13 S_13 hI13 hm13 hG hret13 hex13 H locs w ls hl
        obtain ⟨hok, i13_1⟩ := id hI13
        have okf0 := hok.1
        have okf1 := hok.2.1
        have okf2 := hok.2.2.1
        have okf3 := hok.2.2.2.1
        have okf4 := hok.2.2.2.2.1
        have okf5 := hok.2.2.2.2.2
        rw [lp_X3_steals_13] at hG
        refine lv_iload_n hx hb dX3_steals_13 rfl (lv_at hl 3 rfl) ?_
        refine lv_bipush (v := 10) hx hb dX3_steals_14 (by decide) ?_
        refine lv_icmp_gt (tgt := 88) hx hb dX3_steals_16 (by decide) (fun c16 => ?_) (fun c16 => ?_)
        · have t16 : 10 < v3_13.toInt := qt_lt c16
          rw [if_pos c16] at hG
          exact hex13 S_13 hok hG.symm _ _ w ls (lv_sub hl [0] rfl)
        · have t16 : v3_13.toInt ≤ 10 := qt_nlt c16
          rw [if_neg c16] at hG
          refine lv_iconst (v := 0) hx hb dX3_steals_19 (by decide) ?_
          refine lv_istore (lv' := [(4, .int 0), (0, .ref (ad 0)), (1, .int p1), (2, .int p2), (3, .int v3_13)]) hx hb dX3_steals_20 hl (by decide) rfl (fun ls hl => ?_)
          have L22 : ∀ (n : Nat) (res22 : St), ∀ (v4_22 : Int32), ∀ (S_22 : St), ((OkC S_22) ∧ (0 ≤ v4_22.toInt ∧ v4_22.toInt ≤ 9)) → (9 - v4_22.toInt).toNat < n → (lp_X3_steals_22 p1 p2 v3_13 n v4_22 S_22) = res22 → (∀ (S_22e : St), (OkC S_22e) → res22 = S_22e → ∀ (H : Heap) (locs : List Loc), CW 41 (eC ad) ad D (CA 41 ad sz) s.heap S_22e H locs → ∀ ls : Array Slot, lv_has ls 5 [(0, .ref (ad 0)), (1, .int p1), (2, .int p2), (3, .int v3_13)] → W p l e (headSpec wsX3_steals ({ frames := 3, cells := 0, slots := 0, locals := 66 })).room s m ([.ref (ad 0), .int p1, .int p2] : List Value).toArray below meth c H locs 0 0 (MQ below (QWi 41 (eC ad) ad D T (CA 41 ad sz)) ([.ref (ad 0), .int p1, .int p2] : List Value).toArray s 0 0 (CA 41 ad sz)) (F0 m 60 ls [])) → ∀ (H : Heap) (locs : List Loc), CW 41 (eC ad) ad D (CA 41 ad sz) s.heap S_22 H locs → ∀ ls : Array Slot, lv_has ls 5 [(0, .ref (ad 0)), (1, .int p1), (2, .int p2), (3, .int v3_13), (4, .int v4_22)] → W p l e (headSpec wsX3_steals ({ frames := 3, cells := 0, slots := 0, locals := 66 })).room s m ([.ref (ad 0), .int p1, .int p2] : List Value).toArray below meth c H locs 0 0 (MQ below (QWi 41 (eC ad) ad D T (CA 41 ad sz)) ([.ref (ad 0), .int p1, .int p2] : List Value).toArray s 0 0 (CA 41 ad sz)) (F0 m 22 ls []) := by
            intro n
            induction n with
            | zero => intro _ _ _ _ hm; exact absurd hm (Nat.not_lt_zero _)
            | succ n ih22 =>
              intro res22 v4_22 S_22 hI22 hm22 hG hex22 H locs w ls hl
              obtain ⟨hok, i22_1⟩ := id hI22
              have okf0 := hok.1
              have okf1 := hok.2.1
              have okf2 := hok.2.2.1
              have okf3 := hok.2.2.2.1
              have okf4 := hok.2.2.2.2.1
              have okf5 := hok.2.2.2.2.2
              rw [lp_X3_steals_22] at hG
              refine lv_iload hx hb dX3_steals_22 (lv_at hl 4 rfl) ?_
              refine lv_bipush (v := 9) hx hb dX3_steals_24 (by decide) ?_
              refine lv_icmp_ge (tgt := 60) hx hb dX3_steals_26 (by decide) (fun c26 => ?_) (fun c26 => ?_)
              · have t26 : 9 ≤ v4_22.toInt := qt_le c26
                rw [if_pos c26] at hG
                exact hex22 S_22 hok hG.symm _ _ w ls (lv_sub hl [0, 1, 2, 3] rfl)
              · have t26 : v4_22.toInt < 9 := qt_nle c26
                rw [if_neg c26] at hG
                refine lv_aload_n hx hb dX3_steals_29 rfl (lv_at hl 0 rfl) ?_
                refine r_get (C := RX3) (T := TX3) (N := 14) S hK w (k := 0) (by decide) (eC_0 ad _) rfl hinX3 11 (by decide) (List.mem_of_getElem? (i := 1) rfl) rfl dX3_steals_30 ?_
                refine lv_iload hx hb dX3_steals_33 (lv_at hl 4 rfl) ?_
                refine lv_aload_n hx hb dX3_steals_35 rfl (lv_at hl 0 rfl) ?_
                refine r_get (C := RX3) (T := TX3) (N := 14) S hK w (k := 0) (by decide) (eC_0 ad _) rfl hinX3 1 (by decide) (List.mem_of_getElem? (i := 2) rfl) rfl dX3_steals_36 ?_
                refine lv_iload_n hx hb dX3_steals_39 rfl (lv_at hl 1 rfl) ?_
                have g40 : vp_in p1 8 := vpi (by omega) (by omega)
                refine r_aald S hK w (k := 2) (by decide) (eC_2 ad _) (t0 := 2) rfl g40 dX3_steals_40 ?_
                refine lv_aload_n hx hb dX3_steals_41 rfl (lv_at hl 0 rfl) ?_
                refine r_get (C := RX3) (T := TX3) (N := 14) S hK w (k := 0) (by decide) (eC_0 ad _) rfl hinX3 1 (by decide) (List.mem_of_getElem? (i := 2) rfl) rfl dX3_steals_42 ?_
                refine lv_iload_n hx hb dX3_steals_45 rfl (lv_at hl 2 rfl) ?_
                have g46 : vp_in p2 8 := vpi (by omega) (by omega)
                refine r_aald S hK w (k := 2) (by decide) (eC_2 ad _) (t0 := 2) rfl g46 dX3_steals_46 ?_
                refine lv_iload_n hx hb dX3_steals_47 rfl (lv_at hl 3 rfl) ?_
                refine lv_iload hx hb dX3_steals_48 (lv_at hl 4 rfl) ?_
                refine call0i (va_runS (As := [.ref (ad (17 + (ix p1))), .ref (ad (17 + (ix p2))), .int v3_13, .int v4_22]) (rest := [.int v4_22, .ref (ad 6)]) S (c_X3_strengthNear l ad D H.size S_22 (ix p1) (ix p2) v3_13 v4_22 (vpl g40) (vpl g46) (by omega)) (va_cwS 4 S.2.2.2.2 gX3_steals_X3_strengthNear rfl rfl rfl hd_X3_strengthNear ⟨Nat.le_of_ble_eq_true rfl, Nat.le_of_ble_eq_true rfl⟩) (preS hK hN w) rfl rfl hl.1 rfl (lv_room (Nat.le_of_ble_eq_true rfl)) dX3_steals_50 ⟨Nat.zero_le _, Nat.zero_le _⟩) ?_
                have g53 : vp_in v4_22 9 := vpi (by omega) (by omega)
                refine r_iast (cA := ad 100) (N := 9) S hK w (k := 6) (by decide) (fun f => eC_6 ad f) rfl g53 dX3_steals_53 (fun H locs w => ?_)
                have hok : OkC (u2 S_22 6 (ix v4_22) (f_X3_strengthNear S_22 (ix p1) (ix p2) v3_13 v4_22)) := okC_scr (show scrC 6 by unfold scrC; omega) hok
                have okf0 := hok.1
                have okf1 := hok.2.1
                have okf2 := hok.2.2.1
                have okf3 := hok.2.2.2.1
                have okf4 := hok.2.2.2.2.1
                have okf5 := hok.2.2.2.2.2
                refine lv_iinc (v := (v4_22 + 1)) (lv' := [(4, .int (v4_22 + 1)), (0, .ref (ad 0)), (1, .int p1), (2, .int p2), (3, .int v3_13)]) hx hb dX3_steals_54 hl (k := 4) rfl rfl (by decide) rfl (fun ls hl => ?_)
                refine lv_goto (tgt := 22) hx hb dX3_steals_57 (by decide) ?_
                have b4_22 : (v4_22 + 1).toInt = v4_22.toInt + 1 := inc_toInt (by omega) (by omega)
                exact ih22 _ (v4_22 + 1) (u2 S_22 6 (ix v4_22) (f_X3_strengthNear S_22 (ix p1) (ix p2) v3_13 v4_22)) ⟨hok, (by omega)⟩ (by omega) hG hex22 _ _ w ls (lv_sub hl [1, 2, 3, 4, 0] rfl)
          refine L22 200 _ 0 S_13 ⟨hok, (by omega)⟩ (by omega) rfl (fun S_22e hok hr22 H locs w ls hl => ?_) _ _ w ls (lv_sub hl [1, 2, 3, 4, 0] rfl)
          rw [hr22] at hG
          have okf0 := hok.1
          have okf1 := hok.2.1
          have okf2 := hok.2.2.1
          have okf3 := hok.2.2.2.1
          have okf4 := hok.2.2.2.2.1
          have okf5 := hok.2.2.2.2.2
          refine lv_aload_n hx hb dX3_steals_60 rfl (lv_at hl 0 rfl) ?_
          refine lv_aload_n hx hb dX3_steals_61 rfl (lv_at hl 0 rfl) ?_
          refine r_get (C := RX3) (T := TX3) (N := 14) S hK w (k := 0) (by decide) (eC_0 ad _) rfl hinX3 11 (by decide) (List.mem_of_getElem? (i := 1) rfl) rfl dX3_steals_62 ?_
          refine lv_aload_n hx hb dX3_steals_65 rfl (lv_at hl 0 rfl) ?_
          refine r_get (C := RX3) (T := TX3) (N := 14) S hK w (k := 0) (by decide) (eC_0 ad _) rfl hinX3 1 (by decide) (List.mem_of_getElem? (i := 2) rfl) rfl dX3_steals_66 ?_
          refine lv_iload_n hx hb dX3_steals_69 rfl (lv_at hl 2 rfl) ?_
          have g70 : vp_in p2 8 := vpi (by omega) (by omega)
          refine r_aald S hK w (k := 2) (by decide) (eC_2 ad _) (t0 := 2) rfl g70 dX3_steals_70 ?_
          refine r_getN (C := RX2) (T := TX2) (N := 3) S hK hN w (k := (17 + (ix p2))) (Nat.lt_of_lt_of_le (Nat.add_lt_add_left (vpl g70) 17) (by decide)) (eC_sg ad (vpl g70) _) rfl hinX2 2 (by decide) 5 rfl rfl dX3_steals_71 ?_
          refine call0i (va_runV (As := [.ref (ad 6), .ref (ad (25 + (ix p2)))]) (rest := []) S (c_X3_areAlike l ad D H.size S_22e 6 (25 + (ix p2)) (Or.inl rfl) (Or.inr ⟨_, (vpl g70), rfl⟩)) (cwV 2 S.2.2.2.2 gX3_steals_X3_areAlike rfl rfl rfl ⟨rfl, hd_X3_areAlike⟩ ⟨Nat.le_of_ble_eq_true rfl, Nat.le_of_ble_eq_true rfl⟩) (preV hK hN w (k := 0) (by decide) (eC_0 ad _) (q := (RX3, TX3, 14)) rfl) rfl rfl hl.1 rfl (lv_room (Nat.le_of_ble_eq_true rfl)) dX3_steals_74 ⟨Nat.zero_le _, Nat.zero_le _⟩) ?_
          refine lv_if_eq (tgt := 82) hx hb dX3_steals_77 (by decide) (fun c77 => ?_) (fun c77 => ?_)
          · rw [if_pos c77] at hG
            refine lv_iinc (v := (v3_13 + 1)) (lv' := [(3, .int (v3_13 + 1)), (0, .ref (ad 0)), (1, .int p1), (2, .int p2)]) hx hb dX3_steals_82 hl (k := 3) rfl rfl (by decide) rfl (fun ls hl => ?_)
            refine lv_goto (tgt := 13) hx hb dX3_steals_85 (by decide) ?_
            have b3_13 : (v3_13 + 1).toInt = v3_13.toInt + 1 := inc_toInt (by omega) (by omega)
            exact ih13 _ (v3_13 + 1) S_22e ⟨hok, (by omega)⟩ (by omega) hG hret13 hex13 _ _ w ls (lv_sub hl [1, 2, 3, 0] rfl)
          · rw [if_neg c77] at hG
            refine lv_iload_n hx hb dX3_steals_80 rfl (lv_at hl 3 rfl) ?_
            exact endWi S hr hlocks w (hret13 _ hG.symm) dX3_steals_81
    refine L13 200 _ 0 σ ⟨hok, (by omega)⟩ (by omega) rfl (fun r hr13 => by rw [hr13] at hG; exact hG) (fun S_13e hok hr13 H locs w ls hl => ?_) _ _ w ls (lv_sub hl [1, 2, 3, 0] rfl)
    rw [hr13] at hG
    dsimp only at hG
    have okf0 := hok.1
    have okf1 := hok.2.1
    have okf2 := hok.2.2.1
    have okf3 := hok.2.2.2.1
    have okf4 := hok.2.2.2.2.1
    have okf5 := hok.2.2.2.2.2
    refine lv_bipush (v := (-9)) hx hb dX3_steals_88 (by decide) ?_
    exact endWi S hr hlocks w hG dX3_steals_90
  · rw [if_pos c6] at hG
    refine lv_iconst (v := (-1)) hx hb dX3_steals_9 (by decide) ?_
    exact endWi S hr hlocks w hG dX3_steals_10
set_option maxHeartbeats 4000000 in
set_option maxRecDepth 100000 in
theorem c_X3_leastApart (l : Launch) (ad : Nat → Nat) (D : va_G) (sz : Nat) (σ : St) (p1 : Int32) (p2 : Int32) (p3 : Int32) (p4 : Int32) (hok : OkC σ) (hx1 : 0 ≤ p1.toInt ∧ p1.toInt < 9) (hx2 : 0 ≤ p2.toInt ∧ p2.toInt < 9) : Met l yX3_leastApart wsX3_leastApart ({ frames := 1, cells := 0, slots := 0, locals := 21 }) (PreW 41 (eC ad) ad D (tyC ad) σ sz ([.ref (ad 0), .int p1, .int p2, .int p3, .int p4] : List Value)) (Q0i (f_X3_leastApart σ p1 p2 p3 p4)) 0 0 N0 := by
  generalize hG : f_X3_leastApart σ p1 p2 p3 p4 = T
  refine headW (cc := cX3_leastApart) (maxL := 9) (ret := (some .int)) ([.ref (ad 0), .int p1, .int p2, .int p3, .int p4] : List Value) (by decide) rfl (Nat.le_of_ble_eq_true rfl) ?_
  intro p e s m below meth c S hr hlocks hK hN hsz w ls hl
  have S : CallFix p m c cX3_leastApart 9 s ([.ref (ad 0), .int p1, .int p2, .int p3, .int p4] : List Value).toArray wsX3_leastApart RX3 := S
  have hx := S.1
  have hb := S.2.1
  have z0 : (0 : Int32).toInt = 0 := by decide
  have z1 : (1 : Int32).toInt = 1 := by decide
  have hl : lv_has ls 9 [(0, .ref (ad 0)), (1, .int p1), (2, .int p2), (3, .int p3), (4, .int p4)] := hl
  have hinX3 : ∀ w ∈ wsX30, w ∈ wsX3_leastApart := (fun _ h => List.mem_cons_of_mem _ (List.mem_append_left _ (List.mem_append_right _ h)))
  have hinX2 : ∀ w ∈ wsX20, w ∈ wsX3_leastApart := (fun _ h => List.mem_cons_of_mem _ (List.mem_append_right _ h))
  have okf0 := hok.1
  have okf1 := hok.2.1
  have okf2 := hok.2.2.1
  have okf3 := hok.2.2.2.1
  have okf4 := hok.2.2.2.2.1
  have okf5 := hok.2.2.2.2.2
  rw [f_X3_leastApart] at hG
  refine lv_ldc hx hb S.2.2.2.1 (S.2.2.2.2 _ (List.mem_of_getElem? (i := 1) rfl)) dX3_leastApart_0 ?_
  refine lv_istore (lv' := [(5, .int 2147483647), (0, .ref (ad 0)), (1, .int p1), (2, .int p2), (3, .int p3), (4, .int p4)]) hx hb dX3_leastApart_2 hl (by decide) rfl (fun ls hl => ?_)
  refine lv_iconst (v := 0) hx hb dX3_leastApart_4 (by decide) ?_
  refine lv_istore (lv' := [(6, .int 0), (5, .int 2147483647), (0, .ref (ad 0)), (1, .int p1), (2, .int p2), (3, .int p3), (4, .int p4)]) hx hb dX3_leastApart_5 hl (by decide) rfl (fun ls hl => ?_)
  have L7 : ∀ (n : Nat) (res7 : Int32), ∀ (v5_7 : Int32), ∀ (v6_7 : Int32), ((0 ≤ v6_7.toInt ∧ v6_7.toInt ≤ 8)) → (8 - v6_7.toInt).toNat < n → (lp_X3_leastApart_7 σ p1 p2 p3 p4 n v5_7 v6_7) = res7 → (∀ (v5_7e : Int32), res7 = v5_7e → ∀ ls : Array Slot, lv_has ls 9 [(0, .ref (ad 0)), (5, .int v5_7e)] → W p l e (headSpec wsX3_leastApart ({ frames := 1, cells := 0, slots := 0, locals := 21 })).room s m ([.ref (ad 0), .int p1, .int p2, .int p3, .int p4] : List Value).toArray below meth c s.heap [] 0 0 (MQ below (Q0i T) ([.ref (ad 0), .int p1, .int p2, .int p3, .int p4] : List Value).toArray s 0 0 N0) (F0 m 86 ls [])) → ∀ ls : Array Slot, lv_has ls 9 [(0, .ref (ad 0)), (1, .int p1), (2, .int p2), (3, .int p3), (4, .int p4), (5, .int v5_7), (6, .int v6_7)] → W p l e (headSpec wsX3_leastApart ({ frames := 1, cells := 0, slots := 0, locals := 21 })).room s m ([.ref (ad 0), .int p1, .int p2, .int p3, .int p4] : List Value).toArray below meth c s.heap [] 0 0 (MQ below (Q0i T) ([.ref (ad 0), .int p1, .int p2, .int p3, .int p4] : List Value).toArray s 0 0 N0) (F0 m 7 ls []) := by
    intro n
    induction n with
    | zero => intro _ _ _ _ hm; exact absurd hm (Nat.not_lt_zero _)
    | succ n ih7 =>
      intro res7 v5_7 v6_7 hI7 hm7 hG hex7 ls hl
      have i7_0 := hI7
      rw [lp_X3_leastApart_7] at hG
      refine lv_iload hx hb dX3_leastApart_7 (lv_at hl 6 rfl) ?_
      refine lv_aload_n hx hb dX3_leastApart_9 rfl (lv_at hl 0 rfl) ?_
      refine r_get (C := RX3) (T := TX3) (N := 14) S hK w (k := 0) (by decide) (eC_0 ad _) rfl hinX3 4 (by decide) (List.mem_of_getElem? (i := 2) rfl) rfl dX3_leastApart_10 ?_
      refine lv_icmp_ge (tgt := 86) hx hb dX3_leastApart_13 (by decide) (fun c13 => ?_) (fun c13 => ?_)
      · have t13 : (σ 0 4).toInt ≤ v6_7.toInt := qt_le c13
        rw [if_pos c13] at hG
        exact hex7 v5_7 hG.symm ls (lv_sub hl [0, 5] rfl)
      · have t13 : v6_7.toInt < (σ 0 4).toInt := qt_nle c13
        rw [if_neg c13] at hG
        refine lv_aload_n hx hb dX3_leastApart_16 rfl (lv_at hl 0 rfl) ?_
        refine r_get (C := RX3) (T := TX3) (N := 14) S hK w (k := 0) (by decide) (eC_0 ad _) rfl hinX3 1 (by decide) (List.mem_of_getElem? (i := 3) rfl) rfl dX3_leastApart_17 ?_
        refine lv_iload hx hb dX3_leastApart_20 (lv_at hl 6 rfl) ?_
        have g22 : vp_in v6_7 8 := vpi (by omega) (by omega)
        refine r_aald S hK w (k := 2) (by decide) (eC_2 ad _) (t0 := 2) rfl g22 dX3_leastApart_22 ?_
        refine r_getN (C := RX2) (T := TX2) (N := 3) S hK hN w (k := (17 + (ix v6_7))) (Nat.lt_of_lt_of_le (Nat.add_lt_add_left (vpl g22) 17) (by decide)) (eC_sg ad (vpl g22) _) rfl hinX2 2 (by decide) 5 rfl rfl dX3_leastApart_23 ?_
        refine lv_astore (lv' := [(7, .ref (ad (25 + (ix v6_7)))), (0, .ref (ad 0)), (1, .int p1), (2, .int p2), (3, .int p3), (4, .int p4), (5, .int v5_7), (6, .int v6_7)]) hx hb dX3_leastApart_26 hl (by decide) rfl (fun ls hl => ?_)
        refine lv_aload_n hx hb dX3_leastApart_28 rfl (lv_at hl 1 rfl) ?_
        refine r_get (C := RX3) (T := TX3) (N := 14) S hK w (k := 0) (by decide) (eC_0 ad _) rfl hinX3 1 (by decide) (List.mem_of_getElem? (i := 3) rfl) rfl dX3_leastApart_29 ?_
        refine lv_iload hx hb dX3_leastApart_32 (lv_at hl 7 rfl) ?_
        have g34 : vp_in v6_7 8 := vpi (by omega) (by omega)
        refine r_aald S hK w (k := 2) (by decide) (eC_2 ad _) (t0 := 2) rfl g34 dX3_leastApart_34 ?_
        refine r_getN (C := RX2) (T := TX2) (N := 3) S hK hN w (k := (17 + (ix v6_7))) (Nat.lt_of_lt_of_le (Nat.add_lt_add_left (vpl g34) 17) (by decide)) (eC_sg ad (vpl g34) _) rfl hinX2 1 (by decide) 4 rfl rfl dX3_leastApart_35 ?_
        refine lv_aload hx hb dX3_leastApart_38 (lv_at hl 0 rfl) ?_
        refine lv_iload_n hx hb dX3_leastApart_40 rfl (lv_at hl 2 rfl) ?_
        have g41 : vp_in p1 9 := vpi (by omega) (by omega)
        refine r_iald (cA := ad 100) (N := 9) S hK w (k := (25 + (ix v6_7))) (Nat.lt_of_lt_of_le (Nat.add_lt_add_left (vpl g22) 25) (by decide)) (fun f => eC_st ad (vpl g22) f) rfl g41 dX3_leastApart_41 ?_
        refine lv_isub hx hb dX3_leastApart_42 ?_
        refine lv_aload hx hb dX3_leastApart_43 (lv_at hl 0 rfl) ?_
        refine lv_iload_n hx hb dX3_leastApart_45 rfl (lv_at hl 3 rfl) ?_
        have g46 : vp_in p2 9 := vpi (by omega) (by omega)
        refine r_iald (cA := ad 100) (N := 9) S hK w (k := (25 + (ix v6_7))) (Nat.lt_of_lt_of_le (Nat.add_lt_add_left (vpl g22) 25) (by decide)) (fun f => eC_st ad (vpl g22) f) rfl g46 dX3_leastApart_46 ?_
        refine lv_isub hx hb dX3_leastApart_47 ?_
        refine lv_istore (lv' := [(8, .int (((σ (17 + (ix v6_7)) 1) - (σ (25 + (ix v6_7)) (ix p1))) - (σ (25 + (ix v6_7)) (ix p2)))), (7, .ref (ad (25 + (ix v6_7)))), (0, .ref (ad 0)), (1, .int p1), (2, .int p2), (3, .int p3), (4, .int p4), (5, .int v5_7), (6, .int v6_7)]) hx hb dX3_leastApart_48 hl (by decide) rfl (fun ls hl => ?_)
        refine lv_iload hx hb dX3_leastApart_50 (lv_at hl 7 rfl) ?_
        refine lv_iload hx hb dX3_leastApart_52 (lv_at hl 0 rfl) ?_
        refine lv_iload_n hx hb dX3_leastApart_54 rfl (lv_at hl 5 rfl) ?_
        refine lv_aload hx hb dX3_leastApart_55 (lv_at hl 1 rfl) ?_
        refine lv_iload_n hx hb dX3_leastApart_57 rfl (lv_at hl 3 rfl) ?_
        have g58 : vp_in p1 9 := vpi (by omega) (by omega)
        refine r_iald (cA := ad 100) (N := 9) S hK w (k := (25 + (ix v6_7))) (Nat.lt_of_lt_of_le (Nat.add_lt_add_left (vpl g22) 25) (by decide)) (fun f => eC_st ad (vpl g22) f) rfl g58 dX3_leastApart_58 ?_
        refine lv_isub hx hb dX3_leastApart_59 ?_
        refine r_abs S hl.1 (List.mem_of_getElem? (i := 4) rfl) (List.mem_of_getElem? (i := 5) rfl) (List.mem_of_getElem? (i := 6) rfl) (List.mem_of_getElem? (i := 7) rfl) ⟨Nat.le_of_ble_eq_true rfl, Nat.le_of_ble_eq_true rfl, Nat.zero_le _, Nat.zero_le _⟩ dX3_leastApart_60 ?_
        refine lv_iadd hx hb dX3_leastApart_63 ?_
        refine lv_iload hx hb dX3_leastApart_64 (lv_at hl 6 rfl) ?_
        refine lv_aload hx hb dX3_leastApart_66 (lv_at hl 1 rfl) ?_
        refine lv_iload_n hx hb dX3_leastApart_68 rfl (lv_at hl 4 rfl) ?_
        have g69 : vp_in p2 9 := vpi (by omega) (by omega)
        refine r_iald (cA := ad 100) (N := 9) S hK w (k := (25 + (ix v6_7))) (Nat.lt_of_lt_of_le (Nat.add_lt_add_left (vpl g22) 25) (by decide)) (fun f => eC_st ad (vpl g22) f) rfl g69 dX3_leastApart_69 ?_
        refine lv_isub hx hb dX3_leastApart_70 ?_
        refine r_abs S hl.1 (List.mem_of_getElem? (i := 4) rfl) (List.mem_of_getElem? (i := 5) rfl) (List.mem_of_getElem? (i := 6) rfl) (List.mem_of_getElem? (i := 7) rfl) ⟨Nat.le_of_ble_eq_true rfl, Nat.le_of_ble_eq_true rfl, Nat.zero_le _, Nat.zero_le _⟩ dX3_leastApart_71 ?_
        refine lv_iadd hx hb dX3_leastApart_74 ?_
        refine r_min S hl.1 (List.mem_of_getElem? (i := 8) rfl) (List.mem_of_getElem? (i := 9) rfl) (List.mem_of_getElem? (i := 6) rfl) (List.mem_of_getElem? (i := 10) rfl) ⟨Nat.le_of_ble_eq_true rfl, Nat.le_of_ble_eq_true rfl, Nat.zero_le _, Nat.zero_le _⟩ dX3_leastApart_75 ?_
        refine lv_istore (lv' := [(5, .int (jmin v5_7 (((((σ (17 + (ix v6_7)) 1) - (σ (25 + (ix v6_7)) (ix p1))) - (σ (25 + (ix v6_7)) (ix p2))) + (jabs (p3 - (σ (25 + (ix v6_7)) (ix p1))))) + (jabs (p4 - (σ (25 + (ix v6_7)) (ix p2))))))), (8, .int (((σ (17 + (ix v6_7)) 1) - (σ (25 + (ix v6_7)) (ix p1))) - (σ (25 + (ix v6_7)) (ix p2)))), (7, .ref (ad (25 + (ix v6_7)))), (0, .ref (ad 0)), (1, .int p1), (2, .int p2), (3, .int p3), (4, .int p4), (6, .int v6_7)]) hx hb dX3_leastApart_78 hl (by decide) rfl (fun ls hl => ?_)
        refine lv_iinc (v := (v6_7 + 1)) (lv' := [(6, .int (v6_7 + 1)), (5, .int (jmin v5_7 (((((σ (17 + (ix v6_7)) 1) - (σ (25 + (ix v6_7)) (ix p1))) - (σ (25 + (ix v6_7)) (ix p2))) + (jabs (p3 - (σ (25 + (ix v6_7)) (ix p1))))) + (jabs (p4 - (σ (25 + (ix v6_7)) (ix p2))))))), (8, .int (((σ (17 + (ix v6_7)) 1) - (σ (25 + (ix v6_7)) (ix p1))) - (σ (25 + (ix v6_7)) (ix p2)))), (7, .ref (ad (25 + (ix v6_7)))), (0, .ref (ad 0)), (1, .int p1), (2, .int p2), (3, .int p3), (4, .int p4)]) hx hb dX3_leastApart_80 hl (k := 8) rfl rfl (by decide) rfl (fun ls hl => ?_)
        refine lv_goto (tgt := 7) hx hb dX3_leastApart_83 (by decide) ?_
        have b6_7 : (v6_7 + 1).toInt = v6_7.toInt + 1 := inc_toInt (by omega) (by omega)
        exact ih7 _ (jmin v5_7 (((((σ (17 + (ix v6_7)) 1) - (σ (25 + (ix v6_7)) (ix p1))) - (σ (25 + (ix v6_7)) (ix p2))) + (jabs (p3 - (σ (25 + (ix v6_7)) (ix p1))))) + (jabs (p4 - (σ (25 + (ix v6_7)) (ix p2)))))) (v6_7 + 1) (by omega) (by omega) hG hex7 ls (lv_sub hl [4, 5, 6, 7, 8, 1, 0] rfl)
  refine L7 200 _ 2147483647 0 (by omega) (by omega) rfl (fun v5_7e hr7 ls hl => ?_) ls (lv_sub hl [2, 3, 4, 5, 6, 1, 0] rfl)
  rw [hr7] at hG
  refine lv_iload hx hb dX3_leastApart_86 (lv_at hl 1 rfl) ?_
  exact end0i S hr hlocks hG dX3_leastApart_88
set_option maxHeartbeats 4000000 in
set_option maxRecDepth 100000 in
theorem c_X3_tryStrengths (l : Launch) (ad : Nat → Nat) (D : va_G) (sz : Nat) (σ : St) (p1 : Int32) (p2 : Int32) (hok : OkC σ) (hx1 : 0 ≤ p1.toInt ∧ p1.toInt < 9) (hx2 : 0 ≤ p2.toInt ∧ p2.toInt < 9) : Met l yX3_tryStrengths wsX3_tryStrengths ({ frames := 2, cells := 0, slots := 0, locals := 49 }) (PreW 41 (eC ad) ad D (tyC ad) σ sz ([.ref (ad 0), .int p1, .int p2] : List Value)) (QWv 41 (eC ad) ad D (f_X3_tryStrengths σ p1 p2) (CA 41 ad sz)) 0 0 (CA 41 ad sz) := by
  generalize hG : f_X3_tryStrengths σ p1 p2 = T
  refine headW (cc := cX3_tryStrengths) (maxL := 6) (ret := none) ([.ref (ad 0), .int p1, .int p2] : List Value) (by decide) rfl (Nat.le_of_ble_eq_true rfl) ?_
  intro p e s m below meth c S hr hlocks hK hN hsz w ls hl
  have S : CallFix p m c cX3_tryStrengths 6 s ([.ref (ad 0), .int p1, .int p2] : List Value).toArray wsX3_tryStrengths RX3 := S
  have hx := S.1
  have hb := S.2.1
  have z0 : (0 : Int32).toInt = 0 := by decide
  have z1 : (1 : Int32).toInt = 1 := by decide
  have hl : lv_has ls 6 [(0, .ref (ad 0)), (1, .int p1), (2, .int p2)] := hl
  have hinX3 : ∀ w ∈ wsX30, w ∈ wsX3_tryStrengths := (fun _ h => List.mem_cons_of_mem _ (List.mem_append_left _ (List.mem_append_right _ h)))
  have hinX2 : ∀ w ∈ wsX20, w ∈ wsX3_tryStrengths := (fun _ h => List.mem_cons_of_mem _ (List.mem_append_right _ h))
  have okf0 := hok.1
  have okf1 := hok.2.1
  have okf2 := hok.2.2.1
  have okf3 := hok.2.2.2.1
  have okf4 := hok.2.2.2.2.1
  have okf5 := hok.2.2.2.2.2
  rw [f_X3_tryStrengths] at hG
  refine lv_iconst (v := 0) hx hb dX3_tryStrengths_0 (by decide) ?_
  refine lv_istore_n (lv' := [(3, .int 0), (0, .ref (ad 0)), (1, .int p1), (2, .int p2)]) hx hb dX3_tryStrengths_1 rfl hl (by decide) rfl (fun ls hl => ?_)
  have L2 : ∀ (n : Nat) (res2 : St), ∀ (v3_2 : Int32), ∀ (S_2 : St), ((OkC S_2) ∧ (0 ≤ v3_2.toInt ∧ v3_2.toInt ≤ 10)) → (10 - v3_2.toInt).toNat < n → (lp_X3_tryStrengths_2 p1 p2 n v3_2 S_2) = res2 → (∀ (S_2e : St), (OkC S_2e) → res2 = S_2e → ∀ (H : Heap) (locs : List Loc), CW 41 (eC ad) ad D (CA 41 ad sz) s.heap S_2e H locs → ∀ ls : Array Slot, lv_has ls 6 [(0, .ref (ad 0))] → W p l e (headSpec wsX3_tryStrengths ({ frames := 2, cells := 0, slots := 0, locals := 49 })).room s m ([.ref (ad 0), .int p1, .int p2] : List Value).toArray below meth c H locs 0 0 (MQ below (QWv 41 (eC ad) ad D T (CA 41 ad sz)) ([.ref (ad 0), .int p1, .int p2] : List Value).toArray s 0 0 (CA 41 ad sz)) (F0 m 89 ls [])) → ∀ (H : Heap) (locs : List Loc), CW 41 (eC ad) ad D (CA 41 ad sz) s.heap S_2 H locs → ∀ ls : Array Slot, lv_has ls 6 [(0, .ref (ad 0)), (1, .int p1), (2, .int p2), (3, .int v3_2)] → W p l e (headSpec wsX3_tryStrengths ({ frames := 2, cells := 0, slots := 0, locals := 49 })).room s m ([.ref (ad 0), .int p1, .int p2] : List Value).toArray below meth c H locs 0 0 (MQ below (QWv 41 (eC ad) ad D T (CA 41 ad sz)) ([.ref (ad 0), .int p1, .int p2] : List Value).toArray s 0 0 (CA 41 ad sz)) (F0 m 2 ls []) := by
    intro n
    induction n with
    | zero => intro _ _ _ _ hm; exact absurd hm (Nat.not_lt_zero _)
    | succ n ih2 =>
      intro res2 v3_2 S_2 hI2 hm2 hG hex2 H locs w ls hl
      obtain ⟨hok, i2_1⟩ := id hI2
      have okf0 := hok.1
      have okf1 := hok.2.1
      have okf2 := hok.2.2.1
      have okf3 := hok.2.2.2.1
      have okf4 := hok.2.2.2.2.1
      have okf5 := hok.2.2.2.2.2
      rw [lp_X3_tryStrengths_2] at hG
      refine lv_iload_n hx hb dX3_tryStrengths_2 rfl (lv_at hl 3 rfl) ?_
      refine lv_bipush (v := 9) hx hb dX3_tryStrengths_3 (by decide) ?_
      refine lv_icmp_gt (tgt := 89) hx hb dX3_tryStrengths_5 (by decide) (fun c5 => ?_) (fun c5 => ?_)
      · have t5 : 9 < v3_2.toInt := qt_lt c5
        rw [if_pos c5] at hG
        exact hex2 S_2 hok hG.symm _ _ w ls (lv_sub hl [0] rfl)
      · have t5 : v3_2.toInt ≤ 9 := qt_nlt c5
        rw [if_neg c5] at hG
        refine lv_iconst (v := 0) hx hb dX3_tryStrengths_8 (by decide) ?_
        refine lv_istore (lv' := [(4, .int 0), (0, .ref (ad 0)), (1, .int p1), (2, .int p2), (3, .int v3_2)]) hx hb dX3_tryStrengths_9 hl (by decide) rfl (fun ls hl => ?_)
        have L11 : ∀ (n : Nat) (res11 : St), ∀ (v4_11 : Int32), ∀ (S_11 : St), ((OkC S_11) ∧ (0 ≤ v4_11.toInt ∧ v4_11.toInt ≤ 10)) → (10 - v4_11.toInt).toNat < n → (lp_X3_tryStrengths_11 p1 p2 v3_2 n v4_11 S_11) = res11 → (∀ (S_11e : St), (OkC S_11e) → res11 = S_11e → ∀ (H : Heap) (locs : List Loc), CW 41 (eC ad) ad D (CA 41 ad sz) s.heap S_11e H locs → ∀ ls : Array Slot, lv_has ls 6 [(0, .ref (ad 0)), (1, .int p1), (2, .int p2), (3, .int v3_2)] → W p l e (headSpec wsX3_tryStrengths ({ frames := 2, cells := 0, slots := 0, locals := 49 })).room s m ([.ref (ad 0), .int p1, .int p2] : List Value).toArray below meth c H locs 0 0 (MQ below (QWv 41 (eC ad) ad D T (CA 41 ad sz)) ([.ref (ad 0), .int p1, .int p2] : List Value).toArray s 0 0 (CA 41 ad sz)) (F0 m 83 ls [])) → ∀ (H : Heap) (locs : List Loc), CW 41 (eC ad) ad D (CA 41 ad sz) s.heap S_11 H locs → ∀ ls : Array Slot, lv_has ls 6 [(0, .ref (ad 0)), (1, .int p1), (2, .int p2), (3, .int v3_2), (4, .int v4_11)] → W p l e (headSpec wsX3_tryStrengths ({ frames := 2, cells := 0, slots := 0, locals := 49 })).room s m ([.ref (ad 0), .int p1, .int p2] : List Value).toArray below meth c H locs 0 0 (MQ below (QWv 41 (eC ad) ad D T (CA 41 ad sz)) ([.ref (ad 0), .int p1, .int p2] : List Value).toArray s 0 0 (CA 41 ad sz)) (F0 m 11 ls []) := by
          intro n
          induction n with
          | zero => intro _ _ _ _ hm; exact absurd hm (Nat.not_lt_zero _)
          | succ n ih11 =>
            intro res11 v4_11 S_11 hI11 hm11 hG hex11 H locs w ls hl
            obtain ⟨hok, i11_1⟩ := id hI11
            have okf0 := hok.1
            have okf1 := hok.2.1
            have okf2 := hok.2.2.1
            have okf3 := hok.2.2.2.1
            have okf4 := hok.2.2.2.2.1
            have okf5 := hok.2.2.2.2.2
            rw [lp_X3_tryStrengths_11] at hG
            refine lv_iload hx hb dX3_tryStrengths_11 (lv_at hl 4 rfl) ?_
            refine lv_bipush (v := 9) hx hb dX3_tryStrengths_13 (by decide) ?_
            refine lv_icmp_gt (tgt := 83) hx hb dX3_tryStrengths_15 (by decide) (fun c15 => ?_) (fun c15 => ?_)
            · have t15 : 9 < v4_11.toInt := qt_lt c15
              rw [if_pos c15] at hG
              exact hex11 S_11 hok hG.symm _ _ w ls (lv_sub hl [0, 1, 2, 3] rfl)
            · have t15 : v4_11.toInt ≤ 9 := qt_nlt c15
              rw [if_neg c15] at hG
              refine lv_aload_n hx hb dX3_tryStrengths_18 rfl (lv_at hl 0 rfl) ?_
              refine lv_iload_n hx hb dX3_tryStrengths_19 rfl (lv_at hl 1 rfl) ?_
              refine lv_iload_n hx hb dX3_tryStrengths_20 rfl (lv_at hl 2 rfl) ?_
              refine lv_iload_n hx hb dX3_tryStrengths_21 rfl (lv_at hl 3 rfl) ?_
              refine lv_iload hx hb dX3_tryStrengths_22 (lv_at hl 4 rfl) ?_
              refine call0i (va_runV (As := [.int p1, .int p2, .int v3_2, .int v4_11]) (rest := []) S (c_X3_leastApart l ad D H.size S_11 p1 p2 v3_2 v4_11 hok (by omega) (by omega)) (cwV 4 S.2.2.2.2 gX3_tryStrengths_X3_leastApart rfl rfl rfl ⟨rfl, hd_X3_leastApart⟩ ⟨Nat.le_of_ble_eq_true rfl, Nat.le_of_ble_eq_true rfl⟩) (preV hK hN w (k := 0) (by decide) (eC_0 ad _) (q := (RX3, TX3, 14)) rfl) rfl rfl hl.1 rfl (lv_room (Nat.le_of_ble_eq_true rfl)) dX3_tryStrengths_24 ⟨Nat.zero_le _, Nat.zero_le _⟩) ?_
              refine lv_istore (lv' := [(5, .int (f_X3_leastApart S_11 p1 p2 v3_2 v4_11)), (0, .ref (ad 0)), (1, .int p1), (2, .int p2), (3, .int v3_2), (4, .int v4_11)]) hx hb dX3_tryStrengths_27 hl (by decide) rfl (fun ls hl => ?_)
              refine lv_iload hx hb dX3_tryStrengths_29 (lv_at hl 0 rfl) ?_
              refine lv_aload_n hx hb dX3_tryStrengths_31 rfl (lv_at hl 1 rfl) ?_
              refine r_get (C := RX3) (T := TX3) (N := 14) S hK w (k := 0) (by decide) (eC_0 ad _) rfl hinX3 13 (by decide) (List.mem_of_getElem? (i := 1) rfl) rfl dX3_tryStrengths_32 ?_
              refine lv_iconst (v := 0) hx hb dX3_tryStrengths_35 (by decide) ?_
              have g36 : vp_in 0 5 := vpi (by decide) (by decide)
              refine r_iald (cA := ad 100) (N := 5) S hK w (k := 8) (by decide) (fun f => eC_8 ad f) rfl g36 dX3_tryStrengths_36 ?_
              refine lv_icmp_le (tgt := 77) hx hb dX3_tryStrengths_37 (by decide) (fun c37 => ?_) (fun c37 => ?_)
              · have t37 : (f_X3_leastApart S_11 p1 p2 v3_2 v4_11).toInt ≤ (S_11 8 (ix 0)).toInt := qt_le c37
                rw [if_pos c37] at hG
                refine lv_iinc (v := (v4_11 + 1)) (lv' := [(4, .int (v4_11 + 1)), (5, .int (f_X3_leastApart S_11 p1 p2 v3_2 v4_11)), (0, .ref (ad 0)), (1, .int p1), (2, .int p2), (3, .int v3_2)]) hx hb dX3_tryStrengths_77 hl (k := 5) rfl rfl (by decide) rfl (fun ls hl => ?_)
                refine lv_goto (tgt := 11) hx hb dX3_tryStrengths_80 (by decide) ?_
                have b4_11 : (v4_11 + 1).toInt = v4_11.toInt + 1 := inc_toInt (by omega) (by omega)
                exact ih11 _ (v4_11 + 1) S_11 ⟨hok, (by omega)⟩ (by omega) hG hex11 _ _ w ls (lv_sub hl [2, 3, 4, 5, 0] rfl)
              · have t37 : (S_11 8 (ix 0)).toInt < (f_X3_leastApart S_11 p1 p2 v3_2 v4_11).toInt := qt_nle c37
                rw [if_neg c37] at hG
                refine lv_aload_n hx hb dX3_tryStrengths_40 rfl (lv_at hl 1 rfl) ?_
                refine r_get (C := RX3) (T := TX3) (N := 14) S hK w (k := 0) (by decide) (eC_0 ad _) rfl hinX3 13 (by decide) (List.mem_of_getElem? (i := 1) rfl) rfl dX3_tryStrengths_41 ?_
                refine lv_iconst (v := 0) hx hb dX3_tryStrengths_44 (by decide) ?_
                refine lv_iload hx hb dX3_tryStrengths_45 (lv_at hl 0 rfl) ?_
                have g47 : vp_in 0 5 := vpi (by decide) (by decide)
                refine r_iast (cA := ad 100) (N := 5) S hK w (k := 8) (by decide) (fun f => eC_8 ad f) rfl g47 dX3_tryStrengths_47 (fun H locs w => ?_)
                have hok : OkC (u2 S_11 8 (ix 0) (f_X3_leastApart S_11 p1 p2 v3_2 v4_11)) := okC_scr (show scrC 8 by unfold scrC; omega) hok
                have okf0 := hok.1
                have okf1 := hok.2.1
                have okf2 := hok.2.2.1
                have okf3 := hok.2.2.2.1
                have okf4 := hok.2.2.2.2.1
                have okf5 := hok.2.2.2.2.2
                refine lv_aload_n hx hb dX3_tryStrengths_48 rfl (lv_at hl 1 rfl) ?_
                refine r_get (C := RX3) (T := TX3) (N := 14) S hK w (k := 0) (by decide) (eC_0 ad _) rfl hinX3 13 (by decide) (List.mem_of_getElem? (i := 1) rfl) rfl dX3_tryStrengths_49 ?_
                refine lv_iconst (v := 1) hx hb dX3_tryStrengths_52 (by decide) ?_
                refine lv_iload_n hx hb dX3_tryStrengths_53 rfl (lv_at hl 2 rfl) ?_
                have g54 : vp_in 1 5 := vpi (by decide) (by decide)
                refine r_iast (cA := ad 100) (N := 5) S hK w (k := 8) (by decide) (fun f => eC_8 ad f) rfl g54 dX3_tryStrengths_54 (fun H locs w => ?_)
                have hok : OkC (u2 (u2 S_11 8 (ix 0) (f_X3_leastApart S_11 p1 p2 v3_2 v4_11)) 8 (ix 1) p1) := okC_scr (show scrC 8 by unfold scrC; omega) hok
                have okf0 := hok.1
                have okf1 := hok.2.1
                have okf2 := hok.2.2.1
                have okf3 := hok.2.2.2.1
                have okf4 := hok.2.2.2.2.1
                have okf5 := hok.2.2.2.2.2
                refine lv_aload_n hx hb dX3_tryStrengths_55 rfl (lv_at hl 1 rfl) ?_
                refine r_get (C := RX3) (T := TX3) (N := 14) S hK w (k := 0) (by decide) (eC_0 ad _) rfl hinX3 13 (by decide) (List.mem_of_getElem? (i := 1) rfl) rfl dX3_tryStrengths_56 ?_
                refine lv_iconst (v := 2) hx hb dX3_tryStrengths_59 (by decide) ?_
                refine lv_iload_n hx hb dX3_tryStrengths_60 rfl (lv_at hl 3 rfl) ?_
                have g61 : vp_in 2 5 := vpi (by decide) (by decide)
                refine r_iast (cA := ad 100) (N := 5) S hK w (k := 8) (by decide) (fun f => eC_8 ad f) rfl g61 dX3_tryStrengths_61 (fun H locs w => ?_)
                have hok : OkC (u2 (u2 (u2 S_11 8 (ix 0) (f_X3_leastApart S_11 p1 p2 v3_2 v4_11)) 8 (ix 1) p1) 8 (ix 2) p2) := okC_scr (show scrC 8 by unfold scrC; omega) hok
                have okf0 := hok.1
                have okf1 := hok.2.1
                have okf2 := hok.2.2.1
                have okf3 := hok.2.2.2.1
                have okf4 := hok.2.2.2.2.1
                have okf5 := hok.2.2.2.2.2
                refine lv_aload_n hx hb dX3_tryStrengths_62 rfl (lv_at hl 1 rfl) ?_
                refine r_get (C := RX3) (T := TX3) (N := 14) S hK w (k := 0) (by decide) (eC_0 ad _) rfl hinX3 13 (by decide) (List.mem_of_getElem? (i := 1) rfl) rfl dX3_tryStrengths_63 ?_
                refine lv_iconst (v := 3) hx hb dX3_tryStrengths_66 (by decide) ?_
                refine lv_iload_n hx hb dX3_tryStrengths_67 rfl (lv_at hl 4 rfl) ?_
                have g68 : vp_in 3 5 := vpi (by decide) (by decide)
                refine r_iast (cA := ad 100) (N := 5) S hK w (k := 8) (by decide) (fun f => eC_8 ad f) rfl g68 dX3_tryStrengths_68 (fun H locs w => ?_)
                have hok : OkC (u2 (u2 (u2 (u2 S_11 8 (ix 0) (f_X3_leastApart S_11 p1 p2 v3_2 v4_11)) 8 (ix 1) p1) 8 (ix 2) p2) 8 (ix 3) v3_2) := okC_scr (show scrC 8 by unfold scrC; omega) hok
                have okf0 := hok.1
                have okf1 := hok.2.1
                have okf2 := hok.2.2.1
                have okf3 := hok.2.2.2.1
                have okf4 := hok.2.2.2.2.1
                have okf5 := hok.2.2.2.2.2
                refine lv_aload_n hx hb dX3_tryStrengths_69 rfl (lv_at hl 1 rfl) ?_
                refine r_get (C := RX3) (T := TX3) (N := 14) S hK w (k := 0) (by decide) (eC_0 ad _) rfl hinX3 13 (by decide) (List.mem_of_getElem? (i := 1) rfl) rfl dX3_tryStrengths_70 ?_
                refine lv_iconst (v := 4) hx hb dX3_tryStrengths_73 (by decide) ?_
                refine lv_iload hx hb dX3_tryStrengths_74 (lv_at hl 5 rfl) ?_
                have g76 : vp_in 4 5 := vpi (by decide) (by decide)
                refine r_iast (cA := ad 100) (N := 5) S hK w (k := 8) (by decide) (fun f => eC_8 ad f) rfl g76 dX3_tryStrengths_76 (fun H locs w => ?_)
                have hok : OkC (u2 (u2 (u2 (u2 (u2 S_11 8 (ix 0) (f_X3_leastApart S_11 p1 p2 v3_2 v4_11)) 8 (ix 1) p1) 8 (ix 2) p2) 8 (ix 3) v3_2) 8 (ix 4) v4_11) := okC_scr (show scrC 8 by unfold scrC; omega) hok
                have okf0 := hok.1
                have okf1 := hok.2.1
                have okf2 := hok.2.2.1
                have okf3 := hok.2.2.2.1
                have okf4 := hok.2.2.2.2.1
                have okf5 := hok.2.2.2.2.2
                refine lv_iinc (v := (v4_11 + 1)) (lv' := [(4, .int (v4_11 + 1)), (5, .int (f_X3_leastApart S_11 p1 p2 v3_2 v4_11)), (0, .ref (ad 0)), (1, .int p1), (2, .int p2), (3, .int v3_2)]) hx hb dX3_tryStrengths_77 hl (k := 5) rfl rfl (by decide) rfl (fun ls hl => ?_)
                refine lv_goto (tgt := 11) hx hb dX3_tryStrengths_80 (by decide) ?_
                have b4_11 : (v4_11 + 1).toInt = v4_11.toInt + 1 := inc_toInt (by omega) (by omega)
                exact ih11 _ (v4_11 + 1) (u2 (u2 (u2 (u2 (u2 S_11 8 (ix 0) (f_X3_leastApart S_11 p1 p2 v3_2 v4_11)) 8 (ix 1) p1) 8 (ix 2) p2) 8 (ix 3) v3_2) 8 (ix 4) v4_11) ⟨hok, (by omega)⟩ (by omega) hG hex11 _ _ w ls (lv_sub hl [2, 3, 4, 5, 0] rfl)
        refine L11 200 _ 0 S_2 ⟨hok, (by omega)⟩ (by omega) rfl (fun S_11e hok hr11 H locs w ls hl => ?_) _ _ w ls (lv_sub hl [1, 2, 3, 4, 0] rfl)
        rw [hr11] at hG
        have okf0 := hok.1
        have okf1 := hok.2.1
        have okf2 := hok.2.2.1
        have okf3 := hok.2.2.2.1
        have okf4 := hok.2.2.2.2.1
        have okf5 := hok.2.2.2.2.2
        refine lv_iinc (v := (v3_2 + 1)) (lv' := [(3, .int (v3_2 + 1)), (0, .ref (ad 0)), (1, .int p1), (2, .int p2)]) hx hb dX3_tryStrengths_83 hl (k := 3) rfl rfl (by decide) rfl (fun ls hl => ?_)
        refine lv_goto (tgt := 2) hx hb dX3_tryStrengths_86 (by decide) ?_
        have b3_2 : (v3_2 + 1).toInt = v3_2.toInt + 1 := inc_toInt (by omega) (by omega)
        exact ih2 _ (v3_2 + 1) S_11e ⟨hok, (by omega)⟩ (by omega) hG hex2 _ _ w ls (lv_sub hl [1, 2, 3, 0] rfl)
  refine L2 200 _ 0 σ ⟨hok, (by omega)⟩ (by omega) rfl (fun S_2e hok hr2 H locs w ls hl => ?_) _ _ w ls (lv_sub hl [1, 2, 3, 0] rfl)
  rw [hr2] at hG
  have okf0 := hok.1
  have okf1 := hok.2.1
  have okf2 := hok.2.2.1
  have okf3 := hok.2.2.2.1
  have okf4 := hok.2.2.2.2.1
  have okf5 := hok.2.2.2.2.2
  exact endWv S hr hlocks w hG dX3_tryStrengths_89
set_option maxHeartbeats 4000000 in
set_option maxRecDepth 100000 in
theorem c_X3_seekNewSmell (l : Launch) (ad : Nat → Nat) (D : va_G) (sz : Nat) (σ : St) (hok : OkC σ) : Met l yX3_seekNewSmell wsX3_seekNewSmell ({ frames := 3, cells := 0, slots := 0, locals := 74 }) (PreW 41 (eC ad) ad D (tyC ad) σ sz ([.ref (ad 0)] : List Value)) (QWv 41 (eC ad) ad D (f_X3_seekNewSmell σ) (CA 41 ad sz)) 0 0 (CA 41 ad sz) := by
  generalize hG : f_X3_seekNewSmell σ = T
  refine headW (cc := cX3_seekNewSmell) (maxL := 3) (ret := none) ([.ref (ad 0)] : List Value) (by decide) rfl (Nat.le_of_ble_eq_true rfl) ?_
  intro p e s m below meth c S hr hlocks hK hN hsz w ls hl
  have S : CallFix p m c cX3_seekNewSmell 3 s ([.ref (ad 0)] : List Value).toArray wsX3_seekNewSmell RX3 := S
  have hx := S.1
  have hb := S.2.1
  have z0 : (0 : Int32).toInt = 0 := by decide
  have z1 : (1 : Int32).toInt = 1 := by decide
  have hl : lv_has ls 3 [(0, .ref (ad 0))] := hl
  have hinX3 : ∀ w ∈ wsX30, w ∈ wsX3_seekNewSmell := (fun _ h => List.mem_cons_of_mem _ (List.mem_append_left _ (List.mem_append_right _ h)))
  have hinX2 : ∀ w ∈ wsX20, w ∈ wsX3_seekNewSmell := (fun _ h => List.mem_cons_of_mem _ (List.mem_append_right _ h))
  have okf0 := hok.1
  have okf1 := hok.2.1
  have okf2 := hok.2.2.1
  have okf3 := hok.2.2.2.1
  have okf4 := hok.2.2.2.2.1
  have okf5 := hok.2.2.2.2.2
  rw [f_X3_seekNewSmell] at hG
  refine lv_iconst (v := 0) hx hb dX3_seekNewSmell_0 (by decide) ?_
  refine lv_istore_n (lv' := [(1, .int 0), (0, .ref (ad 0))]) hx hb dX3_seekNewSmell_1 rfl hl (by decide) rfl (fun ls hl => ?_)
  have L2 : ∀ (n : Nat) (res2 : St), ∀ (v1_2 : Int32), ∀ (S_2 : St), ((OkC S_2) ∧ (0 ≤ v1_2.toInt ∧ v1_2.toInt ≤ 9)) → (9 - v1_2.toInt).toNat < n → (lp_X3_seekNewSmell_2 n v1_2 S_2) = res2 → (∀ (S_2e : St), (OkC S_2e) → res2 = S_2e → ∀ (H : Heap) (locs : List Loc), CW 41 (eC ad) ad D (CA 41 ad sz) s.heap S_2e H locs → ∀ ls : Array Slot, lv_has ls 3 [(0, .ref (ad 0))] → W p l e (headSpec wsX3_seekNewSmell ({ frames := 3, cells := 0, slots := 0, locals := 74 })).room s m ([.ref (ad 0)] : List Value).toArray below meth c H locs 0 0 (MQ below (QWv 41 (eC ad) ad D T (CA 41 ad sz)) ([.ref (ad 0)] : List Value).toArray s 0 0 (CA 41 ad sz)) (F0 m 36 ls [])) → ∀ (H : Heap) (locs : List Loc), CW 41 (eC ad) ad D (CA 41 ad sz) s.heap S_2 H locs → ∀ ls : Array Slot, lv_has ls 3 [(0, .ref (ad 0)), (1, .int v1_2)] → W p l e (headSpec wsX3_seekNewSmell ({ frames := 3, cells := 0, slots := 0, locals := 74 })).room s m ([.ref (ad 0)] : List Value).toArray below meth c H locs 0 0 (MQ below (QWv 41 (eC ad) ad D T (CA 41 ad sz)) ([.ref (ad 0)] : List Value).toArray s 0 0 (CA 41 ad sz)) (F0 m 2 ls []) := by
    intro n
    induction n with
    | zero => intro _ _ _ _ hm; exact absurd hm (Nat.not_lt_zero _)
    | succ n ih2 =>
      intro res2 v1_2 S_2 hI2 hm2 hG hex2 H locs w ls hl
      obtain ⟨hok, i2_1⟩ := id hI2
      have okf0 := hok.1
      have okf1 := hok.2.1
      have okf2 := hok.2.2.1
      have okf3 := hok.2.2.2.1
      have okf4 := hok.2.2.2.2.1
      have okf5 := hok.2.2.2.2.2
      rw [lp_X3_seekNewSmell_2] at hG
      refine lv_iload_n hx hb dX3_seekNewSmell_2 rfl (lv_at hl 1 rfl) ?_
      refine lv_bipush (v := 9) hx hb dX3_seekNewSmell_3 (by decide) ?_
      refine lv_icmp_ge (tgt := 36) hx hb dX3_seekNewSmell_5 (by decide) (fun c5 => ?_) (fun c5 => ?_)
      · have t5 : 9 ≤ v1_2.toInt := qt_le c5
        rw [if_pos c5] at hG
        exact hex2 S_2 hok hG.symm _ _ w ls (lv_sub hl [0] rfl)
      · have t5 : v1_2.toInt < 9 := qt_nle c5
        rw [if_neg c5] at hG
        refine lv_iload_n hx hb dX3_seekNewSmell_8 rfl (lv_at hl 1 rfl) ?_
        refine lv_iconst (v := 1) hx hb dX3_seekNewSmell_9 (by decide) ?_
        refine lv_iadd hx hb dX3_seekNewSmell_10 ?_
        refine lv_istore_n (lv' := [(2, .int (v1_2 + 1)), (0, .ref (ad 0)), (1, .int v1_2)]) hx hb dX3_seekNewSmell_11 rfl hl (by decide) rfl (fun ls hl => ?_)
        have L12 : ∀ (n : Nat) (res12 : St), ∀ (v2_12 : Int32), ∀ (S_12 : St), ((OkC S_12) ∧ (0 ≤ v2_12.toInt ∧ v2_12.toInt ≤ 9)) → (9 - v2_12.toInt).toNat < n → (lp_X3_seekNewSmell_12 v1_2 n v2_12 S_12) = res12 → (∀ (S_12e : St), (OkC S_12e) → res12 = S_12e → ∀ (H : Heap) (locs : List Loc), CW 41 (eC ad) ad D (CA 41 ad sz) s.heap S_12e H locs → ∀ ls : Array Slot, lv_has ls 3 [(0, .ref (ad 0)), (1, .int v1_2)] → W p l e (headSpec wsX3_seekNewSmell ({ frames := 3, cells := 0, slots := 0, locals := 74 })).room s m ([.ref (ad 0)] : List Value).toArray below meth c H locs 0 0 (MQ below (QWv 41 (eC ad) ad D T (CA 41 ad sz)) ([.ref (ad 0)] : List Value).toArray s 0 0 (CA 41 ad sz)) (F0 m 30 ls [])) → ∀ (H : Heap) (locs : List Loc), CW 41 (eC ad) ad D (CA 41 ad sz) s.heap S_12 H locs → ∀ ls : Array Slot, lv_has ls 3 [(0, .ref (ad 0)), (1, .int v1_2), (2, .int v2_12)] → W p l e (headSpec wsX3_seekNewSmell ({ frames := 3, cells := 0, slots := 0, locals := 74 })).room s m ([.ref (ad 0)] : List Value).toArray below meth c H locs 0 0 (MQ below (QWv 41 (eC ad) ad D T (CA 41 ad sz)) ([.ref (ad 0)] : List Value).toArray s 0 0 (CA 41 ad sz)) (F0 m 12 ls []) := by
          intro n
          induction n with
          | zero => intro _ _ _ _ hm; exact absurd hm (Nat.not_lt_zero _)
          | succ n ih12 =>
            intro res12 v2_12 S_12 hI12 hm12 hG hex12 H locs w ls hl
            obtain ⟨hok, i12_1⟩ := id hI12
            have okf0 := hok.1
            have okf1 := hok.2.1
            have okf2 := hok.2.2.1
            have okf3 := hok.2.2.2.1
            have okf4 := hok.2.2.2.2.1
            have okf5 := hok.2.2.2.2.2
            rw [lp_X3_seekNewSmell_12] at hG
            refine lv_iload_n hx hb dX3_seekNewSmell_12 rfl (lv_at hl 2 rfl) ?_
            refine lv_bipush (v := 9) hx hb dX3_seekNewSmell_13 (by decide) ?_
            refine lv_icmp_ge (tgt := 30) hx hb dX3_seekNewSmell_15 (by decide) (fun c15 => ?_) (fun c15 => ?_)
            · have t15 : 9 ≤ v2_12.toInt := qt_le c15
              rw [if_pos c15] at hG
              exact hex12 S_12 hok hG.symm _ _ w ls (lv_sub hl [0, 1] rfl)
            · have t15 : v2_12.toInt < 9 := qt_nle c15
              rw [if_neg c15] at hG
              refine lv_aload_n hx hb dX3_seekNewSmell_18 rfl (lv_at hl 0 rfl) ?_
              refine lv_iload_n hx hb dX3_seekNewSmell_19 rfl (lv_at hl 1 rfl) ?_
              refine lv_iload_n hx hb dX3_seekNewSmell_20 rfl (lv_at hl 2 rfl) ?_
              refine callWv w (va_runV (As := [.int v1_2, .int v2_12]) (rest := []) S (c_X3_tryStrengths l ad D H.size S_12 v1_2 v2_12 hok (by omega) (by omega)) (cwV 2 S.2.2.2.2 gX3_seekNewSmell_X3_tryStrengths rfl rfl rfl ⟨rfl, hd_X3_tryStrengths⟩ ⟨Nat.le_of_ble_eq_true rfl, Nat.le_of_ble_eq_true rfl⟩) (preV hK hN w (k := 0) (by decide) (eC_0 ad _) (q := (RX3, TX3, 14)) rfl) rfl rfl hl.1 rfl (lv_room (Nat.le_of_ble_eq_true rfl)) dX3_seekNewSmell_21 ⟨Nat.zero_le _, Nat.zero_le _⟩) (fun H locs w => ?_)
              have hok : OkC (f_X3_tryStrengths S_12 v1_2 v2_12) := ok_X3_tryStrengths hok
              have okf0 := hok.1
              have okf1 := hok.2.1
              have okf2 := hok.2.2.1
              have okf3 := hok.2.2.2.1
              have okf4 := hok.2.2.2.2.1
              have okf5 := hok.2.2.2.2.2
              refine lv_iinc (v := (v2_12 + 1)) (lv' := [(2, .int (v2_12 + 1)), (0, .ref (ad 0)), (1, .int v1_2)]) hx hb dX3_seekNewSmell_24 hl (k := 2) rfl rfl (by decide) rfl (fun ls hl => ?_)
              refine lv_goto (tgt := 12) hx hb dX3_seekNewSmell_27 (by decide) ?_
              have b2_12 : (v2_12 + 1).toInt = v2_12.toInt + 1 := inc_toInt (by omega) (by omega)
              exact ih12 _ (v2_12 + 1) (f_X3_tryStrengths S_12 v1_2 v2_12) ⟨hok, (by omega)⟩ (by omega) hG hex12 _ _ w ls (lv_sub hl [1, 2, 0] rfl)
        have e12 := inc_toInt (a := v1_2) (by omega) (by omega)
        refine L12 200 _ (v1_2 + 1) S_2 ⟨hok, (by omega)⟩ (by omega) rfl (fun S_12e hok hr12 H locs w ls hl => ?_) _ _ w ls (lv_sub hl [1, 2, 0] rfl)
        rw [hr12] at hG
        have okf0 := hok.1
        have okf1 := hok.2.1
        have okf2 := hok.2.2.1
        have okf3 := hok.2.2.2.1
        have okf4 := hok.2.2.2.2.1
        have okf5 := hok.2.2.2.2.2
        refine lv_iinc (v := (v1_2 + 1)) (lv' := [(1, .int (v1_2 + 1)), (0, .ref (ad 0))]) hx hb dX3_seekNewSmell_30 hl (k := 1) rfl rfl (by decide) rfl (fun ls hl => ?_)
        refine lv_goto (tgt := 2) hx hb dX3_seekNewSmell_33 (by decide) ?_
        have b1_2 : (v1_2 + 1).toInt = v1_2.toInt + 1 := inc_toInt (by omega) (by omega)
        exact ih2 _ (v1_2 + 1) S_12e ⟨hok, (by omega)⟩ (by omega) hG hex2 _ _ w ls (lv_sub hl [1, 0] rfl)
  refine L2 200 _ 0 σ ⟨hok, (by omega)⟩ (by omega) rfl (fun S_2e hok hr2 H locs w ls hl => ?_) _ _ w ls (lv_sub hl [1, 0] rfl)
  rw [hr2] at hG
  have okf0 := hok.1
  have okf1 := hok.2.1
  have okf2 := hok.2.2.1
  have okf3 := hok.2.2.2.1
  have okf4 := hok.2.2.2.2.1
  have okf5 := hok.2.2.2.2.2
  exact endWv S hr hlocks w hG dX3_seekNewSmell_36
set_option maxHeartbeats 4000000 in
set_option maxRecDepth 100000 in
theorem c_X3_fresh (l : Launch) (ad : Nat → Nat) (D : va_G) (sz : Nat) (σ : St) (p1 : Int32) (hok : OkC σ) : Met l yX3_fresh wsX3_fresh ({ frames := 4, cells := 0, slots := 0, locals := 96 }) (PreW 41 (eC ad) ad D (tyC ad) σ sz ([.ref (ad 0), .int p1] : List Value)) (QWi 41 (eC ad) ad D (f_X3_fresh σ p1) (CA 41 ad sz)) 0 0 (CA 41 ad sz) := by
  generalize hG : f_X3_fresh σ p1 = T
  refine headW (cc := cX3_fresh) (maxL := 2) (ret := (some .int)) ([.ref (ad 0), .int p1] : List Value) (by decide) rfl (Nat.le_of_ble_eq_true rfl) ?_
  intro p e s m below meth c S hr hlocks hK hN hsz w ls hl
  have S : CallFix p m c cX3_fresh 2 s ([.ref (ad 0), .int p1] : List Value).toArray wsX3_fresh RX3 := S
  have hx := S.1
  have hb := S.2.1
  have z0 : (0 : Int32).toInt = 0 := by decide
  have z1 : (1 : Int32).toInt = 1 := by decide
  have hl : lv_has ls 2 [(0, .ref (ad 0)), (1, .int p1)] := hl
  have hinX3 : ∀ w ∈ wsX30, w ∈ wsX3_fresh := (fun _ h => List.mem_cons_of_mem _ (List.mem_append_left _ (List.mem_append_right _ h)))
  have hinX2 : ∀ w ∈ wsX20, w ∈ wsX3_fresh := (fun _ h => List.mem_cons_of_mem _ (List.mem_append_right _ h))
  have okf0 := hok.1
  have okf1 := hok.2.1
  have okf2 := hok.2.2.1
  have okf3 := hok.2.2.2.1
  have okf4 := hok.2.2.2.2.1
  have okf5 := hok.2.2.2.2.2
  rw [f_X3_fresh] at hG
  refine lv_iload_n hx hb dX3_fresh_0 rfl (lv_at hl 1 rfl) ?_
  refine lv_if_lt (tgt := 13) hx hb dX3_fresh_1 (by decide) (fun c1 => ?_) (fun c1 => ?_)
  · have t1 : p1.toInt < 0 := qt_lt c1
    rw [if_pos c1] at hG
    refine lv_bipush (v := (-2)) hx hb dX3_fresh_13 (by decide) ?_
    exact endWi S hr hlocks w hG dX3_fresh_15
  · have t1 : 0 ≤ p1.toInt := qt_nlt c1
    rw [if_neg c1] at hG
    refine lv_iload_n hx hb dX3_fresh_4 rfl (lv_at hl 1 rfl) ?_
    refine lv_aload_n hx hb dX3_fresh_5 rfl (lv_at hl 0 rfl) ?_
    refine r_get (C := RX3) (T := TX3) (N := 14) S hK w (k := 0) (by decide) (eC_0 ad _) rfl hinX3 13 (by decide) (List.mem_of_getElem? (i := 1) rfl) rfl dX3_fresh_6 ?_
    refine r_alen S hK w (k := 8) (by decide) (fun f => eC_8 ad f) rfl (v := 5) (by decide) dX3_fresh_9 ?_
    refine lv_icmp_lt (tgt := 16) hx hb dX3_fresh_10 (by decide) (fun c10 => ?_) (fun c10 => ?_)
    · have t10 : p1.toInt < 5 := qt_lt c10
      rw [if_pos c10] at hG
      refine lv_aload_n hx hb dX3_fresh_16 rfl (lv_at hl 0 rfl) ?_
      refine r_get (C := RX3) (T := TX3) (N := 14) S hK w (k := 0) (by decide) (eC_0 ad _) rfl hinX3 4 (by decide) (List.mem_of_getElem? (i := 2) rfl) rfl dX3_fresh_17 ?_
      refine lv_if_ne (tgt := 26) hx hb dX3_fresh_20 (by decide) (fun c20 => ?_) (fun c20 => ?_)
      · have t20 : (σ 0 4).toInt ≠ 0 := qt_ne c20
        rw [if_neg c20] at hG
        refine lv_aload_n hx hb dX3_fresh_26 rfl (lv_at hl 0 rfl) ?_
        refine r_get (C := RX3) (T := TX3) (N := 14) S hK w (k := 0) (by decide) (eC_0 ad _) rfl hinX3 13 (by decide) (List.mem_of_getElem? (i := 1) rfl) rfl dX3_fresh_27 ?_
        refine lv_iconst (v := 0) hx hb dX3_fresh_30 (by decide) ?_
        have g31 : vp_in 0 5 := vpi (by decide) (by decide)
        refine r_iald (cA := ad 100) (N := 5) S hK w (k := 8) (by decide) (fun f => eC_8 ad f) rfl g31 dX3_fresh_31 ?_
        refine lv_iconst (v := (-1)) hx hb dX3_fresh_32 (by decide) ?_
        refine lv_icmp_ne (tgt := 40) hx hb dX3_fresh_33 (by decide) (fun c33 => ?_) (fun c33 => ?_)
        · have t33 : (σ 8 (ix 0)).toInt ≠ -1 := qt_ne c33
          rw [if_neg c33] at hG
          refine lv_aload_n hx hb dX3_fresh_40 rfl (lv_at hl 0 rfl) ?_
          refine r_get (C := RX3) (T := TX3) (N := 14) S hK w (k := 0) (by decide) (eC_0 ad _) rfl hinX3 13 (by decide) (List.mem_of_getElem? (i := 1) rfl) rfl dX3_fresh_41 ?_
          refine lv_iload_n hx hb dX3_fresh_44 rfl (lv_at hl 1 rfl) ?_
          have g45 : vp_in p1 5 := vpi (by omega) (by omega)
          refine r_iald (cA := ad 100) (N := 5) S hK w (k := 8) (by decide) (fun f => eC_8 ad f) rfl g45 dX3_fresh_45 ?_
          exact endWi S hr hlocks w hG dX3_fresh_46
        · have t33 : (σ 8 (ix 0)).toInt = -1 := qt_eq c33
          rw [if_pos c33] at hG
          refine lv_aload_n hx hb dX3_fresh_36 rfl (lv_at hl 0 rfl) ?_
          refine callWv w (va_runV (As := []) (rest := []) S (c_X3_seekNewSmell l ad D s.heap.size σ hok) (cwV 0 S.2.2.2.2 gX3_fresh_X3_seekNewSmell rfl rfl rfl ⟨rfl, hd_X3_seekNewSmell⟩ ⟨Nat.le_of_ble_eq_true rfl, Nat.le_of_ble_eq_true rfl⟩) (preV hK hN w (k := 0) (by decide) (eC_0 ad _) (q := (RX3, TX3, 14)) rfl) rfl rfl hl.1 rfl (lv_room (Nat.le_of_ble_eq_true rfl)) dX3_fresh_37 ⟨Nat.zero_le _, Nat.zero_le _⟩) (fun H locs w => ?_)
          refine lv_aload_n hx hb dX3_fresh_40 rfl (lv_at hl 0 rfl) ?_
          refine r_get (C := RX3) (T := TX3) (N := 14) S hK w (k := 0) (by decide) (eC_0 ad _) rfl hinX3 13 (by decide) (List.mem_of_getElem? (i := 1) rfl) rfl dX3_fresh_41 ?_
          refine lv_iload_n hx hb dX3_fresh_44 rfl (lv_at hl 1 rfl) ?_
          have g45 : vp_in p1 5 := vpi (by omega) (by omega)
          refine r_iald (cA := ad 100) (N := 5) S hK w (k := 8) (by decide) (fun f => eC_8 ad f) rfl g45 dX3_fresh_45 ?_
          exact endWi S hr hlocks w hG dX3_fresh_46
      · have t20 : (σ 0 4).toInt = 0 := qt_eq c20
        rw [if_pos c20] at hG
        refine lv_bipush (v := (-3)) hx hb dX3_fresh_23 (by decide) ?_
        exact endWi S hr hlocks w hG dX3_fresh_25
    · have t10 : 5 ≤ p1.toInt := qt_nlt c10
      rw [if_neg c10] at hG
      refine lv_bipush (v := (-2)) hx hb dX3_fresh_13 (by decide) ?_
      exact endWi S hr hlocks w hG dX3_fresh_15
set_option maxHeartbeats 4000000 in
set_option maxRecDepth 100000 in
theorem c_X3_isDoor (l : Launch) (ad : Nat → Nat) (D : va_G) (sz : Nat) (σ : St) (p1 : Nat) (p2 : Int32) (p3 : Int32) (hp1 : p1 < 4) (hb1 : 0 ≤ p2.toInt ∧ p2.toInt + 9 ≤ 90) : Met l yX3_isDoor wsX3_isDoor ({ frames := 0, cells := 0, slots := 0, locals := 0 }) (PreW 41 (eC ad) ad D (tyC ad) σ sz ([.ref (ad (9 + p1)), .int p2, .int p3] : List Value)) (Q0i (f_X3_isDoor σ p1 p2 p3)) 0 0 N0 := by
  generalize hG : f_X3_isDoor σ p1 p2 p3 = T
  refine headW (cc := cX3_isDoor) (maxL := 5) (ret := (some .boolean)) ([.ref (ad (9 + p1)), .int p2, .int p3] : List Value) (by decide) rfl (Nat.le_of_ble_eq_true rfl) ?_
  intro p e s m below meth c S hr hlocks hK hN hsz w ls hl
  have S : CallFix p m c cX3_isDoor 5 s ([.ref (ad (9 + p1)), .int p2, .int p3] : List Value).toArray wsX3_isDoor RX3 := S
  have hx := S.1
  have hb := S.2.1
  have z0 : (0 : Int32).toInt = 0 := by decide
  have z1 : (1 : Int32).toInt = 1 := by decide
  have hl : lv_has ls 5 [(0, .ref (ad (9 + p1))), (1, .int p2), (2, .int p3)] := hl
  have hinX1 : ∀ w ∈ wsX10, w ∈ wsX3_isDoor := (fun _ h => List.mem_cons_of_mem _ (List.mem_append_right _ h))
  rw [f_X3_isDoor] at hG
  refine lv_iconst (v := 0) hx hb dX3_isDoor_0 (by decide) ?_
  refine lv_istore_n (lv' := [(3, .int 0), (0, .ref (ad (9 + p1))), (1, .int p2), (2, .int p3)]) hx hb dX3_isDoor_1 rfl hl (by decide) rfl (fun ls hl => ?_)
  have L2 : ∀ (n : Nat) (res2 : (Int32) ⊕ (Unit)), ∀ (v3_2 : Int32), ((0 ≤ v3_2.toInt ∧ v3_2.toInt ≤ 9)) → (9 - v3_2.toInt).toNat < n → (lp_X3_isDoor_2 σ p1 p2 p3 n v3_2) = res2 → (∀ r : Int32, res2 = Sum.inl r → r = T) → (res2 = Sum.inr () → ∀ ls : Array Slot, lv_has ls 5 [(2, .int p3)] → W p l e (headSpec wsX3_isDoor ({ frames := 0, cells := 0, slots := 0, locals := 0 })).room s m ([.ref (ad (9 + p1)), .int p2, .int p3] : List Value).toArray below meth c s.heap [] 0 0 (MQ below (Q0i T) ([.ref (ad (9 + p1)), .int p2, .int p3] : List Value).toArray s 0 0 N0) (F0 m 38 ls [])) → ∀ ls : Array Slot, lv_has ls 5 [(0, .ref (ad (9 + p1))), (1, .int p2), (2, .int p3), (3, .int v3_2)] → W p l e (headSpec wsX3_isDoor ({ frames := 0, cells := 0, slots := 0, locals := 0 })).room s m ([.ref (ad (9 + p1)), .int p2, .int p3] : List Value).toArray below meth c s.heap [] 0 0 (MQ below (Q0i T) ([.ref (ad (9 + p1)), .int p2, .int p3] : List Value).toArray s 0 0 N0) (F0 m 2 ls []) := by
    intro n
    induction n with
    | zero => intro _ _ _ hm; exact absurd hm (Nat.not_lt_zero _)
    | succ n ih2 =>
      intro res2 v3_2 hI2 hm2 hG hret2 hex2 ls hl
      have i2_0 := hI2
      rw [lp_X3_isDoor_2] at hG
      refine lv_iload_n hx hb dX3_isDoor_2 rfl (lv_at hl 3 rfl) ?_
      refine lv_bipush (v := 9) hx hb dX3_isDoor_3 (by decide) ?_
      refine lv_icmp_ge (tgt := 38) hx hb dX3_isDoor_5 (by decide) (fun c5 => ?_) (fun c5 => ?_)
      · have t5 : 9 ≤ v3_2.toInt := qt_le c5
        rw [if_pos c5] at hG
        exact hex2  hG.symm ls (lv_sub hl [2] rfl)
      · have t5 : v3_2.toInt < 9 := qt_nle c5
        rw [if_neg c5] at hG
        refine lv_aload_n hx hb dX3_isDoor_8 rfl (lv_at hl 0 rfl) ?_
        refine r_getN (C := RX1) (T := TX1) (N := 4) S hK hN w (k := (9 + p1)) (Nat.lt_of_lt_of_le (Nat.add_lt_add_left hp1 9) (by decide)) (eC_sh ad hp1 _) rfl hinX1 3 (by decide) 2 rfl rfl dX3_isDoor_9 ?_
        refine lv_iload_n hx hb dX3_isDoor_12 rfl (lv_at hl 1 rfl) ?_
        refine lv_iload_n hx hb dX3_isDoor_13 rfl (lv_at hl 3 rfl) ?_
        refine lv_iadd hx hb dX3_isDoor_14 ?_
        have e14 := a_toInt (a := p2) (b := v3_2) (by omega) (by omega)
        have g15 : vp_in (p2 + v3_2) 90 := vpi (by omega) (by omega)
        refine r_iald (cA := ad 100) (N := 90) S hK w (k := (13 + p1)) (Nat.lt_of_lt_of_le (Nat.add_lt_add_left hp1 13) (by decide)) (fun f => eC_sc ad hp1 f) rfl g15 dX3_isDoor_15 ?_
        refine lv_istore (lv' := [(4, .int (σ (13 + p1) (ix (p2 + v3_2)))), (0, .ref (ad (9 + p1))), (1, .int p2), (2, .int p3), (3, .int v3_2)]) hx hb dX3_isDoor_16 hl (by decide) rfl (fun ls hl => ?_)
        refine lv_iload hx hb dX3_isDoor_18 (lv_at hl 0 rfl) ?_
        refine lv_if_lt (tgt := 30) hx hb dX3_isDoor_20 (by decide) (fun c20 => ?_) (fun c20 => ?_)
        · have t20 : (σ (13 + p1) (ix (p2 + v3_2))).toInt < 0 := qt_lt c20
          rw [if_pos c20] at hG
          refine lv_iconst (v := 0) hx hb dX3_isDoor_30 (by decide) ?_
          exact end0z S hr hlocks (Or.inl rfl) (hret2 _ hG.symm) dX3_isDoor_31
        · have t20 : 0 ≤ (σ (13 + p1) (ix (p2 + v3_2))).toInt := qt_nlt c20
          rw [if_neg c20] at hG
          refine lv_iload hx hb dX3_isDoor_23 (lv_at hl 0 rfl) ?_
          refine lv_bipush (v := 99) hx hb dX3_isDoor_25 (by decide) ?_
          refine lv_icmp_le (tgt := 32) hx hb dX3_isDoor_27 (by decide) (fun c27 => ?_) (fun c27 => ?_)
          · have t27 : (σ (13 + p1) (ix (p2 + v3_2))).toInt ≤ 99 := qt_le c27
            rw [if_pos c27] at hG
            refine lv_iinc (v := (v3_2 + 1)) (lv' := [(3, .int (v3_2 + 1)), (4, .int (σ (13 + p1) (ix (p2 + v3_2)))), (0, .ref (ad (9 + p1))), (1, .int p2), (2, .int p3)]) hx hb dX3_isDoor_32 hl (k := 4) rfl rfl (by decide) rfl (fun ls hl => ?_)
            refine lv_goto (tgt := 2) hx hb dX3_isDoor_35 (by decide) ?_
            have b3_2 : (v3_2 + 1).toInt = v3_2.toInt + 1 := inc_toInt (by omega) (by omega)
            exact ih2 _ (v3_2 + 1) (by omega) (by omega) hG hret2 hex2 ls (lv_sub hl [2, 3, 4, 0] rfl)
          · have t27 : 99 < (σ (13 + p1) (ix (p2 + v3_2))).toInt := qt_nle c27
            rw [if_neg c27] at hG
            refine lv_iconst (v := 0) hx hb dX3_isDoor_30 (by decide) ?_
            exact end0z S hr hlocks (Or.inl rfl) (hret2 _ hG.symm) dX3_isDoor_31
  refine L2 200 _ 0 (by omega) (by omega) rfl (fun r hr2 => by rw [hr2] at hG; exact hG) (fun hr2 ls hl => ?_) ls (lv_sub hl [1, 2, 3, 0] rfl)
  rw [hr2] at hG
  dsimp only at hG
  refine lv_iload_n hx hb dX3_isDoor_38 rfl (lv_at hl 0 rfl) ?_
  refine lv_if_lt (tgt := 51) hx hb dX3_isDoor_39 (by decide) (fun c39 => ?_) (fun c39 => ?_)
  · have t39 : p3.toInt < 0 := qt_lt c39
    rw [if_pos c39] at hG
    refine lv_iconst (v := 0) hx hb dX3_isDoor_51 (by decide) ?_
    exact end0z S hr hlocks (Or.inl rfl) hG dX3_isDoor_52
  · have t39 : 0 ≤ p3.toInt := qt_nlt c39
    rw [if_neg c39] at hG
    refine lv_iload_n hx hb dX3_isDoor_42 rfl (lv_at hl 0 rfl) ?_
    refine lv_iconst (v := 3) hx hb dX3_isDoor_43 (by decide) ?_
    refine lv_icmp_gt (tgt := 51) hx hb dX3_isDoor_44 (by decide) (fun c44 => ?_) (fun c44 => ?_)
    · have t44 : 3 < p3.toInt := qt_lt c44
      rw [if_pos c44] at hG
      refine lv_iconst (v := 0) hx hb dX3_isDoor_51 (by decide) ?_
      exact end0z S hr hlocks (Or.inl rfl) hG dX3_isDoor_52
    · have t44 : p3.toInt ≤ 3 := qt_nlt c44
      rw [if_neg c44] at hG
      refine lv_iconst (v := 1) hx hb dX3_isDoor_47 (by decide) ?_
      refine lv_goto (tgt := 52) hx hb dX3_isDoor_48 (by decide) ?_
      exact end0z S hr hlocks (Or.inr rfl) hG dX3_isDoor_52
set_option maxHeartbeats 4000000 in
set_option maxRecDepth 100000 in
theorem c_X3_leftFrom (l : Launch) (ad : Nat → Nat) (D : va_G) (sz : Nat) (σ : St) (p1 : Nat) (p2 : Int32) (p3 : Nat) (p4 : Int32) (hok : OkC σ) (hp1 : p1 < 8) (hp3 : p3 < 4) (hb1 : 0 ≤ p4.toInt ∧ p4.toInt + 9 ≤ 90) : Met l yX3_leftFrom wsX3_leftFrom ({ frames := 2, cells := 0, slots := 0, locals := 48 }) (PreW 41 (eC ad) ad D (tyC ad) σ sz ([.ref (ad 0), .ref (ad (17 + p1)), .int p2, .ref (ad (9 + p3)), .int p4] : List Value)) (Q0i (f_X3_leftFrom σ p1 p2 p3 p4)) 0 0 N0 := by
  generalize hG : f_X3_leftFrom σ p1 p2 p3 p4 = T
  refine headW (cc := cX3_leftFrom) (maxL := 8) (ret := (some .int)) ([.ref (ad 0), .ref (ad (17 + p1)), .int p2, .ref (ad (9 + p3)), .int p4] : List Value) (by decide) rfl (Nat.le_of_ble_eq_true rfl) ?_
  intro p e s m below meth c S hr hlocks hK hN hsz w ls hl
  have S : CallFix p m c cX3_leftFrom 8 s ([.ref (ad 0), .ref (ad (17 + p1)), .int p2, .ref (ad (9 + p3)), .int p4] : List Value).toArray wsX3_leftFrom RX3 := S
  have hx := S.1
  have hb := S.2.1
  have z0 : (0 : Int32).toInt = 0 := by decide
  have z1 : (1 : Int32).toInt = 1 := by decide
  have hl : lv_has ls 8 [(0, .ref (ad 0)), (1, .ref (ad (17 + p1))), (2, .int p2), (3, .ref (ad (9 + p3))), (4, .int p4)] := hl
  have hinX2 : ∀ w ∈ wsX20, w ∈ wsX3_leftFrom := (fun _ h => List.mem_cons_of_mem _ (List.mem_append_left _ (List.mem_append_left _ (List.mem_append_right _ h))))
  have hinX1 : ∀ w ∈ wsX10, w ∈ wsX3_leftFrom := (fun _ h => List.mem_cons_of_mem _ (List.mem_append_left _ (List.mem_append_right _ h)))
  have hinX3 : ∀ w ∈ wsX30, w ∈ wsX3_leftFrom := (fun _ h => List.mem_cons_of_mem _ (List.mem_append_right _ h))
  have okf0 := hok.1
  have okf1 := hok.2.1
  have okf2 := hok.2.2.1
  have okf3 := hok.2.2.2.1
  have okf4 := hok.2.2.2.2.1
  have okf5 := hok.2.2.2.2.2
  rw [f_X3_leftFrom] at hG
  refine lv_iconst (v := 0) hx hb dX3_leftFrom_0 (by decide) ?_
  refine lv_istore (lv' := [(5, .int 0), (0, .ref (ad 0)), (1, .ref (ad (17 + p1))), (2, .int p2), (3, .ref (ad (9 + p3))), (4, .int p4)]) hx hb dX3_leftFrom_1 hl (by decide) rfl (fun ls hl => ?_)
  refine lv_iconst (v := 0) hx hb dX3_leftFrom_3 (by decide) ?_
  refine lv_istore (lv' := [(6, .int 0), (5, .int 0), (0, .ref (ad 0)), (1, .ref (ad (17 + p1))), (2, .int p2), (3, .ref (ad (9 + p3))), (4, .int p4)]) hx hb dX3_leftFrom_4 hl (by decide) rfl (fun ls hl => ?_)
  have L6 : ∀ (n : Nat) (res6 : Int32), ∀ (v5_6 : Int32), ∀ (v6_6 : Int32), ((0 ≤ v6_6.toInt ∧ v6_6.toInt ≤ 9)) → (9 - v6_6.toInt).toNat < n → (lp_X3_leftFrom_6 σ p1 p2 p3 p4 n v5_6 v6_6) = res6 → (∀ (v5_6e : Int32), res6 = v5_6e → ∀ ls : Array Slot, lv_has ls 8 [(0, .ref (ad 0)), (5, .int v5_6e)] → W p l e (headSpec wsX3_leftFrom ({ frames := 2, cells := 0, slots := 0, locals := 48 })).room s m ([.ref (ad 0), .ref (ad (17 + p1)), .int p2, .ref (ad (9 + p3)), .int p4] : List Value).toArray below meth c s.heap [] 0 0 (MQ below (Q0i T) ([.ref (ad 0), .ref (ad (17 + p1)), .int p2, .ref (ad (9 + p3)), .int p4] : List Value).toArray s 0 0 N0) (F0 m 60 ls [])) → ∀ ls : Array Slot, lv_has ls 8 [(0, .ref (ad 0)), (1, .ref (ad (17 + p1))), (2, .int p2), (3, .ref (ad (9 + p3))), (4, .int p4), (5, .int v5_6), (6, .int v6_6)] → W p l e (headSpec wsX3_leftFrom ({ frames := 2, cells := 0, slots := 0, locals := 48 })).room s m ([.ref (ad 0), .ref (ad (17 + p1)), .int p2, .ref (ad (9 + p3)), .int p4] : List Value).toArray below meth c s.heap [] 0 0 (MQ below (Q0i T) ([.ref (ad 0), .ref (ad (17 + p1)), .int p2, .ref (ad (9 + p3)), .int p4] : List Value).toArray s 0 0 N0) (F0 m 6 ls []) := by
    intro n
    induction n with
    | zero => intro _ _ _ _ hm; exact absurd hm (Nat.not_lt_zero _)
    | succ n ih6 =>
      intro res6 v5_6 v6_6 hI6 hm6 hG hex6 ls hl
      have i6_0 := hI6
      rw [lp_X3_leftFrom_6] at hG
      refine lv_iload hx hb dX3_leftFrom_6 (lv_at hl 6 rfl) ?_
      refine lv_bipush (v := 9) hx hb dX3_leftFrom_8 (by decide) ?_
      refine lv_icmp_ge (tgt := 60) hx hb dX3_leftFrom_10 (by decide) (fun c10 => ?_) (fun c10 => ?_)
      · have t10 : 9 ≤ v6_6.toInt := qt_le c10
        rw [if_pos c10] at hG
        exact hex6 v5_6 hG.symm ls (lv_sub hl [0, 5] rfl)
      · have t10 : v6_6.toInt < 9 := qt_nle c10
        rw [if_neg c10] at hG
        refine lv_aload_n hx hb dX3_leftFrom_13 rfl (lv_at hl 0 rfl) ?_
        refine lv_aload_n hx hb dX3_leftFrom_14 rfl (lv_at hl 1 rfl) ?_
        refine lv_iload hx hb dX3_leftFrom_15 (lv_at hl 6 rfl) ?_
        refine lv_bipush (v := 8) hx hb dX3_leftFrom_17 (by decide) ?_
        refine lv_aload_n hx hb dX3_leftFrom_19 rfl (lv_at hl 1 rfl) ?_
        refine r_getN (C := RX2) (T := TX2) (N := 3) S hK hN w (k := (17 + p1)) (Nat.lt_of_lt_of_le (Nat.add_lt_add_left hp1 17) (by decide)) (eC_sg ad hp1 _) rfl hinX2 2 (by decide) 5 rfl rfl dX3_leftFrom_20 ?_
        refine lv_iload hx hb dX3_leftFrom_23 (lv_at hl 6 rfl) ?_
        have g25 : vp_in v6_6 9 := vpi (by omega) (by omega)
        refine r_iald (cA := ad 100) (N := 9) S hK w (k := (25 + p1)) (Nat.lt_of_lt_of_le (Nat.add_lt_add_left hp1 25) (by decide)) (fun f => eC_st ad hp1 f) rfl g25 dX3_leftFrom_25 ?_
        refine lv_imul hx hb dX3_leftFrom_26 ?_
        refine lv_iload_n hx hb dX3_leftFrom_27 rfl (lv_at hl 2 rfl) ?_
        refine call0i (va_runV (As := [.ref (ad (17 + p1)), .int v6_6, .int (8 * (σ (25 + p1) (ix v6_6))), .int p2]) (rest := []) S (c_X3_fade l ad D s.heap.size σ p1 v6_6 (8 * (σ (25 + p1) (ix v6_6))) p2 hok hp1 (by omega)) (cwV 4 S.2.2.2.2 gX3_leftFrom_X3_fade rfl rfl rfl ⟨rfl, hd_X3_fade⟩ ⟨Nat.le_of_ble_eq_true rfl, Nat.le_of_ble_eq_true rfl⟩) (preV hK hN w (k := 0) (by decide) (eC_0 ad _) (q := (RX3, TX3, 14)) rfl) rfl rfl hl.1 rfl (lv_room (Nat.le_of_ble_eq_true rfl)) dX3_leftFrom_28 ⟨Nat.zero_le _, Nat.zero_le _⟩) ?_
        refine lv_istore (lv' := [(7, .int (f_X3_fade σ p1 v6_6 (8 * (σ (25 + p1) (ix v6_6))) p2)), (0, .ref (ad 0)), (1, .ref (ad (17 + p1))), (2, .int p2), (3, .ref (ad (9 + p3))), (4, .int p4), (5, .int v5_6), (6, .int v6_6)]) hx hb dX3_leftFrom_31 hl (by decide) rfl (fun ls hl => ?_)
        refine lv_iload hx hb dX3_leftFrom_33 (lv_at hl 6 rfl) ?_
        refine lv_iload hx hb dX3_leftFrom_35 (lv_at hl 0 rfl) ?_
        refine lv_aload_n hx hb dX3_leftFrom_37 rfl (lv_at hl 4 rfl) ?_
        refine r_getN (C := RX1) (T := TX1) (N := 4) S hK hN w (k := (9 + p3)) (Nat.lt_of_lt_of_le (Nat.add_lt_add_left hp3 9) (by decide)) (eC_sh ad hp3 _) rfl hinX1 3 (by decide) 2 rfl rfl dX3_leftFrom_38 ?_
        refine lv_iload hx hb dX3_leftFrom_41 (lv_at hl 5 rfl) ?_
        refine lv_iload hx hb dX3_leftFrom_43 (lv_at hl 7 rfl) ?_
        refine lv_iadd hx hb dX3_leftFrom_45 ?_
        have e45 := a_toInt (a := p4) (b := v6_6) (by omega) (by omega)
        have g46 : vp_in (p4 + v6_6) 90 := vpi (by omega) (by omega)
        refine r_iald (cA := ad 100) (N := 90) S hK w (k := (13 + p3)) (Nat.lt_of_lt_of_le (Nat.add_lt_add_left hp3 13) (by decide)) (fun f => eC_sc ad hp3 f) rfl g46 dX3_leftFrom_46 ?_
        refine lv_isub hx hb dX3_leftFrom_47 ?_
        refine r_abs S hl.1 (List.mem_of_getElem? (i := 1) rfl) (List.mem_of_getElem? (i := 2) rfl) (List.mem_of_getElem? (i := 3) rfl) (List.mem_of_getElem? (i := 4) rfl) ⟨Nat.le_of_ble_eq_true rfl, Nat.le_of_ble_eq_true rfl, Nat.zero_le _, Nat.zero_le _⟩ dX3_leftFrom_48 ?_
        refine lv_iadd hx hb dX3_leftFrom_51 ?_
        refine lv_istore (lv' := [(5, .int (v5_6 + (jabs ((f_X3_fade σ p1 v6_6 (8 * (σ (25 + p1) (ix v6_6))) p2) - (σ (13 + p3) (ix (p4 + v6_6))))))), (7, .int (f_X3_fade σ p1 v6_6 (8 * (σ (25 + p1) (ix v6_6))) p2)), (0, .ref (ad 0)), (1, .ref (ad (17 + p1))), (2, .int p2), (3, .ref (ad (9 + p3))), (4, .int p4), (6, .int v6_6)]) hx hb dX3_leftFrom_52 hl (by decide) rfl (fun ls hl => ?_)
        refine lv_iinc (v := (v6_6 + 1)) (lv' := [(6, .int (v6_6 + 1)), (5, .int (v5_6 + (jabs ((f_X3_fade σ p1 v6_6 (8 * (σ (25 + p1) (ix v6_6))) p2) - (σ (13 + p3) (ix (p4 + v6_6))))))), (7, .int (f_X3_fade σ p1 v6_6 (8 * (σ (25 + p1) (ix v6_6))) p2)), (0, .ref (ad 0)), (1, .ref (ad (17 + p1))), (2, .int p2), (3, .ref (ad (9 + p3))), (4, .int p4)]) hx hb dX3_leftFrom_54 hl (k := 7) rfl rfl (by decide) rfl (fun ls hl => ?_)
        refine lv_goto (tgt := 6) hx hb dX3_leftFrom_57 (by decide) ?_
        have b6_6 : (v6_6 + 1).toInt = v6_6.toInt + 1 := inc_toInt (by omega) (by omega)
        exact ih6 _ (v5_6 + (jabs ((f_X3_fade σ p1 v6_6 (8 * (σ (25 + p1) (ix v6_6))) p2) - (σ (13 + p3) (ix (p4 + v6_6)))))) (v6_6 + 1) (by omega) (by omega) hG hex6 ls (lv_sub hl [3, 4, 5, 6, 7, 1, 0] rfl)
  refine L6 200 _ 0 0 (by omega) (by omega) rfl (fun v5_6e hr6 ls hl => ?_) ls (lv_sub hl [2, 3, 4, 5, 6, 1, 0] rfl)
  rw [hr6] at hG
  refine lv_iload hx hb dX3_leftFrom_60 (lv_at hl 1 rfl) ?_
  exact end0i S hr hlocks hG dX3_leftFrom_62
end
section
set_option maxHeartbeats 4000000 in
set_option maxRecDepth 100000 in
theorem c_X3_countHours (l : Launch) (ad : Nat → Nat) (D : va_G) (sz : Nat) (σ : St) (p1 : Int32) (p2 : Nat) (p3 : Int32) (hok : OkC σ) (hp2 : p2 < 4) (hb1 : 0 ≤ p3.toInt ∧ p3.toInt + 9 ≤ 90) : Met l yX3_countHours wsX3_countHours ({ frames := 3, cells := 0, slots := 0, locals := 75 }) (PreW 41 (eC ad) ad D (tyC ad) σ sz ([.ref (ad 0), .int p1, .ref (ad (9 + p2)), .int p3] : List Value)) (QWi 41 (eC ad) ad D (f_X3_countHours σ p1 p2 p3) (CA 41 ad sz)) 0 0 (CA 41 ad sz) := by
  generalize hG : f_X3_countHours σ p1 p2 p3 = T
  refine headW (cc := cX3_countHours) (maxL := 7) (ret := (some .int)) ([.ref (ad 0), .int p1, .ref (ad (9 + p2)), .int p3] : List Value) (by decide) rfl (Nat.le_of_ble_eq_true rfl) ?_
  intro p e s m below meth c S hr hlocks hK hN hsz w ls hl
  have S : CallFix p m c cX3_countHours 7 s ([.ref (ad 0), .int p1, .ref (ad (9 + p2)), .int p3] : List Value).toArray wsX3_countHours RX3 := S
  have hx := S.1
  have hb := S.2.1
  have z0 : (0 : Int32).toInt = 0 := by decide
  have z1 : (1 : Int32).toInt = 1 := by decide
  have hl : lv_has ls 7 [(0, .ref (ad 0)), (1, .int p1), (2, .ref (ad (9 + p2))), (3, .int p3)] := hl
  have hinX3 : ∀ w ∈ wsX30, w ∈ wsX3_countHours := (fun _ h => List.mem_cons_of_mem _ (List.mem_append_left _ (List.mem_append_left _ (List.mem_append_right _ h))))
  have hinX2 : ∀ w ∈ wsX20, w ∈ wsX3_countHours := (fun _ h => List.mem_cons_of_mem _ (List.mem_append_left _ (List.mem_append_right _ h)))
  have hinX1 : ∀ w ∈ wsX10, w ∈ wsX3_countHours := (fun _ h => List.mem_cons_of_mem _ (List.mem_append_right _ h))
  have okf0 := hok.1
  have okf1 := hok.2.1
  have okf2 := hok.2.2.1
  have okf3 := hok.2.2.2.1
  have okf4 := hok.2.2.2.2.1
  have okf5 := hok.2.2.2.2.2
  rw [f_X3_countHours] at hG
  refine lv_iconst (v := 0) hx hb dX3_countHours_0 (by decide) ?_
  refine lv_istore (lv' := [(4, .int 0), (0, .ref (ad 0)), (1, .int p1), (2, .ref (ad (9 + p2))), (3, .int p3)]) hx hb dX3_countHours_1 hl (by decide) rfl (fun ls hl => ?_)
  refine lv_iconst (v := 0) hx hb dX3_countHours_3 (by decide) ?_
  refine lv_istore (lv' := [(5, .int 0), (4, .int 0), (0, .ref (ad 0)), (1, .int p1), (2, .ref (ad (9 + p2))), (3, .int p3)]) hx hb dX3_countHours_4 hl (by decide) rfl (fun ls hl => ?_)
  have L6 : ∀ (n : Nat) (res6 : Int32 × St), ∀ (v4_6 : Int32), ∀ (v5_6 : Int32), ∀ (S_6 : St), ((OkC S_6) ∧ (0 ≤ v5_6.toInt ∧ v5_6.toInt ≤ 8)) → (8 - v5_6.toInt).toNat < n → (lp_X3_countHours_6 p1 p2 p3 n v4_6 v5_6 S_6) = res6 → (∀ (v4_6e : Int32), ∀ (S_6e : St), (OkC S_6e) → res6 = (v4_6e, S_6e) → ∀ (H : Heap) (locs : List Loc), CW 41 (eC ad) ad D (CA 41 ad sz) s.heap S_6e H locs → ∀ ls : Array Slot, lv_has ls 7 [(0, .ref (ad 0)), (4, .int v4_6e)] → W p l e (headSpec wsX3_countHours ({ frames := 3, cells := 0, slots := 0, locals := 75 })).room s m ([.ref (ad 0), .int p1, .ref (ad (9 + p2)), .int p3] : List Value).toArray below meth c H locs 0 0 (MQ below (QWi 41 (eC ad) ad D T (CA 41 ad sz)) ([.ref (ad 0), .int p1, .ref (ad (9 + p2)), .int p3] : List Value).toArray s 0 0 (CA 41 ad sz)) (F0 m 95 ls [])) → ∀ (H : Heap) (locs : List Loc), CW 41 (eC ad) ad D (CA 41 ad sz) s.heap S_6 H locs → ∀ ls : Array Slot, lv_has ls 7 [(0, .ref (ad 0)), (1, .int p1), (2, .ref (ad (9 + p2))), (3, .int p3), (4, .int v4_6), (5, .int v5_6)] → W p l e (headSpec wsX3_countHours ({ frames := 3, cells := 0, slots := 0, locals := 75 })).room s m ([.ref (ad 0), .int p1, .ref (ad (9 + p2)), .int p3] : List Value).toArray below meth c H locs 0 0 (MQ below (QWi 41 (eC ad) ad D T (CA 41 ad sz)) ([.ref (ad 0), .int p1, .ref (ad (9 + p2)), .int p3] : List Value).toArray s 0 0 (CA 41 ad sz)) (F0 m 6 ls []) := by
    intro n
    induction n with
    | zero => intro _ _ _ _ _ hm; exact absurd hm (Nat.not_lt_zero _)
    | succ n ih6 =>
      intro res6 v4_6 v5_6 S_6 hI6 hm6 hG hex6 H locs w ls hl
      obtain ⟨hok, i6_1⟩ := id hI6
      have okf0 := hok.1
      have okf1 := hok.2.1
      have okf2 := hok.2.2.1
      have okf3 := hok.2.2.2.1
      have okf4 := hok.2.2.2.2.1
      have okf5 := hok.2.2.2.2.2
      rw [lp_X3_countHours_6] at hG
      refine lv_iload hx hb dX3_countHours_6 (lv_at hl 5 rfl) ?_
      refine lv_aload_n hx hb dX3_countHours_8 rfl (lv_at hl 0 rfl) ?_
      refine r_get (C := RX3) (T := TX3) (N := 14) S hK w (k := 0) (by decide) (eC_0 ad _) rfl hinX3 4 (by decide) (List.mem_of_getElem? (i := 1) rfl) rfl dX3_countHours_9 ?_
      refine lv_icmp_ge (tgt := 95) hx hb dX3_countHours_12 (by decide) (fun c12 => ?_) (fun c12 => ?_)
      · have t12 : (S_6 0 4).toInt ≤ v5_6.toInt := qt_le c12
        rw [if_pos c12] at hG
        exact hex6 v4_6 S_6 hok hG.symm _ _ w ls (lv_sub hl [0, 4] rfl)
      · have t12 : v5_6.toInt < (S_6 0 4).toInt := qt_nle c12
        rw [if_neg c12] at hG
        refine lv_aload_n hx hb dX3_countHours_15 rfl (lv_at hl 0 rfl) ?_
        refine r_get (C := RX3) (T := TX3) (N := 14) S hK w (k := 0) (by decide) (eC_0 ad _) rfl hinX3 12 (by decide) (List.mem_of_getElem? (i := 2) rfl) rfl dX3_countHours_16 ?_
        refine lv_iload hx hb dX3_countHours_19 (lv_at hl 5 rfl) ?_
        refine lv_iconst (v := 0) hx hb dX3_countHours_21 (by decide) ?_
        have g22 : vp_in v5_6 8 := vpi (by omega) (by omega)
        refine r_iast (cA := ad 100) (N := 8) S hK w (k := 7) (by decide) (fun f => eC_7 ad f) rfl g22 dX3_countHours_22 (fun H locs w => ?_)
        have hok : OkC (u2 S_6 7 (ix v5_6) 0) := okC_scr (show scrC 7 by unfold scrC; omega) hok
        have okf0 := hok.1
        have okf1 := hok.2.1
        have okf2 := hok.2.2.1
        have okf3 := hok.2.2.2.1
        have okf4 := hok.2.2.2.2.1
        have okf5 := hok.2.2.2.2.2
        refine lv_iconst (v := 0) hx hb dX3_countHours_23 (by decide) ?_
        refine lv_istore (lv' := [(6, .int 0), (0, .ref (ad 0)), (1, .int p1), (2, .ref (ad (9 + p2))), (3, .int p3), (4, .int v4_6), (5, .int v5_6)]) hx hb dX3_countHours_24 hl (by decide) rfl (fun ls hl => ?_)
        have L26 : ∀ (n : Nat) (res26 : St), ∀ (v6_26 : Int32), ∀ (S_26 : St), ((OkC S_26) ∧ (0 ≤ v6_26.toInt ∧ v6_26.toInt ≤ 10)) → (10 - v6_26.toInt).toNat < n → (lp_X3_countHours_26 p1 p2 p3 v4_6 v5_6 n v6_26 S_26) = res26 → (∀ (S_26e : St), (OkC S_26e) → res26 = S_26e → ∀ (H : Heap) (locs : List Loc), CW 41 (eC ad) ad D (CA 41 ad sz) s.heap S_26e H locs → ∀ ls : Array Slot, lv_has ls 7 [(0, .ref (ad 0)), (1, .int p1), (2, .ref (ad (9 + p2))), (3, .int p3), (4, .int v4_6), (5, .int v5_6)] → W p l e (headSpec wsX3_countHours ({ frames := 3, cells := 0, slots := 0, locals := 75 })).room s m ([.ref (ad 0), .int p1, .ref (ad (9 + p2)), .int p3] : List Value).toArray below meth c H locs 0 0 (MQ below (QWi 41 (eC ad) ad D T (CA 41 ad sz)) ([.ref (ad 0), .int p1, .ref (ad (9 + p2)), .int p3] : List Value).toArray s 0 0 (CA 41 ad sz)) (F0 m 77 ls [])) → ∀ (H : Heap) (locs : List Loc), CW 41 (eC ad) ad D (CA 41 ad sz) s.heap S_26 H locs → ∀ ls : Array Slot, lv_has ls 7 [(0, .ref (ad 0)), (1, .int p1), (2, .ref (ad (9 + p2))), (3, .int p3), (4, .int v4_6), (5, .int v5_6), (6, .int v6_26)] → W p l e (headSpec wsX3_countHours ({ frames := 3, cells := 0, slots := 0, locals := 75 })).room s m ([.ref (ad 0), .int p1, .ref (ad (9 + p2)), .int p3] : List Value).toArray below meth c H locs 0 0 (MQ below (QWi 41 (eC ad) ad D T (CA 41 ad sz)) ([.ref (ad 0), .int p1, .ref (ad (9 + p2)), .int p3] : List Value).toArray s 0 0 (CA 41 ad sz)) (F0 m 26 ls []) := by
          intro n
          induction n with
          | zero => intro _ _ _ _ hm; exact absurd hm (Nat.not_lt_zero _)
          | succ n ih26 =>
            intro res26 v6_26 S_26 hI26 hm26 hG hex26 H locs w ls hl
            obtain ⟨hok, i26_1⟩ := id hI26
            have okf0 := hok.1
            have okf1 := hok.2.1
            have okf2 := hok.2.2.1
            have okf3 := hok.2.2.2.1
            have okf4 := hok.2.2.2.2.1
            have okf5 := hok.2.2.2.2.2
            rw [lp_X3_countHours_26] at hG
            refine lv_iload hx hb dX3_countHours_26 (lv_at hl 6 rfl) ?_
            refine lv_bipush (v := 10) hx hb dX3_countHours_28 (by decide) ?_
            refine lv_icmp_ge (tgt := 77) hx hb dX3_countHours_30 (by decide) (fun c30 => ?_) (fun c30 => ?_)
            · have t30 : 10 ≤ v6_26.toInt := qt_le c30
              rw [if_pos c30] at hG
              exact hex26 S_26 hok hG.symm _ _ w ls (lv_sub hl [0, 1, 2, 3, 4, 5] rfl)
            · have t30 : v6_26.toInt < 10 := qt_nle c30
              rw [if_neg c30] at hG
              refine lv_aload_n hx hb dX3_countHours_33 rfl (lv_at hl 0 rfl) ?_
              refine lv_aload_n hx hb dX3_countHours_34 rfl (lv_at hl 0 rfl) ?_
              refine r_get (C := RX3) (T := TX3) (N := 14) S hK w (k := 0) (by decide) (eC_0 ad _) rfl hinX3 1 (by decide) (List.mem_of_getElem? (i := 3) rfl) rfl dX3_countHours_35 ?_
              refine lv_iload hx hb dX3_countHours_38 (lv_at hl 5 rfl) ?_
              have g40 : vp_in v5_6 8 := vpi (by omega) (by omega)
              refine r_aald S hK w (k := 2) (by decide) (eC_2 ad _) (t0 := 2) rfl g40 dX3_countHours_40 ?_
              refine lv_iload hx hb dX3_countHours_41 (lv_at hl 6 rfl) ?_
              refine lv_iload hx hb dX3_countHours_43 (lv_at hl 6 rfl) ?_
              refine lv_iload_n hx hb dX3_countHours_45 rfl (lv_at hl 1 rfl) ?_
              refine lv_imul hx hb dX3_countHours_46 ?_
              refine lv_iadd hx hb dX3_countHours_47 ?_
              refine lv_aload_n hx hb dX3_countHours_48 rfl (lv_at hl 2 rfl) ?_
              refine lv_iload_n hx hb dX3_countHours_49 rfl (lv_at hl 3 rfl) ?_
              refine call0i (va_runV (As := [.ref (ad (17 + (ix v5_6))), .int (v6_26 + (v6_26 * p1)), .ref (ad (9 + p2)), .int p3]) (rest := []) S (c_X3_leftFrom l ad D H.size S_26 (ix v5_6) (v6_26 + (v6_26 * p1)) p2 p3 hok (vpl g40) hp2 (by omega)) (cwV 4 S.2.2.2.2 gX3_countHours_X3_leftFrom rfl rfl rfl ⟨rfl, hd_X3_leftFrom⟩ ⟨Nat.le_of_ble_eq_true rfl, Nat.le_of_ble_eq_true rfl⟩) (preV hK hN w (k := 0) (by decide) (eC_0 ad _) (q := (RX3, TX3, 14)) rfl) rfl rfl hl.1 rfl (lv_room (Nat.le_of_ble_eq_true rfl)) dX3_countHours_50 ⟨Nat.zero_le _, Nat.zero_le _⟩) ?_
              refine lv_aload_n hx hb dX3_countHours_53 rfl (lv_at hl 0 rfl) ?_
              refine r_get (C := RX3) (T := TX3) (N := 14) S hK w (k := 0) (by decide) (eC_0 ad _) rfl hinX3 7 (by decide) (List.mem_of_getElem? (i := 4) rfl) rfl dX3_countHours_54 ?_
              refine lv_icmp_gt (tgt := 71) hx hb dX3_countHours_57 (by decide) (fun c57 => ?_) (fun c57 => ?_)
              · have t57 : (S_26 0 7).toInt < (f_X3_leftFrom S_26 (ix v5_6) (v6_26 + (v6_26 * p1)) p2 p3).toInt := qt_lt c57
                rw [if_pos c57] at hG
                refine lv_iinc (v := (v6_26 + 1)) (lv' := [(6, .int (v6_26 + 1)), (0, .ref (ad 0)), (1, .int p1), (2, .ref (ad (9 + p2))), (3, .int p3), (4, .int v4_6), (5, .int v5_6)]) hx hb dX3_countHours_71 hl (k := 6) rfl rfl (by decide) rfl (fun ls hl => ?_)
                refine lv_goto (tgt := 26) hx hb dX3_countHours_74 (by decide) ?_
                have b6_26 : (v6_26 + 1).toInt = v6_26.toInt + 1 := inc_toInt (by omega) (by omega)
                exact ih26 _ (v6_26 + 1) S_26 ⟨hok, (by omega)⟩ (by omega) hG hex26 _ _ w ls (lv_sub hl [1, 2, 3, 4, 5, 6, 0] rfl)
              · have t57 : (f_X3_leftFrom S_26 (ix v5_6) (v6_26 + (v6_26 * p1)) p2 p3).toInt ≤ (S_26 0 7).toInt := qt_nlt c57
                rw [if_neg c57] at hG
                refine lv_aload_n hx hb dX3_countHours_60 rfl (lv_at hl 0 rfl) ?_
                refine r_get (C := RX3) (T := TX3) (N := 14) S hK w (k := 0) (by decide) (eC_0 ad _) rfl hinX3 12 (by decide) (List.mem_of_getElem? (i := 2) rfl) rfl dX3_countHours_61 ?_
                refine lv_iload hx hb dX3_countHours_64 (lv_at hl 5 rfl) ?_
                refine lv_dup2_11 hx hb dX3_countHours_66 rfl rfl ?_
                have g67 : vp_in v5_6 8 := vpi (by omega) (by omega)
                refine r_iald (cA := ad 100) (N := 8) S hK w (k := 7) (by decide) (fun f => eC_7 ad f) rfl g67 dX3_countHours_67 ?_
                refine lv_iconst (v := 1) hx hb dX3_countHours_68 (by decide) ?_
                refine lv_iadd hx hb dX3_countHours_69 ?_
                have g70 : vp_in v5_6 8 := vpi (by omega) (by omega)
                refine r_iast (cA := ad 100) (N := 8) S hK w (k := 7) (by decide) (fun f => eC_7 ad f) rfl g70 dX3_countHours_70 (fun H locs w => ?_)
                have hok : OkC (u2 S_26 7 (ix v5_6) ((S_26 7 (ix v5_6)) + 1)) := okC_scr (show scrC 7 by unfold scrC; omega) hok
                have okf0 := hok.1
                have okf1 := hok.2.1
                have okf2 := hok.2.2.1
                have okf3 := hok.2.2.2.1
                have okf4 := hok.2.2.2.2.1
                have okf5 := hok.2.2.2.2.2
                refine lv_iinc (v := (v6_26 + 1)) (lv' := [(6, .int (v6_26 + 1)), (0, .ref (ad 0)), (1, .int p1), (2, .ref (ad (9 + p2))), (3, .int p3), (4, .int v4_6), (5, .int v5_6)]) hx hb dX3_countHours_71 hl (k := 6) rfl rfl (by decide) rfl (fun ls hl => ?_)
                refine lv_goto (tgt := 26) hx hb dX3_countHours_74 (by decide) ?_
                have b6_26 : (v6_26 + 1).toInt = v6_26.toInt + 1 := inc_toInt (by omega) (by omega)
                exact ih26 _ (v6_26 + 1) (u2 S_26 7 (ix v5_6) ((S_26 7 (ix v5_6)) + 1)) ⟨hok, (by omega)⟩ (by omega) hG hex26 _ _ w ls (lv_sub hl [1, 2, 3, 4, 5, 6, 0] rfl)
        refine L26 200 _ 0 (u2 S_6 7 (ix v5_6) 0) ⟨hok, (by omega)⟩ (by omega) rfl (fun S_26e hok hr26 H locs w ls hl => ?_) _ _ w ls (lv_sub hl [1, 2, 3, 4, 5, 6, 0] rfl)
        rw [hr26] at hG
        have okf0 := hok.1
        have okf1 := hok.2.1
        have okf2 := hok.2.2.1
        have okf3 := hok.2.2.2.1
        have okf4 := hok.2.2.2.2.1
        have okf5 := hok.2.2.2.2.2
        refine lv_iload hx hb dX3_countHours_77 (lv_at hl 4 rfl) ?_
        refine lv_aload_n hx hb dX3_countHours_79 rfl (lv_at hl 0 rfl) ?_
        refine r_get (C := RX3) (T := TX3) (N := 14) S hK w (k := 0) (by decide) (eC_0 ad _) rfl hinX3 12 (by decide) (List.mem_of_getElem? (i := 2) rfl) rfl dX3_countHours_80 ?_
        refine lv_iload hx hb dX3_countHours_83 (lv_at hl 5 rfl) ?_
        have g85 : vp_in v5_6 8 := vpi (by omega) (by omega)
        refine r_iald (cA := ad 100) (N := 8) S hK w (k := 7) (by decide) (fun f => eC_7 ad f) rfl g85 dX3_countHours_85 ?_
        refine lv_iadd hx hb dX3_countHours_86 ?_
        refine lv_istore (lv' := [(4, .int (v4_6 + (S_26e 7 (ix v5_6)))), (0, .ref (ad 0)), (1, .int p1), (2, .ref (ad (9 + p2))), (3, .int p3), (5, .int v5_6)]) hx hb dX3_countHours_87 hl (by decide) rfl (fun ls hl => ?_)
        refine lv_iinc (v := (v5_6 + 1)) (lv' := [(5, .int (v5_6 + 1)), (4, .int (v4_6 + (S_26e 7 (ix v5_6)))), (0, .ref (ad 0)), (1, .int p1), (2, .ref (ad (9 + p2))), (3, .int p3)]) hx hb dX3_countHours_89 hl (k := 5) rfl rfl (by decide) rfl (fun ls hl => ?_)
        refine lv_goto (tgt := 6) hx hb dX3_countHours_92 (by decide) ?_
        have b5_6 : (v5_6 + 1).toInt = v5_6.toInt + 1 := inc_toInt (by omega) (by omega)
        exact ih6 _ (v4_6 + (S_26e 7 (ix v5_6))) (v5_6 + 1) S_26e ⟨hok, (by omega)⟩ (by omega) hG hex6 _ _ w ls (lv_sub hl [2, 3, 4, 5, 1, 0] rfl)
  refine L6 200 _ 0 0 σ ⟨hok, (by omega)⟩ (by omega) rfl (fun v4_6e S_6e hok hr6 H locs w ls hl => ?_) _ _ w ls (lv_sub hl [2, 3, 4, 5, 1, 0] rfl)
  rw [hr6] at hG
  dsimp only at hG
  have okf0 := hok.1
  have okf1 := hok.2.1
  have okf2 := hok.2.2.1
  have okf3 := hok.2.2.2.1
  have okf4 := hok.2.2.2.2.1
  have okf5 := hok.2.2.2.2.2
  refine lv_iload hx hb dX3_countHours_95 (lv_at hl 1 rfl) ?_
  exact endWi S hr hlocks w hG dX3_countHours_97
set_option maxHeartbeats 4000000 in
set_option maxRecDepth 100000 in
theorem c_X3_ofShare (l : Launch) (p1 : Int32) (p2 : Int32) (p3 : Int32) (hb1 : p2.toInt ≤ 100) : Met l yX3_ofShare wsX3_ofShare ({ frames := 0, cells := 0, slots := 0, locals := 0 }) (Pre0 ([.int p1, .int p2, .int p3] : List Value)) (Q0i (f_X3_ofShare p1 p2 p3)) 0 0 N0 := by
  generalize hG : f_X3_ofShare p1 p2 p3 = T
  refine head0 (cc := cX3_ofShare) (maxL := 5) (ret := (some .int)) ([.int p1, .int p2, .int p3] : List Value) (by decide) rfl (Nat.le_of_ble_eq_true rfl) ?_
  intro p e s m below meth c S hr hlocks ls hl
  have S : CallFix p m c cX3_ofShare 5 s ([.int p1, .int p2, .int p3] : List Value).toArray wsX3_ofShare RX3 := S
  have hx := S.1
  have hb := S.2.1
  have z0 : (0 : Int32).toInt = 0 := by decide
  have z1 : (1 : Int32).toInt = 1 := by decide
  have hl : lv_has ls 5 [(0, .int p1), (1, .int p2), (2, .int p3)] := hl
  rw [f_X3_ofShare] at hG
  refine lv_iload_n hx hb dX3_ofShare_0 rfl (lv_at hl 2 rfl) ?_
  have J1_9 : ∀ (k0_1_9 : Int32), (match (lp_X3_ofShare_13 p1 p2 k0_1_9 200 p2) with | Sum.inl r => r | Sum.inr _ => k0_1_9) = T → ∀ ls : Array Slot, lv_has ls 5 [(0, .int p1), (1, .int p2)] → W p l e (headSpec wsX3_ofShare ({ frames := 0, cells := 0, slots := 0, locals := 0 })).room s m ([.int p1, .int p2, .int p3] : List Value).toArray below meth c s.heap [] 0 0 (MQ below (Q0i T) ([.int p1, .int p2, .int p3] : List Value).toArray s 0 0 N0) (F0 m 9 ls [.int k0_1_9]) := by
    intro k0_1_9 hG ls hl
    refine lv_istore_n (lv' := [(3, .int k0_1_9), (0, .int p1), (1, .int p2)]) hx hb dX3_ofShare_9 rfl hl (by decide) rfl (fun ls hl => ?_)
    refine lv_iload_n hx hb dX3_ofShare_10 rfl (lv_at hl 2 rfl) ?_
    refine lv_istore (lv' := [(4, .int p2), (3, .int k0_1_9), (0, .int p1), (1, .int p2)]) hx hb dX3_ofShare_11 hl (by decide) rfl (fun ls hl => ?_)
    have L13 : ∀ (n : Nat) (res13 : (Int32) ⊕ (Unit)), ∀ (v4_13 : Int32), ((v4_13.toInt ≤ 100)) → v4_13.toInt.toNat < n → (lp_X3_ofShare_13 p1 p2 k0_1_9 n v4_13) = res13 → (∀ r : Int32, res13 = Sum.inl r → r = T) → (res13 = Sum.inr () → ∀ ls : Array Slot, lv_has ls 5 [(3, .int k0_1_9)] → W p l e (headSpec wsX3_ofShare ({ frames := 0, cells := 0, slots := 0, locals := 0 })).room s m ([.int p1, .int p2, .int p3] : List Value).toArray below meth c s.heap [] 0 0 (MQ below (Q0i T) ([.int p1, .int p2, .int p3] : List Value).toArray s 0 0 N0) (F0 m 44 ls [])) → ∀ ls : Array Slot, lv_has ls 5 [(0, .int p1), (1, .int p2), (3, .int k0_1_9), (4, .int v4_13)] → W p l e (headSpec wsX3_ofShare ({ frames := 0, cells := 0, slots := 0, locals := 0 })).room s m ([.int p1, .int p2, .int p3] : List Value).toArray below meth c s.heap [] 0 0 (MQ below (Q0i T) ([.int p1, .int p2, .int p3] : List Value).toArray s 0 0 N0) (F0 m 13 ls []) := by
      intro n
      induction n with
      | zero => intro _ _ _ hm; exact absurd hm (Nat.not_lt_zero _)
      | succ n ih13 =>
        intro res13 v4_13 hI13 hm13 hG hret13 hex13 ls hl
        have i13_0 := hI13
        rw [lp_X3_ofShare_13] at hG
        refine lv_iload hx hb dX3_ofShare_13 (lv_at hl 3 rfl) ?_
        refine lv_iconst (v := 1) hx hb dX3_ofShare_15 (by decide) ?_
        refine lv_icmp_le (tgt := 44) hx hb dX3_ofShare_16 (by decide) (fun c16 => ?_) (fun c16 => ?_)
        · have t16 : v4_13.toInt ≤ 1 := qt_le c16
          rw [if_pos c16] at hG
          exact hex13  hG.symm ls (lv_sub hl [2] rfl)
        · have t16 : 1 < v4_13.toInt := qt_nle c16
          rw [if_neg c16] at hG
          refine lv_iload_n hx hb dX3_ofShare_19 rfl (lv_at hl 0 rfl) ?_
          refine lv_iload hx hb dX3_ofShare_20 (lv_at hl 3 rfl) ?_
          refine lv_irem hx hb dX3_ofShare_22 (by intro q; rw [q] at t16; revert t16; decide) ?_
          refine lv_if_ne (tgt := 38) hx hb dX3_ofShare_23 (by decide) (fun c23 => ?_) (fun c23 => ?_)
          · have t23 : (p1 - (p1 / v4_13) * v4_13).toInt ≠ 0 := qt_ne c23
            rw [if_neg c23] at hG
            refine lv_iinc (v := (v4_13 + (-1))) (lv' := [(4, .int (v4_13 + (-1))), (0, .int p1), (1, .int p2), (3, .int k0_1_9)]) hx hb dX3_ofShare_38 hl (k := 3) rfl rfl (by decide) rfl (fun ls hl => ?_)
            refine lv_goto (tgt := 13) hx hb dX3_ofShare_41 (by decide) ?_
            have b4 := dec_toInt (a := v4_13) (by omega) (by omega)
            exact ih13 _ (v4_13 + (-1)) (by omega) (by omega) hG hret13 hex13 ls (lv_sub hl [1, 2, 3, 0] rfl)
          · have t23 : (p1 - (p1 / v4_13) * v4_13).toInt = 0 := qt_eq c23
            rw [if_pos c23] at hG
            refine lv_iload_n hx hb dX3_ofShare_26 rfl (lv_at hl 1 rfl) ?_
            refine lv_iload hx hb dX3_ofShare_27 (lv_at hl 3 rfl) ?_
            refine lv_irem hx hb dX3_ofShare_29 (by intro q; rw [q] at t16; revert t16; decide) ?_
            refine lv_if_ne (tgt := 38) hx hb dX3_ofShare_30 (by decide) (fun c30 => ?_) (fun c30 => ?_)
            · have t30 : (p2 - (p2 / v4_13) * v4_13).toInt ≠ 0 := qt_ne c30
              rw [if_neg c30] at hG
              refine lv_iinc (v := (v4_13 + (-1))) (lv' := [(4, .int (v4_13 + (-1))), (0, .int p1), (1, .int p2), (3, .int k0_1_9)]) hx hb dX3_ofShare_38 hl (k := 3) rfl rfl (by decide) rfl (fun ls hl => ?_)
              refine lv_goto (tgt := 13) hx hb dX3_ofShare_41 (by decide) ?_
              have b4 := dec_toInt (a := v4_13) (by omega) (by omega)
              exact ih13 _ (v4_13 + (-1)) (by omega) (by omega) hG hret13 hex13 ls (lv_sub hl [1, 2, 3, 0] rfl)
            · have t30 : (p2 - (p2 / v4_13) * v4_13).toInt = 0 := qt_eq c30
              rw [if_pos c30] at hG
              refine lv_iload_n hx hb dX3_ofShare_33 rfl (lv_at hl 2 rfl) ?_
              refine lv_iload hx hb dX3_ofShare_34 (lv_at hl 3 rfl) ?_
              refine lv_idiv hx hb dX3_ofShare_36 (by intro q; rw [q] at t16; revert t16; decide) ?_
              exact end0i S hr hlocks (hret13 _ hG.symm) dX3_ofShare_37
    refine L13 200 _ p2 (by omega) (by omega) rfl (fun r hr13 => by rw [hr13] at hG; exact hG) (fun hr13 ls hl => ?_) ls (lv_sub hl [2, 3, 1, 0] rfl)
    rw [hr13] at hG
    dsimp only at hG
    refine lv_iload_n hx hb dX3_ofShare_44 rfl (lv_at hl 0 rfl) ?_
    exact end0i S hr hlocks hG dX3_ofShare_45
  refine lv_if_ne (tgt := 8) hx hb dX3_ofShare_1 (by decide) (fun c1 => ?_) (fun c1 => ?_)
  · have t1 : p3.toInt ≠ 0 := qt_ne c1
    simp only [if_neg c1] at hG
    refine lv_iload_n hx hb dX3_ofShare_8 rfl (lv_at hl 1 rfl) ?_
    exact J1_9 p2 hG ls (lv_sub hl [0, 1] rfl)
  · have t1 : p3.toInt = 0 := qt_eq c1
    simp only [if_pos c1] at hG
    refine lv_iload_n hx hb dX3_ofShare_4 rfl (lv_at hl 0 rfl) ?_
    refine lv_goto (tgt := 9) hx hb dX3_ofShare_5 (by decide) ?_
    exact J1_9 p1 hG ls (lv_sub hl [0, 1] rfl)
set_option maxHeartbeats 4000000 in
set_option maxRecDepth 100000 in
theorem c_X3_odds (l : Launch) (ad : Nat → Nat) (D : va_G) (sz : Nat) (σ : St) (p1 : Int32) (p2 : Int32) (p3 : Int32) (p4 : Int32) (p5 : Int32) (p6 : Int32) (hok : OkC σ) : Met l yX3_odds wsX3_odds ({ frames := 4, cells := 0, slots := 0, locals := 101 }) (PreW 41 (eC ad) ad D (tyC ad) σ sz ([.ref (ad 0), .int p1, .int p2, .int p3, .int p4, .int p5, .int p6] : List Value)) (QWl 41 (eC ad) ad D (f_X3_odds σ p1 p2 p3 p4 p5 p6) (CA 41 ad sz)) 0 0 (CA 41 ad sz) := by
  generalize hG : f_X3_odds σ p1 p2 p3 p4 p5 p6 = T
  refine headW (cc := cX3_odds) (maxL := 8) (ret := (some .long)) ([.ref (ad 0), .int p1, .int p2, .int p3, .int p4, .int p5, .int p6] : List Value) (by decide) rfl (Nat.le_of_ble_eq_true rfl) ?_
  intro p e s m below meth c S hr hlocks hK hN hsz w ls hl
  have S : CallFix p m c cX3_odds 8 s ([.ref (ad 0), .int p1, .int p2, .int p3, .int p4, .int p5, .int p6] : List Value).toArray wsX3_odds RX3 := S
  have hx := S.1
  have hb := S.2.1
  have z0 : (0 : Int32).toInt = 0 := by decide
  have z1 : (1 : Int32).toInt = 1 := by decide
  have hl : lv_has ls 8 [(0, .ref (ad 0)), (1, .int p1), (2, .int p2), (3, .int p3), (4, .int p4), (5, .int p5), (6, .int p6)] := hl
  have hinX3 : ∀ w ∈ wsX30, w ∈ wsX3_odds := (fun _ h => List.mem_cons_of_mem _ (List.mem_append_left _ (List.mem_append_left _ (List.mem_append_right _ h))))
  have hinX1 : ∀ w ∈ wsX10, w ∈ wsX3_odds := (fun _ h => List.mem_cons_of_mem _ (List.mem_append_left _ (List.mem_append_right _ h)))
  have hinX2 : ∀ w ∈ wsX20, w ∈ wsX3_odds := (fun _ h => List.mem_cons_of_mem _ (List.mem_append_right _ h))
  have okf0 := hok.1
  have okf1 := hok.2.1
  have okf2 := hok.2.2.1
  have okf3 := hok.2.2.2.1
  have okf4 := hok.2.2.2.2.1
  have okf5 := hok.2.2.2.2.2
  rw [f_X3_odds] at hG
  refine lv_aload_n hx hb dX3_odds_0 rfl (lv_at hl 0 rfl) ?_
  refine lv_iconst (v := 0) hx hb dX3_odds_1 (by decide) ?_
  refine r_put (C := RX3) (T := TX3) (N := 14) S hK w (k := 0) (by decide) (eC_0 ad _) rfl hinX3 tyX3 tyX3_ok nmX3 9 (by decide) (List.mem_of_getElem? (i := 1) rfl) rfl (x := 0) (ty := .int) (by decide +kernel) rfl rfl (by show _ < List.length _; exact Nat.le_of_ble_eq_true rfl) (sO ad _ _ 9 (by decide)) dX3_odds_2 (fun H locs w => ?_)
  have hok : OkC (u2 σ 0 9 0) := okC_obj (by decide) hok
  have okf0 := hok.1
  have okf1 := hok.2.1
  have okf2 := hok.2.2.1
  have okf3 := hok.2.2.2.1
  have okf4 := hok.2.2.2.2.1
  have okf5 := hok.2.2.2.2.2
  refine lv_aload_n hx hb dX3_odds_5 rfl (lv_at hl 0 rfl) ?_
  refine lv_iload_n hx hb dX3_odds_6 rfl (lv_at hl 1 rfl) ?_
  refine call0i (va_runV (As := [.int p1]) (rest := []) S (c_X3_isSign l ad D H.size (u2 σ 0 9 0) p1) (cwV 1 S.2.2.2.2 gX3_odds_X3_isSign rfl rfl rfl ⟨rfl, hd_X3_isSign⟩ ⟨Nat.le_of_ble_eq_true rfl, Nat.le_of_ble_eq_true rfl⟩) (preV hK hN w (k := 0) (by decide) (eC_0 ad _) (q := (RX3, TX3, 14)) rfl) rfl rfl hl.1 rfl (lv_room (Nat.le_of_ble_eq_true rfl)) dX3_odds_7 ⟨Nat.zero_le _, Nat.zero_le _⟩) ?_
  refine lv_if_eq (tgt := 28) hx hb dX3_odds_10 (by decide) (fun c10 => ?_) (fun c10 => ?_)
  · rw [if_pos c10] at hG
    refine lv_ldc2 hx hb S.2.2.2.1 (S.2.2.2.2 _ (List.mem_of_getElem? (i := 3) rfl)) dX3_odds_28 ?_
    exact endWl S hr hlocks w hG dX3_odds_31
  · have t10 := bf_isSign_n c10
    rw [if_neg c10] at hG
    refine lv_aload_n hx hb dX3_odds_13 rfl (lv_at hl 0 rfl) ?_
    refine lv_iload_n hx hb dX3_odds_14 rfl (lv_at hl 3 rfl) ?_
    refine lv_iload hx hb dX3_odds_15 (lv_at hl 4 rfl) ?_
    refine lv_iload hx hb dX3_odds_17 (lv_at hl 5 rfl) ?_
    refine lv_ldc2 hx hb S.2.2.2.1 (S.2.2.2.2 _ (List.mem_of_getElem? (i := 2) rfl)) dX3_odds_19 ?_
    have ok3 := okf3
    refine callWi w (va_runV (As := [.int p3, .int p4, .int p5, .long 9]) (rest := []) S (c_X3_spanRefusal l ad D H.size (u2 σ 0 9 0) p3 p4 p5 9) (cwV 4 S.2.2.2.2 gX3_odds_X3_spanRefusal rfl rfl rfl ⟨rfl, hd_X3_spanRefusal⟩ ⟨Nat.le_of_ble_eq_true rfl, Nat.le_of_ble_eq_true rfl⟩) (preV hK hN w (k := 0) (by decide) (eC_0 ad _) (q := (RX3, TX3, 14)) rfl) rfl rfl hl.1 rfl (lv_room (Nat.le_of_ble_eq_true rfl)) dX3_odds_22 ⟨Nat.zero_le _, Nat.zero_le _⟩) (fun H locs w => ?_)
    have hok : OkC ((f_X3_spanRefusal (u2 σ 0 9 0) p3 p4 p5 9).2) := ok_X3_spanRefusal hok
    have okf0 := hok.1
    have okf1 := hok.2.1
    have okf2 := hok.2.2.1
    have okf3 := hok.2.2.2.1
    have okf4 := hok.2.2.2.2.1
    have okf5 := hok.2.2.2.2.2
    refine lv_if_eq (tgt := 32) hx hb dX3_odds_25 (by decide) (fun c25 => ?_) (fun c25 => ?_)
    · have t25 : ((f_X3_spanRefusal (u2 σ 0 9 0) p3 p4 p5 9).1).toInt = 0 := qt_eq c25
      rw [if_pos c25] at hG
      have z := sp_z c25
      have z9 : (9 : Int64).toInt = 9 := by decide
      have z3 := ok3 (ix p3) (vpl (vpi (by omega) (by omega)))
      refine lv_aload_n hx hb dX3_odds_32 rfl (lv_at hl 0 rfl) ?_
      refine r_get (C := RX3) (T := TX3) (N := 14) S hK w (k := 0) (by decide) (eC_0 ad _) rfl hinX3 0 (by decide) (List.mem_of_getElem? (i := 4) rfl) rfl dX3_odds_33 ?_
      refine lv_iload_n hx hb dX3_odds_36 rfl (lv_at hl 3 rfl) ?_
      have g37 : vp_in p3 4 := vpi (by omega) (by omega)
      refine r_aald S hK w (k := 1) (by decide) (eC_1 ad _) (t0 := 1) rfl g37 dX3_odds_37 ?_
      refine lv_iload hx hb dX3_odds_38 (lv_at hl 5 rfl) ?_
      refine lv_iload_n hx hb dX3_odds_40 rfl (lv_at hl 2 rfl) ?_
      refine call0i (va_runS (As := [.ref (ad (9 + (ix p3))), .int p5, .int p2]) (rest := []) S (c_X3_isDoor l ad D H.size ((f_X3_spanRefusal (u2 σ 0 9 0) p3 p4 p5 9).2) (ix p3) p5 p2 (vpl g37) (by omega)) (va_cwS 3 S.2.2.2.2 gX3_odds_X3_isDoor rfl rfl rfl hd_X3_isDoor ⟨Nat.le_of_ble_eq_true rfl, Nat.le_of_ble_eq_true rfl⟩) (preS hK hN w) rfl rfl hl.1 rfl (lv_room (Nat.le_of_ble_eq_true rfl)) dX3_odds_41 ⟨Nat.zero_le _, Nat.zero_le _⟩) ?_
      refine lv_if_eq (tgt := 58) hx hb dX3_odds_44 (by decide) (fun c44 => ?_) (fun c44 => ?_)
      · rw [if_pos c44] at hG
        refine lv_ldc2 hx hb S.2.2.2.1 (S.2.2.2.2 _ (List.mem_of_getElem? (i := 3) rfl)) dX3_odds_58 ?_
        exact endWl S hr hlocks w hG dX3_odds_61
      · rw [if_neg c44] at hG
        refine lv_iload hx hb dX3_odds_47 (lv_at hl 6 rfl) ?_
        refine lv_if_lt (tgt := 58) hx hb dX3_odds_49 (by decide) (fun c49 => ?_) (fun c49 => ?_)
        · have t49 : p6.toInt < 0 := qt_lt c49
          rw [if_pos c49] at hG
          refine lv_ldc2 hx hb S.2.2.2.1 (S.2.2.2.2 _ (List.mem_of_getElem? (i := 3) rfl)) dX3_odds_58 ?_
          exact endWl S hr hlocks w hG dX3_odds_61
        · have t49 : 0 ≤ p6.toInt := qt_nlt c49
          rw [if_neg c49] at hG
          refine lv_iload hx hb dX3_odds_52 (lv_at hl 6 rfl) ?_
          refine lv_iconst (v := 1) hx hb dX3_odds_54 (by decide) ?_
          refine lv_icmp_le (tgt := 62) hx hb dX3_odds_55 (by decide) (fun c55 => ?_) (fun c55 => ?_)
          · have t55 : p6.toInt ≤ 1 := qt_le c55
            rw [if_pos c55] at hG
            refine lv_aload_n hx hb dX3_odds_62 rfl (lv_at hl 0 rfl) ?_
            refine lv_iload_n hx hb dX3_odds_63 rfl (lv_at hl 2 rfl) ?_
            refine lv_aload_n hx hb dX3_odds_64 rfl (lv_at hl 0 rfl) ?_
            refine r_get (C := RX3) (T := TX3) (N := 14) S hK w (k := 0) (by decide) (eC_0 ad _) rfl hinX3 0 (by decide) (List.mem_of_getElem? (i := 4) rfl) rfl dX3_odds_65 ?_
            refine lv_iload_n hx hb dX3_odds_68 rfl (lv_at hl 3 rfl) ?_
            have g69 : vp_in p3 4 := vpi (by omega) (by omega)
            refine r_aald S hK w (k := 1) (by decide) (eC_1 ad _) (t0 := 1) rfl g69 dX3_odds_69 ?_
            refine lv_iload hx hb dX3_odds_70 (lv_at hl 5 rfl) ?_
            have z7 := fun (q : Nat) (a b : Int32) => ch_le (q := q) (a := a) (b := b) hok
            refine callWi w (va_runV (As := [.int p2, .ref (ad (9 + (ix p3))), .int p5]) (rest := []) S (c_X3_countHours l ad D H.size ((f_X3_spanRefusal (u2 σ 0 9 0) p3 p4 p5 9).2) p2 (ix p3) p5 hok (vpl g69) (by omega)) (cwV 3 S.2.2.2.2 gX3_odds_X3_countHours rfl rfl rfl ⟨rfl, hd_X3_countHours⟩ ⟨Nat.le_of_ble_eq_true rfl, Nat.le_of_ble_eq_true rfl⟩) (preV hK hN w (k := 0) (by decide) (eC_0 ad _) (q := (RX3, TX3, 14)) rfl) rfl rfl hl.1 rfl (lv_room (Nat.le_of_ble_eq_true rfl)) dX3_odds_72 ⟨Nat.zero_le _, Nat.zero_le _⟩) (fun H locs w => ?_)
            refine lv_istore (lv' := [(7, .int ((f_X3_countHours ((f_X3_spanRefusal (u2 σ 0 9 0) p3 p4 p5 9).2) p2 (ix p3) p5).1)), (0, .ref (ad 0)), (1, .int p1), (2, .int p2), (3, .int p3), (4, .int p4), (5, .int p5), (6, .int p6)]) hx hb dX3_odds_75 hl (by decide) rfl (fun ls hl => ?_)
            refine lv_iload hx hb dX3_odds_77 (lv_at hl 0 rfl) ?_
            refine lv_if_ne (tgt := 86) hx hb dX3_odds_79 (by decide) (fun c79 => ?_) (fun c79 => ?_)
            · have t79 : ((f_X3_countHours ((f_X3_spanRefusal (u2 σ 0 9 0) p3 p4 p5 9).2) p2 (ix p3) p5).1).toInt ≠ 0 := qt_ne c79
              rw [if_neg c79] at hG
              refine lv_aload_n hx hb dX3_odds_86 rfl (lv_at hl 1 rfl) ?_
              refine r_get (C := RX3) (T := TX3) (N := 14) S hK w (k := 0) (by decide) (eC_0 ad _) rfl hinX3 12 (by decide) (List.mem_of_getElem? (i := 5) rfl) rfl dX3_odds_87 ?_
              refine lv_iload_n hx hb dX3_odds_90 rfl (lv_at hl 2 rfl) ?_
              have g91 : vp_in p1 8 := vpi (by omega) (by omega)
              refine r_iald (cA := ad 100) (N := 8) S hK w (k := 7) (by decide) (fun f => eC_7 ad f) rfl g91 dX3_odds_91 ?_
              refine lv_iload hx hb dX3_odds_92 (lv_at hl 0 rfl) ?_
              refine lv_iload hx hb dX3_odds_94 (lv_at hl 7 rfl) ?_
              refine call0i (va_runS (As := [.int (((f_X3_countHours ((f_X3_spanRefusal (u2 σ 0 9 0) p3 p4 p5 9).2) p2 (ix p3) p5).2) 7 (ix p1)), .int ((f_X3_countHours ((f_X3_spanRefusal (u2 σ 0 9 0) p3 p4 p5 9).2) p2 (ix p3) p5).1), .int p6]) (rest := []) S (c_X3_ofShare l (((f_X3_countHours ((f_X3_spanRefusal (u2 σ 0 9 0) p3 p4 p5 9).2) p2 (ix p3) p5).2) 7 (ix p1)) ((f_X3_countHours ((f_X3_spanRefusal (u2 σ 0 9 0) p3 p4 p5 9).2) p2 (ix p3) p5).1) p6 (z7 _ _ _).2) (va_cwS 3 S.2.2.2.2 gX3_odds_X3_ofShare rfl rfl rfl hd_X3_ofShare ⟨Nat.le_of_ble_eq_true rfl, Nat.le_of_ble_eq_true rfl⟩) pre0S rfl rfl hl.1 rfl (lv_room (Nat.le_of_ble_eq_true rfl)) dX3_odds_96 ⟨Nat.zero_le _, Nat.zero_le _⟩) ?_
              refine lv_i2l hx hb dX3_odds_99 rfl ?_
              exact endWl S hr hlocks w hG dX3_odds_100
            · have t79 : ((f_X3_countHours ((f_X3_spanRefusal (u2 σ 0 9 0) p3 p4 p5 9).2) p2 (ix p3) p5).1).toInt = 0 := qt_eq c79
              rw [if_pos c79] at hG
              refine lv_ldc2 hx hb S.2.2.2.1 (S.2.2.2.2 _ (List.mem_of_getElem? (i := 3) rfl)) dX3_odds_82 ?_
              exact endWl S hr hlocks w hG dX3_odds_85
          · have t55 : 1 < p6.toInt := qt_nle c55
            rw [if_neg c55] at hG
            refine lv_ldc2 hx hb S.2.2.2.1 (S.2.2.2.2 _ (List.mem_of_getElem? (i := 3) rfl)) dX3_odds_58 ?_
            exact endWl S hr hlocks w hG dX3_odds_61
    · have t25 : ((f_X3_spanRefusal (u2 σ 0 9 0) p3 p4 p5 9).1).toInt ≠ 0 := qt_ne c25
      rw [if_neg c25] at hG
      refine lv_ldc2 hx hb S.2.2.2.1 (S.2.2.2.2 _ (List.mem_of_getElem? (i := 3) rfl)) dX3_odds_28 ?_
      exact endWl S hr hlocks w hG dX3_odds_31
set_option maxHeartbeats 4000000 in
set_option maxRecDepth 100000 in
theorem c_X3_who (l : Launch) (ad : Nat → Nat) (D : va_G) (sz : Nat) (σ : St) (p1 : Int32) (p2 : Int32) (p3 : Int32) (p4 : Int32) (hok : OkC σ) : Met l yX3_who wsX3_who ({ frames := 4, cells := 0, slots := 0, locals := 101 }) (PreW 41 (eC ad) ad D (tyC ad) σ sz ([.ref (ad 0), .int p1, .int p2, .int p3, .int p4] : List Value)) (QWi 41 (eC ad) ad D (f_X3_who σ p1 p2 p3 p4) (CA 41 ad sz)) 0 0 (CA 41 ad sz) := by
  generalize hG : f_X3_who σ p1 p2 p3 p4 = T
  refine headW (cc := cX3_who) (maxL := 9) (ret := (some .int)) ([.ref (ad 0), .int p1, .int p2, .int p3, .int p4] : List Value) (by decide) rfl (Nat.le_of_ble_eq_true rfl) ?_
  intro p e s m below meth c S hr hlocks hK hN hsz w ls hl
  have S : CallFix p m c cX3_who 9 s ([.ref (ad 0), .int p1, .int p2, .int p3, .int p4] : List Value).toArray wsX3_who RX3 := S
  have hx := S.1
  have hb := S.2.1
  have z0 : (0 : Int32).toInt = 0 := by decide
  have z1 : (1 : Int32).toInt = 1 := by decide
  have hl : lv_has ls 9 [(0, .ref (ad 0)), (1, .int p1), (2, .int p2), (3, .int p3), (4, .int p4)] := hl
  have hinX3 : ∀ w ∈ wsX30, w ∈ wsX3_who := (fun _ h => List.mem_cons_of_mem _ (List.mem_append_left _ (List.mem_append_left _ (List.mem_append_right _ h))))
  have hinX1 : ∀ w ∈ wsX10, w ∈ wsX3_who := (fun _ h => List.mem_cons_of_mem _ (List.mem_append_left _ (List.mem_append_right _ h)))
  have hinX2 : ∀ w ∈ wsX20, w ∈ wsX3_who := (fun _ h => List.mem_cons_of_mem _ (List.mem_append_right _ h))
  have okf0 := hok.1
  have okf1 := hok.2.1
  have okf2 := hok.2.2.1
  have okf3 := hok.2.2.2.1
  have okf4 := hok.2.2.2.2.1
  have okf5 := hok.2.2.2.2.2
  rw [f_X3_who] at hG
  refine lv_aload_n hx hb dX3_who_0 rfl (lv_at hl 0 rfl) ?_
  refine lv_iload_n hx hb dX3_who_1 rfl (lv_at hl 2 rfl) ?_
  refine lv_iload_n hx hb dX3_who_2 rfl (lv_at hl 3 rfl) ?_
  refine lv_iload hx hb dX3_who_3 (lv_at hl 4 rfl) ?_
  refine lv_ldc2 hx hb S.2.2.2.1 (S.2.2.2.2 _ (List.mem_of_getElem? (i := 1) rfl)) dX3_who_5 ?_
  have ok3 := okf3
  refine callWi w (va_runV (As := [.int p2, .int p3, .int p4, .long 9]) (rest := []) S (c_X3_spanRefusal l ad D s.heap.size σ p2 p3 p4 9) (cwV 4 S.2.2.2.2 gX3_who_X3_spanRefusal rfl rfl rfl ⟨rfl, hd_X3_spanRefusal⟩ ⟨Nat.le_of_ble_eq_true rfl, Nat.le_of_ble_eq_true rfl⟩) (preV hK hN w (k := 0) (by decide) (eC_0 ad _) (q := (RX3, TX3, 14)) rfl) rfl rfl hl.1 rfl (lv_room (Nat.le_of_ble_eq_true rfl)) dX3_who_8 ⟨Nat.zero_le _, Nat.zero_le _⟩) (fun H locs w => ?_)
  have hok : OkC ((f_X3_spanRefusal σ p2 p3 p4 9).2) := ok_X3_spanRefusal hok
  have okf0 := hok.1
  have okf1 := hok.2.1
  have okf2 := hok.2.2.1
  have okf3 := hok.2.2.2.1
  have okf4 := hok.2.2.2.2.1
  have okf5 := hok.2.2.2.2.2
  refine lv_istore (lv' := [(5, .int ((f_X3_spanRefusal σ p2 p3 p4 9).1)), (0, .ref (ad 0)), (1, .int p1), (2, .int p2), (3, .int p3), (4, .int p4)]) hx hb dX3_who_11 hl (by decide) rfl (fun ls hl => ?_)
  refine lv_iload hx hb dX3_who_13 (lv_at hl 0 rfl) ?_
  refine lv_if_eq (tgt := 21) hx hb dX3_who_15 (by decide) (fun c15 => ?_) (fun c15 => ?_)
  · have t15 : ((f_X3_spanRefusal σ p2 p3 p4 9).1).toInt = 0 := qt_eq c15
    rw [if_pos c15] at hG
    have z := sp_z c15
    have z9 : (9 : Int64).toInt = 9 := by decide
    have z3 := ok3 (ix p2) (vpl (vpi (by omega) (by omega)))
    refine lv_aload_n hx hb dX3_who_21 rfl (lv_at hl 1 rfl) ?_
    refine r_get (C := RX3) (T := TX3) (N := 14) S hK w (k := 0) (by decide) (eC_0 ad _) rfl hinX3 0 (by decide) (List.mem_of_getElem? (i := 2) rfl) rfl dX3_who_22 ?_
    refine lv_iload_n hx hb dX3_who_25 rfl (lv_at hl 3 rfl) ?_
    have g26 : vp_in p2 4 := vpi (by omega) (by omega)
    refine r_aald S hK w (k := 1) (by decide) (eC_1 ad _) (t0 := 1) rfl g26 dX3_who_26 ?_
    refine lv_iload hx hb dX3_who_27 (lv_at hl 5 rfl) ?_
    refine lv_iload_n hx hb dX3_who_29 rfl (lv_at hl 2 rfl) ?_
    refine call0i (va_runS (As := [.ref (ad (9 + (ix p2))), .int p4, .int p1]) (rest := []) S (c_X3_isDoor l ad D H.size ((f_X3_spanRefusal σ p2 p3 p4 9).2) (ix p2) p4 p1 (vpl g26) (by omega)) (va_cwS 3 S.2.2.2.2 gX3_who_X3_isDoor rfl rfl rfl hd_X3_isDoor ⟨Nat.le_of_ble_eq_true rfl, Nat.le_of_ble_eq_true rfl⟩) (preS hK hN w) rfl rfl hl.1 rfl (lv_room (Nat.le_of_ble_eq_true rfl)) dX3_who_30 ⟨Nat.zero_le _, Nat.zero_le _⟩) ?_
    refine lv_if_ne (tgt := 39) hx hb dX3_who_33 (by decide) (fun c33 => ?_) (fun c33 => ?_)
    · rw [if_neg c33] at hG
      refine lv_aload_n hx hb dX3_who_39 rfl (lv_at hl 1 rfl) ?_
      refine lv_iload_n hx hb dX3_who_40 rfl (lv_at hl 2 rfl) ?_
      refine lv_aload_n hx hb dX3_who_41 rfl (lv_at hl 1 rfl) ?_
      refine r_get (C := RX3) (T := TX3) (N := 14) S hK w (k := 0) (by decide) (eC_0 ad _) rfl hinX3 0 (by decide) (List.mem_of_getElem? (i := 2) rfl) rfl dX3_who_42 ?_
      refine lv_iload_n hx hb dX3_who_45 rfl (lv_at hl 3 rfl) ?_
      have g46 : vp_in p2 4 := vpi (by omega) (by omega)
      refine r_aald S hK w (k := 1) (by decide) (eC_1 ad _) (t0 := 1) rfl g46 dX3_who_46 ?_
      refine lv_iload hx hb dX3_who_47 (lv_at hl 5 rfl) ?_
      refine callWi w (va_runV (As := [.int p1, .ref (ad (9 + (ix p2))), .int p4]) (rest := []) S (c_X3_countHours l ad D H.size ((f_X3_spanRefusal σ p2 p3 p4 9).2) p1 (ix p2) p4 hok (vpl g46) (by omega)) (cwV 3 S.2.2.2.2 gX3_who_X3_countHours rfl rfl rfl ⟨rfl, hd_X3_countHours⟩ ⟨Nat.le_of_ble_eq_true rfl, Nat.le_of_ble_eq_true rfl⟩) (preV hK hN w (k := 0) (by decide) (eC_0 ad _) (q := (RX3, TX3, 14)) rfl) rfl rfl hl.1 rfl (lv_room (Nat.le_of_ble_eq_true rfl)) dX3_who_49 ⟨Nat.zero_le _, Nat.zero_le _⟩) (fun H locs w => ?_)
      have hok : OkC ((f_X3_countHours ((f_X3_spanRefusal σ p2 p3 p4 9).2) p1 (ix p2) p4).2) := ok_X3_countHours hok
      have okf0 := hok.1
      have okf1 := hok.2.1
      have okf2 := hok.2.2.1
      have okf3 := hok.2.2.2.1
      have okf4 := hok.2.2.2.2.1
      have okf5 := hok.2.2.2.2.2
      refine lv_pop hx hb dX3_who_52 rfl ?_
      refine lv_bipush (v := (-9)) hx hb dX3_who_53 (by decide) ?_
      refine lv_istore (lv' := [(6, .int (-9)), (5, .int ((f_X3_spanRefusal σ p2 p3 p4 9).1)), (0, .ref (ad 0)), (1, .int p1), (2, .int p2), (3, .int p3), (4, .int p4)]) hx hb dX3_who_55 hl (by decide) rfl (fun ls hl => ?_)
      refine lv_iconst (v := 0) hx hb dX3_who_57 (by decide) ?_
      refine lv_istore (lv' := [(7, .int 0), (6, .int (-9)), (5, .int ((f_X3_spanRefusal σ p2 p3 p4 9).1)), (0, .ref (ad 0)), (1, .int p1), (2, .int p2), (3, .int p3), (4, .int p4)]) hx hb dX3_who_58 hl (by decide) rfl (fun ls hl => ?_)
      refine lv_iconst (v := 0) hx hb dX3_who_60 (by decide) ?_
      refine lv_istore (lv' := [(8, .int 0), (7, .int 0), (6, .int (-9)), (5, .int ((f_X3_spanRefusal σ p2 p3 p4 9).1)), (0, .ref (ad 0)), (1, .int p1), (2, .int p2), (3, .int p3), (4, .int p4)]) hx hb dX3_who_61 hl (by decide) rfl (fun ls hl => ?_)
      have L63 : ∀ (n : Nat) (res63 : Int32), ∀ (v6_63 : Int32), ∀ (v7_63 : Int32), ∀ (v8_63 : Int32), ((0 ≤ v8_63.toInt ∧ v8_63.toInt ≤ 8)) → (8 - v8_63.toInt).toNat < n → (lp_X3_who_63 ((f_X3_countHours ((f_X3_spanRefusal σ p2 p3 p4 9).2) p1 (ix p2) p4).2) n v6_63 v7_63 v8_63) = res63 → (∀ (v6_63e : Int32), res63 = v6_63e → ∀ (H : Heap) (locs : List Loc), CW 41 (eC ad) ad D (CA 41 ad sz) s.heap ((f_X3_countHours ((f_X3_spanRefusal σ p2 p3 p4 9).2) p1 (ix p2) p4).2) H locs → ∀ ls : Array Slot, lv_has ls 9 [(0, .ref (ad 0)), (6, .int v6_63e)] → W p l e (headSpec wsX3_who ({ frames := 4, cells := 0, slots := 0, locals := 101 })).room s m ([.ref (ad 0), .int p1, .int p2, .int p3, .int p4] : List Value).toArray below meth c H locs 0 0 (MQ below (QWi 41 (eC ad) ad D T (CA 41 ad sz)) ([.ref (ad 0), .int p1, .int p2, .int p3, .int p4] : List Value).toArray s 0 0 (CA 41 ad sz)) (F0 m 103 ls [])) → ∀ (H : Heap) (locs : List Loc), CW 41 (eC ad) ad D (CA 41 ad sz) s.heap ((f_X3_countHours ((f_X3_spanRefusal σ p2 p3 p4 9).2) p1 (ix p2) p4).2) H locs → ∀ ls : Array Slot, lv_has ls 9 [(0, .ref (ad 0)), (6, .int v6_63), (7, .int v7_63), (8, .int v8_63)] → W p l e (headSpec wsX3_who ({ frames := 4, cells := 0, slots := 0, locals := 101 })).room s m ([.ref (ad 0), .int p1, .int p2, .int p3, .int p4] : List Value).toArray below meth c H locs 0 0 (MQ below (QWi 41 (eC ad) ad D T (CA 41 ad sz)) ([.ref (ad 0), .int p1, .int p2, .int p3, .int p4] : List Value).toArray s 0 0 (CA 41 ad sz)) (F0 m 63 ls []) := by
        intro n
        induction n with
        | zero => intro _ _ _ _ _ hm; exact absurd hm (Nat.not_lt_zero _)
        | succ n ih63 =>
          intro res63 v6_63 v7_63 v8_63 hI63 hm63 hG hex63 H locs w ls hl
          have i63_0 := hI63
          rw [lp_X3_who_63] at hG
          refine lv_iload hx hb dX3_who_63 (lv_at hl 3 rfl) ?_
          refine lv_aload_n hx hb dX3_who_65 rfl (lv_at hl 0 rfl) ?_
          refine r_get (C := RX3) (T := TX3) (N := 14) S hK w (k := 0) (by decide) (eC_0 ad _) rfl hinX3 4 (by decide) (List.mem_of_getElem? (i := 3) rfl) rfl dX3_who_66 ?_
          refine lv_icmp_ge (tgt := 103) hx hb dX3_who_69 (by decide) (fun c69 => ?_) (fun c69 => ?_)
          · have t69 : (((f_X3_countHours ((f_X3_spanRefusal σ p2 p3 p4 9).2) p1 (ix p2) p4).2) 0 4).toInt ≤ v8_63.toInt := qt_le c69
            rw [if_pos c69] at hG
            exact hex63 v6_63 hG.symm _ _ w ls (lv_sub hl [0, 1] rfl)
          · have t69 : v8_63.toInt < (((f_X3_countHours ((f_X3_spanRefusal σ p2 p3 p4 9).2) p1 (ix p2) p4).2) 0 4).toInt := qt_nle c69
            rw [if_neg c69] at hG
            refine lv_aload_n hx hb dX3_who_72 rfl (lv_at hl 0 rfl) ?_
            refine r_get (C := RX3) (T := TX3) (N := 14) S hK w (k := 0) (by decide) (eC_0 ad _) rfl hinX3 12 (by decide) (List.mem_of_getElem? (i := 4) rfl) rfl dX3_who_73 ?_
            refine lv_iload hx hb dX3_who_76 (lv_at hl 3 rfl) ?_
            have g78 : vp_in v8_63 8 := vpi (by omega) (by omega)
            refine r_iald (cA := ad 100) (N := 8) S hK w (k := 7) (by decide) (fun f => eC_7 ad f) rfl g78 dX3_who_78 ?_
            refine lv_iload hx hb dX3_who_79 (lv_at hl 2 rfl) ?_
            refine lv_icmp_le (tgt := 97) hx hb dX3_who_81 (by decide) (fun c81 => ?_) (fun c81 => ?_)
            · have t81 : (((f_X3_countHours ((f_X3_spanRefusal σ p2 p3 p4 9).2) p1 (ix p2) p4).2) 7 (ix v8_63)).toInt ≤ v7_63.toInt := qt_le c81
              rw [if_pos c81] at hG
              refine lv_iinc (v := (v8_63 + 1)) (lv' := [(8, .int (v8_63 + 1)), (0, .ref (ad 0)), (6, .int v6_63), (7, .int v7_63)]) hx hb dX3_who_97 hl (k := 3) rfl rfl (by decide) rfl (fun ls hl => ?_)
              refine lv_goto (tgt := 63) hx hb dX3_who_100 (by decide) ?_
              have b8_63 : (v8_63 + 1).toInt = v8_63.toInt + 1 := inc_toInt (by omega) (by omega)
              exact ih63 _ v6_63 v7_63 (v8_63 + 1) (by omega) (by omega) hG hex63 _ _ w ls (lv_sub hl [1, 2, 3, 0] rfl)
            · have t81 : v7_63.toInt < (((f_X3_countHours ((f_X3_spanRefusal σ p2 p3 p4 9).2) p1 (ix p2) p4).2) 7 (ix v8_63)).toInt := qt_nle c81
              rw [if_neg c81] at hG
              refine lv_aload_n hx hb dX3_who_84 rfl (lv_at hl 0 rfl) ?_
              refine r_get (C := RX3) (T := TX3) (N := 14) S hK w (k := 0) (by decide) (eC_0 ad _) rfl hinX3 12 (by decide) (List.mem_of_getElem? (i := 4) rfl) rfl dX3_who_85 ?_
              refine lv_iload hx hb dX3_who_88 (lv_at hl 3 rfl) ?_
              have g90 : vp_in v8_63 8 := vpi (by omega) (by omega)
              refine r_iald (cA := ad 100) (N := 8) S hK w (k := 7) (by decide) (fun f => eC_7 ad f) rfl g90 dX3_who_90 ?_
              refine lv_istore (lv' := [(7, .int (((f_X3_countHours ((f_X3_spanRefusal σ p2 p3 p4 9).2) p1 (ix p2) p4).2) 7 (ix v8_63))), (0, .ref (ad 0)), (6, .int v6_63), (8, .int v8_63)]) hx hb dX3_who_91 hl (by decide) rfl (fun ls hl => ?_)
              refine lv_iload hx hb dX3_who_93 (lv_at hl 3 rfl) ?_
              refine lv_istore (lv' := [(6, .int v8_63), (7, .int (((f_X3_countHours ((f_X3_spanRefusal σ p2 p3 p4 9).2) p1 (ix p2) p4).2) 7 (ix v8_63))), (0, .ref (ad 0)), (8, .int v8_63)]) hx hb dX3_who_95 hl (by decide) rfl (fun ls hl => ?_)
              refine lv_iinc (v := (v8_63 + 1)) (lv' := [(8, .int (v8_63 + 1)), (6, .int v8_63), (7, .int (((f_X3_countHours ((f_X3_spanRefusal σ p2 p3 p4 9).2) p1 (ix p2) p4).2) 7 (ix v8_63))), (0, .ref (ad 0))]) hx hb dX3_who_97 hl (k := 3) rfl rfl (by decide) rfl (fun ls hl => ?_)
              refine lv_goto (tgt := 63) hx hb dX3_who_100 (by decide) ?_
              have b8_63 : (v8_63 + 1).toInt = v8_63.toInt + 1 := inc_toInt (by omega) (by omega)
              exact ih63 _ v8_63 (((f_X3_countHours ((f_X3_spanRefusal σ p2 p3 p4 9).2) p1 (ix p2) p4).2) 7 (ix v8_63)) (v8_63 + 1) (by omega) (by omega) hG hex63 _ _ w ls (lv_sub hl [3, 1, 2, 0] rfl)
      refine L63 200 _ (-9) 0 0 (by omega) (by omega) rfl (fun v6_63e hr63 H locs w ls hl => ?_) _ _ w ls (lv_sub hl [4, 2, 1, 0] rfl)
      rw [hr63] at hG
      refine lv_iload hx hb dX3_who_103 (lv_at hl 1 rfl) ?_
      exact endWi S hr hlocks w hG dX3_who_105
    · rw [if_pos c33] at hG
      refine lv_bipush (v := (-2)) hx hb dX3_who_36 (by decide) ?_
      exact endWi S hr hlocks w hG dX3_who_38
  · have t15 : ((f_X3_spanRefusal σ p2 p3 p4 9).1).toInt ≠ 0 := qt_ne c15
    rw [if_neg c15] at hG
    refine lv_iload hx hb dX3_who_18 (lv_at hl 0 rfl) ?_
    exact endWi S hr hlocks w hG dX3_who_20
set_option maxHeartbeats 4000000 in
set_option maxRecDepth 100000 in
theorem c_X3_sheet (l : Launch) (ad : Nat → Nat) (D : va_G) (sz : Nat) (σ : St) (p1 : Int32) (p2 : Int32) (p3 : Int32) : Met l yX3_sheet wsX3_sheet ({ frames := 2, cells := 0, slots := 0, locals := 45 }) (PreW 41 (eC ad) ad D (tyC ad) σ sz ([.ref (ad 0), .int p1, .int p2, .int p3] : List Value)) (QWi 41 (eC ad) ad D (f_X3_sheet σ p1 p2 p3) (CA 41 ad sz)) 0 0 (CA 41 ad sz) := by
  generalize hG : f_X3_sheet σ p1 p2 p3 = T
  refine headW (cc := cX3_sheet) (maxL := 4) (ret := (some .int)) ([.ref (ad 0), .int p1, .int p2, .int p3] : List Value) (by decide) rfl (Nat.le_of_ble_eq_true rfl) ?_
  intro p e s m below meth c S hr hlocks hK hN hsz w ls hl
  have S : CallFix p m c cX3_sheet 4 s ([.ref (ad 0), .int p1, .int p2, .int p3] : List Value).toArray wsX3_sheet RX3 := S
  have hx := S.1
  have hb := S.2.1
  have z0 : (0 : Int32).toInt = 0 := by decide
  have z1 : (1 : Int32).toInt = 1 := by decide
  have hl : lv_has ls 4 [(0, .ref (ad 0)), (1, .int p1), (2, .int p2), (3, .int p3)] := hl
  have hinX3 : ∀ w ∈ wsX30, w ∈ wsX3_sheet := (fun _ h => List.mem_cons_of_mem _ (List.mem_append_left _ (List.mem_append_right _ h)))
  have hinX1 : ∀ w ∈ wsX10, w ∈ wsX3_sheet := (fun _ h => List.mem_cons_of_mem _ (List.mem_append_right _ h))
  rw [f_X3_sheet] at hG
  refine lv_iload_n hx hb dX3_sheet_0 rfl (lv_at hl 1 rfl) ?_
  refine call0i (va_runS (As := [.int p1]) (rest := []) S (c_X3_isSheet l p1) (va_cwS 1 S.2.2.2.2 gX3_sheet_X3_isSheet rfl rfl rfl hd_X3_isSheet ⟨Nat.le_of_ble_eq_true rfl, Nat.le_of_ble_eq_true rfl⟩) pre0S rfl rfl hl.1 rfl (lv_room (Nat.le_of_ble_eq_true rfl)) dX3_sheet_1 ⟨Nat.zero_le _, Nat.zero_le _⟩) ?_
  refine lv_if_ne (tgt := 13) hx hb dX3_sheet_4 (by decide) (fun c4 => ?_) (fun c4 => ?_)
  · have t4 := bf_isSheet_n c4
    rw [if_neg c4] at hG
    refine lv_iload_n hx hb dX3_sheet_13 rfl (lv_at hl 2 rfl) ?_
    refine call0i (va_runS (As := [.int p2]) (rest := []) S (c_X3_isLane l p2) (va_cwS 1 S.2.2.2.2 gX3_sheet_X3_isLane rfl rfl rfl hd_X3_isLane ⟨Nat.le_of_ble_eq_true rfl, Nat.le_of_ble_eq_true rfl⟩) pre0S rfl rfl hl.1 rfl (lv_room (Nat.le_of_ble_eq_true rfl)) dX3_sheet_14 ⟨Nat.zero_le _, Nat.zero_le _⟩) ?_
    refine lv_if_eq (tgt := 26) hx hb dX3_sheet_17 (by decide) (fun c17 => ?_) (fun c17 => ?_)
    · rw [if_pos c17] at hG
      refine lv_aload_n hx hb dX3_sheet_26 rfl (lv_at hl 0 rfl) ?_
      refine lv_bipush (v := (-2)) hx hb dX3_sheet_27 (by decide) ?_
      refine callWi w (va_runV (As := [.int (-2)]) (rest := []) S (c_X3_refused l ad D s.heap.size σ (-2)) (cwV 1 S.2.2.2.2 gX3_sheet_X3_refused rfl rfl rfl ⟨rfl, hd_X3_refused⟩ ⟨Nat.le_of_ble_eq_true rfl, Nat.le_of_ble_eq_true rfl⟩) (preV hK hN w (k := 0) (by decide) (eC_0 ad _) (q := (RX3, TX3, 14)) rfl) rfl rfl hl.1 rfl (lv_room (Nat.le_of_ble_eq_true rfl)) dX3_sheet_29 ⟨Nat.zero_le _, Nat.zero_le _⟩) (fun H locs w => ?_)
      exact endWi S hr hlocks w hG dX3_sheet_32
    · rw [if_neg c17] at hG
      refine lv_iload_n hx hb dX3_sheet_20 rfl (lv_at hl 3 rfl) ?_
      refine lv_bipush (v := 90) hx hb dX3_sheet_21 (by decide) ?_
      refine lv_icmp_le (tgt := 33) hx hb dX3_sheet_23 (by decide) (fun c23 => ?_) (fun c23 => ?_)
      · have t23 : p3.toInt ≤ 90 := qt_le c23
        rw [if_pos c23] at hG
        refine lv_iload_n hx hb dX3_sheet_33 rfl (lv_at hl 3 rfl) ?_
        refine lv_if_ge (tgt := 43) hx hb dX3_sheet_34 (by decide) (fun c34 => ?_) (fun c34 => ?_)
        · have t34 : 0 ≤ p3.toInt := qt_le c34
          rw [if_pos c34] at hG
          refine lv_aload_n hx hb dX3_sheet_43 rfl (lv_at hl 0 rfl) ?_
          refine lv_iconst (v := 0) hx hb dX3_sheet_44 (by decide) ?_
          refine r_put (C := RX3) (T := TX3) (N := 14) S hK w (k := 0) (by decide) (eC_0 ad _) rfl hinX3 tyX3 tyX3_ok nmX3 9 (by decide) (List.mem_of_getElem? (i := 1) rfl) rfl (x := 0) (ty := .int) (by decide +kernel) rfl rfl (by show _ < List.length _; exact Nat.le_of_ble_eq_true rfl) (sO ad _ _ 9 (by decide)) dX3_sheet_45 (fun H locs w => ?_)
          refine lv_aload_n hx hb dX3_sheet_48 rfl (lv_at hl 0 rfl) ?_
          refine r_get (C := RX3) (T := TX3) (N := 14) S hK w (k := 0) (by decide) (eC_0 ad _) rfl hinX3 0 (by decide) (List.mem_of_getElem? (i := 2) rfl) rfl dX3_sheet_49 ?_
          refine lv_iload_n hx hb dX3_sheet_52 rfl (lv_at hl 1 rfl) ?_
          have g53 : vp_in p1 4 := vpi (by omega) (by omega)
          refine r_aald S hK w (k := 1) (by decide) (eC_1 ad _) (t0 := 1) rfl g53 dX3_sheet_53 ?_
          refine lv_iload_n hx hb dX3_sheet_54 rfl (lv_at hl 2 rfl) ?_
          refine lv_iload_n hx hb dX3_sheet_55 rfl (lv_at hl 3 rfl) ?_
          refine callWv w (va_runVN (As := [.int p2, .int p3]) (rest := []) S (c_X1_renew l ad D H.size (u2 σ 0 9 0) (ix p1) p2 p3 (vpl g53)) ⟨va_cnB 2 S.2.2.2.2 gX3_sheet_X1_renew_n247 rfl rfl rfl (hN.m 4 rfl) (S.2.2.2.2 _ (List.mem_of_getElem? (i := 19) rfl)) hd_X1_renew ⟨Nat.le_of_ble_eq_true rfl, Nat.le_of_ble_eq_true rfl⟩, S.2.2.2.2 _ (List.mem_of_getElem? (i := 18) rfl), S.2.2.2.2 _ (List.mem_of_getElem? (i := 20) rfl)⟩ (preV hK hN w (k := (9 + (ix p1))) (Nat.lt_of_lt_of_le (Nat.add_lt_add_left (vpl g53) 9) (by decide)) (eC_sh ad (vpl g53) _) (q := (RX1, TX1, 4)) rfl) rfl rfl hl.1 rfl (lv_room (Nat.le_of_ble_eq_true rfl)) dX3_sheet_56 ⟨Nat.zero_le _, Nat.zero_le _⟩) (fun H locs w => ?_)
          refine lv_iconst (v := 1) hx hb dX3_sheet_59 (by decide) ?_
          exact endWi S hr hlocks w hG dX3_sheet_60
        · have t34 : p3.toInt < 0 := qt_nle c34
          rw [if_neg c34] at hG
          refine lv_aload_n hx hb dX3_sheet_37 rfl (lv_at hl 0 rfl) ?_
          refine lv_iconst (v := 4) hx hb dX3_sheet_38 (by decide) ?_
          refine callWi w (va_runV (As := [.int 4]) (rest := []) S (c_X3_faulted l ad D s.heap.size σ 4) (cwV 1 S.2.2.2.2 gX3_sheet_X3_faulted rfl rfl rfl ⟨rfl, hd_X3_faulted⟩ ⟨Nat.le_of_ble_eq_true rfl, Nat.le_of_ble_eq_true rfl⟩) (preV hK hN w (k := 0) (by decide) (eC_0 ad _) (q := (RX3, TX3, 14)) rfl) rfl rfl hl.1 rfl (lv_room (Nat.le_of_ble_eq_true rfl)) dX3_sheet_39 ⟨Nat.zero_le _, Nat.zero_le _⟩) (fun H locs w => ?_)
          exact endWi S hr hlocks w hG dX3_sheet_42
      · have t23 : 90 < p3.toInt := qt_nle c23
        rw [if_neg c23] at hG
        refine lv_aload_n hx hb dX3_sheet_26 rfl (lv_at hl 0 rfl) ?_
        refine lv_bipush (v := (-2)) hx hb dX3_sheet_27 (by decide) ?_
        refine callWi w (va_runV (As := [.int (-2)]) (rest := []) S (c_X3_refused l ad D s.heap.size σ (-2)) (cwV 1 S.2.2.2.2 gX3_sheet_X3_refused rfl rfl rfl ⟨rfl, hd_X3_refused⟩ ⟨Nat.le_of_ble_eq_true rfl, Nat.le_of_ble_eq_true rfl⟩) (preV hK hN w (k := 0) (by decide) (eC_0 ad _) (q := (RX3, TX3, 14)) rfl) rfl rfl hl.1 rfl (lv_room (Nat.le_of_ble_eq_true rfl)) dX3_sheet_29 ⟨Nat.zero_le _, Nat.zero_le _⟩) (fun H locs w => ?_)
        exact endWi S hr hlocks w hG dX3_sheet_32
  · rw [if_pos c4] at hG
    refine lv_aload_n hx hb dX3_sheet_7 rfl (lv_at hl 0 rfl) ?_
    refine lv_iconst (v := (-1)) hx hb dX3_sheet_8 (by decide) ?_
    refine callWi w (va_runV (As := [.int (-1)]) (rest := []) S (c_X3_refused l ad D s.heap.size σ (-1)) (cwV 1 S.2.2.2.2 gX3_sheet_X3_refused rfl rfl rfl ⟨rfl, hd_X3_refused⟩ ⟨Nat.le_of_ble_eq_true rfl, Nat.le_of_ble_eq_true rfl⟩) (preV hK hN w (k := 0) (by decide) (eC_0 ad _) (q := (RX3, TX3, 14)) rfl) rfl rfl hl.1 rfl (lv_room (Nat.le_of_ble_eq_true rfl)) dX3_sheet_9 ⟨Nat.zero_le _, Nat.zero_le _⟩) (fun H locs w => ?_)
    exact endWi S hr hlocks w hG dX3_sheet_12
set_option maxHeartbeats 4000000 in
set_option maxRecDepth 100000 in
theorem c_X3_put (l : Launch) (ad : Nat → Nat) (D : va_G) (sz : Nat) (σ : St) (p1 : Int32) (p2 : Int32) (p3 : Int32) (hok : OkC σ) : Met l yX3_put wsX3_put ({ frames := 1, cells := 0, slots := 0, locals := 23 }) (PreW 41 (eC ad) ad D (tyC ad) σ sz ([.ref (ad 0), .int p1, .int p2, .int p3] : List Value)) (QWi 41 (eC ad) ad D (f_X3_put σ p1 p2 p3) (CA 41 ad sz)) 0 0 (CA 41 ad sz) := by
  generalize hG : f_X3_put σ p1 p2 p3 = T
  refine headW (cc := cX3_put) (maxL := 5) (ret := (some .int)) ([.ref (ad 0), .int p1, .int p2, .int p3] : List Value) (by decide) rfl (Nat.le_of_ble_eq_true rfl) ?_
  intro p e s m below meth c S hr hlocks hK hN hsz w ls hl
  have S : CallFix p m c cX3_put 5 s ([.ref (ad 0), .int p1, .int p2, .int p3] : List Value).toArray wsX3_put RX3 := S
  have hx := S.1
  have hb := S.2.1
  have z0 : (0 : Int32).toInt = 0 := by decide
  have z1 : (1 : Int32).toInt = 1 := by decide
  have hl : lv_has ls 5 [(0, .ref (ad 0)), (1, .int p1), (2, .int p2), (3, .int p3)] := hl
  have hinX3 : ∀ w ∈ wsX30, w ∈ wsX3_put := (fun _ h => List.mem_cons_of_mem _ (List.mem_append_left _ (List.mem_append_right _ h)))
  have hinX1 : ∀ w ∈ wsX10, w ∈ wsX3_put := (fun _ h => List.mem_cons_of_mem _ (List.mem_append_right _ h))
  have okf0 := hok.1
  have okf1 := hok.2.1
  have okf2 := hok.2.2.1
  have okf3 := hok.2.2.2.1
  have okf4 := hok.2.2.2.2.1
  have okf5 := hok.2.2.2.2.2
  rw [f_X3_put] at hG
  refine lv_iload_n hx hb dX3_put_0 rfl (lv_at hl 1 rfl) ?_
  refine call0i (va_runS (As := [.int p1]) (rest := []) S (c_X3_isSheet l p1) (va_cwS 1 S.2.2.2.2 gX3_put_X3_isSheet rfl rfl rfl hd_X3_isSheet ⟨Nat.le_of_ble_eq_true rfl, Nat.le_of_ble_eq_true rfl⟩) pre0S rfl rfl hl.1 rfl (lv_room (Nat.le_of_ble_eq_true rfl)) dX3_put_1 ⟨Nat.zero_le _, Nat.zero_le _⟩) ?_
  refine lv_if_ne (tgt := 13) hx hb dX3_put_4 (by decide) (fun c4 => ?_) (fun c4 => ?_)
  · have t4 := bf_isSheet_n c4
    rw [if_neg c4] at hG
    refine lv_aload_n hx hb dX3_put_13 rfl (lv_at hl 0 rfl) ?_
    refine r_get (C := RX3) (T := TX3) (N := 14) S hK w (k := 0) (by decide) (eC_0 ad _) rfl hinX3 0 (by decide) (List.mem_of_getElem? (i := 1) rfl) rfl dX3_put_14 ?_
    refine lv_iload_n hx hb dX3_put_17 rfl (lv_at hl 1 rfl) ?_
    have g18 : vp_in p1 4 := vpi (by omega) (by omega)
    refine r_aald S hK w (k := 1) (by decide) (eC_1 ad _) (t0 := 1) rfl g18 dX3_put_18 ?_
    refine lv_astore (lv' := [(4, .ref (ad (9 + (ix p1)))), (0, .ref (ad 0)), (1, .int p1), (2, .int p2), (3, .int p3)]) hx hb dX3_put_19 hl (by decide) rfl (fun ls hl => ?_)
    refine lv_aload hx hb dX3_put_21 (lv_at hl 0 rfl) ?_
    refine r_getN (C := RX1) (T := TX1) (N := 4) S hK hN w (k := (9 + (ix p1))) (Nat.lt_of_lt_of_le (Nat.add_lt_add_left (vpl g18) 9) (by decide)) (eC_sh ad (vpl g18) _) rfl hinX1 0 (by decide) 0 rfl rfl dX3_put_23 ?_
    refine lv_if_ne (tgt := 35) hx hb dX3_put_26 (by decide) (fun c26 => ?_) (fun c26 => ?_)
    · have t26 : (σ (9 + (ix p1)) 0).toInt ≠ 0 := qt_ne c26
      rw [if_neg c26] at hG
      refine lv_aload hx hb dX3_put_35 (lv_at hl 0 rfl) ?_
      refine lv_iload_n hx hb dX3_put_37 rfl (lv_at hl 3 rfl) ?_
      refine lv_lconst (v := 1) hx hb dX3_put_38 (by decide) ?_
      refine call0i (va_runVN (As := [.int p2, .long 1]) (rest := []) S (c_X1_lacks l ad D s.heap.size σ (ix p1) p2 1 (vpl g18)) ⟨va_cnB 2 S.2.2.2.2 gX3_put_X1_lacks_n254 rfl rfl rfl (hN.m 3 rfl) (S.2.2.2.2 _ (List.mem_of_getElem? (i := 16) rfl)) hd_X1_lacks ⟨Nat.le_of_ble_eq_true rfl, Nat.le_of_ble_eq_true rfl⟩, S.2.2.2.2 _ (List.mem_of_getElem? (i := 15) rfl), S.2.2.2.2 _ (List.mem_of_getElem? (i := 17) rfl)⟩ (preV hK hN w (k := (9 + (ix p1))) (Nat.lt_of_lt_of_le (Nat.add_lt_add_left (vpl g18) 9) (by decide)) (eC_sh ad (vpl g18) _) (q := (RX1, TX1, 4)) rfl) rfl rfl hl.1 rfl (lv_room (Nat.le_of_ble_eq_true rfl)) dX3_put_39 ⟨Nat.zero_le _, Nat.zero_le _⟩) ?_
      refine lv_if_eq (tgt := 51) hx hb dX3_put_42 (by decide) (fun c42 => ?_) (fun c42 => ?_)
      · have t42 := bf_lacks_z c42
        rw [if_pos c42] at hG
        have z1 : (1 : Int64).toInt = 1 := by decide
        have z3 := okf3 (ix p1) (vpl g18)
        refine lv_aload_n hx hb dX3_put_51 rfl (lv_at hl 1 rfl) ?_
        refine lv_iconst (v := 0) hx hb dX3_put_52 (by decide) ?_
        refine r_put (C := RX3) (T := TX3) (N := 14) S hK w (k := 0) (by decide) (eC_0 ad _) rfl hinX3 tyX3 tyX3_ok nmX3 9 (by decide) (List.mem_of_getElem? (i := 2) rfl) rfl (x := 0) (ty := .int) (by decide +kernel) rfl rfl (by show _ < List.length _; exact Nat.le_of_ble_eq_true rfl) (sO ad _ _ 9 (by decide)) dX3_put_53 (fun H locs w => ?_)
        have hok : OkC (u2 σ 0 9 0) := okC_obj (by decide) hok
        have okf0 := hok.1
        have okf1 := hok.2.1
        have okf2 := hok.2.2.1
        have okf3 := hok.2.2.2.1
        have okf4 := hok.2.2.2.2.1
        have okf5 := hok.2.2.2.2.2
        refine lv_aload hx hb dX3_put_56 (lv_at hl 0 rfl) ?_
        refine r_getN (C := RX1) (T := TX1) (N := 4) S hK hN w (k := (9 + (ix p1))) (Nat.lt_of_lt_of_le (Nat.add_lt_add_left (vpl g18) 9) (by decide)) (eC_sh ad (vpl g18) _) rfl hinX1 3 (by decide) 2 rfl rfl dX3_put_58 ?_
        refine lv_iload_n hx hb dX3_put_61 rfl (lv_at hl 3 rfl) ?_
        refine lv_aload hx hb dX3_put_62 (lv_at hl 0 rfl) ?_
        refine lv_iload_n hx hb dX3_put_64 rfl (lv_at hl 4 rfl) ?_
        refine call0i (va_runVN (As := [.int p3]) (rest := [.int p2, .ref (ad (13 + (ix p1)))]) S (c_X1_cut l ad D H.size (u2 σ 0 9 0) (ix p1) p3 (vpl g18)) ⟨va_cnB 1 S.2.2.2.2 gX3_put_X1_cut_n258 rfl rfl rfl (hN.m 5 rfl) (S.2.2.2.2 _ (List.mem_of_getElem? (i := 16) rfl)) hd_X1_cut ⟨Nat.le_of_ble_eq_true rfl, Nat.le_of_ble_eq_true rfl⟩, S.2.2.2.2 _ (List.mem_of_getElem? (i := 20) rfl), S.2.2.2.2 _ (List.mem_of_getElem? (i := 21) rfl)⟩ (preV hK hN w (k := (9 + (ix p1))) (Nat.lt_of_lt_of_le (Nat.add_lt_add_left (vpl g18) 9) (by decide)) (eC_sh ad (vpl g18) _) (q := (RX1, TX1, 4)) rfl) rfl rfl hl.1 rfl (lv_room (Nat.le_of_ble_eq_true rfl)) dX3_put_65 ⟨Nat.zero_le _, Nat.zero_le _⟩) ?_
        have g68 : vp_in p2 90 := vpi (by omega) (by omega)
        refine r_iast (cA := ad 100) (N := 90) S hK w (k := (13 + (ix p1))) (Nat.lt_of_lt_of_le (Nat.add_lt_add_left (vpl g18) 13) (by decide)) (fun f => eC_sc ad (vpl g18) f) rfl g68 dX3_put_68 (fun H locs w => ?_)
        have hok : OkC (u2 (u2 σ 0 9 0) (13 + (ix p1)) (ix p2) (f_X1_cut (u2 σ 0 9 0) (ix p1) p3)) := okC_scr (show scrC (13 + (ix p1)) by have h9 := (vpl g18); unfold scrC; omega) hok
        have okf0 := hok.1
        have okf1 := hok.2.1
        have okf2 := hok.2.2.1
        have okf3 := hok.2.2.2.1
        have okf4 := hok.2.2.2.2.1
        have okf5 := hok.2.2.2.2.2
        refine lv_iconst (v := 1) hx hb dX3_put_69 (by decide) ?_
        exact endWi S hr hlocks w hG dX3_put_70
      · rw [if_neg c42] at hG
        refine lv_aload_n hx hb dX3_put_45 rfl (lv_at hl 1 rfl) ?_
        refine lv_iconst (v := 3) hx hb dX3_put_46 (by decide) ?_
        refine callWi w (va_runV (As := [.int 3]) (rest := []) S (c_X3_faulted l ad D s.heap.size σ 3) (cwV 1 S.2.2.2.2 gX3_put_X3_faulted rfl rfl rfl ⟨rfl, hd_X3_faulted⟩ ⟨Nat.le_of_ble_eq_true rfl, Nat.le_of_ble_eq_true rfl⟩) (preV hK hN w (k := 0) (by decide) (eC_0 ad _) (q := (RX3, TX3, 14)) rfl) rfl rfl hl.1 rfl (lv_room (Nat.le_of_ble_eq_true rfl)) dX3_put_47 ⟨Nat.zero_le _, Nat.zero_le _⟩) (fun H locs w => ?_)
        exact endWi S hr hlocks w hG dX3_put_50
    · have t26 : (σ (9 + (ix p1)) 0).toInt = 0 := qt_eq c26
      rw [if_pos c26] at hG
      refine lv_aload_n hx hb dX3_put_29 rfl (lv_at hl 1 rfl) ?_
      refine lv_iconst (v := 1) hx hb dX3_put_30 (by decide) ?_
      refine callWi w (va_runV (As := [.int 1]) (rest := []) S (c_X3_faulted l ad D s.heap.size σ 1) (cwV 1 S.2.2.2.2 gX3_put_X3_faulted rfl rfl rfl ⟨rfl, hd_X3_faulted⟩ ⟨Nat.le_of_ble_eq_true rfl, Nat.le_of_ble_eq_true rfl⟩) (preV hK hN w (k := 0) (by decide) (eC_0 ad _) (q := (RX3, TX3, 14)) rfl) rfl rfl hl.1 rfl (lv_room (Nat.le_of_ble_eq_true rfl)) dX3_put_31 ⟨Nat.zero_le _, Nat.zero_le _⟩) (fun H locs w => ?_)
      exact endWi S hr hlocks w hG dX3_put_34
  · rw [if_pos c4] at hG
    refine lv_aload_n hx hb dX3_put_7 rfl (lv_at hl 0 rfl) ?_
    refine lv_iconst (v := (-1)) hx hb dX3_put_8 (by decide) ?_
    refine callWi w (va_runV (As := [.int (-1)]) (rest := []) S (c_X3_refused l ad D s.heap.size σ (-1)) (cwV 1 S.2.2.2.2 gX3_put_X3_refused rfl rfl rfl ⟨rfl, hd_X3_refused⟩ ⟨Nat.le_of_ble_eq_true rfl, Nat.le_of_ble_eq_true rfl⟩) (preV hK hN w (k := 0) (by decide) (eC_0 ad _) (q := (RX3, TX3, 14)) rfl) rfl rfl hl.1 rfl (lv_room (Nat.le_of_ble_eq_true rfl)) dX3_put_9 ⟨Nat.zero_le _, Nat.zero_le _⟩) (fun H locs w => ?_)
    exact endWi S hr hlocks w hG dX3_put_12
set_option maxHeartbeats 4000000 in
set_option maxRecDepth 100000 in
theorem c_X3_cell (l : Launch) (ad : Nat → Nat) (D : va_G) (sz : Nat) (σ : St) (p1 : Int32) (p2 : Int32) (p3 : Int32) (hok : OkC σ) : Met l yX3_cell wsX3_cell ({ frames := 2, cells := 0, slots := 0, locals := 49 }) (PreW 41 (eC ad) ad D (tyC ad) σ sz ([.ref (ad 0), .int p1, .int p2, .int p3] : List Value)) (QWl 41 (eC ad) ad D (f_X3_cell σ p1 p2 p3) (CA 41 ad sz)) 0 0 (CA 41 ad sz) := by
  generalize hG : f_X3_cell σ p1 p2 p3 = T
  refine headW (cc := cX3_cell) (maxL := 4) (ret := (some .long)) ([.ref (ad 0), .int p1, .int p2, .int p3] : List Value) (by decide) rfl (Nat.le_of_ble_eq_true rfl) ?_
  intro p e s m below meth c S hr hlocks hK hN hsz w ls hl
  have S : CallFix p m c cX3_cell 4 s ([.ref (ad 0), .int p1, .int p2, .int p3] : List Value).toArray wsX3_cell RX3 := S
  have hx := S.1
  have hb := S.2.1
  have z0 : (0 : Int32).toInt = 0 := by decide
  have z1 : (1 : Int32).toInt = 1 := by decide
  have hl : lv_has ls 4 [(0, .ref (ad 0)), (1, .int p1), (2, .int p2), (3, .int p3)] := hl
  have hinX3 : ∀ w ∈ wsX30, w ∈ wsX3_cell := (fun _ h => List.mem_cons_of_mem _ (List.mem_append_left _ (List.mem_append_right _ h)))
  have hinX1 : ∀ w ∈ wsX10, w ∈ wsX3_cell := (fun _ h => List.mem_cons_of_mem _ (List.mem_append_right _ h))
  have okf0 := hok.1
  have okf1 := hok.2.1
  have okf2 := hok.2.2.1
  have okf3 := hok.2.2.2.1
  have okf4 := hok.2.2.2.2.1
  have okf5 := hok.2.2.2.2.2
  rw [f_X3_cell] at hG
  refine lv_aload_n hx hb dX3_cell_0 rfl (lv_at hl 0 rfl) ?_
  refine lv_iload_n hx hb dX3_cell_1 rfl (lv_at hl 1 rfl) ?_
  refine lv_iload_n hx hb dX3_cell_2 rfl (lv_at hl 3 rfl) ?_
  refine lv_iload_n hx hb dX3_cell_3 rfl (lv_at hl 2 rfl) ?_
  refine lv_lconst (v := 1) hx hb dX3_cell_4 (by decide) ?_
  have ok3 := okf3
  refine callWi w (va_runV (As := [.int p1, .int p3, .int p2, .long 1]) (rest := []) S (c_X3_spanRefusal l ad D s.heap.size σ p1 p3 p2 1) (cwV 4 S.2.2.2.2 gX3_cell_X3_spanRefusal rfl rfl rfl ⟨rfl, hd_X3_spanRefusal⟩ ⟨Nat.le_of_ble_eq_true rfl, Nat.le_of_ble_eq_true rfl⟩) (preV hK hN w (k := 0) (by decide) (eC_0 ad _) (q := (RX3, TX3, 14)) rfl) rfl rfl hl.1 rfl (lv_room (Nat.le_of_ble_eq_true rfl)) dX3_cell_5 ⟨Nat.zero_le _, Nat.zero_le _⟩) (fun H locs w => ?_)
  have hok : OkC ((f_X3_spanRefusal σ p1 p3 p2 1).2) := ok_X3_spanRefusal hok
  have okf0 := hok.1
  have okf1 := hok.2.1
  have okf2 := hok.2.2.1
  have okf3 := hok.2.2.2.1
  have okf4 := hok.2.2.2.2.1
  have okf5 := hok.2.2.2.2.2
  refine lv_if_eq (tgt := 15) hx hb dX3_cell_8 (by decide) (fun c8 => ?_) (fun c8 => ?_)
  · have t8 : ((f_X3_spanRefusal σ p1 p3 p2 1).1).toInt = 0 := qt_eq c8
    rw [if_pos c8] at hG
    have z := sp_z c8
    have z1 : (1 : Int64).toInt = 1 := by decide
    have z3 := ok3 (ix p1) (vpl (vpi (by omega) (by omega)))
    refine lv_aload_n hx hb dX3_cell_15 rfl (lv_at hl 0 rfl) ?_
    refine r_get (C := RX3) (T := TX3) (N := 14) S hK w (k := 0) (by decide) (eC_0 ad _) rfl hinX3 0 (by decide) (List.mem_of_getElem? (i := 2) rfl) rfl dX3_cell_16 ?_
    refine lv_iload_n hx hb dX3_cell_19 rfl (lv_at hl 1 rfl) ?_
    have g20 : vp_in p1 4 := vpi (by omega) (by omega)
    refine r_aald S hK w (k := 1) (by decide) (eC_1 ad _) (t0 := 1) rfl g20 dX3_cell_20 ?_
    refine r_getN (C := RX1) (T := TX1) (N := 4) S hK hN w (k := (9 + (ix p1))) (Nat.lt_of_lt_of_le (Nat.add_lt_add_left (vpl g20) 9) (by decide)) (eC_sh ad (vpl g20) _) rfl hinX1 3 (by decide) 2 rfl rfl dX3_cell_21 ?_
    refine lv_iload_n hx hb dX3_cell_24 rfl (lv_at hl 2 rfl) ?_
    have g25 : vp_in p2 90 := vpi (by omega) (by omega)
    refine r_iald (cA := ad 100) (N := 90) S hK w (k := (13 + (ix p1))) (Nat.lt_of_lt_of_le (Nat.add_lt_add_left (vpl g20) 13) (by decide)) (fun f => eC_sc ad (vpl g20) f) rfl g25 dX3_cell_25 ?_
    refine lv_i2l hx hb dX3_cell_26 rfl ?_
    exact endWl S hr hlocks w hG dX3_cell_27
  · have t8 : ((f_X3_spanRefusal σ p1 p3 p2 1).1).toInt ≠ 0 := qt_ne c8
    rw [if_neg c8] at hG
    refine lv_ldc2 hx hb S.2.2.2.1 (S.2.2.2.2 _ (List.mem_of_getElem? (i := 1) rfl)) dX3_cell_11 ?_
    exact endWl S hr hlocks w hG dX3_cell_14
set_option maxHeartbeats 4000000 in
set_option maxRecDepth 100000 in
theorem c_X3_fault (l : Launch) (ad : Nat → Nat) (D : va_G) (sz : Nat) (σ : St) : Met l yX3_fault wsX3_fault ({ frames := 0, cells := 0, slots := 0, locals := 0 }) (PreW 41 (eC ad) ad D (tyC ad) σ sz ([.ref (ad 0)] : List Value)) (Q0i (f_X3_fault σ)) 0 0 N0 := by
  generalize hG : f_X3_fault σ = T
  refine headW (cc := cX3_fault) (maxL := 1) (ret := (some .int)) ([.ref (ad 0)] : List Value) (by decide) rfl (Nat.le_of_ble_eq_true rfl) ?_
  intro p e s m below meth c S hr hlocks hK hN hsz w ls hl
  have S : CallFix p m c cX3_fault 1 s ([.ref (ad 0)] : List Value).toArray wsX3_fault RX3 := S
  have hx := S.1
  have hb := S.2.1
  have z0 : (0 : Int32).toInt = 0 := by decide
  have z1 : (1 : Int32).toInt = 1 := by decide
  have hl : lv_has ls 1 [(0, .ref (ad 0))] := hl
  have hinX3 : ∀ w ∈ wsX30, w ∈ wsX3_fault := (fun _ h => List.mem_cons_of_mem _ (List.mem_append_right _ h))
  rw [f_X3_fault] at hG
  refine lv_aload_n hx hb dX3_fault_0 rfl (lv_at hl 0 rfl) ?_
  refine r_get (C := RX3) (T := TX3) (N := 14) S hK w (k := 0) (by decide) (eC_0 ad _) rfl hinX3 9 (by decide) (List.mem_of_getElem? (i := 1) rfl) rfl dX3_fault_1 ?_
  exact end0i S hr hlocks hG dX3_fault_4
end
section
set_option maxHeartbeats 4000000 in
set_option maxRecDepth 100000 in
theorem c_L_low (l : Launch) (p1 : Int32) (p2 : Int32) (hn : ¬ p2 = 0) : Met l yL_low wsL_low ({ frames := 0, cells := 0, slots := 0, locals := 0 }) (Pre0 ([.int p1, .int p2] : List Value)) (Q0i (f_L_low p1 p2)) 0 0 N0 := by
  generalize hG : f_L_low p1 p2 = T
  refine head0 (cc := cL_low) (maxL := 2) (ret := (some .int)) ([.int p1, .int p2] : List Value) (by decide) rfl (Nat.le_of_ble_eq_true rfl) ?_
  intro p e s m below meth c S hr hlocks ls hl
  have S : CallFix p m c cL_low 2 s ([.int p1, .int p2] : List Value).toArray wsL_low RL := S
  have hx := S.1
  have hb := S.2.1
  have z0 : (0 : Int32).toInt = 0 := by decide
  have z1 : (1 : Int32).toInt = 1 := by decide
  have hl : lv_has ls 2 [(0, .int p1), (1, .int p2)] := hl
  rw [f_L_low] at hG
  refine lv_iload_n hx hb dL_low_0 rfl (lv_at hl 0 rfl) ?_
  refine lv_ldc hx hb S.2.2.2.1 (S.2.2.2.2 _ (List.mem_of_getElem? (i := 1) rfl)) dL_low_1 ?_
  refine lv_iand hx hb dL_low_3 ?_
  refine lv_iload_n hx hb dL_low_4 rfl (lv_at hl 1 rfl) ?_
  refine lv_irem hx hb dL_low_5 hn ?_
  exact end0i S hr hlocks hG dL_low_6
set_option maxHeartbeats 4000000 in
set_option maxRecDepth 100000 in
theorem c_L_set (l : Launch) (ad : Nat → Nat) (D : va_G) (sz : Nat) (σ : St) (p3 : Int32) (p4 : Int32) (p5 : Int32) (hx : 0 ≤ p3.toInt ∧ p3.toInt < 8) (hkk : 0 ≤ p4.toInt ∧ p4.toInt < 10) : Met l yL_set wsL_set ({ frames := 0, cells := 0, slots := 0, locals := 0 }) (PreW 3 (eL ad) ad D (tyL ad) σ sz ([.ref (ad 1), .ref (ad 2), .int p3, .int p4, .int p5] : List Value)) (QWv 3 (eL ad) ad D (f_L_set σ p3 p4 p5) (CA 3 ad sz)) 0 0 (CA 3 ad sz) := by
  generalize hG : f_L_set σ p3 p4 p5 = T
  refine headW (cc := cL_set) (maxL := 5) (ret := none) ([.ref (ad 1), .ref (ad 2), .int p3, .int p4, .int p5] : List Value) (by decide) rfl (Nat.le_of_ble_eq_true rfl) ?_
  intro p e s m below meth c S hr hlocks hK hN hsz w ls hl
  have S : CallFix p m c cL_set 5 s ([.ref (ad 1), .ref (ad 2), .int p3, .int p4, .int p5] : List Value).toArray wsL_set RL := S
  have hx := S.1
  have hb := S.2.1
  have z0 : (0 : Int32).toInt = 0 := by decide
  have z1 : (1 : Int32).toInt = 1 := by decide
  have hl : lv_has ls 5 [(0, .ref (ad 1)), (1, .ref (ad 2)), (2, .int p3), (3, .int p4), (4, .int p5)] := hl
  rw [f_L_set] at hG
  refine lv_iload_n hx hb dL_set_0 rfl (lv_at hl 2 rfl) ?_
  refine lv_bipush (v := 6) hx hb dL_set_1 (by decide) ?_
  refine lv_icmp_ge (tgt := 19) hx hb dL_set_3 (by decide) (fun c3 => ?_) (fun c3 => ?_)
  · have t3 : 6 ≤ p3.toInt := qt_le c3
    rw [if_pos c3] at hG
    have e6 : (6 : Int32).toInt = 6 := by decide
    have e7 := s_toInt (a := p3) (b := 6) (by omega) (by omega)
    have e9 := km_toInt (a := p3 - 6) (k := 10) (z := 10) (by decide) (by omega) (by omega)
    have e11 := a_toInt (a := 10 * (p3 - 6)) (b := p4) (by omega) (by omega)
    refine lv_aload_n hx hb dL_set_19 rfl (lv_at hl 1 rfl) ?_
    refine lv_bipush (v := 10) hx hb dL_set_20 (by decide) ?_
    refine lv_iload_n hx hb dL_set_22 rfl (lv_at hl 2 rfl) ?_
    refine lv_bipush (v := 6) hx hb dL_set_23 (by decide) ?_
    refine lv_isub hx hb dL_set_25 ?_
    refine lv_imul hx hb dL_set_26 ?_
    refine lv_iload_n hx hb dL_set_27 rfl (lv_at hl 3 rfl) ?_
    refine lv_iadd hx hb dL_set_28 ?_
    refine lv_iload hx hb dL_set_29 (lv_at hl 4 rfl) ?_
    have g31 : vp_in ((10 * (p3 - 6)) + p4) 20 := vpi (by omega) (by omega)
    refine r_iast (cA := ad 100) (N := 20) S hK w (k := 2) (by decide) (fun f => rfl) rfl g31 dL_set_31 (fun H locs w => ?_)
    exact endWv S hr hlocks w hG dL_set_32
  · have t3 : p3.toInt < 6 := qt_nle c3
    rw [if_neg c3] at hG
    have e9 := km_toInt (a := p3) (k := 10) (z := 10) (by decide) (by omega) (by omega)
    have e11 := a_toInt (a := 10 * p3) (b := p4) (by omega) (by omega)
    refine lv_aload_n hx hb dL_set_6 rfl (lv_at hl 0 rfl) ?_
    refine lv_bipush (v := 10) hx hb dL_set_7 (by decide) ?_
    refine lv_iload_n hx hb dL_set_9 rfl (lv_at hl 2 rfl) ?_
    refine lv_imul hx hb dL_set_10 ?_
    refine lv_iload_n hx hb dL_set_11 rfl (lv_at hl 3 rfl) ?_
    refine lv_iadd hx hb dL_set_12 ?_
    refine lv_iload hx hb dL_set_13 (lv_at hl 4 rfl) ?_
    have g15 : vp_in ((10 * p3) + p4) 60 := vpi (by omega) (by omega)
    refine r_iast (cA := ad 100) (N := 60) S hK w (k := 1) (by decide) (fun f => rfl) rfl g15 dL_set_15 (fun H locs w => ?_)
    refine lv_goto (tgt := 32) hx hb dL_set_16 (by decide) ?_
    exact endWv S hr hlocks w hG dL_set_32
set_option maxHeartbeats 4000000 in
set_option maxRecDepth 100000 in
theorem c_L_get (l : Launch) (ad : Nat → Nat) (D : va_G) (sz : Nat) (σ : St) (p3 : Int32) (p4 : Int32) (hx : 0 ≤ p3.toInt ∧ p3.toInt < 8) (hkk : 0 ≤ p4.toInt ∧ p4.toInt < 10) : Met l yL_get wsL_get ({ frames := 0, cells := 0, slots := 0, locals := 0 }) (PreW 3 (eL ad) ad D (tyL ad) σ sz ([.ref (ad 1), .ref (ad 2), .int p3, .int p4] : List Value)) (Q0i (f_L_get σ p3 p4)) 0 0 N0 := by
  generalize hG : f_L_get σ p3 p4 = T
  refine headW (cc := cL_get) (maxL := 4) (ret := (some .int)) ([.ref (ad 1), .ref (ad 2), .int p3, .int p4] : List Value) (by decide) rfl (Nat.le_of_ble_eq_true rfl) ?_
  intro p e s m below meth c S hr hlocks hK hN hsz w ls hl
  have S : CallFix p m c cL_get 4 s ([.ref (ad 1), .ref (ad 2), .int p3, .int p4] : List Value).toArray wsL_get RL := S
  have hx := S.1
  have hb := S.2.1
  have z0 : (0 : Int32).toInt = 0 := by decide
  have z1 : (1 : Int32).toInt = 1 := by decide
  have hl : lv_has ls 4 [(0, .ref (ad 1)), (1, .ref (ad 2)), (2, .int p3), (3, .int p4)] := hl
  rw [f_L_get] at hG
  refine lv_iload_n hx hb dL_get_0 rfl (lv_at hl 2 rfl) ?_
  refine lv_bipush (v := 6) hx hb dL_get_1 (by decide) ?_
  refine lv_icmp_ge (tgt := 17) hx hb dL_get_3 (by decide) (fun c3 => ?_) (fun c3 => ?_)
  · have t3 : 6 ≤ p3.toInt := qt_le c3
    rw [if_pos c3] at hG
    have e6 : (6 : Int32).toInt = 6 := by decide
    have e7 := s_toInt (a := p3) (b := 6) (by omega) (by omega)
    have e9 := km_toInt (a := p3 - 6) (k := 10) (z := 10) (by decide) (by omega) (by omega)
    have e11 := a_toInt (a := 10 * (p3 - 6)) (b := p4) (by omega) (by omega)
    refine lv_aload_n hx hb dL_get_17 rfl (lv_at hl 1 rfl) ?_
    refine lv_bipush (v := 10) hx hb dL_get_18 (by decide) ?_
    refine lv_iload_n hx hb dL_get_20 rfl (lv_at hl 2 rfl) ?_
    refine lv_bipush (v := 6) hx hb dL_get_21 (by decide) ?_
    refine lv_isub hx hb dL_get_23 ?_
    refine lv_imul hx hb dL_get_24 ?_
    refine lv_iload_n hx hb dL_get_25 rfl (lv_at hl 3 rfl) ?_
    refine lv_iadd hx hb dL_get_26 ?_
    have g27 : vp_in ((10 * (p3 - 6)) + p4) 20 := vpi (by omega) (by omega)
    refine r_iald (cA := ad 100) (N := 20) S hK w (k := 2) (by decide) (fun f => rfl) rfl g27 dL_get_27 ?_
    exact end0i S hr hlocks hG dL_get_28
  · have t3 : p3.toInt < 6 := qt_nle c3
    rw [if_neg c3] at hG
    have e9 := km_toInt (a := p3) (k := 10) (z := 10) (by decide) (by omega) (by omega)
    have e11 := a_toInt (a := 10 * p3) (b := p4) (by omega) (by omega)
    refine lv_aload_n hx hb dL_get_6 rfl (lv_at hl 0 rfl) ?_
    refine lv_bipush (v := 10) hx hb dL_get_7 (by decide) ?_
    refine lv_iload_n hx hb dL_get_9 rfl (lv_at hl 2 rfl) ?_
    refine lv_imul hx hb dL_get_10 ?_
    refine lv_iload_n hx hb dL_get_11 rfl (lv_at hl 3 rfl) ?_
    refine lv_iadd hx hb dL_get_12 ?_
    have g13 : vp_in ((10 * p3) + p4) 60 := vpi (by omega) (by omega)
    refine r_iald (cA := ad 100) (N := 60) S hK w (k := 1) (by decide) (fun f => rfl) rfl g13 dL_get_13 ?_
    refine lv_goto (tgt := 28) hx hb dL_get_14 (by decide) ?_
    exact end0i S hr hlocks hG dL_get_28
set_option maxHeartbeats 4000000 in
set_option maxRecDepth 100000 in
theorem c_L_off (l : Launch) (p1 : Int32) (p2 : Int32) : Met l yL_off wsL_off ({ frames := 0, cells := 0, slots := 0, locals := 0 }) (Pre0 ([.int p1, .int p2] : List Value)) (Q0i (f_L_off p1 p2)) 0 0 N0 := by
  generalize hG : f_L_off p1 p2 = T
  refine head0 (cc := cL_off) (maxL := 2) (ret := (some .int)) ([.int p1, .int p2] : List Value) (by decide) rfl (Nat.le_of_ble_eq_true rfl) ?_
  intro p e s m below meth c S hr hlocks ls hl
  have S : CallFix p m c cL_off 2 s ([.int p1, .int p2] : List Value).toArray wsL_off RL := S
  have hx := S.1
  have hb := S.2.1
  have z0 : (0 : Int32).toInt = 0 := by decide
  have z1 : (1 : Int32).toInt = 1 := by decide
  have hl : lv_has ls 2 [(0, .int p1), (1, .int p2)] := hl
  rw [f_L_off] at hG
  refine lv_iload_n hx hb dL_off_0 rfl (lv_at hl 0 rfl) ?_
  refine lv_iload_n hx hb dL_off_1 rfl (lv_at hl 1 rfl) ?_
  refine lv_icmp_ge (tgt := 11) hx hb dL_off_2 (by decide) (fun c2 => ?_) (fun c2 => ?_)
  · have t2 : p2.toInt ≤ p1.toInt := qt_le c2
    rw [if_pos c2] at hG
    refine lv_iload_n hx hb dL_off_11 rfl (lv_at hl 0 rfl) ?_
    refine lv_iload_n hx hb dL_off_12 rfl (lv_at hl 1 rfl) ?_
    refine lv_isub hx hb dL_off_13 ?_
    exact end0i S hr hlocks hG dL_off_14
  · have t2 : p1.toInt < p2.toInt := qt_nle c2
    rw [if_neg c2] at hG
    refine lv_iload_n hx hb dL_off_5 rfl (lv_at hl 1 rfl) ?_
    refine lv_iload_n hx hb dL_off_6 rfl (lv_at hl 0 rfl) ?_
    refine lv_isub hx hb dL_off_7 ?_
    refine lv_goto (tgt := 14) hx hb dL_off_8 (by decide) ?_
    exact end0i S hr hlocks hG dL_off_14
set_option maxHeartbeats 4000000 in
set_option maxRecDepth 100000 in
theorem c_L_fades (l : Launch) (ad : Nat → Nat) (D : va_G) (sz : Nat) (σ : St) (p2 : Int32) (p3 : Int32) (p4 : Int32) (p5 : Int32) (hk : 0 ≤ p2.toInt ∧ p2.toInt ≤ 2) (hm : 0 ≤ p3.toInt ∧ p3.toInt < 9) (hh : 1 ≤ (σ 0 (ix (3 + p3))).toInt ∧ (σ 0 (ix (3 + p3))).toInt ≤ 9) (hyr : 0 ≤ p5.toInt ∧ p5.toInt ≤ 99) : Met l yL_fades wsL_fades ({ frames := 0, cells := 0, slots := 0, locals := 0 }) (PreW 3 (eL ad) ad D (tyL ad) σ sz ([.ref (ad 0), .int p2, .int p3, .int p4, .int p5] : List Value)) (Q0i (f_L_fades σ p2 p3 p4 p5)) 0 0 N0 := by
  generalize hG : f_L_fades σ p2 p3 p4 p5 = T
  refine headW (cc := cL_fades) (maxL := 8) (ret := (some .int)) ([.ref (ad 0), .int p2, .int p3, .int p4, .int p5] : List Value) (by decide) rfl (Nat.le_of_ble_eq_true rfl) ?_
  intro p e s m below meth c S hr hlocks hK hN hsz w ls hl
  have S : CallFix p m c cL_fades 8 s ([.ref (ad 0), .int p2, .int p3, .int p4, .int p5] : List Value).toArray wsL_fades RL := S
  have hx := S.1
  have hb := S.2.1
  have z0 : (0 : Int32).toInt = 0 := by decide
  have z1 : (1 : Int32).toInt = 1 := by decide
  have hl : lv_has ls 8 [(0, .ref (ad 0)), (1, .int p2), (2, .int p3), (3, .int p4), (4, .int p5)] := hl
  rw [f_L_fades] at hG
  refine lv_iload_n hx hb dL_fades_0 rfl (lv_at hl 3 rfl) ?_
  refine lv_istore (lv' := [(5, .int p4), (0, .ref (ad 0)), (1, .int p2), (2, .int p3), (3, .int p4), (4, .int p5)]) hx hb dL_fades_1 hl (by decide) rfl (fun ls hl => ?_)
  refine lv_iload_n hx hb dL_fades_3 rfl (lv_at hl 2 rfl) ?_
  refine lv_iconst (v := 2) hx hb dL_fades_4 (by decide) ?_
  have J5_23 : ∀ (k0_5_23 : Int32), (1 ≤ k0_5_23.toInt ∧ k0_5_23.toInt ≤ 1000) → (lp_L_fades_29 σ k0_5_23 200 p4 p5) = T → ∀ ls : Array Slot, lv_has ls 8 [(4, .int p5), (5, .int p4)] → W p l e (headSpec wsL_fades ({ frames := 0, cells := 0, slots := 0, locals := 0 })).room s m ([.ref (ad 0), .int p2, .int p3, .int p4, .int p5] : List Value).toArray below meth c s.heap [] 0 0 (MQ below (Q0i T) ([.ref (ad 0), .int p2, .int p3, .int p4, .int p5] : List Value).toArray s 0 0 N0) (F0 m 23 ls [.int k0_5_23]) := by
    intro k0_5_23 jq23_0 hG ls hl
    refine lv_istore (lv' := [(6, .int k0_5_23), (4, .int p5), (5, .int p4)]) hx hb dL_fades_23 hl (by decide) rfl (fun ls hl => ?_)
    refine lv_iload hx hb dL_fades_25 (lv_at hl 1 rfl) ?_
    refine lv_istore (lv' := [(7, .int p5), (6, .int k0_5_23), (4, .int p5), (5, .int p4)]) hx hb dL_fades_27 hl (by decide) rfl (fun ls hl => ?_)
    have L29 : ∀ (n : Nat) (res29 : Int32), ∀ (v5_29 : Int32), ∀ (v7_29 : Int32), ((0 ≤ v7_29.toInt ∧ v7_29.toInt ≤ 99)) → v7_29.toInt.toNat < n → (lp_L_fades_29 σ k0_5_23 n v5_29 v7_29) = res29 → (∀ (v5_29e : Int32), res29 = v5_29e → ∀ ls : Array Slot, lv_has ls 8 [(5, .int v5_29e)] → W p l e (headSpec wsL_fades ({ frames := 0, cells := 0, slots := 0, locals := 0 })).room s m ([.ref (ad 0), .int p2, .int p3, .int p4, .int p5] : List Value).toArray below meth c s.heap [] 0 0 (MQ below (Q0i T) ([.ref (ad 0), .int p2, .int p3, .int p4, .int p5] : List Value).toArray s 0 0 N0) (F0 m 57 ls [])) → ∀ ls : Array Slot, lv_has ls 8 [(5, .int v5_29), (6, .int k0_5_23), (7, .int v7_29)] → W p l e (headSpec wsL_fades ({ frames := 0, cells := 0, slots := 0, locals := 0 })).room s m ([.ref (ad 0), .int p2, .int p3, .int p4, .int p5] : List Value).toArray below meth c s.heap [] 0 0 (MQ below (Q0i T) ([.ref (ad 0), .int p2, .int p3, .int p4, .int p5] : List Value).toArray s 0 0 N0) (F0 m 29 ls []) := by
      intro n
      induction n with
      | zero => intro _ _ _ _ hm; exact absurd hm (Nat.not_lt_zero _)
      | succ n ih29 =>
        intro res29 v5_29 v7_29 hI29 hm29 hG hex29 ls hl
        have i29_0 := hI29
        rw [lp_L_fades_29] at hG
        refine lv_iload hx hb dL_fades_29 (lv_at hl 2 rfl) ?_
        refine lv_iload hx hb dL_fades_31 (lv_at hl 1 rfl) ?_
        refine lv_icmp_lt (tgt := 57) hx hb dL_fades_33 (by decide) (fun c33 => ?_) (fun c33 => ?_)
        · have t33 : v7_29.toInt < k0_5_23.toInt := qt_lt c33
          rw [if_pos c33] at hG
          exact hex29 v5_29 hG.symm ls (lv_sub hl [0] rfl)
        · have t33 : k0_5_23.toInt ≤ v7_29.toInt := qt_nlt c33
          rw [if_neg c33] at hG
          refine lv_iload hx hb dL_fades_36 (lv_at hl 0 rfl) ?_
          refine lv_iload hx hb dL_fades_38 (lv_at hl 0 rfl) ?_
          refine lv_iconst (v := 2) hx hb dL_fades_40 (by decide) ?_
          refine lv_irem hx hb dL_fades_41 (by decide) ?_
          refine lv_isub hx hb dL_fades_42 ?_
          refine lv_iconst (v := 2) hx hb dL_fades_43 (by decide) ?_
          refine lv_idiv hx hb dL_fades_44 (by decide) ?_
          refine lv_istore (lv' := [(5, .int ((v5_29 - (v5_29 - (v5_29 / 2) * 2)) / 2)), (6, .int k0_5_23), (7, .int v7_29)]) hx hb dL_fades_45 hl (by decide) rfl (fun ls hl => ?_)
          refine lv_iload hx hb dL_fades_47 (lv_at hl 2 rfl) ?_
          refine lv_iload hx hb dL_fades_49 (lv_at hl 1 rfl) ?_
          refine lv_isub hx hb dL_fades_51 ?_
          refine lv_istore (lv' := [(7, .int (v7_29 - k0_5_23)), (5, .int ((v5_29 - (v5_29 - (v5_29 / 2) * 2)) / 2)), (6, .int k0_5_23)]) hx hb dL_fades_52 hl (by decide) rfl (fun ls hl => ?_)
          refine lv_goto (tgt := 29) hx hb dL_fades_54 (by decide) ?_
          have s7 := s_toInt (a := v7_29) (b := k0_5_23) (by omega) (by omega)
          exact ih29 _ ((v5_29 - (v5_29 - (v5_29 / 2) * 2)) / 2) (v7_29 - k0_5_23) (by omega) (by omega) hG hex29 ls (lv_sub hl [1, 2, 0] rfl)
    refine L29 200 _ p4 p5 (by omega) (by omega) rfl (fun v5_29e hr29 ls hl => ?_) ls (lv_sub hl [3, 1, 0] rfl)
    rw [hr29] at hG
    refine lv_iload hx hb dL_fades_57 (lv_at hl 0 rfl) ?_
    exact end0i S hr hlocks hG dL_fades_59
  refine lv_icmp_ne (tgt := 14) hx hb dL_fades_5 (by decide) (fun c5 => ?_) (fun c5 => ?_)
  · have t5 : p2.toInt ≠ 2 := qt_ne c5
    simp only [if_neg c5] at hG
    have z3 : (3 : Int32).toInt = 3 := by decide
    have e17 := a_toInt (a := 3) (b := p3) (by omega) (by omega)
    refine lv_aload_n hx hb dL_fades_14 rfl (lv_at hl 1 rfl) ?_
    refine lv_iconst (v := 3) hx hb dL_fades_15 (by decide) ?_
    refine lv_iload_n hx hb dL_fades_16 rfl (lv_at hl 3 rfl) ?_
    refine lv_iadd hx hb dL_fades_17 ?_
    have g18 : vp_in (3 + p3) 16 := vpi (by omega) (by omega)
    refine r_iald (cA := ad 100) (N := 16) S hK w (k := 0) (by decide) (fun f => rfl) rfl g18 dL_fades_18 ?_
    have z1b : (1 : Int32).toInt = 1 := by decide
    have e21 := a_toInt (a := 1) (b := p2) (by omega) (by omega)
    have e22 := fd_each hh hk
    refine lv_iconst (v := 1) hx hb dL_fades_19 (by decide) ?_
    refine lv_iload_n hx hb dL_fades_20 rfl (lv_at hl 2 rfl) ?_
    refine lv_iadd hx hb dL_fades_21 ?_
    refine lv_imul hx hb dL_fades_22 ?_
    exact J5_23 ((σ 0 (ix (3 + p3))) * (1 + p2)) (by omega) hG ls (lv_sub hl [5, 0] rfl)
  · have t5 : p2.toInt = 2 := qt_eq c5
    simp only [if_pos c5] at hG
    have z1000 : (1000 : Int32).toInt = 1000 := by decide
    refine lv_sipush (v := 1000) hx hb dL_fades_8 (by decide) ?_
    refine lv_goto (tgt := 23) hx hb dL_fades_11 (by decide) ?_
    exact J5_23 1000 (by omega) hG ls (lv_sub hl [5, 0] rfl)
set_option maxHeartbeats 4000000 in
set_option maxRecDepth 100000 in
theorem c_L_apart (l : Launch) (ad : Nat → Nat) (D : va_G) (sz : Nat) (σ : St) (p3 : Int32) (p4 : Int32) (hx1 : 0 ≤ p3.toInt ∧ p3.toInt < 8) (hx2 : 0 ≤ p4.toInt ∧ p4.toInt < 8) : Met l yL_apart wsL_apart ({ frames := 1, cells := 0, slots := 0, locals := 23 }) (PreW 3 (eL ad) ad D (tyL ad) σ sz ([.ref (ad 1), .ref (ad 2), .int p3, .int p4] : List Value)) (Q0i (f_L_apart σ p3 p4)) 0 0 N0 := by
  generalize hG : f_L_apart σ p3 p4 = T
  refine headW (cc := cL_apart) (maxL := 6) (ret := (some .int)) ([.ref (ad 1), .ref (ad 2), .int p3, .int p4] : List Value) (by decide) rfl (Nat.le_of_ble_eq_true rfl) ?_
  intro p e s m below meth c S hr hlocks hK hN hsz w ls hl
  have S : CallFix p m c cL_apart 6 s ([.ref (ad 1), .ref (ad 2), .int p3, .int p4] : List Value).toArray wsL_apart RL := S
  have hx := S.1
  have hb := S.2.1
  have z0 : (0 : Int32).toInt = 0 := by decide
  have z1 : (1 : Int32).toInt = 1 := by decide
  have hl : lv_has ls 6 [(0, .ref (ad 1)), (1, .ref (ad 2)), (2, .int p3), (3, .int p4)] := hl
  rw [f_L_apart] at hG
  refine lv_iconst (v := 0) hx hb dL_apart_0 (by decide) ?_
  refine lv_istore (lv' := [(4, .int 0), (0, .ref (ad 1)), (1, .ref (ad 2)), (2, .int p3), (3, .int p4)]) hx hb dL_apart_1 hl (by decide) rfl (fun ls hl => ?_)
  refine lv_iconst (v := 1) hx hb dL_apart_3 (by decide) ?_
  refine lv_istore (lv' := [(5, .int 1), (4, .int 0), (0, .ref (ad 1)), (1, .ref (ad 2)), (2, .int p3), (3, .int p4)]) hx hb dL_apart_4 hl (by decide) rfl (fun ls hl => ?_)
  have L6 : ∀ (n : Nat) (res6 : Int32), ∀ (v4_6 : Int32), ∀ (v5_6 : Int32), ((1 ≤ v5_6.toInt ∧ v5_6.toInt ≤ 10)) → (10 - v5_6.toInt).toNat < n → (lp_L_apart_6 σ p3 p4 n v4_6 v5_6) = res6 → (∀ (v4_6e : Int32), res6 = v4_6e → ∀ ls : Array Slot, lv_has ls 6 [(4, .int v4_6e)] → W p l e (headSpec wsL_apart ({ frames := 1, cells := 0, slots := 0, locals := 23 })).room s m ([.ref (ad 1), .ref (ad 2), .int p3, .int p4] : List Value).toArray below meth c s.heap [] 0 0 (MQ below (Q0i T) ([.ref (ad 1), .ref (ad 2), .int p3, .int p4] : List Value).toArray s 0 0 N0) (F0 m 43 ls [])) → ∀ ls : Array Slot, lv_has ls 6 [(0, .ref (ad 1)), (1, .ref (ad 2)), (2, .int p3), (3, .int p4), (4, .int v4_6), (5, .int v5_6)] → W p l e (headSpec wsL_apart ({ frames := 1, cells := 0, slots := 0, locals := 23 })).room s m ([.ref (ad 1), .ref (ad 2), .int p3, .int p4] : List Value).toArray below meth c s.heap [] 0 0 (MQ below (Q0i T) ([.ref (ad 1), .ref (ad 2), .int p3, .int p4] : List Value).toArray s 0 0 N0) (F0 m 6 ls []) := by
    intro n
    induction n with
    | zero => intro _ _ _ _ hm; exact absurd hm (Nat.not_lt_zero _)
    | succ n ih6 =>
      intro res6 v4_6 v5_6 hI6 hm6 hG hex6 ls hl
      have i6_0 := hI6
      rw [lp_L_apart_6] at hG
      refine lv_iload hx hb dL_apart_6 (lv_at hl 5 rfl) ?_
      refine lv_bipush (v := 10) hx hb dL_apart_8 (by decide) ?_
      refine lv_icmp_ge (tgt := 43) hx hb dL_apart_10 (by decide) (fun c10 => ?_) (fun c10 => ?_)
      · have t10 : 10 ≤ v5_6.toInt := qt_le c10
        rw [if_pos c10] at hG
        exact hex6 v4_6 hG.symm ls (lv_sub hl [4] rfl)
      · have t10 : v5_6.toInt < 10 := qt_nle c10
        rw [if_neg c10] at hG
        refine lv_iload hx hb dL_apart_13 (lv_at hl 4 rfl) ?_
        refine lv_aload_n hx hb dL_apart_15 rfl (lv_at hl 0 rfl) ?_
        refine lv_aload_n hx hb dL_apart_16 rfl (lv_at hl 1 rfl) ?_
        refine lv_iload_n hx hb dL_apart_17 rfl (lv_at hl 2 rfl) ?_
        refine lv_iload hx hb dL_apart_18 (lv_at hl 5 rfl) ?_
        refine call0i (va_runS (As := [.ref (ad 1), .ref (ad 2), .int p3, .int v5_6]) (rest := [.int v4_6]) S (c_L_get l ad D s.heap.size σ p3 v5_6 (by omega) (by omega)) (va_cwS 4 S.2.2.2.2 gL_apart_L_get rfl rfl rfl hd_L_get ⟨Nat.le_of_ble_eq_true rfl, Nat.le_of_ble_eq_true rfl⟩) (preS hK hN w) rfl rfl hl.1 rfl (lv_room (Nat.le_of_ble_eq_true rfl)) dL_apart_20 ⟨Nat.zero_le _, Nat.zero_le _⟩) ?_
        refine lv_aload_n hx hb dL_apart_23 rfl (lv_at hl 0 rfl) ?_
        refine lv_aload_n hx hb dL_apart_24 rfl (lv_at hl 1 rfl) ?_
        refine lv_iload_n hx hb dL_apart_25 rfl (lv_at hl 3 rfl) ?_
        refine lv_iload hx hb dL_apart_26 (lv_at hl 5 rfl) ?_
        refine call0i (va_runS (As := [.ref (ad 1), .ref (ad 2), .int p4, .int v5_6]) (rest := [.int (f_L_get σ p3 v5_6), .int v4_6]) S (c_L_get l ad D s.heap.size σ p4 v5_6 (by omega) (by omega)) (va_cwS 4 S.2.2.2.2 gL_apart_L_get rfl rfl rfl hd_L_get ⟨Nat.le_of_ble_eq_true rfl, Nat.le_of_ble_eq_true rfl⟩) (preS hK hN w) rfl rfl hl.1 rfl (lv_room (Nat.le_of_ble_eq_true rfl)) dL_apart_28 ⟨Nat.zero_le _, Nat.zero_le _⟩) ?_
        refine call0i (va_runS (As := [.int (f_L_get σ p3 v5_6), .int (f_L_get σ p4 v5_6)]) (rest := [.int v4_6]) S (c_L_off l (f_L_get σ p3 v5_6) (f_L_get σ p4 v5_6)) (va_cwS 2 S.2.2.2.2 gL_apart_L_off rfl rfl rfl hd_L_off ⟨Nat.le_of_ble_eq_true rfl, Nat.le_of_ble_eq_true rfl⟩) pre0S rfl rfl hl.1 rfl (lv_room (Nat.le_of_ble_eq_true rfl)) dL_apart_31 ⟨Nat.zero_le _, Nat.zero_le _⟩) ?_
        refine lv_iadd hx hb dL_apart_34 ?_
        refine lv_istore (lv' := [(4, .int (v4_6 + (f_L_off (f_L_get σ p3 v5_6) (f_L_get σ p4 v5_6)))), (0, .ref (ad 1)), (1, .ref (ad 2)), (2, .int p3), (3, .int p4), (5, .int v5_6)]) hx hb dL_apart_35 hl (by decide) rfl (fun ls hl => ?_)
        refine lv_iinc (v := (v5_6 + 1)) (lv' := [(5, .int (v5_6 + 1)), (4, .int (v4_6 + (f_L_off (f_L_get σ p3 v5_6) (f_L_get σ p4 v5_6)))), (0, .ref (ad 1)), (1, .ref (ad 2)), (2, .int p3), (3, .int p4)]) hx hb dL_apart_37 hl (k := 5) rfl rfl (by decide) rfl (fun ls hl => ?_)
        refine lv_goto (tgt := 6) hx hb dL_apart_40 (by decide) ?_
        have b5_6 : (v5_6 + 1).toInt = v5_6.toInt + 1 := inc_toInt (by omega) (by omega)
        exact ih6 _ (v4_6 + (f_L_off (f_L_get σ p3 v5_6) (f_L_get σ p4 v5_6))) (v5_6 + 1) (by omega) (by omega) hG hex6 ls (lv_sub hl [2, 3, 4, 5, 1, 0] rfl)
  refine L6 200 _ 0 1 (by omega) (by omega) rfl (fun v4_6e hr6 ls hl => ?_) ls (lv_sub hl [2, 3, 4, 5, 1, 0] rfl)
  rw [hr6] at hG
  refine lv_iload hx hb dL_apart_43 (lv_at hl 0 rfl) ?_
  exact end0i S hr hlocks hG dL_apart_45
set_option maxHeartbeats 4000000 in
set_option maxRecDepth 100000 in
theorem c_L_bits (l : Launch) (p1 : Int32) (hb1 : 0 ≤ p1.toInt ∧ p1.toInt ≤ 1024) : Met l yL_bits wsL_bits ({ frames := 0, cells := 0, slots := 0, locals := 0 }) (Pre0 ([.int p1] : List Value)) (Q0i (f_L_bits p1)) 0 0 N0 := by
  generalize hG : f_L_bits p1 = T
  refine head0 (cc := cL_bits) (maxL := 3) (ret := (some .int)) ([.int p1] : List Value) (by decide) rfl (Nat.le_of_ble_eq_true rfl) ?_
  intro p e s m below meth c S hr hlocks ls hl
  have S : CallFix p m c cL_bits 3 s ([.int p1] : List Value).toArray wsL_bits RL := S
  have hx := S.1
  have hb := S.2.1
  have z0 : (0 : Int32).toInt = 0 := by decide
  have z1 : (1 : Int32).toInt = 1 := by decide
  have hl : lv_has ls 3 [(0, .int p1)] := hl
  rw [f_L_bits] at hG
  refine lv_iconst (v := 0) hx hb dL_bits_0 (by decide) ?_
  refine lv_istore_n (lv' := [(1, .int 0), (0, .int p1)]) hx hb dL_bits_1 rfl hl (by decide) rfl (fun ls hl => ?_)
  refine lv_iload_n hx hb dL_bits_2 rfl (lv_at hl 1 rfl) ?_
  refine lv_istore_n (lv' := [(2, .int p1), (1, .int 0), (0, .int p1)]) hx hb dL_bits_3 rfl hl (by decide) rfl (fun ls hl => ?_)
  have L4 : ∀ (n : Nat) (res4 : Int32), ∀ (v1_4 : Int32), ∀ (v2_4 : Int32), ((0 ≤ v2_4.toInt ∧ v2_4.toInt ≤ 1024)) → v2_4.toInt.toNat < n → (lp_L_bits_4 n v1_4 v2_4) = res4 → (∀ (v1_4e : Int32), res4 = v1_4e → ∀ ls : Array Slot, lv_has ls 3 [(1, .int v1_4e)] → W p l e (headSpec wsL_bits ({ frames := 0, cells := 0, slots := 0, locals := 0 })).room s m ([.int p1] : List Value).toArray below meth c s.heap [] 0 0 (MQ below (Q0i T) ([.int p1] : List Value).toArray s 0 0 N0) (F0 m 20 ls [])) → ∀ ls : Array Slot, lv_has ls 3 [(1, .int v1_4), (2, .int v2_4)] → W p l e (headSpec wsL_bits ({ frames := 0, cells := 0, slots := 0, locals := 0 })).room s m ([.int p1] : List Value).toArray below meth c s.heap [] 0 0 (MQ below (Q0i T) ([.int p1] : List Value).toArray s 0 0 N0) (F0 m 4 ls []) := by
    intro n
    induction n with
    | zero => intro _ _ _ _ hm; exact absurd hm (Nat.not_lt_zero _)
    | succ n ih4 =>
      intro res4 v1_4 v2_4 hI4 hm4 hG hex4 ls hl
      have i4_0 := hI4
      rw [lp_L_bits_4] at hG
      refine lv_iload_n hx hb dL_bits_4 rfl (lv_at hl 1 rfl) ?_
      refine lv_if_eq (tgt := 20) hx hb dL_bits_5 (by decide) (fun c5 => ?_) (fun c5 => ?_)
      · have t5 : v2_4.toInt = 0 := qt_eq c5
        rw [if_pos c5] at hG
        exact hex4 v1_4 hG.symm ls (lv_sub hl [0] rfl)
      · have t5 : v2_4.toInt ≠ 0 := qt_ne c5
        rw [if_neg c5] at hG
        refine lv_iinc (v := (v1_4 + 1)) (lv' := [(1, .int (v1_4 + 1)), (2, .int v2_4)]) hx hb dL_bits_8 hl (k := 0) rfl rfl (by decide) rfl (fun ls hl => ?_)
        refine lv_iload_n hx hb dL_bits_11 rfl (lv_at hl 1 rfl) ?_
        refine lv_iload_n hx hb dL_bits_12 rfl (lv_at hl 1 rfl) ?_
        refine lv_iconst (v := 1) hx hb dL_bits_13 (by decide) ?_
        refine lv_isub hx hb dL_bits_14 ?_
        refine lv_iand hx hb dL_bits_15 ?_
        refine lv_istore_n (lv' := [(2, .int (v2_4 &&& (v2_4 - 1))), (1, .int (v1_4 + 1))]) hx hb dL_bits_16 rfl hl (by decide) rfl (fun ls hl => ?_)
        refine lv_goto (tgt := 4) hx hb dL_bits_17 (by decide) ?_
        have s2 := and_pred (a := v2_4) (by omega) (by omega)
        exact ih4 _ (v1_4 + 1) (v2_4 &&& (v2_4 - 1)) (by omega) (by omega) hG hex4 ls (lv_sub hl [1, 0] rfl)
  refine L4 1100 _ 0 p1 (by omega) (by omega) rfl (fun v1_4e hr4 ls hl => ?_) ls (lv_sub hl [1, 0] rfl)
  rw [hr4] at hG
  refine lv_iload_n hx hb dL_bits_20 rfl (lv_at hl 0 rfl) ?_
  exact end0i S hr hlocks hG dL_bits_21
end
section
/-! worlds that grow: the constructors -/
def Wg (n : Nat) (ad : Nat → Nat) (G : Nat → va_E) : va_W := (List.range n).map (fun c => (ad c, G c))
theorem Wg_get {n : Nat} {ad : Nat → Nat} {G : Nat → va_E} {c : Nat} (h : c < n) : (Wg n ad G)[c]? = some (ad c, G c) := by
  unfold Wg
  rw [List.getElem?_map, List.getElem?_range h]
  rfl
theorem Wg_len (n : Nat) (ad : Nat → Nat) (G : Nat → va_E) : (Wg n ad G).length = n := by simp [Wg]
theorem Wg_inv {n : Nat} {ad : Nat → Nat} {G : Nat → va_E} {c : Nat} {q : Nat × va_E} (h : (Wg n ad G)[c]? = some q) : c < n ∧ q = (ad c, G c) := by
  have hl : c < n := by
    have h1 := (List.getElem?_eq_some_iff.mp h).1
    rwa [Wg_len] at h1
  rw [Wg_get hl] at h
  exact ⟨hl, (Option.some.inj h).symm⟩
theorem Wg_set {n : Nat} {ad : Nat → Nat} {G : Nat → va_E} {c : Nat} {e : va_E} : (Wg n ad G).set c (ad c, e) = Wg n ad (va_up G c e) := by
  refine List.ext_getElem? (fun j => ?_)
  rcases Nat.lt_or_ge j n with hj | hj
  · rw [Wg_get hj, List.getElem?_set]
    by_cases hcj : c = j
    · subst hcj
      rw [if_pos rfl, if_pos (by rw [Wg_len]; exact hj), va_up_self]
    · rw [if_neg hcj, Wg_get hj, va_up_ne _ _ (fun h => hcj h.symm)]
  · rw [List.getElem?_eq_none (by rw [List.length_set, Wg_len]; exact hj), List.getElem?_eq_none (by rw [Wg_len]; exact hj)]
theorem Wg_push {n : Nat} {ad : Nat → Nat} {G : Nat → va_E} {q : Nat} {e : va_E} : Wg n ad G ++ [(q, e)] = Wg (n + 1) (va_up ad n q) (va_up G n e) := by
  refine List.ext_getElem? (fun j => ?_)
  rcases Nat.lt_or_ge j n with hj | hj
  · rw [List.getElem?_append_left (by rw [Wg_len]; exact hj), Wg_get hj, Wg_get (by omega), va_up_ne _ _ (by omega), va_up_ne _ _ (by omega)]
  · rw [List.getElem?_append_right (by rw [Wg_len]; exact hj), Wg_len]
    by_cases hjn : j = n
    · subst hjn
      rw [Nat.sub_self, Wg_get (by omega), va_up_self, va_up_self]
      rfl
    · rw [List.getElem?_eq_none (by simp; omega), List.getElem?_eq_none (by rw [Wg_len]; omega)]
def CG (n : Nat) (ad : Nat → Nat) (G : Nat → va_E) (D : va_G) (A : Nat → Prop) (H0 H : Heap) (locs : List Loc) : Prop :=
  va_P D vwCl (Wg n ad G) H ∧ va_D A (Wg n ad G) ∧ va_S A H0 H locs ∧ ∀ q, H0.size ≤ q → A q
abbrev zInts (cI : ClassId) (N : Nat) (f : Nat → Int32) : va_E := .inl (cI, N, .inl f)
abbrev zRefs (cA : ClassId) (N : Nat) (f : Nat → Option Nat) : va_E := .inl (cA, N, .inr (.inr (.inr (.inr f))))
section GROW
variable {p : Program} {l : Launch} {e : Env} {R : Room} {s : State} {m : MethodId} {args : Array Value} {below : List Frame} {meth : Method} {c : Code} {H : Heap} {locs : List Loc} {cells slots : Nat} {Q : State → Prop}
variable {cc : ByteArray} {nL : Nat} {Ts : List Cond} {own : String} {pc : Nat} {ls : Array Slot} {rest : List Value}
variable {n : Nat} {ad : Nat → Nat} {G : Nat → va_E} {D : va_G} {A : Nat → Prop} {H0 : Heap} {tys : List (ClassId × FieldType)}
theorem g_newa (S : CallFix p m c cc nL s args Ts own) (hK : va_K D vwCl tys s) (w : CG n ad G D A H0 H locs) (harr : (Cond.arrayClass (newarray.typeOf .int)) ∈ Ts) {x : Int32} {N : Nat} (hn : ¬ x < 0) (hN : x.toNatClampNeg = N) (hby : N * 4 ≤ 536870912) (hc : cells + 1 ≤ R.cells) (hs : slots + N ≤ R.slots) (hdg : decode cc pc = .ok (.newarray .int, 2))
    (kk : ∀ (q : Nat) (cA : ClassId) (H1 : Heap), va_K D vwCl (tys ++ [(cA, .int)]) s → CG (n + 1) (va_up ad n q) (va_up G n (zInts cA N (fun _ => 0))) D A H0 H1 locs → W p l e R s m args below meth c H1 locs (cells + 1) (slots + N) Q (F0 m (pc + 2) ls (.ref q :: rest))) : W p l e R s m args below meth c H locs cells slots Q (F0 m pc ls (.int x :: rest)) := by
  refine va_newa (atype := .int) (ty := .int) (a0 := (N, .inl (fun _ => 0))) S.1 S.2.1 (S.2.2.2.2 _ harr) rfl hK w.1 w.2.1 w.2.2.1 w.2.2.2 (fun cA => by rw [vp_cell_i] <;> rfl) hn hN hby hc hs hdg (fun q cA H1 hK1 hP hD hS => kk q cA H1 hK1 ?_)
  rw [Wg_push] at hP hD
  exact ⟨hP, hD, hS, w.2.2.2⟩
theorem g_newaI (S : CallFix p m c cc nL s args Ts own) (hK : va_K D vwCl tys s) (w : CG n ad G D A H0 H locs) {t : Nat} {cI : ClassId} (ht : tys[t]? = some (cI, .int)) (harr : (Cond.arrayClass (newarray.typeOf .int)) ∈ Ts) {x : Int32} {N : Nat} (hn : ¬ x < 0) (hN : x.toNatClampNeg = N) (hby : N * 4 ≤ 536870912) (hc : cells + 1 ≤ R.cells) (hs : slots + N ≤ R.slots) (hdg : decode cc pc = .ok (.newarray .int, 2))
    (kk : ∀ (q : Nat) (H1 : Heap), CG (n + 1) (va_up ad n q) (va_up G n (zInts cI N (fun _ => 0))) D A H0 H1 locs → W p l e R s m args below meth c H1 locs (cells + 1) (slots + N) Q (F0 m (pc + 2) ls (.ref q :: rest))) : W p l e R s m args below meth c H locs cells slots Q (F0 m pc ls (.int x :: rest)) := by
  refine g_newa S hK w harr hn hN hby hc hs hdg (fun q cA H1 hK1 hw => ?_)
  have h1 := (hK1.2 tys.length (cA, .int) (by simp)).2
  have h2 := (hK.2 t _ ht).2
  have e1 : cA = cI := Option.some.inj (h1.symm.trans h2)
  subst e1
  exact kk q H1 hw
theorem g_newq (S : CallFix p m c cc nL s args Ts own) (hK : va_K D vwCl tys s) (w : CG n ad G D A H0 H locs) {C : String} {index : Nat} (hcl : (Cond.classLink own index C) ∈ Ts) (hao : va_AO C s) {x : Int32} {N : Nat} (hn : ¬ x < 0) (hN : x.toNatClampNeg = N) (hby : N * 4 ≤ 536870912) (hc : cells + 1 ≤ R.cells) (hs : slots + N ≤ R.slots) (hdg : decode cc pc = .ok (.anewarray index, 3))
    (kk : ∀ (q : Nat) (cA : ClassId) (H1 : Heap), va_K D vwCl (tys ++ [(cA, .object C)]) s → CG (n + 1) (va_up ad n q) (va_up G n (zRefs cA N (fun _ => none))) D A H0 H1 locs → W p l e R s m args below meth c H1 locs (cells + 1) (slots + N) Q (F0 m (pc + 3) ls (.ref q :: rest))) : W p l e R s m args below meth c H locs cells slots Q (F0 m pc ls (.int x :: rest)) := by
  refine va_newq S.1 S.2.1 S.2.2.2.1 (S.2.2.2.2 _ hcl) hao hK w.1 w.2.1 w.2.2.1 w.2.2.2 hn hN hby hc hs hdg (fun q cA H1 hK1 hP hD hS => kk q cA H1 hK1 ?_)
  rw [Wg_push] at hP hD
  exact ⟨hP, hD, hS, w.2.2.2⟩
theorem g_new (S : CallFix p m c cc nL s args Ts own) (hK : va_K D vwCl tys s) (w : CG n ad G D A H0 H locs) {C : String} {T : u_T} {N ci index : Nat} (hin : ∀ w ∈ u_ws C T N, w ∈ Ts) (ty : Nat → FieldType) (hty : ∀ k, k < N → parseFieldDescriptor (T k).2.2.1 = some (ty k)) (hcl : (Cond.classLink own index C) ∈ Ts) (hinst : (Cond.instantiable C N) ∈ Ts) (hini : (Cond.initialized C) ∈ Ts) (hc : vwCl[ci]? = some (C, T, N)) {fs : List Value} (hfs : ∀ j, j < N → defaultValue (ty j) = vp_V fs j) (hcs : cells + 1 ≤ R.cells) (hss : slots + N ≤ R.slots) (hdg : decode cc pc = .ok (.new index, 3))
    (kk : ∀ (q : Nat) (H1 : Heap), CG (n + 1) (va_up ad n q) (va_up G n (.inr (ci, fs))) D A H0 H1 locs → W p l e R s m args below meth c H1 locs (cells + 1) (slots + N) Q (F0 m (pc + 3) ls (.ref q :: rest))) : W p l e R s m args below meth c H locs cells slots Q (F0 m pc ls rest) := by
  refine va_new S.1 S.2.1 S.2.2.2.2 hin ty hty S.2.2.2.1 (S.2.2.2.2 _ hcl) (S.2.2.2.2 _ hinst) (S.2.2.2.2 _ hini) hK w.1 w.2.1 w.2.2.1 w.2.2.2 hc hfs hcs hss hdg (fun q H1 hP hD hS => kk q H1 ?_)
  rw [Wg_push] at hP hD
  exact ⟨hP, hD, hS, w.2.2.2⟩
theorem g_putF (S : CallFix p m c cc nL s args Ts own) (hK : va_K D vwCl tys s) (w : CG n ad G D A H0 H locs) {k : Nat} (hk : k < n) {ci : Nat} {fs : List Value} (he : G k = .inr (ci, fs)) {C : String} {T : u_T} {N : Nat} (hc : vwCl[ci]? = some (C, T, N)) (hin : ∀ w ∈ u_ws C T N, w ∈ Ts) (ty0 : Nat → FieldType) (hty : ∀ k, k < N → parseFieldDescriptor (T k).2.2.1 = some (ty0 k)) (hnm : ∀ a, a < N → ∀ b, b < N → a ≠ b → (T a).2.1 ≠ (T b).2.1) (j : Nat) (hj : j < N) {index : Nat} (hlink : (Cond.fieldLink own index (T j).1 (T j).2.1 (T j).2.2.1) ∈ Ts) (hfin : (T j).2.2.2 = true) (hin2 : meth.name = "<init>") (hdecl : (T j).1 = own) {x : Value} {ty : FieldType} (hd : parseFieldDescriptor (T j).2.2.1 = some ty) (hn : narrow ty x = x) (hfit : fits ty x = true) (hl : j < fs.length) (hdg : decode cc pc = .ok (.putfield index, 3))
    (kk : ∀ (H1 : Heap) (locs1 : List Loc), CG n ad (va_up G k (.inr (ci, fs.set j x))) D A H0 H1 locs1 → W p l e R s m args below meth c H1 locs1 cells slots Q (F0 m (pc + 3) ls rest)) : W p l e R s m args below meth c H locs cells slots Q (F0 m pc ls (x :: .ref (ad k) :: rest)) := by
  obtain ⟨hx, hb, hml, hown, hts⟩ := S
  refine va_putF hx hb hts hin ty0 hty hnm hown hK w.1 w.2.1 w.2.2.1 k (by rw [Wg_get hk, he]) hc j hj (hts _ hlink) (fun _ h => h) hfin hin2 hdecl hd hn hfit hl hdg (fun H1 locs1 hP hD hS => kk H1 locs1 ?_)
  rw [Wg_set] at hP hD
  exact ⟨hP, hD, hS, w.2.2.2⟩
theorem g_get (S : CallFix p m c cc nL s args Ts own) (hK : va_K D vwCl tys s) (w : CG n ad G D A H0 H locs) {k : Nat} (hk : k < n) {ci : Nat} {fs : List Value} (he : G k = .inr (ci, fs)) {C : String} {T : u_T} {N : Nat} (hc : vwCl[ci]? = some (C, T, N)) (hin : ∀ w ∈ u_ws C T N, w ∈ Ts) (j : Nat) (hj : j < N) {index : Nat} (hlink : (Cond.fieldLink own index (T j).1 (T j).2.1 (T j).2.2.1) ∈ Ts) {v : Value} (hv : fs[j]? = some v) (hdg : decode cc pc = .ok (.getfield index, 3))
    (kk : W p l e R s m args below meth c H locs cells slots Q (F0 m (pc + 3) ls (v :: rest))) : W p l e R s m args below meth c H locs cells slots Q (F0 m pc ls (.ref (ad k) :: rest)) := by
  obtain ⟨hx, hb, hml, hown, hts⟩ := S
  exact va_get hx hb hts hin hown hK w.1 k (by rw [Wg_get hk, he]) hc j hj (hts _ hlink) (fun _ h => h) hv hdg kk
theorem g_iast (S : CallFix p m c cc nL s args Ts own) (hK : va_K D vwCl tys s) (w : CG n ad G D A H0 H locs) {k : Nat} (hk : k < n) {cI : ClassId} {N t : Nat} {f : Nat → Int32} (he : G k = zInts cI N f) (ht : tys[t]? = some (cI, .int)) {i x : Int32} (hi : vp_in i N) (hdg : decode cc pc = .ok (.iastore, 1))
    (kk : ∀ (H1 : Heap) (locs1 : List Loc), CG n ad (va_up G k (zInts cI N (upd f i.toNatClampNeg x))) D A H0 H1 locs1 → W p l e R s m args below meth c H1 locs1 cells slots Q (F0 m (pc + 1) ls rest)) : W p l e R s m args below meth c H locs cells slots Q (F0 m pc ls (.int x :: .int i :: .ref (ad k) :: rest)) := by
  refine va_iast S.1 S.2.1 hK w.1 w.2.1 w.2.2.1 k t (cA := cI) (n := N) (f := f) (by rw [Wg_get hk, he]) ht hi hdg (fun H1 locs1 hP hD hS => kk H1 locs1 ?_)
  rw [Wg_set] at hP hD
  exact ⟨hP, hD, hS, w.2.2.2⟩
theorem g_aast (S : CallFix p m c cc nL s args Ts own) (hK : va_K D vwCl tys s) (w : CG n ad G D A H0 H locs) {k k2 : Nat} (hk : k < n) (hk2 : k2 < n) {cA : ClassId} {N t ci : Nat} {f : Nat → Option Nat} {r : vw_C} {vs : List Value} (he : G k = zRefs cA N f) (ht : tys[t]? = some (cA, .object r.1)) (he2 : G k2 = .inr (ci, vs)) (hc : vwCl[ci]? = some r) {i : Int32} (hi : vp_in i N) (hdg : decode cc pc = .ok (.aastore, 1))
    (kk : ∀ (H1 : Heap) (locs1 : List Loc), CG n ad (va_up G k (zRefs cA N (va_up f i.toNatClampNeg (some (ad k2))))) D A H0 H1 locs1 → W p l e R s m args below meth c H1 locs1 cells slots Q (F0 m (pc + 1) ls rest)) : W p l e R s m args below meth c H locs cells slots Q (F0 m pc ls (.ref (ad k2) :: .int i :: .ref (ad k) :: rest)) := by
  refine va_astq S.1 S.2.1 hK w.1 w.2.1 w.2.2.1 k t k2 ci (cA := cA) (n := N) (f := f) (by rw [Wg_get hk, he]) ht (by rw [Wg_get hk2, he2]) hc hi hdg (fun H1 locs1 hP hD hS => kk H1 locs1 ?_)
  rw [Wg_set] at hP hD
  exact ⟨hP, hD, hS, w.2.2.2⟩
/-- behind a call that had cell k alone, and gave it other contents, and perhaps one new cell -/
theorem CG.behind {k : Nat} (w : CG n ad G D A H0 H locs) (hk : k < n) {H1 : Heap} {locs1 : List Loc} {e1 : va_E} (hP1 : va_P D vwCl [(ad k, e1)] H1) (hk1 : ∀ q : Nat, q < H.size → ¬ va_A [(ad k, G k)] H.size q → H1[q]? = H[q]?) (hS : va_S A H0 H1 locs1) : CG n ad (va_up G k e1) D A H0 H1 locs1 := by
  refine ⟨fun c q hc => ?_, ⟨fun i j p q hi hj hpq => ?_, fun c q hc => ?_⟩, hS, w.2.2.2⟩
  · obtain ⟨hcn, rfl⟩ := Wg_inv hc
    by_cases hck : c = k
    · subst hck
      rw [va_up_self]
      exact hP1 0 _ rfl
    · rw [va_up_ne _ _ hck]
      have hat := w.1 c _ (Wg_get hcn)
      refine hat.kept (hk1 _ hat.lt (fun h => ?_))
      rcases h with ⟨i, e2, h⟩ | h
      · have h1 := (List.getElem?_eq_some_iff.mp h).1
        simp at h1
        subst h1
        have h2 : ad k = ad c := congrArg Prod.fst (Option.some.inj h)
        exact hck (w.2.1.1 c k _ _ (Wg_get hcn) (Wg_get hk) h2.symm)
      · exact absurd hat.lt (Nat.not_lt.mpr h)
  · obtain ⟨li, rfl⟩ := Wg_inv hi
    obtain ⟨lj, rfl⟩ := Wg_inv hj
    exact w.2.1.1 i j _ _ (Wg_get li) (Wg_get lj) hpq
  · obtain ⟨lc, rfl⟩ := Wg_inv hc
    exact w.2.1.2 c (ad c, G c) (Wg_get lc)
theorem CG.push {n : Nat} {ad : Nat → Nat} {G : Nat → va_E} {q : Nat} {e1 : va_E} (w : CG n ad G D A H0 H locs) (hat : va_at D vwCl (q, e1) H) (hA : A q) (hne : ∀ c, c < n → ad c ≠ q) : CG (n + 1) (va_up ad n q) (va_up G n e1) D A H0 H locs := by
  refine ⟨fun c x hc => ?_, ⟨fun i j p x hi hj hpq => ?_, fun c x hc => ?_⟩, w.2.2.1, w.2.2.2⟩
  · obtain ⟨hcn, rfl⟩ := Wg_inv hc
    by_cases h : c = n
    · subst h
      rw [va_up_self, va_up_self]; exact hat
    · rw [va_up_ne _ _ h, va_up_ne _ _ h]
      exact w.1 c _ (Wg_get (by omega))
  · obtain ⟨li, rfl⟩ := Wg_inv hi
    obtain ⟨lj, rfl⟩ := Wg_inv hj
    by_cases h : i = n <;> by_cases h2 : j = n
    · omega
    · subst h
      have h3 : va_up ad i q i = va_up ad i q j := hpq
      rw [va_up_self, va_up_ne _ _ h2] at h3
      exact absurd h3.symm (hne j (by omega))
    · subst h2
      have h3 : va_up ad j q i = va_up ad j q j := hpq
      rw [va_up_self, va_up_ne _ _ h] at h3
      exact absurd h3 (hne i (by omega))
    · have h3 : va_up ad n q i = va_up ad n q j := hpq
      rw [va_up_ne _ _ h, va_up_ne _ _ h2] at h3
      exact w.2.1.1 i j _ _ (Wg_get (show i < n by omega)) (Wg_get (show j < n by omega)) h3
  · obtain ⟨lc, rfl⟩ := Wg_inv hc
    show A (va_up ad n q c)
    by_cases h : c = n
    · subst h
      rw [va_up_self]; exact hA
    · rw [va_up_ne _ _ h]
      exact w.2.1.2 c _ (Wg_get (show c < n by omega))
theorem CG.free {k : Nat} (w : CG n ad G D A H0 H locs) (hk : k < n) : ∀ q, va_A [(ad k, G k)] H.size q → A q := by
  intro q h
  rcases h with ⟨i, e1, h⟩ | h
  · have h1 := (List.getElem?_eq_some_iff.mp h).1
    simp at h1
    subst h1
    have h2 : ad k = q := congrArg Prod.fst (Option.some.inj h)
    rw [← h2]
    exact w.2.1.2 k _ (Wg_get hk)
  · exact w.2.2.2 q (Nat.le_trans w.2.2.1.1 h)
theorem CG.at (w : CG n ad G D A H0 H locs) {k : Nat} (hk : k < n) : va_P D vwCl [(ad k, G k)] H := fun i q hi => by
  have h1 := (List.getElem?_eq_some_iff.mp hi).1
  simp at h1
  subst h1
  cases hi
  exact w.1 k _ (Wg_get hk)
end GROW
end
section
/-! the constructors of the class's parts -/
def Q0v : Array Value → State → Outcome → State → Prop := fun _ st oc t => oc = .returned none ∧ t.heap = st.heap
/-- one cell alone -/
def PreI (D : va_G) (h0 : Nat) (e0 : va_E) (cI : ClassId) (sz : Nat) : Array Value → State → Prop :=
  va_Pc [.ref h0] (fun U => U.heap.size = sz ∧ va_P D vwCl [(h0, e0)] U.heap ∧ va_K D vwCl [(cI, .int)] U)
theorem PreI.blind {D : va_G} {h0 : Nat} {e0 : va_E} {cI : ClassId} {sz : Nat} : FrameBlind (PreI D h0 e0 cI sz) := by
  intro a U g mk q
  obtain ⟨q0, q1, qP, qK⟩ := q
  exact ⟨q0, q1, qP, va_K.moved (u := U) (U := U.calling g mk a) (Vm.Alike.refl U.vm) qK⟩
/-- .. becomes another, with one new row of ints -/
def PostI (D : va_G) (h0 : Nat) (e0 : va_E) (e1 : Nat → va_E) (cI : ClassId) (N sz : Nat) : Array Value → State → Outcome → State → Prop :=
  va_Qv (fun q : Nat => sz ≤ q) (fun q t => va_P D vwCl [(h0, e1 q), (q, zInts cI N (fun _ => 0))] t.heap) (va_A [(h0, e0)] sz)
section C0
variable {p : Program} {l : Launch} {e : Env} {R : Room} {s : State} {m : MethodId} {args : Array Value} {below : List Frame} {meth : Method} {c : Code} {H : Heap} {locs : List Loc} {cells slots : Nat} {Q : State → Prop}
variable {pc : Nat} {ls : Array Slot} {rest st0 : List Value} {a : Array Value}
theorem call0v (hr : va_Run p l e R s m args below meth c H locs cells slots 0 0 (F0 m pc ls st0) rest (Q0v a) N0)
    (kk : W p l e R s m args below meth c H locs cells slots Q (F0 m (pc + 3) ls rest)) : W p l e R s m args below meth c H locs cells slots Q (F0 m pc ls st0) := by
  intro T hT X
  obtain ⟨v, st₀, t, T', L, h0, X', hL, e1, e2, ⟨hv, hh⟩, st⟩ := hr T hT X
  cases hv
  obtain ⟨t2, a1, b1⟩ := kk T' (by rw [e1, hh, h0]) (Stand.forget X' (fun q h => (hL q h).elim))
  exact ⟨t2, st t2 a1, b1⟩
end C0
set_option maxHeartbeats 4000000 in
set_option maxRecDepth 100000 in
theorem c_X0_init (l : Launch) (h0 : Nat) : Met l yX0_init wsX0_init ({ frames := 1, cells := 0, slots := 0, locals := 12 }) (Pre0 [.ref h0]) Q0v 0 0 N0 := by
  refine head0 (cc := cX0_init) (maxL := 1) (ret := none) [.ref h0] (by decide) rfl (Nat.le_of_ble_eq_true rfl) ?_
  intro p e s m below meth c S hr hlocks ls hl
  have S : CallFix p m c cX0_init 1 s ([.ref h0] : List Value).toArray wsX0_init RX0 := S
  have hx := S.1
  have hb := S.2.1
  have hl : lv_has ls 1 [(0, .ref h0)] := hl
  refine lv_aload_n hx hb dX0_init_0 rfl (lv_at hl 0 rfl) ?_
  refine W.objInit hx hb S.2.2.2.1 (S.2.2.2.2 _ (List.mem_of_getElem? (i := 1) rfl)) (S.2.2.2.2 _ (List.mem_of_getElem? (i := 2) rfl)) (S.2.2.2.2 _ (List.mem_of_getElem? (i := 3) rfl)) rfl (by rw [S.2.2.1]; exact hl.1) rfl dX0_init_1 (Nat.le_of_ble_eq_true rfl) (Nat.le_of_ble_eq_true rfl) ?_
  refine W.eq (g2 := F0 m 4 ls []) rfl ?_
  exact W.vret hx hb hr (fun t ht hW => ⟨rfl, ht⟩) (fun q h => absurd h List.not_mem_nil) dX0_init_4 hlocks
set_option maxHeartbeats 4000000 in
set_option maxRecDepth 100000 in
theorem c_X1_init (l : Launch) (D : va_G) (h0 sz : Nat) (cI : ClassId) : Met l yX1_init wsX1_init ({ frames := 1, cells := 1, slots := 90, locals := 14 }) (PreI D h0 (.inr (1, [.int 0, .int 0, .int 0, .null])) cI sz) (PostI D h0 (.inr (1, [.int 0, .int 0, .int 0, .null])) (fun q => .inr (1, [.int 0, .int 0, .int 0, .ref q])) cI 90 sz) 1 90 (va_A [(h0, .inr (1, [.int 0, .int 0, .int 0, .null]))] sz) := by
  refine Met.ofW (cc := cX1_init) (maxL := 1) (ret := none) (by decide) rfl ?_
  intro p e s m args below meth c s₁ B hml hv
  obtain ⟨rfl, hsz, hP, hK⟩ := hv
  have hts := atoms_spec (ws := wsX1_init) B.pre
  have hown : s.vm.findClass RX1 = some m.cls := findClass_of_methodNamed B.named
  have hin2 : meth.name = "<init>" := (name_of_methodNamed B.named B.method).1
  have hr := B.returns
  have hlocks := B.notSynchronized
  have S : CallFix p m c cX1_init 1 s ([.ref h0] : List Value).toArray wsX1_init RX1 := ⟨B.exec, B.bytes, hml, hown, hts⟩
  have hx := S.1
  have hb := S.2.1
  have hl := lv_entry ([.ref h0]) (n := 1) (Nat.le_of_ble_eq_true rfl)
  rw [lg_entry_eq]
  generalize (lg_sl ([.ref h0]) ++ List.replicate (1 - (lg_sl ([.ref h0])).length) Slot.unset).toArray = ls at hl ⊢
  have hl : lv_has ls 1 [(0, .ref h0)] := hl
  have hinX1 : ∀ w ∈ wsX10, w ∈ wsX1_init := (fun _ h => List.mem_cons_of_mem _ (List.mem_append_right _ h))
  unfold PostI
  generalize hA : va_A [(h0, .inr (1, [.int 0, .int 0, .int 0, .null]))] sz = A
  have w : CG 1 (fun _ => h0) (fun _ => .inr (1, [.int 0, .int 0, .int 0, .null])) D A s.heap s.heap [] := ⟨hP, ⟨fun i j p q hi hj _ => by
    have h1 := (Wg_inv hi).1
    have h2 := (Wg_inv hj).1
    omega, fun k q hk => by
    obtain ⟨h1, rfl⟩ := Wg_inv hk
    rw [← hA]
    exact Or.inl ⟨0, _, rfl⟩⟩, va_S.rf, fun q hq => by
    rw [← hA, ← hsz]
    exact Or.inr hq⟩
  refine lv_aload_n hx hb dX1_init_0 rfl (lv_at hl 0 rfl) ?_
  refine W.objInit hx hb S.2.2.2.1 (S.2.2.2.2 _ (List.mem_of_getElem? (i := 1) rfl)) (S.2.2.2.2 _ (List.mem_of_getElem? (i := 2) rfl)) (S.2.2.2.2 _ (List.mem_of_getElem? (i := 3) rfl)) rfl (by rw [S.2.2.1]; exact hl.1) rfl dX1_init_1 (Nat.le_of_ble_eq_true rfl) (Nat.le_of_ble_eq_true rfl) ?_
  refine W.eq (g2 := F0 m 4 ls []) rfl ?_
  refine lv_aload_n hx hb dX1_init_4 rfl (lv_at hl 0 rfl) ?_
  refine lv_bipush (v := 90) hx hb dX1_init_5 (by decide) ?_
  refine g_newaI (N := 90) S hK w (t := 0) rfl (List.mem_of_getElem? (i := 4) rfl) (by decide) (by decide) (by decide) (Nat.le_of_ble_eq_true rfl) (Nat.le_of_ble_eq_true rfl) dX1_init_7 (fun q H w => ?_)
  refine g_putF (C := RX1) (T := TX1) (N := 4) S hK w (k := 0) (by decide) rfl rfl hinX1 tyX1 tyX1_ok nmX1 3 (by decide) (List.mem_of_getElem? (i := 5) rfl) rfl hin2 rfl (x := .ref q) (ty := .array .int) (by decide +kernel) rfl rfl (by show _ < List.length _; exact Nat.le_of_ble_eq_true rfl) dX1_init_9 (fun H locs w => ?_)
  have hq : sz ≤ q := by
    have h1 := w.2.1.2 1 _ rfl
    rw [← hA] at h1
    rcases h1 with ⟨i, e2, h⟩ | h
    · have h3 := (List.getElem?_eq_some_iff.mp h).1
      simp at h3
      subst h3
      have h4 : h0 = q := congrArg Prod.fst (Option.some.inj h)
      have h5 := w.2.1.1 0 1 _ _ rfl rfl h4
      exact absurd h5 (by decide)
    · exact h
  exact W.vret hx hb hr (fun t ht hW => ⟨⟨q, rfl, hq, by show va_P _ _ _ t.heap; rw [ht]; exact w.1⟩, w.2.2.1.F ht⟩) w.2.2.1.2.2 dX1_init_12 hlocks
set_option maxHeartbeats 4000000 in
set_option maxRecDepth 100000 in
theorem c_X2_init (l : Launch) (D : va_G) (h0 sz : Nat) (cI : ClassId) : Met l yX2_init wsX2_init ({ frames := 1, cells := 1, slots := 9, locals := 14 }) (PreI D h0 (.inr (2, [.int 0, .int 0, .null])) cI sz) (PostI D h0 (.inr (2, [.int 0, .int 0, .null])) (fun q => .inr (2, [.int 0, .int 0, .ref q])) cI 9 sz) 1 9 (va_A [(h0, .inr (2, [.int 0, .int 0, .null]))] sz) := by
  refine Met.ofW (cc := cX2_init) (maxL := 1) (ret := none) (by decide) rfl ?_
  intro p e s m args below meth c s₁ B hml hv
  obtain ⟨rfl, hsz, hP, hK⟩ := hv
  have hts := atoms_spec (ws := wsX2_init) B.pre
  have hown : s.vm.findClass RX2 = some m.cls := findClass_of_methodNamed B.named
  have hin2 : meth.name = "<init>" := (name_of_methodNamed B.named B.method).1
  have hr := B.returns
  have hlocks := B.notSynchronized
  have S : CallFix p m c cX2_init 1 s ([.ref h0] : List Value).toArray wsX2_init RX2 := ⟨B.exec, B.bytes, hml, hown, hts⟩
  have hx := S.1
  have hb := S.2.1
  have hl := lv_entry ([.ref h0]) (n := 1) (Nat.le_of_ble_eq_true rfl)
  rw [lg_entry_eq]
  generalize (lg_sl ([.ref h0]) ++ List.replicate (1 - (lg_sl ([.ref h0])).length) Slot.unset).toArray = ls at hl ⊢
  have hl : lv_has ls 1 [(0, .ref h0)] := hl
  have hinX2 : ∀ w ∈ wsX20, w ∈ wsX2_init := (fun _ h => List.mem_cons_of_mem _ (List.mem_append_right _ h))
  unfold PostI
  generalize hA : va_A [(h0, .inr (2, [.int 0, .int 0, .null]))] sz = A
  have w : CG 1 (fun _ => h0) (fun _ => .inr (2, [.int 0, .int 0, .null])) D A s.heap s.heap [] := ⟨hP, ⟨fun i j p q hi hj _ => by
    have h1 := (Wg_inv hi).1
    have h2 := (Wg_inv hj).1
    omega, fun k q hk => by
    obtain ⟨h1, rfl⟩ := Wg_inv hk
    rw [← hA]
    exact Or.inl ⟨0, _, rfl⟩⟩, va_S.rf, fun q hq => by
    rw [← hA, ← hsz]
    exact Or.inr hq⟩
  refine lv_aload_n hx hb dX2_init_0 rfl (lv_at hl 0 rfl) ?_
  refine W.objInit hx hb S.2.2.2.1 (S.2.2.2.2 _ (List.mem_of_getElem? (i := 1) rfl)) (S.2.2.2.2 _ (List.mem_of_getElem? (i := 2) rfl)) (S.2.2.2.2 _ (List.mem_of_getElem? (i := 3) rfl)) rfl (by rw [S.2.2.1]; exact hl.1) rfl dX2_init_1 (Nat.le_of_ble_eq_true rfl) (Nat.le_of_ble_eq_true rfl) ?_
  refine W.eq (g2 := F0 m 4 ls []) rfl ?_
  refine lv_aload_n hx hb dX2_init_4 rfl (lv_at hl 0 rfl) ?_
  refine lv_bipush (v := 9) hx hb dX2_init_5 (by decide) ?_
  refine g_newaI (N := 9) S hK w (t := 0) rfl (List.mem_of_getElem? (i := 4) rfl) (by decide) (by decide) (by decide) (Nat.le_of_ble_eq_true rfl) (Nat.le_of_ble_eq_true rfl) dX2_init_7 (fun q H w => ?_)
  refine g_putF (C := RX2) (T := TX2) (N := 3) S hK w (k := 0) (by decide) rfl rfl hinX2 tyX2 tyX2_ok nmX2 2 (by decide) (List.mem_of_getElem? (i := 5) rfl) rfl hin2 rfl (x := .ref q) (ty := .array .int) (by decide +kernel) rfl rfl (by show _ < List.length _; exact Nat.le_of_ble_eq_true rfl) dX2_init_9 (fun H locs w => ?_)
  have hq : sz ≤ q := by
    have h1 := w.2.1.2 1 _ rfl
    rw [← hA] at h1
    rcases h1 with ⟨i, e2, h⟩ | h
    · have h3 := (List.getElem?_eq_some_iff.mp h).1
      simp at h3
      subst h3
      have h4 : h0 = q := congrArg Prod.fst (Option.some.inj h)
      have h5 := w.2.1.1 0 1 _ _ rfl rfl h4
      exact absurd h5 (by decide)
    · exact h
  exact W.vret hx hb hr (fun t ht hW => ⟨⟨q, rfl, hq, by show va_P _ _ _ t.heap; rw [ht]; exact w.1⟩, w.2.2.1.F ht⟩) w.2.2.1.2.2 dX2_init_12 hlocks
theorem hd_X0_init : yX0_init.cls ≠ "java/lang/invoke/MethodHandle" ∧ yX0_init.cls ≠ "java/lang/invoke/VarHandle" ∧ (parseMethodDescriptor yX0_init.desc).map (fun d => d.parameters.length) = some 0 := by decide +kernel
theorem hd_X1_init : yX1_init.cls ≠ "java/lang/invoke/MethodHandle" ∧ yX1_init.cls ≠ "java/lang/invoke/VarHandle" ∧ (parseMethodDescriptor yX1_init.desc).map (fun d => d.parameters.length) = some 0 := by decide +kernel
theorem hd_X2_init : yX2_init.cls ≠ "java/lang/invoke/MethodHandle" ∧ yX2_init.cls ≠ "java/lang/invoke/VarHandle" ∧ (parseMethodDescriptor yX2_init.desc).map (fun d => d.parameters.length) = some 0 := by decide +kernel
theorem hd_X3_init : yX3_init.cls ≠ "java/lang/invoke/MethodHandle" ∧ yX3_init.cls ≠ "java/lang/invoke/VarHandle" ∧ (parseMethodDescriptor yX3_init.desc).map (fun d => d.parameters.length) = some 0 := by decide +kernel
end
section
/-! the class's constructor -/
section GFILL
variable {p : Program} {l : Launch} {e : Env} {R : Room} {s : State} {m : MethodId} {args : Array Value} {below : List Frame} {meth : Method} {c : Code} {H : Heap} {locs : List Loc} {cells slots : Nat} {Q : State → Prop}
variable {cc : ByteArray} {nL : Nat} {Ts : List Cond} {own : String} {pc : Nat} {ls : Array Slot} {rest : List Value}
variable {n : Nat} {ad : Nat → Nat} {G : Nat → va_E} {D : va_G} {A : Nat → Prop} {H0 : Heap} {tys : List (ClassId × FieldType)}
theorem g_fill {cI : ClassId} {N t : Nat} {f : Nat → Int32} (hN : N < 2 ^ 31) (S : CallFix p m c cc nL s args Ts own) (hls : ls.size = nL) (hK : va_K D vwCl tys s) (w : CG n ad G D A H0 H locs) {k : Nat} (hk : k < n) (he : G k = zInts cI N f) (ht : tys[t]? = some (cI, .int)) {index : Nat} (g : GoodIn Ts (va_wsS own index yJ7_fill_53178 wsJ7_fill_53178)) (hf : 1 ≤ R.frames) (hlo : 23 ≤ R.locals) {v : Int32} (hdg : decode cc pc = .ok (.invokestatic index, 3)) (hcs : cells ≤ R.cells ∧ slots ≤ R.slots)
    (kk : ∀ (H1 : Heap) (locs1 : List Loc), CG n ad (va_up G k (zInts cI N (fillF N v f))) D A H0 H1 locs1 → W p l e R s m args below meth c H1 locs1 cells slots Q (F0 m (pc + 3) ls [])) : W p l e R s m args below meth c H locs cells slots Q (F0 m pc ls [.int v, .ref (ad k)]) := by
  have hPk : va_P D vwCl (fW (ad k) cI N f) H := by
    have := w.at hk
    rw [he] at this
    exact this
  have hKk : va_K D vwCl [(cI, .int)] s := ⟨hK.1, fun i q hi => by
    have h1 := (List.getElem?_eq_some_iff.mp hi).1
    simp at h1
    subst h1
    cases hi
    exact hK.2 t _ ht⟩
  have hfr := w.free hk
  rw [he] at hfr
  refine va_callv (va_runS (As := [.ref (ad k), .int v]) (rest := []) S (c_fill l D (ad k) cI N hN f H.size v) (va_cwS 2 S.2.2.2.2 g rfl rfl rfl hd_J7_fill_53178 ⟨hf, hlo⟩) ⟨PreF.blind, fun U hU hW => ⟨rfl, by rw [hU], by rw [hU]; exact hPk, va_K.moved hW.alike hKk⟩⟩ rfl rfl hls rfl (lv_room (Nat.le_of_ble_eq_true rfl)) hdg hcs) w.2.2.1 (fun q _ h => hfr q h) hfr (fun u t H1 locs1 ht hvm hw hB hz hk1 hS => ?_)
  subst hw
  rw [ht] at hB
  exact kk H1 locs1 (w.behind hk hB (by rw [he]; exact hk1) hS)
/-- a part's constructor: the object is cell k; one new row of ints -/
theorem g_callI {y : MethodName} {bytes : ByteArray} {ws : List Cond} {rm : Room} {e0 : va_E} {e1 : Nat → va_E} {cI : ClassId} {N t : Nat} (S : CallFix p m c cc nL s args Ts own) (hls : ls.size = nL) (hK : va_K D vwCl tys s) (w : CG n ad G D A H0 H locs) {k : Nat} (hk : k < n) (he : G k = e0) (ht : tys[t]? = some (cI, .int)) (hM : Met l y ws rm (PreI D (ad k) e0 cI H.size) (PostI D (ad k) e0 e1 cI N H.size) 1 N (va_A [(ad k, e0)] H.size))
    {index : Nat} {host : String} (cw : va_CN R s args own index y host bytes 1 none ws rm 1 N 0 ∧ y.name = "<init>" ∧ (Cond.instanceMethod y).before args s = true) (hrest : 2 * 0 + (rest.map fun v => v.category).sum ≤ 8) (hdg : decode cc pc = .ok (.invokespecial index, 3)) (hcs : cells + 1 ≤ R.cells ∧ slots + N ≤ R.slots)
    (kk : ∀ (q : Nat) (H1 : Heap) (locs1 : List Loc), CG (n + 1) (va_up ad n q) (va_up (va_up G k (e1 q)) n (zInts cI N (fun _ => 0))) D A H0 H1 locs1 → W p l e R s m args below meth c H1 locs1 (cells + 1) (slots + N) Q (F0 m (pc + 3) ls rest)) : W p l e R s m args below meth c H locs cells slots Q (F0 m pc ls (.ref (ad k) :: rest)) := by
  have hPk : va_P D vwCl [(ad k, e0)] H := by
    have := w.at hk
    rw [he] at this
    exact this
  have hKk : va_K D vwCl [(cI, .int)] s := ⟨hK.1, fun i q hi => by
    have h1 := (List.getElem?_eq_some_iff.mp hi).1
    simp at h1
    subst h1
    cases hi
    exact hK.2 t _ ht⟩
  have hfr := w.free hk
  rw [he] at hfr
  refine va_callv (va_runIN (As := []) (rest := rest) S hM cw ⟨PreI.blind, fun U hU hW => ⟨rfl, by rw [hU], by rw [hU]; exact hPk, va_K.moved hW.alike hKk⟩⟩ rfl rfl hls rfl hrest hdg hcs) w.2.2.1 (fun q _ h => hfr q h) hfr (fun q t H1 locs1 ht hvm hw hB hz hk1 hS => ?_)
  rw [ht] at hB
  have hP1 : va_P D vwCl [(ad k, e1 q)] H1 := hB.sub [0] rfl
  have w1 := w.behind hk hP1 (by rw [he]; exact hk1) hS
  refine kk q H1 locs1 (w1.push (hB 1 _ rfl) (w.2.2.2 q (Nat.le_trans w.2.2.1.1 hw)) (fun c hc h => ?_))
  have := (w.1 c _ (Wg_get hc)).lt
  have h2 : ad c < H.size := this
  omega
theorem g_call0 {y : MethodName} {bytes : ByteArray} {ws : List Cond} {rm : Room} (S : CallFix p m c cc nL s args Ts own) (hls : ls.size = nL) {a : Nat} (hM : Met l y ws rm (Pre0 [.ref a]) Q0v 0 0 N0)
    {index : Nat} {host : String} (cw : va_CN R s args own index y host bytes 1 none ws rm 0 0 0 ∧ y.name = "<init>" ∧ (Cond.instanceMethod y).before args s = true) (hrest : 2 * 0 + (rest.map fun v => v.category).sum ≤ 8) (hdg : decode cc pc = .ok (.invokespecial index, 3)) (hcs : cells + 0 ≤ R.cells ∧ slots + 0 ≤ R.slots)
    (kk : W p l e R s m args below meth c H locs cells slots Q (F0 m (pc + 3) ls rest)) : W p l e R s m args below meth c H locs cells slots Q (F0 m pc ls (.ref a :: rest)) :=
  call0v (va_runIN (As := []) (rest := rest) S hM cw pre0S rfl rfl hls rfl hrest hdg hcs) kk
end GFILL
/-- how far the constructor is: a SHEETS, b SIGNS, d PAPERS -/
def zFS (ad : Nat → Nat) : List Value := [.ref (ad 1), .ref (ad 2), .ref (ad 3), .ref (ad 4), .int 0, .int 0, .int 0, .int 0, .int 0, .int 0, .ref (ad 5), .ref (ad 6), .ref (ad 7), .ref (ad 8)]
def IV (cI cS cG cP : ClassId) (a b d : Nat) (ad : Nat → Nat) (G : Nat → va_E) : Prop :=
  G 0 = .inr (3, zFS ad) ∧ (∃ f, G 1 = zRefs cS 4 f ∧ ∀ j, j < a → f j = some (ad (9 + 2 * j))) ∧ (∃ f, G 2 = zRefs cG 8 f ∧ ∀ j, j < b → f j = some (ad (17 + 2 * j))) ∧ (∃ f, G 3 = zRefs cP 8 f ∧ ∀ j, j < d → f j = some (ad (33 + j))) ∧
  (G 4 = zInts cI 9 (fun _ => 0) ∧ G 5 = zInts cI 9 (fun _ => 0) ∧ G 6 = zInts cI 9 (fun _ => 0) ∧ G 7 = zInts cI 8 (fun _ => 0) ∧ G 8 = zInts cI 5 (fun _ => 0)) ∧
  (∀ j, j < a → G (9 + 2 * j) = .inr (1, [.int 0, .int 0, .int 0, .ref (ad (10 + 2 * j))]) ∧ G (10 + 2 * j) = zInts cI 90 (fun _ => 0)) ∧
  (∀ j, j < b → G (17 + 2 * j) = .inr (2, [.int 0, .int 0, .ref (ad (18 + 2 * j))]) ∧ G (18 + 2 * j) = zInts cI 9 (fun _ => 0)) ∧
  (∀ j, j < d → G (33 + j) = .inr (0, [.int 0, .int 0, .int 0, .int 0, .int 0, .int 0]))
theorem up2 {α : Type} {f : Nat → α} {k j : Nat} {v : α} (h : j ≠ k) : va_up f k v j = f j := va_up_ne _ _ h
theorem IV_sheet {cI cS cG cP : ClassId} {a : Nat} {ad : Nat → Nat} {G : Nat → va_E} (h : IV cI cS cG cP a 0 0 ad G) {f : Nat → Option Nat} (hf : G 1 = zRefs cS 4 f) (hfj : ∀ j, j < a → f j = some (ad (9 + 2 * j))) (q q2 : Nat) :
    IV cI cS cG cP (a + 1) 0 0 (va_up (va_up ad (9 + 2 * a) q) (9 + 2 * a + 1) q2) (va_up (va_up (va_up (va_up G (9 + 2 * a) (.inr (1, [.int 0, .int 0, .int 0, .null]))) (9 + 2 * a) (.inr (1, [.int 0, .int 0, .int 0, .ref q2]))) (9 + 2 * a + 1) (zInts cI 90 (fun _ => 0))) 1 (zRefs cS 4 (va_up f a (some q)))) := by
  obtain ⟨h0, -, ⟨f2, e2, -⟩, ⟨f3, e3, -⟩, ⟨e4, e5, e6, e7, e8⟩, hs, -, -⟩ := h
  have had : ∀ j, j < 9 + 2 * a → (va_up (va_up ad (9 + 2 * a) q) (9 + 2 * a + 1) q2) j = ad j := fun j hj => by rw [up2 (by omega), up2 (by omega)]
  have hG : ∀ j, j < 9 + 2 * a → j ≠ 1 → (va_up (va_up (va_up (va_up G (9 + 2 * a) (.inr (1, [.int 0, .int 0, .int 0, .null]))) (9 + 2 * a) (.inr (1, [.int 0, .int 0, .int 0, .ref q2]))) (9 + 2 * a + 1) (zInts cI 90 (fun _ => 0))) 1 (zRefs cS 4 (va_up f a (some q)))) j = G j := fun j hj hj1 => by rw [up2 hj1, up2 (by omega), up2 (by omega), up2 (by omega)]
  refine ⟨?_, ⟨_, va_up_self _ _ _, fun j hj => ?_⟩, ⟨f2, by rw [hG 2 (by omega) (by omega)]; exact e2, fun j hj => by omega⟩, ⟨f3, by rw [hG 3 (by omega) (by omega)]; exact e3, fun j hj => by omega⟩, ⟨by rw [hG 4 (by omega) (by omega)]; exact e4, by rw [hG 5 (by omega) (by omega)]; exact e5, by rw [hG 6 (by omega) (by omega)]; exact e6, by rw [hG 7 (by omega) (by omega)]; exact e7, by rw [hG 8 (by omega) (by omega)]; exact e8⟩, fun j hj => ?_, fun j hj => by omega, fun j hj => by omega⟩
  · rw [hG 0 (by omega) (by omega), h0]
    unfold zFS
    rw [had 1 (by omega), had 2 (by omega), had 3 (by omega), had 4 (by omega), had 5 (by omega), had 6 (by omega), had 7 (by omega), had 8 (by omega)]
  · by_cases e : j = a
    · subst e
      rw [va_up_self, up2 (by omega), va_up_self]
    · rw [up2 e, had _ (by omega)]
      exact hfj j (by omega)
  · by_cases e : j = a
    · subst e
      refine ⟨?_, ?_⟩
      · rw [up2 (by omega), up2 (by omega), va_up_self, show 10 + 2 * j = 9 + 2 * j + 1 by omega, va_up_self]
      · rw [up2 (by omega), show 10 + 2 * j = 9 + 2 * j + 1 by omega, va_up_self]
    · rw [hG _ (by omega) (by omega), hG _ (by omega) (by omega), had _ (by omega)]
      exact hs j (by omega)
theorem IV_sign {cI cS cG cP : ClassId} {b : Nat} {ad : Nat → Nat} {G : Nat → va_E} (h : IV cI cS cG cP 4 b 0 ad G) {f : Nat → Option Nat} (hf : G 2 = zRefs cG 8 f) (hfj : ∀ j, j < b → f j = some (ad (17 + 2 * j))) (q q2 : Nat) :
    IV cI cS cG cP 4 (b + 1) 0 (va_up (va_up ad (17 + 2 * b) q) (17 + 2 * b + 1) q2) (va_up (va_up (va_up (va_up G (17 + 2 * b) (.inr (2, [.int 0, .int 0, .null]))) (17 + 2 * b) (.inr (2, [.int 0, .int 0, .ref q2]))) (17 + 2 * b + 1) (zInts cI 9 (fun _ => 0))) 2 (zRefs cG 8 (va_up f b (some q)))) := by
  obtain ⟨h0, ⟨f1, e1, g1⟩, -, ⟨f3, e3, -⟩, ⟨e4, e5, e6, e7, e8⟩, hs, hg, -⟩ := h
  have had : ∀ j, j < 17 + 2 * b → (va_up (va_up ad (17 + 2 * b) q) (17 + 2 * b + 1) q2) j = ad j := fun j hj => by rw [up2 (by omega), up2 (by omega)]
  have hG : ∀ j, j < 17 + 2 * b → j ≠ 2 → (va_up (va_up (va_up (va_up G (17 + 2 * b) (.inr (2, [.int 0, .int 0, .null]))) (17 + 2 * b) (.inr (2, [.int 0, .int 0, .ref q2]))) (17 + 2 * b + 1) (zInts cI 9 (fun _ => 0))) 2 (zRefs cG 8 (va_up f b (some q)))) j = G j := fun j hj hj1 => by rw [up2 hj1, up2 (by omega), up2 (by omega), up2 (by omega)]
  refine ⟨?_, ⟨f1, by rw [hG 1 (by omega) (by omega)]; exact e1, fun j hj => by rw [had _ (by omega)]; exact g1 j hj⟩, ⟨_, va_up_self _ _ _, fun j hj => ?_⟩, ⟨f3, by rw [hG 3 (by omega) (by omega)]; exact e3, fun j hj => by omega⟩, ⟨by rw [hG 4 (by omega) (by omega)]; exact e4, by rw [hG 5 (by omega) (by omega)]; exact e5, by rw [hG 6 (by omega) (by omega)]; exact e6, by rw [hG 7 (by omega) (by omega)]; exact e7, by rw [hG 8 (by omega) (by omega)]; exact e8⟩, fun j hj => ?_, fun j hj => ?_, fun j hj => by omega⟩
  · rw [hG 0 (by omega) (by omega), h0]
    unfold zFS
    rw [had 1 (by omega), had 2 (by omega), had 3 (by omega), had 4 (by omega), had 5 (by omega), had 6 (by omega), had 7 (by omega), had 8 (by omega)]
  · by_cases e : j = b
    · subst e
      rw [va_up_self, up2 (by omega), va_up_self]
    · rw [up2 e, had _ (by omega)]
      exact hfj j (by omega)
  · rw [hG _ (by omega) (by omega), hG _ (by omega) (by omega), had _ (by omega)]
    exact hs j hj
  · by_cases e : j = b
    · subst e
      refine ⟨?_, ?_⟩
      · rw [up2 (by omega), up2 (by omega), va_up_self, show 18 + 2 * j = 17 + 2 * j + 1 by omega, va_up_self]
      · rw [up2 (by omega), show 18 + 2 * j = 17 + 2 * j + 1 by omega, va_up_self]
    · rw [hG _ (by omega) (by omega), hG _ (by omega) (by omega), had _ (by omega)]
      exact hg j (by omega)
theorem IV_paper {cI cS cG cP : ClassId} {d : Nat} {ad : Nat → Nat} {G : Nat → va_E} (h : IV cI cS cG cP 4 8 d ad G) {f : Nat → Option Nat} (hf : G 3 = zRefs cP 8 f) (hfj : ∀ j, j < d → f j = some (ad (33 + j))) (q : Nat) :
    IV cI cS cG cP 4 8 (d + 1) (va_up ad (33 + d) q) (va_up (va_up G (33 + d) (.inr (0, [.int 0, .int 0, .int 0, .int 0, .int 0, .int 0]))) 3 (zRefs cP 8 (va_up f d (some q)))) := by
  obtain ⟨h0, ⟨f1, e1, g1⟩, ⟨f2, e2, g2⟩, -, ⟨e4, e5, e6, e7, e8⟩, hs, hg, hp⟩ := h
  have had : ∀ j, j < 33 + d → (va_up ad (33 + d) q) j = ad j := fun j hj => by rw [up2 (by omega)]
  have hG : ∀ j, j < 33 + d → j ≠ 3 → (va_up (va_up G (33 + d) (.inr (0, [.int 0, .int 0, .int 0, .int 0, .int 0, .int 0]))) 3 (zRefs cP 8 (va_up f d (some q)))) j = G j := fun j hj hj1 => by rw [up2 hj1, up2 (by omega)]
  refine ⟨?_, ⟨f1, by rw [hG 1 (by omega) (by omega)]; exact e1, fun j hj => by rw [had _ (by omega)]; exact g1 j hj⟩, ⟨f2, by rw [hG 2 (by omega) (by omega)]; exact e2, fun j hj => by rw [had _ (by omega)]; exact g2 j hj⟩, ⟨_, va_up_self _ _ _, fun j hj => ?_⟩, ⟨by rw [hG 4 (by omega) (by omega)]; exact e4, by rw [hG 5 (by omega) (by omega)]; exact e5, by rw [hG 6 (by omega) (by omega)]; exact e6, by rw [hG 7 (by omega) (by omega)]; exact e7, by rw [hG 8 (by omega) (by omega)]; exact e8⟩, fun j hj => ?_, fun j hj => ?_, fun j hj => ?_⟩
  · rw [hG 0 (by omega) (by omega), h0]
    unfold zFS
    rw [had 1 (by omega), had 2 (by omega), had 3 (by omega), had 4 (by omega), had 5 (by omega), had 6 (by omega), had 7 (by omega), had 8 (by omega)]
  · by_cases e : j = d
    · subst e
      rw [va_up_self, va_up_self]
    · rw [up2 e, had _ (by omega)]
      exact hfj j (by omega)
  · rw [hG _ (by omega) (by omega), hG _ (by omega) (by omega), had _ (by omega)]
    exact hs j hj
  · rw [hG _ (by omega) (by omega), hG _ (by omega) (by omega), had _ (by omega)]
    exact hg j hj
  · by_cases e : j = d
    · subst e
      rw [up2 (by omega), va_up_self]
    · rw [hG _ (by omega) (by omega)]
      exact hp j (by omega)
end
section
/-! what the constructor made is the class's world -/
def zPi (c : Nat) : Nat := if c < 9 then c else if c < 13 then 9 + 2 * (c - 9) else if c < 17 then 10 + 2 * (c - 13) else if c < 25 then 17 + 2 * (c - 17) else if c < 33 then 18 + 2 * (c - 25) else c
theorem zPi_inj : ∀ i, i < 41 → ∀ j, j < 41 → zPi i = zPi j → i = j := by decide +kernel
theorem zPi_lt : ∀ i, i < 41 → zPi i < 41 := by decide +kernel
def zAd (ad : Nat → Nat) (cI cS cG cP : ClassId) (c : Nat) : Nat := if c < 41 then ad (zPi c) else if c = 100 then cI else if c = 101 then cS else if c = 102 then cG else cP
def σC0 : St := fun _ _ => 0
theorem refs_congr {cA : ClassId} {N : Nat} {f g : Nat → Option Nat} (h : ∀ j, j < N → f j = g j) : vp_cell cA (N, .inr (.inr (.inr (.inr f)))) = vp_cell cA (N, .inr (.inr (.inr (.inr g)))) := by
  rw [vp_cell_q, vp_cell_q]
  unfold arrV
  congr 1
  congr 1
  funext j
  show va_rf (f j.val) = va_rf (g j.val)
  rw [h j.val j.isLt]
theorem at_refs {D : va_G} {a : Nat} {cA : ClassId} {N : Nat} {f g : Nat → Option Nat} {H : Heap} (h : ∀ j, j < N → f j = g j) (q : va_at D vwCl (a, zRefs cA N f) H) : va_at D vwCl (a, zRefs cA N g) H := by
  show H[a]? = some (vp_cell cA (N, .inr (.inr (.inr (.inr g)))))
  rw [← refs_congr h]
  exact q
theorem IV_done {cI cS cG cP : ClassId} {ad : Nat → Nat} {G : Nat → va_E} {D : va_G} {A : Nat → Prop} {H0 H : Heap} {locs : List Loc} (h : IV cI cS cG cP 4 8 8 ad G) (w : CG 41 ad G D A H0 H locs) :
    va_P D vwCl (Wd 41 (eC (zAd ad cI cS cG cP)) (zAd ad cI cS cG cP) σC0) H ∧ va_D A (Wd 41 (eC (zAd ad cI cS cG cP)) (zAd ad cI cS cG cP) σC0) := by
  obtain ⟨h0, ⟨f1, e1, g1⟩, ⟨f2, e2, g2⟩, ⟨f3, e3, g3⟩, ⟨e4, e5, e6, e7, e8⟩, hs, hg, hp⟩ := h
  have hz : ∀ c, c < 41 → zAd ad cI cS cG cP c = ad (zPi c) := fun c hc => if_pos hc
  have hat : ∀ c, c < 41 → va_at D vwCl (ad (zPi c), G (zPi c)) H := fun c hc => w.1 (zPi c) _ (Wg_get (zPi_lt c hc))
  constructor
  · intro c q hc
    obtain ⟨hcn, rfl⟩ := Wd_get_inv hc
    rw [hz c hcn]
    have ha := hat c hcn
    by_cases h9 : c < 9
    · have hpi : zPi c = c := if_pos h9
      rw [hpi] at ha ⊢
      rcases (show c = 0 ∨ c = 1 ∨ c = 2 ∨ c = 3 ∨ c = 4 ∨ c = 5 ∨ c = 6 ∨ c = 7 ∨ c = 8 by omega) with rfl | rfl | rfl | rfl | rfl | rfl | rfl | rfl | rfl
      · rw [h0] at ha; exact ha
      · rw [e1] at ha
        exact at_refs (g := fun j => some (zAd ad cI cS cG cP (9 + j))) (fun j hj => by
          rw [g1 j hj, hz _ (by omega)]
          congr 2
          unfold zPi
          rw [if_neg (by omega), if_pos (by omega)]
          omega) ha
      · rw [e2] at ha
        exact at_refs (g := fun j => some (zAd ad cI cS cG cP (17 + j))) (fun j hj => by
          rw [g2 j hj, hz _ (by omega)]
          congr 2
          unfold zPi
          rw [if_neg (by omega), if_neg (by omega), if_neg (by omega), if_pos (by omega)]
          omega) ha
      · rw [e3] at ha
        exact at_refs (g := fun j => some (zAd ad cI cS cG cP (33 + j))) (fun j hj => by
          rw [g3 j hj, hz _ (by omega)]
          congr 2
          unfold zPi
          rw [if_neg (by omega), if_neg (by omega), if_neg (by omega), if_neg (by omega), if_neg (by omega)]) ha
      · rw [e4] at ha; exact ha
      · rw [e5] at ha; exact ha
      · rw [e6] at ha; exact ha
      · rw [e7] at ha; exact ha
      · rw [e8] at ha; exact ha
    · by_cases h13 : c < 13
      · obtain ⟨j, rfl⟩ : ∃ j, c = 9 + j := ⟨c - 9, by omega⟩
        have hpi : zPi (9 + j) = 9 + 2 * j := by
          unfold zPi
          rw [if_neg (by omega), if_pos (by omega)]
          omega
        rw [hpi] at ha ⊢
        rw [(hs j (by omega)).1] at ha
        rw [eC_sh _ (by omega)]
        have h2 : zAd ad cI cS cG cP (13 + j) = ad (10 + 2 * j) := by
          rw [hz _ (by omega)]
          congr 1
          unfold zPi
          rw [if_neg (by omega), if_neg (by omega), if_pos (by omega)]
          omega
        unfold fsSh
        rw [h2]
        have h3 : σC0 (9 + j) = fun _ => 0 := rfl
        rw [h3]
        exact ha
      · by_cases h17 : c < 17
        · obtain ⟨j, rfl⟩ : ∃ j, c = 13 + j := ⟨c - 13, by omega⟩
          have hpi : zPi (13 + j) = 10 + 2 * j := by
            unfold zPi
            rw [if_neg (by omega), if_neg (by omega), if_pos (by omega)]
            omega
          rw [hpi] at ha ⊢
          rw [(hs j (by omega)).2] at ha
          rw [eC_sc _ (by omega)]
          have h3 : σC0 (13 + j) = fun _ => 0 := rfl
          rw [h3]
          exact ha
        · by_cases h25 : c < 25
          · obtain ⟨j, rfl⟩ : ∃ j, c = 17 + j := ⟨c - 17, by omega⟩
            have hpi : zPi (17 + j) = 17 + 2 * j := by
              unfold zPi
              rw [if_neg (by omega), if_neg (by omega), if_neg (by omega), if_pos (by omega)]
              omega
            rw [hpi] at ha ⊢
            rw [(hg j (by omega)).1] at ha
            rw [eC_sg _ (by omega)]
            have h2 : zAd ad cI cS cG cP (25 + j) = ad (18 + 2 * j) := by
              rw [hz _ (by omega)]
              congr 1
              unfold zPi
              rw [if_neg (by omega), if_neg (by omega), if_neg (by omega), if_neg (by omega), if_pos (by omega)]
              omega
            unfold fsSg
            rw [h2]
            have h3 : σC0 (17 + j) = fun _ => 0 := rfl
            rw [h3]
            exact ha
          · by_cases h33 : c < 33
            · obtain ⟨j, rfl⟩ : ∃ j, c = 25 + j := ⟨c - 25, by omega⟩
              have hpi : zPi (25 + j) = 18 + 2 * j := by
                unfold zPi
                rw [if_neg (by omega), if_neg (by omega), if_neg (by omega), if_neg (by omega), if_pos (by omega)]
                omega
              rw [hpi] at ha ⊢
              rw [(hg j (by omega)).2] at ha
              rw [eC_st _ (by omega)]
              have h3 : σC0 (25 + j) = fun _ => 0 := rfl
              rw [h3]
              exact ha
            · obtain ⟨j, rfl⟩ : ∃ j, c = 33 + j := ⟨c - 33, by omega⟩
              have hpi : zPi (33 + j) = 33 + j := by
                unfold zPi
                rw [if_neg (by omega), if_neg (by omega), if_neg (by omega), if_neg (by omega), if_neg (by omega)]
              rw [hpi] at ha ⊢
              rw [hp j (by omega)] at ha
              rw [eC_pa _ (by omega)]
              have h3 : σC0 (33 + j) = fun _ => 0 := rfl
              rw [h3]
              exact ha
  · refine ⟨fun i j p q hi hj hpq => ?_, fun c q hc => ?_⟩
    · obtain ⟨li, rfl⟩ := Wd_get_inv hi
      obtain ⟨lj, rfl⟩ := Wd_get_inv hj
      have h1 : zAd ad cI cS cG cP i = zAd ad cI cS cG cP j := hpq
      rw [hz i li, hz j lj] at h1
      exact zPi_inj i li j lj (w.2.1.1 _ _ _ _ (Wg_get (zPi_lt i li)) (Wg_get (zPi_lt j lj)) h1)
    · obtain ⟨lc, rfl⟩ := Wd_get_inv hc
      show A (zAd ad cI cS cG cP c)
      rw [hz c lc]
      exact w.2.1.2 _ _ (Wg_get (zPi_lt c lc))
def zNull : List Value := [.null, .null, .null, .null, .int 0, .int 0, .int 0, .int 0, .int 0, .int 0, .null, .null, .null, .null]
def AO3 (U : State) : Prop := va_AO "NineSmells$Sheet" U ∧ va_AO "NineSmells$Sign" U ∧ va_AO "NineSmells$Paper" U
def PreC3 (D : va_G) (h0 sz : Nat) : Array Value → State → Prop :=
  va_Pc [.ref h0] (fun U => U.heap.size = sz ∧ va_P D vwCl [(h0, .inr (3, zNull))] U.heap ∧ va_K D vwCl [] U ∧ NW U ∧ AO3 U)
theorem PreC3.blind {D : va_G} {h0 sz : Nat} : FrameBlind (PreC3 D h0 sz) := by
  intro a U g mk q
  obtain ⟨q0, q1, qP, qK, qN, qA⟩ := q
  exact ⟨q0, q1, qP, va_K.moved (u := U) (U := U.calling g mk a) (Vm.Alike.refl U.vm) qK, qN.same rfl, va_AO.moved (u := U) (U := U.calling g mk a) (Vm.Alike.refl U.vm) qA.1, va_AO.moved (u := U) (U := U.calling g mk a) (Vm.Alike.refl U.vm) qA.2.1, va_AO.moved (u := U) (U := U.calling g mk a) (Vm.Alike.refl U.vm) qA.2.2⟩
def PostC3 (D : va_G) (h0 sz : Nat) : Array Value → State → Outcome → State → Prop :=
  va_Qv (fun ad : Nat → Nat => ad 0 = h0) (fun ad t => va_P D vwCl (Wd 41 (eC ad) ad σC0) t.heap ∧ va_K D vwCl (tyC ad) t ∧ va_D (va_A [(h0, .inr (3, zNull))] sz) (Wd 41 (eC ad) ad σC0)) (va_A [(h0, .inr (3, zNull))] sz)
set_option maxHeartbeats 8000000 in
set_option maxRecDepth 100000 in
theorem c_X3_init (l : Launch) (D : va_G) (h0 sz : Nat) : Met l yX3_init wsX3_init ({ frames := 2, cells := 40, slots := 580, locals := 40 } : Room) (PreC3 D h0 sz) (PostC3 D h0 sz) 40 580 (va_A [(h0, .inr (3, zNull))] sz) := by
  refine Met.ofW (cc := cX3_init) (maxL := 2) (ret := none) (by decide) rfl ?_
  intro p e s m args below meth c s₁ B hml hv
  obtain ⟨rfl, hsz, hP, hK, hN, hA3⟩ := hv
  have hts := atoms_spec (ws := wsX3_init) B.pre
  have hown : s.vm.findClass RX3 = some m.cls := findClass_of_methodNamed B.named
  have hin2 : meth.name = "<init>" := (name_of_methodNamed B.named B.method).1
  have hr := B.returns
  have hlocks := B.notSynchronized
  have S : CallFix p m c cX3_init 2 s ([.ref h0] : List Value).toArray wsX3_init RX3 := ⟨B.exec, B.bytes, hml, hown, hts⟩
  have hx := S.1
  have hb := S.2.1
  have z0 : (0 : Int32).toInt = 0 := by decide
  have hl := lv_entry ([.ref h0]) (n := 2) (Nat.le_of_ble_eq_true rfl)
  rw [lg_entry_eq]
  generalize (lg_sl ([.ref h0]) ++ List.replicate (2 - (lg_sl ([.ref h0])).length) Slot.unset).toArray = ls at hl ⊢
  have hl : lv_has ls 2 [(0, .ref h0)] := hl
  have hinX3 : ∀ w ∈ wsX30, w ∈ wsX3_init := (fun _ h => List.mem_cons_of_mem _ (List.mem_append_left _ (List.mem_append_left _ (List.mem_append_left _ (List.mem_append_right _ h)))))
  have hinX1 : ∀ w ∈ wsX10, w ∈ wsX3_init := (fun _ h => List.mem_cons_of_mem _ (List.mem_append_left _ (List.mem_append_left _ (List.mem_append_right _ h))))
  have hinX2 : ∀ w ∈ wsX20, w ∈ wsX3_init := (fun _ h => List.mem_cons_of_mem _ (List.mem_append_left _ (List.mem_append_right _ h)))
  have hinX0 : ∀ w ∈ wsX00, w ∈ wsX3_init := (fun _ h => List.mem_cons_of_mem _ (List.mem_append_right _ h))
  unfold PostC3
  generalize hA : va_A [(h0, .inr (3, zNull))] sz = A
  have w : CG 1 (fun _ => h0) (fun _ => .inr (3, zNull)) D A s.heap s.heap [] := ⟨hP, ⟨fun i j p q hi hj _ => by
    have h1 := (Wg_inv hi).1
    have h2 := (Wg_inv hj).1
    omega, fun k q hk => by
    obtain ⟨h1, rfl⟩ := Wg_inv hk
    rw [← hA]
    exact Or.inl ⟨0, _, rfl⟩⟩, va_S.rf, fun q hq => by
    rw [← hA, ← hsz]
    exact Or.inr hq⟩
  refine lv_aload_n hx hb dX3_init_0 rfl (lv_at hl 0 rfl) ?_
  refine W.objInit hx hb S.2.2.2.1 (S.2.2.2.2 _ (List.mem_of_getElem? (i := 1) rfl)) (S.2.2.2.2 _ (List.mem_of_getElem? (i := 2) rfl)) (S.2.2.2.2 _ (List.mem_of_getElem? (i := 3) rfl)) rfl (by rw [S.2.2.1]; exact hl.1) rfl dX3_init_1 (Nat.le_of_ble_eq_true rfl) (Nat.le_of_ble_eq_true rfl) ?_
  refine W.eq (g2 := F0 m 4 ls []) rfl ?_
  refine lv_aload_n hx hb dX3_init_4 rfl (lv_at hl 0 rfl) ?_
  refine lv_iconst (v := 4) hx hb dX3_init_5 (by decide) ?_
  refine g_newq (C := "NineSmells$Sheet") (N := 4) S hK w (List.mem_of_getElem? (i := 4) rfl) hA3.1 (by decide) (by decide) (by decide) (Nat.le_of_ble_eq_true rfl) (Nat.le_of_ble_eq_true rfl) dX3_init_6 (fun q1 cS H hK w => ?_)
  refine g_putF (C := RX3) (T := TX3) (N := 14) S hK w (k := 0) (by decide) (fs := [.null, .null, .null, .null, .int 0, .int 0, .int 0, .int 0, .int 0, .int 0, .null, .null, .null, .null]) rfl rfl hinX3 tyX3 tyX3_ok nmX3 0 (by decide) (List.mem_of_getElem? (i := 5) rfl) rfl hin2 rfl (x := .ref q1) (ty := .array (.object "NineSmells$Sheet")) (by decide +kernel) rfl rfl (by show _ < List.length _; exact Nat.le_of_ble_eq_true rfl) dX3_init_9 (fun H locs w => ?_)
  refine lv_aload_n hx hb dX3_init_12 rfl (lv_at hl 0 rfl) ?_
  refine lv_bipush (v := 8) hx hb dX3_init_13 (by decide) ?_
  refine g_newq (C := "NineSmells$Sign") (N := 8) S hK w (List.mem_of_getElem? (i := 6) rfl) hA3.2.1 (by decide) (by decide) (by decide) (Nat.le_of_ble_eq_true rfl) (Nat.le_of_ble_eq_true rfl) dX3_init_15 (fun q2 cG H hK w => ?_)
  refine g_putF (C := RX3) (T := TX3) (N := 14) S hK w (k := 0) (by decide) (fs := [.ref q1, .null, .null, .null, .int 0, .int 0, .int 0, .int 0, .int 0, .int 0, .null, .null, .null, .null]) rfl rfl hinX3 tyX3 tyX3_ok nmX3 1 (by decide) (List.mem_of_getElem? (i := 7) rfl) rfl hin2 rfl (x := .ref q2) (ty := .array (.object "NineSmells$Sign")) (by decide +kernel) rfl rfl (by show _ < List.length _; exact Nat.le_of_ble_eq_true rfl) dX3_init_18 (fun H locs w => ?_)
  refine lv_aload_n hx hb dX3_init_21 rfl (lv_at hl 0 rfl) ?_
  refine lv_bipush (v := 8) hx hb dX3_init_22 (by decide) ?_
  refine g_newq (C := "NineSmells$Paper") (N := 8) S hK w (List.mem_of_getElem? (i := 8) rfl) hA3.2.2 (by decide) (by decide) (by decide) (Nat.le_of_ble_eq_true rfl) (Nat.le_of_ble_eq_true rfl) dX3_init_24 (fun q3 cP H hK w => ?_)
  refine g_putF (C := RX3) (T := TX3) (N := 14) S hK w (k := 0) (by decide) (fs := [.ref q1, .ref q2, .null, .null, .int 0, .int 0, .int 0, .int 0, .int 0, .int 0, .null, .null, .null, .null]) rfl rfl hinX3 tyX3 tyX3_ok nmX3 2 (by decide) (List.mem_of_getElem? (i := 9) rfl) rfl hin2 rfl (x := .ref q3) (ty := .array (.object "NineSmells$Paper")) (by decide +kernel) rfl rfl (by show _ < List.length _; exact Nat.le_of_ble_eq_true rfl) dX3_init_27 (fun H locs w => ?_)
  refine lv_aload_n hx hb dX3_init_30 rfl (lv_at hl 0 rfl) ?_
  refine lv_bipush (v := 9) hx hb dX3_init_31 (by decide) ?_
  refine g_newa (N := 9) S hK w (List.mem_of_getElem? (i := 10) rfl) (by decide) (by decide) (by decide) (Nat.le_of_ble_eq_true rfl) (Nat.le_of_ble_eq_true rfl) dX3_init_33 (fun q4 cI H hK w => ?_)
  have hK : va_K D vwCl (([] ++ [(cS, .object "NineSmells$Sheet")]) ++ [(cG, .object "NineSmells$Sign")] ++ [(cP, .object "NineSmells$Paper")] ++ [(cI, .int)]) s := hK
  refine g_putF (C := RX3) (T := TX3) (N := 14) S hK w (k := 0) (by decide) (fs := [.ref q1, .ref q2, .ref q3, .null, .int 0, .int 0, .int 0, .int 0, .int 0, .int 0, .null, .null, .null, .null]) rfl rfl hinX3 tyX3 tyX3_ok nmX3 3 (by decide) (List.mem_of_getElem? (i := 11) rfl) rfl hin2 rfl (x := .ref q4) (ty := .array .int) (by decide +kernel) rfl rfl (by show _ < List.length _; exact Nat.le_of_ble_eq_true rfl) dX3_init_35 (fun H locs w => ?_)
  refine lv_aload_n hx hb dX3_init_38 rfl (lv_at hl 0 rfl) ?_
  refine lv_bipush (v := 9) hx hb dX3_init_39 (by decide) ?_
  refine g_newaI (N := 9) S hK w (t := 3) rfl (List.mem_of_getElem? (i := 10) rfl) (by decide) (by decide) (by decide) (Nat.le_of_ble_eq_true rfl) (Nat.le_of_ble_eq_true rfl) dX3_init_41 (fun q5 H w => ?_)
  refine g_putF (C := RX3) (T := TX3) (N := 14) S hK w (k := 0) (by decide) (fs := [.ref q1, .ref q2, .ref q3, .ref q4, .int 0, .int 0, .int 0, .int 0, .int 0, .int 0, .null, .null, .null, .null]) rfl rfl hinX3 tyX3 tyX3_ok nmX3 10 (by decide) (List.mem_of_getElem? (i := 12) rfl) rfl hin2 rfl (x := .ref q5) (ty := .array .int) (by decide +kernel) rfl rfl (by show _ < List.length _; exact Nat.le_of_ble_eq_true rfl) dX3_init_43 (fun H locs w => ?_)
  refine lv_aload_n hx hb dX3_init_46 rfl (lv_at hl 0 rfl) ?_
  refine lv_bipush (v := 9) hx hb dX3_init_47 (by decide) ?_
  refine g_newaI (N := 9) S hK w (t := 3) rfl (List.mem_of_getElem? (i := 10) rfl) (by decide) (by decide) (by decide) (Nat.le_of_ble_eq_true rfl) (Nat.le_of_ble_eq_true rfl) dX3_init_49 (fun q6 H w => ?_)
  refine g_putF (C := RX3) (T := TX3) (N := 14) S hK w (k := 0) (by decide) (fs := [.ref q1, .ref q2, .ref q3, .ref q4, .int 0, .int 0, .int 0, .int 0, .int 0, .int 0, .ref q5, .null, .null, .null]) rfl rfl hinX3 tyX3 tyX3_ok nmX3 11 (by decide) (List.mem_of_getElem? (i := 13) rfl) rfl hin2 rfl (x := .ref q6) (ty := .array .int) (by decide +kernel) rfl rfl (by show _ < List.length _; exact Nat.le_of_ble_eq_true rfl) dX3_init_51 (fun H locs w => ?_)
  refine lv_aload_n hx hb dX3_init_54 rfl (lv_at hl 0 rfl) ?_
  refine lv_bipush (v := 8) hx hb dX3_init_55 (by decide) ?_
  refine g_newaI (N := 8) S hK w (t := 3) rfl (List.mem_of_getElem? (i := 10) rfl) (by decide) (by decide) (by decide) (Nat.le_of_ble_eq_true rfl) (Nat.le_of_ble_eq_true rfl) dX3_init_57 (fun q7 H w => ?_)
  refine g_putF (C := RX3) (T := TX3) (N := 14) S hK w (k := 0) (by decide) (fs := [.ref q1, .ref q2, .ref q3, .ref q4, .int 0, .int 0, .int 0, .int 0, .int 0, .int 0, .ref q5, .ref q6, .null, .null]) rfl rfl hinX3 tyX3 tyX3_ok nmX3 12 (by decide) (List.mem_of_getElem? (i := 14) rfl) rfl hin2 rfl (x := .ref q7) (ty := .array .int) (by decide +kernel) rfl rfl (by show _ < List.length _; exact Nat.le_of_ble_eq_true rfl) dX3_init_59 (fun H locs w => ?_)
  refine lv_aload_n hx hb dX3_init_62 rfl (lv_at hl 0 rfl) ?_
  refine lv_iconst (v := 5) hx hb dX3_init_63 (by decide) ?_
  refine g_newaI (N := 5) S hK w (t := 3) rfl (List.mem_of_getElem? (i := 10) rfl) (by decide) (by decide) (by decide) (Nat.le_of_ble_eq_true rfl) (Nat.le_of_ble_eq_true rfl) dX3_init_64 (fun q8 H w => ?_)
  refine g_putF (C := RX3) (T := TX3) (N := 14) S hK w (k := 0) (by decide) (fs := [.ref q1, .ref q2, .ref q3, .ref q4, .int 0, .int 0, .int 0, .int 0, .int 0, .int 0, .ref q5, .ref q6, .ref q7, .null]) rfl rfl hinX3 tyX3 tyX3_ok nmX3 13 (by decide) (List.mem_of_getElem? (i := 15) rfl) rfl hin2 rfl (x := .ref q8) (ty := .array .int) (by decide +kernel) rfl rfl (by show _ < List.length _; exact Nat.le_of_ble_eq_true rfl) dX3_init_66 (fun H locs w => ?_)
  obtain ⟨ad, G, had0, hIV, w⟩ : ∃ (ad : Nat → Nat) (G : Nat → va_E), ad 0 = h0 ∧ IV cI cS cG cP 0 0 0 ad G ∧ CG 9 ad G D A s.heap H locs := ⟨_, _, rfl, ⟨rfl, ⟨_, rfl, fun j hj => absurd hj (Nat.not_lt_zero _)⟩, ⟨_, rfl, fun j hj => absurd hj (Nat.not_lt_zero _)⟩, ⟨_, rfl, fun j hj => absurd hj (Nat.not_lt_zero _)⟩, ⟨rfl, rfl, rfl, rfl, rfl⟩, fun j hj => absurd hj (Nat.not_lt_zero _), fun j hj => absurd hj (Nat.not_lt_zero _), fun j hj => absurd hj (Nat.not_lt_zero _)⟩, w⟩
  refine lv_iconst (v := 0) hx hb dX3_init_69 (by decide) ?_
  refine lv_istore_n (lv' := [(1, .int 0), (0, .ref h0)]) hx hb dX3_init_70 rfl hl (by decide) rfl (fun ls hl => ?_)
  have hK : va_K D vwCl [(cS, .object "NineSmells$Sheet"), (cG, .object "NineSmells$Sign"), (cP, .object "NineSmells$Paper"), (cI, .int)] s := hK
  have LP : ∀ (n k : Nat), k ≤ 8 → 8 + 1 ≤ k + n → ∀ (ad : Nat → Nat) (G : Nat → va_E) (H : Heap) (locs : List Loc), ad 0 = h0 → IV cI cS cG cP 4 8 k ad G → CG (33 + k) ad G D A s.heap H locs → ∀ ls : Array Slot, lv_has ls 2 [(1, .int (nI k)), (0, .ref h0)] → W p l e (headSpec wsX3_init ({ frames := 2, cells := 40, slots := 580, locals := 40 } : Room)).room s m ([.ref h0] : List Value).toArray below meth c H locs (32 + k) (532 + 6 * k) (MQ below (va_Qv (fun ad : Nat → Nat => ad 0 = h0) (fun ad t => va_P D vwCl (Wd 41 (eC ad) ad σC0) t.heap ∧ va_K D vwCl (tyC ad) t ∧ va_D A (Wd 41 (eC ad) ad σC0)) A) ([.ref h0] : List Value).toArray s 40 580 A) (F0 m 124 ls []) := by
    intro n
    induction n with
    | zero => intro k h1 h2; exact absurd h2 (by omega)
    | succ n ih =>
      intro k h1 h2 ad G H locs had0 hIV w ls hl
      refine lv_iload_n hx hb dX3_init_124 rfl (lv_at hl 0 rfl) ?_
      refine lv_bipush (v := 8) hx hb dX3_init_125 (by decide) ?_
      refine lv_icmp_ge (tgt := 149) hx hb dX3_init_127 (by decide) (fun c127 => ?_) (fun c127 => ?_)
      · have hk : k = 8 := by
          rcases Nat.lt_or_ge k 8 with q | q
          · exact absurd c127 (nI_ge q (by decide))
          · omega
        subst hk
        obtain ⟨hPw, hDw⟩ := IV_done hIV w
        have hKw : va_K D vwCl (tyC (zAd ad cI cS cG cP)) s := hK.sub [3, 0, 1, 2] rfl
        refine W.widen (k := 40) (n := 580) (by omega) (by omega) ?_
        exact W.vret hx hb hr (fun t ht hW => ⟨⟨zAd ad cI cS cG cP, rfl, had0, by show va_P _ _ _ t.heap ∧ _; exact ⟨by rw [ht]; exact hPw, va_K.moved hW.alike hKw, hDw⟩⟩, w.2.2.1.F ht⟩) w.2.2.1.2.2 dX3_init_149 hlocks
      · have hk : k < 8 := by
          rcases Nat.lt_or_ge k 8 with q | q
          · exact q
          · exact absurd (nI_le q (by omega)) c127
        refine lv_aload_n hx hb dX3_init_130 rfl (lv_at hl 1 rfl) ?_
        refine W.eq (g2 := F0 m 131 ls [.ref (ad 0)]) (by rw [had0]) ?_
        refine g_get (C := RX3) (T := TX3) (N := 14) S hK w (k := 0) (by omega) hIV.1 rfl hinX3 2 (by decide) (List.mem_of_getElem? (i := 9) rfl) (v := .ref (ad 3)) rfl dX3_init_131 ?_
        refine lv_iload_n hx hb dX3_init_134 rfl (lv_at hl 0 rfl) ?_
        obtain ⟨f, hf, hfj⟩ := hIV.2.2.2.1
        refine g_new (C := RX0) (T := TX0) (N := 6) (ci := 0) (fs := [.int 0, .int 0, .int 0, .int 0, .int 0, .int 0]) S hK w hinX0 tyX0 tyX0_ok (List.mem_of_getElem? (i := 8) rfl) (List.mem_of_getElem? (i := 20) rfl) (List.mem_of_getElem? (i := 21) rfl) rfl (fun j hj => by rcases (show j = 0 ∨ j = 1 ∨ j = 2 ∨ j = 3 ∨ j = 4 ∨ j = 5 by omega) with rfl | rfl | rfl | rfl | rfl | rfl <;> rfl) (by show _ ≤ 40; omega) (by show _ ≤ 580; omega) dX3_init_135 (fun q H w => ?_)
        refine lv_dup hx hb dX3_init_138 rfl ?_
        refine W.eq (g2 := F0 m 139 ls [.ref (va_up ad (33 + k) q (33 + k)), .ref (va_up ad (33 + k) q (33 + k)), .int (nI k), .ref (ad 3)]) (by rw [va_up_self]) ?_
        refine g_call0 S hl.1 (c_X0_init l (va_up ad (33 + k) q (33 + k))) ⟨va_cnB 0 S.2.2.2.2 gX3_init_X0_init_n47 rfl rfl rfl (hN.m 2 rfl) (S.2.2.2.2 _ (List.mem_of_getElem? (i := 21) rfl)) hd_X0_init ⟨Nat.le_of_ble_eq_true rfl, Nat.le_of_ble_eq_true rfl⟩, rfl, S.2.2.2.2 _ (List.mem_of_getElem? (i := 30) rfl)⟩ (lv_room (m := m) (pc := 0) (ls := ls) (rest := []) (Nat.le_of_ble_eq_true rfl)) dX3_init_139 ⟨by show _ ≤ 40; omega, by show _ ≤ 580; omega⟩ ?_
        refine W.eq (g2 := F0 m 142 ls [.ref ((va_up ad (33 + k) q) (33 + k)), .int (nI k), .ref ((va_up ad (33 + k) q) 3)]) (by rw [up2 (show 3 ≠ 33 + k by omega)]) ?_
        refine g_aast (k := 3) (k2 := 33 + k) (cA := cP) (N := 8) (t := 2) (ci := 0) (f := f) S hK w (by omega) (by omega) (by rw [up2 (by omega)]; exact hf) rfl (va_up_self _ _ _) rfl (vp_in_nI hk (by decide)) dX3_init_142 (fun H locs w => ?_)
        rw [nI_clamp (show k < 2 ^ 31 by omega)] at w
        refine lv_iinc (v := nI (k + 1)) (lv' := [(1, .int (nI (k + 1))), (0, .ref h0)]) hx hb dX3_init_143 hl (k := 0) rfl (nI_1 k) (by decide) rfl (fun ls hl => ?_)
        refine lv_goto (tgt := 124) hx hb dX3_init_146 (by decide) ?_
        have hIV2 := IV_paper hIV hf hfj q
        have e1 : va_up ad (33 + k) q (33 + k) = q := va_up_self _ _ _
        rw [e1] at w
        refine W.widen (k := 32 + (k + 1)) (n := 532 + 6 * (k + 1)) (by omega) (by omega) ?_
        exact ih (k + 1) (by omega) (by omega) _ _ H locs (by rw [up2 (by omega)]; exact had0) hIV2 w ls hl
  have LG : ∀ (n k : Nat), k ≤ 8 → 8 + 1 ≤ k + n → ∀ (ad : Nat → Nat) (G : Nat → va_E) (H : Heap) (locs : List Loc), ad 0 = h0 → IV cI cS cG cP 4 k 0 ad G → CG (17 + 2 * k) ad G D A s.heap H locs → ∀ ls : Array Slot, lv_has ls 2 [(1, .int (nI k)), (0, .ref h0)] → W p l e (headSpec wsX3_init ({ frames := 2, cells := 40, slots := 580, locals := 40 } : Room)).room s m ([.ref h0] : List Value).toArray below meth c H locs (16 + 2 * k) (436 + 12 * k) (MQ below (va_Qv (fun ad : Nat → Nat => ad 0 = h0) (fun ad t => va_P D vwCl (Wd 41 (eC ad) ad σC0) t.heap ∧ va_K D vwCl (tyC ad) t ∧ va_D A (Wd 41 (eC ad) ad σC0)) A) ([.ref h0] : List Value).toArray s 40 580 A) (F0 m 97 ls []) := by
    intro n
    induction n with
    | zero => intro k h1 h2; exact absurd h2 (by omega)
    | succ n ih =>
      intro k h1 h2 ad G H locs had0 hIV w ls hl
      refine lv_iload_n hx hb dX3_init_97 rfl (lv_at hl 0 rfl) ?_
      refine lv_bipush (v := 8) hx hb dX3_init_98 (by decide) ?_
      refine lv_icmp_ge (tgt := 122) hx hb dX3_init_100 (by decide) (fun c100 => ?_) (fun c100 => ?_)
      · have hk : k = 8 := by
          rcases Nat.lt_or_ge k 8 with q | q
          · exact absurd c100 (nI_ge q (by decide))
          · omega
        subst hk
        refine lv_iconst (v := 0) hx hb dX3_init_122 (by decide) ?_
        refine lv_istore_n (lv' := [(1, .int 0), (0, .ref h0)]) hx hb dX3_init_123 rfl hl (by decide) rfl (fun ls hl => ?_)
        exact LP 9 0 (by omega) (by omega) ad G H locs had0 hIV w ls (by rw [nI_0]; exact hl)
      · have hk : k < 8 := by
          rcases Nat.lt_or_ge k 8 with q | q
          · exact q
          · exact absurd (nI_le q (by omega)) c100
        refine lv_aload_n hx hb dX3_init_103 rfl (lv_at hl 1 rfl) ?_
        refine W.eq (g2 := F0 m 104 ls [.ref (ad 0)]) (by rw [had0]) ?_
        refine g_get (C := RX3) (T := TX3) (N := 14) S hK w (k := 0) (by omega) hIV.1 rfl hinX3 1 (by decide) (List.mem_of_getElem? (i := 7) rfl) (v := .ref (ad 2)) rfl dX3_init_104 ?_
        refine lv_iload_n hx hb dX3_init_107 rfl (lv_at hl 0 rfl) ?_
        obtain ⟨f, hf, hfj⟩ := hIV.2.2.1
        refine g_new (C := RX2) (T := TX2) (N := 3) (ci := 2) (fs := [.int 0, .int 0, .null]) S hK w hinX2 tyX2 tyX2_ok (List.mem_of_getElem? (i := 6) rfl) (List.mem_of_getElem? (i := 18) rfl) (List.mem_of_getElem? (i := 19) rfl) rfl (fun j hj => by rcases (show j = 0 ∨ j = 1 ∨ j = 2 by omega) with rfl | rfl | rfl <;> rfl) (by show _ ≤ 40; omega) (by show _ ≤ 580; omega) dX3_init_108 (fun q H w => ?_)
        refine lv_dup hx hb dX3_init_111 rfl ?_
        refine W.eq (g2 := F0 m 112 ls [.ref (va_up ad (17 + 2 * k) q (17 + 2 * k)), .ref (va_up ad (17 + 2 * k) q (17 + 2 * k)), .int (nI k), .ref (ad 2)]) (by rw [va_up_self]) ?_
        refine g_callI (N := 9) (t := 3) S hl.1 hK w (k := 17 + 2 * k) (by omega) (va_up_self _ _ _) rfl (c_X2_init l D (va_up ad (17 + 2 * k) q (17 + 2 * k)) H.size cI) ⟨va_cnB 0 S.2.2.2.2 gX3_init_X2_init_n46 rfl rfl rfl (hN.m 1 rfl) (S.2.2.2.2 _ (List.mem_of_getElem? (i := 19) rfl)) hd_X2_init ⟨Nat.le_of_ble_eq_true rfl, Nat.le_of_ble_eq_true rfl⟩, rfl, S.2.2.2.2 _ (List.mem_of_getElem? (i := 26) rfl)⟩ (lv_room (m := m) (pc := 0) (ls := ls) (rest := []) (Nat.le_of_ble_eq_true rfl)) dX3_init_112 ⟨by show _ ≤ 40; omega, by show _ ≤ 580; omega⟩ (fun q2 H locs w => ?_)
        refine W.eq (g2 := F0 m 115 ls [.ref ((va_up (va_up ad (17 + 2 * k) q) (17 + 2 * k + 1) q2) (17 + 2 * k)), .int (nI k), .ref ((va_up (va_up ad (17 + 2 * k) q) (17 + 2 * k + 1) q2) 2)]) (by rw [up2 (show 17 + 2 * k ≠ 17 + 2 * k + 1 by omega), up2 (show 2 ≠ 17 + 2 * k + 1 by omega), up2 (show 2 ≠ 17 + 2 * k by omega)]) ?_
        refine g_aast (k := 2) (k2 := 17 + 2 * k) (cA := cG) (N := 8) (t := 1) (ci := 2) (f := f) S hK w (by omega) (by omega) (by rw [up2 (by omega), up2 (by omega), up2 (by omega)]; exact hf) rfl (by rw [up2 (by omega), va_up_self]) rfl (vp_in_nI hk (by decide)) dX3_init_115 (fun H locs w => ?_)
        rw [nI_clamp (show k < 2 ^ 31 by omega)] at w
        refine lv_iinc (v := nI (k + 1)) (lv' := [(1, .int (nI (k + 1))), (0, .ref h0)]) hx hb dX3_init_116 hl (k := 0) rfl (nI_1 k) (by decide) rfl (fun ls hl => ?_)
        refine lv_goto (tgt := 97) hx hb dX3_init_119 (by decide) ?_
        have hIV2 := IV_sign hIV hf hfj q q2
        have e1 : va_up (va_up ad (17 + 2 * k) q) (17 + 2 * k + 1) q2 (17 + 2 * k) = q := by rw [up2 (by omega), va_up_self]
        rw [e1] at w
        refine W.widen (k := 16 + 2 * (k + 1)) (n := 436 + 12 * (k + 1)) (by omega) (by omega) ?_
        exact ih (k + 1) (by omega) (by omega) _ _ H locs (by rw [up2 (by omega), up2 (by omega)]; exact had0) hIV2 w ls hl
  have LS : ∀ (n k : Nat), k ≤ 4 → 4 + 1 ≤ k + n → ∀ (ad : Nat → Nat) (G : Nat → va_E) (H : Heap) (locs : List Loc), ad 0 = h0 → IV cI cS cG cP k 0 0 ad G → CG (9 + 2 * k) ad G D A s.heap H locs → ∀ ls : Array Slot, lv_has ls 2 [(1, .int (nI k)), (0, .ref h0)] → W p l e (headSpec wsX3_init ({ frames := 2, cells := 40, slots := 580, locals := 40 } : Room)).room s m ([.ref h0] : List Value).toArray below meth c H locs (8 + 2 * k) (60 + 94 * k) (MQ below (va_Qv (fun ad : Nat → Nat => ad 0 = h0) (fun ad t => va_P D vwCl (Wd 41 (eC ad) ad σC0) t.heap ∧ va_K D vwCl (tyC ad) t ∧ va_D A (Wd 41 (eC ad) ad σC0)) A) ([.ref h0] : List Value).toArray s 40 580 A) (F0 m 71 ls []) := by
    intro n
    induction n with
    | zero => intro k h1 h2; exact absurd h2 (by omega)
    | succ n ih =>
      intro k h1 h2 ad G H locs had0 hIV w ls hl
      refine lv_iload_n hx hb dX3_init_71 rfl (lv_at hl 0 rfl) ?_
      refine lv_iconst (v := 4) hx hb dX3_init_72 (by decide) ?_
      refine lv_icmp_ge (tgt := 95) hx hb dX3_init_73 (by decide) (fun c73 => ?_) (fun c73 => ?_)
      · have hk : k = 4 := by
          rcases Nat.lt_or_ge k 4 with q | q
          · exact absurd c73 (nI_ge q (by decide))
          · omega
        subst hk
        refine lv_iconst (v := 0) hx hb dX3_init_95 (by decide) ?_
        refine lv_istore_n (lv' := [(1, .int 0), (0, .ref h0)]) hx hb dX3_init_96 rfl hl (by decide) rfl (fun ls hl => ?_)
        exact LG 9 0 (by omega) (by omega) ad G H locs had0 hIV w ls (by rw [nI_0]; exact hl)
      · have hk : k < 4 := by
          rcases Nat.lt_or_ge k 4 with q | q
          · exact q
          · exact absurd (nI_le q (by omega)) c73
        refine lv_aload_n hx hb dX3_init_76 rfl (lv_at hl 1 rfl) ?_
        refine W.eq (g2 := F0 m 77 ls [.ref (ad 0)]) (by rw [had0]) ?_
        refine g_get (C := RX3) (T := TX3) (N := 14) S hK w (k := 0) (by omega) hIV.1 rfl hinX3 0 (by decide) (List.mem_of_getElem? (i := 5) rfl) (v := .ref (ad 1)) rfl dX3_init_77 ?_
        refine lv_iload_n hx hb dX3_init_80 rfl (lv_at hl 0 rfl) ?_
        obtain ⟨f, hf, hfj⟩ := hIV.2.1
        refine g_new (C := RX1) (T := TX1) (N := 4) (ci := 1) (fs := [.int 0, .int 0, .int 0, .null]) S hK w hinX1 tyX1 tyX1_ok (List.mem_of_getElem? (i := 4) rfl) (List.mem_of_getElem? (i := 16) rfl) (List.mem_of_getElem? (i := 17) rfl) rfl (fun j hj => by rcases (show j = 0 ∨ j = 1 ∨ j = 2 ∨ j = 3 by omega) with rfl | rfl | rfl | rfl <;> rfl) (by show _ ≤ 40; omega) (by show _ ≤ 580; omega) dX3_init_81 (fun q H w => ?_)
        refine lv_dup hx hb dX3_init_84 rfl ?_
        refine W.eq (g2 := F0 m 85 ls [.ref (va_up ad (9 + 2 * k) q (9 + 2 * k)), .ref (va_up ad (9 + 2 * k) q (9 + 2 * k)), .int (nI k), .ref (ad 1)]) (by rw [va_up_self]) ?_
        refine g_callI (N := 90) (t := 3) S hl.1 hK w (k := 9 + 2 * k) (by omega) (va_up_self _ _ _) rfl (c_X1_init l D (va_up ad (9 + 2 * k) q (9 + 2 * k)) H.size cI) ⟨va_cnB 0 S.2.2.2.2 gX3_init_X1_init_n45 rfl rfl rfl (hN.m 0 rfl) (S.2.2.2.2 _ (List.mem_of_getElem? (i := 17) rfl)) hd_X1_init ⟨Nat.le_of_ble_eq_true rfl, Nat.le_of_ble_eq_true rfl⟩, rfl, S.2.2.2.2 _ (List.mem_of_getElem? (i := 22) rfl)⟩ (lv_room (m := m) (pc := 0) (ls := ls) (rest := []) (Nat.le_of_ble_eq_true rfl)) dX3_init_85 ⟨by show _ ≤ 40; omega, by show _ ≤ 580; omega⟩ (fun q2 H locs w => ?_)
        refine W.eq (g2 := F0 m 88 ls [.ref ((va_up (va_up ad (9 + 2 * k) q) (9 + 2 * k + 1) q2) (9 + 2 * k)), .int (nI k), .ref ((va_up (va_up ad (9 + 2 * k) q) (9 + 2 * k + 1) q2) 1)]) (by rw [up2 (show 9 + 2 * k ≠ 9 + 2 * k + 1 by omega), up2 (show 1 ≠ 9 + 2 * k + 1 by omega), up2 (show 1 ≠ 9 + 2 * k by omega)]) ?_
        refine g_aast (k := 1) (k2 := 9 + 2 * k) (cA := cS) (N := 4) (t := 0) (ci := 1) (f := f) S hK w (by omega) (by omega) (by rw [up2 (by omega), up2 (by omega), up2 (by omega)]; exact hf) rfl (by rw [up2 (by omega), va_up_self]) rfl (vp_in_nI hk (by decide)) dX3_init_88 (fun H locs w => ?_)
        rw [nI_clamp (show k < 2 ^ 31 by omega)] at w
        refine lv_iinc (v := nI (k + 1)) (lv' := [(1, .int (nI (k + 1))), (0, .ref h0)]) hx hb dX3_init_89 hl (k := 0) rfl (nI_1 k) (by decide) rfl (fun ls hl => ?_)
        refine lv_goto (tgt := 71) hx hb dX3_init_92 (by decide) ?_
        have hIV2 := IV_sheet hIV hf hfj q q2
        have e1 : va_up (va_up ad (9 + 2 * k) q) (9 + 2 * k + 1) q2 (9 + 2 * k) = q := by rw [up2 (by omega), va_up_self]
        rw [e1] at w
        refine W.widen (k := 8 + 2 * (k + 1)) (n := 60 + 94 * (k + 1)) (by omega) (by omega) ?_
        exact ih (k + 1) (by omega) (by omega) _ _ H locs (by rw [up2 (by omega), up2 (by omega)]; exact had0) hIV2 w ls hl
  refine W.widen (k := 8 + 2 * 0) (n := 60 + 94 * 0) (by decide) (by decide) ?_
  exact LS 5 0 (by omega) (by omega) ad G H locs had0 hIV w ls (by rw [nI_0]; exact hl)
end
section
/-! the law's walk: two worlds beside one another, the class's cells and the law's own rows -/
section LAW2
variable {p : Program} {l : Launch} {e : Env} {R : Room} {s : State} {m : MethodId} {args : Array Value} {below : List Frame} {meth : Method} {c : Code} {H : Heap} {locs : List Loc} {cells slots : Nat} {Q : State → Prop}
variable {pc : Nat} {ls : Array Slot} {rest st0 : List Value} {a : Array Value}
variable {n : Nat} {E : Nat → (Nat → Int32) → va_E} {ad : Nat → Nat} {D : va_G} {A : Nat → Prop} {H0 : Heap} {σ : St}
variable {n2 : Nat} {E2 : Nat → (Nat → Int32) → va_E} {ad2 : Nat → Nat} {τ : St}
theorem CW.beside (w2 : CW n2 E2 ad2 D A H0 τ H locs) (hdis : ∀ i, i < n → ∀ j, j < n2 → ad i ≠ ad2 j) {H1 : Heap} {locs1 : List Loc} (hk1 : ∀ q : Nat, q < H.size → ¬ CA n ad H.size q → H1[q]? = H[q]?) (hS : va_S A H0 H1 locs1) : CW n2 E2 ad2 D A H0 τ H1 locs1 := by
  refine ⟨fun c q hc => ?_, w2.2.1, hS, w2.2.2.2⟩
  obtain ⟨hcn, rfl⟩ := Wd_get_inv hc
  have hat := w2.1 c _ (Wd_get hcn)
  refine hat.kept (hk1 _ hat.lt (fun h => ?_))
  rcases h with ⟨i, hi, h⟩ | h
  · exact hdis i hi c hcn h.symm
  · exact absurd hat.lt (Nat.not_lt.mpr h)
theorem callWi2 (w : CW n E ad D A H0 σ H locs) (w2 : CW n2 E2 ad2 D A H0 τ H locs) (hdis : ∀ i, i < n → ∀ j, j < n2 → ad i ≠ ad2 j) {tgt : Int32 × St} (hr : va_Run p l e R s m args below meth c H locs cells slots 0 0 (F0 m pc ls st0) rest (QWi n E ad D tgt (CA n ad H.size) a) (CA n ad H.size))
    (kk : ∀ (H1 : Heap) (locs1 : List Loc), CW n E ad D A H0 tgt.2 H1 locs1 → CW n2 E2 ad2 D A H0 τ H1 locs1 → W p l e R s m args below meth c H1 locs1 cells slots Q (F0 m (pc + 3) ls (.int tgt.1 :: rest))) : W p l e R s m args below meth c H locs cells slots Q (F0 m pc ls st0) := by
  refine va_calli hr w.2.2.1 (fun q _ h => w.free q h) w.free (fun r u t H1 locs1 ht hvm hw hB hz hk1 hS => ?_)
  subst hw
  rw [ht] at hB
  exact kk H1 locs1 ⟨hB, Wd_addr w.2.1 (fun k hk => w.2.1.2 k _ (Wd_get hk)), hS, w.2.2.2⟩ (w2.beside hdis hk1 hS)
theorem callWl2 (w : CW n E ad D A H0 σ H locs) (w2 : CW n2 E2 ad2 D A H0 τ H locs) (hdis : ∀ i, i < n → ∀ j, j < n2 → ad i ≠ ad2 j) {tgt : Int64 × St} (hr : va_Run p l e R s m args below meth c H locs cells slots 0 0 (F0 m pc ls st0) rest (QWl n E ad D tgt (CA n ad H.size) a) (CA n ad H.size))
    (kk : ∀ (H1 : Heap) (locs1 : List Loc), CW n E ad D A H0 tgt.2 H1 locs1 → CW n2 E2 ad2 D A H0 τ H1 locs1 → W p l e R s m args below meth c H1 locs1 cells slots Q (F0 m (pc + 3) ls (.long tgt.1 :: rest))) : W p l e R s m args below meth c H locs cells slots Q (F0 m pc ls st0) := by
  refine va_calll hr w.2.2.1 (fun q _ h => w.free q h) w.free (fun r u t H1 locs1 ht hvm hw hB hz hk1 hS => ?_)
  subst hw
  rw [ht] at hB
  exact kk H1 locs1 ⟨hB, Wd_addr w.2.1 (fun k hk => w.2.1.2 k _ (Wd_get hk)), hS, w.2.2.2⟩ (w2.beside hdis hk1 hS)
theorem callWv2 (w : CW n E ad D A H0 σ H locs) (w2 : CW n2 E2 ad2 D A H0 τ H locs) (hdis : ∀ i, i < n → ∀ j, j < n2 → ad i ≠ ad2 j) {tgt : St} (hr : va_Run p l e R s m args below meth c H locs cells slots 0 0 (F0 m pc ls st0) rest (QWv n E ad D tgt (CA n ad H.size) a) (CA n ad H.size))
    (kk : ∀ (H1 : Heap) (locs1 : List Loc), CW n E ad D A H0 tgt H1 locs1 → CW n2 E2 ad2 D A H0 τ H1 locs1 → W p l e R s m args below meth c H1 locs1 cells slots Q (F0 m (pc + 3) ls rest)) : W p l e R s m args below meth c H locs cells slots Q (F0 m pc ls st0) := by
  refine va_callv hr w.2.2.1 (fun q _ h => w.free q h) w.free (fun u t H1 locs1 ht hvm hw hB hz hk1 hS => ?_)
  subst hw
  rw [ht] at hB
  exact kk H1 locs1 ⟨hB, Wd_addr w.2.1 (fun k hk => w.2.1.2 k _ (Wd_get hk)), hS, w.2.2.2⟩ (w2.beside hdis hk1 hS)
/-- fewer cells -/
theorem CW.take {k : Nat} (w : CW n E ad D A H0 σ H locs) (hk : k ≤ n) : CW k E ad D A H0 σ H locs := by
  refine ⟨fun c q hc => ?_, ⟨fun i j p q hi hj h => ?_, fun c q hc => ?_⟩, w.2.2⟩
  · obtain ⟨hcn, rfl⟩ := Wd_get_inv hc
    exact w.1 c _ (Wd_get (Nat.lt_of_lt_of_le hcn hk))
  · obtain ⟨li, rfl⟩ := Wd_get_inv hi
    obtain ⟨lj, rfl⟩ := Wd_get_inv hj
    exact w.2.1.1 i j _ _ (Wd_get (Nat.lt_of_lt_of_le li hk)) (Wd_get (Nat.lt_of_lt_of_le lj hk)) h
  · obtain ⟨lc, rfl⟩ := Wd_get_inv hc
    exact w.2.1.2 c (ad c, E c (σ c)) (Wd_get (Nat.lt_of_lt_of_le lc hk))
theorem join2 (w : CW n E ad D A H0 σ H locs) (w2 : CW n2 E2 ad2 D A H0 τ H locs) (hdis : ∀ i, i < n → ∀ j, j < n2 → ad i ≠ ad2 j) : CG (n + n2) (fun i => if i < n then ad i else ad2 (i - n)) (fun i => if i < n then E i (σ i) else E2 (i - n) (τ (i - n))) D A H0 H locs := by
  refine ⟨fun c q hc => ?_, ⟨fun i j p q hi hj h => ?_, fun c q hc => ?_⟩, w.2.2⟩
  · obtain ⟨hcn, rfl⟩ := Wg_inv hc
    by_cases h : c < n
    · simp only [if_pos h]
      exact w.1 c _ (Wd_get h)
    · simp only [if_neg h]
      exact w2.1 (c - n) _ (Wd_get (by omega))
  · obtain ⟨li, rfl⟩ := Wg_inv hi
    obtain ⟨lj, rfl⟩ := Wg_inv hj
    have h3 : (if i < n then ad i else ad2 (i - n)) = (if j < n then ad j else ad2 (j - n)) := h
    by_cases h1 : i < n
    · by_cases h2 : j < n
      · rw [if_pos h1, if_pos h2] at h3
        exact w.2.1.1 i j _ _ (Wd_get h1) (Wd_get h2) h3
      · rw [if_pos h1, if_neg h2] at h3
        exact absurd h3 (hdis i h1 _ (by omega))
    · by_cases h2 : j < n
      · rw [if_neg h1, if_pos h2] at h3
        exact absurd h3.symm (hdis j h2 _ (by omega))
      · rw [if_neg h1, if_neg h2] at h3
        have h4 := w2.2.1.1 (i - n) (j - n) _ _ (Wd_get (by omega)) (Wd_get (by omega)) h3
        omega
  · obtain ⟨lc, rfl⟩ := Wg_inv hc
    show A (if c < n then ad c else ad2 (c - n))
    by_cases h : c < n
    · rw [if_pos h]
      exact w.2.1.2 c (ad c, E c (σ c)) (Wd_get h)
    · rw [if_neg h]
      exact w2.2.1.2 (c - n) (ad2 (c - n), E2 (c - n) (τ (c - n))) (Wd_get (by omega))
theorem split2 {aX : Nat → Nat} {gX : Nat → va_E} (w : CG (n + n2) aX gX D A H0 H locs) (h1 : ∀ i, i < n → aX i = ad i ∧ gX i = E i (σ i)) (h2 : ∀ j, j < n2 → aX (n + j) = ad2 j ∧ gX (n + j) = E2 j (τ j)) : CW n E ad D A H0 σ H locs ∧ CW n2 E2 ad2 D A H0 τ H locs ∧ ∀ i, i < n → ∀ j, j < n2 → ad i ≠ ad2 j := by
  refine ⟨⟨fun c q hc => ?_, ⟨fun i j p q hi hj h => ?_, fun c q hc => ?_⟩, w.2.2⟩, ⟨fun c q hc => ?_, ⟨fun i j p q hi hj h => ?_, fun c q hc => ?_⟩, w.2.2⟩, fun i hi j hj h => ?_⟩
  · obtain ⟨hcn, rfl⟩ := Wd_get_inv hc
    have h := w.1 c _ (Wg_get (show c < n + n2 by omega))
    rw [(h1 c hcn).1, (h1 c hcn).2] at h
    exact h
  · obtain ⟨li, rfl⟩ := Wd_get_inv hi
    obtain ⟨lj, rfl⟩ := Wd_get_inv hj
    exact w.2.1.1 i j (aX i, gX i) (aX j, gX j) (Wg_get (by omega)) (Wg_get (by omega)) (by show aX i = aX j; rw [(h1 i li).1, (h1 j lj).1]; exact h)
  · obtain ⟨lc, rfl⟩ := Wd_get_inv hc
    have h := w.2.1.2 c (aX c, gX c) (Wg_get (show c < n + n2 by omega))
    show A (ad c)
    rw [← (h1 c lc).1]
    exact h
  · obtain ⟨hcn, rfl⟩ := Wd_get_inv hc
    have h := w.1 (n + c) _ (Wg_get (show n + c < n + n2 by omega))
    rw [(h2 c hcn).1, (h2 c hcn).2] at h
    exact h
  · obtain ⟨li, rfl⟩ := Wd_get_inv hi
    obtain ⟨lj, rfl⟩ := Wd_get_inv hj
    have h4 := w.2.1.1 (n + i) (n + j) (aX (n + i), gX (n + i)) (aX (n + j), gX (n + j)) (Wg_get (by omega)) (Wg_get (by omega)) (by show aX (n + i) = aX (n + j); rw [(h2 i li).1, (h2 j lj).1]; exact h)
    omega
  · obtain ⟨lc, rfl⟩ := Wd_get_inv hc
    have h := w.2.1.2 (n + c) (aX (n + c), gX (n + c)) (Wg_get (show n + c < n + n2 by omega))
    show A (ad2 c)
    rw [← (h2 c lc).1]
    exact h
  · have h4 := w.2.1.1 i (n + j) (aX i, gX i) (aX (n + j), gX (n + j)) (Wg_get (by omega)) (Wg_get (by omega)) (by show aX i = aX (n + j); rw [(h1 i hi).1, (h2 j hj).1]; exact h)
    omega
variable {cc : ByteArray} {nL : Nat} {Ts : List Cond} {own : String} {tys : List (ClassId × FieldType)}
/-- a place of one of the law's rows -/
theorem iast2 (S : CallFix p m c cc nL s args Ts own) (hK : va_K D vwCl tys s) (w : CW n E ad D A H0 σ H locs) (w2 : CW n2 E2 ad2 D A H0 τ H locs) (hdis : ∀ i, i < n → ∀ j, j < n2 → ad i ≠ ad2 j) {k : Nat} (hk : k < n2) {cA : ClassId} {N : Nat} (he : ∀ f, E2 k f = .inl (cA, N, .inl f)) (ht : tys[0]? = some (cA, .int)) {i x : Int32} (hi : vp_in i N) (hdg : decode cc pc = .ok (.iastore, 1))
    (kk : ∀ (H1 : Heap) (locs1 : List Loc), CW n E ad D A H0 σ H1 locs1 → CW n2 E2 ad2 D A H0 (u2 τ k (ix i) x) H1 locs1 → W p l e R s m args below meth c H1 locs1 cells slots Q (F0 m (pc + 1) ls rest)) : W p l e R s m args below meth c H locs cells slots Q (F0 m pc ls (.int x :: .int i :: .ref (ad2 k) :: rest)) := by
  have wj := join2 w w2 hdis
  have e1 : (fun i => if i < n then ad i else ad2 (i - n)) (n + k) = ad2 k := by
    show (if n + k < n then ad (n + k) else ad2 (n + k - n)) = ad2 k
    rw [if_neg (by omega), Nat.add_sub_cancel_left]
  rw [← e1]
  refine g_iast S hK wj (k := n + k) (by omega) (cI := cA) (N := N) (t := 0) (f := τ k) (by
    show (if n + k < n then E (n + k) (σ (n + k)) else E2 (n + k - n) (τ (n + k - n))) = zInts cA N (τ k)
    rw [if_neg (by omega), Nat.add_sub_cancel_left, he]) ht hi hdg (fun H1 locs1 w' => ?_)
  obtain ⟨a1, a2, -⟩ := split2 (E := E) (ad := ad) (σ := σ) (E2 := E2) (ad2 := ad2) (τ := u2 τ k (ix i) x) w' (fun i hi => ⟨if_pos hi, (va_up_ne _ _ (by omega)).trans (if_pos hi)⟩) (fun j hj => ⟨by
      show (if n + j < n then ad (n + j) else ad2 (n + j - n)) = ad2 j
      rw [if_neg (by omega), Nat.add_sub_cancel_left], by
      by_cases h : j = k
      · subst h
        rw [va_up_self, u2, u1_same, he]
      · rw [va_up_ne _ _ (by omega), u2_nc h]
        show (if n + j < n then E (n + j) (σ (n + j)) else E2 (n + j - n) (τ (n + j - n))) = E2 j (τ j)
        rw [if_neg (by omega), Nat.add_sub_cancel_left]⟩)
  exact kk H1 locs1 a1 a2
/-- a new row of the law -/
theorem newa2 (S : CallFix p m c cc nL s args Ts own) (hK : va_K D vwCl tys s) (w : CW n E ad D A H0 σ H locs) (w2 : CW n2 (eL ad2) ad2 D A H0 τ H locs) (hdis : ∀ i, i < n → ∀ j, j < n2 → ad i ≠ ad2 j) (hn2 : n2 < 100) {t : Nat} (ht : tys[t]? = some (ad2 100, .int)) (harr : (Cond.arrayClass (newarray.typeOf .int)) ∈ Ts) {x : Int32} {N : Nat} (hn : ¬ x < 0) (hN : x.toNatClampNeg = N) (hln : lenL n2 = N) (hby : N * 4 ≤ 536870912) (hc : cells + 1 ≤ R.cells) (hs : slots + N ≤ R.slots) (hdg : decode cc pc = .ok (.newarray .int, 2))
    (kk : ∀ (ad' : Nat → Nat) (H1 : Heap), (∀ i, i ≠ n2 → ad' i = ad2 i) → CW n E ad D A H0 σ H1 locs → CW (n2 + 1) (eL ad') ad' D A H0 (u1 τ n2 (fun _ => 0)) H1 locs → (∀ i, i < n → ∀ j, j < n2 + 1 → ad i ≠ ad' j) → W p l e R s m args below meth c H1 locs (cells + 1) (slots + N) Q (F0 m (pc + 2) ls (.ref (ad' n2) :: rest))) : W p l e R s m args below meth c H locs cells slots Q (F0 m pc ls (.int x :: rest)) := by
  refine g_newaI S hK (join2 w w2 hdis) ht harr hn hN hby hc hs hdg (fun q H1 w' => ?_)
  have hq : va_up ad2 n2 q n2 = q := va_up_self _ _ _
  have ho : ∀ i, i ≠ n2 → va_up ad2 n2 q i = ad2 i := fun i hi => va_up_ne _ _ hi
  obtain ⟨a1, a2, a3⟩ := split2 (n := n) (n2 := n2 + 1) (E := E) (ad := ad) (σ := σ) (E2 := eL (va_up ad2 n2 q)) (ad2 := va_up ad2 n2 q) (τ := u1 τ n2 (fun _ => 0)) w' (fun i hi => ⟨(va_up_ne _ _ (by omega)).trans (if_pos hi), (va_up_ne _ _ (by omega)).trans (if_pos hi)⟩) (fun j hj => by
      by_cases h : j = n2
      · subst h
        rw [va_up_self, hq, va_up_self, u1_same]
        refine ⟨rfl, ?_⟩
        show zInts (ad2 100) N (fun _ => 0) = .inl (va_up ad2 j q 100, lenL j, .inl (fun _ => 0))
        rw [ho 100 (by omega), hln]
      · rw [va_up_ne _ _ (show n + j ≠ n + n2 by omega), va_up_ne _ _ (show n + j ≠ n + n2 by omega), ho j h, u1_ne _ h]
        refine ⟨?_, ?_⟩
        · show (if n + j < n then ad (n + j) else ad2 (n + j - n)) = ad2 j
          rw [if_neg (by omega), Nat.add_sub_cancel_left]
        · show (if n + j < n then E (n + j) (σ (n + j)) else eL ad2 (n + j - n) (τ (n + j - n))) = eL (va_up ad2 n2 q) j (τ j)
          rw [if_neg (by omega), Nat.add_sub_cancel_left]
          show (Sum.inl (ad2 100, lenL j, .inl (τ j)) : va_E) = Sum.inl (va_up ad2 n2 q 100, lenL j, .inl (τ j))
          rw [ho 100 (by omega)])
  rw [← hq]
  exact kk (va_up ad2 n2 q) H1 ho a1 a2 a3
end LAW2
end
section
/-! the law's cell: a place of the script, or a number of its own behind its end -/
def cellF (L : Nat) (xs : Nat → Int32) (k : Int32) : Int32 := if k < Int32.ofNat L then xs (ix k) else 15485863 * k + 977
theorem hd_L_cell : yL_cell.cls ≠ "java/lang/invoke/MethodHandle" ∧ yL_cell.cls ≠ "java/lang/invoke/VarHandle" ∧ (parseMethodDescriptor yL_cell.desc).map (fun d => d.parameters.length) = some 2 := by decide +kernel
def PreX (b L : Nat) (xs : Nat → Int32) (av : List Value) : Array Value → State → Prop := va_Pc av (fun U => va_X b L xs U U.heap ∧ b < U.heap.size)
theorem PreX.blind {b L : Nat} {xs : Nat → Int32} {av : List Value} : FrameBlind (PreX b L xs av) := by
  intro a U g mk q
  obtain ⟨q0, q1, q2⟩ := q
  exact ⟨q0, va_X.moved (u := U) (U := U.calling g mk a) (Vm.Alike.refl U.vm) q1, q2⟩
theorem preX {s : State} {b L : Nat} {xs : Nat → Int32} {A : Nat → Prop} {H : Heap} {locs : List Loc} {As : List Value} (hX : va_X b L xs s s.heap) (hbl : b < s.heap.size) (hbA : ¬ A b) (hS : va_S A s.heap H locs) : PreS s H (PreX b L xs As) As :=
  ⟨PreX.blind, fun U hU hW => ⟨rfl, by rw [hU]; exact va_X.moved hW.alike (va_X.kept hX (hS.2.1 b hbl hbA)), by rw [hU]; exact Nat.lt_of_lt_of_le hbl hS.1⟩⟩
theorem headX {l : Launch} {y : MethodName} {ws ws' : List Cond} {rm : Room} {Qc : Array Value → State → Outcome → State → Prop} {free : Addr → Prop} {cc : ByteArray} {maxL : Nat} {ret : Option FieldType} {b L : Nat} {xs : Nat → Int32} (av : List Value)
    (hy : plainName y.cls = true) (hw : ws = Cond.code y cc maxL ret :: ws') (hent : (lg_sl av).length ≤ maxL)
    (body : ∀ (p : Program) (e : Env) (s : State) (m : MethodId) (below : List Frame) (meth : Method) (c : Code), CallFix p m c cc maxL s av.toArray ws y.cls → meth.sig.returnType = ret → meth.locks = false → va_X b L xs s s.heap → b < s.heap.size →
      ∀ ls : Array Slot, lv_has ls maxL (lv_args 0 av) → W p l e (headSpec ws rm).room s m av.toArray below meth c s.heap [] 0 0 (MQ below Qc av.toArray s 0 0 free) (F0 m 0 ls [])) : Met l y ws rm (PreX b L xs av) Qc 0 0 free := by
  refine Met.ofW (cc := cc) (maxL := maxL) (ret := ret) hy hw ?_
  intro p e s m args below meth c s₁ B hml hv
  obtain ⟨rfl, hX, hbl⟩ := hv
  have hts := atoms_spec (ws := ws) B.pre
  have hown : s.vm.findClass y.cls = some m.cls := findClass_of_methodNamed B.named
  have hl := lv_entry av (n := maxL) hent
  rw [lg_entry_eq]
  exact body p e s m below meth c ⟨B.exec, B.bytes, hml, hown, hts⟩ B.returns B.notSynchronized hX hbl _ hl
set_option maxHeartbeats 4000000 in
set_option maxRecDepth 100000 in
theorem c_L_cell (l : Launch) (b L : Nat) (xs : Nat → Int32) (k : Int32) (h0 : 0 ≤ k.toInt) (hL : L < 2 ^ 31) : Met l yL_cell wsL_cell ({ frames := 0, cells := 0, slots := 0, locals := 0 }) (PreX b L xs ([.ref b, .int k] : List Value)) (Q0i (cellF L xs k)) 0 0 N0 := by
  generalize hG : cellF L xs k = T
  refine headX (cc := cL_cell) (maxL := 2) (ret := (some .int)) ([.ref b, .int k] : List Value) (by decide) rfl (Nat.le_of_ble_eq_true rfl) ?_
  intro p e s m below meth c S hr hlocks hX hbl ls hl
  have S : CallFix p m c cL_cell 2 s ([.ref b, .int k] : List Value).toArray wsL_cell RL := S
  have hx := S.1
  have hb := S.2.1
  have hl : lv_has ls 2 [(0, .ref b), (1, .int k)] := hl
  rw [cellF] at hG
  refine lv_iload_n hx hb dL_cell_0 rfl (lv_at hl 1 rfl) ?_
  refine lv_aload_n hx hb dL_cell_1 rfl (lv_at hl 0 rfl) ?_
  refine va_slen (A := N0) (H0 := s.heap) hx hb hX hbl (fun q => q) va_S.rf dL_cell_2 ?_
  refine lv_icmp_ge (tgt := 12) hx hb dL_cell_3 (by decide) (fun c3 => ?_) (fun c3 => ?_)
  · rw [if_neg (qm_nlt (qt_le c3))] at hG
    refine lv_ldc hx hb S.2.2.2.1 (S.2.2.2.2 _ (List.mem_of_getElem? (i := 1) rfl)) dL_cell_12 ?_
    refine lv_iload_n hx hb dL_cell_14 rfl (lv_at hl 1 rfl) ?_
    refine lv_imul hx hb dL_cell_15 ?_
    refine lv_sipush (v := 977) hx hb dL_cell_16 (by decide) ?_
    refine lv_iadd hx hb dL_cell_19 ?_
    exact end0i S hr hlocks hG dL_cell_20
  · have t3 := qt_nle c3
    rw [if_pos (qm_lt t3)] at hG
    have e3 : (Int32.ofNat L).toInt = (L : Int) := nI_toInt hL
    refine lv_aload_n hx hb dL_cell_6 rfl (lv_at hl 0 rfl) ?_
    refine lv_iload_n hx hb dL_cell_7 rfl (lv_at hl 1 rfl) ?_
    refine va_sld (A := N0) (H0 := s.heap) hx hb hX hbl (fun q => q) va_S.rf (vpi h0 (by omega)) dL_cell_8 ?_
    refine lv_goto (tgt := 20) hx hb dL_cell_9 (by decide) ?_
    exact end0i S hr hlocks hG dL_cell_20
end
section
/-! the class's contents and the law's rows -/
def sm (g : Nat → Int32) : Nat → Int32
  | 0 => 0
  | n + 1 => sm g n + g n
theorem sm_congr {g h : Nat → Int32} : ∀ n : Nat, (∀ k, k < n → g k = h k) → sm g n = sm h n := by
  intro n
  induction n with
  | zero => intro _; rfl
  | succ n ih =>
    intro q
    show sm g n + g n = sm h n + h n
    rw [ih (fun k hk => q k (by omega)), q n (by omega)]
theorem sm_mul {g : Nat → Int32} (a : Int32) : ∀ n : Nat, sm (fun k => a * g k) n = a * sm g n := by
  intro n
  induction n with
  | zero => show (0 : Int32) = a * 0; rw [Int32.mul_zero]
  | succ n ih =>
    show sm (fun k => a * g k) n + a * g n = a * (sm g n + g n)
    rw [ih, Int32.mul_add]
theorem sm_bd {g : Nat → Int32} : ∀ n : Nat, n ≤ 100 → (∀ k, k < n → 0 ≤ (g k).toInt ∧ (g k).toInt ≤ 1000) → 0 ≤ (sm g n).toInt ∧ (sm g n).toInt ≤ 1000 * n := by
  intro n
  induction n with
  | zero =>
    intro _ _
    show 0 ≤ (0 : Int32).toInt ∧ (0 : Int32).toInt ≤ 1000 * ((0 : Nat) : Int)
    exact ⟨by decide, by decide⟩
  | succ n ih =>
    intro hn q
    have h1 := ih (by omega) (fun k hk => q k (by omega))
    have h2 := q n (by omega)
    show 0 ≤ (sm g n + g n).toInt ∧ (sm g n + g n).toInt ≤ 1000 * ((n + 1 : Nat) : Int)
    rw [a_toInt (by omega) (by omega)]
    omega
theorem n1 {k : Nat} : nI k + 1 = nI (k + 1) := by
  show Int32.ofNat k + Int32.ofNat 1 = Int32.ofNat (k + 1)
  rw [Int32.ofNat_add]
theorem ix_nI {n : Nat} (h : n < 2 ^ 31) : ix (nI n) = n := nI_clamp h
theorem nI_gE {k n : Nat} (hk : k < 2 ^ 31) (hn : n < 2 ^ 31) : nI n ≤ nI k ↔ n ≤ k := by
  have h1 := nI_toInt hk
  have h2 := nI_toInt hn
  constructor
  · intro h
    have := qt_le h
    omega
  · intro h
    exact qm_le (by omega)
def Rl (σ τ : St) : Prop :=
  OkC σ ∧ 2 ≤ (σ 0 4).toInt ∧ τ 0 0 = σ 0 4 ∧ τ 0 2 = σ 0 7 ∧ (0 ≤ (σ 0 7).toInt ∧ (σ 0 7).toInt ≤ 999) ∧ (∀ j, j < 9 → τ 0 (3 + j) = σ 4 j) ∧
  (∀ x : Int32, 0 ≤ x.toInt → x.toInt < (σ 0 4).toInt → f_L_get τ x 0 = σ (17 + ix x) 0 ∧ (0 ≤ (σ (17 + ix x) 0).toInt ∧ (σ (17 + ix x) 0).toInt ≤ 2) ∧ ∀ k : Int32, 0 ≤ k.toInt → k.toInt < 9 → f_L_get τ x (1 + k) = σ (25 + ix x) (ix k) ∧ 0 ≤ (σ (25 + ix x) (ix k)).toInt ∧ (σ (25 + ix x) (ix k)).toInt ≤ 9) ∧
  (∀ x : Nat, (x : Int) < (σ 0 4).toInt → σ (17 + x) 1 = sm (σ (25 + x)) 9) ∧
  (σ 10 0 = 1 ∧ σ 10 1 = 1 ∧ σ 10 2 = 24)
section RL1
variable {σ τ : St}
theorem Rl.ok (h : Rl σ τ) : OkC σ := h.1
theorem Rl.n (h : Rl σ τ) : 2 ≤ (σ 0 4).toInt ∧ (σ 0 4).toInt ≤ 8 := ⟨h.2.1, h.1.1.2⟩
theorem Rl.tn (h : Rl σ τ) : τ 0 (ix 0) = σ 0 4 := h.2.2.1
theorem Rl.tb (h : Rl σ τ) : τ 0 (ix 2) = σ 0 7 := h.2.2.2.1
theorem Rl.b (h : Rl σ τ) : 0 ≤ (σ 0 7).toInt ∧ (σ 0 7).toInt ≤ 999 := h.2.2.2.2.1
theorem Rl.th (h : Rl σ τ) {k : Int32} (h0 : 0 ≤ k.toInt) (h1 : k.toInt < 9) : τ 0 (ix (3 + k)) = σ 4 (ix k) := by
  have e := ix_toInt h0
  have z3 : (3 : Int32).toInt = 3 := by decide
  have e1 := a_toInt (a := 3) (b := k) (by omega) (by omega)
  have e2 := ix_toInt (x := 3 + k) (by omega)
  rw [show ix (3 + k) = 3 + ix k by omega]
  exact h.2.2.2.2.2.1 (ix k) (by omega)
theorem Rl.hf (h : Rl σ τ) {k : Int32} (h0 : 0 ≤ k.toInt) (h1 : k.toInt < 9) : 1 ≤ (σ 4 (ix k)).toInt ∧ (σ 4 (ix k)).toInt ≤ 9 := by
  have e := ix_toInt h0
  have hn := h.n
  exact h.1.2.2.1 (ix k) (by omega) (by omega)
theorem Rl.kd (h : Rl σ τ) {x : Int32} (h0 : 0 ≤ x.toInt) (h1 : x.toInt < (σ 0 4).toInt) : f_L_get τ x 0 = σ (17 + ix x) 0 ∧ 0 ≤ (σ (17 + ix x) 0).toInt ∧ (σ (17 + ix x) 0).toInt ≤ 2 :=
  ⟨(h.2.2.2.2.2.2.1 x h0 h1).1, (h.2.2.2.2.2.2.1 x h0 h1).2.1⟩
theorem Rl.st (h : Rl σ τ) {x k : Int32} (h0 : 0 ≤ x.toInt) (h1 : x.toInt < (σ 0 4).toInt) (k0 : 0 ≤ k.toInt) (k1 : k.toInt < 9) : f_L_get τ x (1 + k) = σ (25 + ix x) (ix k) ∧ 0 ≤ (σ (25 + ix x) (ix k)).toInt ∧ (σ (25 + ix x) (ix k)).toInt ≤ 9 :=
  (h.2.2.2.2.2.2.1 x h0 h1).2.2 k k0 k1
theorem Rl.tot (h : Rl σ τ) {x : Nat} (h1 : (x : Int) < (σ 0 4).toInt) : σ (17 + x) 1 = sm (σ (25 + x)) 9 := h.2.2.2.2.2.2.2.1 x h1
theorem Rl.sh (h : Rl σ τ) : σ 10 0 = 1 ∧ σ 10 1 = 1 ∧ σ 10 2 = 24 := h.2.2.2.2.2.2.2.2
/-- of the law's rows the first three alone count -/
theorem Rl.tau {τ' : St} (h : Rl σ τ) (h0 : τ' 0 = τ 0) (h1 : τ' 1 = τ 1) (h2 : τ' 2 = τ 2) : Rl σ τ' := by
  have eg : ∀ x k : Int32, f_L_get τ' x k = f_L_get τ x k := fun x k => by unfold f_L_get; rw [h1, h2]
  refine ⟨h.1, h.2.1, by rw [h0]; exact h.2.2.1, by rw [h0]; exact h.2.2.2.1, h.b, fun j hj => by rw [h0]; exact h.2.2.2.2.2.1 j hj, fun x x0 x1 => ?_, h.2.2.2.2.2.2.2.1, h.sh⟩
  rw [eg]
  refine ⟨(h.kd x0 x1).1, (h.kd x0 x1).2, fun k k0 k1 => ?_⟩
  rw [eg]
  exact h.st x0 x1 k0 k1
/-- what a call may change -/
def Fx (bad : Nat → Prop) (σ σ' : St) : Prop := (∀ k, k ≠ 9 → σ' 0 k = σ 0 k) ∧ ∀ c, c ≠ 0 → ¬ bad c → σ' c = σ c
theorem Fx.id_ {bad : Nat → Prop} {σ : St} : Fx bad σ σ := ⟨fun _ _ => Eq.refl _, fun _ _ _ => Eq.refl _⟩
theorem Fx.tr {b : Nat → Prop} {σ σ' σ'' : St} (h : Fx b σ σ') (h2 : Fx b σ' σ'') : Fx b σ σ'' := ⟨fun k hk => (h2.1 k hk).trans (h.1 k hk), fun c c0 cb => (h2.2 c c0 cb).trans (h.2 c c0 cb)⟩
theorem Fx.mo {b b' : Nat → Prop} {σ σ' : St} (h : Fx b σ σ') (hb : ∀ c, b c → b' c) : Fx b' σ σ' := ⟨h.1, fun c c0 cb => h.2 c c0 (fun q => cb (hb c q))⟩
theorem Fx.flt {b : Nat → Prop} {σ : St} (v : Int32) : Fx b σ (u2 σ 0 9 v) := ⟨fun k hk => u2_nk hk, fun c c0 _ => u2_nc c0⟩
theorem Fx.put {b : Nat → Prop} {σ : St} {c k : Nat} {v : Int32} (hb : b c) (hc : c ≠ 0) : Fx b σ (u2 σ c k v) := ⟨fun k _ => by rw [u2_nc (fun q => hc q.symm)], fun c' _ cb => u2_nc (fun q => cb (by rw [q]; exact hb))⟩
def bd (c : Nat) : Prop := c = 6 ∨ c = 7 ∨ c = 8 ∨ c = 14
theorem Fx.okc {σ' : St} (h : Fx bd σ σ') (ok : OkC σ) : OkC σ' := by
  have nb : ∀ c, ¬ (c = 6 ∨ c = 7 ∨ c = 8 ∨ c = 14) → ¬ bd c := fun c q => q
  refine okC_cell ok ⟨h.1 4 (by omega), h.1 5 (by omega), h.1 6 (by omega)⟩ (h.2 4 (by omega) (nb _ (by omega))) (fun q hq => ?_) (fun p hp => ?_)
  · rw [h.2 (9 + q) (by omega) (nb _ (by omega))]
  · rw [h.2 (33 + p) (by omega) (nb _ (by omega))]
    exact ⟨rfl, rfl⟩
theorem Fx.rl {σ' : St} (h : Fx bd σ σ') (hR : Rl σ τ) : Rl σ' τ := by
  have nb : ∀ c, ¬ (c = 6 ∨ c = 7 ∨ c = 8 ∨ c = 14) → ¬ bd c := fun c q => q
  have e4 : σ' 0 4 = σ 0 4 := h.1 4 (by omega)
  have e7 : σ' 0 7 = σ 0 7 := h.1 7 (by omega)
  have hn := hR.n
  have eh : σ' 4 = σ 4 := h.2 4 (by omega) (nb _ (by omega))
  have es : σ' 10 = σ 10 := h.2 10 (by omega) (nb _ (by omega))
  refine ⟨h.okc hR.1, by rw [e4]; exact hR.2.1, by rw [e4]; exact hR.2.2.1, by rw [e7]; exact hR.2.2.2.1, by rw [e7]; exact hR.b, fun j hj => by rw [eh]; exact hR.2.2.2.2.2.1 j hj, fun x x0 x1 => ?_, fun x hx => ?_, by rw [es]; exact hR.sh⟩
  · rw [e4] at x1
    have ex := ix_toInt x0
    have e5 : σ' (17 + ix x) = σ (17 + ix x) := h.2 _ (by omega) (nb _ (by omega))
    have e6 : σ' (25 + ix x) = σ (25 + ix x) := h.2 _ (by omega) (nb _ (by omega))
    rw [e5, e6]
    exact hR.2.2.2.2.2.2.1 x x0 x1
  · rw [e4] at hx
    have e5 : σ' (17 + x) = σ (17 + x) := h.2 _ (by omega) (nb _ (by omega))
    have e6 : σ' (25 + x) = σ (25 + x) := h.2 _ (by omega) (nb _ (by omega))
    rw [e5, e6]
    exact hR.tot hx
/-! half, bound -/
theorem isSmell_p {k : Int32} (h0 : 0 ≤ k.toInt) (h1 : k.toInt < 9) : ¬ f_X3_isSmell k = 0 := by
  have z0 : (0 : Int32).toInt = 0 := by decide
  have z9 : (9 : Int32).toInt = 9 := by decide
  unfold f_X3_isSmell
  rw [if_neg (qm_nlt (by omega)), if_neg (qm_nle (by omega))]
  decide
theorem isSign_p {x : Int32} (h0 : 0 ≤ x.toInt) (h1 : x.toInt < (σ 0 4).toInt) : ¬ f_X3_isSign σ x = 0 := by
  have z0 : (0 : Int32).toInt = 0 := by decide
  unfold f_X3_isSign
  rw [if_neg (qm_nlt (by omega)), if_neg (qm_nle (by omega))]
  decide
theorem isSign_n {x : Int32} (h1 : ¬ (0 ≤ x.toInt ∧ x.toInt < (σ 0 4).toInt)) : f_X3_isSign σ x = 0 := by
  have z0 : (0 : Int32).toInt = 0 := by decide
  unfold f_X3_isSign
  by_cases h : x < 0
  · rw [if_pos h]
  · have h2 := qt_nlt h
    rw [if_neg h, if_pos (qm_le (by omega))]
theorem Rl.nz (h : Rl σ τ) : ¬ σ 0 4 = 0 := fun q => by
  have h2 := h.2.1
  rw [q] at h2
  exact absurd h2 (by decide)
theorem q_half (h : Rl σ τ) {k v : Int32} (h0 : 0 ≤ k.toInt) (h1 : k.toInt < 9) (v0 : 1 ≤ v.toInt) (v1 : v.toInt ≤ 9) : f_X3_half σ k v = (σ 4 (ix k), u2 σ 4 (ix k) v) := by
  have z1 : (1 : Int32).toInt = 1 := by decide
  have z9 : (9 : Int32).toInt = 9 := by decide
  unfold f_X3_half
  rw [if_neg (isSmell_p h0 h1), if_neg (qm_nlt (by omega)), if_pos (qm_le (by omega)), if_neg h.nz]
theorem Rl_half (h : Rl σ τ) {k v : Int32} (h0 : 0 ≤ k.toInt) (h1 : k.toInt < 9) (v0 : 1 ≤ v.toInt) (v1 : v.toInt ≤ 9) : Rl (u2 σ 4 (ix k) v) (u2 τ 0 (ix (3 + k)) v) := by
  have e := ix_toInt h0
  have hn := h.n
  have z3 : (3 : Int32).toInt = 3 := by decide
  have e1 := a_toInt (a := 3) (b := k) (by omega) (by omega)
  have e2 := ix_toInt (x := 3 + k) (by omega)
  have e3 : ix (3 + k) = 3 + ix k := by omega
  rw [e3]
  have c0 : ∀ j, u2 σ 4 (ix k) v 0 j = σ 0 j := fun j => u2_o (by omega) j
  have cc : ∀ c, c ≠ 4 → u2 σ 4 (ix k) v c = σ c := fun c hc => u2_nc hc
  have ok : OkC (u2 σ 4 (ix k) v) := by
    obtain ⟨a, b, c, d, e', f⟩ := h.1
    refine ⟨by rw [c0]; exact a, by rw [c0]; exact b, fun j hj hz => ?_, fun q hq => by rw [cc _ (by omega)]; exact d q hq, fun p hp => by rw [cc _ (by omega)]; exact e' p hp, by rw [c0]; exact f⟩
    by_cases hk : j = ix k
    · rw [hk, u2_self]; exact ⟨v0, v1⟩
    · rw [u2_nk hk]; exact c j hj (by rw [c0] at hz; exact hz)
  have eg : ∀ x q : Int32, f_L_get (u2 τ 0 (3 + ix k) v) x q = f_L_get τ x q := fun x q => by unfold f_L_get; rw [u2_nc (by omega), u2_nc (by omega)]
  refine ⟨ok, by rw [c0]; exact h.2.1, by rw [c0, u2_nk (by omega)]; exact h.2.2.1, by rw [c0, u2_nk (by omega)]; exact h.2.2.2.1, by rw [c0]; exact h.b, fun j hj => ?_, fun x x0 x1 => ?_, fun x hx => ?_, by rw [cc _ (by omega)]; exact h.sh⟩
  · by_cases hk : j = ix k
    · rw [hk, u2_self, u2_self]
    · rw [u2_nk (by omega), u2_nk hk]; exact h.2.2.2.2.2.1 j hj
  · rw [c0] at x1
    rw [eg, cc _ (by omega), cc _ (by omega)]
    refine ⟨(h.kd x0 x1).1, (h.kd x0 x1).2, fun q q0 q1 => ?_⟩
    rw [eg]
    exact h.st x0 x1 q0 q1
  · rw [c0] at hx
    rw [cc _ (by omega), cc _ (by omega)]
    exact h.tot hx
theorem q_bound (h : Rl σ τ) {b : Int32} (b0 : 0 ≤ b.toInt) (b1 : b.toInt ≤ 999) : f_X3_bound σ b = (σ 0 7, u2 σ 0 7 b) := by
  have z0 : (0 : Int32).toInt = 0 := by decide
  have z9 : (999 : Int32).toInt = 999 := by decide
  unfold f_X3_bound
  rw [if_neg (qm_nlt (by omega)), if_pos (qm_le (by omega)), if_neg h.nz]
theorem Rl_bound (h : Rl σ τ) {b : Int32} (b0 : 0 ≤ b.toInt) (b1 : b.toInt ≤ 999) : Rl (u2 σ 0 7 b) (u2 τ 0 (ix 2) b) := by
  have i2 : ix 2 = 2 := rfl
  rw [i2]
  have hn := h.n
  have c0 : ∀ j, j ≠ 7 → u2 σ 0 7 b 0 j = σ 0 j := fun j hj => u2_nk hj
  have cc : ∀ c, c ≠ 0 → u2 σ 0 7 b c = σ c := fun c hc => u2_nc hc
  have eg : ∀ x q : Int32, f_L_get (u2 τ 0 2 b) x q = f_L_get τ x q := fun x q => by unfold f_L_get; rw [u2_nc (by omega), u2_nc (by omega)]
  refine ⟨okC_obj (by omega) h.1, by rw [c0 _ (by omega)]; exact h.2.1, by rw [c0 _ (by omega), u2_nk (by omega)]; exact h.2.2.1, by rw [u2_self, u2_self], by rw [u2_self]; exact ⟨b0, b1⟩, fun j hj => by rw [u2_nk (by omega), cc _ (by omega)]; exact h.2.2.2.2.2.1 j hj, fun x x0 x1 => ?_, fun x hx => ?_, by rw [cc _ (by omega)]; exact h.sh⟩
  · rw [c0 _ (by omega)] at x1
    rw [eg, cc _ (by omega), cc _ (by omega)]
    refine ⟨(h.kd x0 x1).1, (h.kd x0 x1).2, fun q q0 q1 => ?_⟩
    rw [eg]
    exact h.st x0 x1 q0 q1
  · rw [c0 _ (by omega)] at hx
    rw [cc _ (by omega), cc _ (by omega)]
    exact h.tot hx
end RL1
/-! low: what is left of a number -/
theorem low_bd {v n : Int32} (hn : 0 < n.toInt) : 0 ≤ (f_L_low v n).toInt ∧ (f_L_low v n).toInt < n.toInt := by
  unfold f_L_low
  have h0 : 0 ≤ (v &&& 2147483647).toInt := and_max v
  generalize v &&& 2147483647 = a at h0
  exact rem_bd h0 hn
end
section
/-! apart, twins -/
theorem off_eq {a b : Int32} (a0 : 0 ≤ a.toInt) (a1 : a.toInt ≤ 10000) (b0 : 0 ≤ b.toInt) (b1 : b.toInt ≤ 10000) : f_L_off a b = jabs (a - b) := by
  have z0 : (0 : Int32).toInt = 0 := by decide
  have e := s_toInt (a := a) (b := b) (by omega) (by omega)
  have e2 := s_toInt (a := b) (b := a) (by omega) (by omega)
  have e3 := s_toInt (a := 0) (b := a - b) (by omega) (by omega)
  unfold f_L_off jabs
  by_cases h : b ≤ a
  · have h2 := qt_le h
    rw [if_pos h, if_pos (qm_le (by omega))]
  · have h2 := qt_nle h
    rw [if_neg h, if_neg (qm_nle (by omega))]
    exact qm_eq (by omega)
theorem jabs_bd {a b : Int32} {B : Int} (a0 : 0 ≤ a.toInt) (a1 : a.toInt ≤ B) (b0 : 0 ≤ b.toInt) (b1 : b.toInt ≤ B) (hB : B ≤ 10000) : 0 ≤ (jabs (a - b)).toInt ∧ (jabs (a - b)).toInt ≤ B := by
  have z0 : (0 : Int32).toInt = 0 := by decide
  have e := s_toInt (a := a) (b := b) (by omega) (by omega)
  have e3 := s_toInt (a := 0) (b := a - b) (by omega) (by omega)
  unfold jabs
  by_cases h : 0 ≤ a - b
  · have h2 := qt_le h
    rw [if_pos h]
    omega
  · have h2 := qt_nle h
    rw [if_neg h]
    omega
section AP
variable {σ τ : St}
/-- how far two rows of nine are apart -/
def apS (σ : St) (a b : Nat) : Int32 := sm (fun k => jabs (σ a k - σ b k)) 9
theorem ap_4 {a b : Nat} : ∀ (n k : Nat), k ≤ 9 → 9 - k < n → lp_X3_apartOf_4 σ a b n (sm (fun k => jabs (σ a k - σ b k)) k) (nI k) = apS σ a b := by
  intro n
  induction n with
  | zero => intro k _ h; exact absurd h (Nat.not_lt_zero _)
  | succ n ih =>
    intro k hk hn
    rw [lp_X3_apartOf_4]
    by_cases h : k = 9
    · subst h
      rw [if_pos (show (9 : Int32) ≤ nI 9 by decide)]
      rfl
    · rw [if_neg (fun q => by have := (nI_gE (n := 9) (k := k) (by omega) (by omega)).mp q; omega), ix_nI (by omega), n1]
      exact ih (k + 1) (by omega) (by omega)
theorem apartOf_eq {a b : Nat} : f_X3_apartOf σ a b = apS σ a b := ap_4 200 0 (by omega) (by omega)
theorem ap_6 {x y : Int32} : ∀ (n k : Nat), k ≤ 9 → 9 - k < n → lp_L_apart_6 τ x y n (sm (fun k => f_L_off (f_L_get τ x (1 + nI k)) (f_L_get τ y (1 + nI k))) k) (1 + nI k) = sm (fun k => f_L_off (f_L_get τ x (1 + nI k)) (f_L_get τ y (1 + nI k))) 9 := by
  have z1 : (1 : Int32).toInt = 1 := by decide
  have z10 : (10 : Int32).toInt = 10 := by decide
  intro n
  induction n with
  | zero => intro k _ h; exact absurd h (Nat.not_lt_zero _)
  | succ n ih =>
    intro k hk hn
    have ek := nI_toInt (n := k) (by omega)
    have e1 := a_toInt (a := 1) (b := nI k) (by omega) (by omega)
    rw [lp_L_apart_6]
    by_cases h : k = 9
    · subst h
      rw [if_pos (show (10 : Int32) ≤ 1 + nI 9 by decide)]
    · rw [if_neg (qm_nle (by omega)), Int32.add_assoc, n1]
      exact ih (k + 1) (by omega) (by omega)
theorem st9I (h : Rl σ τ) {x : Int32} (h0 : 0 ≤ x.toInt) (h1 : x.toInt < (σ 0 4).toInt) {k : Nat} (hk : k < 9) : f_L_get τ x (1 + nI k) = σ (25 + ix x) k ∧ 0 ≤ (σ (25 + ix x) k).toInt ∧ (σ (25 + ix x) k).toInt ≤ 9 := by
  have ek := nI_toInt (n := k) (by omega)
  have q := h.st (k := nI k) h0 h1 (by omega) (by omega)
  rw [ix_nI (by omega)] at q
  exact q
theorem L_apart_eq (h : Rl σ τ) {x y : Int32} (x0 : 0 ≤ x.toInt) (x1 : x.toInt < (σ 0 4).toInt) (y0 : 0 ≤ y.toInt) (y1 : y.toInt < (σ 0 4).toInt) : f_L_apart τ x y = apS σ (25 + ix x) (25 + ix y) := by
  have e : f_L_apart τ x y = sm (fun k => f_L_off (f_L_get τ x (1 + nI k)) (f_L_get τ y (1 + nI k))) 9 := ap_6 200 0 (by omega) (by omega)
  rw [e]
  refine sm_congr 9 (fun k hk => ?_)
  have a := st9I h x0 x1 hk
  have b := st9I h y0 y1 hk
  show f_L_off (f_L_get τ x (1 + nI k)) (f_L_get τ y (1 + nI k)) = jabs (σ (25 + ix x) k - σ (25 + ix y) k)
  rw [a.1, b.1]
  exact off_eq (by omega) (by omega) (by omega) (by omega)
theorem q_apart (h : Rl σ τ) {x y : Int32} (x0 : 0 ≤ x.toInt) (x1 : x.toInt < (σ 0 4).toInt) (y0 : 0 ≤ y.toInt) (y1 : y.toInt < (σ 0 4).toInt) : f_X3_apart σ x y = f_L_apart τ x y := by
  unfold f_X3_apart
  rw [if_neg (isSign_p x0 x1), if_neg (isSign_p y0 y1), apartOf_eq, L_apart_eq h x0 x1 y0 y1]
theorem q_apart_n {x y : Int32} (hy : ¬ (0 ≤ y.toInt ∧ y.toInt < (σ 0 4).toInt)) : f_X3_apart σ x y = -1 := by
  unfold f_X3_apart
  rw [isSign_n hy]
  by_cases hx : f_X3_isSign σ x = 0
  · rw [if_pos hx]
  · rw [if_neg hx, if_pos rfl]
/-! twins: how many pairs stand before one -/
def al (σ : St) (x y : Nat) : Prop := ¬ f_X3_areAlike σ (25 + x) (25 + y) = 0
def c2 (σ : St) (x : Nat) : Nat → Nat
  | 0 => 0
  | y + 1 => c2 σ x y + (if x < y then (if f_X3_areAlike σ (25 + x) (25 + y) = 0 then 0 else 1) else 0)
def c1 (σ : St) (n : Nat) : Nat → Nat
  | 0 => 0
  | x + 1 => c1 σ n x + c2 σ x n
theorem c2_hit {x y : Nat} (h : x < y) (ha : al σ x y) : c2 σ x (y + 1) = c2 σ x y + 1 := by
  show c2 σ x y + _ = _
  rw [if_pos h, if_neg ha]
theorem c2_off {x y : Nat} (ha : ¬ (x < y ∧ al σ x y)) : c2 σ x (y + 1) = c2 σ x y := by
  show c2 σ x y + _ = _
  by_cases h : x < y
  · have h2 : f_X3_areAlike σ (25 + x) (25 + y) = 0 := Decidable.byContradiction (fun q => ha ⟨h, q⟩)
    rw [if_pos h, if_pos h2, Nat.add_zero]
  · rw [if_neg h, Nat.add_zero]
theorem c2_z {x : Nat} : ∀ y : Nat, y ≤ x + 1 → c2 σ x y = 0 := by
  intro y
  induction y with
  | zero => intro _; rfl
  | succ y ih => intro h; rw [c2_off (by omega), ih (by omega)]
theorem c2_le {x : Nat} : ∀ y : Nat, c2 σ x y ≤ y := by
  intro y
  induction y with
  | zero => exact Nat.le_refl _
  | succ y ih =>
    show c2 σ x y + _ ≤ _
    by_cases h : x < y
    · rw [if_pos h]; split <;> omega
    · rw [if_neg h]; omega
theorem c2_mono {x y : Nat} : ∀ d : Nat, c2 σ x y ≤ c2 σ x (y + d) := by
  intro d
  induction d with
  | zero => exact Nat.le_refl _
  | succ d ih =>
    refine Nat.le_trans ih ?_
    show c2 σ x (y + d) ≤ c2 σ x (y + d) + _
    exact Nat.le_add_right _ _
theorem c2_mo {x y z : Nat} (h : y ≤ z) : c2 σ x y ≤ c2 σ x z := by
  have q := c2_mono (σ := σ) (x := x) (y := y) (z - y)
  rw [Nat.add_sub_cancel' h] at q
  exact q
theorem c1_le {n : Nat} : ∀ x : Nat, c1 σ n x ≤ n * x := by
  intro x
  induction x with
  | zero => exact Nat.zero_le _
  | succ x ih =>
    have h := c2_le (σ := σ) (x := x) n
    show c1 σ n x + c2 σ x n ≤ n * (x + 1)
    rw [Nat.mul_add]
    omega
theorem c1_mono {n x : Nat} : ∀ d : Nat, c1 σ n x ≤ c1 σ n (x + d) := by
  intro d
  induction d with
  | zero => exact Nat.le_refl _
  | succ d ih => exact Nat.le_trans ih (Nat.le_add_right _ _)
theorem c1_mo {n x z : Nat} (h : x ≤ z) : c1 σ n x ≤ c1 σ n z := by
  have q := c1_mono (σ := σ) (n := n) (x := x) (z - x)
  rw [Nat.add_sub_cancel' h] at q
  exact q
theorem c1_bd {n x : Nat} (hn : n ≤ 8) (hx : x ≤ 8) : c1 σ n x ≤ 64 := Nat.le_trans (c1_le x) (Nat.le_trans (Nat.mul_le_mul hn hx) (by decide))
variable {N : Nat}
/-- a row of pairs none of which is the sought one -/
theorem tw24_pass (hN : (σ 0 4) = nI N) (hN8 : N ≤ 8) {k : Int32} {C x : Nat} (hC : C ≤ 64) (hk : ∀ m : Nat, C ≤ m → m < C + c2 σ x N → nI m ≠ k) : ∀ (n y : Nat), y ≤ N → x < y → N - y < n → lp_X3_twins_24 σ k (nI x) n (nI (C + c2 σ x y)) (nI y) = Sum.inr (nI (C + c2 σ x N)) := by
  intro n
  induction n with
  | zero => intro y _ _ h; exact absurd h (Nat.not_lt_zero _)
  | succ n ih =>
    intro y hy hxy hn
    rw [lp_X3_twins_24, hN]
    by_cases h : y = N
    · subst h
      rw [if_pos ((nI_gE (by omega) (by omega)).mpr (Nat.le_refl _))]
    · rw [if_neg (fun q => by have := (nI_gE (by omega) (by omega)).mp q; omega), ix_nI (by omega), ix_nI (by omega), n1]
      by_cases a : f_X3_areAlike σ (25 + x) (25 + y) = 0
      · rw [if_pos a, ← c2_off (σ := σ) (x := x) (y := y) (fun q => q.2 a)]
        exact ih (y + 1) (by omega) (by omega) (by omega)
      · have hh := c2_hit (σ := σ) hxy a
        have hm := c2_mo (σ := σ) (x := x) (y := y + 1) (z := N) (by omega)
        rw [if_neg a, if_neg (hk _ (by omega) (by omega)), n1, Nat.add_assoc, ← hh]
        exact ih (y + 1) (by omega) (by omega) (by omega)
/-- the sought pair's row -/
theorem tw24_hit (hN : (σ 0 4) = nI N) (hN8 : N ≤ 8) {C x y0 : Nat} (hC : C ≤ 64) (h0 : y0 < N) (ha : al σ x y0) : ∀ (n y : Nat), y ≤ y0 → x < y → N - y < n → lp_X3_twins_24 σ (nI (C + c2 σ x y0)) (nI x) n (nI (C + c2 σ x y)) (nI y) = Sum.inl (f_X3_pairNumber (nI x) (nI y0)) := by
  intro n
  induction n with
  | zero => intro y _ _ h; exact absurd h (Nat.not_lt_zero _)
  | succ n ih =>
    intro y hy hxy hn
    rw [lp_X3_twins_24, hN, if_neg (fun q => by have := (nI_gE (by omega) (by omega)).mp q; omega), ix_nI (by omega), ix_nI (by omega), n1]
    by_cases h : y = y0
    · subst h
      rw [if_neg ha, if_pos rfl]
    · by_cases a : f_X3_areAlike σ (25 + x) (25 + y) = 0
      · rw [if_pos a, ← c2_off (σ := σ) (x := x) (y := y) (fun q => q.2 a)]
        exact ih (y + 1) (by omega) (by omega) (by omega)
      · have hh := c2_hit (σ := σ) hxy a
        have hm := c2_mo (σ := σ) (x := x) (y := y + 1) (z := y0) (by omega)
        have hl := c2_le (σ := σ) (x := x) y0
        rw [if_neg a, if_neg (fun q => by
          have q1 := congrArg ix q
          rw [ix_nI (by omega), ix_nI (by omega)] at q1
          omega), n1, Nat.add_assoc, ← hh]
        exact ih (y + 1) (by omega) (by omega) (by omega)
theorem tw11_pass (hN : (σ 0 4) = nI N) (hN8 : N ≤ 8) {k : Int32} (hk : ∀ m : Nat, m < c1 σ N N → nI m ≠ k) : ∀ (n x : Nat), x ≤ N → N - x < n → lp_X3_twins_11 σ k n (nI (c1 σ N x)) (nI x) = Sum.inr (nI (c1 σ N N)) := by
  intro n
  induction n with
  | zero => intro x _ h; exact absurd h (Nat.not_lt_zero _)
  | succ n ih =>
    intro x hx hn
    rw [lp_X3_twins_11, hN]
    by_cases h : x = N
    · subst h
      rw [if_pos ((nI_gE (by omega) (by omega)).mpr (Nat.le_refl _))]
    · rw [if_neg (fun q => by have := (nI_gE (by omega) (by omega)).mp q; omega), n1]
      have hz := c2_z (σ := σ) (x := x) (x + 1) (by omega)
      have hm := c1_mo (σ := σ) (n := N) (x := x + 1) (z := N) (by omega)
      have hb := c1_bd (σ := σ) (n := N) (x := x) hN8 (by omega)
      have q := tw24_pass hN hN8 (k := k) (C := c1 σ N x) (x := x) hb (fun m _ m2 => hk m (Nat.lt_of_lt_of_le m2 hm)) 200 (x + 1) (by omega) (by omega) (by omega)
      rw [hz, Nat.add_zero] at q
      rw [q]
      exact ih (x + 1) (by omega) (by omega)
theorem tw11_hit (hN : (σ 0 4) = nI N) (hN8 : N ≤ 8) {x0 y0 : Nat} (hxy : x0 < y0) (h0 : y0 < N) (ha : al σ x0 y0) : ∀ (n x : Nat), x ≤ x0 → N - x < n → lp_X3_twins_11 σ (nI (c1 σ N x0 + c2 σ x0 y0)) n (nI (c1 σ N x)) (nI x) = Sum.inl (f_X3_pairNumber (nI x0) (nI y0)) := by
  intro n
  induction n with
  | zero => intro x _ h; exact absurd h (Nat.not_lt_zero _)
  | succ n ih =>
    intro x hx hn
    rw [lp_X3_twins_11, hN, if_neg (fun q => by have := (nI_gE (by omega) (by omega)).mp q; omega), n1]
    have hz := c2_z (σ := σ) (x := x) (x + 1) (by omega)
    have hb := c1_bd (σ := σ) (n := N) (x := x) hN8 (by omega)
    have hb0 := c1_bd (σ := σ) (n := N) (x := x0) hN8 (by omega)
    have hl := c2_le (σ := σ) (x := x0) y0
    by_cases h : x = x0
    · subst h
      have q := tw24_hit hN hN8 (C := c1 σ N x) hb h0 ha 200 (x + 1) (by omega) (by omega) (by omega)
      rw [hz, Nat.add_zero] at q
      rw [q]
    · have hm := c1_mo (σ := σ) (n := N) (x := x + 1) (z := x0) (by omega)
      have q := tw24_pass hN hN8 (k := nI (c1 σ N x0 + c2 σ x0 y0)) (C := c1 σ N x) (x := x) hb (fun m _ m2 e => by
        have e1 := congrArg ix e
        have hm' : c1 σ N x + c2 σ x N ≤ c1 σ N x0 := hm
        rw [ix_nI (by omega), ix_nI (by omega)] at e1
        omega) 200 (x + 1) (by omega) (by omega) (by omega)
      rw [hz, Nat.add_zero] at q
      rw [q]
      exact ih (x + 1) (by omega) (by omega)
theorem Rl.nN (h : Rl σ τ) : (σ 0 4) = nI (ix (σ 0 4)) ∧ ix (σ 0 4) ≤ 8 ∧ 2 ≤ ix (σ 0 4) ∧ (ix (σ 0 4) : Int) = (σ 0 4).toInt := by
  have hn := h.n
  have e := ix_toInt (x := σ 0 4) (by omega)
  exact ⟨nI_ix (by omega), by omega, by omega, e⟩
theorem q_twin (h : Rl σ τ) {x y : Int32} (x0 : 0 ≤ x.toInt) (hxy : x.toInt < y.toInt) (y1 : y.toInt < (σ 0 4).toInt) (ha : al σ (ix x) (ix y)) : f_X3_twins σ (nI (c1 σ (ix (σ 0 4)) (ix x) + c2 σ (ix x) (ix y))) = 10 * x + y := by
  obtain ⟨hN, hN8, hN2, eN⟩ := h.nN
  have ex := ix_toInt x0
  have ey := ix_toInt (x := y) (by omega)
  have hb := c1_bd (σ := σ) (n := ix (σ 0 4)) (x := ix x) hN8 (by omega)
  have hl := c2_le (σ := σ) (x := ix x) (ix y)
  have et := nI_toInt (n := c1 σ (ix (σ 0 4)) (ix x) + c2 σ (ix x) (ix y)) (by omega)
  have zm : (-1 : Int32).toInt = -1 := by decide
  have q := tw11_hit hN hN8 (x0 := ix x) (y0 := ix y) (by omega) (by omega) ha 200 0 (by omega) (by omega)
  unfold f_X3_twins
  rw [if_pos (qm_le (by omega))]
  have q' : lp_X3_twins_11 σ (nI (c1 σ (ix (σ 0 4)) (ix x) + c2 σ (ix x) (ix y))) 200 0 0 = Sum.inl (f_X3_pairNumber (nI (ix x)) (nI (ix y))) := q
  rw [q', ← nI_ix x0, ← nI_ix (x := y) (by omega)]
  rfl
theorem q_twins_m1 (h : Rl σ τ) : f_X3_twins σ (-1) = nI (c1 σ (ix (σ 0 4)) (ix (σ 0 4))) := by
  obtain ⟨hN, hN8, hN2, eN⟩ := h.nN
  have q : lp_X3_twins_11 σ (-1) 200 0 0 = Sum.inr (nI (c1 σ (ix (σ 0 4)) (ix (σ 0 4)))) := tw11_pass hN hN8 (k := -1) (fun m hm e => by
    have hb := c1_bd (σ := σ) (n := ix (σ 0 4)) (x := ix (σ 0 4)) hN8 hN8
    have e1 := congrArg Int32.toInt e
    rw [nI_toInt (by omega), show (-1 : Int32).toInt = -1 by decide] at e1
    omega) 200 0 (by omega) (by omega)
  unfold f_X3_twins
  rw [if_pos (by decide), q]
  show (if (-1 : Int32) = -1 then _ else _) = _
  rw [if_pos rfl]
theorem q_twins_all (h : Rl σ τ) : f_X3_twins σ (nI (c1 σ (ix (σ 0 4)) (ix (σ 0 4)))) = -9 := by
  obtain ⟨hN, hN8, hN2, eN⟩ := h.nN
  have hb := c1_bd (σ := σ) (n := ix (σ 0 4)) (x := ix (σ 0 4)) hN8 hN8
  have et := nI_toInt (n := c1 σ (ix (σ 0 4)) (ix (σ 0 4))) (by omega)
  have zm : (-1 : Int32).toInt = -1 := by decide
  have q : lp_X3_twins_11 σ (nI (c1 σ (ix (σ 0 4)) (ix (σ 0 4)))) 200 0 0 = Sum.inr (nI (c1 σ (ix (σ 0 4)) (ix (σ 0 4)))) := tw11_pass hN hN8 (fun m hm e => by
    have e1 := congrArg ix e
    rw [ix_nI (by omega), ix_nI (by omega)] at e1
    omega) 200 0 (by omega) (by omega)
  unfold f_X3_twins
  rw [if_pos (qm_le (by omega)), q]
  show (if nI (c1 σ (ix (σ 0 4)) (ix (σ 0 4))) = -1 then _ else _) = _
  rw [if_neg (fun e => by
    have e1 := congrArg Int32.toInt e
    omega)]
theorem q_twins_m2 : f_X3_twins σ (-2) = -1 := by
  unfold f_X3_twins
  rw [if_neg (by decide)]
/-- alike, as the law asks it -/
theorem al_iff {x y : Nat} : al σ x y ↔ ¬ σ 0 7 < 8 * apS σ (25 + x) (25 + y) := by
  unfold al f_X3_areAlike
  rw [apartOf_eq]
  by_cases h : σ 0 7 < 8 * apS σ (25 + x) (25 + y)
  · rw [if_pos h]
    exact ⟨fun q => absurd rfl q, fun q => absurd h q⟩
  · rw [if_neg h]
    exact ⟨fun _ => h, fun _ => by decide⟩
end AP
end
section
/-! the second SHEET; forged -/
section FO
variable {σ τ : St}
def s1 (σ : St) : Prop := σ 10 0 = 1 ∧ σ 10 1 = 1 ∧ σ 10 2 = 24
theorem lk_e {i : Int32} {n : Int64} (hs : s1 σ) (h0 : -100 ≤ i.toInt ∧ i.toInt ≤ 1000) (hn : -1000 ≤ n.toInt ∧ n.toInt ≤ 1000) : (f_X1_lacks σ 1 i n = 0) ↔ 0 ≤ i.toInt ∧ i.toInt + n.toInt ≤ 24 := by
  have z0 : (0 : Int32).toInt = 0 := by decide
  have z24 : (24 : Int32).toInt64.toInt = 24 := by decide
  have e9 : 9 + 1 = 10 := rfl
  unfold f_X1_lacks
  rw [e9, hs.2.2]
  by_cases h : i < 0
  · have h2 := qt_lt h
    rw [if_pos h]
    exact ⟨fun q => absurd q (by decide), fun q => by omega⟩
  · have h2 := qt_nlt h
    have ea : (i.toInt64 + n).toInt = i.toInt + n.toInt := by
      rw [la_toInt (by rw [Int32.toInt_toInt64]; omega) (by rw [Int32.toInt_toInt64]; omega), Int32.toInt_toInt64]
    rw [if_neg h]
    by_cases h3 : lg_cmp (i.toInt64 + n) (24 : Int32).toInt64 ≤ 0
    · have h4 := Int64.le_iff_toInt_le.mp ((lg_cmp_le _ _).mp h3)
      rw [if_pos h3]
      exact ⟨fun _ => by omega, fun _ => rfl⟩
    · rw [if_neg h3]
      refine ⟨fun q => absurd q (by decide), fun q => absurd ((lg_cmp_le _ _).mpr (Int64.le_iff_toInt_le.mpr ?_)) h3⟩
      omega
theorem sp_e (hs : s1 σ) {i : Int32} {n : Int64} (hi : -100 ≤ i.toInt ∧ i.toInt ≤ 1000) (hn : -1000 ≤ n.toInt ∧ n.toInt ≤ 1000) :
    (0 ≤ n.toInt → 0 ≤ i.toInt → i.toInt + n.toInt ≤ 24 → f_X3_spanRefusal σ 1 1 i n = (0, u2 σ 0 9 0)) ∧ (0 ≤ n.toInt → 24 < i.toInt + n.toInt → f_X3_spanRefusal σ 1 1 i n = (-13, u2 σ 0 9 3)) ∧ (n.toInt < 0 → f_X3_spanRefusal σ 1 1 i n = (-14, u2 σ 0 9 4)) := by
  have lk := lk_e (i := i) (n := n) hs hi hn
  have z0 : (0 : Int64).toInt = 0 := by decide
  have n1 : ¬ (1 : Int32) = 0 := by decide
  have e9 : 9 + ix 1 = 10 := rfl
  have i1 : ix 1 = 1 := rfl
  have key : f_X3_spanRefusal σ 1 1 i n = (if 0 ≤ lg_cmp n 0 then (if f_X1_lacks σ 1 i n = 0 then ((0 : Int32), u2 σ 0 9 0) else ((f_X3_faulted σ 3).1, (f_X3_faulted σ 3).2)) else ((f_X3_faulted σ 4).1, (f_X3_faulted σ 4).2)) := by
    unfold f_X3_spanRefusal
    rw [if_neg (show ¬ f_X3_isSheet 1 = 0 by decide), if_neg (show ¬ f_X3_isLane 1 = 0 by decide), e9, i1, hs.1, hs.2.1, if_neg n1, if_pos rfl, if_neg n1]
  rw [key]
  refine ⟨fun h1 h2 h3 => ?_, fun h1 h2 => ?_, fun h1 => ?_⟩
  · rw [if_pos ((lg_cmp_ge n 0).mpr (Int64.le_iff_toInt_le.mpr (by omega))), if_pos (lk.mpr ⟨h2, h3⟩)]
  · rw [if_pos ((lg_cmp_ge n 0).mpr (Int64.le_iff_toInt_le.mpr (by omega))), if_neg (fun q => by have := lk.mp q; omega)]
    rfl
  · rw [if_neg (fun q => by have := Int64.le_iff_toInt_le.mp ((lg_cmp_ge n 0).mp q); omega)]
    rfl
theorem sp_s4 {l i : Int32} {n : Int64} : f_X3_spanRefusal σ 4 l i n = (-1, u2 σ 0 9 0) := by
  unfold f_X3_spanRefusal
  rw [if_pos (show f_X3_isSheet 4 = 0 by decide)]
  rfl
theorem sp_l3 {i : Int32} {n : Int64} : f_X3_spanRefusal σ 1 3 i n = (-2, u2 σ 0 9 0) := by
  unfold f_X3_spanRefusal
  rw [if_neg (show ¬ f_X3_isSheet 1 = 0 by decide), if_pos (show f_X3_isLane 3 = 0 by decide)]
  rfl
theorem sp_l0 (hs : s1 σ) {i : Int32} {n : Int64} : f_X3_spanRefusal σ 1 0 i n = (-12, u2 σ 0 9 2) := by
  have e9 : 9 + ix 1 = 10 := rfl
  unfold f_X3_spanRefusal
  rw [if_neg (show ¬ f_X3_isSheet 1 = 0 by decide), if_neg (show ¬ f_X3_isLane 0 = 0 by decide), e9, hs.1, hs.2.1, if_neg (show ¬ (1 : Int32) = 0 by decide), if_neg (show ¬ (1 : Int32) = 0 by decide)]
  rfl
theorem i16_id {v : Int32} (h0 : -32768 ≤ v.toInt) (h1 : v.toInt ≤ 32767) : v.toInt16.toInt32 = v := by
  refine qm_eq ?_
  rw [Int16.toInt_toInt32, Int32.toInt_toInt16]
  exact Int.bmod_eq_of_le (by omega) (by omega)
theorem q_put1 (hs : s1 σ) {i v : Int32} (i0 : 0 ≤ i.toInt) (i1 : i.toInt < 24) (v0 : -1000 ≤ v.toInt) (v1 : v.toInt ≤ 1000) : f_X3_put σ 1 i v = (1, u2 (u2 σ 0 9 0) 14 (ix i) v) := by
  have e9 : 9 + ix 1 = 10 := rfl
  have e13 : 13 + ix 1 = 14 := rfl
  have j1 : ix 1 = 1 := rfl
  have z1 : (1 : Int64).toInt = 1 := by decide
  unfold f_X3_put f_X1_cut
  rw [if_neg (show ¬ f_X3_isSheet 1 = 0 by decide), e9, e13, j1, hs.1, if_neg (show ¬ (1 : Int32) = 0 by decide), if_pos ((lk_e (n := 1) hs (by omega) (by omega)).mpr (by omega))]
  rw [u2_nc (show (10 : Nat) ≠ 0 by omega), hs.2.1, if_neg (show ¬ (1 : Int32) = 0 by decide), if_pos rfl, i16_id (by omega) (by omega)]
theorem q_cell1 (hs : s1 σ) {i : Int32} (i0 : 0 ≤ i.toInt) (i1 : i.toInt < 24) : f_X3_cell σ 1 i 1 = ((σ 14 (ix i)).toInt64, u2 σ 0 9 0) := by
  have z1 : (1 : Int64).toInt = 1 := by decide
  have e13 : 13 + ix 1 = 14 := rfl
  have e := (sp_e (i := i) (n := 1) hs (by omega) (by omega)).1 (by omega) (by omega) (by omega)
  unfold f_X3_cell
  rw [e]
  dsimp only
  rw [if_pos rfl, e13, u2_nc (show (14 : Nat) ≠ 0 by omega)]
/-! what a set of stoppers leaves of a SIGN -/
def addF (Z : Nat → Int32) (S : Int32) (f : Nat → Int32) (j : Nat) : Nat → Int32 :=
  if ((S >>> (nI j &&& 31)) &&& 1) = 0 then f else upd f (ix (Z (2 * j))) (f (ix (Z (2 * j))) + Z (2 * j + 1))
def thenF (base Z : Nat → Int32) (S : Int32) : Nat → Nat → Int32
  | 0 => base
  | j + 1 => addF Z S (thenF base Z S j) j
theorem thenF_hi {base Z : Nat → Int32} {S : Int32} {s : Nat} (hb : ∀ k, s ≤ k → k < 10 → ((S >>> (nI k &&& 31)) &&& 1) = 0) : ∀ d, s + d ≤ 10 → thenF base Z S (s + d) = thenF base Z S s := by
  intro d
  induction d with
  | zero => intro _; rfl
  | succ d ih =>
    intro h
    show addF Z S (thenF base Z S (s + d)) (s + d) = _
    unfold addF
    rw [if_pos (hb _ (by omega) (by omega)), ih (by omega)]
theorem upd_at (f : Nat → Int32) (k : Nat) (v : Int32) : upd f k v k = v := by rw [upd, if_pos rfl]
theorem upd_ne (f : Nat → Int32) {k j : Nat} (v : Int32) (h : j ≠ k) : upd f k v j = f j := by rw [upd, if_neg h]
theorem tk_3 {x y S : Int32} : ∀ (n k : Nat) (σ : St), k ≤ 9 → 9 - k < n → ∀ i, i < 9 → lp_X3_isTakenFor_3 x y 1 0 S n (nI k) σ 6 i = if i < k then σ 6 i else σ (25 + ix x) i := by
  intro n
  induction n with
  | zero => intro k σ _ h; exact absurd h (Nat.not_lt_zero _)
  | succ n ih =>
    intro k σ hk hn i hi
    rw [lp_X3_isTakenFor_3]
    by_cases h : k = 9
    · subst h
      rw [if_pos (show (9 : Int32) ≤ nI 9 by decide), if_pos hi]
    · rw [if_neg (fun q => by have := (nI_gE (n := 9) (k := k) (by omega) (by omega)).mp q; omega), ix_nI (by omega), n1, ih (k + 1) _ (by omega) (by omega) i hi]
      by_cases h1 : i < k
      · rw [if_pos (by omega), if_pos h1, u2_nk (by omega)]
      · by_cases h2 : i = k
        · rw [h2, if_pos (by omega), if_neg (by omega), u2_self]
        · rw [if_neg (by omega), if_neg h1, u2_nc (by omega)]
theorem ix2k {k : Nat} (hk : k < 10) : ix (0 + 2 * nI k) = 2 * k ∧ ix (0 + 2 * nI k + 1) = 2 * k + 1 := by
  have h : ∀ k : Nat, k < 10 → ix (0 + 2 * nI k) = 2 * k ∧ ix (0 + 2 * nI k + 1) = 2 * k + 1 := by decide +kernel
  exact h k hk
theorem tk_38 {y S : Int32} {base Z : Nat → Int32} (hZ : ∀ k, k < 10 → ¬ ((S >>> (nI k &&& 31)) &&& 1) = 0 → ix (Z (2 * k)) < 9) : ∀ (n k : Nat) (σ : St), k ≤ 10 → 10 - k < n → σ 14 = Z → (∀ i, i < 9 → σ 6 i = thenF base Z S k i) → ∀ i, i < 9 → lp_X3_isTakenFor_38 y 1 0 S n (nI k) σ 6 i = thenF base Z S 10 i := by
  have e14 : 13 + 1 = 14 := rfl
  intro n
  induction n with
  | zero => intro k σ _ h; exact absurd h (Nat.not_lt_zero _)
  | succ n ih =>
    intro k σ hk hn h14 h6 i hi
    rw [lp_X3_isTakenFor_38]
    by_cases h : k = 10
    · subst h
      rw [if_pos (show (10 : Int32) ≤ nI 10 by decide)]
      exact h6 i hi
    · obtain ⟨e1, e2⟩ := ix2k (k := k) (by omega)
      rw [if_neg (fun q => by have := (nI_gE (n := 10) (k := k) (by omega) (by omega)).mp q; omega), e14, h14, e1, e2, n1]
      by_cases hb : ((S >>> (nI k &&& 31)) &&& 1) = 0
      · rw [if_pos hb]
        refine ih (k + 1) σ (by omega) (by omega) h14 (fun i hi => ?_) i hi
        show σ 6 i = addF Z S (thenF base Z S k) k i
        unfold addF
        rw [if_pos hb]
        exact h6 i hi
      · have hq := hZ k (by omega) hb
        rw [if_neg hb]
        refine ih (k + 1) _ (by omega) (by omega) (by rw [u2_nc (by omega)]; exact h14) (fun i hi => ?_) i hi
        show _ = addF Z S (thenF base Z S k) k i
        unfold addF
        rw [if_neg hb]
        by_cases hiq : i = ix (Z (2 * k))
        · rw [hiq, u2_self, upd_at, h6 _ hq]
        · rw [u2_nk hiq, upd_ne _ _ hiq]
          exact h6 i hi
/-- how far apart x with these stoppers is from y -/
def tkS (σ : St) (x y : Nat) (s : Nat) (S : Int32) : Int32 := sm (fun k => jabs (thenF (σ (25 + x)) (σ 14) S s k - σ (25 + y) k)) 9
def tk (σ : St) (x y : Nat) (s : Nat) (u : Nat) : Prop := ¬ σ 0 7 < 8 * tkS σ x y s (nI u)
/-- the stoppers of the law lie in the second SHEET -/
def Stq (σ : St) (s : Nat) : Prop := ∀ j, j < s → (0 ≤ (σ 14 (2 * j)).toInt ∧ (σ 14 (2 * j)).toInt < 9) ∧ 1 ≤ (σ 14 (2 * j + 1)).toInt ∧ (σ 14 (2 * j + 1)).toInt ≤ 9
theorem bit_hi {s u k : Nat} (hs : s ≤ 7) (hu : u < 2 ^ s) (h : s ≤ k) (hk : k < 10) : (nI u >>> (nI k &&& 31)) &&& 1 = 0 := bit_lt s (by omega) k hk h u hu
theorem taken_iff {x y : Int32} {s u : Nat} (hs : s ≤ 7) (hu : u < 2 ^ s) (hst : Stq σ s) {σ' : St} (h6 : ∀ c, c ≠ 6 → σ' c = σ c) : ((f_X3_isTakenFor σ' x y 1 0 (nI u)).1 = 0 ↔ ¬ tk σ (ix x) (ix y) s u) ∧ ∀ c, c ≠ 6 → (f_X3_isTakenFor σ' x y 1 0 (nI u)).2 c = σ c := by
  refine ⟨?_, fun c hc => (fr_X3_isTakenFor hc).trans (h6 c hc)⟩
  have hf := fun c (hc : c ≠ 6) => fr_X3_isTakenFor (σ := σ') (x := x) (y := y) (q := 1) (a := 0) (s := nI u) (c := c) hc
  have hv : ∀ i, i < 9 → (f_X3_isTakenFor σ' x y 1 0 (nI u)).2 6 i = thenF (σ (25 + ix x)) (σ 14) (nI u) s i := by
    intro i hi
    show lp_X3_isTakenFor_38 y 1 0 (nI u) 200 0 (lp_X3_isTakenFor_3 x y 1 0 (nI u) 200 0 σ') 6 i = _
    have q := tk_38 (y := y) (S := nI u) (base := σ (25 + ix x)) (Z := σ 14) (fun k hk hb => by
      have hks : k < s := Nat.not_le.mp (fun q => hb (bit_hi hs hu q hk))
      have h1 := (hst k hks).1
      have h2 := ix_toInt (x := σ 14 (2 * k)) (by omega)
      omega) 200 0 (lp_X3_isTakenFor_3 x y 1 0 (nI u) 200 0 σ') (by omega) (by omega) (by rw [fr_isTakenFor_3 (by omega)]; exact h6 14 (by omega)) (fun i hi => by
        have q3 := tk_3 (x := x) (y := y) (S := nI u) 200 0 σ' (by omega) (by omega) i hi
        rw [if_neg (by omega), h6 (25 + ix x) (by omega)] at q3
        exact q3) i hi
    refine q.trans ?_
    have e := thenF_hi (base := σ (25 + ix x)) (Z := σ 14) (S := nI u) (s := s) (fun k h1 h2 => bit_hi hs hu h1 h2) (10 - s) (by omega)
    rw [show s + (10 - s) = 10 by omega] at e
    rw [e]
  have ea : (f_X3_isTakenFor σ' x y 1 0 (nI u)).1 = f_X3_areAlike (f_X3_isTakenFor σ' x y 1 0 (nI u)).2 6 (25 + ix y) := rfl
  rw [ea]
  generalize (f_X3_isTakenFor σ' x y 1 0 (nI u)).2 = T at hf hv ⊢
  have eap : f_X3_apartOf T 6 (25 + ix y) = tkS σ (ix x) (ix y) s (nI u) := by
    rw [apartOf_eq]
    refine sm_congr 9 (fun k hk => ?_)
    show jabs (T 6 k - T (25 + ix y) k) = _
    rw [hv k hk, hf _ (by omega), h6 _ (by omega)]
  unfold f_X3_areAlike tk
  rw [eap, hf 0 (by omega), h6 0 (by omega)]
  by_cases h : σ 0 7 < 8 * tkS σ (ix x) (ix y) s (nI u)
  · rw [if_pos h]
    exact ⟨fun _ q => q h, fun _ => rfl⟩
  · rw [if_neg h]
    exact ⟨fun q => absurd q (by decide), fun q => absurd h q⟩
/-! the least set of the fewest -/
def bB (u : Nat) : Nat := ix (f_J6_bitCount_0f7a4 (nI u))
theorem bits_tab : ∀ u : Nat, u < 128 → f_J6_bitCount_0f7a4 (nI u) = nI (bB u) ∧ bB u ≤ 7 ∧ f_L_bits (nI u) = nI (bB u) := by decide +kernel
theorem bits_le : ∀ n : Nat, n < 8 → ∀ s : Nat, s < 2 ^ n → bB s ≤ n := by decide +kernel
theorem pw7 {s u : Nat} (hs : s ≤ 7) (hu : u < 2 ^ s) : u < 128 := Nat.lt_of_lt_of_le hu (Nat.pow_le_pow_right (by decide) hs)
section LEAST
variable {B : Nat → Nat}
def better (B : Nat → Nat) (P : Nat → Prop) (R u : Nat) : Prop := P u → B R < B u ∨ (B R = B u ∧ R ≤ u)
def CB (B : Nat → Nat) (P : Nat → Prop) (s t : Nat) (r c : Int32) : Prop := (r = -9 ∧ c = nI (s + 1) ∧ ∀ u, u < t → ¬ P u) ∨ ∃ R, R < t ∧ r = nI R ∧ c = nI (B R) ∧ P R ∧ ∀ u, u < t → better B P R u
def LBg (B : Nat → Nat) (P : Nat → Prop) (M t : Nat) (r : Int32) : Prop := (r = -9 ∧ ∀ u, t ≤ u → u < M → ¬ P u) ∨ ∃ R, t ≤ R ∧ R < M ∧ r = nI R ∧ P R ∧ ∀ u, t ≤ u → u < M → better B P R u
theorem LB_CB {P : Nat → Prop} {s M : Nat} {r r' c : Int32} (h1 : LBg B P M 0 r) (h2 : CB B P s M r' c) : r' = r := by
  rcases h1 with ⟨e1, n1⟩ | ⟨R, _, hR, e1, p1, b1⟩
  · rcases h2 with ⟨e2, _, _⟩ | ⟨R', hR', _, _, p2, _⟩
    · rw [e1, e2]
    · exact absurd p2 (n1 R' (by omega) hR')
  · rcases h2 with ⟨_, _, n2⟩ | ⟨R', hR', e2, _, p2, b2⟩
    · exact absurd p1 (n2 R hR)
    · have q1 := b1 R' (by omega) hR' p2
      have q2 := b2 R hR p1
      have : R = R' := by omega
      rw [e1, e2, this]
theorem LBg_take {P : Nat → Prop} {M t : Nat} {r : Int32} (hM : M ≤ 128) (ht : t < M) (h : LBg B P M (t + 1) r) (hp : P t) (hb : r = -9 ∨ ∀ R, R < M → r = nI R → B t ≤ B R) : LBg B P M t (nI t) := by
  refine Or.inr ⟨t, Nat.le_refl _, ht, rfl, hp, fun u hu huM => ?_⟩
  by_cases hut : u = t
  · subst hut; exact fun _ => Or.inr ⟨rfl, Nat.le_refl _⟩
  rcases h with ⟨e1, n1⟩ | ⟨R, h1, hR, e1, p1, b1⟩
  · exact fun q => absurd q (n1 u (by omega) huM)
  · intro q
    have q2 := b1 u (by omega) huM q
    rcases hb with hb | hb
    · rw [e1] at hb
      have z := congrArg Int32.toInt hb
      rw [show (-9 : Int32).toInt = -9 by decide, nI_toInt (by omega)] at z
      omega
    · have := hb R hR e1
      omega
theorem LBg_skip {P : Nat → Prop} {M t : Nat} {r : Int32} (h : LBg B P M (t + 1) r) (hp : ¬ P t ∨ ∀ R, R < M → r = nI R → B R < B t) (hr : ¬ P t ∨ r ≠ -9) : LBg B P M t r := by
  rcases h with ⟨e1, n1⟩ | ⟨R, h1, hR, e1, p1, b1⟩
  · refine Or.inl ⟨e1, fun u hu huM => ?_⟩
    by_cases hut : u = t
    · subst hut
      rcases hr with hr | hr
      · exact hr
      · exact absurd e1 hr
    · exact n1 u (by omega) huM
  · refine Or.inr ⟨R, by omega, hR, e1, p1, fun u hu huM => ?_⟩
    by_cases hut : u = t
    · subst hut
      intro q
      rcases hp with hp | hp
      · exact absurd q hp
      · exact Or.inl (hp R hR e1)
    · exact b1 u (by omega) huM
end LEAST
def LB (P : Nat → Prop) (M t : Nat) (r : Int32) : Prop := LBg bB P M t r
theorem LB_ge {P : Nat → Prop} {M t : Nat} {r : Int32} (hM : M ≤ 128) (h : LB P M t r) : r.toInt = -9 ∨ (0 ≤ r.toInt ∧ r.toInt < 128) := by
  rcases h with ⟨e1, _⟩ | ⟨R, h1, hR, e1, p1, b1⟩
  · left; rw [e1]; decide
  · right
    clear b1
    rw [e1, nI_toInt (by omega)]
    omega
theorem bits_cmp {a b : Nat} (ha : a < 128) (hb : b < 128) : ((f_L_bits (nI a)).toInt ≤ (f_L_bits (nI b)).toInt → bB a ≤ bB b) ∧ ((f_L_bits (nI a)).toInt < (f_L_bits (nI b)).toInt → bB a < bB b) := by
  obtain ⟨-, a2, a3⟩ := bits_tab a ha
  obtain ⟨-, b2, b3⟩ := bits_tab b hb
  rw [a3, b3]
  generalize bB a = x at a2
  generalize bB b = y at b2
  rw [nI_toInt (by omega), nI_toInt (by omega)]
  exact ⟨fun h => by omega, fun h => by omega⟩
theorem LB_take {P : Nat → Prop} {M t : Nat} {r : Int32} (hM : M ≤ 128) (ht : t < M) (h : LB P M (t + 1) r) (hp : P t) (hb : r.toInt < 0 ∨ (f_L_bits (nI t)).toInt ≤ (f_L_bits r).toInt) : LB P M t (nI t) := by
  refine LBg_take hM ht h hp ?_
  rcases hb with hb | hb
  · left
    have q := LB_ge hM h
    exact qm_eq (by rw [show (-9 : Int32).toInt = -9 by decide]; omega)
  · right
    intro R hR e
    rw [e] at hb
    exact (bits_cmp (Nat.lt_of_lt_of_le ht hM) (Nat.lt_of_lt_of_le hR hM)).1 hb
theorem LB_skip {P : Nat → Prop} {M t : Nat} {r : Int32} (hM : M ≤ 128) (ht : t < M) (h : LB P M (t + 1) r) (hp : ¬ P t ∨ (0 ≤ r.toInt ∧ (f_L_bits r).toInt < (f_L_bits (nI t)).toInt)) : LB P M t r := by
  rcases hp with hp | ⟨h0, hp⟩
  · exact LBg_skip h (Or.inl hp) (Or.inl hp)
  · refine LBg_skip h (Or.inr (fun R hR e => ?_)) (Or.inr (fun e => by rw [e] at h0; exact absurd h0 (by decide)))
    rw [e] at hp
    exact (bits_cmp (Nat.lt_of_lt_of_le hR hM) (Nat.lt_of_lt_of_le ht hM)).2 hp
/-- the class's search -/
theorem fo_80 {B : Nat → Nat} (hBt : ∀ u, u < 128 → f_J6_bitCount_0f7a4 (nI u) = nI (B u) ∧ B u ≤ 7) (hBl : ∀ n : Nat, n < 8 → ∀ u : Nat, u < 2 ^ n → B u ≤ n) {x y : Int32} {s : Nat} (hs : s ≤ 7) (hst : Stq σ s) : ∀ (n t : Nat) (r c : Int32) (σ' : St), t ≤ 2 ^ s → 2 ^ s - t < n → (∀ q, q ≠ 6 → σ' q = σ q) → CB B (tk σ (ix x) (ix y) s) s t r c → (∃ c', CB B (tk σ (ix x) (ix y) s) s (2 ^ s) (lp_X3_forged_80 x y 1 0 (nI s) n r c (nI t) σ').1 c') ∧ ∀ q, q ≠ 6 → (lp_X3_forged_80 x y 1 0 (nI s) n r c (nI t) σ').2 q = σ q := by
  have p7 : 2 ^ s ≤ 128 := Nat.pow_le_pow_right (by decide) hs
  have esh : (1 : Int32) <<< (nI s &&& 31) = nI (2 ^ s) := by
    have T : ∀ s : Nat, s < 8 → (1 : Int32) <<< (nI s &&& 31) = nI (2 ^ s) := by decide +kernel
    exact T s (by omega)
  have j1 : ix 1 = 1 := rfl
  intro n
  induction n with
  | zero => intro t r c σ' _ h; exact absurd h (Nat.not_lt_zero _)
  | succ n ih =>
    intro t r c σ' ht hn h6 hB
    rw [lp_X3_forged_80, esh]
    by_cases h : t = 2 ^ s
    · rw [← h, if_pos ((nI_gE (by omega) (by omega)).mpr (Nat.le_refl _))]
      exact ⟨⟨c, hB⟩, h6⟩
    have et := hBt t (by omega)
    have htk := taken_iff (x := x) (y := y) hs (show t < 2 ^ s by omega) hst h6
    rw [if_neg (fun q => by have := (nI_gE (by omega) (by omega)).mp q; omega), j1, n1, et.1]
    have bl := hBl s (by omega) t (by omega)
    by_cases hc : c ≤ nI (B t)
    · rw [if_pos hc]
      refine ih (t + 1) r c σ' (by omega) (by omega) h6 ?_
      rcases hB with ⟨_, e2, _⟩ | ⟨R, hR, e1, e2, p1, b1⟩
      · rw [e2] at hc
        have := (nI_gE (k := B t) (n := s + 1) (by omega) (by omega)).mp hc
        omega
      · rw [e2] at hc
        have eR := hBt R (by omega)
        have hc' := (nI_gE (k := B t) (n := B R) (by omega) (by omega)).mp hc
        refine Or.inr ⟨R, by omega, e1, e2, p1, fun u hu => ?_⟩
        by_cases hut : u = t
        · subst hut; intro _; omega
        · exact b1 u (by omega)
    · rw [if_neg hc]
      by_cases hz : (f_X3_isTakenFor σ' x y 1 0 (nI t)).1 = 0
      · have hnt := htk.1.mp hz
        rw [if_pos hz]
        refine ih (t + 1) r c _ (by omega) (by omega) htk.2 ?_
        rcases hB with ⟨e1, e2, n2⟩ | ⟨R, hR, e1, e2, p1, b1⟩
        · refine Or.inl ⟨e1, e2, fun u hu => ?_⟩
          by_cases hut : u = t
          · subst hut; exact hnt
          · exact n2 u (by omega)
        · refine Or.inr ⟨R, by omega, e1, e2, p1, fun u hu => ?_⟩
          by_cases hut : u = t
          · subst hut; exact fun q => absurd q hnt
          · exact b1 u (by omega)
      · have ht' : tk σ (ix x) (ix y) s t := Classical.byContradiction (fun q => hz (htk.1.mpr q))
        rw [if_neg hz]
        refine ih (t + 1) (nI t) (nI (B t)) _ (by omega) (by omega) htk.2 (Or.inr ⟨t, by omega, rfl, rfl, ht', fun u hu => ?_⟩)
        by_cases hut : u = t
        · subst hut; exact fun _ => Or.inr ⟨rfl, Nat.le_refl _⟩
        intro q
        rcases hB with ⟨e1, e2, n2⟩ | ⟨R, hR, e1, e2, p1, b1⟩
        · exact absurd q (n2 u (by omega))
        · have eR := hBt R (by omega)
          have hc' : ¬ B R ≤ B t := fun z => hc (by rw [e2]; exact (nI_gE (by omega) (by omega)).mpr z)
          have := b1 u (by omega) q
          omega
theorem as_p {s : Nat} (hs : s ≤ 7) (hst : Stq σ s) : ∀ (n j : Nat), j ≤ s → s - j < n → lp_X3_areStoppers_2 σ 1 0 (nI s) n (nI j) = Sum.inr () := by
  have z1 : (1 : Int32).toInt = 1 := by decide
  have z9 : (9 : Int32).toInt = 9 := by decide
  have e14 : 13 + 1 = 14 := rfl
  intro n
  induction n with
  | zero => intro j _ h; exact absurd h (Nat.not_lt_zero _)
  | succ n ih =>
    intro j hj hn
    rw [lp_X3_areStoppers_2]
    by_cases h : j = s
    · subst h
      rw [if_pos ((nI_gE (by omega) (by omega)).mpr (Nat.le_refl _))]
    · obtain ⟨e1, e2⟩ := ix2k (k := j) (by omega)
      have q := hst j (by omega)
      rw [if_neg (fun q => by have := (nI_gE (by omega) (by omega)).mp q; omega), e14, e1, e2, if_neg (isSmell_p q.1.1 q.1.2), if_neg (qm_nlt (by omega)), if_pos (qm_le (by omega)), n1]
      exact ih (j + 1) (by omega) (by omega)
theorem twoS (h : Rl σ τ) {x y : Int32} (x0 : 0 ≤ x.toInt) (x1 : x.toInt < (σ 0 4).toInt) (y0 : 0 ≤ y.toInt) (y1 : y.toInt < (σ 0 4).toInt) (hxy : x ≠ y) : ¬ f_X3_areTwoSigns σ x y = 0 := by
  unfold f_X3_areTwoSigns
  rw [if_neg (isSign_p x0 x1), if_neg (isSign_p y0 y1), if_neg hxy]
  decide
theorem twoS_n {x : Int32} : f_X3_areTwoSigns σ x x = 0 := by
  unfold f_X3_areTwoSigns
  by_cases h : f_X3_isSign σ x = 0
  · rw [if_pos h]
  · rw [if_neg h, if_neg h, if_pos rfl]
def only (k c : Nat) : Prop := c = k
theorem u2m {s : Nat} (hs : s ≤ 100) : (2 * (nI s).toInt64).toInt = 2 * (s : Int) := by rw [l2_toInt, nI_toInt (by omega)]
/-- the law's best set is what the class answers -/
theorem q_forged (h : Rl σ τ) {x y : Int32} (x0 : 0 ≤ x.toInt) (x1 : x.toInt < (σ 0 4).toInt) (y0 : 0 ≤ y.toInt) (y1 : y.toInt < (σ 0 4).toInt) (hxy : x ≠ y) {s : Nat} (hs : s ≤ 7) (hst : Stq σ s) {r : Int32} (hL : LB (tk σ (ix x) (ix y) s) (2 ^ s) 0 r) : (f_X3_forged σ x y 1 1 0 (nI s)).1 = r ∧ Fx (only 6) σ (f_X3_forged σ x y 1 1 0 (nI s)).2 := by
  have z0 : (0 : Int32).toInt = 0 := by decide
  have z10 : (10 : Int32).toInt = 10 := by decide
  have es := nI_toInt (n := s) (by omega)
  have e2 := u2m (s := s) (by omega)
  have p7 : 2 ^ s ≤ 128 := Nat.pow_le_pow_right (by decide) hs
  have sp := (sp_e (i := 0) (n := 2 * (nI s).toInt64) h.sh (by omega) (by omega)).1 (by omega) (by omega) (by omega)
  have j1 : ix 1 = 1 := rfl
  have hst' : Stq (u2 σ 0 9 0) s := fun j hj => by rw [u2_nc (by omega)]; exact hst j hj
  have a2 : f_X3_areStoppers (u2 σ 0 9 0) 1 0 (nI s) = 1 := by
    unfold f_X3_areStoppers
    have q : lp_X3_areStoppers_2 (u2 σ 0 9 0) 1 0 (nI s) 200 0 = Sum.inr () := as_p hs hst' 200 0 (by omega) (by omega)
    rw [q]
  unfold f_X3_forged
  have hfu : ∃ N, N = 1100 ∧ 2 ^ s < N := ⟨1100, rfl, by omega⟩
  obtain ⟨N, eN, hN⟩ := hfu
  rw [← eN]
  rw [if_neg (twoS h x0 x1 y0 y1 hxy), sp]
  dsimp only
  rw [if_pos rfl, if_neg (qm_nlt (by omega)), j1, a2, if_neg (show ¬ (1 : Int32) = 0 by decide), show nI s + 1 = nI (s + 1) from n1]
  have et : ∀ u, tk (u2 σ 0 9 0) (ix x) (ix y) s u ↔ tk σ (ix x) (ix y) s u := fun u => by
    unfold tk tkS
    rw [u2_nk (show (7 : Nat) ≠ 9 by omega), u2_nc (show 25 + ix x ≠ 0 by omega), u2_nc (show 25 + ix y ≠ 0 by omega), u2_nc (show (14 : Nat) ≠ 0 by omega)]
  have eP : tk (u2 σ 0 9 0) (ix x) (ix y) s = tk σ (ix x) (ix y) s := funext (fun u => propext (et u))
  have q := fo_80 (B := bB) (fun u hu => ⟨(bits_tab u hu).1, (bits_tab u hu).2.1⟩) bits_le (σ := u2 σ 0 9 0) (x := x) (y := y) hs hst' N 0 (-9) (nI (s + 1)) (u2 σ 0 9 0) (Nat.zero_le _) (by rw [Nat.sub_zero]; exact hN) (fun _ _ => rfl) (Or.inl ⟨rfl, rfl, fun u hu => absurd hu (Nat.not_lt_zero _)⟩)
  rw [eP] at q
  obtain ⟨⟨c', q1⟩, q2⟩ := q
  have e0 : (nI 0 : Int32) = 0 := rfl
  rw [e0] at q1 q2
  generalize lp_X3_forged_80 x y 1 0 (nI s) N (-9) (nI (s + 1)) 0 (u2 σ 0 9 0) = zz at q1 q2 ⊢
  obtain ⟨v, T⟩ := zz
  have q2 : ∀ q : Nat, q ≠ 6 → T q = u2 σ 0 9 0 q := q2
  refine ⟨LB_CB hL q1, fun k hk => ?_, fun c c0 c6 => ?_⟩
  · show T 0 k = σ 0 k
    rw [q2 0 (by omega), u2_nk hk]
  · show T c = σ c
    rw [q2 c c6, u2_nc c0]
def none_ (_ : Nat) : Prop := False
theorem q_forged_xx {x a b c d : Int32} : (f_X3_forged σ x x a b c d) = (-1, u2 σ 0 9 0) := by
  unfold f_X3_forged
  generalize (1100 : Nat) = N
  rw [if_pos twoS_n]
  rfl
theorem q_forged_sp (h : Rl σ τ) {x y : Int32} (x0 : 0 ≤ x.toInt) (x1 : x.toInt < (σ 0 4).toInt) (y0 : 0 ≤ y.toInt) (y1 : y.toInt < (σ 0 4).toInt) (hxy : x ≠ y) {a b c d r f : Int32} (hr : ¬ r = 0) (hsp : f_X3_spanRefusal σ a b c (2 * d.toInt64) = (r, u2 σ 0 9 f)) : f_X3_forged σ x y a b c d = (r, u2 σ 0 9 f) := by
  unfold f_X3_forged
  generalize (1100 : Nat) = N
  rw [if_neg (twoS h x0 x1 y0 y1 hxy)]
  generalize f_X3_spanRefusal σ a b c (2 * d.toInt64) = z at hsp ⊢
  subst hsp
  exact if_neg hr
theorem q_forged_11 (h : Rl σ τ) {x y : Int32} (x0 : 0 ≤ x.toInt) (x1 : x.toInt < (σ 0 4).toInt) (y0 : 0 ≤ y.toInt) (y1 : y.toInt < (σ 0 4).toInt) (hxy : x ≠ y) : f_X3_forged σ x y 1 1 0 11 = (-2, u2 σ 0 9 0) := by
  have z0 : (0 : Int32).toInt = 0 := by decide
  have z : (2 * (11 : Int32).toInt64).toInt = 22 := by decide
  have sp := (sp_e (i := 0) (n := 2 * (11 : Int32).toInt64) h.sh (by omega) (by omega)).1 (by omega) (by omega) (by omega)
  unfold f_X3_forged
  generalize (1100 : Nat) = N
  rw [if_neg (twoS h x0 x1 y0 y1 hxy)]
  generalize f_X3_spanRefusal σ 1 1 0 (2 * (11 : Int32).toInt64) = z at sp ⊢
  subst sp
  exact (if_pos rfl).trans (if_pos (show (10 : Int32) < 11 by decide))
theorem q_forged_1 (h : Rl σ τ) {x y : Int32} (x0 : 0 ≤ x.toInt) (x1 : x.toInt < (σ 0 4).toInt) (y0 : 0 ≤ y.toInt) (y1 : y.toInt < (σ 0 4).toInt) (hxy : x ≠ y) (hz : σ 14 1 = 0) : f_X3_forged σ x y 1 1 0 1 = (-2, u2 σ 0 9 0) := by
  have z0 : (0 : Int32).toInt = 0 := by decide
  have z : (2 * (1 : Int32).toInt64).toInt = 2 := by decide
  have sp := (sp_e (i := 0) (n := 2 * (1 : Int32).toInt64) h.sh (by omega) (by omega)).1 (by omega) (by omega) (by omega)
  have j1 : ix 1 = 1 := rfl
  have q : lp_X3_areStoppers_2 (u2 σ 0 9 0) 1 0 1 200 0 = Sum.inl 0 := by
    have e14 : 13 + 1 = 14 := rfl
    have hfu : ∃ N, N + 1 = 200 := ⟨199, rfl⟩
    obtain ⟨N, eN⟩ := hfu
    rw [← eN, lp_X3_areStoppers_2, if_neg (by decide), e14]
    have e2 : ix (0 + 2 * 0 + 1) = 1 := by decide
    rw [e2, u2_nc (show (14 : Nat) ≠ 0 by omega), hz]
    by_cases hsm : f_X3_isSmell (σ 14 (ix (0 + 2 * 0))) = 0
    · rw [if_pos hsm]
    · rw [if_neg hsm, if_pos (by decide)]
  have q' : f_X3_areStoppers (u2 σ 0 9 0) 1 0 1 = 0 := by
    unfold f_X3_areStoppers
    rw [q]
  unfold f_X3_forged
  generalize (1100 : Nat) = N
  rw [if_neg (twoS h x0 x1 y0 y1 hxy)]
  generalize f_X3_spanRefusal σ 1 1 0 (2 * (1 : Int32).toInt64) = z at sp ⊢
  subst sp
  exact (if_pos rfl).trans ((if_neg (show ¬ (10 : Int32) < 1 by decide)).trans (if_pos q'))
end FO
end
