/-! ===== BEGIN printed: names, fields, word lists, decode rows ===== -/
def RX0 : String := "FanNet$Layer"
def TX0 : u_T := fun k => match k with
  | 0 => ("FanNet$Layer", "frames", "LFanNet$Row;", true)
  | 1 => ("FanNet$Layer", "ends", "LFanNet$Row;", true)
  | 2 => ("FanNet$Layer", "lastEnds", "LFanNet$Row;", true)
  | 3 => ("FanNet$Layer", "net", "LFanNet$Net;", false)
  | _ => ("FanNet$Layer", "level", "I", false)
def tyX0 : Nat → FieldType := fun k => match k with
  | 0 => .object "FanNet$Row"
  | 1 => .object "FanNet$Row"
  | 2 => .object "FanNet$Row"
  | 3 => .object "FanNet$Net"
  | _ => .int
abbrev wsX00 : List Cond := u_ws RX0 TX0 5
theorem nmX0 : ∀ a, a < 5 → ∀ b, b < 5 → a ≠ b → (TX0 a).2.1 ≠ (TX0 b).2.1 := by decide +kernel
theorem tyX0_ok : ∀ k, k < 5 → parseFieldDescriptor (TX0 k).2.2.1 = some (tyX0 k) := by decide +kernel
abbrev cX0_init : ByteArray := prog_2_method_1_code
def yX0_init : MethodName := ⟨RX0, "<init>", "(LFanNet$Net;)V"⟩
abbrev cX0_lay : ByteArray := prog_2_method_2_code
def yX0_lay : MethodName := ⟨RX0, "lay", "(LFanNet$Row;LFanNet$Net;)Z"⟩
abbrev cX0_beginFrame : ByteArray := prog_2_method_3_code
def yX0_beginFrame : MethodName := ⟨RX0, "beginFrame", "(III)V"⟩
abbrev cX0_layVariable : ByteArray := prog_2_method_4_code
def yX0_layVariable : MethodName := ⟨RX0, "layVariable", "(II)I"⟩
abbrev cX0_finish : ByteArray := prog_2_method_5_code
def yX0_finish : MethodName := ⟨RX0, "finish", "(II)V"⟩
abbrev cX0_finishFunction : ByteArray := prog_2_method_6_code
def yX0_finishFunction : MethodName := ⟨RX0, "finishFunction", "(I)V"⟩
abbrev cX0_bracketEnds : ByteArray := prog_2_method_7_code
def yX0_bracketEnds : MethodName := ⟨RX0, "bracketEnds", "(I)V"⟩
abbrev cX0_fanEnds : ByteArray := prog_2_method_8_code
def yX0_fanEnds : MethodName := ⟨RX0, "fanEnds", "(II)V"⟩
def RX1 : String := "FanNet$Net"
def TX1 : u_T := fun k => match k with
  | 0 => ("FanNet$Net", "kinds", "LFanNet$Row;", true)
  | 1 => ("FanNet$Net", "levels", "LFanNet$Row;", true)
  | 2 => ("FanNet$Net", "wires", "LFanNet$Row;", true)
  | 3 => ("FanNet$Net", "copies", "LFanNet$Row;", true)
  | 4 => ("FanNet$Net", "size", "I", false)
  | 5 => ("FanNet$Net", "noneFreeBelow", "I", false)
  | 6 => ("FanNet$Net", "noneUsedFrom", "I", false)
  | _ => ("FanNet$Net", "overfull", "Z", false)
def tyX1 : Nat → FieldType := fun k => match k with
  | 0 => .object "FanNet$Row"
  | 1 => .object "FanNet$Row"
  | 2 => .object "FanNet$Row"
  | 3 => .object "FanNet$Row"
  | 4 => .int
  | 5 => .int
  | 6 => .int
  | _ => .boolean
abbrev wsX10 : List Cond := u_ws RX1 TX1 8
theorem nmX1 : ∀ a, a < 8 → ∀ b, b < 8 → a ≠ b → (TX1 a).2.1 ≠ (TX1 b).2.1 := by decide +kernel
theorem tyX1_ok : ∀ k, k < 8 → parseFieldDescriptor (TX1 k).2.2.1 = some (tyX1 k) := by decide +kernel
abbrev cX1_init : ByteArray := prog_3_method_1_code
def yX1_init : MethodName := ⟨RX1, "<init>", "()V"⟩
abbrev cX1_clear : ByteArray := prog_3_method_2_code
def yX1_clear : MethodName := ⟨RX1, "clear", "()V"⟩
abbrev cX1_copy : ByteArray := prog_3_method_3_code
def yX1_copy : MethodName := ⟨RX1, "copy", "(LFanNet$Net;)V"⟩
abbrev cX1_size : ByteArray := prog_3_method_4_code
def yX1_size : MethodName := ⟨RX1, "size", "()I"⟩
abbrev cX1_isOverfull : ByteArray := prog_3_method_5_code
def yX1_isOverfull : MethodName := ⟨RX1, "isOverfull", "()Z"⟩
abbrev cX1_has : ByteArray := prog_3_method_6_code
def yX1_has : MethodName := ⟨RX1, "has", "(I)Z"⟩
abbrev cX1_kind : ByteArray := prog_3_method_7_code
def yX1_kind : MethodName := ⟨RX1, "kind", "(I)I"⟩
abbrev cX1_level : ByteArray := prog_3_method_8_code
def yX1_level : MethodName := ⟨RX1, "level", "(I)I"⟩
abbrev cX1_ports : ByteArray := prog_3_method_9_code
def yX1_ports : MethodName := ⟨RX1, "ports", "(I)I"⟩
abbrev cX1_wire : ByteArray := prog_3_method_10_code
def yX1_wire : MethodName := ⟨RX1, "wire", "(I)I"⟩
abbrev cX1_make : ByteArray := prog_3_method_11_code
def yX1_make : MethodName := ⟨RX1, "make", "(II)I"⟩
abbrev cX1_link : ByteArray := prog_3_method_12_code
def yX1_link : MethodName := ⟨RX1, "link", "(II)V"⟩
abbrev cX1_sizeOfKind : ByteArray := prog_3_method_13_code
def yX1_sizeOfKind : MethodName := ⟨RX1, "sizeOfKind", "(I)I"⟩
abbrev cX1_greatestLevel : ByteArray := prog_3_method_14_code
def yX1_greatestLevel : MethodName := ⟨RX1, "greatestLevel", "()I"⟩
abbrev cX1_activeWires : ByteArray := prog_3_method_15_code
def yX1_activeWires : MethodName := ⟨RX1, "activeWires", "()I"⟩
abbrev cX1_leastActive : ByteArray := prog_3_method_16_code
def yX1_leastActive : MethodName := ⟨RX1, "leastActive", "()I"⟩
abbrev cX1_greatestActive : ByteArray := prog_3_method_17_code
def yX1_greatestActive : MethodName := ⟨RX1, "greatestActive", "()I"⟩
abbrev cX1_activeNode : ByteArray := prog_3_method_18_code
def yX1_activeNode : MethodName := ⟨RX1, "activeNode", "(I)I"⟩
abbrev cX1_isLesserOfActive : ByteArray := prog_3_method_19_code
def yX1_isLesserOfActive : MethodName := ⟨RX1, "isLesserOfActive", "(I)Z"⟩
abbrev cX1_stepKind : ByteArray := prog_3_method_20_code
def yX1_stepKind : MethodName := ⟨RX1, "stepKind", "(II)I"⟩
abbrev cX1_isMover : ByteArray := prog_3_method_21_code
def yX1_isMover : MethodName := ⟨RX1, "isMover", "(I)Z"⟩
abbrev cX1_workOff : ByteArray := prog_3_method_22_code
def yX1_workOff : MethodName := ⟨RX1, "workOff", "(I)I"⟩
abbrev cX1_leads : ByteArray := prog_3_method_23_code
def yX1_leads : MethodName := ⟨RX1, "leads", "(II)Z"⟩
abbrev cX1_newNodes : ByteArray := prog_3_method_24_code
def yX1_newNodes : MethodName := ⟨RX1, "newNodes", "(III)I"⟩
abbrev cX1_lift : ByteArray := prog_3_method_25_code
def yX1_lift : MethodName := ⟨RX1, "lift", "(II)V"⟩
abbrev cX1_joinPorts : ByteArray := prog_3_method_26_code
def yX1_joinPorts : MethodName := ⟨RX1, "joinPorts", "()V"⟩
abbrev cX1_erase : ByteArray := prog_3_method_27_code
def yX1_erase : MethodName := ⟨RX1, "erase", "()V"⟩
abbrev cX1_goThrough : ByteArray := prog_3_method_28_code
def yX1_goThrough : MethodName := ⟨RX1, "goThrough", "()V"⟩
def RX2 : String := "FanNet$Plainly"
def TX2 : u_T := fun k => match k with
  | 0 => ("FanNet$Plainly", "depths", "LFanNet$Row;", true)
  | 1 => ("FanNet$Plainly", "argumentDepths", "LFanNet$Row;", true)
  | 2 => ("FanNet$Plainly", "now", "LFanNet$Row;", false)
  | 3 => ("FanNet$Plainly", "next", "LFanNet$Row;", false)
  | 4 => ("FanNet$Plainly", "rounds", "I", false)
  | _ => ("FanNet$Plainly", "tooMany", "Z", false)
def tyX2 : Nat → FieldType := fun k => match k with
  | 0 => .object "FanNet$Row"
  | 1 => .object "FanNet$Row"
  | 2 => .object "FanNet$Row"
  | 3 => .object "FanNet$Row"
  | 4 => .int
  | _ => .boolean
abbrev wsX20 : List Cond := u_ws RX2 TX2 6
theorem nmX2 : ∀ a, a < 6 → ∀ b, b < 6 → a ≠ b → (TX2 a).2.1 ≠ (TX2 b).2.1 := by decide +kernel
theorem tyX2_ok : ∀ k, k < 6 → parseFieldDescriptor (TX2 k).2.2.1 = some (tyX2 k) := by decide +kernel
abbrev cX2_init : ByteArray := prog_4_method_1_code
def yX2_init : MethodName := ⟨RX2, "<init>", "()V"⟩
abbrev cX2_term : ByteArray := prog_4_method_2_code
def yX2_term : MethodName := ⟨RX2, "term", "()LFanNet$Row;"⟩
abbrev cX2_rounds : ByteArray := prog_4_method_3_code
def yX2_rounds : MethodName := ⟨RX2, "rounds", "()I"⟩
abbrev cX2_tooMany : ByteArray := prog_4_method_4_code
def yX2_tooMany : MethodName := ⟨RX2, "tooMany", "()Z"⟩
abbrev cX2_isAtEnd : ByteArray := prog_4_method_5_code
def yX2_isAtEnd : MethodName := ⟨RX2, "isAtEnd", "()Z"⟩
abbrev cX2_workOff : ByteArray := prog_4_method_6_code
def yX2_workOff : MethodName := ⟨RX2, "workOff", "(LFanNet$Row;I)V"⟩
abbrev cX2_firstRedex : ByteArray := prog_4_method_7_code
def yX2_firstRedex : MethodName := ⟨RX2, "firstRedex", "()I"⟩
abbrev cX2_behindTerm : ByteArray := prog_4_method_8_code
def yX2_behindTerm : MethodName := ⟨RX2, "behindTerm", "(I)I"⟩
abbrev cX2_keep : ByteArray := prog_4_method_9_code
def yX2_keep : MethodName := ⟨RX2, "keep", "(II)Z"⟩
abbrev cX2_putIn : ByteArray := prog_4_method_10_code
def yX2_putIn : MethodName := ⟨RX2, "putIn", "(III)Z"⟩
abbrev cX2_putArgument : ByteArray := prog_4_method_11_code
def yX2_putArgument : MethodName := ⟨RX2, "putArgument", "(III)Z"⟩
abbrev cX2_depthBehind : ByteArray := prog_4_method_12_code
def yX2_depthBehind : MethodName := ⟨RX2, "depthBehind", "(IILFanNet$Row;)I"⟩
def RX3 : String := "FanNet$Row"
def TX3 : u_T := fun k => match k with
  | 0 => ("FanNet$Row", "most", "I", true)
  | 1 => ("FanNet$Row", "items", "[I", false)
  | _ => ("FanNet$Row", "size", "I", false)
def tyX3 : Nat → FieldType := fun k => match k with
  | 0 => .int
  | 1 => .array .int
  | _ => .int
abbrev wsX30 : List Cond := u_ws RX3 TX3 3
theorem nmX3 : ∀ a, a < 3 → ∀ b, b < 3 → a ≠ b → (TX3 a).2.1 ≠ (TX3 b).2.1 := by decide +kernel
theorem tyX3_ok : ∀ k, k < 3 → parseFieldDescriptor (TX3 k).2.2.1 = some (tyX3 k) := by decide +kernel
abbrev cX3_init : ByteArray := prog_5_method_1_code
def yX3_init : MethodName := ⟨RX3, "<init>", "(II)V"⟩
abbrev cX3_size : ByteArray := prog_5_method_2_code
def yX3_size : MethodName := ⟨RX3, "size", "()I"⟩
abbrev cX3_get : ByteArray := prog_5_method_3_code
def yX3_get : MethodName := ⟨RX3, "get", "(I)I"⟩
abbrev cX3_set : ByteArray := prog_5_method_4_code
def yX3_set : MethodName := ⟨RX3, "set", "(II)V"⟩
abbrev cX3_add : ByteArray := prog_5_method_5_code
def yX3_add : MethodName := ⟨RX3, "add", "(I)Z"⟩
abbrev cX3_insert : ByteArray := prog_5_method_6_code
def yX3_insert : MethodName := ⟨RX3, "insert", "(II)V"⟩
abbrev cX3_drop : ByteArray := prog_5_method_7_code
def yX3_drop : MethodName := ⟨RX3, "drop", "(I)V"⟩
abbrev cX3_takeLast : ByteArray := prog_5_method_8_code
def yX3_takeLast : MethodName := ⟨RX3, "takeLast", "()I"⟩
abbrev cX3_cut : ByteArray := prog_5_method_9_code
def yX3_cut : MethodName := ⟨RX3, "cut", "(I)V"⟩
abbrev cX3_fill : ByteArray := prog_5_method_10_code
def yX3_fill : MethodName := ⟨RX3, "fill", "(II)V"⟩
abbrev cX3_copy : ByteArray := prog_5_method_11_code
def yX3_copy : MethodName := ⟨RX3, "copy", "(LFanNet$Row;)V"⟩
abbrev cX3_alike : ByteArray := prog_5_method_12_code
def yX3_alike : MethodName := ⟨RX3, "alike", "(LFanNet$Row;)Z"⟩
def RX4 : String := "FanNet$Stacks"
def TX4 : u_T := fun k => match k with
  | 0 => ("FanNet$Stacks", "levels", "LFanNet$Row;", true)
  | 1 => ("FanNet$Stacks", "cells", "LFanNet$Row;", true)
  | _ => ("FanNet$Stacks", "trail", "LFanNet$Row;", true)
def tyX4 : Nat → FieldType := fun k => match k with
  | 0 => .object "FanNet$Row"
  | 1 => .object "FanNet$Row"
  | _ => .object "FanNet$Row"
abbrev wsX40 : List Cond := u_ws RX4 TX4 3
theorem nmX4 : ∀ a, a < 3 → ∀ b, b < 3 → a ≠ b → (TX4 a).2.1 ≠ (TX4 b).2.1 := by decide +kernel
theorem tyX4_ok : ∀ k, k < 3 → parseFieldDescriptor (TX4 k).2.2.1 = some (tyX4 k) := by decide +kernel
abbrev cX4_init : ByteArray := prog_6_method_1_code
def yX4_init : MethodName := ⟨RX4, "<init>", "()V"⟩
abbrev cX4_clear : ByteArray := prog_6_method_2_code
def yX4_clear : MethodName := ⟨RX4, "clear", "()V"⟩
abbrev cX4_at : ByteArray := prog_6_method_3_code
def yX4_at : MethodName := ⟨RX4, "at", "(I)I"⟩
abbrev cX4_put : ByteArray := prog_6_method_4_code
def yX4_put : MethodName := ⟨RX4, "put", "(II)V"⟩
abbrev cX4_take : ByteArray := prog_6_method_5_code
def yX4_take : MethodName := ⟨RX4, "take", "(I)I"⟩
abbrev cX4_open : ByteArray := prog_6_method_6_code
def yX4_open : MethodName := ⟨RX4, "open", "(I)V"⟩
abbrev cX4_close : ByteArray := prog_6_method_7_code
def yX4_close : MethodName := ⟨RX4, "close", "(I)Z"⟩
abbrev cX4_couple : ByteArray := prog_6_method_8_code
def yX4_couple : MethodName := ⟨RX4, "couple", "(I)V"⟩
abbrev cX4_uncouple : ByteArray := prog_6_method_9_code
def yX4_uncouple : MethodName := ⟨RX4, "uncouple", "(I)Z"⟩
abbrev cX4_mark : ByteArray := prog_6_method_10_code
def yX4_mark : MethodName := ⟨RX4, "mark", "()I"⟩
abbrev cX4_back : ByteArray := prog_6_method_11_code
def yX4_back : MethodName := ⟨RX4, "back", "(I)V"⟩
abbrev cX4_cell : ByteArray := prog_6_method_12_code
def yX4_cell : MethodName := ⟨RX4, "cell", "(III)I"⟩
abbrev cX4_set : ByteArray := prog_6_method_13_code
def yX4_set : MethodName := ⟨RX4, "set", "(II)V"⟩
abbrev cX4_insert : ByteArray := prog_6_method_14_code
def yX4_insert : MethodName := ⟨RX4, "insert", "(II)V"⟩
abbrev cX4_drop : ByteArray := prog_6_method_15_code
def yX4_drop : MethodName := ⟨RX4, "drop", "(I)V"⟩
abbrev cX4_undoing : ByteArray := prog_6_method_16_code
def yX4_undoing : MethodName := ⟨RX4, "undoing", "(III)I"⟩
def RX5 : String := "FanNet$Teller"
def TX5 : u_T := fun k => match k with
  | 0 => ("FanNet$Teller", "signs", "LFanNet$Row;", true)
  | _ => ("FanNet$Teller", "waiting", "LFanNet$Row;", true)
def tyX5 : Nat → FieldType := fun k => match k with
  | 0 => .object "FanNet$Row"
  | _ => .object "FanNet$Row"
abbrev wsX50 : List Cond := u_ws RX5 TX5 2
theorem nmX5 : ∀ a, a < 2 → ∀ b, b < 2 → a ≠ b → (TX5 a).2.1 ≠ (TX5 b).2.1 := by decide +kernel
theorem tyX5_ok : ∀ k, k < 2 → parseFieldDescriptor (TX5 k).2.2.1 = some (tyX5 k) := by decide +kernel
abbrev cX5_init : ByteArray := prog_7_method_1_code
def yX5_init : MethodName := ⟨RX5, "<init>", "()V"⟩
abbrev cX5_sign : ByteArray := prog_7_method_2_code
def yX5_sign : MethodName := ⟨RX5, "sign", "(I)I"⟩
abbrev cX5_saying : ByteArray := prog_7_method_3_code
def yX5_saying : MethodName := ⟨RX5, "saying", "(LFanNet$Row;)I"⟩
abbrev cX5_open : ByteArray := prog_7_method_4_code
def yX5_open : MethodName := ⟨RX5, "open", "()V"⟩
abbrev cX5_goOn : ByteArray := prog_7_method_5_code
def yX5_goOn : MethodName := ⟨RX5, "goOn", "(I)I"⟩
abbrev cX5_letter : ByteArray := prog_7_method_6_code
def yX5_letter : MethodName := ⟨RX5, "letter", "(I)I"⟩
def RX6 : String := "FanNet$Text"
def TX6 : u_T := fun k => match k with
  | 0 => ("FanNet$Text", "tokens", "LFanNet$Tokens;", true)
  | 1 => ("FanNet$Text", "code", "LFanNet$Row;", true)
  | 2 => ("FanNet$Text", "names", "LFanNet$Row;", true)
  | 3 => ("FanNet$Text", "around", "LFanNet$Row;", true)
  | 4 => ("FanNet$Text", "open", "LFanNet$Row;", true)
  | 5 => ("FanNet$Text", "backs", "LFanNet$Row;", true)
  | 6 => ("FanNet$Text", "state", "I", false)
  | 7 => ("FanNet$Text", "chain", "I", false)
  | 8 => ("FanNet$Text", "atoms", "I", false)
  | 9 => ("FanNet$Text", "codeStart", "I", false)
  | 10 => ("FanNet$Text", "told", "I", false)
  | _ => ("FanNet$Text", "naming", "Z", false)
def tyX6 : Nat → FieldType := fun k => match k with
  | 0 => .object "FanNet$Tokens"
  | 1 => .object "FanNet$Row"
  | 2 => .object "FanNet$Row"
  | 3 => .object "FanNet$Row"
  | 4 => .object "FanNet$Row"
  | 5 => .object "FanNet$Row"
  | 6 => .int
  | 7 => .int
  | 8 => .int
  | 9 => .int
  | 10 => .int
  | _ => .boolean
abbrev wsX60 : List Cond := u_ws RX6 TX6 12
theorem nmX6 : ∀ a, a < 12 → ∀ b, b < 12 → a ≠ b → (TX6 a).2.1 ≠ (TX6 b).2.1 := by decide +kernel
theorem tyX6_ok : ∀ k, k < 12 → parseFieldDescriptor (TX6 k).2.2.1 = some (tyX6 k) := by decide +kernel
abbrev cX6_init : ByteArray := prog_8_method_1_code
def yX6_init : MethodName := ⟨RX6, "<init>", "(LFanNet$Row;)V"⟩
abbrev cX6_place : ByteArray := prog_8_method_2_code
def yX6_place : MethodName := ⟨RX6, "place", "()I"⟩
abbrev cX6_findFault : ByteArray := prog_8_method_3_code
def yX6_findFault : MethodName := ⟨RX6, "findFault", "()I"⟩
abbrev cX6_putTerm : ByteArray := prog_8_method_4_code
def yX6_putTerm : MethodName := ⟨RX6, "putTerm", "(LFanNet$Row;)Z"⟩
abbrev cX6_putNumber : ByteArray := prog_8_method_5_code
def yX6_putNumber : MethodName := ⟨RX6, "putNumber", "(ILFanNet$Row;)V"⟩
abbrev cX6_partsOf : ByteArray := prog_8_method_6_code
def yX6_partsOf : MethodName := ⟨RX6, "partsOf", "(II)I"⟩
abbrev cX6_take : ByteArray := prog_8_method_7_code
def yX6_take : MethodName := ⟨RX6, "take", "()I"⟩
abbrev cX6_takeWord : ByteArray := prog_8_method_8_code
def yX6_takeWord : MethodName := ⟨RX6, "takeWord", "()I"⟩
abbrev cX6_takeNewName : ByteArray := prog_8_method_9_code
def yX6_takeNewName : MethodName := ⟨RX6, "takeNewName", "(Z)I"⟩
abbrev cX6_takeFunctionName : ByteArray := prog_8_method_10_code
def yX6_takeFunctionName : MethodName := ⟨RX6, "takeFunctionName", "()I"⟩
abbrev cX6_functionOfWord : ByteArray := prog_8_method_11_code
def yX6_functionOfWord : MethodName := ⟨RX6, "functionOfWord", "()I"⟩
abbrev cX6_nameOfWord : ByteArray := prog_8_method_12_code
def yX6_nameOfWord : MethodName := ⟨RX6, "nameOfWord", "()I"⟩
abbrev cX6_takeNumber : ByteArray := prog_8_method_13_code
def yX6_takeNumber : MethodName := ⟨RX6, "takeNumber", "()I"⟩
abbrev cX6_takeOpening : ByteArray := prog_8_method_14_code
def yX6_takeOpening : MethodName := ⟨RX6, "takeOpening", "()I"⟩
abbrev cX6_takeClosing : ByteArray := prog_8_method_15_code
def yX6_takeClosing : MethodName := ⟨RX6, "takeClosing", "()I"⟩
abbrev cX6_takeFunction : ByteArray := prog_8_method_16_code
def yX6_takeFunction : MethodName := ⟨RX6, "takeFunction", "()I"⟩
abbrev cX6_takePoint : ByteArray := prog_8_method_17_code
def yX6_takePoint : MethodName := ⟨RX6, "takePoint", "()I"⟩
abbrev cX6_takeSemicolon : ByteArray := prog_8_method_18_code
def yX6_takeSemicolon : MethodName := ⟨RX6, "takeSemicolon", "()I"⟩
abbrev cX6_beginItem : ByteArray := prog_8_method_19_code
def yX6_beginItem : MethodName := ⟨RX6, "beginItem", "()V"⟩
abbrev cX6_isAtomDue : ByteArray := prog_8_method_20_code
def yX6_isAtomDue : MethodName := ⟨RX6, "isAtomDue", "()Z"⟩
abbrev cX6_isWhole : ByteArray := prog_8_method_21_code
def yX6_isWhole : MethodName := ⟨RX6, "isWhole", "()Z"⟩
abbrev cX6_beginAtom : ByteArray := prog_8_method_22_code
def yX6_beginAtom : MethodName := ⟨RX6, "beginAtom", "()V"⟩
def RX7 : String := "FanNet$Tokens"
def TX7 : u_T := fun k => match k with
  | 0 => ("FanNet$Tokens", "bytes", "LFanNet$Row;", true)
  | 1 => ("FanNet$Tokens", "sort", "I", false)
  | 2 => ("FanNet$Tokens", "start", "I", false)
  | _ => ("FanNet$Tokens", "end", "I", false)
def tyX7 : Nat → FieldType := fun k => match k with
  | 0 => .object "FanNet$Row"
  | 1 => .int
  | 2 => .int
  | _ => .int
abbrev wsX70 : List Cond := u_ws RX7 TX7 4
theorem nmX7 : ∀ a, a < 4 → ∀ b, b < 4 → a ≠ b → (TX7 a).2.1 ≠ (TX7 b).2.1 := by decide +kernel
theorem tyX7_ok : ∀ k, k < 4 → parseFieldDescriptor (TX7 k).2.2.1 = some (tyX7 k) := by decide +kernel
abbrev cX7_init : ByteArray := prog_9_method_1_code
def yX7_init : MethodName := ⟨RX7, "<init>", "(LFanNet$Row;)V"⟩
abbrev cX7_begin : ByteArray := prog_9_method_2_code
def yX7_begin : MethodName := ⟨RX7, "begin", "()V"⟩
abbrev cX7_sort : ByteArray := prog_9_method_3_code
def yX7_sort : MethodName := ⟨RX7, "sort", "()I"⟩
abbrev cX7_start : ByteArray := prog_9_method_4_code
def yX7_start : MethodName := ⟨RX7, "start", "()I"⟩
abbrev cX7_end : ByteArray := prog_9_method_5_code
def yX7_end : MethodName := ⟨RX7, "end", "()I"⟩
abbrev cX7_figure : ByteArray := prog_9_method_6_code
def yX7_figure : MethodName := ⟨RX7, "figure", "()I"⟩
abbrev cX7_advance : ByteArray := prog_9_method_7_code
def yX7_advance : MethodName := ⟨RX7, "advance", "()V"⟩
abbrev cX7_equalsSignIsNext : ByteArray := prog_9_method_8_code
def yX7_equalsSignIsNext : MethodName := ⟨RX7, "equalsSignIsNext", "()Z"⟩
abbrev cX7_isWord : ByteArray := prog_9_method_9_code
def yX7_isWord : MethodName := ⟨RX7, "isWord", "(II)Z"⟩
abbrev cX7_behindBlanks : ByteArray := prog_9_method_10_code
def yX7_behindBlanks : MethodName := ⟨RX7, "behindBlanks", "(I)I"⟩
abbrev cX7_sortOf : ByteArray := prog_9_method_11_code
def yX7_sortOf : MethodName := ⟨RX7, "sortOf", "(I)I"⟩
def RX8 : String := "FanNet$Walk"
def TX8 : u_T := fun k => match k with
  | 0 => ("FanNet$Walk", "stacks", "LFanNet$Stacks;", true)
  | 1 => ("FanNet$Walk", "term", "LFanNet$Row;", true)
  | 2 => ("FanNet$Walk", "waiting", "LFanNet$Row;", true)
  | 3 => ("FanNet$Walk", "functions", "LFanNet$Row;", true)
  | 4 => ("FanNet$Walk", "stacksThen", "LFanNet$Row;", true)
  | 5 => ("FanNet$Walk", "wires", "I", false)
  | 6 => ("FanNet$Walk", "wantedNode", "I", false)
  | 7 => ("FanNet$Walk", "wantedWires", "I", false)
  | _ => ("FanNet$Walk", "read", "Z", false)
def tyX8 : Nat → FieldType := fun k => match k with
  | 0 => .object "FanNet$Stacks"
  | 1 => .object "FanNet$Row"
  | 2 => .object "FanNet$Row"
  | 3 => .object "FanNet$Row"
  | 4 => .object "FanNet$Row"
  | 5 => .int
  | 6 => .int
  | 7 => .int
  | _ => .boolean
abbrev wsX80 : List Cond := u_ws RX8 TX8 9
theorem nmX8 : ∀ a, a < 9 → ∀ b, b < 9 → a ≠ b → (TX8 a).2.1 ≠ (TX8 b).2.1 := by decide +kernel
theorem tyX8_ok : ∀ k, k < 9 → parseFieldDescriptor (TX8 k).2.2.1 = some (tyX8 k) := by decide +kernel
abbrev cX8_init : ByteArray := prog_10_method_1_code
def yX8_init : MethodName := ⟨RX8, "<init>", "()V"⟩
abbrev cX8_isRead : ByteArray := prog_10_method_2_code
def yX8_isRead : MethodName := ⟨RX8, "isRead", "()Z"⟩
abbrev cX8_term : ByteArray := prog_10_method_3_code
def yX8_term : MethodName := ⟨RX8, "term", "()LFanNet$Row;"⟩
abbrev cX8_wires : ByteArray := prog_10_method_4_code
def yX8_wires : MethodName := ⟨RX8, "wires", "()I"⟩
abbrev cX8_wantedNode : ByteArray := prog_10_method_5_code
def yX8_wantedNode : MethodName := ⟨RX8, "wantedNode", "()I"⟩
abbrev cX8_wantedWires : ByteArray := prog_10_method_6_code
def yX8_wantedWires : MethodName := ⟨RX8, "wantedWires", "()I"⟩
abbrev cX8_go : ByteArray := prog_10_method_7_code
def yX8_go : MethodName := ⟨RX8, "go", "(LFanNet$Net;Z)V"⟩
abbrev cX8_lookWhetherWanted : ByteArray := prog_10_method_8_code
def yX8_lookWhetherWanted : MethodName := ⟨RX8, "lookWhetherWanted", "(II)V"⟩
abbrev cX8_pass : ByteArray := prog_10_method_9_code
def yX8_pass : MethodName := ⟨RX8, "pass", "(LFanNet$Net;I)I"⟩
abbrev cX8_beginFunction : ByteArray := prog_10_method_10_code
def yX8_beginFunction : MethodName := ⟨RX8, "beginFunction", "(II)Z"⟩
abbrev cX8_beginApplication : ByteArray := prog_10_method_11_code
def yX8_beginApplication : MethodName := ⟨RX8, "beginApplication", "(I)Z"⟩
abbrev cX8_readVariable : ByteArray := prog_10_method_12_code
def yX8_readVariable : MethodName := ⟨RX8, "readVariable", "(II)Z"⟩
abbrev cX8_isAsThen : ByteArray := prog_10_method_13_code
def yX8_isAsThen : MethodName := ⟨RX8, "isAsThen", "(II)Z"⟩
abbrev cX8_nextArgument : ByteArray := prog_10_method_14_code
def yX8_nextArgument : MethodName := ⟨RX8, "nextArgument", "()I"⟩
def RX9 : String := "FanNet"
def TX9 : u_T := fun k => match k with
  | 0 => ("FanNet", "tape", "LFanNet$Row;", true)
  | 1 => ("FanNet", "text", "LFanNet$Text;", true)
  | 2 => ("FanNet", "walk", "LFanNet$Walk;", true)
  | 3 => ("FanNet", "plainly", "LFanNet$Plainly;", true)
  | 4 => ("FanNet", "teller", "LFanNet$Teller;", true)
  | 5 => ("FanNet", "toldTerm", "LFanNet$Row;", true)
  | 6 => ("FanNet", "newTerm", "LFanNet$Row;", true)
  | 7 => ("FanNet", "plainTerm", "LFanNet$Row;", true)
  | 8 => ("FanNet", "stepsByKind", "LFanNet$Row;", true)
  | 9 => ("FanNet", "trials", "LFanNet$Row;", true)
  | 10 => ("FanNet", "net", "LFanNet$Net;", false)
  | 11 => ("FanNet", "spare", "LFanNet$Net;", false)
  | 12 => ("FanNet", "layer", "LFanNet$Layer;", true)
  | 13 => ("FanNet", "faultPlace", "I", false)
  | 14 => ("FanNet", "mostNodes", "I", false)
  | 15 => ("FanNet", "plainRounds", "I", false)
  | 16 => ("FanNet", "plainKnown", "Z", false)
  | _ => ("FanNet", "readKnown", "Z", false)
def tyX9 : Nat → FieldType := fun k => match k with
  | 0 => .object "FanNet$Row"
  | 1 => .object "FanNet$Text"
  | 2 => .object "FanNet$Walk"
  | 3 => .object "FanNet$Plainly"
  | 4 => .object "FanNet$Teller"
  | 5 => .object "FanNet$Row"
  | 6 => .object "FanNet$Row"
  | 7 => .object "FanNet$Row"
  | 8 => .object "FanNet$Row"
  | 9 => .object "FanNet$Row"
  | 10 => .object "FanNet$Net"
  | 11 => .object "FanNet$Net"
  | 12 => .object "FanNet$Layer"
  | 13 => .int
  | 14 => .int
  | 15 => .int
  | 16 => .boolean
  | _ => .boolean
abbrev wsX90 : List Cond := u_ws RX9 TX9 18
theorem nmX9 : ∀ a, a < 18 → ∀ b, b < 18 → a ≠ b → (TX9 a).2.1 ≠ (TX9 b).2.1 := by decide +kernel
theorem tyX9_ok : ∀ k, k < 18 → parseFieldDescriptor (TX9 k).2.2.1 = some (tyX9 k) := by decide +kernel
abbrev cX9_init : ByteArray := prog_1_method_1_code
def yX9_init : MethodName := ⟨RX9, "<init>", "()V"⟩
abbrev cX9_feed : ByteArray := prog_1_method_2_code
def yX9_feed : MethodName := ⟨RX9, "feed", "(IIIII)I"⟩
abbrev cX9_tell : ByteArray := prog_1_method_3_code
def yX9_tell : MethodName := ⟨RX9, "tell", "(I)I"⟩
abbrev cX9_fault : ByteArray := prog_1_method_4_code
def yX9_fault : MethodName := ⟨RX9, "fault", "()I"⟩
abbrev cX9_again : ByteArray := prog_1_method_5_code
def yX9_again : MethodName := ⟨RX9, "again", "()I"⟩
abbrev cX9_step : ByteArray := prog_1_method_6_code
def yX9_step : MethodName := ⟨RX9, "step", "(I)I"⟩
abbrev cX9_run : ByteArray := prog_1_method_7_code
def yX9_run : MethodName := ⟨RX9, "run", "(II)I"⟩
abbrev cX9_count : ByteArray := prog_1_method_8_code
def yX9_count : MethodName := ⟨RX9, "count", "(I)I"⟩
abbrev cX9_node : ByteArray := prog_1_method_9_code
def yX9_node : MethodName := ⟨RX9, "node", "(II)I"⟩
abbrev cX9_active : ByteArray := prog_1_method_10_code
def yX9_active : MethodName := ⟨RX9, "active", "(II)I"⟩
abbrev cX9_wanted : ByteArray := prog_1_method_11_code
def yX9_wanted : MethodName := ⟨RX9, "wanted", "(I)I"⟩
abbrev cX9_part : ByteArray := prog_1_method_12_code
def yX9_part : MethodName := ⟨RX9, "part", "(II)I"⟩
abbrev cX9_say : ByteArray := prog_1_method_13_code
def yX9_say : MethodName := ⟨RX9, "say", "(I)I"⟩
abbrev cX9_said : ByteArray := prog_1_method_14_code
def yX9_said : MethodName := ⟨RX9, "said", "(I)I"⟩
abbrev cX9_same : ByteArray := prog_1_method_15_code
def yX9_same : MethodName := ⟨RX9, "same", "(II)Z"⟩
abbrev cX9_plain : ByteArray := prog_1_method_16_code
def yX9_plain : MethodName := ⟨RX9, "plain", "(I)I"⟩
abbrev cX9_redexes : ByteArray := prog_1_method_17_code
def yX9_redexes : MethodName := ⟨RX9, "redexes", "(I)I"⟩
abbrev cX9_trial : ByteArray := prog_1_method_18_code
def yX9_trial : MethodName := ⟨RX9, "trial", "(II)I"⟩
abbrev cX9_feedNumber : ByteArray := prog_1_method_19_code
def yX9_feedNumber : MethodName := ⟨RX9, "feedNumber", "(I)V"⟩
abbrev cX9_takeProgram : ByteArray := prog_1_method_20_code
def yX9_takeProgram : MethodName := ⟨RX9, "takeProgram", "()Z"⟩
abbrev cX9_beginAnew : ByteArray := prog_1_method_21_code
def yX9_beginAnew : MethodName := ⟨RX9, "beginAnew", "()V"⟩
abbrev cX9_forget : ByteArray := prog_1_method_22_code
def yX9_forget : MethodName := ⟨RX9, "forget", "()V"⟩
abbrev cX9_noteStep : ByteArray := prog_1_method_23_code
def yX9_noteStep : MethodName := ⟨RX9, "noteStep", "(I)V"⟩
abbrev cX9_workOn : ByteArray := prog_1_method_24_code
def yX9_workOn : MethodName := ⟨RX9, "workOn", "(LFanNet$Net;I)I"⟩
abbrev cX9_termOf : ByteArray := prog_1_method_25_code
def yX9_termOf : MethodName := ⟨RX9, "termOf", "(I)LFanNet$Row;"⟩
abbrev cX9_sizeOf : ByteArray := prog_1_method_26_code
def yX9_sizeOf : MethodName := ⟨RX9, "sizeOf", "(LFanNet$Row;)I"⟩
abbrev cX9_isRedex : ByteArray := prog_1_method_27_code
def yX9_isRedex : MethodName := ⟨RX9, "isRedex", "(LFanNet$Row;I)Z"⟩
abbrev cX9_refuseOtherWays : ByteArray := prog_1_method_28_code
def yX9_refuseOtherWays : MethodName := ⟨RX9, "refuseOtherWays", "(I)V"⟩
abbrev cX9_refuseOtherTerms : ByteArray := prog_1_method_29_code
def yX9_refuseOtherTerms : MethodName := ⟨RX9, "refuseOtherTerms", "(I)V"⟩
def RX10 : String := "FanNetModel"
def TX10 : u_T := fun k => match k with
  | 0 => ("FanNetModel", "thrown", "I", false)
  | 1 => ("FanNetModel", "terms", "[I", true)
  | 2 => ("FanNetModel", "termMany", "[I", true)
  | 3 => ("FanNetModel", "tape", "[I", true)
  | 4 => ("FanNetModel", "taped", "I", false)
  | 5 => ("FanNetModel", "faultPlace", "I", false)
  | 6 => ("FanNetModel", "fault", "I", false)
  | 7 => ("FanNetModel", "size", "I", false)
  | 8 => ("FanNetModel", "at", "I", false)
  | 9 => ("FanNetModel", "token", "I", false)
  | 10 => ("FanNetModel", "place", "I", false)
  | 11 => ("FanNetModel", "value", "I", false)
  | 12 => ("FanNetModel", "digits", "I", false)
  | 13 => ("FanNetModel", "word", "J", false)
  | 14 => ("FanNetModel", "letters", "I", false)
  | 15 => ("FanNetModel", "names", "[J", true)
  | 16 => ("FanNetModel", "nameParts", "[I", true)
  | 17 => ("FanNetModel", "nameMany", "[I", true)
  | 18 => ("FanNetModel", "nameCount", "I", false)
  | 19 => ("FanNetModel", "bound", "[J", true)
  | 20 => ("FanNetModel", "boundMany", "I", false)
  | 21 => ("FanNetModel", "opened", "I", false)
  | 22 => ("FanNetModel", "reading", "[I", true)
  | 23 => ("FanNetModel", "readMany", "I", false)
  | 24 => ("FanNetModel", "kind", "[I", true)
  | 25 => ("FanNetModel", "level", "[I", true)
  | 26 => ("FanNetModel", "wire", "[I", true)
  | 27 => ("FanNetModel", "nodes", "I", false)
  | 28 => ("FanNetModel", "beyond", "I", false)
  | 29 => ("FanNetModel", "ends", "[I", true)
  | 30 => ("FanNetModel", "termAt", "I", false)
  | 31 => ("FanNetModel", "stepsOf", "[I", true)
  | 32 => ("FanNetModel", "mostNodes", "I", false)
  | 33 => ("FanNetModel", "oldKind", "[I", true)
  | 34 => ("FanNetModel", "oldLevel", "[I", true)
  | 35 => ("FanNetModel", "oldWire", "[I", true)
  | 36 => ("FanNetModel", "oldNodes", "I", false)
  | 37 => ("FanNetModel", "oldBeyond", "I", false)
  | 38 => ("FanNetModel", "oldMany", "I", false)
  | 39 => ("FanNetModel", "oldTerm", "[I", true)
  | 40 => ("FanNetModel", "copies", "[I", true)
  | 41 => ("FanNetModel", "passed", "[I", true)
  | 42 => ("FanNetModel", "tried", "[I", true)
  | 43 => ("FanNetModel", "thingSign", "[I", true)
  | 44 => ("FanNetModel", "thingOf", "[I", true)
  | 45 => ("FanNetModel", "thingOther", "[I", true)
  | 46 => ("FanNetModel", "nextThing", "[I", true)
  | 47 => ("FanNetModel", "firstThing", "[I", true)
  | 48 => ("FanNetModel", "things", "I", false)
  | 49 => ("FanNetModel", "stacks", "[I", true)
  | 50 => ("FanNetModel", "stackMany", "I", false)
  | 51 => ("FanNetModel", "waitNode", "[I", true)
  | 52 => ("FanNetModel", "waitAround", "[I", true)
  | 53 => ("FanNetModel", "waitFrom", "[I", true)
  | 54 => ("FanNetModel", "waitMany", "[I", true)
  | 55 => ("FanNetModel", "waiting", "I", false)
  | 56 => ("FanNetModel", "aroundNode", "[I", true)
  | 57 => ("FanNetModel", "aroundFrom", "[I", true)
  | 58 => ("FanNetModel", "aroundMany", "[I", true)
  | 59 => ("FanNetModel", "around", "I", false)
  | 60 => ("FanNetModel", "keptWaiting", "[I", true)
  | 61 => ("FanNetModel", "keptAround", "[I", true)
  | 62 => ("FanNetModel", "walked", "I", false)
  | 63 => ("FanNetModel", "wantedNode", "I", false)
  | 64 => ("FanNetModel", "wantedAt", "I", false)
  | 65 => ("FanNetModel", "isRead", "Z", false)
  | 66 => ("FanNetModel", "made", "[I", true)
  | 67 => ("FanNetModel", "madeMany", "I", false)
  | 68 => ("FanNetModel", "depthEnds", "[I", true)
  | 69 => ("FanNetModel", "bodyEnds", "[I", true)
  | 70 => ("FanNetModel", "rounds", "I", false)
  | 71 => ("FanNetModel", "isPlain", "Z", false)
  | 72 => ("FanNetModel", "said", "[B", true)
  | 73 => ("FanNetModel", "saidMany", "I", false)
  | 74 => ("FanNetModel", "toSay", "[I", true)
  | _ => ("FanNetModel", "toSayMany", "I", false)
def tyX10 : Nat → FieldType := fun k => match k with
  | 0 => .int
  | 1 => .array .int
  | 2 => .array .int
  | 3 => .array .int
  | 4 => .int
  | 5 => .int
  | 6 => .int
  | 7 => .int
  | 8 => .int
  | 9 => .int
  | 10 => .int
  | 11 => .int
  | 12 => .int
  | 13 => .long
  | 14 => .int
  | 15 => .array .long
  | 16 => .array .int
  | 17 => .array .int
  | 18 => .int
  | 19 => .array .long
  | 20 => .int
  | 21 => .int
  | 22 => .array .int
  | 23 => .int
  | 24 => .array .int
  | 25 => .array .int
  | 26 => .array .int
  | 27 => .int
  | 28 => .int
  | 29 => .array .int
  | 30 => .int
  | 31 => .array .int
  | 32 => .int
  | 33 => .array .int
  | 34 => .array .int
  | 35 => .array .int
  | 36 => .int
  | 37 => .int
  | 38 => .int
  | 39 => .array .int
  | 40 => .array .int
  | 41 => .array .int
  | 42 => .array .int
  | 43 => .array .int
  | 44 => .array .int
  | 45 => .array .int
  | 46 => .array .int
  | 47 => .array .int
  | 48 => .int
  | 49 => .array .int
  | 50 => .int
  | 51 => .array .int
  | 52 => .array .int
  | 53 => .array .int
  | 54 => .array .int
  | 55 => .int
  | 56 => .array .int
  | 57 => .array .int
  | 58 => .array .int
  | 59 => .int
  | 60 => .array .int
  | 61 => .array .int
  | 62 => .int
  | 63 => .int
  | 64 => .int
  | 65 => .boolean
  | 66 => .array .int
  | 67 => .int
  | 68 => .array .int
  | 69 => .array .int
  | 70 => .int
  | 71 => .boolean
  | 72 => .array .byte
  | 73 => .int
  | 74 => .array .int
  | _ => .int
abbrev wsX100 : List Cond := u_ws RX10 TX10 76
theorem nmX10 : ∀ a, a < 76 → ∀ b, b < 76 → a ≠ b → (TX10 a).2.1 ≠ (TX10 b).2.1 := by decide +kernel
theorem tyX10_ok : ∀ k, k < 76 → parseFieldDescriptor (TX10 k).2.2.1 = some (tyX10 k) := by decide +kernel
abbrev cX10_init : ByteArray := prog_12_method_1_code
def yX10_init : MethodName := ⟨RX10, "<init>", "()V"⟩
abbrev cX10_thrown : ByteArray := prog_12_method_2_code
def yX10_thrown : MethodName := ⟨RX10, "thrown", "()I"⟩
abbrev cX10_right : ByteArray := prog_12_method_3_code
def yX10_right : MethodName := ⟨RX10, "right", "(ZI)Z"⟩
abbrev cX10_isIn : ByteArray := prog_12_method_4_code
def yX10_isIn : MethodName := ⟨RX10, "isIn", "(III)Z"⟩
abbrev cX10_behind : ByteArray := prog_12_method_5_code
def yX10_behind : MethodName := ⟨RX10, "behind", "(II)I"⟩
abbrev cX10_comes : ByteArray := prog_12_method_6_code
def yX10_comes : MethodName := ⟨RX10, "comes", "(I)V"⟩
abbrev cX10_feed : ByteArray := prog_12_method_7_code
def yX10_feed : MethodName := ⟨RX10, "feed", "(IIIII)I"⟩
abbrev cX10_byteAt : ByteArray := prog_12_method_8_code
def yX10_byteAt : MethodName := ⟨RX10, "byteAt", "(I)I"⟩
abbrev cX10_isLetter : ByteArray := prog_12_method_9_code
def yX10_isLetter : MethodName := ⟨RX10, "isLetter", "(I)Z"⟩
abbrev cX10_isFigure : ByteArray := prog_12_method_10_code
def yX10_isFigure : MethodName := ⟨RX10, "isFigure", "(I)Z"⟩
abbrev cX10_blanksFrom : ByteArray := prog_12_method_11_code
def yX10_blanksFrom : MethodName := ⟨RX10, "blanksFrom", "(I)I"⟩
abbrev cX10_goes : ByteArray := prog_12_method_12_code
def yX10_goes : MethodName := ⟨RX10, "goes", "()V"⟩
abbrev cX10_fine : ByteArray := prog_12_method_13_code
def yX10_fine : MethodName := ⟨RX10, "fine", "()Z"⟩
abbrev cX10_check : ByteArray := prog_12_method_14_code
def yX10_check : MethodName := ⟨RX10, "check", "(ZI)Z"⟩
abbrev cX10_isSign : ByteArray := prog_12_method_15_code
def yX10_isSign : MethodName := ⟨RX10, "isSign", "(I)Z"⟩
abbrev cX10_must : ByteArray := prog_12_method_16_code
def yX10_must : MethodName := ⟨RX10, "must", "(I)V"⟩
abbrev cX10_emits : ByteArray := prog_12_method_17_code
def yX10_emits : MethodName := ⟨RX10, "emits", "(I)V"⟩
abbrev cX10_emitsAhead : ByteArray := prog_12_method_18_code
def yX10_emitsAhead : MethodName := ⟨RX10, "emitsAhead", "(II)V"⟩
abbrev cX10_nameOf : ByteArray := prog_12_method_19_code
def yX10_nameOf : MethodName := ⟨RX10, "nameOf", "(J)I"⟩
abbrev cX10_putsIn : ByteArray := prog_12_method_20_code
def yX10_putsIn : MethodName := ⟨RX10, "putsIn", "(I)V"⟩
abbrev cX10_readsName : ByteArray := prog_12_method_21_code
def yX10_readsName : MethodName := ⟨RX10, "readsName", "()V"⟩
abbrev cX10_readsNumber : ByteArray := prog_12_method_22_code
def yX10_readsNumber : MethodName := ⟨RX10, "readsNumber", "()V"⟩
abbrev cX10_isAtom : ByteArray := prog_12_method_23_code
def yX10_isAtom : MethodName := ⟨RX10, "isAtom", "()Z"⟩
abbrev cX10_readsAtom : ByteArray := prog_12_method_24_code
def yX10_readsAtom : MethodName := ⟨RX10, "readsAtom", "()V"⟩
abbrev cX10_readsFunction : ByteArray := prog_12_method_25_code
def yX10_readsFunction : MethodName := ⟨RX10, "readsFunction", "()V"⟩
abbrev cX10_readsTerm : ByteArray := prog_12_method_26_code
def yX10_readsTerm : MethodName := ⟨RX10, "readsTerm", "()V"⟩
abbrev cX10_isTelling : ByteArray := prog_12_method_27_code
def yX10_isTelling : MethodName := ⟨RX10, "isTelling", "()Z"⟩
abbrev cX10_readsTelling : ByteArray := prog_12_method_28_code
def yX10_readsTelling : MethodName := ⟨RX10, "readsTelling", "()V"⟩
abbrev cX10_readsAll : ByteArray := prog_12_method_29_code
def yX10_readsAll : MethodName := ⟨RX10, "readsAll", "()V"⟩
abbrev cX10_tell : ByteArray := prog_12_method_30_code
def yX10_tell : MethodName := ⟨RX10, "tell", "(I)I"⟩
abbrev cX10_fault : ByteArray := prog_12_method_31_code
def yX10_fault : MethodName := ⟨RX10, "fault", "()I"⟩
abbrev cX10_portsOf : ByteArray := prog_12_method_32_code
def yX10_portsOf : MethodName := ⟨RX10, "portsOf", "(I)I"⟩
abbrev cX10_isNode : ByteArray := prog_12_method_33_code
def yX10_isNode : MethodName := ⟨RX10, "isNode", "(I)Z"⟩
abbrev cX10_newNode : ByteArray := prog_12_method_34_code
def yX10_newNode : MethodName := ⟨RX10, "newNode", "(II)I"⟩
abbrev cX10_wires : ByteArray := prog_12_method_35_code
def yX10_wires : MethodName := ⟨RX10, "wires", "(II)V"⟩
abbrev cX10_endAt : ByteArray := prog_12_method_36_code
def yX10_endAt : MethodName := ⟨RX10, "endAt", "(II)I"⟩
abbrev cX10_laysPart : ByteArray := prog_12_method_37_code
def yX10_laysPart : MethodName := ⟨RX10, "laysPart", "(III)I"⟩
abbrev cX10_laysFunction : ByteArray := prog_12_method_38_code
def yX10_laysFunction : MethodName := ⟨RX10, "laysFunction", "(III)I"⟩
abbrev cX10_laysApplication : ByteArray := prog_12_method_39_code
def yX10_laysApplication : MethodName := ⟨RX10, "laysApplication", "(III)I"⟩
abbrev cX10_laysNet : ByteArray := prog_12_method_40_code
def yX10_laysNet : MethodName := ⟨RX10, "laysNet", "()V"⟩
abbrev cX10_begins : ByteArray := prog_12_method_41_code
def yX10_begins : MethodName := ⟨RX10, "begins", "()V"⟩
abbrev cX10_lays : ByteArray := prog_12_method_42_code
def yX10_lays : MethodName := ⟨RX10, "lays", "()V"⟩
abbrev cX10_keepsNet : ByteArray := prog_12_method_43_code
def yX10_keepsNet : MethodName := ⟨RX10, "keepsNet", "()V"⟩
abbrev cX10_comesNet : ByteArray := prog_12_method_44_code
def yX10_comesNet : MethodName := ⟨RX10, "comesNet", "()V"⟩
abbrev cX10_keepsOld : ByteArray := prog_12_method_45_code
def yX10_keepsOld : MethodName := ⟨RX10, "keepsOld", "()V"⟩
abbrev cX10_comesOld : ByteArray := prog_12_method_46_code
def yX10_comesOld : MethodName := ⟨RX10, "comesOld", "()V"⟩
abbrev cX10_again : ByteArray := prog_12_method_47_code
def yX10_again : MethodName := ⟨RX10, "again", "()I"⟩
abbrev cX10_isActive : ByteArray := prog_12_method_48_code
def yX10_isActive : MethodName := ⟨RX10, "isActive", "(I)Z"⟩
abbrev cX10_isLesser : ByteArray := prog_12_method_49_code
def yX10_isLesser : MethodName := ⟨RX10, "isLesser", "(I)Z"⟩
abbrev cX10_activeMany : ByteArray := prog_12_method_50_code
def yX10_activeMany : MethodName := ⟨RX10, "activeMany", "()I"⟩
abbrev cX10_chosen : ByteArray := prog_12_method_51_code
def yX10_chosen : MethodName := ⟨RX10, "chosen", "(I)I"⟩
abbrev cX10_isThrough : ByteArray := prog_12_method_52_code
def yX10_isThrough : MethodName := ⟨RX10, "isThrough", "(I)Z"⟩
abbrev cX10_kindOf : ByteArray := prog_12_method_53_code
def yX10_kindOf : MethodName := ⟨RX10, "kindOf", "(II)I"⟩
abbrev cX10_moreBy : ByteArray := prog_12_method_54_code
def yX10_moreBy : MethodName := ⟨RX10, "moreBy", "(III)I"⟩
abbrev cX10_goesAside : ByteArray := prog_12_method_55_code
def yX10_goesAside : MethodName := ⟨RX10, "goesAside", "(II)V"⟩
abbrev cX10_inPlaceOf : ByteArray := prog_12_method_56_code
def yX10_inPlaceOf : MethodName := ⟨RX10, "inPlaceOf", "(II)V"⟩
abbrev cX10_joins : ByteArray := prog_12_method_57_code
def yX10_joins : MethodName := ⟨RX10, "joins", "(II)V"⟩
abbrev cX10_erases : ByteArray := prog_12_method_58_code
def yX10_erases : MethodName := ⟨RX10, "erases", "(I)V"⟩
abbrev cX10_goesThrough : ByteArray := prog_12_method_59_code
def yX10_goesThrough : MethodName := ⟨RX10, "goesThrough", "(II)V"⟩
abbrev cX10_works : ByteArray := prog_12_method_60_code
def yX10_works : MethodName := ⟨RX10, "works", "(I)I"⟩
abbrev cX10_steps : ByteArray := prog_12_method_61_code
def yX10_steps : MethodName := ⟨RX10, "steps", "(I)I"⟩
abbrev cX10_isWay : ByteArray := prog_12_method_62_code
def yX10_isWay : MethodName := ⟨RX10, "isWay", "(I)Z"⟩
abbrev cX10_step : ByteArray := prog_12_method_63_code
def yX10_step : MethodName := ⟨RX10, "step", "(I)I"⟩
abbrev cX10_run : ByteArray := prog_12_method_64_code
def yX10_run : MethodName := ⟨RX10, "run", "(II)I"⟩
abbrev cX10_tries : ByteArray := prog_12_method_65_code
def yX10_tries : MethodName := ⟨RX10, "tries", "(I)V"⟩
abbrev cX10_trial : ByteArray := prog_12_method_66_code
def yX10_trial : MethodName := ⟨RX10, "trial", "(II)I"⟩
abbrev cX10_thing : ByteArray := prog_12_method_67_code
def yX10_thing : MethodName := ⟨RX10, "thing", "(III)I"⟩
abbrev cX10_stackAt : ByteArray := prog_12_method_68_code
def yX10_stackAt : MethodName := ⟨RX10, "stackAt", "(I)I"⟩
abbrev cX10_setStack : ByteArray := prog_12_method_69_code
def yX10_setStack : MethodName := ⟨RX10, "setStack", "(II)V"⟩
abbrev cX10_comesAt : ByteArray := prog_12_method_70_code
def yX10_comesAt : MethodName := ⟨RX10, "comesAt", "(I)V"⟩
abbrev cX10_goesAt : ByteArray := prog_12_method_71_code
def yX10_goesAt : MethodName := ⟨RX10, "goesAt", "(I)V"⟩
abbrev cX10_waits : ByteArray := prog_12_method_72_code
def yX10_waits : MethodName := ⟨RX10, "waits", "(I)V"⟩
abbrev cX10_takesWaiting : ByteArray := prog_12_method_73_code
def yX10_takesWaiting : MethodName := ⟨RX10, "takesWaiting", "()V"⟩
abbrev cX10_goesInto : ByteArray := prog_12_method_74_code
def yX10_goesInto : MethodName := ⟨RX10, "goesInto", "(I)V"⟩
abbrev cX10_betweenTo : ByteArray := prog_12_method_75_code
def yX10_betweenTo : MethodName := ⟨RX10, "betweenTo", "(I)I"⟩
abbrev cX10_isAsAround : ByteArray := prog_12_method_76_code
def yX10_isAsAround : MethodName := ⟨RX10, "isAsAround", "(I)Z"⟩
abbrev cX10_reads : ByteArray := prog_12_method_77_code
def yX10_reads : MethodName := ⟨RX10, "reads", "(I)Z"⟩
abbrev cX10_walks : ByteArray := prog_12_method_78_code
def yX10_walks : MethodName := ⟨RX10, "walks", "()V"⟩
abbrev cX10_comesTo : ByteArray := prog_12_method_79_code
def yX10_comesTo : MethodName := ⟨RX10, "comesTo", "(I)I"⟩
abbrev cX10_comesToFunction : ByteArray := prog_12_method_80_code
def yX10_comesToFunction : MethodName := ⟨RX10, "comesToFunction", "(II)I"⟩
abbrev cX10_comesToFan : ByteArray := prog_12_method_81_code
def yX10_comesToFan : MethodName := ⟨RX10, "comesToFan", "(II)I"⟩
abbrev cX10_comesToBracket : ByteArray := prog_12_method_82_code
def yX10_comesToBracket : MethodName := ⟨RX10, "comesToBracket", "(II)I"⟩
abbrev cX10_comesToCurl : ByteArray := prog_12_method_83_code
def yX10_comesToCurl : MethodName := ⟨RX10, "comesToCurl", "(II)I"⟩
abbrev cX10_makes : ByteArray := prog_12_method_84_code
def yX10_makes : MethodName := ⟨RX10, "makes", "(I)V"⟩
abbrev cX10_makesArgument : ByteArray := prog_12_method_85_code
def yX10_makesArgument : MethodName := ⟨RX10, "makesArgument", "(IIII)V"⟩
abbrev cX10_firstRedex : ByteArray := prog_12_method_86_code
def yX10_firstRedex : MethodName := ⟨RX10, "firstRedex", "(II)I"⟩
abbrev cX10_worksOff : ByteArray := prog_12_method_87_code
def yX10_worksOff : MethodName := ⟨RX10, "worksOff", "(II)Z"⟩
abbrev cX10_goesPlain : ByteArray := prog_12_method_88_code
def yX10_goesPlain : MethodName := ⟨RX10, "goesPlain", "(I)Z"⟩
abbrev cX10_isTerm : ByteArray := prog_12_method_89_code
def yX10_isTerm : MethodName := ⟨RX10, "isTerm", "(I)Z"⟩
abbrev cX10_greatestLevel : ByteArray := prog_12_method_90_code
def yX10_greatestLevel : MethodName := ⟨RX10, "greatestLevel", "()I"⟩
abbrev cX10_ofKind : ByteArray := prog_12_method_91_code
def yX10_ofKind : MethodName := ⟨RX10, "ofKind", "(I)I"⟩
abbrev cX10_readCount : ByteArray := prog_12_method_92_code
def yX10_readCount : MethodName := ⟨RX10, "readCount", "(I)I"⟩
abbrev cX10_count : ByteArray := prog_12_method_93_code
def yX10_count : MethodName := ⟨RX10, "count", "(I)I"⟩
abbrev cX10_node : ByteArray := prog_12_method_94_code
def yX10_node : MethodName := ⟨RX10, "node", "(II)I"⟩
abbrev cX10_active : ByteArray := prog_12_method_95_code
def yX10_active : MethodName := ⟨RX10, "active", "(II)I"⟩
abbrev cX10_wanted : ByteArray := prog_12_method_96_code
def yX10_wanted : MethodName := ⟨RX10, "wanted", "(I)I"⟩
abbrev cX10_isWhich : ByteArray := prog_12_method_97_code
def yX10_isWhich : MethodName := ⟨RX10, "isWhich", "(I)Z"⟩
abbrev cX10_baseOf : ByteArray := prog_12_method_98_code
def yX10_baseOf : MethodName := ⟨RX10, "baseOf", "(I)I"⟩
abbrev cX10_part : ByteArray := prog_12_method_99_code
def yX10_part : MethodName := ⟨RX10, "part", "(II)I"⟩
abbrev cX10_says : ByteArray := prog_12_method_100_code
def yX10_says : MethodName := ⟨RX10, "says", "(I)V"⟩
abbrev cX10_letterOf : ByteArray := prog_12_method_101_code
def yX10_letterOf : MethodName := ⟨RX10, "letterOf", "(I)I"⟩
abbrev cX10_saysLater : ByteArray := prog_12_method_102_code
def yX10_saysLater : MethodName := ⟨RX10, "saysLater", "(I)V"⟩
abbrev cX10_waitsPart : ByteArray := prog_12_method_103_code
def yX10_waitsPart : MethodName := ⟨RX10, "waitsPart", "(II)V"⟩
abbrev cX10_saysPart : ByteArray := prog_12_method_104_code
def yX10_saysPart : MethodName := ⟨RX10, "saysPart", "(IIII)I"⟩
abbrev cX10_say : ByteArray := prog_12_method_105_code
def yX10_say : MethodName := ⟨RX10, "say", "(I)I"⟩
abbrev cX10_said : ByteArray := prog_12_method_106_code
def yX10_said : MethodName := ⟨RX10, "said", "(I)I"⟩
abbrev cX10_same : ByteArray := prog_12_method_107_code
def yX10_same : MethodName := ⟨RX10, "same", "(II)Z"⟩
abbrev cX10_plain : ByteArray := prog_12_method_108_code
def yX10_plain : MethodName := ⟨RX10, "plain", "(I)I"⟩
abbrev cX10_redexes : ByteArray := prog_12_method_109_code
def yX10_redexes : MethodName := ⟨RX10, "redexes", "(I)I"⟩
def RJx145de : String := "java/io/Serializable"
def TJx145de : u_T := fun k => match k with
  | _ => ("", "", "", false)
def tyJx145de : Nat → FieldType := fun k => match k with
  | _ => .int
abbrev wsJx145de0 : List Cond := u_ws RJx145de TJx145de 0
theorem nmJx145de : ∀ a, a < 0 → ∀ b, b < 0 → a ≠ b → (TJx145de a).2.1 ≠ (TJx145de b).2.1 := by decide +kernel
theorem tyJx145de_ok : ∀ k, k < 0 → parseFieldDescriptor (TJx145de k).2.2.1 = some (tyJx145de k) := by decide +kernel
def RJx8e188 : String := "java/lang/Cloneable"
def TJx8e188 : u_T := fun k => match k with
  | _ => ("", "", "", false)
def tyJx8e188 : Nat → FieldType := fun k => match k with
  | _ => .int
abbrev wsJx8e1880 : List Cond := u_ws RJx8e188 TJx8e188 0
theorem nmJx8e188 : ∀ a, a < 0 → ∀ b, b < 0 → a ≠ b → (TJx8e188 a).2.1 ≠ (TJx8e188 b).2.1 := by decide +kernel
theorem tyJx8e188_ok : ∀ k, k < 0 → parseFieldDescriptor (TJx8e188 k).2.2.1 = some (tyJx8e188 k) := by decide +kernel
def RJ9 : String := "java/lang/Math"
def TJ9 : u_T := fun k => match k with
  | _ => ("", "", "", false)
def tyJ9 : Nat → FieldType := fun k => match k with
  | _ => .int
abbrev wsJ90 : List Cond := u_ws RJ9 TJ9 0
theorem nmJ9 : ∀ a, a < 0 → ∀ b, b < 0 → a ≠ b → (TJ9 a).2.1 ≠ (TJ9 b).2.1 := by decide +kernel
theorem tyJ9_ok : ∀ k, k < 0 → parseFieldDescriptor (TJ9 k).2.2.1 = some (tyJ9 k) := by decide +kernel
abbrev cJ9_floorMod_7cf53 : ByteArray := prog_17_method_50_code
def yJ9_floorMod_7cf53 : MethodName := ⟨RJ9, "floorMod", "(II)I"⟩
abbrev cJ9_max_7cf53 : ByteArray := prog_17_method_65_code
def yJ9_max_7cf53 : MethodName := ⟨RJ9, "max", "(II)I"⟩
abbrev cJ9_min_7cf53 : ByteArray := prog_17_method_69_code
def yJ9_min_7cf53 : MethodName := ⟨RJ9, "min", "(II)I"⟩
def RJ0 : String := "java/lang/String"
def TJ0 : u_T := fun k => match k with
  | _ => ("", "", "", false)
def tyJ0 : Nat → FieldType := fun k => match k with
  | _ => .int
abbrev wsJ00 : List Cond := u_ws RJ0 TJ0 0
theorem nmJ0 : ∀ a, a < 0 → ∀ b, b < 0 → a ≠ b → (TJ0 a).2.1 ≠ (TJ0 b).2.1 := by decide +kernel
theorem tyJ0_ok : ∀ k, k < 0 → parseFieldDescriptor (TJ0 k).2.2.1 = some (tyJ0 k) := by decide +kernel
def RJ10 : String := "java/lang/System"
def TJ10 : u_T := fun k => match k with
  | _ => ("", "", "", false)
def tyJ10 : Nat → FieldType := fun k => match k with
  | _ => .int
abbrev wsJ100 : List Cond := u_ws RJ10 TJ10 0
theorem nmJ10 : ∀ a, a < 0 → ∀ b, b < 0 → a ≠ b → (TJ10 a).2.1 ≠ (TJ10 b).2.1 := by decide +kernel
theorem tyJ10_ok : ∀ k, k < 0 → parseFieldDescriptor (TJ10 k).2.2.1 = some (tyJ10 k) := by decide +kernel
def RJ7 : String := "java/util/Arrays"
def TJ7 : u_T := fun k => match k with
  | _ => ("", "", "", false)
def tyJ7 : Nat → FieldType := fun k => match k with
  | _ => .int
abbrev wsJ70 : List Cond := u_ws RJ7 TJ7 0
theorem nmJ7 : ∀ a, a < 0 → ∀ b, b < 0 → a ≠ b → (TJ7 a).2.1 ≠ (TJ7 b).2.1 := by decide +kernel
theorem tyJ7_ok : ∀ k, k < 0 → parseFieldDescriptor (TJ7 k).2.2.1 = some (tyJ7 k) := by decide +kernel
abbrev cJ7_copyOf_59c91 : ByteArray := prog_22_method_123_code
def yJ7_copyOf_59c91 : MethodName := ⟨RJ7, "copyOf", "([II)[I"⟩
def RL : String := "FanNetLaw"
abbrev cL_tell : ByteArray := method_3_code
def yL_tell : MethodName := ⟨RL, "tell", "(LFanNet;I[J)I"⟩
abbrev cL_step : ByteArray := method_4_code
def yL_step : MethodName := ⟨RL, "step", "(LFanNet;I[J)I"⟩
abbrev cL_run : ByteArray := method_5_code
def yL_run : MethodName := ⟨RL, "run", "(LFanNet;II[J)I"⟩
abbrev cL_count : ByteArray := method_6_code
def yL_count : MethodName := ⟨RL, "count", "(LFanNet;I[J)I"⟩
abbrev cL_node : ByteArray := method_7_code
def yL_node : MethodName := ⟨RL, "node", "(LFanNet;II[J)I"⟩
abbrev cL_active : ByteArray := method_8_code
def yL_active : MethodName := ⟨RL, "active", "(LFanNet;II[J)I"⟩
abbrev cL_wanted : ByteArray := method_9_code
def yL_wanted : MethodName := ⟨RL, "wanted", "(LFanNet;I[J)I"⟩
abbrev cL_part : ByteArray := method_10_code
def yL_part : MethodName := ⟨RL, "part", "(LFanNet;II[J)I"⟩
abbrev cL_say : ByteArray := method_11_code
def yL_say : MethodName := ⟨RL, "say", "(LFanNet;I[J)I"⟩
abbrev cL_same : ByteArray := method_12_code
def yL_same : MethodName := ⟨RL, "same", "(LFanNet;II[J)I"⟩
abbrev cL_plain : ByteArray := method_13_code
def yL_plain : MethodName := ⟨RL, "plain", "(LFanNet;I[J)I"⟩
abbrev cL_redexes : ByteArray := method_14_code
def yL_redexes : MethodName := ⟨RL, "redexes", "(LFanNet;I[J)I"⟩
abbrev cL_trial : ByteArray := method_15_code
def yL_trial : MethodName := ⟨RL, "trial", "(LFanNet;II[J)I"⟩
abbrev cL_law : ByteArray := code
def yL_law : MethodName := ⟨RL, "law", "([I)Z"⟩
theorem dX0_init_0 : decode cX0_init 0 = .ok (.aload_n 0, 1) := by decide +kernel
theorem dX0_init_1 : decode cX0_init 1 = .ok (.invokespecial 3, 3) := by decide +kernel
theorem dX0_init_4 : decode cX0_init 4 = .ok (.aload_n 0, 1) := by decide +kernel
theorem dX0_init_5 : decode cX0_init 5 = .ok (.new 9, 3) := by decide +kernel
theorem dX0_init_8 : decode cX0_init 8 = .ok (.dup, 1) := by decide +kernel
theorem dX0_init_9 : decode cX0_init 9 = .ok (.bipush 24, 2) := by decide +kernel
theorem dX0_init_11 : decode cX0_init 11 = .ok (.sipush 360, 3) := by decide +kernel
theorem dX0_init_14 : decode cX0_init 14 = .ok (.invokespecial 13, 3) := by decide +kernel
theorem dX0_init_17 : decode cX0_init 17 = .ok (.putfield 16, 3) := by decide +kernel
theorem dX0_init_20 : decode cX0_init 20 = .ok (.aload_n 0, 1) := by decide +kernel
theorem dX0_init_21 : decode cX0_init 21 = .ok (.new 9, 3) := by decide +kernel
theorem dX0_init_24 : decode cX0_init 24 = .ok (.dup, 1) := by decide +kernel
theorem dX0_init_25 : decode cX0_init 25 = .ok (.bipush 24, 2) := by decide +kernel
theorem dX0_init_27 : decode cX0_init 27 = .ok (.sipush 360, 3) := by decide +kernel
theorem dX0_init_30 : decode cX0_init 30 = .ok (.invokespecial 13, 3) := by decide +kernel
theorem dX0_init_33 : decode cX0_init 33 = .ok (.putfield 20, 3) := by decide +kernel
theorem dX0_init_36 : decode cX0_init 36 = .ok (.aload_n 0, 1) := by decide +kernel
theorem dX0_init_37 : decode cX0_init 37 = .ok (.new 9, 3) := by decide +kernel
theorem dX0_init_40 : decode cX0_init 40 = .ok (.dup, 1) := by decide +kernel
theorem dX0_init_41 : decode cX0_init 41 = .ok (.bipush 16, 2) := by decide +kernel
theorem dX0_init_43 : decode cX0_init 43 = .ok (.bipush 120, 2) := by decide +kernel
theorem dX0_init_45 : decode cX0_init 45 = .ok (.invokespecial 13, 3) := by decide +kernel
theorem dX0_init_48 : decode cX0_init 48 = .ok (.putfield 23, 3) := by decide +kernel
theorem dX0_init_51 : decode cX0_init 51 = .ok (.aload_n 0, 1) := by decide +kernel
theorem dX0_init_52 : decode cX0_init 52 = .ok (.iconst 0, 1) := by decide +kernel
theorem dX0_init_53 : decode cX0_init 53 = .ok (.putfield 26, 3) := by decide +kernel
theorem dX0_init_56 : decode cX0_init 56 = .ok (.aload_n 0, 1) := by decide +kernel
theorem dX0_init_57 : decode cX0_init 57 = .ok (.aload_n 1, 1) := by decide +kernel
theorem dX0_init_58 : decode cX0_init 58 = .ok (.putfield 30, 3) := by decide +kernel
theorem dX0_init_61 : decode cX0_init 61 = .ok (.return_, 1) := by decide +kernel
theorem dX0_lay_0 : decode cX0_lay 0 = .ok (.aload_n 2, 1) := by decide +kernel
theorem dX0_lay_1 : decode cX0_lay 1 = .ok (.invokevirtual 34, 3) := by decide +kernel
theorem dX0_lay_4 : decode cX0_lay 4 = .ok (.aload_n 0, 1) := by decide +kernel
theorem dX0_lay_5 : decode cX0_lay 5 = .ok (.aload_n 2, 1) := by decide +kernel
theorem dX0_lay_6 : decode cX0_lay 6 = .ok (.putfield 30, 3) := by decide +kernel
theorem dX0_lay_9 : decode cX0_lay 9 = .ok (.aload_n 0, 1) := by decide +kernel
theorem dX0_lay_10 : decode cX0_lay 10 = .ok (.iconst 0, 1) := by decide +kernel
theorem dX0_lay_11 : decode cX0_lay 11 = .ok (.putfield 26, 3) := by decide +kernel
theorem dX0_lay_14 : decode cX0_lay 14 = .ok (.aload_n 0, 1) := by decide +kernel
theorem dX0_lay_15 : decode cX0_lay 15 = .ok (.getfield 16, 3) := by decide +kernel
theorem dX0_lay_18 : decode cX0_lay 18 = .ok (.iconst 0, 1) := by decide +kernel
theorem dX0_lay_19 : decode cX0_lay 19 = .ok (.invokevirtual 39, 3) := by decide +kernel
theorem dX0_lay_22 : decode cX0_lay 22 = .ok (.aload_n 0, 1) := by decide +kernel
theorem dX0_lay_23 : decode cX0_lay 23 = .ok (.getfield 20, 3) := by decide +kernel
theorem dX0_lay_26 : decode cX0_lay 26 = .ok (.iconst 0, 1) := by decide +kernel
theorem dX0_lay_27 : decode cX0_lay 27 = .ok (.invokevirtual 39, 3) := by decide +kernel
theorem dX0_lay_30 : decode cX0_lay 30 = .ok (.aload_n 0, 1) := by decide +kernel
theorem dX0_lay_31 : decode cX0_lay 31 = .ok (.getfield 23, 3) := by decide +kernel
theorem dX0_lay_34 : decode cX0_lay 34 = .ok (.iconst 0, 1) := by decide +kernel
theorem dX0_lay_35 : decode cX0_lay 35 = .ok (.invokevirtual 39, 3) := by decide +kernel
theorem dX0_lay_38 : decode cX0_lay 38 = .ok (.aload_n 2, 1) := by decide +kernel
theorem dX0_lay_39 : decode cX0_lay 39 = .ok (.iconst 0, 1) := by decide +kernel
theorem dX0_lay_40 : decode cX0_lay 40 = .ok (.iconst 0, 1) := by decide +kernel
theorem dX0_lay_41 : decode cX0_lay 41 = .ok (.invokevirtual 43, 3) := by decide +kernel
theorem dX0_lay_44 : decode cX0_lay 44 = .ok (.pop, 1) := by decide +kernel
theorem dX0_lay_45 : decode cX0_lay 45 = .ok (.iconst 0, 1) := by decide +kernel
theorem dX0_lay_46 : decode cX0_lay 46 = .ok (.istore_n 3, 1) := by decide +kernel
theorem dX0_lay_47 : decode cX0_lay 47 = .ok (.iload_n 3, 1) := by decide +kernel
theorem dX0_lay_48 : decode cX0_lay 48 = .ok (.aload_n 1, 1) := by decide +kernel
theorem dX0_lay_49 : decode cX0_lay 49 = .ok (.invokevirtual 47, 3) := by decide +kernel
theorem dX0_lay_52 : decode cX0_lay 52 = .ok (.if_icmp .ge 89, 3) := by decide +kernel
theorem dX0_lay_55 : decode cX0_lay 55 = .ok (.aload_n 2, 1) := by decide +kernel
theorem dX0_lay_56 : decode cX0_lay 56 = .ok (.invokevirtual 51, 3) := by decide +kernel
theorem dX0_lay_59 : decode cX0_lay 59 = .ok (.ifCond .ne 82, 3) := by decide +kernel
theorem dX0_lay_62 : decode cX0_lay 62 = .ok (.aload_n 1, 1) := by decide +kernel
theorem dX0_lay_63 : decode cX0_lay 63 = .ok (.iload_n 3, 1) := by decide +kernel
theorem dX0_lay_64 : decode cX0_lay 64 = .ok (.invokevirtual 55, 3) := by decide +kernel
theorem dX0_lay_67 : decode cX0_lay 67 = .ok (.istore 4, 2) := by decide +kernel
theorem dX0_lay_69 : decode cX0_lay 69 = .ok (.iload 4, 2) := by decide +kernel
theorem dX0_lay_71 : decode cX0_lay 71 = .ok (.ifCond .ne 13, 3) := by decide +kernel
theorem dX0_lay_74 : decode cX0_lay 74 = .ok (.aload_n 0, 1) := by decide +kernel
theorem dX0_lay_75 : decode cX0_lay 75 = .ok (.iconst 2, 1) := by decide +kernel
theorem dX0_lay_76 : decode cX0_lay 76 = .ok (.iload_n 3, 1) := by decide +kernel
theorem dX0_lay_77 : decode cX0_lay 77 = .ok (.iconst 0, 1) := by decide +kernel
theorem dX0_lay_78 : decode cX0_lay 78 = .ok (.invokevirtual 59, 3) := by decide +kernel
theorem dX0_lay_81 : decode cX0_lay 81 = .ok (.goto 54, 3) := by decide +kernel
theorem dX0_lay_84 : decode cX0_lay 84 = .ok (.iload 4, 2) := by decide +kernel
theorem dX0_lay_86 : decode cX0_lay 86 = .ok (.iconst 1, 1) := by decide +kernel
theorem dX0_lay_87 : decode cX0_lay 87 = .ok (.if_icmp .ne 22, 3) := by decide +kernel
theorem dX0_lay_90 : decode cX0_lay 90 = .ok (.aload_n 0, 1) := by decide +kernel
theorem dX0_lay_91 : decode cX0_lay 91 = .ok (.iconst 1, 1) := by decide +kernel
theorem dX0_lay_92 : decode cX0_lay 92 = .ok (.iload_n 3, 1) := by decide +kernel
theorem dX0_lay_93 : decode cX0_lay 93 = .ok (.iconst (-1), 1) := by decide +kernel
theorem dX0_lay_94 : decode cX0_lay 94 = .ok (.invokevirtual 59, 3) := by decide +kernel
theorem dX0_lay_97 : decode cX0_lay 97 = .ok (.aload_n 0, 1) := by decide +kernel
theorem dX0_lay_98 : decode cX0_lay 98 = .ok (.getfield 23, 3) := by decide +kernel
theorem dX0_lay_101 : decode cX0_lay 101 = .ok (.iconst (-1), 1) := by decide +kernel
theorem dX0_lay_102 : decode cX0_lay 102 = .ok (.invokevirtual 63, 3) := by decide +kernel
theorem dX0_lay_105 : decode cX0_lay 105 = .ok (.pop, 1) := by decide +kernel
theorem dX0_lay_106 : decode cX0_lay 106 = .ok (.goto 29, 3) := by decide +kernel
theorem dX0_lay_109 : decode cX0_lay 109 = .ok (.aload_n 0, 1) := by decide +kernel
theorem dX0_lay_110 : decode cX0_lay 110 = .ok (.aload_n 0, 1) := by decide +kernel
theorem dX0_lay_111 : decode cX0_lay 111 = .ok (.aload_n 0, 1) := by decide +kernel
theorem dX0_lay_112 : decode cX0_lay 112 = .ok (.getfield 23, 3) := by decide +kernel
theorem dX0_lay_115 : decode cX0_lay 115 = .ok (.invokevirtual 47, 3) := by decide +kernel
theorem dX0_lay_118 : decode cX0_lay 118 = .ok (.iconst 1, 1) := by decide +kernel
theorem dX0_lay_119 : decode cX0_lay 119 = .ok (.isub, 1) := by decide +kernel
theorem dX0_lay_120 : decode cX0_lay 120 = .ok (.iload 4, 2) := by decide +kernel
theorem dX0_lay_122 : decode cX0_lay 122 = .ok (.iconst 2, 1) := by decide +kernel
theorem dX0_lay_123 : decode cX0_lay 123 = .ok (.isub, 1) := by decide +kernel
theorem dX0_lay_124 : decode cX0_lay 124 = .ok (.isub, 1) := by decide +kernel
theorem dX0_lay_125 : decode cX0_lay 125 = .ok (.iload_n 3, 1) := by decide +kernel
theorem dX0_lay_126 : decode cX0_lay 126 = .ok (.invokevirtual 67, 3) := by decide +kernel
theorem dX0_lay_129 : decode cX0_lay 129 = .ok (.iload_n 3, 1) := by decide +kernel
theorem dX0_lay_130 : decode cX0_lay 130 = .ok (.iconst 1, 1) := by decide +kernel
theorem dX0_lay_131 : decode cX0_lay 131 = .ok (.iadd, 1) := by decide +kernel
theorem dX0_lay_132 : decode cX0_lay 132 = .ok (.invokevirtual 70, 3) := by decide +kernel
theorem dX0_lay_135 : decode cX0_lay 135 = .ok (.iinc 3 1, 3) := by decide +kernel
theorem dX0_lay_138 : decode cX0_lay 138 = .ok (.goto (-91), 3) := by decide +kernel
theorem dX0_lay_141 : decode cX0_lay 141 = .ok (.aload_n 2, 1) := by decide +kernel
theorem dX0_lay_142 : decode cX0_lay 142 = .ok (.invokevirtual 51, 3) := by decide +kernel
theorem dX0_lay_145 : decode cX0_lay 145 = .ok (.ifCond .ne 7, 3) := by decide +kernel
theorem dX0_lay_148 : decode cX0_lay 148 = .ok (.iconst 1, 1) := by decide +kernel
theorem dX0_lay_149 : decode cX0_lay 149 = .ok (.goto 4, 3) := by decide +kernel
theorem dX0_lay_152 : decode cX0_lay 152 = .ok (.iconst 0, 1) := by decide +kernel
theorem dX0_lay_153 : decode cX0_lay 153 = .ok (.ireturn, 1) := by decide +kernel
theorem dX0_beginFrame_0 : decode cX0_beginFrame 0 = .ok (.aload_n 0, 1) := by decide +kernel
theorem dX0_beginFrame_1 : decode cX0_beginFrame 1 = .ok (.getfield 16, 3) := by decide +kernel
theorem dX0_beginFrame_4 : decode cX0_beginFrame 4 = .ok (.aload_n 0, 1) := by decide +kernel
theorem dX0_beginFrame_5 : decode cX0_beginFrame 5 = .ok (.getfield 30, 3) := by decide +kernel
theorem dX0_beginFrame_8 : decode cX0_beginFrame 8 = .ok (.iload_n 1, 1) := by decide +kernel
theorem dX0_beginFrame_9 : decode cX0_beginFrame 9 = .ok (.aload_n 0, 1) := by decide +kernel
theorem dX0_beginFrame_10 : decode cX0_beginFrame 10 = .ok (.getfield 26, 3) := by decide +kernel
theorem dX0_beginFrame_13 : decode cX0_beginFrame 13 = .ok (.invokevirtual 43, 3) := by decide +kernel
theorem dX0_beginFrame_16 : decode cX0_beginFrame 16 = .ok (.invokevirtual 63, 3) := by decide +kernel
theorem dX0_beginFrame_19 : decode cX0_beginFrame 19 = .ok (.pop, 1) := by decide +kernel
theorem dX0_beginFrame_20 : decode cX0_beginFrame 20 = .ok (.aload_n 0, 1) := by decide +kernel
theorem dX0_beginFrame_21 : decode cX0_beginFrame 21 = .ok (.getfield 16, 3) := by decide +kernel
theorem dX0_beginFrame_24 : decode cX0_beginFrame 24 = .ok (.iload_n 2, 1) := by decide +kernel
theorem dX0_beginFrame_25 : decode cX0_beginFrame 25 = .ok (.invokevirtual 63, 3) := by decide +kernel
theorem dX0_beginFrame_28 : decode cX0_beginFrame 28 = .ok (.pop, 1) := by decide +kernel
theorem dX0_beginFrame_29 : decode cX0_beginFrame 29 = .ok (.aload_n 0, 1) := by decide +kernel
theorem dX0_beginFrame_30 : decode cX0_beginFrame 30 = .ok (.getfield 16, 3) := by decide +kernel
theorem dX0_beginFrame_33 : decode cX0_beginFrame 33 = .ok (.iload_n 3, 1) := by decide +kernel
theorem dX0_beginFrame_34 : decode cX0_beginFrame 34 = .ok (.invokevirtual 63, 3) := by decide +kernel
theorem dX0_beginFrame_37 : decode cX0_beginFrame 37 = .ok (.pop, 1) := by decide +kernel
theorem dX0_beginFrame_38 : decode cX0_beginFrame 38 = .ok (.return_, 1) := by decide +kernel
theorem dX0_layVariable_0 : decode cX0_layVariable 0 = .ok (.aload_n 0, 1) := by decide +kernel
theorem dX0_layVariable_1 : decode cX0_layVariable 1 = .ok (.getfield 30, 3) := by decide +kernel
theorem dX0_layVariable_4 : decode cX0_layVariable 4 = .ok (.iconst 5, 1) := by decide +kernel
theorem dX0_layVariable_5 : decode cX0_layVariable 5 = .ok (.aload_n 0, 1) := by decide +kernel
theorem dX0_layVariable_6 : decode cX0_layVariable 6 = .ok (.getfield 26, 3) := by decide +kernel
theorem dX0_layVariable_9 : decode cX0_layVariable 9 = .ok (.invokevirtual 43, 3) := by decide +kernel
theorem dX0_layVariable_12 : decode cX0_layVariable 12 = .ok (.istore_n 3, 1) := by decide +kernel
theorem dX0_layVariable_13 : decode cX0_layVariable 13 = .ok (.aload_n 0, 1) := by decide +kernel
theorem dX0_layVariable_14 : decode cX0_layVariable 14 = .ok (.getfield 20, 3) := by decide +kernel
theorem dX0_layVariable_17 : decode cX0_layVariable 17 = .ok (.invokevirtual 47, 3) := by decide +kernel
theorem dX0_layVariable_20 : decode cX0_layVariable 20 = .ok (.iconst 3, 1) := by decide +kernel
theorem dX0_layVariable_21 : decode cX0_layVariable 21 = .ok (.idiv, 1) := by decide +kernel
theorem dX0_layVariable_22 : decode cX0_layVariable 22 = .ok (.istore 4, 2) := by decide +kernel
theorem dX0_layVariable_24 : decode cX0_layVariable 24 = .ok (.aload_n 0, 1) := by decide +kernel
theorem dX0_layVariable_25 : decode cX0_layVariable 25 = .ok (.getfield 20, 3) := by decide +kernel
theorem dX0_layVariable_28 : decode cX0_layVariable 28 = .ok (.iconst 4, 1) := by decide +kernel
theorem dX0_layVariable_29 : decode cX0_layVariable 29 = .ok (.iload_n 3, 1) := by decide +kernel
theorem dX0_layVariable_30 : decode cX0_layVariable 30 = .ok (.imul, 1) := by decide +kernel
theorem dX0_layVariable_31 : decode cX0_layVariable 31 = .ok (.invokevirtual 63, 3) := by decide +kernel
theorem dX0_layVariable_34 : decode cX0_layVariable 34 = .ok (.pop, 1) := by decide +kernel
theorem dX0_layVariable_35 : decode cX0_layVariable 35 = .ok (.aload_n 0, 1) := by decide +kernel
theorem dX0_layVariable_36 : decode cX0_layVariable 36 = .ok (.getfield 20, 3) := by decide +kernel
theorem dX0_layVariable_39 : decode cX0_layVariable 39 = .ok (.iload_n 2, 1) := by decide +kernel
theorem dX0_layVariable_40 : decode cX0_layVariable 40 = .ok (.invokevirtual 63, 3) := by decide +kernel
theorem dX0_layVariable_43 : decode cX0_layVariable 43 = .ok (.pop, 1) := by decide +kernel
theorem dX0_layVariable_44 : decode cX0_layVariable 44 = .ok (.aload_n 0, 1) := by decide +kernel
theorem dX0_layVariable_45 : decode cX0_layVariable 45 = .ok (.getfield 20, 3) := by decide +kernel
theorem dX0_layVariable_48 : decode cX0_layVariable 48 = .ok (.aload_n 0, 1) := by decide +kernel
theorem dX0_layVariable_49 : decode cX0_layVariable 49 = .ok (.getfield 23, 3) := by decide +kernel
theorem dX0_layVariable_52 : decode cX0_layVariable 52 = .ok (.iload_n 1, 1) := by decide +kernel
theorem dX0_layVariable_53 : decode cX0_layVariable 53 = .ok (.invokevirtual 55, 3) := by decide +kernel
theorem dX0_layVariable_56 : decode cX0_layVariable 56 = .ok (.invokevirtual 63, 3) := by decide +kernel
theorem dX0_layVariable_59 : decode cX0_layVariable 59 = .ok (.pop, 1) := by decide +kernel
theorem dX0_layVariable_60 : decode cX0_layVariable 60 = .ok (.aload_n 0, 1) := by decide +kernel
theorem dX0_layVariable_61 : decode cX0_layVariable 61 = .ok (.getfield 23, 3) := by decide +kernel
theorem dX0_layVariable_64 : decode cX0_layVariable 64 = .ok (.iload_n 1, 1) := by decide +kernel
theorem dX0_layVariable_65 : decode cX0_layVariable 65 = .ok (.iload 4, 2) := by decide +kernel
theorem dX0_layVariable_67 : decode cX0_layVariable 67 = .ok (.invokevirtual 73, 3) := by decide +kernel
theorem dX0_layVariable_70 : decode cX0_layVariable 70 = .ok (.iconst 4, 1) := by decide +kernel
theorem dX0_layVariable_71 : decode cX0_layVariable 71 = .ok (.iload_n 3, 1) := by decide +kernel
theorem dX0_layVariable_72 : decode cX0_layVariable 72 = .ok (.imul, 1) := by decide +kernel
theorem dX0_layVariable_73 : decode cX0_layVariable 73 = .ok (.iconst 1, 1) := by decide +kernel
theorem dX0_layVariable_74 : decode cX0_layVariable 74 = .ok (.iadd, 1) := by decide +kernel
theorem dX0_layVariable_75 : decode cX0_layVariable 75 = .ok (.ireturn, 1) := by decide +kernel
theorem dX0_finish_0 : decode cX0_finish 0 = .ok (.iload_n 1, 1) := by decide +kernel
theorem dX0_finish_1 : decode cX0_finish 1 = .ok (.istore_n 3, 1) := by decide +kernel
theorem dX0_finish_2 : decode cX0_finish 2 = .ok (.aload_n 0, 1) := by decide +kernel
theorem dX0_finish_3 : decode cX0_finish 3 = .ok (.getfield 16, 3) := by decide +kernel
theorem dX0_finish_6 : decode cX0_finish 6 = .ok (.invokevirtual 47, 3) := by decide +kernel
theorem dX0_finish_9 : decode cX0_finish 9 = .ok (.iconst 3, 1) := by decide +kernel
theorem dX0_finish_10 : decode cX0_finish 10 = .ok (.isub, 1) := by decide +kernel
theorem dX0_finish_11 : decode cX0_finish 11 = .ok (.istore 4, 2) := by decide +kernel
theorem dX0_finish_13 : decode cX0_finish 13 = .ok (.iload 4, 2) := by decide +kernel
theorem dX0_finish_15 : decode cX0_finish 15 = .ok (.ifCond .lt 170, 3) := by decide +kernel
theorem dX0_finish_18 : decode cX0_finish 18 = .ok (.aload_n 0, 1) := by decide +kernel
theorem dX0_finish_19 : decode cX0_finish 19 = .ok (.getfield 16, 3) := by decide +kernel
theorem dX0_finish_22 : decode cX0_finish 22 = .ok (.iload 4, 2) := by decide +kernel
theorem dX0_finish_24 : decode cX0_finish 24 = .ok (.invokevirtual 55, 3) := by decide +kernel
theorem dX0_finish_27 : decode cX0_finish 27 = .ok (.istore 5, 2) := by decide +kernel
theorem dX0_finish_29 : decode cX0_finish 29 = .ok (.aload_n 0, 1) := by decide +kernel
theorem dX0_finish_30 : decode cX0_finish 30 = .ok (.getfield 16, 3) := by decide +kernel
theorem dX0_finish_33 : decode cX0_finish 33 = .ok (.iload 4, 2) := by decide +kernel
theorem dX0_finish_35 : decode cX0_finish 35 = .ok (.iconst 2, 1) := by decide +kernel
theorem dX0_finish_36 : decode cX0_finish 36 = .ok (.iadd, 1) := by decide +kernel
theorem dX0_finish_37 : decode cX0_finish 37 = .ok (.invokevirtual 55, 3) := by decide +kernel
theorem dX0_finish_40 : decode cX0_finish 40 = .ok (.istore 6, 2) := by decide +kernel
theorem dX0_finish_42 : decode cX0_finish 42 = .ok (.iload 6, 2) := by decide +kernel
theorem dX0_finish_44 : decode cX0_finish 44 = .ok (.ifCond .ne 38, 3) := by decide +kernel
theorem dX0_finish_47 : decode cX0_finish 47 = .ok (.aload_n 0, 1) := by decide +kernel
theorem dX0_finish_48 : decode cX0_finish 48 = .ok (.getfield 30, 3) := by decide +kernel
theorem dX0_finish_51 : decode cX0_finish 51 = .ok (.iconst 4, 1) := by decide +kernel
theorem dX0_finish_52 : decode cX0_finish 52 = .ok (.iload 5, 2) := by decide +kernel
theorem dX0_finish_54 : decode cX0_finish 54 = .ok (.imul, 1) := by decide +kernel
theorem dX0_finish_55 : decode cX0_finish 55 = .ok (.iload_n 3, 1) := by decide +kernel
theorem dX0_finish_56 : decode cX0_finish 56 = .ok (.invokevirtual 76, 3) := by decide +kernel
theorem dX0_finish_59 : decode cX0_finish 59 = .ok (.aload_n 0, 1) := by decide +kernel
theorem dX0_finish_60 : decode cX0_finish 60 = .ok (.getfield 16, 3) := by decide +kernel
theorem dX0_finish_63 : decode cX0_finish 63 = .ok (.iload 4, 2) := by decide +kernel
theorem dX0_finish_65 : decode cX0_finish 65 = .ok (.iconst 2, 1) := by decide +kernel
theorem dX0_finish_66 : decode cX0_finish 66 = .ok (.iadd, 1) := by decide +kernel
theorem dX0_finish_67 : decode cX0_finish 67 = .ok (.iload_n 2, 1) := by decide +kernel
theorem dX0_finish_68 : decode cX0_finish 68 = .ok (.invokevirtual 73, 3) := by decide +kernel
theorem dX0_finish_71 : decode cX0_finish 71 = .ok (.aload_n 0, 1) := by decide +kernel
theorem dX0_finish_72 : decode cX0_finish 72 = .ok (.dup, 1) := by decide +kernel
theorem dX0_finish_73 : decode cX0_finish 73 = .ok (.getfield 26, 3) := by decide +kernel
theorem dX0_finish_76 : decode cX0_finish 76 = .ok (.iconst 1, 1) := by decide +kernel
theorem dX0_finish_77 : decode cX0_finish 77 = .ok (.iadd, 1) := by decide +kernel
theorem dX0_finish_78 : decode cX0_finish 78 = .ok (.putfield 26, 3) := by decide +kernel
theorem dX0_finish_81 : decode cX0_finish 81 = .ok (.return_, 1) := by decide +kernel
theorem dX0_finish_82 : decode cX0_finish 82 = .ok (.iload 6, 2) := by decide +kernel
theorem dX0_finish_84 : decode cX0_finish 84 = .ok (.iconst (-1), 1) := by decide +kernel
theorem dX0_finish_85 : decode cX0_finish 85 = .ok (.if_icmp .ne 31, 3) := by decide +kernel
theorem dX0_finish_88 : decode cX0_finish 88 = .ok (.aload_n 0, 1) := by decide +kernel
theorem dX0_finish_89 : decode cX0_finish 89 = .ok (.getfield 30, 3) := by decide +kernel
theorem dX0_finish_92 : decode cX0_finish 92 = .ok (.iconst 4, 1) := by decide +kernel
theorem dX0_finish_93 : decode cX0_finish 93 = .ok (.iload 5, 2) := by decide +kernel
theorem dX0_finish_95 : decode cX0_finish 95 = .ok (.imul, 1) := by decide +kernel
theorem dX0_finish_96 : decode cX0_finish 96 = .ok (.iconst 1, 1) := by decide +kernel
theorem dX0_finish_97 : decode cX0_finish 97 = .ok (.iadd, 1) := by decide +kernel
theorem dX0_finish_98 : decode cX0_finish 98 = .ok (.iload_n 3, 1) := by decide +kernel
theorem dX0_finish_99 : decode cX0_finish 99 = .ok (.invokevirtual 76, 3) := by decide +kernel
theorem dX0_finish_102 : decode cX0_finish 102 = .ok (.aload_n 0, 1) := by decide +kernel
theorem dX0_finish_103 : decode cX0_finish 103 = .ok (.iload 5, 2) := by decide +kernel
theorem dX0_finish_105 : decode cX0_finish 105 = .ok (.invokevirtual 79, 3) := by decide +kernel
theorem dX0_finish_108 : decode cX0_finish 108 = .ok (.iconst 4, 1) := by decide +kernel
theorem dX0_finish_109 : decode cX0_finish 109 = .ok (.iload 5, 2) := by decide +kernel
theorem dX0_finish_111 : decode cX0_finish 111 = .ok (.imul, 1) := by decide +kernel
theorem dX0_finish_112 : decode cX0_finish 112 = .ok (.istore_n 3, 1) := by decide +kernel
theorem dX0_finish_113 : decode cX0_finish 113 = .ok (.goto 57, 3) := by decide +kernel
theorem dX0_finish_116 : decode cX0_finish 116 = .ok (.aload_n 0, 1) := by decide +kernel
theorem dX0_finish_117 : decode cX0_finish 117 = .ok (.getfield 30, 3) := by decide +kernel
theorem dX0_finish_120 : decode cX0_finish 120 = .ok (.iconst 4, 1) := by decide +kernel
theorem dX0_finish_121 : decode cX0_finish 121 = .ok (.iload 5, 2) := by decide +kernel
theorem dX0_finish_123 : decode cX0_finish 123 = .ok (.imul, 1) := by decide +kernel
theorem dX0_finish_124 : decode cX0_finish 124 = .ok (.iconst 2, 1) := by decide +kernel
theorem dX0_finish_125 : decode cX0_finish 125 = .ok (.iadd, 1) := by decide +kernel
theorem dX0_finish_126 : decode cX0_finish 126 = .ok (.iload_n 3, 1) := by decide +kernel
theorem dX0_finish_127 : decode cX0_finish 127 = .ok (.invokevirtual 76, 3) := by decide +kernel
theorem dX0_finish_130 : decode cX0_finish 130 = .ok (.aload_n 0, 1) := by decide +kernel
theorem dX0_finish_131 : decode cX0_finish 131 = .ok (.dup, 1) := by decide +kernel
theorem dX0_finish_132 : decode cX0_finish 132 = .ok (.getfield 26, 3) := by decide +kernel
theorem dX0_finish_135 : decode cX0_finish 135 = .ok (.iconst 1, 1) := by decide +kernel
theorem dX0_finish_136 : decode cX0_finish 136 = .ok (.isub, 1) := by decide +kernel
theorem dX0_finish_137 : decode cX0_finish 137 = .ok (.putfield 26, 3) := by decide +kernel
theorem dX0_finish_140 : decode cX0_finish 140 = .ok (.aload_n 0, 1) := by decide +kernel
theorem dX0_finish_141 : decode cX0_finish 141 = .ok (.iload 6, 2) := by decide +kernel
theorem dX0_finish_143 : decode cX0_finish 143 = .ok (.invokevirtual 82, 3) := by decide +kernel
theorem dX0_finish_146 : decode cX0_finish 146 = .ok (.aload_n 0, 1) := by decide +kernel
theorem dX0_finish_147 : decode cX0_finish 147 = .ok (.aload_n 0, 1) := by decide +kernel
theorem dX0_finish_148 : decode cX0_finish 148 = .ok (.getfield 16, 3) := by decide +kernel
theorem dX0_finish_151 : decode cX0_finish 151 = .ok (.iload 4, 2) := by decide +kernel
theorem dX0_finish_153 : decode cX0_finish 153 = .ok (.iconst 1, 1) := by decide +kernel
theorem dX0_finish_154 : decode cX0_finish 154 = .ok (.iadd, 1) := by decide +kernel
theorem dX0_finish_155 : decode cX0_finish 155 = .ok (.invokevirtual 55, 3) := by decide +kernel
theorem dX0_finish_158 : decode cX0_finish 158 = .ok (.iload 6, 2) := by decide +kernel
theorem dX0_finish_160 : decode cX0_finish 160 = .ok (.invokevirtual 85, 3) := by decide +kernel
theorem dX0_finish_163 : decode cX0_finish 163 = .ok (.iconst 4, 1) := by decide +kernel
theorem dX0_finish_164 : decode cX0_finish 164 = .ok (.iload 5, 2) := by decide +kernel
theorem dX0_finish_166 : decode cX0_finish 166 = .ok (.imul, 1) := by decide +kernel
theorem dX0_finish_167 : decode cX0_finish 167 = .ok (.iconst 1, 1) := by decide +kernel
theorem dX0_finish_168 : decode cX0_finish 168 = .ok (.iadd, 1) := by decide +kernel
theorem dX0_finish_169 : decode cX0_finish 169 = .ok (.istore_n 3, 1) := by decide +kernel
theorem dX0_finish_170 : decode cX0_finish 170 = .ok (.aload_n 0, 1) := by decide +kernel
theorem dX0_finish_171 : decode cX0_finish 171 = .ok (.getfield 16, 3) := by decide +kernel
theorem dX0_finish_174 : decode cX0_finish 174 = .ok (.iload 4, 2) := by decide +kernel
theorem dX0_finish_176 : decode cX0_finish 176 = .ok (.invokevirtual 39, 3) := by decide +kernel
theorem dX0_finish_179 : decode cX0_finish 179 = .ok (.iinc 4 (-3), 3) := by decide +kernel
theorem dX0_finish_182 : decode cX0_finish 182 = .ok (.goto (-169), 3) := by decide +kernel
theorem dX0_finish_185 : decode cX0_finish 185 = .ok (.aload_n 0, 1) := by decide +kernel
theorem dX0_finish_186 : decode cX0_finish 186 = .ok (.getfield 30, 3) := by decide +kernel
theorem dX0_finish_189 : decode cX0_finish 189 = .ok (.iconst 0, 1) := by decide +kernel
theorem dX0_finish_190 : decode cX0_finish 190 = .ok (.iload_n 3, 1) := by decide +kernel
theorem dX0_finish_191 : decode cX0_finish 191 = .ok (.invokevirtual 76, 3) := by decide +kernel
theorem dX0_finish_194 : decode cX0_finish 194 = .ok (.return_, 1) := by decide +kernel
theorem dX0_finishFunction_0 : decode cX0_finishFunction 0 = .ok (.aload_n 0, 1) := by decide +kernel
theorem dX0_finishFunction_1 : decode cX0_finishFunction 1 = .ok (.getfield 23, 3) := by decide +kernel
theorem dX0_finishFunction_4 : decode cX0_finishFunction 4 = .ok (.invokevirtual 88, 3) := by decide +kernel
theorem dX0_finishFunction_7 : decode cX0_finishFunction 7 = .ok (.istore_n 2, 1) := by decide +kernel
theorem dX0_finishFunction_8 : decode cX0_finishFunction 8 = .ok (.iload_n 2, 1) := by decide +kernel
theorem dX0_finishFunction_9 : decode cX0_finishFunction 9 = .ok (.iconst (-1), 1) := by decide +kernel
theorem dX0_finishFunction_10 : decode cX0_finishFunction 10 = .ok (.if_icmp .ne 18, 3) := by decide +kernel
theorem dX0_finishFunction_13 : decode cX0_finishFunction 13 = .ok (.iconst 4, 1) := by decide +kernel
theorem dX0_finishFunction_14 : decode cX0_finishFunction 14 = .ok (.aload_n 0, 1) := by decide +kernel
theorem dX0_finishFunction_15 : decode cX0_finishFunction 15 = .ok (.getfield 30, 3) := by decide +kernel
theorem dX0_finishFunction_18 : decode cX0_finishFunction 18 = .ok (.bipush 6, 2) := by decide +kernel
theorem dX0_finishFunction_20 : decode cX0_finishFunction 20 = .ok (.iconst 0, 1) := by decide +kernel
theorem dX0_finishFunction_21 : decode cX0_finishFunction 21 = .ok (.invokevirtual 43, 3) := by decide +kernel
theorem dX0_finishFunction_24 : decode cX0_finishFunction 24 = .ok (.imul, 1) := by decide +kernel
theorem dX0_finishFunction_25 : decode cX0_finishFunction 25 = .ok (.goto 13, 3) := by decide +kernel
theorem dX0_finishFunction_28 : decode cX0_finishFunction 28 = .ok (.aload_n 0, 1) := by decide +kernel
theorem dX0_finishFunction_29 : decode cX0_finishFunction 29 = .ok (.getfield 20, 3) := by decide +kernel
theorem dX0_finishFunction_32 : decode cX0_finishFunction 32 = .ok (.iconst 3, 1) := by decide +kernel
theorem dX0_finishFunction_33 : decode cX0_finishFunction 33 = .ok (.iload_n 2, 1) := by decide +kernel
theorem dX0_finishFunction_34 : decode cX0_finishFunction 34 = .ok (.imul, 1) := by decide +kernel
theorem dX0_finishFunction_35 : decode cX0_finishFunction 35 = .ok (.invokevirtual 55, 3) := by decide +kernel
theorem dX0_finishFunction_38 : decode cX0_finishFunction 38 = .ok (.istore_n 3, 1) := by decide +kernel
theorem dX0_finishFunction_39 : decode cX0_finishFunction 39 = .ok (.aload_n 0, 1) := by decide +kernel
theorem dX0_finishFunction_40 : decode cX0_finishFunction 40 = .ok (.getfield 30, 3) := by decide +kernel
theorem dX0_finishFunction_43 : decode cX0_finishFunction 43 = .ok (.iload_n 3, 1) := by decide +kernel
theorem dX0_finishFunction_44 : decode cX0_finishFunction 44 = .ok (.iconst 4, 1) := by decide +kernel
theorem dX0_finishFunction_45 : decode cX0_finishFunction 45 = .ok (.iload_n 1, 1) := by decide +kernel
theorem dX0_finishFunction_46 : decode cX0_finishFunction 46 = .ok (.imul, 1) := by decide +kernel
theorem dX0_finishFunction_47 : decode cX0_finishFunction 47 = .ok (.iconst 2, 1) := by decide +kernel
theorem dX0_finishFunction_48 : decode cX0_finishFunction 48 = .ok (.iadd, 1) := by decide +kernel
theorem dX0_finishFunction_49 : decode cX0_finishFunction 49 = .ok (.invokevirtual 76, 3) := by decide +kernel
theorem dX0_finishFunction_52 : decode cX0_finishFunction 52 = .ok (.return_, 1) := by decide +kernel
theorem dX0_bracketEnds_0 : decode cX0_bracketEnds 0 = .ok (.iconst 0, 1) := by decide +kernel
theorem dX0_bracketEnds_1 : decode cX0_bracketEnds 1 = .ok (.istore_n 2, 1) := by decide +kernel
theorem dX0_bracketEnds_2 : decode cX0_bracketEnds 2 = .ok (.iload_n 2, 1) := by decide +kernel
theorem dX0_bracketEnds_3 : decode cX0_bracketEnds 3 = .ok (.aload_n 0, 1) := by decide +kernel
theorem dX0_bracketEnds_4 : decode cX0_bracketEnds 4 = .ok (.getfield 23, 3) := by decide +kernel
theorem dX0_bracketEnds_7 : decode cX0_bracketEnds 7 = .ok (.invokevirtual 47, 3) := by decide +kernel
theorem dX0_bracketEnds_10 : decode cX0_bracketEnds 10 = .ok (.if_icmp .ge 90, 3) := by decide +kernel
theorem dX0_bracketEnds_13 : decode cX0_bracketEnds 13 = .ok (.aload_n 0, 1) := by decide +kernel
theorem dX0_bracketEnds_14 : decode cX0_bracketEnds 14 = .ok (.getfield 23, 3) := by decide +kernel
theorem dX0_bracketEnds_17 : decode cX0_bracketEnds 17 = .ok (.iload_n 2, 1) := by decide +kernel
theorem dX0_bracketEnds_18 : decode cX0_bracketEnds 18 = .ok (.invokevirtual 55, 3) := by decide +kernel
theorem dX0_bracketEnds_21 : decode cX0_bracketEnds 21 = .ok (.istore_n 3, 1) := by decide +kernel
theorem dX0_bracketEnds_22 : decode cX0_bracketEnds 22 = .ok (.iload_n 3, 1) := by decide +kernel
theorem dX0_bracketEnds_23 : decode cX0_bracketEnds 23 = .ok (.iconst (-1), 1) := by decide +kernel
theorem dX0_bracketEnds_24 : decode cX0_bracketEnds 24 = .ok (.if_icmp .eq 70, 3) := by decide +kernel
theorem dX0_bracketEnds_27 : decode cX0_bracketEnds 27 = .ok (.aload_n 0, 1) := by decide +kernel
theorem dX0_bracketEnds_28 : decode cX0_bracketEnds 28 = .ok (.getfield 20, 3) := by decide +kernel
theorem dX0_bracketEnds_31 : decode cX0_bracketEnds 31 = .ok (.iconst 3, 1) := by decide +kernel
theorem dX0_bracketEnds_32 : decode cX0_bracketEnds 32 = .ok (.iload_n 3, 1) := by decide +kernel
theorem dX0_bracketEnds_33 : decode cX0_bracketEnds 33 = .ok (.imul, 1) := by decide +kernel
theorem dX0_bracketEnds_34 : decode cX0_bracketEnds 34 = .ok (.iconst 1, 1) := by decide +kernel
theorem dX0_bracketEnds_35 : decode cX0_bracketEnds 35 = .ok (.iadd, 1) := by decide +kernel
theorem dX0_bracketEnds_36 : decode cX0_bracketEnds 36 = .ok (.invokevirtual 55, 3) := by decide +kernel
theorem dX0_bracketEnds_39 : decode cX0_bracketEnds 39 = .ok (.iload_n 1, 1) := by decide +kernel
theorem dX0_bracketEnds_40 : decode cX0_bracketEnds 40 = .ok (.if_icmp .lt 54, 3) := by decide +kernel
theorem dX0_bracketEnds_43 : decode cX0_bracketEnds 43 = .ok (.aload_n 0, 1) := by decide +kernel
theorem dX0_bracketEnds_44 : decode cX0_bracketEnds 44 = .ok (.getfield 30, 3) := by decide +kernel
theorem dX0_bracketEnds_47 : decode cX0_bracketEnds 47 = .ok (.iconst 4, 1) := by decide +kernel
theorem dX0_bracketEnds_48 : decode cX0_bracketEnds 48 = .ok (.aload_n 0, 1) := by decide +kernel
theorem dX0_bracketEnds_49 : decode cX0_bracketEnds 49 = .ok (.getfield 26, 3) := by decide +kernel
theorem dX0_bracketEnds_52 : decode cX0_bracketEnds 52 = .ok (.invokevirtual 43, 3) := by decide +kernel
theorem dX0_bracketEnds_55 : decode cX0_bracketEnds 55 = .ok (.istore 4, 2) := by decide +kernel
theorem dX0_bracketEnds_57 : decode cX0_bracketEnds 57 = .ok (.aload_n 0, 1) := by decide +kernel
theorem dX0_bracketEnds_58 : decode cX0_bracketEnds 58 = .ok (.getfield 30, 3) := by decide +kernel
theorem dX0_bracketEnds_61 : decode cX0_bracketEnds 61 = .ok (.iconst 4, 1) := by decide +kernel
theorem dX0_bracketEnds_62 : decode cX0_bracketEnds 62 = .ok (.iload 4, 2) := by decide +kernel
theorem dX0_bracketEnds_64 : decode cX0_bracketEnds 64 = .ok (.imul, 1) := by decide +kernel
theorem dX0_bracketEnds_65 : decode cX0_bracketEnds 65 = .ok (.iconst 1, 1) := by decide +kernel
theorem dX0_bracketEnds_66 : decode cX0_bracketEnds 66 = .ok (.iadd, 1) := by decide +kernel
theorem dX0_bracketEnds_67 : decode cX0_bracketEnds 67 = .ok (.aload_n 0, 1) := by decide +kernel
theorem dX0_bracketEnds_68 : decode cX0_bracketEnds 68 = .ok (.getfield 20, 3) := by decide +kernel
theorem dX0_bracketEnds_71 : decode cX0_bracketEnds 71 = .ok (.iconst 3, 1) := by decide +kernel
theorem dX0_bracketEnds_72 : decode cX0_bracketEnds 72 = .ok (.iload_n 3, 1) := by decide +kernel
theorem dX0_bracketEnds_73 : decode cX0_bracketEnds 73 = .ok (.imul, 1) := by decide +kernel
theorem dX0_bracketEnds_74 : decode cX0_bracketEnds 74 = .ok (.invokevirtual 55, 3) := by decide +kernel
theorem dX0_bracketEnds_77 : decode cX0_bracketEnds 77 = .ok (.invokevirtual 76, 3) := by decide +kernel
theorem dX0_bracketEnds_80 : decode cX0_bracketEnds 80 = .ok (.aload_n 0, 1) := by decide +kernel
theorem dX0_bracketEnds_81 : decode cX0_bracketEnds 81 = .ok (.getfield 20, 3) := by decide +kernel
theorem dX0_bracketEnds_84 : decode cX0_bracketEnds 84 = .ok (.iconst 3, 1) := by decide +kernel
theorem dX0_bracketEnds_85 : decode cX0_bracketEnds 85 = .ok (.iload_n 3, 1) := by decide +kernel
theorem dX0_bracketEnds_86 : decode cX0_bracketEnds 86 = .ok (.imul, 1) := by decide +kernel
theorem dX0_bracketEnds_87 : decode cX0_bracketEnds 87 = .ok (.iconst 4, 1) := by decide +kernel
theorem dX0_bracketEnds_88 : decode cX0_bracketEnds 88 = .ok (.iload 4, 2) := by decide +kernel
theorem dX0_bracketEnds_90 : decode cX0_bracketEnds 90 = .ok (.imul, 1) := by decide +kernel
theorem dX0_bracketEnds_91 : decode cX0_bracketEnds 91 = .ok (.invokevirtual 73, 3) := by decide +kernel
theorem dX0_bracketEnds_94 : decode cX0_bracketEnds 94 = .ok (.iinc 2 1, 3) := by decide +kernel
theorem dX0_bracketEnds_97 : decode cX0_bracketEnds 97 = .ok (.goto (-95), 3) := by decide +kernel
theorem dX0_bracketEnds_100 : decode cX0_bracketEnds 100 = .ok (.return_, 1) := by decide +kernel
theorem dX0_fanEnds_0 : decode cX0_fanEnds 0 = .ok (.iconst 0, 1) := by decide +kernel
theorem dX0_fanEnds_1 : decode cX0_fanEnds 1 = .ok (.istore_n 3, 1) := by decide +kernel
theorem dX0_fanEnds_2 : decode cX0_fanEnds 2 = .ok (.iload_n 3, 1) := by decide +kernel
theorem dX0_fanEnds_3 : decode cX0_fanEnds 3 = .ok (.aload_n 0, 1) := by decide +kernel
theorem dX0_fanEnds_4 : decode cX0_fanEnds 4 = .ok (.getfield 23, 3) := by decide +kernel
theorem dX0_fanEnds_7 : decode cX0_fanEnds 7 = .ok (.invokevirtual 47, 3) := by decide +kernel
theorem dX0_fanEnds_10 : decode cX0_fanEnds 10 = .ok (.if_icmp .ge 170, 3) := by decide +kernel
theorem dX0_fanEnds_13 : decode cX0_fanEnds 13 = .ok (.aload_n 0, 1) := by decide +kernel
theorem dX0_fanEnds_14 : decode cX0_fanEnds 14 = .ok (.getfield 23, 3) := by decide +kernel
theorem dX0_fanEnds_17 : decode cX0_fanEnds 17 = .ok (.iload_n 3, 1) := by decide +kernel
theorem dX0_fanEnds_18 : decode cX0_fanEnds 18 = .ok (.invokevirtual 55, 3) := by decide +kernel
theorem dX0_fanEnds_21 : decode cX0_fanEnds 21 = .ok (.istore 4, 2) := by decide +kernel
theorem dX0_fanEnds_23 : decode cX0_fanEnds 23 = .ok (.iload 4, 2) := by decide +kernel
theorem dX0_fanEnds_25 : decode cX0_fanEnds 25 = .ok (.iconst (-1), 1) := by decide +kernel
theorem dX0_fanEnds_26 : decode cX0_fanEnds 26 = .ok (.if_icmp .eq 148, 3) := by decide +kernel
theorem dX0_fanEnds_29 : decode cX0_fanEnds 29 = .ok (.aload_n 0, 1) := by decide +kernel
theorem dX0_fanEnds_30 : decode cX0_fanEnds 30 = .ok (.getfield 20, 3) := by decide +kernel
theorem dX0_fanEnds_33 : decode cX0_fanEnds 33 = .ok (.iconst 3, 1) := by decide +kernel
theorem dX0_fanEnds_34 : decode cX0_fanEnds 34 = .ok (.iload 4, 2) := by decide +kernel
theorem dX0_fanEnds_36 : decode cX0_fanEnds 36 = .ok (.imul, 1) := by decide +kernel
theorem dX0_fanEnds_37 : decode cX0_fanEnds 37 = .ok (.iconst 1, 1) := by decide +kernel
theorem dX0_fanEnds_38 : decode cX0_fanEnds 38 = .ok (.iadd, 1) := by decide +kernel
theorem dX0_fanEnds_39 : decode cX0_fanEnds 39 = .ok (.invokevirtual 55, 3) := by decide +kernel
theorem dX0_fanEnds_42 : decode cX0_fanEnds 42 = .ok (.iload_n 2, 1) := by decide +kernel
theorem dX0_fanEnds_43 : decode cX0_fanEnds 43 = .ok (.if_icmp .ge 6, 3) := by decide +kernel
theorem dX0_fanEnds_46 : decode cX0_fanEnds 46 = .ok (.goto 128, 3) := by decide +kernel
theorem dX0_fanEnds_49 : decode cX0_fanEnds 49 = .ok (.aload_n 0, 1) := by decide +kernel
theorem dX0_fanEnds_50 : decode cX0_fanEnds 50 = .ok (.getfield 20, 3) := by decide +kernel
theorem dX0_fanEnds_53 : decode cX0_fanEnds 53 = .ok (.iconst 3, 1) := by decide +kernel
theorem dX0_fanEnds_54 : decode cX0_fanEnds 54 = .ok (.iload 4, 2) := by decide +kernel
theorem dX0_fanEnds_56 : decode cX0_fanEnds 56 = .ok (.imul, 1) := by decide +kernel
theorem dX0_fanEnds_57 : decode cX0_fanEnds 57 = .ok (.iconst 2, 1) := by decide +kernel
theorem dX0_fanEnds_58 : decode cX0_fanEnds 58 = .ok (.iadd, 1) := by decide +kernel
theorem dX0_fanEnds_59 : decode cX0_fanEnds 59 = .ok (.invokevirtual 55, 3) := by decide +kernel
theorem dX0_fanEnds_62 : decode cX0_fanEnds 62 = .ok (.istore 5, 2) := by decide +kernel
theorem dX0_fanEnds_64 : decode cX0_fanEnds 64 = .ok (.iload 5, 2) := by decide +kernel
theorem dX0_fanEnds_66 : decode cX0_fanEnds 66 = .ok (.iconst (-1), 1) := by decide +kernel
theorem dX0_fanEnds_67 : decode cX0_fanEnds 67 = .ok (.if_icmp .eq 107, 3) := by decide +kernel
theorem dX0_fanEnds_70 : decode cX0_fanEnds 70 = .ok (.aload_n 0, 1) := by decide +kernel
theorem dX0_fanEnds_71 : decode cX0_fanEnds 71 = .ok (.getfield 20, 3) := by decide +kernel
theorem dX0_fanEnds_74 : decode cX0_fanEnds 74 = .ok (.iconst 3, 1) := by decide +kernel
theorem dX0_fanEnds_75 : decode cX0_fanEnds 75 = .ok (.iload 5, 2) := by decide +kernel
theorem dX0_fanEnds_77 : decode cX0_fanEnds 77 = .ok (.imul, 1) := by decide +kernel
theorem dX0_fanEnds_78 : decode cX0_fanEnds 78 = .ok (.iconst 1, 1) := by decide +kernel
theorem dX0_fanEnds_79 : decode cX0_fanEnds 79 = .ok (.iadd, 1) := by decide +kernel
theorem dX0_fanEnds_80 : decode cX0_fanEnds 80 = .ok (.invokevirtual 55, 3) := by decide +kernel
theorem dX0_fanEnds_83 : decode cX0_fanEnds 83 = .ok (.iload_n 1, 1) := by decide +kernel
theorem dX0_fanEnds_84 : decode cX0_fanEnds 84 = .ok (.if_icmp .le 90, 3) := by decide +kernel
theorem dX0_fanEnds_87 : decode cX0_fanEnds 87 = .ok (.aload_n 0, 1) := by decide +kernel
theorem dX0_fanEnds_88 : decode cX0_fanEnds 88 = .ok (.getfield 30, 3) := by decide +kernel
theorem dX0_fanEnds_91 : decode cX0_fanEnds 91 = .ok (.iconst 3, 1) := by decide +kernel
theorem dX0_fanEnds_92 : decode cX0_fanEnds 92 = .ok (.aload_n 0, 1) := by decide +kernel
theorem dX0_fanEnds_93 : decode cX0_fanEnds 93 = .ok (.getfield 26, 3) := by decide +kernel
theorem dX0_fanEnds_96 : decode cX0_fanEnds 96 = .ok (.invokevirtual 43, 3) := by decide +kernel
theorem dX0_fanEnds_99 : decode cX0_fanEnds 99 = .ok (.istore 6, 2) := by decide +kernel
theorem dX0_fanEnds_101 : decode cX0_fanEnds 101 = .ok (.aload_n 0, 1) := by decide +kernel
theorem dX0_fanEnds_102 : decode cX0_fanEnds 102 = .ok (.getfield 30, 3) := by decide +kernel
theorem dX0_fanEnds_105 : decode cX0_fanEnds 105 = .ok (.iconst 4, 1) := by decide +kernel
theorem dX0_fanEnds_106 : decode cX0_fanEnds 106 = .ok (.iload 6, 2) := by decide +kernel
theorem dX0_fanEnds_108 : decode cX0_fanEnds 108 = .ok (.imul, 1) := by decide +kernel
theorem dX0_fanEnds_109 : decode cX0_fanEnds 109 = .ok (.iconst 1, 1) := by decide +kernel
theorem dX0_fanEnds_110 : decode cX0_fanEnds 110 = .ok (.iadd, 1) := by decide +kernel
theorem dX0_fanEnds_111 : decode cX0_fanEnds 111 = .ok (.aload_n 0, 1) := by decide +kernel
theorem dX0_fanEnds_112 : decode cX0_fanEnds 112 = .ok (.getfield 20, 3) := by decide +kernel
theorem dX0_fanEnds_115 : decode cX0_fanEnds 115 = .ok (.iconst 3, 1) := by decide +kernel
theorem dX0_fanEnds_116 : decode cX0_fanEnds 116 = .ok (.iload 5, 2) := by decide +kernel
theorem dX0_fanEnds_118 : decode cX0_fanEnds 118 = .ok (.imul, 1) := by decide +kernel
theorem dX0_fanEnds_119 : decode cX0_fanEnds 119 = .ok (.invokevirtual 55, 3) := by decide +kernel
theorem dX0_fanEnds_122 : decode cX0_fanEnds 122 = .ok (.invokevirtual 76, 3) := by decide +kernel
theorem dX0_fanEnds_125 : decode cX0_fanEnds 125 = .ok (.aload_n 0, 1) := by decide +kernel
theorem dX0_fanEnds_126 : decode cX0_fanEnds 126 = .ok (.getfield 30, 3) := by decide +kernel
theorem dX0_fanEnds_129 : decode cX0_fanEnds 129 = .ok (.iconst 4, 1) := by decide +kernel
theorem dX0_fanEnds_130 : decode cX0_fanEnds 130 = .ok (.iload 6, 2) := by decide +kernel
theorem dX0_fanEnds_132 : decode cX0_fanEnds 132 = .ok (.imul, 1) := by decide +kernel
theorem dX0_fanEnds_133 : decode cX0_fanEnds 133 = .ok (.iconst 2, 1) := by decide +kernel
theorem dX0_fanEnds_134 : decode cX0_fanEnds 134 = .ok (.iadd, 1) := by decide +kernel
theorem dX0_fanEnds_135 : decode cX0_fanEnds 135 = .ok (.aload_n 0, 1) := by decide +kernel
theorem dX0_fanEnds_136 : decode cX0_fanEnds 136 = .ok (.getfield 20, 3) := by decide +kernel
theorem dX0_fanEnds_139 : decode cX0_fanEnds 139 = .ok (.iconst 3, 1) := by decide +kernel
theorem dX0_fanEnds_140 : decode cX0_fanEnds 140 = .ok (.iload 4, 2) := by decide +kernel
theorem dX0_fanEnds_142 : decode cX0_fanEnds 142 = .ok (.imul, 1) := by decide +kernel
theorem dX0_fanEnds_143 : decode cX0_fanEnds 143 = .ok (.invokevirtual 55, 3) := by decide +kernel
theorem dX0_fanEnds_146 : decode cX0_fanEnds 146 = .ok (.invokevirtual 76, 3) := by decide +kernel
theorem dX0_fanEnds_149 : decode cX0_fanEnds 149 = .ok (.aload_n 0, 1) := by decide +kernel
theorem dX0_fanEnds_150 : decode cX0_fanEnds 150 = .ok (.getfield 20, 3) := by decide +kernel
theorem dX0_fanEnds_153 : decode cX0_fanEnds 153 = .ok (.iconst 3, 1) := by decide +kernel
theorem dX0_fanEnds_154 : decode cX0_fanEnds 154 = .ok (.iload 5, 2) := by decide +kernel
theorem dX0_fanEnds_156 : decode cX0_fanEnds 156 = .ok (.imul, 1) := by decide +kernel
theorem dX0_fanEnds_157 : decode cX0_fanEnds 157 = .ok (.iconst 4, 1) := by decide +kernel
theorem dX0_fanEnds_158 : decode cX0_fanEnds 158 = .ok (.iload 6, 2) := by decide +kernel
theorem dX0_fanEnds_160 : decode cX0_fanEnds 160 = .ok (.imul, 1) := by decide +kernel
theorem dX0_fanEnds_161 : decode cX0_fanEnds 161 = .ok (.invokevirtual 73, 3) := by decide +kernel
theorem dX0_fanEnds_164 : decode cX0_fanEnds 164 = .ok (.aload_n 0, 1) := by decide +kernel
theorem dX0_fanEnds_165 : decode cX0_fanEnds 165 = .ok (.getfield 23, 3) := by decide +kernel
theorem dX0_fanEnds_168 : decode cX0_fanEnds 168 = .ok (.iload_n 3, 1) := by decide +kernel
theorem dX0_fanEnds_169 : decode cX0_fanEnds 169 = .ok (.iload 5, 2) := by decide +kernel
theorem dX0_fanEnds_171 : decode cX0_fanEnds 171 = .ok (.invokevirtual 73, 3) := by decide +kernel
theorem dX0_fanEnds_174 : decode cX0_fanEnds 174 = .ok (.iinc 3 1, 3) := by decide +kernel
theorem dX0_fanEnds_177 : decode cX0_fanEnds 177 = .ok (.goto (-175), 3) := by decide +kernel
theorem dX0_fanEnds_180 : decode cX0_fanEnds 180 = .ok (.return_, 1) := by decide +kernel
theorem dX1_init_0 : decode cX1_init 0 = .ok (.aload_n 0, 1) := by decide +kernel
theorem dX1_init_1 : decode cX1_init 1 = .ok (.invokespecial 3, 3) := by decide +kernel
theorem dX1_init_4 : decode cX1_init 4 = .ok (.aload_n 0, 1) := by decide +kernel
theorem dX1_init_5 : decode cX1_init 5 = .ok (.new 9, 3) := by decide +kernel
theorem dX1_init_8 : decode cX1_init 8 = .ok (.dup, 1) := by decide +kernel
theorem dX1_init_9 : decode cX1_init 9 = .ok (.sipush 402, 3) := by decide +kernel
theorem dX1_init_12 : decode cX1_init 12 = .ok (.sipush 402, 3) := by decide +kernel
theorem dX1_init_15 : decode cX1_init 15 = .ok (.invokespecial 13, 3) := by decide +kernel
theorem dX1_init_18 : decode cX1_init 18 = .ok (.putfield 16, 3) := by decide +kernel
theorem dX1_init_21 : decode cX1_init 21 = .ok (.aload_n 0, 1) := by decide +kernel
theorem dX1_init_22 : decode cX1_init 22 = .ok (.new 9, 3) := by decide +kernel
theorem dX1_init_25 : decode cX1_init 25 = .ok (.dup, 1) := by decide +kernel
theorem dX1_init_26 : decode cX1_init 26 = .ok (.sipush 402, 3) := by decide +kernel
theorem dX1_init_29 : decode cX1_init 29 = .ok (.sipush 402, 3) := by decide +kernel
theorem dX1_init_32 : decode cX1_init 32 = .ok (.invokespecial 13, 3) := by decide +kernel
theorem dX1_init_35 : decode cX1_init 35 = .ok (.putfield 20, 3) := by decide +kernel
theorem dX1_init_38 : decode cX1_init 38 = .ok (.aload_n 0, 1) := by decide +kernel
theorem dX1_init_39 : decode cX1_init 39 = .ok (.new 9, 3) := by decide +kernel
theorem dX1_init_42 : decode cX1_init 42 = .ok (.dup, 1) := by decide +kernel
theorem dX1_init_43 : decode cX1_init 43 = .ok (.sipush 1608, 3) := by decide +kernel
theorem dX1_init_46 : decode cX1_init 46 = .ok (.sipush 1608, 3) := by decide +kernel
theorem dX1_init_49 : decode cX1_init 49 = .ok (.invokespecial 13, 3) := by decide +kernel
theorem dX1_init_52 : decode cX1_init 52 = .ok (.putfield 23, 3) := by decide +kernel
theorem dX1_init_55 : decode cX1_init 55 = .ok (.aload_n 0, 1) := by decide +kernel
theorem dX1_init_56 : decode cX1_init 56 = .ok (.new 9, 3) := by decide +kernel
theorem dX1_init_59 : decode cX1_init 59 = .ok (.dup, 1) := by decide +kernel
theorem dX1_init_60 : decode cX1_init 60 = .ok (.iconst 2, 1) := by decide +kernel
theorem dX1_init_61 : decode cX1_init 61 = .ok (.iconst 2, 1) := by decide +kernel
theorem dX1_init_62 : decode cX1_init 62 = .ok (.invokespecial 13, 3) := by decide +kernel
theorem dX1_init_65 : decode cX1_init 65 = .ok (.putfield 26, 3) := by decide +kernel
theorem dX1_init_68 : decode cX1_init 68 = .ok (.aload_n 0, 1) := by decide +kernel
theorem dX1_init_69 : decode cX1_init 69 = .ok (.iconst 0, 1) := by decide +kernel
theorem dX1_init_70 : decode cX1_init 70 = .ok (.putfield 29, 3) := by decide +kernel
theorem dX1_init_73 : decode cX1_init 73 = .ok (.aload_n 0, 1) := by decide +kernel
theorem dX1_init_74 : decode cX1_init 74 = .ok (.iconst 0, 1) := by decide +kernel
theorem dX1_init_75 : decode cX1_init 75 = .ok (.putfield 33, 3) := by decide +kernel
theorem dX1_init_78 : decode cX1_init 78 = .ok (.aload_n 0, 1) := by decide +kernel
theorem dX1_init_79 : decode cX1_init 79 = .ok (.iconst 0, 1) := by decide +kernel
theorem dX1_init_80 : decode cX1_init 80 = .ok (.putfield 36, 3) := by decide +kernel
theorem dX1_init_83 : decode cX1_init 83 = .ok (.aload_n 0, 1) := by decide +kernel
theorem dX1_init_84 : decode cX1_init 84 = .ok (.iconst 0, 1) := by decide +kernel
theorem dX1_init_85 : decode cX1_init 85 = .ok (.putfield 39, 3) := by decide +kernel
theorem dX1_init_88 : decode cX1_init 88 = .ok (.aload_n 0, 1) := by decide +kernel
theorem dX1_init_89 : decode cX1_init 89 = .ok (.getfield 16, 3) := by decide +kernel
theorem dX1_init_92 : decode cX1_init 92 = .ok (.sipush 402, 3) := by decide +kernel
theorem dX1_init_95 : decode cX1_init 95 = .ok (.iconst (-1), 1) := by decide +kernel
theorem dX1_init_96 : decode cX1_init 96 = .ok (.invokevirtual 43, 3) := by decide +kernel
theorem dX1_init_99 : decode cX1_init 99 = .ok (.aload_n 0, 1) := by decide +kernel
theorem dX1_init_100 : decode cX1_init 100 = .ok (.getfield 20, 3) := by decide +kernel
theorem dX1_init_103 : decode cX1_init 103 = .ok (.sipush 402, 3) := by decide +kernel
theorem dX1_init_106 : decode cX1_init 106 = .ok (.iconst 0, 1) := by decide +kernel
theorem dX1_init_107 : decode cX1_init 107 = .ok (.invokevirtual 43, 3) := by decide +kernel
theorem dX1_init_110 : decode cX1_init 110 = .ok (.aload_n 0, 1) := by decide +kernel
theorem dX1_init_111 : decode cX1_init 111 = .ok (.getfield 23, 3) := by decide +kernel
theorem dX1_init_114 : decode cX1_init 114 = .ok (.sipush 1608, 3) := by decide +kernel
theorem dX1_init_117 : decode cX1_init 117 = .ok (.iconst 0, 1) := by decide +kernel
theorem dX1_init_118 : decode cX1_init 118 = .ok (.invokevirtual 43, 3) := by decide +kernel
theorem dX1_init_121 : decode cX1_init 121 = .ok (.return_, 1) := by decide +kernel
theorem dX1_clear_0 : decode cX1_clear 0 = .ok (.aload_n 0, 1) := by decide +kernel
theorem dX1_clear_1 : decode cX1_clear 1 = .ok (.getfield 16, 3) := by decide +kernel
theorem dX1_clear_4 : decode cX1_clear 4 = .ok (.sipush 402, 3) := by decide +kernel
theorem dX1_clear_7 : decode cX1_clear 7 = .ok (.iconst (-1), 1) := by decide +kernel
theorem dX1_clear_8 : decode cX1_clear 8 = .ok (.invokevirtual 43, 3) := by decide +kernel
theorem dX1_clear_11 : decode cX1_clear 11 = .ok (.aload_n 0, 1) := by decide +kernel
theorem dX1_clear_12 : decode cX1_clear 12 = .ok (.iconst 0, 1) := by decide +kernel
theorem dX1_clear_13 : decode cX1_clear 13 = .ok (.putfield 29, 3) := by decide +kernel
theorem dX1_clear_16 : decode cX1_clear 16 = .ok (.aload_n 0, 1) := by decide +kernel
theorem dX1_clear_17 : decode cX1_clear 17 = .ok (.iconst 0, 1) := by decide +kernel
theorem dX1_clear_18 : decode cX1_clear 18 = .ok (.putfield 33, 3) := by decide +kernel
theorem dX1_clear_21 : decode cX1_clear 21 = .ok (.aload_n 0, 1) := by decide +kernel
theorem dX1_clear_22 : decode cX1_clear 22 = .ok (.iconst 0, 1) := by decide +kernel
theorem dX1_clear_23 : decode cX1_clear 23 = .ok (.putfield 36, 3) := by decide +kernel
theorem dX1_clear_26 : decode cX1_clear 26 = .ok (.aload_n 0, 1) := by decide +kernel
theorem dX1_clear_27 : decode cX1_clear 27 = .ok (.iconst 0, 1) := by decide +kernel
theorem dX1_clear_28 : decode cX1_clear 28 = .ok (.putfield 39, 3) := by decide +kernel
theorem dX1_clear_31 : decode cX1_clear 31 = .ok (.return_, 1) := by decide +kernel
theorem dX1_copy_0 : decode cX1_copy 0 = .ok (.aload_n 0, 1) := by decide +kernel
theorem dX1_copy_1 : decode cX1_copy 1 = .ok (.getfield 16, 3) := by decide +kernel
theorem dX1_copy_4 : decode cX1_copy 4 = .ok (.aload_n 1, 1) := by decide +kernel
theorem dX1_copy_5 : decode cX1_copy 5 = .ok (.getfield 16, 3) := by decide +kernel
theorem dX1_copy_8 : decode cX1_copy 8 = .ok (.invokevirtual 46, 3) := by decide +kernel
theorem dX1_copy_11 : decode cX1_copy 11 = .ok (.aload_n 0, 1) := by decide +kernel
theorem dX1_copy_12 : decode cX1_copy 12 = .ok (.getfield 20, 3) := by decide +kernel
theorem dX1_copy_15 : decode cX1_copy 15 = .ok (.aload_n 1, 1) := by decide +kernel
theorem dX1_copy_16 : decode cX1_copy 16 = .ok (.getfield 20, 3) := by decide +kernel
theorem dX1_copy_19 : decode cX1_copy 19 = .ok (.invokevirtual 46, 3) := by decide +kernel
theorem dX1_copy_22 : decode cX1_copy 22 = .ok (.aload_n 0, 1) := by decide +kernel
theorem dX1_copy_23 : decode cX1_copy 23 = .ok (.getfield 23, 3) := by decide +kernel
theorem dX1_copy_26 : decode cX1_copy 26 = .ok (.aload_n 1, 1) := by decide +kernel
theorem dX1_copy_27 : decode cX1_copy 27 = .ok (.getfield 23, 3) := by decide +kernel
theorem dX1_copy_30 : decode cX1_copy 30 = .ok (.invokevirtual 46, 3) := by decide +kernel
theorem dX1_copy_33 : decode cX1_copy 33 = .ok (.aload_n 0, 1) := by decide +kernel
theorem dX1_copy_34 : decode cX1_copy 34 = .ok (.aload_n 1, 1) := by decide +kernel
theorem dX1_copy_35 : decode cX1_copy 35 = .ok (.getfield 29, 3) := by decide +kernel
theorem dX1_copy_38 : decode cX1_copy 38 = .ok (.putfield 29, 3) := by decide +kernel
theorem dX1_copy_41 : decode cX1_copy 41 = .ok (.aload_n 0, 1) := by decide +kernel
theorem dX1_copy_42 : decode cX1_copy 42 = .ok (.aload_n 1, 1) := by decide +kernel
theorem dX1_copy_43 : decode cX1_copy 43 = .ok (.getfield 33, 3) := by decide +kernel
theorem dX1_copy_46 : decode cX1_copy 46 = .ok (.putfield 33, 3) := by decide +kernel
theorem dX1_copy_49 : decode cX1_copy 49 = .ok (.aload_n 0, 1) := by decide +kernel
theorem dX1_copy_50 : decode cX1_copy 50 = .ok (.aload_n 1, 1) := by decide +kernel
theorem dX1_copy_51 : decode cX1_copy 51 = .ok (.getfield 36, 3) := by decide +kernel
theorem dX1_copy_54 : decode cX1_copy 54 = .ok (.putfield 36, 3) := by decide +kernel
theorem dX1_copy_57 : decode cX1_copy 57 = .ok (.aload_n 0, 1) := by decide +kernel
theorem dX1_copy_58 : decode cX1_copy 58 = .ok (.aload_n 1, 1) := by decide +kernel
theorem dX1_copy_59 : decode cX1_copy 59 = .ok (.getfield 39, 3) := by decide +kernel
theorem dX1_copy_62 : decode cX1_copy 62 = .ok (.putfield 39, 3) := by decide +kernel
theorem dX1_copy_65 : decode cX1_copy 65 = .ok (.return_, 1) := by decide +kernel
theorem dX1_size_0 : decode cX1_size 0 = .ok (.aload_n 0, 1) := by decide +kernel
theorem dX1_size_1 : decode cX1_size 1 = .ok (.getfield 29, 3) := by decide +kernel
theorem dX1_size_4 : decode cX1_size 4 = .ok (.ireturn, 1) := by decide +kernel
theorem dX1_isOverfull_0 : decode cX1_isOverfull 0 = .ok (.aload_n 0, 1) := by decide +kernel
theorem dX1_isOverfull_1 : decode cX1_isOverfull 1 = .ok (.getfield 39, 3) := by decide +kernel
theorem dX1_isOverfull_4 : decode cX1_isOverfull 4 = .ok (.ireturn, 1) := by decide +kernel
theorem dX1_has_0 : decode cX1_has 0 = .ok (.iload_n 1, 1) := by decide +kernel
theorem dX1_has_1 : decode cX1_has 1 = .ok (.ifCond .lt 26, 3) := by decide +kernel
theorem dX1_has_4 : decode cX1_has 4 = .ok (.iload_n 1, 1) := by decide +kernel
theorem dX1_has_5 : decode cX1_has 5 = .ok (.sipush 400, 3) := by decide +kernel
theorem dX1_has_8 : decode cX1_has 8 = .ok (.if_icmp .ge 19, 3) := by decide +kernel
theorem dX1_has_11 : decode cX1_has 11 = .ok (.aload_n 0, 1) := by decide +kernel
theorem dX1_has_12 : decode cX1_has 12 = .ok (.getfield 16, 3) := by decide +kernel
theorem dX1_has_15 : decode cX1_has 15 = .ok (.iload_n 1, 1) := by decide +kernel
theorem dX1_has_16 : decode cX1_has 16 = .ok (.invokevirtual 50, 3) := by decide +kernel
theorem dX1_has_19 : decode cX1_has 19 = .ok (.iconst (-1), 1) := by decide +kernel
theorem dX1_has_20 : decode cX1_has 20 = .ok (.if_icmp .eq 7, 3) := by decide +kernel
theorem dX1_has_23 : decode cX1_has 23 = .ok (.iconst 1, 1) := by decide +kernel
theorem dX1_has_24 : decode cX1_has 24 = .ok (.goto 4, 3) := by decide +kernel
theorem dX1_has_27 : decode cX1_has 27 = .ok (.iconst 0, 1) := by decide +kernel
theorem dX1_has_28 : decode cX1_has 28 = .ok (.ireturn, 1) := by decide +kernel
theorem dX1_kind_0 : decode cX1_kind 0 = .ok (.aload_n 0, 1) := by decide +kernel
theorem dX1_kind_1 : decode cX1_kind 1 = .ok (.getfield 16, 3) := by decide +kernel
theorem dX1_kind_4 : decode cX1_kind 4 = .ok (.iload_n 1, 1) := by decide +kernel
theorem dX1_kind_5 : decode cX1_kind 5 = .ok (.invokevirtual 50, 3) := by decide +kernel
theorem dX1_kind_8 : decode cX1_kind 8 = .ok (.ireturn, 1) := by decide +kernel
theorem dX1_level_0 : decode cX1_level 0 = .ok (.aload_n 0, 1) := by decide +kernel
theorem dX1_level_1 : decode cX1_level 1 = .ok (.getfield 20, 3) := by decide +kernel
theorem dX1_level_4 : decode cX1_level 4 = .ok (.iload_n 1, 1) := by decide +kernel
theorem dX1_level_5 : decode cX1_level 5 = .ok (.invokevirtual 50, 3) := by decide +kernel
theorem dX1_level_8 : decode cX1_level 8 = .ok (.ireturn, 1) := by decide +kernel
theorem dX1_ports_0 : decode cX1_ports 0 = .ok (.aload_n 0, 1) := by decide +kernel
theorem dX1_ports_1 : decode cX1_ports 1 = .ok (.getfield 16, 3) := by decide +kernel
theorem dX1_ports_4 : decode cX1_ports 4 = .ok (.iload_n 1, 1) := by decide +kernel
theorem dX1_ports_5 : decode cX1_ports 5 = .ok (.invokevirtual 50, 3) := by decide +kernel
theorem dX1_ports_8 : decode cX1_ports 8 = .ok (.istore_n 2, 1) := by decide +kernel
theorem dX1_ports_9 : decode cX1_ports 9 = .ok (.iload_n 2, 1) := by decide +kernel
theorem dX1_ports_10 : decode cX1_ports 10 = .ok (.ifCond .lt 19, 3) := by decide +kernel
theorem dX1_ports_13 : decode cX1_ports 13 = .ok (.iload_n 2, 1) := by decide +kernel
theorem dX1_ports_14 : decode cX1_ports 14 = .ok (.getstatic 54, 3) := by decide +kernel
theorem dX1_ports_17 : decode cX1_ports 17 = .ok (.arraylength, 1) := by decide +kernel
theorem dX1_ports_18 : decode cX1_ports 18 = .ok (.if_icmp .ge 11, 3) := by decide +kernel
theorem dX1_ports_21 : decode cX1_ports 21 = .ok (.getstatic 54, 3) := by decide +kernel
theorem dX1_ports_24 : decode cX1_ports 24 = .ok (.iload_n 2, 1) := by decide +kernel
theorem dX1_ports_25 : decode cX1_ports 25 = .ok (.iaload, 1) := by decide +kernel
theorem dX1_ports_26 : decode cX1_ports 26 = .ok (.goto 4, 3) := by decide +kernel
theorem dX1_ports_29 : decode cX1_ports 29 = .ok (.iconst 0, 1) := by decide +kernel
theorem dX1_ports_30 : decode cX1_ports 30 = .ok (.ireturn, 1) := by decide +kernel
theorem dX1_wire_0 : decode cX1_wire 0 = .ok (.aload_n 0, 1) := by decide +kernel
theorem dX1_wire_1 : decode cX1_wire 1 = .ok (.getfield 23, 3) := by decide +kernel
theorem dX1_wire_4 : decode cX1_wire 4 = .ok (.iload_n 1, 1) := by decide +kernel
theorem dX1_wire_5 : decode cX1_wire 5 = .ok (.invokevirtual 50, 3) := by decide +kernel
theorem dX1_wire_8 : decode cX1_wire 8 = .ok (.ireturn, 1) := by decide +kernel
theorem dX1_make_0 : decode cX1_make 0 = .ok (.aload_n 0, 1) := by decide +kernel
theorem dX1_make_1 : decode cX1_make 1 = .ok (.getfield 33, 3) := by decide +kernel
theorem dX1_make_4 : decode cX1_make 4 = .ok (.istore_n 3, 1) := by decide +kernel
theorem dX1_make_5 : decode cX1_make 5 = .ok (.iload_n 3, 1) := by decide +kernel
theorem dX1_make_6 : decode cX1_make 6 = .ok (.sipush 400, 3) := by decide +kernel
theorem dX1_make_9 : decode cX1_make 9 = .ok (.if_icmp .ge 72, 3) := by decide +kernel
theorem dX1_make_12 : decode cX1_make 12 = .ok (.aload_n 0, 1) := by decide +kernel
theorem dX1_make_13 : decode cX1_make 13 = .ok (.getfield 16, 3) := by decide +kernel
theorem dX1_make_16 : decode cX1_make 16 = .ok (.iload_n 3, 1) := by decide +kernel
theorem dX1_make_17 : decode cX1_make 17 = .ok (.invokevirtual 50, 3) := by decide +kernel
theorem dX1_make_20 : decode cX1_make 20 = .ok (.iconst (-1), 1) := by decide +kernel
theorem dX1_make_21 : decode cX1_make 21 = .ok (.if_icmp .ne 54, 3) := by decide +kernel
theorem dX1_make_24 : decode cX1_make 24 = .ok (.aload_n 0, 1) := by decide +kernel
theorem dX1_make_25 : decode cX1_make 25 = .ok (.getfield 16, 3) := by decide +kernel
theorem dX1_make_28 : decode cX1_make 28 = .ok (.iload_n 3, 1) := by decide +kernel
theorem dX1_make_29 : decode cX1_make 29 = .ok (.iload_n 1, 1) := by decide +kernel
theorem dX1_make_30 : decode cX1_make 30 = .ok (.invokevirtual 58, 3) := by decide +kernel
theorem dX1_make_33 : decode cX1_make 33 = .ok (.aload_n 0, 1) := by decide +kernel
theorem dX1_make_34 : decode cX1_make 34 = .ok (.getfield 20, 3) := by decide +kernel
theorem dX1_make_37 : decode cX1_make 37 = .ok (.iload_n 3, 1) := by decide +kernel
theorem dX1_make_38 : decode cX1_make 38 = .ok (.iload_n 2, 1) := by decide +kernel
theorem dX1_make_39 : decode cX1_make 39 = .ok (.invokevirtual 58, 3) := by decide +kernel
theorem dX1_make_42 : decode cX1_make 42 = .ok (.aload_n 0, 1) := by decide +kernel
theorem dX1_make_43 : decode cX1_make 43 = .ok (.dup, 1) := by decide +kernel
theorem dX1_make_44 : decode cX1_make 44 = .ok (.getfield 29, 3) := by decide +kernel
theorem dX1_make_47 : decode cX1_make 47 = .ok (.iconst 1, 1) := by decide +kernel
theorem dX1_make_48 : decode cX1_make 48 = .ok (.iadd, 1) := by decide +kernel
theorem dX1_make_49 : decode cX1_make 49 = .ok (.putfield 29, 3) := by decide +kernel
theorem dX1_make_52 : decode cX1_make 52 = .ok (.aload_n 0, 1) := by decide +kernel
theorem dX1_make_53 : decode cX1_make 53 = .ok (.iload_n 3, 1) := by decide +kernel
theorem dX1_make_54 : decode cX1_make 54 = .ok (.iconst 1, 1) := by decide +kernel
theorem dX1_make_55 : decode cX1_make 55 = .ok (.iadd, 1) := by decide +kernel
theorem dX1_make_56 : decode cX1_make 56 = .ok (.putfield 33, 3) := by decide +kernel
theorem dX1_make_59 : decode cX1_make 59 = .ok (.aload_n 0, 1) := by decide +kernel
theorem dX1_make_60 : decode cX1_make 60 = .ok (.aload_n 0, 1) := by decide +kernel
theorem dX1_make_61 : decode cX1_make 61 = .ok (.getfield 36, 3) := by decide +kernel
theorem dX1_make_64 : decode cX1_make 64 = .ok (.iload_n 3, 1) := by decide +kernel
theorem dX1_make_65 : decode cX1_make 65 = .ok (.iconst 1, 1) := by decide +kernel
theorem dX1_make_66 : decode cX1_make 66 = .ok (.iadd, 1) := by decide +kernel
theorem dX1_make_67 : decode cX1_make 67 = .ok (.invokestatic 61, 3) := by decide +kernel
theorem dX1_make_70 : decode cX1_make 70 = .ok (.putfield 36, 3) := by decide +kernel
theorem dX1_make_73 : decode cX1_make 73 = .ok (.iload_n 3, 1) := by decide +kernel
theorem dX1_make_74 : decode cX1_make 74 = .ok (.ireturn, 1) := by decide +kernel
theorem dX1_make_75 : decode cX1_make 75 = .ok (.iinc 3 1, 3) := by decide +kernel
theorem dX1_make_78 : decode cX1_make 78 = .ok (.goto (-73), 3) := by decide +kernel
theorem dX1_make_81 : decode cX1_make 81 = .ok (.aload_n 0, 1) := by decide +kernel
theorem dX1_make_82 : decode cX1_make 82 = .ok (.iconst 1, 1) := by decide +kernel
theorem dX1_make_83 : decode cX1_make 83 = .ok (.putfield 39, 3) := by decide +kernel
theorem dX1_make_86 : decode cX1_make 86 = .ok (.iconst (-1), 1) := by decide +kernel
theorem dX1_make_87 : decode cX1_make 87 = .ok (.ireturn, 1) := by decide +kernel
theorem dX1_link_0 : decode cX1_link 0 = .ok (.aload_n 0, 1) := by decide +kernel
theorem dX1_link_1 : decode cX1_link 1 = .ok (.getfield 23, 3) := by decide +kernel
theorem dX1_link_4 : decode cX1_link 4 = .ok (.iload_n 1, 1) := by decide +kernel
theorem dX1_link_5 : decode cX1_link 5 = .ok (.iload_n 2, 1) := by decide +kernel
theorem dX1_link_6 : decode cX1_link 6 = .ok (.invokevirtual 58, 3) := by decide +kernel
theorem dX1_link_9 : decode cX1_link 9 = .ok (.aload_n 0, 1) := by decide +kernel
theorem dX1_link_10 : decode cX1_link 10 = .ok (.getfield 23, 3) := by decide +kernel
theorem dX1_link_13 : decode cX1_link 13 = .ok (.iload_n 2, 1) := by decide +kernel
theorem dX1_link_14 : decode cX1_link 14 = .ok (.iload_n 1, 1) := by decide +kernel
theorem dX1_link_15 : decode cX1_link 15 = .ok (.invokevirtual 58, 3) := by decide +kernel
theorem dX1_link_18 : decode cX1_link 18 = .ok (.return_, 1) := by decide +kernel
theorem dX1_sizeOfKind_0 : decode cX1_sizeOfKind 0 = .ok (.iconst 0, 1) := by decide +kernel
theorem dX1_sizeOfKind_1 : decode cX1_sizeOfKind 1 = .ok (.istore_n 2, 1) := by decide +kernel
theorem dX1_sizeOfKind_2 : decode cX1_sizeOfKind 2 = .ok (.iconst 0, 1) := by decide +kernel
theorem dX1_sizeOfKind_3 : decode cX1_sizeOfKind 3 = .ok (.istore_n 3, 1) := by decide +kernel
theorem dX1_sizeOfKind_4 : decode cX1_sizeOfKind 4 = .ok (.iload_n 3, 1) := by decide +kernel
theorem dX1_sizeOfKind_5 : decode cX1_sizeOfKind 5 = .ok (.aload_n 0, 1) := by decide +kernel
theorem dX1_sizeOfKind_6 : decode cX1_sizeOfKind 6 = .ok (.getfield 36, 3) := by decide +kernel
theorem dX1_sizeOfKind_9 : decode cX1_sizeOfKind 9 = .ok (.if_icmp .ge 24, 3) := by decide +kernel
theorem dX1_sizeOfKind_12 : decode cX1_sizeOfKind 12 = .ok (.aload_n 0, 1) := by decide +kernel
theorem dX1_sizeOfKind_13 : decode cX1_sizeOfKind 13 = .ok (.getfield 16, 3) := by decide +kernel
theorem dX1_sizeOfKind_16 : decode cX1_sizeOfKind 16 = .ok (.iload_n 3, 1) := by decide +kernel
theorem dX1_sizeOfKind_17 : decode cX1_sizeOfKind 17 = .ok (.invokevirtual 50, 3) := by decide +kernel
theorem dX1_sizeOfKind_20 : decode cX1_sizeOfKind 20 = .ok (.iload_n 1, 1) := by decide +kernel
theorem dX1_sizeOfKind_21 : decode cX1_sizeOfKind 21 = .ok (.if_icmp .ne 6, 3) := by decide +kernel
theorem dX1_sizeOfKind_24 : decode cX1_sizeOfKind 24 = .ok (.iinc 2 1, 3) := by decide +kernel
theorem dX1_sizeOfKind_27 : decode cX1_sizeOfKind 27 = .ok (.iinc 3 1, 3) := by decide +kernel
theorem dX1_sizeOfKind_30 : decode cX1_sizeOfKind 30 = .ok (.goto (-26), 3) := by decide +kernel
theorem dX1_sizeOfKind_33 : decode cX1_sizeOfKind 33 = .ok (.iload_n 2, 1) := by decide +kernel
theorem dX1_sizeOfKind_34 : decode cX1_sizeOfKind 34 = .ok (.ireturn, 1) := by decide +kernel
theorem dX1_greatestLevel_0 : decode cX1_greatestLevel 0 = .ok (.iconst 0, 1) := by decide +kernel
theorem dX1_greatestLevel_1 : decode cX1_greatestLevel 1 = .ok (.istore_n 1, 1) := by decide +kernel
theorem dX1_greatestLevel_2 : decode cX1_greatestLevel 2 = .ok (.iconst 0, 1) := by decide +kernel
theorem dX1_greatestLevel_3 : decode cX1_greatestLevel 3 = .ok (.istore_n 2, 1) := by decide +kernel
theorem dX1_greatestLevel_4 : decode cX1_greatestLevel 4 = .ok (.iload_n 2, 1) := by decide +kernel
theorem dX1_greatestLevel_5 : decode cX1_greatestLevel 5 = .ok (.aload_n 0, 1) := by decide +kernel
theorem dX1_greatestLevel_6 : decode cX1_greatestLevel 6 = .ok (.getfield 36, 3) := by decide +kernel
theorem dX1_greatestLevel_9 : decode cX1_greatestLevel 9 = .ok (.if_icmp .ge 34, 3) := by decide +kernel
theorem dX1_greatestLevel_12 : decode cX1_greatestLevel 12 = .ok (.aload_n 0, 1) := by decide +kernel
theorem dX1_greatestLevel_13 : decode cX1_greatestLevel 13 = .ok (.getfield 16, 3) := by decide +kernel
theorem dX1_greatestLevel_16 : decode cX1_greatestLevel 16 = .ok (.iload_n 2, 1) := by decide +kernel
theorem dX1_greatestLevel_17 : decode cX1_greatestLevel 17 = .ok (.invokevirtual 50, 3) := by decide +kernel
theorem dX1_greatestLevel_20 : decode cX1_greatestLevel 20 = .ok (.iconst (-1), 1) := by decide +kernel
theorem dX1_greatestLevel_21 : decode cX1_greatestLevel 21 = .ok (.if_icmp .eq 16, 3) := by decide +kernel
theorem dX1_greatestLevel_24 : decode cX1_greatestLevel 24 = .ok (.iload_n 1, 1) := by decide +kernel
theorem dX1_greatestLevel_25 : decode cX1_greatestLevel 25 = .ok (.aload_n 0, 1) := by decide +kernel
theorem dX1_greatestLevel_26 : decode cX1_greatestLevel 26 = .ok (.getfield 20, 3) := by decide +kernel
theorem dX1_greatestLevel_29 : decode cX1_greatestLevel 29 = .ok (.iload_n 2, 1) := by decide +kernel
theorem dX1_greatestLevel_30 : decode cX1_greatestLevel 30 = .ok (.invokevirtual 50, 3) := by decide +kernel
theorem dX1_greatestLevel_33 : decode cX1_greatestLevel 33 = .ok (.invokestatic 61, 3) := by decide +kernel
theorem dX1_greatestLevel_36 : decode cX1_greatestLevel 36 = .ok (.istore_n 1, 1) := by decide +kernel
theorem dX1_greatestLevel_37 : decode cX1_greatestLevel 37 = .ok (.iinc 2 1, 3) := by decide +kernel
theorem dX1_greatestLevel_40 : decode cX1_greatestLevel 40 = .ok (.goto (-36), 3) := by decide +kernel
theorem dX1_greatestLevel_43 : decode cX1_greatestLevel 43 = .ok (.iload_n 1, 1) := by decide +kernel
theorem dX1_greatestLevel_44 : decode cX1_greatestLevel 44 = .ok (.ireturn, 1) := by decide +kernel
theorem dX1_activeWires_0 : decode cX1_activeWires 0 = .ok (.iconst 0, 1) := by decide +kernel
theorem dX1_activeWires_1 : decode cX1_activeWires 1 = .ok (.istore_n 1, 1) := by decide +kernel
theorem dX1_activeWires_2 : decode cX1_activeWires 2 = .ok (.iconst 0, 1) := by decide +kernel
theorem dX1_activeWires_3 : decode cX1_activeWires 3 = .ok (.istore_n 2, 1) := by decide +kernel
theorem dX1_activeWires_4 : decode cX1_activeWires 4 = .ok (.iload_n 2, 1) := by decide +kernel
theorem dX1_activeWires_5 : decode cX1_activeWires 5 = .ok (.aload_n 0, 1) := by decide +kernel
theorem dX1_activeWires_6 : decode cX1_activeWires 6 = .ok (.getfield 36, 3) := by decide +kernel
theorem dX1_activeWires_9 : decode cX1_activeWires 9 = .ok (.if_icmp .ge 20, 3) := by decide +kernel
theorem dX1_activeWires_12 : decode cX1_activeWires 12 = .ok (.aload_n 0, 1) := by decide +kernel
theorem dX1_activeWires_13 : decode cX1_activeWires 13 = .ok (.iload_n 2, 1) := by decide +kernel
theorem dX1_activeWires_14 : decode cX1_activeWires 14 = .ok (.invokevirtual 67, 3) := by decide +kernel
theorem dX1_activeWires_17 : decode cX1_activeWires 17 = .ok (.ifCond .eq 6, 3) := by decide +kernel
theorem dX1_activeWires_20 : decode cX1_activeWires 20 = .ok (.iinc 1 1, 3) := by decide +kernel
theorem dX1_activeWires_23 : decode cX1_activeWires 23 = .ok (.iinc 2 1, 3) := by decide +kernel
theorem dX1_activeWires_26 : decode cX1_activeWires 26 = .ok (.goto (-22), 3) := by decide +kernel
theorem dX1_activeWires_29 : decode cX1_activeWires 29 = .ok (.iload_n 1, 1) := by decide +kernel
theorem dX1_activeWires_30 : decode cX1_activeWires 30 = .ok (.ireturn, 1) := by decide +kernel
theorem dX1_leastActive_0 : decode cX1_leastActive 0 = .ok (.aload_n 0, 1) := by decide +kernel
theorem dX1_leastActive_1 : decode cX1_leastActive 1 = .ok (.iconst 0, 1) := by decide +kernel
theorem dX1_leastActive_2 : decode cX1_leastActive 2 = .ok (.invokevirtual 71, 3) := by decide +kernel
theorem dX1_leastActive_5 : decode cX1_leastActive 5 = .ok (.ireturn, 1) := by decide +kernel
theorem dX1_greatestActive_0 : decode cX1_greatestActive 0 = .ok (.aload_n 0, 1) := by decide +kernel
theorem dX1_greatestActive_1 : decode cX1_greatestActive 1 = .ok (.getfield 36, 3) := by decide +kernel
theorem dX1_greatestActive_4 : decode cX1_greatestActive 4 = .ok (.iconst 1, 1) := by decide +kernel
theorem dX1_greatestActive_5 : decode cX1_greatestActive 5 = .ok (.isub, 1) := by decide +kernel
theorem dX1_greatestActive_6 : decode cX1_greatestActive 6 = .ok (.istore_n 1, 1) := by decide +kernel
theorem dX1_greatestActive_7 : decode cX1_greatestActive 7 = .ok (.iload_n 1, 1) := by decide +kernel
theorem dX1_greatestActive_8 : decode cX1_greatestActive 8 = .ok (.ifCond .lt 19, 3) := by decide +kernel
theorem dX1_greatestActive_11 : decode cX1_greatestActive 11 = .ok (.aload_n 0, 1) := by decide +kernel
theorem dX1_greatestActive_12 : decode cX1_greatestActive 12 = .ok (.iload_n 1, 1) := by decide +kernel
theorem dX1_greatestActive_13 : decode cX1_greatestActive 13 = .ok (.invokevirtual 67, 3) := by decide +kernel
theorem dX1_greatestActive_16 : decode cX1_greatestActive 16 = .ok (.ifCond .eq 5, 3) := by decide +kernel
theorem dX1_greatestActive_19 : decode cX1_greatestActive 19 = .ok (.iload_n 1, 1) := by decide +kernel
theorem dX1_greatestActive_20 : decode cX1_greatestActive 20 = .ok (.ireturn, 1) := by decide +kernel
theorem dX1_greatestActive_21 : decode cX1_greatestActive 21 = .ok (.iinc 1 (-1), 3) := by decide +kernel
theorem dX1_greatestActive_24 : decode cX1_greatestActive 24 = .ok (.goto (-17), 3) := by decide +kernel
theorem dX1_greatestActive_27 : decode cX1_greatestActive 27 = .ok (.iconst (-1), 1) := by decide +kernel
theorem dX1_greatestActive_28 : decode cX1_greatestActive 28 = .ok (.ireturn, 1) := by decide +kernel
theorem dX1_activeNode_0 : decode cX1_activeNode 0 = .ok (.iload_n 1, 1) := by decide +kernel
theorem dX1_activeNode_1 : decode cX1_activeNode 1 = .ok (.istore_n 2, 1) := by decide +kernel
theorem dX1_activeNode_2 : decode cX1_activeNode 2 = .ok (.iconst 0, 1) := by decide +kernel
theorem dX1_activeNode_3 : decode cX1_activeNode 3 = .ok (.istore_n 3, 1) := by decide +kernel
theorem dX1_activeNode_4 : decode cX1_activeNode 4 = .ok (.iload_n 3, 1) := by decide +kernel
theorem dX1_activeNode_5 : decode cX1_activeNode 5 = .ok (.aload_n 0, 1) := by decide +kernel
theorem dX1_activeNode_6 : decode cX1_activeNode 6 = .ok (.getfield 36, 3) := by decide +kernel
theorem dX1_activeNode_9 : decode cX1_activeNode 9 = .ok (.if_icmp .ge 26, 3) := by decide +kernel
theorem dX1_activeNode_12 : decode cX1_activeNode 12 = .ok (.aload_n 0, 1) := by decide +kernel
theorem dX1_activeNode_13 : decode cX1_activeNode 13 = .ok (.iload_n 3, 1) := by decide +kernel
theorem dX1_activeNode_14 : decode cX1_activeNode 14 = .ok (.invokevirtual 67, 3) := by decide +kernel
theorem dX1_activeNode_17 : decode cX1_activeNode 17 = .ok (.ifCond .eq 12, 3) := by decide +kernel
theorem dX1_activeNode_20 : decode cX1_activeNode 20 = .ok (.iload_n 2, 1) := by decide +kernel
theorem dX1_activeNode_21 : decode cX1_activeNode 21 = .ok (.ifCond .ne 5, 3) := by decide +kernel
theorem dX1_activeNode_24 : decode cX1_activeNode 24 = .ok (.iload_n 3, 1) := by decide +kernel
theorem dX1_activeNode_25 : decode cX1_activeNode 25 = .ok (.ireturn, 1) := by decide +kernel
theorem dX1_activeNode_26 : decode cX1_activeNode 26 = .ok (.iinc 2 (-1), 3) := by decide +kernel
theorem dX1_activeNode_29 : decode cX1_activeNode 29 = .ok (.iinc 3 1, 3) := by decide +kernel
theorem dX1_activeNode_32 : decode cX1_activeNode 32 = .ok (.goto (-28), 3) := by decide +kernel
theorem dX1_activeNode_35 : decode cX1_activeNode 35 = .ok (.iconst (-1), 1) := by decide +kernel
theorem dX1_activeNode_36 : decode cX1_activeNode 36 = .ok (.ireturn, 1) := by decide +kernel
theorem dX1_isLesserOfActive_0 : decode cX1_isLesserOfActive 0 = .ok (.iload_n 1, 1) := by decide +kernel
theorem dX1_isLesserOfActive_1 : decode cX1_isLesserOfActive 1 = .ok (.ifCond .eq 15, 3) := by decide +kernel
theorem dX1_isLesserOfActive_4 : decode cX1_isLesserOfActive 4 = .ok (.aload_n 0, 1) := by decide +kernel
theorem dX1_isLesserOfActive_5 : decode cX1_isLesserOfActive 5 = .ok (.getfield 16, 3) := by decide +kernel
theorem dX1_isLesserOfActive_8 : decode cX1_isLesserOfActive 8 = .ok (.iload_n 1, 1) := by decide +kernel
theorem dX1_isLesserOfActive_9 : decode cX1_isLesserOfActive 9 = .ok (.invokevirtual 50, 3) := by decide +kernel
theorem dX1_isLesserOfActive_12 : decode cX1_isLesserOfActive 12 = .ok (.iconst (-1), 1) := by decide +kernel
theorem dX1_isLesserOfActive_13 : decode cX1_isLesserOfActive 13 = .ok (.if_icmp .ne 5, 3) := by decide +kernel
theorem dX1_isLesserOfActive_16 : decode cX1_isLesserOfActive 16 = .ok (.iconst 0, 1) := by decide +kernel
theorem dX1_isLesserOfActive_17 : decode cX1_isLesserOfActive 17 = .ok (.ireturn, 1) := by decide +kernel
theorem dX1_isLesserOfActive_18 : decode cX1_isLesserOfActive 18 = .ok (.aload_n 0, 1) := by decide +kernel
theorem dX1_isLesserOfActive_19 : decode cX1_isLesserOfActive 19 = .ok (.getfield 23, 3) := by decide +kernel
theorem dX1_isLesserOfActive_22 : decode cX1_isLesserOfActive 22 = .ok (.iconst 4, 1) := by decide +kernel
theorem dX1_isLesserOfActive_23 : decode cX1_isLesserOfActive 23 = .ok (.iload_n 1, 1) := by decide +kernel
theorem dX1_isLesserOfActive_24 : decode cX1_isLesserOfActive 24 = .ok (.imul, 1) := by decide +kernel
theorem dX1_isLesserOfActive_25 : decode cX1_isLesserOfActive 25 = .ok (.invokevirtual 50, 3) := by decide +kernel
theorem dX1_isLesserOfActive_28 : decode cX1_isLesserOfActive 28 = .ok (.istore_n 2, 1) := by decide +kernel
theorem dX1_isLesserOfActive_29 : decode cX1_isLesserOfActive 29 = .ok (.iload_n 2, 1) := by decide +kernel
theorem dX1_isLesserOfActive_30 : decode cX1_isLesserOfActive 30 = .ok (.iconst 4, 1) := by decide +kernel
theorem dX1_isLesserOfActive_31 : decode cX1_isLesserOfActive 31 = .ok (.irem, 1) := by decide +kernel
theorem dX1_isLesserOfActive_32 : decode cX1_isLesserOfActive 32 = .ok (.ifCond .ne 14, 3) := by decide +kernel
theorem dX1_isLesserOfActive_35 : decode cX1_isLesserOfActive 35 = .ok (.iload_n 2, 1) := by decide +kernel
theorem dX1_isLesserOfActive_36 : decode cX1_isLesserOfActive 36 = .ok (.iconst 4, 1) := by decide +kernel
theorem dX1_isLesserOfActive_37 : decode cX1_isLesserOfActive 37 = .ok (.idiv, 1) := by decide +kernel
theorem dX1_isLesserOfActive_38 : decode cX1_isLesserOfActive 38 = .ok (.iload_n 1, 1) := by decide +kernel
theorem dX1_isLesserOfActive_39 : decode cX1_isLesserOfActive 39 = .ok (.if_icmp .le 7, 3) := by decide +kernel
theorem dX1_isLesserOfActive_42 : decode cX1_isLesserOfActive 42 = .ok (.iconst 1, 1) := by decide +kernel
theorem dX1_isLesserOfActive_43 : decode cX1_isLesserOfActive 43 = .ok (.goto 4, 3) := by decide +kernel
theorem dX1_isLesserOfActive_46 : decode cX1_isLesserOfActive 46 = .ok (.iconst 0, 1) := by decide +kernel
theorem dX1_isLesserOfActive_47 : decode cX1_isLesserOfActive 47 = .ok (.ireturn, 1) := by decide +kernel
theorem dX1_stepKind_0 : decode cX1_stepKind 0 = .ok (.aload_n 0, 1) := by decide +kernel
theorem dX1_stepKind_1 : decode cX1_stepKind 1 = .ok (.getfield 16, 3) := by decide +kernel
theorem dX1_stepKind_4 : decode cX1_stepKind 4 = .ok (.iload_n 1, 1) := by decide +kernel
theorem dX1_stepKind_5 : decode cX1_stepKind 5 = .ok (.invokevirtual 50, 3) := by decide +kernel
theorem dX1_stepKind_8 : decode cX1_stepKind 8 = .ok (.istore_n 3, 1) := by decide +kernel
theorem dX1_stepKind_9 : decode cX1_stepKind 9 = .ok (.aload_n 0, 1) := by decide +kernel
theorem dX1_stepKind_10 : decode cX1_stepKind 10 = .ok (.getfield 16, 3) := by decide +kernel
theorem dX1_stepKind_13 : decode cX1_stepKind 13 = .ok (.iload_n 2, 1) := by decide +kernel
theorem dX1_stepKind_14 : decode cX1_stepKind 14 = .ok (.invokevirtual 50, 3) := by decide +kernel
theorem dX1_stepKind_17 : decode cX1_stepKind 17 = .ok (.istore 4, 2) := by decide +kernel
theorem dX1_stepKind_19 : decode cX1_stepKind 19 = .ok (.iload_n 3, 1) := by decide +kernel
theorem dX1_stepKind_20 : decode cX1_stepKind 20 = .ok (.bipush 6, 2) := by decide +kernel
theorem dX1_stepKind_22 : decode cX1_stepKind 22 = .ok (.if_icmp .eq 10, 3) := by decide +kernel
theorem dX1_stepKind_25 : decode cX1_stepKind 25 = .ok (.iload 4, 2) := by decide +kernel
theorem dX1_stepKind_27 : decode cX1_stepKind 27 = .ok (.bipush 6, 2) := by decide +kernel
theorem dX1_stepKind_29 : decode cX1_stepKind 29 = .ok (.if_icmp .ne 5, 3) := by decide +kernel
theorem dX1_stepKind_32 : decode cX1_stepKind 32 = .ok (.iconst 5, 1) := by decide +kernel
theorem dX1_stepKind_33 : decode cX1_stepKind 33 = .ok (.ireturn, 1) := by decide +kernel
theorem dX1_stepKind_34 : decode cX1_stepKind 34 = .ok (.aload_n 0, 1) := by decide +kernel
theorem dX1_stepKind_35 : decode cX1_stepKind 35 = .ok (.getfield 20, 3) := by decide +kernel
theorem dX1_stepKind_38 : decode cX1_stepKind 38 = .ok (.iload_n 1, 1) := by decide +kernel
theorem dX1_stepKind_39 : decode cX1_stepKind 39 = .ok (.invokevirtual 50, 3) := by decide +kernel
theorem dX1_stepKind_42 : decode cX1_stepKind 42 = .ok (.aload_n 0, 1) := by decide +kernel
theorem dX1_stepKind_43 : decode cX1_stepKind 43 = .ok (.getfield 20, 3) := by decide +kernel
theorem dX1_stepKind_46 : decode cX1_stepKind 46 = .ok (.iload_n 2, 1) := by decide +kernel
theorem dX1_stepKind_47 : decode cX1_stepKind 47 = .ok (.invokevirtual 50, 3) := by decide +kernel
theorem dX1_stepKind_50 : decode cX1_stepKind 50 = .ok (.isub, 1) := by decide +kernel
theorem dX1_stepKind_51 : decode cX1_stepKind 51 = .ok (.istore 5, 2) := by decide +kernel
theorem dX1_stepKind_53 : decode cX1_stepKind 53 = .ok (.iload 5, 2) := by decide +kernel
theorem dX1_stepKind_55 : decode cX1_stepKind 55 = .ok (.ifCond .ne 50, 3) := by decide +kernel
theorem dX1_stepKind_58 : decode cX1_stepKind 58 = .ok (.iload_n 3, 1) := by decide +kernel
theorem dX1_stepKind_59 : decode cX1_stepKind 59 = .ok (.iload 4, 2) := by decide +kernel
theorem dX1_stepKind_61 : decode cX1_stepKind 61 = .ok (.if_icmp .ne 17, 3) := by decide +kernel
theorem dX1_stepKind_64 : decode cX1_stepKind 64 = .ok (.iload_n 3, 1) := by decide +kernel
theorem dX1_stepKind_65 : decode cX1_stepKind 65 = .ok (.invokestatic 74, 3) := by decide +kernel
theorem dX1_stepKind_68 : decode cX1_stepKind 68 = .ok (.ifCond .eq 7, 3) := by decide +kernel
theorem dX1_stepKind_71 : decode cX1_stepKind 71 = .ok (.iconst 2, 1) := by decide +kernel
theorem dX1_stepKind_72 : decode cX1_stepKind 72 = .ok (.goto 5, 3) := by decide +kernel
theorem dX1_stepKind_75 : decode cX1_stepKind 75 = .ok (.bipush (-2), 2) := by decide +kernel
theorem dX1_stepKind_77 : decode cX1_stepKind 77 = .ok (.ireturn, 1) := by decide +kernel
theorem dX1_stepKind_78 : decode cX1_stepKind 78 = .ok (.iload_n 3, 1) := by decide +kernel
theorem dX1_stepKind_79 : decode cX1_stepKind 79 = .ok (.iload 4, 2) := by decide +kernel
theorem dX1_stepKind_81 : decode cX1_stepKind 81 = .ok (.invokestatic 77, 3) := by decide +kernel
theorem dX1_stepKind_84 : decode cX1_stepKind 84 = .ok (.iconst 1, 1) := by decide +kernel
theorem dX1_stepKind_85 : decode cX1_stepKind 85 = .ok (.if_icmp .ne 17, 3) := by decide +kernel
theorem dX1_stepKind_88 : decode cX1_stepKind 88 = .ok (.iload_n 3, 1) := by decide +kernel
theorem dX1_stepKind_89 : decode cX1_stepKind 89 = .ok (.iload 4, 2) := by decide +kernel
theorem dX1_stepKind_91 : decode cX1_stepKind 91 = .ok (.invokestatic 61, 3) := by decide +kernel
theorem dX1_stepKind_94 : decode cX1_stepKind 94 = .ok (.iconst 2, 1) := by decide +kernel
theorem dX1_stepKind_95 : decode cX1_stepKind 95 = .ok (.if_icmp .ne 7, 3) := by decide +kernel
theorem dX1_stepKind_98 : decode cX1_stepKind 98 = .ok (.iconst 1, 1) := by decide +kernel
theorem dX1_stepKind_99 : decode cX1_stepKind 99 = .ok (.goto 5, 3) := by decide +kernel
theorem dX1_stepKind_102 : decode cX1_stepKind 102 = .ok (.bipush (-2), 2) := by decide +kernel
theorem dX1_stepKind_104 : decode cX1_stepKind 104 = .ok (.ireturn, 1) := by decide +kernel
theorem dX1_stepKind_105 : decode cX1_stepKind 105 = .ok (.iload 5, 2) := by decide +kernel
theorem dX1_stepKind_107 : decode cX1_stepKind 107 = .ok (.ifCond .ge 7, 3) := by decide +kernel
theorem dX1_stepKind_110 : decode cX1_stepKind 110 = .ok (.iload_n 3, 1) := by decide +kernel
theorem dX1_stepKind_111 : decode cX1_stepKind 111 = .ok (.goto 5, 3) := by decide +kernel
theorem dX1_stepKind_114 : decode cX1_stepKind 114 = .ok (.iload 4, 2) := by decide +kernel
theorem dX1_stepKind_116 : decode cX1_stepKind 116 = .ok (.istore 6, 2) := by decide +kernel
theorem dX1_stepKind_118 : decode cX1_stepKind 118 = .ok (.iload 6, 2) := by decide +kernel
theorem dX1_stepKind_120 : decode cX1_stepKind 120 = .ok (.invokestatic 74, 3) := by decide +kernel
theorem dX1_stepKind_123 : decode cX1_stepKind 123 = .ok (.ifCond .ne 6, 3) := by decide +kernel
theorem dX1_stepKind_126 : decode cX1_stepKind 126 = .ok (.bipush (-2), 2) := by decide +kernel
theorem dX1_stepKind_128 : decode cX1_stepKind 128 = .ok (.ireturn, 1) := by decide +kernel
theorem dX1_stepKind_129 : decode cX1_stepKind 129 = .ok (.iload 6, 2) := by decide +kernel
theorem dX1_stepKind_131 : decode cX1_stepKind 131 = .ok (.iconst 3, 1) := by decide +kernel
theorem dX1_stepKind_132 : decode cX1_stepKind 132 = .ok (.if_icmp .ne 7, 3) := by decide +kernel
theorem dX1_stepKind_135 : decode cX1_stepKind 135 = .ok (.iconst 3, 1) := by decide +kernel
theorem dX1_stepKind_136 : decode cX1_stepKind 136 = .ok (.goto 4, 3) := by decide +kernel
theorem dX1_stepKind_139 : decode cX1_stepKind 139 = .ok (.iconst 4, 1) := by decide +kernel
theorem dX1_stepKind_140 : decode cX1_stepKind 140 = .ok (.ireturn, 1) := by decide +kernel
theorem dX1_isMover_0 : decode cX1_isMover 0 = .ok (.iload_n 0, 1) := by decide +kernel
theorem dX1_isMover_1 : decode cX1_isMover 1 = .ok (.iconst 3, 1) := by decide +kernel
theorem dX1_isMover_2 : decode cX1_isMover 2 = .ok (.if_icmp .eq 13, 3) := by decide +kernel
theorem dX1_isMover_5 : decode cX1_isMover 5 = .ok (.iload_n 0, 1) := by decide +kernel
theorem dX1_isMover_6 : decode cX1_isMover 6 = .ok (.iconst 4, 1) := by decide +kernel
theorem dX1_isMover_7 : decode cX1_isMover 7 = .ok (.if_icmp .eq 8, 3) := by decide +kernel
theorem dX1_isMover_10 : decode cX1_isMover 10 = .ok (.iload_n 0, 1) := by decide +kernel
theorem dX1_isMover_11 : decode cX1_isMover 11 = .ok (.iconst 5, 1) := by decide +kernel
theorem dX1_isMover_12 : decode cX1_isMover 12 = .ok (.if_icmp .ne 7, 3) := by decide +kernel
theorem dX1_isMover_15 : decode cX1_isMover 15 = .ok (.iconst 1, 1) := by decide +kernel
theorem dX1_isMover_16 : decode cX1_isMover 16 = .ok (.goto 4, 3) := by decide +kernel
theorem dX1_isMover_19 : decode cX1_isMover 19 = .ok (.iconst 0, 1) := by decide +kernel
theorem dX1_isMover_20 : decode cX1_isMover 20 = .ok (.ireturn, 1) := by decide +kernel
theorem dX1_workOff_0 : decode cX1_workOff 0 = .ok (.aload_n 0, 1) := by decide +kernel
theorem dX1_workOff_1 : decode cX1_workOff 1 = .ok (.getfield 23, 3) := by decide +kernel
theorem dX1_workOff_4 : decode cX1_workOff 4 = .ok (.iconst 4, 1) := by decide +kernel
theorem dX1_workOff_5 : decode cX1_workOff 5 = .ok (.iload_n 1, 1) := by decide +kernel
theorem dX1_workOff_6 : decode cX1_workOff 6 = .ok (.imul, 1) := by decide +kernel
theorem dX1_workOff_7 : decode cX1_workOff 7 = .ok (.invokevirtual 50, 3) := by decide +kernel
theorem dX1_workOff_10 : decode cX1_workOff 10 = .ok (.iconst 4, 1) := by decide +kernel
theorem dX1_workOff_11 : decode cX1_workOff 11 = .ok (.idiv, 1) := by decide +kernel
theorem dX1_workOff_12 : decode cX1_workOff 12 = .ok (.istore_n 2, 1) := by decide +kernel
theorem dX1_workOff_13 : decode cX1_workOff 13 = .ok (.aload_n 0, 1) := by decide +kernel
theorem dX1_workOff_14 : decode cX1_workOff 14 = .ok (.iload_n 1, 1) := by decide +kernel
theorem dX1_workOff_15 : decode cX1_workOff 15 = .ok (.iload_n 2, 1) := by decide +kernel
theorem dX1_workOff_16 : decode cX1_workOff 16 = .ok (.invokevirtual 80, 3) := by decide +kernel
theorem dX1_workOff_19 : decode cX1_workOff 19 = .ok (.istore_n 3, 1) := by decide +kernel
theorem dX1_workOff_20 : decode cX1_workOff 20 = .ok (.iload_n 3, 1) := by decide +kernel
theorem dX1_workOff_21 : decode cX1_workOff 21 = .ok (.bipush (-2), 2) := by decide +kernel
theorem dX1_workOff_23 : decode cX1_workOff 23 = .ok (.if_icmp .ne 6, 3) := by decide +kernel
theorem dX1_workOff_26 : decode cX1_workOff 26 = .ok (.bipush (-2), 2) := by decide +kernel
theorem dX1_workOff_28 : decode cX1_workOff 28 = .ok (.ireturn, 1) := by decide +kernel
theorem dX1_workOff_29 : decode cX1_workOff 29 = .ok (.aload_n 0, 1) := by decide +kernel
theorem dX1_workOff_30 : decode cX1_workOff 30 = .ok (.iload_n 1, 1) := by decide +kernel
theorem dX1_workOff_31 : decode cX1_workOff 31 = .ok (.iload_n 2, 1) := by decide +kernel
theorem dX1_workOff_32 : decode cX1_workOff 32 = .ok (.invokevirtual 83, 3) := by decide +kernel
theorem dX1_workOff_35 : decode cX1_workOff 35 = .ok (.istore 4, 2) := by decide +kernel
theorem dX1_workOff_37 : decode cX1_workOff 37 = .ok (.iload 4, 2) := by decide +kernel
theorem dX1_workOff_39 : decode cX1_workOff 39 = .ok (.ifCond .eq 7, 3) := by decide +kernel
theorem dX1_workOff_42 : decode cX1_workOff 42 = .ok (.iload_n 1, 1) := by decide +kernel
theorem dX1_workOff_43 : decode cX1_workOff 43 = .ok (.goto 4, 3) := by decide +kernel
theorem dX1_workOff_46 : decode cX1_workOff 46 = .ok (.iload_n 2, 1) := by decide +kernel
theorem dX1_workOff_47 : decode cX1_workOff 47 = .ok (.istore 5, 2) := by decide +kernel
theorem dX1_workOff_49 : decode cX1_workOff 49 = .ok (.iload 4, 2) := by decide +kernel
theorem dX1_workOff_51 : decode cX1_workOff 51 = .ok (.ifCond .eq 7, 3) := by decide +kernel
theorem dX1_workOff_54 : decode cX1_workOff 54 = .ok (.iload_n 2, 1) := by decide +kernel
theorem dX1_workOff_55 : decode cX1_workOff 55 = .ok (.goto 4, 3) := by decide +kernel
theorem dX1_workOff_58 : decode cX1_workOff 58 = .ok (.iload_n 1, 1) := by decide +kernel
theorem dX1_workOff_59 : decode cX1_workOff 59 = .ok (.istore 6, 2) := by decide +kernel
theorem dX1_workOff_61 : decode cX1_workOff 61 = .ok (.aload_n 0, 1) := by decide +kernel
theorem dX1_workOff_62 : decode cX1_workOff 62 = .ok (.getfield 29, 3) := by decide +kernel
theorem dX1_workOff_65 : decode cX1_workOff 65 = .ok (.iconst 2, 1) := by decide +kernel
theorem dX1_workOff_66 : decode cX1_workOff 66 = .ok (.isub, 1) := by decide +kernel
theorem dX1_workOff_67 : decode cX1_workOff 67 = .ok (.aload_n 0, 1) := by decide +kernel
theorem dX1_workOff_68 : decode cX1_workOff 68 = .ok (.iload_n 3, 1) := by decide +kernel
theorem dX1_workOff_69 : decode cX1_workOff 69 = .ok (.iload 5, 2) := by decide +kernel
theorem dX1_workOff_71 : decode cX1_workOff 71 = .ok (.iload 6, 2) := by decide +kernel
theorem dX1_workOff_73 : decode cX1_workOff 73 = .ok (.invokevirtual 87, 3) := by decide +kernel
theorem dX1_workOff_76 : decode cX1_workOff 76 = .ok (.iadd, 1) := by decide +kernel
theorem dX1_workOff_77 : decode cX1_workOff 77 = .ok (.sipush 400, 3) := by decide +kernel
theorem dX1_workOff_80 : decode cX1_workOff 80 = .ok (.if_icmp .le 5, 3) := by decide +kernel
theorem dX1_workOff_83 : decode cX1_workOff 83 = .ok (.iconst (-1), 1) := by decide +kernel
theorem dX1_workOff_84 : decode cX1_workOff 84 = .ok (.ireturn, 1) := by decide +kernel
theorem dX1_workOff_85 : decode cX1_workOff 85 = .ok (.aload_n 0, 1) := by decide +kernel
theorem dX1_workOff_86 : decode cX1_workOff 86 = .ok (.iload 5, 2) := by decide +kernel
theorem dX1_workOff_88 : decode cX1_workOff 88 = .ok (.sipush 400, 3) := by decide +kernel
theorem dX1_workOff_91 : decode cX1_workOff 91 = .ok (.invokevirtual 91, 3) := by decide +kernel
theorem dX1_workOff_94 : decode cX1_workOff 94 = .ok (.aload_n 0, 1) := by decide +kernel
theorem dX1_workOff_95 : decode cX1_workOff 95 = .ok (.iload 6, 2) := by decide +kernel
theorem dX1_workOff_97 : decode cX1_workOff 97 = .ok (.sipush 401, 3) := by decide +kernel
theorem dX1_workOff_100 : decode cX1_workOff 100 = .ok (.invokevirtual 91, 3) := by decide +kernel
theorem dX1_workOff_103 : decode cX1_workOff 103 = .ok (.iload_n 3, 1) := by decide +kernel
theorem dX1_workOff_104 : decode cX1_workOff 104 = .ok (.tableswitch 50 1 5 #[43, 43, 50, 50, 36], 36) := by decide +kernel
theorem dX1_workOff_140 : decode cX1_workOff 140 = .ok (.aload_n 0, 1) := by decide +kernel
theorem dX1_workOff_141 : decode cX1_workOff 141 = .ok (.invokevirtual 94, 3) := by decide +kernel
theorem dX1_workOff_144 : decode cX1_workOff 144 = .ok (.goto 14, 3) := by decide +kernel
theorem dX1_workOff_147 : decode cX1_workOff 147 = .ok (.aload_n 0, 1) := by decide +kernel
theorem dX1_workOff_148 : decode cX1_workOff 148 = .ok (.invokevirtual 97, 3) := by decide +kernel
theorem dX1_workOff_151 : decode cX1_workOff 151 = .ok (.goto 7, 3) := by decide +kernel
theorem dX1_workOff_154 : decode cX1_workOff 154 = .ok (.aload_n 0, 1) := by decide +kernel
theorem dX1_workOff_155 : decode cX1_workOff 155 = .ok (.invokevirtual 100, 3) := by decide +kernel
theorem dX1_workOff_158 : decode cX1_workOff 158 = .ok (.iload_n 3, 1) := by decide +kernel
theorem dX1_workOff_159 : decode cX1_workOff 159 = .ok (.ireturn, 1) := by decide +kernel
theorem dX1_leads_0 : decode cX1_leads 0 = .ok (.aload_n 0, 1) := by decide +kernel
theorem dX1_leads_1 : decode cX1_leads 1 = .ok (.getfield 16, 3) := by decide +kernel
theorem dX1_leads_4 : decode cX1_leads 4 = .ok (.iload_n 1, 1) := by decide +kernel
theorem dX1_leads_5 : decode cX1_leads 5 = .ok (.invokevirtual 50, 3) := by decide +kernel
theorem dX1_leads_8 : decode cX1_leads 8 = .ok (.bipush 6, 2) := by decide +kernel
theorem dX1_leads_10 : decode cX1_leads 10 = .ok (.if_icmp .eq 16, 3) := by decide +kernel
theorem dX1_leads_13 : decode cX1_leads 13 = .ok (.aload_n 0, 1) := by decide +kernel
theorem dX1_leads_14 : decode cX1_leads 14 = .ok (.getfield 16, 3) := by decide +kernel
theorem dX1_leads_17 : decode cX1_leads 17 = .ok (.iload_n 2, 1) := by decide +kernel
theorem dX1_leads_18 : decode cX1_leads 18 = .ok (.invokevirtual 50, 3) := by decide +kernel
theorem dX1_leads_21 : decode cX1_leads 21 = .ok (.bipush 6, 2) := by decide +kernel
theorem dX1_leads_23 : decode cX1_leads 23 = .ok (.if_icmp .ne 22, 3) := by decide +kernel
theorem dX1_leads_26 : decode cX1_leads 26 = .ok (.aload_n 0, 1) := by decide +kernel
theorem dX1_leads_27 : decode cX1_leads 27 = .ok (.getfield 16, 3) := by decide +kernel
theorem dX1_leads_30 : decode cX1_leads 30 = .ok (.iload_n 1, 1) := by decide +kernel
theorem dX1_leads_31 : decode cX1_leads 31 = .ok (.invokevirtual 50, 3) := by decide +kernel
theorem dX1_leads_34 : decode cX1_leads 34 = .ok (.bipush 6, 2) := by decide +kernel
theorem dX1_leads_36 : decode cX1_leads 36 = .ok (.if_icmp .ne 7, 3) := by decide +kernel
theorem dX1_leads_39 : decode cX1_leads 39 = .ok (.iconst 1, 1) := by decide +kernel
theorem dX1_leads_40 : decode cX1_leads 40 = .ok (.goto 4, 3) := by decide +kernel
theorem dX1_leads_43 : decode cX1_leads 43 = .ok (.iconst 0, 1) := by decide +kernel
theorem dX1_leads_44 : decode cX1_leads 44 = .ok (.ireturn, 1) := by decide +kernel
theorem dX1_leads_45 : decode cX1_leads 45 = .ok (.aload_n 0, 1) := by decide +kernel
theorem dX1_leads_46 : decode cX1_leads 46 = .ok (.getfield 20, 3) := by decide +kernel
theorem dX1_leads_49 : decode cX1_leads 49 = .ok (.iload_n 1, 1) := by decide +kernel
theorem dX1_leads_50 : decode cX1_leads 50 = .ok (.invokevirtual 50, 3) := by decide +kernel
theorem dX1_leads_53 : decode cX1_leads 53 = .ok (.aload_n 0, 1) := by decide +kernel
theorem dX1_leads_54 : decode cX1_leads 54 = .ok (.getfield 20, 3) := by decide +kernel
theorem dX1_leads_57 : decode cX1_leads 57 = .ok (.iload_n 2, 1) := by decide +kernel
theorem dX1_leads_58 : decode cX1_leads 58 = .ok (.invokevirtual 50, 3) := by decide +kernel
theorem dX1_leads_61 : decode cX1_leads 61 = .ok (.if_icmp .ge 7, 3) := by decide +kernel
theorem dX1_leads_64 : decode cX1_leads 64 = .ok (.iconst 1, 1) := by decide +kernel
theorem dX1_leads_65 : decode cX1_leads 65 = .ok (.goto 4, 3) := by decide +kernel
theorem dX1_leads_68 : decode cX1_leads 68 = .ok (.iconst 0, 1) := by decide +kernel
theorem dX1_leads_69 : decode cX1_leads 69 = .ok (.ireturn, 1) := by decide +kernel
theorem dX1_newNodes_0 : decode cX1_newNodes 0 = .ok (.iload_n 1, 1) := by decide +kernel
theorem dX1_newNodes_1 : decode cX1_newNodes 1 = .ok (.iconst 1, 1) := by decide +kernel
theorem dX1_newNodes_2 : decode cX1_newNodes 2 = .ok (.if_icmp .eq 8, 3) := by decide +kernel
theorem dX1_newNodes_5 : decode cX1_newNodes 5 = .ok (.iload_n 1, 1) := by decide +kernel
theorem dX1_newNodes_6 : decode cX1_newNodes 6 = .ok (.iconst 2, 1) := by decide +kernel
theorem dX1_newNodes_7 : decode cX1_newNodes 7 = .ok (.if_icmp .ne 5, 3) := by decide +kernel
theorem dX1_newNodes_10 : decode cX1_newNodes 10 = .ok (.iconst 0, 1) := by decide +kernel
theorem dX1_newNodes_11 : decode cX1_newNodes 11 = .ok (.ireturn, 1) := by decide +kernel
theorem dX1_newNodes_12 : decode cX1_newNodes 12 = .ok (.aload_n 0, 1) := by decide +kernel
theorem dX1_newNodes_13 : decode cX1_newNodes 13 = .ok (.iload_n 2, 1) := by decide +kernel
theorem dX1_newNodes_14 : decode cX1_newNodes 14 = .ok (.invokevirtual 103, 3) := by decide +kernel
theorem dX1_newNodes_17 : decode cX1_newNodes 17 = .ok (.iconst 1, 1) := by decide +kernel
theorem dX1_newNodes_18 : decode cX1_newNodes 18 = .ok (.isub, 1) := by decide +kernel
theorem dX1_newNodes_19 : decode cX1_newNodes 19 = .ok (.aload_n 0, 1) := by decide +kernel
theorem dX1_newNodes_20 : decode cX1_newNodes 20 = .ok (.iload_n 3, 1) := by decide +kernel
theorem dX1_newNodes_21 : decode cX1_newNodes 21 = .ok (.invokevirtual 103, 3) := by decide +kernel
theorem dX1_newNodes_24 : decode cX1_newNodes 24 = .ok (.iadd, 1) := by decide +kernel
theorem dX1_newNodes_25 : decode cX1_newNodes 25 = .ok (.iconst 1, 1) := by decide +kernel
theorem dX1_newNodes_26 : decode cX1_newNodes 26 = .ok (.isub, 1) := by decide +kernel
theorem dX1_newNodes_27 : decode cX1_newNodes 27 = .ok (.ireturn, 1) := by decide +kernel
theorem dX1_lift_0 : decode cX1_lift 0 = .ok (.aload_n 0, 1) := by decide +kernel
theorem dX1_lift_1 : decode cX1_lift 1 = .ok (.getfield 16, 3) := by decide +kernel
theorem dX1_lift_4 : decode cX1_lift 4 = .ok (.iload_n 2, 1) := by decide +kernel
theorem dX1_lift_5 : decode cX1_lift 5 = .ok (.aload_n 0, 1) := by decide +kernel
theorem dX1_lift_6 : decode cX1_lift 6 = .ok (.getfield 16, 3) := by decide +kernel
theorem dX1_lift_9 : decode cX1_lift 9 = .ok (.iload_n 1, 1) := by decide +kernel
theorem dX1_lift_10 : decode cX1_lift 10 = .ok (.invokevirtual 50, 3) := by decide +kernel
theorem dX1_lift_13 : decode cX1_lift 13 = .ok (.invokevirtual 58, 3) := by decide +kernel
theorem dX1_lift_16 : decode cX1_lift 16 = .ok (.aload_n 0, 1) := by decide +kernel
theorem dX1_lift_17 : decode cX1_lift 17 = .ok (.getfield 20, 3) := by decide +kernel
theorem dX1_lift_20 : decode cX1_lift 20 = .ok (.iload_n 2, 1) := by decide +kernel
theorem dX1_lift_21 : decode cX1_lift 21 = .ok (.aload_n 0, 1) := by decide +kernel
theorem dX1_lift_22 : decode cX1_lift 22 = .ok (.getfield 20, 3) := by decide +kernel
theorem dX1_lift_25 : decode cX1_lift 25 = .ok (.iload_n 1, 1) := by decide +kernel
theorem dX1_lift_26 : decode cX1_lift 26 = .ok (.invokevirtual 50, 3) := by decide +kernel
theorem dX1_lift_29 : decode cX1_lift 29 = .ok (.invokevirtual 58, 3) := by decide +kernel
theorem dX1_lift_32 : decode cX1_lift 32 = .ok (.iconst 0, 1) := by decide +kernel
theorem dX1_lift_33 : decode cX1_lift 33 = .ok (.istore_n 3, 1) := by decide +kernel
theorem dX1_lift_34 : decode cX1_lift 34 = .ok (.iload_n 3, 1) := by decide +kernel
theorem dX1_lift_35 : decode cX1_lift 35 = .ok (.aload_n 0, 1) := by decide +kernel
theorem dX1_lift_36 : decode cX1_lift 36 = .ok (.iload_n 2, 1) := by decide +kernel
theorem dX1_lift_37 : decode cX1_lift 37 = .ok (.invokevirtual 103, 3) := by decide +kernel
theorem dX1_lift_40 : decode cX1_lift 40 = .ok (.if_icmp .ge 30, 3) := by decide +kernel
theorem dX1_lift_43 : decode cX1_lift 43 = .ok (.aload_n 0, 1) := by decide +kernel
theorem dX1_lift_44 : decode cX1_lift 44 = .ok (.iconst 4, 1) := by decide +kernel
theorem dX1_lift_45 : decode cX1_lift 45 = .ok (.iload_n 2, 1) := by decide +kernel
theorem dX1_lift_46 : decode cX1_lift 46 = .ok (.imul, 1) := by decide +kernel
theorem dX1_lift_47 : decode cX1_lift 47 = .ok (.iload_n 3, 1) := by decide +kernel
theorem dX1_lift_48 : decode cX1_lift 48 = .ok (.iadd, 1) := by decide +kernel
theorem dX1_lift_49 : decode cX1_lift 49 = .ok (.aload_n 0, 1) := by decide +kernel
theorem dX1_lift_50 : decode cX1_lift 50 = .ok (.getfield 23, 3) := by decide +kernel
theorem dX1_lift_53 : decode cX1_lift 53 = .ok (.iconst 4, 1) := by decide +kernel
theorem dX1_lift_54 : decode cX1_lift 54 = .ok (.iload_n 1, 1) := by decide +kernel
theorem dX1_lift_55 : decode cX1_lift 55 = .ok (.imul, 1) := by decide +kernel
theorem dX1_lift_56 : decode cX1_lift 56 = .ok (.iload_n 3, 1) := by decide +kernel
theorem dX1_lift_57 : decode cX1_lift 57 = .ok (.iadd, 1) := by decide +kernel
theorem dX1_lift_58 : decode cX1_lift 58 = .ok (.invokevirtual 50, 3) := by decide +kernel
theorem dX1_lift_61 : decode cX1_lift 61 = .ok (.invokevirtual 106, 3) := by decide +kernel
theorem dX1_lift_64 : decode cX1_lift 64 = .ok (.iinc 3 1, 3) := by decide +kernel
theorem dX1_lift_67 : decode cX1_lift 67 = .ok (.goto (-33), 3) := by decide +kernel
theorem dX1_lift_70 : decode cX1_lift 70 = .ok (.aload_n 0, 1) := by decide +kernel
theorem dX1_lift_71 : decode cX1_lift 71 = .ok (.getfield 16, 3) := by decide +kernel
theorem dX1_lift_74 : decode cX1_lift 74 = .ok (.iload_n 1, 1) := by decide +kernel
theorem dX1_lift_75 : decode cX1_lift 75 = .ok (.iconst (-1), 1) := by decide +kernel
theorem dX1_lift_76 : decode cX1_lift 76 = .ok (.invokevirtual 58, 3) := by decide +kernel
theorem dX1_lift_79 : decode cX1_lift 79 = .ok (.aload_n 0, 1) := by decide +kernel
theorem dX1_lift_80 : decode cX1_lift 80 = .ok (.dup, 1) := by decide +kernel
theorem dX1_lift_81 : decode cX1_lift 81 = .ok (.getfield 29, 3) := by decide +kernel
theorem dX1_lift_84 : decode cX1_lift 84 = .ok (.iconst 1, 1) := by decide +kernel
theorem dX1_lift_85 : decode cX1_lift 85 = .ok (.isub, 1) := by decide +kernel
theorem dX1_lift_86 : decode cX1_lift 86 = .ok (.putfield 29, 3) := by decide +kernel
theorem dX1_lift_89 : decode cX1_lift 89 = .ok (.aload_n 0, 1) := by decide +kernel
theorem dX1_lift_90 : decode cX1_lift 90 = .ok (.aload_n 0, 1) := by decide +kernel
theorem dX1_lift_91 : decode cX1_lift 91 = .ok (.getfield 33, 3) := by decide +kernel
theorem dX1_lift_94 : decode cX1_lift 94 = .ok (.iload_n 1, 1) := by decide +kernel
theorem dX1_lift_95 : decode cX1_lift 95 = .ok (.invokestatic 77, 3) := by decide +kernel
theorem dX1_lift_98 : decode cX1_lift 98 = .ok (.putfield 33, 3) := by decide +kernel
theorem dX1_lift_101 : decode cX1_lift 101 = .ok (.return_, 1) := by decide +kernel
theorem dX1_joinPorts_0 : decode cX1_joinPorts 0 = .ok (.iconst 1, 1) := by decide +kernel
theorem dX1_joinPorts_1 : decode cX1_joinPorts 1 = .ok (.istore_n 1, 1) := by decide +kernel
theorem dX1_joinPorts_2 : decode cX1_joinPorts 2 = .ok (.iload_n 1, 1) := by decide +kernel
theorem dX1_joinPorts_3 : decode cX1_joinPorts 3 = .ok (.aload_n 0, 1) := by decide +kernel
theorem dX1_joinPorts_4 : decode cX1_joinPorts 4 = .ok (.sipush 400, 3) := by decide +kernel
theorem dX1_joinPorts_7 : decode cX1_joinPorts 7 = .ok (.invokevirtual 103, 3) := by decide +kernel
theorem dX1_joinPorts_10 : decode cX1_joinPorts 10 = .ok (.if_icmp .ge 53, 3) := by decide +kernel
theorem dX1_joinPorts_13 : decode cX1_joinPorts 13 = .ok (.sipush 1600, 3) := by decide +kernel
theorem dX1_joinPorts_16 : decode cX1_joinPorts 16 = .ok (.iload_n 1, 1) := by decide +kernel
theorem dX1_joinPorts_17 : decode cX1_joinPorts 17 = .ok (.iadd, 1) := by decide +kernel
theorem dX1_joinPorts_18 : decode cX1_joinPorts 18 = .ok (.istore_n 2, 1) := by decide +kernel
theorem dX1_joinPorts_19 : decode cX1_joinPorts 19 = .ok (.sipush 1604, 3) := by decide +kernel
theorem dX1_joinPorts_22 : decode cX1_joinPorts 22 = .ok (.iload_n 1, 1) := by decide +kernel
theorem dX1_joinPorts_23 : decode cX1_joinPorts 23 = .ok (.iadd, 1) := by decide +kernel
theorem dX1_joinPorts_24 : decode cX1_joinPorts 24 = .ok (.istore_n 3, 1) := by decide +kernel
theorem dX1_joinPorts_25 : decode cX1_joinPorts 25 = .ok (.aload_n 0, 1) := by decide +kernel
theorem dX1_joinPorts_26 : decode cX1_joinPorts 26 = .ok (.getfield 23, 3) := by decide +kernel
theorem dX1_joinPorts_29 : decode cX1_joinPorts 29 = .ok (.iload_n 2, 1) := by decide +kernel
theorem dX1_joinPorts_30 : decode cX1_joinPorts 30 = .ok (.invokevirtual 50, 3) := by decide +kernel
theorem dX1_joinPorts_33 : decode cX1_joinPorts 33 = .ok (.iload_n 3, 1) := by decide +kernel
theorem dX1_joinPorts_34 : decode cX1_joinPorts 34 = .ok (.if_icmp .eq 23, 3) := by decide +kernel
theorem dX1_joinPorts_37 : decode cX1_joinPorts 37 = .ok (.aload_n 0, 1) := by decide +kernel
theorem dX1_joinPorts_38 : decode cX1_joinPorts 38 = .ok (.aload_n 0, 1) := by decide +kernel
theorem dX1_joinPorts_39 : decode cX1_joinPorts 39 = .ok (.getfield 23, 3) := by decide +kernel
theorem dX1_joinPorts_42 : decode cX1_joinPorts 42 = .ok (.iload_n 2, 1) := by decide +kernel
theorem dX1_joinPorts_43 : decode cX1_joinPorts 43 = .ok (.invokevirtual 50, 3) := by decide +kernel
theorem dX1_joinPorts_46 : decode cX1_joinPorts 46 = .ok (.aload_n 0, 1) := by decide +kernel
theorem dX1_joinPorts_47 : decode cX1_joinPorts 47 = .ok (.getfield 23, 3) := by decide +kernel
theorem dX1_joinPorts_50 : decode cX1_joinPorts 50 = .ok (.iload_n 3, 1) := by decide +kernel
theorem dX1_joinPorts_51 : decode cX1_joinPorts 51 = .ok (.invokevirtual 50, 3) := by decide +kernel
theorem dX1_joinPorts_54 : decode cX1_joinPorts 54 = .ok (.invokevirtual 106, 3) := by decide +kernel
theorem dX1_joinPorts_57 : decode cX1_joinPorts 57 = .ok (.iinc 1 1, 3) := by decide +kernel
theorem dX1_joinPorts_60 : decode cX1_joinPorts 60 = .ok (.goto (-58), 3) := by decide +kernel
theorem dX1_joinPorts_63 : decode cX1_joinPorts 63 = .ok (.return_, 1) := by decide +kernel
theorem dX1_erase_0 : decode cX1_erase 0 = .ok (.iconst 1, 1) := by decide +kernel
theorem dX1_erase_1 : decode cX1_erase 1 = .ok (.istore_n 1, 1) := by decide +kernel
theorem dX1_erase_2 : decode cX1_erase 2 = .ok (.iload_n 1, 1) := by decide +kernel
theorem dX1_erase_3 : decode cX1_erase 3 = .ok (.aload_n 0, 1) := by decide +kernel
theorem dX1_erase_4 : decode cX1_erase 4 = .ok (.sipush 401, 3) := by decide +kernel
theorem dX1_erase_7 : decode cX1_erase 7 = .ok (.invokevirtual 103, 3) := by decide +kernel
theorem dX1_erase_10 : decode cX1_erase 10 = .ok (.if_icmp .ge 36, 3) := by decide +kernel
theorem dX1_erase_13 : decode cX1_erase 13 = .ok (.aload_n 0, 1) := by decide +kernel
theorem dX1_erase_14 : decode cX1_erase 14 = .ok (.bipush 6, 2) := by decide +kernel
theorem dX1_erase_16 : decode cX1_erase 16 = .ok (.iconst 0, 1) := by decide +kernel
theorem dX1_erase_17 : decode cX1_erase 17 = .ok (.invokevirtual 109, 3) := by decide +kernel
theorem dX1_erase_20 : decode cX1_erase 20 = .ok (.istore_n 2, 1) := by decide +kernel
theorem dX1_erase_21 : decode cX1_erase 21 = .ok (.aload_n 0, 1) := by decide +kernel
theorem dX1_erase_22 : decode cX1_erase 22 = .ok (.iconst 4, 1) := by decide +kernel
theorem dX1_erase_23 : decode cX1_erase 23 = .ok (.iload_n 2, 1) := by decide +kernel
theorem dX1_erase_24 : decode cX1_erase 24 = .ok (.imul, 1) := by decide +kernel
theorem dX1_erase_25 : decode cX1_erase 25 = .ok (.aload_n 0, 1) := by decide +kernel
theorem dX1_erase_26 : decode cX1_erase 26 = .ok (.getfield 23, 3) := by decide +kernel
theorem dX1_erase_29 : decode cX1_erase 29 = .ok (.sipush 1604, 3) := by decide +kernel
theorem dX1_erase_32 : decode cX1_erase 32 = .ok (.iload_n 1, 1) := by decide +kernel
theorem dX1_erase_33 : decode cX1_erase 33 = .ok (.iadd, 1) := by decide +kernel
theorem dX1_erase_34 : decode cX1_erase 34 = .ok (.invokevirtual 50, 3) := by decide +kernel
theorem dX1_erase_37 : decode cX1_erase 37 = .ok (.invokevirtual 106, 3) := by decide +kernel
theorem dX1_erase_40 : decode cX1_erase 40 = .ok (.iinc 1 1, 3) := by decide +kernel
theorem dX1_erase_43 : decode cX1_erase 43 = .ok (.goto (-41), 3) := by decide +kernel
theorem dX1_erase_46 : decode cX1_erase 46 = .ok (.return_, 1) := by decide +kernel
theorem dX1_goThrough_0 : decode cX1_goThrough 0 = .ok (.aload_n 0, 1) := by decide +kernel
theorem dX1_goThrough_1 : decode cX1_goThrough 1 = .ok (.getfield 16, 3) := by decide +kernel
theorem dX1_goThrough_4 : decode cX1_goThrough 4 = .ok (.sipush 400, 3) := by decide +kernel
theorem dX1_goThrough_7 : decode cX1_goThrough 7 = .ok (.invokevirtual 50, 3) := by decide +kernel
theorem dX1_goThrough_10 : decode cX1_goThrough 10 = .ok (.istore_n 1, 1) := by decide +kernel
theorem dX1_goThrough_11 : decode cX1_goThrough 11 = .ok (.iload_n 1, 1) := by decide +kernel
theorem dX1_goThrough_12 : decode cX1_goThrough 12 = .ok (.iconst 4, 1) := by decide +kernel
theorem dX1_goThrough_13 : decode cX1_goThrough 13 = .ok (.if_icmp .ne 7, 3) := by decide +kernel
theorem dX1_goThrough_16 : decode cX1_goThrough 16 = .ok (.iconst 1, 1) := by decide +kernel
theorem dX1_goThrough_17 : decode cX1_goThrough 17 = .ok (.goto 13, 3) := by decide +kernel
theorem dX1_goThrough_20 : decode cX1_goThrough 20 = .ok (.iload_n 1, 1) := by decide +kernel
theorem dX1_goThrough_21 : decode cX1_goThrough 21 = .ok (.iconst 5, 1) := by decide +kernel
theorem dX1_goThrough_22 : decode cX1_goThrough 22 = .ok (.if_icmp .ne 7, 3) := by decide +kernel
theorem dX1_goThrough_25 : decode cX1_goThrough 25 = .ok (.iconst (-1), 1) := by decide +kernel
theorem dX1_goThrough_26 : decode cX1_goThrough 26 = .ok (.goto 4, 3) := by decide +kernel
theorem dX1_goThrough_29 : decode cX1_goThrough 29 = .ok (.iconst 0, 1) := by decide +kernel
theorem dX1_goThrough_30 : decode cX1_goThrough 30 = .ok (.istore_n 2, 1) := by decide +kernel
theorem dX1_goThrough_31 : decode cX1_goThrough 31 = .ok (.aload_n 0, 1) := by decide +kernel
theorem dX1_goThrough_32 : decode cX1_goThrough 32 = .ok (.getfield 26, 3) := by decide +kernel
theorem dX1_goThrough_35 : decode cX1_goThrough 35 = .ok (.iconst 0, 1) := by decide +kernel
theorem dX1_goThrough_36 : decode cX1_goThrough 36 = .ok (.invokevirtual 112, 3) := by decide +kernel
theorem dX1_goThrough_39 : decode cX1_goThrough 39 = .ok (.iconst 1, 1) := by decide +kernel
theorem dX1_goThrough_40 : decode cX1_goThrough 40 = .ok (.istore_n 3, 1) := by decide +kernel
theorem dX1_goThrough_41 : decode cX1_goThrough 41 = .ok (.iload_n 3, 1) := by decide +kernel
theorem dX1_goThrough_42 : decode cX1_goThrough 42 = .ok (.aload_n 0, 1) := by decide +kernel
theorem dX1_goThrough_43 : decode cX1_goThrough 43 = .ok (.sipush 400, 3) := by decide +kernel
theorem dX1_goThrough_46 : decode cX1_goThrough 46 = .ok (.invokevirtual 103, 3) := by decide +kernel
theorem dX1_goThrough_49 : decode cX1_goThrough 49 = .ok (.if_icmp .ge 67, 3) := by decide +kernel
theorem dX1_goThrough_52 : decode cX1_goThrough 52 = .ok (.aload_n 0, 1) := by decide +kernel
theorem dX1_goThrough_53 : decode cX1_goThrough 53 = .ok (.aload_n 0, 1) := by decide +kernel
theorem dX1_goThrough_54 : decode cX1_goThrough 54 = .ok (.getfield 16, 3) := by decide +kernel
theorem dX1_goThrough_57 : decode cX1_goThrough 57 = .ok (.sipush 401, 3) := by decide +kernel
theorem dX1_goThrough_60 : decode cX1_goThrough 60 = .ok (.invokevirtual 50, 3) := by decide +kernel
theorem dX1_goThrough_63 : decode cX1_goThrough 63 = .ok (.aload_n 0, 1) := by decide +kernel
theorem dX1_goThrough_64 : decode cX1_goThrough 64 = .ok (.getfield 20, 3) := by decide +kernel
theorem dX1_goThrough_67 : decode cX1_goThrough 67 = .ok (.sipush 401, 3) := by decide +kernel
theorem dX1_goThrough_70 : decode cX1_goThrough 70 = .ok (.invokevirtual 50, 3) := by decide +kernel
theorem dX1_goThrough_73 : decode cX1_goThrough 73 = .ok (.iload_n 2, 1) := by decide +kernel
theorem dX1_goThrough_74 : decode cX1_goThrough 74 = .ok (.iadd, 1) := by decide +kernel
theorem dX1_goThrough_75 : decode cX1_goThrough 75 = .ok (.invokevirtual 109, 3) := by decide +kernel
theorem dX1_goThrough_78 : decode cX1_goThrough 78 = .ok (.istore 4, 2) := by decide +kernel
theorem dX1_goThrough_80 : decode cX1_goThrough 80 = .ok (.aload_n 0, 1) := by decide +kernel
theorem dX1_goThrough_81 : decode cX1_goThrough 81 = .ok (.getfield 26, 3) := by decide +kernel
theorem dX1_goThrough_84 : decode cX1_goThrough 84 = .ok (.iload 4, 2) := by decide +kernel
theorem dX1_goThrough_86 : decode cX1_goThrough 86 = .ok (.invokevirtual 116, 3) := by decide +kernel
theorem dX1_goThrough_89 : decode cX1_goThrough 89 = .ok (.pop, 1) := by decide +kernel
theorem dX1_goThrough_90 : decode cX1_goThrough 90 = .ok (.aload_n 0, 1) := by decide +kernel
theorem dX1_goThrough_91 : decode cX1_goThrough 91 = .ok (.iconst 4, 1) := by decide +kernel
theorem dX1_goThrough_92 : decode cX1_goThrough 92 = .ok (.iload 4, 2) := by decide +kernel
theorem dX1_goThrough_94 : decode cX1_goThrough 94 = .ok (.imul, 1) := by decide +kernel
theorem dX1_goThrough_95 : decode cX1_goThrough 95 = .ok (.aload_n 0, 1) := by decide +kernel
theorem dX1_goThrough_96 : decode cX1_goThrough 96 = .ok (.getfield 23, 3) := by decide +kernel
theorem dX1_goThrough_99 : decode cX1_goThrough 99 = .ok (.sipush 1600, 3) := by decide +kernel
theorem dX1_goThrough_102 : decode cX1_goThrough 102 = .ok (.iload_n 3, 1) := by decide +kernel
theorem dX1_goThrough_103 : decode cX1_goThrough 103 = .ok (.iadd, 1) := by decide +kernel
theorem dX1_goThrough_104 : decode cX1_goThrough 104 = .ok (.invokevirtual 50, 3) := by decide +kernel
theorem dX1_goThrough_107 : decode cX1_goThrough 107 = .ok (.invokevirtual 106, 3) := by decide +kernel
theorem dX1_goThrough_110 : decode cX1_goThrough 110 = .ok (.iinc 3 1, 3) := by decide +kernel
theorem dX1_goThrough_113 : decode cX1_goThrough 113 = .ok (.goto (-72), 3) := by decide +kernel
theorem dX1_goThrough_116 : decode cX1_goThrough 116 = .ok (.iconst 1, 1) := by decide +kernel
theorem dX1_goThrough_117 : decode cX1_goThrough 117 = .ok (.istore_n 3, 1) := by decide +kernel
theorem dX1_goThrough_118 : decode cX1_goThrough 118 = .ok (.iload_n 3, 1) := by decide +kernel
theorem dX1_goThrough_119 : decode cX1_goThrough 119 = .ok (.aload_n 0, 1) := by decide +kernel
theorem dX1_goThrough_120 : decode cX1_goThrough 120 = .ok (.sipush 401, 3) := by decide +kernel
theorem dX1_goThrough_123 : decode cX1_goThrough 123 = .ok (.invokevirtual 103, 3) := by decide +kernel
theorem dX1_goThrough_126 : decode cX1_goThrough 126 = .ok (.if_icmp .ge 93, 3) := by decide +kernel
theorem dX1_goThrough_129 : decode cX1_goThrough 129 = .ok (.aload_n 0, 1) := by decide +kernel
theorem dX1_goThrough_130 : decode cX1_goThrough 130 = .ok (.iload_n 1, 1) := by decide +kernel
theorem dX1_goThrough_131 : decode cX1_goThrough 131 = .ok (.aload_n 0, 1) := by decide +kernel
theorem dX1_goThrough_132 : decode cX1_goThrough 132 = .ok (.getfield 20, 3) := by decide +kernel
theorem dX1_goThrough_135 : decode cX1_goThrough 135 = .ok (.sipush 400, 3) := by decide +kernel
theorem dX1_goThrough_138 : decode cX1_goThrough 138 = .ok (.invokevirtual 50, 3) := by decide +kernel
theorem dX1_goThrough_141 : decode cX1_goThrough 141 = .ok (.invokevirtual 109, 3) := by decide +kernel
theorem dX1_goThrough_144 : decode cX1_goThrough 144 = .ok (.istore 4, 2) := by decide +kernel
theorem dX1_goThrough_146 : decode cX1_goThrough 146 = .ok (.aload_n 0, 1) := by decide +kernel
theorem dX1_goThrough_147 : decode cX1_goThrough 147 = .ok (.iconst 4, 1) := by decide +kernel
theorem dX1_goThrough_148 : decode cX1_goThrough 148 = .ok (.iload 4, 2) := by decide +kernel
theorem dX1_goThrough_150 : decode cX1_goThrough 150 = .ok (.imul, 1) := by decide +kernel
theorem dX1_goThrough_151 : decode cX1_goThrough 151 = .ok (.aload_n 0, 1) := by decide +kernel
theorem dX1_goThrough_152 : decode cX1_goThrough 152 = .ok (.getfield 23, 3) := by decide +kernel
theorem dX1_goThrough_155 : decode cX1_goThrough 155 = .ok (.sipush 1604, 3) := by decide +kernel
theorem dX1_goThrough_158 : decode cX1_goThrough 158 = .ok (.iload_n 3, 1) := by decide +kernel
theorem dX1_goThrough_159 : decode cX1_goThrough 159 = .ok (.iadd, 1) := by decide +kernel
theorem dX1_goThrough_160 : decode cX1_goThrough 160 = .ok (.invokevirtual 50, 3) := by decide +kernel
theorem dX1_goThrough_163 : decode cX1_goThrough 163 = .ok (.invokevirtual 106, 3) := by decide +kernel
theorem dX1_goThrough_166 : decode cX1_goThrough 166 = .ok (.iconst 1, 1) := by decide +kernel
theorem dX1_goThrough_167 : decode cX1_goThrough 167 = .ok (.istore 5, 2) := by decide +kernel
theorem dX1_goThrough_169 : decode cX1_goThrough 169 = .ok (.iload 5, 2) := by decide +kernel
theorem dX1_goThrough_171 : decode cX1_goThrough 171 = .ok (.aload_n 0, 1) := by decide +kernel
theorem dX1_goThrough_172 : decode cX1_goThrough 172 = .ok (.sipush 400, 3) := by decide +kernel
theorem dX1_goThrough_175 : decode cX1_goThrough 175 = .ok (.invokevirtual 103, 3) := by decide +kernel
theorem dX1_goThrough_178 : decode cX1_goThrough 178 = .ok (.if_icmp .ge 35, 3) := by decide +kernel
theorem dX1_goThrough_181 : decode cX1_goThrough 181 = .ok (.aload_n 0, 1) := by decide +kernel
theorem dX1_goThrough_182 : decode cX1_goThrough 182 = .ok (.iconst 4, 1) := by decide +kernel
theorem dX1_goThrough_183 : decode cX1_goThrough 183 = .ok (.aload_n 0, 1) := by decide +kernel
theorem dX1_goThrough_184 : decode cX1_goThrough 184 = .ok (.getfield 26, 3) := by decide +kernel
theorem dX1_goThrough_187 : decode cX1_goThrough 187 = .ok (.iload 5, 2) := by decide +kernel
theorem dX1_goThrough_189 : decode cX1_goThrough 189 = .ok (.iconst 1, 1) := by decide +kernel
theorem dX1_goThrough_190 : decode cX1_goThrough 190 = .ok (.isub, 1) := by decide +kernel
theorem dX1_goThrough_191 : decode cX1_goThrough 191 = .ok (.invokevirtual 50, 3) := by decide +kernel
theorem dX1_goThrough_194 : decode cX1_goThrough 194 = .ok (.imul, 1) := by decide +kernel
theorem dX1_goThrough_195 : decode cX1_goThrough 195 = .ok (.iload_n 3, 1) := by decide +kernel
theorem dX1_goThrough_196 : decode cX1_goThrough 196 = .ok (.iadd, 1) := by decide +kernel
theorem dX1_goThrough_197 : decode cX1_goThrough 197 = .ok (.iconst 4, 1) := by decide +kernel
theorem dX1_goThrough_198 : decode cX1_goThrough 198 = .ok (.iload 4, 2) := by decide +kernel
theorem dX1_goThrough_200 : decode cX1_goThrough 200 = .ok (.imul, 1) := by decide +kernel
theorem dX1_goThrough_201 : decode cX1_goThrough 201 = .ok (.iload 5, 2) := by decide +kernel
theorem dX1_goThrough_203 : decode cX1_goThrough 203 = .ok (.iadd, 1) := by decide +kernel
theorem dX1_goThrough_204 : decode cX1_goThrough 204 = .ok (.invokevirtual 106, 3) := by decide +kernel
theorem dX1_goThrough_207 : decode cX1_goThrough 207 = .ok (.iinc 5 1, 3) := by decide +kernel
theorem dX1_goThrough_210 : decode cX1_goThrough 210 = .ok (.goto (-41), 3) := by decide +kernel
theorem dX1_goThrough_213 : decode cX1_goThrough 213 = .ok (.iinc 3 1, 3) := by decide +kernel
theorem dX1_goThrough_216 : decode cX1_goThrough 216 = .ok (.goto (-98), 3) := by decide +kernel
theorem dX1_goThrough_219 : decode cX1_goThrough 219 = .ok (.return_, 1) := by decide +kernel
theorem dX2_init_0 : decode cX2_init 0 = .ok (.aload_n 0, 1) := by decide +kernel
theorem dX2_init_1 : decode cX2_init 1 = .ok (.invokespecial 3, 3) := by decide +kernel
theorem dX2_init_4 : decode cX2_init 4 = .ok (.aload_n 0, 1) := by decide +kernel
theorem dX2_init_5 : decode cX2_init 5 = .ok (.new 9, 3) := by decide +kernel
theorem dX2_init_8 : decode cX2_init 8 = .ok (.dup, 1) := by decide +kernel
theorem dX2_init_9 : decode cX2_init 9 = .ok (.bipush 32, 2) := by decide +kernel
theorem dX2_init_11 : decode cX2_init 11 = .ok (.sipush 1000, 3) := by decide +kernel
theorem dX2_init_14 : decode cX2_init 14 = .ok (.invokespecial 11, 3) := by decide +kernel
theorem dX2_init_17 : decode cX2_init 17 = .ok (.putfield 14, 3) := by decide +kernel
theorem dX2_init_20 : decode cX2_init 20 = .ok (.aload_n 0, 1) := by decide +kernel
theorem dX2_init_21 : decode cX2_init 21 = .ok (.new 9, 3) := by decide +kernel
theorem dX2_init_24 : decode cX2_init 24 = .ok (.dup, 1) := by decide +kernel
theorem dX2_init_25 : decode cX2_init 25 = .ok (.bipush 32, 2) := by decide +kernel
theorem dX2_init_27 : decode cX2_init 27 = .ok (.sipush 1000, 3) := by decide +kernel
theorem dX2_init_30 : decode cX2_init 30 = .ok (.invokespecial 11, 3) := by decide +kernel
theorem dX2_init_33 : decode cX2_init 33 = .ok (.putfield 20, 3) := by decide +kernel
theorem dX2_init_36 : decode cX2_init 36 = .ok (.aload_n 0, 1) := by decide +kernel
theorem dX2_init_37 : decode cX2_init 37 = .ok (.new 9, 3) := by decide +kernel
theorem dX2_init_40 : decode cX2_init 40 = .ok (.dup, 1) := by decide +kernel
theorem dX2_init_41 : decode cX2_init 41 = .ok (.bipush 64, 2) := by decide +kernel
theorem dX2_init_43 : decode cX2_init 43 = .ok (.sipush 1000, 3) := by decide +kernel
theorem dX2_init_46 : decode cX2_init 46 = .ok (.invokespecial 11, 3) := by decide +kernel
theorem dX2_init_49 : decode cX2_init 49 = .ok (.putfield 23, 3) := by decide +kernel
theorem dX2_init_52 : decode cX2_init 52 = .ok (.aload_n 0, 1) := by decide +kernel
theorem dX2_init_53 : decode cX2_init 53 = .ok (.new 9, 3) := by decide +kernel
theorem dX2_init_56 : decode cX2_init 56 = .ok (.dup, 1) := by decide +kernel
theorem dX2_init_57 : decode cX2_init 57 = .ok (.bipush 64, 2) := by decide +kernel
theorem dX2_init_59 : decode cX2_init 59 = .ok (.sipush 1000, 3) := by decide +kernel
theorem dX2_init_62 : decode cX2_init 62 = .ok (.invokespecial 11, 3) := by decide +kernel
theorem dX2_init_65 : decode cX2_init 65 = .ok (.putfield 26, 3) := by decide +kernel
theorem dX2_init_68 : decode cX2_init 68 = .ok (.aload_n 0, 1) := by decide +kernel
theorem dX2_init_69 : decode cX2_init 69 = .ok (.iconst 0, 1) := by decide +kernel
theorem dX2_init_70 : decode cX2_init 70 = .ok (.putfield 29, 3) := by decide +kernel
theorem dX2_init_73 : decode cX2_init 73 = .ok (.aload_n 0, 1) := by decide +kernel
theorem dX2_init_74 : decode cX2_init 74 = .ok (.iconst 0, 1) := by decide +kernel
theorem dX2_init_75 : decode cX2_init 75 = .ok (.putfield 33, 3) := by decide +kernel
theorem dX2_init_78 : decode cX2_init 78 = .ok (.return_, 1) := by decide +kernel
theorem dX2_term_0 : decode cX2_term 0 = .ok (.aload_n 0, 1) := by decide +kernel
theorem dX2_term_1 : decode cX2_term 1 = .ok (.getfield 23, 3) := by decide +kernel
theorem dX2_term_4 : decode cX2_term 4 = .ok (.areturn, 1) := by decide +kernel
theorem dX2_rounds_0 : decode cX2_rounds 0 = .ok (.aload_n 0, 1) := by decide +kernel
theorem dX2_rounds_1 : decode cX2_rounds 1 = .ok (.getfield 29, 3) := by decide +kernel
theorem dX2_rounds_4 : decode cX2_rounds 4 = .ok (.ireturn, 1) := by decide +kernel
theorem dX2_tooMany_0 : decode cX2_tooMany 0 = .ok (.aload_n 0, 1) := by decide +kernel
theorem dX2_tooMany_1 : decode cX2_tooMany 1 = .ok (.getfield 33, 3) := by decide +kernel
theorem dX2_tooMany_4 : decode cX2_tooMany 4 = .ok (.ireturn, 1) := by decide +kernel
theorem dX2_isAtEnd_0 : decode cX2_isAtEnd 0 = .ok (.aload_n 0, 1) := by decide +kernel
theorem dX2_isAtEnd_1 : decode cX2_isAtEnd 1 = .ok (.getfield 33, 3) := by decide +kernel
theorem dX2_isAtEnd_4 : decode cX2_isAtEnd 4 = .ok (.ifCond .ne 15, 3) := by decide +kernel
theorem dX2_isAtEnd_7 : decode cX2_isAtEnd 7 = .ok (.aload_n 0, 1) := by decide +kernel
theorem dX2_isAtEnd_8 : decode cX2_isAtEnd 8 = .ok (.invokevirtual 37, 3) := by decide +kernel
theorem dX2_isAtEnd_11 : decode cX2_isAtEnd 11 = .ok (.iconst (-1), 1) := by decide +kernel
theorem dX2_isAtEnd_12 : decode cX2_isAtEnd 12 = .ok (.if_icmp .ne 7, 3) := by decide +kernel
theorem dX2_isAtEnd_15 : decode cX2_isAtEnd 15 = .ok (.iconst 1, 1) := by decide +kernel
theorem dX2_isAtEnd_16 : decode cX2_isAtEnd 16 = .ok (.goto 4, 3) := by decide +kernel
theorem dX2_isAtEnd_19 : decode cX2_isAtEnd 19 = .ok (.iconst 0, 1) := by decide +kernel
theorem dX2_isAtEnd_20 : decode cX2_isAtEnd 20 = .ok (.ireturn, 1) := by decide +kernel
theorem dX2_workOff_0 : decode cX2_workOff 0 = .ok (.aload_n 0, 1) := by decide +kernel
theorem dX2_workOff_1 : decode cX2_workOff 1 = .ok (.getfield 23, 3) := by decide +kernel
theorem dX2_workOff_4 : decode cX2_workOff 4 = .ok (.aload_n 1, 1) := by decide +kernel
theorem dX2_workOff_5 : decode cX2_workOff 5 = .ok (.invokevirtual 41, 3) := by decide +kernel
theorem dX2_workOff_8 : decode cX2_workOff 8 = .ok (.aload_n 0, 1) := by decide +kernel
theorem dX2_workOff_9 : decode cX2_workOff 9 = .ok (.iconst 0, 1) := by decide +kernel
theorem dX2_workOff_10 : decode cX2_workOff 10 = .ok (.putfield 29, 3) := by decide +kernel
theorem dX2_workOff_13 : decode cX2_workOff 13 = .ok (.aload_n 0, 1) := by decide +kernel
theorem dX2_workOff_14 : decode cX2_workOff 14 = .ok (.iconst 0, 1) := by decide +kernel
theorem dX2_workOff_15 : decode cX2_workOff 15 = .ok (.putfield 33, 3) := by decide +kernel
theorem dX2_workOff_18 : decode cX2_workOff 18 = .ok (.aload_n 0, 1) := by decide +kernel
theorem dX2_workOff_19 : decode cX2_workOff 19 = .ok (.getfield 29, 3) := by decide +kernel
theorem dX2_workOff_22 : decode cX2_workOff 22 = .ok (.iload_n 2, 1) := by decide +kernel
theorem dX2_workOff_23 : decode cX2_workOff 23 = .ok (.if_icmp .ge 127, 3) := by decide +kernel
theorem dX2_workOff_26 : decode cX2_workOff 26 = .ok (.aload_n 0, 1) := by decide +kernel
theorem dX2_workOff_27 : decode cX2_workOff 27 = .ok (.getfield 33, 3) := by decide +kernel
theorem dX2_workOff_30 : decode cX2_workOff 30 = .ok (.ifCond .ne 120, 3) := by decide +kernel
theorem dX2_workOff_33 : decode cX2_workOff 33 = .ok (.aload_n 0, 1) := by decide +kernel
theorem dX2_workOff_34 : decode cX2_workOff 34 = .ok (.invokevirtual 37, 3) := by decide +kernel
theorem dX2_workOff_37 : decode cX2_workOff 37 = .ok (.istore_n 3, 1) := by decide +kernel
theorem dX2_workOff_38 : decode cX2_workOff 38 = .ok (.iload_n 3, 1) := by decide +kernel
theorem dX2_workOff_39 : decode cX2_workOff 39 = .ok (.iconst (-1), 1) := by decide +kernel
theorem dX2_workOff_40 : decode cX2_workOff 40 = .ok (.if_icmp .ne 4, 3) := by decide +kernel
theorem dX2_workOff_43 : decode cX2_workOff 43 = .ok (.return_, 1) := by decide +kernel
theorem dX2_workOff_44 : decode cX2_workOff 44 = .ok (.aload_n 0, 1) := by decide +kernel
theorem dX2_workOff_45 : decode cX2_workOff 45 = .ok (.iload_n 3, 1) := by decide +kernel
theorem dX2_workOff_46 : decode cX2_workOff 46 = .ok (.iconst 2, 1) := by decide +kernel
theorem dX2_workOff_47 : decode cX2_workOff 47 = .ok (.iadd, 1) := by decide +kernel
theorem dX2_workOff_48 : decode cX2_workOff 48 = .ok (.invokevirtual 45, 3) := by decide +kernel
theorem dX2_workOff_51 : decode cX2_workOff 51 = .ok (.istore 4, 2) := by decide +kernel
theorem dX2_workOff_53 : decode cX2_workOff 53 = .ok (.aload_n 0, 1) := by decide +kernel
theorem dX2_workOff_54 : decode cX2_workOff 54 = .ok (.iload 4, 2) := by decide +kernel
theorem dX2_workOff_56 : decode cX2_workOff 56 = .ok (.invokevirtual 45, 3) := by decide +kernel
theorem dX2_workOff_59 : decode cX2_workOff 59 = .ok (.istore 5, 2) := by decide +kernel
theorem dX2_workOff_61 : decode cX2_workOff 61 = .ok (.aload_n 0, 1) := by decide +kernel
theorem dX2_workOff_62 : decode cX2_workOff 62 = .ok (.getfield 26, 3) := by decide +kernel
theorem dX2_workOff_65 : decode cX2_workOff 65 = .ok (.iconst 0, 1) := by decide +kernel
theorem dX2_workOff_66 : decode cX2_workOff 66 = .ok (.invokevirtual 49, 3) := by decide +kernel
theorem dX2_workOff_69 : decode cX2_workOff 69 = .ok (.aload_n 0, 1) := by decide +kernel
theorem dX2_workOff_70 : decode cX2_workOff 70 = .ok (.aload_n 0, 1) := by decide +kernel
theorem dX2_workOff_71 : decode cX2_workOff 71 = .ok (.iconst 0, 1) := by decide +kernel
theorem dX2_workOff_72 : decode cX2_workOff 72 = .ok (.iload_n 3, 1) := by decide +kernel
theorem dX2_workOff_73 : decode cX2_workOff 73 = .ok (.invokevirtual 53, 3) := by decide +kernel
theorem dX2_workOff_76 : decode cX2_workOff 76 = .ok (.ifCond .eq 33, 3) := by decide +kernel
theorem dX2_workOff_79 : decode cX2_workOff 79 = .ok (.aload_n 0, 1) := by decide +kernel
theorem dX2_workOff_80 : decode cX2_workOff 80 = .ok (.iload_n 3, 1) := by decide +kernel
theorem dX2_workOff_81 : decode cX2_workOff 81 = .ok (.iconst 2, 1) := by decide +kernel
theorem dX2_workOff_82 : decode cX2_workOff 82 = .ok (.iadd, 1) := by decide +kernel
theorem dX2_workOff_83 : decode cX2_workOff 83 = .ok (.iload 4, 2) := by decide +kernel
theorem dX2_workOff_85 : decode cX2_workOff 85 = .ok (.iload 5, 2) := by decide +kernel
theorem dX2_workOff_87 : decode cX2_workOff 87 = .ok (.invokevirtual 57, 3) := by decide +kernel
theorem dX2_workOff_90 : decode cX2_workOff 90 = .ok (.ifCond .eq 19, 3) := by decide +kernel
theorem dX2_workOff_93 : decode cX2_workOff 93 = .ok (.aload_n 0, 1) := by decide +kernel
theorem dX2_workOff_94 : decode cX2_workOff 94 = .ok (.iload 5, 2) := by decide +kernel
theorem dX2_workOff_96 : decode cX2_workOff 96 = .ok (.aload_n 0, 1) := by decide +kernel
theorem dX2_workOff_97 : decode cX2_workOff 97 = .ok (.getfield 23, 3) := by decide +kernel
theorem dX2_workOff_100 : decode cX2_workOff 100 = .ok (.invokevirtual 61, 3) := by decide +kernel
theorem dX2_workOff_103 : decode cX2_workOff 103 = .ok (.invokevirtual 53, 3) := by decide +kernel
theorem dX2_workOff_106 : decode cX2_workOff 106 = .ok (.ifCond .ne 7, 3) := by decide +kernel
theorem dX2_workOff_109 : decode cX2_workOff 109 = .ok (.iconst 1, 1) := by decide +kernel
theorem dX2_workOff_110 : decode cX2_workOff 110 = .ok (.goto 4, 3) := by decide +kernel
theorem dX2_workOff_113 : decode cX2_workOff 113 = .ok (.iconst 0, 1) := by decide +kernel
theorem dX2_workOff_114 : decode cX2_workOff 114 = .ok (.putfield 33, 3) := by decide +kernel
theorem dX2_workOff_117 : decode cX2_workOff 117 = .ok (.aload_n 0, 1) := by decide +kernel
theorem dX2_workOff_118 : decode cX2_workOff 118 = .ok (.getfield 23, 3) := by decide +kernel
theorem dX2_workOff_121 : decode cX2_workOff 121 = .ok (.astore 6, 2) := by decide +kernel
theorem dX2_workOff_123 : decode cX2_workOff 123 = .ok (.aload_n 0, 1) := by decide +kernel
theorem dX2_workOff_124 : decode cX2_workOff 124 = .ok (.aload_n 0, 1) := by decide +kernel
theorem dX2_workOff_125 : decode cX2_workOff 125 = .ok (.getfield 26, 3) := by decide +kernel
theorem dX2_workOff_128 : decode cX2_workOff 128 = .ok (.putfield 23, 3) := by decide +kernel
theorem dX2_workOff_131 : decode cX2_workOff 131 = .ok (.aload_n 0, 1) := by decide +kernel
theorem dX2_workOff_132 : decode cX2_workOff 132 = .ok (.aload 6, 2) := by decide +kernel
theorem dX2_workOff_134 : decode cX2_workOff 134 = .ok (.putfield 26, 3) := by decide +kernel
theorem dX2_workOff_137 : decode cX2_workOff 137 = .ok (.aload_n 0, 1) := by decide +kernel
theorem dX2_workOff_138 : decode cX2_workOff 138 = .ok (.dup, 1) := by decide +kernel
theorem dX2_workOff_139 : decode cX2_workOff 139 = .ok (.getfield 29, 3) := by decide +kernel
theorem dX2_workOff_142 : decode cX2_workOff 142 = .ok (.iconst 1, 1) := by decide +kernel
theorem dX2_workOff_143 : decode cX2_workOff 143 = .ok (.iadd, 1) := by decide +kernel
theorem dX2_workOff_144 : decode cX2_workOff 144 = .ok (.putfield 29, 3) := by decide +kernel
theorem dX2_workOff_147 : decode cX2_workOff 147 = .ok (.goto (-129), 3) := by decide +kernel
theorem dX2_workOff_150 : decode cX2_workOff 150 = .ok (.return_, 1) := by decide +kernel
theorem dX2_firstRedex_0 : decode cX2_firstRedex 0 = .ok (.iconst 0, 1) := by decide +kernel
theorem dX2_firstRedex_1 : decode cX2_firstRedex 1 = .ok (.istore_n 1, 1) := by decide +kernel
theorem dX2_firstRedex_2 : decode cX2_firstRedex 2 = .ok (.iload_n 1, 1) := by decide +kernel
theorem dX2_firstRedex_3 : decode cX2_firstRedex 3 = .ok (.aload_n 0, 1) := by decide +kernel
theorem dX2_firstRedex_4 : decode cX2_firstRedex 4 = .ok (.getfield 23, 3) := by decide +kernel
theorem dX2_firstRedex_7 : decode cX2_firstRedex 7 = .ok (.invokevirtual 61, 3) := by decide +kernel
theorem dX2_firstRedex_10 : decode cX2_firstRedex 10 = .ok (.if_icmp .ge 22, 3) := by decide +kernel
theorem dX2_firstRedex_13 : decode cX2_firstRedex 13 = .ok (.aload_n 0, 1) := by decide +kernel
theorem dX2_firstRedex_14 : decode cX2_firstRedex 14 = .ok (.getfield 23, 3) := by decide +kernel
theorem dX2_firstRedex_17 : decode cX2_firstRedex 17 = .ok (.iload_n 1, 1) := by decide +kernel
theorem dX2_firstRedex_18 : decode cX2_firstRedex 18 = .ok (.invokestatic 64, 3) := by decide +kernel
theorem dX2_firstRedex_21 : decode cX2_firstRedex 21 = .ok (.ifCond .eq 5, 3) := by decide +kernel
theorem dX2_firstRedex_24 : decode cX2_firstRedex 24 = .ok (.iload_n 1, 1) := by decide +kernel
theorem dX2_firstRedex_25 : decode cX2_firstRedex 25 = .ok (.ireturn, 1) := by decide +kernel
theorem dX2_firstRedex_26 : decode cX2_firstRedex 26 = .ok (.iinc 1 1, 3) := by decide +kernel
theorem dX2_firstRedex_29 : decode cX2_firstRedex 29 = .ok (.goto (-27), 3) := by decide +kernel
theorem dX2_firstRedex_32 : decode cX2_firstRedex 32 = .ok (.iconst (-1), 1) := by decide +kernel
theorem dX2_firstRedex_33 : decode cX2_firstRedex 33 = .ok (.ireturn, 1) := by decide +kernel
theorem dX2_behindTerm_0 : decode cX2_behindTerm 0 = .ok (.iconst 1, 1) := by decide +kernel
theorem dX2_behindTerm_1 : decode cX2_behindTerm 1 = .ok (.istore_n 2, 1) := by decide +kernel
theorem dX2_behindTerm_2 : decode cX2_behindTerm 2 = .ok (.iload_n 1, 1) := by decide +kernel
theorem dX2_behindTerm_3 : decode cX2_behindTerm 3 = .ok (.istore_n 3, 1) := by decide +kernel
theorem dX2_behindTerm_4 : decode cX2_behindTerm 4 = .ok (.iload_n 2, 1) := by decide +kernel
theorem dX2_behindTerm_5 : decode cX2_behindTerm 5 = .ok (.ifCond .le 53, 3) := by decide +kernel
theorem dX2_behindTerm_8 : decode cX2_behindTerm 8 = .ok (.iload_n 3, 1) := by decide +kernel
theorem dX2_behindTerm_9 : decode cX2_behindTerm 9 = .ok (.aload_n 0, 1) := by decide +kernel
theorem dX2_behindTerm_10 : decode cX2_behindTerm 10 = .ok (.getfield 23, 3) := by decide +kernel
theorem dX2_behindTerm_13 : decode cX2_behindTerm 13 = .ok (.invokevirtual 61, 3) := by decide +kernel
theorem dX2_behindTerm_16 : decode cX2_behindTerm 16 = .ok (.if_icmp .ge 42, 3) := by decide +kernel
theorem dX2_behindTerm_19 : decode cX2_behindTerm 19 = .ok (.aload_n 0, 1) := by decide +kernel
theorem dX2_behindTerm_20 : decode cX2_behindTerm 20 = .ok (.getfield 23, 3) := by decide +kernel
theorem dX2_behindTerm_23 : decode cX2_behindTerm 23 = .ok (.iload_n 3, 1) := by decide +kernel
theorem dX2_behindTerm_24 : decode cX2_behindTerm 24 = .ok (.invokevirtual 68, 3) := by decide +kernel
theorem dX2_behindTerm_27 : decode cX2_behindTerm 27 = .ok (.istore 4, 2) := by decide +kernel
theorem dX2_behindTerm_29 : decode cX2_behindTerm 29 = .ok (.iload_n 2, 1) := by decide +kernel
theorem dX2_behindTerm_30 : decode cX2_behindTerm 30 = .ok (.iload 4, 2) := by decide +kernel
theorem dX2_behindTerm_32 : decode cX2_behindTerm 32 = .ok (.ifCond .ne 7, 3) := by decide +kernel
theorem dX2_behindTerm_35 : decode cX2_behindTerm 35 = .ok (.iconst 1, 1) := by decide +kernel
theorem dX2_behindTerm_36 : decode cX2_behindTerm 36 = .ok (.goto 14, 3) := by decide +kernel
theorem dX2_behindTerm_39 : decode cX2_behindTerm 39 = .ok (.iload 4, 2) := by decide +kernel
theorem dX2_behindTerm_41 : decode cX2_behindTerm 41 = .ok (.iconst 1, 1) := by decide +kernel
theorem dX2_behindTerm_42 : decode cX2_behindTerm 42 = .ok (.if_icmp .ne 7, 3) := by decide +kernel
theorem dX2_behindTerm_45 : decode cX2_behindTerm 45 = .ok (.iconst 0, 1) := by decide +kernel
theorem dX2_behindTerm_46 : decode cX2_behindTerm 46 = .ok (.goto 4, 3) := by decide +kernel
theorem dX2_behindTerm_49 : decode cX2_behindTerm 49 = .ok (.iconst (-1), 1) := by decide +kernel
theorem dX2_behindTerm_50 : decode cX2_behindTerm 50 = .ok (.iadd, 1) := by decide +kernel
theorem dX2_behindTerm_51 : decode cX2_behindTerm 51 = .ok (.istore_n 2, 1) := by decide +kernel
theorem dX2_behindTerm_52 : decode cX2_behindTerm 52 = .ok (.iinc 3 1, 3) := by decide +kernel
theorem dX2_behindTerm_55 : decode cX2_behindTerm 55 = .ok (.goto (-51), 3) := by decide +kernel
theorem dX2_behindTerm_58 : decode cX2_behindTerm 58 = .ok (.iload_n 3, 1) := by decide +kernel
theorem dX2_behindTerm_59 : decode cX2_behindTerm 59 = .ok (.ireturn, 1) := by decide +kernel
theorem dX2_keep_0 : decode cX2_keep 0 = .ok (.iload_n 1, 1) := by decide +kernel
theorem dX2_keep_1 : decode cX2_keep 1 = .ok (.istore_n 3, 1) := by decide +kernel
theorem dX2_keep_2 : decode cX2_keep 2 = .ok (.iload_n 3, 1) := by decide +kernel
theorem dX2_keep_3 : decode cX2_keep 3 = .ok (.iload_n 2, 1) := by decide +kernel
theorem dX2_keep_4 : decode cX2_keep 4 = .ok (.if_icmp .ge 29, 3) := by decide +kernel
theorem dX2_keep_7 : decode cX2_keep 7 = .ok (.aload_n 0, 1) := by decide +kernel
theorem dX2_keep_8 : decode cX2_keep 8 = .ok (.getfield 26, 3) := by decide +kernel
theorem dX2_keep_11 : decode cX2_keep 11 = .ok (.aload_n 0, 1) := by decide +kernel
theorem dX2_keep_12 : decode cX2_keep 12 = .ok (.getfield 23, 3) := by decide +kernel
theorem dX2_keep_15 : decode cX2_keep 15 = .ok (.iload_n 3, 1) := by decide +kernel
theorem dX2_keep_16 : decode cX2_keep 16 = .ok (.invokevirtual 68, 3) := by decide +kernel
theorem dX2_keep_19 : decode cX2_keep 19 = .ok (.invokevirtual 71, 3) := by decide +kernel
theorem dX2_keep_22 : decode cX2_keep 22 = .ok (.ifCond .ne 5, 3) := by decide +kernel
theorem dX2_keep_25 : decode cX2_keep 25 = .ok (.iconst 0, 1) := by decide +kernel
theorem dX2_keep_26 : decode cX2_keep 26 = .ok (.ireturn, 1) := by decide +kernel
theorem dX2_keep_27 : decode cX2_keep 27 = .ok (.iinc 3 1, 3) := by decide +kernel
theorem dX2_keep_30 : decode cX2_keep 30 = .ok (.goto (-28), 3) := by decide +kernel
theorem dX2_keep_33 : decode cX2_keep 33 = .ok (.iconst 1, 1) := by decide +kernel
theorem dX2_keep_34 : decode cX2_keep 34 = .ok (.ireturn, 1) := by decide +kernel
theorem dX2_putIn_0 : decode cX2_putIn 0 = .ok (.aload_n 0, 1) := by decide +kernel
theorem dX2_putIn_1 : decode cX2_putIn 1 = .ok (.getfield 14, 3) := by decide +kernel
theorem dX2_putIn_4 : decode cX2_putIn 4 = .ok (.iconst 0, 1) := by decide +kernel
theorem dX2_putIn_5 : decode cX2_putIn 5 = .ok (.invokevirtual 49, 3) := by decide +kernel
theorem dX2_putIn_8 : decode cX2_putIn 8 = .ok (.iconst 0, 1) := by decide +kernel
theorem dX2_putIn_9 : decode cX2_putIn 9 = .ok (.istore 4, 2) := by decide +kernel
theorem dX2_putIn_11 : decode cX2_putIn 11 = .ok (.iload_n 1, 1) := by decide +kernel
theorem dX2_putIn_12 : decode cX2_putIn 12 = .ok (.istore 5, 2) := by decide +kernel
theorem dX2_putIn_14 : decode cX2_putIn 14 = .ok (.iload 5, 2) := by decide +kernel
theorem dX2_putIn_16 : decode cX2_putIn 16 = .ok (.iload_n 2, 1) := by decide +kernel
theorem dX2_putIn_17 : decode cX2_putIn 17 = .ok (.if_icmp .ge 109, 3) := by decide +kernel
theorem dX2_putIn_20 : decode cX2_putIn 20 = .ok (.aload_n 0, 1) := by decide +kernel
theorem dX2_putIn_21 : decode cX2_putIn 21 = .ok (.getfield 23, 3) := by decide +kernel
theorem dX2_putIn_24 : decode cX2_putIn 24 = .ok (.iload 5, 2) := by decide +kernel
theorem dX2_putIn_26 : decode cX2_putIn 26 = .ok (.invokevirtual 68, 3) := by decide +kernel
theorem dX2_putIn_29 : decode cX2_putIn 29 = .ok (.istore 6, 2) := by decide +kernel
theorem dX2_putIn_31 : decode cX2_putIn 31 = .ok (.iload 6, 2) := by decide +kernel
theorem dX2_putIn_33 : decode cX2_putIn 33 = .ok (.iconst 2, 1) := by decide +kernel
theorem dX2_putIn_34 : decode cX2_putIn 34 = .ok (.if_icmp .ge 17, 3) := by decide +kernel
theorem dX2_putIn_37 : decode cX2_putIn 37 = .ok (.aload_n 0, 1) := by decide +kernel
theorem dX2_putIn_38 : decode cX2_putIn 38 = .ok (.getfield 26, 3) := by decide +kernel
theorem dX2_putIn_41 : decode cX2_putIn 41 = .ok (.iload 6, 2) := by decide +kernel
theorem dX2_putIn_43 : decode cX2_putIn 43 = .ok (.invokevirtual 71, 3) := by decide +kernel
theorem dX2_putIn_46 : decode cX2_putIn 46 = .ok (.istore 7, 2) := by decide +kernel
theorem dX2_putIn_48 : decode cX2_putIn 48 = .ok (.goto 52, 3) := by decide +kernel
theorem dX2_putIn_51 : decode cX2_putIn 51 = .ok (.iload 6, 2) := by decide +kernel
theorem dX2_putIn_53 : decode cX2_putIn 53 = .ok (.iconst 2, 1) := by decide +kernel
theorem dX2_putIn_54 : decode cX2_putIn 54 = .ok (.iload 4, 2) := by decide +kernel
theorem dX2_putIn_56 : decode cX2_putIn 56 = .ok (.iadd, 1) := by decide +kernel
theorem dX2_putIn_57 : decode cX2_putIn 57 = .ok (.if_icmp .ne 16, 3) := by decide +kernel
theorem dX2_putIn_60 : decode cX2_putIn 60 = .ok (.aload_n 0, 1) := by decide +kernel
theorem dX2_putIn_61 : decode cX2_putIn 61 = .ok (.iload_n 2, 1) := by decide +kernel
theorem dX2_putIn_62 : decode cX2_putIn 62 = .ok (.iload_n 3, 1) := by decide +kernel
theorem dX2_putIn_63 : decode cX2_putIn 63 = .ok (.iload 4, 2) := by decide +kernel
theorem dX2_putIn_65 : decode cX2_putIn 65 = .ok (.invokevirtual 75, 3) := by decide +kernel
theorem dX2_putIn_68 : decode cX2_putIn 68 = .ok (.istore 7, 2) := by decide +kernel
