def RX0 : String := "PureHouse$Book"
def TX0 : u_T := fun k => match k with
  | 0 => ("PureHouse$Book", "sorts", "LPureHouse$Names;", true)
  | 1 => ("PureHouse$Book", "axioms", "[I", true)
  | 2 => ("PureHouse$Book", "rules", "[I", true)
  | 3 => ("PureHouse$Book", "axiomCount", "I", false)
  | 4 => ("PureHouse$Book", "ruleCount", "I", false)
  | 5 => ("PureHouse$Book", "names", "LPureHouse$Names;", true)
  | 6 => ("PureHouse$Book", "types", "[LPureHouse$Node;", true)
  | 7 => ("PureHouse$Book", "values", "[LPureHouse$Node;", true)
  | 8 => ("PureHouse$Book", "typeSorts", "[I", true)
  | 9 => ("PureHouse$Book", "marks", "[I", true)
  | _ => ("PureHouse$Book", "markCount", "I", false)
def tyX0 : Nat → FieldType := fun k => match k with
  | 0 => .object "PureHouse$Names"
  | 1 => .array .int
  | 2 => .array .int
  | 3 => .int
  | 4 => .int
  | 5 => .object "PureHouse$Names"
  | 6 => .array (.object "PureHouse$Node")
  | 7 => .array (.object "PureHouse$Node")
  | 8 => .array .int
  | 9 => .array .int
  | _ => .int
abbrev wsX00 : List Cond := u_ws RX0 TX0 11
theorem nmX0 : ∀ a, a < 11 → ∀ b, b < 11 → a ≠ b → (TX0 a).2.1 ≠ (TX0 b).2.1 := by decide +kernel
theorem tyX0_ok : ∀ k, k < 11 → parseFieldDescriptor (TX0 k).2.2.1 = some (tyX0 k) := by decide +kernel
abbrev cX0_init : ByteArray := prog_2_method_1_code
def yX0_init : MethodName := ⟨RX0, "<init>", "()V"⟩
abbrev cX0_loadCorner : ByteArray := prog_2_method_2_code
def yX0_loadCorner : MethodName := ⟨RX0, "loadCorner", "(I)V"⟩
abbrev cX0_clear : ByteArray := prog_2_method_3_code
def yX0_clear : MethodName := ⟨RX0, "clear", "()V"⟩
abbrev cX0_axiomOf : ByteArray := prog_2_method_4_code
def yX0_axiomOf : MethodName := ⟨RX0, "axiomOf", "(I)I"⟩
abbrev cX0_setAxiom : ByteArray := prog_2_method_5_code
def yX0_setAxiom : MethodName := ⟨RX0, "setAxiom", "(II)V"⟩
abbrev cX0_ruleOf : ByteArray := prog_2_method_6_code
def yX0_ruleOf : MethodName := ⟨RX0, "ruleOf", "(II)I"⟩
abbrev cX0_setRule : ByteArray := prog_2_method_7_code
def yX0_setRule : MethodName := ⟨RX0, "setRule", "(III)V"⟩
abbrev cX0_addName : ByteArray := prog_2_method_8_code
def yX0_addName : MethodName := ⟨RX0, "addName", "([BLPureHouse$Node;LPureHouse$Node;ILPureHouse$Node;)V"⟩
abbrev cX0_valueOf : ByteArray := prog_2_method_9_code
def yX0_valueOf : MethodName := ⟨RX0, "valueOf", "(I)LPureHouse$Node;"⟩
def RX1 : String := "PureHouse$Head"
def TX1 : u_T := fun k => match k with
  | 0 => ("PureHouse$Head", "node", "LPureHouse$Node;", true)
  | 1 => ("PureHouse$Head", "id", "I", true)
  | 2 => ("PureHouse$Head", "env", "LPureHouse$Link;", true)
  | _ => ("PureHouse$Head", "parts", "LPureHouse$Link;", true)
def tyX1 : Nat → FieldType := fun k => match k with
  | 0 => .object "PureHouse$Node"
  | 1 => .int
  | 2 => .object "PureHouse$Link"
  | _ => .object "PureHouse$Link"
abbrev wsX10 : List Cond := u_ws RX1 TX1 4
theorem nmX1 : ∀ a, a < 4 → ∀ b, b < 4 → a ≠ b → (TX1 a).2.1 ≠ (TX1 b).2.1 := by decide +kernel
theorem tyX1_ok : ∀ k, k < 4 → parseFieldDescriptor (TX1 k).2.2.1 = some (tyX1 k) := by decide +kernel
abbrev cX1_init : ByteArray := prog_3_method_1_code
def yX1_init : MethodName := ⟨RX1, "<init>", "(LPureHouse$Node;ILPureHouse$Link;LPureHouse$Link;)V"⟩
abbrev cX1_isBinder : ByteArray := prog_3_method_2_code
def yX1_isBinder : MethodName := ⟨RX1, "isBinder", "()Z"⟩
abbrev cX1_envOfSecond : ByteArray := prog_3_method_3_code
def yX1_envOfSecond : MethodName := ⟨RX1, "envOfSecond", "(I)LPureHouse$Link;"⟩
def RX2 : String := "PureHouse$Judge"
def TX2 : u_T := fun k => match k with
  | 0 => ("PureHouse$Judge", "bytes", "[B", true)
  | 1 => ("PureHouse$Judge", "book", "LPureHouse$Book;", true)
  | 2 => ("PureHouse$Judge", "machine", "LPureHouse$Machine;", true)
  | 3 => ("PureHouse$Judge", "stop", "LPureHouse$Stop;", true)
  | _ => ("PureHouse$Judge", "sortOfType", "I", false)
def tyX2 : Nat → FieldType := fun k => match k with
  | 0 => .array .byte
  | 1 => .object "PureHouse$Book"
  | 2 => .object "PureHouse$Machine"
  | 3 => .object "PureHouse$Stop"
  | _ => .int
abbrev wsX20 : List Cond := u_ws RX2 TX2 5
theorem nmX2 : ∀ a, a < 5 → ∀ b, b < 5 → a ≠ b → (TX2 a).2.1 ≠ (TX2 b).2.1 := by decide +kernel
theorem tyX2_ok : ∀ k, k < 5 → parseFieldDescriptor (TX2 k).2.2.1 = some (tyX2 k) := by decide +kernel
abbrev cX2_init : ByteArray := prog_4_method_1_code
def yX2_init : MethodName := ⟨RX2, "<init>", "([BLPureHouse$Book;LPureHouse$Machine;LPureHouse$Stop;)V"⟩
abbrev cX2_typeOf : ByteArray := prog_4_method_2_code
def yX2_typeOf : MethodName := ⟨RX2, "typeOf", "(LPureHouse$Node;)LPureHouse$Node;"⟩
abbrev cX2_sortAsType : ByteArray := prog_4_method_3_code
def yX2_sortAsType : MethodName := ⟨RX2, "sortAsType", "(LPureHouse$Node;)I"⟩
abbrev cX2_judge : ByteArray := prog_4_method_4_code
def yX2_judge : MethodName := ⟨RX2, "judge", "(LPureHouse$Node;LPureHouse$Scope;)LPureHouse$Node;"⟩
abbrev cX2_judgeName : ByteArray := prog_4_method_5_code
def yX2_judgeName : MethodName := ⟨RX2, "judgeName", "(LPureHouse$Node;LPureHouse$Scope;)LPureHouse$Node;"⟩
abbrev cX2_isNameOf : ByteArray := prog_4_method_6_code
def yX2_isNameOf : MethodName := ⟨RX2, "isNameOf", "(LPureHouse$Node;LPureHouse$Node;)Z"⟩
abbrev cX2_resolve : ByteArray := prog_4_method_7_code
def yX2_resolve : MethodName := ⟨RX2, "resolve", "(LPureHouse$Node;III)V"⟩
abbrev cX2_neededSort : ByteArray := prog_4_method_8_code
def yX2_neededSort : MethodName := ⟨RX2, "neededSort", "(LPureHouse$Node;LPureHouse$Node;)I"⟩
abbrev cX2_needProduct : ByteArray := prog_4_method_9_code
def yX2_needProduct : MethodName := ⟨RX2, "needProduct", "(LPureHouse$Node;LPureHouse$Node;)V"⟩
abbrev cX2_typeOfProduct : ByteArray := prog_4_method_10_code
def yX2_typeOfProduct : MethodName := ⟨RX2, "typeOfProduct", "(LPureHouse$Node;II)LPureHouse$Node;"⟩
abbrev cX2_typeOfLambda : ByteArray := prog_4_method_11_code
def yX2_typeOfLambda : MethodName := ⟨RX2, "typeOfLambda", "(LPureHouse$Node;LPureHouse$Node;ILPureHouse$Node;)LPureHouse$Node;"⟩
abbrev cX2_neededRule : ByteArray := prog_4_method_12_code
def yX2_neededRule : MethodName := ⟨RX2, "neededRule", "(IILPureHouse$Node;)I"⟩
def RX3 : String := "PureHouse$Link"
def TX3 : u_T := fun k => match k with
  | 0 => ("PureHouse$Link", "id", "I", true)
  | 1 => ("PureHouse$Link", "term", "LPureHouse$Node;", true)
  | 2 => ("PureHouse$Link", "env", "LPureHouse$Link;", true)
  | 3 => ("PureHouse$Link", "newName", "I", true)
  | _ => ("PureHouse$Link", "next", "LPureHouse$Link;", true)
def tyX3 : Nat → FieldType := fun k => match k with
  | 0 => .int
  | 1 => .object "PureHouse$Node"
  | 2 => .object "PureHouse$Link"
  | 3 => .int
  | _ => .object "PureHouse$Link"
abbrev wsX30 : List Cond := u_ws RX3 TX3 5
theorem nmX3 : ∀ a, a < 5 → ∀ b, b < 5 → a ≠ b → (TX3 a).2.1 ≠ (TX3 b).2.1 := by decide +kernel
theorem tyX3_ok : ∀ k, k < 5 → parseFieldDescriptor (TX3 k).2.2.1 = some (tyX3 k) := by decide +kernel
abbrev cX3_init : ByteArray := prog_5_method_1_code
def yX3_init : MethodName := ⟨RX3, "<init>", "(ILPureHouse$Node;LPureHouse$Link;LPureHouse$Link;)V"⟩
abbrev cX3_init_ : ByteArray := prog_5_method_2_code
def yX3_init_ : MethodName := ⟨RX3, "<init>", "(IILPureHouse$Link;)V"⟩
abbrev cX3_find : ByteArray := prog_5_method_3_code
def yX3_find : MethodName := ⟨RX3, "find", "(ILPureHouse$Link;)LPureHouse$Link;"⟩
abbrev cX3_lengthOf : ByteArray := prog_5_method_4_code
def yX3_lengthOf : MethodName := ⟨RX3, "lengthOf", "(LPureHouse$Link;)I"⟩
def RX4 : String := "PureHouse$Machine"
def TX4 : u_T := fun k => match k with
  | 0 => ("PureHouse$Machine", "book", "LPureHouse$Book;", true)
  | 1 => ("PureHouse$Machine", "stop", "LPureHouse$Stop;", true)
  | 2 => ("PureHouse$Machine", "done", "[I", true)
  | 3 => ("PureHouse$Machine", "lifeWork", "I", false)
  | 4 => ("PureHouse$Machine", "workMost", "I", false)
  | 5 => ("PureHouse$Machine", "beganAt", "I", false)
  | 6 => ("PureHouse$Machine", "outBytes", "[B", true)
  | _ => ("PureHouse$Machine", "outSize", "I", false)
def tyX4 : Nat → FieldType := fun k => match k with
  | 0 => .object "PureHouse$Book"
  | 1 => .object "PureHouse$Stop"
  | 2 => .array .int
  | 3 => .int
  | 4 => .int
  | 5 => .int
  | 6 => .array .byte
  | _ => .int
abbrev wsX40 : List Cond := u_ws RX4 TX4 8
theorem nmX4 : ∀ a, a < 8 → ∀ b, b < 8 → a ≠ b → (TX4 a).2.1 ≠ (TX4 b).2.1 := by decide +kernel
theorem tyX4_ok : ∀ k, k < 8 → parseFieldDescriptor (TX4 k).2.2.1 = some (tyX4 k) := by decide +kernel
abbrev cX4_init : ByteArray := prog_6_method_1_code
def yX4_init : MethodName := ⟨RX4, "<init>", "(LPureHouse$Book;LPureHouse$Stop;)V"⟩
abbrev cX4_begin : ByteArray := prog_6_method_2_code
def yX4_begin : MethodName := ⟨RX4, "begin", "(I)V"⟩
abbrev cX4_areSame : ByteArray := prog_6_method_3_code
def yX4_areSame : MethodName := ⟨RX4, "areSame", "(LPureHouse$Node;LPureHouse$Node;)Z"⟩
abbrev cX4_tellWhole : ByteArray := prog_6_method_4_code
def yX4_tellWhole : MethodName := ⟨RX4, "tellWhole", "(LPureHouse$Node;)V"⟩
abbrev cX4_normalForm : ByteArray := prog_6_method_5_code
def yX4_normalForm : MethodName := ⟨RX4, "normalForm", "(LPureHouse$Node;LPureHouse$Link;)LPureHouse$Node;"⟩
abbrev cX4_tellHead : ByteArray := prog_6_method_6_code
def yX4_tellHead : MethodName := ⟨RX4, "tellHead", "(LPureHouse$Node;)V"⟩
abbrev cX4_spend : ByteArray := prog_6_method_7_code
def yX4_spend : MethodName := ⟨RX4, "spend", "(I)V"⟩
abbrev cX4_look : ByteArray := prog_6_method_8_code
def yX4_look : MethodName := ⟨RX4, "look", "(I)V"⟩
abbrev cX4_head : ByteArray := prog_6_method_9_code
def yX4_head : MethodName := ⟨RX4, "head", "(LPureHouse$Node;LPureHouse$Link;)LPureHouse$Head;"⟩
abbrev cX4_compare : ByteArray := prog_6_method_10_code
def yX4_compare : MethodName := ⟨RX4, "compare", "(LPureHouse$Node;LPureHouse$Link;LPureHouse$Node;LPureHouse$Link;II)Z"⟩
abbrev cX4_tell : ByteArray := prog_6_method_11_code
def yX4_tell : MethodName := ⟨RX4, "tell", "(LPureHouse$Node;LPureHouse$Link;III)V"⟩
abbrev cX4_normalize : ByteArray := prog_6_method_12_code
def yX4_normalize : MethodName := ⟨RX4, "normalize", "(LPureHouse$Node;LPureHouse$Link;II)LPureHouse$Node;"⟩
abbrev cX4_putFront : ByteArray := prog_6_method_13_code
def yX4_putFront : MethodName := ⟨RX4, "putFront", "(LPureHouse$Head;)V"⟩
abbrev cX4_putSigns : ByteArray := prog_6_method_14_code
def yX4_putSigns : MethodName := ⟨RX4, "putSigns", "(LPureHouse$Names;I)V"⟩
abbrev cX4_putNumber : ByteArray := prog_6_method_15_code
def yX4_putNumber : MethodName := ⟨RX4, "putNumber", "(I)V"⟩
abbrev cX4_putAnswer : ByteArray := prog_6_method_16_code
def yX4_putAnswer : MethodName := ⟨RX4, "putAnswer", "(Z)V"⟩
abbrev cX4_put : ByteArray := prog_6_method_17_code
def yX4_put : MethodName := ⟨RX4, "put", "(I)V"⟩
def RX5 : String := "PureHouse$Names"
def TX5 : u_T := fun k => match k with
  | 0 => ("PureHouse$Names", "signs", "[B", true)
  | 1 => ("PureHouse$Names", "lengths", "[I", true)
  | _ => ("PureHouse$Names", "size", "I", false)
def tyX5 : Nat → FieldType := fun k => match k with
  | 0 => .array .byte
  | 1 => .array .int
  | _ => .int
abbrev wsX50 : List Cond := u_ws RX5 TX5 3
theorem nmX5 : ∀ a, a < 3 → ∀ b, b < 3 → a ≠ b → (TX5 a).2.1 ≠ (TX5 b).2.1 := by decide +kernel
theorem tyX5_ok : ∀ k, k < 3 → parseFieldDescriptor (TX5 k).2.2.1 = some (tyX5 k) := by decide +kernel
abbrev cX5_init : ByteArray := prog_7_method_1_code
def yX5_init : MethodName := ⟨RX5, "<init>", "(I)V"⟩
abbrev cX5_has : ByteArray := prog_7_method_2_code
def yX5_has : MethodName := ⟨RX5, "has", "(I)Z"⟩
abbrev cX5_isFull : ByteArray := prog_7_method_3_code
def yX5_isFull : MethodName := ⟨RX5, "isFull", "()Z"⟩
abbrev cX5_find : ByteArray := prog_7_method_4_code
def yX5_find : MethodName := ⟨RX5, "find", "([BII)I"⟩
abbrev cX5_add : ByteArray := prog_7_method_5_code
def yX5_add : MethodName := ⟨RX5, "add", "([BII)V"⟩
abbrev cX5_signOf : ByteArray := prog_7_method_6_code
def yX5_signOf : MethodName := ⟨RX5, "signOf", "(II)I"⟩
abbrev cX5_agree : ByteArray := prog_7_method_7_code
def yX5_agree : MethodName := ⟨RX5, "agree", "([BI[BII)Z"⟩
def RX6 : String := "PureHouse$Node"
def TX6 : u_T := fun k => match k with
  | 0 => ("PureHouse$Node", "kind", "I", false)
  | 1 => ("PureHouse$Node", "id", "I", false)
  | 2 => ("PureHouse$Node", "at", "I", false)
  | 3 => ("PureHouse$Node", "start", "I", false)
  | 4 => ("PureHouse$Node", "nameAt", "I", false)
  | 5 => ("PureHouse$Node", "nameLength", "I", false)
  | 6 => ("PureHouse$Node", "first", "LPureHouse$Node;", false)
  | 7 => ("PureHouse$Node", "second", "LPureHouse$Node;", false)
  | 8 => ("PureHouse$Node", "parts", "[LPureHouse$Node;", false)
  | 9 => ("PureHouse$Node", "sortA", "I", false)
  | _ => ("PureHouse$Node", "sortB", "I", false)
def tyX6 : Nat → FieldType := fun k => match k with
  | 0 => .int
  | 1 => .int
  | 2 => .int
  | 3 => .int
  | 4 => .int
  | 5 => .int
  | 6 => .object "PureHouse$Node"
  | 7 => .object "PureHouse$Node"
  | 8 => .array (.object "PureHouse$Node")
  | 9 => .int
  | _ => .int
abbrev wsX60 : List Cond := u_ws RX6 TX6 11
theorem nmX6 : ∀ a, a < 11 → ∀ b, b < 11 → a ≠ b → (TX6 a).2.1 ≠ (TX6 b).2.1 := by decide +kernel
theorem tyX6_ok : ∀ k, k < 11 → parseFieldDescriptor (TX6 k).2.2.1 = some (tyX6 k) := by decide +kernel
abbrev cX6_init : ByteArray := prog_8_method_1_code
def yX6_init : MethodName := ⟨RX6, "<init>", "(II)V"⟩
abbrev cX6_named : ByteArray := prog_8_method_2_code
def yX6_named : MethodName := ⟨RX6, "named", "(II)LPureHouse$Node;"⟩
abbrev cX6_binder : ByteArray := prog_8_method_3_code
def yX6_binder : MethodName := ⟨RX6, "binder", "(IILPureHouse$Node;LPureHouse$Node;)LPureHouse$Node;"⟩
abbrev cX6_use : ByteArray := prog_8_method_4_code
def yX6_use : MethodName := ⟨RX6, "use", "(LPureHouse$Node;[LPureHouse$Node;)LPureHouse$Node;"⟩
abbrev cX6_keepSorts : ByteArray := prog_8_method_5_code
def yX6_keepSorts : MethodName := ⟨RX6, "keepSorts", "(II)V"⟩
def RX7 : String := "PureHouse$Reader"
def TX7 : u_T := fun k => match k with
  | 0 => ("PureHouse$Reader", "bytes", "[B", true)
  | 1 => ("PureHouse$Reader", "stop", "LPureHouse$Stop;", true)
  | 2 => ("PureHouse$Reader", "tokens", "[I", true)
  | 3 => ("PureHouse$Reader", "places", "[I", true)
  | 4 => ("PureHouse$Reader", "lengths", "[I", true)
  | 5 => ("PureHouse$Reader", "length", "I", false)
  | 6 => ("PureHouse$Reader", "next", "I", false)
  | 7 => ("PureHouse$Reader", "token", "I", false)
  | 8 => ("PureHouse$Reader", "tokenAt", "I", false)
  | 9 => ("PureHouse$Reader", "tokenLength", "I", false)
  | _ => ("PureHouse$Reader", "binders", "I", false)
def tyX7 : Nat → FieldType := fun k => match k with
  | 0 => .array .byte
  | 1 => .object "PureHouse$Stop"
  | 2 => .array .int
  | 3 => .array .int
  | 4 => .array .int
  | 5 => .int
  | 6 => .int
  | 7 => .int
  | 8 => .int
  | 9 => .int
  | _ => .int
abbrev wsX70 : List Cond := u_ws RX7 TX7 11
theorem nmX7 : ∀ a, a < 11 → ∀ b, b < 11 → a ≠ b → (TX7 a).2.1 ≠ (TX7 b).2.1 := by decide +kernel
theorem tyX7_ok : ∀ k, k < 11 → parseFieldDescriptor (TX7 k).2.2.1 = some (tyX7 k) := by decide +kernel
abbrev cX7_init : ByteArray := prog_9_method_1_code
def yX7_init : MethodName := ⟨RX7, "<init>", "([BLPureHouse$Stop;)V"⟩
abbrev cX7_readText : ByteArray := prog_9_method_2_code
def yX7_readText : MethodName := ⟨RX7, "readText", "(I)Ljava/util/List;"⟩
abbrev cX7_statement : ByteArray := prog_9_method_3_code
def yX7_statement : MethodName := ⟨RX7, "statement", "()LPureHouse$Statement;"⟩
abbrev cX7_nameStatement : ByteArray := prog_9_method_4_code
def yX7_nameStatement : MethodName := ⟨RX7, "nameStatement", "(I)LPureHouse$Statement;"⟩
abbrev cX7_axiom : ByteArray := prog_9_method_5_code
def yX7_axiom : MethodName := ⟨RX7, "axiom", "(I)LPureHouse$Statement;"⟩
abbrev cX7_sameStatement : ByteArray := prog_9_method_6_code
def yX7_sameStatement : MethodName := ⟨RX7, "sameStatement", "(I)LPureHouse$Statement;"⟩
abbrev cX7_termStatement : ByteArray := prog_9_method_7_code
def yX7_termStatement : MethodName := ⟨RX7, "termStatement", "(II)LPureHouse$Statement;"⟩
abbrev cX7_term : ByteArray := prog_9_method_8_code
def yX7_term : MethodName := ⟨RX7, "term", "(I)LPureHouse$Node;"⟩
abbrev cX7_binder : ByteArray := prog_9_method_9_code
def yX7_binder : MethodName := ⟨RX7, "binder", "(I)LPureHouse$Node;"⟩
abbrev cX7_use : ByteArray := prog_9_method_10_code
def yX7_use : MethodName := ⟨RX7, "use", "(I)LPureHouse$Node;"⟩
abbrev cX7_atomBegins : ByteArray := prog_9_method_11_code
def yX7_atomBegins : MethodName := ⟨RX7, "atomBegins", "()Z"⟩
abbrev cX7_atom : ByteArray := prog_9_method_12_code
def yX7_atom : MethodName := ⟨RX7, "atom", "(I)LPureHouse$Node;"⟩
abbrev cX7_newId : ByteArray := prog_9_method_13_code
def yX7_newId : MethodName := ⟨RX7, "newId", "()I"⟩
abbrev cX7_takeName : ByteArray := prog_9_method_14_code
def yX7_takeName : MethodName := ⟨RX7, "takeName", "()LPureHouse$Node;"⟩
abbrev cX7_expect : ByteArray := prog_9_method_15_code
def yX7_expect : MethodName := ⟨RX7, "expect", "(I)V"⟩
abbrev cX7_refuse : ByteArray := prog_9_method_16_code
def yX7_refuse : MethodName := ⟨RX7, "refuse", "()V"⟩
abbrev cX7_advance : ByteArray := prog_9_method_17_code
def yX7_advance : MethodName := ⟨RX7, "advance", "()V"⟩
abbrev cX7_scan : ByteArray := prog_9_method_18_code
def yX7_scan : MethodName := ⟨RX7, "scan", "()V"⟩
abbrev cX7_behindBlanks : ByteArray := prog_9_method_19_code
def yX7_behindBlanks : MethodName := ⟨RX7, "behindBlanks", "(I)I"⟩
abbrev cX7_closeOf : ByteArray := prog_9_method_20_code
def yX7_closeOf : MethodName := ⟨RX7, "closeOf", "(I)I"⟩
abbrev cX7_nameToken : ByteArray := prog_9_method_21_code
def yX7_nameToken : MethodName := ⟨RX7, "nameToken", "()I"⟩
abbrev cX7_wordNumber : ByteArray := prog_9_method_22_code
def yX7_wordNumber : MethodName := ⟨RX7, "wordNumber", "()I"⟩
abbrev cX7_isWord : ByteArray := prog_9_method_23_code
def yX7_isWord : MethodName := ⟨RX7, "isWord", "(I)Z"⟩
abbrev cX7_signToken : ByteArray := prog_9_method_24_code
def yX7_signToken : MethodName := ⟨RX7, "signToken", "(I)I"⟩
abbrev cX7_isLetter : ByteArray := prog_9_method_25_code
def yX7_isLetter : MethodName := ⟨RX7, "isLetter", "(I)Z"⟩
abbrev cX7_isNameSign : ByteArray := prog_9_method_26_code
def yX7_isNameSign : MethodName := ⟨RX7, "isNameSign", "(I)Z"⟩
def RX8 : String := "PureHouse$Scope"
def TX8 : u_T := fun k => match k with
  | 0 => ("PureHouse$Scope", "binder", "LPureHouse$Node;", true)
  | 1 => ("PureHouse$Scope", "type", "LPureHouse$Node;", true)
  | 2 => ("PureHouse$Scope", "sort", "I", true)
  | 3 => ("PureHouse$Scope", "lets", "LPureHouse$Link;", true)
  | _ => ("PureHouse$Scope", "next", "LPureHouse$Scope;", true)
def tyX8 : Nat → FieldType := fun k => match k with
  | 0 => .object "PureHouse$Node"
  | 1 => .object "PureHouse$Node"
  | 2 => .int
  | 3 => .object "PureHouse$Link"
  | _ => .object "PureHouse$Scope"
abbrev wsX80 : List Cond := u_ws RX8 TX8 5
theorem nmX8 : ∀ a, a < 5 → ∀ b, b < 5 → a ≠ b → (TX8 a).2.1 ≠ (TX8 b).2.1 := by decide +kernel
theorem tyX8_ok : ∀ k, k < 5 → parseFieldDescriptor (TX8 k).2.2.1 = some (tyX8 k) := by decide +kernel
abbrev cX8_init : ByteArray := prog_10_method_1_code
def yX8_init : MethodName := ⟨RX8, "<init>", "(LPureHouse$Node;LPureHouse$Node;ILPureHouse$Scope;)V"⟩
abbrev cX8_letsOf : ByteArray := prog_10_method_2_code
def yX8_letsOf : MethodName := ⟨RX8, "letsOf", "(LPureHouse$Scope;)LPureHouse$Link;"⟩
def RX9 : String := "PureHouse$Statement"
def TX9 : u_T := fun k => match k with
  | 0 => ("PureHouse$Statement", "kind", "I", true)
  | 1 => ("PureHouse$Statement", "at", "I", true)
  | 2 => ("PureHouse$Statement", "name", "LPureHouse$Node;", true)
  | 3 => ("PureHouse$Statement", "first", "LPureHouse$Node;", true)
  | _ => ("PureHouse$Statement", "second", "LPureHouse$Node;", true)
def tyX9 : Nat → FieldType := fun k => match k with
  | 0 => .int
  | 1 => .int
  | 2 => .object "PureHouse$Node"
  | 3 => .object "PureHouse$Node"
  | _ => .object "PureHouse$Node"
abbrev wsX90 : List Cond := u_ws RX9 TX9 5
theorem nmX9 : ∀ a, a < 5 → ∀ b, b < 5 → a ≠ b → (TX9 a).2.1 ≠ (TX9 b).2.1 := by decide +kernel
theorem tyX9_ok : ∀ k, k < 5 → parseFieldDescriptor (TX9 k).2.2.1 = some (tyX9 k) := by decide +kernel
abbrev cX9_init : ByteArray := prog_11_method_1_code
def yX9_init : MethodName := ⟨RX9, "<init>", "(IILPureHouse$Node;LPureHouse$Node;LPureHouse$Node;)V"⟩
def RX10 : String := "PureHouse$Stop"
def TX10 : u_T := fun k => match k with
  | 0 => ("PureHouse$Stop", "fault", "I", false)
  | _ => ("PureHouse$Stop", "place", "I", false)
def tyX10 : Nat → FieldType := fun k => match k with
  | 0 => .int
  | _ => .int
abbrev wsX100 : List Cond := u_ws RX10 TX10 2
theorem nmX10 : ∀ a, a < 2 → ∀ b, b < 2 → a ≠ b → (TX10 a).2.1 ≠ (TX10 b).2.1 := by decide +kernel
theorem tyX10_ok : ∀ k, k < 2 → parseFieldDescriptor (TX10 k).2.2.1 = some (tyX10 k) := by decide +kernel
abbrev cX10_init : ByteArray := prog_12_method_1_code
def yX10_init : MethodName := ⟨RX10, "<init>", "()V"⟩
abbrev cX10_clear : ByteArray := prog_12_method_2_code
def yX10_clear : MethodName := ⟨RX10, "clear", "()V"⟩
abbrev cX10_set : ByteArray := prog_12_method_3_code
def yX10_set : MethodName := ⟨RX10, "set", "(II)V"⟩
def RX11 : String := "PureHouse"
def TX11 : u_T := fun k => match k with
  | 0 => ("PureHouse", "tape", "[B", true)
  | 1 => ("PureHouse", "stop", "LPureHouse$Stop;", true)
  | 2 => ("PureHouse", "book", "LPureHouse$Book;", true)
  | 3 => ("PureHouse", "machine", "LPureHouse$Machine;", true)
  | 4 => ("PureHouse", "reader", "LPureHouse$Reader;", true)
  | 5 => ("PureHouse", "judge", "LPureHouse$Judge;", true)
  | 6 => ("PureHouse", "tapeLength", "I", false)
  | 7 => ("PureHouse", "textFault", "I", false)
  | 8 => ("PureHouse", "textPlace", "I", false)
  | _ => ("PureHouse", "textDone", "I", false)
def tyX11 : Nat → FieldType := fun k => match k with
  | 0 => .array .byte
  | 1 => .object "PureHouse$Stop"
  | 2 => .object "PureHouse$Book"
  | 3 => .object "PureHouse$Machine"
  | 4 => .object "PureHouse$Reader"
  | 5 => .object "PureHouse$Judge"
  | 6 => .int
  | 7 => .int
  | 8 => .int
  | _ => .int
abbrev wsX110 : List Cond := u_ws RX11 TX11 10
theorem nmX11 : ∀ a, a < 10 → ∀ b, b < 10 → a ≠ b → (TX11 a).2.1 ≠ (TX11 b).2.1 := by decide +kernel
theorem tyX11_ok : ∀ k, k < 10 → parseFieldDescriptor (TX11 k).2.2.1 = some (tyX11 k) := by decide +kernel
abbrev cX11_init : ByteArray := prog_1_method_1_code
def yX11_init : MethodName := ⟨RX11, "<init>", "()V"⟩
abbrev cX11_feed : ByteArray := prog_1_method_2_code
def yX11_feed : MethodName := ⟨RX11, "feed", "(IIIII)I"⟩
abbrev cX11_text : ByteArray := prog_1_method_3_code
def yX11_text : MethodName := ⟨RX11, "text", "(I)I"⟩
abbrev cX11_fault : ByteArray := prog_1_method_4_code
def yX11_fault : MethodName := ⟨RX11, "fault", "(I)I"⟩
abbrev cX11_corner : ByteArray := prog_1_method_5_code
def yX11_corner : MethodName := ⟨RX11, "corner", "(I)I"⟩
abbrev cX11_limit : ByteArray := prog_1_method_6_code
def yX11_limit : MethodName := ⟨RX11, "limit", "(I)I"⟩
abbrev cX11_outs : ByteArray := prog_1_method_7_code
def yX11_outs : MethodName := ⟨RX11, "outs", "()I"⟩
abbrev cX11_out : ByteArray := prog_1_method_8_code
def yX11_out : MethodName := ⟨RX11, "out", "(I)I"⟩
abbrev cX11_count : ByteArray := prog_1_method_9_code
def yX11_count : MethodName := ⟨RX11, "count", "(I)I"⟩
abbrev cX11_name : ByteArray := prog_1_method_10_code
def yX11_name : MethodName := ⟨RX11, "name", "(II)I"⟩
abbrev cX11_sort : ByteArray := prog_1_method_11_code
def yX11_sort : MethodName := ⟨RX11, "sort", "(II)I"⟩
abbrev cX11_rule : ByteArray := prog_1_method_12_code
def yX11_rule : MethodName := ⟨RX11, "rule", "(II)I"⟩
abbrev cX11_type : ByteArray := prog_1_method_13_code
def yX11_type : MethodName := ⟨RX11, "type", "(I)I"⟩
abbrev cX11_same : ByteArray := prog_1_method_14_code
def yX11_same : MethodName := ⟨RX11, "same", "(II)I"⟩
abbrev cX11_mark : ByteArray := prog_1_method_15_code
def yX11_mark : MethodName := ⟨RX11, "mark", "()I"⟩
abbrev cX11_back : ByteArray := prog_1_method_16_code
def yX11_back : MethodName := ⟨RX11, "back", "()I"⟩
abbrev cX11_feedFour : ByteArray := prog_1_method_17_code
def yX11_feedFour : MethodName := ⟨RX11, "feedFour", "(I)V"⟩
abbrev cX11_runText : ByteArray := prog_1_method_18_code
def yX11_runText : MethodName := ⟨RX11, "runText", "(I)I"⟩
abbrev cX11_tellTypeOf : ByteArray := prog_1_method_19_code
def yX11_tellTypeOf : MethodName := ⟨RX11, "tellTypeOf", "(LPureHouse$Node;)I"⟩
abbrev cX11_compareNames : ByteArray := prog_1_method_20_code
def yX11_compareNames : MethodName := ⟨RX11, "compareNames", "(II)I"⟩
abbrev cX11_perform : ByteArray := prog_1_method_21_code
def yX11_perform : MethodName := ⟨RX11, "perform", "(LPureHouse$Statement;)V"⟩
abbrev cX11_addSort : ByteArray := prog_1_method_22_code
def yX11_addSort : MethodName := ⟨RX11, "addSort", "(LPureHouse$Statement;)V"⟩
abbrev cX11_addAxiom : ByteArray := prog_1_method_23_code
def yX11_addAxiom : MethodName := ⟨RX11, "addAxiom", "(LPureHouse$Statement;)V"⟩
abbrev cX11_addRule : ByteArray := prog_1_method_24_code
def yX11_addRule : MethodName := ⟨RX11, "addRule", "(LPureHouse$Statement;)V"⟩
abbrev cX11_refuseBesideNames : ByteArray := prog_1_method_25_code
def yX11_refuseBesideNames : MethodName := ⟨RX11, "refuseBesideNames", "(LPureHouse$Statement;)V"⟩
abbrev cX11_neededSort : ByteArray := prog_1_method_26_code
def yX11_neededSort : MethodName := ⟨RX11, "neededSort", "(LPureHouse$Node;)I"⟩
abbrev cX11_sortNumber : ByteArray := prog_1_method_27_code
def yX11_sortNumber : MethodName := ⟨RX11, "sortNumber", "(LPureHouse$Node;)I"⟩
abbrev cX11_assume : ByteArray := prog_1_method_28_code
def yX11_assume : MethodName := ⟨RX11, "assume", "(LPureHouse$Statement;)V"⟩
abbrev cX11_define : ByteArray := prog_1_method_29_code
def yX11_define : MethodName := ⟨RX11, "define", "(LPureHouse$Statement;)V"⟩
abbrev cX11_check : ByteArray := prog_1_method_30_code
def yX11_check : MethodName := ⟨RX11, "check", "(LPureHouse$Statement;)V"⟩
abbrev cX11_answerSame : ByteArray := prog_1_method_31_code
def yX11_answerSame : MethodName := ⟨RX11, "answerSame", "(LPureHouse$Statement;)V"⟩
abbrev cX11_needNewName : ByteArray := prog_1_method_32_code
def yX11_needNewName : MethodName := ⟨RX11, "needNewName", "(LPureHouse$Node;)V"⟩
abbrev cX11_needSame : ByteArray := prog_1_method_33_code
def yX11_needSame : MethodName := ⟨RX11, "needSame", "(LPureHouse$Node;LPureHouse$Node;LPureHouse$Node;)V"⟩
def RJ9 : String := "java/lang/Math"
def TJ9 : u_T := fun k => match k with
  | _ => ("", "", "", false)
def tyJ9 : Nat → FieldType := fun k => match k with
  | _ => .int
abbrev wsJ90 : List Cond := u_ws RJ9 TJ9 0
theorem nmJ9 : ∀ a, a < 0 → ∀ b, b < 0 → a ≠ b → (TJ9 a).2.1 ≠ (TJ9 b).2.1 := by decide +kernel
theorem tyJ9_ok : ∀ k, k < 0 → parseFieldDescriptor (TJ9 k).2.2.1 = some (tyJ9 k) := by decide +kernel
abbrev cJ9_max_7cf53 : ByteArray := prog_21_method_65_code
def yJ9_max_7cf53 : MethodName := ⟨RJ9, "max", "(II)I"⟩
abbrev cJ9_min_7cf53 : ByteArray := prog_21_method_69_code
def yJ9_min_7cf53 : MethodName := ⟨RJ9, "min", "(II)I"⟩
def TJ0 : u_T := fun k => match k with
  | _ => ("", "", "", false)
def tyJ0 : Nat → FieldType := fun k => match k with
  | _ => .int
abbrev wsJ00 : List Cond := u_ws RJ0 TJ0 0
theorem nmJ0 : ∀ a, a < 0 → ∀ b, b < 0 → a ≠ b → (TJ0 a).2.1 ≠ (TJ0 b).2.1 := by decide +kernel
theorem tyJ0_ok : ∀ k, k < 0 → parseFieldDescriptor (TJ0 k).2.2.1 = some (tyJ0 k) := by decide +kernel
def TJ1 : u_T := fun k => match k with
  | _ => ("", "", "", false)
def tyJ1 : Nat → FieldType := fun k => match k with
  | _ => .int
abbrev wsJ10 : List Cond := u_ws RJ1 TJ1 0
theorem nmJ1 : ∀ a, a < 0 → ∀ b, b < 0 → a ≠ b → (TJ1 a).2.1 ≠ (TJ1 b).2.1 := by decide +kernel
theorem tyJ1_ok : ∀ k, k < 0 → parseFieldDescriptor (TJ1 k).2.2.1 = some (tyJ1 k) := by decide +kernel
def RJ2 : String := "java/lang/StringUTF16"
def TJ2 : u_T := fun k => match k with
  | _ => ("", "", "", false)
def tyJ2 : Nat → FieldType := fun k => match k with
  | _ => .int
abbrev wsJ20 : List Cond := u_ws RJ2 TJ2 0
theorem nmJ2 : ∀ a, a < 0 → ∀ b, b < 0 → a ≠ b → (TJ2 a).2.1 ≠ (TJ2 b).2.1 := by decide +kernel
theorem tyJ2_ok : ∀ k, k < 0 → parseFieldDescriptor (TJ2 k).2.2.1 = some (tyJ2 k) := by decide +kernel
def RJ10 : String := "java/lang/System"
def TJ10 : u_T := fun k => match k with
  | _ => ("", "", "", false)
def tyJ10 : Nat → FieldType := fun k => match k with
  | _ => .int
abbrev wsJ100 : List Cond := u_ws RJ10 TJ10 0
theorem nmJ10 : ∀ a, a < 0 → ∀ b, b < 0 → a ≠ b → (TJ10 a).2.1 ≠ (TJ10 b).2.1 := by decide +kernel
theorem tyJ10_ok : ∀ k, k < 0 → parseFieldDescriptor (TJ10 k).2.2.1 = some (tyJ10 k) := by decide +kernel
def RJxa1e45 : String := "java/util/AbstractCollection"
def TJxa1e45 : u_T := fun k => match k with
  | _ => ("", "", "", false)
def tyJxa1e45 : Nat → FieldType := fun k => match k with
  | _ => .int
abbrev wsJxa1e450 : List Cond := u_ws RJxa1e45 TJxa1e45 0
theorem nmJxa1e45 : ∀ a, a < 0 → ∀ b, b < 0 → a ≠ b → (TJxa1e45 a).2.1 ≠ (TJxa1e45 b).2.1 := by decide +kernel
theorem tyJxa1e45_ok : ∀ k, k < 0 → parseFieldDescriptor (TJxa1e45 k).2.2.1 = some (tyJxa1e45 k) := by decide +kernel
abbrev cJxa1e45_init_da8c8 : ByteArray := prog_28_method_1_code
def yJxa1e45_init_da8c8 : MethodName := ⟨RJxa1e45, "<init>", "()V"⟩
def RJxc12de : String := "java/util/AbstractList"
def TJxc12de : u_T := fun k => match k with
  | _ => ("", "", "", false)
def tyJxc12de : Nat → FieldType := fun k => match k with
  | _ => .int
abbrev wsJxc12de0 : List Cond := u_ws RJxc12de TJxc12de 0
theorem nmJxc12de : ∀ a, a < 0 → ∀ b, b < 0 → a ≠ b → (TJxc12de a).2.1 ≠ (TJxc12de b).2.1 := by decide +kernel
theorem tyJxc12de_ok : ∀ k, k < 0 → parseFieldDescriptor (TJxc12de k).2.2.1 = some (tyJxc12de k) := by decide +kernel
abbrev cJxc12de_init_da8c8 : ByteArray := prog_29_method_1_code
def yJxc12de_init_da8c8 : MethodName := ⟨RJxc12de, "<init>", "()V"⟩
def RJx4a65c : String := "java/util/ArrayList"
def TJx4a65c : u_T := fun k => match k with
  | 0 => ("java/util/AbstractList", "modCount", "I", false)
  | 1 => ("java/util/ArrayList", "elementData", "[Ljava/lang/Object;", false)
  | _ => ("java/util/ArrayList", "size", "I", false)
def tyJx4a65c : Nat → FieldType := fun k => match k with
  | 0 => .int
  | 1 => .array (.object "java/lang/Object")
  | _ => .int
abbrev wsJx4a65c0 : List Cond := u_ws RJx4a65c TJx4a65c 3
theorem nmJx4a65c : ∀ a, a < 3 → ∀ b, b < 3 → a ≠ b → (TJx4a65c a).2.1 ≠ (TJx4a65c b).2.1 := by decide +kernel
theorem tyJx4a65c_ok : ∀ k, k < 3 → parseFieldDescriptor (TJx4a65c k).2.2.1 = some (tyJx4a65c k) := by decide +kernel
abbrev cJx4a65c_init_da8c8 : ByteArray := prog_30_method_2_code
def yJx4a65c_init_da8c8 : MethodName := ⟨RJx4a65c, "<init>", "()V"⟩
abbrev cJx4a65c_grow_92f84 : ByteArray := prog_30_method_6_code
def yJx4a65c_grow_92f84 : MethodName := ⟨RJx4a65c, "grow", "(I)[Ljava/lang/Object;"⟩
abbrev cJx4a65c_grow_d5877 : ByteArray := prog_30_method_7_code
def yJx4a65c_grow_d5877 : MethodName := ⟨RJx4a65c, "grow", "()[Ljava/lang/Object;"⟩
abbrev cJx4a65c_size_8abf5 : ByteArray := prog_30_method_8_code
def yJx4a65c_size_8abf5 : MethodName := ⟨RJx4a65c, "size", "()I"⟩
abbrev cJx4a65c_elementData_915e3 : ByteArray := prog_30_method_18_code
def yJx4a65c_elementData_915e3 : MethodName := ⟨RJx4a65c, "elementData", "(I)Ljava/lang/Object;"⟩
abbrev cJx4a65c_get_915e3 : ByteArray := prog_30_method_20_code
def yJx4a65c_get_915e3 : MethodName := ⟨RJx4a65c, "get", "(I)Ljava/lang/Object;"⟩
abbrev cJx4a65c_add_72be8 : ByteArray := prog_30_method_24_code
def yJx4a65c_add_72be8 : MethodName := ⟨RJx4a65c, "add", "(Ljava/lang/Object;[Ljava/lang/Object;I)V"⟩
abbrev cJx4a65c_add_9ea2d : ByteArray := prog_30_method_25_code
def yJx4a65c_add_9ea2d : MethodName := ⟨RJx4a65c, "add", "(Ljava/lang/Object;)Z"⟩
def RJ7 : String := "java/util/Arrays"
def TJ7 : u_T := fun k => match k with
  | _ => ("", "", "", false)
def tyJ7 : Nat → FieldType := fun k => match k with
  | _ => .int
abbrev wsJ70 : List Cond := u_ws RJ7 TJ7 0
theorem nmJ7 : ∀ a, a < 0 → ∀ b, b < 0 → a ≠ b → (TJ7 a).2.1 ≠ (TJ7 b).2.1 := by decide +kernel
theorem tyJ7_ok : ∀ k, k < 0 → parseFieldDescriptor (TJ7 k).2.2.1 = some (tyJ7 k) := by decide +kernel
abbrev cJ7_copyOf_1904c : ByteArray := prog_31_method_119_code
def yJ7_copyOf_1904c : MethodName := ⟨RJ7, "copyOf", "([Ljava/lang/Object;I)[Ljava/lang/Object;"⟩
abbrev cJ7_copyOf_6403c : ByteArray := prog_31_method_120_code
def yJ7_copyOf_6403c : MethodName := ⟨RJ7, "copyOf", "([Ljava/lang/Object;ILjava/lang/Class;)[Ljava/lang/Object;"⟩
def RJx5ef63 : String := "java/util/Collection"
def TJx5ef63 : u_T := fun k => match k with
  | _ => ("", "", "", false)
def tyJx5ef63 : Nat → FieldType := fun k => match k with
  | _ => .int
abbrev wsJx5ef630 : List Cond := u_ws RJx5ef63 TJx5ef63 0
theorem nmJx5ef63 : ∀ a, a < 0 → ∀ b, b < 0 → a ≠ b → (TJx5ef63 a).2.1 ≠ (TJx5ef63 b).2.1 := by decide +kernel
theorem tyJx5ef63_ok : ∀ k, k < 0 → parseFieldDescriptor (TJx5ef63 k).2.2.1 = some (tyJx5ef63 k) := by decide +kernel
def RJxbd725 : String := "java/util/List"
def TJxbd725 : u_T := fun k => match k with
  | _ => ("", "", "", false)
def tyJxbd725 : Nat → FieldType := fun k => match k with
  | _ => .int
abbrev wsJxbd7250 : List Cond := u_ws RJxbd725 TJxbd725 0
theorem nmJxbd725 : ∀ a, a < 0 → ∀ b, b < 0 → a ≠ b → (TJxbd725 a).2.1 ≠ (TJxbd725 b).2.1 := by decide +kernel
theorem tyJxbd725_ok : ∀ k, k < 0 → parseFieldDescriptor (TJxbd725 k).2.2.1 = some (tyJxbd725 k) := by decide +kernel
def RJ15 : String := "java/util/Objects"
def TJ15 : u_T := fun k => match k with
  | _ => ("", "", "", false)
def tyJ15 : Nat → FieldType := fun k => match k with
  | _ => .int
abbrev wsJ150 : List Cond := u_ws RJ15 TJ15 0
theorem nmJ15 : ∀ a, a < 0 → ∀ b, b < 0 → a ≠ b → (TJ15 a).2.1 ≠ (TJ15 b).2.1 := by decide +kernel
theorem tyJ15_ok : ∀ k, k < 0 → parseFieldDescriptor (TJ15 k).2.2.1 = some (tyJ15 k) := by decide +kernel
abbrev cJ15_checkIndex_7cf53 : ByteArray := prog_35_method_17_code
def yJ15_checkIndex_7cf53 : MethodName := ⟨RJ15, "checkIndex", "(II)I"⟩
def RJxf0a74 : String := "java/util/RandomAccess"
def TJxf0a74 : u_T := fun k => match k with
  | _ => ("", "", "", false)
def tyJxf0a74 : Nat → FieldType := fun k => match k with
  | _ => .int
abbrev wsJxf0a740 : List Cond := u_ws RJxf0a74 TJxf0a74 0
theorem nmJxf0a74 : ∀ a, a < 0 → ∀ b, b < 0 → a ≠ b → (TJxf0a74 a).2.1 ≠ (TJxf0a74 b).2.1 := by decide +kernel
theorem tyJxf0a74_ok : ∀ k, k < 0 → parseFieldDescriptor (TJxf0a74 k).2.2.1 = some (tyJxf0a74 k) := by decide +kernel
def RJxa66e6 : String := "java/util/SequencedCollection"
def TJxa66e6 : u_T := fun k => match k with
  | _ => ("", "", "", false)
def tyJxa66e6 : Nat → FieldType := fun k => match k with
  | _ => .int
abbrev wsJxa66e60 : List Cond := u_ws RJxa66e6 TJxa66e6 0
theorem nmJxa66e6 : ∀ a, a < 0 → ∀ b, b < 0 → a ≠ b → (TJxa66e6 a).2.1 ≠ (TJxa66e6 b).2.1 := by decide +kernel
theorem tyJxa66e6_ok : ∀ k, k < 0 → parseFieldDescriptor (TJxa66e6 k).2.2.1 = some (tyJxa66e6 k) := by decide +kernel
def RJ8 : String := "jdk/internal/util/ArraysSupport"
def TJ8 : u_T := fun k => match k with
  | _ => ("", "", "", false)
def tyJ8 : Nat → FieldType := fun k => match k with
  | _ => .int
abbrev wsJ80 : List Cond := u_ws RJ8 TJ8 0
theorem nmJ8 : ∀ a, a < 0 → ∀ b, b < 0 → a ≠ b → (TJ8 a).2.1 ≠ (TJ8 b).2.1 := by decide +kernel
theorem tyJ8_ok : ∀ k, k < 0 → parseFieldDescriptor (TJ8 k).2.2.1 = some (tyJ8 k) := by decide +kernel
abbrev cJ8_newLength_cabcc : ByteArray := prog_38_method_27_code
def yJ8_newLength_cabcc : MethodName := ⟨RJ8, "newLength", "(III)I"⟩
abbrev cJ8_hugeLength_7cf53 : ByteArray := prog_38_method_28_code
def yJ8_hugeLength_7cf53 : MethodName := ⟨RJ8, "hugeLength", "(II)I"⟩
def TJ3 : u_T := fun k => match k with
  | _ => ("", "", "", false)
def tyJ3 : Nat → FieldType := fun k => match k with
  | _ => .int
abbrev wsJ30 : List Cond := u_ws RJ3 TJ3 0
theorem nmJ3 : ∀ a, a < 0 → ∀ b, b < 0 → a ≠ b → (TJ3 a).2.1 ≠ (TJ3 b).2.1 := by decide +kernel
theorem tyJ3_ok : ∀ k, k < 0 → parseFieldDescriptor (TJ3 k).2.2.1 = some (tyJ3 k) := by decide +kernel
