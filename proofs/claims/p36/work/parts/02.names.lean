/-! ===== BEGIN printed: names, fields, word lists, decode rows ===== -/
def RX0 : String := "Monobuild$FileTable"
def TX0 : u_T := fun k => match k with
  | 0 => ("Monobuild$FileTable", "paths", "[LMonobuild$Text;", true)
  | 1 => ("Monobuild$FileTable", "contents", "[I", true)
  | 2 => ("Monobuild$FileTable", "markedContents", "[I", true)
  | 3 => ("Monobuild$FileTable", "count", "I", false)
  | 4 => ("Monobuild$FileTable", "there", "I", false)
  | _ => ("Monobuild$FileTable", "markedThere", "I", false)
def tyX0 : Nat → FieldType := fun k => match k with
  | 0 => .array (.object "Monobuild$Text")
  | 1 => .array .int
  | 2 => .array .int
  | 3 => .int
  | 4 => .int
  | _ => .int
abbrev wsX00 : List Cond := u_ws RX0 TX0 6
theorem nmX0 : ∀ a, a < 6 → ∀ b, b < 6 → a ≠ b → (TX0 a).2.1 ≠ (TX0 b).2.1 := by decide +kernel
theorem tyX0_ok : ∀ k, k < 6 → parseFieldDescriptor (TX0 k).2.2.1 = some (tyX0 k) := by decide +kernel
abbrev cX0_init : ByteArray := prog_2_method_1_code
def yX0_init : MethodName := ⟨RX0, "<init>", "()V"⟩
abbrev cX0_has : ByteArray := prog_2_method_2_code
def yX0_has : MethodName := ⟨RX0, "has", "(I)Z"⟩
abbrev cX0_isThere : ByteArray := prog_2_method_3_code
def yX0_isThere : MethodName := ⟨RX0, "isThere", "(I)Z"⟩
abbrev cX0_isFull : ByteArray := prog_2_method_4_code
def yX0_isFull : MethodName := ⟨RX0, "isFull", "()Z"⟩
abbrev cX0_present : ByteArray := prog_2_method_5_code
def yX0_present : MethodName := ⟨RX0, "present", "()I"⟩
abbrev cX0_pathOf : ByteArray := prog_2_method_6_code
def yX0_pathOf : MethodName := ⟨RX0, "pathOf", "(I)LMonobuild$Text;"⟩
abbrev cX0_contentOf : ByteArray := prog_2_method_7_code
def yX0_contentOf : MethodName := ⟨RX0, "contentOf", "(I)I"⟩
abbrev cX0_numberOf : ByteArray := prog_2_method_8_code
def yX0_numberOf : MethodName := ⟨RX0, "numberOf", "(LMonobuild$Text;)I"⟩
abbrev cX0_addPath : ByteArray := prog_2_method_9_code
def yX0_addPath : MethodName := ⟨RX0, "addPath", "(LMonobuild$Text;)I"⟩
abbrev cX0_put : ByteArray := prog_2_method_10_code
def yX0_put : MethodName := ⟨RX0, "put", "(II)V"⟩
abbrev cX0_remove : ByteArray := prog_2_method_11_code
def yX0_remove : MethodName := ⟨RX0, "remove", "(I)V"⟩
abbrev cX0_coveredBy : ByteArray := prog_2_method_12_code
def yX0_coveredBy : MethodName := ⟨RX0, "coveredBy", "(LMonobuild$Text;)I"⟩
abbrev cX0_keepMark : ByteArray := prog_2_method_13_code
def yX0_keepMark : MethodName := ⟨RX0, "keepMark", "()V"⟩
abbrev cX0_sinceMark : ByteArray := prog_2_method_14_code
def yX0_sinceMark : MethodName := ⟨RX0, "sinceMark", "()I"⟩
def RX1 : String := "Monobuild$Globs"
def TX1 : u_T := fun k => match k with
  | 0 => ("Monobuild$Globs", "patterns", "[LMonobuild$Text;", true)
  | 1 => ("Monobuild$Globs", "coveredFiles", "[I", true)
  | 2 => ("Monobuild$Globs", "most", "I", true)
  | _ => ("Monobuild$Globs", "count", "I", false)
def tyX1 : Nat → FieldType := fun k => match k with
  | 0 => .array (.object "Monobuild$Text")
  | 1 => .array .int
  | 2 => .int
  | _ => .int
abbrev wsX10 : List Cond := u_ws RX1 TX1 4
theorem nmX1 : ∀ a, a < 4 → ∀ b, b < 4 → a ≠ b → (TX1 a).2.1 ≠ (TX1 b).2.1 := by decide +kernel
theorem tyX1_ok : ∀ k, k < 4 → parseFieldDescriptor (TX1 k).2.2.1 = some (tyX1 k) := by decide +kernel
abbrev cX1_init : ByteArray := prog_3_method_1_code
def yX1_init : MethodName := ⟨RX1, "<init>", "(I)V"⟩
abbrev cX1_size : ByteArray := prog_3_method_2_code
def yX1_size : MethodName := ⟨RX1, "size", "()I"⟩
abbrev cX1_isFull : ByteArray := prog_3_method_3_code
def yX1_isFull : MethodName := ⟨RX1, "isFull", "()Z"⟩
abbrev cX1_add : ByteArray := prog_3_method_4_code
def yX1_add : MethodName := ⟨RX1, "add", "(LMonobuild$Text;I)V"⟩
abbrev cX1_meetFile : ByteArray := prog_3_method_5_code
def yX1_meetFile : MethodName := ⟨RX1, "meetFile", "(ILMonobuild$Text;)V"⟩
abbrev cX1_covered : ByteArray := prog_3_method_6_code
def yX1_covered : MethodName := ⟨RX1, "covered", "()I"⟩
abbrev cX1_latestCovering : ByteArray := prog_3_method_7_code
def yX1_latestCovering : MethodName := ⟨RX1, "latestCovering", "(I)I"⟩
def RX2 : String := "Monobuild$Graph"
def TX2 : u_T := fun k => match k with
  | 0 => ("Monobuild$Graph", "costs", "[I", true)
  | 1 => ("Monobuild$Graph", "dependencies", "[I", true)
  | 2 => ("Monobuild$Graph", "globs", "[LMonobuild$Globs;", true)
  | 3 => ("Monobuild$Graph", "order", "[I", true)
  | _ => ("Monobuild$Graph", "count", "I", false)
def tyX2 : Nat → FieldType := fun k => match k with
  | 0 => .array .int
  | 1 => .array .int
  | 2 => .array (.object "Monobuild$Globs")
  | 3 => .array .int
  | _ => .int
abbrev wsX20 : List Cond := u_ws RX2 TX2 5
theorem nmX2 : ∀ a, a < 5 → ∀ b, b < 5 → a ≠ b → (TX2 a).2.1 ≠ (TX2 b).2.1 := by decide +kernel
theorem tyX2_ok : ∀ k, k < 5 → parseFieldDescriptor (TX2 k).2.2.1 = some (tyX2 k) := by decide +kernel
abbrev cX2_init : ByteArray := prog_4_method_1_code
def yX2_init : MethodName := ⟨RX2, "<init>", "()V"⟩
abbrev cX2_size : ByteArray := prog_4_method_2_code
def yX2_size : MethodName := ⟨RX2, "size", "()I"⟩
abbrev cX2_has : ByteArray := prog_4_method_3_code
def yX2_has : MethodName := ⟨RX2, "has", "(I)Z"⟩
abbrev cX2_isFull : ByteArray := prog_4_method_4_code
def yX2_isFull : MethodName := ⟨RX2, "isFull", "()Z"⟩
abbrev cX2_costOf : ByteArray := prog_4_method_5_code
def yX2_costOf : MethodName := ⟨RX2, "costOf", "(I)I"⟩
abbrev cX2_dependenciesOf : ByteArray := prog_4_method_6_code
def yX2_dependenciesOf : MethodName := ⟨RX2, "dependenciesOf", "(I)I"⟩
abbrev cX2_globsOf : ByteArray := prog_4_method_7_code
def yX2_globsOf : MethodName := ⟨RX2, "globsOf", "(I)LMonobuild$Globs;"⟩
abbrev cX2_add : ByteArray := prog_4_method_8_code
def yX2_add : MethodName := ⟨RX2, "add", "(I)I"⟩
abbrev cX2_addDependency : ByteArray := prog_4_method_9_code
def yX2_addDependency : MethodName := ⟨RX2, "addDependency", "(II)V"⟩
abbrev cX2_meetFile : ByteArray := prog_4_method_10_code
def yX2_meetFile : MethodName := ⟨RX2, "meetFile", "(ILMonobuild$Text;)V"⟩
abbrev cX2_covering : ByteArray := prog_4_method_11_code
def yX2_covering : MethodName := ⟨RX2, "covering", "(I)I"⟩
abbrev cX2_upFrom : ByteArray := prog_4_method_12_code
def yX2_upFrom : MethodName := ⟨RX2, "upFrom", "(I)I"⟩
abbrev cX2_reachingDown : ByteArray := prog_4_method_13_code
def yX2_reachingDown : MethodName := ⟨RX2, "reachingDown", "(I)I"⟩
abbrev cX2_makeOrder : ByteArray := prog_4_method_14_code
def yX2_makeOrder : MethodName := ⟨RX2, "makeOrder", "()V"⟩
abbrev cX2_atPlace : ByteArray := prog_4_method_15_code
def yX2_atPlace : MethodName := ⟨RX2, "atPlace", "(I)I"⟩
abbrev cX2_downFrom : ByteArray := prog_4_method_16_code
def yX2_downFrom : MethodName := ⟨RX2, "downFrom", "(I)I"⟩
abbrev cX2_nextBehind : ByteArray := prog_4_method_17_code
def yX2_nextBehind : MethodName := ⟨RX2, "nextBehind", "(I)I"⟩
abbrev cX2_isNext : ByteArray := prog_4_method_18_code
def yX2_isNext : MethodName := ⟨RX2, "isNext", "(II)Z"⟩
def RX3 : String := "Monobuild$KeyBook"
def TX3 : u_T := fun k => match k with
  | 0 => ("Monobuild$KeyBook", "tree", "LMonobuild$FileTable;", true)
  | 1 => ("Monobuild$KeyBook", "graph", "LMonobuild$Graph;", true)
  | 2 => ("Monobuild$KeyBook", "rows", "[[I", true)
  | 3 => ("Monobuild$KeyBook", "holders", "[I", true)
  | 4 => ("Monobuild$KeyBook", "present", "[I", true)
  | 5 => ("Monobuild$KeyBook", "latest", "[I", true)
  | 6 => ("Monobuild$KeyBook", "row", "[I", true)
  | _ => ("Monobuild$KeyBook", "count", "I", false)
def tyX3 : Nat → FieldType := fun k => match k with
  | 0 => .object "Monobuild$FileTable"
  | 1 => .object "Monobuild$Graph"
  | 2 => .array (.array .int)
  | 3 => .array .int
  | 4 => .array .int
  | 5 => .array .int
  | 6 => .array .int
  | _ => .int
abbrev wsX30 : List Cond := u_ws RX3 TX3 8
theorem nmX3 : ∀ a, a < 8 → ∀ b, b < 8 → a ≠ b → (TX3 a).2.1 ≠ (TX3 b).2.1 := by decide +kernel
theorem tyX3_ok : ∀ k, k < 8 → parseFieldDescriptor (TX3 k).2.2.1 = some (tyX3 k) := by decide +kernel
abbrev cX3_init : ByteArray := prog_5_method_1_code
def yX3_init : MethodName := ⟨RX3, "<init>", "(LMonobuild$FileTable;LMonobuild$Graph;)V"⟩
abbrev cX3_given : ByteArray := prog_5_method_2_code
def yX3_given : MethodName := ⟨RX3, "given", "()I"⟩
abbrev cX3_lookUpAll : ByteArray := prog_5_method_3_code
def yX3_lookUpAll : MethodName := ⟨RX3, "lookUpAll", "()V"⟩
abbrev cX3_keyNow : ByteArray := prog_5_method_4_code
def yX3_keyNow : MethodName := ⟨RX3, "keyNow", "(I)I"⟩
abbrev cX3_withoutKey : ByteArray := prog_5_method_5_code
def yX3_withoutKey : MethodName := ⟨RX3, "withoutKey", "()I"⟩
abbrev cX3_hasRun : ByteArray := prog_5_method_6_code
def yX3_hasRun : MethodName := ⟨RX3, "hasRun", "(I)Z"⟩
abbrev cX3_hasLatestInputs : ByteArray := prog_5_method_7_code
def yX3_hasLatestInputs : MethodName := ⟨RX3, "hasLatestInputs", "(I)Z"⟩
abbrev cX3_runOrFind : ByteArray := prog_5_method_8_code
def yX3_runOrFind : MethodName := ⟨RX3, "runOrFind", "(I)I"⟩
abbrev cX3_runOrFindAll : ByteArray := prog_5_method_9_code
def yX3_runOrFindAll : MethodName := ⟨RX3, "runOrFindAll", "()V"⟩
abbrev cX3_lookUp : ByteArray := prog_5_method_10_code
def yX3_lookUp : MethodName := ⟨RX3, "lookUp", "(I)V"⟩
abbrev cX3_dependenciesHaveKeys : ByteArray := prog_5_method_11_code
def yX3_dependenciesHaveKeys : MethodName := ⟨RX3, "dependenciesHaveKeys", "(I)Z"⟩
abbrev cX3_fillRow : ByteArray := prog_5_method_12_code
def yX3_fillRow : MethodName := ⟨RX3, "fillRow", "(I)V"⟩
abbrev cX3_keyOfRow : ByteArray := prog_5_method_13_code
def yX3_keyOfRow : MethodName := ⟨RX3, "keyOfRow", "(I)I"⟩
abbrev cX3_agrees : ByteArray := prog_5_method_14_code
def yX3_agrees : MethodName := ⟨RX3, "agrees", "(II)Z"⟩
abbrev cX3_give : ByteArray := prog_5_method_15_code
def yX3_give : MethodName := ⟨RX3, "give", "(I)I"⟩
def RX4 : String := "Monobuild$RuleBook"
def TX4 : u_T := fun k => match k with
  | 0 => ("Monobuild$RuleBook", "globs", "LMonobuild$Globs;", true)
  | _ => ("Monobuild$RuleBook", "owners", "[I", true)
def tyX4 : Nat → FieldType := fun k => match k with
  | 0 => .object "Monobuild$Globs"
  | _ => .array .int
abbrev wsX40 : List Cond := u_ws RX4 TX4 2
theorem nmX4 : ∀ a, a < 2 → ∀ b, b < 2 → a ≠ b → (TX4 a).2.1 ≠ (TX4 b).2.1 := by decide +kernel
theorem tyX4_ok : ∀ k, k < 2 → parseFieldDescriptor (TX4 k).2.2.1 = some (tyX4 k) := by decide +kernel
abbrev cX4_init : ByteArray := prog_6_method_1_code
def yX4_init : MethodName := ⟨RX4, "<init>", "()V"⟩
abbrev cX4_size : ByteArray := prog_6_method_2_code
def yX4_size : MethodName := ⟨RX4, "size", "()I"⟩
abbrev cX4_isFull : ByteArray := prog_6_method_3_code
def yX4_isFull : MethodName := ⟨RX4, "isFull", "()Z"⟩
abbrev cX4_add : ByteArray := prog_6_method_4_code
def yX4_add : MethodName := ⟨RX4, "add", "(LMonobuild$Text;II)V"⟩
abbrev cX4_meetFile : ByteArray := prog_6_method_5_code
def yX4_meetFile : MethodName := ⟨RX4, "meetFile", "(ILMonobuild$Text;)V"⟩
abbrev cX4_latestOwner : ByteArray := prog_6_method_6_code
def yX4_latestOwner : MethodName := ⟨RX4, "latestOwner", "(I)I"⟩
abbrev cX4_ownersOfAll : ByteArray := prog_6_method_7_code
def yX4_ownersOfAll : MethodName := ⟨RX4, "ownersOfAll", "(I)I"⟩
def RX5 : String := "Monobuild$Spread"
def TX5 : u_T := fun k => match k with
  | 0 => ("Monobuild$Spread", "loads", "[I", true)
  | _ => ("Monobuild$Spread", "places", "[I", true)
def tyX5 : Nat → FieldType := fun k => match k with
  | 0 => .array .int
  | _ => .array .int
abbrev wsX50 : List Cond := u_ws RX5 TX5 2
theorem nmX5 : ∀ a, a < 2 → ∀ b, b < 2 → a ≠ b → (TX5 a).2.1 ≠ (TX5 b).2.1 := by decide +kernel
theorem tyX5_ok : ∀ k, k < 2 → parseFieldDescriptor (TX5 k).2.2.1 = some (tyX5 k) := by decide +kernel
abbrev cX5_init : ByteArray := prog_7_method_1_code
def yX5_init : MethodName := ⟨RX5, "<init>", "()V"⟩
abbrev cX5_over : ByteArray := prog_7_method_2_code
def yX5_over : MethodName := ⟨RX5, "over", "(LMonobuild$Graph;II)V"⟩
abbrev cX5_placeOf : ByteArray := prog_7_method_3_code
def yX5_placeOf : MethodName := ⟨RX5, "placeOf", "(I)I"⟩
abbrev cX5_greatestLoad : ByteArray := prog_7_method_4_code
def yX5_greatestLoad : MethodName := ⟨RX5, "greatestLoad", "()I"⟩
abbrev cX5_dearest : ByteArray := prog_7_method_5_code
def yX5_dearest : MethodName := ⟨RX5, "dearest", "(LMonobuild$Graph;I)I"⟩
abbrev cX5_lightest : ByteArray := prog_7_method_6_code
def yX5_lightest : MethodName := ⟨RX5, "lightest", "(I)I"⟩
def RX6 : String := "Monobuild$Text"
def TX6 : u_T := fun k => match k with
  | 0 => ("Monobuild$Text", "signs", "[C", true)
  | _ => ("Monobuild$Text", "length", "I", false)
def tyX6 : Nat → FieldType := fun k => match k with
  | 0 => .array .char
  | _ => .int
abbrev wsX60 : List Cond := u_ws RX6 TX6 2
theorem nmX6 : ∀ a, a < 2 → ∀ b, b < 2 → a ≠ b → (TX6 a).2.1 ≠ (TX6 b).2.1 := by decide +kernel
theorem tyX6_ok : ∀ k, k < 2 → parseFieldDescriptor (TX6 k).2.2.1 = some (tyX6 k) := by decide +kernel
abbrev cX6_init : ByteArray := prog_8_method_1_code
def yX6_init : MethodName := ⟨RX6, "<init>", "()V"⟩
abbrev cX6_size : ByteArray := prog_8_method_2_code
def yX6_size : MethodName := ⟨RX6, "size", "()I"⟩
abbrev cX6_isFull : ByteArray := prog_8_method_3_code
def yX6_isFull : MethodName := ⟨RX6, "isFull", "()Z"⟩
abbrev cX6_append : ByteArray := prog_8_method_4_code
def yX6_append : MethodName := ⟨RX6, "append", "(C)V"⟩
abbrev cX6_empty : ByteArray := prog_8_method_5_code
def yX6_empty : MethodName := ⟨RX6, "empty", "()V"⟩
abbrev cX6_copyFrom : ByteArray := prog_8_method_6_code
def yX6_copyFrom : MethodName := ⟨RX6, "copyFrom", "(LMonobuild$Text;)V"⟩
abbrev cX6_isSameAs : ByteArray := prog_8_method_7_code
def yX6_isSameAs : MethodName := ⟨RX6, "isSameAs", "(LMonobuild$Text;)Z"⟩
abbrev cX6_hasPathForm : ByteArray := prog_8_method_8_code
def yX6_hasPathForm : MethodName := ⟨RX6, "hasPathForm", "()Z"⟩
abbrev cX6_hasGlobForm : ByteArray := prog_8_method_9_code
def yX6_hasGlobForm : MethodName := ⟨RX6, "hasGlobForm", "()Z"⟩
abbrev cX6_covers : ByteArray := prog_8_method_10_code
def yX6_covers : MethodName := ⟨RX6, "covers", "(LMonobuild$Text;)Z"⟩
abbrev cX6_signAt : ByteArray := prog_8_method_11_code
def yX6_signAt : MethodName := ⟨RX6, "signAt", "(I)C"⟩
abbrev cX6_isDoubleStar : ByteArray := prog_8_method_12_code
def yX6_isDoubleStar : MethodName := ⟨RX6, "isDoubleStar", "(I)Z"⟩
abbrev cX6_hasEmptySegment : ByteArray := prog_8_method_13_code
def yX6_hasEmptySegment : MethodName := ⟨RX6, "hasEmptySegment", "()Z"⟩
abbrev cX6_startsFrom : ByteArray := prog_8_method_14_code
def yX6_startsFrom : MethodName := ⟨RX6, "startsFrom", "(I)I"⟩
abbrev cX6_overLetters : ByteArray := prog_8_method_15_code
def yX6_overLetters : MethodName := ⟨RX6, "overLetters", "(I)I"⟩
abbrev cX6_overSign : ByteArray := prog_8_method_16_code
def yX6_overSign : MethodName := ⟨RX6, "overSign", "(IC)I"⟩
def RX7 : String := "Monobuild"
def TX7 : u_T := fun k => match k with
  | 0 => ("Monobuild", "text", "LMonobuild$Text;", true)
  | 1 => ("Monobuild", "tree", "LMonobuild$FileTable;", true)
  | 2 => ("Monobuild", "graph", "LMonobuild$Graph;", true)
  | 3 => ("Monobuild", "book", "LMonobuild$KeyBook;", true)
  | 4 => ("Monobuild", "spread", "LMonobuild$Spread;", true)
  | _ => ("Monobuild", "rules", "LMonobuild$RuleBook;", true)
def tyX7 : Nat → FieldType := fun k => match k with
  | 0 => .object "Monobuild$Text"
  | 1 => .object "Monobuild$FileTable"
  | 2 => .object "Monobuild$Graph"
  | 3 => .object "Monobuild$KeyBook"
  | 4 => .object "Monobuild$Spread"
  | _ => .object "Monobuild$RuleBook"
abbrev wsX70 : List Cond := u_ws RX7 TX7 6
theorem nmX7 : ∀ a, a < 6 → ∀ b, b < 6 → a ≠ b → (TX7 a).2.1 ≠ (TX7 b).2.1 := by decide +kernel
theorem tyX7_ok : ∀ k, k < 6 → parseFieldDescriptor (TX7 k).2.2.1 = some (tyX7 k) := by decide +kernel
abbrev cX7_init : ByteArray := prog_1_method_1_code
def yX7_init : MethodName := ⟨RX7, "<init>", "()V"⟩
abbrev cX7_type : ByteArray := prog_1_method_2_code
def yX7_type : MethodName := ⟨RX7, "type", "(C)I"⟩
abbrev cX7_clearText : ByteArray := prog_1_method_3_code
def yX7_clearText : MethodName := ⟨RX7, "clearText", "()I"⟩
abbrev cX7_isPath : ByteArray := prog_1_method_4_code
def yX7_isPath : MethodName := ⟨RX7, "isPath", "()Z"⟩
abbrev cX7_isGlob : ByteArray := prog_1_method_5_code
def yX7_isGlob : MethodName := ⟨RX7, "isGlob", "()Z"⟩
abbrev cX7_addFile : ByteArray := prog_1_method_6_code
def yX7_addFile : MethodName := ⟨RX7, "addFile", "(I)I"⟩
abbrev cX7_findFile : ByteArray := prog_1_method_7_code
def yX7_findFile : MethodName := ⟨RX7, "findFile", "()I"⟩
abbrev cX7_edit : ByteArray := prog_1_method_8_code
def yX7_edit : MethodName := ⟨RX7, "edit", "(II)I"⟩
abbrev cX7_delete : ByteArray := prog_1_method_9_code
def yX7_delete : MethodName := ⟨RX7, "delete", "(I)I"⟩
abbrev cX7_files : ByteArray := prog_1_method_10_code
def yX7_files : MethodName := ⟨RX7, "files", "()I"⟩
abbrev cX7_matches : ByteArray := prog_1_method_11_code
def yX7_matches : MethodName := ⟨RX7, "matches", "(I)Z"⟩
abbrev cX7_addTarget : ByteArray := prog_1_method_12_code
def yX7_addTarget : MethodName := ⟨RX7, "addTarget", "(I)I"⟩
abbrev cX7_addGlob : ByteArray := prog_1_method_13_code
def yX7_addGlob : MethodName := ⟨RX7, "addGlob", "(I)I"⟩
abbrev cX7_depend : ByteArray := prog_1_method_14_code
def yX7_depend : MethodName := ⟨RX7, "depend", "(II)I"⟩
abbrev cX7_targets : ByteArray := prog_1_method_15_code
def yX7_targets : MethodName := ⟨RX7, "targets", "()I"⟩
abbrev cX7_inputs : ByteArray := prog_1_method_16_code
def yX7_inputs : MethodName := ⟨RX7, "inputs", "(I)I"⟩
abbrev cX7_above : ByteArray := prog_1_method_17_code
def yX7_above : MethodName := ⟨RX7, "above", "(I)I"⟩
abbrev cX7_orderAt : ByteArray := prog_1_method_18_code
def yX7_orderAt : MethodName := ⟨RX7, "orderAt", "(I)I"⟩
abbrev cX7_affectedBy : ByteArray := prog_1_method_19_code
def yX7_affectedBy : MethodName := ⟨RX7, "affectedBy", "(I)I"⟩
abbrev cX7_affectedByGoingDown : ByteArray := prog_1_method_20_code
def yX7_affectedByGoingDown : MethodName := ⟨RX7, "affectedByGoingDown", "(I)I"⟩
abbrev cX7_keyOf : ByteArray := prog_1_method_21_code
def yX7_keyOf : MethodName := ⟨RX7, "keyOf", "(I)I"⟩
abbrev cX7_needed : ByteArray := prog_1_method_22_code
def yX7_needed : MethodName := ⟨RX7, "needed", "()I"⟩
abbrev cX7_whyRun : ByteArray := prog_1_method_23_code
def yX7_whyRun : MethodName := ⟨RX7, "whyRun", "(I)I"⟩
abbrev cX7_run : ByteArray := prog_1_method_24_code
def yX7_run : MethodName := ⟨RX7, "run", "(I)I"⟩
abbrev cX7_runAll : ByteArray := prog_1_method_25_code
def yX7_runAll : MethodName := ⟨RX7, "runAll", "()I"⟩
abbrev cX7_keys : ByteArray := prog_1_method_26_code
def yX7_keys : MethodName := ⟨RX7, "keys", "()I"⟩
abbrev cX7_shardOf : ByteArray := prog_1_method_27_code
def yX7_shardOf : MethodName := ⟨RX7, "shardOf", "(II)I"⟩
abbrev cX7_longestShard : ByteArray := prog_1_method_28_code
def yX7_longestShard : MethodName := ⟨RX7, "longestShard", "(I)I"⟩
abbrev cX7_shardsFor : ByteArray := prog_1_method_29_code
def yX7_shardsFor : MethodName := ⟨RX7, "shardsFor", "(I)I"⟩
abbrev cX7_addRule : ByteArray := prog_1_method_30_code
def yX7_addRule : MethodName := ⟨RX7, "addRule", "(I)I"⟩
abbrev cX7_ownerOf : ByteArray := prog_1_method_31_code
def yX7_ownerOf : MethodName := ⟨RX7, "ownerOf", "(I)I"⟩
abbrev cX7_mark : ByteArray := prog_1_method_32_code
def yX7_mark : MethodName := ⟨RX7, "mark", "()I"⟩
abbrev cX7_changed : ByteArray := prog_1_method_33_code
def yX7_changed : MethodName := ⟨RX7, "changed", "()I"⟩
abbrev cX7_reviewers : ByteArray := prog_1_method_34_code
def yX7_reviewers : MethodName := ⟨RX7, "reviewers", "()I"⟩
abbrev cX7_requireContent : ByteArray := prog_1_method_35_code
def yX7_requireContent : MethodName := ⟨RX7, "requireContent", "(I)V"⟩
abbrev cX7_requireFile : ByteArray := prog_1_method_36_code
def yX7_requireFile : MethodName := ⟨RX7, "requireFile", "(I)V"⟩
abbrev cX7_requireFileThere : ByteArray := prog_1_method_37_code
def yX7_requireFileThere : MethodName := ⟨RX7, "requireFileThere", "(I)V"⟩
abbrev cX7_requireTarget : ByteArray := prog_1_method_38_code
def yX7_requireTarget : MethodName := ⟨RX7, "requireTarget", "(I)V"⟩
abbrev cX7_requireGlob : ByteArray := prog_1_method_39_code
def yX7_requireGlob : MethodName := ⟨RX7, "requireGlob", "()V"⟩
abbrev cX7_requireShards : ByteArray := prog_1_method_40_code
def yX7_requireShards : MethodName := ⟨RX7, "requireShards", "(I)V"⟩
abbrev cX7_numberNewPath : ByteArray := prog_1_method_41_code
def yX7_numberNewPath : MethodName := ⟨RX7, "numberNewPath", "()I"⟩
abbrev cX7_isSign : ByteArray := prog_1_method_42_code
def yX7_isSign : MethodName := ⟨RX7, "isSign", "(C)Z"⟩
abbrev cX7_holds : ByteArray := prog_1_method_43_code
def yX7_holds : MethodName := ⟨RX7, "holds", "(II)Z"⟩
def RX8 : String := "MonobuildModel"
def TX8 : u_T := fun k => match k with
  | _ => ("", "", "", false)
def tyX8 : Nat → FieldType := fun k => match k with
  | _ => .int
abbrev wsX80 : List Cond := u_ws RX8 TX8 0
theorem nmX8 : ∀ a, a < 0 → ∀ b, b < 0 → a ≠ b → (TX8 a).2.1 ≠ (TX8 b).2.1 := by decide +kernel
theorem tyX8_ok : ∀ k, k < 0 → parseFieldDescriptor (TX8 k).2.2.1 = some (tyX8 k) := by decide +kernel
def RJx145de : String := "java/io/Serializable"
def TJx145de : u_T := fun k => match k with
  | _ => ("", "", "", false)
def tyJx145de : Nat → FieldType := fun k => match k with
  | _ => .int
abbrev wsJx145de0 : List Cond := u_ws RJx145de TJx145de 0
theorem nmJx145de : ∀ a, a < 0 → ∀ b, b < 0 → a ≠ b → (TJx145de a).2.1 ≠ (TJx145de b).2.1 := by decide +kernel
theorem tyJx145de_ok : ∀ k, k < 0 → parseFieldDescriptor (TJx145de k).2.2.1 = some (tyJx145de k) := by decide +kernel
def RJ6 : String := "java/lang/Integer"
def TJ6 : u_T := fun k => match k with
  | _ => ("", "", "", false)
def tyJ6 : Nat → FieldType := fun k => match k with
  | _ => .int
abbrev wsJ60 : List Cond := u_ws RJ6 TJ6 0
theorem nmJ6 : ∀ a, a < 0 → ∀ b, b < 0 → a ≠ b → (TJ6 a).2.1 ≠ (TJ6 b).2.1 := by decide +kernel
theorem tyJ6_ok : ∀ k, k < 0 → parseFieldDescriptor (TJ6 k).2.2.1 = some (tyJ6 k) := by decide +kernel
abbrev cJ6_bitCount_0f7a4 : ByteArray := prog_15_method_49_code
def yJ6_bitCount_0f7a4 : MethodName := ⟨RJ6, "bitCount", "(I)I"⟩
def RJ9 : String := "java/lang/Math"
def TJ9 : u_T := fun k => match k with
  | _ => ("", "", "", false)
def tyJ9 : Nat → FieldType := fun k => match k with
  | _ => .int
abbrev wsJ90 : List Cond := u_ws RJ9 TJ9 0
theorem nmJ9 : ∀ a, a < 0 → ∀ b, b < 0 → a ≠ b → (TJ9 a).2.1 ≠ (TJ9 b).2.1 := by decide +kernel
theorem tyJ9_ok : ∀ k, k < 0 → parseFieldDescriptor (TJ9 k).2.2.1 = some (tyJ9 k) := by decide +kernel
abbrev cJ9_max_7cf53 : ByteArray := prog_16_method_65_code
def yJ9_max_7cf53 : MethodName := ⟨RJ9, "max", "(II)I"⟩
def RJ0 : String := "java/lang/String"
def TJ0 : u_T := fun k => match k with
  | _ => ("", "", "", false)
def tyJ0 : Nat → FieldType := fun k => match k with
  | _ => .int
abbrev wsJ00 : List Cond := u_ws RJ0 TJ0 0
theorem nmJ0 : ∀ a, a < 0 → ∀ b, b < 0 → a ≠ b → (TJ0 a).2.1 ≠ (TJ0 b).2.1 := by decide +kernel
theorem tyJ0_ok : ∀ k, k < 0 → parseFieldDescriptor (TJ0 k).2.2.1 = some (tyJ0 k) := by decide +kernel
def RJ10 : String := "java/lang/System"
def TJ10 : u_T := fun k => match k with
  | _ => ("", "", "", false)
def tyJ10 : Nat → FieldType := fun k => match k with
  | _ => .int
abbrev wsJ100 : List Cond := u_ws RJ10 TJ10 0
theorem nmJ10 : ∀ a, a < 0 → ∀ b, b < 0 → a ≠ b → (TJ10 a).2.1 ≠ (TJ10 b).2.1 := by decide +kernel
theorem tyJ10_ok : ∀ k, k < 0 → parseFieldDescriptor (TJ10 k).2.2.1 = some (tyJ10 k) := by decide +kernel
def RJ7 : String := "java/util/Arrays"
def TJ7 : u_T := fun k => match k with
  | _ => ("", "", "", false)
def tyJ7 : Nat → FieldType := fun k => match k with
  | _ => .int
abbrev wsJ70 : List Cond := u_ws RJ7 TJ7 0
theorem nmJ7 : ∀ a, a < 0 → ∀ b, b < 0 → a ≠ b → (TJ7 a).2.1 ≠ (TJ7 b).2.1 := by decide +kernel
theorem tyJ7_ok : ∀ k, k < 0 → parseFieldDescriptor (TJ7 k).2.2.1 = some (tyJ7 k) := by decide +kernel
abbrev cJ7_fill_53178 : ByteArray := prog_21_method_103_code
def yJ7_fill_53178 : MethodName := ⟨RJ7, "fill", "([II)V"⟩
def RL : String := "MonobuildLaw"
abbrev cL_act : ByteArray := method_2_code
def yL_act : MethodName := ⟨RL, "act", "(LMonobuild;III)I"⟩
abbrev cL_add : ByteArray := method_3_code
def yL_add : MethodName := ⟨RL, "add", "(LMonobuild;C)Z"⟩
abbrev cL_text : ByteArray := method_4_code
def yL_text : MethodName := ⟨RL, "text", "(LMonobuild;CCCCCCCC)Z"⟩
abbrev cL_refuses : ByteArray := method_5_code
def yL_refuses : MethodName := ⟨RL, "refuses", "(LMonobuild;I)Z"⟩
abbrev cL_kind : ByteArray := method_6_code
def yL_kind : MethodName := ⟨RL, "kind", "(LMonobuild;)I"⟩
abbrev cL_matched : ByteArray := method_7_code
def yL_matched : MethodName := ⟨RL, "matched", "(LMonobuild;I)I"⟩
abbrev cL_globs : ByteArray := method_8_code
def yL_globs : MethodName := ⟨RL, "globs", "()Z"⟩
abbrev cL_runs : ByteArray := method_9_code
def yL_runs : MethodName := ⟨RL, "runs", "()Z"⟩
abbrev cL_bounds : ByteArray := method_10_code
def yL_bounds : MethodName := ⟨RL, "bounds", "(I)Z"⟩
abbrev cL_law : ByteArray := code
def yL_law : MethodName := ⟨RL, "law", "([I)Z"⟩
theorem inJx145de : ∀ w ∈ wsJx145de0, w ∈ lw_tbl := by decide +kernel
theorem inJ6 : ∀ w ∈ wsJ60, w ∈ lw_tbl := by decide +kernel
theorem inJ9 : ∀ w ∈ wsJ90, w ∈ lw_tbl := by decide +kernel
theorem inJ0 : ∀ w ∈ wsJ00, w ∈ lw_tbl := by decide +kernel
theorem inJ10 : ∀ w ∈ wsJ100, w ∈ lw_tbl := by decide +kernel
theorem inJ7 : ∀ w ∈ wsJ70, w ∈ lw_tbl := by decide +kernel
abbrev vwCl : List vw_C := [(RX0, TX0, 6), (RX1, TX1, 4), (RX2, TX2, 5), (RX3, TX3, 8), (RX4, TX4, 2), (RX5, TX5, 2), (RX6, TX6, 2), (RX7, TX7, 6)]
