/-! ===== BEGIN words of one list among another's, by their places ===== -/
theorem goodIn_r {big : List Cond} (ws : List Cond) (ps : List Nat) (hp : ws = ps.filterMap (fun i => big[i]?)) (h : ws.all goodWord = true) : GoodIn big ws := by
  intro w hw
  have h1 := List.all_eq_true.mp h w hw
  rw [hp] at hw
  obtain ⟨i, -, hi⟩ := List.mem_filterMap.mp hw
  have hm : w ∈ big := by first | exact List.mem_of_getElem? hi | exact List.getElem?_mem hi
  exact ⟨hm, good_of_word h1⟩
theorem goodIn_app {big a b : List Cond} (ha : GoodIn big a) (hb : GoodIn big b) : GoodIn big (a ++ b) := fun w h => (List.mem_append.mp h).elim (ha w) (hb w)
theorem goodIn_ca {big a b : List Cond} {c : Cond} (ha : GoodIn big (c :: a)) (hb : GoodIn big b) : GoodIn big (c :: (a ++ b)) := fun w h => (List.mem_cons.mp h).elim (fun e => ha w (List.mem_cons.mpr (Or.inl e))) (fun h => (List.mem_append.mp h).elim (fun h => ha w (List.mem_cons.mpr (Or.inr h))) (hb w))
theorem goodIn_sub {big ws : List Cond} (hm : ∀ w ∈ ws, w ∈ big) (h : ws.all goodWord = true) : GoodIn big ws := fun w hw => ⟨hm w hw, good_of_word (List.all_eq_true.mp h w hw)⟩
/-! ===== END ===== -/
/-! ===== BEGIN printed: names, fields, word lists, decode rows ===== -/
def RX0 : String := "TinKitchen$History"
def TX0 : u_T := fun k => match k with
  | 0 => ("TinKitchen$History", "kept", "I", false)
  | 1 => ("TinKitchen$History", "latest", "I", false)
  | _ => ("TinKitchen$History", "states", "[LTinKitchen$State;", true)
def tyX0 : Nat → FieldType := fun k => match k with
  | 0 => .int
  | 1 => .int
  | _ => .array (.object "TinKitchen$State")
abbrev wsX00 : List Cond := u_ws RX0 TX0 3
theorem nmX0 : ∀ a, a < 3 → ∀ b, b < 3 → a ≠ b → (TX0 a).2.1 ≠ (TX0 b).2.1 := by decide +kernel
theorem tyX0_ok : ∀ k, k < 3 → parseFieldDescriptor (TX0 k).2.2.1 = some (tyX0 k) := by decide +kernel
abbrev cX0_init : ByteArray := prog_2_method_1_code
def yX0_init : MethodName := ⟨RX0, "<init>", "()V"⟩
abbrev cX0_record : ByteArray := prog_2_method_2_code
def yX0_record : MethodName := ⟨RX0, "record", "(LTinKitchen$State;)V"⟩
abbrev cX0_giveBack : ByteArray := prog_2_method_3_code
def yX0_giveBack : MethodName := ⟨RX0, "giveBack", "(LTinKitchen$State;)V"⟩
def RX1 : String := "TinKitchen$Ingredient"
def TX1 : u_T := fun k => match k with
  | 0 => ("TinKitchen$Ingredient", "keptDays", "I", false)
  | 1 => ("TinKitchen$Ingredient", "canBeBought", "Z", false)
  | 2 => ("TinKitchen$Ingredient", "kinds", "I", false)
  | 3 => ("TinKitchen$Ingredient", "sizes", "[I", true)
  | 4 => ("TinKitchen$Ingredient", "prices", "[I", true)
  | 5 => ("TinKitchen$Ingredient", "replacedBy", "I", false)
  | 6 => ("TinKitchen$Ingredient", "rate", "I", false)
  | 7 => ("TinKitchen$Ingredient", "lots", "[I", true)
  | 8 => ("TinKitchen$Ingredient", "bought", "I", false)
  | 9 => ("TinKitchen$Ingredient", "used", "I", false)
  | 10 => ("TinKitchen$Ingredient", "thrownAway", "I", false)
  | _ => ("TinKitchen$Ingredient", "stocked", "I", false)
def tyX1 : Nat → FieldType := fun k => match k with
  | 0 => .int
  | 1 => .boolean
  | 2 => .int
  | 3 => .array .int
  | 4 => .array .int
  | 5 => .int
  | 6 => .int
  | 7 => .array .int
  | 8 => .int
  | 9 => .int
  | 10 => .int
  | _ => .int
abbrev wsX10 : List Cond := u_ws RX1 TX1 12
theorem nmX1 : ∀ a, a < 12 → ∀ b, b < 12 → a ≠ b → (TX1 a).2.1 ≠ (TX1 b).2.1 := by decide +kernel
theorem tyX1_ok : ∀ k, k < 12 → parseFieldDescriptor (TX1 k).2.2.1 = some (tyX1 k) := by decide +kernel
abbrev cX1_init : ByteArray := prog_3_method_1_code
def yX1_init : MethodName := ⟨RX1, "<init>", "()V"⟩
abbrev cX1_begin : ByteArray := prog_3_method_2_code
def yX1_begin : MethodName := ⟨RX1, "begin", "(I)V"⟩
abbrev cX1_copyFrom : ByteArray := prog_3_method_3_code
def yX1_copyFrom : MethodName := ⟨RX1, "copyFrom", "(LTinKitchen$Ingredient;)V"⟩
abbrev cX1_hasKind : ByteArray := prog_3_method_4_code
def yX1_hasKind : MethodName := ⟨RX1, "hasKind", "(I)Z"⟩
abbrev cX1_hasSize : ByteArray := prog_3_method_5_code
def yX1_hasSize : MethodName := ⟨RX1, "hasSize", "(I)Z"⟩
abbrev cX1_addKind : ByteArray := prog_3_method_6_code
def yX1_addKind : MethodName := ⟨RX1, "addKind", "(II)V"⟩
abbrev cX1_inPantry : ByteArray := prog_3_method_7_code
def yX1_inPantry : MethodName := ⟨RX1, "inPantry", "()I"⟩
abbrev cX1_lotsThere : ByteArray := prog_3_method_8_code
def yX1_lotsThere : MethodName := ⟨RX1, "lotsThere", "()I"⟩
abbrev cX1_firstSpoilDay : ByteArray := prog_3_method_9_code
def yX1_firstSpoilDay : MethodName := ⟨RX1, "firstSpoilDay", "(I)I"⟩
abbrev cX1_addLot : ByteArray := prog_3_method_10_code
def yX1_addLot : MethodName := ⟨RX1, "addLot", "(II)V"⟩
abbrev cX1_takeFromLots : ByteArray := prog_3_method_11_code
def yX1_takeFromLots : MethodName := ⟨RX1, "takeFromLots", "(II)V"⟩
abbrev cX1_throwAway : ByteArray := prog_3_method_12_code
def yX1_throwAway : MethodName := ⟨RX1, "throwAway", "(I)I"⟩
abbrev cX1_placeOf : ByteArray := prog_3_method_13_code
def yX1_placeOf : MethodName := ⟨RX1, "placeOf", "(I)I"⟩
def RX2 : String := "TinKitchen$Pad"
def TX2 : u_T := fun k => match k with
  | 0 => ("TinKitchen$Pad", "length", "I", false)
  | _ => ("TinKitchen$Pad", "text", "[C", true)
def tyX2 : Nat → FieldType := fun k => match k with
  | 0 => .int
  | _ => .array .char
abbrev wsX20 : List Cond := u_ws RX2 TX2 2
theorem nmX2 : ∀ a, a < 2 → ∀ b, b < 2 → a ≠ b → (TX2 a).2.1 ≠ (TX2 b).2.1 := by decide +kernel
theorem tyX2_ok : ∀ k, k < 2 → parseFieldDescriptor (TX2 k).2.2.1 = some (tyX2 k) := by decide +kernel
abbrev cX2_init : ByteArray := prog_4_method_1_code
def yX2_init : MethodName := ⟨RX2, "<init>", "()V"⟩
abbrev cX2_at : ByteArray := prog_4_method_2_code
def yX2_at : MethodName := ⟨RX2, "at", "(I)C"⟩
abbrev cX2_append : ByteArray := prog_4_method_3_code
def yX2_append : MethodName := ⟨RX2, "append", "(JI)V"⟩
def RX3 : String := "TinKitchen$Reader"
def TX3 : u_T := fun k => match k with
  | 0 => ("TinKitchen$Reader", "found", "LTinKitchen$Recipe;", true)
  | 1 => ("TinKitchen$Reader", "pad", "LTinKitchen$Pad;", true)
  | 2 => ("TinKitchen$Reader", "place", "I", false)
  | _ => ("TinKitchen$Reader", "isGood", "Z", false)
def tyX3 : Nat → FieldType := fun k => match k with
  | 0 => .object "TinKitchen$Recipe"
  | 1 => .object "TinKitchen$Pad"
  | 2 => .int
  | _ => .boolean
abbrev wsX30 : List Cond := u_ws RX3 TX3 4
theorem nmX3 : ∀ a, a < 4 → ∀ b, b < 4 → a ≠ b → (TX3 a).2.1 ≠ (TX3 b).2.1 := by decide +kernel
theorem tyX3_ok : ∀ k, k < 4 → parseFieldDescriptor (TX3 k).2.2.1 = some (tyX3 k) := by decide +kernel
abbrev cX3_init : ByteArray := prog_5_method_1_code
def yX3_init : MethodName := ⟨RX3, "<init>", "()V"⟩
abbrev cX3_read : ByteArray := prog_5_method_2_code
def yX3_read : MethodName := ⟨RX3, "read", "()I"⟩
abbrev cX3_readNumber : ByteArray := prog_5_method_3_code
def yX3_readNumber : MethodName := ⟨RX3, "readNumber", "(I)I"⟩
abbrev cX3_readDigit : ByteArray := prog_5_method_4_code
def yX3_readDigit : MethodName := ⟨RX3, "readDigit", "(II)I"⟩
abbrev cX3_digitHere : ByteArray := prog_5_method_5_code
def yX3_digitHere : MethodName := ⟨RX3, "digitHere", "()I"⟩
abbrev cX3_nameHere : ByteArray := prog_5_method_6_code
def yX3_nameHere : MethodName := ⟨RX3, "nameHere", "()I"⟩
abbrev cX3_readAmount : ByteArray := prog_5_method_7_code
def yX3_readAmount : MethodName := ⟨RX3, "readAmount", "(I)V"⟩
abbrev cX3_readStep : ByteArray := prog_5_method_8_code
def yX3_readStep : MethodName := ⟨RX3, "readStep", "(I)V"⟩
abbrev cX3_readSign : ByteArray := prog_5_method_9_code
def yX3_readSign : MethodName := ⟨RX3, "readSign", "(C)V"⟩
abbrev cX3_readStepBefore : ByteArray := prog_5_method_10_code
def yX3_readStepBefore : MethodName := ⟨RX3, "readStepBefore", "(II)I"⟩
def RX4 : String := "TinKitchen$Recipe"
def TX4 : u_T := fun k => match k with
  | 0 => ("TinKitchen$Recipe", "basePortions", "I", false)
  | 1 => ("TinKitchen$Recipe", "portions", "I", false)
  | 2 => ("TinKitchen$Recipe", "stepCount", "I", false)
  | 3 => ("TinKitchen$Recipe", "amounts", "[I", true)
  | _ => ("TinKitchen$Recipe", "steps", "[LTinKitchen$Step;", true)
def tyX4 : Nat → FieldType := fun k => match k with
  | 0 => .int
  | 1 => .int
  | 2 => .int
  | 3 => .array .int
  | _ => .array (.object "TinKitchen$Step")
abbrev wsX40 : List Cond := u_ws RX4 TX4 5
theorem nmX4 : ∀ a, a < 5 → ∀ b, b < 5 → a ≠ b → (TX4 a).2.1 ≠ (TX4 b).2.1 := by decide +kernel
theorem tyX4_ok : ∀ k, k < 5 → parseFieldDescriptor (TX4 k).2.2.1 = some (tyX4 k) := by decide +kernel
abbrev cX4_init : ByteArray := prog_6_method_1_code
def yX4_init : MethodName := ⟨RX4, "<init>", "()V"⟩
abbrev cX4_clear : ByteArray := prog_6_method_2_code
def yX4_clear : MethodName := ⟨RX4, "clear", "()V"⟩
abbrev cX4_copyFrom : ByteArray := prog_6_method_3_code
def yX4_copyFrom : MethodName := ⟨RX4, "copyFrom", "(LTinKitchen$Recipe;)V"⟩
abbrev cX4_hasStep : ByteArray := prog_6_method_4_code
def yX4_hasStep : MethodName := ⟨RX4, "hasStep", "(I)Z"⟩
abbrev cX4_namesFrom : ByteArray := prog_6_method_5_code
def yX4_namesFrom : MethodName := ⟨RX4, "namesFrom", "(I)Z"⟩
abbrev cX4_scaled : ByteArray := prog_6_method_6_code
def yX4_scaled : MethodName := ⟨RX4, "scaled", "(I)I"⟩
abbrev cX4_lasts : ByteArray := prog_6_method_7_code
def yX4_lasts : MethodName := ⟨RX4, "lasts", "(I)I"⟩
def RX5 : String := "TinKitchen$Schedule"
def TX5 : u_T := fun k => match k with
  | 0 => ("TinKitchen$Schedule", "tails", "[I", true)
  | 1 => ("TinKitchen$Schedule", "begins", "[I", true)
  | 2 => ("TinKitchen$Schedule", "work", "I", false)
  | 3 => ("TinKitchen$Schedule", "durations", "[I", true)
  | 4 => ("TinKitchen$Schedule", "needsHands", "[I", true)
  | 5 => ("TinKitchen$Schedule", "before", "[I", true)
  | 6 => ("TinKitchen$Schedule", "order", "[I", true)
  | 7 => ("TinKitchen$Schedule", "steps", "I", false)
  | _ => ("TinKitchen$Schedule", "greatestTail", "I", false)
def tyX5 : Nat → FieldType := fun k => match k with
  | 0 => .array .int
  | 1 => .array .int
  | 2 => .int
  | 3 => .array .int
  | 4 => .array .int
  | 5 => .array .int
  | 6 => .array .int
  | 7 => .int
  | _ => .int
abbrev wsX50 : List Cond := u_ws RX5 TX5 9
theorem nmX5 : ∀ a, a < 9 → ∀ b, b < 9 → a ≠ b → (TX5 a).2.1 ≠ (TX5 b).2.1 := by decide +kernel
theorem tyX5_ok : ∀ k, k < 9 → parseFieldDescriptor (TX5 k).2.2.1 = some (tyX5 k) := by decide +kernel
abbrev cX5_init : ByteArray := prog_7_method_1_code
def yX5_init : MethodName := ⟨RX5, "<init>", "()V"⟩
abbrev cX5_gather : ByteArray := prog_7_method_2_code
def yX5_gather : MethodName := ⟨RX5, "gather", "(LTinKitchen$State;)V"⟩
abbrev cX5_gatherSteps : ByteArray := prog_7_method_3_code
def yX5_gatherSteps : MethodName := ⟨RX5, "gatherSteps", "(LTinKitchen$Recipe;I)V"⟩
abbrev cX5_longestBehind : ByteArray := prog_7_method_4_code
def yX5_longestBehind : MethodName := ⟨RX5, "longestBehind", "(III)I"⟩
abbrev cX5_insert : ByteArray := prog_7_method_5_code
def yX5_insert : MethodName := ⟨RX5, "insert", "(I)V"⟩
abbrev cX5_run : ByteArray := prog_7_method_6_code
def yX5_run : MethodName := ⟨RX5, "run", "(I)V"⟩
abbrev cX5_beginAt : ByteArray := prog_7_method_7_code
def yX5_beginAt : MethodName := ⟨RX5, "beginAt", "(II)V"⟩
abbrev cX5_busyHands : ByteArray := prog_7_method_8_code
def yX5_busyHands : MethodName := ⟨RX5, "busyHands", "(I)I"⟩
abbrev cX5_isReady : ByteArray := prog_7_method_9_code
def yX5_isReady : MethodName := ⟨RX5, "isReady", "(II)Z"⟩
abbrev cX5_hasEnded : ByteArray := prog_7_method_10_code
def yX5_hasEnded : MethodName := ⟨RX5, "hasEnded", "(II)Z"⟩
abbrev cX5_nextEnd : ByteArray := prog_7_method_11_code
def yX5_nextEnd : MethodName := ⟨RX5, "nextEnd", "(I)I"⟩
abbrev cX5_end : ByteArray := prog_7_method_12_code
def yX5_end : MethodName := ⟨RX5, "end", "()I"⟩
abbrev cX5_bound : ByteArray := prog_7_method_13_code
def yX5_bound : MethodName := ⟨RX5, "bound", "(I)I"⟩
def RX6 : String := "TinKitchen$Shopping"
def TX6 : u_T := fun k => match k with
  | 0 => ("TinKitchen$Shopping", "needed", "[I", true)
  | 1 => ("TinKitchen$Shopping", "replacing", "[I", true)
  | 2 => ("TinKitchen$Shopping", "fromPantry", "[I", true)
  | 3 => ("TinKitchen$Shopping", "bought", "[I", true)
  | 4 => ("TinKitchen$Shopping", "leftOver", "[I", true)
  | 5 => ("TinKitchen$Shopping", "replaced", "[I", true)
  | 6 => ("TinKitchen$Shopping", "missing", "[I", true)
  | 7 => ("TinKitchen$Shopping", "price", "[I", true)
  | 8 => ("TinKitchen$Shopping", "tins", "[[I", true)
  | _ => ("TinKitchen$Shopping", "search", "LTinKitchen$TinSearch;", true)
def tyX6 : Nat → FieldType := fun k => match k with
  | 0 => .array .int
  | 1 => .array .int
  | 2 => .array .int
  | 3 => .array .int
  | 4 => .array .int
  | 5 => .array .int
  | 6 => .array .int
  | 7 => .array .int
  | 8 => .array (.array .int)
  | _ => .object "TinKitchen$TinSearch"
abbrev wsX60 : List Cond := u_ws RX6 TX6 10
theorem nmX6 : ∀ a, a < 10 → ∀ b, b < 10 → a ≠ b → (TX6 a).2.1 ≠ (TX6 b).2.1 := by decide +kernel
theorem tyX6_ok : ∀ k, k < 10 → parseFieldDescriptor (TX6 k).2.2.1 = some (tyX6 k) := by decide +kernel
abbrev cX6_init : ByteArray := prog_8_method_1_code
def yX6_init : MethodName := ⟨RX6, "<init>", "()V"⟩
abbrev cX6_plan : ByteArray := prog_8_method_2_code
def yX6_plan : MethodName := ⟨RX6, "plan", "(LTinKitchen$State;)V"⟩
abbrev cX6_clear : ByteArray := prog_8_method_3_code
def yX6_clear : MethodName := ⟨RX6, "clear", "(I)V"⟩
abbrev cX6_planOne : ByteArray := prog_8_method_4_code
def yX6_planOne : MethodName := ⟨RX6, "planOne", "(LTinKitchen$State;I)V"⟩
abbrev cX6_buy : ByteArray := prog_8_method_5_code
def yX6_buy : MethodName := ⟨RX6, "buy", "(LTinKitchen$Ingredient;II)V"⟩
abbrev cX6_replace : ByteArray := prog_8_method_6_code
def yX6_replace : MethodName := ⟨RX6, "replace", "(LTinKitchen$State;II)Z"⟩
abbrev cX6_carryOut : ByteArray := prog_8_method_7_code
def yX6_carryOut : MethodName := ⟨RX6, "carryOut", "(LTinKitchen$State;)V"⟩
abbrev cX6_allPrices : ByteArray := prog_8_method_8_code
def yX6_allPrices : MethodName := ⟨RX6, "allPrices", "()I"⟩
abbrev cX6_allLeftOver : ByteArray := prog_8_method_9_code
def yX6_allLeftOver : MethodName := ⟨RX6, "allLeftOver", "()I"⟩
abbrev cX6_missingSet : ByteArray := prog_8_method_10_code
def yX6_missingSet : MethodName := ⟨RX6, "missingSet", "()I"⟩
abbrev cX6_sum : ByteArray := prog_8_method_11_code
def yX6_sum : MethodName := ⟨RX6, "sum", "([I)I"⟩
def RX7 : String := "TinKitchen$State"
def TX7 : u_T := fun k => match k with
  | 0 => ("TinKitchen$State", "day", "I", false)
  | 1 => ("TinKitchen$State", "allHands", "I", false)
  | 2 => ("TinKitchen$State", "spent", "I", false)
  | 3 => ("TinKitchen$State", "cooked", "I", false)
  | 4 => ("TinKitchen$State", "ingredients", "I", false)
  | 5 => ("TinKitchen$State", "recipes", "I", false)
  | 6 => ("TinKitchen$State", "larder", "[LTinKitchen$Ingredient;", true)
  | _ => ("TinKitchen$State", "book", "[LTinKitchen$Recipe;", true)
def tyX7 : Nat → FieldType := fun k => match k with
  | 0 => .int
  | 1 => .int
  | 2 => .int
  | 3 => .int
  | 4 => .int
  | 5 => .int
  | 6 => .array (.object "TinKitchen$Ingredient")
  | _ => .array (.object "TinKitchen$Recipe")
abbrev wsX70 : List Cond := u_ws RX7 TX7 8
theorem nmX7 : ∀ a, a < 8 → ∀ b, b < 8 → a ≠ b → (TX7 a).2.1 ≠ (TX7 b).2.1 := by decide +kernel
theorem tyX7_ok : ∀ k, k < 8 → parseFieldDescriptor (TX7 k).2.2.1 = some (tyX7 k) := by decide +kernel
abbrev cX7_init : ByteArray := prog_9_method_1_code
def yX7_init : MethodName := ⟨RX7, "<init>", "()V"⟩
abbrev cX7_copyFrom : ByteArray := prog_9_method_2_code
def yX7_copyFrom : MethodName := ⟨RX7, "copyFrom", "(LTinKitchen$State;)V"⟩
abbrev cX7_hasIngredient : ByteArray := prog_9_method_3_code
def yX7_hasIngredient : MethodName := ⟨RX7, "hasIngredient", "(I)Z"⟩
abbrev cX7_hasRecipe : ByteArray := prog_9_method_4_code
def yX7_hasRecipe : MethodName := ⟨RX7, "hasRecipe", "(I)Z"⟩
abbrev cX7_hasPortions : ByteArray := prog_9_method_5_code
def yX7_hasPortions : MethodName := ⟨RX7, "hasPortions", "()Z"⟩
abbrev cX7_neededByRecipes : ByteArray := prog_9_method_6_code
def yX7_neededByRecipes : MethodName := ⟨RX7, "neededByRecipes", "(I)I"⟩
abbrev cX7_emptyMenu : ByteArray := prog_9_method_7_code
def yX7_emptyMenu : MethodName := ⟨RX7, "emptyMenu", "()V"⟩
abbrev cX7_letPass : ByteArray := prog_9_method_8_code
def yX7_letPass : MethodName := ⟨RX7, "letPass", "(I)I"⟩
def RX8 : String := "TinKitchen$Step"
def TX8 : u_T := fun k => match k with
  | 0 => ("TinKitchen$Step", "duration", "I", false)
  | 1 => ("TinKitchen$Step", "needsHands", "I", false)
  | 2 => ("TinKitchen$Step", "before", "I", false)
  | _ => ("TinKitchen$Step", "grows", "Z", false)
def tyX8 : Nat → FieldType := fun k => match k with
  | 0 => .int
  | 1 => .int
  | 2 => .int
  | _ => .boolean
abbrev wsX80 : List Cond := u_ws RX8 TX8 4
theorem nmX8 : ∀ a, a < 4 → ∀ b, b < 4 → a ≠ b → (TX8 a).2.1 ≠ (TX8 b).2.1 := by decide +kernel
theorem tyX8_ok : ∀ k, k < 4 → parseFieldDescriptor (TX8 k).2.2.1 = some (tyX8 k) := by decide +kernel
abbrev cX8_init : ByteArray := prog_10_method_1_code
def yX8_init : MethodName := ⟨RX8, "<init>", "()V"⟩
abbrev cX8_copyFrom : ByteArray := prog_10_method_2_code
def yX8_copyFrom : MethodName := ⟨RX8, "copyFrom", "(LTinKitchen$Step;)V"⟩
def RX9 : String := "TinKitchen$TinSearch"
def TX9 : u_T := fun k => match k with
  | 0 => ("TinKitchen$TinSearch", "bestPrice", "I", false)
  | 1 => ("TinKitchen$TinSearch", "bestWeight", "I", false)
  | 2 => ("TinKitchen$TinSearch", "best", "[I", true)
  | 3 => ("TinKitchen$TinSearch", "bestTins", "I", false)
  | 4 => ("TinKitchen$TinSearch", "isFound", "Z", false)
  | 5 => ("TinKitchen$TinSearch", "tried", "[I", true)
  | 6 => ("TinKitchen$TinSearch", "ranked", "[I", true)
  | 7 => ("TinKitchen$TinSearch", "size", "[I", true)
  | 8 => ("TinKitchen$TinSearch", "price", "[I", true)
  | _ => ("TinKitchen$TinSearch", "most", "[I", true)
def tyX9 : Nat → FieldType := fun k => match k with
  | 0 => .int
  | 1 => .int
  | 2 => .array .int
  | 3 => .int
  | 4 => .boolean
  | 5 => .array .int
  | 6 => .array .int
  | 7 => .array .int
  | 8 => .array .int
  | _ => .array .int
abbrev wsX90 : List Cond := u_ws RX9 TX9 10
theorem nmX9 : ∀ a, a < 10 → ∀ b, b < 10 → a ≠ b → (TX9 a).2.1 ≠ (TX9 b).2.1 := by decide +kernel
theorem tyX9_ok : ∀ k, k < 10 → parseFieldDescriptor (TX9 k).2.2.1 = some (tyX9 k) := by decide +kernel
abbrev cX9_init : ByteArray := prog_11_method_1_code
def yX9_init : MethodName := ⟨RX9, "<init>", "()V"⟩
abbrev cX9_rank : ByteArray := prog_11_method_2_code
def yX9_rank : MethodName := ⟨RX9, "rank", "(LTinKitchen$Ingredient;)V"⟩
abbrev cX9_find : ByteArray := prog_11_method_3_code
def yX9_find : MethodName := ⟨RX9, "find", "(I)V"⟩
abbrev cX9_isAhead : ByteArray := prog_11_method_4_code
def yX9_isAhead : MethodName := ⟨RX9, "isAhead", "(LTinKitchen$Ingredient;II)Z"⟩
abbrev cX9_mostOf : ByteArray := prog_11_method_5_code
def yX9_mostOf : MethodName := ⟨RX9, "mostOf", "(I)I"⟩
abbrev cX9_commonDivisor : ByteArray := prog_11_method_6_code
def yX9_commonDivisor : MethodName := ⟨RX9, "commonDivisor", "(II)I"⟩
abbrev cX9_isTooDear : ByteArray := prog_11_method_7_code
def yX9_isTooDear : MethodName := ⟨RX9, "isTooDear", "(III)Z"⟩
abbrev cX9_offer : ByteArray := prog_11_method_8_code
def yX9_offer : MethodName := ⟨RX9, "offer", "(III)V"⟩
abbrev cX9_putTried : ByteArray := prog_11_method_9_code
def yX9_putTried : MethodName := ⟨RX9, "putTried", "(II)V"⟩
abbrev cX9_isBetter : ByteArray := prog_11_method_10_code
def yX9_isBetter : MethodName := ⟨RX9, "isBetter", "(III)Z"⟩
def RX10 : String := "TinKitchen"
def TX10 : u_T := fun k => match k with
  | 0 => ("TinKitchen", "now", "LTinKitchen$State;", true)
  | 1 => ("TinKitchen", "history", "LTinKitchen$History;", true)
  | 2 => ("TinKitchen", "slots", "[LTinKitchen$State;", true)
  | 3 => ("TinKitchen", "isSaved", "[Z", true)
  | 4 => ("TinKitchen", "reader", "LTinKitchen$Reader;", true)
  | 5 => ("TinKitchen", "pad", "LTinKitchen$Pad;", true)
  | 6 => ("TinKitchen", "shopping", "LTinKitchen$Shopping;", true)
  | _ => ("TinKitchen", "schedule", "LTinKitchen$Schedule;", true)
def tyX10 : Nat → FieldType := fun k => match k with
  | 0 => .object "TinKitchen$State"
  | 1 => .object "TinKitchen$History"
  | 2 => .array (.object "TinKitchen$State")
  | 3 => .array .boolean
  | 4 => .object "TinKitchen$Reader"
  | 5 => .object "TinKitchen$Pad"
  | 6 => .object "TinKitchen$Shopping"
  | _ => .object "TinKitchen$Schedule"
abbrev wsX100 : List Cond := u_ws RX10 TX10 8
theorem nmX10 : ∀ a, a < 8 → ∀ b, b < 8 → a ≠ b → (TX10 a).2.1 ≠ (TX10 b).2.1 := by decide +kernel
theorem tyX10_ok : ∀ k, k < 8 → parseFieldDescriptor (TX10 k).2.2.1 = some (tyX10 k) := by decide +kernel
abbrev cX10_init : ByteArray := prog_1_method_1_code
def yX10_init : MethodName := ⟨RX10, "<init>", "()V"⟩
abbrev cX10_ingredient : ByteArray := prog_1_method_2_code
def yX10_ingredient : MethodName := ⟨RX10, "ingredient", "(I)I"⟩
abbrev cX10_tin : ByteArray := prog_1_method_3_code
def yX10_tin : MethodName := ⟨RX10, "tin", "(III)I"⟩
abbrev cX10_buyable : ByteArray := prog_1_method_4_code
def yX10_buyable : MethodName := ⟨RX10, "buyable", "(II)I"⟩
abbrev cX10_substitute : ByteArray := prog_1_method_5_code
def yX10_substitute : MethodName := ⟨RX10, "substitute", "(III)I"⟩
abbrev cX10_stock : ByteArray := prog_1_method_6_code
def yX10_stock : MethodName := ⟨RX10, "stock", "(II)I"⟩
abbrev cX10_recipe : ByteArray := prog_1_method_7_code
def yX10_recipe : MethodName := ⟨RX10, "recipe", "()I"⟩
abbrev cX10_amount : ByteArray := prog_1_method_8_code
def yX10_amount : MethodName := ⟨RX10, "amount", "(III)I"⟩
abbrev cX10_menu : ByteArray := prog_1_method_9_code
def yX10_menu : MethodName := ⟨RX10, "menu", "(II)I"⟩
abbrev cX10_hands : ByteArray := prog_1_method_10_code
def yX10_hands : MethodName := ⟨RX10, "hands", "(I)I"⟩
abbrev cX10_cook : ByteArray := prog_1_method_11_code
def yX10_cook : MethodName := ⟨RX10, "cook", "()I"⟩
abbrev cX10_pass : ByteArray := prog_1_method_12_code
def yX10_pass : MethodName := ⟨RX10, "pass", "(I)I"⟩
abbrev cX10_about : ByteArray := prog_1_method_13_code
def yX10_about : MethodName := ⟨RX10, "about", "(II)I"⟩
abbrev cX10_ofTin : ByteArray := prog_1_method_14_code
def yX10_ofTin : MethodName := ⟨RX10, "ofTin", "(III)I"⟩
abbrev cX10_needs : ByteArray := prog_1_method_15_code
def yX10_needs : MethodName := ⟨RX10, "needs", "(II)I"⟩
abbrev cX10_step : ByteArray := prog_1_method_16_code
def yX10_step : MethodName := ⟨RX10, "step", "(III)I"⟩
abbrev cX10_ofRecipe : ByteArray := prog_1_method_17_code
def yX10_ofRecipe : MethodName := ⟨RX10, "ofRecipe", "(II)I"⟩
abbrev cX10_count : ByteArray := prog_1_method_18_code
def yX10_count : MethodName := ⟨RX10, "count", "(I)I"⟩
abbrev cX10_bestPortions : ByteArray := prog_1_method_19_code
def yX10_bestPortions : MethodName := ⟨RX10, "bestPortions", "(III)I"⟩
abbrev cX10_fewestHands : ByteArray := prog_1_method_20_code
def yX10_fewestHands : MethodName := ⟨RX10, "fewestHands", "(I)I"⟩
abbrev cX10_ifBuyable : ByteArray := prog_1_method_21_code
def yX10_ifBuyable : MethodName := ⟨RX10, "ifBuyable", "(II)I"⟩
abbrev cX10_put : ByteArray := prog_1_method_22_code
def yX10_put : MethodName := ⟨RX10, "put", "(J)I"⟩
abbrev cX10_fault : ByteArray := prog_1_method_24_code
def yX10_fault : MethodName := ⟨RX10, "fault", "()I"⟩
abbrev cX10_undo : ByteArray := prog_1_method_25_code
def yX10_undo : MethodName := ⟨RX10, "undo", "()I"⟩
abbrev cX10_save : ByteArray := prog_1_method_26_code
def yX10_save : MethodName := ⟨RX10, "save", "(I)I"⟩
abbrev cX10_restore : ByteArray := prog_1_method_27_code
def yX10_restore : MethodName := ⟨RX10, "restore", "(I)I"⟩
abbrev cX10_canBeCooked : ByteArray := prog_1_method_28_code
def yX10_canBeCooked : MethodName := ⟨RX10, "canBeCooked", "()Z"⟩
abbrev cX10_tailInMenu : ByteArray := prog_1_method_29_code
def yX10_tailInMenu : MethodName := ⟨RX10, "tailInMenu", "(II)I"⟩
abbrev cX10_beginInMenu : ByteArray := prog_1_method_30_code
def yX10_beginInMenu : MethodName := ⟨RX10, "beginInMenu", "(II)I"⟩
abbrev cX10_ofShopping : ByteArray := prog_1_method_31_code
def yX10_ofShopping : MethodName := ⟨RX10, "ofShopping", "(I)I"⟩
abbrev cX10_ofSchedule : ByteArray := prog_1_method_32_code
def yX10_ofSchedule : MethodName := ⟨RX10, "ofSchedule", "(I)I"⟩
abbrev cX10_lengthOf : ByteArray := prog_1_method_33_code
def yX10_lengthOf : MethodName := ⟨RX10, "lengthOf", "(J)I"⟩
abbrev cX10_isWithin : ByteArray := prog_1_method_34_code
def yX10_isWithin : MethodName := ⟨RX10, "isWithin", "(III)Z"⟩
abbrev cX10_asNumber : ByteArray := prog_1_method_35_code
def yX10_asNumber : MethodName := ⟨RX10, "asNumber", "(Z)I"⟩
abbrev cX10_roundedUp : ByteArray := prog_1_method_36_code
def yX10_roundedUp : MethodName := ⟨RX10, "roundedUp", "(II)I"⟩
def RX11 : String := "TinKitchenModel"
def TX11 : u_T := fun k => match k with
  | _ => ("", "", "", false)
def tyX11 : Nat → FieldType := fun k => match k with
  | _ => .int
abbrev wsX110 : List Cond := u_ws RX11 TX11 0
theorem nmX11 : ∀ a, a < 0 → ∀ b, b < 0 → a ≠ b → (TX11 a).2.1 ≠ (TX11 b).2.1 := by decide +kernel
theorem tyX11_ok : ∀ k, k < 0 → parseFieldDescriptor (TX11 k).2.2.1 = some (tyX11 k) := by decide +kernel
def RJ9 : String := "java/lang/Math"
def TJ9 : u_T := fun k => match k with
  | _ => ("", "", "", false)
def tyJ9 : Nat → FieldType := fun k => match k with
  | _ => .int
abbrev wsJ90 : List Cond := u_ws RJ9 TJ9 0
theorem nmJ9 : ∀ a, a < 0 → ∀ b, b < 0 → a ≠ b → (TJ9 a).2.1 ≠ (TJ9 b).2.1 := by decide +kernel
theorem tyJ9_ok : ∀ k, k < 0 → parseFieldDescriptor (TJ9 k).2.2.1 = some (tyJ9 k) := by decide +kernel
abbrev cJ9_floorMod_7cf53 : ByteArray := prog_14_method_50_code
def yJ9_floorMod_7cf53 : MethodName := ⟨RJ9, "floorMod", "(II)I"⟩
abbrev cJ9_max_7cf53 : ByteArray := prog_14_method_65_code
def yJ9_max_7cf53 : MethodName := ⟨RJ9, "max", "(II)I"⟩
abbrev cJ9_min_7cf53 : ByteArray := prog_14_method_69_code
def yJ9_min_7cf53 : MethodName := ⟨RJ9, "min", "(II)I"⟩
def RJ10 : String := "java/lang/System"
def TJ10 : u_T := fun k => match k with
  | _ => ("", "", "", false)
def tyJ10 : Nat → FieldType := fun k => match k with
  | _ => .int
abbrev wsJ100 : List Cond := u_ws RJ10 TJ10 0
theorem nmJ10 : ∀ a, a < 0 → ∀ b, b < 0 → a ≠ b → (TJ10 a).2.1 ≠ (TJ10 b).2.1 := by decide +kernel
theorem tyJ10_ok : ∀ k, k < 0 → parseFieldDescriptor (TJ10 k).2.2.1 = some (tyJ10 k) := by decide +kernel
def RL : String := "TinKitchenLaw"
abbrev cL_cell : ByteArray := method_2_code
def yL_cell : MethodName := ⟨RL, "cell", "([II)I"⟩
abbrev cL_up : ByteArray := method_3_code
def yL_up : MethodName := ⟨RL, "up", "(II)I"⟩
abbrev cL_law : ByteArray := code
def yL_law : MethodName := ⟨RL, "law", "([I)Z"⟩
abbrev cL_number : ByteArray := method_5_code
def yL_number : MethodName := ⟨RL, "number", "(LTinKitchen;I)V"⟩
abbrev cL_adds : ByteArray := method_6_code
def yL_adds : MethodName := ⟨RL, "adds", "(LTinKitchen;II)Z"⟩
abbrev cL_act : ByteArray := method_7_code
def yL_act : MethodName := ⟨RL, "act", "(LTinKitchen;III)Z"⟩
abbrev cL_cooks : ByteArray := method_8_code
def yL_cooks : MethodName := ⟨RL, "cooks", "(LTinKitchen;)Z"⟩
abbrev cL_ceil : ByteArray := method_9_code
def yL_ceil : MethodName := ⟨RL, "ceil", "(II)I"⟩
abbrev cL_needs : ByteArray := method_10_code
def yL_needs : MethodName := ⟨RL, "needs", "(LTinKitchen;)Z"⟩
abbrev cL_tins : ByteArray := method_11_code
def yL_tins : MethodName := ⟨RL, "tins", "(LTinKitchen;I)Z"⟩
abbrev cL_accounts : ByteArray := method_12_code
def yL_accounts : MethodName := ⟨RL, "accounts", "(LTinKitchen;)Z"⟩
abbrev cL_times : ByteArray := method_13_code
def yL_times : MethodName := ⟨RL, "times", "(LTinKitchen;I)Z"⟩
abbrev cL_schedule : ByteArray := method_14_code
def yL_schedule : MethodName := ⟨RL, "schedule", "(LTinKitchen;I)Z"⟩
abbrev cL_used : ByteArray := method_15_code
def yL_used : MethodName := ⟨RL, "used", "(LTinKitchen;I)I"⟩
abbrev cL_best : ByteArray := method_16_code
def yL_best : MethodName := ⟨RL, "best", "(LTinKitchen;I)Z"⟩
abbrev cL_back : ByteArray := method_17_code
def yL_back : MethodName := ⟨RL, "back", "(LTinKitchen;I)Z"⟩
abbrev cL_refused : ByteArray := method_18_code
def yL_refused : MethodName := ⟨RL, "refused", "(LTinKitchen;I)Z"⟩
abbrev vwCl : List vw_C := [(RX0, TX0, 3), (RX1, TX1, 12), (RX2, TX2, 2), (RX3, TX3, 4), (RX4, TX4, 5), (RX5, TX5, 9), (RX6, TX6, 10), (RX7, TX7, 8), (RX8, TX8, 4), (RX9, TX9, 10), (RX10, TX10, 8)]
