section
/-! ===== BEGIN words of one list among another's, by their places ===== -/
theorem goodIn_r {big : List Cond} (ws : List Cond) (ps : List Nat) (hp : ws = ps.filterMap (fun i => big[i]?)) (h : ws.all goodWord = true) : GoodIn big ws := by
  intro w hw
  have h1 := List.all_eq_true.mp h w hw
  rw [hp] at hw
  obtain ⟨i, -, hi⟩ := List.mem_filterMap.mp hw
  have hm : w ∈ big := by first | exact List.mem_of_getElem? hi | exact List.getElem?_mem hi
  exact ⟨hm, good_of_word h1⟩
theorem goodIn_app {big a b : List Cond} (ha : GoodIn big a) (hb : GoodIn big b) : GoodIn big (a ++ b) := fun w h => (List.mem_append.mp h).elim (ha w) (hb w)
theorem goodIn_ca {big a b : List Cond} {c : Cond} (ha : GoodIn big (c :: a)) (hb : GoodIn big b) : GoodIn big (c :: (a ++ b)) := fun w h => (List.mem_cons.mp h).elim (fun e => ha w (List.mem_cons.mpr (Or.inl e))) (fun h => (List.mem_append.mp h).elim (fun h => ha w (List.mem_cons.mpr (Or.inr h))) (hb w))
theorem goodIn_sub {big ws : List Cond} (hm : ∀ w ∈ ws, w ∈ big) (h : ws.all goodWord = true) : GoodIn big ws := fun w hw => ⟨hm w hw, good_of_word (List.all_eq_true.mp h w hw)⟩
/-! ===== END ===== -/

/-! ===== BEGIN printed: names, fields, word lists, decode rows ===== -/
def RX0 : String := "ChainLays$Anchor"
def TX0 : u_T := fun k => match k with
  | 0 => ("ChainLays$Anchor", "column", "I", false)
  | 1 => ("ChainLays$Anchor", "row", "I", false)
  | _ => ("ChainLays$Anchor", "links", "I", false)
def tyX0 : Nat → FieldType := fun k => match k with
  | 0 => .int
  | 1 => .int
  | _ => .int
abbrev wsX00 : List Cond := u_ws RX0 TX0 3
theorem nmX0 : ∀ a, a < 3 → ∀ b, b < 3 → a ≠ b → (TX0 a).2.1 ≠ (TX0 b).2.1 := by decide +kernel
theorem tyX0_ok : ∀ k, k < 3 → parseFieldDescriptor (TX0 k).2.2.1 = some (tyX0 k) := by decide +kernel
abbrev cX0_init : ByteArray := prog_2_method_1_code
def yX0_init : MethodName := ⟨RX0, "<init>", "()V"⟩
abbrev cX0_put : ByteArray := prog_2_method_2_code
def yX0_put : MethodName := ⟨RX0, "put", "(III)V"⟩
abbrev cX0_save : ByteArray := prog_2_method_3_code
def yX0_save : MethodName := ⟨RX0, "save", "([II)V"⟩
abbrev cX0_restore : ByteArray := prog_2_method_4_code
def yX0_restore : MethodName := ⟨RX0, "restore", "([II)V"⟩
def RX1 : String := "ChainLays$Bay"
def TX1 : u_T := fun k => match k with
  | 0 => ("ChainLays$Bay", "depths", "[I", true)
  | 1 => ("ChainLays$Bay", "ships", "[LChainLays$Ship;", true)
  | 2 => ("ChainLays$Bay", "chain", "LChainLays$Chain;", true)
  | 3 => ("ChainLays$Bay", "columns", "I", false)
  | 4 => ("ChainLays$Bay", "shipCount", "I", false)
  | _ => ("ChainLays$Bay", "hour", "I", false)
def tyX1 : Nat → FieldType := fun k => match k with
  | 0 => .array .int
  | 1 => .array (.object "ChainLays$Ship")
  | 2 => .object "ChainLays$Chain"
  | 3 => .int
  | 4 => .int
  | _ => .int
abbrev wsX10 : List Cond := u_ws RX1 TX1 6
theorem nmX1 : ∀ a, a < 6 → ∀ b, b < 6 → a ≠ b → (TX1 a).2.1 ≠ (TX1 b).2.1 := by decide +kernel
theorem tyX1_ok : ∀ k, k < 6 → parseFieldDescriptor (TX1 k).2.2.1 = some (tyX1 k) := by decide +kernel
abbrev cX1_init : ByteArray := prog_3_method_1_code
def yX1_init : MethodName := ⟨RX1, "<init>", "()V"⟩
abbrev cX1_layOut : ByteArray := prog_3_method_2_code
def yX1_layOut : MethodName := ⟨RX1, "layOut", "(LChainLays$Plan;)V"⟩
abbrev cX1_shipAt : ByteArray := prog_3_method_3_code
def yX1_shipAt : MethodName := ⟨RX1, "shipAt", "(I)LChainLays$Ship;"⟩
abbrev cX1_isCell : ByteArray := prog_3_method_4_code
def yX1_isCell : MethodName := ⟨RX1, "isCell", "(II)Z"⟩
abbrev cX1_depthAt : ByteArray := prog_3_method_5_code
def yX1_depthAt : MethodName := ⟨RX1, "depthAt", "(I)I"⟩
abbrev cX1_chainOf : ByteArray := prog_3_method_6_code
def yX1_chainOf : MethodName := ⟨RX1, "chainOf", "(LChainLays$Ship;LChainLays$Anchor;II)LChainLays$Chain;"⟩
abbrev cX1_holdsBy : ByteArray := prog_3_method_7_code
def yX1_holdsBy : MethodName := ⟨RX1, "holdsBy", "(LChainLays$Ship;II)Z"⟩
abbrev cX1_firstHolds : ByteArray := prog_3_method_8_code
def yX1_firstHolds : MethodName := ⟨RX1, "firstHolds", "(LChainLays$Ship;II)Z"⟩
abbrev cX1_secondHolds : ByteArray := prog_3_method_9_code
def yX1_secondHolds : MethodName := ⟨RX1, "secondHolds", "(LChainLays$Ship;I)Z"⟩
abbrev cX1_measureSwing : ByteArray := prog_3_method_10_code
def yX1_measureSwing : MethodName := ⟨RX1, "measureSwing", "(LChainLays$Ship;II)V"⟩
abbrev cX1_measureSwings : ByteArray := prog_3_method_11_code
def yX1_measureSwings : MethodName := ⟨RX1, "measureSwings", "(I)V"⟩
abbrev cX1_isClearOfAll : ByteArray := prog_3_method_12_code
def yX1_isClearOfAll : MethodName := ⟨RX1, "isClearOfAll", "(LChainLays$Ship;II)Z"⟩
abbrev cX1_passHour : ByteArray := prog_3_method_13_code
def yX1_passHour : MethodName := ⟨RX1, "passHour", "(II)I"⟩
abbrev cX1_drag : ByteArray := prog_3_method_14_code
def yX1_drag : MethodName := ⟨RX1, "drag", "(LChainLays$Ship;I)V"⟩
abbrev cX1_countHolding : ByteArray := prog_3_method_15_code
def yX1_countHolding : MethodName := ⟨RX1, "countHolding", "(I)I"⟩
abbrev cX1_countMeeting : ByteArray := prog_3_method_16_code
def yX1_countMeeting : MethodName := ⟨RX1, "countMeeting", "()I"⟩
abbrev cX1_countAshore : ByteArray := prog_3_method_17_code
def yX1_countAshore : MethodName := ⟨RX1, "countAshore", "()I"⟩
abbrev cX1_countMoored : ByteArray := prog_3_method_18_code
def yX1_countMoored : MethodName := ⟨RX1, "countMoored", "()I"⟩
abbrev cX1_countLinksOut : ByteArray := prog_3_method_19_code
def yX1_countLinksOut : MethodName := ⟨RX1, "countLinksOut", "()I"⟩
abbrev cX1_save : ByteArray := prog_3_method_20_code
def yX1_save : MethodName := ⟨RX1, "save", "([I)V"⟩
abbrev cX1_restore : ByteArray := prog_3_method_21_code
def yX1_restore : MethodName := ⟨RX1, "restore", "([I)V"⟩
def RX2 : String := "ChainLays$Chain"
def TX2 : u_T := fun k => match k with
  | 0 => ("ChainLays$Chain", "hang", "I", false)
  | 1 => ("ChainLays$Chain", "ground", "I", false)
  | 2 => ("ChainLays$Chain", "reach", "I", false)
  | 3 => ("ChainLays$Chain", "lift", "I", false)
  | 4 => ("ChainLays$Chain", "taut", "Z", false)
  | 5 => ("ChainLays$Chain", "pull", "I", false)
  | 6 => ("ChainLays$Chain", "weight", "I", false)
  | 7 => ("ChainLays$Chain", "links", "I", false)
  | 8 => ("ChainLays$Chain", "depth", "I", false)
  | 9 => ("ChainLays$Chain", "hung", "I", false)
  | 10 => ("ChainLays$Chain", "risen", "I", false)
  | _ => ("ChainLays$Chain", "run", "I", false)
def tyX2 : Nat → FieldType := fun k => match k with
  | 0 => .int
  | 1 => .int
  | 2 => .int
  | 3 => .int
  | 4 => .boolean
  | 5 => .int
  | 6 => .int
  | 7 => .int
  | 8 => .int
  | 9 => .int
  | 10 => .int
  | _ => .int
abbrev wsX20 : List Cond := u_ws RX2 TX2 12
theorem nmX2 : ∀ a, a < 12 → ∀ b, b < 12 → a ≠ b → (TX2 a).2.1 ≠ (TX2 b).2.1 := by decide +kernel
theorem tyX2_ok : ∀ k, k < 12 → parseFieldDescriptor (TX2 k).2.2.1 = some (tyX2 k) := by decide +kernel
abbrev cX2_init : ByteArray := prog_4_method_1_code
def yX2_init : MethodName := ⟨RX2, "<init>", "()V"⟩
abbrev cX2_take : ByteArray := prog_4_method_2_code
def yX2_take : MethodName := ⟨RX2, "take", "(IIII)V"⟩
abbrev cX2_holds : ByteArray := prog_4_method_3_code
def yX2_holds : MethodName := ⟨RX2, "holds", "(I)Z"⟩
abbrev cX2_holding : ByteArray := prog_4_method_4_code
def yX2_holding : MethodName := ⟨RX2, "holding", "(I)I"⟩
abbrev cX2_findLie : ByteArray := prog_4_method_5_code
def yX2_findLie : MethodName := ⟨RX2, "findLie", "()V"⟩
abbrev cX2_findLift : ByteArray := prog_4_method_6_code
def yX2_findLift : MethodName := ⟨RX2, "findLift", "()V"⟩
abbrev cX2_climb : ByteArray := prog_4_method_7_code
def yX2_climb : MethodName := ⟨RX2, "climb", "(I)V"⟩
abbrev cX2_root : ByteArray := prog_4_method_8_code
def yX2_root : MethodName := ⟨RX2, "root", "(I)I"⟩
abbrev cX2_rootFrom : ByteArray := prog_4_method_9_code
def yX2_rootFrom : MethodName := ⟨RX2, "rootFrom", "(III)I"⟩
def RX3 : String := "ChainLays$Letters"
def TX3 : u_T := fun k => match k with
  | 0 => ("ChainLays$Letters", "letters", "[C", true)
  | _ => ("ChainLays$Letters", "length", "I", false)
def tyX3 : Nat → FieldType := fun k => match k with
  | 0 => .array .char
  | _ => .int
abbrev wsX30 : List Cond := u_ws RX3 TX3 2
theorem nmX3 : ∀ a, a < 2 → ∀ b, b < 2 → a ≠ b → (TX3 a).2.1 ≠ (TX3 b).2.1 := by decide +kernel
theorem tyX3_ok : ∀ k, k < 2 → parseFieldDescriptor (TX3 k).2.2.1 = some (tyX3 k) := by decide +kernel
abbrev cX3_init : ByteArray := prog_5_method_1_code
def yX3_init : MethodName := ⟨RX3, "<init>", "()V"⟩
abbrev cX3_append : ByteArray := prog_5_method_2_code
def yX3_append : MethodName := ⟨RX3, "append", "(C)Z"⟩
abbrev cX3_clear : ByteArray := prog_5_method_3_code
def yX3_clear : MethodName := ⟨RX3, "clear", "()V"⟩
abbrev cX3_letterAt : ByteArray := prog_5_method_4_code
def yX3_letterAt : MethodName := ⟨RX3, "letterAt", "(I)C"⟩
def RX4 : String := "ChainLays$Past"
def TX4 : u_T := fun k => match k with
  | 0 => ("ChainLays$Past", "rows", "[[I", true)
  | 1 => ("ChainLays$Past", "next", "I", false)
  | _ => ("ChainLays$Past", "size", "I", false)
def tyX4 : Nat → FieldType := fun k => match k with
  | 0 => .array (.array .int)
  | 1 => .int
  | _ => .int
abbrev wsX40 : List Cond := u_ws RX4 TX4 3
theorem nmX4 : ∀ a, a < 3 → ∀ b, b < 3 → a ≠ b → (TX4 a).2.1 ≠ (TX4 b).2.1 := by decide +kernel
theorem tyX4_ok : ∀ k, k < 3 → parseFieldDescriptor (TX4 k).2.2.1 = some (tyX4 k) := by decide +kernel
abbrev cX4_init : ByteArray := prog_6_method_1_code
def yX4_init : MethodName := ⟨RX4, "<init>", "()V"⟩
abbrev cX4_rowForNext : ByteArray := prog_6_method_2_code
def yX4_rowForNext : MethodName := ⟨RX4, "rowForNext", "()[I"⟩
abbrev cX4_takeLatest : ByteArray := prog_6_method_3_code
def yX4_takeLatest : MethodName := ⟨RX4, "takeLatest", "()[I"⟩
abbrev cX4_clear : ByteArray := prog_6_method_4_code
def yX4_clear : MethodName := ⟨RX4, "clear", "()V"⟩
def RX5 : String := "ChainLays$Plan"
def TX5 : u_T := fun k => match k with
  | 0 => ("ChainLays$Plan", "depths", "[I", true)
  | 1 => ("ChainLays$Plan", "numbers", "[[I", true)
  | 2 => ("ChainLays$Plan", "columns", "I", false)
  | 3 => ("ChainLays$Plan", "ships", "I", false)
  | _ => ("ChainLays$Plan", "place", "I", false)
def tyX5 : Nat → FieldType := fun k => match k with
  | 0 => .array .int
  | 1 => .array (.array .int)
  | 2 => .int
  | 3 => .int
  | _ => .int
abbrev wsX50 : List Cond := u_ws RX5 TX5 5
theorem nmX5 : ∀ a, a < 5 → ∀ b, b < 5 → a ≠ b → (TX5 a).2.1 ≠ (TX5 b).2.1 := by decide +kernel
theorem tyX5_ok : ∀ k, k < 5 → parseFieldDescriptor (TX5 k).2.2.1 = some (tyX5 k) := by decide +kernel
abbrev cX5_init : ByteArray := prog_7_method_1_code
def yX5_init : MethodName := ⟨RX5, "<init>", "()V"⟩
abbrev cX5_read : ByteArray := prog_7_method_2_code
def yX5_read : MethodName := ⟨RX5, "read", "(LChainLays$Letters;)I"⟩
abbrev cX5_readItem : ByteArray := prog_7_method_3_code
def yX5_readItem : MethodName := ⟨RX5, "readItem", "(LChainLays$Letters;)Z"⟩
abbrev cX5_readColumn : ByteArray := prog_7_method_4_code
def yX5_readColumn : MethodName := ⟨RX5, "readColumn", "(LChainLays$Letters;)Z"⟩
abbrev cX5_readShip : ByteArray := prog_7_method_5_code
def yX5_readShip : MethodName := ⟨RX5, "readShip", "(LChainLays$Letters;)Z"⟩
abbrev cX5_readNumber : ByteArray := prog_7_method_6_code
def yX5_readNumber : MethodName := ⟨RX5, "readNumber", "(LChainLays$Letters;)I"⟩
abbrev cX5_readSign : ByteArray := prog_7_method_7_code
def yX5_readSign : MethodName := ⟨RX5, "readSign", "(LChainLays$Letters;C)Z"⟩
def RX6 : String := "ChainLays$Ship"
def TX6 : u_T := fun k => match k with
  | 0 => ("ChainLays$Ship", "first", "LChainLays$Anchor;", true)
  | 1 => ("ChainLays$Ship", "second", "LChainLays$Anchor;", true)
  | 2 => ("ChainLays$Ship", "moored", "Z", false)
  | 3 => ("ChainLays$Ship", "ashore", "Z", false)
  | 4 => ("ChainLays$Ship", "dragged", "I", false)
  | 5 => ("ChainLays$Ship", "weight", "I", false)
  | 6 => ("ChainLays$Ship", "length", "I", false)
  | 7 => ("ChainLays$Ship", "area", "I", false)
  | 8 => ("ChainLays$Ship", "grip", "I", false)
  | _ => ("ChainLays$Ship", "swing", "I", false)
def tyX6 : Nat → FieldType := fun k => match k with
  | 0 => .object "ChainLays$Anchor"
  | 1 => .object "ChainLays$Anchor"
  | 2 => .boolean
  | 3 => .boolean
  | 4 => .int
  | 5 => .int
  | 6 => .int
  | 7 => .int
  | 8 => .int
  | _ => .int
abbrev wsX60 : List Cond := u_ws RX6 TX6 10
theorem nmX6 : ∀ a, a < 10 → ∀ b, b < 10 → a ≠ b → (TX6 a).2.1 ≠ (TX6 b).2.1 := by decide +kernel
theorem tyX6_ok : ∀ k, k < 10 → parseFieldDescriptor (TX6 k).2.2.1 = some (tyX6 k) := by decide +kernel
abbrev cX6_init : ByteArray := prog_8_method_1_code
def yX6_init : MethodName := ⟨RX6, "<init>", "()V"⟩
abbrev cX6_layOut : ByteArray := prog_8_method_2_code
def yX6_layOut : MethodName := ⟨RX6, "layOut", "([I)V"⟩
abbrev cX6_anchorAt : ByteArray := prog_8_method_3_code
def yX6_anchorAt : MethodName := ⟨RX6, "anchorAt", "(I)LChainLays$Anchor;"⟩
abbrev cX6_pullBy : ByteArray := prog_8_method_4_code
def yX6_pullBy : MethodName := ⟨RX6, "pullBy", "(I)I"⟩
abbrev cX6_isClearOf : ByteArray := prog_8_method_5_code
def yX6_isClearOf : MethodName := ⟨RX6, "isClearOf", "(LChainLays$Ship;)Z"⟩
abbrev cX6_save : ByteArray := prog_8_method_6_code
def yX6_save : MethodName := ⟨RX6, "save", "([II)V"⟩
abbrev cX6_restore : ByteArray := prog_8_method_7_code
def yX6_restore : MethodName := ⟨RX6, "restore", "([II)V"⟩
def RX7 : String := "ChainLays"
def TX7 : u_T := fun k => match k with
  | 0 => ("ChainLays", "text", "LChainLays$Letters;", true)
  | 1 => ("ChainLays", "plan", "LChainLays$Plan;", true)
  | 2 => ("ChainLays", "bay", "LChainLays$Bay;", true)
  | _ => ("ChainLays", "past", "LChainLays$Past;", true)
def tyX7 : Nat → FieldType := fun k => match k with
  | 0 => .object "ChainLays$Letters"
  | 1 => .object "ChainLays$Plan"
  | 2 => .object "ChainLays$Bay"
  | _ => .object "ChainLays$Past"
abbrev wsX70 : List Cond := u_ws RX7 TX7 4
theorem nmX7 : ∀ a, a < 4 → ∀ b, b < 4 → a ≠ b → (TX7 a).2.1 ≠ (TX7 b).2.1 := by decide +kernel
theorem tyX7_ok : ∀ k, k < 4 → parseFieldDescriptor (TX7 k).2.2.1 = some (tyX7 k) := by decide +kernel
abbrev cX7_init : ByteArray := prog_1_method_1_code
def yX7_init : MethodName := ⟨RX7, "<init>", "()V"⟩
abbrev cX7_write : ByteArray := prog_1_method_2_code
def yX7_write : MethodName := ⟨RX7, "write", "(I)I"⟩
abbrev cX7_wipe : ByteArray := prog_1_method_3_code
def yX7_wipe : MethodName := ⟨RX7, "wipe", "()I"⟩
abbrev cX7_fault : ByteArray := prog_1_method_4_code
def yX7_fault : MethodName := ⟨RX7, "fault", "()I"⟩
abbrev cX7_lay : ByteArray := prog_1_method_5_code
def yX7_lay : MethodName := ⟨RX7, "lay", "()I"⟩
abbrev cX7_links : ByteArray := prog_1_method_6_code
def yX7_links : MethodName := ⟨RX7, "links", "(III)I"⟩
abbrev cX7_moor : ByteArray := prog_1_method_7_code
def yX7_moor : MethodName := ⟨RX7, "moor", "(IIII)I"⟩
abbrev cX7_weigh : ByteArray := prog_1_method_8_code
def yX7_weigh : MethodName := ⟨RX7, "weigh", "(I)I"⟩
abbrev cX7_hours : ByteArray := prog_1_method_9_code
def yX7_hours : MethodName := ⟨RX7, "hours", "(III)I"⟩
abbrev cX7_undo : ByteArray := prog_1_method_10_code
def yX7_undo : MethodName := ⟨RX7, "undo", "()I"⟩
abbrev cX7_anchor : ByteArray := prog_1_method_11_code
def yX7_anchor : MethodName := ⟨RX7, "anchor", "(III)I"⟩
abbrev cX7_ship : ByteArray := prog_1_method_12_code
def yX7_ship : MethodName := ⟨RX7, "ship", "(II)I"⟩
abbrev cX7_hangs : ByteArray := prog_1_method_13_code
def yX7_hangs : MethodName := ⟨RX7, "hangs", "(IIII)I"⟩
abbrev cX7_wind : ByteArray := prog_1_method_14_code
def yX7_wind : MethodName := ⟨RX7, "wind", "(III)I"⟩
abbrev cX7_apart : ByteArray := prog_1_method_15_code
def yX7_apart : MethodName := ⟨RX7, "apart", "(III)I"⟩
abbrev cX7_fewest : ByteArray := prog_1_method_16_code
def yX7_fewest : MethodName := ⟨RX7, "fewest", "(II)I"⟩
abbrev cX7_tooMuch : ByteArray := prog_1_method_17_code
def yX7_tooMuch : MethodName := ⟨RX7, "tooMuch", "(I)I"⟩
abbrev cX7_close : ByteArray := prog_1_method_18_code
def yX7_close : MethodName := ⟨RX7, "close", "(II)I"⟩
abbrev cX7_all : ByteArray := prog_1_method_19_code
def yX7_all : MethodName := ⟨RX7, "all", "(II)I"⟩
abbrev cX7_count : ByteArray := prog_1_method_20_code
def yX7_count : MethodName := ⟨RX7, "count", "(I)I"⟩
abbrev cX7_remember : ByteArray := prog_1_method_21_code
def yX7_remember : MethodName := ⟨RX7, "remember", "()V"⟩
abbrev cX7_within : ByteArray := prog_1_method_22_code
def yX7_within : MethodName := ⟨RX7, "within", "(III)Z"⟩
abbrev cX7_isWind : ByteArray := prog_1_method_23_code
def yX7_isWind : MethodName := ⟨RX7, "isWind", "(I)Z"⟩
abbrev cX7_oneIf : ByteArray := prog_1_method_24_code
def yX7_oneIf : MethodName := ⟨RX7, "oneIf", "(Z)I"⟩
def RX8 : String := "ChainLaysModel"
def TX8 : u_T := fun k => match k with
  | 0 => ("ChainLaysModel", "now", "[I", true)
  | 1 => ("ChainLaysModel", "draft", "[I", true)
  | 2 => ("ChainLaysModel", "past", "[I", true)
  | 3 => ("ChainLaysModel", "pasts", "I", false)
  | 4 => ("ChainLaysModel", "text", "[I", true)
  | 5 => ("ChainLaysModel", "typed", "I", false)
  | 6 => ("ChainLaysModel", "at", "I", false)
  | 7 => ("ChainLaysModel", "numbers", "[I", true)
  | 8 => ("ChainLaysModel", "hang", "I", false)
  | 9 => ("ChainLaysModel", "ground", "I", false)
  | 10 => ("ChainLaysModel", "reach", "I", false)
  | 11 => ("ChainLaysModel", "lift", "I", false)
  | _ => ("ChainLaysModel", "isTaut", "Z", false)
def tyX8 : Nat → FieldType := fun k => match k with
  | 0 => .array .int
  | 1 => .array .int
  | 2 => .array .int
  | 3 => .int
  | 4 => .array .int
  | 5 => .int
  | 6 => .int
  | 7 => .array .int
  | 8 => .int
  | 9 => .int
  | 10 => .int
  | 11 => .int
  | _ => .boolean
abbrev wsX80 : List Cond := u_ws RX8 TX8 13
theorem nmX8 : ∀ a, a < 13 → ∀ b, b < 13 → a ≠ b → (TX8 a).2.1 ≠ (TX8 b).2.1 := by decide +kernel
theorem tyX8_ok : ∀ k, k < 13 → parseFieldDescriptor (TX8 k).2.2.1 = some (tyX8 k) := by decide +kernel
abbrev cX8_in : ByteArray := prog_10_method_1_code
def yX8_in : MethodName := ⟨RX8, "in", "(III)Z"⟩
abbrev cX8_init : ByteArray := prog_10_method_2_code
def yX8_init : MethodName := ⟨RX8, "<init>", "()V"⟩
abbrev cX8_write : ByteArray := prog_10_method_3_code
def yX8_write : MethodName := ⟨RX8, "write", "(I)I"⟩
abbrev cX8_wipe : ByteArray := prog_10_method_4_code
def yX8_wipe : MethodName := ⟨RX8, "wipe", "()I"⟩
abbrev cX8_column : ByteArray := prog_10_method_5_code
def yX8_column : MethodName := ⟨RX8, "column", "(I)V"⟩
abbrev cX8_place : ByteArray := prog_10_method_6_code
def yX8_place : MethodName := ⟨RX8, "place", "(IIII)V"⟩
abbrev cX8_measure : ByteArray := prog_10_method_7_code
def yX8_measure : MethodName := ⟨RX8, "measure", "(III)V"⟩
abbrev cX8_isFigure : ByteArray := prog_10_method_8_code
def yX8_isFigure : MethodName := ⟨RX8, "isFigure", "()Z"⟩
abbrev cX8_isSign : ByteArray := prog_10_method_9_code
def yX8_isSign : MethodName := ⟨RX8, "isSign", "(I)Z"⟩
abbrev cX8_readNumbers : ByteArray := prog_10_method_10_code
def yX8_readNumbers : MethodName := ⟨RX8, "readNumbers", "(I)Z"⟩
abbrev cX8_readColumn : ByteArray := prog_10_method_11_code
def yX8_readColumn : MethodName := ⟨RX8, "readColumn", "()Z"⟩
abbrev cX8_readShip : ByteArray := prog_10_method_12_code
def yX8_readShip : MethodName := ⟨RX8, "readShip", "()Z"⟩
abbrev cX8_parse : ByteArray := prog_10_method_13_code
def yX8_parse : MethodName := ⟨RX8, "parse", "()I"⟩
abbrev cX8_fault : ByteArray := prog_10_method_14_code
def yX8_fault : MethodName := ⟨RX8, "fault", "()I"⟩
abbrev cX8_lay : ByteArray := prog_10_method_15_code
def yX8_lay : MethodName := ⟨RX8, "lay", "()I"⟩
abbrev cX8_install : ByteArray := prog_10_method_16_code
def yX8_install : MethodName := ⟨RX8, "install", "()V"⟩
abbrev cX8_push : ByteArray := prog_10_method_17_code
def yX8_push : MethodName := ⟨RX8, "push", "()V"⟩
abbrev cX8_undo : ByteArray := prog_10_method_18_code
def yX8_undo : MethodName := ⟨RX8, "undo", "()I"⟩
abbrev cX8_of : ByteArray := prog_10_method_19_code
def yX8_of : MethodName := ⟨RX8, "of", "(II)I"⟩
abbrev cX8_put : ByteArray := prog_10_method_20_code
def yX8_put : MethodName := ⟨RX8, "put", "(III)V"⟩
abbrev cX8_root : ByteArray := prog_10_method_21_code
def yX8_root : MethodName := ⟨RX8, "root", "(I)I"⟩
abbrev cX8_rise : ByteArray := prog_10_method_22_code
def yX8_rise : MethodName := ⟨RX8, "rise", "(II)I"⟩
abbrev cX8_runs : ByteArray := prog_10_method_23_code
def yX8_runs : MethodName := ⟨RX8, "runs", "(IIII)I"⟩
abbrev cX8_rises : ByteArray := prog_10_method_24_code
def yX8_rises : MethodName := ⟨RX8, "rises", "(IIII)I"⟩
abbrev cX8_chain : ByteArray := prog_10_method_25_code
def yX8_chain : MethodName := ⟨RX8, "chain", "(IIII)V"⟩
abbrev cX8_holding : ByteArray := prog_10_method_26_code
def yX8_holding : MethodName := ⟨RX8, "holding", "(I)I"⟩
abbrev cX8_pull : ByteArray := prog_10_method_27_code
def yX8_pull : MethodName := ⟨RX8, "pull", "(II)I"⟩
abbrev cX8_chainOf : ByteArray := prog_10_method_28_code
def yX8_chainOf : MethodName := ⟨RX8, "chainOf", "(III)V"⟩
abbrev cX8_doesHold : ByteArray := prog_10_method_29_code
def yX8_doesHold : MethodName := ⟨RX8, "doesHold", "(III)Z"⟩
abbrev cX8_holds : ByteArray := prog_10_method_30_code
def yX8_holds : MethodName := ⟨RX8, "holds", "(II)Z"⟩
abbrev cX8_swing : ByteArray := prog_10_method_31_code
def yX8_swing : MethodName := ⟨RX8, "swing", "(II)I"⟩
abbrev cX8_isShip : ByteArray := prog_10_method_32_code
def yX8_isShip : MethodName := ⟨RX8, "isShip", "(I)Z"⟩
abbrev cX8_isColumn : ByteArray := prog_10_method_33_code
def yX8_isColumn : MethodName := ⟨RX8, "isColumn", "(I)Z"⟩
abbrev cX8_isWind : ByteArray := prog_10_method_34_code
def yX8_isWind : MethodName := ⟨RX8, "isWind", "(I)Z"⟩
abbrev cX8_links : ByteArray := prog_10_method_35_code
def yX8_links : MethodName := ⟨RX8, "links", "(III)I"⟩
abbrev cX8_moor : ByteArray := prog_10_method_36_code
def yX8_moor : MethodName := ⟨RX8, "moor", "(IIII)I"⟩
abbrev cX8_weigh : ByteArray := prog_10_method_37_code
def yX8_weigh : MethodName := ⟨RX8, "weigh", "(I)I"⟩
abbrev cX8_isField : ByteArray := prog_10_method_38_code
def yX8_isField : MethodName := ⟨RX8, "isField", "(II)Z"⟩
abbrev cX8_drag : ByteArray := prog_10_method_39_code
def yX8_drag : MethodName := ⟨RX8, "drag", "(II)I"⟩
abbrev cX8_hours : ByteArray := prog_10_method_40_code
def yX8_hours : MethodName := ⟨RX8, "hours", "(III)I"⟩
abbrev cX8_anchor : ByteArray := prog_10_method_41_code
def yX8_anchor : MethodName := ⟨RX8, "anchor", "(III)I"⟩
abbrev cX8_ship : ByteArray := prog_10_method_42_code
def yX8_ship : MethodName := ⟨RX8, "ship", "(II)I"⟩
abbrev cX8_hangs : ByteArray := prog_10_method_43_code
def yX8_hangs : MethodName := ⟨RX8, "hangs", "(IIII)I"⟩
abbrev cX8_wind : ByteArray := prog_10_method_44_code
def yX8_wind : MethodName := ⟨RX8, "wind", "(III)I"⟩
abbrev cX8_areApart : ByteArray := prog_10_method_45_code
def yX8_areApart : MethodName := ⟨RX8, "areApart", "(III)Z"⟩
abbrev cX8_apart : ByteArray := prog_10_method_46_code
def yX8_apart : MethodName := ⟨RX8, "apart", "(III)I"⟩
abbrev cX8_fewest : ByteArray := prog_10_method_47_code
def yX8_fewest : MethodName := ⟨RX8, "fewest", "(II)I"⟩
abbrev cX8_tooMuch : ByteArray := prog_10_method_48_code
def yX8_tooMuch : MethodName := ⟨RX8, "tooMuch", "(I)I"⟩
abbrev cX8_isClose : ByteArray := prog_10_method_49_code
def yX8_isClose : MethodName := ⟨RX8, "isClose", "(II)Z"⟩
abbrev cX8_close : ByteArray := prog_10_method_50_code
def yX8_close : MethodName := ⟨RX8, "close", "(II)I"⟩
abbrev cX8_all : ByteArray := prog_10_method_51_code
def yX8_all : MethodName := ⟨RX8, "all", "(II)I"⟩
abbrev cX8_count : ByteArray := prog_10_method_52_code
def yX8_count : MethodName := ⟨RX8, "count", "(I)I"⟩
def RJ9 : String := "java/lang/Math"
def TJ9 : u_T := fun k => match k with
  | _ => ("", "", "", false)
def tyJ9 : Nat → FieldType := fun k => match k with
  | _ => .int
abbrev wsJ90 : List Cond := u_ws RJ9 TJ9 0
theorem nmJ9 : ∀ a, a < 0 → ∀ b, b < 0 → a ≠ b → (TJ9 a).2.1 ≠ (TJ9 b).2.1 := by decide +kernel
theorem tyJ9_ok : ∀ k, k < 0 → parseFieldDescriptor (TJ9 k).2.2.1 = some (tyJ9 k) := by decide +kernel
abbrev cJ9_max_7cf53 : ByteArray := prog_11_method_65_code
def yJ9_max_7cf53 : MethodName := ⟨RJ9, "max", "(II)I"⟩
abbrev cJ9_min_7cf53 : ByteArray := prog_11_method_69_code
def yJ9_min_7cf53 : MethodName := ⟨RJ9, "min", "(II)I"⟩
def RJ0 : String := "java/lang/String"
def TJ0 : u_T := fun k => match k with
  | _ => ("", "", "", false)
def tyJ0 : Nat → FieldType := fun k => match k with
  | _ => .int
abbrev wsJ00 : List Cond := u_ws RJ0 TJ0 0
theorem nmJ0 : ∀ a, a < 0 → ∀ b, b < 0 → a ≠ b → (TJ0 a).2.1 ≠ (TJ0 b).2.1 := by decide +kernel
theorem tyJ0_ok : ∀ k, k < 0 → parseFieldDescriptor (TJ0 k).2.2.1 = some (tyJ0 k) := by decide +kernel
abbrev cJ0_length_8abf5 : ByteArray := prog_12_method_54_code
def yJ0_length_8abf5 : MethodName := ⟨RJ0, "length", "()I"⟩
abbrev cJ0_charAt_5068e : ByteArray := prog_12_method_56_code
def yJ0_charAt_5068e : MethodName := ⟨RJ0, "charAt", "(I)C"⟩
abbrev cJ0_coder_7d493 : ByteArray := prog_12_method_152_code
def yJ0_coder_7d493 : MethodName := ⟨RJ0, "coder", "()B"⟩
abbrev cJ0_isLatin1_aae02 : ByteArray := prog_12_method_154_code
def yJ0_isLatin1_aae02 : MethodName := ⟨RJ0, "isLatin1", "()Z"⟩
abbrev cJ0_checkIndex_df160 : ByteArray := prog_12_method_155_code
def yJ0_checkIndex_df160 : MethodName := ⟨RJ0, "checkIndex", "(II)V"⟩
def RJ1 : String := "java/lang/StringLatin1"
def TJ1 : u_T := fun k => match k with
  | _ => ("", "", "", false)
def tyJ1 : Nat → FieldType := fun k => match k with
  | _ => .int
abbrev wsJ10 : List Cond := u_ws RJ1 TJ1 0
theorem nmJ1 : ∀ a, a < 0 → ∀ b, b < 0 → a ≠ b → (TJ1 a).2.1 ≠ (TJ1 b).2.1 := by decide +kernel
theorem tyJ1_ok : ∀ k, k < 0 → parseFieldDescriptor (TJ1 k).2.2.1 = some (tyJ1 k) := by decide +kernel
abbrev cJ1_charAt_3b067 : ByteArray := prog_13_method_2_code
def yJ1_charAt_3b067 : MethodName := ⟨RJ1, "charAt", "([BI)C"⟩
def RJ2 : String := "java/lang/StringUTF16"
def TJ2 : u_T := fun k => match k with
  | _ => ("", "", "", false)
def tyJ2 : Nat → FieldType := fun k => match k with
  | _ => .int
abbrev wsJ20 : List Cond := u_ws RJ2 TJ2 0
theorem nmJ2 : ∀ a, a < 0 → ∀ b, b < 0 → a ≠ b → (TJ2 a).2.1 ≠ (TJ2 b).2.1 := by decide +kernel
theorem tyJ2_ok : ∀ k, k < 0 → parseFieldDescriptor (TJ2 k).2.2.1 = some (tyJ2 k) := by decide +kernel
abbrev cJ2_getChar_3b067 : ByteArray := prog_14_method_5_code
def yJ2_getChar_3b067 : MethodName := ⟨RJ2, "getChar", "([BI)C"⟩
abbrev cJ2_length_9d52b : ByteArray := prog_14_method_6_code
def yJ2_length_9d52b : MethodName := ⟨RJ2, "length", "([B)I"⟩
abbrev cJ2_charAt_3b067 : ByteArray := prog_14_method_83_code
def yJ2_charAt_3b067 : MethodName := ⟨RJ2, "charAt", "([BI)C"⟩
abbrev cJ2_checkIndex_2214a : ByteArray := prog_14_method_91_code
def yJ2_checkIndex_2214a : MethodName := ⟨RJ2, "checkIndex", "(I[B)V"⟩
def RJ10 : String := "java/lang/System"
def TJ10 : u_T := fun k => match k with
  | _ => ("", "", "", false)
def tyJ10 : Nat → FieldType := fun k => match k with
  | _ => .int
abbrev wsJ100 : List Cond := u_ws RJ10 TJ10 0
theorem nmJ10 : ∀ a, a < 0 → ∀ b, b < 0 → a ≠ b → (TJ10 a).2.1 ≠ (TJ10 b).2.1 := by decide +kernel
theorem tyJ10_ok : ∀ k, k < 0 → parseFieldDescriptor (TJ10 k).2.2.1 = some (tyJ10 k) := by decide +kernel
def RJ3 : String := "jdk/internal/util/Preconditions"
def TJ3 : u_T := fun k => match k with
  | _ => ("", "", "", false)
def tyJ3 : Nat → FieldType := fun k => match k with
  | _ => .int
abbrev wsJ30 : List Cond := u_ws RJ3 TJ3 0
theorem nmJ3 : ∀ a, a < 0 → ∀ b, b < 0 → a ≠ b → (TJ3 a).2.1 ≠ (TJ3 b).2.1 := by decide +kernel
theorem tyJ3_ok : ∀ k, k < 0 → parseFieldDescriptor (TJ3 k).2.2.1 = some (tyJ3 k) := by decide +kernel
abbrev cJ3_checkIndex_8e157 : ByteArray := prog_16_method_11_code
def yJ3_checkIndex_8e157 : MethodName := ⟨RJ3, "checkIndex", "(IILjava/util/function/BiFunction;)I"⟩
def RL : String := "ChainLaysLaw"
abbrev cL_law : ByteArray := code
def yL_law : MethodName := ⟨RL, "law", "([I)Z"⟩
def wsX0_init : List Cond := .code yX0_init cX0_init 1 none :: ([.methodLink RX0 1 objectInit, .instanceMethod objectInit, .code objectInit ⟨#[0xb1]⟩ 1 none])
def wsX0_put : List Cond := .code yX0_put cX0_put 4 none :: ([.fieldLink RX0 7 "ChainLays$Anchor" "column" "I", .fieldLink RX0 13 "ChainLays$Anchor" "row" "I", .fieldLink RX0 16 "ChainLays$Anchor" "links" "I"] ++ wsX00)
def wsX0_save : List Cond := .code yX0_save cX0_save 3 none :: ([.fieldLink RX0 7 "ChainLays$Anchor" "column" "I", .fieldLink RX0 13 "ChainLays$Anchor" "row" "I", .fieldLink RX0 16 "ChainLays$Anchor" "links" "I"] ++ wsX00)
def wsX0_restore : List Cond := .code yX0_restore cX0_restore 3 none :: ([.methodLink RX0 19 yX0_put, .instanceMethod yX0_put, .selects RX0 yX0_put yX0_put, .initialized RX0, .code yX0_put cX0_put 4 none, .fieldLink RX0 7 "ChainLays$Anchor" "column" "I", .fieldLink RX0 13 "ChainLays$Anchor" "row" "I", .fieldLink RX0 16 "ChainLays$Anchor" "links" "I"] ++ wsX00)
def wsX2_init : List Cond := .code yX2_init cX2_init 1 none :: ([.methodLink RX2 3 objectInit, .instanceMethod objectInit, .code objectInit ⟨#[0xb1]⟩ 1 none])
def wsX6_init : List Cond := .code yX6_init cX6_init 1 none :: ([.methodLink RX6 5 objectInit, .instanceMethod objectInit, .code objectInit ⟨#[0xb1]⟩ 1 none, .classLink RX6 1 RX0, .instantiable RX0 3, .initialized RX0, .fieldLink RX6 12 "ChainLays$Ship" "first" "LChainLays$Anchor;", .fieldLink RX6 18 "ChainLays$Ship" "second" "LChainLays$Anchor;", .instanceMethod yX0_init, .code yX0_init cX0_init 1 none, .methodLink RX0 1 objectInit] ++ wsX00 ++ wsX60)
def wsX1_init_r1 : List Cond := [Cond.methodLink RX1 5 objectInit, Cond.instanceMethod objectInit, Cond.code objectInit ⟨#[0xb1]⟩ 1 none, Cond.arrayClass .int, Cond.fieldLink RX1 11 "ChainLays$Bay" "depths" "[I", Cond.classLink RX1 1 RX6, Cond.fieldLink RX1 17 "ChainLays$Bay" "ships" "[LChainLays$Ship;", Cond.classLink RX1 21 RX2, Cond.instantiable RX2 12, Cond.initialized RX2, Cond.fieldLink RX1 24 "ChainLays$Bay" "chain" "LChainLays$Chain;", Cond.instantiable RX6 10, Cond.initialized RX6, Cond.instanceMethod yX2_init, Cond.code yX2_init cX2_init 1 none, Cond.methodLink RX2 3 objectInit, Cond.instanceMethod yX6_init, Cond.code yX6_init cX6_init 1 none, Cond.methodLink RX6 5 objectInit, Cond.classLink RX6 1 RX0, Cond.instantiable RX0 3, Cond.initialized RX0, Cond.fieldLink RX6 12 "ChainLays$Ship" "first" "LChainLays$Anchor;", Cond.fieldLink RX6 18 "ChainLays$Ship" "second" "LChainLays$Anchor;"]
def wsX1_init_r2 : List Cond := [Cond.instanceMethod yX0_init, Cond.code yX0_init cX0_init 1 none, Cond.methodLink RX0 1 objectInit]
def wsX1_init : List Cond := .code yX1_init cX1_init 2 none :: ((wsX1_init_r1 ++ wsX1_init_r2) ++ wsX10 ++ wsX20 ++ wsX60 ++ wsX00)
def wsX6_layOut : List Cond := .code yX6_layOut cX6_layOut 2 none :: ([.fieldLink RX6 12 "ChainLays$Ship" "first" "LChainLays$Anchor;", .fieldLink RX6 27 "ChainLays$Ship" "weight" "I", .fieldLink RX6 31 "ChainLays$Ship" "length" "I", .fieldLink RX6 34 "ChainLays$Ship" "area" "I", .fieldLink RX6 37 "ChainLays$Ship" "grip" "I", .fieldLink RX6 40 "ChainLays$Ship" "moored" "Z", .fieldLink RX6 44 "ChainLays$Ship" "ashore" "Z", .fieldLink RX6 47 "ChainLays$Ship" "dragged" "I", .methodLink RX6 23 yX0_put, .instanceMethod yX0_put, .selects RX0 yX0_put yX0_put, .initialized RX0, .code yX0_put cX0_put 4 none, .fieldLink RX0 7 "ChainLays$Anchor" "column" "I", .fieldLink RX0 13 "ChainLays$Anchor" "row" "I", .fieldLink RX0 16 "ChainLays$Anchor" "links" "I"] ++ wsX60 ++ wsX00)
def wsX1_layOut_r1 : List Cond := [Cond.fieldLink RX1 29 "ChainLays$Plan" "columns" "I", Cond.fieldLink RX1 35 "ChainLays$Bay" "columns" "I", Cond.fieldLink RX1 36 "ChainLays$Plan" "depths" "[I", Cond.fieldLink RX1 11 "ChainLays$Bay" "depths" "[I", Cond.methodLink RX1 37 arraycopyName, Cond.native arraycopyName, Cond.static arraycopyName, Cond.initialized "java/lang/System", Cond.fieldLink RX1 43 "ChainLays$Plan" "ships" "I", Cond.fieldLink RX1 45 "ChainLays$Bay" "shipCount" "I", Cond.fieldLink RX1 17 "ChainLays$Bay" "ships" "[LChainLays$Ship;", Cond.fieldLink RX1 48 "ChainLays$Plan" "numbers" "[[I", Cond.fieldLink RX1 56 "ChainLays$Bay" "hour" "I", Cond.methodLink RX1 52 yX6_layOut, Cond.instanceMethod yX6_layOut, Cond.selects RX6 yX6_layOut yX6_layOut, Cond.initialized RX6, Cond.code yX6_layOut cX6_layOut 2 none, Cond.fieldLink RX6 12 "ChainLays$Ship" "first" "LChainLays$Anchor;", Cond.fieldLink RX6 27 "ChainLays$Ship" "weight" "I", Cond.fieldLink RX6 31 "ChainLays$Ship" "length" "I", Cond.fieldLink RX6 34 "ChainLays$Ship" "area" "I", Cond.fieldLink RX6 37 "ChainLays$Ship" "grip" "I", Cond.fieldLink RX6 40 "ChainLays$Ship" "moored" "Z"]
def wsX1_layOut_r2 : List Cond := [Cond.fieldLink RX6 44 "ChainLays$Ship" "ashore" "Z", Cond.fieldLink RX6 47 "ChainLays$Ship" "dragged" "I", Cond.methodLink RX6 23 yX0_put, Cond.instanceMethod yX0_put, Cond.selects RX0 yX0_put yX0_put, Cond.initialized RX0, Cond.code yX0_put cX0_put 4 none, Cond.fieldLink RX0 7 "ChainLays$Anchor" "column" "I", Cond.fieldLink RX0 13 "ChainLays$Anchor" "row" "I", Cond.fieldLink RX0 16 "ChainLays$Anchor" "links" "I"]
def wsX1_layOut : List Cond := .code yX1_layOut cX1_layOut 3 none :: ((wsX1_layOut_r1 ++ wsX1_layOut_r2) ++ wsX50 ++ wsX10 ++ wsX60 ++ wsX00)
def wsX1_shipAt : List Cond := .code yX1_shipAt cX1_shipAt 2 (some (.object "ChainLays$Ship")) :: ([.fieldLink RX1 45 "ChainLays$Bay" "shipCount" "I", .fieldLink RX1 17 "ChainLays$Bay" "ships" "[LChainLays$Ship;"] ++ wsX10)
def wsX7_within : List Cond := .code yX7_within cX7_within 3 (some .boolean) :: ([])
def wsX1_isCell : List Cond := .code yX1_isCell cX1_isCell 3 (some .boolean) :: ([.fieldLink RX1 35 "ChainLays$Bay" "columns" "I", .static yX7_within, .initialized RX7, .code yX7_within cX7_within 3 (some .boolean)] ++ wsX10)
def wsX1_depthAt : List Cond := .code yX1_depthAt cX1_depthAt 2 (some .int) :: ([.fieldLink RX1 11 "ChainLays$Bay" "depths" "[I"] ++ wsX10)
def wsX2_take : List Cond := .code yX2_take cX2_take 5 none :: ([.fieldLink RX2 9 "ChainLays$Chain" "pull" "I", .fieldLink RX2 15 "ChainLays$Chain" "weight" "I", .fieldLink RX2 18 "ChainLays$Chain" "links" "I", .fieldLink RX2 21 "ChainLays$Chain" "depth" "I"] ++ wsX20)
def wsX1_chainOf : List Cond := .code yX1_chainOf cX1_chainOf 5 (some (.object "ChainLays$Chain")) :: ([.fieldLink RX1 24 "ChainLays$Bay" "chain" "LChainLays$Chain;", .fieldLink RX1 63 "ChainLays$Ship" "weight" "I", .fieldLink RX1 66 "ChainLays$Anchor" "column" "I", .methodLink RX1 71 yX1_depthAt, .instanceMethod yX1_depthAt, .selects RX1 yX1_depthAt yX1_depthAt, .initialized RX1, .code yX1_depthAt cX1_depthAt 2 (some .int), .fieldLink RX1 11 "ChainLays$Bay" "depths" "[I", .methodLink RX1 75 yX2_take, .instanceMethod yX2_take, .selects RX2 yX2_take yX2_take, .initialized RX2, .code yX2_take cX2_take 5 none, .fieldLink RX2 9 "ChainLays$Chain" "pull" "I", .fieldLink RX2 15 "ChainLays$Chain" "weight" "I", .fieldLink RX2 18 "ChainLays$Chain" "links" "I", .fieldLink RX2 21 "ChainLays$Chain" "depth" "I"] ++ wsX10 ++ wsX60 ++ wsX00 ++ wsX20)
def wsX6_pullBy : List Cond := .code yX6_pullBy cX6_pullBy 2 (some .int) :: ([.fieldLink RX6 34 "ChainLays$Ship" "area" "I"] ++ wsX60)
def wsX2_root : List Cond := .code yX2_root cX2_root 4 (some .int) :: ([])
def wsX2_rootFrom : List Cond := .code yX2_rootFrom cX2_rootFrom 5 (some .int) :: ([])
def wsX2_climb : List Cond := .code yX2_climb cX2_climb 5 none :: ([.fieldLink RX2 44 "ChainLays$Chain" "hung" "I", .fieldLink RX2 28 "ChainLays$Chain" "risen" "I", .fieldLink RX2 56 "ChainLays$Chain" "run" "I", .fieldLink RX2 9 "ChainLays$Chain" "pull" "I", .fieldLink RX2 18 "ChainLays$Chain" "links" "I", .fieldLink RX2 21 "ChainLays$Chain" "depth" "I", .fieldLink RX2 15 "ChainLays$Chain" "weight" "I", .fieldLink RX2 73 "ChainLays$Chain" "RUNS" "[I", .methodLink RX2 65 yX2_root, .static yX2_root, .initialized RX2, .code yX2_root cX2_root 4 (some .int), .methodLink RX2 69 yX2_rootFrom, .static yX2_rootFrom, .code yX2_rootFrom cX2_rootFrom 5 (some .int)] ++ wsX20)
def wsX2_holds : List Cond := .code yX2_holds cX2_holds 2 (some .boolean) :: ([.fieldLink RX2 9 "ChainLays$Chain" "pull" "I", .fieldLink RX2 28 "ChainLays$Chain" "risen" "I", .fieldLink RX2 21 "ChainLays$Chain" "depth" "I", .methodLink RX2 24 yX2_climb, .instanceMethod yX2_climb, .selects RX2 yX2_climb yX2_climb, .initialized RX2, .code yX2_climb cX2_climb 5 none, .fieldLink RX2 44 "ChainLays$Chain" "hung" "I", .fieldLink RX2 56 "ChainLays$Chain" "run" "I", .fieldLink RX2 18 "ChainLays$Chain" "links" "I", .fieldLink RX2 15 "ChainLays$Chain" "weight" "I", .fieldLink RX2 73 "ChainLays$Chain" "RUNS" "[I", .methodLink RX2 65 yX2_root, .static yX2_root, .code yX2_root cX2_root 4 (some .int), .methodLink RX2 69 yX2_rootFrom, .static yX2_rootFrom, .code yX2_rootFrom cX2_rootFrom 5 (some .int)] ++ wsX20)
def wsX1_firstHolds_r1 : List Cond := [Cond.fieldLink RX1 94 "ChainLays$Ship" "first" "LChainLays$Anchor;", Cond.fieldLink RX1 102 "ChainLays$Ship" "grip" "I", Cond.methodLink RX1 98 yX1_chainOf, Cond.instanceMethod yX1_chainOf, Cond.selects RX1 yX1_chainOf yX1_chainOf, Cond.initialized RX1, Cond.code yX1_chainOf cX1_chainOf 5 (some (.object "ChainLays$Chain")), Cond.fieldLink RX1 24 "ChainLays$Bay" "chain" "LChainLays$Chain;", Cond.fieldLink RX1 63 "ChainLays$Ship" "weight" "I", Cond.fieldLink RX1 66 "ChainLays$Anchor" "column" "I", Cond.methodLink RX1 71 yX1_depthAt, Cond.instanceMethod yX1_depthAt, Cond.selects RX1 yX1_depthAt yX1_depthAt, Cond.code yX1_depthAt cX1_depthAt 2 (some .int), Cond.fieldLink RX1 11 "ChainLays$Bay" "depths" "[I", Cond.methodLink RX1 75 yX2_take, Cond.instanceMethod yX2_take, Cond.selects RX2 yX2_take yX2_take, Cond.initialized RX2, Cond.code yX2_take cX2_take 5 none, Cond.fieldLink RX2 9 "ChainLays$Chain" "pull" "I", Cond.fieldLink RX2 15 "ChainLays$Chain" "weight" "I", Cond.fieldLink RX2 18 "ChainLays$Chain" "links" "I", Cond.fieldLink RX2 21 "ChainLays$Chain" "depth" "I"]
def wsX1_firstHolds_r2 : List Cond := [Cond.methodLink RX1 105 yX2_holds, Cond.instanceMethod yX2_holds, Cond.selects RX2 yX2_holds yX2_holds, Cond.code yX2_holds cX2_holds 2 (some .boolean), Cond.fieldLink RX2 28 "ChainLays$Chain" "risen" "I", Cond.methodLink RX2 24 yX2_climb, Cond.instanceMethod yX2_climb, Cond.selects RX2 yX2_climb yX2_climb, Cond.code yX2_climb cX2_climb 5 none, Cond.fieldLink RX2 44 "ChainLays$Chain" "hung" "I", Cond.fieldLink RX2 56 "ChainLays$Chain" "run" "I", Cond.fieldLink RX2 73 "ChainLays$Chain" "RUNS" "[I", Cond.methodLink RX2 65 yX2_root, Cond.static yX2_root, Cond.code yX2_root cX2_root 4 (some .int), Cond.methodLink RX2 69 yX2_rootFrom, Cond.static yX2_rootFrom, Cond.code yX2_rootFrom cX2_rootFrom 5 (some .int)]
def wsX1_firstHolds : List Cond := .code yX1_firstHolds cX1_firstHolds 4 (some .boolean) :: ((wsX1_firstHolds_r1 ++ wsX1_firstHolds_r2) ++ wsX60 ++ wsX10 ++ wsX00 ++ wsX20)
def wsX1_secondHolds_r1 : List Cond := [Cond.fieldLink RX1 109 "ChainLays$Ship" "second" "LChainLays$Anchor;", Cond.fieldLink RX1 112 "ChainLays$Anchor" "links" "I", Cond.fieldLink RX1 102 "ChainLays$Ship" "grip" "I", Cond.methodLink RX1 98 yX1_chainOf, Cond.instanceMethod yX1_chainOf, Cond.selects RX1 yX1_chainOf yX1_chainOf, Cond.initialized RX1, Cond.code yX1_chainOf cX1_chainOf 5 (some (.object "ChainLays$Chain")), Cond.fieldLink RX1 24 "ChainLays$Bay" "chain" "LChainLays$Chain;", Cond.fieldLink RX1 63 "ChainLays$Ship" "weight" "I", Cond.fieldLink RX1 66 "ChainLays$Anchor" "column" "I", Cond.methodLink RX1 71 yX1_depthAt, Cond.instanceMethod yX1_depthAt, Cond.selects RX1 yX1_depthAt yX1_depthAt, Cond.code yX1_depthAt cX1_depthAt 2 (some .int), Cond.fieldLink RX1 11 "ChainLays$Bay" "depths" "[I", Cond.methodLink RX1 75 yX2_take, Cond.instanceMethod yX2_take, Cond.selects RX2 yX2_take yX2_take, Cond.initialized RX2, Cond.code yX2_take cX2_take 5 none, Cond.fieldLink RX2 9 "ChainLays$Chain" "pull" "I", Cond.fieldLink RX2 15 "ChainLays$Chain" "weight" "I", Cond.fieldLink RX2 18 "ChainLays$Chain" "links" "I"]
def wsX1_secondHolds_r2 : List Cond := [Cond.fieldLink RX2 21 "ChainLays$Chain" "depth" "I", Cond.methodLink RX1 105 yX2_holds, Cond.instanceMethod yX2_holds, Cond.selects RX2 yX2_holds yX2_holds, Cond.code yX2_holds cX2_holds 2 (some .boolean), Cond.fieldLink RX2 28 "ChainLays$Chain" "risen" "I", Cond.methodLink RX2 24 yX2_climb, Cond.instanceMethod yX2_climb, Cond.selects RX2 yX2_climb yX2_climb, Cond.code yX2_climb cX2_climb 5 none, Cond.fieldLink RX2 44 "ChainLays$Chain" "hung" "I", Cond.fieldLink RX2 56 "ChainLays$Chain" "run" "I", Cond.fieldLink RX2 73 "ChainLays$Chain" "RUNS" "[I", Cond.methodLink RX2 65 yX2_root, Cond.static yX2_root, Cond.code yX2_root cX2_root 4 (some .int), Cond.methodLink RX2 69 yX2_rootFrom, Cond.static yX2_rootFrom, Cond.code yX2_rootFrom cX2_rootFrom 5 (some .int)]
def wsX1_secondHolds : List Cond := .code yX1_secondHolds cX1_secondHolds 3 (some .boolean) :: ((wsX1_secondHolds_r1 ++ wsX1_secondHolds_r2) ++ wsX60 ++ wsX00 ++ wsX10 ++ wsX20)
def wsX1_holdsBy_r1 : List Cond := [Cond.fieldLink RX1 82 "ChainLays$Ship" "moored" "Z", Cond.methodLink RX1 79 yX6_pullBy, Cond.instanceMethod yX6_pullBy, Cond.selects RX6 yX6_pullBy yX6_pullBy, Cond.initialized RX6, Cond.code yX6_pullBy cX6_pullBy 2 (some .int), Cond.fieldLink RX6 34 "ChainLays$Ship" "area" "I", Cond.methodLink RX1 86 yX1_firstHolds, Cond.instanceMethod yX1_firstHolds, Cond.selects RX1 yX1_firstHolds yX1_firstHolds, Cond.initialized RX1, Cond.code yX1_firstHolds cX1_firstHolds 4 (some .boolean), Cond.fieldLink RX1 94 "ChainLays$Ship" "first" "LChainLays$Anchor;", Cond.fieldLink RX1 102 "ChainLays$Ship" "grip" "I", Cond.methodLink RX1 98 yX1_chainOf, Cond.instanceMethod yX1_chainOf, Cond.selects RX1 yX1_chainOf yX1_chainOf, Cond.code yX1_chainOf cX1_chainOf 5 (some (.object "ChainLays$Chain")), Cond.fieldLink RX1 24 "ChainLays$Bay" "chain" "LChainLays$Chain;", Cond.fieldLink RX1 63 "ChainLays$Ship" "weight" "I", Cond.fieldLink RX1 66 "ChainLays$Anchor" "column" "I", Cond.methodLink RX1 71 yX1_depthAt, Cond.instanceMethod yX1_depthAt, Cond.selects RX1 yX1_depthAt yX1_depthAt]
def wsX1_holdsBy_r2 : List Cond := [Cond.code yX1_depthAt cX1_depthAt 2 (some .int), Cond.fieldLink RX1 11 "ChainLays$Bay" "depths" "[I", Cond.methodLink RX1 75 yX2_take, Cond.instanceMethod yX2_take, Cond.selects RX2 yX2_take yX2_take, Cond.initialized RX2, Cond.code yX2_take cX2_take 5 none, Cond.fieldLink RX2 9 "ChainLays$Chain" "pull" "I", Cond.fieldLink RX2 15 "ChainLays$Chain" "weight" "I", Cond.fieldLink RX2 18 "ChainLays$Chain" "links" "I", Cond.fieldLink RX2 21 "ChainLays$Chain" "depth" "I", Cond.methodLink RX1 105 yX2_holds, Cond.instanceMethod yX2_holds, Cond.selects RX2 yX2_holds yX2_holds, Cond.code yX2_holds cX2_holds 2 (some .boolean), Cond.fieldLink RX2 28 "ChainLays$Chain" "risen" "I", Cond.methodLink RX2 24 yX2_climb, Cond.instanceMethod yX2_climb, Cond.selects RX2 yX2_climb yX2_climb, Cond.code yX2_climb cX2_climb 5 none, Cond.fieldLink RX2 44 "ChainLays$Chain" "hung" "I", Cond.fieldLink RX2 56 "ChainLays$Chain" "run" "I", Cond.fieldLink RX2 73 "ChainLays$Chain" "RUNS" "[I", Cond.methodLink RX2 65 yX2_root]
def wsX1_holdsBy_r3 : List Cond := [Cond.static yX2_root, Cond.code yX2_root cX2_root 4 (some .int), Cond.methodLink RX2 69 yX2_rootFrom, Cond.static yX2_rootFrom, Cond.code yX2_rootFrom cX2_rootFrom 5 (some .int), Cond.methodLink RX1 90 yX1_secondHolds, Cond.instanceMethod yX1_secondHolds, Cond.selects RX1 yX1_secondHolds yX1_secondHolds, Cond.code yX1_secondHolds cX1_secondHolds 3 (some .boolean), Cond.fieldLink RX1 109 "ChainLays$Ship" "second" "LChainLays$Anchor;", Cond.fieldLink RX1 112 "ChainLays$Anchor" "links" "I"]
def wsX1_holdsBy : List Cond := .code yX1_holdsBy cX1_holdsBy 6 (some .boolean) :: ((wsX1_holdsBy_r1 ++ (wsX1_holdsBy_r2 ++ wsX1_holdsBy_r3)) ++ wsX60 ++ wsX10 ++ wsX00 ++ wsX20)
def wsX2_findLift_r1 : List Cond := [Cond.fieldLink RX2 28 "ChainLays$Chain" "risen" "I", Cond.fieldLink RX2 21 "ChainLays$Chain" "depth" "I", Cond.fieldLink RX2 31 "ChainLays$Chain" "taut" "Z", Cond.methodLink RX2 62 Lib.Math.min.name, Cond.static Lib.Math.min.name, Cond.initialized "java/lang/Math", Cond.code Lib.Math.min.name Lib.Math.min.code 2 (some .int), Cond.fieldLink RX2 35 "ChainLays$Chain" "lift" "I", Cond.methodLink RX2 24 yX2_climb, Cond.instanceMethod yX2_climb, Cond.selects RX2 yX2_climb yX2_climb, Cond.initialized RX2, Cond.code yX2_climb cX2_climb 5 none, Cond.fieldLink RX2 44 "ChainLays$Chain" "hung" "I", Cond.fieldLink RX2 56 "ChainLays$Chain" "run" "I", Cond.fieldLink RX2 9 "ChainLays$Chain" "pull" "I", Cond.fieldLink RX2 18 "ChainLays$Chain" "links" "I", Cond.fieldLink RX2 15 "ChainLays$Chain" "weight" "I", Cond.fieldLink RX2 73 "ChainLays$Chain" "RUNS" "[I", Cond.methodLink RX2 65 yX2_root, Cond.static yX2_root, Cond.code yX2_root cX2_root 4 (some .int), Cond.methodLink RX2 69 yX2_rootFrom, Cond.static yX2_rootFrom]
def wsX2_findLift_r2 : List Cond := [Cond.code yX2_rootFrom cX2_rootFrom 5 (some .int)]
def wsX2_findLift : List Cond := .code yX2_findLift cX2_findLift 4 none :: ((wsX2_findLift_r1 ++ wsX2_findLift_r2) ++ wsX20)
def wsX2_findLie_r1 : List Cond := [Cond.fieldLink RX2 44 "ChainLays$Chain" "hung" "I", Cond.fieldLink RX2 47 "ChainLays$Chain" "hang" "I", Cond.fieldLink RX2 35 "ChainLays$Chain" "lift" "I", Cond.fieldLink RX2 31 "ChainLays$Chain" "taut" "Z", Cond.fieldLink RX2 28 "ChainLays$Chain" "risen" "I", Cond.fieldLink RX2 21 "ChainLays$Chain" "depth" "I", Cond.fieldLink RX2 18 "ChainLays$Chain" "links" "I", Cond.fieldLink RX2 53 "ChainLays$Chain" "ground" "I", Cond.fieldLink RX2 56 "ChainLays$Chain" "run" "I", Cond.fieldLink RX2 59 "ChainLays$Chain" "reach" "I", Cond.methodLink RX2 24 yX2_climb, Cond.instanceMethod yX2_climb, Cond.selects RX2 yX2_climb yX2_climb, Cond.initialized RX2, Cond.code yX2_climb cX2_climb 5 none, Cond.fieldLink RX2 9 "ChainLays$Chain" "pull" "I", Cond.fieldLink RX2 15 "ChainLays$Chain" "weight" "I", Cond.fieldLink RX2 73 "ChainLays$Chain" "RUNS" "[I", Cond.methodLink RX2 65 yX2_root, Cond.static yX2_root, Cond.code yX2_root cX2_root 4 (some .int), Cond.methodLink RX2 69 yX2_rootFrom, Cond.static yX2_rootFrom, Cond.code yX2_rootFrom cX2_rootFrom 5 (some .int)]
def wsX2_findLie_r2 : List Cond := [Cond.methodLink RX2 50 yX2_findLift, Cond.instanceMethod yX2_findLift, Cond.selects RX2 yX2_findLift yX2_findLift, Cond.code yX2_findLift cX2_findLift 4 none, Cond.methodLink RX2 62 Lib.Math.min.name, Cond.static Lib.Math.min.name, Cond.initialized "java/lang/Math", Cond.code Lib.Math.min.name Lib.Math.min.code 2 (some .int)]
def wsX2_findLie : List Cond := .code yX2_findLie cX2_findLie 1 none :: ((wsX2_findLie_r1 ++ wsX2_findLie_r2) ++ wsX20)
def wsX1_measureSwing_r1 : List Cond := [Cond.fieldLink RX1 94 "ChainLays$Ship" "first" "LChainLays$Anchor;", Cond.fieldLink RX1 24 "ChainLays$Bay" "chain" "LChainLays$Chain;", Cond.fieldLink RX1 118 "ChainLays$Chain" "reach" "I", Cond.fieldLink RX1 121 "ChainLays$Ship" "length" "I", Cond.fieldLink RX1 124 "ChainLays$Ship" "swing" "I", Cond.methodLink RX1 79 yX6_pullBy, Cond.instanceMethod yX6_pullBy, Cond.selects RX6 yX6_pullBy yX6_pullBy, Cond.initialized RX6, Cond.code yX6_pullBy cX6_pullBy 2 (some .int), Cond.fieldLink RX6 34 "ChainLays$Ship" "area" "I", Cond.methodLink RX1 98 yX1_chainOf, Cond.instanceMethod yX1_chainOf, Cond.selects RX1 yX1_chainOf yX1_chainOf, Cond.initialized RX1, Cond.code yX1_chainOf cX1_chainOf 5 (some (.object "ChainLays$Chain")), Cond.fieldLink RX1 63 "ChainLays$Ship" "weight" "I", Cond.fieldLink RX1 66 "ChainLays$Anchor" "column" "I", Cond.methodLink RX1 71 yX1_depthAt, Cond.instanceMethod yX1_depthAt, Cond.selects RX1 yX1_depthAt yX1_depthAt, Cond.code yX1_depthAt cX1_depthAt 2 (some .int), Cond.fieldLink RX1 11 "ChainLays$Bay" "depths" "[I", Cond.methodLink RX1 75 yX2_take]
def wsX1_measureSwing_r2 : List Cond := [Cond.instanceMethod yX2_take, Cond.selects RX2 yX2_take yX2_take, Cond.initialized RX2, Cond.code yX2_take cX2_take 5 none, Cond.fieldLink RX2 9 "ChainLays$Chain" "pull" "I", Cond.fieldLink RX2 15 "ChainLays$Chain" "weight" "I", Cond.fieldLink RX2 18 "ChainLays$Chain" "links" "I", Cond.fieldLink RX2 21 "ChainLays$Chain" "depth" "I", Cond.methodLink RX1 115 yX2_findLie, Cond.instanceMethod yX2_findLie, Cond.selects RX2 yX2_findLie yX2_findLie, Cond.code yX2_findLie cX2_findLie 1 none, Cond.fieldLink RX2 44 "ChainLays$Chain" "hung" "I", Cond.fieldLink RX2 47 "ChainLays$Chain" "hang" "I", Cond.fieldLink RX2 35 "ChainLays$Chain" "lift" "I", Cond.fieldLink RX2 31 "ChainLays$Chain" "taut" "Z", Cond.fieldLink RX2 28 "ChainLays$Chain" "risen" "I", Cond.fieldLink RX2 53 "ChainLays$Chain" "ground" "I", Cond.fieldLink RX2 56 "ChainLays$Chain" "run" "I", Cond.fieldLink RX2 59 "ChainLays$Chain" "reach" "I", Cond.methodLink RX2 24 yX2_climb, Cond.instanceMethod yX2_climb, Cond.selects RX2 yX2_climb yX2_climb, Cond.code yX2_climb cX2_climb 5 none]
def wsX1_measureSwing_r3 : List Cond := [Cond.fieldLink RX2 73 "ChainLays$Chain" "RUNS" "[I", Cond.methodLink RX2 65 yX2_root, Cond.static yX2_root, Cond.code yX2_root cX2_root 4 (some .int), Cond.methodLink RX2 69 yX2_rootFrom, Cond.static yX2_rootFrom, Cond.code yX2_rootFrom cX2_rootFrom 5 (some .int), Cond.methodLink RX2 50 yX2_findLift, Cond.instanceMethod yX2_findLift, Cond.selects RX2 yX2_findLift yX2_findLift, Cond.code yX2_findLift cX2_findLift 4 none, Cond.methodLink RX2 62 Lib.Math.min.name, Cond.static Lib.Math.min.name, Cond.initialized "java/lang/Math", Cond.code Lib.Math.min.name Lib.Math.min.code 2 (some .int)]
def wsX1_measureSwing : List Cond := .code yX1_measureSwing cX1_measureSwing 4 none :: ((wsX1_measureSwing_r1 ++ (wsX1_measureSwing_r2 ++ wsX1_measureSwing_r3)) ++ wsX60 ++ wsX10 ++ wsX20 ++ wsX00)
def wsX1_measureSwings_r1 : List Cond := [Cond.fieldLink RX1 45 "ChainLays$Bay" "shipCount" "I", Cond.fieldLink RX1 17 "ChainLays$Bay" "ships" "[LChainLays$Ship;", Cond.fieldLink RX1 94 "ChainLays$Ship" "first" "LChainLays$Anchor;", Cond.fieldLink RX1 112 "ChainLays$Anchor" "links" "I", Cond.methodLink RX1 127 yX1_measureSwing, Cond.instanceMethod yX1_measureSwing, Cond.selects RX1 yX1_measureSwing yX1_measureSwing, Cond.initialized RX1, Cond.code yX1_measureSwing cX1_measureSwing 4 none, Cond.fieldLink RX1 24 "ChainLays$Bay" "chain" "LChainLays$Chain;", Cond.fieldLink RX1 118 "ChainLays$Chain" "reach" "I", Cond.fieldLink RX1 121 "ChainLays$Ship" "length" "I", Cond.fieldLink RX1 124 "ChainLays$Ship" "swing" "I", Cond.methodLink RX1 79 yX6_pullBy, Cond.instanceMethod yX6_pullBy, Cond.selects RX6 yX6_pullBy yX6_pullBy, Cond.initialized RX6, Cond.code yX6_pullBy cX6_pullBy 2 (some .int), Cond.fieldLink RX6 34 "ChainLays$Ship" "area" "I", Cond.methodLink RX1 98 yX1_chainOf, Cond.instanceMethod yX1_chainOf, Cond.selects RX1 yX1_chainOf yX1_chainOf, Cond.code yX1_chainOf cX1_chainOf 5 (some (.object "ChainLays$Chain")), Cond.fieldLink RX1 63 "ChainLays$Ship" "weight" "I"]
def wsX1_measureSwings_r2 : List Cond := [Cond.fieldLink RX1 66 "ChainLays$Anchor" "column" "I", Cond.methodLink RX1 71 yX1_depthAt, Cond.instanceMethod yX1_depthAt, Cond.selects RX1 yX1_depthAt yX1_depthAt, Cond.code yX1_depthAt cX1_depthAt 2 (some .int), Cond.fieldLink RX1 11 "ChainLays$Bay" "depths" "[I", Cond.methodLink RX1 75 yX2_take, Cond.instanceMethod yX2_take, Cond.selects RX2 yX2_take yX2_take, Cond.initialized RX2, Cond.code yX2_take cX2_take 5 none, Cond.fieldLink RX2 9 "ChainLays$Chain" "pull" "I", Cond.fieldLink RX2 15 "ChainLays$Chain" "weight" "I", Cond.fieldLink RX2 18 "ChainLays$Chain" "links" "I", Cond.fieldLink RX2 21 "ChainLays$Chain" "depth" "I", Cond.methodLink RX1 115 yX2_findLie, Cond.instanceMethod yX2_findLie, Cond.selects RX2 yX2_findLie yX2_findLie, Cond.code yX2_findLie cX2_findLie 1 none, Cond.fieldLink RX2 44 "ChainLays$Chain" "hung" "I", Cond.fieldLink RX2 47 "ChainLays$Chain" "hang" "I", Cond.fieldLink RX2 35 "ChainLays$Chain" "lift" "I", Cond.fieldLink RX2 31 "ChainLays$Chain" "taut" "Z", Cond.fieldLink RX2 28 "ChainLays$Chain" "risen" "I"]
def wsX1_measureSwings_r3 : List Cond := [Cond.fieldLink RX2 53 "ChainLays$Chain" "ground" "I", Cond.fieldLink RX2 56 "ChainLays$Chain" "run" "I", Cond.fieldLink RX2 59 "ChainLays$Chain" "reach" "I", Cond.methodLink RX2 24 yX2_climb, Cond.instanceMethod yX2_climb, Cond.selects RX2 yX2_climb yX2_climb, Cond.code yX2_climb cX2_climb 5 none, Cond.fieldLink RX2 73 "ChainLays$Chain" "RUNS" "[I", Cond.methodLink RX2 65 yX2_root, Cond.static yX2_root, Cond.code yX2_root cX2_root 4 (some .int), Cond.methodLink RX2 69 yX2_rootFrom, Cond.static yX2_rootFrom, Cond.code yX2_rootFrom cX2_rootFrom 5 (some .int), Cond.methodLink RX2 50 yX2_findLift, Cond.instanceMethod yX2_findLift, Cond.selects RX2 yX2_findLift yX2_findLift, Cond.code yX2_findLift cX2_findLift 4 none, Cond.methodLink RX2 62 Lib.Math.min.name, Cond.static Lib.Math.min.name, Cond.initialized "java/lang/Math", Cond.code Lib.Math.min.name Lib.Math.min.code 2 (some .int)]
def wsX1_measureSwings : List Cond := .code yX1_measureSwings cX1_measureSwings 3 none :: ((wsX1_measureSwings_r1 ++ (wsX1_measureSwings_r2 ++ wsX1_measureSwings_r3)) ++ wsX10 ++ wsX60 ++ wsX00 ++ wsX20)
def wsX6_isClearOf : List Cond := .code yX6_isClearOf cX6_isClearOf 5 (some .boolean) :: ([.fieldLink RX6 44 "ChainLays$Ship" "ashore" "Z", .fieldLink RX6 12 "ChainLays$Ship" "first" "LChainLays$Anchor;", .fieldLink RX6 50 "ChainLays$Anchor" "column" "I", .fieldLink RX6 53 "ChainLays$Anchor" "row" "I", .fieldLink RX6 56 "ChainLays$Ship" "swing" "I"] ++ wsX60 ++ wsX00)
def wsX1_isClearOfAll_r1 : List Cond := [Cond.fieldLink RX1 45 "ChainLays$Bay" "shipCount" "I", Cond.fieldLink RX1 17 "ChainLays$Bay" "ships" "[LChainLays$Ship;", Cond.methodLink RX1 127 yX1_measureSwing, Cond.instanceMethod yX1_measureSwing, Cond.selects RX1 yX1_measureSwing yX1_measureSwing, Cond.initialized RX1, Cond.code yX1_measureSwing cX1_measureSwing 4 none, Cond.fieldLink RX1 94 "ChainLays$Ship" "first" "LChainLays$Anchor;", Cond.fieldLink RX1 24 "ChainLays$Bay" "chain" "LChainLays$Chain;", Cond.fieldLink RX1 118 "ChainLays$Chain" "reach" "I", Cond.fieldLink RX1 121 "ChainLays$Ship" "length" "I", Cond.fieldLink RX1 124 "ChainLays$Ship" "swing" "I", Cond.methodLink RX1 79 yX6_pullBy, Cond.instanceMethod yX6_pullBy, Cond.selects RX6 yX6_pullBy yX6_pullBy, Cond.initialized RX6, Cond.code yX6_pullBy cX6_pullBy 2 (some .int), Cond.fieldLink RX6 34 "ChainLays$Ship" "area" "I", Cond.methodLink RX1 98 yX1_chainOf, Cond.instanceMethod yX1_chainOf, Cond.selects RX1 yX1_chainOf yX1_chainOf, Cond.code yX1_chainOf cX1_chainOf 5 (some (.object "ChainLays$Chain")), Cond.fieldLink RX1 63 "ChainLays$Ship" "weight" "I", Cond.fieldLink RX1 66 "ChainLays$Anchor" "column" "I"]
def wsX1_isClearOfAll_r2 : List Cond := [Cond.methodLink RX1 71 yX1_depthAt, Cond.instanceMethod yX1_depthAt, Cond.selects RX1 yX1_depthAt yX1_depthAt, Cond.code yX1_depthAt cX1_depthAt 2 (some .int), Cond.fieldLink RX1 11 "ChainLays$Bay" "depths" "[I", Cond.methodLink RX1 75 yX2_take, Cond.instanceMethod yX2_take, Cond.selects RX2 yX2_take yX2_take, Cond.initialized RX2, Cond.code yX2_take cX2_take 5 none, Cond.fieldLink RX2 9 "ChainLays$Chain" "pull" "I", Cond.fieldLink RX2 15 "ChainLays$Chain" "weight" "I", Cond.fieldLink RX2 18 "ChainLays$Chain" "links" "I", Cond.fieldLink RX2 21 "ChainLays$Chain" "depth" "I", Cond.methodLink RX1 115 yX2_findLie, Cond.instanceMethod yX2_findLie, Cond.selects RX2 yX2_findLie yX2_findLie, Cond.code yX2_findLie cX2_findLie 1 none, Cond.fieldLink RX2 44 "ChainLays$Chain" "hung" "I", Cond.fieldLink RX2 47 "ChainLays$Chain" "hang" "I", Cond.fieldLink RX2 35 "ChainLays$Chain" "lift" "I", Cond.fieldLink RX2 31 "ChainLays$Chain" "taut" "Z", Cond.fieldLink RX2 28 "ChainLays$Chain" "risen" "I", Cond.fieldLink RX2 53 "ChainLays$Chain" "ground" "I"]
def wsX1_isClearOfAll_r3 : List Cond := [Cond.fieldLink RX2 56 "ChainLays$Chain" "run" "I", Cond.fieldLink RX2 59 "ChainLays$Chain" "reach" "I", Cond.methodLink RX2 24 yX2_climb, Cond.instanceMethod yX2_climb, Cond.selects RX2 yX2_climb yX2_climb, Cond.code yX2_climb cX2_climb 5 none, Cond.fieldLink RX2 73 "ChainLays$Chain" "RUNS" "[I", Cond.methodLink RX2 65 yX2_root, Cond.static yX2_root, Cond.code yX2_root cX2_root 4 (some .int), Cond.methodLink RX2 69 yX2_rootFrom, Cond.static yX2_rootFrom, Cond.code yX2_rootFrom cX2_rootFrom 5 (some .int), Cond.methodLink RX2 50 yX2_findLift, Cond.instanceMethod yX2_findLift, Cond.selects RX2 yX2_findLift yX2_findLift, Cond.code yX2_findLift cX2_findLift 4 none, Cond.methodLink RX2 62 Lib.Math.min.name, Cond.static Lib.Math.min.name, Cond.initialized "java/lang/Math", Cond.code Lib.Math.min.name Lib.Math.min.code 2 (some .int), Cond.methodLink RX1 131 yX6_isClearOf, Cond.instanceMethod yX6_isClearOf, Cond.selects RX6 yX6_isClearOf yX6_isClearOf]
def wsX1_isClearOfAll_r4 : List Cond := [Cond.code yX6_isClearOf cX6_isClearOf 5 (some .boolean), Cond.fieldLink RX6 44 "ChainLays$Ship" "ashore" "Z", Cond.fieldLink RX6 12 "ChainLays$Ship" "first" "LChainLays$Anchor;", Cond.fieldLink RX6 50 "ChainLays$Anchor" "column" "I", Cond.fieldLink RX6 53 "ChainLays$Anchor" "row" "I", Cond.fieldLink RX6 56 "ChainLays$Ship" "swing" "I"]
def wsX1_isClearOfAll : List Cond := .code yX1_isClearOfAll cX1_isClearOfAll 5 (some .boolean) :: ((wsX1_isClearOfAll_r1 ++ (wsX1_isClearOfAll_r2 ++ (wsX1_isClearOfAll_r3 ++ wsX1_isClearOfAll_r4))) ++ wsX10 ++ wsX60 ++ wsX20 ++ wsX00)
def wsX7_oneIf : List Cond := .code yX7_oneIf cX7_oneIf 1 (some .int) :: ([])
def wsX1_drag_r1 : List Cond := [Cond.fieldLink RX1 94 "ChainLays$Ship" "first" "LChainLays$Anchor;", Cond.fieldLink RX1 109 "ChainLays$Ship" "second" "LChainLays$Anchor;", Cond.fieldLink RX1 66 "ChainLays$Anchor" "column" "I", Cond.fieldLink RX1 149 "ChainLays$Anchor" "row" "I", Cond.fieldLink RX1 82 "ChainLays$Ship" "moored" "Z", Cond.fieldLink RX1 135 "ChainLays$Ship" "ashore" "Z", Cond.fieldLink RX1 112 "ChainLays$Anchor" "links" "I", Cond.fieldLink RX1 160 "ChainLays$Ship" "dragged" "I", Cond.static yX7_oneIf, Cond.initialized RX7, Cond.code yX7_oneIf cX7_oneIf 1 (some .int), Cond.methodLink RX1 152 yX1_isCell, Cond.instanceMethod yX1_isCell, Cond.selects RX1 yX1_isCell yX1_isCell, Cond.initialized RX1, Cond.code yX1_isCell cX1_isCell 3 (some .boolean), Cond.fieldLink RX1 35 "ChainLays$Bay" "columns" "I", Cond.static yX7_within, Cond.code yX7_within cX7_within 3 (some .boolean), Cond.methodLink RX1 156 yX0_put, Cond.instanceMethod yX0_put, Cond.selects RX0 yX0_put yX0_put, Cond.initialized RX0, Cond.code yX0_put cX0_put 4 none]
def wsX1_drag_r2 : List Cond := [Cond.fieldLink RX0 7 "ChainLays$Anchor" "column" "I", Cond.fieldLink RX0 13 "ChainLays$Anchor" "row" "I", Cond.fieldLink RX0 16 "ChainLays$Anchor" "links" "I"]
def wsX1_drag : List Cond := .code yX1_drag cX1_drag 8 none :: ((wsX1_drag_r1 ++ wsX1_drag_r2) ++ wsX60 ++ wsX00 ++ wsX10)
def wsX1_passHour_r1 : List Cond := [Cond.fieldLink RX1 45 "ChainLays$Bay" "shipCount" "I", Cond.fieldLink RX1 17 "ChainLays$Bay" "ships" "[LChainLays$Ship;", Cond.fieldLink RX1 135 "ChainLays$Ship" "ashore" "Z", Cond.fieldLink RX1 94 "ChainLays$Ship" "first" "LChainLays$Anchor;", Cond.fieldLink RX1 112 "ChainLays$Anchor" "links" "I", Cond.fieldLink RX1 56 "ChainLays$Bay" "hour" "I", Cond.methodLink RX1 138 yX1_holdsBy, Cond.instanceMethod yX1_holdsBy, Cond.selects RX1 yX1_holdsBy yX1_holdsBy, Cond.initialized RX1, Cond.code yX1_holdsBy cX1_holdsBy 6 (some .boolean), Cond.fieldLink RX1 82 "ChainLays$Ship" "moored" "Z", Cond.methodLink RX1 79 yX6_pullBy, Cond.instanceMethod yX6_pullBy, Cond.selects RX6 yX6_pullBy yX6_pullBy, Cond.initialized RX6, Cond.code yX6_pullBy cX6_pullBy 2 (some .int), Cond.fieldLink RX6 34 "ChainLays$Ship" "area" "I", Cond.methodLink RX1 86 yX1_firstHolds, Cond.instanceMethod yX1_firstHolds, Cond.selects RX1 yX1_firstHolds yX1_firstHolds, Cond.code yX1_firstHolds cX1_firstHolds 4 (some .boolean), Cond.fieldLink RX1 102 "ChainLays$Ship" "grip" "I", Cond.methodLink RX1 98 yX1_chainOf]
def wsX1_passHour_r2 : List Cond := [Cond.instanceMethod yX1_chainOf, Cond.selects RX1 yX1_chainOf yX1_chainOf, Cond.code yX1_chainOf cX1_chainOf 5 (some (.object "ChainLays$Chain")), Cond.fieldLink RX1 24 "ChainLays$Bay" "chain" "LChainLays$Chain;", Cond.fieldLink RX1 63 "ChainLays$Ship" "weight" "I", Cond.fieldLink RX1 66 "ChainLays$Anchor" "column" "I", Cond.methodLink RX1 71 yX1_depthAt, Cond.instanceMethod yX1_depthAt, Cond.selects RX1 yX1_depthAt yX1_depthAt, Cond.code yX1_depthAt cX1_depthAt 2 (some .int), Cond.fieldLink RX1 11 "ChainLays$Bay" "depths" "[I", Cond.methodLink RX1 75 yX2_take, Cond.instanceMethod yX2_take, Cond.selects RX2 yX2_take yX2_take, Cond.initialized RX2, Cond.code yX2_take cX2_take 5 none, Cond.fieldLink RX2 9 "ChainLays$Chain" "pull" "I", Cond.fieldLink RX2 15 "ChainLays$Chain" "weight" "I", Cond.fieldLink RX2 18 "ChainLays$Chain" "links" "I", Cond.fieldLink RX2 21 "ChainLays$Chain" "depth" "I", Cond.methodLink RX1 105 yX2_holds, Cond.instanceMethod yX2_holds, Cond.selects RX2 yX2_holds yX2_holds, Cond.code yX2_holds cX2_holds 2 (some .boolean)]
def wsX1_passHour_r3 : List Cond := [Cond.fieldLink RX2 28 "ChainLays$Chain" "risen" "I", Cond.methodLink RX2 24 yX2_climb, Cond.instanceMethod yX2_climb, Cond.selects RX2 yX2_climb yX2_climb, Cond.code yX2_climb cX2_climb 5 none, Cond.fieldLink RX2 44 "ChainLays$Chain" "hung" "I", Cond.fieldLink RX2 56 "ChainLays$Chain" "run" "I", Cond.fieldLink RX2 73 "ChainLays$Chain" "RUNS" "[I", Cond.methodLink RX2 65 yX2_root, Cond.static yX2_root, Cond.code yX2_root cX2_root 4 (some .int), Cond.methodLink RX2 69 yX2_rootFrom, Cond.static yX2_rootFrom, Cond.code yX2_rootFrom cX2_rootFrom 5 (some .int), Cond.methodLink RX1 90 yX1_secondHolds, Cond.instanceMethod yX1_secondHolds, Cond.selects RX1 yX1_secondHolds yX1_secondHolds, Cond.code yX1_secondHolds cX1_secondHolds 3 (some .boolean), Cond.fieldLink RX1 109 "ChainLays$Ship" "second" "LChainLays$Anchor;", Cond.methodLink RX1 141 yX1_drag, Cond.instanceMethod yX1_drag, Cond.selects RX1 yX1_drag yX1_drag, Cond.code yX1_drag cX1_drag 8 none, Cond.fieldLink RX1 149 "ChainLays$Anchor" "row" "I"]
def wsX1_passHour_r4 : List Cond := [Cond.fieldLink RX1 160 "ChainLays$Ship" "dragged" "I", Cond.static yX7_oneIf, Cond.initialized RX7, Cond.code yX7_oneIf cX7_oneIf 1 (some .int), Cond.methodLink RX1 152 yX1_isCell, Cond.instanceMethod yX1_isCell, Cond.selects RX1 yX1_isCell yX1_isCell, Cond.code yX1_isCell cX1_isCell 3 (some .boolean), Cond.fieldLink RX1 35 "ChainLays$Bay" "columns" "I", Cond.static yX7_within, Cond.code yX7_within cX7_within 3 (some .boolean), Cond.methodLink RX1 156 yX0_put, Cond.instanceMethod yX0_put, Cond.selects RX0 yX0_put yX0_put, Cond.initialized RX0, Cond.code yX0_put cX0_put 4 none, Cond.fieldLink RX0 7 "ChainLays$Anchor" "column" "I", Cond.fieldLink RX0 13 "ChainLays$Anchor" "row" "I", Cond.fieldLink RX0 16 "ChainLays$Anchor" "links" "I"]
def wsX1_passHour : List Cond := .code yX1_passHour cX1_passHour 6 (some .int) :: ((wsX1_passHour_r1 ++ (wsX1_passHour_r2 ++ (wsX1_passHour_r3 ++ wsX1_passHour_r4))) ++ wsX10 ++ wsX60 ++ wsX00 ++ wsX20)
def wsX1_countHolding_r1 : List Cond := [Cond.fieldLink RX1 45 "ChainLays$Bay" "shipCount" "I", Cond.fieldLink RX1 17 "ChainLays$Bay" "ships" "[LChainLays$Ship;", Cond.fieldLink RX1 135 "ChainLays$Ship" "ashore" "Z", Cond.fieldLink RX1 94 "ChainLays$Ship" "first" "LChainLays$Anchor;", Cond.fieldLink RX1 112 "ChainLays$Anchor" "links" "I", Cond.methodLink RX1 138 yX1_holdsBy, Cond.instanceMethod yX1_holdsBy, Cond.selects RX1 yX1_holdsBy yX1_holdsBy, Cond.initialized RX1, Cond.code yX1_holdsBy cX1_holdsBy 6 (some .boolean), Cond.fieldLink RX1 82 "ChainLays$Ship" "moored" "Z", Cond.methodLink RX1 79 yX6_pullBy, Cond.instanceMethod yX6_pullBy, Cond.selects RX6 yX6_pullBy yX6_pullBy, Cond.initialized RX6, Cond.code yX6_pullBy cX6_pullBy 2 (some .int), Cond.fieldLink RX6 34 "ChainLays$Ship" "area" "I", Cond.methodLink RX1 86 yX1_firstHolds, Cond.instanceMethod yX1_firstHolds, Cond.selects RX1 yX1_firstHolds yX1_firstHolds, Cond.code yX1_firstHolds cX1_firstHolds 4 (some .boolean), Cond.fieldLink RX1 102 "ChainLays$Ship" "grip" "I", Cond.methodLink RX1 98 yX1_chainOf, Cond.instanceMethod yX1_chainOf]
def wsX1_countHolding_r2 : List Cond := [Cond.selects RX1 yX1_chainOf yX1_chainOf, Cond.code yX1_chainOf cX1_chainOf 5 (some (.object "ChainLays$Chain")), Cond.fieldLink RX1 24 "ChainLays$Bay" "chain" "LChainLays$Chain;", Cond.fieldLink RX1 63 "ChainLays$Ship" "weight" "I", Cond.fieldLink RX1 66 "ChainLays$Anchor" "column" "I", Cond.methodLink RX1 71 yX1_depthAt, Cond.instanceMethod yX1_depthAt, Cond.selects RX1 yX1_depthAt yX1_depthAt, Cond.code yX1_depthAt cX1_depthAt 2 (some .int), Cond.fieldLink RX1 11 "ChainLays$Bay" "depths" "[I", Cond.methodLink RX1 75 yX2_take, Cond.instanceMethod yX2_take, Cond.selects RX2 yX2_take yX2_take, Cond.initialized RX2, Cond.code yX2_take cX2_take 5 none, Cond.fieldLink RX2 9 "ChainLays$Chain" "pull" "I", Cond.fieldLink RX2 15 "ChainLays$Chain" "weight" "I", Cond.fieldLink RX2 18 "ChainLays$Chain" "links" "I", Cond.fieldLink RX2 21 "ChainLays$Chain" "depth" "I", Cond.methodLink RX1 105 yX2_holds, Cond.instanceMethod yX2_holds, Cond.selects RX2 yX2_holds yX2_holds, Cond.code yX2_holds cX2_holds 2 (some .boolean), Cond.fieldLink RX2 28 "ChainLays$Chain" "risen" "I"]
def wsX1_countHolding_r3 : List Cond := [Cond.methodLink RX2 24 yX2_climb, Cond.instanceMethod yX2_climb, Cond.selects RX2 yX2_climb yX2_climb, Cond.code yX2_climb cX2_climb 5 none, Cond.fieldLink RX2 44 "ChainLays$Chain" "hung" "I", Cond.fieldLink RX2 56 "ChainLays$Chain" "run" "I", Cond.fieldLink RX2 73 "ChainLays$Chain" "RUNS" "[I", Cond.methodLink RX2 65 yX2_root, Cond.static yX2_root, Cond.code yX2_root cX2_root 4 (some .int), Cond.methodLink RX2 69 yX2_rootFrom, Cond.static yX2_rootFrom, Cond.code yX2_rootFrom cX2_rootFrom 5 (some .int), Cond.methodLink RX1 90 yX1_secondHolds, Cond.instanceMethod yX1_secondHolds, Cond.selects RX1 yX1_secondHolds yX1_secondHolds, Cond.code yX1_secondHolds cX1_secondHolds 3 (some .boolean), Cond.fieldLink RX1 109 "ChainLays$Ship" "second" "LChainLays$Anchor;", Cond.static yX7_oneIf, Cond.initialized RX7, Cond.code yX7_oneIf cX7_oneIf 1 (some .int)]
def wsX1_countHolding : List Cond := .code yX1_countHolding cX1_countHolding 5 (some .int) :: ((wsX1_countHolding_r1 ++ (wsX1_countHolding_r2 ++ wsX1_countHolding_r3)) ++ wsX10 ++ wsX60 ++ wsX00 ++ wsX20)
def wsX1_countMeeting : List Cond := .code yX1_countMeeting cX1_countMeeting 4 (some .int) :: ([.fieldLink RX1 45 "ChainLays$Bay" "shipCount" "I", .fieldLink RX1 17 "ChainLays$Bay" "ships" "[LChainLays$Ship;", .methodLink RX1 131 yX6_isClearOf, .instanceMethod yX6_isClearOf, .selects RX6 yX6_isClearOf yX6_isClearOf, .initialized RX6, .code yX6_isClearOf cX6_isClearOf 5 (some .boolean), .fieldLink RX6 44 "ChainLays$Ship" "ashore" "Z", .fieldLink RX6 12 "ChainLays$Ship" "first" "LChainLays$Anchor;", .fieldLink RX6 50 "ChainLays$Anchor" "column" "I", .fieldLink RX6 53 "ChainLays$Anchor" "row" "I", .fieldLink RX6 56 "ChainLays$Ship" "swing" "I", .static yX7_oneIf, .initialized RX7, .code yX7_oneIf cX7_oneIf 1 (some .int)] ++ wsX10 ++ wsX60 ++ wsX00)
def wsX1_countAshore : List Cond := .code yX1_countAshore cX1_countAshore 3 (some .int) :: ([.fieldLink RX1 45 "ChainLays$Bay" "shipCount" "I", .fieldLink RX1 17 "ChainLays$Bay" "ships" "[LChainLays$Ship;", .fieldLink RX1 135 "ChainLays$Ship" "ashore" "Z", .static yX7_oneIf, .initialized RX7, .code yX7_oneIf cX7_oneIf 1 (some .int)] ++ wsX10 ++ wsX60)
def wsX1_countMoored : List Cond := .code yX1_countMoored cX1_countMoored 3 (some .int) :: ([.fieldLink RX1 45 "ChainLays$Bay" "shipCount" "I", .fieldLink RX1 17 "ChainLays$Bay" "ships" "[LChainLays$Ship;", .fieldLink RX1 82 "ChainLays$Ship" "moored" "Z", .static yX7_oneIf, .initialized RX7, .code yX7_oneIf cX7_oneIf 1 (some .int)] ++ wsX10 ++ wsX60)
def wsX1_countLinksOut : List Cond := .code yX1_countLinksOut cX1_countLinksOut 4 (some .int) :: ([.fieldLink RX1 45 "ChainLays$Bay" "shipCount" "I", .fieldLink RX1 17 "ChainLays$Bay" "ships" "[LChainLays$Ship;", .fieldLink RX1 135 "ChainLays$Ship" "ashore" "Z", .fieldLink RX1 94 "ChainLays$Ship" "first" "LChainLays$Anchor;", .fieldLink RX1 112 "ChainLays$Anchor" "links" "I", .fieldLink RX1 82 "ChainLays$Ship" "moored" "Z", .fieldLink RX1 109 "ChainLays$Ship" "second" "LChainLays$Anchor;"] ++ wsX10 ++ wsX60 ++ wsX00)
def wsX6_save : List Cond := .code yX6_save cX6_save 4 none :: ([.fieldLink RX6 12 "ChainLays$Ship" "first" "LChainLays$Anchor;", .fieldLink RX6 18 "ChainLays$Ship" "second" "LChainLays$Anchor;", .fieldLink RX6 40 "ChainLays$Ship" "moored" "Z", .fieldLink RX6 44 "ChainLays$Ship" "ashore" "Z", .fieldLink RX6 47 "ChainLays$Ship" "dragged" "I", .methodLink RX6 59 yX0_save, .instanceMethod yX0_save, .selects RX0 yX0_save yX0_save, .initialized RX0, .code yX0_save cX0_save 3 none, .fieldLink RX0 7 "ChainLays$Anchor" "column" "I", .fieldLink RX0 13 "ChainLays$Anchor" "row" "I", .fieldLink RX0 16 "ChainLays$Anchor" "links" "I", .static yX7_oneIf, .initialized RX7, .code yX7_oneIf cX7_oneIf 1 (some .int)] ++ wsX60 ++ wsX00)
def wsX1_save : List Cond := .code yX1_save cX1_save 3 none :: ([.fieldLink RX1 56 "ChainLays$Bay" "hour" "I", .fieldLink RX1 45 "ChainLays$Bay" "shipCount" "I", .fieldLink RX1 17 "ChainLays$Bay" "ships" "[LChainLays$Ship;", .methodLink RX1 163 yX6_save, .instanceMethod yX6_save, .selects RX6 yX6_save yX6_save, .initialized RX6, .code yX6_save cX6_save 4 none, .fieldLink RX6 12 "ChainLays$Ship" "first" "LChainLays$Anchor;", .fieldLink RX6 18 "ChainLays$Ship" "second" "LChainLays$Anchor;", .fieldLink RX6 40 "ChainLays$Ship" "moored" "Z", .fieldLink RX6 44 "ChainLays$Ship" "ashore" "Z", .fieldLink RX6 47 "ChainLays$Ship" "dragged" "I", .methodLink RX6 59 yX0_save, .instanceMethod yX0_save, .selects RX0 yX0_save yX0_save, .initialized RX0, .code yX0_save cX0_save 3 none, .fieldLink RX0 7 "ChainLays$Anchor" "column" "I", .fieldLink RX0 13 "ChainLays$Anchor" "row" "I", .fieldLink RX0 16 "ChainLays$Anchor" "links" "I", .static yX7_oneIf, .initialized RX7, .code yX7_oneIf cX7_oneIf 1 (some .int)] ++ wsX10 ++ wsX60 ++ wsX00)
def wsX6_restore : List Cond := .code yX6_restore cX6_restore 4 none :: ([.fieldLink RX6 12 "ChainLays$Ship" "first" "LChainLays$Anchor;", .fieldLink RX6 18 "ChainLays$Ship" "second" "LChainLays$Anchor;", .fieldLink RX6 40 "ChainLays$Ship" "moored" "Z", .fieldLink RX6 44 "ChainLays$Ship" "ashore" "Z", .fieldLink RX6 47 "ChainLays$Ship" "dragged" "I", .methodLink RX6 67 yX0_restore, .instanceMethod yX0_restore, .selects RX0 yX0_restore yX0_restore, .initialized RX0, .code yX0_restore cX0_restore 3 none, .methodLink RX0 19 yX0_put, .instanceMethod yX0_put, .selects RX0 yX0_put yX0_put, .code yX0_put cX0_put 4 none, .fieldLink RX0 7 "ChainLays$Anchor" "column" "I", .fieldLink RX0 13 "ChainLays$Anchor" "row" "I", .fieldLink RX0 16 "ChainLays$Anchor" "links" "I"] ++ wsX60 ++ wsX00)
def wsX1_restore_r1 : List Cond := [Cond.fieldLink RX1 56 "ChainLays$Bay" "hour" "I", Cond.fieldLink RX1 45 "ChainLays$Bay" "shipCount" "I", Cond.fieldLink RX1 17 "ChainLays$Bay" "ships" "[LChainLays$Ship;", Cond.methodLink RX1 167 yX6_restore, Cond.instanceMethod yX6_restore, Cond.selects RX6 yX6_restore yX6_restore, Cond.initialized RX6, Cond.code yX6_restore cX6_restore 4 none, Cond.fieldLink RX6 12 "ChainLays$Ship" "first" "LChainLays$Anchor;", Cond.fieldLink RX6 18 "ChainLays$Ship" "second" "LChainLays$Anchor;", Cond.fieldLink RX6 40 "ChainLays$Ship" "moored" "Z", Cond.fieldLink RX6 44 "ChainLays$Ship" "ashore" "Z", Cond.fieldLink RX6 47 "ChainLays$Ship" "dragged" "I", Cond.methodLink RX6 67 yX0_restore, Cond.instanceMethod yX0_restore, Cond.selects RX0 yX0_restore yX0_restore, Cond.initialized RX0, Cond.code yX0_restore cX0_restore 3 none, Cond.methodLink RX0 19 yX0_put, Cond.instanceMethod yX0_put, Cond.selects RX0 yX0_put yX0_put, Cond.code yX0_put cX0_put 4 none, Cond.fieldLink RX0 7 "ChainLays$Anchor" "column" "I", Cond.fieldLink RX0 13 "ChainLays$Anchor" "row" "I"]
def wsX1_restore_r2 : List Cond := [Cond.fieldLink RX0 16 "ChainLays$Anchor" "links" "I"]
def wsX1_restore : List Cond := .code yX1_restore cX1_restore 3 none :: ((wsX1_restore_r1 ++ wsX1_restore_r2) ++ wsX10 ++ wsX60 ++ wsX00)
def wsX2_holding : List Cond := .code yX2_holding cX2_holding 2 (some .int) :: ([.fieldLink RX2 31 "ChainLays$Chain" "taut" "Z", .fieldLink RX2 35 "ChainLays$Chain" "lift" "I", .methodLink RX2 38 Lib.Math.max.name, .static Lib.Math.max.name, .initialized "java/lang/Math", .code Lib.Math.max.name Lib.Math.max.code 2 (some .int)] ++ wsX20)
def wsX3_init : List Cond := .code yX3_init cX3_init 1 none :: ([.methodLink RX3 3 objectInit, .instanceMethod objectInit, .code objectInit ⟨#[0xb1]⟩ 1 none, .arrayClass .char, .fieldLink RX3 9 "ChainLays$Letters" "letters" "[C"] ++ wsX30)
def wsX3_append : List Cond := .code yX3_append cX3_append 2 (some .boolean) :: ([.fieldLink RX3 15 "ChainLays$Letters" "length" "I", .fieldLink RX3 9 "ChainLays$Letters" "letters" "[C"] ++ wsX30)
def wsX3_clear : List Cond := .code yX3_clear cX3_clear 1 none :: ([.fieldLink RX3 15 "ChainLays$Letters" "length" "I"] ++ wsX30)
def wsX3_letterAt : List Cond := .code yX3_letterAt cX3_letterAt 2 (some .char) :: ([.fieldLink RX3 15 "ChainLays$Letters" "length" "I", .fieldLink RX3 9 "ChainLays$Letters" "letters" "[C"] ++ wsX30)
def wsX4_init : List Cond := .code yX4_init cX4_init 1 none :: ([.methodLink RX4 3 objectInit, .instanceMethod objectInit, .code objectInit ⟨#[0xb1]⟩ 1 none, .classLink RX4 11 "[[I", .arrayClass .int, .fieldLink RX4 13 "ChainLays$Past" "rows" "[[I"] ++ wsX40)
def wsX4_rowForNext : List Cond := .code yX4_rowForNext cX4_rowForNext 2 (some (.array .int)) :: ([.fieldLink RX4 13 "ChainLays$Past" "rows" "[[I", .fieldLink RX4 18 "ChainLays$Past" "next" "I", .fieldLink RX4 22 "ChainLays$Past" "size" "I", .methodLink RX4 25 Lib.Math.min.name, .static Lib.Math.min.name, .initialized "java/lang/Math", .code Lib.Math.min.name Lib.Math.min.code 2 (some .int)] ++ wsX40)
def wsX4_takeLatest : List Cond := .code yX4_takeLatest cX4_takeLatest 1 (some (.array .int)) :: ([.fieldLink RX4 22 "ChainLays$Past" "size" "I", .fieldLink RX4 18 "ChainLays$Past" "next" "I", .fieldLink RX4 13 "ChainLays$Past" "rows" "[[I"] ++ wsX40)
def wsX4_clear : List Cond := .code yX4_clear cX4_clear 1 none :: ([.fieldLink RX4 22 "ChainLays$Past" "size" "I"] ++ wsX40)
def wsX5_init : List Cond := .code yX5_init cX5_init 1 none :: ([.methodLink RX5 3 objectInit, .instanceMethod objectInit, .code objectInit ⟨#[0xb1]⟩ 1 none, .arrayClass .int, .fieldLink RX5 9 "ChainLays$Plan" "depths" "[I", .classLink RX5 15 "[[I", .fieldLink RX5 17 "ChainLays$Plan" "numbers" "[[I"] ++ wsX50)
def wsX5_readNumber : List Cond := .code yX5_readNumber cX5_readNumber 4 (some .int) :: ([.fieldLink RX5 27 "ChainLays$Plan" "place" "I", .methodLink RX5 39 yX3_letterAt, .instanceMethod yX3_letterAt, .selects RX3 yX3_letterAt yX3_letterAt, .initialized RX3, .code yX3_letterAt cX3_letterAt 2 (some .char), .fieldLink RX3 15 "ChainLays$Letters" "length" "I", .fieldLink RX3 9 "ChainLays$Letters" "letters" "[C", .static yX7_within, .initialized RX7, .code yX7_within cX7_within 3 (some .boolean)] ++ wsX50 ++ wsX30)
def wsX5_readSign : List Cond := .code yX5_readSign cX5_readSign 3 (some .boolean) :: ([.fieldLink RX5 27 "ChainLays$Plan" "place" "I", .methodLink RX5 39 yX3_letterAt, .instanceMethod yX3_letterAt, .selects RX3 yX3_letterAt yX3_letterAt, .initialized RX3, .code yX3_letterAt cX3_letterAt 2 (some .char), .fieldLink RX3 15 "ChainLays$Letters" "length" "I", .fieldLink RX3 9 "ChainLays$Letters" "letters" "[C"] ++ wsX50 ++ wsX30)
def wsX5_readColumn : List Cond := .code yX5_readColumn cX5_readColumn 3 (some .boolean) :: ([.fieldLink RX5 20 "ChainLays$Plan" "columns" "I", .fieldLink RX5 9 "ChainLays$Plan" "depths" "[I", .methodLink RX5 49 yX5_readNumber, .instanceMethod yX5_readNumber, .selects RX5 yX5_readNumber yX5_readNumber, .initialized RX5, .code yX5_readNumber cX5_readNumber 4 (some .int), .fieldLink RX5 27 "ChainLays$Plan" "place" "I", .methodLink RX5 39 yX3_letterAt, .instanceMethod yX3_letterAt, .selects RX3 yX3_letterAt yX3_letterAt, .initialized RX3, .code yX3_letterAt cX3_letterAt 2 (some .char), .fieldLink RX3 15 "ChainLays$Letters" "length" "I", .fieldLink RX3 9 "ChainLays$Letters" "letters" "[C", .static yX7_within, .initialized RX7, .code yX7_within cX7_within 3 (some .boolean), .methodLink RX5 57 yX5_readSign, .instanceMethod yX5_readSign, .selects RX5 yX5_readSign yX5_readSign, .code yX5_readSign cX5_readSign 3 (some .boolean)] ++ wsX50 ++ wsX30)
def wsX5_readShip_r1 : List Cond := [Cond.fieldLink RX5 24 "ChainLays$Plan" "ships" "I", Cond.fieldLink RX5 17 "ChainLays$Plan" "numbers" "[[I", Cond.fieldLink RX5 20 "ChainLays$Plan" "columns" "I", Cond.fieldLink RX5 61 "ChainLays$Plan" "MOST" "[I", Cond.fieldLink RX5 64 "ChainLays$Plan" "LEAST" "[I", Cond.methodLink RX5 49 yX5_readNumber, Cond.instanceMethod yX5_readNumber, Cond.selects RX5 yX5_readNumber yX5_readNumber, Cond.initialized RX5, Cond.code yX5_readNumber cX5_readNumber 4 (some .int), Cond.fieldLink RX5 27 "ChainLays$Plan" "place" "I", Cond.methodLink RX5 39 yX3_letterAt, Cond.instanceMethod yX3_letterAt, Cond.selects RX3 yX3_letterAt yX3_letterAt, Cond.initialized RX3, Cond.code yX3_letterAt cX3_letterAt 2 (some .char), Cond.fieldLink RX3 15 "ChainLays$Letters" "length" "I", Cond.fieldLink RX3 9 "ChainLays$Letters" "letters" "[C", Cond.static yX7_within, Cond.initialized RX7, Cond.code yX7_within cX7_within 3 (some .boolean), Cond.methodLink RX5 57 yX5_readSign, Cond.instanceMethod yX5_readSign, Cond.selects RX5 yX5_readSign yX5_readSign]
def wsX5_readShip_r2 : List Cond := [Cond.code yX5_readSign cX5_readSign 3 (some .boolean)]
def wsX5_readShip : List Cond := .code yX5_readShip cX5_readShip 6 (some .boolean) :: ((wsX5_readShip_r1 ++ wsX5_readShip_r2) ++ wsX50 ++ wsX30)
def wsX5_readItem_r1 : List Cond := [Cond.fieldLink RX5 27 "ChainLays$Plan" "place" "I", Cond.methodLink RX5 39 yX3_letterAt, Cond.instanceMethod yX3_letterAt, Cond.selects RX3 yX3_letterAt yX3_letterAt, Cond.initialized RX3, Cond.code yX3_letterAt cX3_letterAt 2 (some .char), Cond.fieldLink RX3 15 "ChainLays$Letters" "length" "I", Cond.fieldLink RX3 9 "ChainLays$Letters" "letters" "[C", Cond.methodLink RX5 43 yX5_readColumn, Cond.instanceMethod yX5_readColumn, Cond.selects RX5 yX5_readColumn yX5_readColumn, Cond.initialized RX5, Cond.code yX5_readColumn cX5_readColumn 3 (some .boolean), Cond.fieldLink RX5 20 "ChainLays$Plan" "columns" "I", Cond.fieldLink RX5 9 "ChainLays$Plan" "depths" "[I", Cond.methodLink RX5 49 yX5_readNumber, Cond.instanceMethod yX5_readNumber, Cond.selects RX5 yX5_readNumber yX5_readNumber, Cond.code yX5_readNumber cX5_readNumber 4 (some .int), Cond.static yX7_within, Cond.initialized RX7, Cond.code yX7_within cX7_within 3 (some .boolean), Cond.methodLink RX5 57 yX5_readSign, Cond.instanceMethod yX5_readSign]
def wsX5_readItem_r2 : List Cond := [Cond.selects RX5 yX5_readSign yX5_readSign, Cond.code yX5_readSign cX5_readSign 3 (some .boolean), Cond.methodLink RX5 46 yX5_readShip, Cond.instanceMethod yX5_readShip, Cond.selects RX5 yX5_readShip yX5_readShip, Cond.code yX5_readShip cX5_readShip 6 (some .boolean), Cond.fieldLink RX5 24 "ChainLays$Plan" "ships" "I", Cond.fieldLink RX5 17 "ChainLays$Plan" "numbers" "[[I", Cond.fieldLink RX5 61 "ChainLays$Plan" "MOST" "[I", Cond.fieldLink RX5 64 "ChainLays$Plan" "LEAST" "[I"]
def wsX5_readItem : List Cond := .code yX5_readItem cX5_readItem 3 (some .boolean) :: ((wsX5_readItem_r1 ++ wsX5_readItem_r2) ++ wsX50 ++ wsX30)
def wsX5_read_r1 : List Cond := [Cond.fieldLink RX5 20 "ChainLays$Plan" "columns" "I", Cond.fieldLink RX5 24 "ChainLays$Plan" "ships" "I", Cond.fieldLink RX5 27 "ChainLays$Plan" "place" "I", Cond.fieldLink RX5 30 "ChainLays$Letters" "length" "I", Cond.methodLink RX5 35 yX5_readItem, Cond.instanceMethod yX5_readItem, Cond.selects RX5 yX5_readItem yX5_readItem, Cond.initialized RX5, Cond.code yX5_readItem cX5_readItem 3 (some .boolean), Cond.methodLink RX5 39 yX3_letterAt, Cond.instanceMethod yX3_letterAt, Cond.selects RX3 yX3_letterAt yX3_letterAt, Cond.initialized RX3, Cond.code yX3_letterAt cX3_letterAt 2 (some .char), Cond.fieldLink RX3 15 "ChainLays$Letters" "length" "I", Cond.fieldLink RX3 9 "ChainLays$Letters" "letters" "[C", Cond.methodLink RX5 43 yX5_readColumn, Cond.instanceMethod yX5_readColumn, Cond.selects RX5 yX5_readColumn yX5_readColumn, Cond.code yX5_readColumn cX5_readColumn 3 (some .boolean), Cond.fieldLink RX5 9 "ChainLays$Plan" "depths" "[I", Cond.methodLink RX5 49 yX5_readNumber, Cond.instanceMethod yX5_readNumber, Cond.selects RX5 yX5_readNumber yX5_readNumber]
def wsX5_read_r2 : List Cond := [Cond.code yX5_readNumber cX5_readNumber 4 (some .int), Cond.static yX7_within, Cond.initialized RX7, Cond.code yX7_within cX7_within 3 (some .boolean), Cond.methodLink RX5 57 yX5_readSign, Cond.instanceMethod yX5_readSign, Cond.selects RX5 yX5_readSign yX5_readSign, Cond.code yX5_readSign cX5_readSign 3 (some .boolean), Cond.methodLink RX5 46 yX5_readShip, Cond.instanceMethod yX5_readShip, Cond.selects RX5 yX5_readShip yX5_readShip, Cond.code yX5_readShip cX5_readShip 6 (some .boolean), Cond.fieldLink RX5 17 "ChainLays$Plan" "numbers" "[[I", Cond.fieldLink RX5 61 "ChainLays$Plan" "MOST" "[I", Cond.fieldLink RX5 64 "ChainLays$Plan" "LEAST" "[I"]
def wsX5_read : List Cond := .code yX5_read cX5_read 4 (some .int) :: ((wsX5_read_r1 ++ wsX5_read_r2) ++ wsX50 ++ wsX30)
def wsX6_anchorAt : List Cond := .code yX6_anchorAt cX6_anchorAt 2 (some (.object "ChainLays$Anchor")) :: ([.fieldLink RX6 12 "ChainLays$Ship" "first" "LChainLays$Anchor;", .fieldLink RX6 40 "ChainLays$Ship" "moored" "Z", .fieldLink RX6 18 "ChainLays$Ship" "second" "LChainLays$Anchor;"] ++ wsX60)
def wsJ0_coder_7d493 : List Cond := .code yJ0_coder_7d493 cJ0_coder_7d493 1 (some .byte) :: ([.fieldLink RJ0 38 "java/lang/String" "COMPACT_STRINGS" "Z", .fieldLink RJ0 15 "java/lang/String" "coder" "B"])
def wsJ0_length_8abf5 : List Cond := .code yJ0_length_8abf5 cJ0_length_8abf5 1 (some .int) :: ([.fieldLink RJ0 9 "java/lang/String" "value" "[B", .methodLink RJ0 335 yJ0_coder_7d493, .instanceMethod yJ0_coder_7d493, .selects RJ0 yJ0_coder_7d493 yJ0_coder_7d493, .initialized RJ0, .code yJ0_coder_7d493 cJ0_coder_7d493 1 (some .byte), .fieldLink RJ0 38 "java/lang/String" "COMPACT_STRINGS" "Z", .fieldLink RJ0 15 "java/lang/String" "coder" "B"])
def wsJ0_isLatin1_aae02 : List Cond := .code yJ0_isLatin1_aae02 cJ0_isLatin1_aae02 1 (some .boolean) :: ([.fieldLink RJ0 38 "java/lang/String" "COMPACT_STRINGS" "Z", .fieldLink RJ0 15 "java/lang/String" "coder" "B"])
def wsJ3_checkIndex_8e157 : List Cond := .code yJ3_checkIndex_8e157 cJ3_checkIndex_8e157 3 (some .int) :: ([])
def wsJ0_checkIndex_df160 : List Cond := .code yJ0_checkIndex_df160 cJ0_checkIndex_df160 2 none :: ([.fieldLink RJ0 1053 "jdk/internal/util/Preconditions" "SIOOBE_FORMATTER" "Ljava/util/function/BiFunction;", .methodLink RJ0 1059 yJ3_checkIndex_8e157, .static yJ3_checkIndex_8e157, .initialized RJ3, .code yJ3_checkIndex_8e157 cJ3_checkIndex_8e157 3 (some .int)])
def wsJ1_charAt_3b067 : List Cond := .code yJ1_charAt_3b067 cJ1_charAt_3b067 2 (some .char) :: ([.methodLink RJ1 9 yJ0_checkIndex_df160, .static yJ0_checkIndex_df160, .initialized RJ0, .code yJ0_checkIndex_df160 cJ0_checkIndex_df160 2 none, .fieldLink RJ0 1053 "jdk/internal/util/Preconditions" "SIOOBE_FORMATTER" "Ljava/util/function/BiFunction;", .methodLink RJ0 1059 yJ3_checkIndex_8e157, .static yJ3_checkIndex_8e157, .initialized RJ3, .code yJ3_checkIndex_8e157 cJ3_checkIndex_8e157 3 (some .int)])
def wsJ2_length_9d52b : List Cond := .code yJ2_length_9d52b cJ2_length_9d52b 1 (some .int) :: ([])
def wsJ2_checkIndex_2214a : List Cond := .code yJ2_checkIndex_2214a cJ2_checkIndex_2214a 2 none :: ([.methodLink RJ2 48 yJ2_length_9d52b, .static yJ2_length_9d52b, .initialized RJ2, .code yJ2_length_9d52b cJ2_length_9d52b 1 (some .int), .methodLink RJ2 414 yJ0_checkIndex_df160, .static yJ0_checkIndex_df160, .initialized RJ0, .code yJ0_checkIndex_df160 cJ0_checkIndex_df160 2 none, .fieldLink RJ0 1053 "jdk/internal/util/Preconditions" "SIOOBE_FORMATTER" "Ljava/util/function/BiFunction;", .methodLink RJ0 1059 yJ3_checkIndex_8e157, .static yJ3_checkIndex_8e157, .initialized RJ3, .code yJ3_checkIndex_8e157 cJ3_checkIndex_8e157 3 (some .int)])
def wsJ2_getChar_3b067 : List Cond := .code yJ2_getChar_3b067 cJ2_getChar_3b067 2 (some .char) :: ([.fieldLink RJ2 44 "java/lang/StringUTF16" "$assertionsDisabled" "Z", .fieldLink RJ2 59 "java/lang/StringUTF16" "HI_BYTE_SHIFT" "I", .fieldLink RJ2 63 "java/lang/StringUTF16" "LO_BYTE_SHIFT" "I", .methodLink RJ2 48 yJ2_length_9d52b, .static yJ2_length_9d52b, .initialized RJ2, .code yJ2_length_9d52b cJ2_length_9d52b 1 (some .int)])
def wsJ2_charAt_3b067 : List Cond := .code yJ2_charAt_3b067 cJ2_charAt_3b067 2 (some .char) :: ([.methodLink RJ2 67 yJ2_checkIndex_2214a, .static yJ2_checkIndex_2214a, .initialized RJ2, .code yJ2_checkIndex_2214a cJ2_checkIndex_2214a 2 none, .methodLink RJ2 48 yJ2_length_9d52b, .static yJ2_length_9d52b, .code yJ2_length_9d52b cJ2_length_9d52b 1 (some .int), .methodLink RJ2 414 yJ0_checkIndex_df160, .static yJ0_checkIndex_df160, .initialized RJ0, .code yJ0_checkIndex_df160 cJ0_checkIndex_df160 2 none, .fieldLink RJ0 1053 "jdk/internal/util/Preconditions" "SIOOBE_FORMATTER" "Ljava/util/function/BiFunction;", .methodLink RJ0 1059 yJ3_checkIndex_8e157, .static yJ3_checkIndex_8e157, .initialized RJ3, .code yJ3_checkIndex_8e157 cJ3_checkIndex_8e157 3 (some .int), .methodLink RJ2 71 yJ2_getChar_3b067, .static yJ2_getChar_3b067, .code yJ2_getChar_3b067 cJ2_getChar_3b067 2 (some .char), .fieldLink RJ2 44 "java/lang/StringUTF16" "$assertionsDisabled" "Z", .fieldLink RJ2 59 "java/lang/StringUTF16" "HI_BYTE_SHIFT" "I", .fieldLink RJ2 63 "java/lang/StringUTF16" "LO_BYTE_SHIFT" "I"])
def wsJ0_charAt_5068e_r1 : List Cond := [Cond.fieldLink RJ0 9 "java/lang/String" "value" "[B", Cond.methodLink RJ0 492 yJ0_isLatin1_aae02, Cond.instanceMethod yJ0_isLatin1_aae02, Cond.selects RJ0 yJ0_isLatin1_aae02 yJ0_isLatin1_aae02, Cond.initialized RJ0, Cond.code yJ0_isLatin1_aae02 cJ0_isLatin1_aae02 1 (some .boolean), Cond.fieldLink RJ0 38 "java/lang/String" "COMPACT_STRINGS" "Z", Cond.fieldLink RJ0 15 "java/lang/String" "coder" "B", Cond.methodLink RJ0 495 yJ1_charAt_3b067, Cond.static yJ1_charAt_3b067, Cond.initialized RJ1, Cond.code yJ1_charAt_3b067 cJ1_charAt_3b067 2 (some .char), Cond.methodLink RJ1 9 yJ0_checkIndex_df160, Cond.static yJ0_checkIndex_df160, Cond.code yJ0_checkIndex_df160 cJ0_checkIndex_df160 2 none, Cond.fieldLink RJ0 1053 "jdk/internal/util/Preconditions" "SIOOBE_FORMATTER" "Ljava/util/function/BiFunction;", Cond.methodLink RJ0 1059 yJ3_checkIndex_8e157, Cond.static yJ3_checkIndex_8e157, Cond.initialized RJ3, Cond.code yJ3_checkIndex_8e157 cJ3_checkIndex_8e157 3 (some .int), Cond.methodLink RJ0 498 yJ2_charAt_3b067, Cond.static yJ2_charAt_3b067, Cond.initialized RJ2, Cond.code yJ2_charAt_3b067 cJ2_charAt_3b067 2 (some .char)]
def wsJ0_charAt_5068e_r2 : List Cond := [Cond.methodLink RJ2 67 yJ2_checkIndex_2214a, Cond.static yJ2_checkIndex_2214a, Cond.code yJ2_checkIndex_2214a cJ2_checkIndex_2214a 2 none, Cond.methodLink RJ2 48 yJ2_length_9d52b, Cond.static yJ2_length_9d52b, Cond.code yJ2_length_9d52b cJ2_length_9d52b 1 (some .int), Cond.methodLink RJ2 414 yJ0_checkIndex_df160, Cond.methodLink RJ2 71 yJ2_getChar_3b067, Cond.static yJ2_getChar_3b067, Cond.code yJ2_getChar_3b067 cJ2_getChar_3b067 2 (some .char), Cond.fieldLink RJ2 44 "java/lang/StringUTF16" "$assertionsDisabled" "Z", Cond.fieldLink RJ2 59 "java/lang/StringUTF16" "HI_BYTE_SHIFT" "I", Cond.fieldLink RJ2 63 "java/lang/StringUTF16" "LO_BYTE_SHIFT" "I"]
def wsJ0_charAt_5068e : List Cond := .code yJ0_charAt_5068e cJ0_charAt_5068e 2 (some .char) :: ((wsJ0_charAt_5068e_r1 ++ wsJ0_charAt_5068e_r2))
def wsX7_init_r1 : List Cond := [Cond.methodLink RX7 1 objectInit, Cond.instanceMethod objectInit, Cond.code objectInit ⟨#[0xb1]⟩ 1 none, Cond.classLink RX7 7 RX3, Cond.instantiable RX3 2, Cond.initialized RX3, Cond.fieldLink RX7 10 "ChainLays" "text" "LChainLays$Letters;", Cond.classLink RX7 16 RX5, Cond.instantiable RX5 5, Cond.initialized RX5, Cond.fieldLink RX7 19 "ChainLays" "plan" "LChainLays$Plan;", Cond.classLink RX7 23 RX1, Cond.instantiable RX1 6, Cond.initialized RX1, Cond.fieldLink RX7 26 "ChainLays" "bay" "LChainLays$Bay;", Cond.classLink RX7 30 RX4, Cond.instantiable RX4 3, Cond.initialized RX4, Cond.fieldLink RX7 33 "ChainLays" "past" "LChainLays$Past;", Cond.instanceMethod yX3_init, Cond.code yX3_init cX3_init 1 none, Cond.methodLink RX3 3 objectInit, Cond.arrayClass .char, Cond.fieldLink RX3 9 "ChainLays$Letters" "letters" "[C"]
def wsX7_init_r2 : List Cond := [Cond.instanceMethod yX5_init, Cond.code yX5_init cX5_init 1 none, Cond.methodLink RX5 3 objectInit, Cond.arrayClass .int, Cond.fieldLink RX5 9 "ChainLays$Plan" "depths" "[I", Cond.classLink RX5 15 "[[I", Cond.fieldLink RX5 17 "ChainLays$Plan" "numbers" "[[I", Cond.methodLink RX7 25 yX1_init, Cond.instanceMethod yX1_init, Cond.code yX1_init cX1_init 2 none, Cond.methodLink RX1 5 objectInit, Cond.fieldLink RX1 11 "ChainLays$Bay" "depths" "[I", Cond.classLink RX1 1 RX6, Cond.fieldLink RX1 17 "ChainLays$Bay" "ships" "[LChainLays$Ship;", Cond.classLink RX1 21 RX2, Cond.instantiable RX2 12, Cond.initialized RX2, Cond.fieldLink RX1 24 "ChainLays$Bay" "chain" "LChainLays$Chain;", Cond.instantiable RX6 10, Cond.initialized RX6, Cond.instanceMethod yX2_init, Cond.code yX2_init cX2_init 1 none, Cond.methodLink RX2 3 objectInit, Cond.instanceMethod yX6_init]
def wsX7_init_r3 : List Cond := [Cond.code yX6_init cX6_init 1 none, Cond.methodLink RX6 5 objectInit, Cond.classLink RX6 1 RX0, Cond.instantiable RX0 3, Cond.initialized RX0, Cond.fieldLink RX6 12 "ChainLays$Ship" "first" "LChainLays$Anchor;", Cond.fieldLink RX6 18 "ChainLays$Ship" "second" "LChainLays$Anchor;", Cond.instanceMethod yX0_init, Cond.code yX0_init cX0_init 1 none, Cond.methodLink RX0 1 objectInit, Cond.instanceMethod yX4_init, Cond.code yX4_init cX4_init 1 none, Cond.methodLink RX4 3 objectInit, Cond.classLink RX4 11 "[[I", Cond.fieldLink RX4 13 "ChainLays$Past" "rows" "[[I", Cond.methodLink RX7 39 yJ0_length_8abf5, Cond.instanceMethod yJ0_length_8abf5, Cond.selects RJ0 yJ0_length_8abf5 yJ0_length_8abf5, Cond.initialized RJ0, Cond.code yJ0_length_8abf5 cJ0_length_8abf5 1 (some .int), Cond.fieldLink RJ0 9 "java/lang/String" "value" "[B", Cond.methodLink RJ0 335 yJ0_coder_7d493, Cond.instanceMethod yJ0_coder_7d493, Cond.selects RJ0 yJ0_coder_7d493 yJ0_coder_7d493]
def wsX7_init_r4 : List Cond := [Cond.code yJ0_coder_7d493 cJ0_coder_7d493 1 (some .byte), Cond.fieldLink RJ0 38 "java/lang/String" "COMPACT_STRINGS" "Z", Cond.fieldLink RJ0 15 "java/lang/String" "coder" "B", Cond.methodLink RX7 45 yJ0_charAt_5068e, Cond.instanceMethod yJ0_charAt_5068e, Cond.selects RJ0 yJ0_charAt_5068e yJ0_charAt_5068e, Cond.code yJ0_charAt_5068e cJ0_charAt_5068e 2 (some .char), Cond.methodLink RJ0 492 yJ0_isLatin1_aae02, Cond.instanceMethod yJ0_isLatin1_aae02, Cond.selects RJ0 yJ0_isLatin1_aae02 yJ0_isLatin1_aae02, Cond.code yJ0_isLatin1_aae02 cJ0_isLatin1_aae02 1 (some .boolean), Cond.methodLink RJ0 495 yJ1_charAt_3b067, Cond.static yJ1_charAt_3b067, Cond.initialized RJ1, Cond.code yJ1_charAt_3b067 cJ1_charAt_3b067 2 (some .char), Cond.methodLink RJ1 9 yJ0_checkIndex_df160, Cond.static yJ0_checkIndex_df160, Cond.code yJ0_checkIndex_df160 cJ0_checkIndex_df160 2 none, Cond.fieldLink RJ0 1053 "jdk/internal/util/Preconditions" "SIOOBE_FORMATTER" "Ljava/util/function/BiFunction;", Cond.methodLink RJ0 1059 yJ3_checkIndex_8e157, Cond.static yJ3_checkIndex_8e157, Cond.initialized RJ3, Cond.code yJ3_checkIndex_8e157 cJ3_checkIndex_8e157 3 (some .int), Cond.methodLink RJ0 498 yJ2_charAt_3b067]
def wsX7_init_r5 : List Cond := [Cond.static yJ2_charAt_3b067, Cond.initialized RJ2, Cond.code yJ2_charAt_3b067 cJ2_charAt_3b067 2 (some .char), Cond.methodLink RJ2 67 yJ2_checkIndex_2214a, Cond.static yJ2_checkIndex_2214a, Cond.code yJ2_checkIndex_2214a cJ2_checkIndex_2214a 2 none, Cond.methodLink RJ2 48 yJ2_length_9d52b, Cond.static yJ2_length_9d52b, Cond.code yJ2_length_9d52b cJ2_length_9d52b 1 (some .int), Cond.methodLink RJ2 414 yJ0_checkIndex_df160, Cond.methodLink RJ2 71 yJ2_getChar_3b067, Cond.static yJ2_getChar_3b067, Cond.code yJ2_getChar_3b067 cJ2_getChar_3b067 2 (some .char), Cond.fieldLink RJ2 44 "java/lang/StringUTF16" "$assertionsDisabled" "Z", Cond.fieldLink RJ2 59 "java/lang/StringUTF16" "HI_BYTE_SHIFT" "I", Cond.fieldLink RJ2 63 "java/lang/StringUTF16" "LO_BYTE_SHIFT" "I", Cond.methodLink RX7 49 yX3_append, Cond.instanceMethod yX3_append, Cond.selects RX3 yX3_append yX3_append, Cond.code yX3_append cX3_append 2 (some .boolean), Cond.fieldLink RX3 15 "ChainLays$Letters" "length" "I", Cond.methodLink RX7 53 yX5_read, Cond.instanceMethod yX5_read, Cond.selects RX5 yX5_read yX5_read]
def wsX7_init_r6 : List Cond := [Cond.code yX5_read cX5_read 4 (some .int), Cond.fieldLink RX5 20 "ChainLays$Plan" "columns" "I", Cond.fieldLink RX5 24 "ChainLays$Plan" "ships" "I", Cond.fieldLink RX5 27 "ChainLays$Plan" "place" "I", Cond.fieldLink RX5 30 "ChainLays$Letters" "length" "I", Cond.methodLink RX5 35 yX5_readItem, Cond.instanceMethod yX5_readItem, Cond.selects RX5 yX5_readItem yX5_readItem, Cond.code yX5_readItem cX5_readItem 3 (some .boolean), Cond.methodLink RX5 39 yX3_letterAt, Cond.instanceMethod yX3_letterAt, Cond.selects RX3 yX3_letterAt yX3_letterAt, Cond.code yX3_letterAt cX3_letterAt 2 (some .char), Cond.methodLink RX5 43 yX5_readColumn, Cond.instanceMethod yX5_readColumn, Cond.selects RX5 yX5_readColumn yX5_readColumn, Cond.code yX5_readColumn cX5_readColumn 3 (some .boolean), Cond.methodLink RX5 49 yX5_readNumber, Cond.instanceMethod yX5_readNumber, Cond.selects RX5 yX5_readNumber yX5_readNumber, Cond.code yX5_readNumber cX5_readNumber 4 (some .int), Cond.static yX7_within, Cond.initialized RX7, Cond.code yX7_within cX7_within 3 (some .boolean)]
def wsX7_init_r7 : List Cond := [Cond.methodLink RX5 57 yX5_readSign, Cond.instanceMethod yX5_readSign, Cond.selects RX5 yX5_readSign yX5_readSign, Cond.code yX5_readSign cX5_readSign 3 (some .boolean), Cond.methodLink RX5 46 yX5_readShip, Cond.instanceMethod yX5_readShip, Cond.selects RX5 yX5_readShip yX5_readShip, Cond.code yX5_readShip cX5_readShip 6 (some .boolean), Cond.fieldLink RX5 61 "ChainLays$Plan" "MOST" "[I", Cond.fieldLink RX5 64 "ChainLays$Plan" "LEAST" "[I", Cond.methodLink RX7 57 yX1_layOut, Cond.instanceMethod yX1_layOut, Cond.selects RX1 yX1_layOut yX1_layOut, Cond.code yX1_layOut cX1_layOut 3 none, Cond.fieldLink RX1 29 "ChainLays$Plan" "columns" "I", Cond.fieldLink RX1 35 "ChainLays$Bay" "columns" "I", Cond.fieldLink RX1 36 "ChainLays$Plan" "depths" "[I", Cond.methodLink RX1 37 arraycopyName, Cond.native arraycopyName, Cond.static arraycopyName, Cond.initialized "java/lang/System", Cond.fieldLink RX1 43 "ChainLays$Plan" "ships" "I", Cond.fieldLink RX1 45 "ChainLays$Bay" "shipCount" "I", Cond.fieldLink RX1 48 "ChainLays$Plan" "numbers" "[[I"]
def wsX7_init_r8 : List Cond := [Cond.fieldLink RX1 56 "ChainLays$Bay" "hour" "I", Cond.methodLink RX1 52 yX6_layOut, Cond.instanceMethod yX6_layOut, Cond.selects RX6 yX6_layOut yX6_layOut, Cond.code yX6_layOut cX6_layOut 2 none, Cond.fieldLink RX6 27 "ChainLays$Ship" "weight" "I", Cond.fieldLink RX6 31 "ChainLays$Ship" "length" "I", Cond.fieldLink RX6 34 "ChainLays$Ship" "area" "I", Cond.fieldLink RX6 37 "ChainLays$Ship" "grip" "I", Cond.fieldLink RX6 40 "ChainLays$Ship" "moored" "Z", Cond.fieldLink RX6 44 "ChainLays$Ship" "ashore" "Z", Cond.fieldLink RX6 47 "ChainLays$Ship" "dragged" "I", Cond.methodLink RX6 23 yX0_put, Cond.instanceMethod yX0_put, Cond.selects RX0 yX0_put yX0_put, Cond.code yX0_put cX0_put 4 none, Cond.fieldLink RX0 7 "ChainLays$Anchor" "column" "I", Cond.fieldLink RX0 13 "ChainLays$Anchor" "row" "I", Cond.fieldLink RX0 16 "ChainLays$Anchor" "links" "I", Cond.methodLink RX7 61 yX3_clear, Cond.instanceMethod yX3_clear, Cond.selects RX3 yX3_clear yX3_clear, Cond.code yX3_clear cX3_clear 1 none]
def wsX7_init : List Cond := .code yX7_init cX7_init 2 none :: ((wsX7_init_r1 ++ (wsX7_init_r2 ++ (wsX7_init_r3 ++ (wsX7_init_r4 ++ (wsX7_init_r5 ++ (wsX7_init_r6 ++ (wsX7_init_r7 ++ wsX7_init_r8))))))) ++ wsX30 ++ wsX70 ++ wsX50 ++ wsX10 ++ wsX40 ++ wsX20 ++ wsX60 ++ wsX00)
def wsX7_write : List Cond := .code yX7_write cX7_write 2 (some .int) :: ([.fieldLink RX7 10 "ChainLays" "text" "LChainLays$Letters;", .fieldLink RX7 68 "ChainLays$Letters" "length" "I", .methodLink RX7 64 yX7_within, .static yX7_within, .initialized RX7, .code yX7_within cX7_within 3 (some .boolean), .methodLink RX7 49 yX3_append, .instanceMethod yX3_append, .selects RX3 yX3_append yX3_append, .initialized RX3, .code yX3_append cX3_append 2 (some .boolean), .fieldLink RX3 15 "ChainLays$Letters" "length" "I", .fieldLink RX3 9 "ChainLays$Letters" "letters" "[C"] ++ wsX70 ++ wsX30)
def wsX7_wipe : List Cond := .code yX7_wipe cX7_wipe 2 (some .int) :: ([.fieldLink RX7 10 "ChainLays" "text" "LChainLays$Letters;", .fieldLink RX7 68 "ChainLays$Letters" "length" "I", .methodLink RX7 61 yX3_clear, .instanceMethod yX3_clear, .selects RX3 yX3_clear yX3_clear, .initialized RX3, .code yX3_clear cX3_clear 1 none, .fieldLink RX3 15 "ChainLays$Letters" "length" "I"] ++ wsX70 ++ wsX30)
def wsX7_fault_r1 : List Cond := [Cond.fieldLink RX7 19 "ChainLays" "plan" "LChainLays$Plan;", Cond.fieldLink RX7 10 "ChainLays" "text" "LChainLays$Letters;", Cond.methodLink RX7 53 yX5_read, Cond.instanceMethod yX5_read, Cond.selects RX5 yX5_read yX5_read, Cond.initialized RX5, Cond.code yX5_read cX5_read 4 (some .int), Cond.fieldLink RX5 20 "ChainLays$Plan" "columns" "I", Cond.fieldLink RX5 24 "ChainLays$Plan" "ships" "I", Cond.fieldLink RX5 27 "ChainLays$Plan" "place" "I", Cond.fieldLink RX5 30 "ChainLays$Letters" "length" "I", Cond.methodLink RX5 35 yX5_readItem, Cond.instanceMethod yX5_readItem, Cond.selects RX5 yX5_readItem yX5_readItem, Cond.code yX5_readItem cX5_readItem 3 (some .boolean), Cond.methodLink RX5 39 yX3_letterAt, Cond.instanceMethod yX3_letterAt, Cond.selects RX3 yX3_letterAt yX3_letterAt, Cond.initialized RX3, Cond.code yX3_letterAt cX3_letterAt 2 (some .char), Cond.fieldLink RX3 15 "ChainLays$Letters" "length" "I", Cond.fieldLink RX3 9 "ChainLays$Letters" "letters" "[C", Cond.methodLink RX5 43 yX5_readColumn, Cond.instanceMethod yX5_readColumn]
def wsX7_fault_r2 : List Cond := [Cond.selects RX5 yX5_readColumn yX5_readColumn, Cond.code yX5_readColumn cX5_readColumn 3 (some .boolean), Cond.fieldLink RX5 9 "ChainLays$Plan" "depths" "[I", Cond.methodLink RX5 49 yX5_readNumber, Cond.instanceMethod yX5_readNumber, Cond.selects RX5 yX5_readNumber yX5_readNumber, Cond.code yX5_readNumber cX5_readNumber 4 (some .int), Cond.static yX7_within, Cond.initialized RX7, Cond.code yX7_within cX7_within 3 (some .boolean), Cond.methodLink RX5 57 yX5_readSign, Cond.instanceMethod yX5_readSign, Cond.selects RX5 yX5_readSign yX5_readSign, Cond.code yX5_readSign cX5_readSign 3 (some .boolean), Cond.methodLink RX5 46 yX5_readShip, Cond.instanceMethod yX5_readShip, Cond.selects RX5 yX5_readShip yX5_readShip, Cond.code yX5_readShip cX5_readShip 6 (some .boolean), Cond.fieldLink RX5 17 "ChainLays$Plan" "numbers" "[[I", Cond.fieldLink RX5 61 "ChainLays$Plan" "MOST" "[I", Cond.fieldLink RX5 64 "ChainLays$Plan" "LEAST" "[I"]
def wsX7_fault : List Cond := .code yX7_fault cX7_fault 1 (some .int) :: ((wsX7_fault_r1 ++ wsX7_fault_r2) ++ wsX70 ++ wsX50 ++ wsX30)
def wsX7_lay_r1 : List Cond := [Cond.fieldLink RX7 19 "ChainLays" "plan" "LChainLays$Plan;", Cond.fieldLink RX7 10 "ChainLays" "text" "LChainLays$Letters;", Cond.fieldLink RX7 71 "ChainLays$Plan" "columns" "I", Cond.fieldLink RX7 74 "ChainLays$Plan" "ships" "I", Cond.fieldLink RX7 26 "ChainLays" "bay" "LChainLays$Bay;", Cond.fieldLink RX7 33 "ChainLays" "past" "LChainLays$Past;", Cond.fieldLink RX7 78 "ChainLays$Bay" "shipCount" "I", Cond.methodLink RX7 53 yX5_read, Cond.instanceMethod yX5_read, Cond.selects RX5 yX5_read yX5_read, Cond.initialized RX5, Cond.code yX5_read cX5_read 4 (some .int), Cond.fieldLink RX5 20 "ChainLays$Plan" "columns" "I", Cond.fieldLink RX5 24 "ChainLays$Plan" "ships" "I", Cond.fieldLink RX5 27 "ChainLays$Plan" "place" "I", Cond.fieldLink RX5 30 "ChainLays$Letters" "length" "I", Cond.methodLink RX5 35 yX5_readItem, Cond.instanceMethod yX5_readItem, Cond.selects RX5 yX5_readItem yX5_readItem, Cond.code yX5_readItem cX5_readItem 3 (some .boolean), Cond.methodLink RX5 39 yX3_letterAt, Cond.instanceMethod yX3_letterAt, Cond.selects RX3 yX3_letterAt yX3_letterAt, Cond.initialized RX3]
def wsX7_lay_r2 : List Cond := [Cond.code yX3_letterAt cX3_letterAt 2 (some .char), Cond.fieldLink RX3 15 "ChainLays$Letters" "length" "I", Cond.fieldLink RX3 9 "ChainLays$Letters" "letters" "[C", Cond.methodLink RX5 43 yX5_readColumn, Cond.instanceMethod yX5_readColumn, Cond.selects RX5 yX5_readColumn yX5_readColumn, Cond.code yX5_readColumn cX5_readColumn 3 (some .boolean), Cond.fieldLink RX5 9 "ChainLays$Plan" "depths" "[I", Cond.methodLink RX5 49 yX5_readNumber, Cond.instanceMethod yX5_readNumber, Cond.selects RX5 yX5_readNumber yX5_readNumber, Cond.code yX5_readNumber cX5_readNumber 4 (some .int), Cond.static yX7_within, Cond.initialized RX7, Cond.code yX7_within cX7_within 3 (some .boolean), Cond.methodLink RX5 57 yX5_readSign, Cond.instanceMethod yX5_readSign, Cond.selects RX5 yX5_readSign yX5_readSign, Cond.code yX5_readSign cX5_readSign 3 (some .boolean), Cond.methodLink RX5 46 yX5_readShip, Cond.instanceMethod yX5_readShip, Cond.selects RX5 yX5_readShip yX5_readShip, Cond.code yX5_readShip cX5_readShip 6 (some .boolean), Cond.fieldLink RX5 17 "ChainLays$Plan" "numbers" "[[I"]
def wsX7_lay_r3 : List Cond := [Cond.fieldLink RX5 61 "ChainLays$Plan" "MOST" "[I", Cond.fieldLink RX5 64 "ChainLays$Plan" "LEAST" "[I", Cond.methodLink RX7 57 yX1_layOut, Cond.instanceMethod yX1_layOut, Cond.selects RX1 yX1_layOut yX1_layOut, Cond.initialized RX1, Cond.code yX1_layOut cX1_layOut 3 none, Cond.fieldLink RX1 29 "ChainLays$Plan" "columns" "I", Cond.fieldLink RX1 35 "ChainLays$Bay" "columns" "I", Cond.fieldLink RX1 36 "ChainLays$Plan" "depths" "[I", Cond.fieldLink RX1 11 "ChainLays$Bay" "depths" "[I", Cond.methodLink RX1 37 arraycopyName, Cond.native arraycopyName, Cond.static arraycopyName, Cond.initialized "java/lang/System", Cond.fieldLink RX1 43 "ChainLays$Plan" "ships" "I", Cond.fieldLink RX1 45 "ChainLays$Bay" "shipCount" "I", Cond.fieldLink RX1 17 "ChainLays$Bay" "ships" "[LChainLays$Ship;", Cond.fieldLink RX1 48 "ChainLays$Plan" "numbers" "[[I", Cond.fieldLink RX1 56 "ChainLays$Bay" "hour" "I", Cond.methodLink RX1 52 yX6_layOut, Cond.instanceMethod yX6_layOut, Cond.selects RX6 yX6_layOut yX6_layOut, Cond.initialized RX6]
def wsX7_lay_r4 : List Cond := [Cond.code yX6_layOut cX6_layOut 2 none, Cond.fieldLink RX6 12 "ChainLays$Ship" "first" "LChainLays$Anchor;", Cond.fieldLink RX6 27 "ChainLays$Ship" "weight" "I", Cond.fieldLink RX6 31 "ChainLays$Ship" "length" "I", Cond.fieldLink RX6 34 "ChainLays$Ship" "area" "I", Cond.fieldLink RX6 37 "ChainLays$Ship" "grip" "I", Cond.fieldLink RX6 40 "ChainLays$Ship" "moored" "Z", Cond.fieldLink RX6 44 "ChainLays$Ship" "ashore" "Z", Cond.fieldLink RX6 47 "ChainLays$Ship" "dragged" "I", Cond.methodLink RX6 23 yX0_put, Cond.instanceMethod yX0_put, Cond.selects RX0 yX0_put yX0_put, Cond.initialized RX0, Cond.code yX0_put cX0_put 4 none, Cond.fieldLink RX0 7 "ChainLays$Anchor" "column" "I", Cond.fieldLink RX0 13 "ChainLays$Anchor" "row" "I", Cond.fieldLink RX0 16 "ChainLays$Anchor" "links" "I", Cond.methodLink RX7 77 yX4_clear, Cond.instanceMethod yX4_clear, Cond.selects RX4 yX4_clear yX4_clear, Cond.initialized RX4, Cond.code yX4_clear cX4_clear 1 none, Cond.fieldLink RX4 22 "ChainLays$Past" "size" "I"]
def wsX7_lay : List Cond := .code yX7_lay cX7_lay 1 (some .int) :: ((wsX7_lay_r1 ++ (wsX7_lay_r2 ++ (wsX7_lay_r3 ++ wsX7_lay_r4))) ++ wsX70 ++ wsX50 ++ wsX10 ++ wsX30 ++ wsX60 ++ wsX00 ++ wsX40)
def wsX7_remember_r1 : List Cond := [Cond.fieldLink RX7 26 "ChainLays" "bay" "LChainLays$Bay;", Cond.fieldLink RX7 33 "ChainLays" "past" "LChainLays$Past;", Cond.methodLink RX7 238 yX4_rowForNext, Cond.instanceMethod yX4_rowForNext, Cond.selects RX4 yX4_rowForNext yX4_rowForNext, Cond.initialized RX4, Cond.code yX4_rowForNext cX4_rowForNext 2 (some (.array .int)), Cond.fieldLink RX4 13 "ChainLays$Past" "rows" "[[I", Cond.fieldLink RX4 18 "ChainLays$Past" "next" "I", Cond.fieldLink RX4 22 "ChainLays$Past" "size" "I", Cond.methodLink RX4 25 Lib.Math.min.name, Cond.static Lib.Math.min.name, Cond.initialized "java/lang/Math", Cond.code Lib.Math.min.name Lib.Math.min.code 2 (some .int), Cond.methodLink RX7 241 yX1_save, Cond.instanceMethod yX1_save, Cond.selects RX1 yX1_save yX1_save, Cond.initialized RX1, Cond.code yX1_save cX1_save 3 none, Cond.fieldLink RX1 56 "ChainLays$Bay" "hour" "I", Cond.fieldLink RX1 45 "ChainLays$Bay" "shipCount" "I", Cond.fieldLink RX1 17 "ChainLays$Bay" "ships" "[LChainLays$Ship;", Cond.methodLink RX1 163 yX6_save, Cond.instanceMethod yX6_save]
def wsX7_remember_r2 : List Cond := [Cond.selects RX6 yX6_save yX6_save, Cond.initialized RX6, Cond.code yX6_save cX6_save 4 none, Cond.fieldLink RX6 12 "ChainLays$Ship" "first" "LChainLays$Anchor;", Cond.fieldLink RX6 18 "ChainLays$Ship" "second" "LChainLays$Anchor;", Cond.fieldLink RX6 40 "ChainLays$Ship" "moored" "Z", Cond.fieldLink RX6 44 "ChainLays$Ship" "ashore" "Z", Cond.fieldLink RX6 47 "ChainLays$Ship" "dragged" "I", Cond.methodLink RX6 59 yX0_save, Cond.instanceMethod yX0_save, Cond.selects RX0 yX0_save yX0_save, Cond.initialized RX0, Cond.code yX0_save cX0_save 3 none, Cond.fieldLink RX0 7 "ChainLays$Anchor" "column" "I", Cond.fieldLink RX0 13 "ChainLays$Anchor" "row" "I", Cond.fieldLink RX0 16 "ChainLays$Anchor" "links" "I", Cond.static yX7_oneIf, Cond.initialized RX7, Cond.code yX7_oneIf cX7_oneIf 1 (some .int)]
def wsX7_remember : List Cond := .code yX7_remember cX7_remember 1 none :: ((wsX7_remember_r1 ++ wsX7_remember_r2) ++ wsX70 ++ wsX40 ++ wsX10 ++ wsX60 ++ wsX00)
def wsX7_links_r1 : List Cond := [Cond.fieldLink RX7 26 "ChainLays" "bay" "LChainLays$Bay;", Cond.fieldLink RX7 91 "ChainLays$Ship" "ashore" "Z", Cond.fieldLink RX7 98 "ChainLays$Anchor" "links" "I", Cond.methodLink RX7 81 yX1_shipAt, Cond.instanceMethod yX1_shipAt, Cond.selects RX1 yX1_shipAt yX1_shipAt, Cond.initialized RX1, Cond.code yX1_shipAt cX1_shipAt 2 (some (.object "ChainLays$Ship")), Cond.fieldLink RX1 45 "ChainLays$Bay" "shipCount" "I", Cond.fieldLink RX1 17 "ChainLays$Bay" "ships" "[LChainLays$Ship;", Cond.methodLink RX7 64 yX7_within, Cond.static yX7_within, Cond.initialized RX7, Cond.code yX7_within cX7_within 3 (some .boolean), Cond.methodLink RX7 85 yX6_anchorAt, Cond.instanceMethod yX6_anchorAt, Cond.selects RX6 yX6_anchorAt yX6_anchorAt, Cond.initialized RX6, Cond.code yX6_anchorAt cX6_anchorAt 2 (some (.object "ChainLays$Anchor")), Cond.fieldLink RX6 12 "ChainLays$Ship" "first" "LChainLays$Anchor;", Cond.fieldLink RX6 40 "ChainLays$Ship" "moored" "Z", Cond.fieldLink RX6 18 "ChainLays$Ship" "second" "LChainLays$Anchor;", Cond.methodLink RX7 95 yX7_remember, Cond.instanceMethod yX7_remember]
def wsX7_links_r2 : List Cond := [Cond.selects RX7 yX7_remember yX7_remember, Cond.code yX7_remember cX7_remember 1 none, Cond.fieldLink RX7 33 "ChainLays" "past" "LChainLays$Past;", Cond.methodLink RX7 238 yX4_rowForNext, Cond.instanceMethod yX4_rowForNext, Cond.selects RX4 yX4_rowForNext yX4_rowForNext, Cond.initialized RX4, Cond.code yX4_rowForNext cX4_rowForNext 2 (some (.array .int)), Cond.fieldLink RX4 13 "ChainLays$Past" "rows" "[[I", Cond.fieldLink RX4 18 "ChainLays$Past" "next" "I", Cond.fieldLink RX4 22 "ChainLays$Past" "size" "I", Cond.methodLink RX4 25 Lib.Math.min.name, Cond.static Lib.Math.min.name, Cond.initialized "java/lang/Math", Cond.code Lib.Math.min.name Lib.Math.min.code 2 (some .int), Cond.methodLink RX7 241 yX1_save, Cond.instanceMethod yX1_save, Cond.selects RX1 yX1_save yX1_save, Cond.code yX1_save cX1_save 3 none, Cond.fieldLink RX1 56 "ChainLays$Bay" "hour" "I", Cond.methodLink RX1 163 yX6_save, Cond.instanceMethod yX6_save, Cond.selects RX6 yX6_save yX6_save, Cond.code yX6_save cX6_save 4 none]
def wsX7_links_r3 : List Cond := [Cond.fieldLink RX6 44 "ChainLays$Ship" "ashore" "Z", Cond.fieldLink RX6 47 "ChainLays$Ship" "dragged" "I", Cond.methodLink RX6 59 yX0_save, Cond.instanceMethod yX0_save, Cond.selects RX0 yX0_save yX0_save, Cond.initialized RX0, Cond.code yX0_save cX0_save 3 none, Cond.fieldLink RX0 7 "ChainLays$Anchor" "column" "I", Cond.fieldLink RX0 13 "ChainLays$Anchor" "row" "I", Cond.fieldLink RX0 16 "ChainLays$Anchor" "links" "I", Cond.static yX7_oneIf, Cond.code yX7_oneIf cX7_oneIf 1 (some .int)]
def wsX7_links : List Cond := .code yX7_links cX7_links 7 (some .int) :: ((wsX7_links_r1 ++ (wsX7_links_r2 ++ wsX7_links_r3)) ++ wsX70 ++ wsX60 ++ wsX00 ++ wsX10 ++ wsX40)
def wsX7_moor_r1 : List Cond := [Cond.fieldLink RX7 26 "ChainLays" "bay" "LChainLays$Bay;", Cond.fieldLink RX7 91 "ChainLays$Ship" "ashore" "Z", Cond.fieldLink RX7 107 "ChainLays$Ship" "moored" "Z", Cond.fieldLink RX7 110 "ChainLays$Ship" "second" "LChainLays$Anchor;", Cond.methodLink RX7 81 yX1_shipAt, Cond.instanceMethod yX1_shipAt, Cond.selects RX1 yX1_shipAt yX1_shipAt, Cond.initialized RX1, Cond.code yX1_shipAt cX1_shipAt 2 (some (.object "ChainLays$Ship")), Cond.fieldLink RX1 45 "ChainLays$Bay" "shipCount" "I", Cond.fieldLink RX1 17 "ChainLays$Bay" "ships" "[LChainLays$Ship;", Cond.methodLink RX7 103 yX1_isCell, Cond.instanceMethod yX1_isCell, Cond.selects RX1 yX1_isCell yX1_isCell, Cond.code yX1_isCell cX1_isCell 3 (some .boolean), Cond.fieldLink RX1 35 "ChainLays$Bay" "columns" "I", Cond.static yX7_within, Cond.initialized RX7, Cond.code yX7_within cX7_within 3 (some .boolean), Cond.methodLink RX7 64 yX7_within, Cond.methodLink RX7 95 yX7_remember, Cond.instanceMethod yX7_remember, Cond.selects RX7 yX7_remember yX7_remember, Cond.code yX7_remember cX7_remember 1 none]
def wsX7_moor_r2 : List Cond := [Cond.fieldLink RX7 33 "ChainLays" "past" "LChainLays$Past;", Cond.methodLink RX7 238 yX4_rowForNext, Cond.instanceMethod yX4_rowForNext, Cond.selects RX4 yX4_rowForNext yX4_rowForNext, Cond.initialized RX4, Cond.code yX4_rowForNext cX4_rowForNext 2 (some (.array .int)), Cond.fieldLink RX4 13 "ChainLays$Past" "rows" "[[I", Cond.fieldLink RX4 18 "ChainLays$Past" "next" "I", Cond.fieldLink RX4 22 "ChainLays$Past" "size" "I", Cond.methodLink RX4 25 Lib.Math.min.name, Cond.static Lib.Math.min.name, Cond.initialized "java/lang/Math", Cond.code Lib.Math.min.name Lib.Math.min.code 2 (some .int), Cond.methodLink RX7 241 yX1_save, Cond.instanceMethod yX1_save, Cond.selects RX1 yX1_save yX1_save, Cond.code yX1_save cX1_save 3 none, Cond.fieldLink RX1 56 "ChainLays$Bay" "hour" "I", Cond.methodLink RX1 163 yX6_save, Cond.instanceMethod yX6_save, Cond.selects RX6 yX6_save yX6_save, Cond.initialized RX6, Cond.code yX6_save cX6_save 4 none, Cond.fieldLink RX6 12 "ChainLays$Ship" "first" "LChainLays$Anchor;"]
def wsX7_moor_r3 : List Cond := [Cond.fieldLink RX6 18 "ChainLays$Ship" "second" "LChainLays$Anchor;", Cond.fieldLink RX6 40 "ChainLays$Ship" "moored" "Z", Cond.fieldLink RX6 44 "ChainLays$Ship" "ashore" "Z", Cond.fieldLink RX6 47 "ChainLays$Ship" "dragged" "I", Cond.methodLink RX6 59 yX0_save, Cond.instanceMethod yX0_save, Cond.selects RX0 yX0_save yX0_save, Cond.initialized RX0, Cond.code yX0_save cX0_save 3 none, Cond.fieldLink RX0 7 "ChainLays$Anchor" "column" "I", Cond.fieldLink RX0 13 "ChainLays$Anchor" "row" "I", Cond.fieldLink RX0 16 "ChainLays$Anchor" "links" "I", Cond.static yX7_oneIf, Cond.code yX7_oneIf cX7_oneIf 1 (some .int), Cond.methodLink RX7 114 yX0_put, Cond.instanceMethod yX0_put, Cond.selects RX0 yX0_put yX0_put, Cond.code yX0_put cX0_put 4 none, Cond.methodLink RX7 118 yX1_depthAt, Cond.instanceMethod yX1_depthAt, Cond.selects RX1 yX1_depthAt yX1_depthAt, Cond.code yX1_depthAt cX1_depthAt 2 (some .int), Cond.fieldLink RX1 11 "ChainLays$Bay" "depths" "[I"]
def wsX7_moor : List Cond := .code yX7_moor cX7_moor 6 (some .int) :: ((wsX7_moor_r1 ++ (wsX7_moor_r2 ++ wsX7_moor_r3)) ++ wsX70 ++ wsX60 ++ wsX10 ++ wsX40 ++ wsX00)
def wsX7_weigh_r1 : List Cond := [Cond.fieldLink RX7 26 "ChainLays" "bay" "LChainLays$Bay;", Cond.fieldLink RX7 91 "ChainLays$Ship" "ashore" "Z", Cond.fieldLink RX7 107 "ChainLays$Ship" "moored" "Z", Cond.fieldLink RX7 110 "ChainLays$Ship" "second" "LChainLays$Anchor;", Cond.fieldLink RX7 98 "ChainLays$Anchor" "links" "I", Cond.methodLink RX7 81 yX1_shipAt, Cond.instanceMethod yX1_shipAt, Cond.selects RX1 yX1_shipAt yX1_shipAt, Cond.initialized RX1, Cond.code yX1_shipAt cX1_shipAt 2 (some (.object "ChainLays$Ship")), Cond.fieldLink RX1 45 "ChainLays$Bay" "shipCount" "I", Cond.fieldLink RX1 17 "ChainLays$Bay" "ships" "[LChainLays$Ship;", Cond.methodLink RX7 95 yX7_remember, Cond.instanceMethod yX7_remember, Cond.selects RX7 yX7_remember yX7_remember, Cond.initialized RX7, Cond.code yX7_remember cX7_remember 1 none, Cond.fieldLink RX7 33 "ChainLays" "past" "LChainLays$Past;", Cond.methodLink RX7 238 yX4_rowForNext, Cond.instanceMethod yX4_rowForNext, Cond.selects RX4 yX4_rowForNext yX4_rowForNext, Cond.initialized RX4, Cond.code yX4_rowForNext cX4_rowForNext 2 (some (.array .int)), Cond.fieldLink RX4 13 "ChainLays$Past" "rows" "[[I"]
def wsX7_weigh_r2 : List Cond := [Cond.fieldLink RX4 18 "ChainLays$Past" "next" "I", Cond.fieldLink RX4 22 "ChainLays$Past" "size" "I", Cond.methodLink RX4 25 Lib.Math.min.name, Cond.static Lib.Math.min.name, Cond.initialized "java/lang/Math", Cond.code Lib.Math.min.name Lib.Math.min.code 2 (some .int), Cond.methodLink RX7 241 yX1_save, Cond.instanceMethod yX1_save, Cond.selects RX1 yX1_save yX1_save, Cond.code yX1_save cX1_save 3 none, Cond.fieldLink RX1 56 "ChainLays$Bay" "hour" "I", Cond.methodLink RX1 163 yX6_save, Cond.instanceMethod yX6_save, Cond.selects RX6 yX6_save yX6_save, Cond.initialized RX6, Cond.code yX6_save cX6_save 4 none, Cond.fieldLink RX6 12 "ChainLays$Ship" "first" "LChainLays$Anchor;", Cond.fieldLink RX6 18 "ChainLays$Ship" "second" "LChainLays$Anchor;", Cond.fieldLink RX6 40 "ChainLays$Ship" "moored" "Z", Cond.fieldLink RX6 44 "ChainLays$Ship" "ashore" "Z", Cond.fieldLink RX6 47 "ChainLays$Ship" "dragged" "I", Cond.methodLink RX6 59 yX0_save, Cond.instanceMethod yX0_save, Cond.selects RX0 yX0_save yX0_save]
def wsX7_weigh_r3 : List Cond := [Cond.initialized RX0, Cond.code yX0_save cX0_save 3 none, Cond.fieldLink RX0 7 "ChainLays$Anchor" "column" "I", Cond.fieldLink RX0 13 "ChainLays$Anchor" "row" "I", Cond.fieldLink RX0 16 "ChainLays$Anchor" "links" "I", Cond.static yX7_oneIf, Cond.code yX7_oneIf cX7_oneIf 1 (some .int)]
def wsX7_weigh : List Cond := .code yX7_weigh cX7_weigh 3 (some .int) :: ((wsX7_weigh_r1 ++ (wsX7_weigh_r2 ++ wsX7_weigh_r3)) ++ wsX70 ++ wsX60 ++ wsX00 ++ wsX10 ++ wsX40)
def wsX7_isWind : List Cond := .code yX7_isWind cX7_isWind 1 (some .boolean) :: ([.methodLink RX7 64 yX7_within, .static yX7_within, .initialized RX7, .code yX7_within cX7_within 3 (some .boolean)])
def wsX7_hours_r1 : List Cond := [Cond.fieldLink RX7 26 "ChainLays" "bay" "LChainLays$Bay;", Cond.fieldLink RX7 126 "ChainLays$Bay" "hour" "I", Cond.methodLink RX7 64 yX7_within, Cond.static yX7_within, Cond.initialized RX7, Cond.code yX7_within cX7_within 3 (some .boolean), Cond.methodLink RX7 122 yX7_isWind, Cond.static yX7_isWind, Cond.code yX7_isWind cX7_isWind 1 (some .boolean), Cond.methodLink RX7 95 yX7_remember, Cond.instanceMethod yX7_remember, Cond.selects RX7 yX7_remember yX7_remember, Cond.code yX7_remember cX7_remember 1 none, Cond.fieldLink RX7 33 "ChainLays" "past" "LChainLays$Past;", Cond.methodLink RX7 238 yX4_rowForNext, Cond.instanceMethod yX4_rowForNext, Cond.selects RX4 yX4_rowForNext yX4_rowForNext, Cond.initialized RX4, Cond.code yX4_rowForNext cX4_rowForNext 2 (some (.array .int)), Cond.fieldLink RX4 13 "ChainLays$Past" "rows" "[[I", Cond.fieldLink RX4 18 "ChainLays$Past" "next" "I", Cond.fieldLink RX4 22 "ChainLays$Past" "size" "I", Cond.methodLink RX4 25 Lib.Math.min.name, Cond.static Lib.Math.min.name]
def wsX7_hours_r2 : List Cond := [Cond.initialized "java/lang/Math", Cond.code Lib.Math.min.name Lib.Math.min.code 2 (some .int), Cond.methodLink RX7 241 yX1_save, Cond.instanceMethod yX1_save, Cond.selects RX1 yX1_save yX1_save, Cond.initialized RX1, Cond.code yX1_save cX1_save 3 none, Cond.fieldLink RX1 56 "ChainLays$Bay" "hour" "I", Cond.fieldLink RX1 45 "ChainLays$Bay" "shipCount" "I", Cond.fieldLink RX1 17 "ChainLays$Bay" "ships" "[LChainLays$Ship;", Cond.methodLink RX1 163 yX6_save, Cond.instanceMethod yX6_save, Cond.selects RX6 yX6_save yX6_save, Cond.initialized RX6, Cond.code yX6_save cX6_save 4 none, Cond.fieldLink RX6 12 "ChainLays$Ship" "first" "LChainLays$Anchor;", Cond.fieldLink RX6 18 "ChainLays$Ship" "second" "LChainLays$Anchor;", Cond.fieldLink RX6 40 "ChainLays$Ship" "moored" "Z", Cond.fieldLink RX6 44 "ChainLays$Ship" "ashore" "Z", Cond.fieldLink RX6 47 "ChainLays$Ship" "dragged" "I", Cond.methodLink RX6 59 yX0_save, Cond.instanceMethod yX0_save, Cond.selects RX0 yX0_save yX0_save, Cond.initialized RX0]
def wsX7_hours_r3 : List Cond := [Cond.code yX0_save cX0_save 3 none, Cond.fieldLink RX0 7 "ChainLays$Anchor" "column" "I", Cond.fieldLink RX0 13 "ChainLays$Anchor" "row" "I", Cond.fieldLink RX0 16 "ChainLays$Anchor" "links" "I", Cond.static yX7_oneIf, Cond.code yX7_oneIf cX7_oneIf 1 (some .int), Cond.methodLink RX7 129 yX1_passHour, Cond.instanceMethod yX1_passHour, Cond.selects RX1 yX1_passHour yX1_passHour, Cond.code yX1_passHour cX1_passHour 6 (some .int), Cond.fieldLink RX1 135 "ChainLays$Ship" "ashore" "Z", Cond.fieldLink RX1 94 "ChainLays$Ship" "first" "LChainLays$Anchor;", Cond.fieldLink RX1 112 "ChainLays$Anchor" "links" "I", Cond.methodLink RX1 138 yX1_holdsBy, Cond.instanceMethod yX1_holdsBy, Cond.selects RX1 yX1_holdsBy yX1_holdsBy, Cond.code yX1_holdsBy cX1_holdsBy 6 (some .boolean), Cond.fieldLink RX1 82 "ChainLays$Ship" "moored" "Z", Cond.methodLink RX1 79 yX6_pullBy, Cond.instanceMethod yX6_pullBy, Cond.selects RX6 yX6_pullBy yX6_pullBy, Cond.code yX6_pullBy cX6_pullBy 2 (some .int), Cond.fieldLink RX6 34 "ChainLays$Ship" "area" "I", Cond.methodLink RX1 86 yX1_firstHolds]
def wsX7_hours_r4 : List Cond := [Cond.instanceMethod yX1_firstHolds, Cond.selects RX1 yX1_firstHolds yX1_firstHolds, Cond.code yX1_firstHolds cX1_firstHolds 4 (some .boolean), Cond.fieldLink RX1 102 "ChainLays$Ship" "grip" "I", Cond.methodLink RX1 98 yX1_chainOf, Cond.instanceMethod yX1_chainOf, Cond.selects RX1 yX1_chainOf yX1_chainOf, Cond.code yX1_chainOf cX1_chainOf 5 (some (.object "ChainLays$Chain")), Cond.fieldLink RX1 24 "ChainLays$Bay" "chain" "LChainLays$Chain;", Cond.fieldLink RX1 63 "ChainLays$Ship" "weight" "I", Cond.fieldLink RX1 66 "ChainLays$Anchor" "column" "I", Cond.methodLink RX1 71 yX1_depthAt, Cond.instanceMethod yX1_depthAt, Cond.selects RX1 yX1_depthAt yX1_depthAt, Cond.code yX1_depthAt cX1_depthAt 2 (some .int), Cond.fieldLink RX1 11 "ChainLays$Bay" "depths" "[I", Cond.methodLink RX1 75 yX2_take, Cond.instanceMethod yX2_take, Cond.selects RX2 yX2_take yX2_take, Cond.initialized RX2, Cond.code yX2_take cX2_take 5 none, Cond.fieldLink RX2 9 "ChainLays$Chain" "pull" "I", Cond.fieldLink RX2 15 "ChainLays$Chain" "weight" "I", Cond.fieldLink RX2 18 "ChainLays$Chain" "links" "I"]
def wsX7_hours_r5 : List Cond := [Cond.fieldLink RX2 21 "ChainLays$Chain" "depth" "I", Cond.methodLink RX1 105 yX2_holds, Cond.instanceMethod yX2_holds, Cond.selects RX2 yX2_holds yX2_holds, Cond.code yX2_holds cX2_holds 2 (some .boolean), Cond.fieldLink RX2 28 "ChainLays$Chain" "risen" "I", Cond.methodLink RX2 24 yX2_climb, Cond.instanceMethod yX2_climb, Cond.selects RX2 yX2_climb yX2_climb, Cond.code yX2_climb cX2_climb 5 none, Cond.fieldLink RX2 44 "ChainLays$Chain" "hung" "I", Cond.fieldLink RX2 56 "ChainLays$Chain" "run" "I", Cond.fieldLink RX2 73 "ChainLays$Chain" "RUNS" "[I", Cond.methodLink RX2 65 yX2_root, Cond.static yX2_root, Cond.code yX2_root cX2_root 4 (some .int), Cond.methodLink RX2 69 yX2_rootFrom, Cond.static yX2_rootFrom, Cond.code yX2_rootFrom cX2_rootFrom 5 (some .int), Cond.methodLink RX1 90 yX1_secondHolds, Cond.instanceMethod yX1_secondHolds, Cond.selects RX1 yX1_secondHolds yX1_secondHolds, Cond.code yX1_secondHolds cX1_secondHolds 3 (some .boolean), Cond.fieldLink RX1 109 "ChainLays$Ship" "second" "LChainLays$Anchor;"]
def wsX7_hours_r6 : List Cond := [Cond.methodLink RX1 141 yX1_drag, Cond.instanceMethod yX1_drag, Cond.selects RX1 yX1_drag yX1_drag, Cond.code yX1_drag cX1_drag 8 none, Cond.fieldLink RX1 149 "ChainLays$Anchor" "row" "I", Cond.fieldLink RX1 160 "ChainLays$Ship" "dragged" "I", Cond.methodLink RX1 152 yX1_isCell, Cond.instanceMethod yX1_isCell, Cond.selects RX1 yX1_isCell yX1_isCell, Cond.code yX1_isCell cX1_isCell 3 (some .boolean), Cond.fieldLink RX1 35 "ChainLays$Bay" "columns" "I", Cond.methodLink RX1 156 yX0_put, Cond.instanceMethod yX0_put, Cond.selects RX0 yX0_put yX0_put, Cond.code yX0_put cX0_put 4 none]
def wsX7_hours : List Cond := .code yX7_hours cX7_hours 6 (some .int) :: ((wsX7_hours_r1 ++ (wsX7_hours_r2 ++ (wsX7_hours_r3 ++ (wsX7_hours_r4 ++ (wsX7_hours_r5 ++ wsX7_hours_r6))))) ++ wsX70 ++ wsX10 ++ wsX40 ++ wsX60 ++ wsX00 ++ wsX20)
def wsX7_undo_r1 : List Cond := [Cond.fieldLink RX7 33 "ChainLays" "past" "LChainLays$Past;", Cond.fieldLink RX7 26 "ChainLays" "bay" "LChainLays$Bay;", Cond.fieldLink RX7 141 "ChainLays$Past" "size" "I", Cond.methodLink RX7 133 yX4_takeLatest, Cond.instanceMethod yX4_takeLatest, Cond.selects RX4 yX4_takeLatest yX4_takeLatest, Cond.initialized RX4, Cond.code yX4_takeLatest cX4_takeLatest 1 (some (.array .int)), Cond.fieldLink RX4 22 "ChainLays$Past" "size" "I", Cond.fieldLink RX4 18 "ChainLays$Past" "next" "I", Cond.fieldLink RX4 13 "ChainLays$Past" "rows" "[[I", Cond.methodLink RX7 137 yX1_restore, Cond.instanceMethod yX1_restore, Cond.selects RX1 yX1_restore yX1_restore, Cond.initialized RX1, Cond.code yX1_restore cX1_restore 3 none, Cond.fieldLink RX1 56 "ChainLays$Bay" "hour" "I", Cond.fieldLink RX1 45 "ChainLays$Bay" "shipCount" "I", Cond.fieldLink RX1 17 "ChainLays$Bay" "ships" "[LChainLays$Ship;", Cond.methodLink RX1 167 yX6_restore, Cond.instanceMethod yX6_restore, Cond.selects RX6 yX6_restore yX6_restore, Cond.initialized RX6, Cond.code yX6_restore cX6_restore 4 none]
def wsX7_undo_r2 : List Cond := [Cond.fieldLink RX6 12 "ChainLays$Ship" "first" "LChainLays$Anchor;", Cond.fieldLink RX6 18 "ChainLays$Ship" "second" "LChainLays$Anchor;", Cond.fieldLink RX6 40 "ChainLays$Ship" "moored" "Z", Cond.fieldLink RX6 44 "ChainLays$Ship" "ashore" "Z", Cond.fieldLink RX6 47 "ChainLays$Ship" "dragged" "I", Cond.methodLink RX6 67 yX0_restore, Cond.instanceMethod yX0_restore, Cond.selects RX0 yX0_restore yX0_restore, Cond.initialized RX0, Cond.code yX0_restore cX0_restore 3 none, Cond.methodLink RX0 19 yX0_put, Cond.instanceMethod yX0_put, Cond.selects RX0 yX0_put yX0_put, Cond.code yX0_put cX0_put 4 none, Cond.fieldLink RX0 7 "ChainLays$Anchor" "column" "I", Cond.fieldLink RX0 13 "ChainLays$Anchor" "row" "I", Cond.fieldLink RX0 16 "ChainLays$Anchor" "links" "I"]
def wsX7_undo : List Cond := .code yX7_undo cX7_undo 2 (some .int) :: ((wsX7_undo_r1 ++ wsX7_undo_r2) ++ wsX70 ++ wsX40 ++ wsX10 ++ wsX60 ++ wsX00)
def wsX7_anchor : List Cond := .code yX7_anchor cX7_anchor 6 (some .int) :: ([.fieldLink RX7 26 "ChainLays" "bay" "LChainLays$Bay;", .fieldLink RX7 144 "ChainLays$Anchor" "column" "I", .fieldLink RX7 147 "ChainLays$Anchor" "row" "I", .fieldLink RX7 98 "ChainLays$Anchor" "links" "I", .methodLink RX7 81 yX1_shipAt, .instanceMethod yX1_shipAt, .selects RX1 yX1_shipAt yX1_shipAt, .initialized RX1, .code yX1_shipAt cX1_shipAt 2 (some (.object "ChainLays$Ship")), .fieldLink RX1 45 "ChainLays$Bay" "shipCount" "I", .fieldLink RX1 17 "ChainLays$Bay" "ships" "[LChainLays$Ship;", .methodLink RX7 64 yX7_within, .static yX7_within, .initialized RX7, .code yX7_within cX7_within 3 (some .boolean), .methodLink RX7 85 yX6_anchorAt, .instanceMethod yX6_anchorAt, .selects RX6 yX6_anchorAt yX6_anchorAt, .initialized RX6, .code yX6_anchorAt cX6_anchorAt 2 (some (.object "ChainLays$Anchor")), .fieldLink RX6 12 "ChainLays$Ship" "first" "LChainLays$Anchor;", .fieldLink RX6 40 "ChainLays$Ship" "moored" "Z", .fieldLink RX6 18 "ChainLays$Ship" "second" "LChainLays$Anchor;"] ++ wsX70 ++ wsX00 ++ wsX10 ++ wsX60)
def wsX7_ship : List Cond := .code yX7_ship cX7_ship 4 (some .int) :: ([.fieldLink RX7 26 "ChainLays" "bay" "LChainLays$Bay;", .fieldLink RX7 150 "ChainLays$Ship" "weight" "I", .fieldLink RX7 153 "ChainLays$Ship" "length" "I", .fieldLink RX7 154 "ChainLays$Ship" "area" "I", .fieldLink RX7 157 "ChainLays$Ship" "grip" "I", .fieldLink RX7 91 "ChainLays$Ship" "ashore" "Z", .fieldLink RX7 164 "ChainLays$Ship" "dragged" "I", .methodLink RX7 81 yX1_shipAt, .instanceMethod yX1_shipAt, .selects RX1 yX1_shipAt yX1_shipAt, .initialized RX1, .code yX1_shipAt cX1_shipAt 2 (some (.object "ChainLays$Ship")), .fieldLink RX1 45 "ChainLays$Bay" "shipCount" "I", .fieldLink RX1 17 "ChainLays$Bay" "ships" "[LChainLays$Ship;", .methodLink RX7 160 yX7_oneIf, .static yX7_oneIf, .initialized RX7, .code yX7_oneIf cX7_oneIf 1 (some .int)] ++ wsX70 ++ wsX60 ++ wsX10)
def wsX7_hangs_r1 : List Cond := [Cond.fieldLink RX7 26 "ChainLays" "bay" "LChainLays$Bay;", Cond.fieldLink RX7 91 "ChainLays$Ship" "ashore" "Z", Cond.fieldLink RX7 98 "ChainLays$Anchor" "links" "I", Cond.fieldLink RX7 176 "ChainLays$Chain" "hang" "I", Cond.fieldLink RX7 179 "ChainLays$Chain" "ground" "I", Cond.fieldLink RX7 182 "ChainLays$Chain" "reach" "I", Cond.fieldLink RX7 185 "ChainLays$Chain" "lift" "I", Cond.fieldLink RX7 157 "ChainLays$Ship" "grip" "I", Cond.fieldLink RX7 191 "ChainLays$Chain" "taut" "Z", Cond.methodLink RX7 81 yX1_shipAt, Cond.instanceMethod yX1_shipAt, Cond.selects RX1 yX1_shipAt yX1_shipAt, Cond.initialized RX1, Cond.code yX1_shipAt cX1_shipAt 2 (some (.object "ChainLays$Ship")), Cond.fieldLink RX1 45 "ChainLays$Bay" "shipCount" "I", Cond.fieldLink RX1 17 "ChainLays$Bay" "ships" "[LChainLays$Ship;", Cond.methodLink RX7 64 yX7_within, Cond.static yX7_within, Cond.initialized RX7, Cond.code yX7_within cX7_within 3 (some .boolean), Cond.methodLink RX7 85 yX6_anchorAt, Cond.instanceMethod yX6_anchorAt, Cond.selects RX6 yX6_anchorAt yX6_anchorAt, Cond.initialized RX6]
def wsX7_hangs_r2 : List Cond := [Cond.code yX6_anchorAt cX6_anchorAt 2 (some (.object "ChainLays$Anchor")), Cond.fieldLink RX6 12 "ChainLays$Ship" "first" "LChainLays$Anchor;", Cond.fieldLink RX6 40 "ChainLays$Ship" "moored" "Z", Cond.fieldLink RX6 18 "ChainLays$Ship" "second" "LChainLays$Anchor;", Cond.methodLink RX7 167 yX1_chainOf, Cond.instanceMethod yX1_chainOf, Cond.selects RX1 yX1_chainOf yX1_chainOf, Cond.code yX1_chainOf cX1_chainOf 5 (some (.object "ChainLays$Chain")), Cond.fieldLink RX1 24 "ChainLays$Bay" "chain" "LChainLays$Chain;", Cond.fieldLink RX1 63 "ChainLays$Ship" "weight" "I", Cond.fieldLink RX1 66 "ChainLays$Anchor" "column" "I", Cond.methodLink RX1 71 yX1_depthAt, Cond.instanceMethod yX1_depthAt, Cond.selects RX1 yX1_depthAt yX1_depthAt, Cond.code yX1_depthAt cX1_depthAt 2 (some .int), Cond.fieldLink RX1 11 "ChainLays$Bay" "depths" "[I", Cond.methodLink RX1 75 yX2_take, Cond.instanceMethod yX2_take, Cond.selects RX2 yX2_take yX2_take, Cond.initialized RX2, Cond.code yX2_take cX2_take 5 none, Cond.fieldLink RX2 9 "ChainLays$Chain" "pull" "I", Cond.fieldLink RX2 15 "ChainLays$Chain" "weight" "I", Cond.fieldLink RX2 18 "ChainLays$Chain" "links" "I"]
def wsX7_hangs_r3 : List Cond := [Cond.fieldLink RX2 21 "ChainLays$Chain" "depth" "I", Cond.methodLink RX7 171 yX2_findLie, Cond.instanceMethod yX2_findLie, Cond.selects RX2 yX2_findLie yX2_findLie, Cond.code yX2_findLie cX2_findLie 1 none, Cond.fieldLink RX2 44 "ChainLays$Chain" "hung" "I", Cond.fieldLink RX2 47 "ChainLays$Chain" "hang" "I", Cond.fieldLink RX2 35 "ChainLays$Chain" "lift" "I", Cond.fieldLink RX2 31 "ChainLays$Chain" "taut" "Z", Cond.fieldLink RX2 28 "ChainLays$Chain" "risen" "I", Cond.fieldLink RX2 53 "ChainLays$Chain" "ground" "I", Cond.fieldLink RX2 56 "ChainLays$Chain" "run" "I", Cond.fieldLink RX2 59 "ChainLays$Chain" "reach" "I", Cond.methodLink RX2 24 yX2_climb, Cond.instanceMethod yX2_climb, Cond.selects RX2 yX2_climb yX2_climb, Cond.code yX2_climb cX2_climb 5 none, Cond.fieldLink RX2 73 "ChainLays$Chain" "RUNS" "[I", Cond.methodLink RX2 65 yX2_root, Cond.static yX2_root, Cond.code yX2_root cX2_root 4 (some .int), Cond.methodLink RX2 69 yX2_rootFrom, Cond.static yX2_rootFrom, Cond.code yX2_rootFrom cX2_rootFrom 5 (some .int)]
def wsX7_hangs_r4 : List Cond := [Cond.methodLink RX2 50 yX2_findLift, Cond.instanceMethod yX2_findLift, Cond.selects RX2 yX2_findLift yX2_findLift, Cond.code yX2_findLift cX2_findLift 4 none, Cond.methodLink RX2 62 Lib.Math.min.name, Cond.static Lib.Math.min.name, Cond.initialized "java/lang/Math", Cond.code Lib.Math.min.name Lib.Math.min.code 2 (some .int), Cond.methodLink RX7 188 yX2_holding, Cond.instanceMethod yX2_holding, Cond.selects RX2 yX2_holding yX2_holding, Cond.code yX2_holding cX2_holding 2 (some .int), Cond.methodLink RX2 38 Lib.Math.max.name, Cond.static Lib.Math.max.name, Cond.code Lib.Math.max.name Lib.Math.max.code 2 (some .int), Cond.methodLink RX7 160 yX7_oneIf, Cond.static yX7_oneIf, Cond.code yX7_oneIf cX7_oneIf 1 (some .int)]
def wsX7_hangs : List Cond := .code yX7_hangs cX7_hangs 8 (some .int) :: ((wsX7_hangs_r1 ++ (wsX7_hangs_r2 ++ (wsX7_hangs_r3 ++ wsX7_hangs_r4))) ++ wsX70 ++ wsX60 ++ wsX00 ++ wsX20 ++ wsX10)
def wsX7_wind_r1 : List Cond := [Cond.fieldLink RX7 26 "ChainLays" "bay" "LChainLays$Bay;", Cond.fieldLink RX7 91 "ChainLays$Ship" "ashore" "Z", Cond.fieldLink RX7 197 "ChainLays$Ship" "first" "LChainLays$Anchor;", Cond.fieldLink RX7 98 "ChainLays$Anchor" "links" "I", Cond.fieldLink RX7 208 "ChainLays$Ship" "swing" "I", Cond.methodLink RX7 81 yX1_shipAt, Cond.instanceMethod yX1_shipAt, Cond.selects RX1 yX1_shipAt yX1_shipAt, Cond.initialized RX1, Cond.code yX1_shipAt cX1_shipAt 2 (some (.object "ChainLays$Ship")), Cond.fieldLink RX1 45 "ChainLays$Bay" "shipCount" "I", Cond.fieldLink RX1 17 "ChainLays$Bay" "ships" "[LChainLays$Ship;", Cond.methodLink RX7 122 yX7_isWind, Cond.static yX7_isWind, Cond.initialized RX7, Cond.code yX7_isWind cX7_isWind 1 (some .boolean), Cond.methodLink RX7 64 yX7_within, Cond.static yX7_within, Cond.code yX7_within cX7_within 3 (some .boolean), Cond.methodLink RX7 194 yX6_pullBy, Cond.instanceMethod yX6_pullBy, Cond.selects RX6 yX6_pullBy yX6_pullBy, Cond.initialized RX6, Cond.code yX6_pullBy cX6_pullBy 2 (some .int)]
def wsX7_wind_r2 : List Cond := [Cond.fieldLink RX6 34 "ChainLays$Ship" "area" "I", Cond.methodLink RX7 200 yX1_holdsBy, Cond.instanceMethod yX1_holdsBy, Cond.selects RX1 yX1_holdsBy yX1_holdsBy, Cond.code yX1_holdsBy cX1_holdsBy 6 (some .boolean), Cond.fieldLink RX1 82 "ChainLays$Ship" "moored" "Z", Cond.methodLink RX1 79 yX6_pullBy, Cond.methodLink RX1 86 yX1_firstHolds, Cond.instanceMethod yX1_firstHolds, Cond.selects RX1 yX1_firstHolds yX1_firstHolds, Cond.code yX1_firstHolds cX1_firstHolds 4 (some .boolean), Cond.fieldLink RX1 94 "ChainLays$Ship" "first" "LChainLays$Anchor;", Cond.fieldLink RX1 102 "ChainLays$Ship" "grip" "I", Cond.methodLink RX1 98 yX1_chainOf, Cond.instanceMethod yX1_chainOf, Cond.selects RX1 yX1_chainOf yX1_chainOf, Cond.code yX1_chainOf cX1_chainOf 5 (some (.object "ChainLays$Chain")), Cond.fieldLink RX1 24 "ChainLays$Bay" "chain" "LChainLays$Chain;", Cond.fieldLink RX1 63 "ChainLays$Ship" "weight" "I", Cond.fieldLink RX1 66 "ChainLays$Anchor" "column" "I", Cond.methodLink RX1 71 yX1_depthAt, Cond.instanceMethod yX1_depthAt, Cond.selects RX1 yX1_depthAt yX1_depthAt, Cond.code yX1_depthAt cX1_depthAt 2 (some .int)]
def wsX7_wind_r3 : List Cond := [Cond.fieldLink RX1 11 "ChainLays$Bay" "depths" "[I", Cond.methodLink RX1 75 yX2_take, Cond.instanceMethod yX2_take, Cond.selects RX2 yX2_take yX2_take, Cond.initialized RX2, Cond.code yX2_take cX2_take 5 none, Cond.fieldLink RX2 9 "ChainLays$Chain" "pull" "I", Cond.fieldLink RX2 15 "ChainLays$Chain" "weight" "I", Cond.fieldLink RX2 18 "ChainLays$Chain" "links" "I", Cond.fieldLink RX2 21 "ChainLays$Chain" "depth" "I", Cond.methodLink RX1 105 yX2_holds, Cond.instanceMethod yX2_holds, Cond.selects RX2 yX2_holds yX2_holds, Cond.code yX2_holds cX2_holds 2 (some .boolean), Cond.fieldLink RX2 28 "ChainLays$Chain" "risen" "I", Cond.methodLink RX2 24 yX2_climb, Cond.instanceMethod yX2_climb, Cond.selects RX2 yX2_climb yX2_climb, Cond.code yX2_climb cX2_climb 5 none, Cond.fieldLink RX2 44 "ChainLays$Chain" "hung" "I", Cond.fieldLink RX2 56 "ChainLays$Chain" "run" "I", Cond.fieldLink RX2 73 "ChainLays$Chain" "RUNS" "[I", Cond.methodLink RX2 65 yX2_root, Cond.static yX2_root]
def wsX7_wind_r4 : List Cond := [Cond.code yX2_root cX2_root 4 (some .int), Cond.methodLink RX2 69 yX2_rootFrom, Cond.static yX2_rootFrom, Cond.code yX2_rootFrom cX2_rootFrom 5 (some .int), Cond.methodLink RX1 90 yX1_secondHolds, Cond.instanceMethod yX1_secondHolds, Cond.selects RX1 yX1_secondHolds yX1_secondHolds, Cond.code yX1_secondHolds cX1_secondHolds 3 (some .boolean), Cond.fieldLink RX1 109 "ChainLays$Ship" "second" "LChainLays$Anchor;", Cond.fieldLink RX1 112 "ChainLays$Anchor" "links" "I", Cond.methodLink RX7 160 yX7_oneIf, Cond.static yX7_oneIf, Cond.code yX7_oneIf cX7_oneIf 1 (some .int), Cond.methodLink RX7 204 yX1_measureSwing, Cond.instanceMethod yX1_measureSwing, Cond.selects RX1 yX1_measureSwing yX1_measureSwing, Cond.code yX1_measureSwing cX1_measureSwing 4 none, Cond.fieldLink RX1 118 "ChainLays$Chain" "reach" "I", Cond.fieldLink RX1 121 "ChainLays$Ship" "length" "I", Cond.fieldLink RX1 124 "ChainLays$Ship" "swing" "I", Cond.methodLink RX1 115 yX2_findLie, Cond.instanceMethod yX2_findLie, Cond.selects RX2 yX2_findLie yX2_findLie, Cond.code yX2_findLie cX2_findLie 1 none]
def wsX7_wind_r5 : List Cond := [Cond.fieldLink RX2 47 "ChainLays$Chain" "hang" "I", Cond.fieldLink RX2 35 "ChainLays$Chain" "lift" "I", Cond.fieldLink RX2 31 "ChainLays$Chain" "taut" "Z", Cond.fieldLink RX2 53 "ChainLays$Chain" "ground" "I", Cond.fieldLink RX2 59 "ChainLays$Chain" "reach" "I", Cond.methodLink RX2 50 yX2_findLift, Cond.instanceMethod yX2_findLift, Cond.selects RX2 yX2_findLift yX2_findLift, Cond.code yX2_findLift cX2_findLift 4 none, Cond.methodLink RX2 62 Lib.Math.min.name, Cond.static Lib.Math.min.name, Cond.initialized "java/lang/Math", Cond.code Lib.Math.min.name Lib.Math.min.code 2 (some .int)]
def wsX7_wind : List Cond := .code yX7_wind cX7_wind 5 (some .int) :: ((wsX7_wind_r1 ++ (wsX7_wind_r2 ++ (wsX7_wind_r3 ++ (wsX7_wind_r4 ++ wsX7_wind_r5)))) ++ wsX70 ++ wsX60 ++ wsX00 ++ wsX10 ++ wsX20)
def wsX7_apart_r1 : List Cond := [Cond.fieldLink RX7 26 "ChainLays" "bay" "LChainLays$Bay;", Cond.fieldLink RX7 197 "ChainLays$Ship" "first" "LChainLays$Anchor;", Cond.fieldLink RX7 98 "ChainLays$Anchor" "links" "I", Cond.methodLink RX7 81 yX1_shipAt, Cond.instanceMethod yX1_shipAt, Cond.selects RX1 yX1_shipAt yX1_shipAt, Cond.initialized RX1, Cond.code yX1_shipAt cX1_shipAt 2 (some (.object "ChainLays$Ship")), Cond.fieldLink RX1 45 "ChainLays$Bay" "shipCount" "I", Cond.fieldLink RX1 17 "ChainLays$Bay" "ships" "[LChainLays$Ship;", Cond.methodLink RX7 122 yX7_isWind, Cond.static yX7_isWind, Cond.initialized RX7, Cond.code yX7_isWind cX7_isWind 1 (some .boolean), Cond.methodLink RX7 64 yX7_within, Cond.static yX7_within, Cond.code yX7_within cX7_within 3 (some .boolean), Cond.methodLink RX7 204 yX1_measureSwing, Cond.instanceMethod yX1_measureSwing, Cond.selects RX1 yX1_measureSwing yX1_measureSwing, Cond.code yX1_measureSwing cX1_measureSwing 4 none, Cond.fieldLink RX1 94 "ChainLays$Ship" "first" "LChainLays$Anchor;", Cond.fieldLink RX1 24 "ChainLays$Bay" "chain" "LChainLays$Chain;", Cond.fieldLink RX1 118 "ChainLays$Chain" "reach" "I"]
def wsX7_apart_r2 : List Cond := [Cond.fieldLink RX1 121 "ChainLays$Ship" "length" "I", Cond.fieldLink RX1 124 "ChainLays$Ship" "swing" "I", Cond.methodLink RX1 79 yX6_pullBy, Cond.instanceMethod yX6_pullBy, Cond.selects RX6 yX6_pullBy yX6_pullBy, Cond.initialized RX6, Cond.code yX6_pullBy cX6_pullBy 2 (some .int), Cond.fieldLink RX6 34 "ChainLays$Ship" "area" "I", Cond.methodLink RX1 98 yX1_chainOf, Cond.instanceMethod yX1_chainOf, Cond.selects RX1 yX1_chainOf yX1_chainOf, Cond.code yX1_chainOf cX1_chainOf 5 (some (.object "ChainLays$Chain")), Cond.fieldLink RX1 63 "ChainLays$Ship" "weight" "I", Cond.fieldLink RX1 66 "ChainLays$Anchor" "column" "I", Cond.methodLink RX1 71 yX1_depthAt, Cond.instanceMethod yX1_depthAt, Cond.selects RX1 yX1_depthAt yX1_depthAt, Cond.code yX1_depthAt cX1_depthAt 2 (some .int), Cond.fieldLink RX1 11 "ChainLays$Bay" "depths" "[I", Cond.methodLink RX1 75 yX2_take, Cond.instanceMethod yX2_take, Cond.selects RX2 yX2_take yX2_take, Cond.initialized RX2, Cond.code yX2_take cX2_take 5 none]
def wsX7_apart_r3 : List Cond := [Cond.fieldLink RX2 9 "ChainLays$Chain" "pull" "I", Cond.fieldLink RX2 15 "ChainLays$Chain" "weight" "I", Cond.fieldLink RX2 18 "ChainLays$Chain" "links" "I", Cond.fieldLink RX2 21 "ChainLays$Chain" "depth" "I", Cond.methodLink RX1 115 yX2_findLie, Cond.instanceMethod yX2_findLie, Cond.selects RX2 yX2_findLie yX2_findLie, Cond.code yX2_findLie cX2_findLie 1 none, Cond.fieldLink RX2 44 "ChainLays$Chain" "hung" "I", Cond.fieldLink RX2 47 "ChainLays$Chain" "hang" "I", Cond.fieldLink RX2 35 "ChainLays$Chain" "lift" "I", Cond.fieldLink RX2 31 "ChainLays$Chain" "taut" "Z", Cond.fieldLink RX2 28 "ChainLays$Chain" "risen" "I", Cond.fieldLink RX2 53 "ChainLays$Chain" "ground" "I", Cond.fieldLink RX2 56 "ChainLays$Chain" "run" "I", Cond.fieldLink RX2 59 "ChainLays$Chain" "reach" "I", Cond.methodLink RX2 24 yX2_climb, Cond.instanceMethod yX2_climb, Cond.selects RX2 yX2_climb yX2_climb, Cond.code yX2_climb cX2_climb 5 none, Cond.fieldLink RX2 73 "ChainLays$Chain" "RUNS" "[I", Cond.methodLink RX2 65 yX2_root, Cond.static yX2_root, Cond.code yX2_root cX2_root 4 (some .int)]
def wsX7_apart_r4 : List Cond := [Cond.methodLink RX2 69 yX2_rootFrom, Cond.static yX2_rootFrom, Cond.code yX2_rootFrom cX2_rootFrom 5 (some .int), Cond.methodLink RX2 50 yX2_findLift, Cond.instanceMethod yX2_findLift, Cond.selects RX2 yX2_findLift yX2_findLift, Cond.code yX2_findLift cX2_findLift 4 none, Cond.methodLink RX2 62 Lib.Math.min.name, Cond.static Lib.Math.min.name, Cond.initialized "java/lang/Math", Cond.code Lib.Math.min.name Lib.Math.min.code 2 (some .int), Cond.methodLink RX7 211 yX6_isClearOf, Cond.instanceMethod yX6_isClearOf, Cond.selects RX6 yX6_isClearOf yX6_isClearOf, Cond.code yX6_isClearOf cX6_isClearOf 5 (some .boolean), Cond.fieldLink RX6 44 "ChainLays$Ship" "ashore" "Z", Cond.fieldLink RX6 12 "ChainLays$Ship" "first" "LChainLays$Anchor;", Cond.fieldLink RX6 50 "ChainLays$Anchor" "column" "I", Cond.fieldLink RX6 53 "ChainLays$Anchor" "row" "I", Cond.fieldLink RX6 56 "ChainLays$Ship" "swing" "I", Cond.methodLink RX7 160 yX7_oneIf, Cond.static yX7_oneIf, Cond.code yX7_oneIf cX7_oneIf 1 (some .int)]
def wsX7_apart : List Cond := .code yX7_apart cX7_apart 6 (some .int) :: ((wsX7_apart_r1 ++ (wsX7_apart_r2 ++ (wsX7_apart_r3 ++ wsX7_apart_r4))) ++ wsX70 ++ wsX60 ++ wsX00 ++ wsX10 ++ wsX20)
def wsX7_fewest_r1 : List Cond := [Cond.fieldLink RX7 26 "ChainLays" "bay" "LChainLays$Bay;", Cond.fieldLink RX7 91 "ChainLays$Ship" "ashore" "Z", Cond.methodLink RX7 81 yX1_shipAt, Cond.instanceMethod yX1_shipAt, Cond.selects RX1 yX1_shipAt yX1_shipAt, Cond.initialized RX1, Cond.code yX1_shipAt cX1_shipAt 2 (some (.object "ChainLays$Ship")), Cond.fieldLink RX1 45 "ChainLays$Bay" "shipCount" "I", Cond.fieldLink RX1 17 "ChainLays$Bay" "ships" "[LChainLays$Ship;", Cond.methodLink RX7 122 yX7_isWind, Cond.static yX7_isWind, Cond.initialized RX7, Cond.code yX7_isWind cX7_isWind 1 (some .boolean), Cond.methodLink RX7 64 yX7_within, Cond.static yX7_within, Cond.code yX7_within cX7_within 3 (some .boolean), Cond.methodLink RX7 200 yX1_holdsBy, Cond.instanceMethod yX1_holdsBy, Cond.selects RX1 yX1_holdsBy yX1_holdsBy, Cond.code yX1_holdsBy cX1_holdsBy 6 (some .boolean), Cond.fieldLink RX1 82 "ChainLays$Ship" "moored" "Z", Cond.methodLink RX1 79 yX6_pullBy, Cond.instanceMethod yX6_pullBy, Cond.selects RX6 yX6_pullBy yX6_pullBy]
def wsX7_fewest_r2 : List Cond := [Cond.initialized RX6, Cond.code yX6_pullBy cX6_pullBy 2 (some .int), Cond.fieldLink RX6 34 "ChainLays$Ship" "area" "I", Cond.methodLink RX1 86 yX1_firstHolds, Cond.instanceMethod yX1_firstHolds, Cond.selects RX1 yX1_firstHolds yX1_firstHolds, Cond.code yX1_firstHolds cX1_firstHolds 4 (some .boolean), Cond.fieldLink RX1 94 "ChainLays$Ship" "first" "LChainLays$Anchor;", Cond.fieldLink RX1 102 "ChainLays$Ship" "grip" "I", Cond.methodLink RX1 98 yX1_chainOf, Cond.instanceMethod yX1_chainOf, Cond.selects RX1 yX1_chainOf yX1_chainOf, Cond.code yX1_chainOf cX1_chainOf 5 (some (.object "ChainLays$Chain")), Cond.fieldLink RX1 24 "ChainLays$Bay" "chain" "LChainLays$Chain;", Cond.fieldLink RX1 63 "ChainLays$Ship" "weight" "I", Cond.fieldLink RX1 66 "ChainLays$Anchor" "column" "I", Cond.methodLink RX1 71 yX1_depthAt, Cond.instanceMethod yX1_depthAt, Cond.selects RX1 yX1_depthAt yX1_depthAt, Cond.code yX1_depthAt cX1_depthAt 2 (some .int), Cond.fieldLink RX1 11 "ChainLays$Bay" "depths" "[I", Cond.methodLink RX1 75 yX2_take, Cond.instanceMethod yX2_take, Cond.selects RX2 yX2_take yX2_take]
def wsX7_fewest_r3 : List Cond := [Cond.initialized RX2, Cond.code yX2_take cX2_take 5 none, Cond.fieldLink RX2 9 "ChainLays$Chain" "pull" "I", Cond.fieldLink RX2 15 "ChainLays$Chain" "weight" "I", Cond.fieldLink RX2 18 "ChainLays$Chain" "links" "I", Cond.fieldLink RX2 21 "ChainLays$Chain" "depth" "I", Cond.methodLink RX1 105 yX2_holds, Cond.instanceMethod yX2_holds, Cond.selects RX2 yX2_holds yX2_holds, Cond.code yX2_holds cX2_holds 2 (some .boolean), Cond.fieldLink RX2 28 "ChainLays$Chain" "risen" "I", Cond.methodLink RX2 24 yX2_climb, Cond.instanceMethod yX2_climb, Cond.selects RX2 yX2_climb yX2_climb, Cond.code yX2_climb cX2_climb 5 none, Cond.fieldLink RX2 44 "ChainLays$Chain" "hung" "I", Cond.fieldLink RX2 56 "ChainLays$Chain" "run" "I", Cond.fieldLink RX2 73 "ChainLays$Chain" "RUNS" "[I", Cond.methodLink RX2 65 yX2_root, Cond.static yX2_root, Cond.code yX2_root cX2_root 4 (some .int), Cond.methodLink RX2 69 yX2_rootFrom, Cond.static yX2_rootFrom, Cond.code yX2_rootFrom cX2_rootFrom 5 (some .int)]
def wsX7_fewest_r4 : List Cond := [Cond.methodLink RX1 90 yX1_secondHolds, Cond.instanceMethod yX1_secondHolds, Cond.selects RX1 yX1_secondHolds yX1_secondHolds, Cond.code yX1_secondHolds cX1_secondHolds 3 (some .boolean), Cond.fieldLink RX1 109 "ChainLays$Ship" "second" "LChainLays$Anchor;", Cond.fieldLink RX1 112 "ChainLays$Anchor" "links" "I"]
def wsX7_fewest : List Cond := .code yX7_fewest cX7_fewest 5 (some .int) :: ((wsX7_fewest_r1 ++ (wsX7_fewest_r2 ++ (wsX7_fewest_r3 ++ wsX7_fewest_r4))) ++ wsX70 ++ wsX60 ++ wsX10 ++ wsX00 ++ wsX20)
def wsX7_tooMuch_r1 : List Cond := [Cond.fieldLink RX7 26 "ChainLays" "bay" "LChainLays$Bay;", Cond.fieldLink RX7 91 "ChainLays$Ship" "ashore" "Z", Cond.fieldLink RX7 197 "ChainLays$Ship" "first" "LChainLays$Anchor;", Cond.fieldLink RX7 98 "ChainLays$Anchor" "links" "I", Cond.methodLink RX7 81 yX1_shipAt, Cond.instanceMethod yX1_shipAt, Cond.selects RX1 yX1_shipAt yX1_shipAt, Cond.initialized RX1, Cond.code yX1_shipAt cX1_shipAt 2 (some (.object "ChainLays$Ship")), Cond.fieldLink RX1 45 "ChainLays$Bay" "shipCount" "I", Cond.fieldLink RX1 17 "ChainLays$Bay" "ships" "[LChainLays$Ship;", Cond.methodLink RX7 200 yX1_holdsBy, Cond.instanceMethod yX1_holdsBy, Cond.selects RX1 yX1_holdsBy yX1_holdsBy, Cond.code yX1_holdsBy cX1_holdsBy 6 (some .boolean), Cond.fieldLink RX1 82 "ChainLays$Ship" "moored" "Z", Cond.methodLink RX1 79 yX6_pullBy, Cond.instanceMethod yX6_pullBy, Cond.selects RX6 yX6_pullBy yX6_pullBy, Cond.initialized RX6, Cond.code yX6_pullBy cX6_pullBy 2 (some .int), Cond.fieldLink RX6 34 "ChainLays$Ship" "area" "I", Cond.methodLink RX1 86 yX1_firstHolds, Cond.instanceMethod yX1_firstHolds]
def wsX7_tooMuch_r2 : List Cond := [Cond.selects RX1 yX1_firstHolds yX1_firstHolds, Cond.code yX1_firstHolds cX1_firstHolds 4 (some .boolean), Cond.fieldLink RX1 94 "ChainLays$Ship" "first" "LChainLays$Anchor;", Cond.fieldLink RX1 102 "ChainLays$Ship" "grip" "I", Cond.methodLink RX1 98 yX1_chainOf, Cond.instanceMethod yX1_chainOf, Cond.selects RX1 yX1_chainOf yX1_chainOf, Cond.code yX1_chainOf cX1_chainOf 5 (some (.object "ChainLays$Chain")), Cond.fieldLink RX1 24 "ChainLays$Bay" "chain" "LChainLays$Chain;", Cond.fieldLink RX1 63 "ChainLays$Ship" "weight" "I", Cond.fieldLink RX1 66 "ChainLays$Anchor" "column" "I", Cond.methodLink RX1 71 yX1_depthAt, Cond.instanceMethod yX1_depthAt, Cond.selects RX1 yX1_depthAt yX1_depthAt, Cond.code yX1_depthAt cX1_depthAt 2 (some .int), Cond.fieldLink RX1 11 "ChainLays$Bay" "depths" "[I", Cond.methodLink RX1 75 yX2_take, Cond.instanceMethod yX2_take, Cond.selects RX2 yX2_take yX2_take, Cond.initialized RX2, Cond.code yX2_take cX2_take 5 none, Cond.fieldLink RX2 9 "ChainLays$Chain" "pull" "I", Cond.fieldLink RX2 15 "ChainLays$Chain" "weight" "I", Cond.fieldLink RX2 18 "ChainLays$Chain" "links" "I"]
def wsX7_tooMuch_r3 : List Cond := [Cond.fieldLink RX2 21 "ChainLays$Chain" "depth" "I", Cond.methodLink RX1 105 yX2_holds, Cond.instanceMethod yX2_holds, Cond.selects RX2 yX2_holds yX2_holds, Cond.code yX2_holds cX2_holds 2 (some .boolean), Cond.fieldLink RX2 28 "ChainLays$Chain" "risen" "I", Cond.methodLink RX2 24 yX2_climb, Cond.instanceMethod yX2_climb, Cond.selects RX2 yX2_climb yX2_climb, Cond.code yX2_climb cX2_climb 5 none, Cond.fieldLink RX2 44 "ChainLays$Chain" "hung" "I", Cond.fieldLink RX2 56 "ChainLays$Chain" "run" "I", Cond.fieldLink RX2 73 "ChainLays$Chain" "RUNS" "[I", Cond.methodLink RX2 65 yX2_root, Cond.static yX2_root, Cond.code yX2_root cX2_root 4 (some .int), Cond.methodLink RX2 69 yX2_rootFrom, Cond.static yX2_rootFrom, Cond.code yX2_rootFrom cX2_rootFrom 5 (some .int), Cond.methodLink RX1 90 yX1_secondHolds, Cond.instanceMethod yX1_secondHolds, Cond.selects RX1 yX1_secondHolds yX1_secondHolds, Cond.code yX1_secondHolds cX1_secondHolds 3 (some .boolean), Cond.fieldLink RX1 109 "ChainLays$Ship" "second" "LChainLays$Anchor;"]
def wsX7_tooMuch_r4 : List Cond := [Cond.fieldLink RX1 112 "ChainLays$Anchor" "links" "I"]
def wsX7_tooMuch : List Cond := .code yX7_tooMuch cX7_tooMuch 4 (some .int) :: ((wsX7_tooMuch_r1 ++ (wsX7_tooMuch_r2 ++ (wsX7_tooMuch_r3 ++ wsX7_tooMuch_r4))) ++ wsX70 ++ wsX60 ++ wsX00 ++ wsX10 ++ wsX20)
def wsX7_close_r1 : List Cond := [Cond.fieldLink RX7 26 "ChainLays" "bay" "LChainLays$Bay;", Cond.fieldLink RX7 91 "ChainLays$Ship" "ashore" "Z", Cond.methodLink RX7 81 yX1_shipAt, Cond.instanceMethod yX1_shipAt, Cond.selects RX1 yX1_shipAt yX1_shipAt, Cond.initialized RX1, Cond.code yX1_shipAt cX1_shipAt 2 (some (.object "ChainLays$Ship")), Cond.fieldLink RX1 45 "ChainLays$Bay" "shipCount" "I", Cond.fieldLink RX1 17 "ChainLays$Bay" "ships" "[LChainLays$Ship;", Cond.methodLink RX7 122 yX7_isWind, Cond.static yX7_isWind, Cond.initialized RX7, Cond.code yX7_isWind cX7_isWind 1 (some .boolean), Cond.methodLink RX7 64 yX7_within, Cond.static yX7_within, Cond.code yX7_within cX7_within 3 (some .boolean), Cond.methodLink RX7 215 yX1_measureSwings, Cond.instanceMethod yX1_measureSwings, Cond.selects RX1 yX1_measureSwings yX1_measureSwings, Cond.code yX1_measureSwings cX1_measureSwings 3 none, Cond.fieldLink RX1 94 "ChainLays$Ship" "first" "LChainLays$Anchor;", Cond.fieldLink RX1 112 "ChainLays$Anchor" "links" "I", Cond.methodLink RX1 127 yX1_measureSwing, Cond.instanceMethod yX1_measureSwing]
def wsX7_close_r2 : List Cond := [Cond.selects RX1 yX1_measureSwing yX1_measureSwing, Cond.code yX1_measureSwing cX1_measureSwing 4 none, Cond.fieldLink RX1 24 "ChainLays$Bay" "chain" "LChainLays$Chain;", Cond.fieldLink RX1 118 "ChainLays$Chain" "reach" "I", Cond.fieldLink RX1 121 "ChainLays$Ship" "length" "I", Cond.fieldLink RX1 124 "ChainLays$Ship" "swing" "I", Cond.methodLink RX1 79 yX6_pullBy, Cond.instanceMethod yX6_pullBy, Cond.selects RX6 yX6_pullBy yX6_pullBy, Cond.initialized RX6, Cond.code yX6_pullBy cX6_pullBy 2 (some .int), Cond.fieldLink RX6 34 "ChainLays$Ship" "area" "I", Cond.methodLink RX1 98 yX1_chainOf, Cond.instanceMethod yX1_chainOf, Cond.selects RX1 yX1_chainOf yX1_chainOf, Cond.code yX1_chainOf cX1_chainOf 5 (some (.object "ChainLays$Chain")), Cond.fieldLink RX1 63 "ChainLays$Ship" "weight" "I", Cond.fieldLink RX1 66 "ChainLays$Anchor" "column" "I", Cond.methodLink RX1 71 yX1_depthAt, Cond.instanceMethod yX1_depthAt, Cond.selects RX1 yX1_depthAt yX1_depthAt, Cond.code yX1_depthAt cX1_depthAt 2 (some .int), Cond.fieldLink RX1 11 "ChainLays$Bay" "depths" "[I", Cond.methodLink RX1 75 yX2_take]
def wsX7_close_r3 : List Cond := [Cond.instanceMethod yX2_take, Cond.selects RX2 yX2_take yX2_take, Cond.initialized RX2, Cond.code yX2_take cX2_take 5 none, Cond.fieldLink RX2 9 "ChainLays$Chain" "pull" "I", Cond.fieldLink RX2 15 "ChainLays$Chain" "weight" "I", Cond.fieldLink RX2 18 "ChainLays$Chain" "links" "I", Cond.fieldLink RX2 21 "ChainLays$Chain" "depth" "I", Cond.methodLink RX1 115 yX2_findLie, Cond.instanceMethod yX2_findLie, Cond.selects RX2 yX2_findLie yX2_findLie, Cond.code yX2_findLie cX2_findLie 1 none, Cond.fieldLink RX2 44 "ChainLays$Chain" "hung" "I", Cond.fieldLink RX2 47 "ChainLays$Chain" "hang" "I", Cond.fieldLink RX2 35 "ChainLays$Chain" "lift" "I", Cond.fieldLink RX2 31 "ChainLays$Chain" "taut" "Z", Cond.fieldLink RX2 28 "ChainLays$Chain" "risen" "I", Cond.fieldLink RX2 53 "ChainLays$Chain" "ground" "I", Cond.fieldLink RX2 56 "ChainLays$Chain" "run" "I", Cond.fieldLink RX2 59 "ChainLays$Chain" "reach" "I", Cond.methodLink RX2 24 yX2_climb, Cond.instanceMethod yX2_climb, Cond.selects RX2 yX2_climb yX2_climb, Cond.code yX2_climb cX2_climb 5 none]
def wsX7_close_r4 : List Cond := [Cond.fieldLink RX2 73 "ChainLays$Chain" "RUNS" "[I", Cond.methodLink RX2 65 yX2_root, Cond.static yX2_root, Cond.code yX2_root cX2_root 4 (some .int), Cond.methodLink RX2 69 yX2_rootFrom, Cond.static yX2_rootFrom, Cond.code yX2_rootFrom cX2_rootFrom 5 (some .int), Cond.methodLink RX2 50 yX2_findLift, Cond.instanceMethod yX2_findLift, Cond.selects RX2 yX2_findLift yX2_findLift, Cond.code yX2_findLift cX2_findLift 4 none, Cond.methodLink RX2 62 Lib.Math.min.name, Cond.static Lib.Math.min.name, Cond.initialized "java/lang/Math", Cond.code Lib.Math.min.name Lib.Math.min.code 2 (some .int), Cond.methodLink RX7 200 yX1_holdsBy, Cond.instanceMethod yX1_holdsBy, Cond.selects RX1 yX1_holdsBy yX1_holdsBy, Cond.code yX1_holdsBy cX1_holdsBy 6 (some .boolean), Cond.fieldLink RX1 82 "ChainLays$Ship" "moored" "Z", Cond.methodLink RX1 86 yX1_firstHolds, Cond.instanceMethod yX1_firstHolds, Cond.selects RX1 yX1_firstHolds yX1_firstHolds, Cond.code yX1_firstHolds cX1_firstHolds 4 (some .boolean)]
def wsX7_close_r5 : List Cond := [Cond.fieldLink RX1 102 "ChainLays$Ship" "grip" "I", Cond.methodLink RX1 105 yX2_holds, Cond.instanceMethod yX2_holds, Cond.selects RX2 yX2_holds yX2_holds, Cond.code yX2_holds cX2_holds 2 (some .boolean), Cond.methodLink RX1 90 yX1_secondHolds, Cond.instanceMethod yX1_secondHolds, Cond.selects RX1 yX1_secondHolds yX1_secondHolds, Cond.code yX1_secondHolds cX1_secondHolds 3 (some .boolean), Cond.fieldLink RX1 109 "ChainLays$Ship" "second" "LChainLays$Anchor;", Cond.methodLink RX7 219 yX1_isClearOfAll, Cond.instanceMethod yX1_isClearOfAll, Cond.selects RX1 yX1_isClearOfAll yX1_isClearOfAll, Cond.code yX1_isClearOfAll cX1_isClearOfAll 5 (some .boolean), Cond.methodLink RX1 131 yX6_isClearOf, Cond.instanceMethod yX6_isClearOf, Cond.selects RX6 yX6_isClearOf yX6_isClearOf, Cond.code yX6_isClearOf cX6_isClearOf 5 (some .boolean), Cond.fieldLink RX6 44 "ChainLays$Ship" "ashore" "Z", Cond.fieldLink RX6 12 "ChainLays$Ship" "first" "LChainLays$Anchor;", Cond.fieldLink RX6 50 "ChainLays$Anchor" "column" "I", Cond.fieldLink RX6 53 "ChainLays$Anchor" "row" "I", Cond.fieldLink RX6 56 "ChainLays$Ship" "swing" "I"]
def wsX7_close : List Cond := .code yX7_close cX7_close 5 (some .int) :: ((wsX7_close_r1 ++ (wsX7_close_r2 ++ (wsX7_close_r3 ++ (wsX7_close_r4 ++ wsX7_close_r5)))) ++ wsX70 ++ wsX60 ++ wsX10 ++ wsX00 ++ wsX20)
def wsX7_all_r1 : List Cond := [Cond.fieldLink RX7 26 "ChainLays" "bay" "LChainLays$Bay;", Cond.methodLink RX7 122 yX7_isWind, Cond.static yX7_isWind, Cond.initialized RX7, Cond.code yX7_isWind cX7_isWind 1 (some .boolean), Cond.methodLink RX7 64 yX7_within, Cond.static yX7_within, Cond.code yX7_within cX7_within 3 (some .boolean), Cond.methodLink RX7 222 yX1_countHolding, Cond.instanceMethod yX1_countHolding, Cond.selects RX1 yX1_countHolding yX1_countHolding, Cond.initialized RX1, Cond.code yX1_countHolding cX1_countHolding 5 (some .int), Cond.fieldLink RX1 45 "ChainLays$Bay" "shipCount" "I", Cond.fieldLink RX1 17 "ChainLays$Bay" "ships" "[LChainLays$Ship;", Cond.fieldLink RX1 135 "ChainLays$Ship" "ashore" "Z", Cond.fieldLink RX1 94 "ChainLays$Ship" "first" "LChainLays$Anchor;", Cond.fieldLink RX1 112 "ChainLays$Anchor" "links" "I", Cond.methodLink RX1 138 yX1_holdsBy, Cond.instanceMethod yX1_holdsBy, Cond.selects RX1 yX1_holdsBy yX1_holdsBy, Cond.code yX1_holdsBy cX1_holdsBy 6 (some .boolean), Cond.fieldLink RX1 82 "ChainLays$Ship" "moored" "Z", Cond.methodLink RX1 79 yX6_pullBy]
def wsX7_all_r2 : List Cond := [Cond.instanceMethod yX6_pullBy, Cond.selects RX6 yX6_pullBy yX6_pullBy, Cond.initialized RX6, Cond.code yX6_pullBy cX6_pullBy 2 (some .int), Cond.fieldLink RX6 34 "ChainLays$Ship" "area" "I", Cond.methodLink RX1 86 yX1_firstHolds, Cond.instanceMethod yX1_firstHolds, Cond.selects RX1 yX1_firstHolds yX1_firstHolds, Cond.code yX1_firstHolds cX1_firstHolds 4 (some .boolean), Cond.fieldLink RX1 102 "ChainLays$Ship" "grip" "I", Cond.methodLink RX1 98 yX1_chainOf, Cond.instanceMethod yX1_chainOf, Cond.selects RX1 yX1_chainOf yX1_chainOf, Cond.code yX1_chainOf cX1_chainOf 5 (some (.object "ChainLays$Chain")), Cond.fieldLink RX1 24 "ChainLays$Bay" "chain" "LChainLays$Chain;", Cond.fieldLink RX1 63 "ChainLays$Ship" "weight" "I", Cond.fieldLink RX1 66 "ChainLays$Anchor" "column" "I", Cond.methodLink RX1 71 yX1_depthAt, Cond.instanceMethod yX1_depthAt, Cond.selects RX1 yX1_depthAt yX1_depthAt, Cond.code yX1_depthAt cX1_depthAt 2 (some .int), Cond.fieldLink RX1 11 "ChainLays$Bay" "depths" "[I", Cond.methodLink RX1 75 yX2_take, Cond.instanceMethod yX2_take]
def wsX7_all_r3 : List Cond := [Cond.selects RX2 yX2_take yX2_take, Cond.initialized RX2, Cond.code yX2_take cX2_take 5 none, Cond.fieldLink RX2 9 "ChainLays$Chain" "pull" "I", Cond.fieldLink RX2 15 "ChainLays$Chain" "weight" "I", Cond.fieldLink RX2 18 "ChainLays$Chain" "links" "I", Cond.fieldLink RX2 21 "ChainLays$Chain" "depth" "I", Cond.methodLink RX1 105 yX2_holds, Cond.instanceMethod yX2_holds, Cond.selects RX2 yX2_holds yX2_holds, Cond.code yX2_holds cX2_holds 2 (some .boolean), Cond.fieldLink RX2 28 "ChainLays$Chain" "risen" "I", Cond.methodLink RX2 24 yX2_climb, Cond.instanceMethod yX2_climb, Cond.selects RX2 yX2_climb yX2_climb, Cond.code yX2_climb cX2_climb 5 none, Cond.fieldLink RX2 44 "ChainLays$Chain" "hung" "I", Cond.fieldLink RX2 56 "ChainLays$Chain" "run" "I", Cond.fieldLink RX2 73 "ChainLays$Chain" "RUNS" "[I", Cond.methodLink RX2 65 yX2_root, Cond.static yX2_root, Cond.code yX2_root cX2_root 4 (some .int), Cond.methodLink RX2 69 yX2_rootFrom, Cond.static yX2_rootFrom]
def wsX7_all_r4 : List Cond := [Cond.code yX2_rootFrom cX2_rootFrom 5 (some .int), Cond.methodLink RX1 90 yX1_secondHolds, Cond.instanceMethod yX1_secondHolds, Cond.selects RX1 yX1_secondHolds yX1_secondHolds, Cond.code yX1_secondHolds cX1_secondHolds 3 (some .boolean), Cond.fieldLink RX1 109 "ChainLays$Ship" "second" "LChainLays$Anchor;", Cond.static yX7_oneIf, Cond.code yX7_oneIf cX7_oneIf 1 (some .int), Cond.methodLink RX7 215 yX1_measureSwings, Cond.instanceMethod yX1_measureSwings, Cond.selects RX1 yX1_measureSwings yX1_measureSwings, Cond.code yX1_measureSwings cX1_measureSwings 3 none, Cond.methodLink RX1 127 yX1_measureSwing, Cond.instanceMethod yX1_measureSwing, Cond.selects RX1 yX1_measureSwing yX1_measureSwing, Cond.code yX1_measureSwing cX1_measureSwing 4 none, Cond.fieldLink RX1 118 "ChainLays$Chain" "reach" "I", Cond.fieldLink RX1 121 "ChainLays$Ship" "length" "I", Cond.fieldLink RX1 124 "ChainLays$Ship" "swing" "I", Cond.methodLink RX1 115 yX2_findLie, Cond.instanceMethod yX2_findLie, Cond.selects RX2 yX2_findLie yX2_findLie, Cond.code yX2_findLie cX2_findLie 1 none, Cond.fieldLink RX2 47 "ChainLays$Chain" "hang" "I"]
def wsX7_all_r5 : List Cond := [Cond.fieldLink RX2 35 "ChainLays$Chain" "lift" "I", Cond.fieldLink RX2 31 "ChainLays$Chain" "taut" "Z", Cond.fieldLink RX2 53 "ChainLays$Chain" "ground" "I", Cond.fieldLink RX2 59 "ChainLays$Chain" "reach" "I", Cond.methodLink RX2 50 yX2_findLift, Cond.instanceMethod yX2_findLift, Cond.selects RX2 yX2_findLift yX2_findLift, Cond.code yX2_findLift cX2_findLift 4 none, Cond.methodLink RX2 62 Lib.Math.min.name, Cond.static Lib.Math.min.name, Cond.initialized "java/lang/Math", Cond.code Lib.Math.min.name Lib.Math.min.code 2 (some .int), Cond.methodLink RX7 225 yX1_countMeeting, Cond.instanceMethod yX1_countMeeting, Cond.selects RX1 yX1_countMeeting yX1_countMeeting, Cond.code yX1_countMeeting cX1_countMeeting 4 (some .int), Cond.methodLink RX1 131 yX6_isClearOf, Cond.instanceMethod yX6_isClearOf, Cond.selects RX6 yX6_isClearOf yX6_isClearOf, Cond.code yX6_isClearOf cX6_isClearOf 5 (some .boolean), Cond.fieldLink RX6 44 "ChainLays$Ship" "ashore" "Z", Cond.fieldLink RX6 12 "ChainLays$Ship" "first" "LChainLays$Anchor;", Cond.fieldLink RX6 50 "ChainLays$Anchor" "column" "I", Cond.fieldLink RX6 53 "ChainLays$Anchor" "row" "I"]
def wsX7_all_r6 : List Cond := [Cond.fieldLink RX6 56 "ChainLays$Ship" "swing" "I"]
def wsX7_all : List Cond := .code yX7_all cX7_all 3 (some .int) :: ((wsX7_all_r1 ++ (wsX7_all_r2 ++ (wsX7_all_r3 ++ (wsX7_all_r4 ++ (wsX7_all_r5 ++ wsX7_all_r6))))) ++ wsX70 ++ wsX10 ++ wsX60 ++ wsX00 ++ wsX20)
def wsX7_count_r1 : List Cond := [Cond.fieldLink RX7 26 "ChainLays" "bay" "LChainLays$Bay;", Cond.fieldLink RX7 228 "ChainLays$Bay" "columns" "I", Cond.fieldLink RX7 78 "ChainLays$Bay" "shipCount" "I", Cond.fieldLink RX7 126 "ChainLays$Bay" "hour" "I", Cond.fieldLink RX7 33 "ChainLays" "past" "LChainLays$Past;", Cond.fieldLink RX7 141 "ChainLays$Past" "size" "I", Cond.fieldLink RX7 10 "ChainLays" "text" "LChainLays$Letters;", Cond.fieldLink RX7 68 "ChainLays$Letters" "length" "I", Cond.methodLink RX7 229 yX1_countAshore, Cond.instanceMethod yX1_countAshore, Cond.selects RX1 yX1_countAshore yX1_countAshore, Cond.initialized RX1, Cond.code yX1_countAshore cX1_countAshore 3 (some .int), Cond.fieldLink RX1 45 "ChainLays$Bay" "shipCount" "I", Cond.fieldLink RX1 17 "ChainLays$Bay" "ships" "[LChainLays$Ship;", Cond.fieldLink RX1 135 "ChainLays$Ship" "ashore" "Z", Cond.static yX7_oneIf, Cond.initialized RX7, Cond.code yX7_oneIf cX7_oneIf 1 (some .int), Cond.methodLink RX7 232 yX1_countMoored, Cond.instanceMethod yX1_countMoored, Cond.selects RX1 yX1_countMoored yX1_countMoored, Cond.code yX1_countMoored cX1_countMoored 3 (some .int), Cond.fieldLink RX1 82 "ChainLays$Ship" "moored" "Z"]
def wsX7_count_r2 : List Cond := [Cond.methodLink RX7 235 yX1_countLinksOut, Cond.instanceMethod yX1_countLinksOut, Cond.selects RX1 yX1_countLinksOut yX1_countLinksOut, Cond.code yX1_countLinksOut cX1_countLinksOut 4 (some .int), Cond.fieldLink RX1 94 "ChainLays$Ship" "first" "LChainLays$Anchor;", Cond.fieldLink RX1 112 "ChainLays$Anchor" "links" "I", Cond.fieldLink RX1 109 "ChainLays$Ship" "second" "LChainLays$Anchor;"]
def wsX7_count : List Cond := .code yX7_count cX7_count 2 (some .int) :: ((wsX7_count_r1 ++ wsX7_count_r2) ++ wsX70 ++ wsX10 ++ wsX40 ++ wsX30 ++ wsX60 ++ wsX00)
def wsX8_in : List Cond := .code yX8_in cX8_in 3 (some .boolean) :: ([])
def wsX8_column : List Cond := .code yX8_column cX8_column 2 none :: ([.fieldLink RX8 13 "ChainLaysModel" "draft" "[I"] ++ wsX80)
def wsX8_place : List Cond := .code yX8_place cX8_place 6 none :: ([.fieldLink RX8 13 "ChainLaysModel" "draft" "[I"] ++ wsX80)
def wsX8_measure : List Cond := .code yX8_measure cX8_measure 5 none :: ([.fieldLink RX8 13 "ChainLaysModel" "draft" "[I"] ++ wsX80)
def wsX8_install : List Cond := .code yX8_install cX8_install 2 none :: ([.fieldLink RX8 7 "ChainLaysModel" "now" "[I", .fieldLink RX8 13 "ChainLaysModel" "draft" "[I", .fieldLink RX8 72 "ChainLaysModel" "pasts" "I"] ++ wsX80)
def wsX8_init_r1 : List Cond := [Cond.methodLink RX8 1 objectInit, Cond.instanceMethod objectInit, Cond.code objectInit ⟨#[0xb1]⟩ 1 none, Cond.arrayClass .int, Cond.fieldLink RX8 7 "ChainLaysModel" "now" "[I", Cond.fieldLink RX8 13 "ChainLaysModel" "draft" "[I", Cond.fieldLink RX8 16 "ChainLaysModel" "past" "[I", Cond.fieldLink RX8 19 "ChainLaysModel" "text" "[I", Cond.fieldLink RX8 22 "ChainLaysModel" "numbers" "[I", Cond.methodLink RX8 25 yX8_column, Cond.instanceMethod yX8_column, Cond.selects RX8 yX8_column yX8_column, Cond.initialized RX8, Cond.code yX8_column cX8_column 2 none, Cond.methodLink RX8 29 yX8_place, Cond.instanceMethod yX8_place, Cond.selects RX8 yX8_place yX8_place, Cond.code yX8_place cX8_place 6 none, Cond.methodLink RX8 33 yX8_measure, Cond.instanceMethod yX8_measure, Cond.selects RX8 yX8_measure yX8_measure, Cond.code yX8_measure cX8_measure 5 none, Cond.methodLink RX8 37 yX8_install, Cond.instanceMethod yX8_install]
def wsX8_init_r2 : List Cond := [Cond.selects RX8 yX8_install yX8_install, Cond.code yX8_install cX8_install 2 none, Cond.fieldLink RX8 72 "ChainLaysModel" "pasts" "I"]
def wsX8_init : List Cond := .code yX8_init cX8_init 1 none :: ((wsX8_init_r1 ++ wsX8_init_r2) ++ wsX80)
def wsX8_write : List Cond := .code yX8_write cX8_write 2 (some .int) :: ([.fieldLink RX8 44 "ChainLaysModel" "typed" "I", .fieldLink RX8 19 "ChainLaysModel" "text" "[I", .methodLink RX8 40 yX8_in, .static yX8_in, .initialized RX8, .code yX8_in cX8_in 3 (some .boolean)] ++ wsX80)
def wsX8_wipe : List Cond := .code yX8_wipe cX8_wipe 2 (some .int) :: ([.fieldLink RX8 44 "ChainLaysModel" "typed" "I"] ++ wsX80)
def wsX8_isFigure : List Cond := .code yX8_isFigure cX8_isFigure 1 (some .boolean) :: ([.fieldLink RX8 48 "ChainLaysModel" "at" "I", .fieldLink RX8 44 "ChainLaysModel" "typed" "I", .fieldLink RX8 19 "ChainLaysModel" "text" "[I", .methodLink RX8 40 yX8_in, .static yX8_in, .initialized RX8, .code yX8_in cX8_in 3 (some .boolean)] ++ wsX80)
def wsX8_isSign : List Cond := .code yX8_isSign cX8_isSign 3 (some .boolean) :: ([.fieldLink RX8 48 "ChainLaysModel" "at" "I", .fieldLink RX8 44 "ChainLaysModel" "typed" "I", .fieldLink RX8 19 "ChainLaysModel" "text" "[I"] ++ wsX80)
def wsX8_readNumbers : List Cond := .code yX8_readNumbers cX8_readNumbers 6 (some .boolean) :: ([.fieldLink RX8 19 "ChainLaysModel" "text" "[I", .fieldLink RX8 48 "ChainLaysModel" "at" "I", .fieldLink RX8 22 "ChainLaysModel" "numbers" "[I", .methodLink RX8 51 yX8_isSign, .instanceMethod yX8_isSign, .selects RX8 yX8_isSign yX8_isSign, .initialized RX8, .code yX8_isSign cX8_isSign 3 (some .boolean), .fieldLink RX8 44 "ChainLaysModel" "typed" "I", .methodLink RX8 55 yX8_isFigure, .instanceMethod yX8_isFigure, .selects RX8 yX8_isFigure yX8_isFigure, .code yX8_isFigure cX8_isFigure 1 (some .boolean), .methodLink RX8 40 yX8_in, .static yX8_in, .code yX8_in cX8_in 3 (some .boolean)] ++ wsX80)
def wsX8_readColumn_r1 : List Cond := [Cond.fieldLink RX8 22 "ChainLaysModel" "numbers" "[I", Cond.fieldLink RX8 13 "ChainLaysModel" "draft" "[I", Cond.methodLink RX8 59 yX8_readNumbers, Cond.instanceMethod yX8_readNumbers, Cond.selects RX8 yX8_readNumbers yX8_readNumbers, Cond.initialized RX8, Cond.code yX8_readNumbers cX8_readNumbers 6 (some .boolean), Cond.fieldLink RX8 19 "ChainLaysModel" "text" "[I", Cond.fieldLink RX8 48 "ChainLaysModel" "at" "I", Cond.methodLink RX8 51 yX8_isSign, Cond.instanceMethod yX8_isSign, Cond.selects RX8 yX8_isSign yX8_isSign, Cond.code yX8_isSign cX8_isSign 3 (some .boolean), Cond.fieldLink RX8 44 "ChainLaysModel" "typed" "I", Cond.methodLink RX8 55 yX8_isFigure, Cond.instanceMethod yX8_isFigure, Cond.selects RX8 yX8_isFigure yX8_isFigure, Cond.code yX8_isFigure cX8_isFigure 1 (some .boolean), Cond.methodLink RX8 40 yX8_in, Cond.static yX8_in, Cond.code yX8_in cX8_in 3 (some .boolean), Cond.methodLink RX8 25 yX8_column, Cond.instanceMethod yX8_column, Cond.selects RX8 yX8_column yX8_column]
def wsX8_readColumn_r2 : List Cond := [Cond.code yX8_column cX8_column 2 none]
def wsX8_readColumn : List Cond := .code yX8_readColumn cX8_readColumn 1 (some .boolean) :: ((wsX8_readColumn_r1 ++ wsX8_readColumn_r2) ++ wsX80)
def wsX8_readShip_r1 : List Cond := [Cond.fieldLink RX8 13 "ChainLaysModel" "draft" "[I", Cond.fieldLink RX8 22 "ChainLaysModel" "numbers" "[I", Cond.methodLink RX8 59 yX8_readNumbers, Cond.instanceMethod yX8_readNumbers, Cond.selects RX8 yX8_readNumbers yX8_readNumbers, Cond.initialized RX8, Cond.code yX8_readNumbers cX8_readNumbers 6 (some .boolean), Cond.fieldLink RX8 19 "ChainLaysModel" "text" "[I", Cond.fieldLink RX8 48 "ChainLaysModel" "at" "I", Cond.methodLink RX8 51 yX8_isSign, Cond.instanceMethod yX8_isSign, Cond.selects RX8 yX8_isSign yX8_isSign, Cond.code yX8_isSign cX8_isSign 3 (some .boolean), Cond.fieldLink RX8 44 "ChainLaysModel" "typed" "I", Cond.methodLink RX8 55 yX8_isFigure, Cond.instanceMethod yX8_isFigure, Cond.selects RX8 yX8_isFigure yX8_isFigure, Cond.code yX8_isFigure cX8_isFigure 1 (some .boolean), Cond.methodLink RX8 40 yX8_in, Cond.static yX8_in, Cond.code yX8_in cX8_in 3 (some .boolean), Cond.methodLink RX8 29 yX8_place, Cond.instanceMethod yX8_place, Cond.selects RX8 yX8_place yX8_place]
def wsX8_readShip_r2 : List Cond := [Cond.code yX8_place cX8_place 6 none, Cond.methodLink RX8 33 yX8_measure, Cond.instanceMethod yX8_measure, Cond.selects RX8 yX8_measure yX8_measure, Cond.code yX8_measure cX8_measure 5 none]
def wsX8_readShip : List Cond := .code yX8_readShip cX8_readShip 2 (some .boolean) :: ((wsX8_readShip_r1 ++ wsX8_readShip_r2) ++ wsX80)
def wsX8_parse_r1 : List Cond := [Cond.fieldLink RX8 13 "ChainLaysModel" "draft" "[I", Cond.fieldLink RX8 48 "ChainLaysModel" "at" "I", Cond.fieldLink RX8 44 "ChainLaysModel" "typed" "I", Cond.fieldLink RX8 19 "ChainLaysModel" "text" "[I", Cond.methodLink RX8 62 yX8_readColumn, Cond.instanceMethod yX8_readColumn, Cond.selects RX8 yX8_readColumn yX8_readColumn, Cond.initialized RX8, Cond.code yX8_readColumn cX8_readColumn 1 (some .boolean), Cond.fieldLink RX8 22 "ChainLaysModel" "numbers" "[I", Cond.methodLink RX8 59 yX8_readNumbers, Cond.instanceMethod yX8_readNumbers, Cond.selects RX8 yX8_readNumbers yX8_readNumbers, Cond.code yX8_readNumbers cX8_readNumbers 6 (some .boolean), Cond.methodLink RX8 51 yX8_isSign, Cond.instanceMethod yX8_isSign, Cond.selects RX8 yX8_isSign yX8_isSign, Cond.code yX8_isSign cX8_isSign 3 (some .boolean), Cond.methodLink RX8 55 yX8_isFigure, Cond.instanceMethod yX8_isFigure, Cond.selects RX8 yX8_isFigure yX8_isFigure, Cond.code yX8_isFigure cX8_isFigure 1 (some .boolean), Cond.methodLink RX8 40 yX8_in, Cond.static yX8_in]
def wsX8_parse_r2 : List Cond := [Cond.code yX8_in cX8_in 3 (some .boolean), Cond.methodLink RX8 25 yX8_column, Cond.instanceMethod yX8_column, Cond.selects RX8 yX8_column yX8_column, Cond.code yX8_column cX8_column 2 none, Cond.methodLink RX8 65 yX8_readShip, Cond.instanceMethod yX8_readShip, Cond.selects RX8 yX8_readShip yX8_readShip, Cond.code yX8_readShip cX8_readShip 2 (some .boolean), Cond.methodLink RX8 29 yX8_place, Cond.instanceMethod yX8_place, Cond.selects RX8 yX8_place yX8_place, Cond.code yX8_place cX8_place 6 none, Cond.methodLink RX8 33 yX8_measure, Cond.instanceMethod yX8_measure, Cond.selects RX8 yX8_measure yX8_measure, Cond.code yX8_measure cX8_measure 5 none]
def wsX8_parse : List Cond := .code yX8_parse cX8_parse 3 (some .int) :: ((wsX8_parse_r1 ++ wsX8_parse_r2) ++ wsX80)
def wsX8_fault_r1 : List Cond := [Cond.methodLink RX8 68 yX8_parse, Cond.instanceMethod yX8_parse, Cond.selects RX8 yX8_parse yX8_parse, Cond.initialized RX8, Cond.code yX8_parse cX8_parse 3 (some .int), Cond.fieldLink RX8 13 "ChainLaysModel" "draft" "[I", Cond.fieldLink RX8 48 "ChainLaysModel" "at" "I", Cond.fieldLink RX8 44 "ChainLaysModel" "typed" "I", Cond.fieldLink RX8 19 "ChainLaysModel" "text" "[I", Cond.methodLink RX8 62 yX8_readColumn, Cond.instanceMethod yX8_readColumn, Cond.selects RX8 yX8_readColumn yX8_readColumn, Cond.code yX8_readColumn cX8_readColumn 1 (some .boolean), Cond.fieldLink RX8 22 "ChainLaysModel" "numbers" "[I", Cond.methodLink RX8 59 yX8_readNumbers, Cond.instanceMethod yX8_readNumbers, Cond.selects RX8 yX8_readNumbers yX8_readNumbers, Cond.code yX8_readNumbers cX8_readNumbers 6 (some .boolean), Cond.methodLink RX8 51 yX8_isSign, Cond.instanceMethod yX8_isSign, Cond.selects RX8 yX8_isSign yX8_isSign, Cond.code yX8_isSign cX8_isSign 3 (some .boolean), Cond.methodLink RX8 55 yX8_isFigure, Cond.instanceMethod yX8_isFigure]
def wsX8_fault_r2 : List Cond := [Cond.selects RX8 yX8_isFigure yX8_isFigure, Cond.code yX8_isFigure cX8_isFigure 1 (some .boolean), Cond.methodLink RX8 40 yX8_in, Cond.static yX8_in, Cond.code yX8_in cX8_in 3 (some .boolean), Cond.methodLink RX8 25 yX8_column, Cond.instanceMethod yX8_column, Cond.selects RX8 yX8_column yX8_column, Cond.code yX8_column cX8_column 2 none, Cond.methodLink RX8 65 yX8_readShip, Cond.instanceMethod yX8_readShip, Cond.selects RX8 yX8_readShip yX8_readShip, Cond.code yX8_readShip cX8_readShip 2 (some .boolean), Cond.methodLink RX8 29 yX8_place, Cond.instanceMethod yX8_place, Cond.selects RX8 yX8_place yX8_place, Cond.code yX8_place cX8_place 6 none, Cond.methodLink RX8 33 yX8_measure, Cond.instanceMethod yX8_measure, Cond.selects RX8 yX8_measure yX8_measure, Cond.code yX8_measure cX8_measure 5 none]
def wsX8_fault : List Cond := .code yX8_fault cX8_fault 1 (some .int) :: ((wsX8_fault_r1 ++ wsX8_fault_r2) ++ wsX80)
def wsX8_lay_r1 : List Cond := [Cond.fieldLink RX8 13 "ChainLaysModel" "draft" "[I", Cond.fieldLink RX8 7 "ChainLaysModel" "now" "[I", Cond.methodLink RX8 68 yX8_parse, Cond.instanceMethod yX8_parse, Cond.selects RX8 yX8_parse yX8_parse, Cond.initialized RX8, Cond.code yX8_parse cX8_parse 3 (some .int), Cond.fieldLink RX8 48 "ChainLaysModel" "at" "I", Cond.fieldLink RX8 44 "ChainLaysModel" "typed" "I", Cond.fieldLink RX8 19 "ChainLaysModel" "text" "[I", Cond.methodLink RX8 62 yX8_readColumn, Cond.instanceMethod yX8_readColumn, Cond.selects RX8 yX8_readColumn yX8_readColumn, Cond.code yX8_readColumn cX8_readColumn 1 (some .boolean), Cond.fieldLink RX8 22 "ChainLaysModel" "numbers" "[I", Cond.methodLink RX8 59 yX8_readNumbers, Cond.instanceMethod yX8_readNumbers, Cond.selects RX8 yX8_readNumbers yX8_readNumbers, Cond.code yX8_readNumbers cX8_readNumbers 6 (some .boolean), Cond.methodLink RX8 51 yX8_isSign, Cond.instanceMethod yX8_isSign, Cond.selects RX8 yX8_isSign yX8_isSign, Cond.code yX8_isSign cX8_isSign 3 (some .boolean), Cond.methodLink RX8 55 yX8_isFigure]
def wsX8_lay_r2 : List Cond := [Cond.instanceMethod yX8_isFigure, Cond.selects RX8 yX8_isFigure yX8_isFigure, Cond.code yX8_isFigure cX8_isFigure 1 (some .boolean), Cond.methodLink RX8 40 yX8_in, Cond.static yX8_in, Cond.code yX8_in cX8_in 3 (some .boolean), Cond.methodLink RX8 25 yX8_column, Cond.instanceMethod yX8_column, Cond.selects RX8 yX8_column yX8_column, Cond.code yX8_column cX8_column 2 none, Cond.methodLink RX8 65 yX8_readShip, Cond.instanceMethod yX8_readShip, Cond.selects RX8 yX8_readShip yX8_readShip, Cond.code yX8_readShip cX8_readShip 2 (some .boolean), Cond.methodLink RX8 29 yX8_place, Cond.instanceMethod yX8_place, Cond.selects RX8 yX8_place yX8_place, Cond.code yX8_place cX8_place 6 none, Cond.methodLink RX8 33 yX8_measure, Cond.instanceMethod yX8_measure, Cond.selects RX8 yX8_measure yX8_measure, Cond.code yX8_measure cX8_measure 5 none, Cond.methodLink RX8 37 yX8_install, Cond.instanceMethod yX8_install]
def wsX8_lay_r3 : List Cond := [Cond.selects RX8 yX8_install yX8_install, Cond.code yX8_install cX8_install 2 none, Cond.fieldLink RX8 72 "ChainLaysModel" "pasts" "I"]
def wsX8_lay : List Cond := .code yX8_lay cX8_lay 1 (some .int) :: ((wsX8_lay_r1 ++ (wsX8_lay_r2 ++ wsX8_lay_r3)) ++ wsX80)
def wsX8_push : List Cond := .code yX8_push cX8_push 2 none :: ([.fieldLink RX8 72 "ChainLaysModel" "pasts" "I", .fieldLink RX8 16 "ChainLaysModel" "past" "[I", .fieldLink RX8 7 "ChainLaysModel" "now" "[I"] ++ wsX80)
def wsX8_undo : List Cond := .code yX8_undo cX8_undo 2 (some .int) :: ([.fieldLink RX8 72 "ChainLaysModel" "pasts" "I", .fieldLink RX8 7 "ChainLaysModel" "now" "[I", .fieldLink RX8 16 "ChainLaysModel" "past" "[I"] ++ wsX80)
def wsX8_of : List Cond := .code yX8_of cX8_of 3 (some .int) :: ([.fieldLink RX8 7 "ChainLaysModel" "now" "[I"] ++ wsX80)
def wsX8_put : List Cond := .code yX8_put cX8_put 4 none :: ([.fieldLink RX8 7 "ChainLaysModel" "now" "[I"] ++ wsX80)
def wsX8_root : List Cond := .code yX8_root cX8_root 4 (some .int) :: ([])
def wsX8_rise : List Cond := .code yX8_rise cX8_rise 2 (some .int) :: ([.methodLink RX8 75 yX8_root, .static yX8_root, .initialized RX8, .code yX8_root cX8_root 4 (some .int)])
def wsX8_runs : List Cond := .code yX8_runs cX8_runs 7 (some .int) :: ([.methodLink RX8 79 yX8_rise, .static yX8_rise, .initialized RX8, .code yX8_rise cX8_rise 2 (some .int), .methodLink RX8 75 yX8_root, .static yX8_root, .code yX8_root cX8_root 4 (some .int)])
def wsX8_rises : List Cond := .code yX8_rises cX8_rises 6 (some .int) :: ([.methodLink RX8 79 yX8_rise, .static yX8_rise, .initialized RX8, .code yX8_rise cX8_rise 2 (some .int), .methodLink RX8 75 yX8_root, .static yX8_root, .code yX8_root cX8_root 4 (some .int)])
def wsX8_chain : List Cond := .code yX8_chain cX8_chain 7 none :: ([.fieldLink RX8 7 "ChainLaysModel" "now" "[I", .fieldLink RX8 83 "ChainLaysModel" "hang" "I", .fieldLink RX8 86 "ChainLaysModel" "ground" "I", .fieldLink RX8 89 "ChainLaysModel" "lift" "I", .fieldLink RX8 92 "ChainLaysModel" "isTaut" "Z", .fieldLink RX8 100 "ChainLaysModel" "reach" "I", .methodLink RX8 79 yX8_rise, .static yX8_rise, .initialized RX8, .code yX8_rise cX8_rise 2 (some .int), .methodLink RX8 75 yX8_root, .static yX8_root, .code yX8_root cX8_root 4 (some .int), .methodLink RX8 96 yX8_runs, .static yX8_runs, .code yX8_runs cX8_runs 7 (some .int), .methodLink RX8 103 yX8_rises, .static yX8_rises, .code yX8_rises cX8_rises 6 (some .int)] ++ wsX80)
def wsX8_holding : List Cond := .code yX8_holding cX8_holding 3 (some .int) :: ([.fieldLink RX8 89 "ChainLaysModel" "lift" "I", .fieldLink RX8 92 "ChainLaysModel" "isTaut" "Z"] ++ wsX80)
def wsX8_pull : List Cond := .code yX8_pull cX8_pull 3 (some .int) :: ([.methodLink RX8 106 yX8_of, .instanceMethod yX8_of, .selects RX8 yX8_of yX8_of, .initialized RX8, .code yX8_of cX8_of 3 (some .int), .fieldLink RX8 7 "ChainLaysModel" "now" "[I"] ++ wsX80)
def wsX8_chainOf_r1 : List Cond := [Cond.methodLink RX8 106 yX8_of, Cond.instanceMethod yX8_of, Cond.selects RX8 yX8_of yX8_of, Cond.initialized RX8, Cond.code yX8_of cX8_of 3 (some .int), Cond.fieldLink RX8 7 "ChainLaysModel" "now" "[I", Cond.methodLink RX8 109 yX8_chain, Cond.instanceMethod yX8_chain, Cond.selects RX8 yX8_chain yX8_chain, Cond.code yX8_chain cX8_chain 7 none, Cond.fieldLink RX8 83 "ChainLaysModel" "hang" "I", Cond.fieldLink RX8 86 "ChainLaysModel" "ground" "I", Cond.fieldLink RX8 89 "ChainLaysModel" "lift" "I", Cond.fieldLink RX8 92 "ChainLaysModel" "isTaut" "Z", Cond.fieldLink RX8 100 "ChainLaysModel" "reach" "I", Cond.methodLink RX8 79 yX8_rise, Cond.static yX8_rise, Cond.code yX8_rise cX8_rise 2 (some .int), Cond.methodLink RX8 75 yX8_root, Cond.static yX8_root, Cond.code yX8_root cX8_root 4 (some .int), Cond.methodLink RX8 96 yX8_runs, Cond.static yX8_runs, Cond.code yX8_runs cX8_runs 7 (some .int)]
def wsX8_chainOf_r2 : List Cond := [Cond.methodLink RX8 103 yX8_rises, Cond.static yX8_rises, Cond.code yX8_rises cX8_rises 6 (some .int)]
def wsX8_chainOf : List Cond := .code yX8_chainOf cX8_chainOf 4 none :: ((wsX8_chainOf_r1 ++ wsX8_chainOf_r2) ++ wsX80)
def wsX8_doesHold_r1 : List Cond := [Cond.methodLink RX8 112 yX8_chainOf, Cond.instanceMethod yX8_chainOf, Cond.selects RX8 yX8_chainOf yX8_chainOf, Cond.initialized RX8, Cond.code yX8_chainOf cX8_chainOf 4 none, Cond.methodLink RX8 106 yX8_of, Cond.instanceMethod yX8_of, Cond.selects RX8 yX8_of yX8_of, Cond.code yX8_of cX8_of 3 (some .int), Cond.fieldLink RX8 7 "ChainLaysModel" "now" "[I", Cond.methodLink RX8 109 yX8_chain, Cond.instanceMethod yX8_chain, Cond.selects RX8 yX8_chain yX8_chain, Cond.code yX8_chain cX8_chain 7 none, Cond.fieldLink RX8 83 "ChainLaysModel" "hang" "I", Cond.fieldLink RX8 86 "ChainLaysModel" "ground" "I", Cond.fieldLink RX8 89 "ChainLaysModel" "lift" "I", Cond.fieldLink RX8 92 "ChainLaysModel" "isTaut" "Z", Cond.fieldLink RX8 100 "ChainLaysModel" "reach" "I", Cond.methodLink RX8 79 yX8_rise, Cond.static yX8_rise, Cond.code yX8_rise cX8_rise 2 (some .int), Cond.methodLink RX8 75 yX8_root, Cond.static yX8_root]
def wsX8_doesHold_r2 : List Cond := [Cond.code yX8_root cX8_root 4 (some .int), Cond.methodLink RX8 96 yX8_runs, Cond.static yX8_runs, Cond.code yX8_runs cX8_runs 7 (some .int), Cond.methodLink RX8 103 yX8_rises, Cond.static yX8_rises, Cond.code yX8_rises cX8_rises 6 (some .int), Cond.methodLink RX8 115 yX8_holding, Cond.instanceMethod yX8_holding, Cond.selects RX8 yX8_holding yX8_holding, Cond.code yX8_holding cX8_holding 3 (some .int)]
def wsX8_doesHold : List Cond := .code yX8_doesHold cX8_doesHold 4 (some .boolean) :: ((wsX8_doesHold_r1 ++ wsX8_doesHold_r2) ++ wsX80)
def wsX8_holds_r1 : List Cond := [Cond.methodLink RX8 118 yX8_pull, Cond.instanceMethod yX8_pull, Cond.selects RX8 yX8_pull yX8_pull, Cond.initialized RX8, Cond.code yX8_pull cX8_pull 3 (some .int), Cond.methodLink RX8 106 yX8_of, Cond.instanceMethod yX8_of, Cond.selects RX8 yX8_of yX8_of, Cond.code yX8_of cX8_of 3 (some .int), Cond.fieldLink RX8 7 "ChainLaysModel" "now" "[I", Cond.methodLink RX8 121 yX8_doesHold, Cond.instanceMethod yX8_doesHold, Cond.selects RX8 yX8_doesHold yX8_doesHold, Cond.code yX8_doesHold cX8_doesHold 4 (some .boolean), Cond.methodLink RX8 112 yX8_chainOf, Cond.instanceMethod yX8_chainOf, Cond.selects RX8 yX8_chainOf yX8_chainOf, Cond.code yX8_chainOf cX8_chainOf 4 none, Cond.methodLink RX8 109 yX8_chain, Cond.instanceMethod yX8_chain, Cond.selects RX8 yX8_chain yX8_chain, Cond.code yX8_chain cX8_chain 7 none, Cond.fieldLink RX8 83 "ChainLaysModel" "hang" "I", Cond.fieldLink RX8 86 "ChainLaysModel" "ground" "I"]
def wsX8_holds_r2 : List Cond := [Cond.fieldLink RX8 89 "ChainLaysModel" "lift" "I", Cond.fieldLink RX8 92 "ChainLaysModel" "isTaut" "Z", Cond.fieldLink RX8 100 "ChainLaysModel" "reach" "I", Cond.methodLink RX8 79 yX8_rise, Cond.static yX8_rise, Cond.code yX8_rise cX8_rise 2 (some .int), Cond.methodLink RX8 75 yX8_root, Cond.static yX8_root, Cond.code yX8_root cX8_root 4 (some .int), Cond.methodLink RX8 96 yX8_runs, Cond.static yX8_runs, Cond.code yX8_runs cX8_runs 7 (some .int), Cond.methodLink RX8 103 yX8_rises, Cond.static yX8_rises, Cond.code yX8_rises cX8_rises 6 (some .int), Cond.methodLink RX8 115 yX8_holding, Cond.instanceMethod yX8_holding, Cond.selects RX8 yX8_holding yX8_holding, Cond.code yX8_holding cX8_holding 3 (some .int)]
def wsX8_holds : List Cond := .code yX8_holds cX8_holds 5 (some .boolean) :: ((wsX8_holds_r1 ++ wsX8_holds_r2) ++ wsX80)
def wsX8_swing_r1 : List Cond := [Cond.fieldLink RX8 100 "ChainLaysModel" "reach" "I", Cond.methodLink RX8 118 yX8_pull, Cond.instanceMethod yX8_pull, Cond.selects RX8 yX8_pull yX8_pull, Cond.initialized RX8, Cond.code yX8_pull cX8_pull 3 (some .int), Cond.methodLink RX8 106 yX8_of, Cond.instanceMethod yX8_of, Cond.selects RX8 yX8_of yX8_of, Cond.code yX8_of cX8_of 3 (some .int), Cond.fieldLink RX8 7 "ChainLaysModel" "now" "[I", Cond.methodLink RX8 112 yX8_chainOf, Cond.instanceMethod yX8_chainOf, Cond.selects RX8 yX8_chainOf yX8_chainOf, Cond.code yX8_chainOf cX8_chainOf 4 none, Cond.methodLink RX8 109 yX8_chain, Cond.instanceMethod yX8_chain, Cond.selects RX8 yX8_chain yX8_chain, Cond.code yX8_chain cX8_chain 7 none, Cond.fieldLink RX8 83 "ChainLaysModel" "hang" "I", Cond.fieldLink RX8 86 "ChainLaysModel" "ground" "I", Cond.fieldLink RX8 89 "ChainLaysModel" "lift" "I", Cond.fieldLink RX8 92 "ChainLaysModel" "isTaut" "Z", Cond.methodLink RX8 79 yX8_rise]
def wsX8_swing_r2 : List Cond := [Cond.static yX8_rise, Cond.code yX8_rise cX8_rise 2 (some .int), Cond.methodLink RX8 75 yX8_root, Cond.static yX8_root, Cond.code yX8_root cX8_root 4 (some .int), Cond.methodLink RX8 96 yX8_runs, Cond.static yX8_runs, Cond.code yX8_runs cX8_runs 7 (some .int), Cond.methodLink RX8 103 yX8_rises, Cond.static yX8_rises, Cond.code yX8_rises cX8_rises 6 (some .int)]
def wsX8_swing : List Cond := .code yX8_swing cX8_swing 3 (some .int) :: ((wsX8_swing_r1 ++ wsX8_swing_r2) ++ wsX80)
def wsX8_isShip : List Cond := .code yX8_isShip cX8_isShip 2 (some .boolean) :: ([.fieldLink RX8 7 "ChainLaysModel" "now" "[I", .methodLink RX8 40 yX8_in, .static yX8_in, .initialized RX8, .code yX8_in cX8_in 3 (some .boolean)] ++ wsX80)
def wsX8_isColumn : List Cond := .code yX8_isColumn cX8_isColumn 2 (some .boolean) :: ([.fieldLink RX8 7 "ChainLaysModel" "now" "[I", .methodLink RX8 40 yX8_in, .static yX8_in, .initialized RX8, .code yX8_in cX8_in 3 (some .boolean)] ++ wsX80)
def wsX8_isWind : List Cond := .code yX8_isWind cX8_isWind 1 (some .boolean) :: ([.methodLink RX8 40 yX8_in, .static yX8_in, .initialized RX8, .code yX8_in cX8_in 3 (some .boolean)])
def wsX8_links : List Cond := .code yX8_links cX8_links 6 (some .int) :: ([.methodLink RX8 124 yX8_isShip, .instanceMethod yX8_isShip, .selects RX8 yX8_isShip yX8_isShip, .initialized RX8, .code yX8_isShip cX8_isShip 2 (some .boolean), .fieldLink RX8 7 "ChainLaysModel" "now" "[I", .methodLink RX8 40 yX8_in, .static yX8_in, .code yX8_in cX8_in 3 (some .boolean), .methodLink RX8 106 yX8_of, .instanceMethod yX8_of, .selects RX8 yX8_of yX8_of, .code yX8_of cX8_of 3 (some .int), .methodLink RX8 127 yX8_push, .instanceMethod yX8_push, .selects RX8 yX8_push yX8_push, .code yX8_push cX8_push 2 none, .fieldLink RX8 72 "ChainLaysModel" "pasts" "I", .fieldLink RX8 16 "ChainLaysModel" "past" "[I", .methodLink RX8 130 yX8_put, .instanceMethod yX8_put, .selects RX8 yX8_put yX8_put, .code yX8_put cX8_put 4 none] ++ wsX80)
def wsX8_moor_r1 : List Cond := [Cond.fieldLink RX8 7 "ChainLaysModel" "now" "[I", Cond.methodLink RX8 124 yX8_isShip, Cond.instanceMethod yX8_isShip, Cond.selects RX8 yX8_isShip yX8_isShip, Cond.initialized RX8, Cond.code yX8_isShip cX8_isShip 2 (some .boolean), Cond.methodLink RX8 40 yX8_in, Cond.static yX8_in, Cond.code yX8_in cX8_in 3 (some .boolean), Cond.methodLink RX8 133 yX8_isColumn, Cond.instanceMethod yX8_isColumn, Cond.selects RX8 yX8_isColumn yX8_isColumn, Cond.code yX8_isColumn cX8_isColumn 2 (some .boolean), Cond.methodLink RX8 106 yX8_of, Cond.instanceMethod yX8_of, Cond.selects RX8 yX8_of yX8_of, Cond.code yX8_of cX8_of 3 (some .int), Cond.methodLink RX8 127 yX8_push, Cond.instanceMethod yX8_push, Cond.selects RX8 yX8_push yX8_push, Cond.code yX8_push cX8_push 2 none, Cond.fieldLink RX8 72 "ChainLaysModel" "pasts" "I", Cond.fieldLink RX8 16 "ChainLaysModel" "past" "[I", Cond.methodLink RX8 130 yX8_put]
def wsX8_moor_r2 : List Cond := [Cond.instanceMethod yX8_put, Cond.selects RX8 yX8_put yX8_put, Cond.code yX8_put cX8_put 4 none]
def wsX8_moor : List Cond := .code yX8_moor cX8_moor 5 (some .int) :: ((wsX8_moor_r1 ++ wsX8_moor_r2) ++ wsX80)
def wsX8_weigh : List Cond := .code yX8_weigh cX8_weigh 3 (some .int) :: ([.methodLink RX8 124 yX8_isShip, .instanceMethod yX8_isShip, .selects RX8 yX8_isShip yX8_isShip, .initialized RX8, .code yX8_isShip cX8_isShip 2 (some .boolean), .fieldLink RX8 7 "ChainLaysModel" "now" "[I", .methodLink RX8 40 yX8_in, .static yX8_in, .code yX8_in cX8_in 3 (some .boolean), .methodLink RX8 106 yX8_of, .instanceMethod yX8_of, .selects RX8 yX8_of yX8_of, .code yX8_of cX8_of 3 (some .int), .methodLink RX8 127 yX8_push, .instanceMethod yX8_push, .selects RX8 yX8_push yX8_push, .code yX8_push cX8_push 2 none, .fieldLink RX8 72 "ChainLaysModel" "pasts" "I", .fieldLink RX8 16 "ChainLaysModel" "past" "[I", .methodLink RX8 130 yX8_put, .instanceMethod yX8_put, .selects RX8 yX8_put yX8_put, .code yX8_put cX8_put 4 none] ++ wsX80)
def wsX8_isField : List Cond := .code yX8_isField cX8_isField 3 (some .boolean) :: ([.methodLink RX8 133 yX8_isColumn, .instanceMethod yX8_isColumn, .selects RX8 yX8_isColumn yX8_isColumn, .initialized RX8, .code yX8_isColumn cX8_isColumn 2 (some .boolean), .fieldLink RX8 7 "ChainLaysModel" "now" "[I", .methodLink RX8 40 yX8_in, .static yX8_in, .code yX8_in cX8_in 3 (some .boolean)] ++ wsX80)
def wsX8_drag : List Cond := .code yX8_drag cX8_drag 6 (some .int) :: ([.methodLink RX8 106 yX8_of, .instanceMethod yX8_of, .selects RX8 yX8_of yX8_of, .initialized RX8, .code yX8_of cX8_of 3 (some .int), .fieldLink RX8 7 "ChainLaysModel" "now" "[I", .methodLink RX8 136 yX8_isField, .instanceMethod yX8_isField, .selects RX8 yX8_isField yX8_isField, .code yX8_isField cX8_isField 3 (some .boolean), .methodLink RX8 133 yX8_isColumn, .instanceMethod yX8_isColumn, .selects RX8 yX8_isColumn yX8_isColumn, .code yX8_isColumn cX8_isColumn 2 (some .boolean), .methodLink RX8 40 yX8_in, .static yX8_in, .code yX8_in cX8_in 3 (some .boolean), .methodLink RX8 130 yX8_put, .instanceMethod yX8_put, .selects RX8 yX8_put yX8_put, .code yX8_put cX8_put 4 none] ++ wsX80)
def wsX8_hours_r1 : List Cond := [Cond.fieldLink RX8 7 "ChainLaysModel" "now" "[I", Cond.methodLink RX8 40 yX8_in, Cond.static yX8_in, Cond.initialized RX8, Cond.code yX8_in cX8_in 3 (some .boolean), Cond.methodLink RX8 140 yX8_isWind, Cond.static yX8_isWind, Cond.code yX8_isWind cX8_isWind 1 (some .boolean), Cond.methodLink RX8 127 yX8_push, Cond.instanceMethod yX8_push, Cond.selects RX8 yX8_push yX8_push, Cond.code yX8_push cX8_push 2 none, Cond.fieldLink RX8 72 "ChainLaysModel" "pasts" "I", Cond.fieldLink RX8 16 "ChainLaysModel" "past" "[I", Cond.methodLink RX8 106 yX8_of, Cond.instanceMethod yX8_of, Cond.selects RX8 yX8_of yX8_of, Cond.code yX8_of cX8_of 3 (some .int), Cond.methodLink RX8 143 yX8_holds, Cond.instanceMethod yX8_holds, Cond.selects RX8 yX8_holds yX8_holds, Cond.code yX8_holds cX8_holds 5 (some .boolean), Cond.methodLink RX8 118 yX8_pull, Cond.instanceMethod yX8_pull]
def wsX8_hours_r2 : List Cond := [Cond.selects RX8 yX8_pull yX8_pull, Cond.code yX8_pull cX8_pull 3 (some .int), Cond.methodLink RX8 121 yX8_doesHold, Cond.instanceMethod yX8_doesHold, Cond.selects RX8 yX8_doesHold yX8_doesHold, Cond.code yX8_doesHold cX8_doesHold 4 (some .boolean), Cond.methodLink RX8 112 yX8_chainOf, Cond.instanceMethod yX8_chainOf, Cond.selects RX8 yX8_chainOf yX8_chainOf, Cond.code yX8_chainOf cX8_chainOf 4 none, Cond.methodLink RX8 109 yX8_chain, Cond.instanceMethod yX8_chain, Cond.selects RX8 yX8_chain yX8_chain, Cond.code yX8_chain cX8_chain 7 none, Cond.fieldLink RX8 83 "ChainLaysModel" "hang" "I", Cond.fieldLink RX8 86 "ChainLaysModel" "ground" "I", Cond.fieldLink RX8 89 "ChainLaysModel" "lift" "I", Cond.fieldLink RX8 92 "ChainLaysModel" "isTaut" "Z", Cond.fieldLink RX8 100 "ChainLaysModel" "reach" "I", Cond.methodLink RX8 79 yX8_rise, Cond.static yX8_rise, Cond.code yX8_rise cX8_rise 2 (some .int), Cond.methodLink RX8 75 yX8_root, Cond.static yX8_root]
def wsX8_hours_r3 : List Cond := [Cond.code yX8_root cX8_root 4 (some .int), Cond.methodLink RX8 96 yX8_runs, Cond.static yX8_runs, Cond.code yX8_runs cX8_runs 7 (some .int), Cond.methodLink RX8 103 yX8_rises, Cond.static yX8_rises, Cond.code yX8_rises cX8_rises 6 (some .int), Cond.methodLink RX8 115 yX8_holding, Cond.instanceMethod yX8_holding, Cond.selects RX8 yX8_holding yX8_holding, Cond.code yX8_holding cX8_holding 3 (some .int), Cond.methodLink RX8 146 yX8_drag, Cond.instanceMethod yX8_drag, Cond.selects RX8 yX8_drag yX8_drag, Cond.code yX8_drag cX8_drag 6 (some .int), Cond.methodLink RX8 136 yX8_isField, Cond.instanceMethod yX8_isField, Cond.selects RX8 yX8_isField yX8_isField, Cond.code yX8_isField cX8_isField 3 (some .boolean), Cond.methodLink RX8 133 yX8_isColumn, Cond.instanceMethod yX8_isColumn, Cond.selects RX8 yX8_isColumn yX8_isColumn, Cond.code yX8_isColumn cX8_isColumn 2 (some .boolean), Cond.methodLink RX8 130 yX8_put]
def wsX8_hours_r4 : List Cond := [Cond.instanceMethod yX8_put, Cond.selects RX8 yX8_put yX8_put, Cond.code yX8_put cX8_put 4 none]
def wsX8_hours : List Cond := .code yX8_hours cX8_hours 7 (some .int) :: ((wsX8_hours_r1 ++ (wsX8_hours_r2 ++ (wsX8_hours_r3 ++ wsX8_hours_r4))) ++ wsX80)
def wsX8_anchor : List Cond := .code yX8_anchor cX8_anchor 4 (some .int) :: ([.methodLink RX8 124 yX8_isShip, .instanceMethod yX8_isShip, .selects RX8 yX8_isShip yX8_isShip, .initialized RX8, .code yX8_isShip cX8_isShip 2 (some .boolean), .fieldLink RX8 7 "ChainLaysModel" "now" "[I", .methodLink RX8 40 yX8_in, .static yX8_in, .code yX8_in cX8_in 3 (some .boolean), .methodLink RX8 106 yX8_of, .instanceMethod yX8_of, .selects RX8 yX8_of yX8_of, .code yX8_of cX8_of 3 (some .int)] ++ wsX80)
def wsX8_ship : List Cond := .code yX8_ship cX8_ship 3 (some .int) :: ([.methodLink RX8 124 yX8_isShip, .instanceMethod yX8_isShip, .selects RX8 yX8_isShip yX8_isShip, .initialized RX8, .code yX8_isShip cX8_isShip 2 (some .boolean), .fieldLink RX8 7 "ChainLaysModel" "now" "[I", .methodLink RX8 40 yX8_in, .static yX8_in, .code yX8_in cX8_in 3 (some .boolean), .methodLink RX8 106 yX8_of, .instanceMethod yX8_of, .selects RX8 yX8_of yX8_of, .code yX8_of cX8_of 3 (some .int)] ++ wsX80)
def wsX8_hangs_r1 : List Cond := [Cond.fieldLink RX8 83 "ChainLaysModel" "hang" "I", Cond.fieldLink RX8 86 "ChainLaysModel" "ground" "I", Cond.fieldLink RX8 100 "ChainLaysModel" "reach" "I", Cond.fieldLink RX8 89 "ChainLaysModel" "lift" "I", Cond.fieldLink RX8 92 "ChainLaysModel" "isTaut" "Z", Cond.methodLink RX8 124 yX8_isShip, Cond.instanceMethod yX8_isShip, Cond.selects RX8 yX8_isShip yX8_isShip, Cond.initialized RX8, Cond.code yX8_isShip cX8_isShip 2 (some .boolean), Cond.fieldLink RX8 7 "ChainLaysModel" "now" "[I", Cond.methodLink RX8 40 yX8_in, Cond.static yX8_in, Cond.code yX8_in cX8_in 3 (some .boolean), Cond.methodLink RX8 106 yX8_of, Cond.instanceMethod yX8_of, Cond.selects RX8 yX8_of yX8_of, Cond.code yX8_of cX8_of 3 (some .int), Cond.methodLink RX8 112 yX8_chainOf, Cond.instanceMethod yX8_chainOf, Cond.selects RX8 yX8_chainOf yX8_chainOf, Cond.code yX8_chainOf cX8_chainOf 4 none, Cond.methodLink RX8 109 yX8_chain, Cond.instanceMethod yX8_chain]
def wsX8_hangs_r2 : List Cond := [Cond.selects RX8 yX8_chain yX8_chain, Cond.code yX8_chain cX8_chain 7 none, Cond.methodLink RX8 79 yX8_rise, Cond.static yX8_rise, Cond.code yX8_rise cX8_rise 2 (some .int), Cond.methodLink RX8 75 yX8_root, Cond.static yX8_root, Cond.code yX8_root cX8_root 4 (some .int), Cond.methodLink RX8 96 yX8_runs, Cond.static yX8_runs, Cond.code yX8_runs cX8_runs 7 (some .int), Cond.methodLink RX8 103 yX8_rises, Cond.static yX8_rises, Cond.code yX8_rises cX8_rises 6 (some .int), Cond.methodLink RX8 115 yX8_holding, Cond.instanceMethod yX8_holding, Cond.selects RX8 yX8_holding yX8_holding, Cond.code yX8_holding cX8_holding 3 (some .int)]
def wsX8_hangs : List Cond := .code yX8_hangs cX8_hangs 5 (some .int) :: ((wsX8_hangs_r1 ++ wsX8_hangs_r2) ++ wsX80)
def wsX8_wind_r1 : List Cond := [Cond.methodLink RX8 124 yX8_isShip, Cond.instanceMethod yX8_isShip, Cond.selects RX8 yX8_isShip yX8_isShip, Cond.initialized RX8, Cond.code yX8_isShip cX8_isShip 2 (some .boolean), Cond.fieldLink RX8 7 "ChainLaysModel" "now" "[I", Cond.methodLink RX8 40 yX8_in, Cond.static yX8_in, Cond.code yX8_in cX8_in 3 (some .boolean), Cond.methodLink RX8 140 yX8_isWind, Cond.static yX8_isWind, Cond.code yX8_isWind cX8_isWind 1 (some .boolean), Cond.methodLink RX8 106 yX8_of, Cond.instanceMethod yX8_of, Cond.selects RX8 yX8_of yX8_of, Cond.code yX8_of cX8_of 3 (some .int), Cond.methodLink RX8 118 yX8_pull, Cond.instanceMethod yX8_pull, Cond.selects RX8 yX8_pull yX8_pull, Cond.code yX8_pull cX8_pull 3 (some .int), Cond.methodLink RX8 143 yX8_holds, Cond.instanceMethod yX8_holds, Cond.selects RX8 yX8_holds yX8_holds, Cond.code yX8_holds cX8_holds 5 (some .boolean)]
def wsX8_wind_r2 : List Cond := [Cond.methodLink RX8 121 yX8_doesHold, Cond.instanceMethod yX8_doesHold, Cond.selects RX8 yX8_doesHold yX8_doesHold, Cond.code yX8_doesHold cX8_doesHold 4 (some .boolean), Cond.methodLink RX8 112 yX8_chainOf, Cond.instanceMethod yX8_chainOf, Cond.selects RX8 yX8_chainOf yX8_chainOf, Cond.code yX8_chainOf cX8_chainOf 4 none, Cond.methodLink RX8 109 yX8_chain, Cond.instanceMethod yX8_chain, Cond.selects RX8 yX8_chain yX8_chain, Cond.code yX8_chain cX8_chain 7 none, Cond.fieldLink RX8 83 "ChainLaysModel" "hang" "I", Cond.fieldLink RX8 86 "ChainLaysModel" "ground" "I", Cond.fieldLink RX8 89 "ChainLaysModel" "lift" "I", Cond.fieldLink RX8 92 "ChainLaysModel" "isTaut" "Z", Cond.fieldLink RX8 100 "ChainLaysModel" "reach" "I", Cond.methodLink RX8 79 yX8_rise, Cond.static yX8_rise, Cond.code yX8_rise cX8_rise 2 (some .int), Cond.methodLink RX8 75 yX8_root, Cond.static yX8_root, Cond.code yX8_root cX8_root 4 (some .int), Cond.methodLink RX8 96 yX8_runs]
def wsX8_wind_r3 : List Cond := [Cond.static yX8_runs, Cond.code yX8_runs cX8_runs 7 (some .int), Cond.methodLink RX8 103 yX8_rises, Cond.static yX8_rises, Cond.code yX8_rises cX8_rises 6 (some .int), Cond.methodLink RX8 115 yX8_holding, Cond.instanceMethod yX8_holding, Cond.selects RX8 yX8_holding yX8_holding, Cond.code yX8_holding cX8_holding 3 (some .int), Cond.methodLink RX8 149 yX8_swing, Cond.instanceMethod yX8_swing, Cond.selects RX8 yX8_swing yX8_swing, Cond.code yX8_swing cX8_swing 3 (some .int)]
def wsX8_wind : List Cond := .code yX8_wind cX8_wind 4 (some .int) :: ((wsX8_wind_r1 ++ (wsX8_wind_r2 ++ wsX8_wind_r3)) ++ wsX80)
def wsX8_areApart_r1 : List Cond := [Cond.methodLink RX8 106 yX8_of, Cond.instanceMethod yX8_of, Cond.selects RX8 yX8_of yX8_of, Cond.initialized RX8, Cond.code yX8_of cX8_of 3 (some .int), Cond.fieldLink RX8 7 "ChainLaysModel" "now" "[I", Cond.methodLink RX8 149 yX8_swing, Cond.instanceMethod yX8_swing, Cond.selects RX8 yX8_swing yX8_swing, Cond.code yX8_swing cX8_swing 3 (some .int), Cond.fieldLink RX8 100 "ChainLaysModel" "reach" "I", Cond.methodLink RX8 118 yX8_pull, Cond.instanceMethod yX8_pull, Cond.selects RX8 yX8_pull yX8_pull, Cond.code yX8_pull cX8_pull 3 (some .int), Cond.methodLink RX8 112 yX8_chainOf, Cond.instanceMethod yX8_chainOf, Cond.selects RX8 yX8_chainOf yX8_chainOf, Cond.code yX8_chainOf cX8_chainOf 4 none, Cond.methodLink RX8 109 yX8_chain, Cond.instanceMethod yX8_chain, Cond.selects RX8 yX8_chain yX8_chain, Cond.code yX8_chain cX8_chain 7 none, Cond.fieldLink RX8 83 "ChainLaysModel" "hang" "I"]
def wsX8_areApart_r2 : List Cond := [Cond.fieldLink RX8 86 "ChainLaysModel" "ground" "I", Cond.fieldLink RX8 89 "ChainLaysModel" "lift" "I", Cond.fieldLink RX8 92 "ChainLaysModel" "isTaut" "Z", Cond.methodLink RX8 79 yX8_rise, Cond.static yX8_rise, Cond.code yX8_rise cX8_rise 2 (some .int), Cond.methodLink RX8 75 yX8_root, Cond.static yX8_root, Cond.code yX8_root cX8_root 4 (some .int), Cond.methodLink RX8 96 yX8_runs, Cond.static yX8_runs, Cond.code yX8_runs cX8_runs 7 (some .int), Cond.methodLink RX8 103 yX8_rises, Cond.static yX8_rises, Cond.code yX8_rises cX8_rises 6 (some .int)]
def wsX8_areApart : List Cond := .code yX8_areApart cX8_areApart 7 (some .boolean) :: ((wsX8_areApart_r1 ++ wsX8_areApart_r2) ++ wsX80)
def wsX8_apart_r1 : List Cond := [Cond.methodLink RX8 124 yX8_isShip, Cond.instanceMethod yX8_isShip, Cond.selects RX8 yX8_isShip yX8_isShip, Cond.initialized RX8, Cond.code yX8_isShip cX8_isShip 2 (some .boolean), Cond.fieldLink RX8 7 "ChainLaysModel" "now" "[I", Cond.methodLink RX8 40 yX8_in, Cond.static yX8_in, Cond.code yX8_in cX8_in 3 (some .boolean), Cond.methodLink RX8 140 yX8_isWind, Cond.static yX8_isWind, Cond.code yX8_isWind cX8_isWind 1 (some .boolean), Cond.methodLink RX8 152 yX8_areApart, Cond.instanceMethod yX8_areApart, Cond.selects RX8 yX8_areApart yX8_areApart, Cond.code yX8_areApart cX8_areApart 7 (some .boolean), Cond.methodLink RX8 106 yX8_of, Cond.instanceMethod yX8_of, Cond.selects RX8 yX8_of yX8_of, Cond.code yX8_of cX8_of 3 (some .int), Cond.methodLink RX8 149 yX8_swing, Cond.instanceMethod yX8_swing, Cond.selects RX8 yX8_swing yX8_swing, Cond.code yX8_swing cX8_swing 3 (some .int)]
def wsX8_apart_r2 : List Cond := [Cond.fieldLink RX8 100 "ChainLaysModel" "reach" "I", Cond.methodLink RX8 118 yX8_pull, Cond.instanceMethod yX8_pull, Cond.selects RX8 yX8_pull yX8_pull, Cond.code yX8_pull cX8_pull 3 (some .int), Cond.methodLink RX8 112 yX8_chainOf, Cond.instanceMethod yX8_chainOf, Cond.selects RX8 yX8_chainOf yX8_chainOf, Cond.code yX8_chainOf cX8_chainOf 4 none, Cond.methodLink RX8 109 yX8_chain, Cond.instanceMethod yX8_chain, Cond.selects RX8 yX8_chain yX8_chain, Cond.code yX8_chain cX8_chain 7 none, Cond.fieldLink RX8 83 "ChainLaysModel" "hang" "I", Cond.fieldLink RX8 86 "ChainLaysModel" "ground" "I", Cond.fieldLink RX8 89 "ChainLaysModel" "lift" "I", Cond.fieldLink RX8 92 "ChainLaysModel" "isTaut" "Z", Cond.methodLink RX8 79 yX8_rise, Cond.static yX8_rise, Cond.code yX8_rise cX8_rise 2 (some .int), Cond.methodLink RX8 75 yX8_root, Cond.static yX8_root, Cond.code yX8_root cX8_root 4 (some .int), Cond.methodLink RX8 96 yX8_runs]
def wsX8_apart_r3 : List Cond := [Cond.static yX8_runs, Cond.code yX8_runs cX8_runs 7 (some .int), Cond.methodLink RX8 103 yX8_rises, Cond.static yX8_rises, Cond.code yX8_rises cX8_rises 6 (some .int)]
def wsX8_apart : List Cond := .code yX8_apart cX8_apart 4 (some .int) :: ((wsX8_apart_r1 ++ (wsX8_apart_r2 ++ wsX8_apart_r3)) ++ wsX80)
def wsX8_fewest_r1 : List Cond := [Cond.methodLink RX8 124 yX8_isShip, Cond.instanceMethod yX8_isShip, Cond.selects RX8 yX8_isShip yX8_isShip, Cond.initialized RX8, Cond.code yX8_isShip cX8_isShip 2 (some .boolean), Cond.fieldLink RX8 7 "ChainLaysModel" "now" "[I", Cond.methodLink RX8 40 yX8_in, Cond.static yX8_in, Cond.code yX8_in cX8_in 3 (some .boolean), Cond.methodLink RX8 140 yX8_isWind, Cond.static yX8_isWind, Cond.code yX8_isWind cX8_isWind 1 (some .boolean), Cond.methodLink RX8 106 yX8_of, Cond.instanceMethod yX8_of, Cond.selects RX8 yX8_of yX8_of, Cond.code yX8_of cX8_of 3 (some .int), Cond.methodLink RX8 130 yX8_put, Cond.instanceMethod yX8_put, Cond.selects RX8 yX8_put yX8_put, Cond.code yX8_put cX8_put 4 none, Cond.methodLink RX8 143 yX8_holds, Cond.instanceMethod yX8_holds, Cond.selects RX8 yX8_holds yX8_holds, Cond.code yX8_holds cX8_holds 5 (some .boolean)]
def wsX8_fewest_r2 : List Cond := [Cond.methodLink RX8 118 yX8_pull, Cond.instanceMethod yX8_pull, Cond.selects RX8 yX8_pull yX8_pull, Cond.code yX8_pull cX8_pull 3 (some .int), Cond.methodLink RX8 121 yX8_doesHold, Cond.instanceMethod yX8_doesHold, Cond.selects RX8 yX8_doesHold yX8_doesHold, Cond.code yX8_doesHold cX8_doesHold 4 (some .boolean), Cond.methodLink RX8 112 yX8_chainOf, Cond.instanceMethod yX8_chainOf, Cond.selects RX8 yX8_chainOf yX8_chainOf, Cond.code yX8_chainOf cX8_chainOf 4 none, Cond.methodLink RX8 109 yX8_chain, Cond.instanceMethod yX8_chain, Cond.selects RX8 yX8_chain yX8_chain, Cond.code yX8_chain cX8_chain 7 none, Cond.fieldLink RX8 83 "ChainLaysModel" "hang" "I", Cond.fieldLink RX8 86 "ChainLaysModel" "ground" "I", Cond.fieldLink RX8 89 "ChainLaysModel" "lift" "I", Cond.fieldLink RX8 92 "ChainLaysModel" "isTaut" "Z", Cond.fieldLink RX8 100 "ChainLaysModel" "reach" "I", Cond.methodLink RX8 79 yX8_rise, Cond.static yX8_rise, Cond.code yX8_rise cX8_rise 2 (some .int)]
def wsX8_fewest_r3 : List Cond := [Cond.methodLink RX8 75 yX8_root, Cond.static yX8_root, Cond.code yX8_root cX8_root 4 (some .int), Cond.methodLink RX8 96 yX8_runs, Cond.static yX8_runs, Cond.code yX8_runs cX8_runs 7 (some .int), Cond.methodLink RX8 103 yX8_rises, Cond.static yX8_rises, Cond.code yX8_rises cX8_rises 6 (some .int), Cond.methodLink RX8 115 yX8_holding, Cond.instanceMethod yX8_holding, Cond.selects RX8 yX8_holding yX8_holding, Cond.code yX8_holding cX8_holding 3 (some .int)]
def wsX8_fewest : List Cond := .code yX8_fewest cX8_fewest 6 (some .int) :: ((wsX8_fewest_r1 ++ (wsX8_fewest_r2 ++ wsX8_fewest_r3)) ++ wsX80)
def wsX8_tooMuch_r1 : List Cond := [Cond.methodLink RX8 124 yX8_isShip, Cond.instanceMethod yX8_isShip, Cond.selects RX8 yX8_isShip yX8_isShip, Cond.initialized RX8, Cond.code yX8_isShip cX8_isShip 2 (some .boolean), Cond.fieldLink RX8 7 "ChainLaysModel" "now" "[I", Cond.methodLink RX8 40 yX8_in, Cond.static yX8_in, Cond.code yX8_in cX8_in 3 (some .boolean), Cond.methodLink RX8 106 yX8_of, Cond.instanceMethod yX8_of, Cond.selects RX8 yX8_of yX8_of, Cond.code yX8_of cX8_of 3 (some .int), Cond.methodLink RX8 143 yX8_holds, Cond.instanceMethod yX8_holds, Cond.selects RX8 yX8_holds yX8_holds, Cond.code yX8_holds cX8_holds 5 (some .boolean), Cond.methodLink RX8 118 yX8_pull, Cond.instanceMethod yX8_pull, Cond.selects RX8 yX8_pull yX8_pull, Cond.code yX8_pull cX8_pull 3 (some .int), Cond.methodLink RX8 121 yX8_doesHold, Cond.instanceMethod yX8_doesHold, Cond.selects RX8 yX8_doesHold yX8_doesHold]
def wsX8_tooMuch_r2 : List Cond := [Cond.code yX8_doesHold cX8_doesHold 4 (some .boolean), Cond.methodLink RX8 112 yX8_chainOf, Cond.instanceMethod yX8_chainOf, Cond.selects RX8 yX8_chainOf yX8_chainOf, Cond.code yX8_chainOf cX8_chainOf 4 none, Cond.methodLink RX8 109 yX8_chain, Cond.instanceMethod yX8_chain, Cond.selects RX8 yX8_chain yX8_chain, Cond.code yX8_chain cX8_chain 7 none, Cond.fieldLink RX8 83 "ChainLaysModel" "hang" "I", Cond.fieldLink RX8 86 "ChainLaysModel" "ground" "I", Cond.fieldLink RX8 89 "ChainLaysModel" "lift" "I", Cond.fieldLink RX8 92 "ChainLaysModel" "isTaut" "Z", Cond.fieldLink RX8 100 "ChainLaysModel" "reach" "I", Cond.methodLink RX8 79 yX8_rise, Cond.static yX8_rise, Cond.code yX8_rise cX8_rise 2 (some .int), Cond.methodLink RX8 75 yX8_root, Cond.static yX8_root, Cond.code yX8_root cX8_root 4 (some .int), Cond.methodLink RX8 96 yX8_runs, Cond.static yX8_runs, Cond.code yX8_runs cX8_runs 7 (some .int), Cond.methodLink RX8 103 yX8_rises]
def wsX8_tooMuch_r3 : List Cond := [Cond.static yX8_rises, Cond.code yX8_rises cX8_rises 6 (some .int), Cond.methodLink RX8 115 yX8_holding, Cond.instanceMethod yX8_holding, Cond.selects RX8 yX8_holding yX8_holding, Cond.code yX8_holding cX8_holding 3 (some .int)]
def wsX8_tooMuch : List Cond := .code yX8_tooMuch cX8_tooMuch 3 (some .int) :: ((wsX8_tooMuch_r1 ++ (wsX8_tooMuch_r2 ++ wsX8_tooMuch_r3)) ++ wsX80)
def wsX8_isClose_r1 : List Cond := [Cond.fieldLink RX8 7 "ChainLaysModel" "now" "[I", Cond.methodLink RX8 143 yX8_holds, Cond.instanceMethod yX8_holds, Cond.selects RX8 yX8_holds yX8_holds, Cond.initialized RX8, Cond.code yX8_holds cX8_holds 5 (some .boolean), Cond.methodLink RX8 118 yX8_pull, Cond.instanceMethod yX8_pull, Cond.selects RX8 yX8_pull yX8_pull, Cond.code yX8_pull cX8_pull 3 (some .int), Cond.methodLink RX8 106 yX8_of, Cond.instanceMethod yX8_of, Cond.selects RX8 yX8_of yX8_of, Cond.code yX8_of cX8_of 3 (some .int), Cond.methodLink RX8 121 yX8_doesHold, Cond.instanceMethod yX8_doesHold, Cond.selects RX8 yX8_doesHold yX8_doesHold, Cond.code yX8_doesHold cX8_doesHold 4 (some .boolean), Cond.methodLink RX8 112 yX8_chainOf, Cond.instanceMethod yX8_chainOf, Cond.selects RX8 yX8_chainOf yX8_chainOf, Cond.code yX8_chainOf cX8_chainOf 4 none, Cond.methodLink RX8 109 yX8_chain, Cond.instanceMethod yX8_chain]
def wsX8_isClose_r2 : List Cond := [Cond.selects RX8 yX8_chain yX8_chain, Cond.code yX8_chain cX8_chain 7 none, Cond.fieldLink RX8 83 "ChainLaysModel" "hang" "I", Cond.fieldLink RX8 86 "ChainLaysModel" "ground" "I", Cond.fieldLink RX8 89 "ChainLaysModel" "lift" "I", Cond.fieldLink RX8 92 "ChainLaysModel" "isTaut" "Z", Cond.fieldLink RX8 100 "ChainLaysModel" "reach" "I", Cond.methodLink RX8 79 yX8_rise, Cond.static yX8_rise, Cond.code yX8_rise cX8_rise 2 (some .int), Cond.methodLink RX8 75 yX8_root, Cond.static yX8_root, Cond.code yX8_root cX8_root 4 (some .int), Cond.methodLink RX8 96 yX8_runs, Cond.static yX8_runs, Cond.code yX8_runs cX8_runs 7 (some .int), Cond.methodLink RX8 103 yX8_rises, Cond.static yX8_rises, Cond.code yX8_rises cX8_rises 6 (some .int), Cond.methodLink RX8 115 yX8_holding, Cond.instanceMethod yX8_holding, Cond.selects RX8 yX8_holding yX8_holding, Cond.code yX8_holding cX8_holding 3 (some .int), Cond.methodLink RX8 152 yX8_areApart]
def wsX8_isClose_r3 : List Cond := [Cond.instanceMethod yX8_areApart, Cond.selects RX8 yX8_areApart yX8_areApart, Cond.code yX8_areApart cX8_areApart 7 (some .boolean), Cond.methodLink RX8 149 yX8_swing, Cond.instanceMethod yX8_swing, Cond.selects RX8 yX8_swing yX8_swing, Cond.code yX8_swing cX8_swing 3 (some .int)]
def wsX8_isClose : List Cond := .code yX8_isClose cX8_isClose 5 (some .boolean) :: ((wsX8_isClose_r1 ++ (wsX8_isClose_r2 ++ wsX8_isClose_r3)) ++ wsX80)
def wsX8_close_r1 : List Cond := [Cond.methodLink RX8 124 yX8_isShip, Cond.instanceMethod yX8_isShip, Cond.selects RX8 yX8_isShip yX8_isShip, Cond.initialized RX8, Cond.code yX8_isShip cX8_isShip 2 (some .boolean), Cond.fieldLink RX8 7 "ChainLaysModel" "now" "[I", Cond.methodLink RX8 40 yX8_in, Cond.static yX8_in, Cond.code yX8_in cX8_in 3 (some .boolean), Cond.methodLink RX8 140 yX8_isWind, Cond.static yX8_isWind, Cond.code yX8_isWind cX8_isWind 1 (some .boolean), Cond.methodLink RX8 106 yX8_of, Cond.instanceMethod yX8_of, Cond.selects RX8 yX8_of yX8_of, Cond.code yX8_of cX8_of 3 (some .int), Cond.methodLink RX8 130 yX8_put, Cond.instanceMethod yX8_put, Cond.selects RX8 yX8_put yX8_put, Cond.code yX8_put cX8_put 4 none, Cond.methodLink RX8 155 yX8_isClose, Cond.instanceMethod yX8_isClose, Cond.selects RX8 yX8_isClose yX8_isClose, Cond.code yX8_isClose cX8_isClose 5 (some .boolean)]
def wsX8_close_r2 : List Cond := [Cond.methodLink RX8 143 yX8_holds, Cond.instanceMethod yX8_holds, Cond.selects RX8 yX8_holds yX8_holds, Cond.code yX8_holds cX8_holds 5 (some .boolean), Cond.methodLink RX8 118 yX8_pull, Cond.instanceMethod yX8_pull, Cond.selects RX8 yX8_pull yX8_pull, Cond.code yX8_pull cX8_pull 3 (some .int), Cond.methodLink RX8 121 yX8_doesHold, Cond.instanceMethod yX8_doesHold, Cond.selects RX8 yX8_doesHold yX8_doesHold, Cond.code yX8_doesHold cX8_doesHold 4 (some .boolean), Cond.methodLink RX8 112 yX8_chainOf, Cond.instanceMethod yX8_chainOf, Cond.selects RX8 yX8_chainOf yX8_chainOf, Cond.code yX8_chainOf cX8_chainOf 4 none, Cond.methodLink RX8 109 yX8_chain, Cond.instanceMethod yX8_chain, Cond.selects RX8 yX8_chain yX8_chain, Cond.code yX8_chain cX8_chain 7 none, Cond.fieldLink RX8 83 "ChainLaysModel" "hang" "I", Cond.fieldLink RX8 86 "ChainLaysModel" "ground" "I", Cond.fieldLink RX8 89 "ChainLaysModel" "lift" "I", Cond.fieldLink RX8 92 "ChainLaysModel" "isTaut" "Z"]
def wsX8_close_r3 : List Cond := [Cond.fieldLink RX8 100 "ChainLaysModel" "reach" "I", Cond.methodLink RX8 79 yX8_rise, Cond.static yX8_rise, Cond.code yX8_rise cX8_rise 2 (some .int), Cond.methodLink RX8 75 yX8_root, Cond.static yX8_root, Cond.code yX8_root cX8_root 4 (some .int), Cond.methodLink RX8 96 yX8_runs, Cond.static yX8_runs, Cond.code yX8_runs cX8_runs 7 (some .int), Cond.methodLink RX8 103 yX8_rises, Cond.static yX8_rises, Cond.code yX8_rises cX8_rises 6 (some .int), Cond.methodLink RX8 115 yX8_holding, Cond.instanceMethod yX8_holding, Cond.selects RX8 yX8_holding yX8_holding, Cond.code yX8_holding cX8_holding 3 (some .int), Cond.methodLink RX8 152 yX8_areApart, Cond.instanceMethod yX8_areApart, Cond.selects RX8 yX8_areApart yX8_areApart, Cond.code yX8_areApart cX8_areApart 7 (some .boolean), Cond.methodLink RX8 149 yX8_swing, Cond.instanceMethod yX8_swing, Cond.selects RX8 yX8_swing yX8_swing]
def wsX8_close_r4 : List Cond := [Cond.code yX8_swing cX8_swing 3 (some .int)]
def wsX8_close : List Cond := .code yX8_close cX8_close 6 (some .int) :: ((wsX8_close_r1 ++ (wsX8_close_r2 ++ (wsX8_close_r3 ++ wsX8_close_r4))) ++ wsX80)
def wsX8_all_r1 : List Cond := [Cond.fieldLink RX8 7 "ChainLaysModel" "now" "[I", Cond.methodLink RX8 140 yX8_isWind, Cond.static yX8_isWind, Cond.initialized RX8, Cond.code yX8_isWind cX8_isWind 1 (some .boolean), Cond.methodLink RX8 40 yX8_in, Cond.static yX8_in, Cond.code yX8_in cX8_in 3 (some .boolean), Cond.methodLink RX8 143 yX8_holds, Cond.instanceMethod yX8_holds, Cond.selects RX8 yX8_holds yX8_holds, Cond.code yX8_holds cX8_holds 5 (some .boolean), Cond.methodLink RX8 118 yX8_pull, Cond.instanceMethod yX8_pull, Cond.selects RX8 yX8_pull yX8_pull, Cond.code yX8_pull cX8_pull 3 (some .int), Cond.methodLink RX8 106 yX8_of, Cond.instanceMethod yX8_of, Cond.selects RX8 yX8_of yX8_of, Cond.code yX8_of cX8_of 3 (some .int), Cond.methodLink RX8 121 yX8_doesHold, Cond.instanceMethod yX8_doesHold, Cond.selects RX8 yX8_doesHold yX8_doesHold, Cond.code yX8_doesHold cX8_doesHold 4 (some .boolean)]
def wsX8_all_r2 : List Cond := [Cond.methodLink RX8 112 yX8_chainOf, Cond.instanceMethod yX8_chainOf, Cond.selects RX8 yX8_chainOf yX8_chainOf, Cond.code yX8_chainOf cX8_chainOf 4 none, Cond.methodLink RX8 109 yX8_chain, Cond.instanceMethod yX8_chain, Cond.selects RX8 yX8_chain yX8_chain, Cond.code yX8_chain cX8_chain 7 none, Cond.fieldLink RX8 83 "ChainLaysModel" "hang" "I", Cond.fieldLink RX8 86 "ChainLaysModel" "ground" "I", Cond.fieldLink RX8 89 "ChainLaysModel" "lift" "I", Cond.fieldLink RX8 92 "ChainLaysModel" "isTaut" "Z", Cond.fieldLink RX8 100 "ChainLaysModel" "reach" "I", Cond.methodLink RX8 79 yX8_rise, Cond.static yX8_rise, Cond.code yX8_rise cX8_rise 2 (some .int), Cond.methodLink RX8 75 yX8_root, Cond.static yX8_root, Cond.code yX8_root cX8_root 4 (some .int), Cond.methodLink RX8 96 yX8_runs, Cond.static yX8_runs, Cond.code yX8_runs cX8_runs 7 (some .int), Cond.methodLink RX8 103 yX8_rises, Cond.static yX8_rises]
def wsX8_all_r3 : List Cond := [Cond.code yX8_rises cX8_rises 6 (some .int), Cond.methodLink RX8 115 yX8_holding, Cond.instanceMethod yX8_holding, Cond.selects RX8 yX8_holding yX8_holding, Cond.code yX8_holding cX8_holding 3 (some .int), Cond.methodLink RX8 152 yX8_areApart, Cond.instanceMethod yX8_areApart, Cond.selects RX8 yX8_areApart yX8_areApart, Cond.code yX8_areApart cX8_areApart 7 (some .boolean), Cond.methodLink RX8 149 yX8_swing, Cond.instanceMethod yX8_swing, Cond.selects RX8 yX8_swing yX8_swing, Cond.code yX8_swing cX8_swing 3 (some .int)]
def wsX8_all : List Cond := .code yX8_all cX8_all 7 (some .int) :: ((wsX8_all_r1 ++ (wsX8_all_r2 ++ wsX8_all_r3)) ++ wsX80)
def wsX8_count : List Cond := .code yX8_count cX8_count 6 (some .int) :: ([.fieldLink RX8 7 "ChainLaysModel" "now" "[I", .fieldLink RX8 72 "ChainLaysModel" "pasts" "I", .fieldLink RX8 44 "ChainLaysModel" "typed" "I", .methodLink RX8 106 yX8_of, .instanceMethod yX8_of, .selects RX8 yX8_of yX8_of, .initialized RX8, .code yX8_of cX8_of 3 (some .int)] ++ wsX80)
def wsJ9_max_7cf53 : List Cond := .code yJ9_max_7cf53 cJ9_max_7cf53 2 (some .int) :: ([])
def wsJ9_min_7cf53 : List Cond := .code yJ9_min_7cf53 cJ9_min_7cf53 2 (some .int) :: ([])
def wsL_law_r1 : List Cond := [Cond.classLink RL 7 RX7, Cond.instantiable RX7 4, Cond.initialized RX7, Cond.classLink RL 10 RX8, Cond.instantiable RX8 13, Cond.initialized RX8, Cond.methodLink RL 9 yX7_init, Cond.instanceMethod yX7_init, Cond.code yX7_init cX7_init 2 none, Cond.methodLink RX7 1 objectInit, Cond.instanceMethod objectInit, Cond.code objectInit ⟨#[0xb1]⟩ 1 none, Cond.classLink RX7 7 RX3, Cond.instantiable RX3 2, Cond.initialized RX3, Cond.fieldLink RX7 10 "ChainLays" "text" "LChainLays$Letters;", Cond.classLink RX7 16 RX5, Cond.instantiable RX5 5, Cond.initialized RX5, Cond.fieldLink RX7 19 "ChainLays" "plan" "LChainLays$Plan;", Cond.classLink RX7 23 RX1, Cond.instantiable RX1 6, Cond.initialized RX1, Cond.fieldLink RX7 26 "ChainLays" "bay" "LChainLays$Bay;"]
def wsL_law_r2 : List Cond := [Cond.classLink RX7 30 RX4, Cond.instantiable RX4 3, Cond.initialized RX4, Cond.fieldLink RX7 33 "ChainLays" "past" "LChainLays$Past;", Cond.instanceMethod yX3_init, Cond.code yX3_init cX3_init 1 none, Cond.methodLink RX3 3 objectInit, Cond.arrayClass .char, Cond.fieldLink RX3 9 "ChainLays$Letters" "letters" "[C", Cond.instanceMethod yX5_init, Cond.code yX5_init cX5_init 1 none, Cond.methodLink RX5 3 objectInit, Cond.arrayClass .int, Cond.fieldLink RX5 9 "ChainLays$Plan" "depths" "[I", Cond.classLink RX5 15 "[[I", Cond.fieldLink RX5 17 "ChainLays$Plan" "numbers" "[[I", Cond.methodLink RX7 25 yX1_init, Cond.instanceMethod yX1_init, Cond.code yX1_init cX1_init 2 none, Cond.methodLink RX1 5 objectInit, Cond.fieldLink RX1 11 "ChainLays$Bay" "depths" "[I", Cond.classLink RX1 1 RX6, Cond.fieldLink RX1 17 "ChainLays$Bay" "ships" "[LChainLays$Ship;", Cond.classLink RX1 21 RX2]
def wsL_law_r3 : List Cond := [Cond.instantiable RX2 12, Cond.initialized RX2, Cond.fieldLink RX1 24 "ChainLays$Bay" "chain" "LChainLays$Chain;", Cond.instantiable RX6 10, Cond.initialized RX6, Cond.instanceMethod yX2_init, Cond.code yX2_init cX2_init 1 none, Cond.methodLink RX2 3 objectInit, Cond.instanceMethod yX6_init, Cond.code yX6_init cX6_init 1 none, Cond.methodLink RX6 5 objectInit, Cond.classLink RX6 1 RX0, Cond.instantiable RX0 3, Cond.initialized RX0, Cond.fieldLink RX6 12 "ChainLays$Ship" "first" "LChainLays$Anchor;", Cond.fieldLink RX6 18 "ChainLays$Ship" "second" "LChainLays$Anchor;", Cond.instanceMethod yX0_init, Cond.code yX0_init cX0_init 1 none, Cond.methodLink RX0 1 objectInit, Cond.instanceMethod yX4_init, Cond.code yX4_init cX4_init 1 none, Cond.methodLink RX4 3 objectInit, Cond.classLink RX4 11 "[[I", Cond.fieldLink RX4 13 "ChainLays$Past" "rows" "[[I"]
def wsL_law_r4 : List Cond := [Cond.methodLink RX7 39 yJ0_length_8abf5, Cond.instanceMethod yJ0_length_8abf5, Cond.selects RJ0 yJ0_length_8abf5 yJ0_length_8abf5, Cond.initialized RJ0, Cond.code yJ0_length_8abf5 cJ0_length_8abf5 1 (some .int), Cond.fieldLink RJ0 9 "java/lang/String" "value" "[B", Cond.methodLink RJ0 335 yJ0_coder_7d493, Cond.instanceMethod yJ0_coder_7d493, Cond.selects RJ0 yJ0_coder_7d493 yJ0_coder_7d493, Cond.code yJ0_coder_7d493 cJ0_coder_7d493 1 (some .byte), Cond.fieldLink RJ0 38 "java/lang/String" "COMPACT_STRINGS" "Z", Cond.fieldLink RJ0 15 "java/lang/String" "coder" "B", Cond.methodLink RX7 45 yJ0_charAt_5068e, Cond.instanceMethod yJ0_charAt_5068e, Cond.selects RJ0 yJ0_charAt_5068e yJ0_charAt_5068e, Cond.code yJ0_charAt_5068e cJ0_charAt_5068e 2 (some .char), Cond.methodLink RJ0 492 yJ0_isLatin1_aae02, Cond.instanceMethod yJ0_isLatin1_aae02, Cond.selects RJ0 yJ0_isLatin1_aae02 yJ0_isLatin1_aae02, Cond.code yJ0_isLatin1_aae02 cJ0_isLatin1_aae02 1 (some .boolean), Cond.methodLink RJ0 495 yJ1_charAt_3b067, Cond.static yJ1_charAt_3b067, Cond.initialized RJ1, Cond.code yJ1_charAt_3b067 cJ1_charAt_3b067 2 (some .char)]
def wsL_law_r5 : List Cond := [Cond.methodLink RJ1 9 yJ0_checkIndex_df160, Cond.static yJ0_checkIndex_df160, Cond.code yJ0_checkIndex_df160 cJ0_checkIndex_df160 2 none, Cond.fieldLink RJ0 1053 "jdk/internal/util/Preconditions" "SIOOBE_FORMATTER" "Ljava/util/function/BiFunction;", Cond.methodLink RJ0 1059 yJ3_checkIndex_8e157, Cond.static yJ3_checkIndex_8e157, Cond.initialized RJ3, Cond.code yJ3_checkIndex_8e157 cJ3_checkIndex_8e157 3 (some .int), Cond.methodLink RJ0 498 yJ2_charAt_3b067, Cond.static yJ2_charAt_3b067, Cond.initialized RJ2, Cond.code yJ2_charAt_3b067 cJ2_charAt_3b067 2 (some .char), Cond.methodLink RJ2 67 yJ2_checkIndex_2214a, Cond.static yJ2_checkIndex_2214a, Cond.code yJ2_checkIndex_2214a cJ2_checkIndex_2214a 2 none, Cond.methodLink RJ2 48 yJ2_length_9d52b, Cond.static yJ2_length_9d52b, Cond.code yJ2_length_9d52b cJ2_length_9d52b 1 (some .int), Cond.methodLink RJ2 414 yJ0_checkIndex_df160, Cond.methodLink RJ2 71 yJ2_getChar_3b067, Cond.static yJ2_getChar_3b067, Cond.code yJ2_getChar_3b067 cJ2_getChar_3b067 2 (some .char), Cond.fieldLink RJ2 44 "java/lang/StringUTF16" "$assertionsDisabled" "Z", Cond.fieldLink RJ2 59 "java/lang/StringUTF16" "HI_BYTE_SHIFT" "I"]
def wsL_law_r6 : List Cond := [Cond.fieldLink RJ2 63 "java/lang/StringUTF16" "LO_BYTE_SHIFT" "I", Cond.methodLink RX7 49 yX3_append, Cond.instanceMethod yX3_append, Cond.selects RX3 yX3_append yX3_append, Cond.code yX3_append cX3_append 2 (some .boolean), Cond.fieldLink RX3 15 "ChainLays$Letters" "length" "I", Cond.methodLink RX7 53 yX5_read, Cond.instanceMethod yX5_read, Cond.selects RX5 yX5_read yX5_read, Cond.code yX5_read cX5_read 4 (some .int), Cond.fieldLink RX5 20 "ChainLays$Plan" "columns" "I", Cond.fieldLink RX5 24 "ChainLays$Plan" "ships" "I", Cond.fieldLink RX5 27 "ChainLays$Plan" "place" "I", Cond.fieldLink RX5 30 "ChainLays$Letters" "length" "I", Cond.methodLink RX5 35 yX5_readItem, Cond.instanceMethod yX5_readItem, Cond.selects RX5 yX5_readItem yX5_readItem, Cond.code yX5_readItem cX5_readItem 3 (some .boolean), Cond.methodLink RX5 39 yX3_letterAt, Cond.instanceMethod yX3_letterAt, Cond.selects RX3 yX3_letterAt yX3_letterAt, Cond.code yX3_letterAt cX3_letterAt 2 (some .char), Cond.methodLink RX5 43 yX5_readColumn, Cond.instanceMethod yX5_readColumn]
def wsL_law_r7 : List Cond := [Cond.selects RX5 yX5_readColumn yX5_readColumn, Cond.code yX5_readColumn cX5_readColumn 3 (some .boolean), Cond.methodLink RX5 49 yX5_readNumber, Cond.instanceMethod yX5_readNumber, Cond.selects RX5 yX5_readNumber yX5_readNumber, Cond.code yX5_readNumber cX5_readNumber 4 (some .int), Cond.static yX7_within, Cond.code yX7_within cX7_within 3 (some .boolean), Cond.methodLink RX5 57 yX5_readSign, Cond.instanceMethod yX5_readSign, Cond.selects RX5 yX5_readSign yX5_readSign, Cond.code yX5_readSign cX5_readSign 3 (some .boolean), Cond.methodLink RX5 46 yX5_readShip, Cond.instanceMethod yX5_readShip, Cond.selects RX5 yX5_readShip yX5_readShip, Cond.code yX5_readShip cX5_readShip 6 (some .boolean), Cond.fieldLink RX5 61 "ChainLays$Plan" "MOST" "[I", Cond.fieldLink RX5 64 "ChainLays$Plan" "LEAST" "[I", Cond.methodLink RX7 57 yX1_layOut, Cond.instanceMethod yX1_layOut, Cond.selects RX1 yX1_layOut yX1_layOut, Cond.code yX1_layOut cX1_layOut 3 none, Cond.fieldLink RX1 29 "ChainLays$Plan" "columns" "I", Cond.fieldLink RX1 35 "ChainLays$Bay" "columns" "I"]
def wsL_law_r8 : List Cond := [Cond.fieldLink RX1 36 "ChainLays$Plan" "depths" "[I", Cond.methodLink RX1 37 arraycopyName, Cond.native arraycopyName, Cond.static arraycopyName, Cond.initialized "java/lang/System", Cond.fieldLink RX1 43 "ChainLays$Plan" "ships" "I", Cond.fieldLink RX1 45 "ChainLays$Bay" "shipCount" "I", Cond.fieldLink RX1 48 "ChainLays$Plan" "numbers" "[[I", Cond.fieldLink RX1 56 "ChainLays$Bay" "hour" "I", Cond.methodLink RX1 52 yX6_layOut, Cond.instanceMethod yX6_layOut, Cond.selects RX6 yX6_layOut yX6_layOut, Cond.code yX6_layOut cX6_layOut 2 none, Cond.fieldLink RX6 27 "ChainLays$Ship" "weight" "I", Cond.fieldLink RX6 31 "ChainLays$Ship" "length" "I", Cond.fieldLink RX6 34 "ChainLays$Ship" "area" "I", Cond.fieldLink RX6 37 "ChainLays$Ship" "grip" "I", Cond.fieldLink RX6 40 "ChainLays$Ship" "moored" "Z", Cond.fieldLink RX6 44 "ChainLays$Ship" "ashore" "Z", Cond.fieldLink RX6 47 "ChainLays$Ship" "dragged" "I", Cond.methodLink RX6 23 yX0_put, Cond.instanceMethod yX0_put, Cond.selects RX0 yX0_put yX0_put, Cond.code yX0_put cX0_put 4 none]
def wsL_law_r9 : List Cond := [Cond.fieldLink RX0 7 "ChainLays$Anchor" "column" "I", Cond.fieldLink RX0 13 "ChainLays$Anchor" "row" "I", Cond.fieldLink RX0 16 "ChainLays$Anchor" "links" "I", Cond.methodLink RX7 61 yX3_clear, Cond.instanceMethod yX3_clear, Cond.selects RX3 yX3_clear yX3_clear, Cond.code yX3_clear cX3_clear 1 none, Cond.methodLink RL 12 yX8_init, Cond.instanceMethod yX8_init, Cond.code yX8_init cX8_init 1 none, Cond.methodLink RX8 1 objectInit, Cond.fieldLink RX8 7 "ChainLaysModel" "now" "[I", Cond.fieldLink RX8 13 "ChainLaysModel" "draft" "[I", Cond.fieldLink RX8 16 "ChainLaysModel" "past" "[I", Cond.fieldLink RX8 19 "ChainLaysModel" "text" "[I", Cond.fieldLink RX8 22 "ChainLaysModel" "numbers" "[I", Cond.methodLink RX8 25 yX8_column, Cond.instanceMethod yX8_column, Cond.selects RX8 yX8_column yX8_column, Cond.code yX8_column cX8_column 2 none, Cond.methodLink RX8 29 yX8_place, Cond.instanceMethod yX8_place, Cond.selects RX8 yX8_place yX8_place, Cond.code yX8_place cX8_place 6 none]
def wsL_law_r10 : List Cond := [Cond.methodLink RX8 33 yX8_measure, Cond.instanceMethod yX8_measure, Cond.selects RX8 yX8_measure yX8_measure, Cond.code yX8_measure cX8_measure 5 none, Cond.methodLink RX8 37 yX8_install, Cond.instanceMethod yX8_install, Cond.selects RX8 yX8_install yX8_install, Cond.code yX8_install cX8_install 2 none, Cond.fieldLink RX8 72 "ChainLaysModel" "pasts" "I", Cond.methodLink RL 13 yX7_write, Cond.instanceMethod yX7_write, Cond.selects RX7 yX7_write yX7_write, Cond.code yX7_write cX7_write 2 (some .int), Cond.fieldLink RX7 68 "ChainLays$Letters" "length" "I", Cond.methodLink RX7 64 yX7_within, Cond.methodLink RL 17 yX8_write, Cond.instanceMethod yX8_write, Cond.selects RX8 yX8_write yX8_write, Cond.code yX8_write cX8_write 2 (some .int), Cond.fieldLink RX8 44 "ChainLaysModel" "typed" "I", Cond.methodLink RX8 40 yX8_in, Cond.static yX8_in, Cond.code yX8_in cX8_in 3 (some .boolean), Cond.methodLink RL 18 yX7_wipe]
def wsL_law_r11 : List Cond := [Cond.instanceMethod yX7_wipe, Cond.selects RX7 yX7_wipe yX7_wipe, Cond.code yX7_wipe cX7_wipe 2 (some .int), Cond.methodLink RL 22 yX8_wipe, Cond.instanceMethod yX8_wipe, Cond.selects RX8 yX8_wipe yX8_wipe, Cond.code yX8_wipe cX8_wipe 2 (some .int), Cond.methodLink RL 23 yX7_fault, Cond.instanceMethod yX7_fault, Cond.selects RX7 yX7_fault yX7_fault, Cond.code yX7_fault cX7_fault 1 (some .int), Cond.methodLink RL 26 yX8_fault, Cond.instanceMethod yX8_fault, Cond.selects RX8 yX8_fault yX8_fault, Cond.code yX8_fault cX8_fault 1 (some .int), Cond.methodLink RX8 68 yX8_parse, Cond.instanceMethod yX8_parse, Cond.selects RX8 yX8_parse yX8_parse, Cond.code yX8_parse cX8_parse 3 (some .int), Cond.fieldLink RX8 48 "ChainLaysModel" "at" "I", Cond.methodLink RX8 62 yX8_readColumn, Cond.instanceMethod yX8_readColumn, Cond.selects RX8 yX8_readColumn yX8_readColumn, Cond.code yX8_readColumn cX8_readColumn 1 (some .boolean)]
def wsL_law_r12 : List Cond := [Cond.methodLink RX8 59 yX8_readNumbers, Cond.instanceMethod yX8_readNumbers, Cond.selects RX8 yX8_readNumbers yX8_readNumbers, Cond.code yX8_readNumbers cX8_readNumbers 6 (some .boolean), Cond.methodLink RX8 51 yX8_isSign, Cond.instanceMethod yX8_isSign, Cond.selects RX8 yX8_isSign yX8_isSign, Cond.code yX8_isSign cX8_isSign 3 (some .boolean), Cond.methodLink RX8 55 yX8_isFigure, Cond.instanceMethod yX8_isFigure, Cond.selects RX8 yX8_isFigure yX8_isFigure, Cond.code yX8_isFigure cX8_isFigure 1 (some .boolean), Cond.methodLink RX8 65 yX8_readShip, Cond.instanceMethod yX8_readShip, Cond.selects RX8 yX8_readShip yX8_readShip, Cond.code yX8_readShip cX8_readShip 2 (some .boolean), Cond.methodLink RL 27 yX7_lay, Cond.instanceMethod yX7_lay, Cond.selects RX7 yX7_lay yX7_lay, Cond.code yX7_lay cX7_lay 1 (some .int), Cond.fieldLink RX7 71 "ChainLays$Plan" "columns" "I", Cond.fieldLink RX7 74 "ChainLays$Plan" "ships" "I", Cond.fieldLink RX7 78 "ChainLays$Bay" "shipCount" "I", Cond.methodLink RX7 77 yX4_clear]
def wsL_law_r13 : List Cond := [Cond.instanceMethod yX4_clear, Cond.selects RX4 yX4_clear yX4_clear, Cond.code yX4_clear cX4_clear 1 none, Cond.fieldLink RX4 22 "ChainLays$Past" "size" "I", Cond.methodLink RL 30 yX8_lay, Cond.instanceMethod yX8_lay, Cond.selects RX8 yX8_lay yX8_lay, Cond.code yX8_lay cX8_lay 1 (some .int), Cond.methodLink RL 31 yX7_links, Cond.instanceMethod yX7_links, Cond.selects RX7 yX7_links yX7_links, Cond.code yX7_links cX7_links 7 (some .int), Cond.fieldLink RX7 91 "ChainLays$Ship" "ashore" "Z", Cond.fieldLink RX7 98 "ChainLays$Anchor" "links" "I", Cond.methodLink RX7 81 yX1_shipAt, Cond.instanceMethod yX1_shipAt, Cond.selects RX1 yX1_shipAt yX1_shipAt, Cond.code yX1_shipAt cX1_shipAt 2 (some (.object "ChainLays$Ship")), Cond.methodLink RX7 85 yX6_anchorAt, Cond.instanceMethod yX6_anchorAt, Cond.selects RX6 yX6_anchorAt yX6_anchorAt, Cond.code yX6_anchorAt cX6_anchorAt 2 (some (.object "ChainLays$Anchor")), Cond.methodLink RX7 95 yX7_remember, Cond.instanceMethod yX7_remember]
def wsL_law_r14 : List Cond := [Cond.selects RX7 yX7_remember yX7_remember, Cond.code yX7_remember cX7_remember 1 none, Cond.methodLink RX7 238 yX4_rowForNext, Cond.instanceMethod yX4_rowForNext, Cond.selects RX4 yX4_rowForNext yX4_rowForNext, Cond.code yX4_rowForNext cX4_rowForNext 2 (some (.array .int)), Cond.fieldLink RX4 18 "ChainLays$Past" "next" "I", Cond.methodLink RX4 25 Lib.Math.min.name, Cond.static Lib.Math.min.name, Cond.initialized "java/lang/Math", Cond.code Lib.Math.min.name Lib.Math.min.code 2 (some .int), Cond.methodLink RX7 241 yX1_save, Cond.instanceMethod yX1_save, Cond.selects RX1 yX1_save yX1_save, Cond.code yX1_save cX1_save 3 none, Cond.methodLink RX1 163 yX6_save, Cond.instanceMethod yX6_save, Cond.selects RX6 yX6_save yX6_save, Cond.code yX6_save cX6_save 4 none, Cond.methodLink RX6 59 yX0_save, Cond.instanceMethod yX0_save, Cond.selects RX0 yX0_save yX0_save, Cond.code yX0_save cX0_save 3 none, Cond.static yX7_oneIf]
def wsL_law_r15 : List Cond := [Cond.code yX7_oneIf cX7_oneIf 1 (some .int), Cond.methodLink RL 35 yX8_links, Cond.instanceMethod yX8_links, Cond.selects RX8 yX8_links yX8_links, Cond.code yX8_links cX8_links 6 (some .int), Cond.methodLink RX8 124 yX8_isShip, Cond.instanceMethod yX8_isShip, Cond.selects RX8 yX8_isShip yX8_isShip, Cond.code yX8_isShip cX8_isShip 2 (some .boolean), Cond.methodLink RX8 106 yX8_of, Cond.instanceMethod yX8_of, Cond.selects RX8 yX8_of yX8_of, Cond.code yX8_of cX8_of 3 (some .int), Cond.methodLink RX8 127 yX8_push, Cond.instanceMethod yX8_push, Cond.selects RX8 yX8_push yX8_push, Cond.code yX8_push cX8_push 2 none, Cond.methodLink RX8 130 yX8_put, Cond.instanceMethod yX8_put, Cond.selects RX8 yX8_put yX8_put, Cond.code yX8_put cX8_put 4 none, Cond.methodLink RL 36 yX7_moor, Cond.instanceMethod yX7_moor, Cond.selects RX7 yX7_moor yX7_moor]
def wsL_law_r16 : List Cond := [Cond.code yX7_moor cX7_moor 6 (some .int), Cond.fieldLink RX7 107 "ChainLays$Ship" "moored" "Z", Cond.fieldLink RX7 110 "ChainLays$Ship" "second" "LChainLays$Anchor;", Cond.methodLink RX7 103 yX1_isCell, Cond.instanceMethod yX1_isCell, Cond.selects RX1 yX1_isCell yX1_isCell, Cond.code yX1_isCell cX1_isCell 3 (some .boolean), Cond.methodLink RX7 114 yX0_put, Cond.methodLink RX7 118 yX1_depthAt, Cond.instanceMethod yX1_depthAt, Cond.selects RX1 yX1_depthAt yX1_depthAt, Cond.code yX1_depthAt cX1_depthAt 2 (some .int), Cond.methodLink RL 40 yX8_moor, Cond.instanceMethod yX8_moor, Cond.selects RX8 yX8_moor yX8_moor, Cond.code yX8_moor cX8_moor 5 (some .int), Cond.methodLink RX8 133 yX8_isColumn, Cond.instanceMethod yX8_isColumn, Cond.selects RX8 yX8_isColumn yX8_isColumn, Cond.code yX8_isColumn cX8_isColumn 2 (some .boolean), Cond.methodLink RL 41 yX7_weigh, Cond.instanceMethod yX7_weigh, Cond.selects RX7 yX7_weigh yX7_weigh, Cond.code yX7_weigh cX7_weigh 3 (some .int)]
def wsL_law_r17 : List Cond := [Cond.methodLink RL 44 yX8_weigh, Cond.instanceMethod yX8_weigh, Cond.selects RX8 yX8_weigh yX8_weigh, Cond.code yX8_weigh cX8_weigh 3 (some .int), Cond.methodLink RL 45 yX7_hours, Cond.instanceMethod yX7_hours, Cond.selects RX7 yX7_hours yX7_hours, Cond.code yX7_hours cX7_hours 6 (some .int), Cond.fieldLink RX7 126 "ChainLays$Bay" "hour" "I", Cond.methodLink RX7 122 yX7_isWind, Cond.static yX7_isWind, Cond.code yX7_isWind cX7_isWind 1 (some .boolean), Cond.methodLink RX7 129 yX1_passHour, Cond.instanceMethod yX1_passHour, Cond.selects RX1 yX1_passHour yX1_passHour, Cond.code yX1_passHour cX1_passHour 6 (some .int), Cond.fieldLink RX1 135 "ChainLays$Ship" "ashore" "Z", Cond.fieldLink RX1 94 "ChainLays$Ship" "first" "LChainLays$Anchor;", Cond.fieldLink RX1 112 "ChainLays$Anchor" "links" "I", Cond.methodLink RX1 138 yX1_holdsBy, Cond.instanceMethod yX1_holdsBy, Cond.selects RX1 yX1_holdsBy yX1_holdsBy, Cond.code yX1_holdsBy cX1_holdsBy 6 (some .boolean), Cond.fieldLink RX1 82 "ChainLays$Ship" "moored" "Z"]
def wsL_law_r18 : List Cond := [Cond.methodLink RX1 79 yX6_pullBy, Cond.instanceMethod yX6_pullBy, Cond.selects RX6 yX6_pullBy yX6_pullBy, Cond.code yX6_pullBy cX6_pullBy 2 (some .int), Cond.methodLink RX1 86 yX1_firstHolds, Cond.instanceMethod yX1_firstHolds, Cond.selects RX1 yX1_firstHolds yX1_firstHolds, Cond.code yX1_firstHolds cX1_firstHolds 4 (some .boolean), Cond.fieldLink RX1 102 "ChainLays$Ship" "grip" "I", Cond.methodLink RX1 98 yX1_chainOf, Cond.instanceMethod yX1_chainOf, Cond.selects RX1 yX1_chainOf yX1_chainOf, Cond.code yX1_chainOf cX1_chainOf 5 (some (.object "ChainLays$Chain")), Cond.fieldLink RX1 63 "ChainLays$Ship" "weight" "I", Cond.fieldLink RX1 66 "ChainLays$Anchor" "column" "I", Cond.methodLink RX1 71 yX1_depthAt, Cond.methodLink RX1 75 yX2_take, Cond.instanceMethod yX2_take, Cond.selects RX2 yX2_take yX2_take, Cond.code yX2_take cX2_take 5 none, Cond.fieldLink RX2 9 "ChainLays$Chain" "pull" "I", Cond.fieldLink RX2 15 "ChainLays$Chain" "weight" "I", Cond.fieldLink RX2 18 "ChainLays$Chain" "links" "I", Cond.fieldLink RX2 21 "ChainLays$Chain" "depth" "I"]
def wsL_law_r19 : List Cond := [Cond.methodLink RX1 105 yX2_holds, Cond.instanceMethod yX2_holds, Cond.selects RX2 yX2_holds yX2_holds, Cond.code yX2_holds cX2_holds 2 (some .boolean), Cond.fieldLink RX2 28 "ChainLays$Chain" "risen" "I", Cond.methodLink RX2 24 yX2_climb, Cond.instanceMethod yX2_climb, Cond.selects RX2 yX2_climb yX2_climb, Cond.code yX2_climb cX2_climb 5 none, Cond.fieldLink RX2 44 "ChainLays$Chain" "hung" "I", Cond.fieldLink RX2 56 "ChainLays$Chain" "run" "I", Cond.fieldLink RX2 73 "ChainLays$Chain" "RUNS" "[I", Cond.methodLink RX2 65 yX2_root, Cond.static yX2_root, Cond.code yX2_root cX2_root 4 (some .int), Cond.methodLink RX2 69 yX2_rootFrom, Cond.static yX2_rootFrom, Cond.code yX2_rootFrom cX2_rootFrom 5 (some .int), Cond.methodLink RX1 90 yX1_secondHolds, Cond.instanceMethod yX1_secondHolds, Cond.selects RX1 yX1_secondHolds yX1_secondHolds, Cond.code yX1_secondHolds cX1_secondHolds 3 (some .boolean), Cond.fieldLink RX1 109 "ChainLays$Ship" "second" "LChainLays$Anchor;", Cond.methodLink RX1 141 yX1_drag]
def wsL_law_r20 : List Cond := [Cond.instanceMethod yX1_drag, Cond.selects RX1 yX1_drag yX1_drag, Cond.code yX1_drag cX1_drag 8 none, Cond.fieldLink RX1 149 "ChainLays$Anchor" "row" "I", Cond.fieldLink RX1 160 "ChainLays$Ship" "dragged" "I", Cond.methodLink RX1 152 yX1_isCell, Cond.methodLink RX1 156 yX0_put, Cond.methodLink RL 48 yX8_hours, Cond.instanceMethod yX8_hours, Cond.selects RX8 yX8_hours yX8_hours, Cond.code yX8_hours cX8_hours 7 (some .int), Cond.methodLink RX8 140 yX8_isWind, Cond.static yX8_isWind, Cond.code yX8_isWind cX8_isWind 1 (some .boolean), Cond.methodLink RX8 143 yX8_holds, Cond.instanceMethod yX8_holds, Cond.selects RX8 yX8_holds yX8_holds, Cond.code yX8_holds cX8_holds 5 (some .boolean), Cond.methodLink RX8 118 yX8_pull, Cond.instanceMethod yX8_pull, Cond.selects RX8 yX8_pull yX8_pull, Cond.code yX8_pull cX8_pull 3 (some .int), Cond.methodLink RX8 121 yX8_doesHold, Cond.instanceMethod yX8_doesHold]
def wsL_law_r21 : List Cond := [Cond.selects RX8 yX8_doesHold yX8_doesHold, Cond.code yX8_doesHold cX8_doesHold 4 (some .boolean), Cond.methodLink RX8 112 yX8_chainOf, Cond.instanceMethod yX8_chainOf, Cond.selects RX8 yX8_chainOf yX8_chainOf, Cond.code yX8_chainOf cX8_chainOf 4 none, Cond.methodLink RX8 109 yX8_chain, Cond.instanceMethod yX8_chain, Cond.selects RX8 yX8_chain yX8_chain, Cond.code yX8_chain cX8_chain 7 none, Cond.fieldLink RX8 83 "ChainLaysModel" "hang" "I", Cond.fieldLink RX8 86 "ChainLaysModel" "ground" "I", Cond.fieldLink RX8 89 "ChainLaysModel" "lift" "I", Cond.fieldLink RX8 92 "ChainLaysModel" "isTaut" "Z", Cond.fieldLink RX8 100 "ChainLaysModel" "reach" "I", Cond.methodLink RX8 79 yX8_rise, Cond.static yX8_rise, Cond.code yX8_rise cX8_rise 2 (some .int), Cond.methodLink RX8 75 yX8_root, Cond.static yX8_root, Cond.code yX8_root cX8_root 4 (some .int), Cond.methodLink RX8 96 yX8_runs, Cond.static yX8_runs, Cond.code yX8_runs cX8_runs 7 (some .int)]
def wsL_law_r22 : List Cond := [Cond.methodLink RX8 103 yX8_rises, Cond.static yX8_rises, Cond.code yX8_rises cX8_rises 6 (some .int), Cond.methodLink RX8 115 yX8_holding, Cond.instanceMethod yX8_holding, Cond.selects RX8 yX8_holding yX8_holding, Cond.code yX8_holding cX8_holding 3 (some .int), Cond.methodLink RX8 146 yX8_drag, Cond.instanceMethod yX8_drag, Cond.selects RX8 yX8_drag yX8_drag, Cond.code yX8_drag cX8_drag 6 (some .int), Cond.methodLink RX8 136 yX8_isField, Cond.instanceMethod yX8_isField, Cond.selects RX8 yX8_isField yX8_isField, Cond.code yX8_isField cX8_isField 3 (some .boolean), Cond.methodLink RL 49 yX7_undo, Cond.instanceMethod yX7_undo, Cond.selects RX7 yX7_undo yX7_undo, Cond.code yX7_undo cX7_undo 2 (some .int), Cond.fieldLink RX7 141 "ChainLays$Past" "size" "I", Cond.methodLink RX7 133 yX4_takeLatest, Cond.instanceMethod yX4_takeLatest, Cond.selects RX4 yX4_takeLatest yX4_takeLatest, Cond.code yX4_takeLatest cX4_takeLatest 1 (some (.array .int))]
def wsL_law_r23 : List Cond := [Cond.methodLink RX7 137 yX1_restore, Cond.instanceMethod yX1_restore, Cond.selects RX1 yX1_restore yX1_restore, Cond.code yX1_restore cX1_restore 3 none, Cond.methodLink RX1 167 yX6_restore, Cond.instanceMethod yX6_restore, Cond.selects RX6 yX6_restore yX6_restore, Cond.code yX6_restore cX6_restore 4 none, Cond.methodLink RX6 67 yX0_restore, Cond.instanceMethod yX0_restore, Cond.selects RX0 yX0_restore yX0_restore, Cond.code yX0_restore cX0_restore 3 none, Cond.methodLink RX0 19 yX0_put, Cond.methodLink RL 52 yX8_undo, Cond.instanceMethod yX8_undo, Cond.selects RX8 yX8_undo yX8_undo, Cond.code yX8_undo cX8_undo 2 (some .int), Cond.methodLink RL 53 yX7_anchor, Cond.instanceMethod yX7_anchor, Cond.selects RX7 yX7_anchor yX7_anchor, Cond.code yX7_anchor cX7_anchor 6 (some .int), Cond.fieldLink RX7 144 "ChainLays$Anchor" "column" "I", Cond.fieldLink RX7 147 "ChainLays$Anchor" "row" "I", Cond.methodLink RL 56 yX8_anchor]
def wsL_law_r24 : List Cond := [Cond.instanceMethod yX8_anchor, Cond.selects RX8 yX8_anchor yX8_anchor, Cond.code yX8_anchor cX8_anchor 4 (some .int), Cond.methodLink RL 57 yX7_ship, Cond.instanceMethod yX7_ship, Cond.selects RX7 yX7_ship yX7_ship, Cond.code yX7_ship cX7_ship 4 (some .int), Cond.fieldLink RX7 150 "ChainLays$Ship" "weight" "I", Cond.fieldLink RX7 153 "ChainLays$Ship" "length" "I", Cond.fieldLink RX7 154 "ChainLays$Ship" "area" "I", Cond.fieldLink RX7 157 "ChainLays$Ship" "grip" "I", Cond.fieldLink RX7 164 "ChainLays$Ship" "dragged" "I", Cond.methodLink RX7 160 yX7_oneIf, Cond.methodLink RL 61 yX8_ship, Cond.instanceMethod yX8_ship, Cond.selects RX8 yX8_ship yX8_ship, Cond.code yX8_ship cX8_ship 3 (some .int), Cond.methodLink RL 62 yX7_hangs, Cond.instanceMethod yX7_hangs, Cond.selects RX7 yX7_hangs yX7_hangs, Cond.code yX7_hangs cX7_hangs 8 (some .int), Cond.fieldLink RX7 176 "ChainLays$Chain" "hang" "I", Cond.fieldLink RX7 179 "ChainLays$Chain" "ground" "I", Cond.fieldLink RX7 182 "ChainLays$Chain" "reach" "I"]
def wsL_law_r25 : List Cond := [Cond.fieldLink RX7 185 "ChainLays$Chain" "lift" "I", Cond.fieldLink RX7 191 "ChainLays$Chain" "taut" "Z", Cond.methodLink RX7 167 yX1_chainOf, Cond.methodLink RX7 171 yX2_findLie, Cond.instanceMethod yX2_findLie, Cond.selects RX2 yX2_findLie yX2_findLie, Cond.code yX2_findLie cX2_findLie 1 none, Cond.fieldLink RX2 47 "ChainLays$Chain" "hang" "I", Cond.fieldLink RX2 35 "ChainLays$Chain" "lift" "I", Cond.fieldLink RX2 31 "ChainLays$Chain" "taut" "Z", Cond.fieldLink RX2 53 "ChainLays$Chain" "ground" "I", Cond.fieldLink RX2 59 "ChainLays$Chain" "reach" "I", Cond.methodLink RX2 50 yX2_findLift, Cond.instanceMethod yX2_findLift, Cond.selects RX2 yX2_findLift yX2_findLift, Cond.code yX2_findLift cX2_findLift 4 none, Cond.methodLink RX2 62 Lib.Math.min.name, Cond.methodLink RX7 188 yX2_holding, Cond.instanceMethod yX2_holding, Cond.selects RX2 yX2_holding yX2_holding, Cond.code yX2_holding cX2_holding 2 (some .int), Cond.methodLink RX2 38 Lib.Math.max.name, Cond.static Lib.Math.max.name, Cond.code Lib.Math.max.name Lib.Math.max.code 2 (some .int)]
def wsL_law_r26 : List Cond := [Cond.methodLink RL 65 yX8_hangs, Cond.instanceMethod yX8_hangs, Cond.selects RX8 yX8_hangs yX8_hangs, Cond.code yX8_hangs cX8_hangs 5 (some .int), Cond.methodLink RL 66 yX7_wind, Cond.instanceMethod yX7_wind, Cond.selects RX7 yX7_wind yX7_wind, Cond.code yX7_wind cX7_wind 5 (some .int), Cond.fieldLink RX7 197 "ChainLays$Ship" "first" "LChainLays$Anchor;", Cond.fieldLink RX7 208 "ChainLays$Ship" "swing" "I", Cond.methodLink RX7 194 yX6_pullBy, Cond.methodLink RX7 200 yX1_holdsBy, Cond.methodLink RX7 204 yX1_measureSwing, Cond.instanceMethod yX1_measureSwing, Cond.selects RX1 yX1_measureSwing yX1_measureSwing, Cond.code yX1_measureSwing cX1_measureSwing 4 none, Cond.fieldLink RX1 118 "ChainLays$Chain" "reach" "I", Cond.fieldLink RX1 121 "ChainLays$Ship" "length" "I", Cond.fieldLink RX1 124 "ChainLays$Ship" "swing" "I", Cond.methodLink RX1 115 yX2_findLie, Cond.methodLink RL 69 yX8_wind, Cond.instanceMethod yX8_wind, Cond.selects RX8 yX8_wind yX8_wind, Cond.code yX8_wind cX8_wind 4 (some .int)]
def wsL_law_r27 : List Cond := [Cond.methodLink RX8 149 yX8_swing, Cond.instanceMethod yX8_swing, Cond.selects RX8 yX8_swing yX8_swing, Cond.code yX8_swing cX8_swing 3 (some .int), Cond.methodLink RL 70 yX7_apart, Cond.instanceMethod yX7_apart, Cond.selects RX7 yX7_apart yX7_apart, Cond.code yX7_apart cX7_apart 6 (some .int), Cond.methodLink RX7 211 yX6_isClearOf, Cond.instanceMethod yX6_isClearOf, Cond.selects RX6 yX6_isClearOf yX6_isClearOf, Cond.code yX6_isClearOf cX6_isClearOf 5 (some .boolean), Cond.fieldLink RX6 50 "ChainLays$Anchor" "column" "I", Cond.fieldLink RX6 53 "ChainLays$Anchor" "row" "I", Cond.fieldLink RX6 56 "ChainLays$Ship" "swing" "I", Cond.methodLink RL 73 yX8_apart, Cond.instanceMethod yX8_apart, Cond.selects RX8 yX8_apart yX8_apart, Cond.code yX8_apart cX8_apart 4 (some .int), Cond.methodLink RX8 152 yX8_areApart, Cond.instanceMethod yX8_areApart, Cond.selects RX8 yX8_areApart yX8_areApart, Cond.code yX8_areApart cX8_areApart 7 (some .boolean), Cond.methodLink RL 74 yX7_fewest]
def wsL_law_r28 : List Cond := [Cond.instanceMethod yX7_fewest, Cond.selects RX7 yX7_fewest yX7_fewest, Cond.code yX7_fewest cX7_fewest 5 (some .int), Cond.methodLink RL 77 yX8_fewest, Cond.instanceMethod yX8_fewest, Cond.selects RX8 yX8_fewest yX8_fewest, Cond.code yX8_fewest cX8_fewest 6 (some .int), Cond.methodLink RL 78 yX7_tooMuch, Cond.instanceMethod yX7_tooMuch, Cond.selects RX7 yX7_tooMuch yX7_tooMuch, Cond.code yX7_tooMuch cX7_tooMuch 4 (some .int), Cond.methodLink RL 81 yX8_tooMuch, Cond.instanceMethod yX8_tooMuch, Cond.selects RX8 yX8_tooMuch yX8_tooMuch, Cond.code yX8_tooMuch cX8_tooMuch 3 (some .int), Cond.methodLink RL 82 yX7_close, Cond.instanceMethod yX7_close, Cond.selects RX7 yX7_close yX7_close, Cond.code yX7_close cX7_close 5 (some .int), Cond.methodLink RX7 215 yX1_measureSwings, Cond.instanceMethod yX1_measureSwings, Cond.selects RX1 yX1_measureSwings yX1_measureSwings, Cond.code yX1_measureSwings cX1_measureSwings 3 none, Cond.methodLink RX1 127 yX1_measureSwing]
def wsL_law_r29 : List Cond := [Cond.methodLink RX7 219 yX1_isClearOfAll, Cond.instanceMethod yX1_isClearOfAll, Cond.selects RX1 yX1_isClearOfAll yX1_isClearOfAll, Cond.code yX1_isClearOfAll cX1_isClearOfAll 5 (some .boolean), Cond.methodLink RX1 131 yX6_isClearOf, Cond.methodLink RL 85 yX8_close, Cond.instanceMethod yX8_close, Cond.selects RX8 yX8_close yX8_close, Cond.code yX8_close cX8_close 6 (some .int), Cond.methodLink RX8 155 yX8_isClose, Cond.instanceMethod yX8_isClose, Cond.selects RX8 yX8_isClose yX8_isClose, Cond.code yX8_isClose cX8_isClose 5 (some .boolean), Cond.methodLink RL 86 yX7_all, Cond.instanceMethod yX7_all, Cond.selects RX7 yX7_all yX7_all, Cond.code yX7_all cX7_all 3 (some .int), Cond.methodLink RX7 222 yX1_countHolding, Cond.instanceMethod yX1_countHolding, Cond.selects RX1 yX1_countHolding yX1_countHolding, Cond.code yX1_countHolding cX1_countHolding 5 (some .int), Cond.methodLink RX7 225 yX1_countMeeting, Cond.instanceMethod yX1_countMeeting, Cond.selects RX1 yX1_countMeeting yX1_countMeeting]
def wsL_law_r30 : List Cond := [Cond.code yX1_countMeeting cX1_countMeeting 4 (some .int), Cond.methodLink RL 89 yX8_all, Cond.instanceMethod yX8_all, Cond.selects RX8 yX8_all yX8_all, Cond.code yX8_all cX8_all 7 (some .int), Cond.methodLink RL 90 yX7_count, Cond.instanceMethod yX7_count, Cond.selects RX7 yX7_count yX7_count, Cond.code yX7_count cX7_count 2 (some .int), Cond.fieldLink RX7 228 "ChainLays$Bay" "columns" "I", Cond.methodLink RX7 229 yX1_countAshore, Cond.instanceMethod yX1_countAshore, Cond.selects RX1 yX1_countAshore yX1_countAshore, Cond.code yX1_countAshore cX1_countAshore 3 (some .int), Cond.methodLink RX7 232 yX1_countMoored, Cond.instanceMethod yX1_countMoored, Cond.selects RX1 yX1_countMoored yX1_countMoored, Cond.code yX1_countMoored cX1_countMoored 3 (some .int), Cond.methodLink RX7 235 yX1_countLinksOut, Cond.instanceMethod yX1_countLinksOut, Cond.selects RX1 yX1_countLinksOut yX1_countLinksOut, Cond.code yX1_countLinksOut cX1_countLinksOut 4 (some .int), Cond.methodLink RL 93 yX8_count, Cond.instanceMethod yX8_count]
def wsL_law_r31 : List Cond := [Cond.selects RX8 yX8_count yX8_count, Cond.code yX8_count cX8_count 6 (some .int)]
def wsL_law : List Cond := (wsL_law_r1 ++ (wsL_law_r2 ++ (wsL_law_r3 ++ (wsL_law_r4 ++ (wsL_law_r5 ++ (wsL_law_r6 ++ (wsL_law_r7 ++ (wsL_law_r8 ++ (wsL_law_r9 ++ (wsL_law_r10 ++ (wsL_law_r11 ++ (wsL_law_r12 ++ (wsL_law_r13 ++ (wsL_law_r14 ++ (wsL_law_r15 ++ (wsL_law_r16 ++ (wsL_law_r17 ++ (wsL_law_r18 ++ (wsL_law_r19 ++ (wsL_law_r20 ++ (wsL_law_r21 ++ (wsL_law_r22 ++ (wsL_law_r23 ++ (wsL_law_r24 ++ (wsL_law_r25 ++ (wsL_law_r26 ++ (wsL_law_r27 ++ (wsL_law_r28 ++ (wsL_law_r29 ++ (wsL_law_r30 ++ wsL_law_r31)))))))))))))))))))))))))))))) ++ wsX70 ++ wsX80 ++ wsX30 ++ wsX50 ++ wsX10 ++ wsX40 ++ wsX20 ++ wsX60 ++ wsX00 ++ ([] : List Cond)
abbrev vwCl : List vw_C := [(RX0, TX0, 3), (RX1, TX1, 6), (RX2, TX2, 12), (RX3, TX3, 2), (RX4, TX4, 3), (RX5, TX5, 5), (RX6, TX6, 10), (RX7, TX7, 4), (RX8, TX8, 13)]
end
section
theorem dX0_init_0 : decode cX0_init 0 = .ok (.aload_n 0, 1) := by decide +kernel
theorem dX0_init_1 : decode cX0_init 1 = .ok (.invokespecial 1, 3) := by decide +kernel
theorem dX0_init_4 : decode cX0_init 4 = .ok (.return_, 1) := by decide +kernel
theorem dX0_put_0 : decode cX0_put 0 = .ok (.aload_n 0, 1) := by decide +kernel
theorem dX0_put_1 : decode cX0_put 1 = .ok (.iload_n 1, 1) := by decide +kernel
theorem dX0_put_2 : decode cX0_put 2 = .ok (.putfield 7, 3) := by decide +kernel
theorem dX0_put_5 : decode cX0_put 5 = .ok (.aload_n 0, 1) := by decide +kernel
theorem dX0_put_6 : decode cX0_put 6 = .ok (.iload_n 2, 1) := by decide +kernel
theorem dX0_put_7 : decode cX0_put 7 = .ok (.putfield 13, 3) := by decide +kernel
theorem dX0_put_10 : decode cX0_put 10 = .ok (.aload_n 0, 1) := by decide +kernel
theorem dX0_put_11 : decode cX0_put 11 = .ok (.iload_n 3, 1) := by decide +kernel
theorem dX0_put_12 : decode cX0_put 12 = .ok (.putfield 16, 3) := by decide +kernel
theorem dX0_put_15 : decode cX0_put 15 = .ok (.return_, 1) := by decide +kernel
theorem dX0_save_0 : decode cX0_save 0 = .ok (.iload_n 2, 1) := by decide +kernel
theorem dX0_save_1 : decode cX0_save 1 = .ok (.ifCond .lt 11, 3) := by decide +kernel
theorem dX0_save_4 : decode cX0_save 4 = .ok (.iload_n 2, 1) := by decide +kernel
theorem dX0_save_5 : decode cX0_save 5 = .ok (.aload_n 1, 1) := by decide +kernel
theorem dX0_save_6 : decode cX0_save 6 = .ok (.arraylength, 1) := by decide +kernel
theorem dX0_save_7 : decode cX0_save 7 = .ok (.iconst 3, 1) := by decide +kernel
theorem dX0_save_8 : decode cX0_save 8 = .ok (.isub, 1) := by decide +kernel
theorem dX0_save_9 : decode cX0_save 9 = .ok (.if_icmp .le 4, 3) := by decide +kernel
theorem dX0_save_12 : decode cX0_save 12 = .ok (.return_, 1) := by decide +kernel
theorem dX0_save_13 : decode cX0_save 13 = .ok (.aload_n 1, 1) := by decide +kernel
theorem dX0_save_14 : decode cX0_save 14 = .ok (.iload_n 2, 1) := by decide +kernel
theorem dX0_save_15 : decode cX0_save 15 = .ok (.aload_n 0, 1) := by decide +kernel
theorem dX0_save_16 : decode cX0_save 16 = .ok (.getfield 7, 3) := by decide +kernel
theorem dX0_save_19 : decode cX0_save 19 = .ok (.iastore, 1) := by decide +kernel
theorem dX0_save_20 : decode cX0_save 20 = .ok (.aload_n 1, 1) := by decide +kernel
theorem dX0_save_21 : decode cX0_save 21 = .ok (.iload_n 2, 1) := by decide +kernel
theorem dX0_save_22 : decode cX0_save 22 = .ok (.iconst 1, 1) := by decide +kernel
theorem dX0_save_23 : decode cX0_save 23 = .ok (.iadd, 1) := by decide +kernel
theorem dX0_save_24 : decode cX0_save 24 = .ok (.aload_n 0, 1) := by decide +kernel
theorem dX0_save_25 : decode cX0_save 25 = .ok (.getfield 13, 3) := by decide +kernel
theorem dX0_save_28 : decode cX0_save 28 = .ok (.iastore, 1) := by decide +kernel
theorem dX0_save_29 : decode cX0_save 29 = .ok (.aload_n 1, 1) := by decide +kernel
theorem dX0_save_30 : decode cX0_save 30 = .ok (.iload_n 2, 1) := by decide +kernel
theorem dX0_save_31 : decode cX0_save 31 = .ok (.iconst 2, 1) := by decide +kernel
theorem dX0_save_32 : decode cX0_save 32 = .ok (.iadd, 1) := by decide +kernel
theorem dX0_save_33 : decode cX0_save 33 = .ok (.aload_n 0, 1) := by decide +kernel
theorem dX0_save_34 : decode cX0_save 34 = .ok (.getfield 16, 3) := by decide +kernel
theorem dX0_save_37 : decode cX0_save 37 = .ok (.iastore, 1) := by decide +kernel
theorem dX0_save_38 : decode cX0_save 38 = .ok (.return_, 1) := by decide +kernel
set_option maxRecDepth 20000 in
theorem ggX0_restore_X0_put : GoodIn wsX0_restore wsX0_put := goodIn_r _ [5, 6, 7, 8, 9, 10, 11] (by decide +kernel) (by decide +kernel)
set_option maxRecDepth 20000 in
theorem gX0_restore_X0_put : GoodIn wsX0_restore (wsV RX0 19 RX0 yX0_put wsX0_put) := goodIn_app (goodIn_of _ (by decide +kernel)) ggX0_restore_X0_put
theorem dX0_restore_0 : decode cX0_restore 0 = .ok (.iload_n 2, 1) := by decide +kernel
theorem dX0_restore_1 : decode cX0_restore 1 = .ok (.ifCond .lt 11, 3) := by decide +kernel
theorem dX0_restore_4 : decode cX0_restore 4 = .ok (.iload_n 2, 1) := by decide +kernel
theorem dX0_restore_5 : decode cX0_restore 5 = .ok (.aload_n 1, 1) := by decide +kernel
theorem dX0_restore_6 : decode cX0_restore 6 = .ok (.arraylength, 1) := by decide +kernel
theorem dX0_restore_7 : decode cX0_restore 7 = .ok (.iconst 3, 1) := by decide +kernel
theorem dX0_restore_8 : decode cX0_restore 8 = .ok (.isub, 1) := by decide +kernel
theorem dX0_restore_9 : decode cX0_restore 9 = .ok (.if_icmp .le 4, 3) := by decide +kernel
theorem dX0_restore_12 : decode cX0_restore 12 = .ok (.return_, 1) := by decide +kernel
theorem dX0_restore_13 : decode cX0_restore 13 = .ok (.aload_n 0, 1) := by decide +kernel
theorem dX0_restore_14 : decode cX0_restore 14 = .ok (.aload_n 1, 1) := by decide +kernel
theorem dX0_restore_15 : decode cX0_restore 15 = .ok (.iload_n 2, 1) := by decide +kernel
theorem dX0_restore_16 : decode cX0_restore 16 = .ok (.iaload, 1) := by decide +kernel
theorem dX0_restore_17 : decode cX0_restore 17 = .ok (.aload_n 1, 1) := by decide +kernel
theorem dX0_restore_18 : decode cX0_restore 18 = .ok (.iload_n 2, 1) := by decide +kernel
theorem dX0_restore_19 : decode cX0_restore 19 = .ok (.iconst 1, 1) := by decide +kernel
theorem dX0_restore_20 : decode cX0_restore 20 = .ok (.iadd, 1) := by decide +kernel
theorem dX0_restore_21 : decode cX0_restore 21 = .ok (.iaload, 1) := by decide +kernel
theorem dX0_restore_22 : decode cX0_restore 22 = .ok (.aload_n 1, 1) := by decide +kernel
theorem dX0_restore_23 : decode cX0_restore 23 = .ok (.iload_n 2, 1) := by decide +kernel
theorem dX0_restore_24 : decode cX0_restore 24 = .ok (.iconst 2, 1) := by decide +kernel
theorem dX0_restore_25 : decode cX0_restore 25 = .ok (.iadd, 1) := by decide +kernel
theorem dX0_restore_26 : decode cX0_restore 26 = .ok (.iaload, 1) := by decide +kernel
theorem dX0_restore_27 : decode cX0_restore 27 = .ok (.invokevirtual 19, 3) := by decide +kernel
theorem dX0_restore_30 : decode cX0_restore 30 = .ok (.return_, 1) := by decide +kernel
set_option maxRecDepth 20000 in
theorem ggX1_init_X2_init : GoodIn wsX1_init wsX2_init := goodIn_r _ [15, 16, 2, 3] (by decide +kernel) (by decide +kernel)
set_option maxRecDepth 20000 in
theorem gX1_init_X2_init_n23 : GoodIn wsX1_init (wsX2_init) := ggX1_init_X2_init
set_option maxRecDepth 20000 in
theorem ggX1_init_X6_init : GoodIn wsX1_init wsX6_init := goodIn_r _ [18, 19, 2, 3, 20, 21, 22, 23, 24, 25, 26, 27, 56, 57, 58, 46, 47, 48, 49, 50, 51, 52, 53, 54, 55] (by decide +kernel) (by decide +kernel)
set_option maxRecDepth 20000 in
theorem gX1_init_X6_init_n28 : GoodIn wsX1_init (wsX6_init) := ggX1_init_X6_init
theorem dX1_init_0 : decode cX1_init 0 = .ok (.aload_n 0, 1) := by decide +kernel
theorem dX1_init_1 : decode cX1_init 1 = .ok (.invokespecial 5, 3) := by decide +kernel
theorem dX1_init_4 : decode cX1_init 4 = .ok (.aload_n 0, 1) := by decide +kernel
theorem dX1_init_5 : decode cX1_init 5 = .ok (.bipush 20, 2) := by decide +kernel
theorem dX1_init_7 : decode cX1_init 7 = .ok (.newarray .int, 2) := by decide +kernel
theorem dX1_init_9 : decode cX1_init 9 = .ok (.putfield 11, 3) := by decide +kernel
theorem dX1_init_12 : decode cX1_init 12 = .ok (.aload_n 0, 1) := by decide +kernel
theorem dX1_init_13 : decode cX1_init 13 = .ok (.iconst 5, 1) := by decide +kernel
theorem dX1_init_14 : decode cX1_init 14 = .ok (.anewarray 1, 3) := by decide +kernel
theorem dX1_init_17 : decode cX1_init 17 = .ok (.putfield 17, 3) := by decide +kernel
theorem dX1_init_20 : decode cX1_init 20 = .ok (.aload_n 0, 1) := by decide +kernel
theorem dX1_init_21 : decode cX1_init 21 = .ok (.new 21, 3) := by decide +kernel
theorem dX1_init_24 : decode cX1_init 24 = .ok (.dup, 1) := by decide +kernel
theorem dX1_init_25 : decode cX1_init 25 = .ok (.invokespecial 23, 3) := by decide +kernel
theorem dX1_init_28 : decode cX1_init 28 = .ok (.putfield 24, 3) := by decide +kernel
theorem dX1_init_31 : decode cX1_init 31 = .ok (.iconst 0, 1) := by decide +kernel
theorem dX1_init_32 : decode cX1_init 32 = .ok (.istore_n 1, 1) := by decide +kernel
theorem dX1_init_33 : decode cX1_init 33 = .ok (.iload_n 1, 1) := by decide +kernel
theorem dX1_init_34 : decode cX1_init 34 = .ok (.aload_n 0, 1) := by decide +kernel
theorem dX1_init_35 : decode cX1_init 35 = .ok (.getfield 17, 3) := by decide +kernel
theorem dX1_init_38 : decode cX1_init 38 = .ok (.arraylength, 1) := by decide +kernel
theorem dX1_init_39 : decode cX1_init 39 = .ok (.if_icmp .ge 22, 3) := by decide +kernel
theorem dX1_init_42 : decode cX1_init 42 = .ok (.aload_n 0, 1) := by decide +kernel
theorem dX1_init_43 : decode cX1_init 43 = .ok (.getfield 17, 3) := by decide +kernel
theorem dX1_init_46 : decode cX1_init 46 = .ok (.iload_n 1, 1) := by decide +kernel
theorem dX1_init_47 : decode cX1_init 47 = .ok (.new 1, 3) := by decide +kernel
theorem dX1_init_50 : decode cX1_init 50 = .ok (.dup, 1) := by decide +kernel
theorem dX1_init_51 : decode cX1_init 51 = .ok (.invokespecial 28, 3) := by decide +kernel
theorem dX1_init_54 : decode cX1_init 54 = .ok (.aastore, 1) := by decide +kernel
theorem dX1_init_55 : decode cX1_init 55 = .ok (.iinc 1 1, 3) := by decide +kernel
theorem dX1_init_58 : decode cX1_init 58 = .ok (.goto (-25), 3) := by decide +kernel
theorem dX1_init_61 : decode cX1_init 61 = .ok (.return_, 1) := by decide +kernel
set_option maxRecDepth 20000 in
theorem ggX1_layOut_X6_layOut : GoodIn wsX1_layOut wsX6_layOut := goodIn_r _ [18, 19, 20, 21, 22, 23, 24, 25, 26, 27, 28, 29, 30, 31, 32, 33, 34, 46, 47, 48, 49, 50, 51, 52, 53, 54, 55, 56, 57, 58] (by decide +kernel) (by decide +kernel)
set_option maxRecDepth 20000 in
theorem gX1_layOut_X6_layOut : GoodIn wsX1_layOut (wsV RX1 52 RX6 yX6_layOut wsX6_layOut) := goodIn_app (goodIn_of _ (by decide +kernel)) ggX1_layOut_X6_layOut
theorem dX1_layOut_0 : decode cX1_layOut 0 = .ok (.aload_n 0, 1) := by decide +kernel
theorem dX1_layOut_1 : decode cX1_layOut 1 = .ok (.aload_n 1, 1) := by decide +kernel
theorem dX1_layOut_2 : decode cX1_layOut 2 = .ok (.getfield 29, 3) := by decide +kernel
theorem dX1_layOut_5 : decode cX1_layOut 5 = .ok (.putfield 35, 3) := by decide +kernel
theorem dX1_layOut_8 : decode cX1_layOut 8 = .ok (.aload_n 1, 1) := by decide +kernel
theorem dX1_layOut_9 : decode cX1_layOut 9 = .ok (.getfield 36, 3) := by decide +kernel
theorem dX1_layOut_12 : decode cX1_layOut 12 = .ok (.iconst 0, 1) := by decide +kernel
theorem dX1_layOut_13 : decode cX1_layOut 13 = .ok (.aload_n 0, 1) := by decide +kernel
theorem dX1_layOut_14 : decode cX1_layOut 14 = .ok (.getfield 11, 3) := by decide +kernel
theorem dX1_layOut_17 : decode cX1_layOut 17 = .ok (.iconst 0, 1) := by decide +kernel
theorem dX1_layOut_18 : decode cX1_layOut 18 = .ok (.bipush 20, 2) := by decide +kernel
theorem dX1_layOut_20 : decode cX1_layOut 20 = .ok (.invokestatic 37, 3) := by decide +kernel
theorem dX1_layOut_23 : decode cX1_layOut 23 = .ok (.aload_n 0, 1) := by decide +kernel
theorem dX1_layOut_24 : decode cX1_layOut 24 = .ok (.aload_n 1, 1) := by decide +kernel
theorem dX1_layOut_25 : decode cX1_layOut 25 = .ok (.getfield 43, 3) := by decide +kernel
theorem dX1_layOut_28 : decode cX1_layOut 28 = .ok (.putfield 45, 3) := by decide +kernel
theorem dX1_layOut_31 : decode cX1_layOut 31 = .ok (.iconst 0, 1) := by decide +kernel
theorem dX1_layOut_32 : decode cX1_layOut 32 = .ok (.istore_n 2, 1) := by decide +kernel
theorem dX1_layOut_33 : decode cX1_layOut 33 = .ok (.iload_n 2, 1) := by decide +kernel
theorem dX1_layOut_34 : decode cX1_layOut 34 = .ok (.aload_n 0, 1) := by decide +kernel
theorem dX1_layOut_35 : decode cX1_layOut 35 = .ok (.getfield 45, 3) := by decide +kernel
theorem dX1_layOut_38 : decode cX1_layOut 38 = .ok (.if_icmp .ge 29, 3) := by decide +kernel
theorem dX1_layOut_41 : decode cX1_layOut 41 = .ok (.iload_n 2, 1) := by decide +kernel
theorem dX1_layOut_42 : decode cX1_layOut 42 = .ok (.iconst 5, 1) := by decide +kernel
theorem dX1_layOut_43 : decode cX1_layOut 43 = .ok (.if_icmp .ge 24, 3) := by decide +kernel
theorem dX1_layOut_46 : decode cX1_layOut 46 = .ok (.aload_n 0, 1) := by decide +kernel
theorem dX1_layOut_47 : decode cX1_layOut 47 = .ok (.getfield 17, 3) := by decide +kernel
theorem dX1_layOut_50 : decode cX1_layOut 50 = .ok (.iload_n 2, 1) := by decide +kernel
theorem dX1_layOut_51 : decode cX1_layOut 51 = .ok (.aaload, 1) := by decide +kernel
theorem dX1_layOut_52 : decode cX1_layOut 52 = .ok (.aload_n 1, 1) := by decide +kernel
theorem dX1_layOut_53 : decode cX1_layOut 53 = .ok (.getfield 48, 3) := by decide +kernel
theorem dX1_layOut_56 : decode cX1_layOut 56 = .ok (.iload_n 2, 1) := by decide +kernel
theorem dX1_layOut_57 : decode cX1_layOut 57 = .ok (.aaload, 1) := by decide +kernel
theorem dX1_layOut_58 : decode cX1_layOut 58 = .ok (.invokevirtual 52, 3) := by decide +kernel
theorem dX1_layOut_61 : decode cX1_layOut 61 = .ok (.iinc 2 1, 3) := by decide +kernel
theorem dX1_layOut_64 : decode cX1_layOut 64 = .ok (.goto (-31), 3) := by decide +kernel
theorem dX1_layOut_67 : decode cX1_layOut 67 = .ok (.aload_n 0, 1) := by decide +kernel
theorem dX1_layOut_68 : decode cX1_layOut 68 = .ok (.iconst 0, 1) := by decide +kernel
theorem dX1_layOut_69 : decode cX1_layOut 69 = .ok (.putfield 56, 3) := by decide +kernel
theorem dX1_layOut_72 : decode cX1_layOut 72 = .ok (.return_, 1) := by decide +kernel
theorem dX1_shipAt_0 : decode cX1_shipAt 0 = .ok (.iload_n 1, 1) := by decide +kernel
theorem dX1_shipAt_1 : decode cX1_shipAt 1 = .ok (.ifCond .lt 29, 3) := by decide +kernel
theorem dX1_shipAt_4 : decode cX1_shipAt 4 = .ok (.iload_n 1, 1) := by decide +kernel
theorem dX1_shipAt_5 : decode cX1_shipAt 5 = .ok (.aload_n 0, 1) := by decide +kernel
theorem dX1_shipAt_6 : decode cX1_shipAt 6 = .ok (.getfield 45, 3) := by decide +kernel
theorem dX1_shipAt_9 : decode cX1_shipAt 9 = .ok (.if_icmp .ge 21, 3) := by decide +kernel
theorem dX1_shipAt_12 : decode cX1_shipAt 12 = .ok (.iload_n 1, 1) := by decide +kernel
theorem dX1_shipAt_13 : decode cX1_shipAt 13 = .ok (.aload_n 0, 1) := by decide +kernel
theorem dX1_shipAt_14 : decode cX1_shipAt 14 = .ok (.getfield 17, 3) := by decide +kernel
theorem dX1_shipAt_17 : decode cX1_shipAt 17 = .ok (.arraylength, 1) := by decide +kernel
theorem dX1_shipAt_18 : decode cX1_shipAt 18 = .ok (.if_icmp .ge 12, 3) := by decide +kernel
theorem dX1_shipAt_21 : decode cX1_shipAt 21 = .ok (.aload_n 0, 1) := by decide +kernel
theorem dX1_shipAt_22 : decode cX1_shipAt 22 = .ok (.getfield 17, 3) := by decide +kernel
theorem dX1_shipAt_25 : decode cX1_shipAt 25 = .ok (.iload_n 1, 1) := by decide +kernel
theorem dX1_shipAt_26 : decode cX1_shipAt 26 = .ok (.aaload, 1) := by decide +kernel
theorem dX1_shipAt_27 : decode cX1_shipAt 27 = .ok (.goto 4, 3) := by decide +kernel
theorem dX1_shipAt_30 : decode cX1_shipAt 30 = .ok (.aconst_null, 1) := by decide +kernel
theorem dX1_shipAt_31 : decode cX1_shipAt 31 = .ok (.areturn, 1) := by decide +kernel
set_option maxRecDepth 20000 in
theorem ggX1_isCell_X7_within : GoodIn wsX1_isCell wsX7_within := goodIn_r _ [4] (by decide +kernel) (by decide +kernel)
set_option maxRecDepth 20000 in
theorem gX1_isCell_X7_within_n59 : GoodIn wsX1_isCell (wsX7_within) := ggX1_isCell_X7_within
theorem dX1_isCell_0 : decode cX1_isCell 0 = .ok (.iload_n 1, 1) := by decide +kernel
theorem dX1_isCell_1 : decode cX1_isCell 1 = .ok (.iconst 0, 1) := by decide +kernel
theorem dX1_isCell_2 : decode cX1_isCell 2 = .ok (.aload_n 0, 1) := by decide +kernel
theorem dX1_isCell_3 : decode cX1_isCell 3 = .ok (.getfield 35, 3) := by decide +kernel
theorem dX1_isCell_6 : decode cX1_isCell 6 = .ok (.iconst 1, 1) := by decide +kernel
theorem dX1_isCell_7 : decode cX1_isCell 7 = .ok (.isub, 1) := by decide +kernel
theorem dX1_isCell_8 : decode cX1_isCell 8 = .ok (.invokestatic 59, 3) := by decide +kernel
theorem dX1_isCell_11 : decode cX1_isCell 11 = .ok (.ifCond .eq 17, 3) := by decide +kernel
theorem dX1_isCell_14 : decode cX1_isCell 14 = .ok (.iload_n 2, 1) := by decide +kernel
theorem dX1_isCell_15 : decode cX1_isCell 15 = .ok (.iconst 0, 1) := by decide +kernel
theorem dX1_isCell_16 : decode cX1_isCell 16 = .ok (.bipush 19, 2) := by decide +kernel
theorem dX1_isCell_18 : decode cX1_isCell 18 = .ok (.invokestatic 59, 3) := by decide +kernel
theorem dX1_isCell_21 : decode cX1_isCell 21 = .ok (.ifCond .eq 7, 3) := by decide +kernel
theorem dX1_isCell_24 : decode cX1_isCell 24 = .ok (.iconst 1, 1) := by decide +kernel
theorem dX1_isCell_25 : decode cX1_isCell 25 = .ok (.goto 4, 3) := by decide +kernel
theorem dX1_isCell_28 : decode cX1_isCell 28 = .ok (.iconst 0, 1) := by decide +kernel
theorem dX1_isCell_29 : decode cX1_isCell 29 = .ok (.ireturn, 1) := by decide +kernel
theorem dX1_depthAt_0 : decode cX1_depthAt 0 = .ok (.iload_n 1, 1) := by decide +kernel
theorem dX1_depthAt_1 : decode cX1_depthAt 1 = .ok (.ifCond .lt 21, 3) := by decide +kernel
theorem dX1_depthAt_4 : decode cX1_depthAt 4 = .ok (.iload_n 1, 1) := by decide +kernel
theorem dX1_depthAt_5 : decode cX1_depthAt 5 = .ok (.aload_n 0, 1) := by decide +kernel
theorem dX1_depthAt_6 : decode cX1_depthAt 6 = .ok (.getfield 11, 3) := by decide +kernel
theorem dX1_depthAt_9 : decode cX1_depthAt 9 = .ok (.arraylength, 1) := by decide +kernel
theorem dX1_depthAt_10 : decode cX1_depthAt 10 = .ok (.if_icmp .ge 12, 3) := by decide +kernel
theorem dX1_depthAt_13 : decode cX1_depthAt 13 = .ok (.aload_n 0, 1) := by decide +kernel
theorem dX1_depthAt_14 : decode cX1_depthAt 14 = .ok (.getfield 11, 3) := by decide +kernel
theorem dX1_depthAt_17 : decode cX1_depthAt 17 = .ok (.iload_n 1, 1) := by decide +kernel
theorem dX1_depthAt_18 : decode cX1_depthAt 18 = .ok (.iaload, 1) := by decide +kernel
theorem dX1_depthAt_19 : decode cX1_depthAt 19 = .ok (.goto 4, 3) := by decide +kernel
theorem dX1_depthAt_22 : decode cX1_depthAt 22 = .ok (.iconst 0, 1) := by decide +kernel
theorem dX1_depthAt_23 : decode cX1_depthAt 23 = .ok (.ireturn, 1) := by decide +kernel
set_option maxRecDepth 20000 in
theorem ggX1_chainOf_X1_depthAt : GoodIn wsX1_chainOf wsX1_depthAt := goodIn_r _ [8, 9, 19, 20, 21, 22, 23, 24] (by decide +kernel) (by decide +kernel)
set_option maxRecDepth 20000 in
theorem gX1_chainOf_X1_depthAt : GoodIn wsX1_chainOf (wsV RX1 71 RX1 yX1_depthAt wsX1_depthAt) := goodIn_app (goodIn_of _ (by decide +kernel)) ggX1_chainOf_X1_depthAt
set_option maxRecDepth 20000 in
theorem ggX1_chainOf_X2_take : GoodIn wsX1_chainOf wsX2_take := goodIn_r _ [14, 15, 16, 17, 18, 38, 39, 40, 41, 42, 43, 44, 45, 46, 47, 48, 49] (by decide +kernel) (by decide +kernel)
set_option maxRecDepth 20000 in
theorem gX1_chainOf_X2_take : GoodIn wsX1_chainOf (wsV RX1 75 RX2 yX2_take wsX2_take) := goodIn_app (goodIn_of _ (by decide +kernel)) ggX1_chainOf_X2_take
theorem dX1_chainOf_0 : decode cX1_chainOf 0 = .ok (.aload_n 0, 1) := by decide +kernel
theorem dX1_chainOf_1 : decode cX1_chainOf 1 = .ok (.getfield 24, 3) := by decide +kernel
theorem dX1_chainOf_4 : decode cX1_chainOf 4 = .ok (.iload 4, 2) := by decide +kernel
theorem dX1_chainOf_6 : decode cX1_chainOf 6 = .ok (.aload_n 1, 1) := by decide +kernel
theorem dX1_chainOf_7 : decode cX1_chainOf 7 = .ok (.getfield 63, 3) := by decide +kernel
theorem dX1_chainOf_10 : decode cX1_chainOf 10 = .ok (.iload_n 3, 1) := by decide +kernel
theorem dX1_chainOf_11 : decode cX1_chainOf 11 = .ok (.bipush 10, 2) := by decide +kernel
theorem dX1_chainOf_13 : decode cX1_chainOf 13 = .ok (.aload_n 0, 1) := by decide +kernel
theorem dX1_chainOf_14 : decode cX1_chainOf 14 = .ok (.aload_n 2, 1) := by decide +kernel
theorem dX1_chainOf_15 : decode cX1_chainOf 15 = .ok (.getfield 66, 3) := by decide +kernel
theorem dX1_chainOf_18 : decode cX1_chainOf 18 = .ok (.invokevirtual 71, 3) := by decide +kernel
theorem dX1_chainOf_21 : decode cX1_chainOf 21 = .ok (.imul, 1) := by decide +kernel
theorem dX1_chainOf_22 : decode cX1_chainOf 22 = .ok (.invokevirtual 75, 3) := by decide +kernel
theorem dX1_chainOf_25 : decode cX1_chainOf 25 = .ok (.aload_n 0, 1) := by decide +kernel
theorem dX1_chainOf_26 : decode cX1_chainOf 26 = .ok (.getfield 24, 3) := by decide +kernel
theorem dX1_chainOf_29 : decode cX1_chainOf 29 = .ok (.areturn, 1) := by decide +kernel
set_option maxRecDepth 20000 in
theorem ggX1_holdsBy_X6_pullBy : GoodIn wsX1_holdsBy wsX6_pullBy := goodIn_r _ [6, 7, 60, 61, 62, 63, 64, 65, 66, 67, 68, 69] (by decide +kernel) (by decide +kernel)
set_option maxRecDepth 20000 in
theorem gX1_holdsBy_X6_pullBy : GoodIn wsX1_holdsBy (wsV RX1 79 RX6 yX6_pullBy wsX6_pullBy) := goodIn_app (goodIn_of _ (by decide +kernel)) ggX1_holdsBy_X6_pullBy
set_option maxRecDepth 20000 in
theorem ggX1_holdsBy_X1_firstHolds : GoodIn wsX1_holdsBy wsX1_firstHolds := goodIn_r _ [12, 13, 14, 15, 16, 17, 11, 18, 19, 20, 21, 22, 23, 24, 25, 26, 27, 28, 29, 30, 31, 32, 33, 34, 35, 36, 37, 38, 39, 40, 41, 42, 43, 44, 45, 46, 47, 48, 49, 50, 51, 52, 53, 60, 61, 62, 63, 64, 65, 66, 67, 68, 69, 70, 71, 72, 73, 74, 75, 76, 77, 78, 79, 80, 81, 82, 83, 84, 85, 86, 87, 88, 89, 90] (by decide +kernel) (by decide +kernel)
set_option maxRecDepth 20000 in
theorem gX1_holdsBy_X1_firstHolds : GoodIn wsX1_holdsBy (wsV RX1 86 RX1 yX1_firstHolds wsX1_firstHolds) := goodIn_app (goodIn_of _ (by decide +kernel)) ggX1_holdsBy_X1_firstHolds
set_option maxRecDepth 20000 in
theorem ggX1_holdsBy_X1_secondHolds : GoodIn wsX1_holdsBy wsX1_secondHolds := goodIn_r _ [57, 58, 59, 14, 15, 16, 17, 11, 18, 19, 20, 21, 22, 23, 24, 25, 26, 27, 28, 29, 30, 31, 32, 33, 34, 35, 36, 37, 38, 39, 40, 41, 42, 43, 44, 45, 46, 47, 48, 49, 50, 51, 52, 53, 60, 61, 62, 63, 64, 65, 66, 67, 68, 69, 76, 77, 78, 70, 71, 72, 73, 74, 75, 79, 80, 81, 82, 83, 84, 85, 86, 87, 88, 89, 90] (by decide +kernel) (by decide +kernel)
set_option maxRecDepth 20000 in
theorem gX1_holdsBy_X1_secondHolds : GoodIn wsX1_holdsBy (wsV RX1 90 RX1 yX1_secondHolds wsX1_secondHolds) := goodIn_app (goodIn_of _ (by decide +kernel)) ggX1_holdsBy_X1_secondHolds
theorem dX1_holdsBy_0 : decode cX1_holdsBy 0 = .ok (.aload_n 1, 1) := by decide +kernel
theorem dX1_holdsBy_1 : decode cX1_holdsBy 1 = .ok (.iload_n 3, 1) := by decide +kernel
theorem dX1_holdsBy_2 : decode cX1_holdsBy 2 = .ok (.invokevirtual 79, 3) := by decide +kernel
theorem dX1_holdsBy_5 : decode cX1_holdsBy 5 = .ok (.istore 4, 2) := by decide +kernel
theorem dX1_holdsBy_7 : decode cX1_holdsBy 7 = .ok (.aload_n 1, 1) := by decide +kernel
theorem dX1_holdsBy_8 : decode cX1_holdsBy 8 = .ok (.getfield 82, 3) := by decide +kernel
theorem dX1_holdsBy_11 : decode cX1_holdsBy 11 = .ok (.ifCond .ne 12, 3) := by decide +kernel
theorem dX1_holdsBy_14 : decode cX1_holdsBy 14 = .ok (.aload_n 0, 1) := by decide +kernel
theorem dX1_holdsBy_15 : decode cX1_holdsBy 15 = .ok (.aload_n 1, 1) := by decide +kernel
theorem dX1_holdsBy_16 : decode cX1_holdsBy 16 = .ok (.iload_n 2, 1) := by decide +kernel
theorem dX1_holdsBy_17 : decode cX1_holdsBy 17 = .ok (.iload 4, 2) := by decide +kernel
theorem dX1_holdsBy_19 : decode cX1_holdsBy 19 = .ok (.invokevirtual 86, 3) := by decide +kernel
theorem dX1_holdsBy_22 : decode cX1_holdsBy 22 = .ok (.ireturn, 1) := by decide +kernel
theorem dX1_holdsBy_23 : decode cX1_holdsBy 23 = .ok (.iload 4, 2) := by decide +kernel
theorem dX1_holdsBy_25 : decode cX1_holdsBy 25 = .ok (.iconst 1, 1) := by decide +kernel
theorem dX1_holdsBy_26 : decode cX1_holdsBy 26 = .ok (.iadd, 1) := by decide +kernel
theorem dX1_holdsBy_27 : decode cX1_holdsBy 27 = .ok (.iconst 2, 1) := by decide +kernel
theorem dX1_holdsBy_28 : decode cX1_holdsBy 28 = .ok (.idiv, 1) := by decide +kernel
theorem dX1_holdsBy_29 : decode cX1_holdsBy 29 = .ok (.istore 5, 2) := by decide +kernel
theorem dX1_holdsBy_31 : decode cX1_holdsBy 31 = .ok (.aload_n 0, 1) := by decide +kernel
theorem dX1_holdsBy_32 : decode cX1_holdsBy 32 = .ok (.aload_n 1, 1) := by decide +kernel
theorem dX1_holdsBy_33 : decode cX1_holdsBy 33 = .ok (.iload_n 2, 1) := by decide +kernel
theorem dX1_holdsBy_34 : decode cX1_holdsBy 34 = .ok (.iload 5, 2) := by decide +kernel
theorem dX1_holdsBy_36 : decode cX1_holdsBy 36 = .ok (.invokevirtual 86, 3) := by decide +kernel
theorem dX1_holdsBy_39 : decode cX1_holdsBy 39 = .ok (.ifCond .eq 13, 3) := by decide +kernel
theorem dX1_holdsBy_42 : decode cX1_holdsBy 42 = .ok (.aload_n 0, 1) := by decide +kernel
theorem dX1_holdsBy_43 : decode cX1_holdsBy 43 = .ok (.aload_n 1, 1) := by decide +kernel
theorem dX1_holdsBy_44 : decode cX1_holdsBy 44 = .ok (.iload 5, 2) := by decide +kernel
theorem dX1_holdsBy_46 : decode cX1_holdsBy 46 = .ok (.invokevirtual 90, 3) := by decide +kernel
theorem dX1_holdsBy_49 : decode cX1_holdsBy 49 = .ok (.ifCond .ne 24, 3) := by decide +kernel
theorem dX1_holdsBy_52 : decode cX1_holdsBy 52 = .ok (.aload_n 0, 1) := by decide +kernel
theorem dX1_holdsBy_53 : decode cX1_holdsBy 53 = .ok (.aload_n 1, 1) := by decide +kernel
theorem dX1_holdsBy_54 : decode cX1_holdsBy 54 = .ok (.iload_n 2, 1) := by decide +kernel
theorem dX1_holdsBy_55 : decode cX1_holdsBy 55 = .ok (.iload 4, 2) := by decide +kernel
theorem dX1_holdsBy_57 : decode cX1_holdsBy 57 = .ok (.invokevirtual 86, 3) := by decide +kernel
theorem dX1_holdsBy_60 : decode cX1_holdsBy 60 = .ok (.ifCond .ne 13, 3) := by decide +kernel
theorem dX1_holdsBy_63 : decode cX1_holdsBy 63 = .ok (.aload_n 0, 1) := by decide +kernel
theorem dX1_holdsBy_64 : decode cX1_holdsBy 64 = .ok (.aload_n 1, 1) := by decide +kernel
theorem dX1_holdsBy_65 : decode cX1_holdsBy 65 = .ok (.iload 4, 2) := by decide +kernel
theorem dX1_holdsBy_67 : decode cX1_holdsBy 67 = .ok (.invokevirtual 90, 3) := by decide +kernel
theorem dX1_holdsBy_70 : decode cX1_holdsBy 70 = .ok (.ifCond .eq 7, 3) := by decide +kernel
theorem dX1_holdsBy_73 : decode cX1_holdsBy 73 = .ok (.iconst 1, 1) := by decide +kernel
theorem dX1_holdsBy_74 : decode cX1_holdsBy 74 = .ok (.goto 4, 3) := by decide +kernel
theorem dX1_holdsBy_77 : decode cX1_holdsBy 77 = .ok (.iconst 0, 1) := by decide +kernel
theorem dX1_holdsBy_78 : decode cX1_holdsBy 78 = .ok (.ireturn, 1) := by decide +kernel
set_option maxRecDepth 20000 in
theorem ggX1_firstHolds_X1_chainOf : GoodIn wsX1_firstHolds wsX1_chainOf := goodIn_r _ [7, 8, 9, 10, 11, 12, 13, 6, 14, 15, 16, 17, 18, 19, 20, 21, 22, 23, 24, 53, 54, 55, 56, 57, 58, 43, 44, 45, 46, 47, 48, 49, 50, 51, 52, 59, 60, 61, 62, 63, 64, 65, 66, 67, 68, 69, 70, 71, 72, 73] (by decide +kernel) (by decide +kernel)
set_option maxRecDepth 20000 in
theorem gX1_firstHolds_X1_chainOf : GoodIn wsX1_firstHolds (wsV RX1 98 RX1 yX1_chainOf wsX1_chainOf) := goodIn_app (goodIn_of _ (by decide +kernel)) ggX1_firstHolds_X1_chainOf
set_option maxRecDepth 20000 in
theorem ggX1_firstHolds_X2_holds : GoodIn wsX1_firstHolds wsX2_holds := goodIn_r _ [28, 21, 29, 24, 30, 31, 32, 19, 33, 34, 35, 23, 22, 36, 37, 38, 39, 40, 41, 42, 62, 63, 64, 65, 66, 67, 68, 69, 70, 71, 72, 73] (by decide +kernel) (by decide +kernel)
set_option maxRecDepth 20000 in
theorem gX1_firstHolds_X2_holds : GoodIn wsX1_firstHolds (wsV RX1 105 RX2 yX2_holds wsX2_holds) := goodIn_app (goodIn_of _ (by decide +kernel)) ggX1_firstHolds_X2_holds
theorem dX1_firstHolds_0 : decode cX1_firstHolds 0 = .ok (.aload_n 0, 1) := by decide +kernel
theorem dX1_firstHolds_1 : decode cX1_firstHolds 1 = .ok (.aload_n 1, 1) := by decide +kernel
theorem dX1_firstHolds_2 : decode cX1_firstHolds 2 = .ok (.aload_n 1, 1) := by decide +kernel
theorem dX1_firstHolds_3 : decode cX1_firstHolds 3 = .ok (.getfield 94, 3) := by decide +kernel
theorem dX1_firstHolds_6 : decode cX1_firstHolds 6 = .ok (.iload_n 2, 1) := by decide +kernel
theorem dX1_firstHolds_7 : decode cX1_firstHolds 7 = .ok (.iload_n 3, 1) := by decide +kernel
theorem dX1_firstHolds_8 : decode cX1_firstHolds 8 = .ok (.invokevirtual 98, 3) := by decide +kernel
theorem dX1_firstHolds_11 : decode cX1_firstHolds 11 = .ok (.aload_n 1, 1) := by decide +kernel
theorem dX1_firstHolds_12 : decode cX1_firstHolds 12 = .ok (.getfield 102, 3) := by decide +kernel
theorem dX1_firstHolds_15 : decode cX1_firstHolds 15 = .ok (.invokevirtual 105, 3) := by decide +kernel
theorem dX1_firstHolds_18 : decode cX1_firstHolds 18 = .ok (.ireturn, 1) := by decide +kernel
set_option maxRecDepth 20000 in
theorem ggX1_secondHolds_X1_chainOf : GoodIn wsX1_secondHolds wsX1_chainOf := goodIn_r _ [8, 9, 10, 11, 12, 13, 14, 7, 15, 16, 17, 18, 19, 20, 21, 22, 23, 24, 25, 57, 58, 59, 60, 61, 62, 44, 45, 46, 47, 48, 49, 50, 51, 52, 53, 54, 55, 56, 63, 64, 65, 66, 67, 68, 69, 70, 71, 72, 73, 74] (by decide +kernel) (by decide +kernel)
set_option maxRecDepth 20000 in
theorem gX1_secondHolds_X1_chainOf : GoodIn wsX1_secondHolds (wsV RX1 98 RX1 yX1_chainOf wsX1_chainOf) := goodIn_app (goodIn_of _ (by decide +kernel)) ggX1_secondHolds_X1_chainOf
set_option maxRecDepth 20000 in
theorem ggX1_secondHolds_X2_holds : GoodIn wsX1_secondHolds wsX2_holds := goodIn_r _ [29, 22, 30, 25, 31, 32, 33, 20, 34, 35, 36, 24, 23, 37, 38, 39, 40, 41, 42, 43, 63, 64, 65, 66, 67, 68, 69, 70, 71, 72, 73, 74] (by decide +kernel) (by decide +kernel)
set_option maxRecDepth 20000 in
theorem gX1_secondHolds_X2_holds : GoodIn wsX1_secondHolds (wsV RX1 105 RX2 yX2_holds wsX2_holds) := goodIn_app (goodIn_of _ (by decide +kernel)) ggX1_secondHolds_X2_holds
theorem dX1_secondHolds_0 : decode cX1_secondHolds 0 = .ok (.aload_n 0, 1) := by decide +kernel
theorem dX1_secondHolds_1 : decode cX1_secondHolds 1 = .ok (.aload_n 1, 1) := by decide +kernel
theorem dX1_secondHolds_2 : decode cX1_secondHolds 2 = .ok (.aload_n 1, 1) := by decide +kernel
theorem dX1_secondHolds_3 : decode cX1_secondHolds 3 = .ok (.getfield 109, 3) := by decide +kernel
theorem dX1_secondHolds_6 : decode cX1_secondHolds 6 = .ok (.aload_n 1, 1) := by decide +kernel
theorem dX1_secondHolds_7 : decode cX1_secondHolds 7 = .ok (.getfield 109, 3) := by decide +kernel
theorem dX1_secondHolds_10 : decode cX1_secondHolds 10 = .ok (.getfield 112, 3) := by decide +kernel
theorem dX1_secondHolds_13 : decode cX1_secondHolds 13 = .ok (.iload_n 2, 1) := by decide +kernel
theorem dX1_secondHolds_14 : decode cX1_secondHolds 14 = .ok (.invokevirtual 98, 3) := by decide +kernel
theorem dX1_secondHolds_17 : decode cX1_secondHolds 17 = .ok (.aload_n 1, 1) := by decide +kernel
theorem dX1_secondHolds_18 : decode cX1_secondHolds 18 = .ok (.getfield 102, 3) := by decide +kernel
theorem dX1_secondHolds_21 : decode cX1_secondHolds 21 = .ok (.invokevirtual 105, 3) := by decide +kernel
theorem dX1_secondHolds_24 : decode cX1_secondHolds 24 = .ok (.ireturn, 1) := by decide +kernel
set_option maxRecDepth 20000 in
theorem ggX1_measureSwing_X6_pullBy : GoodIn wsX1_measureSwing wsX6_pullBy := goodIn_r _ [10, 11, 64, 65, 66, 67, 68, 69, 70, 71, 72, 73] (by decide +kernel) (by decide +kernel)
set_option maxRecDepth 20000 in
theorem gX1_measureSwing_X6_pullBy : GoodIn wsX1_measureSwing (wsV RX1 79 RX6 yX6_pullBy wsX6_pullBy) := goodIn_app (goodIn_of _ (by decide +kernel)) ggX1_measureSwing_X6_pullBy
set_option maxRecDepth 20000 in
theorem ggX1_measureSwing_X1_chainOf : GoodIn wsX1_measureSwing wsX1_chainOf := goodIn_r _ [16, 2, 17, 18, 19, 20, 21, 15, 22, 23, 24, 25, 26, 27, 28, 29, 30, 31, 32, 74, 75, 76, 77, 78, 79, 64, 65, 66, 67, 68, 69, 70, 71, 72, 73, 92, 93, 94, 80, 81, 82, 83, 84, 85, 86, 87, 88, 89, 90, 91] (by decide +kernel) (by decide +kernel)
set_option maxRecDepth 20000 in
theorem gX1_measureSwing_X1_chainOf : GoodIn wsX1_measureSwing (wsV RX1 98 RX1 yX1_chainOf wsX1_chainOf) := goodIn_app (goodIn_of _ (by decide +kernel)) ggX1_measureSwing_X1_chainOf
set_option maxRecDepth 20000 in
theorem ggX1_measureSwing_X2_findLie : GoodIn wsX1_measureSwing wsX2_findLie := goodIn_r _ [36, 37, 38, 39, 40, 41, 32, 31, 42, 43, 44, 45, 46, 47, 27, 48, 29, 30, 49, 50, 51, 52, 53, 54, 55, 56, 57, 58, 59, 60, 61, 62, 63, 80, 81, 82, 83, 84, 85, 86, 87, 88, 89, 90, 91] (by decide +kernel) (by decide +kernel)
set_option maxRecDepth 20000 in
theorem gX1_measureSwing_X2_findLie : GoodIn wsX1_measureSwing (wsV RX1 115 RX2 yX2_findLie wsX2_findLie) := goodIn_app (goodIn_of _ (by decide +kernel)) ggX1_measureSwing_X2_findLie
theorem dX1_measureSwing_0 : decode cX1_measureSwing 0 = .ok (.aload_n 0, 1) := by decide +kernel
theorem dX1_measureSwing_1 : decode cX1_measureSwing 1 = .ok (.aload_n 1, 1) := by decide +kernel
theorem dX1_measureSwing_2 : decode cX1_measureSwing 2 = .ok (.aload_n 1, 1) := by decide +kernel
theorem dX1_measureSwing_3 : decode cX1_measureSwing 3 = .ok (.getfield 94, 3) := by decide +kernel
theorem dX1_measureSwing_6 : decode cX1_measureSwing 6 = .ok (.iload_n 2, 1) := by decide +kernel
theorem dX1_measureSwing_7 : decode cX1_measureSwing 7 = .ok (.aload_n 1, 1) := by decide +kernel
theorem dX1_measureSwing_8 : decode cX1_measureSwing 8 = .ok (.iload_n 3, 1) := by decide +kernel
theorem dX1_measureSwing_9 : decode cX1_measureSwing 9 = .ok (.invokevirtual 79, 3) := by decide +kernel
theorem dX1_measureSwing_12 : decode cX1_measureSwing 12 = .ok (.invokevirtual 98, 3) := by decide +kernel
theorem dX1_measureSwing_15 : decode cX1_measureSwing 15 = .ok (.invokevirtual 115, 3) := by decide +kernel
theorem dX1_measureSwing_18 : decode cX1_measureSwing 18 = .ok (.aload_n 1, 1) := by decide +kernel
theorem dX1_measureSwing_19 : decode cX1_measureSwing 19 = .ok (.aload_n 0, 1) := by decide +kernel
theorem dX1_measureSwing_20 : decode cX1_measureSwing 20 = .ok (.getfield 24, 3) := by decide +kernel
theorem dX1_measureSwing_23 : decode cX1_measureSwing 23 = .ok (.getfield 118, 3) := by decide +kernel
theorem dX1_measureSwing_26 : decode cX1_measureSwing 26 = .ok (.bipush 10, 2) := by decide +kernel
theorem dX1_measureSwing_28 : decode cX1_measureSwing 28 = .ok (.aload_n 1, 1) := by decide +kernel
theorem dX1_measureSwing_29 : decode cX1_measureSwing 29 = .ok (.getfield 121, 3) := by decide +kernel
theorem dX1_measureSwing_32 : decode cX1_measureSwing 32 = .ok (.imul, 1) := by decide +kernel
theorem dX1_measureSwing_33 : decode cX1_measureSwing 33 = .ok (.iadd, 1) := by decide +kernel
theorem dX1_measureSwing_34 : decode cX1_measureSwing 34 = .ok (.putfield 124, 3) := by decide +kernel
theorem dX1_measureSwing_37 : decode cX1_measureSwing 37 = .ok (.return_, 1) := by decide +kernel
set_option maxRecDepth 20000 in
theorem ggX1_measureSwings_X1_measureSwing : GoodIn wsX1_measureSwings wsX1_measureSwing := goodIn_r _ [9, 3, 10, 11, 12, 13, 14, 15, 16, 17, 18, 19, 20, 21, 22, 8, 23, 24, 25, 26, 27, 28, 29, 30, 31, 32, 33, 34, 35, 36, 37, 38, 39, 40, 41, 42, 43, 44, 45, 46, 47, 48, 49, 50, 51, 52, 53, 54, 55, 56, 57, 58, 59, 60, 61, 62, 63, 64, 65, 66, 67, 68, 69, 70, 77, 78, 79, 80, 81, 82, 83, 84, 85, 86, 71, 72, 73, 74, 75, 76, 90, 91, 92, 93, 94, 95, 96, 97, 98, 99, 100, 101, 87, 88, 89] (by decide +kernel) (by decide +kernel)
set_option maxRecDepth 20000 in
theorem gX1_measureSwings_X1_measureSwing : GoodIn wsX1_measureSwings (wsV RX1 127 RX1 yX1_measureSwing wsX1_measureSwing) := goodIn_app (goodIn_of _ (by decide +kernel)) ggX1_measureSwings_X1_measureSwing
theorem dX1_measureSwings_0 : decode cX1_measureSwings 0 = .ok (.iconst 0, 1) := by decide +kernel
theorem dX1_measureSwings_1 : decode cX1_measureSwings 1 = .ok (.istore_n 2, 1) := by decide +kernel
theorem dX1_measureSwings_2 : decode cX1_measureSwings 2 = .ok (.iload_n 2, 1) := by decide +kernel
theorem dX1_measureSwings_3 : decode cX1_measureSwings 3 = .ok (.aload_n 0, 1) := by decide +kernel
theorem dX1_measureSwings_4 : decode cX1_measureSwings 4 = .ok (.getfield 45, 3) := by decide +kernel
theorem dX1_measureSwings_7 : decode cX1_measureSwings 7 = .ok (.if_icmp .ge 32, 3) := by decide +kernel
theorem dX1_measureSwings_10 : decode cX1_measureSwings 10 = .ok (.aload_n 0, 1) := by decide +kernel
theorem dX1_measureSwings_11 : decode cX1_measureSwings 11 = .ok (.aload_n 0, 1) := by decide +kernel
theorem dX1_measureSwings_12 : decode cX1_measureSwings 12 = .ok (.getfield 17, 3) := by decide +kernel
theorem dX1_measureSwings_15 : decode cX1_measureSwings 15 = .ok (.iload_n 2, 1) := by decide +kernel
theorem dX1_measureSwings_16 : decode cX1_measureSwings 16 = .ok (.aaload, 1) := by decide +kernel
theorem dX1_measureSwings_17 : decode cX1_measureSwings 17 = .ok (.aload_n 0, 1) := by decide +kernel
theorem dX1_measureSwings_18 : decode cX1_measureSwings 18 = .ok (.getfield 17, 3) := by decide +kernel
theorem dX1_measureSwings_21 : decode cX1_measureSwings 21 = .ok (.iload_n 2, 1) := by decide +kernel
theorem dX1_measureSwings_22 : decode cX1_measureSwings 22 = .ok (.aaload, 1) := by decide +kernel
theorem dX1_measureSwings_23 : decode cX1_measureSwings 23 = .ok (.getfield 94, 3) := by decide +kernel
theorem dX1_measureSwings_26 : decode cX1_measureSwings 26 = .ok (.getfield 112, 3) := by decide +kernel
theorem dX1_measureSwings_29 : decode cX1_measureSwings 29 = .ok (.iload_n 1, 1) := by decide +kernel
theorem dX1_measureSwings_30 : decode cX1_measureSwings 30 = .ok (.invokevirtual 127, 3) := by decide +kernel
theorem dX1_measureSwings_33 : decode cX1_measureSwings 33 = .ok (.iinc 2 1, 3) := by decide +kernel
theorem dX1_measureSwings_36 : decode cX1_measureSwings 36 = .ok (.goto (-34), 3) := by decide +kernel
theorem dX1_measureSwings_39 : decode cX1_measureSwings 39 = .ok (.return_, 1) := by decide +kernel
set_option maxRecDepth 20000 in
theorem ggX1_isClearOfAll_X1_measureSwing : GoodIn wsX1_isClearOfAll wsX1_measureSwing := goodIn_r _ [7, 8, 9, 10, 11, 12, 13, 14, 15, 16, 17, 18, 19, 20, 21, 6, 22, 23, 24, 25, 26, 27, 28, 29, 30, 31, 32, 33, 34, 35, 36, 37, 38, 39, 40, 41, 42, 43, 44, 45, 46, 47, 48, 49, 50, 51, 52, 53, 54, 55, 56, 57, 58, 59, 60, 61, 62, 63, 64, 65, 66, 67, 68, 69, 85, 86, 87, 88, 89, 90, 91, 92, 93, 94, 79, 80, 81, 82, 83, 84, 95, 96, 97, 98, 99, 100, 101, 102, 103, 104, 105, 106, 107, 108, 109] (by decide +kernel) (by decide +kernel)
set_option maxRecDepth 20000 in
theorem gX1_isClearOfAll_X1_measureSwing : GoodIn wsX1_isClearOfAll (wsV RX1 127 RX1 yX1_measureSwing wsX1_measureSwing) := goodIn_app (goodIn_of _ (by decide +kernel)) ggX1_isClearOfAll_X1_measureSwing
set_option maxRecDepth 20000 in
theorem ggX1_isClearOfAll_X6_isClearOf : GoodIn wsX1_isClearOfAll wsX6_isClearOf := goodIn_r _ [73, 74, 75, 76, 77, 78, 85, 86, 87, 88, 89, 90, 91, 92, 93, 94, 107, 108, 109] (by decide +kernel) (by decide +kernel)
set_option maxRecDepth 20000 in
theorem gX1_isClearOfAll_X6_isClearOf : GoodIn wsX1_isClearOfAll (wsV RX1 131 RX6 yX6_isClearOf wsX6_isClearOf) := goodIn_app (goodIn_of _ (by decide +kernel)) ggX1_isClearOfAll_X6_isClearOf
theorem dX1_isClearOfAll_0 : decode cX1_isClearOfAll 0 = .ok (.aload_n 0, 1) := by decide +kernel
theorem dX1_isClearOfAll_1 : decode cX1_isClearOfAll 1 = .ok (.aload_n 1, 1) := by decide +kernel
theorem dX1_isClearOfAll_2 : decode cX1_isClearOfAll 2 = .ok (.iload_n 2, 1) := by decide +kernel
theorem dX1_isClearOfAll_3 : decode cX1_isClearOfAll 3 = .ok (.iload_n 3, 1) := by decide +kernel
theorem dX1_isClearOfAll_4 : decode cX1_isClearOfAll 4 = .ok (.invokevirtual 127, 3) := by decide +kernel
theorem dX1_isClearOfAll_7 : decode cX1_isClearOfAll 7 = .ok (.iconst 0, 1) := by decide +kernel
theorem dX1_isClearOfAll_8 : decode cX1_isClearOfAll 8 = .ok (.istore 4, 2) := by decide +kernel
theorem dX1_isClearOfAll_10 : decode cX1_isClearOfAll 10 = .ok (.iload 4, 2) := by decide +kernel
theorem dX1_isClearOfAll_12 : decode cX1_isClearOfAll 12 = .ok (.aload_n 0, 1) := by decide +kernel
theorem dX1_isClearOfAll_13 : decode cX1_isClearOfAll 13 = .ok (.getfield 45, 3) := by decide +kernel
theorem dX1_isClearOfAll_16 : decode cX1_isClearOfAll 16 = .ok (.if_icmp .ge 36, 3) := by decide +kernel
theorem dX1_isClearOfAll_19 : decode cX1_isClearOfAll 19 = .ok (.aload_n 0, 1) := by decide +kernel
theorem dX1_isClearOfAll_20 : decode cX1_isClearOfAll 20 = .ok (.getfield 17, 3) := by decide +kernel
theorem dX1_isClearOfAll_23 : decode cX1_isClearOfAll 23 = .ok (.iload 4, 2) := by decide +kernel
theorem dX1_isClearOfAll_25 : decode cX1_isClearOfAll 25 = .ok (.aaload, 1) := by decide +kernel
theorem dX1_isClearOfAll_26 : decode cX1_isClearOfAll 26 = .ok (.aload_n 1, 1) := by decide +kernel
theorem dX1_isClearOfAll_27 : decode cX1_isClearOfAll 27 = .ok (.if_acmp .eq 19, 3) := by decide +kernel
theorem dX1_isClearOfAll_30 : decode cX1_isClearOfAll 30 = .ok (.aload_n 1, 1) := by decide +kernel
theorem dX1_isClearOfAll_31 : decode cX1_isClearOfAll 31 = .ok (.aload_n 0, 1) := by decide +kernel
theorem dX1_isClearOfAll_32 : decode cX1_isClearOfAll 32 = .ok (.getfield 17, 3) := by decide +kernel
theorem dX1_isClearOfAll_35 : decode cX1_isClearOfAll 35 = .ok (.iload 4, 2) := by decide +kernel
theorem dX1_isClearOfAll_37 : decode cX1_isClearOfAll 37 = .ok (.aaload, 1) := by decide +kernel
theorem dX1_isClearOfAll_38 : decode cX1_isClearOfAll 38 = .ok (.invokevirtual 131, 3) := by decide +kernel
theorem dX1_isClearOfAll_41 : decode cX1_isClearOfAll 41 = .ok (.ifCond .ne 5, 3) := by decide +kernel
theorem dX1_isClearOfAll_44 : decode cX1_isClearOfAll 44 = .ok (.iconst 0, 1) := by decide +kernel
theorem dX1_isClearOfAll_45 : decode cX1_isClearOfAll 45 = .ok (.ireturn, 1) := by decide +kernel
theorem dX1_isClearOfAll_46 : decode cX1_isClearOfAll 46 = .ok (.iinc 4 1, 3) := by decide +kernel
theorem dX1_isClearOfAll_49 : decode cX1_isClearOfAll 49 = .ok (.goto (-39), 3) := by decide +kernel
theorem dX1_isClearOfAll_52 : decode cX1_isClearOfAll 52 = .ok (.iconst 1, 1) := by decide +kernel
theorem dX1_isClearOfAll_53 : decode cX1_isClearOfAll 53 = .ok (.ireturn, 1) := by decide +kernel
set_option maxRecDepth 20000 in
theorem ggX1_passHour_X1_holdsBy : GoodIn wsX1_passHour wsX1_holdsBy := goodIn_r _ [11, 12, 13, 14, 15, 16, 17, 18, 19, 20, 21, 10, 22, 4, 23, 24, 25, 26, 27, 28, 29, 30, 31, 32, 33, 34, 35, 36, 37, 38, 39, 40, 41, 42, 43, 44, 45, 46, 47, 48, 49, 50, 51, 52, 53, 54, 55, 56, 57, 58, 59, 60, 61, 62, 63, 64, 65, 66, 67, 5, 98, 99, 100, 101, 102, 103, 104, 105, 106, 107, 92, 93, 94, 95, 96, 97, 108, 109, 110, 111, 112, 113, 114, 115, 116, 117, 118, 119, 120, 121, 122] (by decide +kernel) (by decide +kernel)
set_option maxRecDepth 20000 in
theorem gX1_passHour_X1_holdsBy : GoodIn wsX1_passHour (wsV RX1 138 RX1 yX1_holdsBy wsX1_holdsBy) := goodIn_app (goodIn_of _ (by decide +kernel)) ggX1_passHour_X1_holdsBy
set_option maxRecDepth 20000 in
theorem ggX1_passHour_X1_drag : GoodIn wsX1_passHour wsX1_drag := goodIn_r _ [71, 4, 67, 30, 72, 12, 3, 5, 73, 74, 75, 76, 77, 78, 79, 10, 80, 81, 82, 83, 84, 85, 86, 87, 88, 89, 90, 91, 98, 99, 100, 101, 102, 103, 104, 105, 106, 107, 108, 109, 110, 92, 93, 94, 95, 96, 97] (by decide +kernel) (by decide +kernel)
set_option maxRecDepth 20000 in
theorem gX1_passHour_X1_drag : GoodIn wsX1_passHour (wsV RX1 141 RX1 yX1_drag wsX1_drag) := goodIn_app (goodIn_of _ (by decide +kernel)) ggX1_passHour_X1_drag
set_option maxRecDepth 20000 in
theorem ggX1_passHour_X7_oneIf : GoodIn wsX1_passHour wsX7_oneIf := goodIn_r _ [76] (by decide +kernel) (by decide +kernel)
set_option maxRecDepth 20000 in
theorem gX1_passHour_X7_oneIf_n145 : GoodIn wsX1_passHour (wsX7_oneIf) := ggX1_passHour_X7_oneIf
theorem dX1_passHour_0 : decode cX1_passHour 0 = .ok (.iconst 0, 1) := by decide +kernel
theorem dX1_passHour_1 : decode cX1_passHour 1 = .ok (.istore_n 3, 1) := by decide +kernel
theorem dX1_passHour_2 : decode cX1_passHour 2 = .ok (.iconst 0, 1) := by decide +kernel
theorem dX1_passHour_3 : decode cX1_passHour 3 = .ok (.istore 4, 2) := by decide +kernel
theorem dX1_passHour_5 : decode cX1_passHour 5 = .ok (.iload 4, 2) := by decide +kernel
theorem dX1_passHour_7 : decode cX1_passHour 7 = .ok (.aload_n 0, 1) := by decide +kernel
theorem dX1_passHour_8 : decode cX1_passHour 8 = .ok (.getfield 45, 3) := by decide +kernel
theorem dX1_passHour_11 : decode cX1_passHour 11 = .ok (.if_icmp .ge 62, 3) := by decide +kernel
theorem dX1_passHour_14 : decode cX1_passHour 14 = .ok (.aload_n 0, 1) := by decide +kernel
theorem dX1_passHour_15 : decode cX1_passHour 15 = .ok (.getfield 17, 3) := by decide +kernel
theorem dX1_passHour_18 : decode cX1_passHour 18 = .ok (.iload 4, 2) := by decide +kernel
theorem dX1_passHour_20 : decode cX1_passHour 20 = .ok (.aaload, 1) := by decide +kernel
theorem dX1_passHour_21 : decode cX1_passHour 21 = .ok (.astore 5, 2) := by decide +kernel
theorem dX1_passHour_23 : decode cX1_passHour 23 = .ok (.aload 5, 2) := by decide +kernel
theorem dX1_passHour_25 : decode cX1_passHour 25 = .ok (.getfield 135, 3) := by decide +kernel
theorem dX1_passHour_28 : decode cX1_passHour 28 = .ok (.ifCond .ne 39, 3) := by decide +kernel
theorem dX1_passHour_31 : decode cX1_passHour 31 = .ok (.aload_n 0, 1) := by decide +kernel
theorem dX1_passHour_32 : decode cX1_passHour 32 = .ok (.aload 5, 2) := by decide +kernel
theorem dX1_passHour_34 : decode cX1_passHour 34 = .ok (.aload 5, 2) := by decide +kernel
theorem dX1_passHour_36 : decode cX1_passHour 36 = .ok (.getfield 94, 3) := by decide +kernel
theorem dX1_passHour_39 : decode cX1_passHour 39 = .ok (.getfield 112, 3) := by decide +kernel
theorem dX1_passHour_42 : decode cX1_passHour 42 = .ok (.iload_n 1, 1) := by decide +kernel
theorem dX1_passHour_43 : decode cX1_passHour 43 = .ok (.invokevirtual 138, 3) := by decide +kernel
theorem dX1_passHour_46 : decode cX1_passHour 46 = .ok (.ifCond .ne 21, 3) := by decide +kernel
theorem dX1_passHour_49 : decode cX1_passHour 49 = .ok (.aload_n 0, 1) := by decide +kernel
theorem dX1_passHour_50 : decode cX1_passHour 50 = .ok (.aload 5, 2) := by decide +kernel
theorem dX1_passHour_52 : decode cX1_passHour 52 = .ok (.iload_n 2, 1) := by decide +kernel
theorem dX1_passHour_53 : decode cX1_passHour 53 = .ok (.invokevirtual 141, 3) := by decide +kernel
theorem dX1_passHour_56 : decode cX1_passHour 56 = .ok (.iload_n 3, 1) := by decide +kernel
theorem dX1_passHour_57 : decode cX1_passHour 57 = .ok (.aload 5, 2) := by decide +kernel
theorem dX1_passHour_59 : decode cX1_passHour 59 = .ok (.getfield 135, 3) := by decide +kernel
theorem dX1_passHour_62 : decode cX1_passHour 62 = .ok (.invokestatic 145, 3) := by decide +kernel
theorem dX1_passHour_65 : decode cX1_passHour 65 = .ok (.iadd, 1) := by decide +kernel
theorem dX1_passHour_66 : decode cX1_passHour 66 = .ok (.istore_n 3, 1) := by decide +kernel
theorem dX1_passHour_67 : decode cX1_passHour 67 = .ok (.iinc 4 1, 3) := by decide +kernel
theorem dX1_passHour_70 : decode cX1_passHour 70 = .ok (.goto (-65), 3) := by decide +kernel
theorem dX1_passHour_73 : decode cX1_passHour 73 = .ok (.aload_n 0, 1) := by decide +kernel
theorem dX1_passHour_74 : decode cX1_passHour 74 = .ok (.dup, 1) := by decide +kernel
theorem dX1_passHour_75 : decode cX1_passHour 75 = .ok (.getfield 56, 3) := by decide +kernel
theorem dX1_passHour_78 : decode cX1_passHour 78 = .ok (.iconst 1, 1) := by decide +kernel
theorem dX1_passHour_79 : decode cX1_passHour 79 = .ok (.iadd, 1) := by decide +kernel
theorem dX1_passHour_80 : decode cX1_passHour 80 = .ok (.putfield 56, 3) := by decide +kernel
theorem dX1_passHour_83 : decode cX1_passHour 83 = .ok (.iload_n 3, 1) := by decide +kernel
theorem dX1_passHour_84 : decode cX1_passHour 84 = .ok (.ireturn, 1) := by decide +kernel
set_option maxRecDepth 20000 in
theorem ggX1_drag_X7_oneIf : GoodIn wsX1_drag wsX7_oneIf := goodIn_r _ [11] (by decide +kernel) (by decide +kernel)
set_option maxRecDepth 20000 in
theorem gX1_drag_X7_oneIf_n145 : GoodIn wsX1_drag (wsX7_oneIf) := ggX1_drag_X7_oneIf
set_option maxRecDepth 20000 in
theorem ggX1_drag_X1_isCell : GoodIn wsX1_drag wsX1_isCell := goodIn_r _ [16, 17, 18, 10, 19, 41, 42, 43, 44, 45, 46] (by decide +kernel) (by decide +kernel)
set_option maxRecDepth 20000 in
theorem gX1_drag_X1_isCell : GoodIn wsX1_drag (wsV RX1 152 RX1 yX1_isCell wsX1_isCell) := goodIn_app (goodIn_of _ (by decide +kernel)) ggX1_drag_X1_isCell
set_option maxRecDepth 20000 in
theorem ggX1_drag_X0_put : GoodIn wsX1_drag wsX0_put := goodIn_r _ [24, 25, 26, 27, 38, 39, 40] (by decide +kernel) (by decide +kernel)
set_option maxRecDepth 20000 in
theorem gX1_drag_X0_put : GoodIn wsX1_drag (wsV RX1 156 RX0 yX0_put wsX0_put) := goodIn_app (goodIn_of _ (by decide +kernel)) ggX1_drag_X0_put
theorem dX1_drag_0 : decode cX1_drag 0 = .ok (.iload_n 2, 1) := by decide +kernel
theorem dX1_drag_1 : decode cX1_drag 1 = .ok (.iconst 1, 1) := by decide +kernel
theorem dX1_drag_2 : decode cX1_drag 2 = .ok (.if_icmp .ne 7, 3) := by decide +kernel
theorem dX1_drag_5 : decode cX1_drag 5 = .ok (.iconst 1, 1) := by decide +kernel
theorem dX1_drag_6 : decode cX1_drag 6 = .ok (.goto 4, 3) := by decide +kernel
theorem dX1_drag_9 : decode cX1_drag 9 = .ok (.iconst 0, 1) := by decide +kernel
theorem dX1_drag_10 : decode cX1_drag 10 = .ok (.invokestatic 145, 3) := by decide +kernel
theorem dX1_drag_13 : decode cX1_drag 13 = .ok (.iload_n 2, 1) := by decide +kernel
theorem dX1_drag_14 : decode cX1_drag 14 = .ok (.iconst 3, 1) := by decide +kernel
theorem dX1_drag_15 : decode cX1_drag 15 = .ok (.if_icmp .ne 7, 3) := by decide +kernel
theorem dX1_drag_18 : decode cX1_drag 18 = .ok (.iconst 1, 1) := by decide +kernel
theorem dX1_drag_19 : decode cX1_drag 19 = .ok (.goto 4, 3) := by decide +kernel
theorem dX1_drag_22 : decode cX1_drag 22 = .ok (.iconst 0, 1) := by decide +kernel
theorem dX1_drag_23 : decode cX1_drag 23 = .ok (.invokestatic 145, 3) := by decide +kernel
theorem dX1_drag_26 : decode cX1_drag 26 = .ok (.isub, 1) := by decide +kernel
theorem dX1_drag_27 : decode cX1_drag 27 = .ok (.istore_n 3, 1) := by decide +kernel
theorem dX1_drag_28 : decode cX1_drag 28 = .ok (.iload_n 2, 1) := by decide +kernel
theorem dX1_drag_29 : decode cX1_drag 29 = .ok (.iconst 2, 1) := by decide +kernel
theorem dX1_drag_30 : decode cX1_drag 30 = .ok (.if_icmp .ne 7, 3) := by decide +kernel
theorem dX1_drag_33 : decode cX1_drag 33 = .ok (.iconst 1, 1) := by decide +kernel
theorem dX1_drag_34 : decode cX1_drag 34 = .ok (.goto 4, 3) := by decide +kernel
theorem dX1_drag_37 : decode cX1_drag 37 = .ok (.iconst 0, 1) := by decide +kernel
theorem dX1_drag_38 : decode cX1_drag 38 = .ok (.invokestatic 145, 3) := by decide +kernel
theorem dX1_drag_41 : decode cX1_drag 41 = .ok (.iload_n 2, 1) := by decide +kernel
theorem dX1_drag_42 : decode cX1_drag 42 = .ok (.ifCond .ne 7, 3) := by decide +kernel
theorem dX1_drag_45 : decode cX1_drag 45 = .ok (.iconst 1, 1) := by decide +kernel
theorem dX1_drag_46 : decode cX1_drag 46 = .ok (.goto 4, 3) := by decide +kernel
theorem dX1_drag_49 : decode cX1_drag 49 = .ok (.iconst 0, 1) := by decide +kernel
theorem dX1_drag_50 : decode cX1_drag 50 = .ok (.invokestatic 145, 3) := by decide +kernel
theorem dX1_drag_53 : decode cX1_drag 53 = .ok (.isub, 1) := by decide +kernel
theorem dX1_drag_54 : decode cX1_drag 54 = .ok (.istore 4, 2) := by decide +kernel
theorem dX1_drag_56 : decode cX1_drag 56 = .ok (.aload_n 1, 1) := by decide +kernel
theorem dX1_drag_57 : decode cX1_drag 57 = .ok (.getfield 94, 3) := by decide +kernel
theorem dX1_drag_60 : decode cX1_drag 60 = .ok (.astore 5, 2) := by decide +kernel
theorem dX1_drag_62 : decode cX1_drag 62 = .ok (.aload_n 1, 1) := by decide +kernel
theorem dX1_drag_63 : decode cX1_drag 63 = .ok (.getfield 109, 3) := by decide +kernel
theorem dX1_drag_66 : decode cX1_drag 66 = .ok (.astore 6, 2) := by decide +kernel
theorem dX1_drag_68 : decode cX1_drag 68 = .ok (.aload_n 0, 1) := by decide +kernel
theorem dX1_drag_69 : decode cX1_drag 69 = .ok (.aload 5, 2) := by decide +kernel
theorem dX1_drag_71 : decode cX1_drag 71 = .ok (.getfield 66, 3) := by decide +kernel
theorem dX1_drag_74 : decode cX1_drag 74 = .ok (.iload_n 3, 1) := by decide +kernel
theorem dX1_drag_75 : decode cX1_drag 75 = .ok (.iadd, 1) := by decide +kernel
theorem dX1_drag_76 : decode cX1_drag 76 = .ok (.aload 5, 2) := by decide +kernel
theorem dX1_drag_78 : decode cX1_drag 78 = .ok (.getfield 149, 3) := by decide +kernel
theorem dX1_drag_81 : decode cX1_drag 81 = .ok (.iload 4, 2) := by decide +kernel
theorem dX1_drag_83 : decode cX1_drag 83 = .ok (.iadd, 1) := by decide +kernel
theorem dX1_drag_84 : decode cX1_drag 84 = .ok (.invokevirtual 152, 3) := by decide +kernel
theorem dX1_drag_87 : decode cX1_drag 87 = .ok (.ifCond .eq 36, 3) := by decide +kernel
theorem dX1_drag_90 : decode cX1_drag 90 = .ok (.aload_n 1, 1) := by decide +kernel
theorem dX1_drag_91 : decode cX1_drag 91 = .ok (.getfield 82, 3) := by decide +kernel
theorem dX1_drag_94 : decode cX1_drag 94 = .ok (.ifCond .eq 25, 3) := by decide +kernel
theorem dX1_drag_97 : decode cX1_drag 97 = .ok (.aload_n 0, 1) := by decide +kernel
theorem dX1_drag_98 : decode cX1_drag 98 = .ok (.aload 6, 2) := by decide +kernel
theorem dX1_drag_100 : decode cX1_drag 100 = .ok (.getfield 66, 3) := by decide +kernel
theorem dX1_drag_103 : decode cX1_drag 103 = .ok (.iload_n 3, 1) := by decide +kernel
theorem dX1_drag_104 : decode cX1_drag 104 = .ok (.iadd, 1) := by decide +kernel
theorem dX1_drag_105 : decode cX1_drag 105 = .ok (.aload 6, 2) := by decide +kernel
theorem dX1_drag_107 : decode cX1_drag 107 = .ok (.getfield 149, 3) := by decide +kernel
theorem dX1_drag_110 : decode cX1_drag 110 = .ok (.iload 4, 2) := by decide +kernel
theorem dX1_drag_112 : decode cX1_drag 112 = .ok (.iadd, 1) := by decide +kernel
theorem dX1_drag_113 : decode cX1_drag 113 = .ok (.invokevirtual 152, 3) := by decide +kernel
theorem dX1_drag_116 : decode cX1_drag 116 = .ok (.ifCond .eq 7, 3) := by decide +kernel
theorem dX1_drag_119 : decode cX1_drag 119 = .ok (.iconst 1, 1) := by decide +kernel
theorem dX1_drag_120 : decode cX1_drag 120 = .ok (.goto 4, 3) := by decide +kernel
theorem dX1_drag_123 : decode cX1_drag 123 = .ok (.iconst 0, 1) := by decide +kernel
theorem dX1_drag_124 : decode cX1_drag 124 = .ok (.istore 7, 2) := by decide +kernel
theorem dX1_drag_126 : decode cX1_drag 126 = .ok (.iload 7, 2) := by decide +kernel
theorem dX1_drag_128 : decode cX1_drag 128 = .ok (.ifCond .ne 9, 3) := by decide +kernel
theorem dX1_drag_131 : decode cX1_drag 131 = .ok (.aload_n 1, 1) := by decide +kernel
theorem dX1_drag_132 : decode cX1_drag 132 = .ok (.iconst 1, 1) := by decide +kernel
theorem dX1_drag_133 : decode cX1_drag 133 = .ok (.putfield 135, 3) := by decide +kernel
theorem dX1_drag_136 : decode cX1_drag 136 = .ok (.return_, 1) := by decide +kernel
theorem dX1_drag_137 : decode cX1_drag 137 = .ok (.aload 5, 2) := by decide +kernel
theorem dX1_drag_139 : decode cX1_drag 139 = .ok (.aload 5, 2) := by decide +kernel
theorem dX1_drag_141 : decode cX1_drag 141 = .ok (.getfield 66, 3) := by decide +kernel
theorem dX1_drag_144 : decode cX1_drag 144 = .ok (.iload_n 3, 1) := by decide +kernel
theorem dX1_drag_145 : decode cX1_drag 145 = .ok (.iadd, 1) := by decide +kernel
theorem dX1_drag_146 : decode cX1_drag 146 = .ok (.aload 5, 2) := by decide +kernel
theorem dX1_drag_148 : decode cX1_drag 148 = .ok (.getfield 149, 3) := by decide +kernel
theorem dX1_drag_151 : decode cX1_drag 151 = .ok (.iload 4, 2) := by decide +kernel
theorem dX1_drag_153 : decode cX1_drag 153 = .ok (.iadd, 1) := by decide +kernel
theorem dX1_drag_154 : decode cX1_drag 154 = .ok (.aload 5, 2) := by decide +kernel
theorem dX1_drag_156 : decode cX1_drag 156 = .ok (.getfield 112, 3) := by decide +kernel
theorem dX1_drag_159 : decode cX1_drag 159 = .ok (.invokevirtual 156, 3) := by decide +kernel
theorem dX1_drag_162 : decode cX1_drag 162 = .ok (.aload_n 1, 1) := by decide +kernel
theorem dX1_drag_163 : decode cX1_drag 163 = .ok (.getfield 82, 3) := by decide +kernel
theorem dX1_drag_166 : decode cX1_drag 166 = .ok (.ifCond .eq 28, 3) := by decide +kernel
theorem dX1_drag_169 : decode cX1_drag 169 = .ok (.aload 6, 2) := by decide +kernel
theorem dX1_drag_171 : decode cX1_drag 171 = .ok (.aload 6, 2) := by decide +kernel
theorem dX1_drag_173 : decode cX1_drag 173 = .ok (.getfield 66, 3) := by decide +kernel
theorem dX1_drag_176 : decode cX1_drag 176 = .ok (.iload_n 3, 1) := by decide +kernel
theorem dX1_drag_177 : decode cX1_drag 177 = .ok (.iadd, 1) := by decide +kernel
theorem dX1_drag_178 : decode cX1_drag 178 = .ok (.aload 6, 2) := by decide +kernel
theorem dX1_drag_180 : decode cX1_drag 180 = .ok (.getfield 149, 3) := by decide +kernel
theorem dX1_drag_183 : decode cX1_drag 183 = .ok (.iload 4, 2) := by decide +kernel
theorem dX1_drag_185 : decode cX1_drag 185 = .ok (.iadd, 1) := by decide +kernel
theorem dX1_drag_186 : decode cX1_drag 186 = .ok (.aload 6, 2) := by decide +kernel
theorem dX1_drag_188 : decode cX1_drag 188 = .ok (.getfield 112, 3) := by decide +kernel
theorem dX1_drag_191 : decode cX1_drag 191 = .ok (.invokevirtual 156, 3) := by decide +kernel
theorem dX1_drag_194 : decode cX1_drag 194 = .ok (.aload_n 1, 1) := by decide +kernel
theorem dX1_drag_195 : decode cX1_drag 195 = .ok (.dup, 1) := by decide +kernel
theorem dX1_drag_196 : decode cX1_drag 196 = .ok (.getfield 160, 3) := by decide +kernel
theorem dX1_drag_199 : decode cX1_drag 199 = .ok (.iconst 1, 1) := by decide +kernel
theorem dX1_drag_200 : decode cX1_drag 200 = .ok (.iadd, 1) := by decide +kernel
theorem dX1_drag_201 : decode cX1_drag 201 = .ok (.putfield 160, 3) := by decide +kernel
theorem dX1_drag_204 : decode cX1_drag 204 = .ok (.return_, 1) := by decide +kernel
set_option maxRecDepth 20000 in
theorem ggX1_countHolding_X1_holdsBy : GoodIn wsX1_countHolding wsX1_holdsBy := goodIn_r _ [10, 11, 12, 13, 14, 15, 16, 17, 18, 19, 20, 9, 21, 4, 22, 23, 24, 25, 26, 27, 28, 29, 30, 31, 32, 33, 34, 35, 36, 37, 38, 39, 40, 41, 42, 43, 44, 45, 46, 47, 48, 49, 50, 51, 52, 53, 54, 55, 56, 57, 58, 59, 60, 61, 62, 63, 64, 65, 66, 5, 76, 77, 78, 79, 80, 81, 82, 83, 84, 85, 70, 71, 72, 73, 74, 75, 86, 87, 88, 89, 90, 91, 92, 93, 94, 95, 96, 97, 98, 99, 100] (by decide +kernel) (by decide +kernel)
set_option maxRecDepth 20000 in
theorem gX1_countHolding_X1_holdsBy : GoodIn wsX1_countHolding (wsV RX1 138 RX1 yX1_holdsBy wsX1_holdsBy) := goodIn_app (goodIn_of _ (by decide +kernel)) ggX1_countHolding_X1_holdsBy
set_option maxRecDepth 20000 in
theorem ggX1_countHolding_X7_oneIf : GoodIn wsX1_countHolding wsX7_oneIf := goodIn_r _ [69] (by decide +kernel) (by decide +kernel)
set_option maxRecDepth 20000 in
theorem gX1_countHolding_X7_oneIf_n145 : GoodIn wsX1_countHolding (wsX7_oneIf) := ggX1_countHolding_X7_oneIf
theorem dX1_countHolding_0 : decode cX1_countHolding 0 = .ok (.iconst 0, 1) := by decide +kernel
theorem dX1_countHolding_1 : decode cX1_countHolding 1 = .ok (.istore_n 2, 1) := by decide +kernel
theorem dX1_countHolding_2 : decode cX1_countHolding 2 = .ok (.iconst 0, 1) := by decide +kernel
theorem dX1_countHolding_3 : decode cX1_countHolding 3 = .ok (.istore_n 3, 1) := by decide +kernel
theorem dX1_countHolding_4 : decode cX1_countHolding 4 = .ok (.iload_n 3, 1) := by decide +kernel
theorem dX1_countHolding_5 : decode cX1_countHolding 5 = .ok (.aload_n 0, 1) := by decide +kernel
theorem dX1_countHolding_6 : decode cX1_countHolding 6 = .ok (.getfield 45, 3) := by decide +kernel
theorem dX1_countHolding_9 : decode cX1_countHolding 9 = .ok (.if_icmp .ge 54, 3) := by decide +kernel
theorem dX1_countHolding_12 : decode cX1_countHolding 12 = .ok (.aload_n 0, 1) := by decide +kernel
theorem dX1_countHolding_13 : decode cX1_countHolding 13 = .ok (.getfield 17, 3) := by decide +kernel
theorem dX1_countHolding_16 : decode cX1_countHolding 16 = .ok (.iload_n 3, 1) := by decide +kernel
theorem dX1_countHolding_17 : decode cX1_countHolding 17 = .ok (.aaload, 1) := by decide +kernel
theorem dX1_countHolding_18 : decode cX1_countHolding 18 = .ok (.astore 4, 2) := by decide +kernel
theorem dX1_countHolding_20 : decode cX1_countHolding 20 = .ok (.iload_n 2, 1) := by decide +kernel
theorem dX1_countHolding_21 : decode cX1_countHolding 21 = .ok (.aload 4, 2) := by decide +kernel
theorem dX1_countHolding_23 : decode cX1_countHolding 23 = .ok (.getfield 135, 3) := by decide +kernel
theorem dX1_countHolding_26 : decode cX1_countHolding 26 = .ok (.ifCond .ne 25, 3) := by decide +kernel
theorem dX1_countHolding_29 : decode cX1_countHolding 29 = .ok (.aload_n 0, 1) := by decide +kernel
theorem dX1_countHolding_30 : decode cX1_countHolding 30 = .ok (.aload 4, 2) := by decide +kernel
theorem dX1_countHolding_32 : decode cX1_countHolding 32 = .ok (.aload 4, 2) := by decide +kernel
theorem dX1_countHolding_34 : decode cX1_countHolding 34 = .ok (.getfield 94, 3) := by decide +kernel
theorem dX1_countHolding_37 : decode cX1_countHolding 37 = .ok (.getfield 112, 3) := by decide +kernel
theorem dX1_countHolding_40 : decode cX1_countHolding 40 = .ok (.iload_n 1, 1) := by decide +kernel
theorem dX1_countHolding_41 : decode cX1_countHolding 41 = .ok (.invokevirtual 138, 3) := by decide +kernel
theorem dX1_countHolding_44 : decode cX1_countHolding 44 = .ok (.ifCond .eq 7, 3) := by decide +kernel
theorem dX1_countHolding_47 : decode cX1_countHolding 47 = .ok (.iconst 1, 1) := by decide +kernel
theorem dX1_countHolding_48 : decode cX1_countHolding 48 = .ok (.goto 4, 3) := by decide +kernel
theorem dX1_countHolding_51 : decode cX1_countHolding 51 = .ok (.iconst 0, 1) := by decide +kernel
theorem dX1_countHolding_52 : decode cX1_countHolding 52 = .ok (.invokestatic 145, 3) := by decide +kernel
theorem dX1_countHolding_55 : decode cX1_countHolding 55 = .ok (.iadd, 1) := by decide +kernel
theorem dX1_countHolding_56 : decode cX1_countHolding 56 = .ok (.istore_n 2, 1) := by decide +kernel
theorem dX1_countHolding_57 : decode cX1_countHolding 57 = .ok (.iinc 3 1, 3) := by decide +kernel
theorem dX1_countHolding_60 : decode cX1_countHolding 60 = .ok (.goto (-56), 3) := by decide +kernel
theorem dX1_countHolding_63 : decode cX1_countHolding 63 = .ok (.iload_n 2, 1) := by decide +kernel
theorem dX1_countHolding_64 : decode cX1_countHolding 64 = .ok (.ireturn, 1) := by decide +kernel
set_option maxRecDepth 20000 in
theorem ggX1_countMeeting_X6_isClearOf : GoodIn wsX1_countMeeting wsX6_isClearOf := goodIn_r _ [7, 8, 9, 10, 11, 12, 22, 23, 24, 25, 26, 27, 28, 29, 30, 31, 32, 33, 34] (by decide +kernel) (by decide +kernel)
set_option maxRecDepth 20000 in
theorem gX1_countMeeting_X6_isClearOf : GoodIn wsX1_countMeeting (wsV RX1 131 RX6 yX6_isClearOf wsX6_isClearOf) := goodIn_app (goodIn_of _ (by decide +kernel)) ggX1_countMeeting_X6_isClearOf
set_option maxRecDepth 20000 in
theorem ggX1_countMeeting_X7_oneIf : GoodIn wsX1_countMeeting wsX7_oneIf := goodIn_r _ [15] (by decide +kernel) (by decide +kernel)
set_option maxRecDepth 20000 in
theorem gX1_countMeeting_X7_oneIf_n145 : GoodIn wsX1_countMeeting (wsX7_oneIf) := ggX1_countMeeting_X7_oneIf
theorem dX1_countMeeting_0 : decode cX1_countMeeting 0 = .ok (.iconst 0, 1) := by decide +kernel
theorem dX1_countMeeting_1 : decode cX1_countMeeting 1 = .ok (.istore_n 1, 1) := by decide +kernel
theorem dX1_countMeeting_2 : decode cX1_countMeeting 2 = .ok (.iconst 0, 1) := by decide +kernel
theorem dX1_countMeeting_3 : decode cX1_countMeeting 3 = .ok (.istore_n 2, 1) := by decide +kernel
theorem dX1_countMeeting_4 : decode cX1_countMeeting 4 = .ok (.iload_n 2, 1) := by decide +kernel
theorem dX1_countMeeting_5 : decode cX1_countMeeting 5 = .ok (.aload_n 0, 1) := by decide +kernel
theorem dX1_countMeeting_6 : decode cX1_countMeeting 6 = .ok (.getfield 45, 3) := by decide +kernel
theorem dX1_countMeeting_9 : decode cX1_countMeeting 9 = .ok (.if_icmp .ge 56, 3) := by decide +kernel
theorem dX1_countMeeting_12 : decode cX1_countMeeting 12 = .ok (.iload_n 2, 1) := by decide +kernel
theorem dX1_countMeeting_13 : decode cX1_countMeeting 13 = .ok (.iconst 1, 1) := by decide +kernel
theorem dX1_countMeeting_14 : decode cX1_countMeeting 14 = .ok (.iadd, 1) := by decide +kernel
theorem dX1_countMeeting_15 : decode cX1_countMeeting 15 = .ok (.istore_n 3, 1) := by decide +kernel
theorem dX1_countMeeting_16 : decode cX1_countMeeting 16 = .ok (.iload_n 3, 1) := by decide +kernel
theorem dX1_countMeeting_17 : decode cX1_countMeeting 17 = .ok (.aload_n 0, 1) := by decide +kernel
theorem dX1_countMeeting_18 : decode cX1_countMeeting 18 = .ok (.getfield 45, 3) := by decide +kernel
theorem dX1_countMeeting_21 : decode cX1_countMeeting 21 = .ok (.if_icmp .ge 38, 3) := by decide +kernel
theorem dX1_countMeeting_24 : decode cX1_countMeeting 24 = .ok (.iload_n 1, 1) := by decide +kernel
theorem dX1_countMeeting_25 : decode cX1_countMeeting 25 = .ok (.aload_n 0, 1) := by decide +kernel
theorem dX1_countMeeting_26 : decode cX1_countMeeting 26 = .ok (.getfield 17, 3) := by decide +kernel
theorem dX1_countMeeting_29 : decode cX1_countMeeting 29 = .ok (.iload_n 2, 1) := by decide +kernel
theorem dX1_countMeeting_30 : decode cX1_countMeeting 30 = .ok (.aaload, 1) := by decide +kernel
theorem dX1_countMeeting_31 : decode cX1_countMeeting 31 = .ok (.aload_n 0, 1) := by decide +kernel
theorem dX1_countMeeting_32 : decode cX1_countMeeting 32 = .ok (.getfield 17, 3) := by decide +kernel
theorem dX1_countMeeting_35 : decode cX1_countMeeting 35 = .ok (.iload_n 3, 1) := by decide +kernel
theorem dX1_countMeeting_36 : decode cX1_countMeeting 36 = .ok (.aaload, 1) := by decide +kernel
theorem dX1_countMeeting_37 : decode cX1_countMeeting 37 = .ok (.invokevirtual 131, 3) := by decide +kernel
theorem dX1_countMeeting_40 : decode cX1_countMeeting 40 = .ok (.ifCond .ne 7, 3) := by decide +kernel
theorem dX1_countMeeting_43 : decode cX1_countMeeting 43 = .ok (.iconst 1, 1) := by decide +kernel
theorem dX1_countMeeting_44 : decode cX1_countMeeting 44 = .ok (.goto 4, 3) := by decide +kernel
theorem dX1_countMeeting_47 : decode cX1_countMeeting 47 = .ok (.iconst 0, 1) := by decide +kernel
theorem dX1_countMeeting_48 : decode cX1_countMeeting 48 = .ok (.invokestatic 145, 3) := by decide +kernel
theorem dX1_countMeeting_51 : decode cX1_countMeeting 51 = .ok (.iadd, 1) := by decide +kernel
theorem dX1_countMeeting_52 : decode cX1_countMeeting 52 = .ok (.istore_n 1, 1) := by decide +kernel
theorem dX1_countMeeting_53 : decode cX1_countMeeting 53 = .ok (.iinc 3 1, 3) := by decide +kernel
theorem dX1_countMeeting_56 : decode cX1_countMeeting 56 = .ok (.goto (-40), 3) := by decide +kernel
theorem dX1_countMeeting_59 : decode cX1_countMeeting 59 = .ok (.iinc 2 1, 3) := by decide +kernel
theorem dX1_countMeeting_62 : decode cX1_countMeeting 62 = .ok (.goto (-58), 3) := by decide +kernel
theorem dX1_countMeeting_65 : decode cX1_countMeeting 65 = .ok (.iload_n 1, 1) := by decide +kernel
theorem dX1_countMeeting_66 : decode cX1_countMeeting 66 = .ok (.ireturn, 1) := by decide +kernel
set_option maxRecDepth 20000 in
theorem ggX1_countAshore_X7_oneIf : GoodIn wsX1_countAshore wsX7_oneIf := goodIn_r _ [6] (by decide +kernel) (by decide +kernel)
set_option maxRecDepth 20000 in
theorem gX1_countAshore_X7_oneIf_n145 : GoodIn wsX1_countAshore (wsX7_oneIf) := ggX1_countAshore_X7_oneIf
theorem dX1_countAshore_0 : decode cX1_countAshore 0 = .ok (.iconst 0, 1) := by decide +kernel
theorem dX1_countAshore_1 : decode cX1_countAshore 1 = .ok (.istore_n 1, 1) := by decide +kernel
theorem dX1_countAshore_2 : decode cX1_countAshore 2 = .ok (.iconst 0, 1) := by decide +kernel
theorem dX1_countAshore_3 : decode cX1_countAshore 3 = .ok (.istore_n 2, 1) := by decide +kernel
theorem dX1_countAshore_4 : decode cX1_countAshore 4 = .ok (.iload_n 2, 1) := by decide +kernel
theorem dX1_countAshore_5 : decode cX1_countAshore 5 = .ok (.aload_n 0, 1) := by decide +kernel
theorem dX1_countAshore_6 : decode cX1_countAshore 6 = .ok (.getfield 45, 3) := by decide +kernel
theorem dX1_countAshore_9 : decode cX1_countAshore 9 = .ok (.if_icmp .ge 24, 3) := by decide +kernel
theorem dX1_countAshore_12 : decode cX1_countAshore 12 = .ok (.iload_n 1, 1) := by decide +kernel
theorem dX1_countAshore_13 : decode cX1_countAshore 13 = .ok (.aload_n 0, 1) := by decide +kernel
theorem dX1_countAshore_14 : decode cX1_countAshore 14 = .ok (.getfield 17, 3) := by decide +kernel
theorem dX1_countAshore_17 : decode cX1_countAshore 17 = .ok (.iload_n 2, 1) := by decide +kernel
theorem dX1_countAshore_18 : decode cX1_countAshore 18 = .ok (.aaload, 1) := by decide +kernel
theorem dX1_countAshore_19 : decode cX1_countAshore 19 = .ok (.getfield 135, 3) := by decide +kernel
theorem dX1_countAshore_22 : decode cX1_countAshore 22 = .ok (.invokestatic 145, 3) := by decide +kernel
theorem dX1_countAshore_25 : decode cX1_countAshore 25 = .ok (.iadd, 1) := by decide +kernel
theorem dX1_countAshore_26 : decode cX1_countAshore 26 = .ok (.istore_n 1, 1) := by decide +kernel
theorem dX1_countAshore_27 : decode cX1_countAshore 27 = .ok (.iinc 2 1, 3) := by decide +kernel
theorem dX1_countAshore_30 : decode cX1_countAshore 30 = .ok (.goto (-26), 3) := by decide +kernel
theorem dX1_countAshore_33 : decode cX1_countAshore 33 = .ok (.iload_n 1, 1) := by decide +kernel
theorem dX1_countAshore_34 : decode cX1_countAshore 34 = .ok (.ireturn, 1) := by decide +kernel
set_option maxRecDepth 20000 in
theorem ggX1_countMoored_X7_oneIf : GoodIn wsX1_countMoored wsX7_oneIf := goodIn_r _ [6] (by decide +kernel) (by decide +kernel)
set_option maxRecDepth 20000 in
theorem gX1_countMoored_X7_oneIf_n145 : GoodIn wsX1_countMoored (wsX7_oneIf) := ggX1_countMoored_X7_oneIf
theorem dX1_countMoored_0 : decode cX1_countMoored 0 = .ok (.iconst 0, 1) := by decide +kernel
theorem dX1_countMoored_1 : decode cX1_countMoored 1 = .ok (.istore_n 1, 1) := by decide +kernel
theorem dX1_countMoored_2 : decode cX1_countMoored 2 = .ok (.iconst 0, 1) := by decide +kernel
theorem dX1_countMoored_3 : decode cX1_countMoored 3 = .ok (.istore_n 2, 1) := by decide +kernel
theorem dX1_countMoored_4 : decode cX1_countMoored 4 = .ok (.iload_n 2, 1) := by decide +kernel
theorem dX1_countMoored_5 : decode cX1_countMoored 5 = .ok (.aload_n 0, 1) := by decide +kernel
theorem dX1_countMoored_6 : decode cX1_countMoored 6 = .ok (.getfield 45, 3) := by decide +kernel
theorem dX1_countMoored_9 : decode cX1_countMoored 9 = .ok (.if_icmp .ge 24, 3) := by decide +kernel
theorem dX1_countMoored_12 : decode cX1_countMoored 12 = .ok (.iload_n 1, 1) := by decide +kernel
theorem dX1_countMoored_13 : decode cX1_countMoored 13 = .ok (.aload_n 0, 1) := by decide +kernel
theorem dX1_countMoored_14 : decode cX1_countMoored 14 = .ok (.getfield 17, 3) := by decide +kernel
theorem dX1_countMoored_17 : decode cX1_countMoored 17 = .ok (.iload_n 2, 1) := by decide +kernel
theorem dX1_countMoored_18 : decode cX1_countMoored 18 = .ok (.aaload, 1) := by decide +kernel
theorem dX1_countMoored_19 : decode cX1_countMoored 19 = .ok (.getfield 82, 3) := by decide +kernel
theorem dX1_countMoored_22 : decode cX1_countMoored 22 = .ok (.invokestatic 145, 3) := by decide +kernel
theorem dX1_countMoored_25 : decode cX1_countMoored 25 = .ok (.iadd, 1) := by decide +kernel
theorem dX1_countMoored_26 : decode cX1_countMoored 26 = .ok (.istore_n 1, 1) := by decide +kernel
theorem dX1_countMoored_27 : decode cX1_countMoored 27 = .ok (.iinc 2 1, 3) := by decide +kernel
theorem dX1_countMoored_30 : decode cX1_countMoored 30 = .ok (.goto (-26), 3) := by decide +kernel
theorem dX1_countMoored_33 : decode cX1_countMoored 33 = .ok (.iload_n 1, 1) := by decide +kernel
theorem dX1_countMoored_34 : decode cX1_countMoored 34 = .ok (.ireturn, 1) := by decide +kernel
theorem dX1_countLinksOut_0 : decode cX1_countLinksOut 0 = .ok (.iconst 0, 1) := by decide +kernel
theorem dX1_countLinksOut_1 : decode cX1_countLinksOut 1 = .ok (.istore_n 1, 1) := by decide +kernel
theorem dX1_countLinksOut_2 : decode cX1_countLinksOut 2 = .ok (.iconst 0, 1) := by decide +kernel
theorem dX1_countLinksOut_3 : decode cX1_countLinksOut 3 = .ok (.istore_n 2, 1) := by decide +kernel
theorem dX1_countLinksOut_4 : decode cX1_countLinksOut 4 = .ok (.iload_n 2, 1) := by decide +kernel
theorem dX1_countLinksOut_5 : decode cX1_countLinksOut 5 = .ok (.aload_n 0, 1) := by decide +kernel
theorem dX1_countLinksOut_6 : decode cX1_countLinksOut 6 = .ok (.getfield 45, 3) := by decide +kernel
theorem dX1_countLinksOut_9 : decode cX1_countLinksOut 9 = .ok (.if_icmp .ge 52, 3) := by decide +kernel
theorem dX1_countLinksOut_12 : decode cX1_countLinksOut 12 = .ok (.aload_n 0, 1) := by decide +kernel
theorem dX1_countLinksOut_13 : decode cX1_countLinksOut 13 = .ok (.getfield 17, 3) := by decide +kernel
theorem dX1_countLinksOut_16 : decode cX1_countLinksOut 16 = .ok (.iload_n 2, 1) := by decide +kernel
theorem dX1_countLinksOut_17 : decode cX1_countLinksOut 17 = .ok (.aaload, 1) := by decide +kernel
theorem dX1_countLinksOut_18 : decode cX1_countLinksOut 18 = .ok (.astore_n 3, 1) := by decide +kernel
theorem dX1_countLinksOut_19 : decode cX1_countLinksOut 19 = .ok (.aload_n 3, 1) := by decide +kernel
theorem dX1_countLinksOut_20 : decode cX1_countLinksOut 20 = .ok (.getfield 135, 3) := by decide +kernel
theorem dX1_countLinksOut_23 : decode cX1_countLinksOut 23 = .ok (.ifCond .ne 32, 3) := by decide +kernel
theorem dX1_countLinksOut_26 : decode cX1_countLinksOut 26 = .ok (.iload_n 1, 1) := by decide +kernel
theorem dX1_countLinksOut_27 : decode cX1_countLinksOut 27 = .ok (.aload_n 3, 1) := by decide +kernel
theorem dX1_countLinksOut_28 : decode cX1_countLinksOut 28 = .ok (.getfield 94, 3) := by decide +kernel
theorem dX1_countLinksOut_31 : decode cX1_countLinksOut 31 = .ok (.getfield 112, 3) := by decide +kernel
theorem dX1_countLinksOut_34 : decode cX1_countLinksOut 34 = .ok (.aload_n 3, 1) := by decide +kernel
theorem dX1_countLinksOut_35 : decode cX1_countLinksOut 35 = .ok (.getfield 82, 3) := by decide +kernel
theorem dX1_countLinksOut_38 : decode cX1_countLinksOut 38 = .ok (.ifCond .eq 13, 3) := by decide +kernel
theorem dX1_countLinksOut_41 : decode cX1_countLinksOut 41 = .ok (.aload_n 3, 1) := by decide +kernel
theorem dX1_countLinksOut_42 : decode cX1_countLinksOut 42 = .ok (.getfield 109, 3) := by decide +kernel
theorem dX1_countLinksOut_45 : decode cX1_countLinksOut 45 = .ok (.getfield 112, 3) := by decide +kernel
theorem dX1_countLinksOut_48 : decode cX1_countLinksOut 48 = .ok (.goto 4, 3) := by decide +kernel
theorem dX1_countLinksOut_51 : decode cX1_countLinksOut 51 = .ok (.iconst 0, 1) := by decide +kernel
theorem dX1_countLinksOut_52 : decode cX1_countLinksOut 52 = .ok (.iadd, 1) := by decide +kernel
theorem dX1_countLinksOut_53 : decode cX1_countLinksOut 53 = .ok (.iadd, 1) := by decide +kernel
theorem dX1_countLinksOut_54 : decode cX1_countLinksOut 54 = .ok (.istore_n 1, 1) := by decide +kernel
theorem dX1_countLinksOut_55 : decode cX1_countLinksOut 55 = .ok (.iinc 2 1, 3) := by decide +kernel
theorem dX1_countLinksOut_58 : decode cX1_countLinksOut 58 = .ok (.goto (-54), 3) := by decide +kernel
theorem dX1_countLinksOut_61 : decode cX1_countLinksOut 61 = .ok (.iload_n 1, 1) := by decide +kernel
theorem dX1_countLinksOut_62 : decode cX1_countLinksOut 62 = .ok (.ireturn, 1) := by decide +kernel
set_option maxRecDepth 20000 in
theorem ggX1_save_X6_save : GoodIn wsX1_save wsX6_save := goodIn_r _ [8, 9, 10, 11, 12, 13, 14, 15, 16, 17, 18, 19, 20, 21, 22, 23, 24, 31, 32, 33, 34, 35, 36, 37, 38, 39, 40, 41, 42, 43] (by decide +kernel) (by decide +kernel)
set_option maxRecDepth 20000 in
theorem gX1_save_X6_save : GoodIn wsX1_save (wsV RX1 163 RX6 yX6_save wsX6_save) := goodIn_app (goodIn_of _ (by decide +kernel)) ggX1_save_X6_save
theorem dX1_save_0 : decode cX1_save 0 = .ok (.aload_n 1, 1) := by decide +kernel
theorem dX1_save_1 : decode cX1_save 1 = .ok (.arraylength, 1) := by decide +kernel
theorem dX1_save_2 : decode cX1_save 2 = .ok (.bipush 46, 2) := by decide +kernel
theorem dX1_save_4 : decode cX1_save 4 = .ok (.if_icmp .ge 4, 3) := by decide +kernel
theorem dX1_save_7 : decode cX1_save 7 = .ok (.return_, 1) := by decide +kernel
theorem dX1_save_8 : decode cX1_save 8 = .ok (.aload_n 1, 1) := by decide +kernel
theorem dX1_save_9 : decode cX1_save 9 = .ok (.iconst 0, 1) := by decide +kernel
theorem dX1_save_10 : decode cX1_save 10 = .ok (.aload_n 0, 1) := by decide +kernel
theorem dX1_save_11 : decode cX1_save 11 = .ok (.getfield 56, 3) := by decide +kernel
theorem dX1_save_14 : decode cX1_save 14 = .ok (.iastore, 1) := by decide +kernel
theorem dX1_save_15 : decode cX1_save 15 = .ok (.iconst 0, 1) := by decide +kernel
theorem dX1_save_16 : decode cX1_save 16 = .ok (.istore_n 2, 1) := by decide +kernel
theorem dX1_save_17 : decode cX1_save 17 = .ok (.iload_n 2, 1) := by decide +kernel
theorem dX1_save_18 : decode cX1_save 18 = .ok (.aload_n 0, 1) := by decide +kernel
theorem dX1_save_19 : decode cX1_save 19 = .ok (.getfield 45, 3) := by decide +kernel
theorem dX1_save_22 : decode cX1_save 22 = .ok (.if_icmp .ge 25, 3) := by decide +kernel
theorem dX1_save_25 : decode cX1_save 25 = .ok (.aload_n 0, 1) := by decide +kernel
theorem dX1_save_26 : decode cX1_save 26 = .ok (.getfield 17, 3) := by decide +kernel
theorem dX1_save_29 : decode cX1_save 29 = .ok (.iload_n 2, 1) := by decide +kernel
theorem dX1_save_30 : decode cX1_save 30 = .ok (.aaload, 1) := by decide +kernel
theorem dX1_save_31 : decode cX1_save 31 = .ok (.aload_n 1, 1) := by decide +kernel
theorem dX1_save_32 : decode cX1_save 32 = .ok (.iconst 1, 1) := by decide +kernel
theorem dX1_save_33 : decode cX1_save 33 = .ok (.iload_n 2, 1) := by decide +kernel
theorem dX1_save_34 : decode cX1_save 34 = .ok (.bipush 9, 2) := by decide +kernel
theorem dX1_save_36 : decode cX1_save 36 = .ok (.imul, 1) := by decide +kernel
theorem dX1_save_37 : decode cX1_save 37 = .ok (.iadd, 1) := by decide +kernel
theorem dX1_save_38 : decode cX1_save 38 = .ok (.invokevirtual 163, 3) := by decide +kernel
theorem dX1_save_41 : decode cX1_save 41 = .ok (.iinc 2 1, 3) := by decide +kernel
theorem dX1_save_44 : decode cX1_save 44 = .ok (.goto (-27), 3) := by decide +kernel
theorem dX1_save_47 : decode cX1_save 47 = .ok (.return_, 1) := by decide +kernel
set_option maxRecDepth 20000 in
theorem ggX1_restore_X6_restore : GoodIn wsX1_restore wsX6_restore := goodIn_r _ [8, 9, 10, 11, 12, 13, 14, 15, 16, 17, 18, 19, 20, 21, 22, 23, 24, 25, 32, 33, 34, 35, 36, 37, 38, 39, 40, 41, 42, 43, 44] (by decide +kernel) (by decide +kernel)
set_option maxRecDepth 20000 in
theorem gX1_restore_X6_restore : GoodIn wsX1_restore (wsV RX1 167 RX6 yX6_restore wsX6_restore) := goodIn_app (goodIn_of _ (by decide +kernel)) ggX1_restore_X6_restore
theorem dX1_restore_0 : decode cX1_restore 0 = .ok (.aload_n 1, 1) := by decide +kernel
theorem dX1_restore_1 : decode cX1_restore 1 = .ok (.arraylength, 1) := by decide +kernel
theorem dX1_restore_2 : decode cX1_restore 2 = .ok (.bipush 46, 2) := by decide +kernel
theorem dX1_restore_4 : decode cX1_restore 4 = .ok (.if_icmp .ge 4, 3) := by decide +kernel
theorem dX1_restore_7 : decode cX1_restore 7 = .ok (.return_, 1) := by decide +kernel
theorem dX1_restore_8 : decode cX1_restore 8 = .ok (.aload_n 0, 1) := by decide +kernel
theorem dX1_restore_9 : decode cX1_restore 9 = .ok (.aload_n 1, 1) := by decide +kernel
theorem dX1_restore_10 : decode cX1_restore 10 = .ok (.iconst 0, 1) := by decide +kernel
theorem dX1_restore_11 : decode cX1_restore 11 = .ok (.iaload, 1) := by decide +kernel
theorem dX1_restore_12 : decode cX1_restore 12 = .ok (.putfield 56, 3) := by decide +kernel
theorem dX1_restore_15 : decode cX1_restore 15 = .ok (.iconst 0, 1) := by decide +kernel
theorem dX1_restore_16 : decode cX1_restore 16 = .ok (.istore_n 2, 1) := by decide +kernel
theorem dX1_restore_17 : decode cX1_restore 17 = .ok (.iload_n 2, 1) := by decide +kernel
theorem dX1_restore_18 : decode cX1_restore 18 = .ok (.aload_n 0, 1) := by decide +kernel
theorem dX1_restore_19 : decode cX1_restore 19 = .ok (.getfield 45, 3) := by decide +kernel
theorem dX1_restore_22 : decode cX1_restore 22 = .ok (.if_icmp .ge 25, 3) := by decide +kernel
theorem dX1_restore_25 : decode cX1_restore 25 = .ok (.aload_n 0, 1) := by decide +kernel
theorem dX1_restore_26 : decode cX1_restore 26 = .ok (.getfield 17, 3) := by decide +kernel
theorem dX1_restore_29 : decode cX1_restore 29 = .ok (.iload_n 2, 1) := by decide +kernel
theorem dX1_restore_30 : decode cX1_restore 30 = .ok (.aaload, 1) := by decide +kernel
theorem dX1_restore_31 : decode cX1_restore 31 = .ok (.aload_n 1, 1) := by decide +kernel
theorem dX1_restore_32 : decode cX1_restore 32 = .ok (.iconst 1, 1) := by decide +kernel
theorem dX1_restore_33 : decode cX1_restore 33 = .ok (.iload_n 2, 1) := by decide +kernel
theorem dX1_restore_34 : decode cX1_restore 34 = .ok (.bipush 9, 2) := by decide +kernel
theorem dX1_restore_36 : decode cX1_restore 36 = .ok (.imul, 1) := by decide +kernel
theorem dX1_restore_37 : decode cX1_restore 37 = .ok (.iadd, 1) := by decide +kernel
theorem dX1_restore_38 : decode cX1_restore 38 = .ok (.invokevirtual 167, 3) := by decide +kernel
theorem dX1_restore_41 : decode cX1_restore 41 = .ok (.iinc 2 1, 3) := by decide +kernel
theorem dX1_restore_44 : decode cX1_restore 44 = .ok (.goto (-27), 3) := by decide +kernel
theorem dX1_restore_47 : decode cX1_restore 47 = .ok (.return_, 1) := by decide +kernel
theorem dX2_init_0 : decode cX2_init 0 = .ok (.aload_n 0, 1) := by decide +kernel
theorem dX2_init_1 : decode cX2_init 1 = .ok (.invokespecial 3, 3) := by decide +kernel
theorem dX2_init_4 : decode cX2_init 4 = .ok (.return_, 1) := by decide +kernel
theorem dX2_take_0 : decode cX2_take 0 = .ok (.aload_n 0, 1) := by decide +kernel
theorem dX2_take_1 : decode cX2_take 1 = .ok (.iload_n 1, 1) := by decide +kernel
theorem dX2_take_2 : decode cX2_take 2 = .ok (.putfield 9, 3) := by decide +kernel
theorem dX2_take_5 : decode cX2_take 5 = .ok (.aload_n 0, 1) := by decide +kernel
theorem dX2_take_6 : decode cX2_take 6 = .ok (.iload_n 2, 1) := by decide +kernel
theorem dX2_take_7 : decode cX2_take 7 = .ok (.putfield 15, 3) := by decide +kernel
theorem dX2_take_10 : decode cX2_take 10 = .ok (.aload_n 0, 1) := by decide +kernel
theorem dX2_take_11 : decode cX2_take 11 = .ok (.iload_n 3, 1) := by decide +kernel
theorem dX2_take_12 : decode cX2_take 12 = .ok (.putfield 18, 3) := by decide +kernel
theorem dX2_take_15 : decode cX2_take 15 = .ok (.aload_n 0, 1) := by decide +kernel
theorem dX2_take_16 : decode cX2_take 16 = .ok (.iload 4, 2) := by decide +kernel
theorem dX2_take_18 : decode cX2_take 18 = .ok (.putfield 21, 3) := by decide +kernel
theorem dX2_take_21 : decode cX2_take 21 = .ok (.return_, 1) := by decide +kernel
set_option maxRecDepth 20000 in
theorem ggX2_holds_X2_climb : GoodIn wsX2_holds wsX2_climb := goodIn_r _ [8, 9, 2, 10, 1, 11, 3, 12, 13, 14, 15, 7, 16, 17, 18, 19, 20, 21, 22, 23, 24, 25, 26, 27, 28, 29, 30, 31] (by decide +kernel) (by decide +kernel)
set_option maxRecDepth 20000 in
theorem gX2_holds_X2_climb : GoodIn wsX2_holds (wsV RX2 24 RX2 yX2_climb wsX2_climb) := goodIn_app (goodIn_of _ (by decide +kernel)) ggX2_holds_X2_climb
theorem dX2_holds_0 : decode cX2_holds 0 = .ok (.aload_n 0, 1) := by decide +kernel
theorem dX2_holds_1 : decode cX2_holds 1 = .ok (.getfield 9, 3) := by decide +kernel
theorem dX2_holds_4 : decode cX2_holds 4 = .ok (.ifCond .ne 5, 3) := by decide +kernel
theorem dX2_holds_7 : decode cX2_holds 7 = .ok (.iconst 1, 1) := by decide +kernel
theorem dX2_holds_8 : decode cX2_holds 8 = .ok (.ireturn, 1) := by decide +kernel
theorem dX2_holds_9 : decode cX2_holds 9 = .ok (.aload_n 0, 1) := by decide +kernel
theorem dX2_holds_10 : decode cX2_holds 10 = .ok (.getfield 9, 3) := by decide +kernel
theorem dX2_holds_13 : decode cX2_holds 13 = .ok (.iload_n 1, 1) := by decide +kernel
theorem dX2_holds_14 : decode cX2_holds 14 = .ok (.if_icmp .le 5, 3) := by decide +kernel
theorem dX2_holds_17 : decode cX2_holds 17 = .ok (.iconst 0, 1) := by decide +kernel
theorem dX2_holds_18 : decode cX2_holds 18 = .ok (.ireturn, 1) := by decide +kernel
theorem dX2_holds_19 : decode cX2_holds 19 = .ok (.aload_n 0, 1) := by decide +kernel
theorem dX2_holds_20 : decode cX2_holds 20 = .ok (.iload_n 1, 1) := by decide +kernel
theorem dX2_holds_21 : decode cX2_holds 21 = .ok (.aload_n 0, 1) := by decide +kernel
theorem dX2_holds_22 : decode cX2_holds 22 = .ok (.getfield 9, 3) := by decide +kernel
theorem dX2_holds_25 : decode cX2_holds 25 = .ok (.isub, 1) := by decide +kernel
theorem dX2_holds_26 : decode cX2_holds 26 = .ok (.iconst 3, 1) := by decide +kernel
theorem dX2_holds_27 : decode cX2_holds 27 = .ok (.idiv, 1) := by decide +kernel
theorem dX2_holds_28 : decode cX2_holds 28 = .ok (.invokevirtual 24, 3) := by decide +kernel
theorem dX2_holds_31 : decode cX2_holds 31 = .ok (.aload_n 0, 1) := by decide +kernel
theorem dX2_holds_32 : decode cX2_holds 32 = .ok (.getfield 28, 3) := by decide +kernel
theorem dX2_holds_35 : decode cX2_holds 35 = .ok (.aload_n 0, 1) := by decide +kernel
theorem dX2_holds_36 : decode cX2_holds 36 = .ok (.getfield 21, 3) := by decide +kernel
theorem dX2_holds_39 : decode cX2_holds 39 = .ok (.if_icmp .lt 7, 3) := by decide +kernel
theorem dX2_holds_42 : decode cX2_holds 42 = .ok (.iconst 1, 1) := by decide +kernel
theorem dX2_holds_43 : decode cX2_holds 43 = .ok (.goto 4, 3) := by decide +kernel
theorem dX2_holds_46 : decode cX2_holds 46 = .ok (.iconst 0, 1) := by decide +kernel
theorem dX2_holds_47 : decode cX2_holds 47 = .ok (.ireturn, 1) := by decide +kernel
theorem dX2_holding_0 : decode cX2_holding 0 = .ok (.aload_n 0, 1) := by decide +kernel
theorem dX2_holding_1 : decode cX2_holding 1 = .ok (.getfield 31, 3) := by decide +kernel
theorem dX2_holding_4 : decode cX2_holding 4 = .ok (.ifCond .eq 7, 3) := by decide +kernel
theorem dX2_holding_7 : decode cX2_holding 7 = .ok (.iconst 0, 1) := by decide +kernel
theorem dX2_holding_8 : decode cX2_holding 8 = .ok (.goto 15, 3) := by decide +kernel
theorem dX2_holding_11 : decode cX2_holding 11 = .ok (.iconst 0, 1) := by decide +kernel
theorem dX2_holding_12 : decode cX2_holding 12 = .ok (.iload_n 1, 1) := by decide +kernel
theorem dX2_holding_13 : decode cX2_holding 13 = .ok (.iconst 3, 1) := by decide +kernel
theorem dX2_holding_14 : decode cX2_holding 14 = .ok (.aload_n 0, 1) := by decide +kernel
theorem dX2_holding_15 : decode cX2_holding 15 = .ok (.getfield 35, 3) := by decide +kernel
theorem dX2_holding_18 : decode cX2_holding 18 = .ok (.imul, 1) := by decide +kernel
theorem dX2_holding_19 : decode cX2_holding 19 = .ok (.isub, 1) := by decide +kernel
theorem dX2_holding_20 : decode cX2_holding 20 = .ok (.invokestatic 38, 3) := by decide +kernel
theorem dX2_holding_23 : decode cX2_holding 23 = .ok (.ireturn, 1) := by decide +kernel
set_option maxRecDepth 20000 in
theorem ggX2_findLie_X2_climb : GoodIn wsX2_findLie wsX2_climb := goodIn_r _ [15, 1, 5, 9, 16, 7, 6, 17, 18, 19, 20, 14, 21, 22, 23, 24, 33, 34, 35, 36, 37, 38, 39, 40, 41, 42, 43, 44] (by decide +kernel) (by decide +kernel)
set_option maxRecDepth 20000 in
theorem gX2_findLie_X2_climb : GoodIn wsX2_findLie (wsV RX2 24 RX2 yX2_climb wsX2_climb) := goodIn_app (goodIn_of _ (by decide +kernel)) ggX2_findLie_X2_climb
set_option maxRecDepth 20000 in
theorem ggX2_findLie_X2_findLift : GoodIn wsX2_findLie wsX2_findLift := goodIn_r _ [28, 5, 6, 4, 29, 30, 31, 32, 3, 11, 12, 13, 14, 15, 1, 9, 16, 7, 17, 18, 19, 20, 21, 22, 23, 24, 33, 34, 35, 36, 37, 38, 39, 40, 41, 42, 43, 44] (by decide +kernel) (by decide +kernel)
set_option maxRecDepth 20000 in
theorem gX2_findLie_X2_findLift : GoodIn wsX2_findLie (wsV RX2 50 RX2 yX2_findLift wsX2_findLift) := goodIn_app (goodIn_of _ (by decide +kernel)) ggX2_findLie_X2_findLift
theorem dX2_findLie_0 : decode cX2_findLie 0 = .ok (.aload_n 0, 1) := by decide +kernel
theorem dX2_findLie_1 : decode cX2_findLie 1 = .ok (.iconst 0, 1) := by decide +kernel
theorem dX2_findLie_2 : decode cX2_findLie 2 = .ok (.invokevirtual 24, 3) := by decide +kernel
theorem dX2_findLie_5 : decode cX2_findLie 5 = .ok (.aload_n 0, 1) := by decide +kernel
theorem dX2_findLie_6 : decode cX2_findLie 6 = .ok (.aload_n 0, 1) := by decide +kernel
theorem dX2_findLie_7 : decode cX2_findLie 7 = .ok (.getfield 44, 3) := by decide +kernel
theorem dX2_findLie_10 : decode cX2_findLie 10 = .ok (.putfield 47, 3) := by decide +kernel
theorem dX2_findLie_13 : decode cX2_findLie 13 = .ok (.aload_n 0, 1) := by decide +kernel
theorem dX2_findLie_14 : decode cX2_findLie 14 = .ok (.iconst 0, 1) := by decide +kernel
theorem dX2_findLie_15 : decode cX2_findLie 15 = .ok (.putfield 35, 3) := by decide +kernel
theorem dX2_findLie_18 : decode cX2_findLie 18 = .ok (.aload_n 0, 1) := by decide +kernel
theorem dX2_findLie_19 : decode cX2_findLie 19 = .ok (.iconst 0, 1) := by decide +kernel
theorem dX2_findLie_20 : decode cX2_findLie 20 = .ok (.putfield 31, 3) := by decide +kernel
theorem dX2_findLie_23 : decode cX2_findLie 23 = .ok (.aload_n 0, 1) := by decide +kernel
theorem dX2_findLie_24 : decode cX2_findLie 24 = .ok (.getfield 28, 3) := by decide +kernel
theorem dX2_findLie_27 : decode cX2_findLie 27 = .ok (.aload_n 0, 1) := by decide +kernel
theorem dX2_findLie_28 : decode cX2_findLie 28 = .ok (.getfield 21, 3) := by decide +kernel
theorem dX2_findLie_31 : decode cX2_findLie 31 = .ok (.if_icmp .ge 7, 3) := by decide +kernel
theorem dX2_findLie_34 : decode cX2_findLie 34 = .ok (.aload_n 0, 1) := by decide +kernel
theorem dX2_findLie_35 : decode cX2_findLie 35 = .ok (.invokevirtual 50, 3) := by decide +kernel
theorem dX2_findLie_38 : decode cX2_findLie 38 = .ok (.aload_n 0, 1) := by decide +kernel
theorem dX2_findLie_39 : decode cX2_findLie 39 = .ok (.aload_n 0, 1) := by decide +kernel
theorem dX2_findLie_40 : decode cX2_findLie 40 = .ok (.getfield 18, 3) := by decide +kernel
theorem dX2_findLie_43 : decode cX2_findLie 43 = .ok (.aload_n 0, 1) := by decide +kernel
theorem dX2_findLie_44 : decode cX2_findLie 44 = .ok (.getfield 47, 3) := by decide +kernel
theorem dX2_findLie_47 : decode cX2_findLie 47 = .ok (.isub, 1) := by decide +kernel
theorem dX2_findLie_48 : decode cX2_findLie 48 = .ok (.putfield 53, 3) := by decide +kernel
theorem dX2_findLie_51 : decode cX2_findLie 51 = .ok (.aload_n 0, 1) := by decide +kernel
theorem dX2_findLie_52 : decode cX2_findLie 52 = .ok (.aload_n 0, 1) := by decide +kernel
theorem dX2_findLie_53 : decode cX2_findLie 53 = .ok (.getfield 31, 3) := by decide +kernel
theorem dX2_findLie_56 : decode cX2_findLie 56 = .ok (.ifCond .eq 7, 3) := by decide +kernel
theorem dX2_findLie_59 : decode cX2_findLie 59 = .ok (.iconst 0, 1) := by decide +kernel
theorem dX2_findLie_60 : decode cX2_findLie 60 = .ok (.goto 15, 3) := by decide +kernel
theorem dX2_findLie_63 : decode cX2_findLie 63 = .ok (.bipush 10, 2) := by decide +kernel
theorem dX2_findLie_65 : decode cX2_findLie 65 = .ok (.aload_n 0, 1) := by decide +kernel
theorem dX2_findLie_66 : decode cX2_findLie 66 = .ok (.getfield 53, 3) := by decide +kernel
theorem dX2_findLie_69 : decode cX2_findLie 69 = .ok (.imul, 1) := by decide +kernel
theorem dX2_findLie_70 : decode cX2_findLie 70 = .ok (.aload_n 0, 1) := by decide +kernel
theorem dX2_findLie_71 : decode cX2_findLie 71 = .ok (.getfield 56, 3) := by decide +kernel
theorem dX2_findLie_74 : decode cX2_findLie 74 = .ok (.iadd, 1) := by decide +kernel
theorem dX2_findLie_75 : decode cX2_findLie 75 = .ok (.putfield 59, 3) := by decide +kernel
theorem dX2_findLie_78 : decode cX2_findLie 78 = .ok (.return_, 1) := by decide +kernel
set_option maxRecDepth 20000 in
theorem ggX2_findLift_X2_climb : GoodIn wsX2_findLift wsX2_climb := goodIn_r _ [13, 14, 1, 15, 16, 17, 2, 18, 19, 20, 21, 12, 22, 23, 24, 25, 26, 27, 28, 29, 30, 31, 32, 33, 34, 35, 36, 37] (by decide +kernel) (by decide +kernel)
set_option maxRecDepth 20000 in
theorem gX2_findLift_X2_climb : GoodIn wsX2_findLift (wsV RX2 24 RX2 yX2_climb wsX2_climb) := goodIn_app (goodIn_of _ (by decide +kernel)) ggX2_findLift_X2_climb
theorem dX2_findLift_0 : decode cX2_findLift 0 = .ok (.iconst 0, 1) := by decide +kernel
theorem dX2_findLift_1 : decode cX2_findLift 1 = .ok (.istore_n 1, 1) := by decide +kernel
theorem dX2_findLift_2 : decode cX2_findLift 2 = .ok (.sipush 512, 3) := by decide +kernel
theorem dX2_findLift_5 : decode cX2_findLift 5 = .ok (.istore_n 2, 1) := by decide +kernel
theorem dX2_findLift_6 : decode cX2_findLift 6 = .ok (.iload_n 2, 1) := by decide +kernel
theorem dX2_findLift_7 : decode cX2_findLift 7 = .ok (.ifCond .le 43, 3) := by decide +kernel
theorem dX2_findLift_10 : decode cX2_findLift 10 = .ok (.iload_n 1, 1) := by decide +kernel
theorem dX2_findLift_11 : decode cX2_findLift 11 = .ok (.iload_n 2, 1) := by decide +kernel
theorem dX2_findLift_12 : decode cX2_findLift 12 = .ok (.iadd, 1) := by decide +kernel
theorem dX2_findLift_13 : decode cX2_findLift 13 = .ok (.istore_n 3, 1) := by decide +kernel
theorem dX2_findLift_14 : decode cX2_findLift 14 = .ok (.iload_n 3, 1) := by decide +kernel
theorem dX2_findLift_15 : decode cX2_findLift 15 = .ok (.sipush 999, 3) := by decide +kernel
theorem dX2_findLift_18 : decode cX2_findLift 18 = .ok (.if_icmp .gt 25, 3) := by decide +kernel
theorem dX2_findLift_21 : decode cX2_findLift 21 = .ok (.aload_n 0, 1) := by decide +kernel
theorem dX2_findLift_22 : decode cX2_findLift 22 = .ok (.iload_n 3, 1) := by decide +kernel
theorem dX2_findLift_23 : decode cX2_findLift 23 = .ok (.invokevirtual 24, 3) := by decide +kernel
theorem dX2_findLift_26 : decode cX2_findLift 26 = .ok (.aload_n 0, 1) := by decide +kernel
theorem dX2_findLift_27 : decode cX2_findLift 27 = .ok (.getfield 28, 3) := by decide +kernel
theorem dX2_findLift_30 : decode cX2_findLift 30 = .ok (.aload_n 0, 1) := by decide +kernel
theorem dX2_findLift_31 : decode cX2_findLift 31 = .ok (.getfield 21, 3) := by decide +kernel
theorem dX2_findLift_34 : decode cX2_findLift 34 = .ok (.if_icmp .ge 7, 3) := by decide +kernel
theorem dX2_findLift_37 : decode cX2_findLift 37 = .ok (.iload_n 3, 1) := by decide +kernel
theorem dX2_findLift_38 : decode cX2_findLift 38 = .ok (.goto 4, 3) := by decide +kernel
theorem dX2_findLift_41 : decode cX2_findLift 41 = .ok (.iload_n 1, 1) := by decide +kernel
theorem dX2_findLift_42 : decode cX2_findLift 42 = .ok (.istore_n 1, 1) := by decide +kernel
theorem dX2_findLift_43 : decode cX2_findLift 43 = .ok (.iload_n 2, 1) := by decide +kernel
theorem dX2_findLift_44 : decode cX2_findLift 44 = .ok (.iconst 1, 1) := by decide +kernel
theorem dX2_findLift_45 : decode cX2_findLift 45 = .ok (.ishr, 1) := by decide +kernel
theorem dX2_findLift_46 : decode cX2_findLift 46 = .ok (.istore_n 2, 1) := by decide +kernel
theorem dX2_findLift_47 : decode cX2_findLift 47 = .ok (.goto (-41), 3) := by decide +kernel
theorem dX2_findLift_50 : decode cX2_findLift 50 = .ok (.aload_n 0, 1) := by decide +kernel
theorem dX2_findLift_51 : decode cX2_findLift 51 = .ok (.iload_n 1, 1) := by decide +kernel
theorem dX2_findLift_52 : decode cX2_findLift 52 = .ok (.sipush 999, 3) := by decide +kernel
theorem dX2_findLift_55 : decode cX2_findLift 55 = .ok (.if_icmp .ne 7, 3) := by decide +kernel
theorem dX2_findLift_58 : decode cX2_findLift 58 = .ok (.iconst 1, 1) := by decide +kernel
theorem dX2_findLift_59 : decode cX2_findLift 59 = .ok (.goto 4, 3) := by decide +kernel
theorem dX2_findLift_62 : decode cX2_findLift 62 = .ok (.iconst 0, 1) := by decide +kernel
theorem dX2_findLift_63 : decode cX2_findLift 63 = .ok (.putfield 31, 3) := by decide +kernel
theorem dX2_findLift_66 : decode cX2_findLift 66 = .ok (.aload_n 0, 1) := by decide +kernel
theorem dX2_findLift_67 : decode cX2_findLift 67 = .ok (.iload_n 1, 1) := by decide +kernel
theorem dX2_findLift_68 : decode cX2_findLift 68 = .ok (.iconst 1, 1) := by decide +kernel
theorem dX2_findLift_69 : decode cX2_findLift 69 = .ok (.iadd, 1) := by decide +kernel
theorem dX2_findLift_70 : decode cX2_findLift 70 = .ok (.sipush 999, 3) := by decide +kernel
theorem dX2_findLift_73 : decode cX2_findLift 73 = .ok (.invokestatic 62, 3) := by decide +kernel
theorem dX2_findLift_76 : decode cX2_findLift 76 = .ok (.putfield 35, 3) := by decide +kernel
theorem dX2_findLift_79 : decode cX2_findLift 79 = .ok (.aload_n 0, 1) := by decide +kernel
theorem dX2_findLift_80 : decode cX2_findLift 80 = .ok (.aload_n 0, 1) := by decide +kernel
theorem dX2_findLift_81 : decode cX2_findLift 81 = .ok (.getfield 35, 3) := by decide +kernel
theorem dX2_findLift_84 : decode cX2_findLift 84 = .ok (.invokevirtual 24, 3) := by decide +kernel
theorem dX2_findLift_87 : decode cX2_findLift 87 = .ok (.return_, 1) := by decide +kernel
set_option maxRecDepth 20000 in
theorem ggX2_climb_X2_root : GoodIn wsX2_climb wsX2_root := goodIn_r _ [12] (by decide +kernel) (by decide +kernel)
set_option maxRecDepth 20000 in
theorem gX2_climb_X2_root : GoodIn wsX2_climb (va_wsS RX2 65 yX2_root wsX2_root) := goodIn_app (goodIn_of _ (by decide +kernel)) ggX2_climb_X2_root
set_option maxRecDepth 20000 in
theorem ggX2_climb_X2_rootFrom : GoodIn wsX2_climb wsX2_rootFrom := goodIn_r _ [15] (by decide +kernel) (by decide +kernel)
set_option maxRecDepth 20000 in
theorem gX2_climb_X2_rootFrom : GoodIn wsX2_climb (va_wsS RX2 69 yX2_rootFrom wsX2_rootFrom) := goodIn_app (goodIn_of _ (by decide +kernel)) ggX2_climb_X2_rootFrom
theorem dX2_climb_0 : decode cX2_climb 0 = .ok (.aload_n 0, 1) := by decide +kernel
theorem dX2_climb_1 : decode cX2_climb 1 = .ok (.iconst 0, 1) := by decide +kernel
theorem dX2_climb_2 : decode cX2_climb 2 = .ok (.putfield 44, 3) := by decide +kernel
theorem dX2_climb_5 : decode cX2_climb 5 = .ok (.aload_n 0, 1) := by decide +kernel
theorem dX2_climb_6 : decode cX2_climb 6 = .ok (.iconst 0, 1) := by decide +kernel
theorem dX2_climb_7 : decode cX2_climb 7 = .ok (.putfield 28, 3) := by decide +kernel
theorem dX2_climb_10 : decode cX2_climb 10 = .ok (.aload_n 0, 1) := by decide +kernel
theorem dX2_climb_11 : decode cX2_climb 11 = .ok (.iconst 0, 1) := by decide +kernel
theorem dX2_climb_12 : decode cX2_climb 12 = .ok (.putfield 56, 3) := by decide +kernel
theorem dX2_climb_15 : decode cX2_climb 15 = .ok (.iload_n 1, 1) := by decide +kernel
theorem dX2_climb_16 : decode cX2_climb 16 = .ok (.istore_n 2, 1) := by decide +kernel
theorem dX2_climb_17 : decode cX2_climb 17 = .ok (.aload_n 0, 1) := by decide +kernel
theorem dX2_climb_18 : decode cX2_climb 18 = .ok (.getfield 9, 3) := by decide +kernel
theorem dX2_climb_21 : decode cX2_climb 21 = .ok (.aload_n 0, 1) := by decide +kernel
theorem dX2_climb_22 : decode cX2_climb 22 = .ok (.getfield 9, 3) := by decide +kernel
theorem dX2_climb_25 : decode cX2_climb 25 = .ok (.imul, 1) := by decide +kernel
theorem dX2_climb_26 : decode cX2_climb 26 = .ok (.iload_n 2, 1) := by decide +kernel
theorem dX2_climb_27 : decode cX2_climb 27 = .ok (.iload_n 2, 1) := by decide +kernel
theorem dX2_climb_28 : decode cX2_climb 28 = .ok (.imul, 1) := by decide +kernel
theorem dX2_climb_29 : decode cX2_climb 29 = .ok (.iadd, 1) := by decide +kernel
theorem dX2_climb_30 : decode cX2_climb 30 = .ok (.invokestatic 65, 3) := by decide +kernel
theorem dX2_climb_33 : decode cX2_climb 33 = .ok (.istore_n 3, 1) := by decide +kernel
theorem dX2_climb_34 : decode cX2_climb 34 = .ok (.aload_n 0, 1) := by decide +kernel
theorem dX2_climb_35 : decode cX2_climb 35 = .ok (.getfield 44, 3) := by decide +kernel
theorem dX2_climb_38 : decode cX2_climb 38 = .ok (.aload_n 0, 1) := by decide +kernel
theorem dX2_climb_39 : decode cX2_climb 39 = .ok (.getfield 18, 3) := by decide +kernel
theorem dX2_climb_42 : decode cX2_climb 42 = .ok (.if_icmp .ge 116, 3) := by decide +kernel
theorem dX2_climb_45 : decode cX2_climb 45 = .ok (.aload_n 0, 1) := by decide +kernel
theorem dX2_climb_46 : decode cX2_climb 46 = .ok (.getfield 28, 3) := by decide +kernel
theorem dX2_climb_49 : decode cX2_climb 49 = .ok (.aload_n 0, 1) := by decide +kernel
theorem dX2_climb_50 : decode cX2_climb 50 = .ok (.getfield 21, 3) := by decide +kernel
theorem dX2_climb_53 : decode cX2_climb 53 = .ok (.if_icmp .ge 105, 3) := by decide +kernel
theorem dX2_climb_56 : decode cX2_climb 56 = .ok (.aload_n 0, 1) := by decide +kernel
theorem dX2_climb_57 : decode cX2_climb 57 = .ok (.dup, 1) := by decide +kernel
theorem dX2_climb_58 : decode cX2_climb 58 = .ok (.getfield 44, 3) := by decide +kernel
theorem dX2_climb_61 : decode cX2_climb 61 = .ok (.iconst 1, 1) := by decide +kernel
theorem dX2_climb_62 : decode cX2_climb 62 = .ok (.iadd, 1) := by decide +kernel
theorem dX2_climb_63 : decode cX2_climb 63 = .ok (.putfield 44, 3) := by decide +kernel
theorem dX2_climb_66 : decode cX2_climb 66 = .ok (.iload_n 2, 1) := by decide +kernel
theorem dX2_climb_67 : decode cX2_climb 67 = .ok (.aload_n 0, 1) := by decide +kernel
theorem dX2_climb_68 : decode cX2_climb 68 = .ok (.getfield 15, 3) := by decide +kernel
theorem dX2_climb_71 : decode cX2_climb 71 = .ok (.iadd, 1) := by decide +kernel
theorem dX2_climb_72 : decode cX2_climb 72 = .ok (.istore_n 2, 1) := by decide +kernel
theorem dX2_climb_73 : decode cX2_climb 73 = .ok (.iload_n 3, 1) := by decide +kernel
theorem dX2_climb_74 : decode cX2_climb 74 = .ok (.aload_n 0, 1) := by decide +kernel
theorem dX2_climb_75 : decode cX2_climb 75 = .ok (.getfield 15, 3) := by decide +kernel
theorem dX2_climb_78 : decode cX2_climb 78 = .ok (.aload_n 0, 1) := by decide +kernel
theorem dX2_climb_79 : decode cX2_climb 79 = .ok (.getfield 9, 3) := by decide +kernel
theorem dX2_climb_82 : decode cX2_climb 82 = .ok (.aload_n 0, 1) := by decide +kernel
theorem dX2_climb_83 : decode cX2_climb 83 = .ok (.getfield 9, 3) := by decide +kernel
theorem dX2_climb_86 : decode cX2_climb 86 = .ok (.imul, 1) := by decide +kernel
theorem dX2_climb_87 : decode cX2_climb 87 = .ok (.iload_n 2, 1) := by decide +kernel
theorem dX2_climb_88 : decode cX2_climb 88 = .ok (.iload_n 2, 1) := by decide +kernel
theorem dX2_climb_89 : decode cX2_climb 89 = .ok (.imul, 1) := by decide +kernel
theorem dX2_climb_90 : decode cX2_climb 90 = .ok (.iadd, 1) := by decide +kernel
theorem dX2_climb_91 : decode cX2_climb 91 = .ok (.invokestatic 69, 3) := by decide +kernel
theorem dX2_climb_94 : decode cX2_climb 94 = .ok (.istore_n 3, 1) := by decide +kernel
theorem dX2_climb_95 : decode cX2_climb 95 = .ok (.iload_n 3, 1) := by decide +kernel
theorem dX2_climb_96 : decode cX2_climb 96 = .ok (.ifCond .ne 7, 3) := by decide +kernel
theorem dX2_climb_99 : decode cX2_climb 99 = .ok (.iconst 0, 1) := by decide +kernel
theorem dX2_climb_100 : decode cX2_climb 100 = .ok (.goto 9, 3) := by decide +kernel
theorem dX2_climb_103 : decode cX2_climb 103 = .ok (.bipush 10, 2) := by decide +kernel
theorem dX2_climb_105 : decode cX2_climb 105 = .ok (.iload_n 2, 1) := by decide +kernel
theorem dX2_climb_106 : decode cX2_climb 106 = .ok (.imul, 1) := by decide +kernel
theorem dX2_climb_107 : decode cX2_climb 107 = .ok (.iload_n 3, 1) := by decide +kernel
theorem dX2_climb_108 : decode cX2_climb 108 = .ok (.idiv, 1) := by decide +kernel
theorem dX2_climb_109 : decode cX2_climb 109 = .ok (.istore 4, 2) := by decide +kernel
theorem dX2_climb_111 : decode cX2_climb 111 = .ok (.aload_n 0, 1) := by decide +kernel
theorem dX2_climb_112 : decode cX2_climb 112 = .ok (.dup, 1) := by decide +kernel
theorem dX2_climb_113 : decode cX2_climb 113 = .ok (.getfield 28, 3) := by decide +kernel
theorem dX2_climb_116 : decode cX2_climb 116 = .ok (.iload 4, 2) := by decide +kernel
theorem dX2_climb_118 : decode cX2_climb 118 = .ok (.iadd, 1) := by decide +kernel
theorem dX2_climb_119 : decode cX2_climb 119 = .ok (.putfield 28, 3) := by decide +kernel
theorem dX2_climb_122 : decode cX2_climb 122 = .ok (.aload_n 0, 1) := by decide +kernel
theorem dX2_climb_123 : decode cX2_climb 123 = .ok (.dup, 1) := by decide +kernel
theorem dX2_climb_124 : decode cX2_climb 124 = .ok (.getfield 56, 3) := by decide +kernel
theorem dX2_climb_127 : decode cX2_climb 127 = .ok (.iload 4, 2) := by decide +kernel
theorem dX2_climb_129 : decode cX2_climb 129 = .ok (.ifCond .lt 21, 3) := by decide +kernel
theorem dX2_climb_132 : decode cX2_climb 132 = .ok (.iload 4, 2) := by decide +kernel
theorem dX2_climb_134 : decode cX2_climb 134 = .ok (.getstatic 73, 3) := by decide +kernel
theorem dX2_climb_137 : decode cX2_climb 137 = .ok (.arraylength, 1) := by decide +kernel
theorem dX2_climb_138 : decode cX2_climb 138 = .ok (.if_icmp .ge 12, 3) := by decide +kernel
theorem dX2_climb_141 : decode cX2_climb 141 = .ok (.getstatic 73, 3) := by decide +kernel
theorem dX2_climb_144 : decode cX2_climb 144 = .ok (.iload 4, 2) := by decide +kernel
theorem dX2_climb_146 : decode cX2_climb 146 = .ok (.iaload, 1) := by decide +kernel
theorem dX2_climb_147 : decode cX2_climb 147 = .ok (.goto 4, 3) := by decide +kernel
theorem dX2_climb_150 : decode cX2_climb 150 = .ok (.iconst 0, 1) := by decide +kernel
theorem dX2_climb_151 : decode cX2_climb 151 = .ok (.iadd, 1) := by decide +kernel
theorem dX2_climb_152 : decode cX2_climb 152 = .ok (.putfield 56, 3) := by decide +kernel
theorem dX2_climb_155 : decode cX2_climb 155 = .ok (.goto (-121), 3) := by decide +kernel
theorem dX2_climb_158 : decode cX2_climb 158 = .ok (.return_, 1) := by decide +kernel
theorem dX2_root_0 : decode cX2_root 0 = .ok (.iconst 0, 1) := by decide +kernel
theorem dX2_root_1 : decode cX2_root 1 = .ok (.istore_n 1, 1) := by decide +kernel
theorem dX2_root_2 : decode cX2_root 2 = .ok (.sipush 8192, 3) := by decide +kernel
theorem dX2_root_5 : decode cX2_root 5 = .ok (.istore_n 2, 1) := by decide +kernel
theorem dX2_root_6 : decode cX2_root 6 = .ok (.iload_n 2, 1) := by decide +kernel
theorem dX2_root_7 : decode cX2_root 7 = .ok (.ifCond .le 23, 3) := by decide +kernel
theorem dX2_root_10 : decode cX2_root 10 = .ok (.iload_n 1, 1) := by decide +kernel
theorem dX2_root_11 : decode cX2_root 11 = .ok (.iload_n 2, 1) := by decide +kernel
theorem dX2_root_12 : decode cX2_root 12 = .ok (.iadd, 1) := by decide +kernel
theorem dX2_root_13 : decode cX2_root 13 = .ok (.istore_n 3, 1) := by decide +kernel
theorem dX2_root_14 : decode cX2_root 14 = .ok (.iload_n 3, 1) := by decide +kernel
theorem dX2_root_15 : decode cX2_root 15 = .ok (.iload_n 3, 1) := by decide +kernel
theorem dX2_root_16 : decode cX2_root 16 = .ok (.imul, 1) := by decide +kernel
theorem dX2_root_17 : decode cX2_root 17 = .ok (.iload_n 0, 1) := by decide +kernel
theorem dX2_root_18 : decode cX2_root 18 = .ok (.if_icmp .gt 5, 3) := by decide +kernel
theorem dX2_root_21 : decode cX2_root 21 = .ok (.iload_n 3, 1) := by decide +kernel
theorem dX2_root_22 : decode cX2_root 22 = .ok (.istore_n 1, 1) := by decide +kernel
theorem dX2_root_23 : decode cX2_root 23 = .ok (.iload_n 2, 1) := by decide +kernel
theorem dX2_root_24 : decode cX2_root 24 = .ok (.iconst 1, 1) := by decide +kernel
theorem dX2_root_25 : decode cX2_root 25 = .ok (.ishr, 1) := by decide +kernel
theorem dX2_root_26 : decode cX2_root 26 = .ok (.istore_n 2, 1) := by decide +kernel
theorem dX2_root_27 : decode cX2_root 27 = .ok (.goto (-21), 3) := by decide +kernel
theorem dX2_root_30 : decode cX2_root 30 = .ok (.iload_n 1, 1) := by decide +kernel
theorem dX2_root_31 : decode cX2_root 31 = .ok (.ireturn, 1) := by decide +kernel
theorem dX2_rootFrom_0 : decode cX2_rootFrom 0 = .ok (.iload_n 0, 1) := by decide +kernel
theorem dX2_rootFrom_1 : decode cX2_rootFrom 1 = .ok (.istore_n 3, 1) := by decide +kernel
theorem dX2_rootFrom_2 : decode cX2_rootFrom 2 = .ok (.iconst 0, 1) := by decide +kernel
theorem dX2_rootFrom_3 : decode cX2_rootFrom 3 = .ok (.istore 4, 2) := by decide +kernel
theorem dX2_rootFrom_5 : decode cX2_rootFrom 5 = .ok (.iload 4, 2) := by decide +kernel
theorem dX2_rootFrom_7 : decode cX2_rootFrom 7 = .ok (.iload_n 1, 1) := by decide +kernel
theorem dX2_rootFrom_8 : decode cX2_rootFrom 8 = .ok (.if_icmp .ge 23, 3) := by decide +kernel
theorem dX2_rootFrom_11 : decode cX2_rootFrom 11 = .ok (.iload_n 3, 1) := by decide +kernel
theorem dX2_rootFrom_12 : decode cX2_rootFrom 12 = .ok (.iconst 1, 1) := by decide +kernel
theorem dX2_rootFrom_13 : decode cX2_rootFrom 13 = .ok (.iadd, 1) := by decide +kernel
theorem dX2_rootFrom_14 : decode cX2_rootFrom 14 = .ok (.iload_n 3, 1) := by decide +kernel
theorem dX2_rootFrom_15 : decode cX2_rootFrom 15 = .ok (.iconst 1, 1) := by decide +kernel
theorem dX2_rootFrom_16 : decode cX2_rootFrom 16 = .ok (.iadd, 1) := by decide +kernel
theorem dX2_rootFrom_17 : decode cX2_rootFrom 17 = .ok (.imul, 1) := by decide +kernel
theorem dX2_rootFrom_18 : decode cX2_rootFrom 18 = .ok (.iload_n 2, 1) := by decide +kernel
theorem dX2_rootFrom_19 : decode cX2_rootFrom 19 = .ok (.if_icmp .gt 12, 3) := by decide +kernel
theorem dX2_rootFrom_22 : decode cX2_rootFrom 22 = .ok (.iinc 3 1, 3) := by decide +kernel
theorem dX2_rootFrom_25 : decode cX2_rootFrom 25 = .ok (.iinc 4 1, 3) := by decide +kernel
theorem dX2_rootFrom_28 : decode cX2_rootFrom 28 = .ok (.goto (-23), 3) := by decide +kernel
theorem dX2_rootFrom_31 : decode cX2_rootFrom 31 = .ok (.iload_n 3, 1) := by decide +kernel
theorem dX2_rootFrom_32 : decode cX2_rootFrom 32 = .ok (.ireturn, 1) := by decide +kernel
theorem dX3_init_0 : decode cX3_init 0 = .ok (.aload_n 0, 1) := by decide +kernel
theorem dX3_init_1 : decode cX3_init 1 = .ok (.invokespecial 3, 3) := by decide +kernel
theorem dX3_init_4 : decode cX3_init 4 = .ok (.aload_n 0, 1) := by decide +kernel
theorem dX3_init_5 : decode cX3_init 5 = .ok (.sipush 200, 3) := by decide +kernel
theorem dX3_init_8 : decode cX3_init 8 = .ok (.newarray .char, 2) := by decide +kernel
theorem dX3_init_10 : decode cX3_init 10 = .ok (.putfield 9, 3) := by decide +kernel
theorem dX3_init_13 : decode cX3_init 13 = .ok (.return_, 1) := by decide +kernel
theorem dX3_append_0 : decode cX3_append 0 = .ok (.aload_n 0, 1) := by decide +kernel
theorem dX3_append_1 : decode cX3_append 1 = .ok (.getfield 15, 3) := by decide +kernel
theorem dX3_append_4 : decode cX3_append 4 = .ok (.aload_n 0, 1) := by decide +kernel
theorem dX3_append_5 : decode cX3_append 5 = .ok (.getfield 9, 3) := by decide +kernel
theorem dX3_append_8 : decode cX3_append 8 = .ok (.arraylength, 1) := by decide +kernel
theorem dX3_append_9 : decode cX3_append 9 = .ok (.if_icmp .lt 5, 3) := by decide +kernel
theorem dX3_append_12 : decode cX3_append 12 = .ok (.iconst 0, 1) := by decide +kernel
theorem dX3_append_13 : decode cX3_append 13 = .ok (.ireturn, 1) := by decide +kernel
theorem dX3_append_14 : decode cX3_append 14 = .ok (.aload_n 0, 1) := by decide +kernel
theorem dX3_append_15 : decode cX3_append 15 = .ok (.getfield 9, 3) := by decide +kernel
theorem dX3_append_18 : decode cX3_append 18 = .ok (.aload_n 0, 1) := by decide +kernel
theorem dX3_append_19 : decode cX3_append 19 = .ok (.getfield 15, 3) := by decide +kernel
theorem dX3_append_22 : decode cX3_append 22 = .ok (.iload_n 1, 1) := by decide +kernel
theorem dX3_append_23 : decode cX3_append 23 = .ok (.castore, 1) := by decide +kernel
theorem dX3_append_24 : decode cX3_append 24 = .ok (.aload_n 0, 1) := by decide +kernel
theorem dX3_append_25 : decode cX3_append 25 = .ok (.dup, 1) := by decide +kernel
theorem dX3_append_26 : decode cX3_append 26 = .ok (.getfield 15, 3) := by decide +kernel
theorem dX3_append_29 : decode cX3_append 29 = .ok (.iconst 1, 1) := by decide +kernel
theorem dX3_append_30 : decode cX3_append 30 = .ok (.iadd, 1) := by decide +kernel
theorem dX3_append_31 : decode cX3_append 31 = .ok (.putfield 15, 3) := by decide +kernel
theorem dX3_append_34 : decode cX3_append 34 = .ok (.iconst 1, 1) := by decide +kernel
theorem dX3_append_35 : decode cX3_append 35 = .ok (.ireturn, 1) := by decide +kernel
theorem dX3_clear_0 : decode cX3_clear 0 = .ok (.aload_n 0, 1) := by decide +kernel
theorem dX3_clear_1 : decode cX3_clear 1 = .ok (.iconst 0, 1) := by decide +kernel
theorem dX3_clear_2 : decode cX3_clear 2 = .ok (.putfield 15, 3) := by decide +kernel
theorem dX3_clear_5 : decode cX3_clear 5 = .ok (.return_, 1) := by decide +kernel
theorem dX3_letterAt_0 : decode cX3_letterAt 0 = .ok (.iload_n 1, 1) := by decide +kernel
theorem dX3_letterAt_1 : decode cX3_letterAt 1 = .ok (.ifCond .lt 29, 3) := by decide +kernel
theorem dX3_letterAt_4 : decode cX3_letterAt 4 = .ok (.iload_n 1, 1) := by decide +kernel
theorem dX3_letterAt_5 : decode cX3_letterAt 5 = .ok (.aload_n 0, 1) := by decide +kernel
theorem dX3_letterAt_6 : decode cX3_letterAt 6 = .ok (.getfield 15, 3) := by decide +kernel
theorem dX3_letterAt_9 : decode cX3_letterAt 9 = .ok (.if_icmp .ge 21, 3) := by decide +kernel
theorem dX3_letterAt_12 : decode cX3_letterAt 12 = .ok (.iload_n 1, 1) := by decide +kernel
theorem dX3_letterAt_13 : decode cX3_letterAt 13 = .ok (.aload_n 0, 1) := by decide +kernel
theorem dX3_letterAt_14 : decode cX3_letterAt 14 = .ok (.getfield 9, 3) := by decide +kernel
theorem dX3_letterAt_17 : decode cX3_letterAt 17 = .ok (.arraylength, 1) := by decide +kernel
theorem dX3_letterAt_18 : decode cX3_letterAt 18 = .ok (.if_icmp .ge 12, 3) := by decide +kernel
theorem dX3_letterAt_21 : decode cX3_letterAt 21 = .ok (.aload_n 0, 1) := by decide +kernel
theorem dX3_letterAt_22 : decode cX3_letterAt 22 = .ok (.getfield 9, 3) := by decide +kernel
theorem dX3_letterAt_25 : decode cX3_letterAt 25 = .ok (.iload_n 1, 1) := by decide +kernel
theorem dX3_letterAt_26 : decode cX3_letterAt 26 = .ok (.caload, 1) := by decide +kernel
theorem dX3_letterAt_27 : decode cX3_letterAt 27 = .ok (.goto 4, 3) := by decide +kernel
theorem dX3_letterAt_30 : decode cX3_letterAt 30 = .ok (.iconst 0, 1) := by decide +kernel
theorem dX3_letterAt_31 : decode cX3_letterAt 31 = .ok (.ireturn, 1) := by decide +kernel
theorem dX4_init_0 : decode cX4_init 0 = .ok (.aload_n 0, 1) := by decide +kernel
theorem dX4_init_1 : decode cX4_init 1 = .ok (.invokespecial 3, 3) := by decide +kernel
theorem dX4_init_4 : decode cX4_init 4 = .ok (.aload_n 0, 1) := by decide +kernel
theorem dX4_init_5 : decode cX4_init 5 = .ok (.bipush 6, 2) := by decide +kernel
theorem dX4_init_7 : decode cX4_init 7 = .ok (.bipush 46, 2) := by decide +kernel
theorem dX4_init_9 : decode cX4_init 9 = .ok (.multianewarray 11 2, 4) := by decide +kernel
theorem dX4_init_13 : decode cX4_init 13 = .ok (.putfield 13, 3) := by decide +kernel
theorem dX4_init_16 : decode cX4_init 16 = .ok (.return_, 1) := by decide +kernel
theorem dX4_rowForNext_0 : decode cX4_rowForNext 0 = .ok (.aload_n 0, 1) := by decide +kernel
theorem dX4_rowForNext_1 : decode cX4_rowForNext 1 = .ok (.getfield 13, 3) := by decide +kernel
theorem dX4_rowForNext_4 : decode cX4_rowForNext 4 = .ok (.aload_n 0, 1) := by decide +kernel
theorem dX4_rowForNext_5 : decode cX4_rowForNext 5 = .ok (.getfield 18, 3) := by decide +kernel
theorem dX4_rowForNext_8 : decode cX4_rowForNext 8 = .ok (.aaload, 1) := by decide +kernel
theorem dX4_rowForNext_9 : decode cX4_rowForNext 9 = .ok (.astore_n 1, 1) := by decide +kernel
theorem dX4_rowForNext_10 : decode cX4_rowForNext 10 = .ok (.aload_n 0, 1) := by decide +kernel
theorem dX4_rowForNext_11 : decode cX4_rowForNext 11 = .ok (.aload_n 0, 1) := by decide +kernel
theorem dX4_rowForNext_12 : decode cX4_rowForNext 12 = .ok (.getfield 18, 3) := by decide +kernel
theorem dX4_rowForNext_15 : decode cX4_rowForNext 15 = .ok (.iconst 1, 1) := by decide +kernel
theorem dX4_rowForNext_16 : decode cX4_rowForNext 16 = .ok (.iadd, 1) := by decide +kernel
theorem dX4_rowForNext_17 : decode cX4_rowForNext 17 = .ok (.bipush 6, 2) := by decide +kernel
theorem dX4_rowForNext_19 : decode cX4_rowForNext 19 = .ok (.irem, 1) := by decide +kernel
theorem dX4_rowForNext_20 : decode cX4_rowForNext 20 = .ok (.putfield 18, 3) := by decide +kernel
theorem dX4_rowForNext_23 : decode cX4_rowForNext 23 = .ok (.aload_n 0, 1) := by decide +kernel
theorem dX4_rowForNext_24 : decode cX4_rowForNext 24 = .ok (.aload_n 0, 1) := by decide +kernel
theorem dX4_rowForNext_25 : decode cX4_rowForNext 25 = .ok (.getfield 22, 3) := by decide +kernel
theorem dX4_rowForNext_28 : decode cX4_rowForNext 28 = .ok (.iconst 1, 1) := by decide +kernel
theorem dX4_rowForNext_29 : decode cX4_rowForNext 29 = .ok (.iadd, 1) := by decide +kernel
theorem dX4_rowForNext_30 : decode cX4_rowForNext 30 = .ok (.bipush 6, 2) := by decide +kernel
theorem dX4_rowForNext_32 : decode cX4_rowForNext 32 = .ok (.invokestatic 25, 3) := by decide +kernel
theorem dX4_rowForNext_35 : decode cX4_rowForNext 35 = .ok (.putfield 22, 3) := by decide +kernel
theorem dX4_rowForNext_38 : decode cX4_rowForNext 38 = .ok (.aload_n 1, 1) := by decide +kernel
theorem dX4_rowForNext_39 : decode cX4_rowForNext 39 = .ok (.areturn, 1) := by decide +kernel
theorem dX4_takeLatest_0 : decode cX4_takeLatest 0 = .ok (.aload_n 0, 1) := by decide +kernel
theorem dX4_takeLatest_1 : decode cX4_takeLatest 1 = .ok (.getfield 22, 3) := by decide +kernel
theorem dX4_takeLatest_4 : decode cX4_takeLatest 4 = .ok (.ifCond .ne 5, 3) := by decide +kernel
theorem dX4_takeLatest_7 : decode cX4_takeLatest 7 = .ok (.aconst_null, 1) := by decide +kernel
theorem dX4_takeLatest_8 : decode cX4_takeLatest 8 = .ok (.areturn, 1) := by decide +kernel
theorem dX4_takeLatest_9 : decode cX4_takeLatest 9 = .ok (.aload_n 0, 1) := by decide +kernel
theorem dX4_takeLatest_10 : decode cX4_takeLatest 10 = .ok (.dup, 1) := by decide +kernel
theorem dX4_takeLatest_11 : decode cX4_takeLatest 11 = .ok (.getfield 22, 3) := by decide +kernel
theorem dX4_takeLatest_14 : decode cX4_takeLatest 14 = .ok (.iconst 1, 1) := by decide +kernel
theorem dX4_takeLatest_15 : decode cX4_takeLatest 15 = .ok (.isub, 1) := by decide +kernel
theorem dX4_takeLatest_16 : decode cX4_takeLatest 16 = .ok (.putfield 22, 3) := by decide +kernel
theorem dX4_takeLatest_19 : decode cX4_takeLatest 19 = .ok (.aload_n 0, 1) := by decide +kernel
theorem dX4_takeLatest_20 : decode cX4_takeLatest 20 = .ok (.aload_n 0, 1) := by decide +kernel
theorem dX4_takeLatest_21 : decode cX4_takeLatest 21 = .ok (.getfield 18, 3) := by decide +kernel
theorem dX4_takeLatest_24 : decode cX4_takeLatest 24 = .ok (.bipush 6, 2) := by decide +kernel
theorem dX4_takeLatest_26 : decode cX4_takeLatest 26 = .ok (.iadd, 1) := by decide +kernel
theorem dX4_takeLatest_27 : decode cX4_takeLatest 27 = .ok (.iconst 1, 1) := by decide +kernel
theorem dX4_takeLatest_28 : decode cX4_takeLatest 28 = .ok (.isub, 1) := by decide +kernel
theorem dX4_takeLatest_29 : decode cX4_takeLatest 29 = .ok (.bipush 6, 2) := by decide +kernel
theorem dX4_takeLatest_31 : decode cX4_takeLatest 31 = .ok (.irem, 1) := by decide +kernel
theorem dX4_takeLatest_32 : decode cX4_takeLatest 32 = .ok (.putfield 18, 3) := by decide +kernel
theorem dX4_takeLatest_35 : decode cX4_takeLatest 35 = .ok (.aload_n 0, 1) := by decide +kernel
theorem dX4_takeLatest_36 : decode cX4_takeLatest 36 = .ok (.getfield 13, 3) := by decide +kernel
theorem dX4_takeLatest_39 : decode cX4_takeLatest 39 = .ok (.aload_n 0, 1) := by decide +kernel
theorem dX4_takeLatest_40 : decode cX4_takeLatest 40 = .ok (.getfield 18, 3) := by decide +kernel
theorem dX4_takeLatest_43 : decode cX4_takeLatest 43 = .ok (.aaload, 1) := by decide +kernel
theorem dX4_takeLatest_44 : decode cX4_takeLatest 44 = .ok (.areturn, 1) := by decide +kernel
theorem dX4_clear_0 : decode cX4_clear 0 = .ok (.aload_n 0, 1) := by decide +kernel
theorem dX4_clear_1 : decode cX4_clear 1 = .ok (.iconst 0, 1) := by decide +kernel
theorem dX4_clear_2 : decode cX4_clear 2 = .ok (.putfield 22, 3) := by decide +kernel
theorem dX4_clear_5 : decode cX4_clear 5 = .ok (.return_, 1) := by decide +kernel
theorem dX5_init_0 : decode cX5_init 0 = .ok (.aload_n 0, 1) := by decide +kernel
theorem dX5_init_1 : decode cX5_init 1 = .ok (.invokespecial 3, 3) := by decide +kernel
theorem dX5_init_4 : decode cX5_init 4 = .ok (.aload_n 0, 1) := by decide +kernel
theorem dX5_init_5 : decode cX5_init 5 = .ok (.bipush 20, 2) := by decide +kernel
theorem dX5_init_7 : decode cX5_init 7 = .ok (.newarray .int, 2) := by decide +kernel
theorem dX5_init_9 : decode cX5_init 9 = .ok (.putfield 9, 3) := by decide +kernel
theorem dX5_init_12 : decode cX5_init 12 = .ok (.aload_n 0, 1) := by decide +kernel
theorem dX5_init_13 : decode cX5_init 13 = .ok (.iconst 5, 1) := by decide +kernel
theorem dX5_init_14 : decode cX5_init 14 = .ok (.bipush 7, 2) := by decide +kernel
theorem dX5_init_16 : decode cX5_init 16 = .ok (.multianewarray 15 2, 4) := by decide +kernel
theorem dX5_init_20 : decode cX5_init 20 = .ok (.putfield 17, 3) := by decide +kernel
theorem dX5_init_23 : decode cX5_init 23 = .ok (.return_, 1) := by decide +kernel
set_option maxRecDepth 20000 in
theorem ggX5_read_X5_readItem : GoodIn wsX5_read wsX5_readItem := goodIn_r _ [9, 3, 10, 11, 12, 13, 14, 15, 16, 17, 18, 19, 8, 20, 1, 21, 22, 23, 24, 25, 26, 27, 28, 29, 30, 31, 32, 33, 34, 35, 36, 2, 37, 38, 39, 40, 41, 42, 43, 44, 45, 46] (by decide +kernel) (by decide +kernel)
set_option maxRecDepth 20000 in
theorem gX5_read_X5_readItem : GoodIn wsX5_read (wsV RX5 35 RX5 yX5_readItem wsX5_readItem) := goodIn_app (goodIn_of _ (by decide +kernel)) ggX5_read_X5_readItem
theorem dX5_read_0 : decode cX5_read 0 = .ok (.aload_n 0, 1) := by decide +kernel
theorem dX5_read_1 : decode cX5_read 1 = .ok (.iconst 0, 1) := by decide +kernel
theorem dX5_read_2 : decode cX5_read 2 = .ok (.putfield 20, 3) := by decide +kernel
theorem dX5_read_5 : decode cX5_read 5 = .ok (.aload_n 0, 1) := by decide +kernel
theorem dX5_read_6 : decode cX5_read 6 = .ok (.iconst 0, 1) := by decide +kernel
theorem dX5_read_7 : decode cX5_read 7 = .ok (.putfield 24, 3) := by decide +kernel
theorem dX5_read_10 : decode cX5_read 10 = .ok (.aload_n 0, 1) := by decide +kernel
theorem dX5_read_11 : decode cX5_read 11 = .ok (.iconst 0, 1) := by decide +kernel
theorem dX5_read_12 : decode cX5_read 12 = .ok (.putfield 27, 3) := by decide +kernel
theorem dX5_read_15 : decode cX5_read 15 = .ok (.iconst 0, 1) := by decide +kernel
theorem dX5_read_16 : decode cX5_read 16 = .ok (.istore_n 2, 1) := by decide +kernel
theorem dX5_read_17 : decode cX5_read 17 = .ok (.iload_n 2, 1) := by decide +kernel
theorem dX5_read_18 : decode cX5_read 18 = .ok (.sipush 200, 3) := by decide +kernel
theorem dX5_read_21 : decode cX5_read 21 = .ok (.if_icmp .ge 35, 3) := by decide +kernel
theorem dX5_read_24 : decode cX5_read 24 = .ok (.aload_n 0, 1) := by decide +kernel
theorem dX5_read_25 : decode cX5_read 25 = .ok (.getfield 27, 3) := by decide +kernel
theorem dX5_read_28 : decode cX5_read 28 = .ok (.aload_n 1, 1) := by decide +kernel
theorem dX5_read_29 : decode cX5_read 29 = .ok (.getfield 30, 3) := by decide +kernel
theorem dX5_read_32 : decode cX5_read 32 = .ok (.if_icmp .ge 24, 3) := by decide +kernel
theorem dX5_read_35 : decode cX5_read 35 = .ok (.aload_n 0, 1) := by decide +kernel
theorem dX5_read_36 : decode cX5_read 36 = .ok (.getfield 27, 3) := by decide +kernel
theorem dX5_read_39 : decode cX5_read 39 = .ok (.istore_n 3, 1) := by decide +kernel
theorem dX5_read_40 : decode cX5_read 40 = .ok (.aload_n 0, 1) := by decide +kernel
theorem dX5_read_41 : decode cX5_read 41 = .ok (.aload_n 1, 1) := by decide +kernel
theorem dX5_read_42 : decode cX5_read 42 = .ok (.invokevirtual 35, 3) := by decide +kernel
theorem dX5_read_45 : decode cX5_read 45 = .ok (.ifCond .ne 5, 3) := by decide +kernel
theorem dX5_read_48 : decode cX5_read 48 = .ok (.iload_n 3, 1) := by decide +kernel
theorem dX5_read_49 : decode cX5_read 49 = .ok (.ireturn, 1) := by decide +kernel
theorem dX5_read_50 : decode cX5_read 50 = .ok (.iinc 2 1, 3) := by decide +kernel
theorem dX5_read_53 : decode cX5_read 53 = .ok (.goto (-36), 3) := by decide +kernel
theorem dX5_read_56 : decode cX5_read 56 = .ok (.bipush (-4), 2) := by decide +kernel
theorem dX5_read_58 : decode cX5_read 58 = .ok (.ireturn, 1) := by decide +kernel
set_option maxRecDepth 20000 in
theorem ggX5_readItem_X3_letterAt : GoodIn wsX5_readItem wsX3_letterAt := goodIn_r _ [6, 7, 8, 40, 41] (by decide +kernel) (by decide +kernel)
set_option maxRecDepth 20000 in
theorem gX5_readItem_X3_letterAt : GoodIn wsX5_readItem (wsV RX5 39 RX3 yX3_letterAt wsX3_letterAt) := goodIn_app (goodIn_of _ (by decide +kernel)) ggX5_readItem_X3_letterAt
set_option maxRecDepth 20000 in
theorem ggX5_readItem_X5_readColumn : GoodIn wsX5_readItem wsX5_readColumn := goodIn_r _ [13, 14, 15, 16, 17, 18, 12, 19, 1, 2, 3, 4, 5, 6, 7, 8, 20, 21, 22, 23, 24, 25, 26, 35, 36, 37, 38, 39, 40, 41] (by decide +kernel) (by decide +kernel)
set_option maxRecDepth 20000 in
theorem gX5_readItem_X5_readColumn : GoodIn wsX5_readItem (wsV RX5 43 RX5 yX5_readColumn wsX5_readColumn) := goodIn_app (goodIn_of _ (by decide +kernel)) ggX5_readItem_X5_readColumn
set_option maxRecDepth 20000 in
theorem ggX5_readItem_X5_readShip : GoodIn wsX5_readItem wsX5_readShip := goodIn_r _ [30, 31, 32, 14, 33, 34, 16, 17, 18, 12, 19, 1, 2, 3, 4, 5, 6, 7, 8, 20, 21, 22, 23, 24, 25, 26, 35, 36, 37, 38, 39, 40, 41] (by decide +kernel) (by decide +kernel)
set_option maxRecDepth 20000 in
theorem gX5_readItem_X5_readShip : GoodIn wsX5_readItem (wsV RX5 46 RX5 yX5_readShip wsX5_readShip) := goodIn_app (goodIn_of _ (by decide +kernel)) ggX5_readItem_X5_readShip
theorem dX5_readItem_0 : decode cX5_readItem 0 = .ok (.aload_n 1, 1) := by decide +kernel
theorem dX5_readItem_1 : decode cX5_readItem 1 = .ok (.aload_n 0, 1) := by decide +kernel
theorem dX5_readItem_2 : decode cX5_readItem 2 = .ok (.getfield 27, 3) := by decide +kernel
theorem dX5_readItem_5 : decode cX5_readItem 5 = .ok (.invokevirtual 39, 3) := by decide +kernel
theorem dX5_readItem_8 : decode cX5_readItem 8 = .ok (.istore_n 2, 1) := by decide +kernel
theorem dX5_readItem_9 : decode cX5_readItem 9 = .ok (.aload_n 0, 1) := by decide +kernel
theorem dX5_readItem_10 : decode cX5_readItem 10 = .ok (.dup, 1) := by decide +kernel
theorem dX5_readItem_11 : decode cX5_readItem 11 = .ok (.getfield 27, 3) := by decide +kernel
theorem dX5_readItem_14 : decode cX5_readItem 14 = .ok (.iconst 1, 1) := by decide +kernel
theorem dX5_readItem_15 : decode cX5_readItem 15 = .ok (.iadd, 1) := by decide +kernel
end
section
theorem dX5_readItem_16 : decode cX5_readItem 16 = .ok (.putfield 27, 3) := by decide +kernel
theorem dX5_readItem_19 : decode cX5_readItem 19 = .ok (.iload_n 2, 1) := by decide +kernel
theorem dX5_readItem_20 : decode cX5_readItem 20 = .ok (.bipush 99, 2) := by decide +kernel
theorem dX5_readItem_22 : decode cX5_readItem 22 = .ok (.if_icmp .ne 9, 3) := by decide +kernel
theorem dX5_readItem_25 : decode cX5_readItem 25 = .ok (.aload_n 0, 1) := by decide +kernel
theorem dX5_readItem_26 : decode cX5_readItem 26 = .ok (.aload_n 1, 1) := by decide +kernel
theorem dX5_readItem_27 : decode cX5_readItem 27 = .ok (.invokevirtual 43, 3) := by decide +kernel
theorem dX5_readItem_30 : decode cX5_readItem 30 = .ok (.ireturn, 1) := by decide +kernel
theorem dX5_readItem_31 : decode cX5_readItem 31 = .ok (.iload_n 2, 1) := by decide +kernel
theorem dX5_readItem_32 : decode cX5_readItem 32 = .ok (.bipush 115, 2) := by decide +kernel
theorem dX5_readItem_34 : decode cX5_readItem 34 = .ok (.if_icmp .ne 15, 3) := by decide +kernel
theorem dX5_readItem_37 : decode cX5_readItem 37 = .ok (.aload_n 0, 1) := by decide +kernel
theorem dX5_readItem_38 : decode cX5_readItem 38 = .ok (.aload_n 1, 1) := by decide +kernel
theorem dX5_readItem_39 : decode cX5_readItem 39 = .ok (.invokevirtual 46, 3) := by decide +kernel
theorem dX5_readItem_42 : decode cX5_readItem 42 = .ok (.ifCond .eq 7, 3) := by decide +kernel
theorem dX5_readItem_45 : decode cX5_readItem 45 = .ok (.iconst 1, 1) := by decide +kernel
theorem dX5_readItem_46 : decode cX5_readItem 46 = .ok (.goto 4, 3) := by decide +kernel
theorem dX5_readItem_49 : decode cX5_readItem 49 = .ok (.iconst 0, 1) := by decide +kernel
theorem dX5_readItem_50 : decode cX5_readItem 50 = .ok (.ireturn, 1) := by decide +kernel
set_option maxRecDepth 20000 in
theorem ggX5_readColumn_X5_readNumber : GoodIn wsX5_readColumn wsX5_readNumber := goodIn_r _ [7, 8, 9, 10, 11, 12, 13, 14, 15, 16, 17, 18, 23, 24, 25, 26, 27, 28, 29] (by decide +kernel) (by decide +kernel)
set_option maxRecDepth 20000 in
theorem gX5_readColumn_X5_readNumber : GoodIn wsX5_readColumn (wsV RX5 49 RX5 yX5_readNumber wsX5_readNumber) := goodIn_app (goodIn_of _ (by decide +kernel)) ggX5_readColumn_X5_readNumber
set_option maxRecDepth 20000 in
theorem ggX5_readColumn_X7_within : GoodIn wsX5_readColumn wsX7_within := goodIn_r _ [18] (by decide +kernel) (by decide +kernel)
set_option maxRecDepth 20000 in
theorem gX5_readColumn_X7_within_n53 : GoodIn wsX5_readColumn (wsX7_within) := ggX5_readColumn_X7_within
set_option maxRecDepth 20000 in
theorem ggX5_readColumn_X5_readSign : GoodIn wsX5_readColumn wsX5_readSign := goodIn_r _ [22, 8, 9, 10, 11, 12, 13, 14, 15, 23, 24, 25, 26, 27, 28, 29] (by decide +kernel) (by decide +kernel)
set_option maxRecDepth 20000 in
theorem gX5_readColumn_X5_readSign : GoodIn wsX5_readColumn (wsV RX5 57 RX5 yX5_readSign wsX5_readSign) := goodIn_app (goodIn_of _ (by decide +kernel)) ggX5_readColumn_X5_readSign
theorem dX5_readColumn_0 : decode cX5_readColumn 0 = .ok (.aload_n 0, 1) := by decide +kernel
theorem dX5_readColumn_1 : decode cX5_readColumn 1 = .ok (.aload_n 1, 1) := by decide +kernel
theorem dX5_readColumn_2 : decode cX5_readColumn 2 = .ok (.invokevirtual 49, 3) := by decide +kernel
theorem dX5_readColumn_5 : decode cX5_readColumn 5 = .ok (.istore_n 2, 1) := by decide +kernel
theorem dX5_readColumn_6 : decode cX5_readColumn 6 = .ok (.aload_n 0, 1) := by decide +kernel
theorem dX5_readColumn_7 : decode cX5_readColumn 7 = .ok (.getfield 20, 3) := by decide +kernel
theorem dX5_readColumn_10 : decode cX5_readColumn 10 = .ok (.bipush 20, 2) := by decide +kernel
theorem dX5_readColumn_12 : decode cX5_readColumn 12 = .ok (.if_icmp .ge 23, 3) := by decide +kernel
theorem dX5_readColumn_15 : decode cX5_readColumn 15 = .ok (.iload_n 2, 1) := by decide +kernel
theorem dX5_readColumn_16 : decode cX5_readColumn 16 = .ok (.iconst 1, 1) := by decide +kernel
theorem dX5_readColumn_17 : decode cX5_readColumn 17 = .ok (.bipush 20, 2) := by decide +kernel
theorem dX5_readColumn_19 : decode cX5_readColumn 19 = .ok (.invokestatic 53, 3) := by decide +kernel
theorem dX5_readColumn_22 : decode cX5_readColumn 22 = .ok (.ifCond .eq 13, 3) := by decide +kernel
theorem dX5_readColumn_25 : decode cX5_readColumn 25 = .ok (.aload_n 0, 1) := by decide +kernel
theorem dX5_readColumn_26 : decode cX5_readColumn 26 = .ok (.aload_n 1, 1) := by decide +kernel
theorem dX5_readColumn_27 : decode cX5_readColumn 27 = .ok (.bipush 59, 2) := by decide +kernel
theorem dX5_readColumn_29 : decode cX5_readColumn 29 = .ok (.invokevirtual 57, 3) := by decide +kernel
theorem dX5_readColumn_32 : decode cX5_readColumn 32 = .ok (.ifCond .ne 5, 3) := by decide +kernel
theorem dX5_readColumn_35 : decode cX5_readColumn 35 = .ok (.iconst 0, 1) := by decide +kernel
theorem dX5_readColumn_36 : decode cX5_readColumn 36 = .ok (.ireturn, 1) := by decide +kernel
theorem dX5_readColumn_37 : decode cX5_readColumn 37 = .ok (.aload_n 0, 1) := by decide +kernel
theorem dX5_readColumn_38 : decode cX5_readColumn 38 = .ok (.getfield 9, 3) := by decide +kernel
theorem dX5_readColumn_41 : decode cX5_readColumn 41 = .ok (.aload_n 0, 1) := by decide +kernel
theorem dX5_readColumn_42 : decode cX5_readColumn 42 = .ok (.getfield 20, 3) := by decide +kernel
theorem dX5_readColumn_45 : decode cX5_readColumn 45 = .ok (.iload_n 2, 1) := by decide +kernel
theorem dX5_readColumn_46 : decode cX5_readColumn 46 = .ok (.iastore, 1) := by decide +kernel
theorem dX5_readColumn_47 : decode cX5_readColumn 47 = .ok (.aload_n 0, 1) := by decide +kernel
theorem dX5_readColumn_48 : decode cX5_readColumn 48 = .ok (.dup, 1) := by decide +kernel
theorem dX5_readColumn_49 : decode cX5_readColumn 49 = .ok (.getfield 20, 3) := by decide +kernel
theorem dX5_readColumn_52 : decode cX5_readColumn 52 = .ok (.iconst 1, 1) := by decide +kernel
theorem dX5_readColumn_53 : decode cX5_readColumn 53 = .ok (.iadd, 1) := by decide +kernel
theorem dX5_readColumn_54 : decode cX5_readColumn 54 = .ok (.putfield 20, 3) := by decide +kernel
theorem dX5_readColumn_57 : decode cX5_readColumn 57 = .ok (.iconst 1, 1) := by decide +kernel
theorem dX5_readColumn_58 : decode cX5_readColumn 58 = .ok (.ireturn, 1) := by decide +kernel
set_option maxRecDepth 20000 in
theorem ggX5_readShip_X5_readNumber : GoodIn wsX5_readShip wsX5_readNumber := goodIn_r _ [10, 11, 12, 13, 14, 15, 16, 17, 18, 19, 20, 21, 26, 27, 28, 29, 30, 31, 32] (by decide +kernel) (by decide +kernel)
set_option maxRecDepth 20000 in
theorem gX5_readShip_X5_readNumber : GoodIn wsX5_readShip (wsV RX5 49 RX5 yX5_readNumber wsX5_readNumber) := goodIn_app (goodIn_of _ (by decide +kernel)) ggX5_readShip_X5_readNumber
set_option maxRecDepth 20000 in
theorem ggX5_readShip_X7_within : GoodIn wsX5_readShip wsX7_within := goodIn_r _ [21] (by decide +kernel) (by decide +kernel)
set_option maxRecDepth 20000 in
theorem gX5_readShip_X7_within_n53 : GoodIn wsX5_readShip (wsX7_within) := ggX5_readShip_X7_within
set_option maxRecDepth 20000 in
theorem ggX5_readShip_X5_readSign : GoodIn wsX5_readShip wsX5_readSign := goodIn_r _ [25, 11, 12, 13, 14, 15, 16, 17, 18, 26, 27, 28, 29, 30, 31, 32] (by decide +kernel) (by decide +kernel)
set_option maxRecDepth 20000 in
theorem gX5_readShip_X5_readSign : GoodIn wsX5_readShip (wsV RX5 57 RX5 yX5_readSign wsX5_readSign) := goodIn_app (goodIn_of _ (by decide +kernel)) ggX5_readShip_X5_readSign
theorem dX5_readShip_0 : decode cX5_readShip 0 = .ok (.aload_n 0, 1) := by decide +kernel
theorem dX5_readShip_1 : decode cX5_readShip 1 = .ok (.getfield 24, 3) := by decide +kernel
theorem dX5_readShip_4 : decode cX5_readShip 4 = .ok (.iconst 5, 1) := by decide +kernel
theorem dX5_readShip_5 : decode cX5_readShip 5 = .ok (.if_icmp .lt 5, 3) := by decide +kernel
theorem dX5_readShip_8 : decode cX5_readShip 8 = .ok (.iconst 0, 1) := by decide +kernel
theorem dX5_readShip_9 : decode cX5_readShip 9 = .ok (.ireturn, 1) := by decide +kernel
theorem dX5_readShip_10 : decode cX5_readShip 10 = .ok (.aload_n 0, 1) := by decide +kernel
theorem dX5_readShip_11 : decode cX5_readShip 11 = .ok (.getfield 17, 3) := by decide +kernel
theorem dX5_readShip_14 : decode cX5_readShip 14 = .ok (.aload_n 0, 1) := by decide +kernel
theorem dX5_readShip_15 : decode cX5_readShip 15 = .ok (.getfield 24, 3) := by decide +kernel
theorem dX5_readShip_18 : decode cX5_readShip 18 = .ok (.aaload, 1) := by decide +kernel
theorem dX5_readShip_19 : decode cX5_readShip 19 = .ok (.astore_n 2, 1) := by decide +kernel
theorem dX5_readShip_20 : decode cX5_readShip 20 = .ok (.iconst 0, 1) := by decide +kernel
theorem dX5_readShip_21 : decode cX5_readShip 21 = .ok (.istore_n 3, 1) := by decide +kernel
theorem dX5_readShip_22 : decode cX5_readShip 22 = .ok (.iload_n 3, 1) := by decide +kernel
theorem dX5_readShip_23 : decode cX5_readShip 23 = .ok (.bipush 7, 2) := by decide +kernel
theorem dX5_readShip_25 : decode cX5_readShip 25 = .ok (.if_icmp .ge 80, 3) := by decide +kernel
theorem dX5_readShip_28 : decode cX5_readShip 28 = .ok (.iload_n 3, 1) := by decide +kernel
theorem dX5_readShip_29 : decode cX5_readShip 29 = .ok (.ifCond .ne 12, 3) := by decide +kernel
theorem dX5_readShip_32 : decode cX5_readShip 32 = .ok (.aload_n 0, 1) := by decide +kernel
theorem dX5_readShip_33 : decode cX5_readShip 33 = .ok (.getfield 20, 3) := by decide +kernel
theorem dX5_readShip_36 : decode cX5_readShip 36 = .ok (.iconst 1, 1) := by decide +kernel
theorem dX5_readShip_37 : decode cX5_readShip 37 = .ok (.isub, 1) := by decide +kernel
theorem dX5_readShip_38 : decode cX5_readShip 38 = .ok (.goto 8, 3) := by decide +kernel
theorem dX5_readShip_41 : decode cX5_readShip 41 = .ok (.getstatic 61, 3) := by decide +kernel
theorem dX5_readShip_44 : decode cX5_readShip 44 = .ok (.iload_n 3, 1) := by decide +kernel
theorem dX5_readShip_45 : decode cX5_readShip 45 = .ok (.iaload, 1) := by decide +kernel
theorem dX5_readShip_46 : decode cX5_readShip 46 = .ok (.istore 4, 2) := by decide +kernel
theorem dX5_readShip_48 : decode cX5_readShip 48 = .ok (.iload_n 3, 1) := by decide +kernel
theorem dX5_readShip_49 : decode cX5_readShip 49 = .ok (.bipush 6, 2) := by decide +kernel
theorem dX5_readShip_51 : decode cX5_readShip 51 = .ok (.if_icmp .ne 8, 3) := by decide +kernel
theorem dX5_readShip_54 : decode cX5_readShip 54 = .ok (.bipush 59, 2) := by decide +kernel
theorem dX5_readShip_56 : decode cX5_readShip 56 = .ok (.goto 5, 3) := by decide +kernel
theorem dX5_readShip_59 : decode cX5_readShip 59 = .ok (.bipush 44, 2) := by decide +kernel
theorem dX5_readShip_61 : decode cX5_readShip 61 = .ok (.istore 5, 2) := by decide +kernel
theorem dX5_readShip_63 : decode cX5_readShip 63 = .ok (.aload_n 2, 1) := by decide +kernel
theorem dX5_readShip_64 : decode cX5_readShip 64 = .ok (.iload_n 3, 1) := by decide +kernel
theorem dX5_readShip_65 : decode cX5_readShip 65 = .ok (.aload_n 0, 1) := by decide +kernel
theorem dX5_readShip_66 : decode cX5_readShip 66 = .ok (.aload_n 1, 1) := by decide +kernel
theorem dX5_readShip_67 : decode cX5_readShip 67 = .ok (.invokevirtual 49, 3) := by decide +kernel
theorem dX5_readShip_70 : decode cX5_readShip 70 = .ok (.iastore, 1) := by decide +kernel
theorem dX5_readShip_71 : decode cX5_readShip 71 = .ok (.aload_n 2, 1) := by decide +kernel
theorem dX5_readShip_72 : decode cX5_readShip 72 = .ok (.iload_n 3, 1) := by decide +kernel
theorem dX5_readShip_73 : decode cX5_readShip 73 = .ok (.iaload, 1) := by decide +kernel
theorem dX5_readShip_74 : decode cX5_readShip 74 = .ok (.getstatic 64, 3) := by decide +kernel
theorem dX5_readShip_77 : decode cX5_readShip 77 = .ok (.iload_n 3, 1) := by decide +kernel
theorem dX5_readShip_78 : decode cX5_readShip 78 = .ok (.iaload, 1) := by decide +kernel
theorem dX5_readShip_79 : decode cX5_readShip 79 = .ok (.iload 4, 2) := by decide +kernel
theorem dX5_readShip_81 : decode cX5_readShip 81 = .ok (.invokestatic 53, 3) := by decide +kernel
theorem dX5_readShip_84 : decode cX5_readShip 84 = .ok (.ifCond .eq 13, 3) := by decide +kernel
theorem dX5_readShip_87 : decode cX5_readShip 87 = .ok (.aload_n 0, 1) := by decide +kernel
theorem dX5_readShip_88 : decode cX5_readShip 88 = .ok (.aload_n 1, 1) := by decide +kernel
theorem dX5_readShip_89 : decode cX5_readShip 89 = .ok (.iload 5, 2) := by decide +kernel
theorem dX5_readShip_91 : decode cX5_readShip 91 = .ok (.invokevirtual 57, 3) := by decide +kernel
theorem dX5_readShip_94 : decode cX5_readShip 94 = .ok (.ifCond .ne 5, 3) := by decide +kernel
theorem dX5_readShip_97 : decode cX5_readShip 97 = .ok (.iconst 0, 1) := by decide +kernel
theorem dX5_readShip_98 : decode cX5_readShip 98 = .ok (.ireturn, 1) := by decide +kernel
theorem dX5_readShip_99 : decode cX5_readShip 99 = .ok (.iinc 3 1, 3) := by decide +kernel
theorem dX5_readShip_102 : decode cX5_readShip 102 = .ok (.goto (-80), 3) := by decide +kernel
theorem dX5_readShip_105 : decode cX5_readShip 105 = .ok (.aload_n 0, 1) := by decide +kernel
theorem dX5_readShip_106 : decode cX5_readShip 106 = .ok (.dup, 1) := by decide +kernel
theorem dX5_readShip_107 : decode cX5_readShip 107 = .ok (.getfield 24, 3) := by decide +kernel
theorem dX5_readShip_110 : decode cX5_readShip 110 = .ok (.iconst 1, 1) := by decide +kernel
theorem dX5_readShip_111 : decode cX5_readShip 111 = .ok (.iadd, 1) := by decide +kernel
theorem dX5_readShip_112 : decode cX5_readShip 112 = .ok (.putfield 24, 3) := by decide +kernel
theorem dX5_readShip_115 : decode cX5_readShip 115 = .ok (.iconst 1, 1) := by decide +kernel
theorem dX5_readShip_116 : decode cX5_readShip 116 = .ok (.ireturn, 1) := by decide +kernel
set_option maxRecDepth 20000 in
theorem ggX5_readNumber_X3_letterAt : GoodIn wsX5_readNumber wsX3_letterAt := goodIn_r _ [6, 7, 8, 17, 18] (by decide +kernel) (by decide +kernel)
set_option maxRecDepth 20000 in
theorem gX5_readNumber_X3_letterAt : GoodIn wsX5_readNumber (wsV RX5 39 RX3 yX3_letterAt wsX3_letterAt) := goodIn_app (goodIn_of _ (by decide +kernel)) ggX5_readNumber_X3_letterAt
set_option maxRecDepth 20000 in
theorem ggX5_readNumber_X7_within : GoodIn wsX5_readNumber wsX7_within := goodIn_r _ [11] (by decide +kernel) (by decide +kernel)
set_option maxRecDepth 20000 in
theorem gX5_readNumber_X7_within_n53 : GoodIn wsX5_readNumber (wsX7_within) := ggX5_readNumber_X7_within
theorem dX5_readNumber_0 : decode cX5_readNumber 0 = .ok (.iconst 0, 1) := by decide +kernel
theorem dX5_readNumber_1 : decode cX5_readNumber 1 = .ok (.istore_n 2, 1) := by decide +kernel
theorem dX5_readNumber_2 : decode cX5_readNumber 2 = .ok (.iconst 0, 1) := by decide +kernel
theorem dX5_readNumber_3 : decode cX5_readNumber 3 = .ok (.istore_n 3, 1) := by decide +kernel
theorem dX5_readNumber_4 : decode cX5_readNumber 4 = .ok (.iload_n 3, 1) := by decide +kernel
theorem dX5_readNumber_5 : decode cX5_readNumber 5 = .ok (.iconst 3, 1) := by decide +kernel
theorem dX5_readNumber_6 : decode cX5_readNumber 6 = .ok (.if_icmp .ge 54, 3) := by decide +kernel
theorem dX5_readNumber_9 : decode cX5_readNumber 9 = .ok (.aload_n 1, 1) := by decide +kernel
theorem dX5_readNumber_10 : decode cX5_readNumber 10 = .ok (.aload_n 0, 1) := by decide +kernel
theorem dX5_readNumber_11 : decode cX5_readNumber 11 = .ok (.getfield 27, 3) := by decide +kernel
theorem dX5_readNumber_14 : decode cX5_readNumber 14 = .ok (.invokevirtual 39, 3) := by decide +kernel
theorem dX5_readNumber_17 : decode cX5_readNumber 17 = .ok (.bipush 48, 2) := by decide +kernel
theorem dX5_readNumber_19 : decode cX5_readNumber 19 = .ok (.bipush 57, 2) := by decide +kernel
theorem dX5_readNumber_21 : decode cX5_readNumber 21 = .ok (.invokestatic 53, 3) := by decide +kernel
theorem dX5_readNumber_24 : decode cX5_readNumber 24 = .ok (.ifCond .eq 36, 3) := by decide +kernel
theorem dX5_readNumber_27 : decode cX5_readNumber 27 = .ok (.iload_n 2, 1) := by decide +kernel
theorem dX5_readNumber_28 : decode cX5_readNumber 28 = .ok (.bipush 10, 2) := by decide +kernel
theorem dX5_readNumber_30 : decode cX5_readNumber 30 = .ok (.imul, 1) := by decide +kernel
theorem dX5_readNumber_31 : decode cX5_readNumber 31 = .ok (.aload_n 1, 1) := by decide +kernel
theorem dX5_readNumber_32 : decode cX5_readNumber 32 = .ok (.aload_n 0, 1) := by decide +kernel
theorem dX5_readNumber_33 : decode cX5_readNumber 33 = .ok (.getfield 27, 3) := by decide +kernel
theorem dX5_readNumber_36 : decode cX5_readNumber 36 = .ok (.invokevirtual 39, 3) := by decide +kernel
theorem dX5_readNumber_39 : decode cX5_readNumber 39 = .ok (.bipush 48, 2) := by decide +kernel
theorem dX5_readNumber_41 : decode cX5_readNumber 41 = .ok (.isub, 1) := by decide +kernel
theorem dX5_readNumber_42 : decode cX5_readNumber 42 = .ok (.iadd, 1) := by decide +kernel
theorem dX5_readNumber_43 : decode cX5_readNumber 43 = .ok (.istore_n 2, 1) := by decide +kernel
theorem dX5_readNumber_44 : decode cX5_readNumber 44 = .ok (.aload_n 0, 1) := by decide +kernel
theorem dX5_readNumber_45 : decode cX5_readNumber 45 = .ok (.dup, 1) := by decide +kernel
theorem dX5_readNumber_46 : decode cX5_readNumber 46 = .ok (.getfield 27, 3) := by decide +kernel
theorem dX5_readNumber_49 : decode cX5_readNumber 49 = .ok (.iconst 1, 1) := by decide +kernel
theorem dX5_readNumber_50 : decode cX5_readNumber 50 = .ok (.iadd, 1) := by decide +kernel
theorem dX5_readNumber_51 : decode cX5_readNumber 51 = .ok (.putfield 27, 3) := by decide +kernel
theorem dX5_readNumber_54 : decode cX5_readNumber 54 = .ok (.iinc 3 1, 3) := by decide +kernel
theorem dX5_readNumber_57 : decode cX5_readNumber 57 = .ok (.goto (-53), 3) := by decide +kernel
theorem dX5_readNumber_60 : decode cX5_readNumber 60 = .ok (.iload_n 3, 1) := by decide +kernel
theorem dX5_readNumber_61 : decode cX5_readNumber 61 = .ok (.ifCond .ne 7, 3) := by decide +kernel
theorem dX5_readNumber_64 : decode cX5_readNumber 64 = .ok (.iconst (-1), 1) := by decide +kernel
theorem dX5_readNumber_65 : decode cX5_readNumber 65 = .ok (.goto 4, 3) := by decide +kernel
theorem dX5_readNumber_68 : decode cX5_readNumber 68 = .ok (.iload_n 2, 1) := by decide +kernel
theorem dX5_readNumber_69 : decode cX5_readNumber 69 = .ok (.ireturn, 1) := by decide +kernel
set_option maxRecDepth 20000 in
theorem ggX5_readSign_X3_letterAt : GoodIn wsX5_readSign wsX3_letterAt := goodIn_r _ [6, 7, 8, 14, 15] (by decide +kernel) (by decide +kernel)
set_option maxRecDepth 20000 in
theorem gX5_readSign_X3_letterAt : GoodIn wsX5_readSign (wsV RX5 39 RX3 yX3_letterAt wsX3_letterAt) := goodIn_app (goodIn_of _ (by decide +kernel)) ggX5_readSign_X3_letterAt
theorem dX5_readSign_0 : decode cX5_readSign 0 = .ok (.aload_n 1, 1) := by decide +kernel
theorem dX5_readSign_1 : decode cX5_readSign 1 = .ok (.aload_n 0, 1) := by decide +kernel
theorem dX5_readSign_2 : decode cX5_readSign 2 = .ok (.getfield 27, 3) := by decide +kernel
theorem dX5_readSign_5 : decode cX5_readSign 5 = .ok (.invokevirtual 39, 3) := by decide +kernel
theorem dX5_readSign_8 : decode cX5_readSign 8 = .ok (.iload_n 2, 1) := by decide +kernel
theorem dX5_readSign_9 : decode cX5_readSign 9 = .ok (.if_icmp .eq 5, 3) := by decide +kernel
theorem dX5_readSign_12 : decode cX5_readSign 12 = .ok (.iconst 0, 1) := by decide +kernel
theorem dX5_readSign_13 : decode cX5_readSign 13 = .ok (.ireturn, 1) := by decide +kernel
theorem dX5_readSign_14 : decode cX5_readSign 14 = .ok (.aload_n 0, 1) := by decide +kernel
theorem dX5_readSign_15 : decode cX5_readSign 15 = .ok (.dup, 1) := by decide +kernel
theorem dX5_readSign_16 : decode cX5_readSign 16 = .ok (.getfield 27, 3) := by decide +kernel
theorem dX5_readSign_19 : decode cX5_readSign 19 = .ok (.iconst 1, 1) := by decide +kernel
theorem dX5_readSign_20 : decode cX5_readSign 20 = .ok (.iadd, 1) := by decide +kernel
theorem dX5_readSign_21 : decode cX5_readSign 21 = .ok (.putfield 27, 3) := by decide +kernel
theorem dX5_readSign_24 : decode cX5_readSign 24 = .ok (.iconst 1, 1) := by decide +kernel
theorem dX5_readSign_25 : decode cX5_readSign 25 = .ok (.ireturn, 1) := by decide +kernel
set_option maxRecDepth 20000 in
theorem ggX6_init_X0_init : GoodIn wsX6_init wsX0_init := goodIn_r _ [10, 11, 2, 3] (by decide +kernel) (by decide +kernel)
set_option maxRecDepth 20000 in
theorem gX6_init_X0_init_n11 : GoodIn wsX6_init (wsX0_init) := ggX6_init_X0_init
theorem dX6_init_0 : decode cX6_init 0 = .ok (.aload_n 0, 1) := by decide +kernel
theorem dX6_init_1 : decode cX6_init 1 = .ok (.invokespecial 5, 3) := by decide +kernel
theorem dX6_init_4 : decode cX6_init 4 = .ok (.aload_n 0, 1) := by decide +kernel
theorem dX6_init_5 : decode cX6_init 5 = .ok (.new 1, 3) := by decide +kernel
theorem dX6_init_8 : decode cX6_init 8 = .ok (.dup, 1) := by decide +kernel
theorem dX6_init_9 : decode cX6_init 9 = .ok (.invokespecial 11, 3) := by decide +kernel
theorem dX6_init_12 : decode cX6_init 12 = .ok (.putfield 12, 3) := by decide +kernel
theorem dX6_init_15 : decode cX6_init 15 = .ok (.aload_n 0, 1) := by decide +kernel
theorem dX6_init_16 : decode cX6_init 16 = .ok (.new 1, 3) := by decide +kernel
theorem dX6_init_19 : decode cX6_init 19 = .ok (.dup, 1) := by decide +kernel
theorem dX6_init_20 : decode cX6_init 20 = .ok (.invokespecial 11, 3) := by decide +kernel
theorem dX6_init_23 : decode cX6_init 23 = .ok (.putfield 18, 3) := by decide +kernel
theorem dX6_init_26 : decode cX6_init 26 = .ok (.return_, 1) := by decide +kernel
set_option maxRecDepth 20000 in
theorem ggX6_layOut_X0_put : GoodIn wsX6_layOut wsX0_put := goodIn_r _ [13, 14, 15, 16, 27, 28, 29] (by decide +kernel) (by decide +kernel)
set_option maxRecDepth 20000 in
theorem gX6_layOut_X0_put : GoodIn wsX6_layOut (wsV RX6 23 RX0 yX0_put wsX0_put) := goodIn_app (goodIn_of _ (by decide +kernel)) ggX6_layOut_X0_put
theorem dX6_layOut_0 : decode cX6_layOut 0 = .ok (.aload_n 1, 1) := by decide +kernel
theorem dX6_layOut_1 : decode cX6_layOut 1 = .ok (.arraylength, 1) := by decide +kernel
theorem dX6_layOut_2 : decode cX6_layOut 2 = .ok (.bipush 7, 2) := by decide +kernel
theorem dX6_layOut_4 : decode cX6_layOut 4 = .ok (.if_icmp .ge 4, 3) := by decide +kernel
theorem dX6_layOut_7 : decode cX6_layOut 7 = .ok (.return_, 1) := by decide +kernel
theorem dX6_layOut_8 : decode cX6_layOut 8 = .ok (.aload_n 0, 1) := by decide +kernel
theorem dX6_layOut_9 : decode cX6_layOut 9 = .ok (.getfield 12, 3) := by decide +kernel
theorem dX6_layOut_12 : decode cX6_layOut 12 = .ok (.aload_n 1, 1) := by decide +kernel
theorem dX6_layOut_13 : decode cX6_layOut 13 = .ok (.iconst 0, 1) := by decide +kernel
theorem dX6_layOut_14 : decode cX6_layOut 14 = .ok (.iaload, 1) := by decide +kernel
theorem dX6_layOut_15 : decode cX6_layOut 15 = .ok (.aload_n 1, 1) := by decide +kernel
theorem dX6_layOut_16 : decode cX6_layOut 16 = .ok (.iconst 1, 1) := by decide +kernel
theorem dX6_layOut_17 : decode cX6_layOut 17 = .ok (.iaload, 1) := by decide +kernel
theorem dX6_layOut_18 : decode cX6_layOut 18 = .ok (.aload_n 1, 1) := by decide +kernel
theorem dX6_layOut_19 : decode cX6_layOut 19 = .ok (.iconst 2, 1) := by decide +kernel
theorem dX6_layOut_20 : decode cX6_layOut 20 = .ok (.iaload, 1) := by decide +kernel
theorem dX6_layOut_21 : decode cX6_layOut 21 = .ok (.invokevirtual 23, 3) := by decide +kernel
theorem dX6_layOut_24 : decode cX6_layOut 24 = .ok (.aload_n 0, 1) := by decide +kernel
theorem dX6_layOut_25 : decode cX6_layOut 25 = .ok (.aload_n 1, 1) := by decide +kernel
theorem dX6_layOut_26 : decode cX6_layOut 26 = .ok (.iconst 3, 1) := by decide +kernel
theorem dX6_layOut_27 : decode cX6_layOut 27 = .ok (.iaload, 1) := by decide +kernel
theorem dX6_layOut_28 : decode cX6_layOut 28 = .ok (.putfield 27, 3) := by decide +kernel
theorem dX6_layOut_31 : decode cX6_layOut 31 = .ok (.aload_n 0, 1) := by decide +kernel
theorem dX6_layOut_32 : decode cX6_layOut 32 = .ok (.aload_n 1, 1) := by decide +kernel
theorem dX6_layOut_33 : decode cX6_layOut 33 = .ok (.iconst 4, 1) := by decide +kernel
theorem dX6_layOut_34 : decode cX6_layOut 34 = .ok (.iaload, 1) := by decide +kernel
theorem dX6_layOut_35 : decode cX6_layOut 35 = .ok (.putfield 31, 3) := by decide +kernel
theorem dX6_layOut_38 : decode cX6_layOut 38 = .ok (.aload_n 0, 1) := by decide +kernel
theorem dX6_layOut_39 : decode cX6_layOut 39 = .ok (.aload_n 1, 1) := by decide +kernel
theorem dX6_layOut_40 : decode cX6_layOut 40 = .ok (.iconst 5, 1) := by decide +kernel
theorem dX6_layOut_41 : decode cX6_layOut 41 = .ok (.iaload, 1) := by decide +kernel
theorem dX6_layOut_42 : decode cX6_layOut 42 = .ok (.putfield 34, 3) := by decide +kernel
theorem dX6_layOut_45 : decode cX6_layOut 45 = .ok (.aload_n 0, 1) := by decide +kernel
theorem dX6_layOut_46 : decode cX6_layOut 46 = .ok (.aload_n 1, 1) := by decide +kernel
theorem dX6_layOut_47 : decode cX6_layOut 47 = .ok (.bipush 6, 2) := by decide +kernel
theorem dX6_layOut_49 : decode cX6_layOut 49 = .ok (.iaload, 1) := by decide +kernel
theorem dX6_layOut_50 : decode cX6_layOut 50 = .ok (.putfield 37, 3) := by decide +kernel
theorem dX6_layOut_53 : decode cX6_layOut 53 = .ok (.aload_n 0, 1) := by decide +kernel
theorem dX6_layOut_54 : decode cX6_layOut 54 = .ok (.iconst 0, 1) := by decide +kernel
theorem dX6_layOut_55 : decode cX6_layOut 55 = .ok (.putfield 40, 3) := by decide +kernel
theorem dX6_layOut_58 : decode cX6_layOut 58 = .ok (.aload_n 0, 1) := by decide +kernel
theorem dX6_layOut_59 : decode cX6_layOut 59 = .ok (.iconst 0, 1) := by decide +kernel
theorem dX6_layOut_60 : decode cX6_layOut 60 = .ok (.putfield 44, 3) := by decide +kernel
theorem dX6_layOut_63 : decode cX6_layOut 63 = .ok (.aload_n 0, 1) := by decide +kernel
theorem dX6_layOut_64 : decode cX6_layOut 64 = .ok (.iconst 0, 1) := by decide +kernel
theorem dX6_layOut_65 : decode cX6_layOut 65 = .ok (.putfield 47, 3) := by decide +kernel
theorem dX6_layOut_68 : decode cX6_layOut 68 = .ok (.return_, 1) := by decide +kernel
theorem dX6_anchorAt_0 : decode cX6_anchorAt 0 = .ok (.iload_n 1, 1) := by decide +kernel
theorem dX6_anchorAt_1 : decode cX6_anchorAt 1 = .ok (.ifCond .ne 8, 3) := by decide +kernel
theorem dX6_anchorAt_4 : decode cX6_anchorAt 4 = .ok (.aload_n 0, 1) := by decide +kernel
theorem dX6_anchorAt_5 : decode cX6_anchorAt 5 = .ok (.getfield 12, 3) := by decide +kernel
theorem dX6_anchorAt_8 : decode cX6_anchorAt 8 = .ok (.areturn, 1) := by decide +kernel
theorem dX6_anchorAt_9 : decode cX6_anchorAt 9 = .ok (.aload_n 0, 1) := by decide +kernel
theorem dX6_anchorAt_10 : decode cX6_anchorAt 10 = .ok (.getfield 40, 3) := by decide +kernel
theorem dX6_anchorAt_13 : decode cX6_anchorAt 13 = .ok (.ifCond .eq 10, 3) := by decide +kernel
theorem dX6_anchorAt_16 : decode cX6_anchorAt 16 = .ok (.aload_n 0, 1) := by decide +kernel
theorem dX6_anchorAt_17 : decode cX6_anchorAt 17 = .ok (.getfield 18, 3) := by decide +kernel
theorem dX6_anchorAt_20 : decode cX6_anchorAt 20 = .ok (.goto 4, 3) := by decide +kernel
theorem dX6_anchorAt_23 : decode cX6_anchorAt 23 = .ok (.aconst_null, 1) := by decide +kernel
theorem dX6_anchorAt_24 : decode cX6_anchorAt 24 = .ok (.areturn, 1) := by decide +kernel
theorem dX6_pullBy_0 : decode cX6_pullBy 0 = .ok (.iload_n 1, 1) := by decide +kernel
theorem dX6_pullBy_1 : decode cX6_pullBy 1 = .ok (.iload_n 1, 1) := by decide +kernel
theorem dX6_pullBy_2 : decode cX6_pullBy 2 = .ok (.imul, 1) := by decide +kernel
theorem dX6_pullBy_3 : decode cX6_pullBy 3 = .ok (.aload_n 0, 1) := by decide +kernel
theorem dX6_pullBy_4 : decode cX6_pullBy 4 = .ok (.getfield 34, 3) := by decide +kernel
theorem dX6_pullBy_7 : decode cX6_pullBy 7 = .ok (.imul, 1) := by decide +kernel
theorem dX6_pullBy_8 : decode cX6_pullBy 8 = .ok (.iconst 4, 1) := by decide +kernel
theorem dX6_pullBy_9 : decode cX6_pullBy 9 = .ok (.idiv, 1) := by decide +kernel
theorem dX6_pullBy_10 : decode cX6_pullBy 10 = .ok (.ireturn, 1) := by decide +kernel
theorem dX6_isClearOf_0 : decode cX6_isClearOf 0 = .ok (.aload_n 0, 1) := by decide +kernel
theorem dX6_isClearOf_1 : decode cX6_isClearOf 1 = .ok (.getfield 44, 3) := by decide +kernel
theorem dX6_isClearOf_4 : decode cX6_isClearOf 4 = .ok (.ifCond .ne 10, 3) := by decide +kernel
theorem dX6_isClearOf_7 : decode cX6_isClearOf 7 = .ok (.aload_n 1, 1) := by decide +kernel
theorem dX6_isClearOf_8 : decode cX6_isClearOf 8 = .ok (.getfield 44, 3) := by decide +kernel
theorem dX6_isClearOf_11 : decode cX6_isClearOf 11 = .ok (.ifCond .eq 5, 3) := by decide +kernel
theorem dX6_isClearOf_14 : decode cX6_isClearOf 14 = .ok (.iconst 1, 1) := by decide +kernel
theorem dX6_isClearOf_15 : decode cX6_isClearOf 15 = .ok (.ireturn, 1) := by decide +kernel
theorem dX6_isClearOf_16 : decode cX6_isClearOf 16 = .ok (.bipush 10, 2) := by decide +kernel
theorem dX6_isClearOf_18 : decode cX6_isClearOf 18 = .ok (.aload_n 0, 1) := by decide +kernel
theorem dX6_isClearOf_19 : decode cX6_isClearOf 19 = .ok (.getfield 12, 3) := by decide +kernel
theorem dX6_isClearOf_22 : decode cX6_isClearOf 22 = .ok (.getfield 50, 3) := by decide +kernel
theorem dX6_isClearOf_25 : decode cX6_isClearOf 25 = .ok (.aload_n 1, 1) := by decide +kernel
theorem dX6_isClearOf_26 : decode cX6_isClearOf 26 = .ok (.getfield 12, 3) := by decide +kernel
theorem dX6_isClearOf_29 : decode cX6_isClearOf 29 = .ok (.getfield 50, 3) := by decide +kernel
theorem dX6_isClearOf_32 : decode cX6_isClearOf 32 = .ok (.isub, 1) := by decide +kernel
theorem dX6_isClearOf_33 : decode cX6_isClearOf 33 = .ok (.imul, 1) := by decide +kernel
theorem dX6_isClearOf_34 : decode cX6_isClearOf 34 = .ok (.istore_n 2, 1) := by decide +kernel
theorem dX6_isClearOf_35 : decode cX6_isClearOf 35 = .ok (.bipush 10, 2) := by decide +kernel
theorem dX6_isClearOf_37 : decode cX6_isClearOf 37 = .ok (.aload_n 0, 1) := by decide +kernel
theorem dX6_isClearOf_38 : decode cX6_isClearOf 38 = .ok (.getfield 12, 3) := by decide +kernel
theorem dX6_isClearOf_41 : decode cX6_isClearOf 41 = .ok (.getfield 53, 3) := by decide +kernel
theorem dX6_isClearOf_44 : decode cX6_isClearOf 44 = .ok (.aload_n 1, 1) := by decide +kernel
theorem dX6_isClearOf_45 : decode cX6_isClearOf 45 = .ok (.getfield 12, 3) := by decide +kernel
theorem dX6_isClearOf_48 : decode cX6_isClearOf 48 = .ok (.getfield 53, 3) := by decide +kernel
theorem dX6_isClearOf_51 : decode cX6_isClearOf 51 = .ok (.isub, 1) := by decide +kernel
theorem dX6_isClearOf_52 : decode cX6_isClearOf 52 = .ok (.imul, 1) := by decide +kernel
theorem dX6_isClearOf_53 : decode cX6_isClearOf 53 = .ok (.istore_n 3, 1) := by decide +kernel
theorem dX6_isClearOf_54 : decode cX6_isClearOf 54 = .ok (.aload_n 0, 1) := by decide +kernel
theorem dX6_isClearOf_55 : decode cX6_isClearOf 55 = .ok (.getfield 56, 3) := by decide +kernel
theorem dX6_isClearOf_58 : decode cX6_isClearOf 58 = .ok (.aload_n 1, 1) := by decide +kernel
theorem dX6_isClearOf_59 : decode cX6_isClearOf 59 = .ok (.getfield 56, 3) := by decide +kernel
theorem dX6_isClearOf_62 : decode cX6_isClearOf 62 = .ok (.iadd, 1) := by decide +kernel
theorem dX6_isClearOf_63 : decode cX6_isClearOf 63 = .ok (.istore 4, 2) := by decide +kernel
theorem dX6_isClearOf_65 : decode cX6_isClearOf 65 = .ok (.iload_n 2, 1) := by decide +kernel
theorem dX6_isClearOf_66 : decode cX6_isClearOf 66 = .ok (.iload_n 2, 1) := by decide +kernel
theorem dX6_isClearOf_67 : decode cX6_isClearOf 67 = .ok (.imul, 1) := by decide +kernel
theorem dX6_isClearOf_68 : decode cX6_isClearOf 68 = .ok (.iload_n 3, 1) := by decide +kernel
theorem dX6_isClearOf_69 : decode cX6_isClearOf 69 = .ok (.iload_n 3, 1) := by decide +kernel
theorem dX6_isClearOf_70 : decode cX6_isClearOf 70 = .ok (.imul, 1) := by decide +kernel
theorem dX6_isClearOf_71 : decode cX6_isClearOf 71 = .ok (.iadd, 1) := by decide +kernel
theorem dX6_isClearOf_72 : decode cX6_isClearOf 72 = .ok (.iload 4, 2) := by decide +kernel
theorem dX6_isClearOf_74 : decode cX6_isClearOf 74 = .ok (.iload 4, 2) := by decide +kernel
theorem dX6_isClearOf_76 : decode cX6_isClearOf 76 = .ok (.imul, 1) := by decide +kernel
theorem dX6_isClearOf_77 : decode cX6_isClearOf 77 = .ok (.if_icmp .lt 7, 3) := by decide +kernel
theorem dX6_isClearOf_80 : decode cX6_isClearOf 80 = .ok (.iconst 1, 1) := by decide +kernel
theorem dX6_isClearOf_81 : decode cX6_isClearOf 81 = .ok (.goto 4, 3) := by decide +kernel
theorem dX6_isClearOf_84 : decode cX6_isClearOf 84 = .ok (.iconst 0, 1) := by decide +kernel
theorem dX6_isClearOf_85 : decode cX6_isClearOf 85 = .ok (.ireturn, 1) := by decide +kernel
set_option maxRecDepth 20000 in
theorem ggX6_save_X0_save : GoodIn wsX6_save wsX0_save := goodIn_r _ [10, 11, 12, 13, 27, 28, 29] (by decide +kernel) (by decide +kernel)
set_option maxRecDepth 20000 in
theorem gX6_save_X0_save : GoodIn wsX6_save (wsV RX6 59 RX0 yX0_save wsX0_save) := goodIn_app (goodIn_of _ (by decide +kernel)) ggX6_save_X0_save
set_option maxRecDepth 20000 in
theorem ggX6_save_X7_oneIf : GoodIn wsX6_save wsX7_oneIf := goodIn_r _ [16] (by decide +kernel) (by decide +kernel)
set_option maxRecDepth 20000 in
theorem gX6_save_X7_oneIf_n63 : GoodIn wsX6_save (wsX7_oneIf) := ggX6_save_X7_oneIf
theorem dX6_save_0 : decode cX6_save 0 = .ok (.iload_n 2, 1) := by decide +kernel
theorem dX6_save_1 : decode cX6_save 1 = .ok (.ifCond .lt 12, 3) := by decide +kernel
theorem dX6_save_4 : decode cX6_save 4 = .ok (.iload_n 2, 1) := by decide +kernel
theorem dX6_save_5 : decode cX6_save 5 = .ok (.aload_n 1, 1) := by decide +kernel
theorem dX6_save_6 : decode cX6_save 6 = .ok (.arraylength, 1) := by decide +kernel
theorem dX6_save_7 : decode cX6_save 7 = .ok (.bipush 9, 2) := by decide +kernel
theorem dX6_save_9 : decode cX6_save 9 = .ok (.isub, 1) := by decide +kernel
theorem dX6_save_10 : decode cX6_save 10 = .ok (.if_icmp .le 4, 3) := by decide +kernel
theorem dX6_save_13 : decode cX6_save 13 = .ok (.return_, 1) := by decide +kernel
theorem dX6_save_14 : decode cX6_save 14 = .ok (.aload_n 0, 1) := by decide +kernel
theorem dX6_save_15 : decode cX6_save 15 = .ok (.getfield 12, 3) := by decide +kernel
theorem dX6_save_18 : decode cX6_save 18 = .ok (.aload_n 1, 1) := by decide +kernel
theorem dX6_save_19 : decode cX6_save 19 = .ok (.iload_n 2, 1) := by decide +kernel
theorem dX6_save_20 : decode cX6_save 20 = .ok (.invokevirtual 59, 3) := by decide +kernel
theorem dX6_save_23 : decode cX6_save 23 = .ok (.aload_n 0, 1) := by decide +kernel
theorem dX6_save_24 : decode cX6_save 24 = .ok (.getfield 18, 3) := by decide +kernel
theorem dX6_save_27 : decode cX6_save 27 = .ok (.aload_n 1, 1) := by decide +kernel
theorem dX6_save_28 : decode cX6_save 28 = .ok (.iload_n 2, 1) := by decide +kernel
theorem dX6_save_29 : decode cX6_save 29 = .ok (.iconst 3, 1) := by decide +kernel
theorem dX6_save_30 : decode cX6_save 30 = .ok (.iadd, 1) := by decide +kernel
theorem dX6_save_31 : decode cX6_save 31 = .ok (.invokevirtual 59, 3) := by decide +kernel
theorem dX6_save_34 : decode cX6_save 34 = .ok (.iload_n 2, 1) := by decide +kernel
theorem dX6_save_35 : decode cX6_save 35 = .ok (.bipush 6, 2) := by decide +kernel
theorem dX6_save_37 : decode cX6_save 37 = .ok (.iadd, 1) := by decide +kernel
theorem dX6_save_38 : decode cX6_save 38 = .ok (.istore_n 3, 1) := by decide +kernel
theorem dX6_save_39 : decode cX6_save 39 = .ok (.aload_n 1, 1) := by decide +kernel
theorem dX6_save_40 : decode cX6_save 40 = .ok (.iload_n 3, 1) := by decide +kernel
theorem dX6_save_41 : decode cX6_save 41 = .ok (.aload_n 0, 1) := by decide +kernel
theorem dX6_save_42 : decode cX6_save 42 = .ok (.getfield 40, 3) := by decide +kernel
theorem dX6_save_45 : decode cX6_save 45 = .ok (.invokestatic 63, 3) := by decide +kernel
theorem dX6_save_48 : decode cX6_save 48 = .ok (.iastore, 1) := by decide +kernel
theorem dX6_save_49 : decode cX6_save 49 = .ok (.aload_n 1, 1) := by decide +kernel
theorem dX6_save_50 : decode cX6_save 50 = .ok (.iload_n 3, 1) := by decide +kernel
theorem dX6_save_51 : decode cX6_save 51 = .ok (.iconst 1, 1) := by decide +kernel
theorem dX6_save_52 : decode cX6_save 52 = .ok (.iadd, 1) := by decide +kernel
theorem dX6_save_53 : decode cX6_save 53 = .ok (.aload_n 0, 1) := by decide +kernel
theorem dX6_save_54 : decode cX6_save 54 = .ok (.getfield 44, 3) := by decide +kernel
theorem dX6_save_57 : decode cX6_save 57 = .ok (.invokestatic 63, 3) := by decide +kernel
theorem dX6_save_60 : decode cX6_save 60 = .ok (.iastore, 1) := by decide +kernel
theorem dX6_save_61 : decode cX6_save 61 = .ok (.aload_n 1, 1) := by decide +kernel
theorem dX6_save_62 : decode cX6_save 62 = .ok (.iload_n 3, 1) := by decide +kernel
theorem dX6_save_63 : decode cX6_save 63 = .ok (.iconst 2, 1) := by decide +kernel
theorem dX6_save_64 : decode cX6_save 64 = .ok (.iadd, 1) := by decide +kernel
theorem dX6_save_65 : decode cX6_save 65 = .ok (.aload_n 0, 1) := by decide +kernel
theorem dX6_save_66 : decode cX6_save 66 = .ok (.getfield 47, 3) := by decide +kernel
theorem dX6_save_69 : decode cX6_save 69 = .ok (.iastore, 1) := by decide +kernel
theorem dX6_save_70 : decode cX6_save 70 = .ok (.return_, 1) := by decide +kernel
set_option maxRecDepth 20000 in
theorem ggX6_restore_X0_restore : GoodIn wsX6_restore wsX0_restore := goodIn_r _ [10, 11, 12, 13, 9, 14, 15, 16, 17, 28, 29, 30] (by decide +kernel) (by decide +kernel)
set_option maxRecDepth 20000 in
theorem gX6_restore_X0_restore : GoodIn wsX6_restore (wsV RX6 67 RX0 yX0_restore wsX0_restore) := goodIn_app (goodIn_of _ (by decide +kernel)) ggX6_restore_X0_restore
theorem dX6_restore_0 : decode cX6_restore 0 = .ok (.iload_n 2, 1) := by decide +kernel
theorem dX6_restore_1 : decode cX6_restore 1 = .ok (.ifCond .lt 12, 3) := by decide +kernel
theorem dX6_restore_4 : decode cX6_restore 4 = .ok (.iload_n 2, 1) := by decide +kernel
theorem dX6_restore_5 : decode cX6_restore 5 = .ok (.aload_n 1, 1) := by decide +kernel
theorem dX6_restore_6 : decode cX6_restore 6 = .ok (.arraylength, 1) := by decide +kernel
theorem dX6_restore_7 : decode cX6_restore 7 = .ok (.bipush 9, 2) := by decide +kernel
theorem dX6_restore_9 : decode cX6_restore 9 = .ok (.isub, 1) := by decide +kernel
theorem dX6_restore_10 : decode cX6_restore 10 = .ok (.if_icmp .le 4, 3) := by decide +kernel
theorem dX6_restore_13 : decode cX6_restore 13 = .ok (.return_, 1) := by decide +kernel
theorem dX6_restore_14 : decode cX6_restore 14 = .ok (.aload_n 0, 1) := by decide +kernel
theorem dX6_restore_15 : decode cX6_restore 15 = .ok (.getfield 12, 3) := by decide +kernel
theorem dX6_restore_18 : decode cX6_restore 18 = .ok (.aload_n 1, 1) := by decide +kernel
theorem dX6_restore_19 : decode cX6_restore 19 = .ok (.iload_n 2, 1) := by decide +kernel
theorem dX6_restore_20 : decode cX6_restore 20 = .ok (.invokevirtual 67, 3) := by decide +kernel
theorem dX6_restore_23 : decode cX6_restore 23 = .ok (.aload_n 0, 1) := by decide +kernel
theorem dX6_restore_24 : decode cX6_restore 24 = .ok (.getfield 18, 3) := by decide +kernel
theorem dX6_restore_27 : decode cX6_restore 27 = .ok (.aload_n 1, 1) := by decide +kernel
theorem dX6_restore_28 : decode cX6_restore 28 = .ok (.iload_n 2, 1) := by decide +kernel
theorem dX6_restore_29 : decode cX6_restore 29 = .ok (.iconst 3, 1) := by decide +kernel
theorem dX6_restore_30 : decode cX6_restore 30 = .ok (.iadd, 1) := by decide +kernel
theorem dX6_restore_31 : decode cX6_restore 31 = .ok (.invokevirtual 67, 3) := by decide +kernel
theorem dX6_restore_34 : decode cX6_restore 34 = .ok (.iload_n 2, 1) := by decide +kernel
theorem dX6_restore_35 : decode cX6_restore 35 = .ok (.bipush 6, 2) := by decide +kernel
theorem dX6_restore_37 : decode cX6_restore 37 = .ok (.iadd, 1) := by decide +kernel
theorem dX6_restore_38 : decode cX6_restore 38 = .ok (.istore_n 3, 1) := by decide +kernel
theorem dX6_restore_39 : decode cX6_restore 39 = .ok (.aload_n 0, 1) := by decide +kernel
theorem dX6_restore_40 : decode cX6_restore 40 = .ok (.aload_n 1, 1) := by decide +kernel
theorem dX6_restore_41 : decode cX6_restore 41 = .ok (.iload_n 3, 1) := by decide +kernel
theorem dX6_restore_42 : decode cX6_restore 42 = .ok (.iaload, 1) := by decide +kernel
theorem dX6_restore_43 : decode cX6_restore 43 = .ok (.iconst 1, 1) := by decide +kernel
theorem dX6_restore_44 : decode cX6_restore 44 = .ok (.if_icmp .ne 7, 3) := by decide +kernel
theorem dX6_restore_47 : decode cX6_restore 47 = .ok (.iconst 1, 1) := by decide +kernel
theorem dX6_restore_48 : decode cX6_restore 48 = .ok (.goto 4, 3) := by decide +kernel
theorem dX6_restore_51 : decode cX6_restore 51 = .ok (.iconst 0, 1) := by decide +kernel
theorem dX6_restore_52 : decode cX6_restore 52 = .ok (.putfield 40, 3) := by decide +kernel
theorem dX6_restore_55 : decode cX6_restore 55 = .ok (.aload_n 0, 1) := by decide +kernel
theorem dX6_restore_56 : decode cX6_restore 56 = .ok (.aload_n 1, 1) := by decide +kernel
theorem dX6_restore_57 : decode cX6_restore 57 = .ok (.iload_n 3, 1) := by decide +kernel
theorem dX6_restore_58 : decode cX6_restore 58 = .ok (.iconst 1, 1) := by decide +kernel
theorem dX6_restore_59 : decode cX6_restore 59 = .ok (.iadd, 1) := by decide +kernel
theorem dX6_restore_60 : decode cX6_restore 60 = .ok (.iaload, 1) := by decide +kernel
theorem dX6_restore_61 : decode cX6_restore 61 = .ok (.iconst 1, 1) := by decide +kernel
theorem dX6_restore_62 : decode cX6_restore 62 = .ok (.if_icmp .ne 7, 3) := by decide +kernel
theorem dX6_restore_65 : decode cX6_restore 65 = .ok (.iconst 1, 1) := by decide +kernel
theorem dX6_restore_66 : decode cX6_restore 66 = .ok (.goto 4, 3) := by decide +kernel
theorem dX6_restore_69 : decode cX6_restore 69 = .ok (.iconst 0, 1) := by decide +kernel
theorem dX6_restore_70 : decode cX6_restore 70 = .ok (.putfield 44, 3) := by decide +kernel
theorem dX6_restore_73 : decode cX6_restore 73 = .ok (.aload_n 0, 1) := by decide +kernel
theorem dX6_restore_74 : decode cX6_restore 74 = .ok (.aload_n 1, 1) := by decide +kernel
theorem dX6_restore_75 : decode cX6_restore 75 = .ok (.iload_n 3, 1) := by decide +kernel
theorem dX6_restore_76 : decode cX6_restore 76 = .ok (.iconst 2, 1) := by decide +kernel
theorem dX6_restore_77 : decode cX6_restore 77 = .ok (.iadd, 1) := by decide +kernel
theorem dX6_restore_78 : decode cX6_restore 78 = .ok (.iaload, 1) := by decide +kernel
theorem dX6_restore_79 : decode cX6_restore 79 = .ok (.putfield 47, 3) := by decide +kernel
theorem dX6_restore_82 : decode cX6_restore 82 = .ok (.return_, 1) := by decide +kernel
set_option maxRecDepth 20000 in
theorem ggX7_init_X3_init : GoodIn wsX7_init wsX3_init := goodIn_r _ [21, 22, 2, 3, 23, 24, 192, 193] (by decide +kernel) (by decide +kernel)
set_option maxRecDepth 20000 in
theorem gX7_init_X3_init_n9 : GoodIn wsX7_init (wsX3_init) := ggX7_init_X3_init
set_option maxRecDepth 20000 in
theorem ggX7_init_X5_init : GoodIn wsX7_init wsX5_init := goodIn_r _ [26, 27, 2, 3, 28, 29, 30, 31, 198, 199, 200, 201, 202] (by decide +kernel) (by decide +kernel)
set_option maxRecDepth 20000 in
theorem gX7_init_X5_init_n18 : GoodIn wsX7_init (wsX5_init) := ggX7_init_X5_init
set_option maxRecDepth 20000 in
theorem ggX7_init_X1_init : GoodIn wsX7_init wsX1_init := goodIn_r _ [34, 35, 2, 3, 28, 36, 37, 38, 39, 40, 41, 42, 43, 44, 45, 46, 47, 48, 49, 50, 51, 52, 53, 54, 55, 56, 57, 58, 203, 204, 205, 206, 207, 208, 212, 213, 214, 215, 216, 217, 218, 219, 220, 221, 222, 223, 224, 225, 226, 227, 228, 229, 230, 231, 232, 233, 234, 235, 236] (by decide +kernel) (by decide +kernel)
set_option maxRecDepth 20000 in
theorem gX7_init_X1_init : GoodIn wsX7_init (wsX1_init) := ggX7_init_X1_init
set_option maxRecDepth 20000 in
theorem ggX7_init_X4_init : GoodIn wsX7_init wsX4_init := goodIn_r _ [60, 61, 2, 3, 62, 28, 63, 209, 210, 211] (by decide +kernel) (by decide +kernel)
set_option maxRecDepth 20000 in
theorem gX7_init_X4_init_n32 : GoodIn wsX7_init (wsX4_init) := ggX7_init_X4_init
set_option maxRecDepth 20000 in
theorem ggX7_init_J0_length_8abf5 : GoodIn wsX7_init wsJ0_length_8abf5 := goodIn_r _ [68, 69, 70, 71, 72, 67, 73, 74, 75] (by decide +kernel) (by decide +kernel)
set_option maxRecDepth 20000 in
theorem gX7_init_J0_length_8abf5 : GoodIn wsX7_init (wsV RX7 39 RJ0 yJ0_length_8abf5 wsJ0_length_8abf5) := goodIn_app (goodIn_of _ (by decide +kernel)) ggX7_init_J0_length_8abf5
set_option maxRecDepth 20000 in
theorem ggX7_init_J0_charAt_5068e : GoodIn wsX7_init wsJ0_charAt_5068e := goodIn_r _ [79, 69, 80, 81, 82, 67, 83, 74, 75, 84, 85, 86, 87, 88, 89, 90, 91, 92, 93, 94, 95, 96, 97, 98, 99, 100, 101, 102, 103, 104, 105, 106, 107, 108, 109, 110, 111, 112] (by decide +kernel) (by decide +kernel)
set_option maxRecDepth 20000 in
theorem gX7_init_J0_charAt_5068e : GoodIn wsX7_init (wsV RX7 45 RJ0 yJ0_charAt_5068e wsJ0_charAt_5068e) := goodIn_app (goodIn_of _ (by decide +kernel)) ggX7_init_J0_charAt_5068e
set_option maxRecDepth 20000 in
theorem ggX7_init_X3_append : GoodIn wsX7_init wsX3_append := goodIn_r _ [116, 117, 24, 192, 193] (by decide +kernel) (by decide +kernel)
set_option maxRecDepth 20000 in
theorem gX7_init_X3_append : GoodIn wsX7_init (wsV RX7 49 RX3 yX3_append wsX3_append) := goodIn_app (goodIn_of _ (by decide +kernel)) ggX7_init_X3_append
set_option maxRecDepth 20000 in
theorem ggX7_init_X5_read : GoodIn wsX7_init wsX5_read := goodIn_r _ [121, 122, 123, 124, 125, 126, 127, 128, 10, 129, 130, 131, 132, 6, 133, 117, 24, 134, 135, 136, 137, 29, 138, 139, 140, 141, 142, 143, 144, 145, 146, 147, 148, 149, 150, 151, 152, 31, 153, 154, 198, 199, 200, 201, 202, 192, 193] (by decide +kernel) (by decide +kernel)
set_option maxRecDepth 20000 in
theorem gX7_init_X5_read : GoodIn wsX7_init (wsV RX7 53 RX5 yX5_read wsX5_read) := goodIn_app (goodIn_of _ (by decide +kernel)) ggX7_init_X5_read
set_option maxRecDepth 20000 in
theorem ggX7_init_X1_layOut : GoodIn wsX7_init wsX1_layOut := goodIn_r _ [158, 159, 160, 161, 36, 162, 163, 164, 165, 166, 167, 38, 168, 169, 170, 171, 172, 44, 173, 54, 174, 175, 176, 177, 178, 179, 180, 181, 182, 183, 53, 184, 185, 186, 187, 198, 199, 200, 201, 202, 203, 204, 205, 206, 207, 208, 224, 225, 226, 227, 228, 229, 230, 231, 232, 233, 234, 235, 236] (by decide +kernel) (by decide +kernel)
set_option maxRecDepth 20000 in
theorem gX7_init_X1_layOut : GoodIn wsX7_init (wsV RX7 57 RX1 yX1_layOut wsX1_layOut) := goodIn_app (goodIn_of _ (by decide +kernel)) ggX7_init_X1_layOut
set_option maxRecDepth 20000 in
theorem ggX7_init_X3_clear : GoodIn wsX7_init wsX3_clear := goodIn_r _ [191, 117, 192, 193] (by decide +kernel) (by decide +kernel)
set_option maxRecDepth 20000 in
theorem gX7_init_X3_clear : GoodIn wsX7_init (wsV RX7 61 RX3 yX3_clear wsX3_clear) := goodIn_app (goodIn_of _ (by decide +kernel)) ggX7_init_X3_clear
theorem dX7_init_0 : decode cX7_init 0 = .ok (.aload_n 0, 1) := by decide +kernel
theorem dX7_init_1 : decode cX7_init 1 = .ok (.invokespecial 1, 3) := by decide +kernel
theorem dX7_init_4 : decode cX7_init 4 = .ok (.aload_n 0, 1) := by decide +kernel
theorem dX7_init_5 : decode cX7_init 5 = .ok (.new 7, 3) := by decide +kernel
theorem dX7_init_8 : decode cX7_init 8 = .ok (.dup, 1) := by decide +kernel
theorem dX7_init_9 : decode cX7_init 9 = .ok (.invokespecial 9, 3) := by decide +kernel
theorem dX7_init_12 : decode cX7_init 12 = .ok (.putfield 10, 3) := by decide +kernel
theorem dX7_init_15 : decode cX7_init 15 = .ok (.aload_n 0, 1) := by decide +kernel
theorem dX7_init_16 : decode cX7_init 16 = .ok (.new 16, 3) := by decide +kernel
theorem dX7_init_19 : decode cX7_init 19 = .ok (.dup, 1) := by decide +kernel
theorem dX7_init_20 : decode cX7_init 20 = .ok (.invokespecial 18, 3) := by decide +kernel
theorem dX7_init_23 : decode cX7_init 23 = .ok (.putfield 19, 3) := by decide +kernel
theorem dX7_init_26 : decode cX7_init 26 = .ok (.aload_n 0, 1) := by decide +kernel
theorem dX7_init_27 : decode cX7_init 27 = .ok (.new 23, 3) := by decide +kernel
theorem dX7_init_30 : decode cX7_init 30 = .ok (.dup, 1) := by decide +kernel
theorem dX7_init_31 : decode cX7_init 31 = .ok (.invokespecial 25, 3) := by decide +kernel
theorem dX7_init_34 : decode cX7_init 34 = .ok (.putfield 26, 3) := by decide +kernel
theorem dX7_init_37 : decode cX7_init 37 = .ok (.aload_n 0, 1) := by decide +kernel
theorem dX7_init_38 : decode cX7_init 38 = .ok (.new 30, 3) := by decide +kernel
theorem dX7_init_41 : decode cX7_init 41 = .ok (.dup, 1) := by decide +kernel
theorem dX7_init_42 : decode cX7_init 42 = .ok (.invokespecial 32, 3) := by decide +kernel
theorem dX7_init_45 : decode cX7_init 45 = .ok (.putfield 33, 3) := by decide +kernel
theorem dX7_init_48 : decode cX7_init 48 = .ok (.iconst 0, 1) := by decide +kernel
theorem dX7_init_49 : decode cX7_init 49 = .ok (.istore_n 1, 1) := by decide +kernel
theorem dX7_init_50 : decode cX7_init 50 = .ok (.iload_n 1, 1) := by decide +kernel
theorem dX7_init_51 : decode cX7_init 51 = .ok (.ldc 37, 2) := by decide +kernel
theorem dX7_init_53 : decode cX7_init 53 = .ok (.invokevirtual 39, 3) := by decide +kernel
theorem dX7_init_56 : decode cX7_init 56 = .ok (.if_icmp .ge 23, 3) := by decide +kernel
theorem dX7_init_59 : decode cX7_init 59 = .ok (.aload_n 0, 1) := by decide +kernel
theorem dX7_init_60 : decode cX7_init 60 = .ok (.getfield 10, 3) := by decide +kernel
theorem dX7_init_63 : decode cX7_init 63 = .ok (.ldc 37, 2) := by decide +kernel
theorem dX7_init_65 : decode cX7_init 65 = .ok (.iload_n 1, 1) := by decide +kernel
theorem dX7_init_66 : decode cX7_init 66 = .ok (.invokevirtual 45, 3) := by decide +kernel
theorem dX7_init_69 : decode cX7_init 69 = .ok (.invokevirtual 49, 3) := by decide +kernel
theorem dX7_init_72 : decode cX7_init 72 = .ok (.pop, 1) := by decide +kernel
theorem dX7_init_73 : decode cX7_init 73 = .ok (.iinc 1 1, 3) := by decide +kernel
theorem dX7_init_76 : decode cX7_init 76 = .ok (.goto (-26), 3) := by decide +kernel
theorem dX7_init_79 : decode cX7_init 79 = .ok (.aload_n 0, 1) := by decide +kernel
theorem dX7_init_80 : decode cX7_init 80 = .ok (.getfield 19, 3) := by decide +kernel
theorem dX7_init_83 : decode cX7_init 83 = .ok (.aload_n 0, 1) := by decide +kernel
theorem dX7_init_84 : decode cX7_init 84 = .ok (.getfield 10, 3) := by decide +kernel
theorem dX7_init_87 : decode cX7_init 87 = .ok (.invokevirtual 53, 3) := by decide +kernel
theorem dX7_init_90 : decode cX7_init 90 = .ok (.pop, 1) := by decide +kernel
theorem dX7_init_91 : decode cX7_init 91 = .ok (.aload_n 0, 1) := by decide +kernel
theorem dX7_init_92 : decode cX7_init 92 = .ok (.getfield 26, 3) := by decide +kernel
theorem dX7_init_95 : decode cX7_init 95 = .ok (.aload_n 0, 1) := by decide +kernel
theorem dX7_init_96 : decode cX7_init 96 = .ok (.getfield 19, 3) := by decide +kernel
theorem dX7_init_99 : decode cX7_init 99 = .ok (.invokevirtual 57, 3) := by decide +kernel
theorem dX7_init_102 : decode cX7_init 102 = .ok (.aload_n 0, 1) := by decide +kernel
theorem dX7_init_103 : decode cX7_init 103 = .ok (.getfield 10, 3) := by decide +kernel
theorem dX7_init_106 : decode cX7_init 106 = .ok (.invokevirtual 61, 3) := by decide +kernel
theorem dX7_init_109 : decode cX7_init 109 = .ok (.return_, 1) := by decide +kernel
set_option maxRecDepth 20000 in
theorem ggX7_write_X7_within : GoodIn wsX7_write wsX7_within := goodIn_r _ [6] (by decide +kernel) (by decide +kernel)
set_option maxRecDepth 20000 in
theorem gX7_write_X7_within : GoodIn wsX7_write (va_wsS RX7 64 yX7_within wsX7_within) := goodIn_app (goodIn_of _ (by decide +kernel)) ggX7_write_X7_within
set_option maxRecDepth 20000 in
theorem ggX7_write_X3_append : GoodIn wsX7_write wsX3_append := goodIn_r _ [11, 12, 13, 18, 19] (by decide +kernel) (by decide +kernel)
set_option maxRecDepth 20000 in
theorem gX7_write_X3_append : GoodIn wsX7_write (wsV RX7 49 RX3 yX3_append wsX3_append) := goodIn_app (goodIn_of _ (by decide +kernel)) ggX7_write_X3_append
theorem dX7_write_0 : decode cX7_write 0 = .ok (.iload_n 1, 1) := by decide +kernel
theorem dX7_write_1 : decode cX7_write 1 = .ok (.bipush 32, 2) := by decide +kernel
theorem dX7_write_3 : decode cX7_write 3 = .ok (.bipush 126, 2) := by decide +kernel
theorem dX7_write_5 : decode cX7_write 5 = .ok (.invokestatic 64, 3) := by decide +kernel
theorem dX7_write_8 : decode cX7_write 8 = .ok (.ifCond .ne 5, 3) := by decide +kernel
theorem dX7_write_11 : decode cX7_write 11 = .ok (.iconst (-1), 1) := by decide +kernel
theorem dX7_write_12 : decode cX7_write 12 = .ok (.ireturn, 1) := by decide +kernel
theorem dX7_write_13 : decode cX7_write 13 = .ok (.aload_n 0, 1) := by decide +kernel
theorem dX7_write_14 : decode cX7_write 14 = .ok (.getfield 10, 3) := by decide +kernel
theorem dX7_write_17 : decode cX7_write 17 = .ok (.iload_n 1, 1) := by decide +kernel
theorem dX7_write_18 : decode cX7_write 18 = .ok (.i2c, 1) := by decide +kernel
theorem dX7_write_19 : decode cX7_write 19 = .ok (.invokevirtual 49, 3) := by decide +kernel
theorem dX7_write_22 : decode cX7_write 22 = .ok (.ifCond .eq 13, 3) := by decide +kernel
theorem dX7_write_25 : decode cX7_write 25 = .ok (.aload_n 0, 1) := by decide +kernel
theorem dX7_write_26 : decode cX7_write 26 = .ok (.getfield 10, 3) := by decide +kernel
theorem dX7_write_29 : decode cX7_write 29 = .ok (.getfield 68, 3) := by decide +kernel
theorem dX7_write_32 : decode cX7_write 32 = .ok (.goto 5, 3) := by decide +kernel
theorem dX7_write_35 : decode cX7_write 35 = .ok (.bipush (-3), 2) := by decide +kernel
theorem dX7_write_37 : decode cX7_write 37 = .ok (.ireturn, 1) := by decide +kernel
set_option maxRecDepth 20000 in
theorem ggX7_wipe_X3_clear : GoodIn wsX7_wipe wsX3_clear := goodIn_r _ [7, 8, 13, 14] (by decide +kernel) (by decide +kernel)
set_option maxRecDepth 20000 in
theorem gX7_wipe_X3_clear : GoodIn wsX7_wipe (wsV RX7 61 RX3 yX3_clear wsX3_clear) := goodIn_app (goodIn_of _ (by decide +kernel)) ggX7_wipe_X3_clear
theorem dX7_wipe_0 : decode cX7_wipe 0 = .ok (.aload_n 0, 1) := by decide +kernel
theorem dX7_wipe_1 : decode cX7_wipe 1 = .ok (.getfield 10, 3) := by decide +kernel
theorem dX7_wipe_4 : decode cX7_wipe 4 = .ok (.getfield 68, 3) := by decide +kernel
theorem dX7_wipe_7 : decode cX7_wipe 7 = .ok (.istore_n 1, 1) := by decide +kernel
theorem dX7_wipe_8 : decode cX7_wipe 8 = .ok (.aload_n 0, 1) := by decide +kernel
theorem dX7_wipe_9 : decode cX7_wipe 9 = .ok (.getfield 10, 3) := by decide +kernel
theorem dX7_wipe_12 : decode cX7_wipe 12 = .ok (.invokevirtual 61, 3) := by decide +kernel
theorem dX7_wipe_15 : decode cX7_wipe 15 = .ok (.iload_n 1, 1) := by decide +kernel
theorem dX7_wipe_16 : decode cX7_wipe 16 = .ok (.ireturn, 1) := by decide +kernel
set_option maxRecDepth 20000 in
theorem ggX7_fault_X5_read : GoodIn wsX7_fault wsX5_read := goodIn_r _ [7, 8, 9, 10, 11, 12, 13, 14, 6, 15, 16, 17, 18, 19, 20, 21, 22, 23, 24, 25, 26, 27, 28, 29, 30, 31, 32, 33, 34, 35, 36, 37, 38, 39, 40, 41, 42, 43, 44, 45, 50, 51, 52, 53, 54, 55, 56] (by decide +kernel) (by decide +kernel)
set_option maxRecDepth 20000 in
theorem gX7_fault_X5_read : GoodIn wsX7_fault (wsV RX7 53 RX5 yX5_read wsX5_read) := goodIn_app (goodIn_of _ (by decide +kernel)) ggX7_fault_X5_read
theorem dX7_fault_0 : decode cX7_fault 0 = .ok (.aload_n 0, 1) := by decide +kernel
theorem dX7_fault_1 : decode cX7_fault 1 = .ok (.getfield 19, 3) := by decide +kernel
theorem dX7_fault_4 : decode cX7_fault 4 = .ok (.aload_n 0, 1) := by decide +kernel
theorem dX7_fault_5 : decode cX7_fault 5 = .ok (.getfield 10, 3) := by decide +kernel
theorem dX7_fault_8 : decode cX7_fault 8 = .ok (.invokevirtual 53, 3) := by decide +kernel
theorem dX7_fault_11 : decode cX7_fault 11 = .ok (.ireturn, 1) := by decide +kernel
set_option maxRecDepth 20000 in
theorem ggX7_lay_X5_read : GoodIn wsX7_lay wsX5_read := goodIn_r _ [12, 13, 14, 15, 16, 17, 18, 19, 11, 20, 21, 22, 23, 24, 25, 26, 27, 28, 29, 30, 31, 32, 33, 34, 35, 36, 37, 38, 39, 40, 41, 42, 43, 44, 45, 46, 47, 48, 49, 50, 100, 101, 102, 103, 104, 111, 112] (by decide +kernel) (by decide +kernel)
set_option maxRecDepth 20000 in
theorem gX7_lay_X5_read : GoodIn wsX7_lay (wsV RX7 53 RX5 yX5_read wsX5_read) := goodIn_app (goodIn_of _ (by decide +kernel)) ggX7_lay_X5_read
set_option maxRecDepth 20000 in
theorem ggX7_lay_X1_layOut : GoodIn wsX7_lay wsX1_layOut := goodIn_r _ [55, 56, 57, 58, 59, 60, 61, 62, 63, 64, 65, 66, 67, 68, 69, 70, 71, 72, 73, 74, 75, 76, 77, 78, 79, 80, 81, 82, 83, 84, 85, 86, 87, 88, 89, 100, 101, 102, 103, 104, 105, 106, 107, 108, 109, 110, 113, 114, 115, 116, 117, 118, 119, 120, 121, 122, 123, 124, 125] (by decide +kernel) (by decide +kernel)
set_option maxRecDepth 20000 in
theorem gX7_lay_X1_layOut : GoodIn wsX7_lay (wsV RX7 57 RX1 yX1_layOut wsX1_layOut) := goodIn_app (goodIn_of _ (by decide +kernel)) ggX7_lay_X1_layOut
set_option maxRecDepth 20000 in
theorem ggX7_lay_X4_clear : GoodIn wsX7_lay wsX4_clear := goodIn_r _ [94, 95, 126, 127, 128] (by decide +kernel) (by decide +kernel)
set_option maxRecDepth 20000 in
theorem gX7_lay_X4_clear : GoodIn wsX7_lay (wsV RX7 77 RX4 yX4_clear wsX4_clear) := goodIn_app (goodIn_of _ (by decide +kernel)) ggX7_lay_X4_clear
theorem dX7_lay_0 : decode cX7_lay 0 = .ok (.aload_n 0, 1) := by decide +kernel
theorem dX7_lay_1 : decode cX7_lay 1 = .ok (.getfield 19, 3) := by decide +kernel
theorem dX7_lay_4 : decode cX7_lay 4 = .ok (.aload_n 0, 1) := by decide +kernel
theorem dX7_lay_5 : decode cX7_lay 5 = .ok (.getfield 10, 3) := by decide +kernel
theorem dX7_lay_8 : decode cX7_lay 8 = .ok (.invokevirtual 53, 3) := by decide +kernel
theorem dX7_lay_11 : decode cX7_lay 11 = .ok (.bipush (-4), 2) := by decide +kernel
theorem dX7_lay_13 : decode cX7_lay 13 = .ok (.if_icmp .ne 25, 3) := by decide +kernel
theorem dX7_lay_16 : decode cX7_lay 16 = .ok (.aload_n 0, 1) := by decide +kernel
theorem dX7_lay_17 : decode cX7_lay 17 = .ok (.getfield 19, 3) := by decide +kernel
theorem dX7_lay_20 : decode cX7_lay 20 = .ok (.getfield 71, 3) := by decide +kernel
theorem dX7_lay_23 : decode cX7_lay 23 = .ok (.iconst 2, 1) := by decide +kernel
theorem dX7_lay_24 : decode cX7_lay 24 = .ok (.if_icmp .lt 14, 3) := by decide +kernel
theorem dX7_lay_27 : decode cX7_lay 27 = .ok (.aload_n 0, 1) := by decide +kernel
theorem dX7_lay_28 : decode cX7_lay 28 = .ok (.getfield 19, 3) := by decide +kernel
theorem dX7_lay_31 : decode cX7_lay 31 = .ok (.getfield 74, 3) := by decide +kernel
theorem dX7_lay_34 : decode cX7_lay 34 = .ok (.iconst 1, 1) := by decide +kernel
theorem dX7_lay_35 : decode cX7_lay 35 = .ok (.if_icmp .ge 6, 3) := by decide +kernel
theorem dX7_lay_38 : decode cX7_lay 38 = .ok (.bipush (-2), 2) := by decide +kernel
theorem dX7_lay_40 : decode cX7_lay 40 = .ok (.ireturn, 1) := by decide +kernel
theorem dX7_lay_41 : decode cX7_lay 41 = .ok (.aload_n 0, 1) := by decide +kernel
theorem dX7_lay_42 : decode cX7_lay 42 = .ok (.getfield 26, 3) := by decide +kernel
theorem dX7_lay_45 : decode cX7_lay 45 = .ok (.aload_n 0, 1) := by decide +kernel
theorem dX7_lay_46 : decode cX7_lay 46 = .ok (.getfield 19, 3) := by decide +kernel
theorem dX7_lay_49 : decode cX7_lay 49 = .ok (.invokevirtual 57, 3) := by decide +kernel
theorem dX7_lay_52 : decode cX7_lay 52 = .ok (.aload_n 0, 1) := by decide +kernel
theorem dX7_lay_53 : decode cX7_lay 53 = .ok (.getfield 33, 3) := by decide +kernel
theorem dX7_lay_56 : decode cX7_lay 56 = .ok (.invokevirtual 77, 3) := by decide +kernel
theorem dX7_lay_59 : decode cX7_lay 59 = .ok (.aload_n 0, 1) := by decide +kernel
theorem dX7_lay_60 : decode cX7_lay 60 = .ok (.getfield 26, 3) := by decide +kernel
theorem dX7_lay_63 : decode cX7_lay 63 = .ok (.getfield 78, 3) := by decide +kernel
theorem dX7_lay_66 : decode cX7_lay 66 = .ok (.ireturn, 1) := by decide +kernel
set_option maxRecDepth 20000 in
theorem ggX7_links_X1_shipAt : GoodIn wsX7_links wsX1_shipAt := goodIn_r _ [8, 9, 10, 78, 79, 80, 81, 82, 83] (by decide +kernel) (by decide +kernel)
set_option maxRecDepth 20000 in
theorem gX7_links_X1_shipAt : GoodIn wsX7_links (wsV RX7 81 RX1 yX1_shipAt wsX1_shipAt) := goodIn_app (goodIn_of _ (by decide +kernel)) ggX7_links_X1_shipAt
set_option maxRecDepth 20000 in
theorem ggX7_links_X7_within : GoodIn wsX7_links wsX7_within := goodIn_r _ [14] (by decide +kernel) (by decide +kernel)
set_option maxRecDepth 20000 in
theorem gX7_links_X7_within : GoodIn wsX7_links (va_wsS RX7 64 yX7_within wsX7_within) := goodIn_app (goodIn_of _ (by decide +kernel)) ggX7_links_X7_within
set_option maxRecDepth 20000 in
theorem ggX7_links_X6_anchorAt : GoodIn wsX7_links wsX6_anchorAt := goodIn_r _ [19, 20, 21, 22, 65, 66, 67, 68, 69, 70, 71, 72, 73, 74] (by decide +kernel) (by decide +kernel)
set_option maxRecDepth 20000 in
theorem gX7_links_X6_anchorAt : GoodIn wsX7_links (wsV RX7 85 RX6 yX6_anchorAt wsX6_anchorAt) := goodIn_app (goodIn_of _ (by decide +kernel)) ggX7_links_X6_anchorAt
set_option maxRecDepth 20000 in
theorem ggX7_links_X7_remember : GoodIn wsX7_links wsX7_remember := goodIn_r _ [26, 1, 27, 28, 29, 30, 31, 32, 33, 34, 35, 36, 37, 38, 39, 40, 41, 42, 7, 43, 44, 9, 10, 45, 46, 47, 18, 48, 20, 22, 21, 49, 50, 51, 52, 53, 54, 55, 56, 57, 58, 59, 13, 60, 61, 62, 63, 64, 84, 85, 86, 78, 79, 80, 81, 82, 83, 65, 66, 67, 68, 69, 70, 71, 72, 73, 74, 75, 76, 77] (by decide +kernel) (by decide +kernel)
set_option maxRecDepth 20000 in
theorem gX7_links_X7_remember : GoodIn wsX7_links (wsV RX7 95 RX7 yX7_remember wsX7_remember) := goodIn_app (goodIn_of _ (by decide +kernel)) ggX7_links_X7_remember
theorem dX7_links_0 : decode cX7_links 0 = .ok (.aload_n 0, 1) := by decide +kernel
theorem dX7_links_1 : decode cX7_links 1 = .ok (.getfield 26, 3) := by decide +kernel
theorem dX7_links_4 : decode cX7_links 4 = .ok (.iload_n 1, 1) := by decide +kernel
theorem dX7_links_5 : decode cX7_links 5 = .ok (.invokevirtual 81, 3) := by decide +kernel
theorem dX7_links_8 : decode cX7_links 8 = .ok (.astore 4, 2) := by decide +kernel
theorem dX7_links_10 : decode cX7_links 10 = .ok (.aload 4, 2) := by decide +kernel
theorem dX7_links_12 : decode cX7_links 12 = .ok (.ifnull 22, 3) := by decide +kernel
theorem dX7_links_15 : decode cX7_links 15 = .ok (.iload_n 2, 1) := by decide +kernel
theorem dX7_links_16 : decode cX7_links 16 = .ok (.iconst 0, 1) := by decide +kernel
theorem dX7_links_17 : decode cX7_links 17 = .ok (.iconst 1, 1) := by decide +kernel
theorem dX7_links_18 : decode cX7_links 18 = .ok (.invokestatic 64, 3) := by decide +kernel
theorem dX7_links_21 : decode cX7_links 21 = .ok (.ifCond .eq 13, 3) := by decide +kernel
theorem dX7_links_24 : decode cX7_links 24 = .ok (.iload_n 3, 1) := by decide +kernel
theorem dX7_links_25 : decode cX7_links 25 = .ok (.iconst 1, 1) := by decide +kernel
theorem dX7_links_26 : decode cX7_links 26 = .ok (.bipush 60, 2) := by decide +kernel
theorem dX7_links_28 : decode cX7_links 28 = .ok (.invokestatic 64, 3) := by decide +kernel
theorem dX7_links_31 : decode cX7_links 31 = .ok (.ifCond .ne 5, 3) := by decide +kernel
theorem dX7_links_34 : decode cX7_links 34 = .ok (.iconst (-1), 1) := by decide +kernel
theorem dX7_links_35 : decode cX7_links 35 = .ok (.ireturn, 1) := by decide +kernel
theorem dX7_links_36 : decode cX7_links 36 = .ok (.aload 4, 2) := by decide +kernel
theorem dX7_links_38 : decode cX7_links 38 = .ok (.iload_n 2, 1) := by decide +kernel
theorem dX7_links_39 : decode cX7_links 39 = .ok (.invokevirtual 85, 3) := by decide +kernel
theorem dX7_links_42 : decode cX7_links 42 = .ok (.astore 5, 2) := by decide +kernel
theorem dX7_links_44 : decode cX7_links 44 = .ok (.aload 4, 2) := by decide +kernel
theorem dX7_links_46 : decode cX7_links 46 = .ok (.getfield 91, 3) := by decide +kernel
theorem dX7_links_49 : decode cX7_links 49 = .ok (.ifCond .ne 8, 3) := by decide +kernel
theorem dX7_links_52 : decode cX7_links 52 = .ok (.aload 5, 2) := by decide +kernel
theorem dX7_links_54 : decode cX7_links 54 = .ok (.ifnonnull 6, 3) := by decide +kernel
theorem dX7_links_57 : decode cX7_links 57 = .ok (.bipush (-2), 2) := by decide +kernel
theorem dX7_links_59 : decode cX7_links 59 = .ok (.ireturn, 1) := by decide +kernel
theorem dX7_links_60 : decode cX7_links 60 = .ok (.aload_n 0, 1) := by decide +kernel
theorem dX7_links_61 : decode cX7_links 61 = .ok (.invokevirtual 95, 3) := by decide +kernel
theorem dX7_links_64 : decode cX7_links 64 = .ok (.aload 5, 2) := by decide +kernel
theorem dX7_links_66 : decode cX7_links 66 = .ok (.getfield 98, 3) := by decide +kernel
theorem dX7_links_69 : decode cX7_links 69 = .ok (.istore 6, 2) := by decide +kernel
theorem dX7_links_71 : decode cX7_links 71 = .ok (.aload 5, 2) := by decide +kernel
theorem dX7_links_73 : decode cX7_links 73 = .ok (.iload_n 3, 1) := by decide +kernel
theorem dX7_links_74 : decode cX7_links 74 = .ok (.putfield 98, 3) := by decide +kernel
theorem dX7_links_77 : decode cX7_links 77 = .ok (.iload 6, 2) := by decide +kernel
theorem dX7_links_79 : decode cX7_links 79 = .ok (.ireturn, 1) := by decide +kernel
set_option maxRecDepth 20000 in
theorem ggX7_moor_X1_shipAt : GoodIn wsX7_moor wsX1_shipAt := goodIn_r _ [9, 10, 11, 86, 87, 88, 89, 90, 91] (by decide +kernel) (by decide +kernel)
set_option maxRecDepth 20000 in
theorem gX7_moor_X1_shipAt : GoodIn wsX7_moor (wsV RX7 81 RX1 yX1_shipAt wsX1_shipAt) := goodIn_app (goodIn_of _ (by decide +kernel)) ggX7_moor_X1_shipAt
set_option maxRecDepth 20000 in
theorem ggX7_moor_X1_isCell : GoodIn wsX7_moor wsX1_isCell := goodIn_r _ [15, 16, 17, 18, 19, 86, 87, 88, 89, 90, 91] (by decide +kernel) (by decide +kernel)
set_option maxRecDepth 20000 in
theorem gX7_moor_X1_isCell : GoodIn wsX7_moor (wsV RX7 103 RX1 yX1_isCell wsX1_isCell) := goodIn_app (goodIn_of _ (by decide +kernel)) ggX7_moor_X1_isCell
set_option maxRecDepth 20000 in
theorem ggX7_moor_X7_within : GoodIn wsX7_moor wsX7_within := goodIn_r _ [19] (by decide +kernel) (by decide +kernel)
set_option maxRecDepth 20000 in
theorem gX7_moor_X7_within : GoodIn wsX7_moor (va_wsS RX7 64 yX7_within wsX7_within) := goodIn_app (goodIn_of _ (by decide +kernel)) ggX7_moor_X7_within
set_option maxRecDepth 20000 in
theorem ggX7_moor_X7_remember : GoodIn wsX7_moor wsX7_remember := goodIn_r _ [24, 1, 25, 26, 27, 28, 29, 30, 31, 32, 33, 34, 35, 36, 37, 38, 39, 40, 8, 41, 42, 10, 11, 43, 44, 45, 46, 47, 48, 49, 50, 51, 52, 53, 54, 55, 56, 57, 58, 59, 60, 61, 18, 62, 72, 73, 74, 75, 92, 93, 94, 86, 87, 88, 89, 90, 91, 76, 77, 78, 79, 80, 81, 82, 83, 84, 85, 95, 96, 97] (by decide +kernel) (by decide +kernel)
set_option maxRecDepth 20000 in
theorem gX7_moor_X7_remember : GoodIn wsX7_moor (wsV RX7 95 RX7 yX7_remember wsX7_remember) := goodIn_app (goodIn_of _ (by decide +kernel)) ggX7_moor_X7_remember
set_option maxRecDepth 20000 in
theorem ggX7_moor_X0_put : GoodIn wsX7_moor wsX0_put := goodIn_r _ [66, 58, 59, 60, 95, 96, 97] (by decide +kernel) (by decide +kernel)
set_option maxRecDepth 20000 in
theorem gX7_moor_X0_put : GoodIn wsX7_moor (wsV RX7 114 RX0 yX0_put wsX0_put) := goodIn_app (goodIn_of _ (by decide +kernel)) ggX7_moor_X0_put
set_option maxRecDepth 20000 in
theorem ggX7_moor_X1_depthAt : GoodIn wsX7_moor wsX1_depthAt := goodIn_r _ [70, 71, 86, 87, 88, 89, 90, 91] (by decide +kernel) (by decide +kernel)
set_option maxRecDepth 20000 in
theorem gX7_moor_X1_depthAt : GoodIn wsX7_moor (wsV RX7 118 RX1 yX1_depthAt wsX1_depthAt) := goodIn_app (goodIn_of _ (by decide +kernel)) ggX7_moor_X1_depthAt
theorem dX7_moor_0 : decode cX7_moor 0 = .ok (.aload_n 0, 1) := by decide +kernel
theorem dX7_moor_1 : decode cX7_moor 1 = .ok (.getfield 26, 3) := by decide +kernel
theorem dX7_moor_4 : decode cX7_moor 4 = .ok (.iload_n 1, 1) := by decide +kernel
theorem dX7_moor_5 : decode cX7_moor 5 = .ok (.invokevirtual 81, 3) := by decide +kernel
theorem dX7_moor_8 : decode cX7_moor 8 = .ok (.astore 5, 2) := by decide +kernel
theorem dX7_moor_10 : decode cX7_moor 10 = .ok (.aload 5, 2) := by decide +kernel
theorem dX7_moor_12 : decode cX7_moor 12 = .ok (.ifnull 26, 3) := by decide +kernel
theorem dX7_moor_15 : decode cX7_moor 15 = .ok (.aload_n 0, 1) := by decide +kernel
theorem dX7_moor_16 : decode cX7_moor 16 = .ok (.getfield 26, 3) := by decide +kernel
theorem dX7_moor_19 : decode cX7_moor 19 = .ok (.iload_n 2, 1) := by decide +kernel
theorem dX7_moor_20 : decode cX7_moor 20 = .ok (.iload_n 3, 1) := by decide +kernel
theorem dX7_moor_21 : decode cX7_moor 21 = .ok (.invokevirtual 103, 3) := by decide +kernel
theorem dX7_moor_24 : decode cX7_moor 24 = .ok (.ifCond .eq 14, 3) := by decide +kernel
theorem dX7_moor_27 : decode cX7_moor 27 = .ok (.iload 4, 2) := by decide +kernel
theorem dX7_moor_29 : decode cX7_moor 29 = .ok (.iconst 1, 1) := by decide +kernel
theorem dX7_moor_30 : decode cX7_moor 30 = .ok (.bipush 60, 2) := by decide +kernel
theorem dX7_moor_32 : decode cX7_moor 32 = .ok (.invokestatic 64, 3) := by decide +kernel
theorem dX7_moor_35 : decode cX7_moor 35 = .ok (.ifCond .ne 5, 3) := by decide +kernel
theorem dX7_moor_38 : decode cX7_moor 38 = .ok (.iconst (-1), 1) := by decide +kernel
theorem dX7_moor_39 : decode cX7_moor 39 = .ok (.ireturn, 1) := by decide +kernel
theorem dX7_moor_40 : decode cX7_moor 40 = .ok (.aload 5, 2) := by decide +kernel
theorem dX7_moor_42 : decode cX7_moor 42 = .ok (.getfield 91, 3) := by decide +kernel
theorem dX7_moor_45 : decode cX7_moor 45 = .ok (.ifCond .ne 11, 3) := by decide +kernel
theorem dX7_moor_48 : decode cX7_moor 48 = .ok (.aload 5, 2) := by decide +kernel
theorem dX7_moor_50 : decode cX7_moor 50 = .ok (.getfield 107, 3) := by decide +kernel
theorem dX7_moor_53 : decode cX7_moor 53 = .ok (.ifCond .eq 6, 3) := by decide +kernel
theorem dX7_moor_56 : decode cX7_moor 56 = .ok (.bipush (-2), 2) := by decide +kernel
theorem dX7_moor_58 : decode cX7_moor 58 = .ok (.ireturn, 1) := by decide +kernel
theorem dX7_moor_59 : decode cX7_moor 59 = .ok (.aload_n 0, 1) := by decide +kernel
theorem dX7_moor_60 : decode cX7_moor 60 = .ok (.invokevirtual 95, 3) := by decide +kernel
theorem dX7_moor_63 : decode cX7_moor 63 = .ok (.aload 5, 2) := by decide +kernel
theorem dX7_moor_65 : decode cX7_moor 65 = .ok (.iconst 1, 1) := by decide +kernel
theorem dX7_moor_66 : decode cX7_moor 66 = .ok (.putfield 107, 3) := by decide +kernel
theorem dX7_moor_69 : decode cX7_moor 69 = .ok (.aload 5, 2) := by decide +kernel
theorem dX7_moor_71 : decode cX7_moor 71 = .ok (.getfield 110, 3) := by decide +kernel
theorem dX7_moor_74 : decode cX7_moor 74 = .ok (.iload_n 2, 1) := by decide +kernel
theorem dX7_moor_75 : decode cX7_moor 75 = .ok (.iload_n 3, 1) := by decide +kernel
theorem dX7_moor_76 : decode cX7_moor 76 = .ok (.iload 4, 2) := by decide +kernel
theorem dX7_moor_78 : decode cX7_moor 78 = .ok (.invokevirtual 114, 3) := by decide +kernel
theorem dX7_moor_81 : decode cX7_moor 81 = .ok (.aload_n 0, 1) := by decide +kernel
theorem dX7_moor_82 : decode cX7_moor 82 = .ok (.getfield 26, 3) := by decide +kernel
theorem dX7_moor_85 : decode cX7_moor 85 = .ok (.iload_n 2, 1) := by decide +kernel
theorem dX7_moor_86 : decode cX7_moor 86 = .ok (.invokevirtual 118, 3) := by decide +kernel
theorem dX7_moor_89 : decode cX7_moor 89 = .ok (.ireturn, 1) := by decide +kernel
set_option maxRecDepth 20000 in
theorem ggX7_weigh_X1_shipAt : GoodIn wsX7_weigh wsX1_shipAt := goodIn_r _ [10, 11, 12, 73, 74, 75, 76, 77, 78] (by decide +kernel) (by decide +kernel)
set_option maxRecDepth 20000 in
theorem gX7_weigh_X1_shipAt : GoodIn wsX7_weigh (wsV RX7 81 RX1 yX1_shipAt wsX1_shipAt) := goodIn_app (goodIn_of _ (by decide +kernel)) ggX7_weigh_X1_shipAt
set_option maxRecDepth 20000 in
theorem ggX7_weigh_X7_remember : GoodIn wsX7_weigh wsX7_remember := goodIn_r _ [17, 1, 18, 19, 20, 21, 22, 23, 24, 25, 26, 27, 28, 29, 30, 31, 32, 33, 9, 34, 35, 11, 12, 36, 37, 38, 39, 40, 41, 42, 43, 44, 45, 46, 47, 48, 49, 50, 51, 52, 53, 54, 16, 55, 56, 57, 58, 59, 79, 80, 81, 73, 74, 75, 76, 77, 78, 60, 61, 62, 63, 64, 65, 66, 67, 68, 69, 70, 71, 72] (by decide +kernel) (by decide +kernel)
set_option maxRecDepth 20000 in
theorem gX7_weigh_X7_remember : GoodIn wsX7_weigh (wsV RX7 95 RX7 yX7_remember wsX7_remember) := goodIn_app (goodIn_of _ (by decide +kernel)) ggX7_weigh_X7_remember
theorem dX7_weigh_0 : decode cX7_weigh 0 = .ok (.aload_n 0, 1) := by decide +kernel
theorem dX7_weigh_1 : decode cX7_weigh 1 = .ok (.getfield 26, 3) := by decide +kernel
theorem dX7_weigh_4 : decode cX7_weigh 4 = .ok (.iload_n 1, 1) := by decide +kernel
theorem dX7_weigh_5 : decode cX7_weigh 5 = .ok (.invokevirtual 81, 3) := by decide +kernel
theorem dX7_weigh_8 : decode cX7_weigh 8 = .ok (.astore_n 2, 1) := by decide +kernel
theorem dX7_weigh_9 : decode cX7_weigh 9 = .ok (.aload_n 2, 1) := by decide +kernel
theorem dX7_weigh_10 : decode cX7_weigh 10 = .ok (.ifnonnull 5, 3) := by decide +kernel
theorem dX7_weigh_13 : decode cX7_weigh 13 = .ok (.iconst (-1), 1) := by decide +kernel
theorem dX7_weigh_14 : decode cX7_weigh 14 = .ok (.ireturn, 1) := by decide +kernel
theorem dX7_weigh_15 : decode cX7_weigh 15 = .ok (.aload_n 2, 1) := by decide +kernel
theorem dX7_weigh_16 : decode cX7_weigh 16 = .ok (.getfield 91, 3) := by decide +kernel
theorem dX7_weigh_19 : decode cX7_weigh 19 = .ok (.ifCond .ne 10, 3) := by decide +kernel
theorem dX7_weigh_22 : decode cX7_weigh 22 = .ok (.aload_n 2, 1) := by decide +kernel
theorem dX7_weigh_23 : decode cX7_weigh 23 = .ok (.getfield 107, 3) := by decide +kernel
theorem dX7_weigh_26 : decode cX7_weigh 26 = .ok (.ifCond .ne 6, 3) := by decide +kernel
theorem dX7_weigh_29 : decode cX7_weigh 29 = .ok (.bipush (-2), 2) := by decide +kernel
theorem dX7_weigh_31 : decode cX7_weigh 31 = .ok (.ireturn, 1) := by decide +kernel
theorem dX7_weigh_32 : decode cX7_weigh 32 = .ok (.aload_n 0, 1) := by decide +kernel
theorem dX7_weigh_33 : decode cX7_weigh 33 = .ok (.invokevirtual 95, 3) := by decide +kernel
theorem dX7_weigh_36 : decode cX7_weigh 36 = .ok (.aload_n 2, 1) := by decide +kernel
theorem dX7_weigh_37 : decode cX7_weigh 37 = .ok (.iconst 0, 1) := by decide +kernel
theorem dX7_weigh_38 : decode cX7_weigh 38 = .ok (.putfield 107, 3) := by decide +kernel
theorem dX7_weigh_41 : decode cX7_weigh 41 = .ok (.aload_n 2, 1) := by decide +kernel
theorem dX7_weigh_42 : decode cX7_weigh 42 = .ok (.getfield 110, 3) := by decide +kernel
theorem dX7_weigh_45 : decode cX7_weigh 45 = .ok (.getfield 98, 3) := by decide +kernel
theorem dX7_weigh_48 : decode cX7_weigh 48 = .ok (.ireturn, 1) := by decide +kernel
set_option maxRecDepth 20000 in
theorem ggX7_hours_X7_within : GoodIn wsX7_hours wsX7_within := goodIn_r _ [6] (by decide +kernel) (by decide +kernel)
set_option maxRecDepth 20000 in
theorem gX7_hours_X7_within : GoodIn wsX7_hours (va_wsS RX7 64 yX7_within wsX7_within) := goodIn_app (goodIn_of _ (by decide +kernel)) ggX7_hours_X7_within
set_option maxRecDepth 20000 in
theorem ggX7_hours_X7_isWind : GoodIn wsX7_hours wsX7_isWind := goodIn_r _ [9, 3, 4, 5, 6] (by decide +kernel) (by decide +kernel)
set_option maxRecDepth 20000 in
theorem gX7_hours_X7_isWind : GoodIn wsX7_hours (va_wsS RX7 122 yX7_isWind wsX7_isWind) := goodIn_app (goodIn_of _ (by decide +kernel)) ggX7_hours_X7_isWind
set_option maxRecDepth 20000 in
theorem ggX7_hours_X7_remember : GoodIn wsX7_hours wsX7_remember := goodIn_r _ [13, 1, 14, 15, 16, 17, 18, 19, 20, 21, 22, 23, 24, 25, 26, 27, 28, 29, 30, 31, 32, 33, 34, 35, 36, 37, 38, 39, 40, 41, 42, 43, 44, 45, 46, 47, 48, 49, 50, 51, 52, 53, 5, 54, 136, 137, 138, 139, 146, 147, 148, 140, 141, 142, 143, 144, 145, 149, 150, 151, 152, 153, 154, 155, 156, 157, 158, 159, 160, 161] (by decide +kernel) (by decide +kernel)
set_option maxRecDepth 20000 in
theorem gX7_hours_X7_remember : GoodIn wsX7_hours (wsV RX7 95 RX7 yX7_remember wsX7_remember) := goodIn_app (goodIn_of _ (by decide +kernel)) ggX7_hours_X7_remember
set_option maxRecDepth 20000 in
theorem ggX7_hours_X1_passHour : GoodIn wsX7_hours wsX1_passHour := goodIn_r _ [58, 33, 34, 59, 60, 61, 32, 62, 63, 64, 30, 65, 66, 67, 68, 69, 38, 70, 71, 72, 73, 74, 75, 76, 77, 78, 79, 80, 81, 82, 83, 84, 85, 86, 87, 88, 89, 90, 91, 92, 93, 94, 95, 96, 97, 98, 99, 100, 101, 102, 103, 104, 105, 106, 107, 108, 109, 110, 111, 112, 113, 114, 115, 116, 117, 118, 119, 120, 121, 122, 123, 124, 125, 126, 53, 5, 54, 127, 128, 129, 130, 131, 4, 6, 132, 133, 134, 48, 135, 50, 51, 52, 140, 141, 142, 143, 144, 145, 149, 150, 151, 152, 153, 154, 155, 156, 157, 158, 159, 160, 161, 162, 163, 164, 165, 166, 167, 168, 169, 170, 171, 172, 173] (by decide +kernel) (by decide +kernel)
set_option maxRecDepth 20000 in
theorem gX7_hours_X1_passHour : GoodIn wsX7_hours (wsV RX7 129 RX1 yX1_passHour wsX1_passHour) := goodIn_app (goodIn_of _ (by decide +kernel)) ggX7_hours_X1_passHour
theorem dX7_hours_0 : decode cX7_hours 0 = .ok (.iload_n 1, 1) := by decide +kernel
theorem dX7_hours_1 : decode cX7_hours 1 = .ok (.iconst 1, 1) := by decide +kernel
theorem dX7_hours_2 : decode cX7_hours 2 = .ok (.bipush 24, 2) := by decide +kernel
theorem dX7_hours_4 : decode cX7_hours 4 = .ok (.invokestatic 64, 3) := by decide +kernel
theorem dX7_hours_7 : decode cX7_hours 7 = .ok (.ifCond .eq 19, 3) := by decide +kernel
theorem dX7_hours_10 : decode cX7_hours 10 = .ok (.iload_n 2, 1) := by decide +kernel
theorem dX7_hours_11 : decode cX7_hours 11 = .ok (.invokestatic 122, 3) := by decide +kernel
theorem dX7_hours_14 : decode cX7_hours 14 = .ok (.ifCond .eq 12, 3) := by decide +kernel
theorem dX7_hours_17 : decode cX7_hours 17 = .ok (.iload_n 3, 1) := by decide +kernel
theorem dX7_hours_18 : decode cX7_hours 18 = .ok (.iconst 0, 1) := by decide +kernel
theorem dX7_hours_19 : decode cX7_hours 19 = .ok (.iconst 3, 1) := by decide +kernel
theorem dX7_hours_20 : decode cX7_hours 20 = .ok (.invokestatic 64, 3) := by decide +kernel
theorem dX7_hours_23 : decode cX7_hours 23 = .ok (.ifCond .ne 5, 3) := by decide +kernel
theorem dX7_hours_26 : decode cX7_hours 26 = .ok (.iconst (-1), 1) := by decide +kernel
theorem dX7_hours_27 : decode cX7_hours 27 = .ok (.ireturn, 1) := by decide +kernel
theorem dX7_hours_28 : decode cX7_hours 28 = .ok (.aload_n 0, 1) := by decide +kernel
theorem dX7_hours_29 : decode cX7_hours 29 = .ok (.getfield 26, 3) := by decide +kernel
theorem dX7_hours_32 : decode cX7_hours 32 = .ok (.getfield 126, 3) := by decide +kernel
theorem dX7_hours_35 : decode cX7_hours 35 = .ok (.iload_n 1, 1) := by decide +kernel
theorem dX7_hours_36 : decode cX7_hours 36 = .ok (.iadd, 1) := by decide +kernel
theorem dX7_hours_37 : decode cX7_hours 37 = .ok (.sipush 999, 3) := by decide +kernel
theorem dX7_hours_40 : decode cX7_hours 40 = .ok (.if_icmp .le 6, 3) := by decide +kernel
theorem dX7_hours_43 : decode cX7_hours 43 = .ok (.bipush (-2), 2) := by decide +kernel
theorem dX7_hours_45 : decode cX7_hours 45 = .ok (.ireturn, 1) := by decide +kernel
theorem dX7_hours_46 : decode cX7_hours 46 = .ok (.aload_n 0, 1) := by decide +kernel
theorem dX7_hours_47 : decode cX7_hours 47 = .ok (.invokevirtual 95, 3) := by decide +kernel
theorem dX7_hours_50 : decode cX7_hours 50 = .ok (.iconst 0, 1) := by decide +kernel
theorem dX7_hours_51 : decode cX7_hours 51 = .ok (.istore 4, 2) := by decide +kernel
theorem dX7_hours_53 : decode cX7_hours 53 = .ok (.iconst 0, 1) := by decide +kernel
theorem dX7_hours_54 : decode cX7_hours 54 = .ok (.istore 5, 2) := by decide +kernel
theorem dX7_hours_56 : decode cX7_hours 56 = .ok (.iload 5, 2) := by decide +kernel
theorem dX7_hours_58 : decode cX7_hours 58 = .ok (.iload_n 1, 1) := by decide +kernel
theorem dX7_hours_59 : decode cX7_hours 59 = .ok (.if_icmp .ge 23, 3) := by decide +kernel
theorem dX7_hours_62 : decode cX7_hours 62 = .ok (.iload 4, 2) := by decide +kernel
theorem dX7_hours_64 : decode cX7_hours 64 = .ok (.aload_n 0, 1) := by decide +kernel
theorem dX7_hours_65 : decode cX7_hours 65 = .ok (.getfield 26, 3) := by decide +kernel
theorem dX7_hours_68 : decode cX7_hours 68 = .ok (.iload_n 2, 1) := by decide +kernel
theorem dX7_hours_69 : decode cX7_hours 69 = .ok (.iload_n 3, 1) := by decide +kernel
theorem dX7_hours_70 : decode cX7_hours 70 = .ok (.invokevirtual 129, 3) := by decide +kernel
theorem dX7_hours_73 : decode cX7_hours 73 = .ok (.iadd, 1) := by decide +kernel
theorem dX7_hours_74 : decode cX7_hours 74 = .ok (.istore 4, 2) := by decide +kernel
theorem dX7_hours_76 : decode cX7_hours 76 = .ok (.iinc 5 1, 3) := by decide +kernel
theorem dX7_hours_79 : decode cX7_hours 79 = .ok (.goto (-23), 3) := by decide +kernel
theorem dX7_hours_82 : decode cX7_hours 82 = .ok (.iload 4, 2) := by decide +kernel
theorem dX7_hours_84 : decode cX7_hours 84 = .ok (.ireturn, 1) := by decide +kernel
set_option maxRecDepth 20000 in
theorem ggX7_undo_X4_takeLatest : GoodIn wsX7_undo wsX4_takeLatest := goodIn_r _ [8, 9, 10, 11, 46, 47, 48] (by decide +kernel) (by decide +kernel)
set_option maxRecDepth 20000 in
theorem gX7_undo_X4_takeLatest : GoodIn wsX7_undo (wsV RX7 133 RX4 yX4_takeLatest wsX4_takeLatest) := goodIn_app (goodIn_of _ (by decide +kernel)) ggX7_undo_X4_takeLatest
set_option maxRecDepth 20000 in
theorem ggX7_undo_X1_restore : GoodIn wsX7_undo wsX1_restore := goodIn_r _ [16, 17, 18, 19, 20, 21, 22, 23, 24, 25, 26, 27, 28, 29, 30, 31, 32, 33, 34, 35, 36, 37, 38, 39, 40, 41, 49, 50, 51, 52, 53, 54, 55, 56, 57, 58, 59, 60, 61, 62, 63, 64, 65, 66, 67] (by decide +kernel) (by decide +kernel)
set_option maxRecDepth 20000 in
theorem gX7_undo_X1_restore : GoodIn wsX7_undo (wsV RX7 137 RX1 yX1_restore wsX1_restore) := goodIn_app (goodIn_of _ (by decide +kernel)) ggX7_undo_X1_restore
theorem dX7_undo_0 : decode cX7_undo 0 = .ok (.aload_n 0, 1) := by decide +kernel
theorem dX7_undo_1 : decode cX7_undo 1 = .ok (.getfield 33, 3) := by decide +kernel
theorem dX7_undo_4 : decode cX7_undo 4 = .ok (.invokevirtual 133, 3) := by decide +kernel
theorem dX7_undo_7 : decode cX7_undo 7 = .ok (.astore_n 1, 1) := by decide +kernel
theorem dX7_undo_8 : decode cX7_undo 8 = .ok (.aload_n 1, 1) := by decide +kernel
theorem dX7_undo_9 : decode cX7_undo 9 = .ok (.ifnonnull 6, 3) := by decide +kernel
theorem dX7_undo_12 : decode cX7_undo 12 = .ok (.bipush (-2), 2) := by decide +kernel
theorem dX7_undo_14 : decode cX7_undo 14 = .ok (.ireturn, 1) := by decide +kernel
theorem dX7_undo_15 : decode cX7_undo 15 = .ok (.aload_n 0, 1) := by decide +kernel
theorem dX7_undo_16 : decode cX7_undo 16 = .ok (.getfield 26, 3) := by decide +kernel
theorem dX7_undo_19 : decode cX7_undo 19 = .ok (.aload_n 1, 1) := by decide +kernel
theorem dX7_undo_20 : decode cX7_undo 20 = .ok (.invokevirtual 137, 3) := by decide +kernel
theorem dX7_undo_23 : decode cX7_undo 23 = .ok (.aload_n 0, 1) := by decide +kernel
theorem dX7_undo_24 : decode cX7_undo 24 = .ok (.getfield 33, 3) := by decide +kernel
theorem dX7_undo_27 : decode cX7_undo 27 = .ok (.getfield 141, 3) := by decide +kernel
theorem dX7_undo_30 : decode cX7_undo 30 = .ok (.ireturn, 1) := by decide +kernel
set_option maxRecDepth 20000 in
theorem ggX7_anchor_X1_shipAt : GoodIn wsX7_anchor wsX1_shipAt := goodIn_r _ [9, 10, 11, 31, 32, 33, 34, 35, 36] (by decide +kernel) (by decide +kernel)
set_option maxRecDepth 20000 in
theorem gX7_anchor_X1_shipAt : GoodIn wsX7_anchor (wsV RX7 81 RX1 yX1_shipAt wsX1_shipAt) := goodIn_app (goodIn_of _ (by decide +kernel)) ggX7_anchor_X1_shipAt
set_option maxRecDepth 20000 in
theorem ggX7_anchor_X7_within : GoodIn wsX7_anchor wsX7_within := goodIn_r _ [15] (by decide +kernel) (by decide +kernel)
set_option maxRecDepth 20000 in
theorem gX7_anchor_X7_within : GoodIn wsX7_anchor (va_wsS RX7 64 yX7_within wsX7_within) := goodIn_app (goodIn_of _ (by decide +kernel)) ggX7_anchor_X7_within
set_option maxRecDepth 20000 in
theorem ggX7_anchor_X6_anchorAt : GoodIn wsX7_anchor wsX6_anchorAt := goodIn_r _ [20, 21, 22, 23, 37, 38, 39, 40, 41, 42, 43, 44, 45, 46] (by decide +kernel) (by decide +kernel)
set_option maxRecDepth 20000 in
theorem gX7_anchor_X6_anchorAt : GoodIn wsX7_anchor (wsV RX7 85 RX6 yX6_anchorAt wsX6_anchorAt) := goodIn_app (goodIn_of _ (by decide +kernel)) ggX7_anchor_X6_anchorAt
theorem dX7_anchor_0 : decode cX7_anchor 0 = .ok (.aload_n 0, 1) := by decide +kernel
theorem dX7_anchor_1 : decode cX7_anchor 1 = .ok (.getfield 26, 3) := by decide +kernel
theorem dX7_anchor_4 : decode cX7_anchor 4 = .ok (.iload_n 1, 1) := by decide +kernel
theorem dX7_anchor_5 : decode cX7_anchor 5 = .ok (.invokevirtual 81, 3) := by decide +kernel
theorem dX7_anchor_8 : decode cX7_anchor 8 = .ok (.astore 4, 2) := by decide +kernel
theorem dX7_anchor_10 : decode cX7_anchor 10 = .ok (.aload 4, 2) := by decide +kernel
theorem dX7_anchor_12 : decode cX7_anchor 12 = .ok (.ifnull 21, 3) := by decide +kernel
theorem dX7_anchor_15 : decode cX7_anchor 15 = .ok (.iload_n 2, 1) := by decide +kernel
theorem dX7_anchor_16 : decode cX7_anchor 16 = .ok (.iconst 0, 1) := by decide +kernel
theorem dX7_anchor_17 : decode cX7_anchor 17 = .ok (.iconst 1, 1) := by decide +kernel
theorem dX7_anchor_18 : decode cX7_anchor 18 = .ok (.invokestatic 64, 3) := by decide +kernel
theorem dX7_anchor_21 : decode cX7_anchor 21 = .ok (.ifCond .eq 12, 3) := by decide +kernel
theorem dX7_anchor_24 : decode cX7_anchor 24 = .ok (.iload_n 3, 1) := by decide +kernel
theorem dX7_anchor_25 : decode cX7_anchor 25 = .ok (.iconst 0, 1) := by decide +kernel
theorem dX7_anchor_26 : decode cX7_anchor 26 = .ok (.iconst 2, 1) := by decide +kernel
theorem dX7_anchor_27 : decode cX7_anchor 27 = .ok (.invokestatic 64, 3) := by decide +kernel
theorem dX7_anchor_30 : decode cX7_anchor 30 = .ok (.ifCond .ne 5, 3) := by decide +kernel
theorem dX7_anchor_33 : decode cX7_anchor 33 = .ok (.iconst (-1), 1) := by decide +kernel
theorem dX7_anchor_34 : decode cX7_anchor 34 = .ok (.ireturn, 1) := by decide +kernel
theorem dX7_anchor_35 : decode cX7_anchor 35 = .ok (.aload 4, 2) := by decide +kernel
theorem dX7_anchor_37 : decode cX7_anchor 37 = .ok (.iload_n 2, 1) := by decide +kernel
theorem dX7_anchor_38 : decode cX7_anchor 38 = .ok (.invokevirtual 85, 3) := by decide +kernel
theorem dX7_anchor_41 : decode cX7_anchor 41 = .ok (.astore 5, 2) := by decide +kernel
theorem dX7_anchor_43 : decode cX7_anchor 43 = .ok (.aload 5, 2) := by decide +kernel
theorem dX7_anchor_45 : decode cX7_anchor 45 = .ok (.ifnonnull 6, 3) := by decide +kernel
theorem dX7_anchor_48 : decode cX7_anchor 48 = .ok (.bipush (-4), 2) := by decide +kernel
theorem dX7_anchor_50 : decode cX7_anchor 50 = .ok (.ireturn, 1) := by decide +kernel
theorem dX7_anchor_51 : decode cX7_anchor 51 = .ok (.iload_n 3, 1) := by decide +kernel
theorem dX7_anchor_52 : decode cX7_anchor 52 = .ok (.lookupswitch 40 #[(0, 28), (1, 34)], 28) := by decide +kernel
theorem dX7_anchor_80 : decode cX7_anchor 80 = .ok (.aload 5, 2) := by decide +kernel
theorem dX7_anchor_82 : decode cX7_anchor 82 = .ok (.getfield 144, 3) := by decide +kernel
theorem dX7_anchor_85 : decode cX7_anchor 85 = .ok (.ireturn, 1) := by decide +kernel
theorem dX7_anchor_86 : decode cX7_anchor 86 = .ok (.aload 5, 2) := by decide +kernel
theorem dX7_anchor_88 : decode cX7_anchor 88 = .ok (.getfield 147, 3) := by decide +kernel
theorem dX7_anchor_91 : decode cX7_anchor 91 = .ok (.ireturn, 1) := by decide +kernel
theorem dX7_anchor_92 : decode cX7_anchor 92 = .ok (.aload 5, 2) := by decide +kernel
theorem dX7_anchor_94 : decode cX7_anchor 94 = .ok (.getfield 98, 3) := by decide +kernel
theorem dX7_anchor_97 : decode cX7_anchor 97 = .ok (.ireturn, 1) := by decide +kernel
set_option maxRecDepth 20000 in
theorem ggX7_ship_X1_shipAt : GoodIn wsX7_ship wsX1_shipAt := goodIn_r _ [12, 13, 14, 33, 34, 35, 36, 37, 38] (by decide +kernel) (by decide +kernel)
set_option maxRecDepth 20000 in
theorem gX7_ship_X1_shipAt : GoodIn wsX7_ship (wsV RX7 81 RX1 yX1_shipAt wsX1_shipAt) := goodIn_app (goodIn_of _ (by decide +kernel)) ggX7_ship_X1_shipAt
set_option maxRecDepth 20000 in
theorem ggX7_ship_X7_oneIf : GoodIn wsX7_ship wsX7_oneIf := goodIn_r _ [18] (by decide +kernel) (by decide +kernel)
set_option maxRecDepth 20000 in
theorem gX7_ship_X7_oneIf : GoodIn wsX7_ship (va_wsS RX7 160 yX7_oneIf wsX7_oneIf) := goodIn_app (goodIn_of _ (by decide +kernel)) ggX7_ship_X7_oneIf
theorem dX7_ship_0 : decode cX7_ship 0 = .ok (.aload_n 0, 1) := by decide +kernel
theorem dX7_ship_1 : decode cX7_ship 1 = .ok (.getfield 26, 3) := by decide +kernel
theorem dX7_ship_4 : decode cX7_ship 4 = .ok (.iload_n 1, 1) := by decide +kernel
theorem dX7_ship_5 : decode cX7_ship 5 = .ok (.invokevirtual 81, 3) := by decide +kernel
theorem dX7_ship_8 : decode cX7_ship 8 = .ok (.astore_n 3, 1) := by decide +kernel
theorem dX7_ship_9 : decode cX7_ship 9 = .ok (.aload_n 3, 1) := by decide +kernel
theorem dX7_ship_10 : decode cX7_ship 10 = .ok (.ifnonnull 5, 3) := by decide +kernel
theorem dX7_ship_13 : decode cX7_ship 13 = .ok (.iconst (-1), 1) := by decide +kernel
theorem dX7_ship_14 : decode cX7_ship 14 = .ok (.ireturn, 1) := by decide +kernel
theorem dX7_ship_15 : decode cX7_ship 15 = .ok (.iload_n 2, 1) := by decide +kernel
theorem dX7_ship_16 : decode cX7_ship 16 = .ok (.tableswitch 73 0 5 #[40, 45, 50, 55, 60, 68], 40) := by decide +kernel
theorem dX7_ship_56 : decode cX7_ship 56 = .ok (.aload_n 3, 1) := by decide +kernel
theorem dX7_ship_57 : decode cX7_ship 57 = .ok (.getfield 150, 3) := by decide +kernel
theorem dX7_ship_60 : decode cX7_ship 60 = .ok (.ireturn, 1) := by decide +kernel
theorem dX7_ship_61 : decode cX7_ship 61 = .ok (.aload_n 3, 1) := by decide +kernel
theorem dX7_ship_62 : decode cX7_ship 62 = .ok (.getfield 153, 3) := by decide +kernel
theorem dX7_ship_65 : decode cX7_ship 65 = .ok (.ireturn, 1) := by decide +kernel
theorem dX7_ship_66 : decode cX7_ship 66 = .ok (.aload_n 3, 1) := by decide +kernel
theorem dX7_ship_67 : decode cX7_ship 67 = .ok (.getfield 154, 3) := by decide +kernel
theorem dX7_ship_70 : decode cX7_ship 70 = .ok (.ireturn, 1) := by decide +kernel
theorem dX7_ship_71 : decode cX7_ship 71 = .ok (.aload_n 3, 1) := by decide +kernel
theorem dX7_ship_72 : decode cX7_ship 72 = .ok (.getfield 157, 3) := by decide +kernel
theorem dX7_ship_75 : decode cX7_ship 75 = .ok (.ireturn, 1) := by decide +kernel
theorem dX7_ship_76 : decode cX7_ship 76 = .ok (.aload_n 3, 1) := by decide +kernel
theorem dX7_ship_77 : decode cX7_ship 77 = .ok (.getfield 91, 3) := by decide +kernel
theorem dX7_ship_80 : decode cX7_ship 80 = .ok (.invokestatic 160, 3) := by decide +kernel
theorem dX7_ship_83 : decode cX7_ship 83 = .ok (.ireturn, 1) := by decide +kernel
theorem dX7_ship_84 : decode cX7_ship 84 = .ok (.aload_n 3, 1) := by decide +kernel
theorem dX7_ship_85 : decode cX7_ship 85 = .ok (.getfield 164, 3) := by decide +kernel
theorem dX7_ship_88 : decode cX7_ship 88 = .ok (.ireturn, 1) := by decide +kernel
theorem dX7_ship_89 : decode cX7_ship 89 = .ok (.iconst (-1), 1) := by decide +kernel
theorem dX7_ship_90 : decode cX7_ship 90 = .ok (.ireturn, 1) := by decide +kernel
set_option maxRecDepth 20000 in
theorem ggX7_hangs_X1_shipAt : GoodIn wsX7_hangs wsX1_shipAt := goodIn_r _ [14, 15, 16, 120, 121, 122, 123, 124, 125] (by decide +kernel) (by decide +kernel)
set_option maxRecDepth 20000 in
theorem gX7_hangs_X1_shipAt : GoodIn wsX7_hangs (wsV RX7 81 RX1 yX1_shipAt wsX1_shipAt) := goodIn_app (goodIn_of _ (by decide +kernel)) ggX7_hangs_X1_shipAt
set_option maxRecDepth 20000 in
theorem ggX7_hangs_X7_within : GoodIn wsX7_hangs wsX7_within := goodIn_r _ [20] (by decide +kernel) (by decide +kernel)
set_option maxRecDepth 20000 in
theorem gX7_hangs_X7_within : GoodIn wsX7_hangs (va_wsS RX7 64 yX7_within wsX7_within) := goodIn_app (goodIn_of _ (by decide +kernel)) ggX7_hangs_X7_within
set_option maxRecDepth 20000 in
theorem ggX7_hangs_X6_anchorAt : GoodIn wsX7_hangs wsX6_anchorAt := goodIn_r _ [25, 26, 27, 28, 95, 96, 97, 98, 99, 100, 101, 102, 103, 104] (by decide +kernel) (by decide +kernel)
set_option maxRecDepth 20000 in
theorem gX7_hangs_X6_anchorAt : GoodIn wsX7_hangs (wsV RX7 85 RX6 yX6_anchorAt wsX6_anchorAt) := goodIn_app (goodIn_of _ (by decide +kernel)) ggX7_hangs_X6_anchorAt
set_option maxRecDepth 20000 in
theorem ggX7_hangs_X1_chainOf : GoodIn wsX7_hangs wsX1_chainOf := goodIn_r _ [32, 33, 34, 35, 36, 37, 38, 13, 39, 40, 41, 42, 43, 44, 45, 46, 47, 48, 49, 120, 121, 122, 123, 124, 125, 95, 96, 97, 98, 99, 100, 101, 102, 103, 104, 105, 106, 107, 108, 109, 110, 111, 112, 113, 114, 115, 116, 117, 118, 119] (by decide +kernel) (by decide +kernel)
set_option maxRecDepth 20000 in
theorem gX7_hangs_X1_chainOf : GoodIn wsX7_hangs (wsV RX7 167 RX1 yX1_chainOf wsX1_chainOf) := goodIn_app (goodIn_of _ (by decide +kernel)) ggX7_hangs_X1_chainOf
set_option maxRecDepth 20000 in
theorem ggX7_hangs_X2_findLie : GoodIn wsX7_hangs wsX2_findLie := goodIn_r _ [53, 54, 55, 56, 57, 58, 49, 48, 59, 60, 61, 62, 63, 64, 44, 65, 46, 47, 66, 67, 68, 69, 70, 71, 72, 73, 74, 75, 76, 77, 78, 79, 80, 108, 109, 110, 111, 112, 113, 114, 115, 116, 117, 118, 119] (by decide +kernel) (by decide +kernel)
set_option maxRecDepth 20000 in
theorem gX7_hangs_X2_findLie : GoodIn wsX7_hangs (wsV RX7 171 RX2 yX2_findLie wsX2_findLie) := goodIn_app (goodIn_of _ (by decide +kernel)) ggX7_hangs_X2_findLie
set_option maxRecDepth 20000 in
theorem ggX7_hangs_X2_holding : GoodIn wsX7_hangs wsX2_holding := goodIn_r _ [84, 57, 56, 85, 86, 79, 87, 108, 109, 110, 111, 112, 113, 114, 115, 116, 117, 118, 119] (by decide +kernel) (by decide +kernel)
set_option maxRecDepth 20000 in
theorem gX7_hangs_X2_holding : GoodIn wsX7_hangs (wsV RX7 188 RX2 yX2_holding wsX2_holding) := goodIn_app (goodIn_of _ (by decide +kernel)) ggX7_hangs_X2_holding
set_option maxRecDepth 20000 in
theorem ggX7_hangs_X7_oneIf : GoodIn wsX7_hangs wsX7_oneIf := goodIn_r _ [90] (by decide +kernel) (by decide +kernel)
set_option maxRecDepth 20000 in
theorem gX7_hangs_X7_oneIf : GoodIn wsX7_hangs (va_wsS RX7 160 yX7_oneIf wsX7_oneIf) := goodIn_app (goodIn_of _ (by decide +kernel)) ggX7_hangs_X7_oneIf
theorem dX7_hangs_0 : decode cX7_hangs 0 = .ok (.aload_n 0, 1) := by decide +kernel
theorem dX7_hangs_1 : decode cX7_hangs 1 = .ok (.getfield 26, 3) := by decide +kernel
theorem dX7_hangs_4 : decode cX7_hangs 4 = .ok (.iload_n 1, 1) := by decide +kernel
theorem dX7_hangs_5 : decode cX7_hangs 5 = .ok (.invokevirtual 81, 3) := by decide +kernel
theorem dX7_hangs_8 : decode cX7_hangs 8 = .ok (.astore 5, 2) := by decide +kernel
theorem dX7_hangs_10 : decode cX7_hangs 10 = .ok (.aload 5, 2) := by decide +kernel
theorem dX7_hangs_12 : decode cX7_hangs 12 = .ok (.ifnull 33, 3) := by decide +kernel
theorem dX7_hangs_15 : decode cX7_hangs 15 = .ok (.iload_n 2, 1) := by decide +kernel
theorem dX7_hangs_16 : decode cX7_hangs 16 = .ok (.iconst 0, 1) := by decide +kernel
theorem dX7_hangs_17 : decode cX7_hangs 17 = .ok (.iconst 1, 1) := by decide +kernel
theorem dX7_hangs_18 : decode cX7_hangs 18 = .ok (.invokestatic 64, 3) := by decide +kernel
theorem dX7_hangs_21 : decode cX7_hangs 21 = .ok (.ifCond .eq 24, 3) := by decide +kernel
theorem dX7_hangs_24 : decode cX7_hangs 24 = .ok (.iload_n 3, 1) := by decide +kernel
theorem dX7_hangs_25 : decode cX7_hangs 25 = .ok (.iconst 0, 1) := by decide +kernel
theorem dX7_hangs_26 : decode cX7_hangs 26 = .ok (.sipush 9999, 3) := by decide +kernel
theorem dX7_hangs_29 : decode cX7_hangs 29 = .ok (.invokestatic 64, 3) := by decide +kernel
theorem dX7_hangs_32 : decode cX7_hangs 32 = .ok (.ifCond .eq 13, 3) := by decide +kernel
theorem dX7_hangs_35 : decode cX7_hangs 35 = .ok (.iload 4, 2) := by decide +kernel
theorem dX7_hangs_37 : decode cX7_hangs 37 = .ok (.iconst 0, 1) := by decide +kernel
theorem dX7_hangs_38 : decode cX7_hangs 38 = .ok (.iconst 5, 1) := by decide +kernel
theorem dX7_hangs_39 : decode cX7_hangs 39 = .ok (.invokestatic 64, 3) := by decide +kernel
theorem dX7_hangs_42 : decode cX7_hangs 42 = .ok (.ifCond .ne 5, 3) := by decide +kernel
theorem dX7_hangs_45 : decode cX7_hangs 45 = .ok (.iconst (-1), 1) := by decide +kernel
theorem dX7_hangs_46 : decode cX7_hangs 46 = .ok (.ireturn, 1) := by decide +kernel
theorem dX7_hangs_47 : decode cX7_hangs 47 = .ok (.aload 5, 2) := by decide +kernel
theorem dX7_hangs_49 : decode cX7_hangs 49 = .ok (.getfield 91, 3) := by decide +kernel
theorem dX7_hangs_52 : decode cX7_hangs 52 = .ok (.ifCond .eq 6, 3) := by decide +kernel
theorem dX7_hangs_55 : decode cX7_hangs 55 = .ok (.bipush (-2), 2) := by decide +kernel
theorem dX7_hangs_57 : decode cX7_hangs 57 = .ok (.ireturn, 1) := by decide +kernel
theorem dX7_hangs_58 : decode cX7_hangs 58 = .ok (.aload 5, 2) := by decide +kernel
theorem dX7_hangs_60 : decode cX7_hangs 60 = .ok (.iload_n 2, 1) := by decide +kernel
theorem dX7_hangs_61 : decode cX7_hangs 61 = .ok (.invokevirtual 85, 3) := by decide +kernel
theorem dX7_hangs_64 : decode cX7_hangs 64 = .ok (.astore 6, 2) := by decide +kernel
theorem dX7_hangs_66 : decode cX7_hangs 66 = .ok (.aload 6, 2) := by decide +kernel
theorem dX7_hangs_68 : decode cX7_hangs 68 = .ok (.ifnonnull 6, 3) := by decide +kernel
theorem dX7_hangs_71 : decode cX7_hangs 71 = .ok (.bipush (-4), 2) := by decide +kernel
theorem dX7_hangs_73 : decode cX7_hangs 73 = .ok (.ireturn, 1) := by decide +kernel
theorem dX7_hangs_74 : decode cX7_hangs 74 = .ok (.aload_n 0, 1) := by decide +kernel
theorem dX7_hangs_75 : decode cX7_hangs 75 = .ok (.getfield 26, 3) := by decide +kernel
theorem dX7_hangs_78 : decode cX7_hangs 78 = .ok (.aload 5, 2) := by decide +kernel
theorem dX7_hangs_80 : decode cX7_hangs 80 = .ok (.aload 6, 2) := by decide +kernel
theorem dX7_hangs_82 : decode cX7_hangs 82 = .ok (.aload 6, 2) := by decide +kernel
theorem dX7_hangs_84 : decode cX7_hangs 84 = .ok (.getfield 98, 3) := by decide +kernel
theorem dX7_hangs_87 : decode cX7_hangs 87 = .ok (.iload_n 3, 1) := by decide +kernel
theorem dX7_hangs_88 : decode cX7_hangs 88 = .ok (.invokevirtual 167, 3) := by decide +kernel
theorem dX7_hangs_91 : decode cX7_hangs 91 = .ok (.astore 7, 2) := by decide +kernel
theorem dX7_hangs_93 : decode cX7_hangs 93 = .ok (.aload 7, 2) := by decide +kernel
theorem dX7_hangs_95 : decode cX7_hangs 95 = .ok (.invokevirtual 171, 3) := by decide +kernel
theorem dX7_hangs_98 : decode cX7_hangs 98 = .ok (.iload 4, 2) := by decide +kernel
theorem dX7_hangs_100 : decode cX7_hangs 100 = .ok (.tableswitch 71 0 4 #[36, 42, 48, 54, 60], 36) := by decide +kernel
theorem dX7_hangs_136 : decode cX7_hangs 136 = .ok (.aload 7, 2) := by decide +kernel
theorem dX7_hangs_138 : decode cX7_hangs 138 = .ok (.getfield 176, 3) := by decide +kernel
theorem dX7_hangs_141 : decode cX7_hangs 141 = .ok (.ireturn, 1) := by decide +kernel
theorem dX7_hangs_142 : decode cX7_hangs 142 = .ok (.aload 7, 2) := by decide +kernel
theorem dX7_hangs_144 : decode cX7_hangs 144 = .ok (.getfield 179, 3) := by decide +kernel
theorem dX7_hangs_147 : decode cX7_hangs 147 = .ok (.ireturn, 1) := by decide +kernel
theorem dX7_hangs_148 : decode cX7_hangs 148 = .ok (.aload 7, 2) := by decide +kernel
theorem dX7_hangs_150 : decode cX7_hangs 150 = .ok (.getfield 182, 3) := by decide +kernel
theorem dX7_hangs_153 : decode cX7_hangs 153 = .ok (.ireturn, 1) := by decide +kernel
theorem dX7_hangs_154 : decode cX7_hangs 154 = .ok (.aload 7, 2) := by decide +kernel
theorem dX7_hangs_156 : decode cX7_hangs 156 = .ok (.getfield 185, 3) := by decide +kernel
theorem dX7_hangs_159 : decode cX7_hangs 159 = .ok (.ireturn, 1) := by decide +kernel
theorem dX7_hangs_160 : decode cX7_hangs 160 = .ok (.aload 7, 2) := by decide +kernel
theorem dX7_hangs_162 : decode cX7_hangs 162 = .ok (.aload 5, 2) := by decide +kernel
theorem dX7_hangs_164 : decode cX7_hangs 164 = .ok (.getfield 157, 3) := by decide +kernel
theorem dX7_hangs_167 : decode cX7_hangs 167 = .ok (.invokevirtual 188, 3) := by decide +kernel
theorem dX7_hangs_170 : decode cX7_hangs 170 = .ok (.ireturn, 1) := by decide +kernel
theorem dX7_hangs_171 : decode cX7_hangs 171 = .ok (.aload 7, 2) := by decide +kernel
theorem dX7_hangs_173 : decode cX7_hangs 173 = .ok (.getfield 191, 3) := by decide +kernel
theorem dX7_hangs_176 : decode cX7_hangs 176 = .ok (.invokestatic 160, 3) := by decide +kernel
theorem dX7_hangs_179 : decode cX7_hangs 179 = .ok (.ireturn, 1) := by decide +kernel
set_option maxRecDepth 20000 in
theorem ggX7_wind_X1_shipAt : GoodIn wsX7_wind wsX1_shipAt := goodIn_r _ [10, 11, 12, 127, 128, 129, 130, 131, 132] (by decide +kernel) (by decide +kernel)
set_option maxRecDepth 20000 in
theorem gX7_wind_X1_shipAt : GoodIn wsX7_wind (wsV RX7 81 RX1 yX1_shipAt wsX1_shipAt) := goodIn_app (goodIn_of _ (by decide +kernel)) ggX7_wind_X1_shipAt
set_option maxRecDepth 20000 in
theorem ggX7_wind_X7_isWind : GoodIn wsX7_wind wsX7_isWind := goodIn_r _ [16, 17, 18, 15, 19] (by decide +kernel) (by decide +kernel)
set_option maxRecDepth 20000 in
theorem gX7_wind_X7_isWind : GoodIn wsX7_wind (va_wsS RX7 122 yX7_isWind wsX7_isWind) := goodIn_app (goodIn_of _ (by decide +kernel)) ggX7_wind_X7_isWind
set_option maxRecDepth 20000 in
theorem ggX7_wind_X7_within : GoodIn wsX7_wind wsX7_within := goodIn_r _ [19] (by decide +kernel) (by decide +kernel)
set_option maxRecDepth 20000 in
theorem gX7_wind_X7_within : GoodIn wsX7_wind (va_wsS RX7 64 yX7_within wsX7_within) := goodIn_app (goodIn_of _ (by decide +kernel)) ggX7_wind_X7_within
set_option maxRecDepth 20000 in
theorem ggX7_wind_X6_pullBy : GoodIn wsX7_wind wsX6_pullBy := goodIn_r _ [24, 25, 114, 115, 116, 117, 118, 119, 120, 121, 122, 123] (by decide +kernel) (by decide +kernel)
set_option maxRecDepth 20000 in
theorem gX7_wind_X6_pullBy : GoodIn wsX7_wind (wsV RX7 194 RX6 yX6_pullBy wsX6_pullBy) := goodIn_app (goodIn_of _ (by decide +kernel)) ggX7_wind_X6_pullBy
set_option maxRecDepth 20000 in
theorem ggX7_wind_X1_holdsBy : GoodIn wsX7_wind wsX1_holdsBy := goodIn_r _ [29, 30, 31, 21, 22, 23, 24, 25, 32, 33, 34, 9, 35, 36, 37, 38, 39, 40, 41, 42, 43, 44, 45, 46, 47, 48, 49, 50, 51, 52, 53, 54, 55, 56, 57, 58, 59, 60, 61, 62, 63, 64, 65, 66, 67, 68, 69, 70, 71, 72, 73, 74, 75, 76, 77, 78, 79, 80, 81, 82, 114, 115, 116, 117, 118, 119, 120, 121, 122, 123, 127, 128, 129, 130, 131, 132, 124, 125, 126, 133, 134, 135, 136, 137, 138, 139, 140, 141, 142, 143, 144] (by decide +kernel) (by decide +kernel)
set_option maxRecDepth 20000 in
theorem gX7_wind_X1_holdsBy : GoodIn wsX7_wind (wsV RX7 200 RX1 yX1_holdsBy wsX1_holdsBy) := goodIn_app (goodIn_of _ (by decide +kernel)) ggX7_wind_X1_holdsBy
set_option maxRecDepth 20000 in
theorem ggX7_wind_X7_oneIf : GoodIn wsX7_wind wsX7_oneIf := goodIn_r _ [85] (by decide +kernel) (by decide +kernel)
set_option maxRecDepth 20000 in
theorem gX7_wind_X7_oneIf : GoodIn wsX7_wind (va_wsS RX7 160 yX7_oneIf wsX7_oneIf) := goodIn_app (goodIn_of _ (by decide +kernel)) ggX7_wind_X7_oneIf
set_option maxRecDepth 20000 in
theorem ggX7_wind_X1_measureSwing : GoodIn wsX7_wind wsX1_measureSwing := goodIn_r _ [89, 36, 42, 90, 91, 92, 31, 21, 22, 23, 24, 25, 38, 39, 40, 9, 41, 43, 44, 45, 46, 47, 48, 49, 50, 51, 52, 53, 54, 55, 56, 57, 58, 93, 94, 95, 96, 68, 97, 98, 99, 63, 100, 69, 101, 64, 65, 66, 67, 70, 71, 72, 73, 74, 75, 76, 102, 103, 104, 105, 106, 107, 108, 109, 114, 115, 116, 117, 118, 119, 120, 121, 122, 123, 127, 128, 129, 130, 131, 132, 133, 134, 135, 136, 137, 138, 139, 140, 141, 142, 143, 144, 124, 125, 126] (by decide +kernel) (by decide +kernel)
set_option maxRecDepth 20000 in
theorem gX7_wind_X1_measureSwing : GoodIn wsX7_wind (wsV RX7 204 RX1 yX1_measureSwing wsX1_measureSwing) := goodIn_app (goodIn_of _ (by decide +kernel)) ggX7_wind_X1_measureSwing
theorem dX7_wind_0 : decode cX7_wind 0 = .ok (.aload_n 0, 1) := by decide +kernel
theorem dX7_wind_1 : decode cX7_wind 1 = .ok (.getfield 26, 3) := by decide +kernel
theorem dX7_wind_4 : decode cX7_wind 4 = .ok (.iload_n 1, 1) := by decide +kernel
theorem dX7_wind_5 : decode cX7_wind 5 = .ok (.invokevirtual 81, 3) := by decide +kernel
theorem dX7_wind_8 : decode cX7_wind 8 = .ok (.astore 4, 2) := by decide +kernel
theorem dX7_wind_10 : decode cX7_wind 10 = .ok (.aload 4, 2) := by decide +kernel
theorem dX7_wind_12 : decode cX7_wind 12 = .ok (.ifnull 19, 3) := by decide +kernel
theorem dX7_wind_15 : decode cX7_wind 15 = .ok (.iload_n 2, 1) := by decide +kernel
theorem dX7_wind_16 : decode cX7_wind 16 = .ok (.invokestatic 122, 3) := by decide +kernel
theorem dX7_wind_19 : decode cX7_wind 19 = .ok (.ifCond .eq 12, 3) := by decide +kernel
theorem dX7_wind_22 : decode cX7_wind 22 = .ok (.iload_n 3, 1) := by decide +kernel
theorem dX7_wind_23 : decode cX7_wind 23 = .ok (.iconst 0, 1) := by decide +kernel
theorem dX7_wind_24 : decode cX7_wind 24 = .ok (.iconst 2, 1) := by decide +kernel
theorem dX7_wind_25 : decode cX7_wind 25 = .ok (.invokestatic 64, 3) := by decide +kernel
theorem dX7_wind_28 : decode cX7_wind 28 = .ok (.ifCond .ne 5, 3) := by decide +kernel
theorem dX7_wind_31 : decode cX7_wind 31 = .ok (.iconst (-1), 1) := by decide +kernel
theorem dX7_wind_32 : decode cX7_wind 32 = .ok (.ireturn, 1) := by decide +kernel
theorem dX7_wind_33 : decode cX7_wind 33 = .ok (.aload 4, 2) := by decide +kernel
theorem dX7_wind_35 : decode cX7_wind 35 = .ok (.getfield 91, 3) := by decide +kernel
theorem dX7_wind_38 : decode cX7_wind 38 = .ok (.ifCond .eq 6, 3) := by decide +kernel
theorem dX7_wind_41 : decode cX7_wind 41 = .ok (.bipush (-2), 2) := by decide +kernel
theorem dX7_wind_43 : decode cX7_wind 43 = .ok (.ireturn, 1) := by decide +kernel
theorem dX7_wind_44 : decode cX7_wind 44 = .ok (.iload_n 3, 1) := by decide +kernel
theorem dX7_wind_45 : decode cX7_wind 45 = .ok (.lookupswitch 56 #[(0, 27), (1, 34)], 27) := by decide +kernel
theorem dX7_wind_72 : decode cX7_wind 72 = .ok (.aload 4, 2) := by decide +kernel
theorem dX7_wind_74 : decode cX7_wind 74 = .ok (.iload_n 2, 1) := by decide +kernel
theorem dX7_wind_75 : decode cX7_wind 75 = .ok (.invokevirtual 194, 3) := by decide +kernel
theorem dX7_wind_78 : decode cX7_wind 78 = .ok (.ireturn, 1) := by decide +kernel
theorem dX7_wind_79 : decode cX7_wind 79 = .ok (.aload_n 0, 1) := by decide +kernel
theorem dX7_wind_80 : decode cX7_wind 80 = .ok (.getfield 26, 3) := by decide +kernel
theorem dX7_wind_83 : decode cX7_wind 83 = .ok (.aload 4, 2) := by decide +kernel
theorem dX7_wind_85 : decode cX7_wind 85 = .ok (.aload 4, 2) := by decide +kernel
theorem dX7_wind_87 : decode cX7_wind 87 = .ok (.getfield 197, 3) := by decide +kernel
theorem dX7_wind_90 : decode cX7_wind 90 = .ok (.getfield 98, 3) := by decide +kernel
theorem dX7_wind_93 : decode cX7_wind 93 = .ok (.iload_n 2, 1) := by decide +kernel
theorem dX7_wind_94 : decode cX7_wind 94 = .ok (.invokevirtual 200, 3) := by decide +kernel
theorem dX7_wind_97 : decode cX7_wind 97 = .ok (.invokestatic 160, 3) := by decide +kernel
theorem dX7_wind_100 : decode cX7_wind 100 = .ok (.ireturn, 1) := by decide +kernel
theorem dX7_wind_101 : decode cX7_wind 101 = .ok (.aload_n 0, 1) := by decide +kernel
theorem dX7_wind_102 : decode cX7_wind 102 = .ok (.getfield 26, 3) := by decide +kernel
theorem dX7_wind_105 : decode cX7_wind 105 = .ok (.aload 4, 2) := by decide +kernel
theorem dX7_wind_107 : decode cX7_wind 107 = .ok (.aload 4, 2) := by decide +kernel
theorem dX7_wind_109 : decode cX7_wind 109 = .ok (.getfield 197, 3) := by decide +kernel
theorem dX7_wind_112 : decode cX7_wind 112 = .ok (.getfield 98, 3) := by decide +kernel
theorem dX7_wind_115 : decode cX7_wind 115 = .ok (.iload_n 2, 1) := by decide +kernel
theorem dX7_wind_116 : decode cX7_wind 116 = .ok (.invokevirtual 204, 3) := by decide +kernel
theorem dX7_wind_119 : decode cX7_wind 119 = .ok (.aload 4, 2) := by decide +kernel
theorem dX7_wind_121 : decode cX7_wind 121 = .ok (.getfield 208, 3) := by decide +kernel
theorem dX7_wind_124 : decode cX7_wind 124 = .ok (.ireturn, 1) := by decide +kernel
set_option maxRecDepth 20000 in
theorem ggX7_apart_X1_shipAt : GoodIn wsX7_apart wsX1_shipAt := goodIn_r _ [8, 9, 10, 113, 114, 115, 116, 117, 118] (by decide +kernel) (by decide +kernel)
set_option maxRecDepth 20000 in
theorem gX7_apart_X1_shipAt : GoodIn wsX7_apart (wsV RX7 81 RX1 yX1_shipAt wsX1_shipAt) := goodIn_app (goodIn_of _ (by decide +kernel)) ggX7_apart_X1_shipAt
set_option maxRecDepth 20000 in
theorem ggX7_apart_X7_isWind : GoodIn wsX7_apart wsX7_isWind := goodIn_r _ [14, 15, 16, 13, 17] (by decide +kernel) (by decide +kernel)
set_option maxRecDepth 20000 in
theorem gX7_apart_X7_isWind : GoodIn wsX7_apart (va_wsS RX7 122 yX7_isWind wsX7_isWind) := goodIn_app (goodIn_of _ (by decide +kernel)) ggX7_apart_X7_isWind
set_option maxRecDepth 20000 in
theorem ggX7_apart_X1_measureSwing : GoodIn wsX7_apart wsX1_measureSwing := goodIn_r _ [21, 22, 23, 24, 25, 26, 27, 28, 29, 30, 31, 32, 33, 34, 35, 7, 36, 37, 38, 39, 40, 41, 42, 43, 44, 45, 46, 47, 48, 49, 50, 51, 52, 53, 54, 55, 56, 57, 58, 59, 60, 61, 62, 63, 64, 65, 66, 67, 68, 69, 70, 71, 72, 73, 74, 75, 76, 77, 78, 79, 80, 81, 82, 83, 100, 101, 102, 103, 104, 105, 106, 107, 108, 109, 113, 114, 115, 116, 117, 118, 119, 120, 121, 122, 123, 124, 125, 126, 127, 128, 129, 130, 110, 111, 112] (by decide +kernel) (by decide +kernel)
set_option maxRecDepth 20000 in
theorem gX7_apart_X1_measureSwing : GoodIn wsX7_apart (wsV RX7 204 RX1 yX1_measureSwing wsX1_measureSwing) := goodIn_app (goodIn_of _ (by decide +kernel)) ggX7_apart_X1_measureSwing
set_option maxRecDepth 20000 in
theorem ggX7_apart_X6_isClearOf : GoodIn wsX7_apart wsX6_isClearOf := goodIn_r _ [87, 88, 89, 90, 91, 92, 100, 101, 102, 103, 104, 105, 106, 107, 108, 109, 110, 111, 112] (by decide +kernel) (by decide +kernel)
set_option maxRecDepth 20000 in
theorem gX7_apart_X6_isClearOf : GoodIn wsX7_apart (wsV RX7 211 RX6 yX6_isClearOf wsX6_isClearOf) := goodIn_app (goodIn_of _ (by decide +kernel)) ggX7_apart_X6_isClearOf
set_option maxRecDepth 20000 in
theorem ggX7_apart_X7_oneIf : GoodIn wsX7_apart wsX7_oneIf := goodIn_r _ [95] (by decide +kernel) (by decide +kernel)
set_option maxRecDepth 20000 in
theorem gX7_apart_X7_oneIf : GoodIn wsX7_apart (va_wsS RX7 160 yX7_oneIf wsX7_oneIf) := goodIn_app (goodIn_of _ (by decide +kernel)) ggX7_apart_X7_oneIf
theorem dX7_apart_0 : decode cX7_apart 0 = .ok (.aload_n 0, 1) := by decide +kernel
theorem dX7_apart_1 : decode cX7_apart 1 = .ok (.getfield 26, 3) := by decide +kernel
theorem dX7_apart_4 : decode cX7_apart 4 = .ok (.iload_n 1, 1) := by decide +kernel
theorem dX7_apart_5 : decode cX7_apart 5 = .ok (.invokevirtual 81, 3) := by decide +kernel
theorem dX7_apart_8 : decode cX7_apart 8 = .ok (.astore 4, 2) := by decide +kernel
theorem dX7_apart_10 : decode cX7_apart 10 = .ok (.aload_n 0, 1) := by decide +kernel
theorem dX7_apart_11 : decode cX7_apart 11 = .ok (.getfield 26, 3) := by decide +kernel
theorem dX7_apart_14 : decode cX7_apart 14 = .ok (.iload_n 2, 1) := by decide +kernel
theorem dX7_apart_15 : decode cX7_apart 15 = .ok (.invokevirtual 81, 3) := by decide +kernel
theorem dX7_apart_18 : decode cX7_apart 18 = .ok (.astore 5, 2) := by decide +kernel
theorem dX7_apart_20 : decode cX7_apart 20 = .ok (.aload 4, 2) := by decide +kernel
theorem dX7_apart_22 : decode cX7_apart 22 = .ok (.ifnull 20, 3) := by decide +kernel
theorem dX7_apart_25 : decode cX7_apart 25 = .ok (.aload 5, 2) := by decide +kernel
theorem dX7_apart_27 : decode cX7_apart 27 = .ok (.ifnull 15, 3) := by decide +kernel
theorem dX7_apart_30 : decode cX7_apart 30 = .ok (.iload_n 1, 1) := by decide +kernel
theorem dX7_apart_31 : decode cX7_apart 31 = .ok (.iload_n 2, 1) := by decide +kernel
theorem dX7_apart_32 : decode cX7_apart 32 = .ok (.if_icmp .eq 10, 3) := by decide +kernel
theorem dX7_apart_35 : decode cX7_apart 35 = .ok (.iload_n 3, 1) := by decide +kernel
theorem dX7_apart_36 : decode cX7_apart 36 = .ok (.invokestatic 122, 3) := by decide +kernel
theorem dX7_apart_39 : decode cX7_apart 39 = .ok (.ifCond .ne 5, 3) := by decide +kernel
theorem dX7_apart_42 : decode cX7_apart 42 = .ok (.iconst (-1), 1) := by decide +kernel
theorem dX7_apart_43 : decode cX7_apart 43 = .ok (.ireturn, 1) := by decide +kernel
theorem dX7_apart_44 : decode cX7_apart 44 = .ok (.aload_n 0, 1) := by decide +kernel
theorem dX7_apart_45 : decode cX7_apart 45 = .ok (.getfield 26, 3) := by decide +kernel
theorem dX7_apart_48 : decode cX7_apart 48 = .ok (.aload 4, 2) := by decide +kernel
theorem dX7_apart_50 : decode cX7_apart 50 = .ok (.aload 4, 2) := by decide +kernel
theorem dX7_apart_52 : decode cX7_apart 52 = .ok (.getfield 197, 3) := by decide +kernel
theorem dX7_apart_55 : decode cX7_apart 55 = .ok (.getfield 98, 3) := by decide +kernel
theorem dX7_apart_58 : decode cX7_apart 58 = .ok (.iload_n 3, 1) := by decide +kernel
theorem dX7_apart_59 : decode cX7_apart 59 = .ok (.invokevirtual 204, 3) := by decide +kernel
theorem dX7_apart_62 : decode cX7_apart 62 = .ok (.aload_n 0, 1) := by decide +kernel
theorem dX7_apart_63 : decode cX7_apart 63 = .ok (.getfield 26, 3) := by decide +kernel
theorem dX7_apart_66 : decode cX7_apart 66 = .ok (.aload 5, 2) := by decide +kernel
theorem dX7_apart_68 : decode cX7_apart 68 = .ok (.aload 5, 2) := by decide +kernel
theorem dX7_apart_70 : decode cX7_apart 70 = .ok (.getfield 197, 3) := by decide +kernel
theorem dX7_apart_73 : decode cX7_apart 73 = .ok (.getfield 98, 3) := by decide +kernel
theorem dX7_apart_76 : decode cX7_apart 76 = .ok (.iload_n 3, 1) := by decide +kernel
theorem dX7_apart_77 : decode cX7_apart 77 = .ok (.invokevirtual 204, 3) := by decide +kernel
theorem dX7_apart_80 : decode cX7_apart 80 = .ok (.aload 4, 2) := by decide +kernel
theorem dX7_apart_82 : decode cX7_apart 82 = .ok (.aload 5, 2) := by decide +kernel
theorem dX7_apart_84 : decode cX7_apart 84 = .ok (.invokevirtual 211, 3) := by decide +kernel
theorem dX7_apart_87 : decode cX7_apart 87 = .ok (.invokestatic 160, 3) := by decide +kernel
theorem dX7_apart_90 : decode cX7_apart 90 = .ok (.ireturn, 1) := by decide +kernel
set_option maxRecDepth 20000 in
theorem ggX7_fewest_X1_shipAt : GoodIn wsX7_fewest wsX1_shipAt := goodIn_r _ [7, 8, 9, 93, 94, 95, 96, 97, 98] (by decide +kernel) (by decide +kernel)
set_option maxRecDepth 20000 in
theorem gX7_fewest_X1_shipAt : GoodIn wsX7_fewest (wsV RX7 81 RX1 yX1_shipAt wsX1_shipAt) := goodIn_app (goodIn_of _ (by decide +kernel)) ggX7_fewest_X1_shipAt
set_option maxRecDepth 20000 in
theorem ggX7_fewest_X7_isWind : GoodIn wsX7_fewest wsX7_isWind := goodIn_r _ [13, 14, 15, 12, 16] (by decide +kernel) (by decide +kernel)
set_option maxRecDepth 20000 in
theorem gX7_fewest_X7_isWind : GoodIn wsX7_fewest (va_wsS RX7 122 yX7_isWind wsX7_isWind) := goodIn_app (goodIn_of _ (by decide +kernel)) ggX7_fewest_X7_isWind
set_option maxRecDepth 20000 in
theorem ggX7_fewest_X1_holdsBy : GoodIn wsX7_fewest wsX1_holdsBy := goodIn_r _ [20, 21, 22, 23, 24, 25, 26, 27, 28, 29, 30, 6, 31, 32, 33, 34, 35, 36, 37, 38, 39, 40, 41, 42, 43, 44, 45, 46, 47, 48, 49, 50, 51, 52, 53, 54, 55, 56, 57, 58, 59, 60, 61, 62, 63, 64, 65, 66, 67, 68, 69, 70, 71, 72, 73, 74, 75, 76, 77, 78, 83, 84, 85, 86, 87, 88, 89, 90, 91, 92, 93, 94, 95, 96, 97, 98, 99, 100, 101, 102, 103, 104, 105, 106, 107, 108, 109, 110, 111, 112, 113] (by decide +kernel) (by decide +kernel)
set_option maxRecDepth 20000 in
theorem gX7_fewest_X1_holdsBy : GoodIn wsX7_fewest (wsV RX7 200 RX1 yX1_holdsBy wsX1_holdsBy) := goodIn_app (goodIn_of _ (by decide +kernel)) ggX7_fewest_X1_holdsBy
theorem dX7_fewest_0 : decode cX7_fewest 0 = .ok (.aload_n 0, 1) := by decide +kernel
theorem dX7_fewest_1 : decode cX7_fewest 1 = .ok (.getfield 26, 3) := by decide +kernel
theorem dX7_fewest_4 : decode cX7_fewest 4 = .ok (.iload_n 1, 1) := by decide +kernel
theorem dX7_fewest_5 : decode cX7_fewest 5 = .ok (.invokevirtual 81, 3) := by decide +kernel
theorem dX7_fewest_8 : decode cX7_fewest 8 = .ok (.astore_n 3, 1) := by decide +kernel
theorem dX7_fewest_9 : decode cX7_fewest 9 = .ok (.aload_n 3, 1) := by decide +kernel
theorem dX7_fewest_10 : decode cX7_fewest 10 = .ok (.ifnull 10, 3) := by decide +kernel
theorem dX7_fewest_13 : decode cX7_fewest 13 = .ok (.iload_n 2, 1) := by decide +kernel
theorem dX7_fewest_14 : decode cX7_fewest 14 = .ok (.invokestatic 122, 3) := by decide +kernel
theorem dX7_fewest_17 : decode cX7_fewest 17 = .ok (.ifCond .ne 5, 3) := by decide +kernel
theorem dX7_fewest_20 : decode cX7_fewest 20 = .ok (.iconst (-1), 1) := by decide +kernel
theorem dX7_fewest_21 : decode cX7_fewest 21 = .ok (.ireturn, 1) := by decide +kernel
theorem dX7_fewest_22 : decode cX7_fewest 22 = .ok (.aload_n 3, 1) := by decide +kernel
theorem dX7_fewest_23 : decode cX7_fewest 23 = .ok (.getfield 91, 3) := by decide +kernel
theorem dX7_fewest_26 : decode cX7_fewest 26 = .ok (.ifCond .eq 6, 3) := by decide +kernel
theorem dX7_fewest_29 : decode cX7_fewest 29 = .ok (.bipush (-2), 2) := by decide +kernel
theorem dX7_fewest_31 : decode cX7_fewest 31 = .ok (.ireturn, 1) := by decide +kernel
theorem dX7_fewest_32 : decode cX7_fewest 32 = .ok (.iconst 1, 1) := by decide +kernel
theorem dX7_fewest_33 : decode cX7_fewest 33 = .ok (.istore 4, 2) := by decide +kernel
theorem dX7_fewest_35 : decode cX7_fewest 35 = .ok (.iload 4, 2) := by decide +kernel
theorem dX7_fewest_37 : decode cX7_fewest 37 = .ok (.bipush 60, 2) := by decide +kernel
theorem dX7_fewest_39 : decode cX7_fewest 39 = .ok (.if_icmp .gt 26, 3) := by decide +kernel
theorem dX7_fewest_42 : decode cX7_fewest 42 = .ok (.aload_n 0, 1) := by decide +kernel
theorem dX7_fewest_43 : decode cX7_fewest 43 = .ok (.getfield 26, 3) := by decide +kernel
theorem dX7_fewest_46 : decode cX7_fewest 46 = .ok (.aload_n 3, 1) := by decide +kernel
theorem dX7_fewest_47 : decode cX7_fewest 47 = .ok (.iload 4, 2) := by decide +kernel
theorem dX7_fewest_49 : decode cX7_fewest 49 = .ok (.iload_n 2, 1) := by decide +kernel
theorem dX7_fewest_50 : decode cX7_fewest 50 = .ok (.invokevirtual 200, 3) := by decide +kernel
theorem dX7_fewest_53 : decode cX7_fewest 53 = .ok (.ifCond .eq 6, 3) := by decide +kernel
theorem dX7_fewest_56 : decode cX7_fewest 56 = .ok (.iload 4, 2) := by decide +kernel
theorem dX7_fewest_58 : decode cX7_fewest 58 = .ok (.ireturn, 1) := by decide +kernel
theorem dX7_fewest_59 : decode cX7_fewest 59 = .ok (.iinc 4 1, 3) := by decide +kernel
theorem dX7_fewest_62 : decode cX7_fewest 62 = .ok (.goto (-27), 3) := by decide +kernel
theorem dX7_fewest_65 : decode cX7_fewest 65 = .ok (.bipush (-4), 2) := by decide +kernel
theorem dX7_fewest_67 : decode cX7_fewest 67 = .ok (.ireturn, 1) := by decide +kernel
set_option maxRecDepth 20000 in
theorem ggX7_tooMuch_X1_shipAt : GoodIn wsX7_tooMuch wsX1_shipAt := goodIn_r _ [9, 10, 11, 91, 92, 93, 94, 95, 96] (by decide +kernel) (by decide +kernel)
set_option maxRecDepth 20000 in
theorem gX7_tooMuch_X1_shipAt : GoodIn wsX7_tooMuch (wsV RX7 81 RX1 yX1_shipAt wsX1_shipAt) := goodIn_app (goodIn_of _ (by decide +kernel)) ggX7_tooMuch_X1_shipAt
set_option maxRecDepth 20000 in
theorem ggX7_tooMuch_X1_holdsBy : GoodIn wsX7_tooMuch wsX1_holdsBy := goodIn_r _ [15, 16, 17, 18, 19, 20, 21, 22, 23, 24, 25, 8, 26, 27, 28, 29, 30, 31, 32, 33, 34, 35, 36, 37, 38, 39, 40, 41, 42, 43, 44, 45, 46, 47, 48, 49, 50, 51, 52, 53, 54, 55, 56, 57, 58, 59, 60, 61, 62, 63, 64, 65, 66, 67, 68, 69, 70, 71, 72, 73, 78, 79, 80, 81, 82, 83, 84, 85, 86, 87, 91, 92, 93, 94, 95, 96, 88, 89, 90, 97, 98, 99, 100, 101, 102, 103, 104, 105, 106, 107, 108] (by decide +kernel) (by decide +kernel)
set_option maxRecDepth 20000 in
theorem gX7_tooMuch_X1_holdsBy : GoodIn wsX7_tooMuch (wsV RX7 200 RX1 yX1_holdsBy wsX1_holdsBy) := goodIn_app (goodIn_of _ (by decide +kernel)) ggX7_tooMuch_X1_holdsBy
theorem dX7_tooMuch_0 : decode cX7_tooMuch 0 = .ok (.aload_n 0, 1) := by decide +kernel
theorem dX7_tooMuch_1 : decode cX7_tooMuch 1 = .ok (.getfield 26, 3) := by decide +kernel
theorem dX7_tooMuch_4 : decode cX7_tooMuch 4 = .ok (.iload_n 1, 1) := by decide +kernel
theorem dX7_tooMuch_5 : decode cX7_tooMuch 5 = .ok (.invokevirtual 81, 3) := by decide +kernel
theorem dX7_tooMuch_8 : decode cX7_tooMuch 8 = .ok (.astore_n 2, 1) := by decide +kernel
theorem dX7_tooMuch_9 : decode cX7_tooMuch 9 = .ok (.aload_n 2, 1) := by decide +kernel
theorem dX7_tooMuch_10 : decode cX7_tooMuch 10 = .ok (.ifnonnull 5, 3) := by decide +kernel
theorem dX7_tooMuch_13 : decode cX7_tooMuch 13 = .ok (.iconst (-1), 1) := by decide +kernel
theorem dX7_tooMuch_14 : decode cX7_tooMuch 14 = .ok (.ireturn, 1) := by decide +kernel
theorem dX7_tooMuch_15 : decode cX7_tooMuch 15 = .ok (.aload_n 2, 1) := by decide +kernel
theorem dX7_tooMuch_16 : decode cX7_tooMuch 16 = .ok (.getfield 91, 3) := by decide +kernel
theorem dX7_tooMuch_19 : decode cX7_tooMuch 19 = .ok (.ifCond .eq 6, 3) := by decide +kernel
theorem dX7_tooMuch_22 : decode cX7_tooMuch 22 = .ok (.bipush (-2), 2) := by decide +kernel
theorem dX7_tooMuch_24 : decode cX7_tooMuch 24 = .ok (.ireturn, 1) := by decide +kernel
theorem dX7_tooMuch_25 : decode cX7_tooMuch 25 = .ok (.iconst 0, 1) := by decide +kernel
theorem dX7_tooMuch_26 : decode cX7_tooMuch 26 = .ok (.istore_n 3, 1) := by decide +kernel
theorem dX7_tooMuch_27 : decode cX7_tooMuch 27 = .ok (.iload_n 3, 1) := by decide +kernel
theorem dX7_tooMuch_28 : decode cX7_tooMuch 28 = .ok (.bipush 20, 2) := by decide +kernel
theorem dX7_tooMuch_30 : decode cX7_tooMuch 30 = .ok (.if_icmp .gt 30, 3) := by decide +kernel
theorem dX7_tooMuch_33 : decode cX7_tooMuch 33 = .ok (.aload_n 0, 1) := by decide +kernel
theorem dX7_tooMuch_34 : decode cX7_tooMuch 34 = .ok (.getfield 26, 3) := by decide +kernel
theorem dX7_tooMuch_37 : decode cX7_tooMuch 37 = .ok (.aload_n 2, 1) := by decide +kernel
theorem dX7_tooMuch_38 : decode cX7_tooMuch 38 = .ok (.aload_n 2, 1) := by decide +kernel
theorem dX7_tooMuch_39 : decode cX7_tooMuch 39 = .ok (.getfield 197, 3) := by decide +kernel
theorem dX7_tooMuch_42 : decode cX7_tooMuch 42 = .ok (.getfield 98, 3) := by decide +kernel
theorem dX7_tooMuch_45 : decode cX7_tooMuch 45 = .ok (.iload_n 3, 1) := by decide +kernel
theorem dX7_tooMuch_46 : decode cX7_tooMuch 46 = .ok (.invokevirtual 200, 3) := by decide +kernel
theorem dX7_tooMuch_49 : decode cX7_tooMuch 49 = .ok (.ifCond .ne 5, 3) := by decide +kernel
theorem dX7_tooMuch_52 : decode cX7_tooMuch 52 = .ok (.iload_n 3, 1) := by decide +kernel
theorem dX7_tooMuch_53 : decode cX7_tooMuch 53 = .ok (.ireturn, 1) := by decide +kernel
theorem dX7_tooMuch_54 : decode cX7_tooMuch 54 = .ok (.iinc 3 1, 3) := by decide +kernel
theorem dX7_tooMuch_57 : decode cX7_tooMuch 57 = .ok (.goto (-30), 3) := by decide +kernel
theorem dX7_tooMuch_60 : decode cX7_tooMuch 60 = .ok (.bipush (-4), 2) := by decide +kernel
theorem dX7_tooMuch_62 : decode cX7_tooMuch 62 = .ok (.ireturn, 1) := by decide +kernel
set_option maxRecDepth 20000 in
theorem ggX7_close_X1_shipAt : GoodIn wsX7_close wsX1_shipAt := goodIn_r _ [7, 8, 9, 134, 135, 136, 137, 138, 139] (by decide +kernel) (by decide +kernel)
set_option maxRecDepth 20000 in
theorem gX7_close_X1_shipAt : GoodIn wsX7_close (wsV RX7 81 RX1 yX1_shipAt wsX1_shipAt) := goodIn_app (goodIn_of _ (by decide +kernel)) ggX7_close_X1_shipAt
set_option maxRecDepth 20000 in
theorem ggX7_close_X7_isWind : GoodIn wsX7_close wsX7_isWind := goodIn_r _ [13, 14, 15, 12, 16] (by decide +kernel) (by decide +kernel)
set_option maxRecDepth 20000 in
theorem gX7_close_X7_isWind : GoodIn wsX7_close (va_wsS RX7 122 yX7_isWind wsX7_isWind) := goodIn_app (goodIn_of _ (by decide +kernel)) ggX7_close_X7_isWind
set_option maxRecDepth 20000 in
theorem ggX7_close_X1_measureSwings : GoodIn wsX7_close wsX1_measureSwings := goodIn_r _ [20, 8, 9, 21, 22, 23, 24, 25, 6, 26, 27, 28, 29, 30, 31, 32, 33, 34, 35, 36, 37, 38, 39, 40, 41, 42, 43, 44, 45, 46, 47, 48, 49, 50, 51, 52, 53, 54, 55, 56, 57, 58, 59, 60, 61, 62, 63, 64, 65, 66, 67, 68, 69, 70, 71, 72, 73, 74, 75, 76, 77, 78, 79, 80, 81, 82, 83, 84, 85, 86, 87, 134, 135, 136, 137, 138, 139, 124, 125, 126, 127, 128, 129, 130, 131, 132, 133, 140, 141, 142, 143, 144, 145, 146, 147, 148, 149, 150, 151, 152, 153, 154] (by decide +kernel) (by decide +kernel)
set_option maxRecDepth 20000 in
theorem gX7_close_X1_measureSwings : GoodIn wsX7_close (wsV RX7 215 RX1 yX1_measureSwings wsX1_measureSwings) := goodIn_app (goodIn_of _ (by decide +kernel)) ggX7_close_X1_measureSwings
set_option maxRecDepth 20000 in
theorem ggX7_close_X1_holdsBy : GoodIn wsX7_close wsX1_holdsBy := goodIn_r _ [91, 92, 31, 32, 33, 34, 35, 36, 93, 94, 95, 6, 96, 21, 97, 37, 38, 39, 40, 27, 41, 42, 43, 44, 45, 46, 47, 48, 49, 50, 51, 52, 53, 54, 55, 56, 98, 99, 100, 101, 65, 69, 70, 71, 72, 61, 67, 73, 74, 75, 76, 77, 78, 79, 102, 103, 104, 105, 106, 22, 124, 125, 126, 127, 128, 129, 130, 131, 132, 133, 134, 135, 136, 137, 138, 139, 140, 141, 142, 143, 144, 145, 146, 147, 148, 149, 150, 151, 152, 153, 154] (by decide +kernel) (by decide +kernel)
set_option maxRecDepth 20000 in
theorem gX7_close_X1_holdsBy : GoodIn wsX7_close (wsV RX7 200 RX1 yX1_holdsBy wsX1_holdsBy) := goodIn_app (goodIn_of _ (by decide +kernel)) ggX7_close_X1_holdsBy
set_option maxRecDepth 20000 in
theorem ggX7_close_X1_isClearOfAll : GoodIn wsX7_close wsX1_isClearOfAll := goodIn_r _ [110, 8, 9, 23, 24, 25, 6, 26, 21, 27, 28, 29, 30, 31, 32, 33, 34, 35, 36, 37, 38, 39, 40, 41, 42, 43, 44, 45, 46, 47, 48, 49, 50, 51, 52, 53, 54, 55, 56, 57, 58, 59, 60, 61, 62, 63, 64, 65, 66, 67, 68, 69, 70, 71, 72, 73, 74, 75, 76, 77, 78, 79, 80, 81, 82, 83, 84, 85, 86, 87, 111, 112, 113, 114, 115, 116, 117, 118, 119, 134, 135, 136, 137, 138, 139, 124, 125, 126, 127, 128, 129, 130, 131, 132, 133, 143, 144, 145, 146, 147, 148, 149, 150, 151, 152, 153, 154, 140, 141, 142] (by decide +kernel) (by decide +kernel)
set_option maxRecDepth 20000 in
theorem gX7_close_X1_isClearOfAll : GoodIn wsX7_close (wsV RX7 219 RX1 yX1_isClearOfAll wsX1_isClearOfAll) := goodIn_app (goodIn_of _ (by decide +kernel)) ggX7_close_X1_isClearOfAll
theorem dX7_close_0 : decode cX7_close 0 = .ok (.aload_n 0, 1) := by decide +kernel
theorem dX7_close_1 : decode cX7_close 1 = .ok (.getfield 26, 3) := by decide +kernel
theorem dX7_close_4 : decode cX7_close 4 = .ok (.iload_n 1, 1) := by decide +kernel
theorem dX7_close_5 : decode cX7_close 5 = .ok (.invokevirtual 81, 3) := by decide +kernel
theorem dX7_close_8 : decode cX7_close 8 = .ok (.astore_n 3, 1) := by decide +kernel
theorem dX7_close_9 : decode cX7_close 9 = .ok (.aload_n 3, 1) := by decide +kernel
theorem dX7_close_10 : decode cX7_close 10 = .ok (.ifnull 10, 3) := by decide +kernel
theorem dX7_close_13 : decode cX7_close 13 = .ok (.iload_n 2, 1) := by decide +kernel
theorem dX7_close_14 : decode cX7_close 14 = .ok (.invokestatic 122, 3) := by decide +kernel
theorem dX7_close_17 : decode cX7_close 17 = .ok (.ifCond .ne 5, 3) := by decide +kernel
theorem dX7_close_20 : decode cX7_close 20 = .ok (.iconst (-1), 1) := by decide +kernel
theorem dX7_close_21 : decode cX7_close 21 = .ok (.ireturn, 1) := by decide +kernel
theorem dX7_close_22 : decode cX7_close 22 = .ok (.aload_n 3, 1) := by decide +kernel
theorem dX7_close_23 : decode cX7_close 23 = .ok (.getfield 91, 3) := by decide +kernel
theorem dX7_close_26 : decode cX7_close 26 = .ok (.ifCond .eq 6, 3) := by decide +kernel
theorem dX7_close_29 : decode cX7_close 29 = .ok (.bipush (-2), 2) := by decide +kernel
theorem dX7_close_31 : decode cX7_close 31 = .ok (.ireturn, 1) := by decide +kernel
theorem dX7_close_32 : decode cX7_close 32 = .ok (.aload_n 0, 1) := by decide +kernel
theorem dX7_close_33 : decode cX7_close 33 = .ok (.getfield 26, 3) := by decide +kernel
theorem dX7_close_36 : decode cX7_close 36 = .ok (.iload_n 2, 1) := by decide +kernel
theorem dX7_close_37 : decode cX7_close 37 = .ok (.invokevirtual 215, 3) := by decide +kernel
theorem dX7_close_40 : decode cX7_close 40 = .ok (.bipush 60, 2) := by decide +kernel
theorem dX7_close_42 : decode cX7_close 42 = .ok (.istore 4, 2) := by decide +kernel
theorem dX7_close_44 : decode cX7_close 44 = .ok (.iload 4, 2) := by decide +kernel
theorem dX7_close_46 : decode cX7_close 46 = .ok (.iconst 1, 1) := by decide +kernel
theorem dX7_close_47 : decode cX7_close 47 = .ok (.if_icmp .lt 40, 3) := by decide +kernel
theorem dX7_close_50 : decode cX7_close 50 = .ok (.aload_n 0, 1) := by decide +kernel
theorem dX7_close_51 : decode cX7_close 51 = .ok (.getfield 26, 3) := by decide +kernel
theorem dX7_close_54 : decode cX7_close 54 = .ok (.aload_n 3, 1) := by decide +kernel
theorem dX7_close_55 : decode cX7_close 55 = .ok (.iload 4, 2) := by decide +kernel
theorem dX7_close_57 : decode cX7_close 57 = .ok (.iload_n 2, 1) := by decide +kernel
theorem dX7_close_58 : decode cX7_close 58 = .ok (.invokevirtual 200, 3) := by decide +kernel
theorem dX7_close_61 : decode cX7_close 61 = .ok (.ifCond .eq 20, 3) := by decide +kernel
theorem dX7_close_64 : decode cX7_close 64 = .ok (.aload_n 0, 1) := by decide +kernel
theorem dX7_close_65 : decode cX7_close 65 = .ok (.getfield 26, 3) := by decide +kernel
theorem dX7_close_68 : decode cX7_close 68 = .ok (.aload_n 3, 1) := by decide +kernel
theorem dX7_close_69 : decode cX7_close 69 = .ok (.iload 4, 2) := by decide +kernel
theorem dX7_close_71 : decode cX7_close 71 = .ok (.iload_n 2, 1) := by decide +kernel
theorem dX7_close_72 : decode cX7_close 72 = .ok (.invokevirtual 219, 3) := by decide +kernel
theorem dX7_close_75 : decode cX7_close 75 = .ok (.ifCond .eq 6, 3) := by decide +kernel
theorem dX7_close_78 : decode cX7_close 78 = .ok (.iload 4, 2) := by decide +kernel
theorem dX7_close_80 : decode cX7_close 80 = .ok (.ireturn, 1) := by decide +kernel
theorem dX7_close_81 : decode cX7_close 81 = .ok (.iinc 4 (-1), 3) := by decide +kernel
theorem dX7_close_84 : decode cX7_close 84 = .ok (.goto (-40), 3) := by decide +kernel
theorem dX7_close_87 : decode cX7_close 87 = .ok (.bipush (-4), 2) := by decide +kernel
theorem dX7_close_89 : decode cX7_close 89 = .ok (.ireturn, 1) := by decide +kernel
set_option maxRecDepth 20000 in
theorem ggX7_all_X7_isWind : GoodIn wsX7_all wsX7_isWind := goodIn_r _ [5, 6, 7, 4, 8] (by decide +kernel) (by decide +kernel)
set_option maxRecDepth 20000 in
theorem gX7_all_X7_isWind : GoodIn wsX7_all (va_wsS RX7 122 yX7_isWind wsX7_isWind) := goodIn_app (goodIn_of _ (by decide +kernel)) ggX7_all_X7_isWind
set_option maxRecDepth 20000 in
theorem ggX7_all_X7_within : GoodIn wsX7_all wsX7_within := goodIn_r _ [8] (by decide +kernel) (by decide +kernel)
set_option maxRecDepth 20000 in
theorem gX7_all_X7_within : GoodIn wsX7_all (va_wsS RX7 64 yX7_within wsX7_within) := goodIn_app (goodIn_of _ (by decide +kernel)) ggX7_all_X7_within
set_option maxRecDepth 20000 in
theorem ggX7_all_X1_countHolding : GoodIn wsX7_all wsX1_countHolding := goodIn_r _ [13, 14, 15, 16, 17, 18, 19, 20, 21, 12, 22, 23, 24, 25, 26, 27, 28, 29, 30, 31, 32, 33, 34, 35, 36, 37, 38, 39, 40, 41, 42, 43, 44, 45, 46, 47, 48, 49, 50, 51, 52, 53, 54, 55, 56, 57, 58, 59, 60, 61, 62, 63, 64, 65, 66, 67, 68, 69, 70, 71, 72, 73, 74, 75, 76, 77, 78, 79, 4, 80, 126, 127, 128, 129, 130, 131, 132, 133, 134, 135, 136, 137, 138, 139, 140, 141, 142, 143, 144, 145, 146, 147, 148, 149, 150, 151, 152, 153, 154, 155, 156] (by decide +kernel) (by decide +kernel)
set_option maxRecDepth 20000 in
theorem gX7_all_X1_countHolding : GoodIn wsX7_all (wsV RX7 222 RX1 yX1_countHolding wsX1_countHolding) := goodIn_app (goodIn_of _ (by decide +kernel)) ggX7_all_X1_countHolding
set_option maxRecDepth 20000 in
theorem ggX7_all_X1_measureSwings : GoodIn wsX7_all wsX1_measureSwings := goodIn_r _ [84, 14, 15, 17, 18, 85, 86, 87, 12, 88, 39, 89, 90, 91, 24, 25, 26, 27, 28, 29, 35, 36, 37, 38, 40, 41, 42, 43, 44, 45, 46, 47, 48, 49, 50, 51, 52, 53, 54, 55, 92, 93, 94, 95, 65, 96, 97, 98, 60, 99, 66, 100, 61, 62, 63, 64, 67, 68, 69, 70, 71, 72, 73, 101, 102, 103, 104, 105, 106, 107, 108, 126, 127, 128, 129, 130, 131, 132, 133, 134, 135, 136, 137, 138, 139, 140, 141, 142, 143, 144, 145, 146, 147, 148, 149, 150, 151, 152, 153, 154, 155, 156] (by decide +kernel) (by decide +kernel)
set_option maxRecDepth 20000 in
theorem gX7_all_X1_measureSwings : GoodIn wsX7_all (wsV RX7 215 RX1 yX1_measureSwings wsX1_measureSwings) := goodIn_app (goodIn_of _ (by decide +kernel)) ggX7_all_X1_measureSwings
set_option maxRecDepth 20000 in
theorem ggX7_all_X1_countMeeting : GoodIn wsX7_all wsX1_countMeeting := goodIn_r _ [112, 14, 15, 113, 114, 115, 27, 116, 117, 118, 119, 120, 121, 79, 4, 80, 126, 127, 128, 129, 130, 131, 132, 133, 134, 135, 136, 137, 138, 139, 140, 141, 142, 143, 144] (by decide +kernel) (by decide +kernel)
set_option maxRecDepth 20000 in
theorem gX7_all_X1_countMeeting : GoodIn wsX7_all (wsV RX7 225 RX1 yX1_countMeeting wsX1_countMeeting) := goodIn_app (goodIn_of _ (by decide +kernel)) ggX7_all_X1_countMeeting
theorem dX7_all_0 : decode cX7_all 0 = .ok (.iload_n 1, 1) := by decide +kernel
theorem dX7_all_1 : decode cX7_all 1 = .ok (.invokestatic 122, 3) := by decide +kernel
theorem dX7_all_4 : decode cX7_all 4 = .ok (.ifCond .eq 12, 3) := by decide +kernel
theorem dX7_all_7 : decode cX7_all 7 = .ok (.iload_n 2, 1) := by decide +kernel
theorem dX7_all_8 : decode cX7_all 8 = .ok (.iconst 0, 1) := by decide +kernel
theorem dX7_all_9 : decode cX7_all 9 = .ok (.iconst 1, 1) := by decide +kernel
theorem dX7_all_10 : decode cX7_all 10 = .ok (.invokestatic 64, 3) := by decide +kernel
theorem dX7_all_13 : decode cX7_all 13 = .ok (.ifCond .ne 5, 3) := by decide +kernel
theorem dX7_all_16 : decode cX7_all 16 = .ok (.iconst (-1), 1) := by decide +kernel
theorem dX7_all_17 : decode cX7_all 17 = .ok (.ireturn, 1) := by decide +kernel
theorem dX7_all_18 : decode cX7_all 18 = .ok (.iload_n 2, 1) := by decide +kernel
theorem dX7_all_19 : decode cX7_all 19 = .ok (.ifCond .ne 12, 3) := by decide +kernel
theorem dX7_all_22 : decode cX7_all 22 = .ok (.aload_n 0, 1) := by decide +kernel
theorem dX7_all_23 : decode cX7_all 23 = .ok (.getfield 26, 3) := by decide +kernel
theorem dX7_all_26 : decode cX7_all 26 = .ok (.iload_n 1, 1) := by decide +kernel
theorem dX7_all_27 : decode cX7_all 27 = .ok (.invokevirtual 222, 3) := by decide +kernel
theorem dX7_all_30 : decode cX7_all 30 = .ok (.ireturn, 1) := by decide +kernel
theorem dX7_all_31 : decode cX7_all 31 = .ok (.aload_n 0, 1) := by decide +kernel
theorem dX7_all_32 : decode cX7_all 32 = .ok (.getfield 26, 3) := by decide +kernel
theorem dX7_all_35 : decode cX7_all 35 = .ok (.iload_n 1, 1) := by decide +kernel
theorem dX7_all_36 : decode cX7_all 36 = .ok (.invokevirtual 215, 3) := by decide +kernel
theorem dX7_all_39 : decode cX7_all 39 = .ok (.aload_n 0, 1) := by decide +kernel
theorem dX7_all_40 : decode cX7_all 40 = .ok (.getfield 26, 3) := by decide +kernel
theorem dX7_all_43 : decode cX7_all 43 = .ok (.invokevirtual 225, 3) := by decide +kernel
theorem dX7_all_46 : decode cX7_all 46 = .ok (.ireturn, 1) := by decide +kernel
set_option maxRecDepth 20000 in
theorem ggX7_count_X1_countAshore : GoodIn wsX7_count wsX1_countAshore := goodIn_r _ [13, 14, 15, 16, 17, 18, 19, 36, 37, 38, 39, 40, 41, 47, 48, 49, 50, 51, 52, 53, 54, 55, 56] (by decide +kernel) (by decide +kernel)
set_option maxRecDepth 20000 in
theorem gX7_count_X1_countAshore : GoodIn wsX7_count (wsV RX7 229 RX1 yX1_countAshore wsX1_countAshore) := goodIn_app (goodIn_of _ (by decide +kernel)) ggX7_count_X1_countAshore
set_option maxRecDepth 20000 in
theorem ggX7_count_X1_countMoored : GoodIn wsX7_count wsX1_countMoored := goodIn_r _ [23, 14, 15, 24, 17, 18, 19, 36, 37, 38, 39, 40, 41, 47, 48, 49, 50, 51, 52, 53, 54, 55, 56] (by decide +kernel) (by decide +kernel)
end
section
set_option maxRecDepth 20000 in
theorem gX7_count_X1_countMoored : GoodIn wsX7_count (wsV RX7 232 RX1 yX1_countMoored wsX1_countMoored) := goodIn_app (goodIn_of _ (by decide +kernel)) ggX7_count_X1_countMoored
set_option maxRecDepth 20000 in
theorem ggX7_count_X1_countLinksOut : GoodIn wsX7_count wsX1_countLinksOut := goodIn_r _ [28, 14, 15, 16, 29, 30, 24, 31, 36, 37, 38, 39, 40, 41, 47, 48, 49, 50, 51, 52, 53, 54, 55, 56, 57, 58, 59] (by decide +kernel) (by decide +kernel)
set_option maxRecDepth 20000 in
theorem gX7_count_X1_countLinksOut : GoodIn wsX7_count (wsV RX7 235 RX1 yX1_countLinksOut wsX1_countLinksOut) := goodIn_app (goodIn_of _ (by decide +kernel)) ggX7_count_X1_countLinksOut
theorem dX7_count_0 : decode cX7_count 0 = .ok (.iload_n 1, 1) := by decide +kernel
theorem dX7_count_1 : decode cX7_count 1 = .ok (.tableswitch 111 0 7 #[47, 55, 63, 71, 79, 87, 95, 103], 47) := by decide +kernel
theorem dX7_count_48 : decode cX7_count 48 = .ok (.aload_n 0, 1) := by decide +kernel
theorem dX7_count_49 : decode cX7_count 49 = .ok (.getfield 26, 3) := by decide +kernel
theorem dX7_count_52 : decode cX7_count 52 = .ok (.getfield 228, 3) := by decide +kernel
theorem dX7_count_55 : decode cX7_count 55 = .ok (.ireturn, 1) := by decide +kernel
theorem dX7_count_56 : decode cX7_count 56 = .ok (.aload_n 0, 1) := by decide +kernel
theorem dX7_count_57 : decode cX7_count 57 = .ok (.getfield 26, 3) := by decide +kernel
theorem dX7_count_60 : decode cX7_count 60 = .ok (.getfield 78, 3) := by decide +kernel
theorem dX7_count_63 : decode cX7_count 63 = .ok (.ireturn, 1) := by decide +kernel
theorem dX7_count_64 : decode cX7_count 64 = .ok (.aload_n 0, 1) := by decide +kernel
theorem dX7_count_65 : decode cX7_count 65 = .ok (.getfield 26, 3) := by decide +kernel
theorem dX7_count_68 : decode cX7_count 68 = .ok (.getfield 126, 3) := by decide +kernel
theorem dX7_count_71 : decode cX7_count 71 = .ok (.ireturn, 1) := by decide +kernel
theorem dX7_count_72 : decode cX7_count 72 = .ok (.aload_n 0, 1) := by decide +kernel
theorem dX7_count_73 : decode cX7_count 73 = .ok (.getfield 26, 3) := by decide +kernel
theorem dX7_count_76 : decode cX7_count 76 = .ok (.invokevirtual 229, 3) := by decide +kernel
theorem dX7_count_79 : decode cX7_count 79 = .ok (.ireturn, 1) := by decide +kernel
theorem dX7_count_80 : decode cX7_count 80 = .ok (.aload_n 0, 1) := by decide +kernel
theorem dX7_count_81 : decode cX7_count 81 = .ok (.getfield 26, 3) := by decide +kernel
theorem dX7_count_84 : decode cX7_count 84 = .ok (.invokevirtual 232, 3) := by decide +kernel
theorem dX7_count_87 : decode cX7_count 87 = .ok (.ireturn, 1) := by decide +kernel
theorem dX7_count_88 : decode cX7_count 88 = .ok (.aload_n 0, 1) := by decide +kernel
theorem dX7_count_89 : decode cX7_count 89 = .ok (.getfield 26, 3) := by decide +kernel
theorem dX7_count_92 : decode cX7_count 92 = .ok (.invokevirtual 235, 3) := by decide +kernel
theorem dX7_count_95 : decode cX7_count 95 = .ok (.ireturn, 1) := by decide +kernel
theorem dX7_count_96 : decode cX7_count 96 = .ok (.aload_n 0, 1) := by decide +kernel
theorem dX7_count_97 : decode cX7_count 97 = .ok (.getfield 33, 3) := by decide +kernel
theorem dX7_count_100 : decode cX7_count 100 = .ok (.getfield 141, 3) := by decide +kernel
theorem dX7_count_103 : decode cX7_count 103 = .ok (.ireturn, 1) := by decide +kernel
theorem dX7_count_104 : decode cX7_count 104 = .ok (.aload_n 0, 1) := by decide +kernel
theorem dX7_count_105 : decode cX7_count 105 = .ok (.getfield 10, 3) := by decide +kernel
theorem dX7_count_108 : decode cX7_count 108 = .ok (.getfield 68, 3) := by decide +kernel
theorem dX7_count_111 : decode cX7_count 111 = .ok (.ireturn, 1) := by decide +kernel
theorem dX7_count_112 : decode cX7_count 112 = .ok (.iconst (-1), 1) := by decide +kernel
theorem dX7_count_113 : decode cX7_count 113 = .ok (.ireturn, 1) := by decide +kernel
set_option maxRecDepth 20000 in
theorem ggX7_remember_X4_rowForNext : GoodIn wsX7_remember wsX4_rowForNext := goodIn_r _ [7, 8, 9, 10, 11, 12, 13, 14, 48, 49, 50] (by decide +kernel) (by decide +kernel)
set_option maxRecDepth 20000 in
theorem gX7_remember_X4_rowForNext : GoodIn wsX7_remember (wsV RX7 238 RX4 yX4_rowForNext wsX4_rowForNext) := goodIn_app (goodIn_of _ (by decide +kernel)) ggX7_remember_X4_rowForNext
set_option maxRecDepth 20000 in
theorem ggX7_remember_X1_save : GoodIn wsX7_remember wsX1_save := goodIn_r _ [19, 20, 21, 22, 23, 24, 25, 26, 27, 28, 29, 30, 31, 32, 33, 34, 35, 36, 37, 38, 39, 40, 41, 42, 43, 51, 52, 53, 54, 55, 56, 57, 58, 59, 60, 61, 62, 63, 64, 65, 66, 67, 68, 69] (by decide +kernel) (by decide +kernel)
set_option maxRecDepth 20000 in
theorem gX7_remember_X1_save : GoodIn wsX7_remember (wsV RX7 241 RX1 yX1_save wsX1_save) := goodIn_app (goodIn_of _ (by decide +kernel)) ggX7_remember_X1_save
theorem dX7_remember_0 : decode cX7_remember 0 = .ok (.aload_n 0, 1) := by decide +kernel
theorem dX7_remember_1 : decode cX7_remember 1 = .ok (.getfield 26, 3) := by decide +kernel
theorem dX7_remember_4 : decode cX7_remember 4 = .ok (.aload_n 0, 1) := by decide +kernel
theorem dX7_remember_5 : decode cX7_remember 5 = .ok (.getfield 33, 3) := by decide +kernel
theorem dX7_remember_8 : decode cX7_remember 8 = .ok (.invokevirtual 238, 3) := by decide +kernel
theorem dX7_remember_11 : decode cX7_remember 11 = .ok (.invokevirtual 241, 3) := by decide +kernel
theorem dX7_remember_14 : decode cX7_remember 14 = .ok (.return_, 1) := by decide +kernel
theorem dX7_within_0 : decode cX7_within 0 = .ok (.iload_n 0, 1) := by decide +kernel
theorem dX7_within_1 : decode cX7_within 1 = .ok (.iload_n 1, 1) := by decide +kernel
theorem dX7_within_2 : decode cX7_within 2 = .ok (.if_icmp .lt 12, 3) := by decide +kernel
theorem dX7_within_5 : decode cX7_within 5 = .ok (.iload_n 0, 1) := by decide +kernel
theorem dX7_within_6 : decode cX7_within 6 = .ok (.iload_n 2, 1) := by decide +kernel
theorem dX7_within_7 : decode cX7_within 7 = .ok (.if_icmp .gt 7, 3) := by decide +kernel
theorem dX7_within_10 : decode cX7_within 10 = .ok (.iconst 1, 1) := by decide +kernel
theorem dX7_within_11 : decode cX7_within 11 = .ok (.goto 4, 3) := by decide +kernel
theorem dX7_within_14 : decode cX7_within 14 = .ok (.iconst 0, 1) := by decide +kernel
theorem dX7_within_15 : decode cX7_within 15 = .ok (.ireturn, 1) := by decide +kernel
set_option maxRecDepth 20000 in
theorem ggX7_isWind_X7_within : GoodIn wsX7_isWind wsX7_within := goodIn_r _ [4] (by decide +kernel) (by decide +kernel)
set_option maxRecDepth 20000 in
theorem gX7_isWind_X7_within : GoodIn wsX7_isWind (va_wsS RX7 64 yX7_within wsX7_within) := goodIn_app (goodIn_of _ (by decide +kernel)) ggX7_isWind_X7_within
theorem dX7_isWind_0 : decode cX7_isWind 0 = .ok (.iload_n 0, 1) := by decide +kernel
theorem dX7_isWind_1 : decode cX7_isWind 1 = .ok (.iconst 0, 1) := by decide +kernel
theorem dX7_isWind_2 : decode cX7_isWind 2 = .ok (.bipush 20, 2) := by decide +kernel
theorem dX7_isWind_4 : decode cX7_isWind 4 = .ok (.invokestatic 64, 3) := by decide +kernel
theorem dX7_isWind_7 : decode cX7_isWind 7 = .ok (.ireturn, 1) := by decide +kernel
theorem dX7_oneIf_0 : decode cX7_oneIf 0 = .ok (.iload_n 0, 1) := by decide +kernel
theorem dX7_oneIf_1 : decode cX7_oneIf 1 = .ok (.ifCond .eq 7, 3) := by decide +kernel
theorem dX7_oneIf_4 : decode cX7_oneIf 4 = .ok (.iconst 1, 1) := by decide +kernel
theorem dX7_oneIf_5 : decode cX7_oneIf 5 = .ok (.goto 4, 3) := by decide +kernel
theorem dX7_oneIf_8 : decode cX7_oneIf 8 = .ok (.iconst 0, 1) := by decide +kernel
theorem dX7_oneIf_9 : decode cX7_oneIf 9 = .ok (.ireturn, 1) := by decide +kernel
theorem dX8_in_0 : decode cX8_in 0 = .ok (.iload_n 0, 1) := by decide +kernel
theorem dX8_in_1 : decode cX8_in 1 = .ok (.iload_n 1, 1) := by decide +kernel
theorem dX8_in_2 : decode cX8_in 2 = .ok (.if_icmp .lt 12, 3) := by decide +kernel
theorem dX8_in_5 : decode cX8_in 5 = .ok (.iload_n 0, 1) := by decide +kernel
theorem dX8_in_6 : decode cX8_in 6 = .ok (.iload_n 2, 1) := by decide +kernel
theorem dX8_in_7 : decode cX8_in 7 = .ok (.if_icmp .gt 7, 3) := by decide +kernel
theorem dX8_in_10 : decode cX8_in 10 = .ok (.iconst 1, 1) := by decide +kernel
theorem dX8_in_11 : decode cX8_in 11 = .ok (.goto 4, 3) := by decide +kernel
theorem dX8_in_14 : decode cX8_in 14 = .ok (.iconst 0, 1) := by decide +kernel
theorem dX8_in_15 : decode cX8_in 15 = .ok (.ireturn, 1) := by decide +kernel
set_option maxRecDepth 20000 in
theorem ggX8_init_X8_column : GoodIn wsX8_init wsX8_column := goodIn_r _ [14, 6, 28, 29, 30, 31, 32, 33, 34, 35, 36, 37, 38, 39, 40] (by decide +kernel) (by decide +kernel)
set_option maxRecDepth 20000 in
theorem gX8_init_X8_column : GoodIn wsX8_init (wsV RX8 25 RX8 yX8_column wsX8_column) := goodIn_app (goodIn_of _ (by decide +kernel)) ggX8_init_X8_column
set_option maxRecDepth 20000 in
theorem ggX8_init_X8_place : GoodIn wsX8_init wsX8_place := goodIn_r _ [18, 6, 28, 29, 30, 31, 32, 33, 34, 35, 36, 37, 38, 39, 40] (by decide +kernel) (by decide +kernel)
set_option maxRecDepth 20000 in
theorem gX8_init_X8_place : GoodIn wsX8_init (wsV RX8 29 RX8 yX8_place wsX8_place) := goodIn_app (goodIn_of _ (by decide +kernel)) ggX8_init_X8_place
set_option maxRecDepth 20000 in
theorem ggX8_init_X8_measure : GoodIn wsX8_init wsX8_measure := goodIn_r _ [22, 6, 28, 29, 30, 31, 32, 33, 34, 35, 36, 37, 38, 39, 40] (by decide +kernel) (by decide +kernel)
set_option maxRecDepth 20000 in
theorem gX8_init_X8_measure : GoodIn wsX8_init (wsV RX8 33 RX8 yX8_measure wsX8_measure) := goodIn_app (goodIn_of _ (by decide +kernel)) ggX8_init_X8_measure
set_option maxRecDepth 20000 in
theorem ggX8_init_X8_install : GoodIn wsX8_init wsX8_install := goodIn_r _ [26, 5, 6, 27, 28, 29, 30, 31, 32, 33, 34, 35, 36, 37, 38, 39, 40] (by decide +kernel) (by decide +kernel)
set_option maxRecDepth 20000 in
theorem gX8_init_X8_install : GoodIn wsX8_init (wsV RX8 37 RX8 yX8_install wsX8_install) := goodIn_app (goodIn_of _ (by decide +kernel)) ggX8_init_X8_install
theorem dX8_init_0 : decode cX8_init 0 = .ok (.aload_n 0, 1) := by decide +kernel
theorem dX8_init_1 : decode cX8_init 1 = .ok (.invokespecial 1, 3) := by decide +kernel
theorem dX8_init_4 : decode cX8_init 4 = .ok (.aload_n 0, 1) := by decide +kernel
theorem dX8_init_5 : decode cX8_init 5 = .ok (.bipush 88, 2) := by decide +kernel
theorem dX8_init_7 : decode cX8_init 7 = .ok (.newarray .int, 2) := by decide +kernel
theorem dX8_init_9 : decode cX8_init 9 = .ok (.putfield 7, 3) := by decide +kernel
theorem dX8_init_12 : decode cX8_init 12 = .ok (.aload_n 0, 1) := by decide +kernel
theorem dX8_init_13 : decode cX8_init 13 = .ok (.bipush 88, 2) := by decide +kernel
theorem dX8_init_15 : decode cX8_init 15 = .ok (.newarray .int, 2) := by decide +kernel
theorem dX8_init_17 : decode cX8_init 17 = .ok (.putfield 13, 3) := by decide +kernel
theorem dX8_init_20 : decode cX8_init 20 = .ok (.aload_n 0, 1) := by decide +kernel
theorem dX8_init_21 : decode cX8_init 21 = .ok (.sipush 528, 3) := by decide +kernel
theorem dX8_init_24 : decode cX8_init 24 = .ok (.newarray .int, 2) := by decide +kernel
theorem dX8_init_26 : decode cX8_init 26 = .ok (.putfield 16, 3) := by decide +kernel
theorem dX8_init_29 : decode cX8_init 29 = .ok (.aload_n 0, 1) := by decide +kernel
theorem dX8_init_30 : decode cX8_init 30 = .ok (.sipush 200, 3) := by decide +kernel
theorem dX8_init_33 : decode cX8_init 33 = .ok (.newarray .int, 2) := by decide +kernel
theorem dX8_init_35 : decode cX8_init 35 = .ok (.putfield 19, 3) := by decide +kernel
theorem dX8_init_38 : decode cX8_init 38 = .ok (.aload_n 0, 1) := by decide +kernel
theorem dX8_init_39 : decode cX8_init 39 = .ok (.bipush 7, 2) := by decide +kernel
theorem dX8_init_41 : decode cX8_init 41 = .ok (.newarray .int, 2) := by decide +kernel
theorem dX8_init_43 : decode cX8_init 43 = .ok (.putfield 22, 3) := by decide +kernel
theorem dX8_init_46 : decode cX8_init 46 = .ok (.aload_n 0, 1) := by decide +kernel
theorem dX8_init_47 : decode cX8_init 47 = .ok (.iconst 3, 1) := by decide +kernel
theorem dX8_init_48 : decode cX8_init 48 = .ok (.invokevirtual 25, 3) := by decide +kernel
theorem dX8_init_51 : decode cX8_init 51 = .ok (.aload_n 0, 1) := by decide +kernel
theorem dX8_init_52 : decode cX8_init 52 = .ok (.iconst 4, 1) := by decide +kernel
theorem dX8_init_53 : decode cX8_init 53 = .ok (.invokevirtual 25, 3) := by decide +kernel
theorem dX8_init_56 : decode cX8_init 56 = .ok (.aload_n 0, 1) := by decide +kernel
theorem dX8_init_57 : decode cX8_init 57 = .ok (.iconst 4, 1) := by decide +kernel
theorem dX8_init_58 : decode cX8_init 58 = .ok (.invokevirtual 25, 3) := by decide +kernel
theorem dX8_init_61 : decode cX8_init 61 = .ok (.aload_n 0, 1) := by decide +kernel
theorem dX8_init_62 : decode cX8_init 62 = .ok (.bipush 6, 2) := by decide +kernel
theorem dX8_init_64 : decode cX8_init 64 = .ok (.invokevirtual 25, 3) := by decide +kernel
theorem dX8_init_67 : decode cX8_init 67 = .ok (.aload_n 0, 1) := by decide +kernel
theorem dX8_init_68 : decode cX8_init 68 = .ok (.bipush 8, 2) := by decide +kernel
theorem dX8_init_70 : decode cX8_init 70 = .ok (.invokevirtual 25, 3) := by decide +kernel
theorem dX8_init_73 : decode cX8_init 73 = .ok (.aload_n 0, 1) := by decide +kernel
theorem dX8_init_74 : decode cX8_init 74 = .ok (.bipush 8, 2) := by decide +kernel
theorem dX8_init_76 : decode cX8_init 76 = .ok (.invokevirtual 25, 3) := by decide +kernel
theorem dX8_init_79 : decode cX8_init 79 = .ok (.aload_n 0, 1) := by decide +kernel
theorem dX8_init_80 : decode cX8_init 80 = .ok (.iconst 5, 1) := by decide +kernel
theorem dX8_init_81 : decode cX8_init 81 = .ok (.invokevirtual 25, 3) := by decide +kernel
theorem dX8_init_84 : decode cX8_init 84 = .ok (.aload_n 0, 1) := by decide +kernel
theorem dX8_init_85 : decode cX8_init 85 = .ok (.iconst 4, 1) := by decide +kernel
theorem dX8_init_86 : decode cX8_init 86 = .ok (.invokevirtual 25, 3) := by decide +kernel
theorem dX8_init_89 : decode cX8_init 89 = .ok (.aload_n 0, 1) := by decide +kernel
theorem dX8_init_90 : decode cX8_init 90 = .ok (.iconst 3, 1) := by decide +kernel
theorem dX8_init_91 : decode cX8_init 91 = .ok (.invokevirtual 25, 3) := by decide +kernel
theorem dX8_init_94 : decode cX8_init 94 = .ok (.aload_n 0, 1) := by decide +kernel
theorem dX8_init_95 : decode cX8_init 95 = .ok (.iconst 2, 1) := by decide +kernel
theorem dX8_init_96 : decode cX8_init 96 = .ok (.invokevirtual 25, 3) := by decide +kernel
theorem dX8_init_99 : decode cX8_init 99 = .ok (.aload_n 0, 1) := by decide +kernel
theorem dX8_init_100 : decode cX8_init 100 = .ok (.iconst 2, 1) := by decide +kernel
theorem dX8_init_101 : decode cX8_init 101 = .ok (.iconst 3, 1) := by decide +kernel
theorem dX8_init_102 : decode cX8_init 102 = .ok (.bipush 20, 2) := by decide +kernel
theorem dX8_init_104 : decode cX8_init 104 = .ok (.iconst 2, 1) := by decide +kernel
theorem dX8_init_105 : decode cX8_init 105 = .ok (.invokevirtual 29, 3) := by decide +kernel
theorem dX8_init_108 : decode cX8_init 108 = .ok (.aload_n 0, 1) := by decide +kernel
theorem dX8_init_109 : decode cX8_init 109 = .ok (.iconst 3, 1) := by decide +kernel
theorem dX8_init_110 : decode cX8_init 110 = .ok (.iconst 4, 1) := by decide +kernel
theorem dX8_init_111 : decode cX8_init 111 = .ok (.sipush 200, 3) := by decide +kernel
theorem dX8_init_114 : decode cX8_init 114 = .ok (.invokevirtual 33, 3) := by decide +kernel
theorem dX8_init_117 : decode cX8_init 117 = .ok (.aload_n 0, 1) := by decide +kernel
theorem dX8_init_118 : decode cX8_init 118 = .ok (.iconst 5, 1) := by decide +kernel
theorem dX8_init_119 : decode cX8_init 119 = .ok (.bipush 9, 2) := by decide +kernel
theorem dX8_init_121 : decode cX8_init 121 = .ok (.bipush 40, 2) := by decide +kernel
theorem dX8_init_123 : decode cX8_init 123 = .ok (.iconst 3, 1) := by decide +kernel
theorem dX8_init_124 : decode cX8_init 124 = .ok (.invokevirtual 29, 3) := by decide +kernel
theorem dX8_init_127 : decode cX8_init 127 = .ok (.aload_n 0, 1) := by decide +kernel
theorem dX8_init_128 : decode cX8_init 128 = .ok (.iconst 5, 1) := by decide +kernel
theorem dX8_init_129 : decode cX8_init 129 = .ok (.bipush 6, 2) := by decide +kernel
theorem dX8_init_131 : decode cX8_init 131 = .ok (.sipush 300, 3) := by decide +kernel
theorem dX8_init_134 : decode cX8_init 134 = .ok (.invokevirtual 33, 3) := by decide +kernel
theorem dX8_init_137 : decode cX8_init 137 = .ok (.aload_n 0, 1) := by decide +kernel
theorem dX8_init_138 : decode cX8_init 138 = .ok (.bipush 7, 2) := by decide +kernel
theorem dX8_init_140 : decode cX8_init 140 = .ok (.iconst 4, 1) := by decide +kernel
theorem dX8_init_141 : decode cX8_init 141 = .ok (.bipush 12, 2) := by decide +kernel
theorem dX8_init_143 : decode cX8_init 143 = .ok (.iconst 1, 1) := by decide +kernel
theorem dX8_init_144 : decode cX8_init 144 = .ok (.invokevirtual 29, 3) := by decide +kernel
theorem dX8_init_147 : decode cX8_init 147 = .ok (.aload_n 0, 1) := by decide +kernel
theorem dX8_init_148 : decode cX8_init 148 = .ok (.iconst 2, 1) := by decide +kernel
theorem dX8_init_149 : decode cX8_init 149 = .ok (.iconst 2, 1) := by decide +kernel
theorem dX8_init_150 : decode cX8_init 150 = .ok (.bipush 60, 2) := by decide +kernel
theorem dX8_init_152 : decode cX8_init 152 = .ok (.invokevirtual 33, 3) := by decide +kernel
theorem dX8_init_155 : decode cX8_init 155 = .ok (.aload_n 0, 1) := by decide +kernel
theorem dX8_init_156 : decode cX8_init 156 = .ok (.invokevirtual 37, 3) := by decide +kernel
theorem dX8_init_159 : decode cX8_init 159 = .ok (.return_, 1) := by decide +kernel
set_option maxRecDepth 20000 in
theorem ggX8_write_X8_in : GoodIn wsX8_write wsX8_in := goodIn_r _ [6] (by decide +kernel) (by decide +kernel)
set_option maxRecDepth 20000 in
theorem gX8_write_X8_in : GoodIn wsX8_write (va_wsS RX8 40 yX8_in wsX8_in) := goodIn_app (goodIn_of _ (by decide +kernel)) ggX8_write_X8_in
theorem dX8_write_0 : decode cX8_write 0 = .ok (.iload_n 1, 1) := by decide +kernel
theorem dX8_write_1 : decode cX8_write 1 = .ok (.bipush 32, 2) := by decide +kernel
theorem dX8_write_3 : decode cX8_write 3 = .ok (.bipush 126, 2) := by decide +kernel
theorem dX8_write_5 : decode cX8_write 5 = .ok (.invokestatic 40, 3) := by decide +kernel
theorem dX8_write_8 : decode cX8_write 8 = .ok (.ifCond .ne 5, 3) := by decide +kernel
theorem dX8_write_11 : decode cX8_write 11 = .ok (.iconst (-1), 1) := by decide +kernel
theorem dX8_write_12 : decode cX8_write 12 = .ok (.ireturn, 1) := by decide +kernel
theorem dX8_write_13 : decode cX8_write 13 = .ok (.aload_n 0, 1) := by decide +kernel
theorem dX8_write_14 : decode cX8_write 14 = .ok (.getfield 44, 3) := by decide +kernel
theorem dX8_write_17 : decode cX8_write 17 = .ok (.sipush 200, 3) := by decide +kernel
theorem dX8_write_20 : decode cX8_write 20 = .ok (.if_icmp .ne 6, 3) := by decide +kernel
theorem dX8_write_23 : decode cX8_write 23 = .ok (.bipush (-3), 2) := by decide +kernel
theorem dX8_write_25 : decode cX8_write 25 = .ok (.ireturn, 1) := by decide +kernel
theorem dX8_write_26 : decode cX8_write 26 = .ok (.aload_n 0, 1) := by decide +kernel
theorem dX8_write_27 : decode cX8_write 27 = .ok (.getfield 19, 3) := by decide +kernel
theorem dX8_write_30 : decode cX8_write 30 = .ok (.aload_n 0, 1) := by decide +kernel
theorem dX8_write_31 : decode cX8_write 31 = .ok (.getfield 44, 3) := by decide +kernel
theorem dX8_write_34 : decode cX8_write 34 = .ok (.iload_n 1, 1) := by decide +kernel
theorem dX8_write_35 : decode cX8_write 35 = .ok (.iastore, 1) := by decide +kernel
theorem dX8_write_36 : decode cX8_write 36 = .ok (.aload_n 0, 1) := by decide +kernel
theorem dX8_write_37 : decode cX8_write 37 = .ok (.dup, 1) := by decide +kernel
theorem dX8_write_38 : decode cX8_write 38 = .ok (.getfield 44, 3) := by decide +kernel
theorem dX8_write_41 : decode cX8_write 41 = .ok (.iconst 1, 1) := by decide +kernel
theorem dX8_write_42 : decode cX8_write 42 = .ok (.iadd, 1) := by decide +kernel
theorem dX8_write_43 : decode cX8_write 43 = .ok (.putfield 44, 3) := by decide +kernel
theorem dX8_write_46 : decode cX8_write 46 = .ok (.aload_n 0, 1) := by decide +kernel
theorem dX8_write_47 : decode cX8_write 47 = .ok (.getfield 44, 3) := by decide +kernel
theorem dX8_write_50 : decode cX8_write 50 = .ok (.ireturn, 1) := by decide +kernel
theorem dX8_wipe_0 : decode cX8_wipe 0 = .ok (.aload_n 0, 1) := by decide +kernel
theorem dX8_wipe_1 : decode cX8_wipe 1 = .ok (.getfield 44, 3) := by decide +kernel
theorem dX8_wipe_4 : decode cX8_wipe 4 = .ok (.istore_n 1, 1) := by decide +kernel
theorem dX8_wipe_5 : decode cX8_wipe 5 = .ok (.aload_n 0, 1) := by decide +kernel
theorem dX8_wipe_6 : decode cX8_wipe 6 = .ok (.iconst 0, 1) := by decide +kernel
theorem dX8_wipe_7 : decode cX8_wipe 7 = .ok (.putfield 44, 3) := by decide +kernel
theorem dX8_wipe_10 : decode cX8_wipe 10 = .ok (.iload_n 1, 1) := by decide +kernel
theorem dX8_wipe_11 : decode cX8_wipe 11 = .ok (.ireturn, 1) := by decide +kernel
theorem dX8_column_0 : decode cX8_column 0 = .ok (.aload_n 0, 1) := by decide +kernel
theorem dX8_column_1 : decode cX8_column 1 = .ok (.getfield 13, 3) := by decide +kernel
theorem dX8_column_4 : decode cX8_column 4 = .ok (.iconst 3, 1) := by decide +kernel
theorem dX8_column_5 : decode cX8_column 5 = .ok (.aload_n 0, 1) := by decide +kernel
theorem dX8_column_6 : decode cX8_column 6 = .ok (.getfield 13, 3) := by decide +kernel
theorem dX8_column_9 : decode cX8_column 9 = .ok (.iconst 0, 1) := by decide +kernel
theorem dX8_column_10 : decode cX8_column 10 = .ok (.iaload, 1) := by decide +kernel
theorem dX8_column_11 : decode cX8_column 11 = .ok (.iadd, 1) := by decide +kernel
theorem dX8_column_12 : decode cX8_column 12 = .ok (.iload_n 1, 1) := by decide +kernel
theorem dX8_column_13 : decode cX8_column 13 = .ok (.iastore, 1) := by decide +kernel
theorem dX8_column_14 : decode cX8_column 14 = .ok (.aload_n 0, 1) := by decide +kernel
theorem dX8_column_15 : decode cX8_column 15 = .ok (.getfield 13, 3) := by decide +kernel
theorem dX8_column_18 : decode cX8_column 18 = .ok (.iconst 0, 1) := by decide +kernel
theorem dX8_column_19 : decode cX8_column 19 = .ok (.dup2, 1) := by decide +kernel
theorem dX8_column_20 : decode cX8_column 20 = .ok (.iaload, 1) := by decide +kernel
theorem dX8_column_21 : decode cX8_column 21 = .ok (.iconst 1, 1) := by decide +kernel
theorem dX8_column_22 : decode cX8_column 22 = .ok (.iadd, 1) := by decide +kernel
theorem dX8_column_23 : decode cX8_column 23 = .ok (.iastore, 1) := by decide +kernel
theorem dX8_column_24 : decode cX8_column 24 = .ok (.return_, 1) := by decide +kernel
theorem dX8_place_0 : decode cX8_place 0 = .ok (.bipush 23, 2) := by decide +kernel
theorem dX8_place_2 : decode cX8_place 2 = .ok (.bipush 13, 2) := by decide +kernel
theorem dX8_place_4 : decode cX8_place 4 = .ok (.aload_n 0, 1) := by decide +kernel
theorem dX8_place_5 : decode cX8_place 5 = .ok (.getfield 13, 3) := by decide +kernel
theorem dX8_place_8 : decode cX8_place 8 = .ok (.iconst 1, 1) := by decide +kernel
theorem dX8_place_9 : decode cX8_place 9 = .ok (.iaload, 1) := by decide +kernel
theorem dX8_place_10 : decode cX8_place 10 = .ok (.imul, 1) := by decide +kernel
theorem dX8_place_11 : decode cX8_place 11 = .ok (.iadd, 1) := by decide +kernel
theorem dX8_place_12 : decode cX8_place 12 = .ok (.istore 5, 2) := by decide +kernel
theorem dX8_place_14 : decode cX8_place 14 = .ok (.aload_n 0, 1) := by decide +kernel
theorem dX8_place_15 : decode cX8_place 15 = .ok (.getfield 13, 3) := by decide +kernel
theorem dX8_place_18 : decode cX8_place 18 = .ok (.iload 5, 2) := by decide +kernel
theorem dX8_place_20 : decode cX8_place 20 = .ok (.iconst 0, 1) := by decide +kernel
theorem dX8_place_21 : decode cX8_place 21 = .ok (.iadd, 1) := by decide +kernel
theorem dX8_place_22 : decode cX8_place 22 = .ok (.iload_n 1, 1) := by decide +kernel
theorem dX8_place_23 : decode cX8_place 23 = .ok (.iastore, 1) := by decide +kernel
theorem dX8_place_24 : decode cX8_place 24 = .ok (.aload_n 0, 1) := by decide +kernel
theorem dX8_place_25 : decode cX8_place 25 = .ok (.getfield 13, 3) := by decide +kernel
theorem dX8_place_28 : decode cX8_place 28 = .ok (.iload 5, 2) := by decide +kernel
theorem dX8_place_30 : decode cX8_place 30 = .ok (.iconst 1, 1) := by decide +kernel
theorem dX8_place_31 : decode cX8_place 31 = .ok (.iadd, 1) := by decide +kernel
theorem dX8_place_32 : decode cX8_place 32 = .ok (.iload_n 2, 1) := by decide +kernel
theorem dX8_place_33 : decode cX8_place 33 = .ok (.iastore, 1) := by decide +kernel
theorem dX8_place_34 : decode cX8_place 34 = .ok (.aload_n 0, 1) := by decide +kernel
theorem dX8_place_35 : decode cX8_place 35 = .ok (.getfield 13, 3) := by decide +kernel
theorem dX8_place_38 : decode cX8_place 38 = .ok (.iload 5, 2) := by decide +kernel
theorem dX8_place_40 : decode cX8_place 40 = .ok (.iconst 2, 1) := by decide +kernel
theorem dX8_place_41 : decode cX8_place 41 = .ok (.iadd, 1) := by decide +kernel
theorem dX8_place_42 : decode cX8_place 42 = .ok (.iload_n 3, 1) := by decide +kernel
theorem dX8_place_43 : decode cX8_place 43 = .ok (.iastore, 1) := by decide +kernel
theorem dX8_place_44 : decode cX8_place 44 = .ok (.aload_n 0, 1) := by decide +kernel
theorem dX8_place_45 : decode cX8_place 45 = .ok (.getfield 13, 3) := by decide +kernel
theorem dX8_place_48 : decode cX8_place 48 = .ok (.iload 5, 2) := by decide +kernel
theorem dX8_place_50 : decode cX8_place 50 = .ok (.iconst 3, 1) := by decide +kernel
theorem dX8_place_51 : decode cX8_place 51 = .ok (.iadd, 1) := by decide +kernel
theorem dX8_place_52 : decode cX8_place 52 = .ok (.iload 4, 2) := by decide +kernel
theorem dX8_place_54 : decode cX8_place 54 = .ok (.iastore, 1) := by decide +kernel
theorem dX8_place_55 : decode cX8_place 55 = .ok (.return_, 1) := by decide +kernel
theorem dX8_measure_0 : decode cX8_measure 0 = .ok (.bipush 23, 2) := by decide +kernel
theorem dX8_measure_2 : decode cX8_measure 2 = .ok (.bipush 13, 2) := by decide +kernel
theorem dX8_measure_4 : decode cX8_measure 4 = .ok (.aload_n 0, 1) := by decide +kernel
theorem dX8_measure_5 : decode cX8_measure 5 = .ok (.getfield 13, 3) := by decide +kernel
theorem dX8_measure_8 : decode cX8_measure 8 = .ok (.iconst 1, 1) := by decide +kernel
theorem dX8_measure_9 : decode cX8_measure 9 = .ok (.iaload, 1) := by decide +kernel
theorem dX8_measure_10 : decode cX8_measure 10 = .ok (.imul, 1) := by decide +kernel
theorem dX8_measure_11 : decode cX8_measure 11 = .ok (.iadd, 1) := by decide +kernel
theorem dX8_measure_12 : decode cX8_measure 12 = .ok (.istore 4, 2) := by decide +kernel
theorem dX8_measure_14 : decode cX8_measure 14 = .ok (.aload_n 0, 1) := by decide +kernel
theorem dX8_measure_15 : decode cX8_measure 15 = .ok (.getfield 13, 3) := by decide +kernel
theorem dX8_measure_18 : decode cX8_measure 18 = .ok (.iload 4, 2) := by decide +kernel
theorem dX8_measure_20 : decode cX8_measure 20 = .ok (.iconst 4, 1) := by decide +kernel
theorem dX8_measure_21 : decode cX8_measure 21 = .ok (.iadd, 1) := by decide +kernel
theorem dX8_measure_22 : decode cX8_measure 22 = .ok (.iload_n 1, 1) := by decide +kernel
theorem dX8_measure_23 : decode cX8_measure 23 = .ok (.iastore, 1) := by decide +kernel
theorem dX8_measure_24 : decode cX8_measure 24 = .ok (.aload_n 0, 1) := by decide +kernel
theorem dX8_measure_25 : decode cX8_measure 25 = .ok (.getfield 13, 3) := by decide +kernel
theorem dX8_measure_28 : decode cX8_measure 28 = .ok (.iload 4, 2) := by decide +kernel
theorem dX8_measure_30 : decode cX8_measure 30 = .ok (.iconst 5, 1) := by decide +kernel
theorem dX8_measure_31 : decode cX8_measure 31 = .ok (.iadd, 1) := by decide +kernel
theorem dX8_measure_32 : decode cX8_measure 32 = .ok (.iload_n 2, 1) := by decide +kernel
theorem dX8_measure_33 : decode cX8_measure 33 = .ok (.iastore, 1) := by decide +kernel
theorem dX8_measure_34 : decode cX8_measure 34 = .ok (.aload_n 0, 1) := by decide +kernel
theorem dX8_measure_35 : decode cX8_measure 35 = .ok (.getfield 13, 3) := by decide +kernel
theorem dX8_measure_38 : decode cX8_measure 38 = .ok (.iload 4, 2) := by decide +kernel
theorem dX8_measure_40 : decode cX8_measure 40 = .ok (.bipush 6, 2) := by decide +kernel
theorem dX8_measure_42 : decode cX8_measure 42 = .ok (.iadd, 1) := by decide +kernel
theorem dX8_measure_43 : decode cX8_measure 43 = .ok (.iload_n 3, 1) := by decide +kernel
theorem dX8_measure_44 : decode cX8_measure 44 = .ok (.iastore, 1) := by decide +kernel
theorem dX8_measure_45 : decode cX8_measure 45 = .ok (.aload_n 0, 1) := by decide +kernel
theorem dX8_measure_46 : decode cX8_measure 46 = .ok (.getfield 13, 3) := by decide +kernel
theorem dX8_measure_49 : decode cX8_measure 49 = .ok (.iconst 1, 1) := by decide +kernel
theorem dX8_measure_50 : decode cX8_measure 50 = .ok (.dup2, 1) := by decide +kernel
theorem dX8_measure_51 : decode cX8_measure 51 = .ok (.iaload, 1) := by decide +kernel
theorem dX8_measure_52 : decode cX8_measure 52 = .ok (.iconst 1, 1) := by decide +kernel
theorem dX8_measure_53 : decode cX8_measure 53 = .ok (.iadd, 1) := by decide +kernel
theorem dX8_measure_54 : decode cX8_measure 54 = .ok (.iastore, 1) := by decide +kernel
theorem dX8_measure_55 : decode cX8_measure 55 = .ok (.return_, 1) := by decide +kernel
set_option maxRecDepth 20000 in
theorem ggX8_isFigure_X8_in : GoodIn wsX8_isFigure wsX8_in := goodIn_r _ [7] (by decide +kernel) (by decide +kernel)
set_option maxRecDepth 20000 in
theorem gX8_isFigure_X8_in : GoodIn wsX8_isFigure (va_wsS RX8 40 yX8_in wsX8_in) := goodIn_app (goodIn_of _ (by decide +kernel)) ggX8_isFigure_X8_in
theorem dX8_isFigure_0 : decode cX8_isFigure 0 = .ok (.aload_n 0, 1) := by decide +kernel
theorem dX8_isFigure_1 : decode cX8_isFigure 1 = .ok (.getfield 48, 3) := by decide +kernel
theorem dX8_isFigure_4 : decode cX8_isFigure 4 = .ok (.aload_n 0, 1) := by decide +kernel
theorem dX8_isFigure_5 : decode cX8_isFigure 5 = .ok (.getfield 44, 3) := by decide +kernel
theorem dX8_isFigure_8 : decode cX8_isFigure 8 = .ok (.if_icmp .ge 26, 3) := by decide +kernel
theorem dX8_isFigure_11 : decode cX8_isFigure 11 = .ok (.aload_n 0, 1) := by decide +kernel
theorem dX8_isFigure_12 : decode cX8_isFigure 12 = .ok (.getfield 19, 3) := by decide +kernel
theorem dX8_isFigure_15 : decode cX8_isFigure 15 = .ok (.aload_n 0, 1) := by decide +kernel
theorem dX8_isFigure_16 : decode cX8_isFigure 16 = .ok (.getfield 48, 3) := by decide +kernel
theorem dX8_isFigure_19 : decode cX8_isFigure 19 = .ok (.iaload, 1) := by decide +kernel
theorem dX8_isFigure_20 : decode cX8_isFigure 20 = .ok (.bipush 48, 2) := by decide +kernel
theorem dX8_isFigure_22 : decode cX8_isFigure 22 = .ok (.bipush 57, 2) := by decide +kernel
theorem dX8_isFigure_24 : decode cX8_isFigure 24 = .ok (.invokestatic 40, 3) := by decide +kernel
theorem dX8_isFigure_27 : decode cX8_isFigure 27 = .ok (.ifCond .eq 7, 3) := by decide +kernel
theorem dX8_isFigure_30 : decode cX8_isFigure 30 = .ok (.iconst 1, 1) := by decide +kernel
theorem dX8_isFigure_31 : decode cX8_isFigure 31 = .ok (.goto 4, 3) := by decide +kernel
theorem dX8_isFigure_34 : decode cX8_isFigure 34 = .ok (.iconst 0, 1) := by decide +kernel
theorem dX8_isFigure_35 : decode cX8_isFigure 35 = .ok (.ireturn, 1) := by decide +kernel
theorem dX8_isSign_0 : decode cX8_isSign 0 = .ok (.aload_n 0, 1) := by decide +kernel
theorem dX8_isSign_1 : decode cX8_isSign 1 = .ok (.getfield 48, 3) := by decide +kernel
theorem dX8_isSign_4 : decode cX8_isSign 4 = .ok (.aload_n 0, 1) := by decide +kernel
theorem dX8_isSign_5 : decode cX8_isSign 5 = .ok (.getfield 44, 3) := by decide +kernel
theorem dX8_isSign_8 : decode cX8_isSign 8 = .ok (.if_icmp .ge 20, 3) := by decide +kernel
theorem dX8_isSign_11 : decode cX8_isSign 11 = .ok (.aload_n 0, 1) := by decide +kernel
theorem dX8_isSign_12 : decode cX8_isSign 12 = .ok (.getfield 19, 3) := by decide +kernel
theorem dX8_isSign_15 : decode cX8_isSign 15 = .ok (.aload_n 0, 1) := by decide +kernel
theorem dX8_isSign_16 : decode cX8_isSign 16 = .ok (.getfield 48, 3) := by decide +kernel
theorem dX8_isSign_19 : decode cX8_isSign 19 = .ok (.iaload, 1) := by decide +kernel
theorem dX8_isSign_20 : decode cX8_isSign 20 = .ok (.iload_n 1, 1) := by decide +kernel
theorem dX8_isSign_21 : decode cX8_isSign 21 = .ok (.if_icmp .ne 7, 3) := by decide +kernel
theorem dX8_isSign_24 : decode cX8_isSign 24 = .ok (.iconst 1, 1) := by decide +kernel
theorem dX8_isSign_25 : decode cX8_isSign 25 = .ok (.goto 4, 3) := by decide +kernel
theorem dX8_isSign_28 : decode cX8_isSign 28 = .ok (.iconst 0, 1) := by decide +kernel
theorem dX8_isSign_29 : decode cX8_isSign 29 = .ok (.istore_n 2, 1) := by decide +kernel
theorem dX8_isSign_30 : decode cX8_isSign 30 = .ok (.aload_n 0, 1) := by decide +kernel
theorem dX8_isSign_31 : decode cX8_isSign 31 = .ok (.dup, 1) := by decide +kernel
theorem dX8_isSign_32 : decode cX8_isSign 32 = .ok (.getfield 48, 3) := by decide +kernel
theorem dX8_isSign_35 : decode cX8_isSign 35 = .ok (.iload_n 2, 1) := by decide +kernel
theorem dX8_isSign_36 : decode cX8_isSign 36 = .ok (.ifCond .eq 7, 3) := by decide +kernel
theorem dX8_isSign_39 : decode cX8_isSign 39 = .ok (.iconst 1, 1) := by decide +kernel
theorem dX8_isSign_40 : decode cX8_isSign 40 = .ok (.goto 4, 3) := by decide +kernel
theorem dX8_isSign_43 : decode cX8_isSign 43 = .ok (.iconst 0, 1) := by decide +kernel
theorem dX8_isSign_44 : decode cX8_isSign 44 = .ok (.iadd, 1) := by decide +kernel
theorem dX8_isSign_45 : decode cX8_isSign 45 = .ok (.putfield 48, 3) := by decide +kernel
theorem dX8_isSign_48 : decode cX8_isSign 48 = .ok (.iload_n 2, 1) := by decide +kernel
theorem dX8_isSign_49 : decode cX8_isSign 49 = .ok (.ireturn, 1) := by decide +kernel
set_option maxRecDepth 20000 in
theorem ggX8_readNumbers_X8_isSign : GoodIn wsX8_readNumbers wsX8_isSign := goodIn_r _ [8, 2, 9, 1, 17, 18, 19, 20, 21, 22, 23, 24, 25, 26, 27, 28, 29] (by decide +kernel) (by decide +kernel)
set_option maxRecDepth 20000 in
theorem gX8_readNumbers_X8_isSign : GoodIn wsX8_readNumbers (wsV RX8 51 RX8 yX8_isSign wsX8_isSign) := goodIn_app (goodIn_of _ (by decide +kernel)) ggX8_readNumbers_X8_isSign
set_option maxRecDepth 20000 in
theorem ggX8_readNumbers_X8_isFigure : GoodIn wsX8_readNumbers wsX8_isFigure := goodIn_r _ [13, 2, 9, 1, 14, 15, 7, 16, 17, 18, 19, 20, 21, 22, 23, 24, 25, 26, 27, 28, 29] (by decide +kernel) (by decide +kernel)
set_option maxRecDepth 20000 in
theorem gX8_readNumbers_X8_isFigure : GoodIn wsX8_readNumbers (wsV RX8 55 RX8 yX8_isFigure wsX8_isFigure) := goodIn_app (goodIn_of _ (by decide +kernel)) ggX8_readNumbers_X8_isFigure
theorem dX8_readNumbers_0 : decode cX8_readNumbers 0 = .ok (.iconst 1, 1) := by decide +kernel
theorem dX8_readNumbers_1 : decode cX8_readNumbers 1 = .ok (.istore_n 2, 1) := by decide +kernel
theorem dX8_readNumbers_2 : decode cX8_readNumbers 2 = .ok (.iconst 0, 1) := by decide +kernel
theorem dX8_readNumbers_3 : decode cX8_readNumbers 3 = .ok (.istore_n 3, 1) := by decide +kernel
theorem dX8_readNumbers_4 : decode cX8_readNumbers 4 = .ok (.iload_n 3, 1) := by decide +kernel
theorem dX8_readNumbers_5 : decode cX8_readNumbers 5 = .ok (.iload_n 1, 1) := by decide +kernel
theorem dX8_readNumbers_6 : decode cX8_readNumbers 6 = .ok (.if_icmp .ge 106, 3) := by decide +kernel
theorem dX8_readNumbers_9 : decode cX8_readNumbers 9 = .ok (.iload_n 2, 1) := by decide +kernel
theorem dX8_readNumbers_10 : decode cX8_readNumbers 10 = .ok (.ifCond .eq 102, 3) := by decide +kernel
theorem dX8_readNumbers_13 : decode cX8_readNumbers 13 = .ok (.iload_n 3, 1) := by decide +kernel
theorem dX8_readNumbers_14 : decode cX8_readNumbers 14 = .ok (.ifCond .eq 12, 3) := by decide +kernel
theorem dX8_readNumbers_17 : decode cX8_readNumbers 17 = .ok (.aload_n 0, 1) := by decide +kernel
theorem dX8_readNumbers_18 : decode cX8_readNumbers 18 = .ok (.bipush 44, 2) := by decide +kernel
theorem dX8_readNumbers_20 : decode cX8_readNumbers 20 = .ok (.invokevirtual 51, 3) := by decide +kernel
theorem dX8_readNumbers_23 : decode cX8_readNumbers 23 = .ok (.ifCond .eq 14, 3) := by decide +kernel
theorem dX8_readNumbers_26 : decode cX8_readNumbers 26 = .ok (.aload_n 0, 1) := by decide +kernel
theorem dX8_readNumbers_27 : decode cX8_readNumbers 27 = .ok (.invokevirtual 55, 3) := by decide +kernel
theorem dX8_readNumbers_30 : decode cX8_readNumbers 30 = .ok (.ifCond .eq 7, 3) := by decide +kernel
theorem dX8_readNumbers_33 : decode cX8_readNumbers 33 = .ok (.iconst 1, 1) := by decide +kernel
theorem dX8_readNumbers_34 : decode cX8_readNumbers 34 = .ok (.goto 4, 3) := by decide +kernel
theorem dX8_readNumbers_37 : decode cX8_readNumbers 37 = .ok (.iconst 0, 1) := by decide +kernel
theorem dX8_readNumbers_38 : decode cX8_readNumbers 38 = .ok (.istore_n 2, 1) := by decide +kernel
theorem dX8_readNumbers_39 : decode cX8_readNumbers 39 = .ok (.iconst 0, 1) := by decide +kernel
theorem dX8_readNumbers_40 : decode cX8_readNumbers 40 = .ok (.istore 4, 2) := by decide +kernel
theorem dX8_readNumbers_42 : decode cX8_readNumbers 42 = .ok (.iconst 0, 1) := by decide +kernel
theorem dX8_readNumbers_43 : decode cX8_readNumbers 43 = .ok (.istore 5, 2) := by decide +kernel
theorem dX8_readNumbers_45 : decode cX8_readNumbers 45 = .ok (.iload 5, 2) := by decide +kernel
theorem dX8_readNumbers_47 : decode cX8_readNumbers 47 = .ok (.iconst 3, 1) := by decide +kernel
theorem dX8_readNumbers_48 : decode cX8_readNumbers 48 = .ok (.if_icmp .ge 50, 3) := by decide +kernel
theorem dX8_readNumbers_51 : decode cX8_readNumbers 51 = .ok (.iload_n 2, 1) := by decide +kernel
theorem dX8_readNumbers_52 : decode cX8_readNumbers 52 = .ok (.ifCond .eq 46, 3) := by decide +kernel
theorem dX8_readNumbers_55 : decode cX8_readNumbers 55 = .ok (.aload_n 0, 1) := by decide +kernel
theorem dX8_readNumbers_56 : decode cX8_readNumbers 56 = .ok (.invokevirtual 55, 3) := by decide +kernel
theorem dX8_readNumbers_59 : decode cX8_readNumbers 59 = .ok (.ifCond .eq 39, 3) := by decide +kernel
theorem dX8_readNumbers_62 : decode cX8_readNumbers 62 = .ok (.bipush 10, 2) := by decide +kernel
theorem dX8_readNumbers_64 : decode cX8_readNumbers 64 = .ok (.iload 4, 2) := by decide +kernel
theorem dX8_readNumbers_66 : decode cX8_readNumbers 66 = .ok (.imul, 1) := by decide +kernel
theorem dX8_readNumbers_67 : decode cX8_readNumbers 67 = .ok (.aload_n 0, 1) := by decide +kernel
theorem dX8_readNumbers_68 : decode cX8_readNumbers 68 = .ok (.getfield 19, 3) := by decide +kernel
theorem dX8_readNumbers_71 : decode cX8_readNumbers 71 = .ok (.aload_n 0, 1) := by decide +kernel
theorem dX8_readNumbers_72 : decode cX8_readNumbers 72 = .ok (.getfield 48, 3) := by decide +kernel
theorem dX8_readNumbers_75 : decode cX8_readNumbers 75 = .ok (.iaload, 1) := by decide +kernel
theorem dX8_readNumbers_76 : decode cX8_readNumbers 76 = .ok (.iadd, 1) := by decide +kernel
theorem dX8_readNumbers_77 : decode cX8_readNumbers 77 = .ok (.bipush 48, 2) := by decide +kernel
theorem dX8_readNumbers_79 : decode cX8_readNumbers 79 = .ok (.isub, 1) := by decide +kernel
theorem dX8_readNumbers_80 : decode cX8_readNumbers 80 = .ok (.istore 4, 2) := by decide +kernel
theorem dX8_readNumbers_82 : decode cX8_readNumbers 82 = .ok (.aload_n 0, 1) := by decide +kernel
theorem dX8_readNumbers_83 : decode cX8_readNumbers 83 = .ok (.dup, 1) := by decide +kernel
theorem dX8_readNumbers_84 : decode cX8_readNumbers 84 = .ok (.getfield 48, 3) := by decide +kernel
theorem dX8_readNumbers_87 : decode cX8_readNumbers 87 = .ok (.iconst 1, 1) := by decide +kernel
theorem dX8_readNumbers_88 : decode cX8_readNumbers 88 = .ok (.iadd, 1) := by decide +kernel
theorem dX8_readNumbers_89 : decode cX8_readNumbers 89 = .ok (.putfield 48, 3) := by decide +kernel
theorem dX8_readNumbers_92 : decode cX8_readNumbers 92 = .ok (.iinc 5 1, 3) := by decide +kernel
theorem dX8_readNumbers_95 : decode cX8_readNumbers 95 = .ok (.goto (-50), 3) := by decide +kernel
theorem dX8_readNumbers_98 : decode cX8_readNumbers 98 = .ok (.aload_n 0, 1) := by decide +kernel
theorem dX8_readNumbers_99 : decode cX8_readNumbers 99 = .ok (.getfield 22, 3) := by decide +kernel
theorem dX8_readNumbers_102 : decode cX8_readNumbers 102 = .ok (.iload_n 3, 1) := by decide +kernel
theorem dX8_readNumbers_103 : decode cX8_readNumbers 103 = .ok (.iload 4, 2) := by decide +kernel
theorem dX8_readNumbers_105 : decode cX8_readNumbers 105 = .ok (.iastore, 1) := by decide +kernel
theorem dX8_readNumbers_106 : decode cX8_readNumbers 106 = .ok (.iinc 3 1, 3) := by decide +kernel
theorem dX8_readNumbers_109 : decode cX8_readNumbers 109 = .ok (.goto (-105), 3) := by decide +kernel
theorem dX8_readNumbers_112 : decode cX8_readNumbers 112 = .ok (.iload_n 2, 1) := by decide +kernel
theorem dX8_readNumbers_113 : decode cX8_readNumbers 113 = .ok (.ifCond .eq 16, 3) := by decide +kernel
theorem dX8_readNumbers_116 : decode cX8_readNumbers 116 = .ok (.aload_n 0, 1) := by decide +kernel
theorem dX8_readNumbers_117 : decode cX8_readNumbers 117 = .ok (.bipush 59, 2) := by decide +kernel
theorem dX8_readNumbers_119 : decode cX8_readNumbers 119 = .ok (.invokevirtual 51, 3) := by decide +kernel
theorem dX8_readNumbers_122 : decode cX8_readNumbers 122 = .ok (.ifCond .eq 7, 3) := by decide +kernel
theorem dX8_readNumbers_125 : decode cX8_readNumbers 125 = .ok (.iconst 1, 1) := by decide +kernel
theorem dX8_readNumbers_126 : decode cX8_readNumbers 126 = .ok (.goto 4, 3) := by decide +kernel
theorem dX8_readNumbers_129 : decode cX8_readNumbers 129 = .ok (.iconst 0, 1) := by decide +kernel
theorem dX8_readNumbers_130 : decode cX8_readNumbers 130 = .ok (.ireturn, 1) := by decide +kernel
set_option maxRecDepth 20000 in
theorem ggX8_readColumn_X8_readNumbers : GoodIn wsX8_readColumn wsX8_readNumbers := goodIn_r _ [7, 8, 9, 1, 10, 11, 12, 6, 13, 14, 15, 16, 17, 18, 19, 20, 21, 26, 27, 28, 29, 30, 31, 32, 33, 34, 35, 36, 37, 38] (by decide +kernel) (by decide +kernel)
set_option maxRecDepth 20000 in
theorem gX8_readColumn_X8_readNumbers : GoodIn wsX8_readColumn (wsV RX8 59 RX8 yX8_readNumbers wsX8_readNumbers) := goodIn_app (goodIn_of _ (by decide +kernel)) ggX8_readColumn_X8_readNumbers
set_option maxRecDepth 20000 in
theorem ggX8_readColumn_X8_in : GoodIn wsX8_readColumn wsX8_in := goodIn_r _ [21] (by decide +kernel) (by decide +kernel)
set_option maxRecDepth 20000 in
theorem gX8_readColumn_X8_in : GoodIn wsX8_readColumn (va_wsS RX8 40 yX8_in wsX8_in) := goodIn_app (goodIn_of _ (by decide +kernel)) ggX8_readColumn_X8_in
set_option maxRecDepth 20000 in
theorem ggX8_readColumn_X8_column : GoodIn wsX8_readColumn wsX8_column := goodIn_r _ [25, 2, 26, 27, 28, 29, 30, 31, 32, 33, 34, 35, 36, 37, 38] (by decide +kernel) (by decide +kernel)
set_option maxRecDepth 20000 in
theorem gX8_readColumn_X8_column : GoodIn wsX8_readColumn (wsV RX8 25 RX8 yX8_column wsX8_column) := goodIn_app (goodIn_of _ (by decide +kernel)) ggX8_readColumn_X8_column
theorem dX8_readColumn_0 : decode cX8_readColumn 0 = .ok (.aload_n 0, 1) := by decide +kernel
theorem dX8_readColumn_1 : decode cX8_readColumn 1 = .ok (.iconst 1, 1) := by decide +kernel
theorem dX8_readColumn_2 : decode cX8_readColumn 2 = .ok (.invokevirtual 59, 3) := by decide +kernel
theorem dX8_readColumn_5 : decode cX8_readColumn 5 = .ok (.ifCond .eq 29, 3) := by decide +kernel
theorem dX8_readColumn_8 : decode cX8_readColumn 8 = .ok (.aload_n 0, 1) := by decide +kernel
theorem dX8_readColumn_9 : decode cX8_readColumn 9 = .ok (.getfield 22, 3) := by decide +kernel
theorem dX8_readColumn_12 : decode cX8_readColumn 12 = .ok (.iconst 0, 1) := by decide +kernel
theorem dX8_readColumn_13 : decode cX8_readColumn 13 = .ok (.iaload, 1) := by decide +kernel
theorem dX8_readColumn_14 : decode cX8_readColumn 14 = .ok (.iconst 1, 1) := by decide +kernel
theorem dX8_readColumn_15 : decode cX8_readColumn 15 = .ok (.bipush 20, 2) := by decide +kernel
theorem dX8_readColumn_17 : decode cX8_readColumn 17 = .ok (.invokestatic 40, 3) := by decide +kernel
theorem dX8_readColumn_20 : decode cX8_readColumn 20 = .ok (.ifCond .eq 14, 3) := by decide +kernel
theorem dX8_readColumn_23 : decode cX8_readColumn 23 = .ok (.aload_n 0, 1) := by decide +kernel
theorem dX8_readColumn_24 : decode cX8_readColumn 24 = .ok (.getfield 13, 3) := by decide +kernel
theorem dX8_readColumn_27 : decode cX8_readColumn 27 = .ok (.iconst 0, 1) := by decide +kernel
theorem dX8_readColumn_28 : decode cX8_readColumn 28 = .ok (.iaload, 1) := by decide +kernel
theorem dX8_readColumn_29 : decode cX8_readColumn 29 = .ok (.bipush 20, 2) := by decide +kernel
theorem dX8_readColumn_31 : decode cX8_readColumn 31 = .ok (.if_icmp .ne 5, 3) := by decide +kernel
theorem dX8_readColumn_34 : decode cX8_readColumn 34 = .ok (.iconst 0, 1) := by decide +kernel
theorem dX8_readColumn_35 : decode cX8_readColumn 35 = .ok (.ireturn, 1) := by decide +kernel
theorem dX8_readColumn_36 : decode cX8_readColumn 36 = .ok (.aload_n 0, 1) := by decide +kernel
theorem dX8_readColumn_37 : decode cX8_readColumn 37 = .ok (.aload_n 0, 1) := by decide +kernel
theorem dX8_readColumn_38 : decode cX8_readColumn 38 = .ok (.getfield 22, 3) := by decide +kernel
theorem dX8_readColumn_41 : decode cX8_readColumn 41 = .ok (.iconst 0, 1) := by decide +kernel
theorem dX8_readColumn_42 : decode cX8_readColumn 42 = .ok (.iaload, 1) := by decide +kernel
theorem dX8_readColumn_43 : decode cX8_readColumn 43 = .ok (.invokevirtual 25, 3) := by decide +kernel
theorem dX8_readColumn_46 : decode cX8_readColumn 46 = .ok (.iconst 1, 1) := by decide +kernel
theorem dX8_readColumn_47 : decode cX8_readColumn 47 = .ok (.ireturn, 1) := by decide +kernel
set_option maxRecDepth 20000 in
theorem ggX8_readShip_X8_readNumbers : GoodIn wsX8_readShip wsX8_readNumbers := goodIn_r _ [7, 8, 9, 2, 10, 11, 12, 6, 13, 14, 15, 16, 17, 18, 19, 20, 21, 30, 31, 32, 33, 34, 35, 36, 37, 38, 39, 40, 41, 42] (by decide +kernel) (by decide +kernel)
set_option maxRecDepth 20000 in
theorem gX8_readShip_X8_readNumbers : GoodIn wsX8_readShip (wsV RX8 59 RX8 yX8_readNumbers wsX8_readNumbers) := goodIn_app (goodIn_of _ (by decide +kernel)) ggX8_readShip_X8_readNumbers
set_option maxRecDepth 20000 in
theorem ggX8_readShip_X8_in : GoodIn wsX8_readShip wsX8_in := goodIn_r _ [21] (by decide +kernel) (by decide +kernel)
set_option maxRecDepth 20000 in
theorem gX8_readShip_X8_in : GoodIn wsX8_readShip (va_wsS RX8 40 yX8_in wsX8_in) := goodIn_app (goodIn_of _ (by decide +kernel)) ggX8_readShip_X8_in
set_option maxRecDepth 20000 in
theorem ggX8_readShip_X8_place : GoodIn wsX8_readShip wsX8_place := goodIn_r _ [25, 1, 30, 31, 32, 33, 34, 35, 36, 37, 38, 39, 40, 41, 42] (by decide +kernel) (by decide +kernel)
set_option maxRecDepth 20000 in
theorem gX8_readShip_X8_place : GoodIn wsX8_readShip (wsV RX8 29 RX8 yX8_place wsX8_place) := goodIn_app (goodIn_of _ (by decide +kernel)) ggX8_readShip_X8_place
set_option maxRecDepth 20000 in
theorem ggX8_readShip_X8_measure : GoodIn wsX8_readShip wsX8_measure := goodIn_r _ [29, 1, 30, 31, 32, 33, 34, 35, 36, 37, 38, 39, 40, 41, 42] (by decide +kernel) (by decide +kernel)
set_option maxRecDepth 20000 in
theorem gX8_readShip_X8_measure : GoodIn wsX8_readShip (wsV RX8 33 RX8 yX8_measure wsX8_measure) := goodIn_app (goodIn_of _ (by decide +kernel)) ggX8_readShip_X8_measure
theorem dX8_readShip_0 : decode cX8_readShip 0 = .ok (.aload_n 0, 1) := by decide +kernel
theorem dX8_readShip_1 : decode cX8_readShip 1 = .ok (.bipush 7, 2) := by decide +kernel
theorem dX8_readShip_3 : decode cX8_readShip 3 = .ok (.invokevirtual 59, 3) := by decide +kernel
theorem dX8_readShip_6 : decode cX8_readShip 6 = .ok (.ifCond .eq 13, 3) := by decide +kernel
theorem dX8_readShip_9 : decode cX8_readShip 9 = .ok (.aload_n 0, 1) := by decide +kernel
theorem dX8_readShip_10 : decode cX8_readShip 10 = .ok (.getfield 13, 3) := by decide +kernel
theorem dX8_readShip_13 : decode cX8_readShip 13 = .ok (.iconst 1, 1) := by decide +kernel
theorem dX8_readShip_14 : decode cX8_readShip 14 = .ok (.iaload, 1) := by decide +kernel
theorem dX8_readShip_15 : decode cX8_readShip 15 = .ok (.iconst 5, 1) := by decide +kernel
theorem dX8_readShip_16 : decode cX8_readShip 16 = .ok (.if_icmp .ne 5, 3) := by decide +kernel
theorem dX8_readShip_19 : decode cX8_readShip 19 = .ok (.iconst 0, 1) := by decide +kernel
theorem dX8_readShip_20 : decode cX8_readShip 20 = .ok (.ireturn, 1) := by decide +kernel
theorem dX8_readShip_21 : decode cX8_readShip 21 = .ok (.aload_n 0, 1) := by decide +kernel
theorem dX8_readShip_22 : decode cX8_readShip 22 = .ok (.getfield 22, 3) := by decide +kernel
theorem dX8_readShip_25 : decode cX8_readShip 25 = .ok (.iconst 0, 1) := by decide +kernel
theorem dX8_readShip_26 : decode cX8_readShip 26 = .ok (.iaload, 1) := by decide +kernel
theorem dX8_readShip_27 : decode cX8_readShip 27 = .ok (.aload_n 0, 1) := by decide +kernel
theorem dX8_readShip_28 : decode cX8_readShip 28 = .ok (.getfield 13, 3) := by decide +kernel
theorem dX8_readShip_31 : decode cX8_readShip 31 = .ok (.iconst 0, 1) := by decide +kernel
theorem dX8_readShip_32 : decode cX8_readShip 32 = .ok (.iaload, 1) := by decide +kernel
theorem dX8_readShip_33 : decode cX8_readShip 33 = .ok (.if_icmp .ge 47, 3) := by decide +kernel
theorem dX8_readShip_36 : decode cX8_readShip 36 = .ok (.aload_n 0, 1) := by decide +kernel
theorem dX8_readShip_37 : decode cX8_readShip 37 = .ok (.getfield 22, 3) := by decide +kernel
theorem dX8_readShip_40 : decode cX8_readShip 40 = .ok (.iconst 1, 1) := by decide +kernel
theorem dX8_readShip_41 : decode cX8_readShip 41 = .ok (.iaload, 1) := by decide +kernel
theorem dX8_readShip_42 : decode cX8_readShip 42 = .ok (.bipush 20, 2) := by decide +kernel
theorem dX8_readShip_44 : decode cX8_readShip 44 = .ok (.if_icmp .ge 36, 3) := by decide +kernel
theorem dX8_readShip_47 : decode cX8_readShip 47 = .ok (.aload_n 0, 1) := by decide +kernel
theorem dX8_readShip_48 : decode cX8_readShip 48 = .ok (.getfield 22, 3) := by decide +kernel
theorem dX8_readShip_51 : decode cX8_readShip 51 = .ok (.iconst 2, 1) := by decide +kernel
theorem dX8_readShip_52 : decode cX8_readShip 52 = .ok (.iaload, 1) := by decide +kernel
theorem dX8_readShip_53 : decode cX8_readShip 53 = .ok (.iconst 1, 1) := by decide +kernel
theorem dX8_readShip_54 : decode cX8_readShip 54 = .ok (.bipush 60, 2) := by decide +kernel
theorem dX8_readShip_56 : decode cX8_readShip 56 = .ok (.invokestatic 40, 3) := by decide +kernel
theorem dX8_readShip_59 : decode cX8_readShip 59 = .ok (.ifCond .eq 21, 3) := by decide +kernel
theorem dX8_readShip_62 : decode cX8_readShip 62 = .ok (.aload_n 0, 1) := by decide +kernel
theorem dX8_readShip_63 : decode cX8_readShip 63 = .ok (.getfield 22, 3) := by decide +kernel
theorem dX8_readShip_66 : decode cX8_readShip 66 = .ok (.iconst 3, 1) := by decide +kernel
theorem dX8_readShip_67 : decode cX8_readShip 67 = .ok (.iaload, 1) := by decide +kernel
theorem dX8_readShip_68 : decode cX8_readShip 68 = .ok (.iconst 1, 1) := by decide +kernel
theorem dX8_readShip_69 : decode cX8_readShip 69 = .ok (.iconst 5, 1) := by decide +kernel
theorem dX8_readShip_70 : decode cX8_readShip 70 = .ok (.invokestatic 40, 3) := by decide +kernel
theorem dX8_readShip_73 : decode cX8_readShip 73 = .ok (.ifCond .eq 7, 3) := by decide +kernel
theorem dX8_readShip_76 : decode cX8_readShip 76 = .ok (.iconst 1, 1) := by decide +kernel
theorem dX8_readShip_77 : decode cX8_readShip 77 = .ok (.goto 4, 3) := by decide +kernel
theorem dX8_readShip_80 : decode cX8_readShip 80 = .ok (.iconst 0, 1) := by decide +kernel
theorem dX8_readShip_81 : decode cX8_readShip 81 = .ok (.istore_n 1, 1) := by decide +kernel
theorem dX8_readShip_82 : decode cX8_readShip 82 = .ok (.iload_n 1, 1) := by decide +kernel
theorem dX8_readShip_83 : decode cX8_readShip 83 = .ok (.ifCond .eq 45, 3) := by decide +kernel
theorem dX8_readShip_86 : decode cX8_readShip 86 = .ok (.aload_n 0, 1) := by decide +kernel
theorem dX8_readShip_87 : decode cX8_readShip 87 = .ok (.getfield 22, 3) := by decide +kernel
theorem dX8_readShip_90 : decode cX8_readShip 90 = .ok (.iconst 4, 1) := by decide +kernel
theorem dX8_readShip_91 : decode cX8_readShip 91 = .ok (.iaload, 1) := by decide +kernel
theorem dX8_readShip_92 : decode cX8_readShip 92 = .ok (.iconst 1, 1) := by decide +kernel
theorem dX8_readShip_93 : decode cX8_readShip 93 = .ok (.bipush 9, 2) := by decide +kernel
theorem dX8_readShip_95 : decode cX8_readShip 95 = .ok (.invokestatic 40, 3) := by decide +kernel
theorem dX8_readShip_98 : decode cX8_readShip 98 = .ok (.ifCond .eq 30, 3) := by decide +kernel
theorem dX8_readShip_101 : decode cX8_readShip 101 = .ok (.aload_n 0, 1) := by decide +kernel
theorem dX8_readShip_102 : decode cX8_readShip 102 = .ok (.getfield 22, 3) := by decide +kernel
theorem dX8_readShip_105 : decode cX8_readShip 105 = .ok (.iconst 5, 1) := by decide +kernel
theorem dX8_readShip_106 : decode cX8_readShip 106 = .ok (.iaload, 1) := by decide +kernel
theorem dX8_readShip_107 : decode cX8_readShip 107 = .ok (.iconst 1, 1) := by decide +kernel
theorem dX8_readShip_108 : decode cX8_readShip 108 = .ok (.bipush 9, 2) := by decide +kernel
theorem dX8_readShip_110 : decode cX8_readShip 110 = .ok (.invokestatic 40, 3) := by decide +kernel
theorem dX8_readShip_113 : decode cX8_readShip 113 = .ok (.ifCond .eq 15, 3) := by decide +kernel
theorem dX8_readShip_116 : decode cX8_readShip 116 = .ok (.aload_n 0, 1) := by decide +kernel
theorem dX8_readShip_117 : decode cX8_readShip 117 = .ok (.getfield 22, 3) := by decide +kernel
theorem dX8_readShip_120 : decode cX8_readShip 120 = .ok (.bipush 6, 2) := by decide +kernel
theorem dX8_readShip_122 : decode cX8_readShip 122 = .ok (.iaload, 1) := by decide +kernel
theorem dX8_readShip_123 : decode cX8_readShip 123 = .ok (.bipush 10, 2) := by decide +kernel
theorem dX8_readShip_125 : decode cX8_readShip 125 = .ok (.if_icmp .ge 5, 3) := by decide +kernel
theorem dX8_readShip_128 : decode cX8_readShip 128 = .ok (.iconst 0, 1) := by decide +kernel
theorem dX8_readShip_129 : decode cX8_readShip 129 = .ok (.ireturn, 1) := by decide +kernel
theorem dX8_readShip_130 : decode cX8_readShip 130 = .ok (.aload_n 0, 1) := by decide +kernel
theorem dX8_readShip_131 : decode cX8_readShip 131 = .ok (.aload_n 0, 1) := by decide +kernel
theorem dX8_readShip_132 : decode cX8_readShip 132 = .ok (.getfield 22, 3) := by decide +kernel
theorem dX8_readShip_135 : decode cX8_readShip 135 = .ok (.iconst 0, 1) := by decide +kernel
theorem dX8_readShip_136 : decode cX8_readShip 136 = .ok (.iaload, 1) := by decide +kernel
theorem dX8_readShip_137 : decode cX8_readShip 137 = .ok (.aload_n 0, 1) := by decide +kernel
theorem dX8_readShip_138 : decode cX8_readShip 138 = .ok (.getfield 22, 3) := by decide +kernel
theorem dX8_readShip_141 : decode cX8_readShip 141 = .ok (.iconst 1, 1) := by decide +kernel
theorem dX8_readShip_142 : decode cX8_readShip 142 = .ok (.iaload, 1) := by decide +kernel
theorem dX8_readShip_143 : decode cX8_readShip 143 = .ok (.aload_n 0, 1) := by decide +kernel
theorem dX8_readShip_144 : decode cX8_readShip 144 = .ok (.getfield 22, 3) := by decide +kernel
theorem dX8_readShip_147 : decode cX8_readShip 147 = .ok (.iconst 2, 1) := by decide +kernel
theorem dX8_readShip_148 : decode cX8_readShip 148 = .ok (.iaload, 1) := by decide +kernel
theorem dX8_readShip_149 : decode cX8_readShip 149 = .ok (.aload_n 0, 1) := by decide +kernel
theorem dX8_readShip_150 : decode cX8_readShip 150 = .ok (.getfield 22, 3) := by decide +kernel
theorem dX8_readShip_153 : decode cX8_readShip 153 = .ok (.iconst 3, 1) := by decide +kernel
theorem dX8_readShip_154 : decode cX8_readShip 154 = .ok (.iaload, 1) := by decide +kernel
theorem dX8_readShip_155 : decode cX8_readShip 155 = .ok (.invokevirtual 29, 3) := by decide +kernel
theorem dX8_readShip_158 : decode cX8_readShip 158 = .ok (.aload_n 0, 1) := by decide +kernel
theorem dX8_readShip_159 : decode cX8_readShip 159 = .ok (.aload_n 0, 1) := by decide +kernel
theorem dX8_readShip_160 : decode cX8_readShip 160 = .ok (.getfield 22, 3) := by decide +kernel
theorem dX8_readShip_163 : decode cX8_readShip 163 = .ok (.iconst 4, 1) := by decide +kernel
theorem dX8_readShip_164 : decode cX8_readShip 164 = .ok (.iaload, 1) := by decide +kernel
theorem dX8_readShip_165 : decode cX8_readShip 165 = .ok (.aload_n 0, 1) := by decide +kernel
theorem dX8_readShip_166 : decode cX8_readShip 166 = .ok (.getfield 22, 3) := by decide +kernel
theorem dX8_readShip_169 : decode cX8_readShip 169 = .ok (.iconst 5, 1) := by decide +kernel
theorem dX8_readShip_170 : decode cX8_readShip 170 = .ok (.iaload, 1) := by decide +kernel
theorem dX8_readShip_171 : decode cX8_readShip 171 = .ok (.aload_n 0, 1) := by decide +kernel
theorem dX8_readShip_172 : decode cX8_readShip 172 = .ok (.getfield 22, 3) := by decide +kernel
theorem dX8_readShip_175 : decode cX8_readShip 175 = .ok (.bipush 6, 2) := by decide +kernel
theorem dX8_readShip_177 : decode cX8_readShip 177 = .ok (.iaload, 1) := by decide +kernel
theorem dX8_readShip_178 : decode cX8_readShip 178 = .ok (.invokevirtual 33, 3) := by decide +kernel
theorem dX8_readShip_181 : decode cX8_readShip 181 = .ok (.iconst 1, 1) := by decide +kernel
theorem dX8_readShip_182 : decode cX8_readShip 182 = .ok (.ireturn, 1) := by decide +kernel
set_option maxRecDepth 20000 in
theorem ggX8_parse_X8_readColumn : GoodIn wsX8_parse wsX8_readColumn := goodIn_r _ [9, 10, 1, 11, 12, 13, 8, 14, 4, 2, 15, 16, 17, 18, 3, 19, 20, 21, 22, 23, 24, 25, 26, 27, 28, 29, 42, 43, 44, 45, 46, 47, 48, 49, 50, 51, 52, 53, 54] (by decide +kernel) (by decide +kernel)
set_option maxRecDepth 20000 in
theorem gX8_parse_X8_readColumn : GoodIn wsX8_parse (wsV RX8 62 RX8 yX8_readColumn wsX8_readColumn) := goodIn_app (goodIn_of _ (by decide +kernel)) ggX8_parse_X8_readColumn
set_option maxRecDepth 20000 in
theorem ggX8_parse_X8_readShip : GoodIn wsX8_parse wsX8_readShip := goodIn_r _ [33, 1, 10, 11, 12, 13, 8, 14, 4, 2, 15, 16, 17, 18, 3, 19, 20, 21, 22, 23, 24, 25, 34, 35, 36, 37, 38, 39, 40, 41, 42, 43, 44, 45, 46, 47, 48, 49, 50, 51, 52, 53, 54] (by decide +kernel) (by decide +kernel)
set_option maxRecDepth 20000 in
theorem gX8_parse_X8_readShip : GoodIn wsX8_parse (wsV RX8 65 RX8 yX8_readShip wsX8_readShip) := goodIn_app (goodIn_of _ (by decide +kernel)) ggX8_parse_X8_readShip
theorem dX8_parse_0 : decode cX8_parse 0 = .ok (.iconst 0, 1) := by decide +kernel
theorem dX8_parse_1 : decode cX8_parse 1 = .ok (.istore_n 1, 1) := by decide +kernel
theorem dX8_parse_2 : decode cX8_parse 2 = .ok (.iload_n 1, 1) := by decide +kernel
theorem dX8_parse_3 : decode cX8_parse 3 = .ok (.bipush 88, 2) := by decide +kernel
theorem dX8_parse_5 : decode cX8_parse 5 = .ok (.if_icmp .ge 16, 3) := by decide +kernel
theorem dX8_parse_8 : decode cX8_parse 8 = .ok (.aload_n 0, 1) := by decide +kernel
theorem dX8_parse_9 : decode cX8_parse 9 = .ok (.getfield 13, 3) := by decide +kernel
theorem dX8_parse_12 : decode cX8_parse 12 = .ok (.iload_n 1, 1) := by decide +kernel
theorem dX8_parse_13 : decode cX8_parse 13 = .ok (.iconst 0, 1) := by decide +kernel
theorem dX8_parse_14 : decode cX8_parse 14 = .ok (.iastore, 1) := by decide +kernel
theorem dX8_parse_15 : decode cX8_parse 15 = .ok (.iinc 1 1, 3) := by decide +kernel
theorem dX8_parse_18 : decode cX8_parse 18 = .ok (.goto (-16), 3) := by decide +kernel
theorem dX8_parse_21 : decode cX8_parse 21 = .ok (.aload_n 0, 1) := by decide +kernel
theorem dX8_parse_22 : decode cX8_parse 22 = .ok (.iconst 0, 1) := by decide +kernel
theorem dX8_parse_23 : decode cX8_parse 23 = .ok (.putfield 48, 3) := by decide +kernel
theorem dX8_parse_26 : decode cX8_parse 26 = .ok (.aload_n 0, 1) := by decide +kernel
theorem dX8_parse_27 : decode cX8_parse 27 = .ok (.getfield 48, 3) := by decide +kernel
theorem dX8_parse_30 : decode cX8_parse 30 = .ok (.aload_n 0, 1) := by decide +kernel
theorem dX8_parse_31 : decode cX8_parse 31 = .ok (.getfield 44, 3) := by decide +kernel
theorem dX8_parse_34 : decode cX8_parse 34 = .ok (.if_icmp .ge 69, 3) := by decide +kernel
theorem dX8_parse_37 : decode cX8_parse 37 = .ok (.aload_n 0, 1) := by decide +kernel
theorem dX8_parse_38 : decode cX8_parse 38 = .ok (.getfield 48, 3) := by decide +kernel
theorem dX8_parse_41 : decode cX8_parse 41 = .ok (.istore_n 1, 1) := by decide +kernel
theorem dX8_parse_42 : decode cX8_parse 42 = .ok (.aload_n 0, 1) := by decide +kernel
theorem dX8_parse_43 : decode cX8_parse 43 = .ok (.dup, 1) := by decide +kernel
theorem dX8_parse_44 : decode cX8_parse 44 = .ok (.getfield 48, 3) := by decide +kernel
theorem dX8_parse_47 : decode cX8_parse 47 = .ok (.iconst 1, 1) := by decide +kernel
theorem dX8_parse_48 : decode cX8_parse 48 = .ok (.iadd, 1) := by decide +kernel
theorem dX8_parse_49 : decode cX8_parse 49 = .ok (.putfield 48, 3) := by decide +kernel
theorem dX8_parse_52 : decode cX8_parse 52 = .ok (.aload_n 0, 1) := by decide +kernel
theorem dX8_parse_53 : decode cX8_parse 53 = .ok (.getfield 19, 3) := by decide +kernel
theorem dX8_parse_56 : decode cX8_parse 56 = .ok (.iload_n 1, 1) := by decide +kernel
theorem dX8_parse_57 : decode cX8_parse 57 = .ok (.iaload, 1) := by decide +kernel
theorem dX8_parse_58 : decode cX8_parse 58 = .ok (.bipush 99, 2) := by decide +kernel
theorem dX8_parse_60 : decode cX8_parse 60 = .ok (.if_icmp .ne 10, 3) := by decide +kernel
theorem dX8_parse_63 : decode cX8_parse 63 = .ok (.aload_n 0, 1) := by decide +kernel
theorem dX8_parse_64 : decode cX8_parse 64 = .ok (.invokevirtual 62, 3) := by decide +kernel
theorem dX8_parse_67 : decode cX8_parse 67 = .ok (.goto 26, 3) := by decide +kernel
theorem dX8_parse_70 : decode cX8_parse 70 = .ok (.aload_n 0, 1) := by decide +kernel
theorem dX8_parse_71 : decode cX8_parse 71 = .ok (.getfield 19, 3) := by decide +kernel
theorem dX8_parse_74 : decode cX8_parse 74 = .ok (.iload_n 1, 1) := by decide +kernel
theorem dX8_parse_75 : decode cX8_parse 75 = .ok (.iaload, 1) := by decide +kernel
theorem dX8_parse_76 : decode cX8_parse 76 = .ok (.bipush 115, 2) := by decide +kernel
theorem dX8_parse_78 : decode cX8_parse 78 = .ok (.if_icmp .ne 14, 3) := by decide +kernel
theorem dX8_parse_81 : decode cX8_parse 81 = .ok (.aload_n 0, 1) := by decide +kernel
theorem dX8_parse_82 : decode cX8_parse 82 = .ok (.invokevirtual 65, 3) := by decide +kernel
theorem dX8_parse_85 : decode cX8_parse 85 = .ok (.ifCond .eq 7, 3) := by decide +kernel
theorem dX8_parse_88 : decode cX8_parse 88 = .ok (.iconst 1, 1) := by decide +kernel
theorem dX8_parse_89 : decode cX8_parse 89 = .ok (.goto 4, 3) := by decide +kernel
theorem dX8_parse_92 : decode cX8_parse 92 = .ok (.iconst 0, 1) := by decide +kernel
theorem dX8_parse_93 : decode cX8_parse 93 = .ok (.istore_n 2, 1) := by decide +kernel
theorem dX8_parse_94 : decode cX8_parse 94 = .ok (.iload_n 2, 1) := by decide +kernel
theorem dX8_parse_95 : decode cX8_parse 95 = .ok (.ifCond .ne 5, 3) := by decide +kernel
theorem dX8_parse_98 : decode cX8_parse 98 = .ok (.iload_n 1, 1) := by decide +kernel
theorem dX8_parse_99 : decode cX8_parse 99 = .ok (.ireturn, 1) := by decide +kernel
theorem dX8_parse_100 : decode cX8_parse 100 = .ok (.goto (-74), 3) := by decide +kernel
theorem dX8_parse_103 : decode cX8_parse 103 = .ok (.bipush (-4), 2) := by decide +kernel
theorem dX8_parse_105 : decode cX8_parse 105 = .ok (.ireturn, 1) := by decide +kernel
set_option maxRecDepth 20000 in
theorem ggX8_fault_X8_parse : GoodIn wsX8_fault wsX8_parse := goodIn_r _ [5, 6, 7, 8, 9, 10, 11, 12, 4, 13, 14, 15, 16, 17, 18, 19, 20, 21, 22, 23, 24, 25, 26, 27, 28, 29, 30, 31, 32, 33, 34, 35, 36, 37, 38, 39, 40, 41, 42, 43, 44, 45, 46, 47, 48, 49, 50, 51, 52, 53, 54, 55, 56, 57, 58] (by decide +kernel) (by decide +kernel)
set_option maxRecDepth 20000 in
theorem gX8_fault_X8_parse : GoodIn wsX8_fault (wsV RX8 68 RX8 yX8_parse wsX8_parse) := goodIn_app (goodIn_of _ (by decide +kernel)) ggX8_fault_X8_parse
theorem dX8_fault_0 : decode cX8_fault 0 = .ok (.aload_n 0, 1) := by decide +kernel
theorem dX8_fault_1 : decode cX8_fault 1 = .ok (.invokevirtual 68, 3) := by decide +kernel
theorem dX8_fault_4 : decode cX8_fault 4 = .ok (.ireturn, 1) := by decide +kernel
set_option maxRecDepth 20000 in
theorem ggX8_lay_X8_parse : GoodIn wsX8_lay wsX8_parse := goodIn_r _ [7, 1, 8, 9, 10, 11, 12, 13, 6, 14, 15, 16, 17, 18, 19, 20, 21, 22, 23, 24, 25, 26, 27, 28, 29, 30, 31, 32, 33, 34, 35, 36, 37, 38, 39, 40, 41, 42, 43, 44, 45, 46, 52, 53, 54, 55, 56, 57, 58, 59, 60, 61, 62, 63, 64] (by decide +kernel) (by decide +kernel)
set_option maxRecDepth 20000 in
theorem gX8_lay_X8_parse : GoodIn wsX8_lay (wsV RX8 68 RX8 yX8_parse wsX8_parse) := goodIn_app (goodIn_of _ (by decide +kernel)) ggX8_lay_X8_parse
set_option maxRecDepth 20000 in
theorem ggX8_lay_X8_install : GoodIn wsX8_lay wsX8_install := goodIn_r _ [50, 2, 1, 51, 52, 53, 54, 55, 56, 57, 58, 59, 60, 61, 62, 63, 64] (by decide +kernel) (by decide +kernel)
set_option maxRecDepth 20000 in
theorem gX8_lay_X8_install : GoodIn wsX8_lay (wsV RX8 37 RX8 yX8_install wsX8_install) := goodIn_app (goodIn_of _ (by decide +kernel)) ggX8_lay_X8_install
theorem dX8_lay_0 : decode cX8_lay 0 = .ok (.aload_n 0, 1) := by decide +kernel
theorem dX8_lay_1 : decode cX8_lay 1 = .ok (.invokevirtual 68, 3) := by decide +kernel
theorem dX8_lay_4 : decode cX8_lay 4 = .ok (.bipush (-4), 2) := by decide +kernel
theorem dX8_lay_6 : decode cX8_lay 6 = .ok (.if_icmp .ne 22, 3) := by decide +kernel
theorem dX8_lay_9 : decode cX8_lay 9 = .ok (.aload_n 0, 1) := by decide +kernel
theorem dX8_lay_10 : decode cX8_lay 10 = .ok (.getfield 13, 3) := by decide +kernel
theorem dX8_lay_13 : decode cX8_lay 13 = .ok (.iconst 0, 1) := by decide +kernel
theorem dX8_lay_14 : decode cX8_lay 14 = .ok (.iaload, 1) := by decide +kernel
theorem dX8_lay_15 : decode cX8_lay 15 = .ok (.iconst 2, 1) := by decide +kernel
theorem dX8_lay_16 : decode cX8_lay 16 = .ok (.if_icmp .lt 12, 3) := by decide +kernel
theorem dX8_lay_19 : decode cX8_lay 19 = .ok (.aload_n 0, 1) := by decide +kernel
theorem dX8_lay_20 : decode cX8_lay 20 = .ok (.getfield 13, 3) := by decide +kernel
theorem dX8_lay_23 : decode cX8_lay 23 = .ok (.iconst 1, 1) := by decide +kernel
theorem dX8_lay_24 : decode cX8_lay 24 = .ok (.iaload, 1) := by decide +kernel
theorem dX8_lay_25 : decode cX8_lay 25 = .ok (.ifCond .ne 6, 3) := by decide +kernel
theorem dX8_lay_28 : decode cX8_lay 28 = .ok (.bipush (-2), 2) := by decide +kernel
theorem dX8_lay_30 : decode cX8_lay 30 = .ok (.ireturn, 1) := by decide +kernel
theorem dX8_lay_31 : decode cX8_lay 31 = .ok (.aload_n 0, 1) := by decide +kernel
theorem dX8_lay_32 : decode cX8_lay 32 = .ok (.invokevirtual 37, 3) := by decide +kernel
theorem dX8_lay_35 : decode cX8_lay 35 = .ok (.aload_n 0, 1) := by decide +kernel
theorem dX8_lay_36 : decode cX8_lay 36 = .ok (.getfield 7, 3) := by decide +kernel
theorem dX8_lay_39 : decode cX8_lay 39 = .ok (.iconst 1, 1) := by decide +kernel
theorem dX8_lay_40 : decode cX8_lay 40 = .ok (.iaload, 1) := by decide +kernel
theorem dX8_lay_41 : decode cX8_lay 41 = .ok (.ireturn, 1) := by decide +kernel
theorem dX8_install_0 : decode cX8_install 0 = .ok (.iconst 0, 1) := by decide +kernel
theorem dX8_install_1 : decode cX8_install 1 = .ok (.istore_n 1, 1) := by decide +kernel
theorem dX8_install_2 : decode cX8_install 2 = .ok (.iload_n 1, 1) := by decide +kernel
theorem dX8_install_3 : decode cX8_install 3 = .ok (.bipush 88, 2) := by decide +kernel
theorem dX8_install_5 : decode cX8_install 5 = .ok (.if_icmp .ge 21, 3) := by decide +kernel
theorem dX8_install_8 : decode cX8_install 8 = .ok (.aload_n 0, 1) := by decide +kernel
theorem dX8_install_9 : decode cX8_install 9 = .ok (.getfield 7, 3) := by decide +kernel
theorem dX8_install_12 : decode cX8_install 12 = .ok (.iload_n 1, 1) := by decide +kernel
theorem dX8_install_13 : decode cX8_install 13 = .ok (.aload_n 0, 1) := by decide +kernel
theorem dX8_install_14 : decode cX8_install 14 = .ok (.getfield 13, 3) := by decide +kernel
theorem dX8_install_17 : decode cX8_install 17 = .ok (.iload_n 1, 1) := by decide +kernel
theorem dX8_install_18 : decode cX8_install 18 = .ok (.iaload, 1) := by decide +kernel
theorem dX8_install_19 : decode cX8_install 19 = .ok (.iastore, 1) := by decide +kernel
theorem dX8_install_20 : decode cX8_install 20 = .ok (.iinc 1 1, 3) := by decide +kernel
theorem dX8_install_23 : decode cX8_install 23 = .ok (.goto (-21), 3) := by decide +kernel
theorem dX8_install_26 : decode cX8_install 26 = .ok (.aload_n 0, 1) := by decide +kernel
theorem dX8_install_27 : decode cX8_install 27 = .ok (.iconst 0, 1) := by decide +kernel
theorem dX8_install_28 : decode cX8_install 28 = .ok (.putfield 72, 3) := by decide +kernel
theorem dX8_install_31 : decode cX8_install 31 = .ok (.return_, 1) := by decide +kernel
theorem dX8_push_0 : decode cX8_push 0 = .ok (.aload_n 0, 1) := by decide +kernel
theorem dX8_push_1 : decode cX8_push 1 = .ok (.getfield 72, 3) := by decide +kernel
theorem dX8_push_4 : decode cX8_push 4 = .ok (.bipush 6, 2) := by decide +kernel
theorem dX8_push_6 : decode cX8_push 6 = .ok (.if_icmp .ne 43, 3) := by decide +kernel
theorem dX8_push_9 : decode cX8_push 9 = .ok (.iconst 0, 1) := by decide +kernel
theorem dX8_push_10 : decode cX8_push 10 = .ok (.istore_n 1, 1) := by decide +kernel
theorem dX8_push_11 : decode cX8_push 11 = .ok (.iload_n 1, 1) := by decide +kernel
theorem dX8_push_12 : decode cX8_push 12 = .ok (.sipush 440, 3) := by decide +kernel
theorem dX8_push_15 : decode cX8_push 15 = .ok (.if_icmp .ge 24, 3) := by decide +kernel
theorem dX8_push_18 : decode cX8_push 18 = .ok (.aload_n 0, 1) := by decide +kernel
theorem dX8_push_19 : decode cX8_push 19 = .ok (.getfield 16, 3) := by decide +kernel
theorem dX8_push_22 : decode cX8_push 22 = .ok (.iload_n 1, 1) := by decide +kernel
theorem dX8_push_23 : decode cX8_push 23 = .ok (.aload_n 0, 1) := by decide +kernel
theorem dX8_push_24 : decode cX8_push 24 = .ok (.getfield 16, 3) := by decide +kernel
theorem dX8_push_27 : decode cX8_push 27 = .ok (.iload_n 1, 1) := by decide +kernel
theorem dX8_push_28 : decode cX8_push 28 = .ok (.bipush 88, 2) := by decide +kernel
theorem dX8_push_30 : decode cX8_push 30 = .ok (.iadd, 1) := by decide +kernel
theorem dX8_push_31 : decode cX8_push 31 = .ok (.iaload, 1) := by decide +kernel
theorem dX8_push_32 : decode cX8_push 32 = .ok (.iastore, 1) := by decide +kernel
theorem dX8_push_33 : decode cX8_push 33 = .ok (.iinc 1 1, 3) := by decide +kernel
theorem dX8_push_36 : decode cX8_push 36 = .ok (.goto (-25), 3) := by decide +kernel
theorem dX8_push_39 : decode cX8_push 39 = .ok (.aload_n 0, 1) := by decide +kernel
theorem dX8_push_40 : decode cX8_push 40 = .ok (.dup, 1) := by decide +kernel
theorem dX8_push_41 : decode cX8_push 41 = .ok (.getfield 72, 3) := by decide +kernel
theorem dX8_push_44 : decode cX8_push 44 = .ok (.iconst 1, 1) := by decide +kernel
theorem dX8_push_45 : decode cX8_push 45 = .ok (.isub, 1) := by decide +kernel
theorem dX8_push_46 : decode cX8_push 46 = .ok (.putfield 72, 3) := by decide +kernel
theorem dX8_push_49 : decode cX8_push 49 = .ok (.iconst 0, 1) := by decide +kernel
theorem dX8_push_50 : decode cX8_push 50 = .ok (.istore_n 1, 1) := by decide +kernel
theorem dX8_push_51 : decode cX8_push 51 = .ok (.iload_n 1, 1) := by decide +kernel
theorem dX8_push_52 : decode cX8_push 52 = .ok (.bipush 88, 2) := by decide +kernel
theorem dX8_push_54 : decode cX8_push 54 = .ok (.if_icmp .ge 29, 3) := by decide +kernel
theorem dX8_push_57 : decode cX8_push 57 = .ok (.aload_n 0, 1) := by decide +kernel
theorem dX8_push_58 : decode cX8_push 58 = .ok (.getfield 16, 3) := by decide +kernel
theorem dX8_push_61 : decode cX8_push 61 = .ok (.bipush 88, 2) := by decide +kernel
theorem dX8_push_63 : decode cX8_push 63 = .ok (.aload_n 0, 1) := by decide +kernel
theorem dX8_push_64 : decode cX8_push 64 = .ok (.getfield 72, 3) := by decide +kernel
theorem dX8_push_67 : decode cX8_push 67 = .ok (.imul, 1) := by decide +kernel
theorem dX8_push_68 : decode cX8_push 68 = .ok (.iload_n 1, 1) := by decide +kernel
theorem dX8_push_69 : decode cX8_push 69 = .ok (.iadd, 1) := by decide +kernel
theorem dX8_push_70 : decode cX8_push 70 = .ok (.aload_n 0, 1) := by decide +kernel
theorem dX8_push_71 : decode cX8_push 71 = .ok (.getfield 7, 3) := by decide +kernel
theorem dX8_push_74 : decode cX8_push 74 = .ok (.iload_n 1, 1) := by decide +kernel
theorem dX8_push_75 : decode cX8_push 75 = .ok (.iaload, 1) := by decide +kernel
theorem dX8_push_76 : decode cX8_push 76 = .ok (.iastore, 1) := by decide +kernel
theorem dX8_push_77 : decode cX8_push 77 = .ok (.iinc 1 1, 3) := by decide +kernel
theorem dX8_push_80 : decode cX8_push 80 = .ok (.goto (-29), 3) := by decide +kernel
theorem dX8_push_83 : decode cX8_push 83 = .ok (.aload_n 0, 1) := by decide +kernel
theorem dX8_push_84 : decode cX8_push 84 = .ok (.dup, 1) := by decide +kernel
theorem dX8_push_85 : decode cX8_push 85 = .ok (.getfield 72, 3) := by decide +kernel
theorem dX8_push_88 : decode cX8_push 88 = .ok (.iconst 1, 1) := by decide +kernel
theorem dX8_push_89 : decode cX8_push 89 = .ok (.iadd, 1) := by decide +kernel
theorem dX8_push_90 : decode cX8_push 90 = .ok (.putfield 72, 3) := by decide +kernel
theorem dX8_push_93 : decode cX8_push 93 = .ok (.return_, 1) := by decide +kernel
theorem dX8_undo_0 : decode cX8_undo 0 = .ok (.aload_n 0, 1) := by decide +kernel
theorem dX8_undo_1 : decode cX8_undo 1 = .ok (.getfield 72, 3) := by decide +kernel
theorem dX8_undo_4 : decode cX8_undo 4 = .ok (.ifCond .ne 6, 3) := by decide +kernel
theorem dX8_undo_7 : decode cX8_undo 7 = .ok (.bipush (-2), 2) := by decide +kernel
theorem dX8_undo_9 : decode cX8_undo 9 = .ok (.ireturn, 1) := by decide +kernel
theorem dX8_undo_10 : decode cX8_undo 10 = .ok (.aload_n 0, 1) := by decide +kernel
theorem dX8_undo_11 : decode cX8_undo 11 = .ok (.dup, 1) := by decide +kernel
theorem dX8_undo_12 : decode cX8_undo 12 = .ok (.getfield 72, 3) := by decide +kernel
theorem dX8_undo_15 : decode cX8_undo 15 = .ok (.iconst 1, 1) := by decide +kernel
theorem dX8_undo_16 : decode cX8_undo 16 = .ok (.isub, 1) := by decide +kernel
theorem dX8_undo_17 : decode cX8_undo 17 = .ok (.putfield 72, 3) := by decide +kernel
theorem dX8_undo_20 : decode cX8_undo 20 = .ok (.iconst 0, 1) := by decide +kernel
theorem dX8_undo_21 : decode cX8_undo 21 = .ok (.istore_n 1, 1) := by decide +kernel
theorem dX8_undo_22 : decode cX8_undo 22 = .ok (.iload_n 1, 1) := by decide +kernel
theorem dX8_undo_23 : decode cX8_undo 23 = .ok (.bipush 88, 2) := by decide +kernel
theorem dX8_undo_25 : decode cX8_undo 25 = .ok (.if_icmp .ge 29, 3) := by decide +kernel
theorem dX8_undo_28 : decode cX8_undo 28 = .ok (.aload_n 0, 1) := by decide +kernel
theorem dX8_undo_29 : decode cX8_undo 29 = .ok (.getfield 7, 3) := by decide +kernel
theorem dX8_undo_32 : decode cX8_undo 32 = .ok (.iload_n 1, 1) := by decide +kernel
theorem dX8_undo_33 : decode cX8_undo 33 = .ok (.aload_n 0, 1) := by decide +kernel
theorem dX8_undo_34 : decode cX8_undo 34 = .ok (.getfield 16, 3) := by decide +kernel
theorem dX8_undo_37 : decode cX8_undo 37 = .ok (.bipush 88, 2) := by decide +kernel
theorem dX8_undo_39 : decode cX8_undo 39 = .ok (.aload_n 0, 1) := by decide +kernel
theorem dX8_undo_40 : decode cX8_undo 40 = .ok (.getfield 72, 3) := by decide +kernel
theorem dX8_undo_43 : decode cX8_undo 43 = .ok (.imul, 1) := by decide +kernel
theorem dX8_undo_44 : decode cX8_undo 44 = .ok (.iload_n 1, 1) := by decide +kernel
theorem dX8_undo_45 : decode cX8_undo 45 = .ok (.iadd, 1) := by decide +kernel
theorem dX8_undo_46 : decode cX8_undo 46 = .ok (.iaload, 1) := by decide +kernel
theorem dX8_undo_47 : decode cX8_undo 47 = .ok (.iastore, 1) := by decide +kernel
theorem dX8_undo_48 : decode cX8_undo 48 = .ok (.iinc 1 1, 3) := by decide +kernel
theorem dX8_undo_51 : decode cX8_undo 51 = .ok (.goto (-29), 3) := by decide +kernel
theorem dX8_undo_54 : decode cX8_undo 54 = .ok (.aload_n 0, 1) := by decide +kernel
theorem dX8_undo_55 : decode cX8_undo 55 = .ok (.getfield 72, 3) := by decide +kernel
theorem dX8_undo_58 : decode cX8_undo 58 = .ok (.ireturn, 1) := by decide +kernel
theorem dX8_of_0 : decode cX8_of 0 = .ok (.aload_n 0, 1) := by decide +kernel
theorem dX8_of_1 : decode cX8_of 1 = .ok (.getfield 7, 3) := by decide +kernel
theorem dX8_of_4 : decode cX8_of 4 = .ok (.bipush 23, 2) := by decide +kernel
theorem dX8_of_6 : decode cX8_of 6 = .ok (.bipush 13, 2) := by decide +kernel
theorem dX8_of_8 : decode cX8_of 8 = .ok (.iload_n 1, 1) := by decide +kernel
theorem dX8_of_9 : decode cX8_of 9 = .ok (.imul, 1) := by decide +kernel
theorem dX8_of_10 : decode cX8_of 10 = .ok (.iadd, 1) := by decide +kernel
theorem dX8_of_11 : decode cX8_of 11 = .ok (.iload_n 2, 1) := by decide +kernel
theorem dX8_of_12 : decode cX8_of 12 = .ok (.iadd, 1) := by decide +kernel
theorem dX8_of_13 : decode cX8_of 13 = .ok (.iaload, 1) := by decide +kernel
theorem dX8_of_14 : decode cX8_of 14 = .ok (.ireturn, 1) := by decide +kernel
theorem dX8_put_0 : decode cX8_put 0 = .ok (.aload_n 0, 1) := by decide +kernel
theorem dX8_put_1 : decode cX8_put 1 = .ok (.getfield 7, 3) := by decide +kernel
theorem dX8_put_4 : decode cX8_put 4 = .ok (.bipush 23, 2) := by decide +kernel
theorem dX8_put_6 : decode cX8_put 6 = .ok (.bipush 13, 2) := by decide +kernel
theorem dX8_put_8 : decode cX8_put 8 = .ok (.iload_n 1, 1) := by decide +kernel
theorem dX8_put_9 : decode cX8_put 9 = .ok (.imul, 1) := by decide +kernel
theorem dX8_put_10 : decode cX8_put 10 = .ok (.iadd, 1) := by decide +kernel
theorem dX8_put_11 : decode cX8_put 11 = .ok (.iload_n 2, 1) := by decide +kernel
theorem dX8_put_12 : decode cX8_put 12 = .ok (.iadd, 1) := by decide +kernel
theorem dX8_put_13 : decode cX8_put 13 = .ok (.iload_n 3, 1) := by decide +kernel
theorem dX8_put_14 : decode cX8_put 14 = .ok (.iastore, 1) := by decide +kernel
theorem dX8_put_15 : decode cX8_put 15 = .ok (.return_, 1) := by decide +kernel
theorem dX8_root_0 : decode cX8_root 0 = .ok (.iconst 0, 1) := by decide +kernel
theorem dX8_root_1 : decode cX8_root 1 = .ok (.istore_n 1, 1) := by decide +kernel
theorem dX8_root_2 : decode cX8_root 2 = .ok (.sipush 10100, 3) := by decide +kernel
theorem dX8_root_5 : decode cX8_root 5 = .ok (.istore_n 2, 1) := by decide +kernel
theorem dX8_root_6 : decode cX8_root 6 = .ok (.iload_n 1, 1) := by decide +kernel
theorem dX8_root_7 : decode cX8_root 7 = .ok (.iload_n 2, 1) := by decide +kernel
theorem dX8_root_8 : decode cX8_root 8 = .ok (.if_icmp .ge 30, 3) := by decide +kernel
theorem dX8_root_11 : decode cX8_root 11 = .ok (.iload_n 1, 1) := by decide +kernel
theorem dX8_root_12 : decode cX8_root 12 = .ok (.iload_n 2, 1) := by decide +kernel
theorem dX8_root_13 : decode cX8_root 13 = .ok (.iadd, 1) := by decide +kernel
theorem dX8_root_14 : decode cX8_root 14 = .ok (.iconst 1, 1) := by decide +kernel
theorem dX8_root_15 : decode cX8_root 15 = .ok (.iadd, 1) := by decide +kernel
theorem dX8_root_16 : decode cX8_root 16 = .ok (.iconst 2, 1) := by decide +kernel
theorem dX8_root_17 : decode cX8_root 17 = .ok (.idiv, 1) := by decide +kernel
theorem dX8_root_18 : decode cX8_root 18 = .ok (.istore_n 3, 1) := by decide +kernel
theorem dX8_root_19 : decode cX8_root 19 = .ok (.iload_n 3, 1) := by decide +kernel
theorem dX8_root_20 : decode cX8_root 20 = .ok (.iload_n 3, 1) := by decide +kernel
theorem dX8_root_21 : decode cX8_root 21 = .ok (.imul, 1) := by decide +kernel
theorem dX8_root_22 : decode cX8_root 22 = .ok (.iload_n 0, 1) := by decide +kernel
theorem dX8_root_23 : decode cX8_root 23 = .ok (.if_icmp .gt 8, 3) := by decide +kernel
theorem dX8_root_26 : decode cX8_root 26 = .ok (.iload_n 3, 1) := by decide +kernel
theorem dX8_root_27 : decode cX8_root 27 = .ok (.istore_n 1, 1) := by decide +kernel
theorem dX8_root_28 : decode cX8_root 28 = .ok (.goto 7, 3) := by decide +kernel
theorem dX8_root_31 : decode cX8_root 31 = .ok (.iload_n 3, 1) := by decide +kernel
theorem dX8_root_32 : decode cX8_root 32 = .ok (.iconst 1, 1) := by decide +kernel
theorem dX8_root_33 : decode cX8_root 33 = .ok (.isub, 1) := by decide +kernel
theorem dX8_root_34 : decode cX8_root 34 = .ok (.istore_n 2, 1) := by decide +kernel
theorem dX8_root_35 : decode cX8_root 35 = .ok (.goto (-29), 3) := by decide +kernel
theorem dX8_root_38 : decode cX8_root 38 = .ok (.iload_n 1, 1) := by decide +kernel
theorem dX8_root_39 : decode cX8_root 39 = .ok (.ireturn, 1) := by decide +kernel
set_option maxRecDepth 20000 in
theorem ggX8_rise_X8_root : GoodIn wsX8_rise wsX8_root := goodIn_r _ [4] (by decide +kernel) (by decide +kernel)
set_option maxRecDepth 20000 in
theorem gX8_rise_X8_root : GoodIn wsX8_rise (va_wsS RX8 75 yX8_root wsX8_root) := goodIn_app (goodIn_of _ (by decide +kernel)) ggX8_rise_X8_root
theorem dX8_rise_0 : decode cX8_rise 0 = .ok (.bipush 10, 2) := by decide +kernel
theorem dX8_rise_2 : decode cX8_rise 2 = .ok (.iload_n 1, 1) := by decide +kernel
theorem dX8_rise_3 : decode cX8_rise 3 = .ok (.imul, 1) := by decide +kernel
theorem dX8_rise_4 : decode cX8_rise 4 = .ok (.iload_n 0, 1) := by decide +kernel
theorem dX8_rise_5 : decode cX8_rise 5 = .ok (.iload_n 0, 1) := by decide +kernel
theorem dX8_rise_6 : decode cX8_rise 6 = .ok (.imul, 1) := by decide +kernel
theorem dX8_rise_7 : decode cX8_rise 7 = .ok (.iload_n 1, 1) := by decide +kernel
theorem dX8_rise_8 : decode cX8_rise 8 = .ok (.iload_n 1, 1) := by decide +kernel
theorem dX8_rise_9 : decode cX8_rise 9 = .ok (.imul, 1) := by decide +kernel
theorem dX8_rise_10 : decode cX8_rise 10 = .ok (.iadd, 1) := by decide +kernel
theorem dX8_rise_11 : decode cX8_rise 11 = .ok (.invokestatic 75, 3) := by decide +kernel
theorem dX8_rise_14 : decode cX8_rise 14 = .ok (.idiv, 1) := by decide +kernel
theorem dX8_rise_15 : decode cX8_rise 15 = .ok (.ireturn, 1) := by decide +kernel
set_option maxRecDepth 20000 in
theorem ggX8_runs_X8_rise : GoodIn wsX8_runs wsX8_rise := goodIn_r _ [4, 5, 6, 3, 7] (by decide +kernel) (by decide +kernel)
set_option maxRecDepth 20000 in
theorem gX8_runs_X8_rise : GoodIn wsX8_runs (va_wsS RX8 79 yX8_rise wsX8_rise) := goodIn_app (goodIn_of _ (by decide +kernel)) ggX8_runs_X8_rise
set_option maxRecDepth 20000 in
theorem ggX8_runs_X8_root : GoodIn wsX8_runs wsX8_root := goodIn_r _ [7] (by decide +kernel) (by decide +kernel)
set_option maxRecDepth 20000 in
theorem gX8_runs_X8_root : GoodIn wsX8_runs (va_wsS RX8 75 yX8_root wsX8_root) := goodIn_app (goodIn_of _ (by decide +kernel)) ggX8_runs_X8_root
theorem dX8_runs_0 : decode cX8_runs 0 = .ok (.iconst 0, 1) := by decide +kernel
theorem dX8_runs_1 : decode cX8_runs 1 = .ok (.istore 4, 2) := by decide +kernel
theorem dX8_runs_3 : decode cX8_runs 3 = .ok (.iconst 1, 1) := by decide +kernel
theorem dX8_runs_4 : decode cX8_runs 4 = .ok (.istore 5, 2) := by decide +kernel
theorem dX8_runs_6 : decode cX8_runs 6 = .ok (.iload 5, 2) := by decide +kernel
theorem dX8_runs_8 : decode cX8_runs 8 = .ok (.iload_n 0, 1) := by decide +kernel
theorem dX8_runs_9 : decode cX8_runs 9 = .ok (.if_icmp .gt 37, 3) := by decide +kernel
theorem dX8_runs_12 : decode cX8_runs 12 = .ok (.iload_n 2, 1) := by decide +kernel
theorem dX8_runs_13 : decode cX8_runs 13 = .ok (.iload_n 3, 1) := by decide +kernel
theorem dX8_runs_14 : decode cX8_runs 14 = .ok (.iload_n 1, 1) := by decide +kernel
theorem dX8_runs_15 : decode cX8_runs 15 = .ok (.iload 5, 2) := by decide +kernel
theorem dX8_runs_17 : decode cX8_runs 17 = .ok (.imul, 1) := by decide +kernel
theorem dX8_runs_18 : decode cX8_runs 18 = .ok (.iadd, 1) := by decide +kernel
theorem dX8_runs_19 : decode cX8_runs 19 = .ok (.invokestatic 79, 3) := by decide +kernel
theorem dX8_runs_22 : decode cX8_runs 22 = .ok (.istore 6, 2) := by decide +kernel
theorem dX8_runs_24 : decode cX8_runs 24 = .ok (.iload 4, 2) := by decide +kernel
theorem dX8_runs_26 : decode cX8_runs 26 = .ok (.bipush 100, 2) := by decide +kernel
theorem dX8_runs_28 : decode cX8_runs 28 = .ok (.iload 6, 2) := by decide +kernel
theorem dX8_runs_30 : decode cX8_runs 30 = .ok (.iload 6, 2) := by decide +kernel
theorem dX8_runs_32 : decode cX8_runs 32 = .ok (.imul, 1) := by decide +kernel
theorem dX8_runs_33 : decode cX8_runs 33 = .ok (.isub, 1) := by decide +kernel
theorem dX8_runs_34 : decode cX8_runs 34 = .ok (.invokestatic 75, 3) := by decide +kernel
theorem dX8_runs_37 : decode cX8_runs 37 = .ok (.iadd, 1) := by decide +kernel
theorem dX8_runs_38 : decode cX8_runs 38 = .ok (.istore 4, 2) := by decide +kernel
theorem dX8_runs_40 : decode cX8_runs 40 = .ok (.iinc 5 1, 3) := by decide +kernel
theorem dX8_runs_43 : decode cX8_runs 43 = .ok (.goto (-37), 3) := by decide +kernel
theorem dX8_runs_46 : decode cX8_runs 46 = .ok (.iload 4, 2) := by decide +kernel
theorem dX8_runs_48 : decode cX8_runs 48 = .ok (.ireturn, 1) := by decide +kernel
set_option maxRecDepth 20000 in
theorem ggX8_rises_X8_rise : GoodIn wsX8_rises wsX8_rise := goodIn_r _ [4, 5, 6, 3, 7] (by decide +kernel) (by decide +kernel)
set_option maxRecDepth 20000 in
theorem gX8_rises_X8_rise : GoodIn wsX8_rises (va_wsS RX8 79 yX8_rise wsX8_rise) := goodIn_app (goodIn_of _ (by decide +kernel)) ggX8_rises_X8_rise
theorem dX8_rises_0 : decode cX8_rises 0 = .ok (.iconst 0, 1) := by decide +kernel
theorem dX8_rises_1 : decode cX8_rises 1 = .ok (.istore 4, 2) := by decide +kernel
theorem dX8_rises_3 : decode cX8_rises 3 = .ok (.iconst 1, 1) := by decide +kernel
theorem dX8_rises_4 : decode cX8_rises 4 = .ok (.istore 5, 2) := by decide +kernel
theorem dX8_rises_6 : decode cX8_rises 6 = .ok (.iload 5, 2) := by decide +kernel
theorem dX8_rises_8 : decode cX8_rises 8 = .ok (.iload_n 0, 1) := by decide +kernel
theorem dX8_rises_9 : decode cX8_rises 9 = .ok (.if_icmp .gt 24, 3) := by decide +kernel
theorem dX8_rises_12 : decode cX8_rises 12 = .ok (.iload 4, 2) := by decide +kernel
theorem dX8_rises_14 : decode cX8_rises 14 = .ok (.iload_n 2, 1) := by decide +kernel
theorem dX8_rises_15 : decode cX8_rises 15 = .ok (.iload_n 3, 1) := by decide +kernel
theorem dX8_rises_16 : decode cX8_rises 16 = .ok (.iload_n 1, 1) := by decide +kernel
theorem dX8_rises_17 : decode cX8_rises 17 = .ok (.iload 5, 2) := by decide +kernel
theorem dX8_rises_19 : decode cX8_rises 19 = .ok (.imul, 1) := by decide +kernel
theorem dX8_rises_20 : decode cX8_rises 20 = .ok (.iadd, 1) := by decide +kernel
theorem dX8_rises_21 : decode cX8_rises 21 = .ok (.invokestatic 79, 3) := by decide +kernel
theorem dX8_rises_24 : decode cX8_rises 24 = .ok (.iadd, 1) := by decide +kernel
theorem dX8_rises_25 : decode cX8_rises 25 = .ok (.istore 4, 2) := by decide +kernel
theorem dX8_rises_27 : decode cX8_rises 27 = .ok (.iinc 5 1, 3) := by decide +kernel
theorem dX8_rises_30 : decode cX8_rises 30 = .ok (.goto (-24), 3) := by decide +kernel
theorem dX8_rises_33 : decode cX8_rises 33 = .ok (.iload 4, 2) := by decide +kernel
theorem dX8_rises_35 : decode cX8_rises 35 = .ok (.ireturn, 1) := by decide +kernel
set_option maxRecDepth 20000 in
theorem ggX8_chain_X8_rise : GoodIn wsX8_chain wsX8_rise := goodIn_r _ [10, 11, 12, 9, 13] (by decide +kernel) (by decide +kernel)
set_option maxRecDepth 20000 in
theorem gX8_chain_X8_rise : GoodIn wsX8_chain (va_wsS RX8 79 yX8_rise wsX8_rise) := goodIn_app (goodIn_of _ (by decide +kernel)) ggX8_chain_X8_rise
set_option maxRecDepth 20000 in
theorem ggX8_chain_X8_runs : GoodIn wsX8_chain wsX8_runs := goodIn_r _ [16, 7, 8, 9, 10, 11, 12, 13] (by decide +kernel) (by decide +kernel)
set_option maxRecDepth 20000 in
theorem gX8_chain_X8_runs : GoodIn wsX8_chain (va_wsS RX8 96 yX8_runs wsX8_runs) := goodIn_app (goodIn_of _ (by decide +kernel)) ggX8_chain_X8_runs
set_option maxRecDepth 20000 in
theorem ggX8_chain_X8_rises : GoodIn wsX8_chain wsX8_rises := goodIn_r _ [19, 7, 8, 9, 10, 11, 12, 13] (by decide +kernel) (by decide +kernel)
set_option maxRecDepth 20000 in
theorem gX8_chain_X8_rises : GoodIn wsX8_chain (va_wsS RX8 103 yX8_rises wsX8_rises) := goodIn_app (goodIn_of _ (by decide +kernel)) ggX8_chain_X8_rises
theorem dX8_chain_0 : decode cX8_chain 0 = .ok (.bipush 10, 2) := by decide +kernel
theorem dX8_chain_2 : decode cX8_chain 2 = .ok (.aload_n 0, 1) := by decide +kernel
theorem dX8_chain_3 : decode cX8_chain 3 = .ok (.getfield 7, 3) := by decide +kernel
theorem dX8_chain_6 : decode cX8_chain 6 = .ok (.iconst 3, 1) := by decide +kernel
theorem dX8_chain_7 : decode cX8_chain 7 = .ok (.iload_n 1, 1) := by decide +kernel
theorem dX8_chain_8 : decode cX8_chain 8 = .ok (.iadd, 1) := by decide +kernel
theorem dX8_chain_9 : decode cX8_chain 9 = .ok (.iaload, 1) := by decide +kernel
theorem dX8_chain_10 : decode cX8_chain 10 = .ok (.imul, 1) := by decide +kernel
theorem dX8_chain_11 : decode cX8_chain 11 = .ok (.istore 5, 2) := by decide +kernel
theorem dX8_chain_13 : decode cX8_chain 13 = .ok (.iconst 0, 1) := by decide +kernel
theorem dX8_chain_14 : decode cX8_chain 14 = .ok (.istore 6, 2) := by decide +kernel
theorem dX8_chain_16 : decode cX8_chain 16 = .ok (.aload_n 0, 1) := by decide +kernel
theorem dX8_chain_17 : decode cX8_chain 17 = .ok (.iconst 0, 1) := by decide +kernel
theorem dX8_chain_18 : decode cX8_chain 18 = .ok (.putfield 83, 3) := by decide +kernel
theorem dX8_chain_21 : decode cX8_chain 21 = .ok (.iload 6, 2) := by decide +kernel
theorem dX8_chain_23 : decode cX8_chain 23 = .ok (.iload 5, 2) := by decide +kernel
theorem dX8_chain_25 : decode cX8_chain 25 = .ok (.if_icmp .ge 40, 3) := by decide +kernel
theorem dX8_chain_28 : decode cX8_chain 28 = .ok (.aload_n 0, 1) := by decide +kernel
theorem dX8_chain_29 : decode cX8_chain 29 = .ok (.getfield 83, 3) := by decide +kernel
theorem dX8_chain_32 : decode cX8_chain 32 = .ok (.iload_n 2, 1) := by decide +kernel
theorem dX8_chain_33 : decode cX8_chain 33 = .ok (.if_icmp .ge 32, 3) := by decide +kernel
theorem dX8_chain_36 : decode cX8_chain 36 = .ok (.aload_n 0, 1) := by decide +kernel
theorem dX8_chain_37 : decode cX8_chain 37 = .ok (.dup, 1) := by decide +kernel
theorem dX8_chain_38 : decode cX8_chain 38 = .ok (.getfield 83, 3) := by decide +kernel
theorem dX8_chain_41 : decode cX8_chain 41 = .ok (.iconst 1, 1) := by decide +kernel
theorem dX8_chain_42 : decode cX8_chain 42 = .ok (.iadd, 1) := by decide +kernel
theorem dX8_chain_43 : decode cX8_chain 43 = .ok (.putfield 83, 3) := by decide +kernel
theorem dX8_chain_46 : decode cX8_chain 46 = .ok (.iload 6, 2) := by decide +kernel
theorem dX8_chain_48 : decode cX8_chain 48 = .ok (.iload 4, 2) := by decide +kernel
theorem dX8_chain_50 : decode cX8_chain 50 = .ok (.iload_n 3, 1) := by decide +kernel
theorem dX8_chain_51 : decode cX8_chain 51 = .ok (.aload_n 0, 1) := by decide +kernel
theorem dX8_chain_52 : decode cX8_chain 52 = .ok (.getfield 83, 3) := by decide +kernel
theorem dX8_chain_55 : decode cX8_chain 55 = .ok (.imul, 1) := by decide +kernel
theorem dX8_chain_56 : decode cX8_chain 56 = .ok (.invokestatic 79, 3) := by decide +kernel
theorem dX8_chain_59 : decode cX8_chain 59 = .ok (.iadd, 1) := by decide +kernel
theorem dX8_chain_60 : decode cX8_chain 60 = .ok (.istore 6, 2) := by decide +kernel
theorem dX8_chain_62 : decode cX8_chain 62 = .ok (.goto (-41), 3) := by decide +kernel
theorem dX8_chain_65 : decode cX8_chain 65 = .ok (.aload_n 0, 1) := by decide +kernel
theorem dX8_chain_66 : decode cX8_chain 66 = .ok (.iload_n 2, 1) := by decide +kernel
theorem dX8_chain_67 : decode cX8_chain 67 = .ok (.aload_n 0, 1) := by decide +kernel
theorem dX8_chain_68 : decode cX8_chain 68 = .ok (.getfield 83, 3) := by decide +kernel
theorem dX8_chain_71 : decode cX8_chain 71 = .ok (.isub, 1) := by decide +kernel
theorem dX8_chain_72 : decode cX8_chain 72 = .ok (.putfield 86, 3) := by decide +kernel
theorem dX8_chain_75 : decode cX8_chain 75 = .ok (.aload_n 0, 1) := by decide +kernel
theorem dX8_chain_76 : decode cX8_chain 76 = .ok (.iconst 0, 1) := by decide +kernel
theorem dX8_chain_77 : decode cX8_chain 77 = .ok (.putfield 89, 3) := by decide +kernel
theorem dX8_chain_80 : decode cX8_chain 80 = .ok (.aload_n 0, 1) := by decide +kernel
theorem dX8_chain_81 : decode cX8_chain 81 = .ok (.iconst 0, 1) := by decide +kernel
theorem dX8_chain_82 : decode cX8_chain 82 = .ok (.putfield 92, 3) := by decide +kernel
theorem dX8_chain_85 : decode cX8_chain 85 = .ok (.iload 6, 2) := by decide +kernel
theorem dX8_chain_87 : decode cX8_chain 87 = .ok (.iload 5, 2) := by decide +kernel
theorem dX8_chain_89 : decode cX8_chain 89 = .ok (.if_icmp .lt 27, 3) := by decide +kernel
theorem dX8_chain_92 : decode cX8_chain 92 = .ok (.aload_n 0, 1) := by decide +kernel
theorem dX8_chain_93 : decode cX8_chain 93 = .ok (.bipush 10, 2) := by decide +kernel
theorem dX8_chain_95 : decode cX8_chain 95 = .ok (.aload_n 0, 1) := by decide +kernel
theorem dX8_chain_96 : decode cX8_chain 96 = .ok (.getfield 86, 3) := by decide +kernel
theorem dX8_chain_99 : decode cX8_chain 99 = .ok (.imul, 1) := by decide +kernel
theorem dX8_chain_100 : decode cX8_chain 100 = .ok (.aload_n 0, 1) := by decide +kernel
theorem dX8_chain_101 : decode cX8_chain 101 = .ok (.getfield 83, 3) := by decide +kernel
theorem dX8_chain_104 : decode cX8_chain 104 = .ok (.iload_n 3, 1) := by decide +kernel
theorem dX8_chain_105 : decode cX8_chain 105 = .ok (.iload 4, 2) := by decide +kernel
theorem dX8_chain_107 : decode cX8_chain 107 = .ok (.iconst 0, 1) := by decide +kernel
theorem dX8_chain_108 : decode cX8_chain 108 = .ok (.invokestatic 96, 3) := by decide +kernel
theorem dX8_chain_111 : decode cX8_chain 111 = .ok (.iadd, 1) := by decide +kernel
theorem dX8_chain_112 : decode cX8_chain 112 = .ok (.putfield 100, 3) := by decide +kernel
theorem dX8_chain_115 : decode cX8_chain 115 = .ok (.return_, 1) := by decide +kernel
theorem dX8_chain_116 : decode cX8_chain 116 = .ok (.aload_n 0, 1) := by decide +kernel
theorem dX8_chain_117 : decode cX8_chain 117 = .ok (.bipush 10, 2) := by decide +kernel
theorem dX8_chain_119 : decode cX8_chain 119 = .ok (.iload_n 2, 1) := by decide +kernel
theorem dX8_chain_120 : decode cX8_chain 120 = .ok (.imul, 1) := by decide +kernel
theorem dX8_chain_121 : decode cX8_chain 121 = .ok (.iload 5, 2) := by decide +kernel
theorem dX8_chain_123 : decode cX8_chain 123 = .ok (.if_icmp .ge 9, 3) := by decide +kernel
theorem dX8_chain_126 : decode cX8_chain 126 = .ok (.sipush 1000, 3) := by decide +kernel
theorem dX8_chain_129 : decode cX8_chain 129 = .ok (.goto 4, 3) := by decide +kernel
theorem dX8_chain_132 : decode cX8_chain 132 = .ok (.iconst 1, 1) := by decide +kernel
theorem dX8_chain_133 : decode cX8_chain 133 = .ok (.putfield 89, 3) := by decide +kernel
theorem dX8_chain_136 : decode cX8_chain 136 = .ok (.aload_n 0, 1) := by decide +kernel
theorem dX8_chain_137 : decode cX8_chain 137 = .ok (.getfield 89, 3) := by decide +kernel
theorem dX8_chain_140 : decode cX8_chain 140 = .ok (.sipush 999, 3) := by decide +kernel
theorem dX8_chain_143 : decode cX8_chain 143 = .ok (.if_icmp .gt 32, 3) := by decide +kernel
theorem dX8_chain_146 : decode cX8_chain 146 = .ok (.iload_n 2, 1) := by decide +kernel
theorem dX8_chain_147 : decode cX8_chain 147 = .ok (.iload_n 3, 1) := by decide +kernel
theorem dX8_chain_148 : decode cX8_chain 148 = .ok (.iload 4, 2) := by decide +kernel
theorem dX8_chain_150 : decode cX8_chain 150 = .ok (.aload_n 0, 1) := by decide +kernel
theorem dX8_chain_151 : decode cX8_chain 151 = .ok (.getfield 89, 3) := by decide +kernel
theorem dX8_chain_154 : decode cX8_chain 154 = .ok (.invokestatic 103, 3) := by decide +kernel
theorem dX8_chain_157 : decode cX8_chain 157 = .ok (.iload 5, 2) := by decide +kernel
theorem dX8_chain_159 : decode cX8_chain 159 = .ok (.if_icmp .ge 16, 3) := by decide +kernel
theorem dX8_chain_162 : decode cX8_chain 162 = .ok (.aload_n 0, 1) := by decide +kernel
theorem dX8_chain_163 : decode cX8_chain 163 = .ok (.dup, 1) := by decide +kernel
theorem dX8_chain_164 : decode cX8_chain 164 = .ok (.getfield 89, 3) := by decide +kernel
theorem dX8_chain_167 : decode cX8_chain 167 = .ok (.iconst 1, 1) := by decide +kernel
theorem dX8_chain_168 : decode cX8_chain 168 = .ok (.iadd, 1) := by decide +kernel
theorem dX8_chain_169 : decode cX8_chain 169 = .ok (.putfield 89, 3) := by decide +kernel
theorem dX8_chain_172 : decode cX8_chain 172 = .ok (.goto (-36), 3) := by decide +kernel
theorem dX8_chain_175 : decode cX8_chain 175 = .ok (.aload_n 0, 1) := by decide +kernel
theorem dX8_chain_176 : decode cX8_chain 176 = .ok (.aload_n 0, 1) := by decide +kernel
theorem dX8_chain_177 : decode cX8_chain 177 = .ok (.getfield 89, 3) := by decide +kernel
theorem dX8_chain_180 : decode cX8_chain 180 = .ok (.sipush 999, 3) := by decide +kernel
theorem dX8_chain_183 : decode cX8_chain 183 = .ok (.if_icmp .le 7, 3) := by decide +kernel
theorem dX8_chain_186 : decode cX8_chain 186 = .ok (.iconst 1, 1) := by decide +kernel
theorem dX8_chain_187 : decode cX8_chain 187 = .ok (.goto 4, 3) := by decide +kernel
theorem dX8_chain_190 : decode cX8_chain 190 = .ok (.iconst 0, 1) := by decide +kernel
theorem dX8_chain_191 : decode cX8_chain 191 = .ok (.putfield 92, 3) := by decide +kernel
theorem dX8_chain_194 : decode cX8_chain 194 = .ok (.aload_n 0, 1) := by decide +kernel
theorem dX8_chain_195 : decode cX8_chain 195 = .ok (.aload_n 0, 1) := by decide +kernel
theorem dX8_chain_196 : decode cX8_chain 196 = .ok (.getfield 92, 3) := by decide +kernel
theorem dX8_chain_199 : decode cX8_chain 199 = .ok (.ifCond .eq 9, 3) := by decide +kernel
theorem dX8_chain_202 : decode cX8_chain 202 = .ok (.sipush 999, 3) := by decide +kernel
theorem dX8_chain_205 : decode cX8_chain 205 = .ok (.goto 7, 3) := by decide +kernel
theorem dX8_chain_208 : decode cX8_chain 208 = .ok (.aload_n 0, 1) := by decide +kernel
theorem dX8_chain_209 : decode cX8_chain 209 = .ok (.getfield 89, 3) := by decide +kernel
theorem dX8_chain_212 : decode cX8_chain 212 = .ok (.putfield 89, 3) := by decide +kernel
theorem dX8_chain_215 : decode cX8_chain 215 = .ok (.aload_n 0, 1) := by decide +kernel
theorem dX8_chain_216 : decode cX8_chain 216 = .ok (.aload_n 0, 1) := by decide +kernel
theorem dX8_chain_217 : decode cX8_chain 217 = .ok (.getfield 92, 3) := by decide +kernel
theorem dX8_chain_220 : decode cX8_chain 220 = .ok (.ifCond .eq 7, 3) := by decide +kernel
theorem dX8_chain_223 : decode cX8_chain 223 = .ok (.iconst 0, 1) := by decide +kernel
theorem dX8_chain_224 : decode cX8_chain 224 = .ok (.goto 14, 3) := by decide +kernel
theorem dX8_chain_227 : decode cX8_chain 227 = .ok (.iload_n 2, 1) := by decide +kernel
theorem dX8_chain_228 : decode cX8_chain 228 = .ok (.iload_n 3, 1) := by decide +kernel
theorem dX8_chain_229 : decode cX8_chain 229 = .ok (.iload 4, 2) := by decide +kernel
theorem dX8_chain_231 : decode cX8_chain 231 = .ok (.aload_n 0, 1) := by decide +kernel
theorem dX8_chain_232 : decode cX8_chain 232 = .ok (.getfield 89, 3) := by decide +kernel
theorem dX8_chain_235 : decode cX8_chain 235 = .ok (.invokestatic 96, 3) := by decide +kernel
theorem dX8_chain_238 : decode cX8_chain 238 = .ok (.putfield 100, 3) := by decide +kernel
theorem dX8_chain_241 : decode cX8_chain 241 = .ok (.return_, 1) := by decide +kernel
theorem dX8_holding_0 : decode cX8_holding 0 = .ok (.iload_n 1, 1) := by decide +kernel
theorem dX8_holding_1 : decode cX8_holding 1 = .ok (.iconst 3, 1) := by decide +kernel
theorem dX8_holding_2 : decode cX8_holding 2 = .ok (.aload_n 0, 1) := by decide +kernel
theorem dX8_holding_3 : decode cX8_holding 3 = .ok (.getfield 89, 3) := by decide +kernel
theorem dX8_holding_6 : decode cX8_holding 6 = .ok (.imul, 1) := by decide +kernel
theorem dX8_holding_7 : decode cX8_holding 7 = .ok (.isub, 1) := by decide +kernel
theorem dX8_holding_8 : decode cX8_holding 8 = .ok (.istore_n 2, 1) := by decide +kernel
theorem dX8_holding_9 : decode cX8_holding 9 = .ok (.aload_n 0, 1) := by decide +kernel
theorem dX8_holding_10 : decode cX8_holding 10 = .ok (.getfield 92, 3) := by decide +kernel
theorem dX8_holding_13 : decode cX8_holding 13 = .ok (.ifCond .ne 7, 3) := by decide +kernel
theorem dX8_holding_16 : decode cX8_holding 16 = .ok (.iload_n 2, 1) := by decide +kernel
theorem dX8_holding_17 : decode cX8_holding 17 = .ok (.ifCond .ge 7, 3) := by decide +kernel
theorem dX8_holding_20 : decode cX8_holding 20 = .ok (.iconst 0, 1) := by decide +kernel
theorem dX8_holding_21 : decode cX8_holding 21 = .ok (.goto 4, 3) := by decide +kernel
theorem dX8_holding_24 : decode cX8_holding 24 = .ok (.iload_n 2, 1) := by decide +kernel
theorem dX8_holding_25 : decode cX8_holding 25 = .ok (.ireturn, 1) := by decide +kernel
set_option maxRecDepth 20000 in
theorem ggX8_pull_X8_of : GoodIn wsX8_pull wsX8_of := goodIn_r _ [5, 6, 7, 8, 9, 10, 11, 12, 13, 14, 15, 16, 17, 18, 19] (by decide +kernel) (by decide +kernel)
set_option maxRecDepth 20000 in
theorem gX8_pull_X8_of : GoodIn wsX8_pull (wsV RX8 106 RX8 yX8_of wsX8_of) := goodIn_app (goodIn_of _ (by decide +kernel)) ggX8_pull_X8_of
theorem dX8_pull_0 : decode cX8_pull 0 = .ok (.iload_n 2, 1) := by decide +kernel
theorem dX8_pull_1 : decode cX8_pull 1 = .ok (.iload_n 2, 1) := by decide +kernel
theorem dX8_pull_2 : decode cX8_pull 2 = .ok (.imul, 1) := by decide +kernel
theorem dX8_pull_3 : decode cX8_pull 3 = .ok (.aload_n 0, 1) := by decide +kernel
theorem dX8_pull_4 : decode cX8_pull 4 = .ok (.iload_n 1, 1) := by decide +kernel
theorem dX8_pull_5 : decode cX8_pull 5 = .ok (.iconst 5, 1) := by decide +kernel
theorem dX8_pull_6 : decode cX8_pull 6 = .ok (.invokevirtual 106, 3) := by decide +kernel
theorem dX8_pull_9 : decode cX8_pull 9 = .ok (.imul, 1) := by decide +kernel
theorem dX8_pull_10 : decode cX8_pull 10 = .ok (.iconst 4, 1) := by decide +kernel
theorem dX8_pull_11 : decode cX8_pull 11 = .ok (.idiv, 1) := by decide +kernel
theorem dX8_pull_12 : decode cX8_pull 12 = .ok (.ireturn, 1) := by decide +kernel
set_option maxRecDepth 20000 in
theorem ggX8_chainOf_X8_of : GoodIn wsX8_chainOf wsX8_of := goodIn_r _ [5, 6, 28, 29, 30, 31, 32, 33, 34, 35, 36, 37, 38, 39, 40] (by decide +kernel) (by decide +kernel)
set_option maxRecDepth 20000 in
theorem gX8_chainOf_X8_of : GoodIn wsX8_chainOf (wsV RX8 106 RX8 yX8_of wsX8_of) := goodIn_app (goodIn_of _ (by decide +kernel)) ggX8_chainOf_X8_of
set_option maxRecDepth 20000 in
theorem ggX8_chainOf_X8_chain : GoodIn wsX8_chainOf wsX8_chain := goodIn_r _ [10, 6, 11, 12, 13, 14, 15, 16, 17, 4, 18, 19, 20, 21, 22, 23, 24, 25, 26, 27, 28, 29, 30, 31, 32, 33, 34, 35, 36, 37, 38, 39, 40] (by decide +kernel) (by decide +kernel)
set_option maxRecDepth 20000 in
theorem gX8_chainOf_X8_chain : GoodIn wsX8_chainOf (wsV RX8 109 RX8 yX8_chain wsX8_chain) := goodIn_app (goodIn_of _ (by decide +kernel)) ggX8_chainOf_X8_chain
theorem dX8_chainOf_0 : decode cX8_chainOf 0 = .ok (.aload_n 0, 1) := by decide +kernel
theorem dX8_chainOf_1 : decode cX8_chainOf 1 = .ok (.aload_n 0, 1) := by decide +kernel
theorem dX8_chainOf_2 : decode cX8_chainOf 2 = .ok (.iload_n 1, 1) := by decide +kernel
theorem dX8_chainOf_3 : decode cX8_chainOf 3 = .ok (.iload_n 2, 1) := by decide +kernel
theorem dX8_chainOf_4 : decode cX8_chainOf 4 = .ok (.ifCond .ne 7, 3) := by decide +kernel
theorem dX8_chainOf_7 : decode cX8_chainOf 7 = .ok (.iconst 0, 1) := by decide +kernel
theorem dX8_chainOf_8 : decode cX8_chainOf 8 = .ok (.goto 5, 3) := by decide +kernel
theorem dX8_chainOf_11 : decode cX8_chainOf 11 = .ok (.bipush 10, 2) := by decide +kernel
theorem dX8_chainOf_13 : decode cX8_chainOf 13 = .ok (.invokevirtual 106, 3) := by decide +kernel
theorem dX8_chainOf_16 : decode cX8_chainOf 16 = .ok (.aload_n 0, 1) := by decide +kernel
theorem dX8_chainOf_17 : decode cX8_chainOf 17 = .ok (.iload_n 1, 1) := by decide +kernel
theorem dX8_chainOf_18 : decode cX8_chainOf 18 = .ok (.iload_n 2, 1) := by decide +kernel
theorem dX8_chainOf_19 : decode cX8_chainOf 19 = .ok (.ifCond .ne 7, 3) := by decide +kernel
theorem dX8_chainOf_22 : decode cX8_chainOf 22 = .ok (.iconst 2, 1) := by decide +kernel
theorem dX8_chainOf_23 : decode cX8_chainOf 23 = .ok (.goto 5, 3) := by decide +kernel
theorem dX8_chainOf_26 : decode cX8_chainOf 26 = .ok (.bipush 12, 2) := by decide +kernel
theorem dX8_chainOf_28 : decode cX8_chainOf 28 = .ok (.invokevirtual 106, 3) := by decide +kernel
theorem dX8_chainOf_31 : decode cX8_chainOf 31 = .ok (.aload_n 0, 1) := by decide +kernel
theorem dX8_chainOf_32 : decode cX8_chainOf 32 = .ok (.iload_n 1, 1) := by decide +kernel
theorem dX8_chainOf_33 : decode cX8_chainOf 33 = .ok (.iconst 3, 1) := by decide +kernel
theorem dX8_chainOf_34 : decode cX8_chainOf 34 = .ok (.invokevirtual 106, 3) := by decide +kernel
theorem dX8_chainOf_37 : decode cX8_chainOf 37 = .ok (.iload_n 3, 1) := by decide +kernel
theorem dX8_chainOf_38 : decode cX8_chainOf 38 = .ok (.invokevirtual 109, 3) := by decide +kernel
theorem dX8_chainOf_41 : decode cX8_chainOf 41 = .ok (.return_, 1) := by decide +kernel
set_option maxRecDepth 20000 in
theorem ggX8_doesHold_X8_chainOf : GoodIn wsX8_doesHold wsX8_chainOf := goodIn_r _ [5, 6, 7, 8, 4, 9, 10, 11, 12, 13, 14, 15, 16, 17, 18, 19, 20, 21, 22, 23, 24, 25, 26, 27, 28, 29, 30, 31, 36, 37, 38, 39, 40, 41, 42, 43, 44, 45, 46, 47, 48] (by decide +kernel) (by decide +kernel)
set_option maxRecDepth 20000 in
theorem gX8_doesHold_X8_chainOf : GoodIn wsX8_doesHold (wsV RX8 112 RX8 yX8_chainOf wsX8_chainOf) := goodIn_app (goodIn_of _ (by decide +kernel)) ggX8_doesHold_X8_chainOf
set_option maxRecDepth 20000 in
theorem ggX8_doesHold_X8_of : GoodIn wsX8_doesHold wsX8_of := goodIn_r _ [9, 10, 36, 37, 38, 39, 40, 41, 42, 43, 44, 45, 46, 47, 48] (by decide +kernel) (by decide +kernel)
set_option maxRecDepth 20000 in
theorem gX8_doesHold_X8_of : GoodIn wsX8_doesHold (wsV RX8 106 RX8 yX8_of wsX8_of) := goodIn_app (goodIn_of _ (by decide +kernel)) ggX8_doesHold_X8_of
set_option maxRecDepth 20000 in
theorem ggX8_doesHold_X8_holding : GoodIn wsX8_doesHold wsX8_holding := goodIn_r _ [35, 17, 18, 36, 37, 38, 39, 40, 41, 42, 43, 44, 45, 46, 47, 48] (by decide +kernel) (by decide +kernel)
set_option maxRecDepth 20000 in
theorem gX8_doesHold_X8_holding : GoodIn wsX8_doesHold (wsV RX8 115 RX8 yX8_holding wsX8_holding) := goodIn_app (goodIn_of _ (by decide +kernel)) ggX8_doesHold_X8_holding
theorem dX8_doesHold_0 : decode cX8_doesHold 0 = .ok (.aload_n 0, 1) := by decide +kernel
theorem dX8_doesHold_1 : decode cX8_doesHold 1 = .ok (.iload_n 1, 1) := by decide +kernel
theorem dX8_doesHold_2 : decode cX8_doesHold 2 = .ok (.iload_n 2, 1) := by decide +kernel
theorem dX8_doesHold_3 : decode cX8_doesHold 3 = .ok (.iload_n 3, 1) := by decide +kernel
theorem dX8_doesHold_4 : decode cX8_doesHold 4 = .ok (.invokevirtual 112, 3) := by decide +kernel
theorem dX8_doesHold_7 : decode cX8_doesHold 7 = .ok (.iload_n 3, 1) := by decide +kernel
theorem dX8_doesHold_8 : decode cX8_doesHold 8 = .ok (.aload_n 0, 1) := by decide +kernel
theorem dX8_doesHold_9 : decode cX8_doesHold 9 = .ok (.aload_n 0, 1) := by decide +kernel
theorem dX8_doesHold_10 : decode cX8_doesHold 10 = .ok (.iload_n 1, 1) := by decide +kernel
theorem dX8_doesHold_11 : decode cX8_doesHold 11 = .ok (.bipush 6, 2) := by decide +kernel
theorem dX8_doesHold_13 : decode cX8_doesHold 13 = .ok (.invokevirtual 106, 3) := by decide +kernel
theorem dX8_doesHold_16 : decode cX8_doesHold 16 = .ok (.invokevirtual 115, 3) := by decide +kernel
theorem dX8_doesHold_19 : decode cX8_doesHold 19 = .ok (.if_icmp .gt 7, 3) := by decide +kernel
theorem dX8_doesHold_22 : decode cX8_doesHold 22 = .ok (.iconst 1, 1) := by decide +kernel
theorem dX8_doesHold_23 : decode cX8_doesHold 23 = .ok (.goto 4, 3) := by decide +kernel
theorem dX8_doesHold_26 : decode cX8_doesHold 26 = .ok (.iconst 0, 1) := by decide +kernel
theorem dX8_doesHold_27 : decode cX8_doesHold 27 = .ok (.ireturn, 1) := by decide +kernel
set_option maxRecDepth 20000 in
theorem ggX8_holds_X8_pull : GoodIn wsX8_holds wsX8_pull := goodIn_r _ [5, 6, 7, 8, 4, 9, 10, 44, 45, 46, 47, 48, 49, 50, 51, 52, 53, 54, 55, 56] (by decide +kernel) (by decide +kernel)
set_option maxRecDepth 20000 in
theorem gX8_holds_X8_pull : GoodIn wsX8_holds (wsV RX8 118 RX8 yX8_pull wsX8_pull) := goodIn_app (goodIn_of _ (by decide +kernel)) ggX8_holds_X8_pull
set_option maxRecDepth 20000 in
theorem ggX8_holds_X8_of : GoodIn wsX8_holds wsX8_of := goodIn_r _ [9, 10, 44, 45, 46, 47, 48, 49, 50, 51, 52, 53, 54, 55, 56] (by decide +kernel) (by decide +kernel)
set_option maxRecDepth 20000 in
theorem gX8_holds_X8_of : GoodIn wsX8_holds (wsV RX8 106 RX8 yX8_of wsX8_of) := goodIn_app (goodIn_of _ (by decide +kernel)) ggX8_holds_X8_of
set_option maxRecDepth 20000 in
theorem ggX8_holds_X8_doesHold : GoodIn wsX8_holds wsX8_doesHold := goodIn_r _ [14, 15, 16, 17, 4, 18, 6, 7, 8, 9, 10, 19, 20, 21, 22, 23, 24, 25, 26, 27, 28, 29, 30, 31, 32, 33, 34, 35, 36, 37, 38, 39, 40, 41, 42, 43, 44, 45, 46, 47, 48, 49, 50, 51, 52, 53, 54, 55, 56] (by decide +kernel) (by decide +kernel)
set_option maxRecDepth 20000 in
theorem gX8_holds_X8_doesHold : GoodIn wsX8_holds (wsV RX8 121 RX8 yX8_doesHold wsX8_doesHold) := goodIn_app (goodIn_of _ (by decide +kernel)) ggX8_holds_X8_doesHold
theorem dX8_holds_0 : decode cX8_holds 0 = .ok (.aload_n 0, 1) := by decide +kernel
theorem dX8_holds_1 : decode cX8_holds 1 = .ok (.iload_n 1, 1) := by decide +kernel
theorem dX8_holds_2 : decode cX8_holds 2 = .ok (.iload_n 2, 1) := by decide +kernel
theorem dX8_holds_3 : decode cX8_holds 3 = .ok (.invokevirtual 118, 3) := by decide +kernel
theorem dX8_holds_6 : decode cX8_holds 6 = .ok (.istore_n 3, 1) := by decide +kernel
theorem dX8_holds_7 : decode cX8_holds 7 = .ok (.aload_n 0, 1) := by decide +kernel
theorem dX8_holds_8 : decode cX8_holds 8 = .ok (.iload_n 1, 1) := by decide +kernel
theorem dX8_holds_9 : decode cX8_holds 9 = .ok (.bipush 7, 2) := by decide +kernel
theorem dX8_holds_11 : decode cX8_holds 11 = .ok (.invokevirtual 106, 3) := by decide +kernel
theorem dX8_holds_14 : decode cX8_holds 14 = .ok (.iconst 1, 1) := by decide +kernel
theorem dX8_holds_15 : decode cX8_holds 15 = .ok (.if_icmp .ne 5, 3) := by decide +kernel
theorem dX8_holds_18 : decode cX8_holds 18 = .ok (.iconst 0, 1) := by decide +kernel
theorem dX8_holds_19 : decode cX8_holds 19 = .ok (.ireturn, 1) := by decide +kernel
theorem dX8_holds_20 : decode cX8_holds 20 = .ok (.aload_n 0, 1) := by decide +kernel
theorem dX8_holds_21 : decode cX8_holds 21 = .ok (.iload_n 1, 1) := by decide +kernel
theorem dX8_holds_22 : decode cX8_holds 22 = .ok (.bipush 9, 2) := by decide +kernel
theorem dX8_holds_24 : decode cX8_holds 24 = .ok (.invokevirtual 106, 3) := by decide +kernel
theorem dX8_holds_27 : decode cX8_holds 27 = .ok (.ifCond .ne 11, 3) := by decide +kernel
theorem dX8_holds_30 : decode cX8_holds 30 = .ok (.aload_n 0, 1) := by decide +kernel
theorem dX8_holds_31 : decode cX8_holds 31 = .ok (.iload_n 1, 1) := by decide +kernel
theorem dX8_holds_32 : decode cX8_holds 32 = .ok (.iconst 0, 1) := by decide +kernel
theorem dX8_holds_33 : decode cX8_holds 33 = .ok (.iload_n 3, 1) := by decide +kernel
theorem dX8_holds_34 : decode cX8_holds 34 = .ok (.invokevirtual 121, 3) := by decide +kernel
theorem dX8_holds_37 : decode cX8_holds 37 = .ok (.ireturn, 1) := by decide +kernel
theorem dX8_holds_38 : decode cX8_holds 38 = .ok (.iload_n 3, 1) := by decide +kernel
theorem dX8_holds_39 : decode cX8_holds 39 = .ok (.iconst 1, 1) := by decide +kernel
theorem dX8_holds_40 : decode cX8_holds 40 = .ok (.iadd, 1) := by decide +kernel
theorem dX8_holds_41 : decode cX8_holds 41 = .ok (.iconst 2, 1) := by decide +kernel
theorem dX8_holds_42 : decode cX8_holds 42 = .ok (.idiv, 1) := by decide +kernel
theorem dX8_holds_43 : decode cX8_holds 43 = .ok (.istore 4, 2) := by decide +kernel
theorem dX8_holds_45 : decode cX8_holds 45 = .ok (.aload_n 0, 1) := by decide +kernel
theorem dX8_holds_46 : decode cX8_holds 46 = .ok (.iload_n 1, 1) := by decide +kernel
theorem dX8_holds_47 : decode cX8_holds 47 = .ok (.iconst 0, 1) := by decide +kernel
theorem dX8_holds_48 : decode cX8_holds 48 = .ok (.iload 4, 2) := by decide +kernel
theorem dX8_holds_50 : decode cX8_holds 50 = .ok (.invokevirtual 121, 3) := by decide +kernel
theorem dX8_holds_53 : decode cX8_holds 53 = .ok (.ifCond .eq 14, 3) := by decide +kernel
theorem dX8_holds_56 : decode cX8_holds 56 = .ok (.aload_n 0, 1) := by decide +kernel
theorem dX8_holds_57 : decode cX8_holds 57 = .ok (.iload_n 1, 1) := by decide +kernel
theorem dX8_holds_58 : decode cX8_holds 58 = .ok (.iconst 1, 1) := by decide +kernel
theorem dX8_holds_59 : decode cX8_holds 59 = .ok (.iload 4, 2) := by decide +kernel
theorem dX8_holds_61 : decode cX8_holds 61 = .ok (.invokevirtual 121, 3) := by decide +kernel
theorem dX8_holds_64 : decode cX8_holds 64 = .ok (.ifCond .ne 23, 3) := by decide +kernel
theorem dX8_holds_67 : decode cX8_holds 67 = .ok (.aload_n 0, 1) := by decide +kernel
theorem dX8_holds_68 : decode cX8_holds 68 = .ok (.iload_n 1, 1) := by decide +kernel
theorem dX8_holds_69 : decode cX8_holds 69 = .ok (.iconst 0, 1) := by decide +kernel
theorem dX8_holds_70 : decode cX8_holds 70 = .ok (.iload_n 3, 1) := by decide +kernel
theorem dX8_holds_71 : decode cX8_holds 71 = .ok (.invokevirtual 121, 3) := by decide +kernel
theorem dX8_holds_74 : decode cX8_holds 74 = .ok (.ifCond .ne 13, 3) := by decide +kernel
theorem dX8_holds_77 : decode cX8_holds 77 = .ok (.aload_n 0, 1) := by decide +kernel
theorem dX8_holds_78 : decode cX8_holds 78 = .ok (.iload_n 1, 1) := by decide +kernel
theorem dX8_holds_79 : decode cX8_holds 79 = .ok (.iconst 1, 1) := by decide +kernel
theorem dX8_holds_80 : decode cX8_holds 80 = .ok (.iload_n 3, 1) := by decide +kernel
theorem dX8_holds_81 : decode cX8_holds 81 = .ok (.invokevirtual 121, 3) := by decide +kernel
theorem dX8_holds_84 : decode cX8_holds 84 = .ok (.ifCond .eq 7, 3) := by decide +kernel
theorem dX8_holds_87 : decode cX8_holds 87 = .ok (.iconst 1, 1) := by decide +kernel
theorem dX8_holds_88 : decode cX8_holds 88 = .ok (.goto 4, 3) := by decide +kernel
theorem dX8_holds_91 : decode cX8_holds 91 = .ok (.iconst 0, 1) := by decide +kernel
theorem dX8_holds_92 : decode cX8_holds 92 = .ok (.ireturn, 1) := by decide +kernel
set_option maxRecDepth 20000 in
theorem ggX8_swing_X8_pull : GoodIn wsX8_swing wsX8_pull := goodIn_r _ [6, 7, 8, 9, 5, 10, 11, 36, 37, 38, 39, 40, 41, 42, 43, 44, 45, 46, 47, 48] (by decide +kernel) (by decide +kernel)
set_option maxRecDepth 20000 in
theorem gX8_swing_X8_pull : GoodIn wsX8_swing (wsV RX8 118 RX8 yX8_pull wsX8_pull) := goodIn_app (goodIn_of _ (by decide +kernel)) ggX8_swing_X8_pull
set_option maxRecDepth 20000 in
theorem ggX8_swing_X8_chainOf : GoodIn wsX8_swing wsX8_chainOf := goodIn_r _ [15, 7, 8, 9, 5, 10, 11, 16, 17, 18, 19, 20, 21, 22, 23, 1, 24, 25, 26, 27, 28, 29, 30, 31, 32, 33, 34, 35, 36, 37, 38, 39, 40, 41, 42, 43, 44, 45, 46, 47, 48] (by decide +kernel) (by decide +kernel)
set_option maxRecDepth 20000 in
theorem gX8_swing_X8_chainOf : GoodIn wsX8_swing (wsV RX8 112 RX8 yX8_chainOf wsX8_chainOf) := goodIn_app (goodIn_of _ (by decide +kernel)) ggX8_swing_X8_chainOf
set_option maxRecDepth 20000 in
theorem ggX8_swing_X8_of : GoodIn wsX8_swing wsX8_of := goodIn_r _ [10, 11, 36, 37, 38, 39, 40, 41, 42, 43, 44, 45, 46, 47, 48] (by decide +kernel) (by decide +kernel)
set_option maxRecDepth 20000 in
theorem gX8_swing_X8_of : GoodIn wsX8_swing (wsV RX8 106 RX8 yX8_of wsX8_of) := goodIn_app (goodIn_of _ (by decide +kernel)) ggX8_swing_X8_of
theorem dX8_swing_0 : decode cX8_swing 0 = .ok (.aload_n 0, 1) := by decide +kernel
theorem dX8_swing_1 : decode cX8_swing 1 = .ok (.iload_n 1, 1) := by decide +kernel
theorem dX8_swing_2 : decode cX8_swing 2 = .ok (.iconst 0, 1) := by decide +kernel
theorem dX8_swing_3 : decode cX8_swing 3 = .ok (.aload_n 0, 1) := by decide +kernel
theorem dX8_swing_4 : decode cX8_swing 4 = .ok (.iload_n 1, 1) := by decide +kernel
theorem dX8_swing_5 : decode cX8_swing 5 = .ok (.iload_n 2, 1) := by decide +kernel
theorem dX8_swing_6 : decode cX8_swing 6 = .ok (.invokevirtual 118, 3) := by decide +kernel
theorem dX8_swing_9 : decode cX8_swing 9 = .ok (.invokevirtual 112, 3) := by decide +kernel
theorem dX8_swing_12 : decode cX8_swing 12 = .ok (.aload_n 0, 1) := by decide +kernel
theorem dX8_swing_13 : decode cX8_swing 13 = .ok (.getfield 100, 3) := by decide +kernel
theorem dX8_swing_16 : decode cX8_swing 16 = .ok (.bipush 10, 2) := by decide +kernel
theorem dX8_swing_18 : decode cX8_swing 18 = .ok (.aload_n 0, 1) := by decide +kernel
theorem dX8_swing_19 : decode cX8_swing 19 = .ok (.iload_n 1, 1) := by decide +kernel
theorem dX8_swing_20 : decode cX8_swing 20 = .ok (.iconst 4, 1) := by decide +kernel
theorem dX8_swing_21 : decode cX8_swing 21 = .ok (.invokevirtual 106, 3) := by decide +kernel
theorem dX8_swing_24 : decode cX8_swing 24 = .ok (.imul, 1) := by decide +kernel
theorem dX8_swing_25 : decode cX8_swing 25 = .ok (.iadd, 1) := by decide +kernel
theorem dX8_swing_26 : decode cX8_swing 26 = .ok (.ireturn, 1) := by decide +kernel
set_option maxRecDepth 20000 in
theorem ggX8_isShip_X8_in : GoodIn wsX8_isShip wsX8_in := goodIn_r _ [5] (by decide +kernel) (by decide +kernel)
set_option maxRecDepth 20000 in
theorem gX8_isShip_X8_in : GoodIn wsX8_isShip (va_wsS RX8 40 yX8_in wsX8_in) := goodIn_app (goodIn_of _ (by decide +kernel)) ggX8_isShip_X8_in
theorem dX8_isShip_0 : decode cX8_isShip 0 = .ok (.iload_n 1, 1) := by decide +kernel
theorem dX8_isShip_1 : decode cX8_isShip 1 = .ok (.iconst 0, 1) := by decide +kernel
theorem dX8_isShip_2 : decode cX8_isShip 2 = .ok (.aload_n 0, 1) := by decide +kernel
theorem dX8_isShip_3 : decode cX8_isShip 3 = .ok (.getfield 7, 3) := by decide +kernel
theorem dX8_isShip_6 : decode cX8_isShip 6 = .ok (.iconst 1, 1) := by decide +kernel
theorem dX8_isShip_7 : decode cX8_isShip 7 = .ok (.iaload, 1) := by decide +kernel
theorem dX8_isShip_8 : decode cX8_isShip 8 = .ok (.iconst 1, 1) := by decide +kernel
theorem dX8_isShip_9 : decode cX8_isShip 9 = .ok (.isub, 1) := by decide +kernel
theorem dX8_isShip_10 : decode cX8_isShip 10 = .ok (.invokestatic 40, 3) := by decide +kernel
theorem dX8_isShip_13 : decode cX8_isShip 13 = .ok (.ireturn, 1) := by decide +kernel
set_option maxRecDepth 20000 in
theorem ggX8_isColumn_X8_in : GoodIn wsX8_isColumn wsX8_in := goodIn_r _ [5] (by decide +kernel) (by decide +kernel)
set_option maxRecDepth 20000 in
theorem gX8_isColumn_X8_in : GoodIn wsX8_isColumn (va_wsS RX8 40 yX8_in wsX8_in) := goodIn_app (goodIn_of _ (by decide +kernel)) ggX8_isColumn_X8_in
theorem dX8_isColumn_0 : decode cX8_isColumn 0 = .ok (.iload_n 1, 1) := by decide +kernel
theorem dX8_isColumn_1 : decode cX8_isColumn 1 = .ok (.iconst 0, 1) := by decide +kernel
theorem dX8_isColumn_2 : decode cX8_isColumn 2 = .ok (.aload_n 0, 1) := by decide +kernel
theorem dX8_isColumn_3 : decode cX8_isColumn 3 = .ok (.getfield 7, 3) := by decide +kernel
theorem dX8_isColumn_6 : decode cX8_isColumn 6 = .ok (.iconst 0, 1) := by decide +kernel
theorem dX8_isColumn_7 : decode cX8_isColumn 7 = .ok (.iaload, 1) := by decide +kernel
theorem dX8_isColumn_8 : decode cX8_isColumn 8 = .ok (.iconst 1, 1) := by decide +kernel
theorem dX8_isColumn_9 : decode cX8_isColumn 9 = .ok (.isub, 1) := by decide +kernel
theorem dX8_isColumn_10 : decode cX8_isColumn 10 = .ok (.invokestatic 40, 3) := by decide +kernel
theorem dX8_isColumn_13 : decode cX8_isColumn 13 = .ok (.ireturn, 1) := by decide +kernel
set_option maxRecDepth 20000 in
theorem ggX8_isWind_X8_in : GoodIn wsX8_isWind wsX8_in := goodIn_r _ [4] (by decide +kernel) (by decide +kernel)
set_option maxRecDepth 20000 in
theorem gX8_isWind_X8_in : GoodIn wsX8_isWind (va_wsS RX8 40 yX8_in wsX8_in) := goodIn_app (goodIn_of _ (by decide +kernel)) ggX8_isWind_X8_in
theorem dX8_isWind_0 : decode cX8_isWind 0 = .ok (.iload_n 0, 1) := by decide +kernel
theorem dX8_isWind_1 : decode cX8_isWind 1 = .ok (.iconst 0, 1) := by decide +kernel
theorem dX8_isWind_2 : decode cX8_isWind 2 = .ok (.bipush 20, 2) := by decide +kernel
theorem dX8_isWind_4 : decode cX8_isWind 4 = .ok (.invokestatic 40, 3) := by decide +kernel
theorem dX8_isWind_7 : decode cX8_isWind 7 = .ok (.ireturn, 1) := by decide +kernel
set_option maxRecDepth 20000 in
theorem ggX8_links_X8_isShip : GoodIn wsX8_links wsX8_isShip := goodIn_r _ [5, 6, 7, 8, 4, 9, 24, 25, 26, 27, 28, 29, 30, 31, 32, 33, 34, 35, 36] (by decide +kernel) (by decide +kernel)
set_option maxRecDepth 20000 in
theorem gX8_links_X8_isShip : GoodIn wsX8_links (wsV RX8 124 RX8 yX8_isShip wsX8_isShip) := goodIn_app (goodIn_of _ (by decide +kernel)) ggX8_links_X8_isShip
set_option maxRecDepth 20000 in
theorem ggX8_links_X8_in : GoodIn wsX8_links wsX8_in := goodIn_r _ [9] (by decide +kernel) (by decide +kernel)
set_option maxRecDepth 20000 in
theorem gX8_links_X8_in : GoodIn wsX8_links (va_wsS RX8 40 yX8_in wsX8_in) := goodIn_app (goodIn_of _ (by decide +kernel)) ggX8_links_X8_in
set_option maxRecDepth 20000 in
theorem ggX8_links_X8_of : GoodIn wsX8_links wsX8_of := goodIn_r _ [13, 6, 24, 25, 26, 27, 28, 29, 30, 31, 32, 33, 34, 35, 36] (by decide +kernel) (by decide +kernel)
set_option maxRecDepth 20000 in
theorem gX8_links_X8_of : GoodIn wsX8_links (wsV RX8 106 RX8 yX8_of wsX8_of) := goodIn_app (goodIn_of _ (by decide +kernel)) ggX8_links_X8_of
set_option maxRecDepth 20000 in
theorem ggX8_links_X8_push : GoodIn wsX8_links wsX8_push := goodIn_r _ [17, 18, 19, 6, 24, 25, 26, 27, 28, 29, 30, 31, 32, 33, 34, 35, 36] (by decide +kernel) (by decide +kernel)
end
section
set_option maxRecDepth 20000 in
theorem gX8_links_X8_push : GoodIn wsX8_links (wsV RX8 127 RX8 yX8_push wsX8_push) := goodIn_app (goodIn_of _ (by decide +kernel)) ggX8_links_X8_push
set_option maxRecDepth 20000 in
theorem ggX8_links_X8_put : GoodIn wsX8_links wsX8_put := goodIn_r _ [23, 6, 24, 25, 26, 27, 28, 29, 30, 31, 32, 33, 34, 35, 36] (by decide +kernel) (by decide +kernel)
set_option maxRecDepth 20000 in
theorem gX8_links_X8_put : GoodIn wsX8_links (wsV RX8 130 RX8 yX8_put wsX8_put) := goodIn_app (goodIn_of _ (by decide +kernel)) ggX8_links_X8_put
theorem dX8_links_0 : decode cX8_links 0 = .ok (.aload_n 0, 1) := by decide +kernel
theorem dX8_links_1 : decode cX8_links 1 = .ok (.iload_n 1, 1) := by decide +kernel
theorem dX8_links_2 : decode cX8_links 2 = .ok (.invokevirtual 124, 3) := by decide +kernel
theorem dX8_links_5 : decode cX8_links 5 = .ok (.ifCond .eq 22, 3) := by decide +kernel
theorem dX8_links_8 : decode cX8_links 8 = .ok (.iload_n 2, 1) := by decide +kernel
theorem dX8_links_9 : decode cX8_links 9 = .ok (.iconst 0, 1) := by decide +kernel
theorem dX8_links_10 : decode cX8_links 10 = .ok (.iconst 1, 1) := by decide +kernel
theorem dX8_links_11 : decode cX8_links 11 = .ok (.invokestatic 40, 3) := by decide +kernel
theorem dX8_links_14 : decode cX8_links 14 = .ok (.ifCond .eq 13, 3) := by decide +kernel
theorem dX8_links_17 : decode cX8_links 17 = .ok (.iload_n 3, 1) := by decide +kernel
theorem dX8_links_18 : decode cX8_links 18 = .ok (.iconst 1, 1) := by decide +kernel
theorem dX8_links_19 : decode cX8_links 19 = .ok (.bipush 60, 2) := by decide +kernel
theorem dX8_links_21 : decode cX8_links 21 = .ok (.invokestatic 40, 3) := by decide +kernel
theorem dX8_links_24 : decode cX8_links 24 = .ok (.ifCond .ne 5, 3) := by decide +kernel
theorem dX8_links_27 : decode cX8_links 27 = .ok (.iconst (-1), 1) := by decide +kernel
theorem dX8_links_28 : decode cX8_links 28 = .ok (.ireturn, 1) := by decide +kernel
theorem dX8_links_29 : decode cX8_links 29 = .ok (.aload_n 0, 1) := by decide +kernel
theorem dX8_links_30 : decode cX8_links 30 = .ok (.iload_n 1, 1) := by decide +kernel
theorem dX8_links_31 : decode cX8_links 31 = .ok (.bipush 7, 2) := by decide +kernel
theorem dX8_links_33 : decode cX8_links 33 = .ok (.invokevirtual 106, 3) := by decide +kernel
theorem dX8_links_36 : decode cX8_links 36 = .ok (.iconst 1, 1) := by decide +kernel
theorem dX8_links_37 : decode cX8_links 37 = .ok (.if_icmp .eq 18, 3) := by decide +kernel
theorem dX8_links_40 : decode cX8_links 40 = .ok (.iload_n 2, 1) := by decide +kernel
theorem dX8_links_41 : decode cX8_links 41 = .ok (.iconst 1, 1) := by decide +kernel
theorem dX8_links_42 : decode cX8_links 42 = .ok (.if_icmp .ne 16, 3) := by decide +kernel
theorem dX8_links_45 : decode cX8_links 45 = .ok (.aload_n 0, 1) := by decide +kernel
theorem dX8_links_46 : decode cX8_links 46 = .ok (.iload_n 1, 1) := by decide +kernel
theorem dX8_links_47 : decode cX8_links 47 = .ok (.bipush 9, 2) := by decide +kernel
theorem dX8_links_49 : decode cX8_links 49 = .ok (.invokevirtual 106, 3) := by decide +kernel
theorem dX8_links_52 : decode cX8_links 52 = .ok (.ifCond .ne 6, 3) := by decide +kernel
theorem dX8_links_55 : decode cX8_links 55 = .ok (.bipush (-2), 2) := by decide +kernel
theorem dX8_links_57 : decode cX8_links 57 = .ok (.ireturn, 1) := by decide +kernel
theorem dX8_links_58 : decode cX8_links 58 = .ok (.aload_n 0, 1) := by decide +kernel
theorem dX8_links_59 : decode cX8_links 59 = .ok (.invokevirtual 127, 3) := by decide +kernel
theorem dX8_links_62 : decode cX8_links 62 = .ok (.iload_n 2, 1) := by decide +kernel
theorem dX8_links_63 : decode cX8_links 63 = .ok (.ifCond .ne 7, 3) := by decide +kernel
theorem dX8_links_66 : decode cX8_links 66 = .ok (.iconst 2, 1) := by decide +kernel
theorem dX8_links_67 : decode cX8_links 67 = .ok (.goto 5, 3) := by decide +kernel
theorem dX8_links_70 : decode cX8_links 70 = .ok (.bipush 12, 2) := by decide +kernel
theorem dX8_links_72 : decode cX8_links 72 = .ok (.istore 4, 2) := by decide +kernel
theorem dX8_links_74 : decode cX8_links 74 = .ok (.aload_n 0, 1) := by decide +kernel
theorem dX8_links_75 : decode cX8_links 75 = .ok (.iload_n 1, 1) := by decide +kernel
theorem dX8_links_76 : decode cX8_links 76 = .ok (.iload 4, 2) := by decide +kernel
theorem dX8_links_78 : decode cX8_links 78 = .ok (.invokevirtual 106, 3) := by decide +kernel
theorem dX8_links_81 : decode cX8_links 81 = .ok (.istore 5, 2) := by decide +kernel
theorem dX8_links_83 : decode cX8_links 83 = .ok (.aload_n 0, 1) := by decide +kernel
theorem dX8_links_84 : decode cX8_links 84 = .ok (.iload_n 1, 1) := by decide +kernel
theorem dX8_links_85 : decode cX8_links 85 = .ok (.iload 4, 2) := by decide +kernel
theorem dX8_links_87 : decode cX8_links 87 = .ok (.iload_n 3, 1) := by decide +kernel
theorem dX8_links_88 : decode cX8_links 88 = .ok (.invokevirtual 130, 3) := by decide +kernel
theorem dX8_links_91 : decode cX8_links 91 = .ok (.iload 5, 2) := by decide +kernel
theorem dX8_links_93 : decode cX8_links 93 = .ok (.ireturn, 1) := by decide +kernel
set_option maxRecDepth 20000 in
theorem ggX8_moor_X8_isShip : GoodIn wsX8_moor wsX8_isShip := goodIn_r _ [6, 1, 7, 8, 5, 9, 28, 29, 30, 31, 32, 33, 34, 35, 36, 37, 38, 39, 40] (by decide +kernel) (by decide +kernel)
set_option maxRecDepth 20000 in
theorem gX8_moor_X8_isShip : GoodIn wsX8_moor (wsV RX8 124 RX8 yX8_isShip wsX8_isShip) := goodIn_app (goodIn_of _ (by decide +kernel)) ggX8_moor_X8_isShip
set_option maxRecDepth 20000 in
theorem ggX8_moor_X8_isColumn : GoodIn wsX8_moor wsX8_isColumn := goodIn_r _ [13, 1, 7, 8, 5, 9, 28, 29, 30, 31, 32, 33, 34, 35, 36, 37, 38, 39, 40] (by decide +kernel) (by decide +kernel)
set_option maxRecDepth 20000 in
theorem gX8_moor_X8_isColumn : GoodIn wsX8_moor (wsV RX8 133 RX8 yX8_isColumn wsX8_isColumn) := goodIn_app (goodIn_of _ (by decide +kernel)) ggX8_moor_X8_isColumn
set_option maxRecDepth 20000 in
theorem ggX8_moor_X8_in : GoodIn wsX8_moor wsX8_in := goodIn_r _ [9] (by decide +kernel) (by decide +kernel)
set_option maxRecDepth 20000 in
theorem gX8_moor_X8_in : GoodIn wsX8_moor (va_wsS RX8 40 yX8_in wsX8_in) := goodIn_app (goodIn_of _ (by decide +kernel)) ggX8_moor_X8_in
set_option maxRecDepth 20000 in
theorem ggX8_moor_X8_of : GoodIn wsX8_moor wsX8_of := goodIn_r _ [17, 1, 28, 29, 30, 31, 32, 33, 34, 35, 36, 37, 38, 39, 40] (by decide +kernel) (by decide +kernel)
set_option maxRecDepth 20000 in
theorem gX8_moor_X8_of : GoodIn wsX8_moor (wsV RX8 106 RX8 yX8_of wsX8_of) := goodIn_app (goodIn_of _ (by decide +kernel)) ggX8_moor_X8_of
set_option maxRecDepth 20000 in
theorem ggX8_moor_X8_push : GoodIn wsX8_moor wsX8_push := goodIn_r _ [21, 22, 23, 1, 28, 29, 30, 31, 32, 33, 34, 35, 36, 37, 38, 39, 40] (by decide +kernel) (by decide +kernel)
set_option maxRecDepth 20000 in
theorem gX8_moor_X8_push : GoodIn wsX8_moor (wsV RX8 127 RX8 yX8_push wsX8_push) := goodIn_app (goodIn_of _ (by decide +kernel)) ggX8_moor_X8_push
set_option maxRecDepth 20000 in
theorem ggX8_moor_X8_put : GoodIn wsX8_moor wsX8_put := goodIn_r _ [27, 1, 28, 29, 30, 31, 32, 33, 34, 35, 36, 37, 38, 39, 40] (by decide +kernel) (by decide +kernel)
set_option maxRecDepth 20000 in
theorem gX8_moor_X8_put : GoodIn wsX8_moor (wsV RX8 130 RX8 yX8_put wsX8_put) := goodIn_app (goodIn_of _ (by decide +kernel)) ggX8_moor_X8_put
theorem dX8_moor_0 : decode cX8_moor 0 = .ok (.aload_n 0, 1) := by decide +kernel
theorem dX8_moor_1 : decode cX8_moor 1 = .ok (.iload_n 1, 1) := by decide +kernel
theorem dX8_moor_2 : decode cX8_moor 2 = .ok (.invokevirtual 124, 3) := by decide +kernel
theorem dX8_moor_5 : decode cX8_moor 5 = .ok (.ifCond .eq 32, 3) := by decide +kernel
theorem dX8_moor_8 : decode cX8_moor 8 = .ok (.aload_n 0, 1) := by decide +kernel
theorem dX8_moor_9 : decode cX8_moor 9 = .ok (.iload_n 2, 1) := by decide +kernel
theorem dX8_moor_10 : decode cX8_moor 10 = .ok (.invokevirtual 133, 3) := by decide +kernel
theorem dX8_moor_13 : decode cX8_moor 13 = .ok (.ifCond .eq 24, 3) := by decide +kernel
theorem dX8_moor_16 : decode cX8_moor 16 = .ok (.iload_n 3, 1) := by decide +kernel
theorem dX8_moor_17 : decode cX8_moor 17 = .ok (.iconst 0, 1) := by decide +kernel
theorem dX8_moor_18 : decode cX8_moor 18 = .ok (.bipush 19, 2) := by decide +kernel
theorem dX8_moor_20 : decode cX8_moor 20 = .ok (.invokestatic 40, 3) := by decide +kernel
theorem dX8_moor_23 : decode cX8_moor 23 = .ok (.ifCond .eq 14, 3) := by decide +kernel
theorem dX8_moor_26 : decode cX8_moor 26 = .ok (.iload 4, 2) := by decide +kernel
theorem dX8_moor_28 : decode cX8_moor 28 = .ok (.iconst 1, 1) := by decide +kernel
theorem dX8_moor_29 : decode cX8_moor 29 = .ok (.bipush 60, 2) := by decide +kernel
theorem dX8_moor_31 : decode cX8_moor 31 = .ok (.invokestatic 40, 3) := by decide +kernel
theorem dX8_moor_34 : decode cX8_moor 34 = .ok (.ifCond .ne 5, 3) := by decide +kernel
theorem dX8_moor_37 : decode cX8_moor 37 = .ok (.iconst (-1), 1) := by decide +kernel
theorem dX8_moor_38 : decode cX8_moor 38 = .ok (.ireturn, 1) := by decide +kernel
theorem dX8_moor_39 : decode cX8_moor 39 = .ok (.aload_n 0, 1) := by decide +kernel
theorem dX8_moor_40 : decode cX8_moor 40 = .ok (.iload_n 1, 1) := by decide +kernel
theorem dX8_moor_41 : decode cX8_moor 41 = .ok (.bipush 7, 2) := by decide +kernel
theorem dX8_moor_43 : decode cX8_moor 43 = .ok (.invokevirtual 106, 3) := by decide +kernel
theorem dX8_moor_46 : decode cX8_moor 46 = .ok (.iconst 1, 1) := by decide +kernel
theorem dX8_moor_47 : decode cX8_moor 47 = .ok (.if_icmp .eq 14, 3) := by decide +kernel
theorem dX8_moor_50 : decode cX8_moor 50 = .ok (.aload_n 0, 1) := by decide +kernel
theorem dX8_moor_51 : decode cX8_moor 51 = .ok (.iload_n 1, 1) := by decide +kernel
theorem dX8_moor_52 : decode cX8_moor 52 = .ok (.bipush 9, 2) := by decide +kernel
theorem dX8_moor_54 : decode cX8_moor 54 = .ok (.invokevirtual 106, 3) := by decide +kernel
theorem dX8_moor_57 : decode cX8_moor 57 = .ok (.iconst 1, 1) := by decide +kernel
theorem dX8_moor_58 : decode cX8_moor 58 = .ok (.if_icmp .ne 6, 3) := by decide +kernel
theorem dX8_moor_61 : decode cX8_moor 61 = .ok (.bipush (-2), 2) := by decide +kernel
theorem dX8_moor_63 : decode cX8_moor 63 = .ok (.ireturn, 1) := by decide +kernel
theorem dX8_moor_64 : decode cX8_moor 64 = .ok (.aload_n 0, 1) := by decide +kernel
theorem dX8_moor_65 : decode cX8_moor 65 = .ok (.invokevirtual 127, 3) := by decide +kernel
theorem dX8_moor_68 : decode cX8_moor 68 = .ok (.aload_n 0, 1) := by decide +kernel
theorem dX8_moor_69 : decode cX8_moor 69 = .ok (.iload_n 1, 1) := by decide +kernel
theorem dX8_moor_70 : decode cX8_moor 70 = .ok (.bipush 9, 2) := by decide +kernel
theorem dX8_moor_72 : decode cX8_moor 72 = .ok (.iconst 1, 1) := by decide +kernel
theorem dX8_moor_73 : decode cX8_moor 73 = .ok (.invokevirtual 130, 3) := by decide +kernel
theorem dX8_moor_76 : decode cX8_moor 76 = .ok (.aload_n 0, 1) := by decide +kernel
theorem dX8_moor_77 : decode cX8_moor 77 = .ok (.iload_n 1, 1) := by decide +kernel
theorem dX8_moor_78 : decode cX8_moor 78 = .ok (.bipush 10, 2) := by decide +kernel
theorem dX8_moor_80 : decode cX8_moor 80 = .ok (.iload_n 2, 1) := by decide +kernel
theorem dX8_moor_81 : decode cX8_moor 81 = .ok (.invokevirtual 130, 3) := by decide +kernel
theorem dX8_moor_84 : decode cX8_moor 84 = .ok (.aload_n 0, 1) := by decide +kernel
theorem dX8_moor_85 : decode cX8_moor 85 = .ok (.iload_n 1, 1) := by decide +kernel
theorem dX8_moor_86 : decode cX8_moor 86 = .ok (.bipush 11, 2) := by decide +kernel
theorem dX8_moor_88 : decode cX8_moor 88 = .ok (.iload_n 3, 1) := by decide +kernel
theorem dX8_moor_89 : decode cX8_moor 89 = .ok (.invokevirtual 130, 3) := by decide +kernel
theorem dX8_moor_92 : decode cX8_moor 92 = .ok (.aload_n 0, 1) := by decide +kernel
theorem dX8_moor_93 : decode cX8_moor 93 = .ok (.iload_n 1, 1) := by decide +kernel
theorem dX8_moor_94 : decode cX8_moor 94 = .ok (.bipush 12, 2) := by decide +kernel
theorem dX8_moor_96 : decode cX8_moor 96 = .ok (.iload 4, 2) := by decide +kernel
theorem dX8_moor_98 : decode cX8_moor 98 = .ok (.invokevirtual 130, 3) := by decide +kernel
theorem dX8_moor_101 : decode cX8_moor 101 = .ok (.aload_n 0, 1) := by decide +kernel
theorem dX8_moor_102 : decode cX8_moor 102 = .ok (.getfield 7, 3) := by decide +kernel
theorem dX8_moor_105 : decode cX8_moor 105 = .ok (.iconst 3, 1) := by decide +kernel
theorem dX8_moor_106 : decode cX8_moor 106 = .ok (.iload_n 2, 1) := by decide +kernel
theorem dX8_moor_107 : decode cX8_moor 107 = .ok (.iadd, 1) := by decide +kernel
theorem dX8_moor_108 : decode cX8_moor 108 = .ok (.iaload, 1) := by decide +kernel
theorem dX8_moor_109 : decode cX8_moor 109 = .ok (.ireturn, 1) := by decide +kernel
set_option maxRecDepth 20000 in
theorem ggX8_weigh_X8_isShip : GoodIn wsX8_weigh wsX8_isShip := goodIn_r _ [5, 6, 7, 8, 4, 9, 24, 25, 26, 27, 28, 29, 30, 31, 32, 33, 34, 35, 36] (by decide +kernel) (by decide +kernel)
set_option maxRecDepth 20000 in
theorem gX8_weigh_X8_isShip : GoodIn wsX8_weigh (wsV RX8 124 RX8 yX8_isShip wsX8_isShip) := goodIn_app (goodIn_of _ (by decide +kernel)) ggX8_weigh_X8_isShip
set_option maxRecDepth 20000 in
theorem ggX8_weigh_X8_of : GoodIn wsX8_weigh wsX8_of := goodIn_r _ [13, 6, 24, 25, 26, 27, 28, 29, 30, 31, 32, 33, 34, 35, 36] (by decide +kernel) (by decide +kernel)
set_option maxRecDepth 20000 in
theorem gX8_weigh_X8_of : GoodIn wsX8_weigh (wsV RX8 106 RX8 yX8_of wsX8_of) := goodIn_app (goodIn_of _ (by decide +kernel)) ggX8_weigh_X8_of
set_option maxRecDepth 20000 in
theorem ggX8_weigh_X8_push : GoodIn wsX8_weigh wsX8_push := goodIn_r _ [17, 18, 19, 6, 24, 25, 26, 27, 28, 29, 30, 31, 32, 33, 34, 35, 36] (by decide +kernel) (by decide +kernel)
set_option maxRecDepth 20000 in
theorem gX8_weigh_X8_push : GoodIn wsX8_weigh (wsV RX8 127 RX8 yX8_push wsX8_push) := goodIn_app (goodIn_of _ (by decide +kernel)) ggX8_weigh_X8_push
set_option maxRecDepth 20000 in
theorem ggX8_weigh_X8_put : GoodIn wsX8_weigh wsX8_put := goodIn_r _ [23, 6, 24, 25, 26, 27, 28, 29, 30, 31, 32, 33, 34, 35, 36] (by decide +kernel) (by decide +kernel)
set_option maxRecDepth 20000 in
theorem gX8_weigh_X8_put : GoodIn wsX8_weigh (wsV RX8 130 RX8 yX8_put wsX8_put) := goodIn_app (goodIn_of _ (by decide +kernel)) ggX8_weigh_X8_put
theorem dX8_weigh_0 : decode cX8_weigh 0 = .ok (.aload_n 0, 1) := by decide +kernel
theorem dX8_weigh_1 : decode cX8_weigh 1 = .ok (.iload_n 1, 1) := by decide +kernel
theorem dX8_weigh_2 : decode cX8_weigh 2 = .ok (.invokevirtual 124, 3) := by decide +kernel
theorem dX8_weigh_5 : decode cX8_weigh 5 = .ok (.ifCond .ne 5, 3) := by decide +kernel
theorem dX8_weigh_8 : decode cX8_weigh 8 = .ok (.iconst (-1), 1) := by decide +kernel
theorem dX8_weigh_9 : decode cX8_weigh 9 = .ok (.ireturn, 1) := by decide +kernel
theorem dX8_weigh_10 : decode cX8_weigh 10 = .ok (.aload_n 0, 1) := by decide +kernel
theorem dX8_weigh_11 : decode cX8_weigh 11 = .ok (.iload_n 1, 1) := by decide +kernel
theorem dX8_weigh_12 : decode cX8_weigh 12 = .ok (.bipush 7, 2) := by decide +kernel
theorem dX8_weigh_14 : decode cX8_weigh 14 = .ok (.invokevirtual 106, 3) := by decide +kernel
theorem dX8_weigh_17 : decode cX8_weigh 17 = .ok (.iconst 1, 1) := by decide +kernel
theorem dX8_weigh_18 : decode cX8_weigh 18 = .ok (.if_icmp .eq 13, 3) := by decide +kernel
theorem dX8_weigh_21 : decode cX8_weigh 21 = .ok (.aload_n 0, 1) := by decide +kernel
theorem dX8_weigh_22 : decode cX8_weigh 22 = .ok (.iload_n 1, 1) := by decide +kernel
theorem dX8_weigh_23 : decode cX8_weigh 23 = .ok (.bipush 9, 2) := by decide +kernel
theorem dX8_weigh_25 : decode cX8_weigh 25 = .ok (.invokevirtual 106, 3) := by decide +kernel
theorem dX8_weigh_28 : decode cX8_weigh 28 = .ok (.ifCond .ne 6, 3) := by decide +kernel
theorem dX8_weigh_31 : decode cX8_weigh 31 = .ok (.bipush (-2), 2) := by decide +kernel
theorem dX8_weigh_33 : decode cX8_weigh 33 = .ok (.ireturn, 1) := by decide +kernel
theorem dX8_weigh_34 : decode cX8_weigh 34 = .ok (.aload_n 0, 1) := by decide +kernel
theorem dX8_weigh_35 : decode cX8_weigh 35 = .ok (.invokevirtual 127, 3) := by decide +kernel
theorem dX8_weigh_38 : decode cX8_weigh 38 = .ok (.aload_n 0, 1) := by decide +kernel
theorem dX8_weigh_39 : decode cX8_weigh 39 = .ok (.iload_n 1, 1) := by decide +kernel
theorem dX8_weigh_40 : decode cX8_weigh 40 = .ok (.bipush 12, 2) := by decide +kernel
theorem dX8_weigh_42 : decode cX8_weigh 42 = .ok (.invokevirtual 106, 3) := by decide +kernel
theorem dX8_weigh_45 : decode cX8_weigh 45 = .ok (.istore_n 2, 1) := by decide +kernel
theorem dX8_weigh_46 : decode cX8_weigh 46 = .ok (.aload_n 0, 1) := by decide +kernel
theorem dX8_weigh_47 : decode cX8_weigh 47 = .ok (.iload_n 1, 1) := by decide +kernel
theorem dX8_weigh_48 : decode cX8_weigh 48 = .ok (.bipush 9, 2) := by decide +kernel
theorem dX8_weigh_50 : decode cX8_weigh 50 = .ok (.iconst 0, 1) := by decide +kernel
theorem dX8_weigh_51 : decode cX8_weigh 51 = .ok (.invokevirtual 130, 3) := by decide +kernel
theorem dX8_weigh_54 : decode cX8_weigh 54 = .ok (.aload_n 0, 1) := by decide +kernel
theorem dX8_weigh_55 : decode cX8_weigh 55 = .ok (.iload_n 1, 1) := by decide +kernel
theorem dX8_weigh_56 : decode cX8_weigh 56 = .ok (.bipush 10, 2) := by decide +kernel
theorem dX8_weigh_58 : decode cX8_weigh 58 = .ok (.iconst 0, 1) := by decide +kernel
theorem dX8_weigh_59 : decode cX8_weigh 59 = .ok (.invokevirtual 130, 3) := by decide +kernel
theorem dX8_weigh_62 : decode cX8_weigh 62 = .ok (.aload_n 0, 1) := by decide +kernel
theorem dX8_weigh_63 : decode cX8_weigh 63 = .ok (.iload_n 1, 1) := by decide +kernel
theorem dX8_weigh_64 : decode cX8_weigh 64 = .ok (.bipush 11, 2) := by decide +kernel
theorem dX8_weigh_66 : decode cX8_weigh 66 = .ok (.iconst 0, 1) := by decide +kernel
theorem dX8_weigh_67 : decode cX8_weigh 67 = .ok (.invokevirtual 130, 3) := by decide +kernel
theorem dX8_weigh_70 : decode cX8_weigh 70 = .ok (.aload_n 0, 1) := by decide +kernel
theorem dX8_weigh_71 : decode cX8_weigh 71 = .ok (.iload_n 1, 1) := by decide +kernel
theorem dX8_weigh_72 : decode cX8_weigh 72 = .ok (.bipush 12, 2) := by decide +kernel
theorem dX8_weigh_74 : decode cX8_weigh 74 = .ok (.iconst 0, 1) := by decide +kernel
theorem dX8_weigh_75 : decode cX8_weigh 75 = .ok (.invokevirtual 130, 3) := by decide +kernel
theorem dX8_weigh_78 : decode cX8_weigh 78 = .ok (.iload_n 2, 1) := by decide +kernel
theorem dX8_weigh_79 : decode cX8_weigh 79 = .ok (.ireturn, 1) := by decide +kernel
set_option maxRecDepth 20000 in
theorem ggX8_isField_X8_isColumn : GoodIn wsX8_isField wsX8_isColumn := goodIn_r _ [5, 6, 7, 8, 4, 9, 10, 11, 12, 13, 14, 15, 16, 17, 18, 19, 20, 21, 22] (by decide +kernel) (by decide +kernel)
set_option maxRecDepth 20000 in
theorem gX8_isField_X8_isColumn : GoodIn wsX8_isField (wsV RX8 133 RX8 yX8_isColumn wsX8_isColumn) := goodIn_app (goodIn_of _ (by decide +kernel)) ggX8_isField_X8_isColumn
set_option maxRecDepth 20000 in
theorem ggX8_isField_X8_in : GoodIn wsX8_isField wsX8_in := goodIn_r _ [9] (by decide +kernel) (by decide +kernel)
set_option maxRecDepth 20000 in
theorem gX8_isField_X8_in : GoodIn wsX8_isField (va_wsS RX8 40 yX8_in wsX8_in) := goodIn_app (goodIn_of _ (by decide +kernel)) ggX8_isField_X8_in
theorem dX8_isField_0 : decode cX8_isField 0 = .ok (.aload_n 0, 1) := by decide +kernel
theorem dX8_isField_1 : decode cX8_isField 1 = .ok (.iload_n 1, 1) := by decide +kernel
theorem dX8_isField_2 : decode cX8_isField 2 = .ok (.invokevirtual 133, 3) := by decide +kernel
theorem dX8_isField_5 : decode cX8_isField 5 = .ok (.ifCond .eq 17, 3) := by decide +kernel
theorem dX8_isField_8 : decode cX8_isField 8 = .ok (.iload_n 2, 1) := by decide +kernel
theorem dX8_isField_9 : decode cX8_isField 9 = .ok (.iconst 0, 1) := by decide +kernel
theorem dX8_isField_10 : decode cX8_isField 10 = .ok (.bipush 19, 2) := by decide +kernel
theorem dX8_isField_12 : decode cX8_isField 12 = .ok (.invokestatic 40, 3) := by decide +kernel
theorem dX8_isField_15 : decode cX8_isField 15 = .ok (.ifCond .eq 7, 3) := by decide +kernel
theorem dX8_isField_18 : decode cX8_isField 18 = .ok (.iconst 1, 1) := by decide +kernel
theorem dX8_isField_19 : decode cX8_isField 19 = .ok (.goto 4, 3) := by decide +kernel
theorem dX8_isField_22 : decode cX8_isField 22 = .ok (.iconst 0, 1) := by decide +kernel
theorem dX8_isField_23 : decode cX8_isField 23 = .ok (.ireturn, 1) := by decide +kernel
set_option maxRecDepth 20000 in
theorem ggX8_drag_X8_of : GoodIn wsX8_drag wsX8_of := goodIn_r _ [5, 6, 22, 23, 24, 25, 26, 27, 28, 29, 30, 31, 32, 33, 34] (by decide +kernel) (by decide +kernel)
set_option maxRecDepth 20000 in
theorem gX8_drag_X8_of : GoodIn wsX8_drag (wsV RX8 106 RX8 yX8_of wsX8_of) := goodIn_app (goodIn_of _ (by decide +kernel)) ggX8_drag_X8_of
set_option maxRecDepth 20000 in
theorem ggX8_drag_X8_isField : GoodIn wsX8_drag wsX8_isField := goodIn_r _ [10, 11, 12, 13, 4, 14, 6, 15, 16, 17, 22, 23, 24, 25, 26, 27, 28, 29, 30, 31, 32, 33, 34] (by decide +kernel) (by decide +kernel)
set_option maxRecDepth 20000 in
theorem gX8_drag_X8_isField : GoodIn wsX8_drag (wsV RX8 136 RX8 yX8_isField wsX8_isField) := goodIn_app (goodIn_of _ (by decide +kernel)) ggX8_drag_X8_isField
set_option maxRecDepth 20000 in
theorem ggX8_drag_X8_put : GoodIn wsX8_drag wsX8_put := goodIn_r _ [21, 6, 22, 23, 24, 25, 26, 27, 28, 29, 30, 31, 32, 33, 34] (by decide +kernel) (by decide +kernel)
set_option maxRecDepth 20000 in
theorem gX8_drag_X8_put : GoodIn wsX8_drag (wsV RX8 130 RX8 yX8_put wsX8_put) := goodIn_app (goodIn_of _ (by decide +kernel)) ggX8_drag_X8_put
theorem dX8_drag_0 : decode cX8_drag 0 = .ok (.iload_n 2, 1) := by decide +kernel
theorem dX8_drag_1 : decode cX8_drag 1 = .ok (.iconst 1, 1) := by decide +kernel
theorem dX8_drag_2 : decode cX8_drag 2 = .ok (.if_icmp .ne 7, 3) := by decide +kernel
theorem dX8_drag_5 : decode cX8_drag 5 = .ok (.iconst 1, 1) := by decide +kernel
theorem dX8_drag_6 : decode cX8_drag 6 = .ok (.goto 13, 3) := by decide +kernel
theorem dX8_drag_9 : decode cX8_drag 9 = .ok (.iload_n 2, 1) := by decide +kernel
theorem dX8_drag_10 : decode cX8_drag 10 = .ok (.iconst 3, 1) := by decide +kernel
theorem dX8_drag_11 : decode cX8_drag 11 = .ok (.if_icmp .ne 7, 3) := by decide +kernel
theorem dX8_drag_14 : decode cX8_drag 14 = .ok (.iconst (-1), 1) := by decide +kernel
theorem dX8_drag_15 : decode cX8_drag 15 = .ok (.goto 4, 3) := by decide +kernel
theorem dX8_drag_18 : decode cX8_drag 18 = .ok (.iconst 0, 1) := by decide +kernel
theorem dX8_drag_19 : decode cX8_drag 19 = .ok (.istore_n 3, 1) := by decide +kernel
theorem dX8_drag_20 : decode cX8_drag 20 = .ok (.iload_n 2, 1) := by decide +kernel
theorem dX8_drag_21 : decode cX8_drag 21 = .ok (.ifCond .ne 7, 3) := by decide +kernel
theorem dX8_drag_24 : decode cX8_drag 24 = .ok (.iconst (-1), 1) := by decide +kernel
theorem dX8_drag_25 : decode cX8_drag 25 = .ok (.goto 13, 3) := by decide +kernel
theorem dX8_drag_28 : decode cX8_drag 28 = .ok (.iload_n 2, 1) := by decide +kernel
theorem dX8_drag_29 : decode cX8_drag 29 = .ok (.iconst 2, 1) := by decide +kernel
theorem dX8_drag_30 : decode cX8_drag 30 = .ok (.if_icmp .ne 7, 3) := by decide +kernel
theorem dX8_drag_33 : decode cX8_drag 33 = .ok (.iconst 1, 1) := by decide +kernel
theorem dX8_drag_34 : decode cX8_drag 34 = .ok (.goto 4, 3) := by decide +kernel
theorem dX8_drag_37 : decode cX8_drag 37 = .ok (.iconst 0, 1) := by decide +kernel
theorem dX8_drag_38 : decode cX8_drag 38 = .ok (.istore 4, 2) := by decide +kernel
theorem dX8_drag_40 : decode cX8_drag 40 = .ok (.aload_n 0, 1) := by decide +kernel
theorem dX8_drag_41 : decode cX8_drag 41 = .ok (.aload_n 0, 1) := by decide +kernel
theorem dX8_drag_42 : decode cX8_drag 42 = .ok (.iload_n 1, 1) := by decide +kernel
theorem dX8_drag_43 : decode cX8_drag 43 = .ok (.iconst 0, 1) := by decide +kernel
theorem dX8_drag_44 : decode cX8_drag 44 = .ok (.invokevirtual 106, 3) := by decide +kernel
theorem dX8_drag_47 : decode cX8_drag 47 = .ok (.iload_n 3, 1) := by decide +kernel
theorem dX8_drag_48 : decode cX8_drag 48 = .ok (.iadd, 1) := by decide +kernel
theorem dX8_drag_49 : decode cX8_drag 49 = .ok (.aload_n 0, 1) := by decide +kernel
theorem dX8_drag_50 : decode cX8_drag 50 = .ok (.iload_n 1, 1) := by decide +kernel
theorem dX8_drag_51 : decode cX8_drag 51 = .ok (.iconst 1, 1) := by decide +kernel
theorem dX8_drag_52 : decode cX8_drag 52 = .ok (.invokevirtual 106, 3) := by decide +kernel
theorem dX8_drag_55 : decode cX8_drag 55 = .ok (.iload 4, 2) := by decide +kernel
theorem dX8_drag_57 : decode cX8_drag 57 = .ok (.iadd, 1) := by decide +kernel
theorem dX8_drag_58 : decode cX8_drag 58 = .ok (.invokevirtual 136, 3) := by decide +kernel
theorem dX8_drag_61 : decode cX8_drag 61 = .ok (.ifCond .eq 43, 3) := by decide +kernel
theorem dX8_drag_64 : decode cX8_drag 64 = .ok (.aload_n 0, 1) := by decide +kernel
theorem dX8_drag_65 : decode cX8_drag 65 = .ok (.iload_n 1, 1) := by decide +kernel
theorem dX8_drag_66 : decode cX8_drag 66 = .ok (.bipush 9, 2) := by decide +kernel
theorem dX8_drag_68 : decode cX8_drag 68 = .ok (.invokevirtual 106, 3) := by decide +kernel
theorem dX8_drag_71 : decode cX8_drag 71 = .ok (.ifCond .eq 29, 3) := by decide +kernel
theorem dX8_drag_74 : decode cX8_drag 74 = .ok (.aload_n 0, 1) := by decide +kernel
theorem dX8_drag_75 : decode cX8_drag 75 = .ok (.aload_n 0, 1) := by decide +kernel
theorem dX8_drag_76 : decode cX8_drag 76 = .ok (.iload_n 1, 1) := by decide +kernel
theorem dX8_drag_77 : decode cX8_drag 77 = .ok (.bipush 10, 2) := by decide +kernel
theorem dX8_drag_79 : decode cX8_drag 79 = .ok (.invokevirtual 106, 3) := by decide +kernel
theorem dX8_drag_82 : decode cX8_drag 82 = .ok (.iload_n 3, 1) := by decide +kernel
theorem dX8_drag_83 : decode cX8_drag 83 = .ok (.iadd, 1) := by decide +kernel
theorem dX8_drag_84 : decode cX8_drag 84 = .ok (.aload_n 0, 1) := by decide +kernel
theorem dX8_drag_85 : decode cX8_drag 85 = .ok (.iload_n 1, 1) := by decide +kernel
theorem dX8_drag_86 : decode cX8_drag 86 = .ok (.bipush 11, 2) := by decide +kernel
theorem dX8_drag_88 : decode cX8_drag 88 = .ok (.invokevirtual 106, 3) := by decide +kernel
theorem dX8_drag_91 : decode cX8_drag 91 = .ok (.iload 4, 2) := by decide +kernel
theorem dX8_drag_93 : decode cX8_drag 93 = .ok (.iadd, 1) := by decide +kernel
theorem dX8_drag_94 : decode cX8_drag 94 = .ok (.invokevirtual 136, 3) := by decide +kernel
theorem dX8_drag_97 : decode cX8_drag 97 = .ok (.ifCond .eq 7, 3) := by decide +kernel
theorem dX8_drag_100 : decode cX8_drag 100 = .ok (.iconst 1, 1) := by decide +kernel
theorem dX8_drag_101 : decode cX8_drag 101 = .ok (.goto 4, 3) := by decide +kernel
theorem dX8_drag_104 : decode cX8_drag 104 = .ok (.iconst 0, 1) := by decide +kernel
theorem dX8_drag_105 : decode cX8_drag 105 = .ok (.istore 5, 2) := by decide +kernel
theorem dX8_drag_107 : decode cX8_drag 107 = .ok (.iload 5, 2) := by decide +kernel
theorem dX8_drag_109 : decode cX8_drag 109 = .ok (.ifCond .ne 13, 3) := by decide +kernel
theorem dX8_drag_112 : decode cX8_drag 112 = .ok (.aload_n 0, 1) := by decide +kernel
theorem dX8_drag_113 : decode cX8_drag 113 = .ok (.iload_n 1, 1) := by decide +kernel
theorem dX8_drag_114 : decode cX8_drag 114 = .ok (.bipush 7, 2) := by decide +kernel
theorem dX8_drag_116 : decode cX8_drag 116 = .ok (.iconst 1, 1) := by decide +kernel
theorem dX8_drag_117 : decode cX8_drag 117 = .ok (.invokevirtual 130, 3) := by decide +kernel
theorem dX8_drag_120 : decode cX8_drag 120 = .ok (.iconst 1, 1) := by decide +kernel
theorem dX8_drag_121 : decode cX8_drag 121 = .ok (.ireturn, 1) := by decide +kernel
theorem dX8_drag_122 : decode cX8_drag 122 = .ok (.aload_n 0, 1) := by decide +kernel
theorem dX8_drag_123 : decode cX8_drag 123 = .ok (.iload_n 1, 1) := by decide +kernel
theorem dX8_drag_124 : decode cX8_drag 124 = .ok (.iconst 0, 1) := by decide +kernel
theorem dX8_drag_125 : decode cX8_drag 125 = .ok (.aload_n 0, 1) := by decide +kernel
theorem dX8_drag_126 : decode cX8_drag 126 = .ok (.iload_n 1, 1) := by decide +kernel
theorem dX8_drag_127 : decode cX8_drag 127 = .ok (.iconst 0, 1) := by decide +kernel
theorem dX8_drag_128 : decode cX8_drag 128 = .ok (.invokevirtual 106, 3) := by decide +kernel
theorem dX8_drag_131 : decode cX8_drag 131 = .ok (.iload_n 3, 1) := by decide +kernel
theorem dX8_drag_132 : decode cX8_drag 132 = .ok (.iadd, 1) := by decide +kernel
theorem dX8_drag_133 : decode cX8_drag 133 = .ok (.invokevirtual 130, 3) := by decide +kernel
theorem dX8_drag_136 : decode cX8_drag 136 = .ok (.aload_n 0, 1) := by decide +kernel
theorem dX8_drag_137 : decode cX8_drag 137 = .ok (.iload_n 1, 1) := by decide +kernel
theorem dX8_drag_138 : decode cX8_drag 138 = .ok (.iconst 1, 1) := by decide +kernel
theorem dX8_drag_139 : decode cX8_drag 139 = .ok (.aload_n 0, 1) := by decide +kernel
theorem dX8_drag_140 : decode cX8_drag 140 = .ok (.iload_n 1, 1) := by decide +kernel
theorem dX8_drag_141 : decode cX8_drag 141 = .ok (.iconst 1, 1) := by decide +kernel
theorem dX8_drag_142 : decode cX8_drag 142 = .ok (.invokevirtual 106, 3) := by decide +kernel
theorem dX8_drag_145 : decode cX8_drag 145 = .ok (.iload 4, 2) := by decide +kernel
theorem dX8_drag_147 : decode cX8_drag 147 = .ok (.iadd, 1) := by decide +kernel
theorem dX8_drag_148 : decode cX8_drag 148 = .ok (.invokevirtual 130, 3) := by decide +kernel
theorem dX8_drag_151 : decode cX8_drag 151 = .ok (.aload_n 0, 1) := by decide +kernel
theorem dX8_drag_152 : decode cX8_drag 152 = .ok (.iload_n 1, 1) := by decide +kernel
theorem dX8_drag_153 : decode cX8_drag 153 = .ok (.bipush 9, 2) := by decide +kernel
theorem dX8_drag_155 : decode cX8_drag 155 = .ok (.invokevirtual 106, 3) := by decide +kernel
theorem dX8_drag_158 : decode cX8_drag 158 = .ok (.iconst 1, 1) := by decide +kernel
theorem dX8_drag_159 : decode cX8_drag 159 = .ok (.if_icmp .ne 36, 3) := by decide +kernel
theorem dX8_drag_162 : decode cX8_drag 162 = .ok (.aload_n 0, 1) := by decide +kernel
theorem dX8_drag_163 : decode cX8_drag 163 = .ok (.iload_n 1, 1) := by decide +kernel
theorem dX8_drag_164 : decode cX8_drag 164 = .ok (.bipush 10, 2) := by decide +kernel
theorem dX8_drag_166 : decode cX8_drag 166 = .ok (.aload_n 0, 1) := by decide +kernel
theorem dX8_drag_167 : decode cX8_drag 167 = .ok (.iload_n 1, 1) := by decide +kernel
theorem dX8_drag_168 : decode cX8_drag 168 = .ok (.bipush 10, 2) := by decide +kernel
theorem dX8_drag_170 : decode cX8_drag 170 = .ok (.invokevirtual 106, 3) := by decide +kernel
theorem dX8_drag_173 : decode cX8_drag 173 = .ok (.iload_n 3, 1) := by decide +kernel
theorem dX8_drag_174 : decode cX8_drag 174 = .ok (.iadd, 1) := by decide +kernel
theorem dX8_drag_175 : decode cX8_drag 175 = .ok (.invokevirtual 130, 3) := by decide +kernel
theorem dX8_drag_178 : decode cX8_drag 178 = .ok (.aload_n 0, 1) := by decide +kernel
theorem dX8_drag_179 : decode cX8_drag 179 = .ok (.iload_n 1, 1) := by decide +kernel
theorem dX8_drag_180 : decode cX8_drag 180 = .ok (.bipush 11, 2) := by decide +kernel
theorem dX8_drag_182 : decode cX8_drag 182 = .ok (.aload_n 0, 1) := by decide +kernel
theorem dX8_drag_183 : decode cX8_drag 183 = .ok (.iload_n 1, 1) := by decide +kernel
theorem dX8_drag_184 : decode cX8_drag 184 = .ok (.bipush 11, 2) := by decide +kernel
theorem dX8_drag_186 : decode cX8_drag 186 = .ok (.invokevirtual 106, 3) := by decide +kernel
theorem dX8_drag_189 : decode cX8_drag 189 = .ok (.iload 4, 2) := by decide +kernel
theorem dX8_drag_191 : decode cX8_drag 191 = .ok (.iadd, 1) := by decide +kernel
theorem dX8_drag_192 : decode cX8_drag 192 = .ok (.invokevirtual 130, 3) := by decide +kernel
theorem dX8_drag_195 : decode cX8_drag 195 = .ok (.aload_n 0, 1) := by decide +kernel
theorem dX8_drag_196 : decode cX8_drag 196 = .ok (.iload_n 1, 1) := by decide +kernel
theorem dX8_drag_197 : decode cX8_drag 197 = .ok (.bipush 8, 2) := by decide +kernel
theorem dX8_drag_199 : decode cX8_drag 199 = .ok (.aload_n 0, 1) := by decide +kernel
theorem dX8_drag_200 : decode cX8_drag 200 = .ok (.iload_n 1, 1) := by decide +kernel
theorem dX8_drag_201 : decode cX8_drag 201 = .ok (.bipush 8, 2) := by decide +kernel
theorem dX8_drag_203 : decode cX8_drag 203 = .ok (.invokevirtual 106, 3) := by decide +kernel
theorem dX8_drag_206 : decode cX8_drag 206 = .ok (.iconst 1, 1) := by decide +kernel
theorem dX8_drag_207 : decode cX8_drag 207 = .ok (.iadd, 1) := by decide +kernel
theorem dX8_drag_208 : decode cX8_drag 208 = .ok (.invokevirtual 130, 3) := by decide +kernel
theorem dX8_drag_211 : decode cX8_drag 211 = .ok (.iconst 0, 1) := by decide +kernel
theorem dX8_drag_212 : decode cX8_drag 212 = .ok (.ireturn, 1) := by decide +kernel
set_option maxRecDepth 20000 in
theorem ggX8_hours_X8_in : GoodIn wsX8_hours wsX8_in := goodIn_r _ [5] (by decide +kernel) (by decide +kernel)
set_option maxRecDepth 20000 in
theorem gX8_hours_X8_in : GoodIn wsX8_hours (va_wsS RX8 40 yX8_in wsX8_in) := goodIn_app (goodIn_of _ (by decide +kernel)) ggX8_hours_X8_in
set_option maxRecDepth 20000 in
theorem ggX8_hours_X8_isWind : GoodIn wsX8_hours wsX8_isWind := goodIn_r _ [8, 2, 3, 4, 5] (by decide +kernel) (by decide +kernel)
set_option maxRecDepth 20000 in
theorem gX8_hours_X8_isWind : GoodIn wsX8_hours (va_wsS RX8 140 yX8_isWind wsX8_isWind) := goodIn_app (goodIn_of _ (by decide +kernel)) ggX8_hours_X8_isWind
set_option maxRecDepth 20000 in
theorem ggX8_hours_X8_push : GoodIn wsX8_hours wsX8_push := goodIn_r _ [12, 13, 14, 1, 76, 77, 78, 79, 80, 81, 82, 83, 84, 85, 86, 87, 88] (by decide +kernel) (by decide +kernel)
set_option maxRecDepth 20000 in
theorem gX8_hours_X8_push : GoodIn wsX8_hours (wsV RX8 127 RX8 yX8_push wsX8_push) := goodIn_app (goodIn_of _ (by decide +kernel)) ggX8_hours_X8_push
set_option maxRecDepth 20000 in
theorem ggX8_hours_X8_of : GoodIn wsX8_hours wsX8_of := goodIn_r _ [18, 1, 76, 77, 78, 79, 80, 81, 82, 83, 84, 85, 86, 87, 88] (by decide +kernel) (by decide +kernel)
set_option maxRecDepth 20000 in
theorem gX8_hours_X8_of : GoodIn wsX8_hours (wsV RX8 106 RX8 yX8_of wsX8_of) := goodIn_app (goodIn_of _ (by decide +kernel)) ggX8_hours_X8_of
set_option maxRecDepth 20000 in
theorem ggX8_hours_X8_holds : GoodIn wsX8_hours wsX8_holds := goodIn_r _ [22, 23, 24, 25, 4, 26, 15, 16, 17, 18, 1, 27, 28, 29, 30, 31, 32, 33, 34, 35, 36, 37, 38, 39, 40, 41, 42, 43, 44, 45, 46, 47, 48, 49, 50, 51, 52, 53, 54, 55, 56, 57, 58, 59, 76, 77, 78, 79, 80, 81, 82, 83, 84, 85, 86, 87, 88] (by decide +kernel) (by decide +kernel)
set_option maxRecDepth 20000 in
theorem gX8_hours_X8_holds : GoodIn wsX8_hours (wsV RX8 143 RX8 yX8_holds wsX8_holds) := goodIn_app (goodIn_of _ (by decide +kernel)) ggX8_hours_X8_holds
set_option maxRecDepth 20000 in
theorem ggX8_hours_X8_drag : GoodIn wsX8_hours wsX8_drag := goodIn_r _ [63, 15, 16, 17, 4, 18, 1, 64, 65, 66, 67, 68, 69, 70, 71, 2, 3, 5, 72, 73, 74, 75, 76, 77, 78, 79, 80, 81, 82, 83, 84, 85, 86, 87, 88] (by decide +kernel) (by decide +kernel)
set_option maxRecDepth 20000 in
theorem gX8_hours_X8_drag : GoodIn wsX8_hours (wsV RX8 146 RX8 yX8_drag wsX8_drag) := goodIn_app (goodIn_of _ (by decide +kernel)) ggX8_hours_X8_drag
theorem dX8_hours_0 : decode cX8_hours 0 = .ok (.iload_n 1, 1) := by decide +kernel
theorem dX8_hours_1 : decode cX8_hours 1 = .ok (.iconst 1, 1) := by decide +kernel
theorem dX8_hours_2 : decode cX8_hours 2 = .ok (.bipush 24, 2) := by decide +kernel
theorem dX8_hours_4 : decode cX8_hours 4 = .ok (.invokestatic 40, 3) := by decide +kernel
theorem dX8_hours_7 : decode cX8_hours 7 = .ok (.ifCond .eq 19, 3) := by decide +kernel
theorem dX8_hours_10 : decode cX8_hours 10 = .ok (.iload_n 2, 1) := by decide +kernel
theorem dX8_hours_11 : decode cX8_hours 11 = .ok (.invokestatic 140, 3) := by decide +kernel
theorem dX8_hours_14 : decode cX8_hours 14 = .ok (.ifCond .eq 12, 3) := by decide +kernel
theorem dX8_hours_17 : decode cX8_hours 17 = .ok (.iload_n 3, 1) := by decide +kernel
theorem dX8_hours_18 : decode cX8_hours 18 = .ok (.iconst 0, 1) := by decide +kernel
theorem dX8_hours_19 : decode cX8_hours 19 = .ok (.iconst 3, 1) := by decide +kernel
theorem dX8_hours_20 : decode cX8_hours 20 = .ok (.invokestatic 40, 3) := by decide +kernel
theorem dX8_hours_23 : decode cX8_hours 23 = .ok (.ifCond .ne 5, 3) := by decide +kernel
theorem dX8_hours_26 : decode cX8_hours 26 = .ok (.iconst (-1), 1) := by decide +kernel
theorem dX8_hours_27 : decode cX8_hours 27 = .ok (.ireturn, 1) := by decide +kernel
theorem dX8_hours_28 : decode cX8_hours 28 = .ok (.aload_n 0, 1) := by decide +kernel
theorem dX8_hours_29 : decode cX8_hours 29 = .ok (.getfield 7, 3) := by decide +kernel
theorem dX8_hours_32 : decode cX8_hours 32 = .ok (.iconst 2, 1) := by decide +kernel
theorem dX8_hours_33 : decode cX8_hours 33 = .ok (.iaload, 1) := by decide +kernel
theorem dX8_hours_34 : decode cX8_hours 34 = .ok (.iload_n 1, 1) := by decide +kernel
theorem dX8_hours_35 : decode cX8_hours 35 = .ok (.iadd, 1) := by decide +kernel
theorem dX8_hours_36 : decode cX8_hours 36 = .ok (.sipush 999, 3) := by decide +kernel
theorem dX8_hours_39 : decode cX8_hours 39 = .ok (.if_icmp .le 6, 3) := by decide +kernel
theorem dX8_hours_42 : decode cX8_hours 42 = .ok (.bipush (-2), 2) := by decide +kernel
theorem dX8_hours_44 : decode cX8_hours 44 = .ok (.ireturn, 1) := by decide +kernel
theorem dX8_hours_45 : decode cX8_hours 45 = .ok (.aload_n 0, 1) := by decide +kernel
theorem dX8_hours_46 : decode cX8_hours 46 = .ok (.invokevirtual 127, 3) := by decide +kernel
theorem dX8_hours_49 : decode cX8_hours 49 = .ok (.iconst 0, 1) := by decide +kernel
theorem dX8_hours_50 : decode cX8_hours 50 = .ok (.istore 4, 2) := by decide +kernel
theorem dX8_hours_52 : decode cX8_hours 52 = .ok (.iconst 0, 1) := by decide +kernel
theorem dX8_hours_53 : decode cX8_hours 53 = .ok (.istore 5, 2) := by decide +kernel
theorem dX8_hours_55 : decode cX8_hours 55 = .ok (.iload 5, 2) := by decide +kernel
theorem dX8_hours_57 : decode cX8_hours 57 = .ok (.iload_n 1, 1) := by decide +kernel
theorem dX8_hours_58 : decode cX8_hours 58 = .ok (.if_icmp .ge 76, 3) := by decide +kernel
theorem dX8_hours_61 : decode cX8_hours 61 = .ok (.iconst 0, 1) := by decide +kernel
theorem dX8_hours_62 : decode cX8_hours 62 = .ok (.istore 6, 2) := by decide +kernel
theorem dX8_hours_64 : decode cX8_hours 64 = .ok (.iload 6, 2) := by decide +kernel
theorem dX8_hours_66 : decode cX8_hours 66 = .ok (.aload_n 0, 1) := by decide +kernel
theorem dX8_hours_67 : decode cX8_hours 67 = .ok (.getfield 7, 3) := by decide +kernel
theorem dX8_hours_70 : decode cX8_hours 70 = .ok (.iconst 1, 1) := by decide +kernel
theorem dX8_hours_71 : decode cX8_hours 71 = .ok (.iaload, 1) := by decide +kernel
theorem dX8_hours_72 : decode cX8_hours 72 = .ok (.if_icmp .ge 46, 3) := by decide +kernel
theorem dX8_hours_75 : decode cX8_hours 75 = .ok (.iload 4, 2) := by decide +kernel
theorem dX8_hours_77 : decode cX8_hours 77 = .ok (.aload_n 0, 1) := by decide +kernel
theorem dX8_hours_78 : decode cX8_hours 78 = .ok (.iload 6, 2) := by decide +kernel
theorem dX8_hours_80 : decode cX8_hours 80 = .ok (.bipush 7, 2) := by decide +kernel
theorem dX8_hours_82 : decode cX8_hours 82 = .ok (.invokevirtual 106, 3) := by decide +kernel
theorem dX8_hours_85 : decode cX8_hours 85 = .ok (.ifCond .ne 23, 3) := by decide +kernel
theorem dX8_hours_88 : decode cX8_hours 88 = .ok (.aload_n 0, 1) := by decide +kernel
theorem dX8_hours_89 : decode cX8_hours 89 = .ok (.iload 6, 2) := by decide +kernel
theorem dX8_hours_91 : decode cX8_hours 91 = .ok (.iload_n 2, 1) := by decide +kernel
theorem dX8_hours_92 : decode cX8_hours 92 = .ok (.invokevirtual 143, 3) := by decide +kernel
theorem dX8_hours_95 : decode cX8_hours 95 = .ok (.ifCond .ne 13, 3) := by decide +kernel
theorem dX8_hours_98 : decode cX8_hours 98 = .ok (.aload_n 0, 1) := by decide +kernel
theorem dX8_hours_99 : decode cX8_hours 99 = .ok (.iload 6, 2) := by decide +kernel
theorem dX8_hours_101 : decode cX8_hours 101 = .ok (.iload_n 3, 1) := by decide +kernel
theorem dX8_hours_102 : decode cX8_hours 102 = .ok (.invokevirtual 146, 3) := by decide +kernel
theorem dX8_hours_105 : decode cX8_hours 105 = .ok (.goto 4, 3) := by decide +kernel
theorem dX8_hours_108 : decode cX8_hours 108 = .ok (.iconst 0, 1) := by decide +kernel
theorem dX8_hours_109 : decode cX8_hours 109 = .ok (.iadd, 1) := by decide +kernel
theorem dX8_hours_110 : decode cX8_hours 110 = .ok (.istore 4, 2) := by decide +kernel
theorem dX8_hours_112 : decode cX8_hours 112 = .ok (.iinc 6 1, 3) := by decide +kernel
theorem dX8_hours_115 : decode cX8_hours 115 = .ok (.goto (-51), 3) := by decide +kernel
theorem dX8_hours_118 : decode cX8_hours 118 = .ok (.aload_n 0, 1) := by decide +kernel
theorem dX8_hours_119 : decode cX8_hours 119 = .ok (.getfield 7, 3) := by decide +kernel
theorem dX8_hours_122 : decode cX8_hours 122 = .ok (.iconst 2, 1) := by decide +kernel
theorem dX8_hours_123 : decode cX8_hours 123 = .ok (.dup2, 1) := by decide +kernel
theorem dX8_hours_124 : decode cX8_hours 124 = .ok (.iaload, 1) := by decide +kernel
theorem dX8_hours_125 : decode cX8_hours 125 = .ok (.iconst 1, 1) := by decide +kernel
theorem dX8_hours_126 : decode cX8_hours 126 = .ok (.iadd, 1) := by decide +kernel
theorem dX8_hours_127 : decode cX8_hours 127 = .ok (.iastore, 1) := by decide +kernel
theorem dX8_hours_128 : decode cX8_hours 128 = .ok (.iinc 5 1, 3) := by decide +kernel
theorem dX8_hours_131 : decode cX8_hours 131 = .ok (.goto (-76), 3) := by decide +kernel
theorem dX8_hours_134 : decode cX8_hours 134 = .ok (.iload 4, 2) := by decide +kernel
theorem dX8_hours_136 : decode cX8_hours 136 = .ok (.ireturn, 1) := by decide +kernel
set_option maxRecDepth 20000 in
theorem ggX8_anchor_X8_isShip : GoodIn wsX8_anchor wsX8_isShip := goodIn_r _ [5, 6, 7, 8, 4, 9, 14, 15, 16, 17, 18, 19, 20, 21, 22, 23, 24, 25, 26] (by decide +kernel) (by decide +kernel)
set_option maxRecDepth 20000 in
theorem gX8_anchor_X8_isShip : GoodIn wsX8_anchor (wsV RX8 124 RX8 yX8_isShip wsX8_isShip) := goodIn_app (goodIn_of _ (by decide +kernel)) ggX8_anchor_X8_isShip
set_option maxRecDepth 20000 in
theorem ggX8_anchor_X8_in : GoodIn wsX8_anchor wsX8_in := goodIn_r _ [9] (by decide +kernel) (by decide +kernel)
set_option maxRecDepth 20000 in
theorem gX8_anchor_X8_in : GoodIn wsX8_anchor (va_wsS RX8 40 yX8_in wsX8_in) := goodIn_app (goodIn_of _ (by decide +kernel)) ggX8_anchor_X8_in
set_option maxRecDepth 20000 in
theorem ggX8_anchor_X8_of : GoodIn wsX8_anchor wsX8_of := goodIn_r _ [13, 6, 14, 15, 16, 17, 18, 19, 20, 21, 22, 23, 24, 25, 26] (by decide +kernel) (by decide +kernel)
set_option maxRecDepth 20000 in
theorem gX8_anchor_X8_of : GoodIn wsX8_anchor (wsV RX8 106 RX8 yX8_of wsX8_of) := goodIn_app (goodIn_of _ (by decide +kernel)) ggX8_anchor_X8_of
theorem dX8_anchor_0 : decode cX8_anchor 0 = .ok (.aload_n 0, 1) := by decide +kernel
theorem dX8_anchor_1 : decode cX8_anchor 1 = .ok (.iload_n 1, 1) := by decide +kernel
theorem dX8_anchor_2 : decode cX8_anchor 2 = .ok (.invokevirtual 124, 3) := by decide +kernel
theorem dX8_anchor_5 : decode cX8_anchor 5 = .ok (.ifCond .eq 21, 3) := by decide +kernel
theorem dX8_anchor_8 : decode cX8_anchor 8 = .ok (.iload_n 2, 1) := by decide +kernel
theorem dX8_anchor_9 : decode cX8_anchor 9 = .ok (.iconst 0, 1) := by decide +kernel
theorem dX8_anchor_10 : decode cX8_anchor 10 = .ok (.iconst 1, 1) := by decide +kernel
theorem dX8_anchor_11 : decode cX8_anchor 11 = .ok (.invokestatic 40, 3) := by decide +kernel
theorem dX8_anchor_14 : decode cX8_anchor 14 = .ok (.ifCond .eq 12, 3) := by decide +kernel
theorem dX8_anchor_17 : decode cX8_anchor 17 = .ok (.iload_n 3, 1) := by decide +kernel
theorem dX8_anchor_18 : decode cX8_anchor 18 = .ok (.iconst 0, 1) := by decide +kernel
theorem dX8_anchor_19 : decode cX8_anchor 19 = .ok (.iconst 2, 1) := by decide +kernel
theorem dX8_anchor_20 : decode cX8_anchor 20 = .ok (.invokestatic 40, 3) := by decide +kernel
theorem dX8_anchor_23 : decode cX8_anchor 23 = .ok (.ifCond .ne 5, 3) := by decide +kernel
theorem dX8_anchor_26 : decode cX8_anchor 26 = .ok (.iconst (-1), 1) := by decide +kernel
theorem dX8_anchor_27 : decode cX8_anchor 27 = .ok (.ireturn, 1) := by decide +kernel
theorem dX8_anchor_28 : decode cX8_anchor 28 = .ok (.iload_n 2, 1) := by decide +kernel
theorem dX8_anchor_29 : decode cX8_anchor 29 = .ok (.ifCond .ne 12, 3) := by decide +kernel
theorem dX8_anchor_32 : decode cX8_anchor 32 = .ok (.aload_n 0, 1) := by decide +kernel
theorem dX8_anchor_33 : decode cX8_anchor 33 = .ok (.iload_n 1, 1) := by decide +kernel
theorem dX8_anchor_34 : decode cX8_anchor 34 = .ok (.iload_n 3, 1) := by decide +kernel
theorem dX8_anchor_35 : decode cX8_anchor 35 = .ok (.invokevirtual 106, 3) := by decide +kernel
theorem dX8_anchor_38 : decode cX8_anchor 38 = .ok (.goto 27, 3) := by decide +kernel
theorem dX8_anchor_41 : decode cX8_anchor 41 = .ok (.aload_n 0, 1) := by decide +kernel
theorem dX8_anchor_42 : decode cX8_anchor 42 = .ok (.iload_n 1, 1) := by decide +kernel
theorem dX8_anchor_43 : decode cX8_anchor 43 = .ok (.bipush 9, 2) := by decide +kernel
theorem dX8_anchor_45 : decode cX8_anchor 45 = .ok (.invokevirtual 106, 3) := by decide +kernel
theorem dX8_anchor_48 : decode cX8_anchor 48 = .ok (.ifCond .ne 8, 3) := by decide +kernel
theorem dX8_anchor_51 : decode cX8_anchor 51 = .ok (.bipush (-4), 2) := by decide +kernel
theorem dX8_anchor_53 : decode cX8_anchor 53 = .ok (.goto 12, 3) := by decide +kernel
theorem dX8_anchor_56 : decode cX8_anchor 56 = .ok (.aload_n 0, 1) := by decide +kernel
theorem dX8_anchor_57 : decode cX8_anchor 57 = .ok (.iload_n 1, 1) := by decide +kernel
theorem dX8_anchor_58 : decode cX8_anchor 58 = .ok (.bipush 10, 2) := by decide +kernel
theorem dX8_anchor_60 : decode cX8_anchor 60 = .ok (.iload_n 3, 1) := by decide +kernel
theorem dX8_anchor_61 : decode cX8_anchor 61 = .ok (.iadd, 1) := by decide +kernel
theorem dX8_anchor_62 : decode cX8_anchor 62 = .ok (.invokevirtual 106, 3) := by decide +kernel
theorem dX8_anchor_65 : decode cX8_anchor 65 = .ok (.ireturn, 1) := by decide +kernel
set_option maxRecDepth 20000 in
theorem ggX8_ship_X8_isShip : GoodIn wsX8_ship wsX8_isShip := goodIn_r _ [5, 6, 7, 8, 4, 9, 14, 15, 16, 17, 18, 19, 20, 21, 22, 23, 24, 25, 26] (by decide +kernel) (by decide +kernel)
set_option maxRecDepth 20000 in
theorem gX8_ship_X8_isShip : GoodIn wsX8_ship (wsV RX8 124 RX8 yX8_isShip wsX8_isShip) := goodIn_app (goodIn_of _ (by decide +kernel)) ggX8_ship_X8_isShip
set_option maxRecDepth 20000 in
theorem ggX8_ship_X8_in : GoodIn wsX8_ship wsX8_in := goodIn_r _ [9] (by decide +kernel) (by decide +kernel)
set_option maxRecDepth 20000 in
theorem gX8_ship_X8_in : GoodIn wsX8_ship (va_wsS RX8 40 yX8_in wsX8_in) := goodIn_app (goodIn_of _ (by decide +kernel)) ggX8_ship_X8_in
set_option maxRecDepth 20000 in
theorem ggX8_ship_X8_of : GoodIn wsX8_ship wsX8_of := goodIn_r _ [13, 6, 14, 15, 16, 17, 18, 19, 20, 21, 22, 23, 24, 25, 26] (by decide +kernel) (by decide +kernel)
set_option maxRecDepth 20000 in
theorem gX8_ship_X8_of : GoodIn wsX8_ship (wsV RX8 106 RX8 yX8_of wsX8_of) := goodIn_app (goodIn_of _ (by decide +kernel)) ggX8_ship_X8_of
theorem dX8_ship_0 : decode cX8_ship 0 = .ok (.aload_n 0, 1) := by decide +kernel
theorem dX8_ship_1 : decode cX8_ship 1 = .ok (.iload_n 1, 1) := by decide +kernel
theorem dX8_ship_2 : decode cX8_ship 2 = .ok (.invokevirtual 124, 3) := by decide +kernel
theorem dX8_ship_5 : decode cX8_ship 5 = .ok (.ifCond .eq 23, 3) := by decide +kernel
theorem dX8_ship_8 : decode cX8_ship 8 = .ok (.iload_n 2, 1) := by decide +kernel
theorem dX8_ship_9 : decode cX8_ship 9 = .ok (.iconst 0, 1) := by decide +kernel
theorem dX8_ship_10 : decode cX8_ship 10 = .ok (.iconst 5, 1) := by decide +kernel
theorem dX8_ship_11 : decode cX8_ship 11 = .ok (.invokestatic 40, 3) := by decide +kernel
theorem dX8_ship_14 : decode cX8_ship 14 = .ok (.ifCond .eq 14, 3) := by decide +kernel
theorem dX8_ship_17 : decode cX8_ship 17 = .ok (.aload_n 0, 1) := by decide +kernel
theorem dX8_ship_18 : decode cX8_ship 18 = .ok (.iload_n 1, 1) := by decide +kernel
theorem dX8_ship_19 : decode cX8_ship 19 = .ok (.iconst 3, 1) := by decide +kernel
theorem dX8_ship_20 : decode cX8_ship 20 = .ok (.iload_n 2, 1) := by decide +kernel
theorem dX8_ship_21 : decode cX8_ship 21 = .ok (.iadd, 1) := by decide +kernel
theorem dX8_ship_22 : decode cX8_ship 22 = .ok (.invokevirtual 106, 3) := by decide +kernel
theorem dX8_ship_25 : decode cX8_ship 25 = .ok (.goto 4, 3) := by decide +kernel
theorem dX8_ship_28 : decode cX8_ship 28 = .ok (.iconst (-1), 1) := by decide +kernel
theorem dX8_ship_29 : decode cX8_ship 29 = .ok (.ireturn, 1) := by decide +kernel
set_option maxRecDepth 20000 in
theorem ggX8_hangs_X8_isShip : GoodIn wsX8_hangs wsX8_isShip := goodIn_r _ [10, 11, 12, 13, 9, 14, 43, 44, 45, 46, 47, 48, 49, 50, 51, 52, 53, 54, 55] (by decide +kernel) (by decide +kernel)
set_option maxRecDepth 20000 in
theorem gX8_hangs_X8_isShip : GoodIn wsX8_hangs (wsV RX8 124 RX8 yX8_isShip wsX8_isShip) := goodIn_app (goodIn_of _ (by decide +kernel)) ggX8_hangs_X8_isShip
set_option maxRecDepth 20000 in
theorem ggX8_hangs_X8_in : GoodIn wsX8_hangs wsX8_in := goodIn_r _ [14] (by decide +kernel) (by decide +kernel)
set_option maxRecDepth 20000 in
theorem gX8_hangs_X8_in : GoodIn wsX8_hangs (va_wsS RX8 40 yX8_in wsX8_in) := goodIn_app (goodIn_of _ (by decide +kernel)) ggX8_hangs_X8_in
set_option maxRecDepth 20000 in
theorem ggX8_hangs_X8_of : GoodIn wsX8_hangs wsX8_of := goodIn_r _ [18, 11, 43, 44, 45, 46, 47, 48, 49, 50, 51, 52, 53, 54, 55] (by decide +kernel) (by decide +kernel)
set_option maxRecDepth 20000 in
theorem gX8_hangs_X8_of : GoodIn wsX8_hangs (wsV RX8 106 RX8 yX8_of wsX8_of) := goodIn_app (goodIn_of _ (by decide +kernel)) ggX8_hangs_X8_of
set_option maxRecDepth 20000 in
theorem ggX8_hangs_X8_chainOf : GoodIn wsX8_hangs wsX8_chainOf := goodIn_r _ [22, 15, 16, 17, 9, 18, 11, 23, 24, 25, 26, 1, 2, 4, 5, 3, 27, 28, 29, 30, 31, 32, 33, 34, 35, 36, 37, 38, 43, 44, 45, 46, 47, 48, 49, 50, 51, 52, 53, 54, 55] (by decide +kernel) (by decide +kernel)
set_option maxRecDepth 20000 in
theorem gX8_hangs_X8_chainOf : GoodIn wsX8_hangs (wsV RX8 112 RX8 yX8_chainOf wsX8_chainOf) := goodIn_app (goodIn_of _ (by decide +kernel)) ggX8_hangs_X8_chainOf
set_option maxRecDepth 20000 in
theorem ggX8_hangs_X8_holding : GoodIn wsX8_hangs wsX8_holding := goodIn_r _ [42, 4, 5, 43, 44, 45, 46, 47, 48, 49, 50, 51, 52, 53, 54, 55] (by decide +kernel) (by decide +kernel)
set_option maxRecDepth 20000 in
theorem gX8_hangs_X8_holding : GoodIn wsX8_hangs (wsV RX8 115 RX8 yX8_holding wsX8_holding) := goodIn_app (goodIn_of _ (by decide +kernel)) ggX8_hangs_X8_holding
theorem dX8_hangs_0 : decode cX8_hangs 0 = .ok (.aload_n 0, 1) := by decide +kernel
theorem dX8_hangs_1 : decode cX8_hangs 1 = .ok (.iload_n 1, 1) := by decide +kernel
theorem dX8_hangs_2 : decode cX8_hangs 2 = .ok (.invokevirtual 124, 3) := by decide +kernel
theorem dX8_hangs_5 : decode cX8_hangs 5 = .ok (.ifCond .eq 33, 3) := by decide +kernel
theorem dX8_hangs_8 : decode cX8_hangs 8 = .ok (.iload_n 2, 1) := by decide +kernel
theorem dX8_hangs_9 : decode cX8_hangs 9 = .ok (.iconst 0, 1) := by decide +kernel
theorem dX8_hangs_10 : decode cX8_hangs 10 = .ok (.iconst 1, 1) := by decide +kernel
theorem dX8_hangs_11 : decode cX8_hangs 11 = .ok (.invokestatic 40, 3) := by decide +kernel
theorem dX8_hangs_14 : decode cX8_hangs 14 = .ok (.ifCond .eq 24, 3) := by decide +kernel
theorem dX8_hangs_17 : decode cX8_hangs 17 = .ok (.iload_n 3, 1) := by decide +kernel
theorem dX8_hangs_18 : decode cX8_hangs 18 = .ok (.iconst 0, 1) := by decide +kernel
theorem dX8_hangs_19 : decode cX8_hangs 19 = .ok (.sipush 9999, 3) := by decide +kernel
theorem dX8_hangs_22 : decode cX8_hangs 22 = .ok (.invokestatic 40, 3) := by decide +kernel
theorem dX8_hangs_25 : decode cX8_hangs 25 = .ok (.ifCond .eq 13, 3) := by decide +kernel
theorem dX8_hangs_28 : decode cX8_hangs 28 = .ok (.iload 4, 2) := by decide +kernel
theorem dX8_hangs_30 : decode cX8_hangs 30 = .ok (.iconst 0, 1) := by decide +kernel
theorem dX8_hangs_31 : decode cX8_hangs 31 = .ok (.iconst 5, 1) := by decide +kernel
theorem dX8_hangs_32 : decode cX8_hangs 32 = .ok (.invokestatic 40, 3) := by decide +kernel
theorem dX8_hangs_35 : decode cX8_hangs 35 = .ok (.ifCond .ne 5, 3) := by decide +kernel
theorem dX8_hangs_38 : decode cX8_hangs 38 = .ok (.iconst (-1), 1) := by decide +kernel
theorem dX8_hangs_39 : decode cX8_hangs 39 = .ok (.ireturn, 1) := by decide +kernel
theorem dX8_hangs_40 : decode cX8_hangs 40 = .ok (.aload_n 0, 1) := by decide +kernel
theorem dX8_hangs_41 : decode cX8_hangs 41 = .ok (.iload_n 1, 1) := by decide +kernel
theorem dX8_hangs_42 : decode cX8_hangs 42 = .ok (.bipush 7, 2) := by decide +kernel
theorem dX8_hangs_44 : decode cX8_hangs 44 = .ok (.invokevirtual 106, 3) := by decide +kernel
theorem dX8_hangs_47 : decode cX8_hangs 47 = .ok (.iconst 1, 1) := by decide +kernel
theorem dX8_hangs_48 : decode cX8_hangs 48 = .ok (.if_icmp .ne 6, 3) := by decide +kernel
theorem dX8_hangs_51 : decode cX8_hangs 51 = .ok (.bipush (-2), 2) := by decide +kernel
theorem dX8_hangs_53 : decode cX8_hangs 53 = .ok (.ireturn, 1) := by decide +kernel
theorem dX8_hangs_54 : decode cX8_hangs 54 = .ok (.iload_n 2, 1) := by decide +kernel
theorem dX8_hangs_55 : decode cX8_hangs 55 = .ok (.iconst 1, 1) := by decide +kernel
theorem dX8_hangs_56 : decode cX8_hangs 56 = .ok (.if_icmp .ne 16, 3) := by decide +kernel
theorem dX8_hangs_59 : decode cX8_hangs 59 = .ok (.aload_n 0, 1) := by decide +kernel
theorem dX8_hangs_60 : decode cX8_hangs 60 = .ok (.iload_n 1, 1) := by decide +kernel
theorem dX8_hangs_61 : decode cX8_hangs 61 = .ok (.bipush 9, 2) := by decide +kernel
theorem dX8_hangs_63 : decode cX8_hangs 63 = .ok (.invokevirtual 106, 3) := by decide +kernel
theorem dX8_hangs_66 : decode cX8_hangs 66 = .ok (.ifCond .ne 6, 3) := by decide +kernel
theorem dX8_hangs_69 : decode cX8_hangs 69 = .ok (.bipush (-4), 2) := by decide +kernel
theorem dX8_hangs_71 : decode cX8_hangs 71 = .ok (.ireturn, 1) := by decide +kernel
theorem dX8_hangs_72 : decode cX8_hangs 72 = .ok (.aload_n 0, 1) := by decide +kernel
theorem dX8_hangs_73 : decode cX8_hangs 73 = .ok (.iload_n 1, 1) := by decide +kernel
theorem dX8_hangs_74 : decode cX8_hangs 74 = .ok (.iload_n 2, 1) := by decide +kernel
theorem dX8_hangs_75 : decode cX8_hangs 75 = .ok (.iload_n 3, 1) := by decide +kernel
theorem dX8_hangs_76 : decode cX8_hangs 76 = .ok (.invokevirtual 112, 3) := by decide +kernel
theorem dX8_hangs_79 : decode cX8_hangs 79 = .ok (.iload 4, 2) := by decide +kernel
theorem dX8_hangs_81 : decode cX8_hangs 81 = .ok (.tableswitch 67 0 4 #[35, 40, 45, 50, 55], 35) := by decide +kernel
theorem dX8_hangs_116 : decode cX8_hangs 116 = .ok (.aload_n 0, 1) := by decide +kernel
theorem dX8_hangs_117 : decode cX8_hangs 117 = .ok (.getfield 83, 3) := by decide +kernel
theorem dX8_hangs_120 : decode cX8_hangs 120 = .ok (.ireturn, 1) := by decide +kernel
theorem dX8_hangs_121 : decode cX8_hangs 121 = .ok (.aload_n 0, 1) := by decide +kernel
theorem dX8_hangs_122 : decode cX8_hangs 122 = .ok (.getfield 86, 3) := by decide +kernel
theorem dX8_hangs_125 : decode cX8_hangs 125 = .ok (.ireturn, 1) := by decide +kernel
theorem dX8_hangs_126 : decode cX8_hangs 126 = .ok (.aload_n 0, 1) := by decide +kernel
theorem dX8_hangs_127 : decode cX8_hangs 127 = .ok (.getfield 100, 3) := by decide +kernel
theorem dX8_hangs_130 : decode cX8_hangs 130 = .ok (.ireturn, 1) := by decide +kernel
theorem dX8_hangs_131 : decode cX8_hangs 131 = .ok (.aload_n 0, 1) := by decide +kernel
theorem dX8_hangs_132 : decode cX8_hangs 132 = .ok (.getfield 89, 3) := by decide +kernel
theorem dX8_hangs_135 : decode cX8_hangs 135 = .ok (.ireturn, 1) := by decide +kernel
theorem dX8_hangs_136 : decode cX8_hangs 136 = .ok (.aload_n 0, 1) := by decide +kernel
theorem dX8_hangs_137 : decode cX8_hangs 137 = .ok (.aload_n 0, 1) := by decide +kernel
theorem dX8_hangs_138 : decode cX8_hangs 138 = .ok (.iload_n 1, 1) := by decide +kernel
theorem dX8_hangs_139 : decode cX8_hangs 139 = .ok (.bipush 6, 2) := by decide +kernel
theorem dX8_hangs_141 : decode cX8_hangs 141 = .ok (.invokevirtual 106, 3) := by decide +kernel
theorem dX8_hangs_144 : decode cX8_hangs 144 = .ok (.invokevirtual 115, 3) := by decide +kernel
theorem dX8_hangs_147 : decode cX8_hangs 147 = .ok (.ireturn, 1) := by decide +kernel
theorem dX8_hangs_148 : decode cX8_hangs 148 = .ok (.aload_n 0, 1) := by decide +kernel
theorem dX8_hangs_149 : decode cX8_hangs 149 = .ok (.getfield 92, 3) := by decide +kernel
theorem dX8_hangs_152 : decode cX8_hangs 152 = .ok (.ifCond .eq 7, 3) := by decide +kernel
theorem dX8_hangs_155 : decode cX8_hangs 155 = .ok (.iconst 1, 1) := by decide +kernel
theorem dX8_hangs_156 : decode cX8_hangs 156 = .ok (.goto 4, 3) := by decide +kernel
theorem dX8_hangs_159 : decode cX8_hangs 159 = .ok (.iconst 0, 1) := by decide +kernel
theorem dX8_hangs_160 : decode cX8_hangs 160 = .ok (.ireturn, 1) := by decide +kernel
set_option maxRecDepth 20000 in
theorem ggX8_wind_X8_isShip : GoodIn wsX8_wind wsX8_isShip := goodIn_r _ [5, 6, 7, 8, 4, 9, 62, 63, 64, 65, 66, 67, 68, 69, 70, 71, 72, 73, 74] (by decide +kernel) (by decide +kernel)
set_option maxRecDepth 20000 in
theorem gX8_wind_X8_isShip : GoodIn wsX8_wind (wsV RX8 124 RX8 yX8_isShip wsX8_isShip) := goodIn_app (goodIn_of _ (by decide +kernel)) ggX8_wind_X8_isShip
set_option maxRecDepth 20000 in
theorem ggX8_wind_X8_isWind : GoodIn wsX8_wind wsX8_isWind := goodIn_r _ [12, 7, 8, 4, 9] (by decide +kernel) (by decide +kernel)
set_option maxRecDepth 20000 in
theorem gX8_wind_X8_isWind : GoodIn wsX8_wind (va_wsS RX8 140 yX8_isWind wsX8_isWind) := goodIn_app (goodIn_of _ (by decide +kernel)) ggX8_wind_X8_isWind
set_option maxRecDepth 20000 in
theorem ggX8_wind_X8_in : GoodIn wsX8_wind wsX8_in := goodIn_r _ [9] (by decide +kernel) (by decide +kernel)
set_option maxRecDepth 20000 in
theorem gX8_wind_X8_in : GoodIn wsX8_wind (va_wsS RX8 40 yX8_in wsX8_in) := goodIn_app (goodIn_of _ (by decide +kernel)) ggX8_wind_X8_in
set_option maxRecDepth 20000 in
theorem ggX8_wind_X8_of : GoodIn wsX8_wind wsX8_of := goodIn_r _ [16, 6, 62, 63, 64, 65, 66, 67, 68, 69, 70, 71, 72, 73, 74] (by decide +kernel) (by decide +kernel)
set_option maxRecDepth 20000 in
theorem gX8_wind_X8_of : GoodIn wsX8_wind (wsV RX8 106 RX8 yX8_of wsX8_of) := goodIn_app (goodIn_of _ (by decide +kernel)) ggX8_wind_X8_of
set_option maxRecDepth 20000 in
theorem ggX8_wind_X8_pull : GoodIn wsX8_wind wsX8_pull := goodIn_r _ [20, 13, 14, 15, 4, 16, 6, 62, 63, 64, 65, 66, 67, 68, 69, 70, 71, 72, 73, 74] (by decide +kernel) (by decide +kernel)
set_option maxRecDepth 20000 in
theorem gX8_wind_X8_pull : GoodIn wsX8_wind (wsV RX8 118 RX8 yX8_pull wsX8_pull) := goodIn_app (goodIn_of _ (by decide +kernel)) ggX8_wind_X8_pull
set_option maxRecDepth 20000 in
theorem ggX8_wind_X8_holds : GoodIn wsX8_wind wsX8_holds := goodIn_r _ [24, 17, 18, 19, 4, 20, 13, 14, 15, 16, 6, 25, 26, 27, 28, 29, 30, 31, 32, 33, 34, 35, 36, 37, 38, 39, 40, 41, 42, 43, 44, 45, 46, 47, 48, 49, 50, 51, 52, 53, 54, 55, 56, 57, 62, 63, 64, 65, 66, 67, 68, 69, 70, 71, 72, 73, 74] (by decide +kernel) (by decide +kernel)
set_option maxRecDepth 20000 in
theorem gX8_wind_X8_holds : GoodIn wsX8_wind (wsV RX8 143 RX8 yX8_holds wsX8_holds) := goodIn_app (goodIn_of _ (by decide +kernel)) ggX8_wind_X8_holds
set_option maxRecDepth 20000 in
theorem ggX8_wind_X8_swing : GoodIn wsX8_wind wsX8_swing := goodIn_r _ [61, 41, 17, 18, 19, 4, 20, 13, 14, 15, 16, 6, 29, 30, 31, 32, 33, 34, 35, 36, 37, 38, 39, 40, 42, 43, 44, 45, 46, 47, 48, 49, 50, 51, 52, 53, 62, 63, 64, 65, 66, 67, 68, 69, 70, 71, 72, 73, 74] (by decide +kernel) (by decide +kernel)
set_option maxRecDepth 20000 in
theorem gX8_wind_X8_swing : GoodIn wsX8_wind (wsV RX8 149 RX8 yX8_swing wsX8_swing) := goodIn_app (goodIn_of _ (by decide +kernel)) ggX8_wind_X8_swing
theorem dX8_wind_0 : decode cX8_wind 0 = .ok (.aload_n 0, 1) := by decide +kernel
theorem dX8_wind_1 : decode cX8_wind 1 = .ok (.iload_n 1, 1) := by decide +kernel
theorem dX8_wind_2 : decode cX8_wind 2 = .ok (.invokevirtual 124, 3) := by decide +kernel
theorem dX8_wind_5 : decode cX8_wind 5 = .ok (.ifCond .eq 19, 3) := by decide +kernel
theorem dX8_wind_8 : decode cX8_wind 8 = .ok (.iload_n 2, 1) := by decide +kernel
theorem dX8_wind_9 : decode cX8_wind 9 = .ok (.invokestatic 140, 3) := by decide +kernel
theorem dX8_wind_12 : decode cX8_wind 12 = .ok (.ifCond .eq 12, 3) := by decide +kernel
theorem dX8_wind_15 : decode cX8_wind 15 = .ok (.iload_n 3, 1) := by decide +kernel
theorem dX8_wind_16 : decode cX8_wind 16 = .ok (.iconst 0, 1) := by decide +kernel
theorem dX8_wind_17 : decode cX8_wind 17 = .ok (.iconst 2, 1) := by decide +kernel
theorem dX8_wind_18 : decode cX8_wind 18 = .ok (.invokestatic 40, 3) := by decide +kernel
theorem dX8_wind_21 : decode cX8_wind 21 = .ok (.ifCond .ne 5, 3) := by decide +kernel
theorem dX8_wind_24 : decode cX8_wind 24 = .ok (.iconst (-1), 1) := by decide +kernel
theorem dX8_wind_25 : decode cX8_wind 25 = .ok (.ireturn, 1) := by decide +kernel
theorem dX8_wind_26 : decode cX8_wind 26 = .ok (.aload_n 0, 1) := by decide +kernel
theorem dX8_wind_27 : decode cX8_wind 27 = .ok (.iload_n 1, 1) := by decide +kernel
theorem dX8_wind_28 : decode cX8_wind 28 = .ok (.bipush 7, 2) := by decide +kernel
theorem dX8_wind_30 : decode cX8_wind 30 = .ok (.invokevirtual 106, 3) := by decide +kernel
theorem dX8_wind_33 : decode cX8_wind 33 = .ok (.iconst 1, 1) := by decide +kernel
theorem dX8_wind_34 : decode cX8_wind 34 = .ok (.if_icmp .ne 6, 3) := by decide +kernel
theorem dX8_wind_37 : decode cX8_wind 37 = .ok (.bipush (-2), 2) := by decide +kernel
theorem dX8_wind_39 : decode cX8_wind 39 = .ok (.ireturn, 1) := by decide +kernel
theorem dX8_wind_40 : decode cX8_wind 40 = .ok (.iload_n 3, 1) := by decide +kernel
theorem dX8_wind_41 : decode cX8_wind 41 = .ok (.ifCond .ne 12, 3) := by decide +kernel
theorem dX8_wind_44 : decode cX8_wind 44 = .ok (.aload_n 0, 1) := by decide +kernel
theorem dX8_wind_45 : decode cX8_wind 45 = .ok (.iload_n 1, 1) := by decide +kernel
theorem dX8_wind_46 : decode cX8_wind 46 = .ok (.iload_n 2, 1) := by decide +kernel
theorem dX8_wind_47 : decode cX8_wind 47 = .ok (.invokevirtual 118, 3) := by decide +kernel
theorem dX8_wind_50 : decode cX8_wind 50 = .ok (.goto 31, 3) := by decide +kernel
theorem dX8_wind_53 : decode cX8_wind 53 = .ok (.iload_n 3, 1) := by decide +kernel
theorem dX8_wind_54 : decode cX8_wind 54 = .ok (.iconst 1, 1) := by decide +kernel
theorem dX8_wind_55 : decode cX8_wind 55 = .ok (.if_icmp .ne 20, 3) := by decide +kernel
theorem dX8_wind_58 : decode cX8_wind 58 = .ok (.aload_n 0, 1) := by decide +kernel
theorem dX8_wind_59 : decode cX8_wind 59 = .ok (.iload_n 1, 1) := by decide +kernel
theorem dX8_wind_60 : decode cX8_wind 60 = .ok (.iload_n 2, 1) := by decide +kernel
theorem dX8_wind_61 : decode cX8_wind 61 = .ok (.invokevirtual 143, 3) := by decide +kernel
theorem dX8_wind_64 : decode cX8_wind 64 = .ok (.ifCond .eq 7, 3) := by decide +kernel
theorem dX8_wind_67 : decode cX8_wind 67 = .ok (.iconst 1, 1) := by decide +kernel
theorem dX8_wind_68 : decode cX8_wind 68 = .ok (.goto 13, 3) := by decide +kernel
theorem dX8_wind_71 : decode cX8_wind 71 = .ok (.iconst 0, 1) := by decide +kernel
theorem dX8_wind_72 : decode cX8_wind 72 = .ok (.goto 9, 3) := by decide +kernel
theorem dX8_wind_75 : decode cX8_wind 75 = .ok (.aload_n 0, 1) := by decide +kernel
theorem dX8_wind_76 : decode cX8_wind 76 = .ok (.iload_n 1, 1) := by decide +kernel
theorem dX8_wind_77 : decode cX8_wind 77 = .ok (.iload_n 2, 1) := by decide +kernel
theorem dX8_wind_78 : decode cX8_wind 78 = .ok (.invokevirtual 149, 3) := by decide +kernel
theorem dX8_wind_81 : decode cX8_wind 81 = .ok (.ireturn, 1) := by decide +kernel
set_option maxRecDepth 20000 in
theorem ggX8_areApart_X8_of : GoodIn wsX8_areApart wsX8_of := goodIn_r _ [5, 6, 40, 41, 42, 43, 44, 45, 46, 47, 48, 49, 50, 51, 52] (by decide +kernel) (by decide +kernel)
set_option maxRecDepth 20000 in
theorem gX8_areApart_X8_of : GoodIn wsX8_areApart (wsV RX8 106 RX8 yX8_of wsX8_of) := goodIn_app (goodIn_of _ (by decide +kernel)) ggX8_areApart_X8_of
set_option maxRecDepth 20000 in
theorem ggX8_areApart_X8_swing : GoodIn wsX8_areApart wsX8_swing := goodIn_r _ [10, 11, 12, 13, 14, 4, 15, 1, 2, 3, 5, 6, 16, 17, 18, 19, 20, 21, 22, 23, 24, 25, 26, 27, 28, 29, 30, 31, 32, 33, 34, 35, 36, 37, 38, 39, 40, 41, 42, 43, 44, 45, 46, 47, 48, 49, 50, 51, 52] (by decide +kernel) (by decide +kernel)
set_option maxRecDepth 20000 in
theorem gX8_areApart_X8_swing : GoodIn wsX8_areApart (wsV RX8 149 RX8 yX8_swing wsX8_swing) := goodIn_app (goodIn_of _ (by decide +kernel)) ggX8_areApart_X8_swing
theorem dX8_areApart_0 : decode cX8_areApart 0 = .ok (.aload_n 0, 1) := by decide +kernel
theorem dX8_areApart_1 : decode cX8_areApart 1 = .ok (.iload_n 1, 1) := by decide +kernel
theorem dX8_areApart_2 : decode cX8_areApart 2 = .ok (.bipush 7, 2) := by decide +kernel
theorem dX8_areApart_4 : decode cX8_areApart 4 = .ok (.invokevirtual 106, 3) := by decide +kernel
theorem dX8_areApart_7 : decode cX8_areApart 7 = .ok (.iconst 1, 1) := by decide +kernel
theorem dX8_areApart_8 : decode cX8_areApart 8 = .ok (.if_icmp .eq 14, 3) := by decide +kernel
theorem dX8_areApart_11 : decode cX8_areApart 11 = .ok (.aload_n 0, 1) := by decide +kernel
theorem dX8_areApart_12 : decode cX8_areApart 12 = .ok (.iload_n 2, 1) := by decide +kernel
theorem dX8_areApart_13 : decode cX8_areApart 13 = .ok (.bipush 7, 2) := by decide +kernel
theorem dX8_areApart_15 : decode cX8_areApart 15 = .ok (.invokevirtual 106, 3) := by decide +kernel
theorem dX8_areApart_18 : decode cX8_areApart 18 = .ok (.iconst 1, 1) := by decide +kernel
theorem dX8_areApart_19 : decode cX8_areApart 19 = .ok (.if_icmp .ne 5, 3) := by decide +kernel
theorem dX8_areApart_22 : decode cX8_areApart 22 = .ok (.iconst 1, 1) := by decide +kernel
theorem dX8_areApart_23 : decode cX8_areApart 23 = .ok (.ireturn, 1) := by decide +kernel
theorem dX8_areApart_24 : decode cX8_areApart 24 = .ok (.aload_n 0, 1) := by decide +kernel
theorem dX8_areApart_25 : decode cX8_areApart 25 = .ok (.iload_n 1, 1) := by decide +kernel
theorem dX8_areApart_26 : decode cX8_areApart 26 = .ok (.iload_n 3, 1) := by decide +kernel
theorem dX8_areApart_27 : decode cX8_areApart 27 = .ok (.invokevirtual 149, 3) := by decide +kernel
theorem dX8_areApart_30 : decode cX8_areApart 30 = .ok (.aload_n 0, 1) := by decide +kernel
theorem dX8_areApart_31 : decode cX8_areApart 31 = .ok (.iload_n 2, 1) := by decide +kernel
theorem dX8_areApart_32 : decode cX8_areApart 32 = .ok (.iload_n 3, 1) := by decide +kernel
theorem dX8_areApart_33 : decode cX8_areApart 33 = .ok (.invokevirtual 149, 3) := by decide +kernel
theorem dX8_areApart_36 : decode cX8_areApart 36 = .ok (.iadd, 1) := by decide +kernel
theorem dX8_areApart_37 : decode cX8_areApart 37 = .ok (.istore 4, 2) := by decide +kernel
theorem dX8_areApart_39 : decode cX8_areApart 39 = .ok (.bipush 10, 2) := by decide +kernel
theorem dX8_areApart_41 : decode cX8_areApart 41 = .ok (.aload_n 0, 1) := by decide +kernel
theorem dX8_areApart_42 : decode cX8_areApart 42 = .ok (.iload_n 1, 1) := by decide +kernel
theorem dX8_areApart_43 : decode cX8_areApart 43 = .ok (.iconst 0, 1) := by decide +kernel
theorem dX8_areApart_44 : decode cX8_areApart 44 = .ok (.invokevirtual 106, 3) := by decide +kernel
theorem dX8_areApart_47 : decode cX8_areApart 47 = .ok (.aload_n 0, 1) := by decide +kernel
theorem dX8_areApart_48 : decode cX8_areApart 48 = .ok (.iload_n 2, 1) := by decide +kernel
theorem dX8_areApart_49 : decode cX8_areApart 49 = .ok (.iconst 0, 1) := by decide +kernel
theorem dX8_areApart_50 : decode cX8_areApart 50 = .ok (.invokevirtual 106, 3) := by decide +kernel
theorem dX8_areApart_53 : decode cX8_areApart 53 = .ok (.isub, 1) := by decide +kernel
theorem dX8_areApart_54 : decode cX8_areApart 54 = .ok (.imul, 1) := by decide +kernel
theorem dX8_areApart_55 : decode cX8_areApart 55 = .ok (.istore 5, 2) := by decide +kernel
theorem dX8_areApart_57 : decode cX8_areApart 57 = .ok (.bipush 10, 2) := by decide +kernel
theorem dX8_areApart_59 : decode cX8_areApart 59 = .ok (.aload_n 0, 1) := by decide +kernel
theorem dX8_areApart_60 : decode cX8_areApart 60 = .ok (.iload_n 1, 1) := by decide +kernel
theorem dX8_areApart_61 : decode cX8_areApart 61 = .ok (.iconst 1, 1) := by decide +kernel
theorem dX8_areApart_62 : decode cX8_areApart 62 = .ok (.invokevirtual 106, 3) := by decide +kernel
theorem dX8_areApart_65 : decode cX8_areApart 65 = .ok (.aload_n 0, 1) := by decide +kernel
theorem dX8_areApart_66 : decode cX8_areApart 66 = .ok (.iload_n 2, 1) := by decide +kernel
theorem dX8_areApart_67 : decode cX8_areApart 67 = .ok (.iconst 1, 1) := by decide +kernel
theorem dX8_areApart_68 : decode cX8_areApart 68 = .ok (.invokevirtual 106, 3) := by decide +kernel
theorem dX8_areApart_71 : decode cX8_areApart 71 = .ok (.isub, 1) := by decide +kernel
theorem dX8_areApart_72 : decode cX8_areApart 72 = .ok (.imul, 1) := by decide +kernel
theorem dX8_areApart_73 : decode cX8_areApart 73 = .ok (.istore 6, 2) := by decide +kernel
theorem dX8_areApart_75 : decode cX8_areApart 75 = .ok (.iload 5, 2) := by decide +kernel
theorem dX8_areApart_77 : decode cX8_areApart 77 = .ok (.iload 5, 2) := by decide +kernel
theorem dX8_areApart_79 : decode cX8_areApart 79 = .ok (.imul, 1) := by decide +kernel
theorem dX8_areApart_80 : decode cX8_areApart 80 = .ok (.iload 6, 2) := by decide +kernel
theorem dX8_areApart_82 : decode cX8_areApart 82 = .ok (.iload 6, 2) := by decide +kernel
theorem dX8_areApart_84 : decode cX8_areApart 84 = .ok (.imul, 1) := by decide +kernel
theorem dX8_areApart_85 : decode cX8_areApart 85 = .ok (.iadd, 1) := by decide +kernel
theorem dX8_areApart_86 : decode cX8_areApart 86 = .ok (.iload 4, 2) := by decide +kernel
theorem dX8_areApart_88 : decode cX8_areApart 88 = .ok (.iload 4, 2) := by decide +kernel
theorem dX8_areApart_90 : decode cX8_areApart 90 = .ok (.imul, 1) := by decide +kernel
theorem dX8_areApart_91 : decode cX8_areApart 91 = .ok (.if_icmp .lt 7, 3) := by decide +kernel
theorem dX8_areApart_94 : decode cX8_areApart 94 = .ok (.iconst 1, 1) := by decide +kernel
theorem dX8_areApart_95 : decode cX8_areApart 95 = .ok (.goto 4, 3) := by decide +kernel
theorem dX8_areApart_98 : decode cX8_areApart 98 = .ok (.iconst 0, 1) := by decide +kernel
theorem dX8_areApart_99 : decode cX8_areApart 99 = .ok (.ireturn, 1) := by decide +kernel
set_option maxRecDepth 20000 in
theorem ggX8_apart_X8_isShip : GoodIn wsX8_apart wsX8_isShip := goodIn_r _ [5, 6, 7, 8, 4, 9, 54, 55, 56, 57, 58, 59, 60, 61, 62, 63, 64, 65, 66] (by decide +kernel) (by decide +kernel)
set_option maxRecDepth 20000 in
theorem gX8_apart_X8_isShip : GoodIn wsX8_apart (wsV RX8 124 RX8 yX8_isShip wsX8_isShip) := goodIn_app (goodIn_of _ (by decide +kernel)) ggX8_apart_X8_isShip
set_option maxRecDepth 20000 in
theorem ggX8_apart_X8_isWind : GoodIn wsX8_apart wsX8_isWind := goodIn_r _ [12, 7, 8, 4, 9] (by decide +kernel) (by decide +kernel)
set_option maxRecDepth 20000 in
theorem gX8_apart_X8_isWind : GoodIn wsX8_apart (va_wsS RX8 140 yX8_isWind wsX8_isWind) := goodIn_app (goodIn_of _ (by decide +kernel)) ggX8_apart_X8_isWind
set_option maxRecDepth 20000 in
theorem ggX8_apart_X8_areApart : GoodIn wsX8_apart wsX8_areApart := goodIn_r _ [16, 17, 18, 19, 4, 20, 6, 21, 22, 23, 24, 25, 26, 27, 28, 29, 30, 31, 32, 33, 34, 35, 36, 37, 38, 39, 40, 41, 42, 43, 44, 45, 46, 47, 48, 49, 50, 51, 52, 53, 54, 55, 56, 57, 58, 59, 60, 61, 62, 63, 64, 65, 66] (by decide +kernel) (by decide +kernel)
set_option maxRecDepth 20000 in
theorem gX8_apart_X8_areApart : GoodIn wsX8_apart (wsV RX8 152 RX8 yX8_areApart wsX8_areApart) := goodIn_app (goodIn_of _ (by decide +kernel)) ggX8_apart_X8_areApart
theorem dX8_apart_0 : decode cX8_apart 0 = .ok (.aload_n 0, 1) := by decide +kernel
theorem dX8_apart_1 : decode cX8_apart 1 = .ok (.iload_n 1, 1) := by decide +kernel
theorem dX8_apart_2 : decode cX8_apart 2 = .ok (.invokevirtual 124, 3) := by decide +kernel
theorem dX8_apart_5 : decode cX8_apart 5 = .ok (.ifCond .eq 23, 3) := by decide +kernel
theorem dX8_apart_8 : decode cX8_apart 8 = .ok (.aload_n 0, 1) := by decide +kernel
theorem dX8_apart_9 : decode cX8_apart 9 = .ok (.iload_n 2, 1) := by decide +kernel
theorem dX8_apart_10 : decode cX8_apart 10 = .ok (.invokevirtual 124, 3) := by decide +kernel
theorem dX8_apart_13 : decode cX8_apart 13 = .ok (.ifCond .eq 15, 3) := by decide +kernel
theorem dX8_apart_16 : decode cX8_apart 16 = .ok (.iload_n 1, 1) := by decide +kernel
theorem dX8_apart_17 : decode cX8_apart 17 = .ok (.iload_n 2, 1) := by decide +kernel
theorem dX8_apart_18 : decode cX8_apart 18 = .ok (.if_icmp .eq 10, 3) := by decide +kernel
theorem dX8_apart_21 : decode cX8_apart 21 = .ok (.iload_n 3, 1) := by decide +kernel
theorem dX8_apart_22 : decode cX8_apart 22 = .ok (.invokestatic 140, 3) := by decide +kernel
theorem dX8_apart_25 : decode cX8_apart 25 = .ok (.ifCond .ne 5, 3) := by decide +kernel
theorem dX8_apart_28 : decode cX8_apart 28 = .ok (.iconst (-1), 1) := by decide +kernel
theorem dX8_apart_29 : decode cX8_apart 29 = .ok (.ireturn, 1) := by decide +kernel
theorem dX8_apart_30 : decode cX8_apart 30 = .ok (.aload_n 0, 1) := by decide +kernel
theorem dX8_apart_31 : decode cX8_apart 31 = .ok (.iload_n 1, 1) := by decide +kernel
theorem dX8_apart_32 : decode cX8_apart 32 = .ok (.iload_n 2, 1) := by decide +kernel
theorem dX8_apart_33 : decode cX8_apart 33 = .ok (.iload_n 3, 1) := by decide +kernel
theorem dX8_apart_34 : decode cX8_apart 34 = .ok (.invokevirtual 152, 3) := by decide +kernel
theorem dX8_apart_37 : decode cX8_apart 37 = .ok (.ifCond .eq 7, 3) := by decide +kernel
theorem dX8_apart_40 : decode cX8_apart 40 = .ok (.iconst 1, 1) := by decide +kernel
theorem dX8_apart_41 : decode cX8_apart 41 = .ok (.goto 4, 3) := by decide +kernel
theorem dX8_apart_44 : decode cX8_apart 44 = .ok (.iconst 0, 1) := by decide +kernel
theorem dX8_apart_45 : decode cX8_apart 45 = .ok (.ireturn, 1) := by decide +kernel
set_option maxRecDepth 20000 in
theorem ggX8_fewest_X8_isShip : GoodIn wsX8_fewest wsX8_isShip := goodIn_r _ [5, 6, 7, 8, 4, 9, 62, 63, 64, 65, 66, 67, 68, 69, 70, 71, 72, 73, 74] (by decide +kernel) (by decide +kernel)
set_option maxRecDepth 20000 in
theorem gX8_fewest_X8_isShip : GoodIn wsX8_fewest (wsV RX8 124 RX8 yX8_isShip wsX8_isShip) := goodIn_app (goodIn_of _ (by decide +kernel)) ggX8_fewest_X8_isShip
set_option maxRecDepth 20000 in
theorem ggX8_fewest_X8_isWind : GoodIn wsX8_fewest wsX8_isWind := goodIn_r _ [12, 7, 8, 4, 9] (by decide +kernel) (by decide +kernel)
set_option maxRecDepth 20000 in
theorem gX8_fewest_X8_isWind : GoodIn wsX8_fewest (va_wsS RX8 140 yX8_isWind wsX8_isWind) := goodIn_app (goodIn_of _ (by decide +kernel)) ggX8_fewest_X8_isWind
set_option maxRecDepth 20000 in
theorem ggX8_fewest_X8_of : GoodIn wsX8_fewest wsX8_of := goodIn_r _ [16, 6, 62, 63, 64, 65, 66, 67, 68, 69, 70, 71, 72, 73, 74] (by decide +kernel) (by decide +kernel)
set_option maxRecDepth 20000 in
theorem gX8_fewest_X8_of : GoodIn wsX8_fewest (wsV RX8 106 RX8 yX8_of wsX8_of) := goodIn_app (goodIn_of _ (by decide +kernel)) ggX8_fewest_X8_of
set_option maxRecDepth 20000 in
theorem ggX8_fewest_X8_put : GoodIn wsX8_fewest wsX8_put := goodIn_r _ [20, 6, 62, 63, 64, 65, 66, 67, 68, 69, 70, 71, 72, 73, 74] (by decide +kernel) (by decide +kernel)
set_option maxRecDepth 20000 in
theorem gX8_fewest_X8_put : GoodIn wsX8_fewest (wsV RX8 130 RX8 yX8_put wsX8_put) := goodIn_app (goodIn_of _ (by decide +kernel)) ggX8_fewest_X8_put
set_option maxRecDepth 20000 in
theorem ggX8_fewest_X8_holds : GoodIn wsX8_fewest wsX8_holds := goodIn_r _ [24, 25, 26, 27, 4, 28, 13, 14, 15, 16, 6, 29, 30, 31, 32, 33, 34, 35, 36, 37, 38, 39, 40, 41, 42, 43, 44, 45, 46, 47, 48, 49, 50, 51, 52, 53, 54, 55, 56, 57, 58, 59, 60, 61, 62, 63, 64, 65, 66, 67, 68, 69, 70, 71, 72, 73, 74] (by decide +kernel) (by decide +kernel)
set_option maxRecDepth 20000 in
theorem gX8_fewest_X8_holds : GoodIn wsX8_fewest (wsV RX8 143 RX8 yX8_holds wsX8_holds) := goodIn_app (goodIn_of _ (by decide +kernel)) ggX8_fewest_X8_holds
theorem dX8_fewest_0 : decode cX8_fewest 0 = .ok (.aload_n 0, 1) := by decide +kernel
theorem dX8_fewest_1 : decode cX8_fewest 1 = .ok (.iload_n 1, 1) := by decide +kernel
theorem dX8_fewest_2 : decode cX8_fewest 2 = .ok (.invokevirtual 124, 3) := by decide +kernel
theorem dX8_fewest_5 : decode cX8_fewest 5 = .ok (.ifCond .eq 10, 3) := by decide +kernel
theorem dX8_fewest_8 : decode cX8_fewest 8 = .ok (.iload_n 2, 1) := by decide +kernel
theorem dX8_fewest_9 : decode cX8_fewest 9 = .ok (.invokestatic 140, 3) := by decide +kernel
theorem dX8_fewest_12 : decode cX8_fewest 12 = .ok (.ifCond .ne 5, 3) := by decide +kernel
theorem dX8_fewest_15 : decode cX8_fewest 15 = .ok (.iconst (-1), 1) := by decide +kernel
theorem dX8_fewest_16 : decode cX8_fewest 16 = .ok (.ireturn, 1) := by decide +kernel
theorem dX8_fewest_17 : decode cX8_fewest 17 = .ok (.aload_n 0, 1) := by decide +kernel
theorem dX8_fewest_18 : decode cX8_fewest 18 = .ok (.iload_n 1, 1) := by decide +kernel
theorem dX8_fewest_19 : decode cX8_fewest 19 = .ok (.bipush 7, 2) := by decide +kernel
theorem dX8_fewest_21 : decode cX8_fewest 21 = .ok (.invokevirtual 106, 3) := by decide +kernel
theorem dX8_fewest_24 : decode cX8_fewest 24 = .ok (.iconst 1, 1) := by decide +kernel
theorem dX8_fewest_25 : decode cX8_fewest 25 = .ok (.if_icmp .ne 6, 3) := by decide +kernel
theorem dX8_fewest_28 : decode cX8_fewest 28 = .ok (.bipush (-2), 2) := by decide +kernel
theorem dX8_fewest_30 : decode cX8_fewest 30 = .ok (.ireturn, 1) := by decide +kernel
theorem dX8_fewest_31 : decode cX8_fewest 31 = .ok (.aload_n 0, 1) := by decide +kernel
theorem dX8_fewest_32 : decode cX8_fewest 32 = .ok (.iload_n 1, 1) := by decide +kernel
theorem dX8_fewest_33 : decode cX8_fewest 33 = .ok (.iconst 2, 1) := by decide +kernel
theorem dX8_fewest_34 : decode cX8_fewest 34 = .ok (.invokevirtual 106, 3) := by decide +kernel
theorem dX8_fewest_37 : decode cX8_fewest 37 = .ok (.istore_n 3, 1) := by decide +kernel
theorem dX8_fewest_38 : decode cX8_fewest 38 = .ok (.bipush (-4), 2) := by decide +kernel
theorem dX8_fewest_40 : decode cX8_fewest 40 = .ok (.istore 4, 2) := by decide +kernel
theorem dX8_fewest_42 : decode cX8_fewest 42 = .ok (.iconst 1, 1) := by decide +kernel
theorem dX8_fewest_43 : decode cX8_fewest 43 = .ok (.istore 5, 2) := by decide +kernel
theorem dX8_fewest_45 : decode cX8_fewest 45 = .ok (.iload 5, 2) := by decide +kernel
theorem dX8_fewest_47 : decode cX8_fewest 47 = .ok (.bipush 60, 2) := by decide +kernel
theorem dX8_fewest_49 : decode cX8_fewest 49 = .ok (.if_icmp .gt 42, 3) := by decide +kernel
theorem dX8_fewest_52 : decode cX8_fewest 52 = .ok (.iload 4, 2) := by decide +kernel
theorem dX8_fewest_54 : decode cX8_fewest 54 = .ok (.bipush (-4), 2) := by decide +kernel
theorem dX8_fewest_56 : decode cX8_fewest 56 = .ok (.if_icmp .ne 35, 3) := by decide +kernel
theorem dX8_fewest_59 : decode cX8_fewest 59 = .ok (.aload_n 0, 1) := by decide +kernel
theorem dX8_fewest_60 : decode cX8_fewest 60 = .ok (.iload_n 1, 1) := by decide +kernel
theorem dX8_fewest_61 : decode cX8_fewest 61 = .ok (.iconst 2, 1) := by decide +kernel
theorem dX8_fewest_62 : decode cX8_fewest 62 = .ok (.iload 5, 2) := by decide +kernel
theorem dX8_fewest_64 : decode cX8_fewest 64 = .ok (.invokevirtual 130, 3) := by decide +kernel
theorem dX8_fewest_67 : decode cX8_fewest 67 = .ok (.aload_n 0, 1) := by decide +kernel
theorem dX8_fewest_68 : decode cX8_fewest 68 = .ok (.iload_n 1, 1) := by decide +kernel
theorem dX8_fewest_69 : decode cX8_fewest 69 = .ok (.iload_n 2, 1) := by decide +kernel
theorem dX8_fewest_70 : decode cX8_fewest 70 = .ok (.invokevirtual 143, 3) := by decide +kernel
theorem dX8_fewest_73 : decode cX8_fewest 73 = .ok (.ifCond .eq 8, 3) := by decide +kernel
theorem dX8_fewest_76 : decode cX8_fewest 76 = .ok (.iload 5, 2) := by decide +kernel
theorem dX8_fewest_78 : decode cX8_fewest 78 = .ok (.goto 5, 3) := by decide +kernel
theorem dX8_fewest_81 : decode cX8_fewest 81 = .ok (.bipush (-4), 2) := by decide +kernel
theorem dX8_fewest_83 : decode cX8_fewest 83 = .ok (.istore 4, 2) := by decide +kernel
theorem dX8_fewest_85 : decode cX8_fewest 85 = .ok (.iinc 5 1, 3) := by decide +kernel
theorem dX8_fewest_88 : decode cX8_fewest 88 = .ok (.goto (-43), 3) := by decide +kernel
theorem dX8_fewest_91 : decode cX8_fewest 91 = .ok (.aload_n 0, 1) := by decide +kernel
theorem dX8_fewest_92 : decode cX8_fewest 92 = .ok (.iload_n 1, 1) := by decide +kernel
theorem dX8_fewest_93 : decode cX8_fewest 93 = .ok (.iconst 2, 1) := by decide +kernel
theorem dX8_fewest_94 : decode cX8_fewest 94 = .ok (.iload_n 3, 1) := by decide +kernel
theorem dX8_fewest_95 : decode cX8_fewest 95 = .ok (.invokevirtual 130, 3) := by decide +kernel
theorem dX8_fewest_98 : decode cX8_fewest 98 = .ok (.iload 4, 2) := by decide +kernel
theorem dX8_fewest_100 : decode cX8_fewest 100 = .ok (.ireturn, 1) := by decide +kernel
set_option maxRecDepth 20000 in
theorem ggX8_tooMuch_X8_isShip : GoodIn wsX8_tooMuch wsX8_isShip := goodIn_r _ [5, 6, 7, 8, 4, 9, 55, 56, 57, 58, 59, 60, 61, 62, 63, 64, 65, 66, 67] (by decide +kernel) (by decide +kernel)
set_option maxRecDepth 20000 in
theorem gX8_tooMuch_X8_isShip : GoodIn wsX8_tooMuch (wsV RX8 124 RX8 yX8_isShip wsX8_isShip) := goodIn_app (goodIn_of _ (by decide +kernel)) ggX8_tooMuch_X8_isShip
set_option maxRecDepth 20000 in
theorem ggX8_tooMuch_X8_of : GoodIn wsX8_tooMuch wsX8_of := goodIn_r _ [13, 6, 55, 56, 57, 58, 59, 60, 61, 62, 63, 64, 65, 66, 67] (by decide +kernel) (by decide +kernel)
set_option maxRecDepth 20000 in
theorem gX8_tooMuch_X8_of : GoodIn wsX8_tooMuch (wsV RX8 106 RX8 yX8_of wsX8_of) := goodIn_app (goodIn_of _ (by decide +kernel)) ggX8_tooMuch_X8_of
set_option maxRecDepth 20000 in
theorem ggX8_tooMuch_X8_holds : GoodIn wsX8_tooMuch wsX8_holds := goodIn_r _ [17, 18, 19, 20, 4, 21, 10, 11, 12, 13, 6, 22, 23, 24, 25, 26, 27, 28, 29, 30, 31, 32, 33, 34, 35, 36, 37, 38, 39, 40, 41, 42, 43, 44, 45, 46, 47, 48, 49, 50, 51, 52, 53, 54, 55, 56, 57, 58, 59, 60, 61, 62, 63, 64, 65, 66, 67] (by decide +kernel) (by decide +kernel)
set_option maxRecDepth 20000 in
theorem gX8_tooMuch_X8_holds : GoodIn wsX8_tooMuch (wsV RX8 143 RX8 yX8_holds wsX8_holds) := goodIn_app (goodIn_of _ (by decide +kernel)) ggX8_tooMuch_X8_holds
theorem dX8_tooMuch_0 : decode cX8_tooMuch 0 = .ok (.aload_n 0, 1) := by decide +kernel
theorem dX8_tooMuch_1 : decode cX8_tooMuch 1 = .ok (.iload_n 1, 1) := by decide +kernel
theorem dX8_tooMuch_2 : decode cX8_tooMuch 2 = .ok (.invokevirtual 124, 3) := by decide +kernel
theorem dX8_tooMuch_5 : decode cX8_tooMuch 5 = .ok (.ifCond .ne 5, 3) := by decide +kernel
theorem dX8_tooMuch_8 : decode cX8_tooMuch 8 = .ok (.iconst (-1), 1) := by decide +kernel
theorem dX8_tooMuch_9 : decode cX8_tooMuch 9 = .ok (.ireturn, 1) := by decide +kernel
theorem dX8_tooMuch_10 : decode cX8_tooMuch 10 = .ok (.aload_n 0, 1) := by decide +kernel
theorem dX8_tooMuch_11 : decode cX8_tooMuch 11 = .ok (.iload_n 1, 1) := by decide +kernel
theorem dX8_tooMuch_12 : decode cX8_tooMuch 12 = .ok (.bipush 7, 2) := by decide +kernel
theorem dX8_tooMuch_14 : decode cX8_tooMuch 14 = .ok (.invokevirtual 106, 3) := by decide +kernel
theorem dX8_tooMuch_17 : decode cX8_tooMuch 17 = .ok (.iconst 1, 1) := by decide +kernel
theorem dX8_tooMuch_18 : decode cX8_tooMuch 18 = .ok (.if_icmp .ne 6, 3) := by decide +kernel
theorem dX8_tooMuch_21 : decode cX8_tooMuch 21 = .ok (.bipush (-2), 2) := by decide +kernel
theorem dX8_tooMuch_23 : decode cX8_tooMuch 23 = .ok (.ireturn, 1) := by decide +kernel
theorem dX8_tooMuch_24 : decode cX8_tooMuch 24 = .ok (.iconst 0, 1) := by decide +kernel
theorem dX8_tooMuch_25 : decode cX8_tooMuch 25 = .ok (.istore_n 2, 1) := by decide +kernel
theorem dX8_tooMuch_26 : decode cX8_tooMuch 26 = .ok (.iload_n 2, 1) := by decide +kernel
theorem dX8_tooMuch_27 : decode cX8_tooMuch 27 = .ok (.bipush 20, 2) := by decide +kernel
theorem dX8_tooMuch_29 : decode cX8_tooMuch 29 = .ok (.if_icmp .gt 20, 3) := by decide +kernel
theorem dX8_tooMuch_32 : decode cX8_tooMuch 32 = .ok (.aload_n 0, 1) := by decide +kernel
theorem dX8_tooMuch_33 : decode cX8_tooMuch 33 = .ok (.iload_n 1, 1) := by decide +kernel
theorem dX8_tooMuch_34 : decode cX8_tooMuch 34 = .ok (.iload_n 2, 1) := by decide +kernel
theorem dX8_tooMuch_35 : decode cX8_tooMuch 35 = .ok (.invokevirtual 143, 3) := by decide +kernel
theorem dX8_tooMuch_38 : decode cX8_tooMuch 38 = .ok (.ifCond .ne 5, 3) := by decide +kernel
theorem dX8_tooMuch_41 : decode cX8_tooMuch 41 = .ok (.iload_n 2, 1) := by decide +kernel
theorem dX8_tooMuch_42 : decode cX8_tooMuch 42 = .ok (.ireturn, 1) := by decide +kernel
theorem dX8_tooMuch_43 : decode cX8_tooMuch 43 = .ok (.iinc 2 1, 3) := by decide +kernel
theorem dX8_tooMuch_46 : decode cX8_tooMuch 46 = .ok (.goto (-20), 3) := by decide +kernel
theorem dX8_tooMuch_49 : decode cX8_tooMuch 49 = .ok (.bipush (-4), 2) := by decide +kernel
theorem dX8_tooMuch_51 : decode cX8_tooMuch 51 = .ok (.ireturn, 1) := by decide +kernel
set_option maxRecDepth 20000 in
theorem ggX8_isClose_X8_holds : GoodIn wsX8_isClose wsX8_holds := goodIn_r _ [6, 7, 8, 9, 5, 10, 11, 12, 13, 14, 1, 15, 16, 17, 18, 19, 20, 21, 22, 23, 24, 25, 26, 27, 28, 29, 30, 31, 32, 33, 34, 35, 36, 37, 38, 39, 40, 41, 42, 43, 44, 45, 46, 47, 56, 57, 58, 59, 60, 61, 62, 63, 64, 65, 66, 67, 68] (by decide +kernel) (by decide +kernel)
set_option maxRecDepth 20000 in
theorem gX8_isClose_X8_holds : GoodIn wsX8_isClose (wsV RX8 143 RX8 yX8_holds wsX8_holds) := goodIn_app (goodIn_of _ (by decide +kernel)) ggX8_isClose_X8_holds
set_option maxRecDepth 20000 in
theorem ggX8_isClose_X8_areApart : GoodIn wsX8_isClose wsX8_areApart := goodIn_r _ [51, 11, 12, 13, 5, 14, 1, 52, 53, 54, 55, 31, 7, 8, 9, 10, 19, 20, 21, 22, 23, 24, 25, 26, 27, 28, 29, 30, 32, 33, 34, 35, 36, 37, 38, 39, 40, 41, 42, 43, 56, 57, 58, 59, 60, 61, 62, 63, 64, 65, 66, 67, 68] (by decide +kernel) (by decide +kernel)
set_option maxRecDepth 20000 in
theorem gX8_isClose_X8_areApart : GoodIn wsX8_isClose (wsV RX8 152 RX8 yX8_areApart wsX8_areApart) := goodIn_app (goodIn_of _ (by decide +kernel)) ggX8_isClose_X8_areApart
theorem dX8_isClose_0 : decode cX8_isClose 0 = .ok (.aload_n 0, 1) := by decide +kernel
theorem dX8_isClose_1 : decode cX8_isClose 1 = .ok (.iload_n 1, 1) := by decide +kernel
theorem dX8_isClose_2 : decode cX8_isClose 2 = .ok (.iload_n 2, 1) := by decide +kernel
theorem dX8_isClose_3 : decode cX8_isClose 3 = .ok (.invokevirtual 143, 3) := by decide +kernel
theorem dX8_isClose_6 : decode cX8_isClose 6 = .ok (.istore_n 3, 1) := by decide +kernel
theorem dX8_isClose_7 : decode cX8_isClose 7 = .ok (.iconst 0, 1) := by decide +kernel
theorem dX8_isClose_8 : decode cX8_isClose 8 = .ok (.istore 4, 2) := by decide +kernel
theorem dX8_isClose_10 : decode cX8_isClose 10 = .ok (.iload 4, 2) := by decide +kernel
theorem dX8_isClose_12 : decode cX8_isClose 12 = .ok (.aload_n 0, 1) := by decide +kernel
theorem dX8_isClose_13 : decode cX8_isClose 13 = .ok (.getfield 7, 3) := by decide +kernel
theorem dX8_isClose_16 : decode cX8_isClose 16 = .ok (.iconst 1, 1) := by decide +kernel
theorem dX8_isClose_17 : decode cX8_isClose 17 = .ok (.iaload, 1) := by decide +kernel
theorem dX8_isClose_18 : decode cX8_isClose 18 = .ok (.if_icmp .ge 36, 3) := by decide +kernel
theorem dX8_isClose_21 : decode cX8_isClose 21 = .ok (.iload_n 3, 1) := by decide +kernel
theorem dX8_isClose_22 : decode cX8_isClose 22 = .ok (.ifCond .eq 32, 3) := by decide +kernel
theorem dX8_isClose_25 : decode cX8_isClose 25 = .ok (.iload 4, 2) := by decide +kernel
theorem dX8_isClose_27 : decode cX8_isClose 27 = .ok (.iload_n 1, 1) := by decide +kernel
theorem dX8_isClose_28 : decode cX8_isClose 28 = .ok (.if_icmp .eq 14, 3) := by decide +kernel
theorem dX8_isClose_31 : decode cX8_isClose 31 = .ok (.aload_n 0, 1) := by decide +kernel
theorem dX8_isClose_32 : decode cX8_isClose 32 = .ok (.iload_n 1, 1) := by decide +kernel
theorem dX8_isClose_33 : decode cX8_isClose 33 = .ok (.iload 4, 2) := by decide +kernel
theorem dX8_isClose_35 : decode cX8_isClose 35 = .ok (.iload_n 2, 1) := by decide +kernel
theorem dX8_isClose_36 : decode cX8_isClose 36 = .ok (.invokevirtual 152, 3) := by decide +kernel
theorem dX8_isClose_39 : decode cX8_isClose 39 = .ok (.ifCond .eq 7, 3) := by decide +kernel
theorem dX8_isClose_42 : decode cX8_isClose 42 = .ok (.iconst 1, 1) := by decide +kernel
theorem dX8_isClose_43 : decode cX8_isClose 43 = .ok (.goto 4, 3) := by decide +kernel
theorem dX8_isClose_46 : decode cX8_isClose 46 = .ok (.iconst 0, 1) := by decide +kernel
theorem dX8_isClose_47 : decode cX8_isClose 47 = .ok (.istore_n 3, 1) := by decide +kernel
theorem dX8_isClose_48 : decode cX8_isClose 48 = .ok (.iinc 4 1, 3) := by decide +kernel
theorem dX8_isClose_51 : decode cX8_isClose 51 = .ok (.goto (-41), 3) := by decide +kernel
theorem dX8_isClose_54 : decode cX8_isClose 54 = .ok (.iload_n 3, 1) := by decide +kernel
theorem dX8_isClose_55 : decode cX8_isClose 55 = .ok (.ireturn, 1) := by decide +kernel
set_option maxRecDepth 20000 in
theorem ggX8_close_X8_isShip : GoodIn wsX8_close wsX8_isShip := goodIn_r _ [5, 6, 7, 8, 4, 9, 74, 75, 76, 77, 78, 79, 80, 81, 82, 83, 84, 85, 86] (by decide +kernel) (by decide +kernel)
set_option maxRecDepth 20000 in
theorem gX8_close_X8_isShip : GoodIn wsX8_close (wsV RX8 124 RX8 yX8_isShip wsX8_isShip) := goodIn_app (goodIn_of _ (by decide +kernel)) ggX8_close_X8_isShip
set_option maxRecDepth 20000 in
theorem ggX8_close_X8_isWind : GoodIn wsX8_close wsX8_isWind := goodIn_r _ [12, 7, 8, 4, 9] (by decide +kernel) (by decide +kernel)
set_option maxRecDepth 20000 in
theorem gX8_close_X8_isWind : GoodIn wsX8_close (va_wsS RX8 140 yX8_isWind wsX8_isWind) := goodIn_app (goodIn_of _ (by decide +kernel)) ggX8_close_X8_isWind
set_option maxRecDepth 20000 in
theorem ggX8_close_X8_of : GoodIn wsX8_close wsX8_of := goodIn_r _ [16, 6, 74, 75, 76, 77, 78, 79, 80, 81, 82, 83, 84, 85, 86] (by decide +kernel) (by decide +kernel)
set_option maxRecDepth 20000 in
theorem gX8_close_X8_of : GoodIn wsX8_close (wsV RX8 106 RX8 yX8_of wsX8_of) := goodIn_app (goodIn_of _ (by decide +kernel)) ggX8_close_X8_of
set_option maxRecDepth 20000 in
theorem ggX8_close_X8_put : GoodIn wsX8_close wsX8_put := goodIn_r _ [20, 6, 74, 75, 76, 77, 78, 79, 80, 81, 82, 83, 84, 85, 86] (by decide +kernel) (by decide +kernel)
set_option maxRecDepth 20000 in
theorem gX8_close_X8_put : GoodIn wsX8_close (wsV RX8 130 RX8 yX8_put wsX8_put) := goodIn_app (goodIn_of _ (by decide +kernel)) ggX8_close_X8_put
set_option maxRecDepth 20000 in
theorem ggX8_close_X8_isClose : GoodIn wsX8_close wsX8_isClose := goodIn_r _ [24, 6, 25, 26, 27, 4, 28, 29, 30, 31, 32, 13, 14, 15, 16, 33, 34, 35, 36, 37, 38, 39, 40, 41, 42, 43, 44, 45, 46, 47, 48, 49, 50, 51, 52, 53, 54, 55, 56, 57, 58, 59, 60, 61, 62, 63, 64, 65, 66, 67, 68, 69, 70, 71, 72, 73, 74, 75, 76, 77, 78, 79, 80, 81, 82, 83, 84, 85, 86] (by decide +kernel) (by decide +kernel)
set_option maxRecDepth 20000 in
theorem gX8_close_X8_isClose : GoodIn wsX8_close (wsV RX8 155 RX8 yX8_isClose wsX8_isClose) := goodIn_app (goodIn_of _ (by decide +kernel)) ggX8_close_X8_isClose
theorem dX8_close_0 : decode cX8_close 0 = .ok (.aload_n 0, 1) := by decide +kernel
theorem dX8_close_1 : decode cX8_close 1 = .ok (.iload_n 1, 1) := by decide +kernel
theorem dX8_close_2 : decode cX8_close 2 = .ok (.invokevirtual 124, 3) := by decide +kernel
theorem dX8_close_5 : decode cX8_close 5 = .ok (.ifCond .eq 10, 3) := by decide +kernel
theorem dX8_close_8 : decode cX8_close 8 = .ok (.iload_n 2, 1) := by decide +kernel
theorem dX8_close_9 : decode cX8_close 9 = .ok (.invokestatic 140, 3) := by decide +kernel
theorem dX8_close_12 : decode cX8_close 12 = .ok (.ifCond .ne 5, 3) := by decide +kernel
theorem dX8_close_15 : decode cX8_close 15 = .ok (.iconst (-1), 1) := by decide +kernel
theorem dX8_close_16 : decode cX8_close 16 = .ok (.ireturn, 1) := by decide +kernel
theorem dX8_close_17 : decode cX8_close 17 = .ok (.aload_n 0, 1) := by decide +kernel
theorem dX8_close_18 : decode cX8_close 18 = .ok (.iload_n 1, 1) := by decide +kernel
theorem dX8_close_19 : decode cX8_close 19 = .ok (.bipush 7, 2) := by decide +kernel
theorem dX8_close_21 : decode cX8_close 21 = .ok (.invokevirtual 106, 3) := by decide +kernel
theorem dX8_close_24 : decode cX8_close 24 = .ok (.iconst 1, 1) := by decide +kernel
theorem dX8_close_25 : decode cX8_close 25 = .ok (.if_icmp .ne 6, 3) := by decide +kernel
theorem dX8_close_28 : decode cX8_close 28 = .ok (.bipush (-2), 2) := by decide +kernel
theorem dX8_close_30 : decode cX8_close 30 = .ok (.ireturn, 1) := by decide +kernel
theorem dX8_close_31 : decode cX8_close 31 = .ok (.aload_n 0, 1) := by decide +kernel
theorem dX8_close_32 : decode cX8_close 32 = .ok (.iload_n 1, 1) := by decide +kernel
theorem dX8_close_33 : decode cX8_close 33 = .ok (.iconst 2, 1) := by decide +kernel
theorem dX8_close_34 : decode cX8_close 34 = .ok (.invokevirtual 106, 3) := by decide +kernel
theorem dX8_close_37 : decode cX8_close 37 = .ok (.istore_n 3, 1) := by decide +kernel
theorem dX8_close_38 : decode cX8_close 38 = .ok (.bipush (-4), 2) := by decide +kernel
theorem dX8_close_40 : decode cX8_close 40 = .ok (.istore 4, 2) := by decide +kernel
theorem dX8_close_42 : decode cX8_close 42 = .ok (.bipush 60, 2) := by decide +kernel
theorem dX8_close_44 : decode cX8_close 44 = .ok (.istore 5, 2) := by decide +kernel
theorem dX8_close_46 : decode cX8_close 46 = .ok (.iload 5, 2) := by decide +kernel
theorem dX8_close_48 : decode cX8_close 48 = .ok (.ifCond .le 42, 3) := by decide +kernel
theorem dX8_close_51 : decode cX8_close 51 = .ok (.iload 4, 2) := by decide +kernel
theorem dX8_close_53 : decode cX8_close 53 = .ok (.bipush (-4), 2) := by decide +kernel
theorem dX8_close_55 : decode cX8_close 55 = .ok (.if_icmp .ne 35, 3) := by decide +kernel
theorem dX8_close_58 : decode cX8_close 58 = .ok (.aload_n 0, 1) := by decide +kernel
theorem dX8_close_59 : decode cX8_close 59 = .ok (.iload_n 1, 1) := by decide +kernel
theorem dX8_close_60 : decode cX8_close 60 = .ok (.iconst 2, 1) := by decide +kernel
theorem dX8_close_61 : decode cX8_close 61 = .ok (.iload 5, 2) := by decide +kernel
theorem dX8_close_63 : decode cX8_close 63 = .ok (.invokevirtual 130, 3) := by decide +kernel
theorem dX8_close_66 : decode cX8_close 66 = .ok (.aload_n 0, 1) := by decide +kernel
theorem dX8_close_67 : decode cX8_close 67 = .ok (.iload_n 1, 1) := by decide +kernel
theorem dX8_close_68 : decode cX8_close 68 = .ok (.iload_n 2, 1) := by decide +kernel
theorem dX8_close_69 : decode cX8_close 69 = .ok (.invokevirtual 155, 3) := by decide +kernel
theorem dX8_close_72 : decode cX8_close 72 = .ok (.ifCond .eq 8, 3) := by decide +kernel
theorem dX8_close_75 : decode cX8_close 75 = .ok (.iload 5, 2) := by decide +kernel
theorem dX8_close_77 : decode cX8_close 77 = .ok (.goto 5, 3) := by decide +kernel
theorem dX8_close_80 : decode cX8_close 80 = .ok (.bipush (-4), 2) := by decide +kernel
theorem dX8_close_82 : decode cX8_close 82 = .ok (.istore 4, 2) := by decide +kernel
theorem dX8_close_84 : decode cX8_close 84 = .ok (.iinc 5 (-1), 3) := by decide +kernel
theorem dX8_close_87 : decode cX8_close 87 = .ok (.goto (-41), 3) := by decide +kernel
theorem dX8_close_90 : decode cX8_close 90 = .ok (.aload_n 0, 1) := by decide +kernel
theorem dX8_close_91 : decode cX8_close 91 = .ok (.iload_n 1, 1) := by decide +kernel
theorem dX8_close_92 : decode cX8_close 92 = .ok (.iconst 2, 1) := by decide +kernel
theorem dX8_close_93 : decode cX8_close 93 = .ok (.iload_n 3, 1) := by decide +kernel
theorem dX8_close_94 : decode cX8_close 94 = .ok (.invokevirtual 130, 3) := by decide +kernel
theorem dX8_close_97 : decode cX8_close 97 = .ok (.iload 4, 2) := by decide +kernel
theorem dX8_close_99 : decode cX8_close 99 = .ok (.ireturn, 1) := by decide +kernel
set_option maxRecDepth 20000 in
theorem ggX8_all_X8_isWind : GoodIn wsX8_all wsX8_isWind := goodIn_r _ [5, 6, 7, 4, 8] (by decide +kernel) (by decide +kernel)
set_option maxRecDepth 20000 in
theorem gX8_all_X8_isWind : GoodIn wsX8_all (va_wsS RX8 140 yX8_isWind wsX8_isWind) := goodIn_app (goodIn_of _ (by decide +kernel)) ggX8_all_X8_isWind
set_option maxRecDepth 20000 in
theorem ggX8_all_X8_in : GoodIn wsX8_all wsX8_in := goodIn_r _ [8] (by decide +kernel) (by decide +kernel)
set_option maxRecDepth 20000 in
theorem gX8_all_X8_in : GoodIn wsX8_all (va_wsS RX8 40 yX8_in wsX8_in) := goodIn_app (goodIn_of _ (by decide +kernel)) ggX8_all_X8_in
set_option maxRecDepth 20000 in
theorem ggX8_all_X8_holds : GoodIn wsX8_all wsX8_holds := goodIn_r _ [12, 13, 14, 15, 4, 16, 17, 18, 19, 20, 1, 21, 22, 23, 24, 25, 26, 27, 28, 29, 30, 31, 32, 33, 34, 35, 36, 37, 38, 39, 40, 41, 42, 43, 44, 45, 46, 47, 48, 49, 50, 51, 52, 53, 62, 63, 64, 65, 66, 67, 68, 69, 70, 71, 72, 73, 74] (by decide +kernel) (by decide +kernel)
set_option maxRecDepth 20000 in
theorem gX8_all_X8_holds : GoodIn wsX8_all (wsV RX8 143 RX8 yX8_holds wsX8_holds) := goodIn_app (goodIn_of _ (by decide +kernel)) ggX8_all_X8_holds
set_option maxRecDepth 20000 in
theorem ggX8_all_X8_areApart : GoodIn wsX8_all wsX8_areApart := goodIn_r _ [57, 17, 18, 19, 4, 20, 1, 58, 59, 60, 61, 37, 13, 14, 15, 16, 25, 26, 27, 28, 29, 30, 31, 32, 33, 34, 35, 36, 38, 39, 40, 41, 42, 43, 44, 45, 46, 47, 48, 49, 62, 63, 64, 65, 66, 67, 68, 69, 70, 71, 72, 73, 74] (by decide +kernel) (by decide +kernel)
set_option maxRecDepth 20000 in
theorem gX8_all_X8_areApart : GoodIn wsX8_all (wsV RX8 152 RX8 yX8_areApart wsX8_areApart) := goodIn_app (goodIn_of _ (by decide +kernel)) ggX8_all_X8_areApart
theorem dX8_all_0 : decode cX8_all 0 = .ok (.iload_n 1, 1) := by decide +kernel
theorem dX8_all_1 : decode cX8_all 1 = .ok (.invokestatic 140, 3) := by decide +kernel
theorem dX8_all_4 : decode cX8_all 4 = .ok (.ifCond .eq 12, 3) := by decide +kernel
theorem dX8_all_7 : decode cX8_all 7 = .ok (.iload_n 2, 1) := by decide +kernel
theorem dX8_all_8 : decode cX8_all 8 = .ok (.iconst 0, 1) := by decide +kernel
theorem dX8_all_9 : decode cX8_all 9 = .ok (.iconst 1, 1) := by decide +kernel
theorem dX8_all_10 : decode cX8_all 10 = .ok (.invokestatic 40, 3) := by decide +kernel
theorem dX8_all_13 : decode cX8_all 13 = .ok (.ifCond .ne 5, 3) := by decide +kernel
theorem dX8_all_16 : decode cX8_all 16 = .ok (.iconst (-1), 1) := by decide +kernel
theorem dX8_all_17 : decode cX8_all 17 = .ok (.ireturn, 1) := by decide +kernel
theorem dX8_all_18 : decode cX8_all 18 = .ok (.iconst 0, 1) := by decide +kernel
theorem dX8_all_19 : decode cX8_all 19 = .ok (.istore_n 3, 1) := by decide +kernel
theorem dX8_all_20 : decode cX8_all 20 = .ok (.iconst 0, 1) := by decide +kernel
theorem dX8_all_21 : decode cX8_all 21 = .ok (.istore 4, 2) := by decide +kernel
theorem dX8_all_23 : decode cX8_all 23 = .ok (.iconst 0, 1) := by decide +kernel
theorem dX8_all_24 : decode cX8_all 24 = .ok (.istore 5, 2) := by decide +kernel
theorem dX8_all_26 : decode cX8_all 26 = .ok (.iload 5, 2) := by decide +kernel
theorem dX8_all_28 : decode cX8_all 28 = .ok (.aload_n 0, 1) := by decide +kernel
theorem dX8_all_29 : decode cX8_all 29 = .ok (.getfield 7, 3) := by decide +kernel
theorem dX8_all_32 : decode cX8_all 32 = .ok (.iconst 1, 1) := by decide +kernel
theorem dX8_all_33 : decode cX8_all 33 = .ok (.iaload, 1) := by decide +kernel
theorem dX8_all_34 : decode cX8_all 34 = .ok (.if_icmp .ge 77, 3) := by decide +kernel
theorem dX8_all_37 : decode cX8_all 37 = .ok (.iload_n 3, 1) := by decide +kernel
theorem dX8_all_38 : decode cX8_all 38 = .ok (.aload_n 0, 1) := by decide +kernel
theorem dX8_all_39 : decode cX8_all 39 = .ok (.iload 5, 2) := by decide +kernel
theorem dX8_all_41 : decode cX8_all 41 = .ok (.iload_n 1, 1) := by decide +kernel
theorem dX8_all_42 : decode cX8_all 42 = .ok (.invokevirtual 143, 3) := by decide +kernel
theorem dX8_all_45 : decode cX8_all 45 = .ok (.ifCond .eq 7, 3) := by decide +kernel
theorem dX8_all_48 : decode cX8_all 48 = .ok (.iconst 1, 1) := by decide +kernel
theorem dX8_all_49 : decode cX8_all 49 = .ok (.goto 4, 3) := by decide +kernel
theorem dX8_all_52 : decode cX8_all 52 = .ok (.iconst 0, 1) := by decide +kernel
theorem dX8_all_53 : decode cX8_all 53 = .ok (.iadd, 1) := by decide +kernel
theorem dX8_all_54 : decode cX8_all 54 = .ok (.istore_n 3, 1) := by decide +kernel
theorem dX8_all_55 : decode cX8_all 55 = .ok (.iload 5, 2) := by decide +kernel
theorem dX8_all_57 : decode cX8_all 57 = .ok (.iconst 1, 1) := by decide +kernel
theorem dX8_all_58 : decode cX8_all 58 = .ok (.iadd, 1) := by decide +kernel
theorem dX8_all_59 : decode cX8_all 59 = .ok (.istore 6, 2) := by decide +kernel
theorem dX8_all_61 : decode cX8_all 61 = .ok (.iload 6, 2) := by decide +kernel
theorem dX8_all_63 : decode cX8_all 63 = .ok (.aload_n 0, 1) := by decide +kernel
theorem dX8_all_64 : decode cX8_all 64 = .ok (.getfield 7, 3) := by decide +kernel
theorem dX8_all_67 : decode cX8_all 67 = .ok (.iconst 1, 1) := by decide +kernel
theorem dX8_all_68 : decode cX8_all 68 = .ok (.iaload, 1) := by decide +kernel
theorem dX8_all_69 : decode cX8_all 69 = .ok (.if_icmp .ge 36, 3) := by decide +kernel
theorem dX8_all_72 : decode cX8_all 72 = .ok (.iload_n 2, 1) := by decide +kernel
theorem dX8_all_73 : decode cX8_all 73 = .ok (.iconst 1, 1) := by decide +kernel
theorem dX8_all_74 : decode cX8_all 74 = .ok (.if_icmp .ne 31, 3) := by decide +kernel
theorem dX8_all_77 : decode cX8_all 77 = .ok (.iload 4, 2) := by decide +kernel
theorem dX8_all_79 : decode cX8_all 79 = .ok (.aload_n 0, 1) := by decide +kernel
theorem dX8_all_80 : decode cX8_all 80 = .ok (.iload 5, 2) := by decide +kernel
theorem dX8_all_82 : decode cX8_all 82 = .ok (.iload 6, 2) := by decide +kernel
theorem dX8_all_84 : decode cX8_all 84 = .ok (.iload_n 1, 1) := by decide +kernel
theorem dX8_all_85 : decode cX8_all 85 = .ok (.invokevirtual 152, 3) := by decide +kernel
theorem dX8_all_88 : decode cX8_all 88 = .ok (.ifCond .eq 7, 3) := by decide +kernel
theorem dX8_all_91 : decode cX8_all 91 = .ok (.iconst 0, 1) := by decide +kernel
theorem dX8_all_92 : decode cX8_all 92 = .ok (.goto 4, 3) := by decide +kernel
theorem dX8_all_95 : decode cX8_all 95 = .ok (.iconst 1, 1) := by decide +kernel
theorem dX8_all_96 : decode cX8_all 96 = .ok (.iadd, 1) := by decide +kernel
theorem dX8_all_97 : decode cX8_all 97 = .ok (.istore 4, 2) := by decide +kernel
theorem dX8_all_99 : decode cX8_all 99 = .ok (.iinc 6 1, 3) := by decide +kernel
theorem dX8_all_102 : decode cX8_all 102 = .ok (.goto (-41), 3) := by decide +kernel
theorem dX8_all_105 : decode cX8_all 105 = .ok (.iinc 5 1, 3) := by decide +kernel
theorem dX8_all_108 : decode cX8_all 108 = .ok (.goto (-82), 3) := by decide +kernel
theorem dX8_all_111 : decode cX8_all 111 = .ok (.iload_n 2, 1) := by decide +kernel
theorem dX8_all_112 : decode cX8_all 112 = .ok (.ifCond .ne 7, 3) := by decide +kernel
theorem dX8_all_115 : decode cX8_all 115 = .ok (.iload_n 3, 1) := by decide +kernel
theorem dX8_all_116 : decode cX8_all 116 = .ok (.goto 5, 3) := by decide +kernel
theorem dX8_all_119 : decode cX8_all 119 = .ok (.iload 4, 2) := by decide +kernel
theorem dX8_all_121 : decode cX8_all 121 = .ok (.ireturn, 1) := by decide +kernel
set_option maxRecDepth 20000 in
theorem ggX8_count_X8_of : GoodIn wsX8_count wsX8_of := goodIn_r _ [8, 1, 9, 10, 11, 12, 13, 14, 15, 16, 17, 18, 19, 20, 21] (by decide +kernel) (by decide +kernel)
set_option maxRecDepth 20000 in
theorem gX8_count_X8_of : GoodIn wsX8_count (wsV RX8 106 RX8 yX8_of wsX8_of) := goodIn_app (goodIn_of _ (by decide +kernel)) ggX8_count_X8_of
theorem dX8_count_0 : decode cX8_count 0 = .ok (.iconst 0, 1) := by decide +kernel
theorem dX8_count_1 : decode cX8_count 1 = .ok (.istore_n 2, 1) := by decide +kernel
theorem dX8_count_2 : decode cX8_count 2 = .ok (.iconst 0, 1) := by decide +kernel
theorem dX8_count_3 : decode cX8_count 3 = .ok (.istore_n 3, 1) := by decide +kernel
theorem dX8_count_4 : decode cX8_count 4 = .ok (.iconst 0, 1) := by decide +kernel
theorem dX8_count_5 : decode cX8_count 5 = .ok (.istore 4, 2) := by decide +kernel
theorem dX8_count_7 : decode cX8_count 7 = .ok (.iconst 0, 1) := by decide +kernel
theorem dX8_count_8 : decode cX8_count 8 = .ok (.istore 5, 2) := by decide +kernel
theorem dX8_count_10 : decode cX8_count 10 = .ok (.iload 5, 2) := by decide +kernel
theorem dX8_count_12 : decode cX8_count 12 = .ok (.aload_n 0, 1) := by decide +kernel
theorem dX8_count_13 : decode cX8_count 13 = .ok (.getfield 7, 3) := by decide +kernel
theorem dX8_count_16 : decode cX8_count 16 = .ok (.iconst 1, 1) := by decide +kernel
theorem dX8_count_17 : decode cX8_count 17 = .ok (.iaload, 1) := by decide +kernel
theorem dX8_count_18 : decode cX8_count 18 = .ok (.if_icmp .ge 68, 3) := by decide +kernel
theorem dX8_count_21 : decode cX8_count 21 = .ok (.iload_n 2, 1) := by decide +kernel
theorem dX8_count_22 : decode cX8_count 22 = .ok (.aload_n 0, 1) := by decide +kernel
theorem dX8_count_23 : decode cX8_count 23 = .ok (.iload 5, 2) := by decide +kernel
theorem dX8_count_25 : decode cX8_count 25 = .ok (.bipush 7, 2) := by decide +kernel
theorem dX8_count_27 : decode cX8_count 27 = .ok (.invokevirtual 106, 3) := by decide +kernel
theorem dX8_count_30 : decode cX8_count 30 = .ok (.iadd, 1) := by decide +kernel
theorem dX8_count_31 : decode cX8_count 31 = .ok (.istore_n 2, 1) := by decide +kernel
theorem dX8_count_32 : decode cX8_count 32 = .ok (.iload_n 3, 1) := by decide +kernel
theorem dX8_count_33 : decode cX8_count 33 = .ok (.aload_n 0, 1) := by decide +kernel
theorem dX8_count_34 : decode cX8_count 34 = .ok (.iload 5, 2) := by decide +kernel
theorem dX8_count_36 : decode cX8_count 36 = .ok (.bipush 9, 2) := by decide +kernel
theorem dX8_count_38 : decode cX8_count 38 = .ok (.invokevirtual 106, 3) := by decide +kernel
theorem dX8_count_41 : decode cX8_count 41 = .ok (.iadd, 1) := by decide +kernel
theorem dX8_count_42 : decode cX8_count 42 = .ok (.istore_n 3, 1) := by decide +kernel
theorem dX8_count_43 : decode cX8_count 43 = .ok (.iload 4, 2) := by decide +kernel
theorem dX8_count_45 : decode cX8_count 45 = .ok (.aload_n 0, 1) := by decide +kernel
theorem dX8_count_46 : decode cX8_count 46 = .ok (.iload 5, 2) := by decide +kernel
theorem dX8_count_48 : decode cX8_count 48 = .ok (.bipush 7, 2) := by decide +kernel
theorem dX8_count_50 : decode cX8_count 50 = .ok (.invokevirtual 106, 3) := by decide +kernel
theorem dX8_count_53 : decode cX8_count 53 = .ok (.iconst 1, 1) := by decide +kernel
theorem dX8_count_54 : decode cX8_count 54 = .ok (.if_icmp .ne 7, 3) := by decide +kernel
theorem dX8_count_57 : decode cX8_count 57 = .ok (.iconst 0, 1) := by decide +kernel
theorem dX8_count_58 : decode cX8_count 58 = .ok (.goto 19, 3) := by decide +kernel
theorem dX8_count_61 : decode cX8_count 61 = .ok (.aload_n 0, 1) := by decide +kernel
theorem dX8_count_62 : decode cX8_count 62 = .ok (.iload 5, 2) := by decide +kernel
theorem dX8_count_64 : decode cX8_count 64 = .ok (.iconst 2, 1) := by decide +kernel
theorem dX8_count_65 : decode cX8_count 65 = .ok (.invokevirtual 106, 3) := by decide +kernel
theorem dX8_count_68 : decode cX8_count 68 = .ok (.aload_n 0, 1) := by decide +kernel
theorem dX8_count_69 : decode cX8_count 69 = .ok (.iload 5, 2) := by decide +kernel
theorem dX8_count_71 : decode cX8_count 71 = .ok (.bipush 12, 2) := by decide +kernel
theorem dX8_count_73 : decode cX8_count 73 = .ok (.invokevirtual 106, 3) := by decide +kernel
theorem dX8_count_76 : decode cX8_count 76 = .ok (.iadd, 1) := by decide +kernel
theorem dX8_count_77 : decode cX8_count 77 = .ok (.iadd, 1) := by decide +kernel
theorem dX8_count_78 : decode cX8_count 78 = .ok (.istore 4, 2) := by decide +kernel
theorem dX8_count_80 : decode cX8_count 80 = .ok (.iinc 5 1, 3) := by decide +kernel
theorem dX8_count_83 : decode cX8_count 83 = .ok (.goto (-73), 3) := by decide +kernel
theorem dX8_count_86 : decode cX8_count 86 = .ok (.iload_n 1, 1) := by decide +kernel
theorem dX8_count_87 : decode cX8_count 87 = .ok (.tableswitch 83 0 7 #[45, 52, 59, 66, 68, 70, 73, 78], 45) := by decide +kernel
theorem dX8_count_132 : decode cX8_count 132 = .ok (.aload_n 0, 1) := by decide +kernel
theorem dX8_count_133 : decode cX8_count 133 = .ok (.getfield 7, 3) := by decide +kernel
theorem dX8_count_136 : decode cX8_count 136 = .ok (.iconst 0, 1) := by decide +kernel
theorem dX8_count_137 : decode cX8_count 137 = .ok (.iaload, 1) := by decide +kernel
theorem dX8_count_138 : decode cX8_count 138 = .ok (.ireturn, 1) := by decide +kernel
theorem dX8_count_139 : decode cX8_count 139 = .ok (.aload_n 0, 1) := by decide +kernel
theorem dX8_count_140 : decode cX8_count 140 = .ok (.getfield 7, 3) := by decide +kernel
theorem dX8_count_143 : decode cX8_count 143 = .ok (.iconst 1, 1) := by decide +kernel
theorem dX8_count_144 : decode cX8_count 144 = .ok (.iaload, 1) := by decide +kernel
theorem dX8_count_145 : decode cX8_count 145 = .ok (.ireturn, 1) := by decide +kernel
theorem dX8_count_146 : decode cX8_count 146 = .ok (.aload_n 0, 1) := by decide +kernel
theorem dX8_count_147 : decode cX8_count 147 = .ok (.getfield 7, 3) := by decide +kernel
theorem dX8_count_150 : decode cX8_count 150 = .ok (.iconst 2, 1) := by decide +kernel
theorem dX8_count_151 : decode cX8_count 151 = .ok (.iaload, 1) := by decide +kernel
theorem dX8_count_152 : decode cX8_count 152 = .ok (.ireturn, 1) := by decide +kernel
theorem dX8_count_153 : decode cX8_count 153 = .ok (.iload_n 2, 1) := by decide +kernel
theorem dX8_count_154 : decode cX8_count 154 = .ok (.ireturn, 1) := by decide +kernel
theorem dX8_count_155 : decode cX8_count 155 = .ok (.iload_n 3, 1) := by decide +kernel
theorem dX8_count_156 : decode cX8_count 156 = .ok (.ireturn, 1) := by decide +kernel
theorem dX8_count_157 : decode cX8_count 157 = .ok (.iload 4, 2) := by decide +kernel
theorem dX8_count_159 : decode cX8_count 159 = .ok (.ireturn, 1) := by decide +kernel
theorem dX8_count_160 : decode cX8_count 160 = .ok (.aload_n 0, 1) := by decide +kernel
theorem dX8_count_161 : decode cX8_count 161 = .ok (.getfield 72, 3) := by decide +kernel
theorem dX8_count_164 : decode cX8_count 164 = .ok (.ireturn, 1) := by decide +kernel
theorem dX8_count_165 : decode cX8_count 165 = .ok (.aload_n 0, 1) := by decide +kernel
theorem dX8_count_166 : decode cX8_count 166 = .ok (.getfield 44, 3) := by decide +kernel
theorem dX8_count_169 : decode cX8_count 169 = .ok (.ireturn, 1) := by decide +kernel
theorem dX8_count_170 : decode cX8_count 170 = .ok (.iconst (-1), 1) := by decide +kernel
theorem dX8_count_171 : decode cX8_count 171 = .ok (.ireturn, 1) := by decide +kernel
theorem dJ9_max_7cf53_0 : decode cJ9_max_7cf53 0 = .ok (.iload_n 0, 1) := by decide +kernel
theorem dJ9_max_7cf53_1 : decode cJ9_max_7cf53 1 = .ok (.iload_n 1, 1) := by decide +kernel
theorem dJ9_max_7cf53_2 : decode cJ9_max_7cf53 2 = .ok (.if_icmp .lt 7, 3) := by decide +kernel
theorem dJ9_max_7cf53_5 : decode cJ9_max_7cf53 5 = .ok (.iload_n 0, 1) := by decide +kernel
theorem dJ9_max_7cf53_6 : decode cJ9_max_7cf53 6 = .ok (.goto 4, 3) := by decide +kernel
theorem dJ9_max_7cf53_9 : decode cJ9_max_7cf53 9 = .ok (.iload_n 1, 1) := by decide +kernel
theorem dJ9_max_7cf53_10 : decode cJ9_max_7cf53 10 = .ok (.ireturn, 1) := by decide +kernel
theorem dJ9_min_7cf53_0 : decode cJ9_min_7cf53 0 = .ok (.iload_n 0, 1) := by decide +kernel
theorem dJ9_min_7cf53_1 : decode cJ9_min_7cf53 1 = .ok (.iload_n 1, 1) := by decide +kernel
theorem dJ9_min_7cf53_2 : decode cJ9_min_7cf53 2 = .ok (.if_icmp .gt 7, 3) := by decide +kernel
theorem dJ9_min_7cf53_5 : decode cJ9_min_7cf53 5 = .ok (.iload_n 0, 1) := by decide +kernel
theorem dJ9_min_7cf53_6 : decode cJ9_min_7cf53 6 = .ok (.goto 4, 3) := by decide +kernel
theorem dJ9_min_7cf53_9 : decode cJ9_min_7cf53 9 = .ok (.iload_n 1, 1) := by decide +kernel
theorem dJ9_min_7cf53_10 : decode cJ9_min_7cf53 10 = .ok (.ireturn, 1) := by decide +kernel
set_option maxRecDepth 20000 in
theorem ggJ0_length_8abf5_J0_coder_7d493 : GoodIn wsJ0_length_8abf5 wsJ0_coder_7d493 := goodIn_r _ [6, 7, 8] (by decide +kernel) (by decide +kernel)
set_option maxRecDepth 20000 in
theorem gJ0_length_8abf5_J0_coder_7d493 : GoodIn wsJ0_length_8abf5 (wsV RJ0 335 RJ0 yJ0_coder_7d493 wsJ0_coder_7d493) := goodIn_app (goodIn_of _ (by decide +kernel)) ggJ0_length_8abf5_J0_coder_7d493
theorem dJ0_length_8abf5_0 : decode cJ0_length_8abf5 0 = .ok (.aload_n 0, 1) := by decide +kernel
theorem dJ0_length_8abf5_1 : decode cJ0_length_8abf5 1 = .ok (.getfield 9, 3) := by decide +kernel
theorem dJ0_length_8abf5_4 : decode cJ0_length_8abf5 4 = .ok (.arraylength, 1) := by decide +kernel
theorem dJ0_length_8abf5_5 : decode cJ0_length_8abf5 5 = .ok (.aload_n 0, 1) := by decide +kernel
theorem dJ0_length_8abf5_6 : decode cJ0_length_8abf5 6 = .ok (.invokevirtual 335, 3) := by decide +kernel
theorem dJ0_length_8abf5_9 : decode cJ0_length_8abf5 9 = .ok (.ishr, 1) := by decide +kernel
theorem dJ0_length_8abf5_10 : decode cJ0_length_8abf5 10 = .ok (.ireturn, 1) := by decide +kernel
set_option maxRecDepth 20000 in
theorem ggJ0_charAt_5068e_J0_isLatin1_aae02 : GoodIn wsJ0_charAt_5068e wsJ0_isLatin1_aae02 := goodIn_r _ [6, 7, 8] (by decide +kernel) (by decide +kernel)
set_option maxRecDepth 20000 in
theorem gJ0_charAt_5068e_J0_isLatin1_aae02 : GoodIn wsJ0_charAt_5068e (wsV RJ0 492 RJ0 yJ0_isLatin1_aae02 wsJ0_isLatin1_aae02) := goodIn_app (goodIn_of _ (by decide +kernel)) ggJ0_charAt_5068e_J0_isLatin1_aae02
set_option maxRecDepth 20000 in
theorem ggJ0_charAt_5068e_J1_charAt_3b067 : GoodIn wsJ0_charAt_5068e wsJ1_charAt_3b067 := goodIn_r _ [12, 13, 14, 5, 15, 16, 17, 18, 19, 20] (by decide +kernel) (by decide +kernel)
set_option maxRecDepth 20000 in
theorem gJ0_charAt_5068e_J1_charAt_3b067 : GoodIn wsJ0_charAt_5068e (va_wsS RJ0 495 yJ1_charAt_3b067 wsJ1_charAt_3b067) := goodIn_app (goodIn_of _ (by decide +kernel)) ggJ0_charAt_5068e_J1_charAt_3b067
set_option maxRecDepth 20000 in
theorem ggJ0_charAt_5068e_J2_charAt_3b067 : GoodIn wsJ0_charAt_5068e wsJ2_charAt_3b067 := goodIn_r _ [24, 25, 26, 23, 27, 28, 29, 30, 31, 14, 5, 15, 16, 17, 18, 19, 20, 32, 33, 34, 35, 36, 37] (by decide +kernel) (by decide +kernel)
set_option maxRecDepth 20000 in
theorem gJ0_charAt_5068e_J2_charAt_3b067 : GoodIn wsJ0_charAt_5068e (va_wsS RJ0 498 yJ2_charAt_3b067 wsJ2_charAt_3b067) := goodIn_app (goodIn_of _ (by decide +kernel)) ggJ0_charAt_5068e_J2_charAt_3b067
theorem dJ0_charAt_5068e_0 : decode cJ0_charAt_5068e 0 = .ok (.aload_n 0, 1) := by decide +kernel
theorem dJ0_charAt_5068e_1 : decode cJ0_charAt_5068e 1 = .ok (.invokevirtual 492, 3) := by decide +kernel
theorem dJ0_charAt_5068e_4 : decode cJ0_charAt_5068e 4 = .ok (.ifCond .eq 12, 3) := by decide +kernel
theorem dJ0_charAt_5068e_7 : decode cJ0_charAt_5068e 7 = .ok (.aload_n 0, 1) := by decide +kernel
theorem dJ0_charAt_5068e_8 : decode cJ0_charAt_5068e 8 = .ok (.getfield 9, 3) := by decide +kernel
theorem dJ0_charAt_5068e_11 : decode cJ0_charAt_5068e 11 = .ok (.iload_n 1, 1) := by decide +kernel
theorem dJ0_charAt_5068e_12 : decode cJ0_charAt_5068e 12 = .ok (.invokestatic 495, 3) := by decide +kernel
theorem dJ0_charAt_5068e_15 : decode cJ0_charAt_5068e 15 = .ok (.ireturn, 1) := by decide +kernel
theorem dJ0_charAt_5068e_16 : decode cJ0_charAt_5068e 16 = .ok (.aload_n 0, 1) := by decide +kernel
theorem dJ0_charAt_5068e_17 : decode cJ0_charAt_5068e 17 = .ok (.getfield 9, 3) := by decide +kernel
theorem dJ0_charAt_5068e_20 : decode cJ0_charAt_5068e 20 = .ok (.iload_n 1, 1) := by decide +kernel
theorem dJ0_charAt_5068e_21 : decode cJ0_charAt_5068e 21 = .ok (.invokestatic 498, 3) := by decide +kernel
theorem dJ0_charAt_5068e_24 : decode cJ0_charAt_5068e 24 = .ok (.ireturn, 1) := by decide +kernel
theorem dJ0_coder_7d493_0 : decode cJ0_coder_7d493 0 = .ok (.getstatic 38, 3) := by decide +kernel
theorem dJ0_coder_7d493_3 : decode cJ0_coder_7d493 3 = .ok (.ifCond .eq 10, 3) := by decide +kernel
theorem dJ0_coder_7d493_6 : decode cJ0_coder_7d493 6 = .ok (.aload_n 0, 1) := by decide +kernel
theorem dJ0_coder_7d493_7 : decode cJ0_coder_7d493 7 = .ok (.getfield 15, 3) := by decide +kernel
theorem dJ0_coder_7d493_10 : decode cJ0_coder_7d493 10 = .ok (.goto 4, 3) := by decide +kernel
theorem dJ0_coder_7d493_13 : decode cJ0_coder_7d493 13 = .ok (.iconst 1, 1) := by decide +kernel
theorem dJ0_coder_7d493_14 : decode cJ0_coder_7d493 14 = .ok (.ireturn, 1) := by decide +kernel
theorem dJ0_isLatin1_aae02_0 : decode cJ0_isLatin1_aae02 0 = .ok (.getstatic 38, 3) := by decide +kernel
theorem dJ0_isLatin1_aae02_3 : decode cJ0_isLatin1_aae02 3 = .ok (.ifCond .eq 14, 3) := by decide +kernel
theorem dJ0_isLatin1_aae02_6 : decode cJ0_isLatin1_aae02 6 = .ok (.aload_n 0, 1) := by decide +kernel
theorem dJ0_isLatin1_aae02_7 : decode cJ0_isLatin1_aae02 7 = .ok (.getfield 15, 3) := by decide +kernel
theorem dJ0_isLatin1_aae02_10 : decode cJ0_isLatin1_aae02 10 = .ok (.ifCond .ne 7, 3) := by decide +kernel
theorem dJ0_isLatin1_aae02_13 : decode cJ0_isLatin1_aae02 13 = .ok (.iconst 1, 1) := by decide +kernel
theorem dJ0_isLatin1_aae02_14 : decode cJ0_isLatin1_aae02 14 = .ok (.goto 4, 3) := by decide +kernel
theorem dJ0_isLatin1_aae02_17 : decode cJ0_isLatin1_aae02 17 = .ok (.iconst 0, 1) := by decide +kernel
theorem dJ0_isLatin1_aae02_18 : decode cJ0_isLatin1_aae02 18 = .ok (.ireturn, 1) := by decide +kernel
set_option maxRecDepth 20000 in
theorem ggJ0_checkIndex_df160_J3_checkIndex_8e157 : GoodIn wsJ0_checkIndex_df160 wsJ3_checkIndex_8e157 := goodIn_r _ [5] (by decide +kernel) (by decide +kernel)
set_option maxRecDepth 20000 in
theorem gJ0_checkIndex_df160_J3_checkIndex_8e157 : GoodIn wsJ0_checkIndex_df160 (va_wsS RJ0 1059 yJ3_checkIndex_8e157 wsJ3_checkIndex_8e157) := goodIn_app (goodIn_of _ (by decide +kernel)) ggJ0_checkIndex_df160_J3_checkIndex_8e157
theorem dJ0_checkIndex_df160_0 : decode cJ0_checkIndex_df160 0 = .ok (.iload_n 0, 1) := by decide +kernel
theorem dJ0_checkIndex_df160_1 : decode cJ0_checkIndex_df160 1 = .ok (.iload_n 1, 1) := by decide +kernel
theorem dJ0_checkIndex_df160_2 : decode cJ0_checkIndex_df160 2 = .ok (.getstatic 1053, 3) := by decide +kernel
theorem dJ0_checkIndex_df160_5 : decode cJ0_checkIndex_df160 5 = .ok (.invokestatic 1059, 3) := by decide +kernel
theorem dJ0_checkIndex_df160_8 : decode cJ0_checkIndex_df160 8 = .ok (.pop, 1) := by decide +kernel
theorem dJ0_checkIndex_df160_9 : decode cJ0_checkIndex_df160 9 = .ok (.return_, 1) := by decide +kernel
set_option maxRecDepth 20000 in
theorem ggJ1_charAt_3b067_J0_checkIndex_df160 : GoodIn wsJ1_charAt_3b067 wsJ0_checkIndex_df160 := goodIn_r _ [4, 5, 6, 7, 8, 9] (by decide +kernel) (by decide +kernel)
set_option maxRecDepth 20000 in
theorem gJ1_charAt_3b067_J0_checkIndex_df160 : GoodIn wsJ1_charAt_3b067 (va_wsS RJ1 9 yJ0_checkIndex_df160 wsJ0_checkIndex_df160) := goodIn_app (goodIn_of _ (by decide +kernel)) ggJ1_charAt_3b067_J0_checkIndex_df160
theorem dJ1_charAt_3b067_0 : decode cJ1_charAt_3b067 0 = .ok (.iload_n 1, 1) := by decide +kernel
theorem dJ1_charAt_3b067_1 : decode cJ1_charAt_3b067 1 = .ok (.aload_n 0, 1) := by decide +kernel
theorem dJ1_charAt_3b067_2 : decode cJ1_charAt_3b067 2 = .ok (.arraylength, 1) := by decide +kernel
theorem dJ1_charAt_3b067_3 : decode cJ1_charAt_3b067 3 = .ok (.invokestatic 9, 3) := by decide +kernel
theorem dJ1_charAt_3b067_6 : decode cJ1_charAt_3b067 6 = .ok (.aload_n 0, 1) := by decide +kernel
theorem dJ1_charAt_3b067_7 : decode cJ1_charAt_3b067 7 = .ok (.iload_n 1, 1) := by decide +kernel
theorem dJ1_charAt_3b067_8 : decode cJ1_charAt_3b067 8 = .ok (.baload, 1) := by decide +kernel
theorem dJ1_charAt_3b067_9 : decode cJ1_charAt_3b067 9 = .ok (.sipush 255, 3) := by decide +kernel
theorem dJ1_charAt_3b067_12 : decode cJ1_charAt_3b067 12 = .ok (.iand, 1) := by decide +kernel
theorem dJ1_charAt_3b067_13 : decode cJ1_charAt_3b067 13 = .ok (.i2c, 1) := by decide +kernel
theorem dJ1_charAt_3b067_14 : decode cJ1_charAt_3b067 14 = .ok (.ireturn, 1) := by decide +kernel
set_option maxRecDepth 20000 in
theorem ggJ2_getChar_3b067_J2_length_9d52b : GoodIn wsJ2_getChar_3b067 wsJ2_length_9d52b := goodIn_r _ [7] (by decide +kernel) (by decide +kernel)
set_option maxRecDepth 20000 in
theorem gJ2_getChar_3b067_J2_length_9d52b : GoodIn wsJ2_getChar_3b067 (va_wsS RJ2 48 yJ2_length_9d52b wsJ2_length_9d52b) := goodIn_app (goodIn_of _ (by decide +kernel)) ggJ2_getChar_3b067_J2_length_9d52b
theorem dJ2_getChar_3b067_0 : decode cJ2_getChar_3b067 0 = .ok (.getstatic 44, 3) := by decide +kernel
theorem dJ2_getChar_3b067_3 : decode cJ2_getChar_3b067 3 = .ok (.ifCond .ne 25, 3) := by decide +kernel
theorem dJ2_getChar_3b067_6 : decode cJ2_getChar_3b067 6 = .ok (.iload_n 1, 1) := by decide +kernel
theorem dJ2_getChar_3b067_7 : decode cJ2_getChar_3b067 7 = .ok (.ifCond .lt 11, 3) := by decide +kernel
theorem dJ2_getChar_3b067_10 : decode cJ2_getChar_3b067 10 = .ok (.iload_n 1, 1) := by decide +kernel
theorem dJ2_getChar_3b067_11 : decode cJ2_getChar_3b067 11 = .ok (.aload_n 0, 1) := by decide +kernel
theorem dJ2_getChar_3b067_12 : decode cJ2_getChar_3b067 12 = .ok (.invokestatic 48, 3) := by decide +kernel
theorem dJ2_getChar_3b067_15 : decode cJ2_getChar_3b067 15 = .ok (.if_icmp .lt 13, 3) := by decide +kernel
theorem dJ2_getChar_3b067_18 : decode cJ2_getChar_3b067 18 = .ok (.new 52, 3) := by decide +kernel
theorem dJ2_getChar_3b067_21 : decode cJ2_getChar_3b067 21 = .ok (.dup, 1) := by decide +kernel
theorem dJ2_getChar_3b067_22 : decode cJ2_getChar_3b067 22 = .ok (.ldc 54, 2) := by decide +kernel
theorem dJ2_getChar_3b067_24 : decode cJ2_getChar_3b067 24 = .ok (.invokespecial 56, 3) := by decide +kernel
theorem dJ2_getChar_3b067_27 : decode cJ2_getChar_3b067 27 = .ok (.athrow, 1) := by decide +kernel
theorem dJ2_getChar_3b067_28 : decode cJ2_getChar_3b067 28 = .ok (.iload_n 1, 1) := by decide +kernel
theorem dJ2_getChar_3b067_29 : decode cJ2_getChar_3b067 29 = .ok (.iconst 1, 1) := by decide +kernel
theorem dJ2_getChar_3b067_30 : decode cJ2_getChar_3b067 30 = .ok (.ishl, 1) := by decide +kernel
theorem dJ2_getChar_3b067_31 : decode cJ2_getChar_3b067 31 = .ok (.istore_n 1, 1) := by decide +kernel
theorem dJ2_getChar_3b067_32 : decode cJ2_getChar_3b067 32 = .ok (.aload_n 0, 1) := by decide +kernel
theorem dJ2_getChar_3b067_33 : decode cJ2_getChar_3b067 33 = .ok (.iload_n 1, 1) := by decide +kernel
theorem dJ2_getChar_3b067_34 : decode cJ2_getChar_3b067 34 = .ok (.iinc 1 1, 3) := by decide +kernel
theorem dJ2_getChar_3b067_37 : decode cJ2_getChar_3b067 37 = .ok (.baload, 1) := by decide +kernel
theorem dJ2_getChar_3b067_38 : decode cJ2_getChar_3b067 38 = .ok (.sipush 255, 3) := by decide +kernel
theorem dJ2_getChar_3b067_41 : decode cJ2_getChar_3b067 41 = .ok (.iand, 1) := by decide +kernel
theorem dJ2_getChar_3b067_42 : decode cJ2_getChar_3b067 42 = .ok (.getstatic 59, 3) := by decide +kernel
theorem dJ2_getChar_3b067_45 : decode cJ2_getChar_3b067 45 = .ok (.ishl, 1) := by decide +kernel
theorem dJ2_getChar_3b067_46 : decode cJ2_getChar_3b067 46 = .ok (.aload_n 0, 1) := by decide +kernel
theorem dJ2_getChar_3b067_47 : decode cJ2_getChar_3b067 47 = .ok (.iload_n 1, 1) := by decide +kernel
theorem dJ2_getChar_3b067_48 : decode cJ2_getChar_3b067 48 = .ok (.baload, 1) := by decide +kernel
theorem dJ2_getChar_3b067_49 : decode cJ2_getChar_3b067 49 = .ok (.sipush 255, 3) := by decide +kernel
theorem dJ2_getChar_3b067_52 : decode cJ2_getChar_3b067 52 = .ok (.iand, 1) := by decide +kernel
theorem dJ2_getChar_3b067_53 : decode cJ2_getChar_3b067 53 = .ok (.getstatic 63, 3) := by decide +kernel
theorem dJ2_getChar_3b067_56 : decode cJ2_getChar_3b067 56 = .ok (.ishl, 1) := by decide +kernel
theorem dJ2_getChar_3b067_57 : decode cJ2_getChar_3b067 57 = .ok (.ior, 1) := by decide +kernel
theorem dJ2_getChar_3b067_58 : decode cJ2_getChar_3b067 58 = .ok (.i2c, 1) := by decide +kernel
theorem dJ2_getChar_3b067_59 : decode cJ2_getChar_3b067 59 = .ok (.ireturn, 1) := by decide +kernel
theorem dJ2_length_9d52b_0 : decode cJ2_length_9d52b 0 = .ok (.aload_n 0, 1) := by decide +kernel
theorem dJ2_length_9d52b_1 : decode cJ2_length_9d52b 1 = .ok (.arraylength, 1) := by decide +kernel
theorem dJ2_length_9d52b_2 : decode cJ2_length_9d52b 2 = .ok (.iconst 1, 1) := by decide +kernel
theorem dJ2_length_9d52b_3 : decode cJ2_length_9d52b 3 = .ok (.ishr, 1) := by decide +kernel
theorem dJ2_length_9d52b_4 : decode cJ2_length_9d52b 4 = .ok (.ireturn, 1) := by decide +kernel
set_option maxRecDepth 20000 in
theorem ggJ2_charAt_3b067_J2_checkIndex_2214a : GoodIn wsJ2_charAt_3b067 wsJ2_checkIndex_2214a := goodIn_r _ [4, 5, 6, 3, 7, 8, 9, 10, 11, 12, 13, 14, 15, 16] (by decide +kernel) (by decide +kernel)
set_option maxRecDepth 20000 in
theorem gJ2_charAt_3b067_J2_checkIndex_2214a : GoodIn wsJ2_charAt_3b067 (va_wsS RJ2 67 yJ2_checkIndex_2214a wsJ2_checkIndex_2214a) := goodIn_app (goodIn_of _ (by decide +kernel)) ggJ2_charAt_3b067_J2_checkIndex_2214a
set_option maxRecDepth 20000 in
theorem ggJ2_charAt_3b067_J2_getChar_3b067 : GoodIn wsJ2_charAt_3b067 wsJ2_getChar_3b067 := goodIn_r _ [19, 20, 21, 22, 5, 6, 3, 7] (by decide +kernel) (by decide +kernel)
set_option maxRecDepth 20000 in
theorem gJ2_charAt_3b067_J2_getChar_3b067 : GoodIn wsJ2_charAt_3b067 (va_wsS RJ2 71 yJ2_getChar_3b067 wsJ2_getChar_3b067) := goodIn_app (goodIn_of _ (by decide +kernel)) ggJ2_charAt_3b067_J2_getChar_3b067
theorem dJ2_charAt_3b067_0 : decode cJ2_charAt_3b067 0 = .ok (.iload_n 1, 1) := by decide +kernel
theorem dJ2_charAt_3b067_1 : decode cJ2_charAt_3b067 1 = .ok (.aload_n 0, 1) := by decide +kernel
theorem dJ2_charAt_3b067_2 : decode cJ2_charAt_3b067 2 = .ok (.invokestatic 67, 3) := by decide +kernel
theorem dJ2_charAt_3b067_5 : decode cJ2_charAt_3b067 5 = .ok (.aload_n 0, 1) := by decide +kernel
theorem dJ2_charAt_3b067_6 : decode cJ2_charAt_3b067 6 = .ok (.iload_n 1, 1) := by decide +kernel
theorem dJ2_charAt_3b067_7 : decode cJ2_charAt_3b067 7 = .ok (.invokestatic 71, 3) := by decide +kernel
theorem dJ2_charAt_3b067_10 : decode cJ2_charAt_3b067 10 = .ok (.ireturn, 1) := by decide +kernel
set_option maxRecDepth 20000 in
theorem ggJ2_checkIndex_2214a_J2_length_9d52b : GoodIn wsJ2_checkIndex_2214a wsJ2_length_9d52b := goodIn_r _ [4] (by decide +kernel) (by decide +kernel)
set_option maxRecDepth 20000 in
theorem gJ2_checkIndex_2214a_J2_length_9d52b : GoodIn wsJ2_checkIndex_2214a (va_wsS RJ2 48 yJ2_length_9d52b wsJ2_length_9d52b) := goodIn_app (goodIn_of _ (by decide +kernel)) ggJ2_checkIndex_2214a_J2_length_9d52b
set_option maxRecDepth 20000 in
theorem ggJ2_checkIndex_2214a_J0_checkIndex_df160 : GoodIn wsJ2_checkIndex_2214a wsJ0_checkIndex_df160 := goodIn_r _ [8, 9, 10, 11, 12, 13] (by decide +kernel) (by decide +kernel)
set_option maxRecDepth 20000 in
theorem gJ2_checkIndex_2214a_J0_checkIndex_df160 : GoodIn wsJ2_checkIndex_2214a (va_wsS RJ2 414 yJ0_checkIndex_df160 wsJ0_checkIndex_df160) := goodIn_app (goodIn_of _ (by decide +kernel)) ggJ2_checkIndex_2214a_J0_checkIndex_df160
theorem dJ2_checkIndex_2214a_0 : decode cJ2_checkIndex_2214a 0 = .ok (.iload_n 0, 1) := by decide +kernel
theorem dJ2_checkIndex_2214a_1 : decode cJ2_checkIndex_2214a 1 = .ok (.aload_n 1, 1) := by decide +kernel
theorem dJ2_checkIndex_2214a_2 : decode cJ2_checkIndex_2214a 2 = .ok (.invokestatic 48, 3) := by decide +kernel
theorem dJ2_checkIndex_2214a_5 : decode cJ2_checkIndex_2214a 5 = .ok (.invokestatic 414, 3) := by decide +kernel
theorem dJ2_checkIndex_2214a_8 : decode cJ2_checkIndex_2214a 8 = .ok (.return_, 1) := by decide +kernel
theorem dJ3_checkIndex_8e157_0 : decode cJ3_checkIndex_8e157 0 = .ok (.iload_n 0, 1) := by decide +kernel
theorem dJ3_checkIndex_8e157_1 : decode cJ3_checkIndex_8e157 1 = .ok (.ifCond .lt 8, 3) := by decide +kernel
theorem dJ3_checkIndex_8e157_4 : decode cJ3_checkIndex_8e157 4 = .ok (.iload_n 0, 1) := by decide +kernel
theorem dJ3_checkIndex_8e157_5 : decode cJ3_checkIndex_8e157 5 = .ok (.iload_n 1, 1) := by decide +kernel
theorem dJ3_checkIndex_8e157_6 : decode cJ3_checkIndex_8e157 6 = .ok (.if_icmp .lt 10, 3) := by decide +kernel
theorem dJ3_checkIndex_8e157_9 : decode cJ3_checkIndex_8e157 9 = .ok (.aload_n 2, 1) := by decide +kernel
theorem dJ3_checkIndex_8e157_10 : decode cJ3_checkIndex_8e157 10 = .ok (.iload_n 0, 1) := by decide +kernel
theorem dJ3_checkIndex_8e157_11 : decode cJ3_checkIndex_8e157 11 = .ok (.iload_n 1, 1) := by decide +kernel
theorem dJ3_checkIndex_8e157_12 : decode cJ3_checkIndex_8e157 12 = .ok (.invokestatic 95, 3) := by decide +kernel
theorem dJ3_checkIndex_8e157_15 : decode cJ3_checkIndex_8e157 15 = .ok (.athrow, 1) := by decide +kernel
theorem dJ3_checkIndex_8e157_16 : decode cJ3_checkIndex_8e157 16 = .ok (.iload_n 0, 1) := by decide +kernel
theorem dJ3_checkIndex_8e157_17 : decode cJ3_checkIndex_8e157 17 = .ok (.ireturn, 1) := by decide +kernel
end
section
/-! CORE: a world of n cells, cell k at address ad k, its contents by a row of ints (references inside are fixed by ad) -/
def kW (n : Nat) (ad : Nat → Nat) (kc : Nat → (Nat → Int32) → va_E) (σ : Nat → Nat → Int32) : va_W := (List.range n).map (fun k => (ad k, kc k (σ k)))
theorem kW_at {n : Nat} {ad : Nat → Nat} {kc : Nat → (Nat → Int32) → va_E} {σ : Nat → Nat → Int32} {k : Nat} (h : k < n) : (kW n ad kc σ)[k]? = some (ad k, kc k (σ k)) := by
  unfold kW
  rw [List.getElem?_map, List.getElem?_range h]
  rfl
theorem kW_in {n : Nat} {ad : Nat → Nat} {kc : Nat → (Nat → Int32) → va_E} {σ : Nat → Nat → Int32} {k : Nat} {q : Nat × va_E} (h : (kW n ad kc σ)[k]? = some q) : k < n ∧ q = (ad k, kc k (σ k)) := by
  have hk : k < n := by
    have h1 := (List.getElem?_eq_some_iff.mp h).1
    unfold kW at h1
    rwa [List.length_map, List.length_range] at h1
  rw [kW_at hk] at h
  exact ⟨hk, (Option.some.inj h).symm⟩
theorem kW_set {n : Nat} {ad : Nat → Nat} {kc : Nat → (Nat → Int32) → va_E} {σ : Nat → Nat → Int32} {k : Nat} (r : Nat → Int32) (h : k < n) : (kW n ad kc σ).set k (ad k, kc k r) = kW n ad kc (va_up σ k r) := by
  apply List.ext_getElem?
  intro j
  have hl : (kW n ad kc σ).length = n := by unfold kW; rw [List.length_map, List.length_range]
  by_cases hj : j < n
  · rw [kW_at hj]
    by_cases e : j = k
    · subst e
      rw [List.getElem?_set_self (by rw [hl]; exact hj)]
      simp [va_up]
    · rw [List.getElem?_set_ne (Ne.symm e), kW_at hj]
      simp [va_up, e]
  · have h1 : ∀ w : va_W, w.length = n → w[j]? = none := fun w hw => List.getElem?_eq_none (by omega)
    rw [h1 _ (by rw [List.length_set]; exact hl), h1 _ (by unfold kW; rw [List.length_map, List.length_range])]
/-- what a method may change: its world's cells, and new ones -/
def kA (n : Nat) (ad : Nat → Nat) (sz : Nat) : Nat → Prop := fun q => (∃ k, k < n ∧ q = ad k) ∨ sz ≤ q
theorem kD {n : Nat} {ad : Nat → Nat} {kc : Nat → (Nat → Int32) → va_E} {σ σ' : Nat → Nat → Int32} {A : Nat → Prop} (h : va_D A (kW n ad kc σ)) : va_D A (kW n ad kc σ') := by
  refine ⟨fun i j p q hi hj e => ?_, fun k q hk => ?_⟩
  · obtain ⟨h1, rfl⟩ := kW_in hi
    obtain ⟨h2, rfl⟩ := kW_in hj
    exact h.1 i j _ _ (kW_at h1) (kW_at h2) e
  · obtain ⟨h1, rfl⟩ := kW_in hk
    exact h.2 k (ad k, kc k (σ k)) (kW_at h1)
theorem kD_A {n : Nat} {ad : Nat → Nat} {kc : Nat → (Nat → Int32) → va_E} {σ σ' : Nat → Nat → Int32} {A : Nat → Prop} (h : va_D A (kW n ad kc σ)) (sz : Nat) : va_D (kA n ad sz) (kW n ad kc σ') :=
  ⟨(kD h).1, fun k q hk => by obtain ⟨h1, rfl⟩ := kW_in hk; exact Or.inl ⟨k, h1, rfl⟩⟩
/-- the array classes: chars, ints, ships, rows of ints -/
def kty (cy : Nat → ClassId) : List (ClassId × FieldType) := [(cy 0, .char), (cy 1, .int), (cy 2, .object "ChainLays$Ship"), (cy 3, .array .int)]
/-- a static array of ints -/
def kZ (C n : String) (L : List Int32) (A : Nat → Prop) (U : State) (H : Heap) : Prop := ∃ t : Nat, va_Z C n "[I" (.ref t) A U H ∧ va_T .int t L.length (fun j => .int (L.getD j 0)) A U H
def kRUNS : List Int32 := [10, 9, 9, 9, 9, 8, 8, 7, 6, 4, 0]
def kLEAST : List Int32 := [0, 0, 1, 1, 1, 1, 10]
def kMOST : List Int32 := [0, 19, 60, 5, 9, 9, 999]
/-- the nest's private links -/
def kN (U : State) : Prop := va_Nw (.methodLinkNest RX5 53 yX7_within RX7) U ∧ va_Nw (.methodLinkNest RX6 63 yX7_oneIf RX7) U ∧ va_Nw (.methodLinkNest RX1 59 yX7_within RX7) U ∧ va_Nw (.methodLinkNest RX1 145 yX7_oneIf RX7) U
/-- what stands about a world: the classes, the nest's links, the static arrays -/
def kE (cy : Nat → ClassId) (D : va_G) (A : Nat → Prop) (U : State) (H : Heap) : Prop :=
  va_K D vwCl (kty cy) U ∧ kN U ∧ kZ RX2 "RUNS" kRUNS A U H ∧ kZ RX5 "LEAST" kLEAST A U H ∧ kZ RX5 "MOST" kMOST A U H
theorem kZ_to {C n : String} {L : List Int32} {A B : Nat → Prop} {s U : State} {H H1 : Heap} (h : kZ C n L A s H) (hvm : s.vm.Alike U.vm) (hq : ∀ a : Nat, a < H.size → ¬ A a → H1[a]? = H[a]?) (hAB : ∀ q, B q → A q) : kZ C n L B U H1 := by
  obtain ⟨t, h1, h2⟩ := h
  exact ⟨t, ((h1.kept hq).moved hvm).narrow hAB, ((h2.kept hq).moved hvm).narrow hAB⟩
theorem kN_to {s U : State} (hW : s.WarmedH U.vm) (h : kN s) : kN U := ⟨va_Nw.warmM hW h.1, va_Nw.warmM hW h.2.1, va_Nw.warmM hW h.2.2.1, va_Nw.warmM hW h.2.2.2⟩
theorem kE_to {cy : Nat → ClassId} {D : va_G} {A B : Nat → Prop} {s U : State} {H H1 : Heap} (h : kE cy D A s H) (hW : s.WarmedH U.vm) (hq : ∀ a : Nat, a < H.size → ¬ A a → H1[a]? = H[a]?) (hAB : ∀ q, B q → A q) : kE cy D B U H1 :=
  ⟨va_K.moved hW.alike h.1, kN_to hW h.2.1, kZ_to h.2.2.1 hW.alike hq hAB, kZ_to h.2.2.2.1 hW.alike hq hAB, kZ_to h.2.2.2.2 hW.alike hq hAB⟩
theorem kE_same {cy : Nat → ClassId} {D : va_G} {A : Nat → Prop} {u U : State} {H : Heap} (hvm : u.vm = U.vm) (h : kE cy D A u H) : kE cy D A U H := by
  have ha : u.vm.Alike U.vm := by rw [hvm]; exact Vm.Alike.refl _
  exact ⟨va_K.moved ha h.1, ⟨va_Nw.same rfl hvm h.2.1.1, va_Nw.same rfl hvm h.2.1.2.1, va_Nw.same rfl hvm h.2.1.2.2.1, va_Nw.same rfl hvm h.2.1.2.2.2⟩, kZ_to h.2.2.1 ha (fun _ _ _ => rfl) (fun _ h => h), kZ_to h.2.2.2.1 ha (fun _ _ _ => rfl) (fun _ h => h), kZ_to h.2.2.2.2 ha (fun _ _ _ => rfl) (fun _ h => h)⟩
/-- a method's start -/
def kPre (n : Nat) (ad : Nat → Nat) (kc : Nat → (Nat → Int32) → va_E) (cy : Nat → ClassId) (D : va_G) (σ : Nat → Nat → Int32) (sz : Nat) (U : State) : Prop :=
  U.heap.size = sz ∧ va_P D vwCl (kW n ad kc σ) U.heap ∧ va_D (fun _ => True) (kW n ad kc σ) ∧ kE cy D (kA n ad sz) U U.heap
/-- a method's end -/
def kB (n : Nat) (ad : Nat → Nat) (kc : Nat → (Nat → Int32) → va_E) (D : va_G) (σ : Nat → Nat → Int32) (t : State) : Prop := va_P D vwCl (kW n ad kc σ) t.heap
/-- inside a method -/
def kI (n : Nat) (ad : Nat → Nat) (kc : Nat → (Nat → Int32) → va_E) (D : va_G) (A : Nat → Prop) (H0 : Heap) (σ : Nat → Nat → Int32) (H : Heap) (locs : List Loc) : Prop :=
  va_P D vwCl (kW n ad kc σ) H ∧ va_D A (kW n ad kc σ) ∧ va_S A H0 H locs
/-- contracts: an int, nothing, a reference or null; rows in, rows out -/
def kMi (n : Nat) (ad : Nat → Nat) (kc : Nat → (Nat → Int32) → va_E) (cy : Nat → ClassId) (D : va_G) (l : Launch) (y : MethodName) (ws : List Cond) (rm : Room) (av : List Value) (σ : Nat → Nat → Int32) (post : Int32 → (Nat → Nat → Int32) → Prop) : Prop :=
  ∀ sz : Nat, Met l y ws rm (va_Pc av (kPre n ad kc cy D σ sz)) (va_Qi post (kB n ad kc D) (kA n ad sz)) 0 0 (kA n ad sz)
def kMv (n : Nat) (ad : Nat → Nat) (kc : Nat → (Nat → Int32) → va_E) (cy : Nat → ClassId) (D : va_G) (l : Launch) (y : MethodName) (ws : List Cond) (rm : Room) (av : List Value) (σ : Nat → Nat → Int32) (post : (Nat → Nat → Int32) → Prop) : Prop :=
  ∀ sz : Nat, Met l y ws rm (va_Pc av (kPre n ad kc cy D σ sz)) (va_Qv post (kB n ad kc D) (kA n ad sz)) 0 0 (kA n ad sz)
def kMq (n : Nat) (ad : Nat → Nat) (kc : Nat → (Nat → Int32) → va_E) (cy : Nat → ClassId) (D : va_G) (l : Launch) (y : MethodName) (ws : List Cond) (rm : Room) (av : List Value) (σ : Nat → Nat → Int32) (post : Option Nat → (Nat → Nat → Int32) → Prop) : Prop :=
  ∀ sz : Nat, Met l y ws rm (va_Pc av (kPre n ad kc cy D σ sz)) (va_Qq post (kB n ad kc D) (kA n ad sz)) 0 0 (kA n ad sz)
/-- a static method over numbers alone -/
def kMs (l : Launch) (y : MethodName) (ws : List Cond) (rm : Room) (av : List Value) (post : Int32 → Prop) : Prop :=
  Met l y ws rm (fun v _ => v = av.toArray) (vp_Si post) 0 0 (fun _ => False)
section KENTRY
variable {n : Nat} {ad : Nat → Nat} {kc : Nat → (Nat → Int32) → va_E} {cy : Nat → ClassId} {D : va_G} {l : Launch} {y : MethodName} {ws ws' : List Cond} {rm : Room} {av : List Value} {σ : Nat → Nat → Int32} {cc : ByteArray} {maxL : Nat} {ret : Option FieldType}
theorem k_entry {Qc : Nat → Array Value → State → Outcome → State → Prop} (hy : plainName y.cls = true) (hw : ws = Cond.code y cc maxL ret :: ws') (hlen : (lg_sl av).length ≤ maxL)
    (body : ∀ (p : Program) (e : Env) (s : State) (m : MethodId) (below : List Frame) (meth : Method) (c : Code), p.tables.exec = Jvm.exec → c.code = cc → meth.sig.returnType = ret → c.maxLocals = maxL → s.vm.findClass y.cls = some m.cls → (∀ w ∈ ws, w.before av.toArray s = true) → meth.locks = false →
      kE cy D (kA n ad s.heap.size) s s.heap → kI n ad kc D (kA n ad s.heap.size) s.heap σ s.heap [] → ∀ ls : Array Slot, lv_has ls maxL (lv_args 0 av) →
      W p l e (headSpec ws rm).room s m av.toArray below meth c s.heap [] 0 0 (MQ below (Qc s.heap.size) av.toArray s 0 0 (kA n ad s.heap.size)) (F0 m 0 ls [])) :
    ∀ sz : Nat, Met l y ws rm (va_Pc av (kPre n ad kc cy D σ sz)) (Qc sz) 0 0 (kA n ad sz) := by
  intro sz
  refine Met.ofW (cc := cc) (maxL := maxL) (ret := ret) hy hw ?_
  intro p e s m args below meth c s₁ B hml hv
  obtain ⟨rfl, hsz, hP, hD, hE⟩ := hv
  subst hsz
  have hl := lv_entry av (n := maxL) hlen
  rw [lg_entry_eq]
  exact body p e s m below meth c B.exec B.bytes B.returns hml (findClass_of_methodNamed B.named) (atoms_spec (ws := ws) B.pre) B.notSynchronized hE ⟨hP, kD_A hD _, va_S.rf⟩ _ hl
theorem k_entryS {post : Int32 → Prop} (hy : plainName y.cls = true) (hw : ws = Cond.code y cc maxL ret :: ws') (hlen : (lg_sl av).length ≤ maxL)
    (body : ∀ (p : Program) (e : Env) (s : State) (m : MethodId) (below : List Frame) (meth : Method) (c : Code), p.tables.exec = Jvm.exec → c.code = cc → meth.sig.returnType = ret → c.maxLocals = maxL → s.vm.findClass y.cls = some m.cls → (∀ w ∈ ws, w.before av.toArray s = true) → meth.locks = false →
      ∀ ls : Array Slot, lv_has ls maxL (lv_args 0 av) →
      W p l e (headSpec ws rm).room s m av.toArray below meth c s.heap [] 0 0 (MQ below (vp_Si post) av.toArray s 0 0 (fun _ => False)) (F0 m 0 ls [])) :
    kMs l y ws rm av post := by
  refine Met.ofW (cc := cc) (maxL := maxL) (ret := ret) hy hw ?_
  intro p e s m args below meth c s₁ B hml hv
  subst hv
  have hl := lv_entry av (n := maxL) hlen
  rw [lg_entry_eq]
  exact body p e s m below meth c B.exec B.bytes B.returns hml (findClass_of_methodNamed B.named) (atoms_spec (ws := ws) B.pre) B.notSynchronized _ hl
end KENTRY
section KROWS
variable {p : Program} {l : Launch} {e : Env} {R : Room} {s : State} {m : MethodId} {args : Array Value} {below : List Frame} {meth : Method} {c : Code} {H : Heap} {locs : List Loc} {cells slots : Nat} {Q : State → Prop}
variable {cc : ByteArray} {pc : Nat} {ls : Array Slot} {rest st0 : List Value} {n : Nat} {ad : Nat → Nat} {kc : Nat → (Nat → Int32) → va_E} {cy : Nat → ClassId} {D : va_G} {A : Nat → Prop} {σ : Nat → Nat → Int32} {H0 : Heap}
theorem kI_put {H1 : Heap} {locs1 : List Loc} {k : Nat} {e1 : va_E} (r : Nat → Int32) (hk : k < n) (he : e1 = kc k r) (h1 : va_P D vwCl ((kW n ad kc σ).set k (ad k, e1)) H1) (h2 : va_D A ((kW n ad kc σ).set k (ad k, e1))) (h3 : va_S A H0 H1 locs1) : kI n ad kc D A H0 (va_up σ k r) H1 locs1 := by
  rw [he, kW_set r hk] at h1 h2
  exact ⟨h1, h2, h3⟩
/-- getfield of cell k -/
theorem k_get {own C : String} {T : u_T} {N ci index : Nat} {Ts : List Cond} {fs : List Value} {v : Value} (hx : p.tables.exec = Jvm.exec) (hb : c.code = cc) (hts : ∀ w ∈ Ts, w.before args s = true) (hown : s.vm.findClass own = some m.cls) (E : kE cy D A s s.heap) (I : kI n ad kc D A H0 σ H locs) (hin : ∀ w ∈ u_ws C T N, w ∈ Ts)
    (k : Nat) (hk : k < n) {r0 : Nat → Int32} (hr0 : σ k = r0) (hc : kc k r0 = .inr (ci, fs)) (hcl : vwCl[ci]? = some (C, T, N)) (j : Nat) (hj : j < N) (hw : Cond.fieldLink own index (T j).1 (T j).2.1 (T j).2.2.1 ∈ Ts) (hv : fs[j]? = some v) (hdg : decode cc pc = .ok (.getfield index, 3))
    (kk : W p l e R s m args below meth c H locs cells slots Q (F0 m (pc + 3) ls (v :: rest))) : W p l e R s m args below meth c H locs cells slots Q (F0 m pc ls (.ref (ad k) :: rest)) :=
  va_get hx hb hts hin hown E.1 I.1 k (by rw [kW_at hk, hr0, hc]) hcl j hj (hts _ hw) (fun _ h9 => h9) hv hdg kk
/-- putfield of cell k: its row is r then -/
theorem k_put {own C : String} {T : u_T} {N ci index : Nat} {Ts : List Cond} {fs : List Value} {v : Value} {ty0 : Nat → FieldType} {ty : FieldType} (hx : p.tables.exec = Jvm.exec) (hb : c.code = cc) (hts : ∀ w ∈ Ts, w.before args s = true) (hown : s.vm.findClass own = some m.cls) (E : kE cy D A s s.heap) (I : kI n ad kc D A H0 σ H locs) (hin : ∀ w ∈ u_ws C T N, w ∈ Ts) (hty : ∀ k, k < N → parseFieldDescriptor (T k).2.2.1 = some (ty0 k)) (hnm : ∀ a, a < N → ∀ b, b < N → a ≠ b → (T a).2.1 ≠ (T b).2.1)
    (k : Nat) (hk : k < n) {r0 : Nat → Int32} (hr0 : σ k = r0) (hc : kc k r0 = .inr (ci, fs)) (hcl : vwCl[ci]? = some (C, T, N)) (j : Nat) (hj : j < N) (hw : Cond.fieldLink own index (T j).1 (T j).2.1 (T j).2.2.1 ∈ Ts) (hfin : (T j).2.2.2 = false) (hd : ty0 j = ty) (hn : narrow ty v = v) (hfit : fits ty v = true) (hl : j < fs.length) (r : Nat → Int32) (hset : .inr (ci, fs.set j v) = kc k r) {σ2 : Nat → Nat → Int32} (hσ : va_up σ k r = σ2) (hdg : decode cc pc = .ok (.putfield index, 3))
    (kk : ∀ (H1 : Heap) (locs1 : List Loc), kI n ad kc D A H0 σ2 H1 locs1 → W p l e R s m args below meth c H1 locs1 cells slots Q (F0 m (pc + 3) ls rest)) : W p l e R s m args below meth c H locs cells slots Q (F0 m pc ls (v :: .ref (ad k) :: rest)) :=
  va_put (v := v) (ty := ty) hx hb hts hin ty0 hty hnm hown E.1 I.1 I.2.1 I.2.2 k (by rw [kW_at hk, hr0, hc]) hcl j hj (hts _ hw) (fun _ h9 => h9) hfin (by rw [hty j hj, hd]) hn hfit hl hdg (fun H1 locs1 h1 h2 h3 => kk H1 locs1 (hσ ▸ kI_put r hk hset h1 h2 h3))
/-- iaload, iastore, arraylength, aaload of cell k -/
theorem k_iald {len : Nat} {i : Int32} (hx : p.tables.exec = Jvm.exec) (hb : c.code = cc) (E : kE cy D A s s.heap) (I : kI n ad kc D A H0 σ H locs) (k : Nat) (hk : k < n) {r0 : Nat → Int32} (hr0 : σ k = r0) (hc : kc k r0 = .inl (cy 1, len, .inl r0)) (hin : vp_in i len) (hdg : decode cc pc = .ok (.iaload, 1))
    (kk : W p l e R s m args below meth c H locs cells slots Q (F0 m (pc + 1) ls (.int (r0 i.toNatClampNeg) :: rest))) : W p l e R s m args below meth c H locs cells slots Q (F0 m pc ls (.int i :: .ref (ad k) :: rest)) :=
  va_iald hx hb E.1 I.1 k 1 (by rw [kW_at hk, hr0, hc]) rfl hin hdg kk
theorem k_iast {len : Nat} {i x : Int32} (hx : p.tables.exec = Jvm.exec) (hb : c.code = cc) (E : kE cy D A s s.heap) (I : kI n ad kc D A H0 σ H locs) (k : Nat) (hk : k < n) {r0 : Nat → Int32} (hr0 : σ k = r0) (hc : ∀ r, kc k r = .inl (cy 1, len, .inl r)) (hin : vp_in i len) {σ2 : Nat → Nat → Int32} (hσ : va_up σ k (upd r0 i.toNatClampNeg x) = σ2) (hdg : decode cc pc = .ok (.iastore, 1))
    (kk : ∀ (H1 : Heap) (locs1 : List Loc), kI n ad kc D A H0 σ2 H1 locs1 → W p l e R s m args below meth c H1 locs1 cells slots Q (F0 m (pc + 1) ls rest)) : W p l e R s m args below meth c H locs cells slots Q (F0 m pc ls (.int x :: .int i :: .ref (ad k) :: rest)) :=
  va_iast hx hb E.1 I.1 I.2.1 I.2.2 k 1 (by rw [kW_at hk, hr0, hc]) rfl hin hdg (fun H1 locs1 h1 h2 h3 => kk H1 locs1 (hσ ▸ kI_put _ hk (hc _).symm h1 h2 h3))
theorem k_cald {len : Nat} {i : Int32} (hx : p.tables.exec = Jvm.exec) (hb : c.code = cc) (E : kE cy D A s s.heap) (I : kI n ad kc D A H0 σ H locs) (k : Nat) (hk : k < n) {r0 : Nat → Int32} (hr0 : σ k = r0) (hc : kc k r0 = .inl (cy 0, len, .inl r0)) (hin : vp_in i len) (hdg : decode cc pc = .ok (.caload, 1))
    (kk : W p l e R s m args below meth c H locs cells slots Q (F0 m (pc + 1) ls (.int (r0 i.toNatClampNeg) :: rest))) : W p l e R s m args below meth c H locs cells slots Q (F0 m pc ls (.int i :: .ref (ad k) :: rest)) :=
  va_cald hx hb E.1 I.1 k 0 (by rw [kW_at hk, hr0, hc]) rfl hin hdg kk
theorem k_cast {len : Nat} {i x : Int32} (hx : p.tables.exec = Jvm.exec) (hb : c.code = cc) (E : kE cy D A s s.heap) (I : kI n ad kc D A H0 σ H locs) (k : Nat) (hk : k < n) {r0 : Nat → Int32} (hr0 : σ k = r0) (hc : ∀ r, kc k r = .inl (cy 0, len, .inl r)) (hin : vp_in i len) {σ2 : Nat → Nat → Int32} (hσ : va_up σ k (upd r0 i.toNatClampNeg (vp_nar .char x)) = σ2) (hdg : decode cc pc = .ok (.castore, 1))
    (kk : ∀ (H1 : Heap) (locs1 : List Loc), kI n ad kc D A H0 σ2 H1 locs1 → W p l e R s m args below meth c H1 locs1 cells slots Q (F0 m (pc + 1) ls rest)) : W p l e R s m args below meth c H locs cells slots Q (F0 m pc ls (.int x :: .int i :: .ref (ad k) :: rest)) :=
  va_cast hx hb E.1 I.1 I.2.1 I.2.2 k 0 (by rw [kW_at hk, hr0, hc]) rfl hin hdg (fun H1 locs1 h1 h2 h3 => kk H1 locs1 (hσ ▸ kI_put _ hk (hc _).symm h1 h2 h3))
theorem k_alen {len : Nat} {t0 : Nat} {ty : FieldType} {cA : ClassId} {z : (Nat → Int32) ⊕ (Nat → Int64) ⊕ (Nat → UInt32) ⊕ (Nat → UInt64) ⊕ (Nat → Option Nat)} (hx : p.tables.exec = Jvm.exec) (hb : c.code = cc) (E : kE cy D A s s.heap) (I : kI n ad kc D A H0 σ H locs) (k : Nat) (hk : k < n) (hc : kc k (σ k) = .inl (cA, len, z)) (ht : (kty cy)[t0]? = some (cA, ty)) (hdg : decode cc pc = .ok (.arraylength, 1))
    (kk : W p l e R s m args below meth c H locs cells slots Q (F0 m (pc + 1) ls (.int (nI len) :: rest))) : W p l e R s m args below meth c H locs cells slots Q (F0 m pc ls (.ref (ad k) :: rest)) :=
  va_alen (x := (len, z)) hx hb E.1 I.1 k t0 (by rw [kW_at hk, hc]) ht rfl hdg kk
theorem k_aldS {len : Nat} {i : Int32} {f : Nat → Option Nat} (hx : p.tables.exec = Jvm.exec) (hb : c.code = cc) (E : kE cy D A s s.heap) (I : kI n ad kc D A H0 σ H locs) (k : Nat) (hk : k < n) (hc : kc k (σ k) = .inl (cy 2, len, .inr (.inr (.inr (.inr f))))) (hin : vp_in i len) {a : Nat} (ha : f i.toNatClampNeg = some a) (hdg : decode cc pc = .ok (.aaload, 1))
    (kk : W p l e R s m args below meth c H locs cells slots Q (F0 m (pc + 1) ls (.ref a :: rest))) : W p l e R s m args below meth c H locs cells slots Q (F0 m pc ls (.int i :: .ref (ad k) :: rest)) :=
  va_aldq hx hb E.1 I.1 k 2 (by rw [kW_at hk, hc]) rfl hin hdg (by rw [ha]; exact kk)
theorem k_aldA {len : Nat} {i : Int32} {f : Nat → Option Nat} (hx : p.tables.exec = Jvm.exec) (hb : c.code = cc) (E : kE cy D A s s.heap) (I : kI n ad kc D A H0 σ H locs) (k : Nat) (hk : k < n) (hc : kc k (σ k) = .inl (cy 3, len, .inr (.inr (.inr (.inr f))))) (hin : vp_in i len) {a : Nat} (ha : f i.toNatClampNeg = some a) (hdg : decode cc pc = .ok (.aaload, 1))
    (kk : W p l e R s m args below meth c H locs cells slots Q (F0 m (pc + 1) ls (.ref a :: rest))) : W p l e R s m args below meth c H locs cells slots Q (F0 m pc ls (.int i :: .ref (ad k) :: rest)) := by
  have hlt : i.toNatClampNeg < len := Nat.not_le.mp fun q => hin (Or.inr q)
  have h0 : va_at D vwCl (ad k, .inl (cy 3, len, .inr (.inr (.inr (.inr f))))) H := I.1 k _ (by rw [kW_at hk, hc])
  exact W.aald (v := va_rf (f i.toNatClampNeg)) (ty := .array .int) hx hb h0 ((E.1.2 3 (cy 3, .array .int) rfl).1 len (fun j => va_rf (f j))) rfl (fun q => by cases q) (by show ¬ (i < 0 ∨ (arrV _ _ _).slots.size ≤ _); rw [arrV_size]; exact hin) (by show (arrV _ _ _).slots[_]? = _; rw [arrV_read _ _ hlt]) rfl rfl hdg (by rw [ha]; exact kk)
/-- a static array's place, length -/
theorem k_gets {C nm own : String} {L : List Int32} {index : Nat} (hx : p.tables.exec = Jvm.exec) (hb : c.code = cc) {Ts : List Cond} (hts : ∀ w ∈ Ts, w.before args s = true) (hown : s.vm.findClass own = some m.cls) (hZ : kZ C nm L A s s.heap) (hS : va_S A s.heap H locs) (hw : Cond.fieldLink own index C nm "[I" ∈ Ts) (hdg : decode cc pc = .ok (.getstatic index, 3))
    (kk : ∀ t : Nat, va_T .int t L.length (fun j => .int (L.getD j 0)) A s s.heap → W p l e R s m args below meth c H locs cells slots Q (F0 m (pc + 3) ls (.ref t :: rest))) : W p l e R s m args below meth c H locs cells slots Q (F0 m pc ls rest) := by
  obtain ⟨t, h1, h2⟩ := hZ
  exact va_gets hx hb h1 hS hown (hts _ hw) (fun _ h => h) hdg (kk t h2)
theorem k_blind {av : List Value} {sz : Nat} : FrameBlind (va_Pc av (kPre n ad kc cy D σ sz)) := by
  intro a U g mk q
  obtain ⟨q0, q1, q2, q3, q4⟩ := q
  exact ⟨q0, q1, q2, q3, kE_same (u := U) rfl q4⟩
theorem k_pre {av : List Value} (E : kE cy D A s s.heap) (hA : ∀ q, s.heap.size ≤ q → A q) (I : kI n ad kc D A s.heap σ H locs) : ∀ U : State, U.heap = H → s.WarmedH U.vm → va_Pc av (kPre n ad kc cy D σ H.size) av.toArray U := by
  intro U hU hW
  refine ⟨rfl, by rw [hU], by rw [hU]; exact I.1, I.2.1.weaken (fun _ _ _ _ => trivial), ?_⟩
  refine kE_to E hW (fun a h1 h2 => by rw [hU]; exact I.2.2.2.1 a h1 h2) (fun q h => ?_)
  rcases h with ⟨k, hk, rfl⟩ | h
  · exact I.2.1.2 k _ (kW_at hk)
  · exact hA q (Nat.le_trans I.2.2.1 h)
theorem k_sub (hA : ∀ q, s.heap.size ≤ q → A q) (I : kI n ad kc D A s.heap σ H locs) : ∀ q, kA n ad H.size q → A q := by
  intro q h
  rcases h with ⟨k, hk, rfl⟩ | h
  · exact I.2.1.2 k _ (kW_at hk)
  · exact hA q (Nat.le_trans I.2.2.1 h)
variable {y : MethodName} {bytes : ByteArray} {maxL nL na index : Nat} {ret : Option FieldType} {ws Ts : List Cond} {rm : Room} {own C : String} {As : List Value}
theorem k_recv {k ci : Nat} {T : u_T} {N : Nat} {fs : List Value} (E : kE cy D A s s.heap) (I : kI n ad kc D A H0 σ H locs) (hk : k < n) (hc : kc k (σ k) = .inr (ci, fs)) (hcl : vwCl[ci]? = some (C, T, N)) : ∃ cell : Cell, H[ad k]? = some cell ∧ cell.vm.isStatics = false ∧ s.vm.findClass C = some cell.cls :=
  va_recv (q := (C, T, N)) E.1 I.1 hcl (q0 := k) (by rw [kW_at hk, hc])
/-- calls of a method of an object of the world -/
theorem k_calli {post : Int32 → (Nat → Nat → Int32) → Prop} {k : Nat} (S : CallFix p m c cc nL s args Ts own) (hM : kMi n ad kc cy D l y ws rm (.ref (ad k) :: As) σ post) (cw : CallW R s args own C index y bytes maxL ret ws rm 0 0 na) (E : kE cy D A s s.heap) (hA : ∀ q, s.heap.size ≤ q → A q) (I : kI n ad kc D A s.heap σ H locs) (hr : ∃ cell : Cell, H[ad k]? = some cell ∧ cell.vm.isStatics = false ∧ s.vm.findClass C = some cell.cls)
    (hn : As.length = na) (hsize : ls.size = nL) (hstack : st0 = As.reverse ++ .ref (ad k) :: rest) (hW : 2 * (F0 m pc ls st0).monitorRoom + (rest.map fun v => v.category).sum ≤ 8) (hdg : decode cc pc = .ok (.invokevirtual index, 3)) (hf : cells + 0 ≤ R.cells ∧ slots + 0 ≤ R.slots)
    (kk : ∀ (r : Int32) (σ' : Nat → Nat → Int32) (H1 : Heap) (locs1 : List Loc), post r σ' → kI n ad kc D A s.heap σ' H1 locs1 → W p l e R s m args below meth c H1 locs1 cells slots Q (F0 m (pc + 3) ls (.int r :: rest))) : W p l e R s m args below meth c H locs cells slots Q (F0 m pc ls st0) :=
  va_calli (va_runV S (hM H.size) cw ⟨k_blind, hr, k_pre E hA I⟩ rfl hn hsize hstack hW hdg hf) I.2.2 (fun q _ h => k_sub hA I q h) (k_sub hA I) (fun r σ' t H1 locs1 ht _ hp hB _ _ hS => kk r σ' H1 locs1 hp ⟨by rw [← ht]; exact hB, kD I.2.1, hS⟩)
theorem k_callv {post : (Nat → Nat → Int32) → Prop} {k : Nat} (S : CallFix p m c cc nL s args Ts own) (hM : kMv n ad kc cy D l y ws rm (.ref (ad k) :: As) σ post) (cw : CallW R s args own C index y bytes maxL ret ws rm 0 0 na) (E : kE cy D A s s.heap) (hA : ∀ q, s.heap.size ≤ q → A q) (I : kI n ad kc D A s.heap σ H locs) (hr : ∃ cell : Cell, H[ad k]? = some cell ∧ cell.vm.isStatics = false ∧ s.vm.findClass C = some cell.cls)
    (hn : As.length = na) (hsize : ls.size = nL) (hstack : st0 = As.reverse ++ .ref (ad k) :: rest) (hW : 2 * (F0 m pc ls st0).monitorRoom + (rest.map fun v => v.category).sum ≤ 8) (hdg : decode cc pc = .ok (.invokevirtual index, 3)) (hf : cells + 0 ≤ R.cells ∧ slots + 0 ≤ R.slots)
    (kk : ∀ (σ' : Nat → Nat → Int32) (H1 : Heap) (locs1 : List Loc), post σ' → kI n ad kc D A s.heap σ' H1 locs1 → W p l e R s m args below meth c H1 locs1 cells slots Q (F0 m (pc + 3) ls rest)) : W p l e R s m args below meth c H locs cells slots Q (F0 m pc ls st0) :=
  va_callv (va_runV S (hM H.size) cw ⟨k_blind, hr, k_pre E hA I⟩ rfl hn hsize hstack hW hdg hf) I.2.2 (fun q _ h => k_sub hA I q h) (k_sub hA I) (fun σ' t H1 locs1 ht _ hp hB _ _ hS => kk σ' H1 locs1 hp ⟨by rw [← ht]; exact hB, kD I.2.1, hS⟩)
theorem k_callq {post : Option Nat → (Nat → Nat → Int32) → Prop} {k : Nat} (S : CallFix p m c cc nL s args Ts own) (hM : kMq n ad kc cy D l y ws rm (.ref (ad k) :: As) σ post) (cw : CallW R s args own C index y bytes maxL ret ws rm 0 0 na) (E : kE cy D A s s.heap) (hA : ∀ q, s.heap.size ≤ q → A q) (I : kI n ad kc D A s.heap σ H locs) (hr : ∃ cell : Cell, H[ad k]? = some cell ∧ cell.vm.isStatics = false ∧ s.vm.findClass C = some cell.cls)
    (hn : As.length = na) (hsize : ls.size = nL) (hstack : st0 = As.reverse ++ .ref (ad k) :: rest) (hW : 2 * (F0 m pc ls st0).monitorRoom + (rest.map fun v => v.category).sum ≤ 8) (hdg : decode cc pc = .ok (.invokevirtual index, 3)) (hf : cells + 0 ≤ R.cells ∧ slots + 0 ≤ R.slots)
    (kk : ∀ (r : Option Nat) (σ' : Nat → Nat → Int32) (H1 : Heap) (locs1 : List Loc), post r σ' → kI n ad kc D A s.heap σ' H1 locs1 → W p l e R s m args below meth c H1 locs1 cells slots Q (F0 m (pc + 3) ls (va_rf r :: rest))) : W p l e R s m args below meth c H locs cells slots Q (F0 m pc ls st0) :=
  va_callq (va_runV S (hM H.size) cw ⟨k_blind, hr, k_pre E hA I⟩ rfl hn hsize hstack hW hdg hf) I.2.2 (fun q _ h => k_sub hA I q h) (k_sub hA I) (fun r σ' t H1 locs1 ht _ hp hB _ _ hS => kk r σ' H1 locs1 hp ⟨by rw [← ht]; exact hB, kD I.2.1, hS⟩)
/-- calls of a static method over numbers: of the own class, of the nest's host -/
theorem k_calls {post : Int32 → Prop} (S : CallFix p m c cc nL s args Ts own) (hM : kMs l y ws rm As post) (cw : CallB R s args own index y bytes maxL ret ws rm 0 0 na ∧ (Cond.static y).before args s = true)
    (hn : As.length = na) (hsize : ls.size = nL) (hstack : st0 = As.reverse ++ rest) (hW : 2 * (F0 m pc ls st0).monitorRoom + (rest.map fun v => v.category).sum ≤ 8) (hdg : decode cc pc = .ok (.invokestatic index, 3)) (hf : cells + 0 ≤ R.cells ∧ slots + 0 ≤ R.slots)
    (kk : ∀ r : Int32, post r → W p l e R s m args below meth c H locs cells slots Q (F0 m (pc + 3) ls (.int r :: rest))) : W p l e R s m args below meth c H locs cells slots Q (F0 m pc ls st0) :=
  vp_callSi (W.runS S hM cw preEq rfl hn hsize hstack hW hdg hf) kk
theorem k_callsN {post : Int32 → Prop} {host : String} (S : CallFix p m c cc nL s args Ts own) (hM : kMs l y ws rm As post) (cw : va_CN R s args own index y host bytes maxL ret ws rm 0 0 na ∧ (Cond.static y).before args s = true ∧ True)
    (hn : As.length = na) (hsize : ls.size = nL) (hstack : st0 = As.reverse ++ rest) (hW : 2 * (F0 m pc ls st0).monitorRoom + (rest.map fun v => v.category).sum ≤ 8) (hdg : decode cc pc = .ok (.invokestatic index, 3)) (hf : cells + 0 ≤ R.cells ∧ slots + 0 ≤ R.slots)
    (kk : ∀ r : Int32, post r → W p l e R s m args below meth c H locs cells slots Q (F0 m (pc + 3) ls (.int r :: rest))) : W p l e R s m args below meth c H locs cells slots Q (F0 m pc ls st0) :=
  vp_callSi (va_runSN S hM cw preEq rfl hn hsize hstack hW hdg hf).run kk
end KROWS
section KRET
variable {p : Program} {l : Launch} {e : Env} {R : Room} {s : State} {m : MethodId} {args : Array Value} {below : List Frame} {meth : Method} {c : Code} {H : Heap} {locs : List Loc}
variable {cc : ByteArray} {pc : Nat} {ls : Array Slot} {n : Nat} {ad : Nat → Nat} {kc : Nat → (Nat → Int32) → va_E} {D : va_G} {σ : Nat → Nat → Int32}
theorem k_iret {post : Int32 → (Nat → Nat → Int32) → Prop} {v : Int32} (hx : p.tables.exec = Jvm.exec) (hb : c.code = cc) (hr : meth.sig.returnType = some .int) (hlk : meth.locks = false) (I : kI n ad kc D (kA n ad s.heap.size) s.heap σ H locs) (hdg : decode cc pc = .ok (.ireturn, 1)) (hp : post v σ) :
    W p l e R s m args below meth c H locs 0 0 (MQ below (va_Qi post (kB n ad kc D) (kA n ad s.heap.size)) args s 0 0 (kA n ad s.heap.size)) (F0 m pc ls [.int v]) :=
  W.iret hx hb hr (fun t ht hW => ⟨⟨v, σ, rfl, hp, by unfold kB; rw [ht]; exact I.1⟩, I.2.2.F ht⟩) I.2.2.2.2 hdg hlk
theorem k_zret {post : Int32 → (Nat → Nat → Int32) → Prop} {v : Int32} {ty : FieldType} (hx : p.tables.exec = Jvm.exec) (hb : c.code = cc) (hr : meth.sig.returnType = some ty) (hn : narrow ty (.int v) = .int v) (hlk : meth.locks = false) (I : kI n ad kc D (kA n ad s.heap.size) s.heap σ H locs) (hdg : decode cc pc = .ok (.ireturn, 1)) (hp : post v σ) :
    W p l e R s m args below meth c H locs 0 0 (MQ below (va_Qi post (kB n ad kc D) (kA n ad s.heap.size)) args s 0 0 (kA n ad s.heap.size)) (F0 m pc ls [.int v]) :=
  W.zret hx hb hr hn (fun t ht hW => ⟨⟨v, σ, rfl, hp, by unfold kB; rw [ht]; exact I.1⟩, I.2.2.F ht⟩) I.2.2.2.2 hdg hlk
theorem k_vret {post : (Nat → Nat → Int32) → Prop} (hx : p.tables.exec = Jvm.exec) (hb : c.code = cc) (hr : meth.sig.returnType = none) (hlk : meth.locks = false) (I : kI n ad kc D (kA n ad s.heap.size) s.heap σ H locs) (hdg : decode cc pc = .ok (.return_, 1)) (hp : post σ) :
    W p l e R s m args below meth c H locs 0 0 (MQ below (va_Qv post (kB n ad kc D) (kA n ad s.heap.size)) args s 0 0 (kA n ad s.heap.size)) (F0 m pc ls []) :=
  W.vret hx hb hr (fun t ht hW => ⟨⟨σ, rfl, hp, by unfold kB; rw [ht]; exact I.1⟩, I.2.2.F ht⟩) I.2.2.2.2 hdg hlk
theorem k_aret {post : Option Nat → (Nat → Nat → Int32) → Prop} {a : Nat} {ty : FieldType} (hx : p.tables.exec = Jvm.exec) (hb : c.code = cc) (hr : meth.sig.returnType = some ty) (hty : (∃ n, ty = .object n) ∨ ∃ t, ty = .array t) (hlk : meth.locks = false) (I : kI n ad kc D (kA n ad s.heap.size) s.heap σ H locs) (hdg : decode cc pc = .ok (.areturn, 1)) (hp : post (some a) σ) :
    W p l e R s m args below meth c H locs 0 0 (MQ below (va_Qq post (kB n ad kc D) (kA n ad s.heap.size)) args s 0 0 (kA n ad s.heap.size)) (F0 m pc ls [.ref a]) :=
  W.aret hx hb hr hty (Or.inr ⟨a, rfl⟩) (fun t ht hW => ⟨⟨some a, σ, rfl, hp, by unfold kB; rw [ht]; exact I.1⟩, I.2.2.F ht⟩) I.2.2.2.2 hdg hlk
theorem k_nret {post : Option Nat → (Nat → Nat → Int32) → Prop} {ty : FieldType} (hx : p.tables.exec = Jvm.exec) (hb : c.code = cc) (hr : meth.sig.returnType = some ty) (hty : (∃ n, ty = .object n) ∨ ∃ t, ty = .array t) (hlk : meth.locks = false) (I : kI n ad kc D (kA n ad s.heap.size) s.heap σ H locs) (hdg : decode cc pc = .ok (.areturn, 1)) (hp : post none σ) :
    W p l e R s m args below meth c H locs 0 0 (MQ below (va_Qq post (kB n ad kc D) (kA n ad s.heap.size)) args s 0 0 (kA n ad s.heap.size)) (F0 m pc ls [.null]) :=
  W.aret hx hb hr hty (Or.inl rfl) (fun t ht hW => ⟨⟨none, σ, rfl, hp, by unfold kB; rw [ht]; exact I.1⟩, I.2.2.F ht⟩) I.2.2.2.2 hdg hlk
theorem k_isret {post : Int32 → Prop} {v : Int32} (hx : p.tables.exec = Jvm.exec) (hb : c.code = cc) (hr : meth.sig.returnType = some .int) (hlk : meth.locks = false) (hdg : decode cc pc = .ok (.ireturn, 1)) (hp : post v) :
    W p l e R s m args below meth c s.heap [] 0 0 (MQ below (vp_Si post) args s 0 0 (fun _ => False)) (F0 m pc ls [.int v]) :=
  W.iret hx hb hr (fun t ht hW => ⟨v, rfl, hp, ht⟩) (fun q h => by cases h) hdg hlk
theorem k_zsret {post : Int32 → Prop} {v : Int32} {ty : FieldType} (hx : p.tables.exec = Jvm.exec) (hb : c.code = cc) (hr : meth.sig.returnType = some ty) (hn : narrow ty (.int v) = .int v) (hlk : meth.locks = false) (hdg : decode cc pc = .ok (.ireturn, 1)) (hp : post v) :
    W p l e R s m args below meth c s.heap [] 0 0 (MQ below (vp_Si post) args s 0 0 (fun _ => False)) (F0 m pc ls [.int v]) :=
  W.zret hx hb hr hn (fun t ht hW => ⟨v, rfl, hp, ht⟩) (fun q h => by cases h) hdg hlk
end KRET
end
section
/-! MATH: the ROOT, the RISE, sums of RISES and RUNS, HANG and LIFT, over natural numbers -/
def isq : Nat → Nat
  | 0 => 0
  | n + 1 => if (isq n + 1) * (isq n + 1) ≤ n + 1 then isq n + 1 else isq n
theorem sq_1 (r : Nat) : (r + 1) * (r + 1) = r * r + 2 * r + 1 := by rw [Nat.add_mul, Nat.mul_add]; omega
theorem sq_mono {a b : Nat} (h : a ≤ b) : a * a ≤ b * b := Nat.mul_le_mul h h
theorem isq_both : ∀ n : Nat, isq n * isq n ≤ n ∧ n < (isq n + 1) * (isq n + 1)
  | 0 => by decide
  | n + 1 => by
    obtain ⟨h1, h2⟩ := isq_both n
    have e := sq_1 (isq n)
    have e2 := sq_1 (isq n + 1)
    rw [isq]
    split
    · exact ⟨by assumption, by omega⟩
    · exact ⟨by omega, by omega⟩
theorem isq_le (n : Nat) : isq n * isq n ≤ n := (isq_both n).1
theorem isq_lt (n : Nat) : n < (isq n + 1) * (isq n + 1) := (isq_both n).2
theorem isq_ge {n r : Nat} (h : r * r ≤ n) : r ≤ isq n := by
  rcases Nat.lt_or_ge (isq n) r with q | q
  · have := sq_mono (show isq n + 1 ≤ r by omega)
    have := isq_lt n
    omega
  · exact q
theorem isq_up {n r : Nat} (h : n < (r + 1) * (r + 1)) : isq n ≤ r := by
  rcases Nat.lt_or_ge r (isq n) with q | q
  · have := sq_mono (show r + 1 ≤ isq n by omega)
    have := isq_le n
    omega
  · exact q
theorem isq_eq {n r : Nat} (h1 : r * r ≤ n) (h2 : n < (r + 1) * (r + 1)) : isq n = r := Nat.le_antisymm (isq_up h2) (isq_ge h1)
theorem isq_mono {a b : Nat} (h : a ≤ b) : isq a ≤ isq b := isq_ge (Nat.le_trans (isq_le a) h)
/-- one farther down: the ROOT grows by one at most -/
theorem isq_step {h v : Nat} : isq (h * h + (v + 1) * (v + 1)) ≤ isq (h * h + v * v) + 1 := by
  apply isq_up
  have h1 := isq_lt (h * h + v * v)
  have h2 : v ≤ isq (h * h + v * v) := isq_ge (Nat.le_add_left _ _)
  have e1 := sq_1 v
  have e2 := sq_1 (isq (h * h + v * v) + 1)
  omega
theorem isq_steps {h v : Nat} : ∀ k : Nat, isq (h * h + (v + k) * (v + k)) ≤ isq (h * h + v * v) + k
  | 0 => Nat.le_refl _
  | k + 1 => by
    have h1 := isq_steps (h := h) (v := v) k
    have h2 := isq_step (h := h) (v := v + k)
    have e : v + k + 1 = v + (k + 1) := by omega
    rw [e] at h2
    omega
def rz (h v : Nat) : Nat := 10 * v / isq (h * h + v * v)
theorem isq_v (h v : Nat) : v ≤ isq (h * h + v * v) := isq_ge (Nat.le_add_left _ _)
theorem rz_le (h v : Nat) : rz h v ≤ 10 := by
  unfold rz
  apply Nat.div_le_of_le_mul
  have := isq_v h v
  omega
theorem rz_step (h v : Nat) : rz h v ≤ rz h (v + 1) := by
  have hr : 0 < isq (h * h + (v + 1) * (v + 1)) := by have := isq_v h (v + 1); omega
  have h10 := rz_le h v
  unfold rz at h10 ⊢
  rw [Nat.le_div_iff_mul_le hr]
  have h1 : 10 * v / isq (h * h + v * v) * isq (h * h + v * v) ≤ 10 * v := Nat.div_mul_le_self _ _
  have h2 := Nat.mul_le_mul_left (10 * v / isq (h * h + v * v)) (isq_step (h := h) (v := v))
  generalize 10 * v / isq (h * h + v * v) = q at h10 h1 h2 ⊢
  generalize isq (h * h + v * v) = r at h1 h2
  generalize isq (h * h + (v + 1) * (v + 1)) = r' at h2 ⊢
  have h3 : q * (r + 1) = q * r + q := by rw [Nat.mul_add, Nat.mul_one]
  omega
theorem rz_mono (h : Nat) {v v' : Nat} (q : v ≤ v') : rz h v ≤ rz h v' := by
  obtain ⟨k, rfl⟩ := Nat.le.dest q
  clear q
  induction k with
  | zero => exact Nat.le_refl _
  | succ k ih => exact Nat.le_trans ih (rz_step h (v + k))
def sR (h w u : Nat) : Nat → Nat
  | 0 => 0
  | n + 1 => sR h w u n + rz h (u + w * (n + 1))
def sX (h w u : Nat) : Nat → Nat
  | 0 => 0
  | n + 1 => sX h w u n + isq (100 - rz h (u + w * (n + 1)) * rz h (u + w * (n + 1)))
theorem sR_le (h w u : Nat) : ∀ n, sR h w u n ≤ 10 * n
  | 0 => Nat.le_refl _
  | n + 1 => by
    have h1 := sR_le h w u n
    have h2 := rz_le h (u + w * (n + 1))
    rw [sR]
    omega
theorem sX_le (h w u : Nat) : ∀ n, sX h w u n ≤ 10 * n
  | 0 => Nat.le_refl _
  | n + 1 => by
    have h1 := sX_le h w u n
    have h2 : isq (100 - rz h (u + w * (n + 1)) * rz h (u + w * (n + 1))) ≤ 10 := isq_up (by omega)
    rw [sX]
    omega
theorem sR_n (h w u : Nat) {a b : Nat} (q : a ≤ b) : sR h w u a ≤ sR h w u b := by
  obtain ⟨k, rfl⟩ := Nat.le.dest q
  clear q
  induction k with
  | zero => exact Nat.le_refl _
  | succ k ih => rw [← Nat.add_assoc, sR]; omega
theorem sR_u (h w : Nat) {u v : Nat} (q : u ≤ v) : ∀ n, sR h w u n ≤ sR h w v n
  | 0 => Nat.le_refl _
  | n + 1 => by
    have h1 := sR_u h w q n
    have h2 := rz_mono h (show u + w * (n + 1) ≤ v + w * (n + 1) by omega)
    rw [sR, sR]
    omega
theorem sR_shift (h u : Nat) {w : Nat} (hw : 1 ≤ w) : ∀ n, sR h w (u + 1) n + rz h (u + w) ≤ sR h w u (n + 1)
  | 0 => by rw [sR, sR, sR, Nat.zero_add, Nat.mul_one]; omega
  | n + 1 => by
    have h1 := sR_shift h u hw n
    have e : w * (n + 1 + 1) = w * (n + 1) + w := by rw [Nat.mul_add, Nat.mul_one]
    have h2 := rz_mono h (show u + 1 + w * (n + 1) ≤ u + w * (n + 1 + 1) by omega)
    rw [sR, sR]
    omega
/-- the first place below n where p is so, else n -/
def ff (p : Nat → Bool) : Nat → Nat
  | 0 => 0
  | n + 1 => if ff p n < n then ff p n else if p n then n else n + 1
theorem ff_all (p : Nat → Bool) : ∀ n, ff p n ≤ n ∧ (∀ k, k < ff p n → p k = false) ∧ (ff p n < n → p (ff p n) = true)
  | 0 => ⟨Nat.le_refl _, fun k h => absurd h (Nat.not_lt_zero k), fun h => absurd h (Nat.not_lt_zero _)⟩
  | n + 1 => by
    obtain ⟨h1, h2, h3⟩ := ff_all p n
    rw [ff]
    by_cases q : ff p n < n
    · rw [if_pos q]
      exact ⟨by omega, h2, fun _ => h3 q⟩
    · have e : ff p n = n := by omega
      rw [if_neg q]
      rw [e] at h2
      cases hp : p n with
      | true => exact ⟨by simp, fun k hk => h2 k (by simpa using hk), fun _ => by simpa using hp⟩
      | false =>
        refine ⟨by simp, fun k hk => ?_, fun h => absurd h (by simp)⟩
        have hk : k < n + 1 := by simpa using hk
        by_cases e2 : k = n
        · rw [e2]; exact hp
        · exact h2 k (by omega)
theorem ff_eq {p : Nat → Bool} {n k : Nat} (hk : k ≤ n) (h1 : ∀ j, j < k → p j = false) (h2 : k < n → p k = true) : ff p n = k := by
  obtain ⟨g1, g2, g3⟩ := ff_all p n
  rcases Nat.lt_trichotomy (ff p n) k with q | q | q
  · have a := h1 _ q
    have b := g3 (by omega)
    rw [a] at b
    cases b
  · exact q
  · have a := g2 _ q
    have b := h2 (by omega)
    rw [a] at b
    cases b
/-- HANG by a LIFT u, the LINKS at most -/
def hg (h w u d n : Nat) : Nat := ff (fun k => decide (d ≤ sR h w u k)) n
theorem hg_le (h w u d n : Nat) : hg h w u d n ≤ n := (ff_all _ n).1
theorem hg_no {h w u d n k : Nat} (q : k < hg h w u d n) : sR h w u k < d := by
  have := (ff_all (fun k => decide (d ≤ sR h w u k)) n).2.1 k q
  simpa using this
theorem hg_yes {h w u d n : Nat} (q : hg h w u d n < n) : d ≤ sR h w u (hg h w u d n) := by
  have := (ff_all (fun k => decide (d ≤ sR h w u k)) n).2.2 q
  simpa [hg] using this
theorem hg_eq {h w u d n k : Nat} (hk : k ≤ n) (h1 : ∀ j, j < k → sR h w u j < d) (h2 : k < n → d ≤ sR h w u k) : hg h w u d n = k :=
  ff_eq hk (fun j hj => by have := h1 j hj; simpa using this) (fun q => by have := h2 q; simpa using this)
theorem hg_iff (h w u d n : Nat) : d ≤ sR h w u (hg h w u d n) ↔ d ≤ sR h w u n := by
  constructor
  · intro q
    exact Nat.le_trans q (sR_n h w u (hg_le h w u d n))
  · intro q
    by_cases e : hg h w u d n < n
    · exact hg_yes e
    · rw [show hg h w u d n = n by have := hg_le h w u d n; omega]
      exact q
/-- the least LIFT, 1 to 1000 (1000: there is none) -/
def lf (h w d n : Nat) : Nat := 1 + ff (fun u => decide (d ≤ sR h w (u + 1) n)) 999
theorem lf_in (h w d n : Nat) : 1 ≤ lf h w d n ∧ lf h w d n ≤ 1000 := by
  have := (ff_all (fun u => decide (d ≤ sR h w (u + 1) n)) 999).1
  unfold lf
  omega
theorem lf_no {h w d n u : Nat} (h0 : sR h w 0 n < d) (q : u < lf h w d n) : sR h w u n < d := by
  cases u with
  | zero => exact h0
  | succ u =>
    have := (ff_all (fun u => decide (d ≤ sR h w (u + 1) n)) 999).2.1 u (by unfold lf at q; omega)
    simpa using this
theorem lf_yes {h w d n : Nat} (q : lf h w d n < 1000) : d ≤ sR h w (lf h w d n) n := by
  have := (ff_all (fun u => decide (d ≤ sR h w (u + 1) n)) 999).2.2 (by unfold lf at q; omega)
  have h2 : d ≤ sR h w (ff (fun u => decide (d ≤ sR h w (u + 1) n)) 999 + 1) n := by simpa using this
  unfold lf
  rwa [Nat.add_comm]
theorem lf_eq {h w d n t : Nat} (ht : t ≤ 999) (h1 : sR h w t n < d) (h2 : t < 999 → d ≤ sR h w (t + 1) n) : lf h w d n = t + 1 := by
  unfold lf
  rw [ff_eq ht (fun j hj => ?_) (fun q => ?_)]
  · omega
  · have := sR_u h w (show j + 1 ≤ t by omega) n
    simp
    omega
  · have := h2 q
    simpa using this
theorem lf_le {h w d n u : Nat} (h0 : sR h w 0 n < d) : u ≤ 999 → (d ≤ sR h w u n ↔ lf h w d n ≤ u) := by
  intro hu
  constructor
  · intro q
    rcases Nat.lt_or_ge u (lf h w d n) with z | z
    · have := lf_no h0 z
      omega
    · exact z
  · intro q
    exact Nat.le_trans (lf_yes (by omega)) (sR_u h w q n)
/-- how a chain lies: reached without LIFT, TAUT, LIFT, GROUND, REACH, HOLDING -/
def zOk (h w d n : Nat) : Bool := decide (d ≤ sR h w 0 n)
def zTaut (h w d n : Nat) : Bool := !zOk h w d n && decide (lf h w d n = 1000)
def zLift (h w d n : Nat) : Nat := if zOk h w d n then 0 else min (lf h w d n) 999
def zGround (h w d n : Nat) : Nat := n - hg h w 0 d n
def zReach (h w d n : Nat) : Nat := if zOk h w d n then 10 * (n - hg h w 0 d n) + sX h w 0 (hg h w 0 d n) else if lf h w d n = 1000 then 0 else sX h w (lf h w d n) n
def zHold (h w d n g : Nat) : Nat := if zTaut h w d n then 0 else g - 3 * zLift h w d n
def zHolds (h w d n g : Nat) : Bool := decide (h ≤ zHold h w d n g)
theorem zReach_le (h w d n : Nat) : zReach h w d n ≤ 20 * n := by
  unfold zReach
  have h1 := hg_le h w 0 d n
  have h2 := sX_le h w 0 (hg h w 0 d n)
  have h3 := sX_le h w (lf h w d n) n
  split
  · omega
  · split <;> omega
/-- HOLDS by one climb, at the greatest LIFT that the GRIP can spare -/
theorem zHolds_one {h w d n g : Nat} (hg9 : g ≤ 999) (hh : h ≤ g) : zHolds h w d n g = (decide (h = 0) || decide (d ≤ sR h w ((g - h) / 3) (hg h w ((g - h) / 3) d n))) := by
  have key : h ≤ zHold h w d n g ↔ h = 0 ∨ d ≤ sR h w ((g - h) / 3) n := by
    unfold zHold zTaut zLift zOk
    by_cases h0 : d ≤ sR h w 0 n
    · have := sR_u h w (Nat.zero_le ((g - h) / 3)) n
      simp [h0]
      omega
    · have hlt : sR h w 0 n < d := by omega
      have hi := lf_in h w d n
      rw [lf_le hlt (show (g - h) / 3 ≤ 999 by omega)]
      by_cases ht : lf h w d n = 1000
      · simp [h0, ht]
        omega
      · simp [h0, ht]
        omega
  unfold zHolds
  rw [Bool.eq_iff_iff]
  simp only [Bool.or_eq_true, decide_eq_true_eq, hg_iff]
  exact key
theorem zHolds_no {h w d n g : Nat} (hh : g < h) : zHolds h w d n g = false := by
  unfold zHolds zHold
  simp
  split <;> omega
theorem zHolds_0 {w d n g : Nat} : zHolds 0 w d n g = true := by simp [zHolds]
/-- the greatest LIFT that is too little, and what follows of it -/
theorem zLie_lift {h w d n t : Nat} (hw : 1 ≤ w) (ht : t ≤ 999) (h1 : sR h w t n < d) (h2 : t < 999 → d ≤ sR h w (t + 1) n) :
    zOk h w d n = false ∧ lf h w d n = t + 1 ∧ hg h w 0 d n = n ∧ (t < 999 → hg h w (t + 1) d n = n) := by
  have h0 : sR h w 0 n < d := Nat.lt_of_le_of_lt (sR_u h w (Nat.zero_le t) n) h1
  refine ⟨by unfold zOk; simp; omega, lf_eq ht h1 h2, ?_, fun q => ?_⟩
  · exact hg_eq (Nat.le_refl _) (fun j hj => Nat.lt_of_le_of_lt (sR_n h w 0 (by omega)) h0) (fun z => absurd z (by omega))
  · refine hg_eq (Nat.le_refl _) (fun j hj => ?_) (fun z => absurd z (by omega))
    have a := sR_shift h t hw j
    have b := sR_n h w t (show j + 1 ≤ n by omega)
    omega
/-- few LINKS can't rise enough -/
theorem zFew {h w d n u : Nat} (q : 10 * n < d) : sR h w u n < d := Nat.lt_of_le_of_lt (sR_le h w u n) q
end
section
/-! THE TWO WORLDS: the class's 38 cells, the reference's 6 -/
def kcC (cy : Nat → ClassId) (ad : Nat → Nat) (k : Nat) (r : Nat → Int32) : va_E :=
  if k = 14 then .inr (2, [.int (r 0), .int (r 1), .int (r 2), .int (r 3), .int (r 4), .int (r 5), .int (r 6), .int (r 7), .int (r 8), .int (r 9), .int (r 10), .int (r 11)])
  else if 15 ≤ k ∧ k < 30 then
    (if k % 3 = 0 then .inr (6, [.ref (ad (k + 1)), .ref (ad (k + 2)), .int (r 2), .int (r 3), .int (r 4), .int (r 5), .int (r 6), .int (r 7), .int (r 8), .int (r 9)])
     else .inr (0, [.int (r 0), .int (r 1), .int (r 2)]))
  else if k = 11 then .inr (1, [.ref (ad 12), .ref (ad 13), .ref (ad 14), .int (r 3), .int (r 4), .int (r 5)])
  else if k = 12 then .inl (cy 1, 20, .inl r)
  else if k = 13 then .inl (cy 2, 5, .inr (.inr (.inr (.inr (fun i => if i < 5 then some (ad (15 + 3 * i)) else none)))))
  else if k = 0 then .inr (7, [.ref (ad 1), .ref (ad 3), .ref (ad 11), .ref (ad 30)])
  else if k = 1 then .inr (3, [.ref (ad 2), .int (r 1)])
  else if k = 2 then .inl (cy 0, 200, .inl r)
  else if k = 3 then .inr (5, [.ref (ad 4), .ref (ad 5), .int (r 2), .int (r 3), .int (r 4)])
  else if k = 4 then .inl (cy 1, 20, .inl r)
  else if k = 5 then .inl (cy 3, 5, .inr (.inr (.inr (.inr (fun i => if i < 5 then some (ad (6 + i)) else none)))))
  else if k < 11 then .inl (cy 1, 7, .inl r)
  else if k = 30 then .inr (4, [.ref (ad 31), .int (r 1), .int (r 2)])
  else if k = 31 then .inl (cy 3, 6, .inr (.inr (.inr (.inr (fun i => if i < 6 then some (ad (32 + i)) else none)))))
  else .inl (cy 1, 46, .inl r)
section KCC
variable {cy : Nat → ClassId} {ad : Nat → Nat} {r : Nat → Int32} {i : Nat}
theorem kc_14 : kcC cy ad 14 r = .inr (2, [.int (r 0), .int (r 1), .int (r 2), .int (r 3), .int (r 4), .int (r 5), .int (r 6), .int (r 7), .int (r 8), .int (r 9), .int (r 10), .int (r 11)]) := rfl
theorem kc_11 : kcC cy ad 11 r = .inr (1, [.ref (ad 12), .ref (ad 13), .ref (ad 14), .int (r 3), .int (r 4), .int (r 5)]) := rfl
theorem kc_12 : kcC cy ad 12 r = .inl (cy 1, 20, .inl r) := rfl
theorem kc_13 : kcC cy ad 13 r = .inl (cy 2, 5, .inr (.inr (.inr (.inr (fun i => if i < 5 then some (ad (15 + 3 * i)) else none))))) := rfl
theorem kc_0 : kcC cy ad 0 r = .inr (7, [.ref (ad 1), .ref (ad 3), .ref (ad 11), .ref (ad 30)]) := rfl
theorem kc_1 : kcC cy ad 1 r = .inr (3, [.ref (ad 2), .int (r 1)]) := rfl
theorem kc_2 : kcC cy ad 2 r = .inl (cy 0, 200, .inl r) := rfl
theorem kc_3 : kcC cy ad 3 r = .inr (5, [.ref (ad 4), .ref (ad 5), .int (r 2), .int (r 3), .int (r 4)]) := rfl
theorem kc_4 : kcC cy ad 4 r = .inl (cy 1, 20, .inl r) := rfl
theorem kc_5 : kcC cy ad 5 r = .inl (cy 3, 5, .inr (.inr (.inr (.inr (fun i => if i < 5 then some (ad (6 + i)) else none))))) := rfl
theorem kc_30 : kcC cy ad 30 r = .inr (4, [.ref (ad 31), .int (r 1), .int (r 2)]) := rfl
theorem kc_31 : kcC cy ad 31 r = .inl (cy 3, 6, .inr (.inr (.inr (.inr (fun i => if i < 6 then some (ad (32 + i)) else none))))) := rfl
theorem kc_S (h : i < 5) : kcC cy ad (15 + 3 * i) r = .inr (6, [.ref (ad (16 + 3 * i)), .ref (ad (17 + 3 * i)), .int (r 2), .int (r 3), .int (r 4), .int (r 5), .int (r 6), .int (r 7), .int (r 8), .int (r 9)]) := by
  match i, h with
  | 0, _ => rfl
  | 1, _ => rfl
  | 2, _ => rfl
  | 3, _ => rfl
  | 4, _ => rfl
theorem kc_F (h : i < 5) : kcC cy ad (16 + 3 * i) r = .inr (0, [.int (r 0), .int (r 1), .int (r 2)]) := by
  match i, h with
  | 0, _ => rfl
  | 1, _ => rfl
  | 2, _ => rfl
  | 3, _ => rfl
  | 4, _ => rfl
theorem kc_G (h : i < 5) : kcC cy ad (17 + 3 * i) r = .inr (0, [.int (r 0), .int (r 1), .int (r 2)]) := by
  match i, h with
  | 0, _ => rfl
  | 1, _ => rfl
  | 2, _ => rfl
  | 3, _ => rfl
  | 4, _ => rfl
theorem kc_R (h : i < 5) : kcC cy ad (6 + i) r = .inl (cy 1, 7, .inl r) := by
  match i, h with
  | 0, _ => rfl
  | 1, _ => rfl
  | 2, _ => rfl
  | 3, _ => rfl
  | 4, _ => rfl
theorem kc_P (h : i < 6) : kcC cy ad (32 + i) r = .inl (cy 1, 46, .inl r) := by
  match i, h with
  | 0, _ => rfl
  | 1, _ => rfl
  | 2, _ => rfl
  | 3, _ => rfl
  | 4, _ => rfl
  | 5, _ => rfl
end KCC
def kcM (cy : Nat → ClassId) (ad : Nat → Nat) (k : Nat) (r : Nat → Int32) : va_E :=
  if k = 0 then .inr (8, [.ref (ad 1), .ref (ad 2), .ref (ad 3), .int (r 3), .ref (ad 4), .int (r 5), .int (r 6), .ref (ad 5), .int (r 8), .int (r 9), .int (r 10), .int (r 11), .int (r 12)])
  else if k = 1 then .inl (cy 1, 88, .inl r)
  else if k = 2 then .inl (cy 1, 88, .inl r)
  else if k = 3 then .inl (cy 1, 528, .inl r)
  else if k = 4 then .inl (cy 1, 200, .inl r)
  else .inl (cy 1, 7, .inl r)
section KCM
variable {cy : Nat → ClassId} {ad : Nat → Nat} {r : Nat → Int32}
theorem km_0 : kcM cy ad 0 r = .inr (8, [.ref (ad 1), .ref (ad 2), .ref (ad 3), .int (r 3), .ref (ad 4), .int (r 5), .int (r 6), .ref (ad 5), .int (r 8), .int (r 9), .int (r 10), .int (r 11), .int (r 12)]) := rfl
theorem km_1 : kcM cy ad 1 r = .inl (cy 1, 88, .inl r) := rfl
theorem km_2 : kcM cy ad 2 r = .inl (cy 1, 88, .inl r) := rfl
theorem km_3 : kcM cy ad 3 r = .inl (cy 1, 528, .inl r) := rfl
theorem km_4 : kcM cy ad 4 r = .inl (cy 1, 200, .inl r) := rfl
theorem km_5 : kcM cy ad 5 r = .inl (cy 1, 7, .inl r) := rfl
end KCM
theorem kup_3 {α : Type} (f : Nat → α) {a b : Nat} (x y z : α) (h : a ≠ b) : va_up (va_up (va_up f a x) b y) a z = va_up (va_up f a z) b y := by
  funext j
  simp only [va_up]
  by_cases h1 : j = a
  · subst h1
    simp [h]
  · simp [h1]
/-- a truth value as the machine has it -/
def kT (r : Int32) (P : Prop) : Prop := (r = nI 1 ∧ P) ∨ (r = nI 0 ∧ ¬ P)
theorem kT_1 {P : Prop} (h : P) : kT (nI 1) P := Or.inl ⟨rfl, h⟩
theorem kT_0 {P : Prop} (h : ¬ P) : kT (nI 0) P := Or.inr ⟨rfl, h⟩
theorem kT_of {r : Int32} {P Q : Prop} (h : kT r P) (e : P ↔ Q) : kT r Q := h.elim (fun q => Or.inl ⟨q.1, e.mp q.2⟩) (fun q => Or.inr ⟨q.1, fun z => q.2 (e.mpr z)⟩)
/-- a switch's cases -/
theorem kint (x : Int32) (n : Nat) (hn : n < 2 ^ 31) : (x.toInt < 0 ∨ (n : Int) < x.toInt) ∨ ∃ j, j ≤ n ∧ x = nI j := by
  by_cases h : x.toInt < 0 ∨ (n : Int) < x.toInt
  · exact Or.inl h
  · right
    have h0 : ¬ x < 0 := fun q => h (Or.inl (by have := Int32.lt_iff_toInt_lt.mp q; simpa using this))
    obtain ⟨j, hj, rfl⟩ := nI_of h0
    rw [nI_toInt hj] at h
    exact ⟨j, by omega, rfl⟩
theorem ksw_5 (x : Int32) : (x.toInt < 0 ∨ (4 : Int) < x.toInt) ∨ x = nI 0 ∨ x = nI 1 ∨ x = nI 2 ∨ x = nI 3 ∨ x = nI 4 := by
  rcases kint x 4 (by decide) with h | ⟨j, hj, rfl⟩
  · exact Or.inl h
  · right
    match j, hj with
    | 0, _ => simp
    | 1, _ => simp
    | 2, _ => simp
    | 3, _ => simp
    | 4, _ => simp
theorem ksw_6 (x : Int32) : (x.toInt < 0 ∨ (5 : Int) < x.toInt) ∨ x = nI 0 ∨ x = nI 1 ∨ x = nI 2 ∨ x = nI 3 ∨ x = nI 4 ∨ x = nI 5 := by
  rcases kint x 5 (by decide) with h | ⟨j, hj, rfl⟩
  · exact Or.inl h
  · right
    match j, hj with
    | 0, _ => simp
    | 1, _ => simp
    | 2, _ => simp
    | 3, _ => simp
    | 4, _ => simp
    | 5, _ => simp
theorem ksw_8 (x : Int32) : (x.toInt < 0 ∨ (7 : Int) < x.toInt) ∨ x = nI 0 ∨ x = nI 1 ∨ x = nI 2 ∨ x = nI 3 ∨ x = nI 4 ∨ x = nI 5 ∨ x = nI 6 ∨ x = nI 7 := by
  rcases kint x 7 (by decide) with h | ⟨j, hj, rfl⟩
  · exact Or.inl h
  · right
    match j, hj with
    | 0, _ => simp
    | 1, _ => simp
    | 2, _ => simp
    | 3, _ => simp
    | 4, _ => simp
    | 5, _ => simp
    | 6, _ => simp
    | 7, _ => simp
theorem kT_in {x : Int32} {a b : Nat} (ha : a < 2 ^ 31) (hb : b < 2 ^ 31) (h : (nI a).toInt ≤ x.toInt ∧ x.toInt ≤ (nI b).toInt) : ∃ j : Nat, a ≤ j ∧ j ≤ b ∧ x = nI j := by
  rw [nI_toInt ha, nI_toInt hb] at h
  have h0 : ¬ x < 0 := fun q => by
    have := Int32.lt_iff_toInt_lt.mp q
    have h9 : (0 : Int32).toInt = 0 := by decide
    omega
  obtain ⟨j, hj, rfl⟩ := nI_of h0
  rw [nI_toInt hj] at h
  exact ⟨j, by omega, by omega, rfl⟩
theorem kT_nin {x : Int32} {a b : Nat} (ha : a < 2 ^ 31) (hb : b < 2 ^ 31) (h : ¬ ((nI a).toInt ≤ x.toInt ∧ x.toInt ≤ (nI b).toInt)) : ∀ j : Nat, a ≤ j → j ≤ b → x ≠ nI j := by
  intro j h1 h2 e
  rw [e, nI_toInt ha, nI_toInt hb, nI_toInt (by omega)] at h
  omega
theorem ki_lt {a b : Int32} : a < b ↔ a.toInt < b.toInt := Int32.lt_iff_toInt_lt
theorem ki_le {a b : Int32} : a ≤ b ↔ a.toInt ≤ b.toInt := Int32.le_iff_toInt_le
theorem kup_id {α : Type} (f : Nat → α) (k : Nat) : va_up f k (f k) = f := by
  funext j
  simp only [va_up]
  split
  · rename_i h; rw [h]
  · rfl
theorem kRUNS_at : ∀ r, r ≤ 10 → kRUNS.getD r 0 = nI (isq (100 - r * r)) := by decide +kernel
theorem kmax_sub {a b : Nat} (ha : a < 2 ^ 30) (hb : b < 2 ^ 30) : (if nI 0 < nI a - nI b then nI a - nI b else nI 0) = nI (a - b) := by
  rcases Nat.lt_or_ge a b with q | q
  · have h1 : ¬ nI 0 < nI a - nI b := fun z => by
      have h2 := pk_sneg hb q
      rw [ki_lt] at z h2
      have h3 : (0 : Int32).toInt = 0 := by decide
      have h4 : (nI 0).toInt = 0 := by decide
      omega
    rw [if_neg h1, show a - b = 0 by omega]
  · rw [pk_sub q]
    split
    · rfl
    · rename_i h
      have h1 : ¬ 0 < a - b := fun z => h ((nI_ltI (by decide) (by omega)).mpr z)
      rw [show a - b = 0 by omega]
theorem kmin_nI {a b : Nat} (ha : a < 2 ^ 31) (hb : b < 2 ^ 31) : (if nI b < nI a then nI b else nI a) = nI (min a b) := by
  split
  · rename_i h
    have := (nI_ltI hb ha).mp h
    rw [Nat.min_eq_right (by omega)]
  · rename_i h
    have : ¬ b < a := fun z => h ((nI_ltI hb ha).mpr z)
    rw [Nat.min_eq_left (by omega)]
end
section
/-! THE CHAIN: its leaves -/
set_option maxHeartbeats 4000000 in
set_option maxRecDepth 100000 in
theorem c_X7_within (l : Launch) (x a b : Int32) : kMs l yX7_within wsX7_within ({ frames := 0, cells := 0, slots := 0, locals := 0 }) [.int x, .int a, .int b] (fun r => kT r (a.toInt ≤ x.toInt ∧ x.toInt ≤ b.toInt)) := by
  refine k_entryS (cc := cX7_within) (maxL := 3) (ret := (some .boolean)) (by decide) rfl (Nat.le_of_ble_eq_true rfl) ?_
  intro p e s m below meth c hx hb hr hml hown hts hlk ls hl
  have hown : s.vm.findClass RX7 = some m.cls := hown
  have hl : lv_has ls 3 [(0, .int x), (1, .int a), (2, .int b)] := hl
  refine lv_iload_n hx hb dX7_within_0 rfl (lv_at hl 0 rfl) ?_
  refine lv_iload_n hx hb dX7_within_1 rfl (lv_at hl 1 rfl) ?_
  refine lv_icmp_lt (tgt := 14) hx hb dX7_within_2 (by decide) (fun c_2 => ?_) (fun c_2 => ?_)
  · refine lv_iconst (v := nI 0) hx hb dX7_within_14 (by decide) ?_
    exact k_zsret hx hb hr (by decide) hlk dX7_within_15 (by simp only [ki_lt] at *; first | exact kT_1 (by omega) | exact kT_0 (by omega))
  · refine lv_iload_n hx hb dX7_within_5 rfl (lv_at hl 0 rfl) ?_
    refine lv_iload_n hx hb dX7_within_6 rfl (lv_at hl 2 rfl) ?_
    refine lv_icmp_gt (tgt := 14) hx hb dX7_within_7 (by decide) (fun c_7 => ?_) (fun c_7 => ?_)
    · refine lv_iconst (v := nI 0) hx hb dX7_within_14 (by decide) ?_
      exact k_zsret hx hb hr (by decide) hlk dX7_within_15 (by simp only [ki_lt] at *; first | exact kT_1 (by omega) | exact kT_0 (by omega))
    · refine lv_iconst (v := nI 1) hx hb dX7_within_10 (by decide) ?_
      refine lv_goto (tgt := 15) hx hb dX7_within_11 (by decide) ?_
      exact k_zsret hx hb hr (by decide) hlk dX7_within_15 (by simp only [ki_lt] at *; first | exact kT_1 (by omega) | exact kT_0 (by omega))
set_option maxHeartbeats 4000000 in
set_option maxRecDepth 100000 in
theorem c_X7_isWind (l : Launch) (b : Int32) : kMs l yX7_isWind wsX7_isWind ({ frames := 1, cells := 0, slots := 0, locals := 22 }) [.int b] (fun r => kT r ((nI 0).toInt ≤ b.toInt ∧ b.toInt ≤ (nI 20).toInt)) := by
  refine k_entryS (cc := cX7_isWind) (maxL := 1) (ret := (some .boolean)) (by decide) rfl (Nat.le_of_ble_eq_true rfl) ?_
  intro p e s m below meth c hx hb hr hml hown hts hlk ls hl
  have hown : s.vm.findClass RX7 = some m.cls := hown
  have hl : lv_has ls 1 [(0, .int b)] := hl
  refine lv_iload_n hx hb dX7_isWind_0 rfl (lv_at hl 0 rfl) ?_
  refine lv_iconst (v := nI 0) hx hb dX7_isWind_1 (by decide) ?_
  refine lv_bipush (v := nI 20) hx hb dX7_isWind_2 (by decide) ?_
  refine k_calls (As := [.int b, .int (nI 0), .int (nI 20)]) (rest := []) ⟨hx, hb, hml, hown, hts⟩ (c_X7_within l b (nI 0) (nI 20)) (va_cwS 3 hts gX7_isWind_X7_within rfl rfl rfl (by decide +kernel) ⟨Nat.le_of_ble_eq_true rfl, Nat.le_of_ble_eq_true rfl⟩) rfl hl.1 rfl (lv_room (Nat.le_of_ble_eq_true rfl)) dX7_isWind_4 ⟨Nat.le_of_ble_eq_true rfl, Nat.le_of_ble_eq_true rfl⟩ (fun r_4 hp_4 => ?_)
  rcases hp_4 with ⟨rfl, hb_⟩ | ⟨rfl, hb_⟩
  · exact k_zsret hx hb hr (by decide) hlk dX7_isWind_7 (by first | exact kT_1 hb_ | exact kT_0 hb_)
  · exact k_zsret hx hb hr (by decide) hlk dX7_isWind_7 (by first | exact kT_1 hb_ | exact kT_0 hb_)
set_option maxHeartbeats 4000000 in
set_option maxRecDepth 100000 in
theorem c_X7_oneIf (l : Launch) (z : Int32) (hz : z = nI 0 ∨ z = nI 1) : kMs l yX7_oneIf wsX7_oneIf ({ frames := 0, cells := 0, slots := 0, locals := 0 }) [.int z] (fun r => r = z) := by
  refine k_entryS (cc := cX7_oneIf) (maxL := 1) (ret := (some .int)) (by decide) rfl (Nat.le_of_ble_eq_true rfl) ?_
  intro p e s m below meth c hx hb hr hml hown hts hlk ls hl
  have hown : s.vm.findClass RX7 = some m.cls := hown
  have hl : lv_has ls 1 [(0, .int z)] := hl
  refine lv_iload_n hx hb dX7_oneIf_0 rfl (lv_at hl 0 rfl) ?_
  refine lv_if_eq (tgt := 8) hx hb dX7_oneIf_1 (by decide) (fun c_1 => ?_) (fun c_1 => ?_)
  · have hz0 : nI 0 = z := c_1.symm
    refine lv_iconst (v := nI 0) hx hb dX7_oneIf_8 (by decide) ?_
    exact k_isret hx hb hr hlk dX7_oneIf_9 (hz0)
  · have hz0 : nI 1 = z := hz.elim (fun q => absurd q c_1) Eq.symm
    refine lv_iconst (v := nI 1) hx hb dX7_oneIf_4 (by decide) ?_
    refine lv_goto (tgt := 9) hx hb dX7_oneIf_5 (by decide) ?_
    exact k_isret hx hb hr hlk dX7_oneIf_9 (hz0)
set_option maxHeartbeats 4000000 in
set_option maxRecDepth 100000 in
theorem c_X2_root (l : Launch) (v : Nat) (hv : v < 16384 * 16384) : kMs l yX2_root wsX2_root ({ frames := 0, cells := 0, slots := 0, locals := 0 }) [.int (nI v)] (fun r => r = nI (isq v)) := by
  refine k_entryS (cc := cX2_root) (maxL := 4) (ret := (some .int)) (by decide) rfl (Nat.le_of_ble_eq_true rfl) ?_
  intro p e s m below meth c hx hb hr hml hown hts hlk ls hl
  have hown : s.vm.findClass RX2 = some m.cls := hown
  have hl : lv_has ls 4 [(0, .int (nI v))] := hl
  refine lv_iconst (v := nI 0) hx hb dX2_root_0 (by decide) ?_
  refine lv_istore_n (lv' := [(1, .int (nI 0)), (0, .int (nI v))]) hx hb dX2_root_1 rfl hl (by decide) rfl (fun ls hl => ?_)
  refine lv_sipush (v := nI 8192) hx hb dX2_root_2 (by decide) ?_
  refine lv_istore_n (lv' := [(2, .int (nI 8192)), (1, .int (nI 0)), (0, .int (nI v))]) hx hb dX2_root_5 rfl hl (by decide) rfl (fun ls hl => ?_)
  have LP_6 : ∀ (fuel : Nat) (j : Nat) (r : Nat), j < fuel → (j ≤ 14) → (r * r ≤ v) → (v < (r + 2 ^ j) * (r + 2 ^ j)) → ∀ ls : Array Slot, lv_has ls 4 [(0, .int (nI v)), (1, .int (nI r)), (2, .int (nI (2 ^ j / 2)))] → W p l e (headSpec wsX2_root ({ frames := 0, cells := 0, slots := 0, locals := 0 })).room s m [.int (nI v)].toArray below meth c s.heap [] 0 0 (MQ below (vp_Si (fun r => r = nI (isq v))) [.int (nI v)].toArray s 0 0 (fun _ => False)) (F0 m 6 ls []) := by
    intro fuel
    induction fuel with
    | zero => intro j r hf_; exact absurd hf_ (Nat.not_lt_zero _)
    | succ fuel ih =>
      intro j r hf_ hj hr1 hr2 ls hl
      have hpj : 2 ^ j ≤ 16384 := Nat.le_trans (Nat.pow_le_pow_right (by decide) hj) (by decide)
      have hr9 : r < 16384 := by
        rcases Nat.lt_or_ge r 16384 with q | q
        · exact q
        · have := sq_mono q
          omega
      refine lv_iload_n hx hb dX2_root_6 rfl (lv_at hl 2 rfl) ?_
      refine lv_if_le (tgt := 30) hx hb dX2_root_7 (by decide) (fun c_7 => ?_) (fun c_7 => ?_)
      · have c_7 : (2 ^ j / 2) ≤ 0 := (nI_leI (by omega) (by decide)).mp c_7
        have hj0 : j = 0 := by
          rcases Nat.eq_zero_or_pos j with q | q
          · exact q
          · have := Nat.pow_le_pow_right (show 0 < 2 by decide) q
            omega
        subst hj0
        refine lv_iload_n hx hb dX2_root_30 rfl (lv_at hl 1 rfl) ?_
        exact k_isret hx hb hr hlk dX2_root_31 (by rw [isq_eq hr1 (by simpa using hr2)])
      · have c_7 : ¬ ((2 ^ j / 2) ≤ 0) := fun q_ => c_7 ((nI_leI (by omega) (by decide)).mpr q_)
        obtain ⟨i, hi⟩ : ∃ i, j = i + 1 := ⟨j - 1, by
          rcases Nat.eq_zero_or_pos j with q | q
          · rw [q] at c_7; exact absurd (by decide) c_7
          · omega⟩
        have e2 : 2 ^ j / 2 = 2 ^ i := by rw [hi, Nat.pow_succ]; omega
        have e3 : r + 2 ^ j / 2 + 2 ^ i = r + 2 ^ j := by rw [hi, Nat.pow_succ]; omega
        have ht9 : (r + 2 ^ j / 2) * (r + 2 ^ j / 2) ≤ 24576 * 24576 := sq_mono (by omega)
        refine lv_iload_n hx hb dX2_root_10 rfl (lv_at hl 1 rfl) ?_
        refine lv_iload_n hx hb dX2_root_11 rfl (lv_at hl 2 rfl) ?_
        refine lv_iadd hx hb dX2_root_12 ?_
        rw [nI_add]
        refine lv_istore_n (lv' := [(3, .int (nI (r + (2 ^ j / 2)))), (0, .int (nI v)), (1, .int (nI r)), (2, .int (nI (2 ^ j / 2)))]) hx hb dX2_root_13 rfl hl (by decide) rfl (fun ls hl => ?_)
        refine lv_iload_n hx hb dX2_root_14 rfl (lv_at hl 0 rfl) ?_
        refine lv_iload_n hx hb dX2_root_15 rfl (lv_at hl 0 rfl) ?_
        refine lv_imul hx hb dX2_root_16 ?_
        rw [pk_mul]
        refine lv_iload_n hx hb dX2_root_17 rfl (lv_at hl 1 rfl) ?_
        refine lv_icmp_gt (tgt := 23) hx hb dX2_root_18 (by decide) (fun c_18 => ?_) (fun c_18 => ?_)
        · have c_18 : v < ((r + (2 ^ j / 2)) * (r + (2 ^ j / 2))) := (nI_ltI (by omega) (by omega)).mp c_18
          refine lv_iload_n hx hb dX2_root_23 rfl (lv_at hl 3 rfl) ?_
          refine lv_iconst (v := nI 1) hx hb dX2_root_24 (by decide) ?_
          refine lv_ishr hx hb dX2_root_25 ?_
          refine lv_topi (fun t_26 et_26 => ?_)
          have et_26 : t_26 = nI (2 ^ i / 2) := et_26.trans (by rw [← e2]; exact pk_shrN (by omega) _ 1 (by decide))
          subst et_26
          refine lv_istore_n (lv' := [(2, .int (nI (2 ^ i / 2))), (3, .int (nI (r + (2 ^ j / 2)))), (0, .int (nI v)), (1, .int (nI r))]) hx hb dX2_root_26 rfl hl (by decide) rfl (fun ls hl => ?_)
          refine lv_goto (tgt := 6) hx hb dX2_root_27 (by decide) ?_
          exact ih i _ (by omega) (by omega) (by first | assumption | omega) (by first | (rw [e3]; exact hr2) | (rw [← e2]; omega)) _ (lv_sub hl [2, 3, 0] rfl)
        · have c_18 : ¬ (v < ((r + (2 ^ j / 2)) * (r + (2 ^ j / 2)))) := fun q_ => c_18 ((nI_ltI (by omega) (by omega)).mpr q_)
          refine lv_iload_n hx hb dX2_root_21 rfl (lv_at hl 0 rfl) ?_
          refine lv_istore_n (lv' := [(1, .int (nI (r + (2 ^ j / 2)))), (3, .int (nI (r + (2 ^ j / 2)))), (0, .int (nI v)), (2, .int (nI (2 ^ j / 2)))]) hx hb dX2_root_22 rfl hl (by decide) rfl (fun ls hl => ?_)
          refine lv_iload_n hx hb dX2_root_23 rfl (lv_at hl 3 rfl) ?_
          refine lv_iconst (v := nI 1) hx hb dX2_root_24 (by decide) ?_
          refine lv_ishr hx hb dX2_root_25 ?_
          refine lv_topi (fun t_26 et_26 => ?_)
          have et_26 : t_26 = nI (2 ^ i / 2) := et_26.trans (by rw [← e2]; exact pk_shrN (by omega) _ 1 (by decide))
          subst et_26
          refine lv_istore_n (lv' := [(2, .int (nI (2 ^ i / 2))), (1, .int (nI (r + (2 ^ j / 2)))), (3, .int (nI (r + (2 ^ j / 2)))), (0, .int (nI v))]) hx hb dX2_root_26 rfl hl (by decide) rfl (fun ls hl => ?_)
          refine lv_goto (tgt := 6) hx hb dX2_root_27 (by decide) ?_
          exact ih i _ (by omega) (by omega) (by first | assumption | omega) (by first | (rw [e3]; exact hr2) | (rw [← e2]; omega)) _ (lv_sub hl [3, 1, 0] rfl)
  exact LP_6 _ 14 0 (Nat.lt_succ_self _) (Nat.le_refl _) (Nat.zero_le _) (by rw [Nat.zero_add]; exact hv) _ (lv_sub hl [2, 1, 0] rfl)
set_option maxHeartbeats 4000000 in
set_option maxRecDepth 100000 in
theorem c_X2_rootFrom (l : Launch) (a k v : Nat) (hv : v < 16384 * 16384) (hk : k ≤ 5) (ha : a ≤ isq v) (hak : isq v ≤ a + k) : kMs l yX2_rootFrom wsX2_rootFrom ({ frames := 0, cells := 0, slots := 0, locals := 0 }) [.int (nI a), .int (nI k), .int (nI v)] (fun r => r = nI (isq v)) := by
  have hq9 : isq v < 16384 := by
    rcases Nat.lt_or_ge (isq v) 16384 with q | q
    · exact q
    · have := sq_mono q
      have := isq_le v
      omega
  refine k_entryS (cc := cX2_rootFrom) (maxL := 5) (ret := (some .int)) (by decide) rfl (Nat.le_of_ble_eq_true rfl) ?_
  intro p e s m below meth c hx hb hr hml hown hts hlk ls hl
  have hown : s.vm.findClass RX2 = some m.cls := hown
  have hl : lv_has ls 5 [(0, .int (nI a)), (1, .int (nI k)), (2, .int (nI v))] := hl
  refine lv_iload_n hx hb dX2_rootFrom_0 rfl (lv_at hl 0 rfl) ?_
  refine lv_istore_n (lv' := [(3, .int (nI a)), (0, .int (nI a)), (1, .int (nI k)), (2, .int (nI v))]) hx hb dX2_rootFrom_1 rfl hl (by decide) rfl (fun ls hl => ?_)
  refine lv_iconst (v := nI 0) hx hb dX2_rootFrom_2 (by decide) ?_
  refine lv_istore (lv' := [(4, .int (nI 0)), (3, .int (nI a)), (0, .int (nI a)), (1, .int (nI k)), (2, .int (nI v))]) hx hb dX2_rootFrom_3 hl (by decide) rfl (fun ls hl => ?_)
  have LP_5 : ∀ (fuel : Nat) (i : Nat) (r : Nat), k - i < fuel → (i ≤ k) → (r = a + i) → (r ≤ isq v) → ∀ ls : Array Slot, lv_has ls 5 [(0, .int (nI a)), (1, .int (nI k)), (2, .int (nI v)), (3, .int (nI r)), (4, .int (nI i))] → W p l e (headSpec wsX2_rootFrom ({ frames := 0, cells := 0, slots := 0, locals := 0 })).room s m [.int (nI a), .int (nI k), .int (nI v)].toArray below meth c s.heap [] 0 0 (MQ below (vp_Si (fun r => r = nI (isq v))) [.int (nI a), .int (nI k), .int (nI v)].toArray s 0 0 (fun _ => False)) (F0 m 5 ls []) := by
    intro fuel
    induction fuel with
    | zero => intro i r hf_; exact absurd hf_ (Nat.not_lt_zero _)
    | succ fuel ih =>
      intro i r hf_ hi hra hr1 ls hl
      have ht9 : (r + 1) * (r + 1) ≤ 16384 * 16384 := sq_mono (by omega)
      refine lv_iload hx hb dX2_rootFrom_5 (lv_at hl 4 rfl) ?_
      refine lv_iload_n hx hb dX2_rootFrom_7 rfl (lv_at hl 1 rfl) ?_
      refine lv_icmp_ge (tgt := 31) hx hb dX2_rootFrom_8 (by decide) (fun c_8 => ?_) (fun c_8 => ?_)
      · have c_8 : k ≤ i := (nI_leI (by omega) (by omega)).mp c_8
        have hend : isq v = r := by omega
        refine lv_iload_n hx hb dX2_rootFrom_31 rfl (lv_at hl 3 rfl) ?_
        exact k_isret hx hb hr hlk dX2_rootFrom_32 (by rw [hend])
      · have c_8 : ¬ (k ≤ i) := fun q_ => c_8 ((nI_leI (by omega) (by omega)).mpr q_)
        refine lv_iload_n hx hb dX2_rootFrom_11 rfl (lv_at hl 3 rfl) ?_
        refine lv_iconst (v := nI 1) hx hb dX2_rootFrom_12 (by decide) ?_
        refine lv_iadd hx hb dX2_rootFrom_13 ?_
        rw [nI_add]
        refine lv_iload_n hx hb dX2_rootFrom_14 rfl (lv_at hl 3 rfl) ?_
        refine lv_iconst (v := nI 1) hx hb dX2_rootFrom_15 (by decide) ?_
        refine lv_iadd hx hb dX2_rootFrom_16 ?_
        rw [nI_add]
        refine lv_imul hx hb dX2_rootFrom_17 ?_
        rw [pk_mul]
        refine lv_iload_n hx hb dX2_rootFrom_18 rfl (lv_at hl 2 rfl) ?_
        refine lv_icmp_gt (tgt := 31) hx hb dX2_rootFrom_19 (by decide) (fun c_19 => ?_) (fun c_19 => ?_)
        · have c_19 : v < ((r + 1) * (r + 1)) := (nI_ltI (by omega) (by omega)).mp c_19
          have hend : isq v = r := Nat.le_antisymm (isq_up (by omega)) hr1
          refine lv_iload_n hx hb dX2_rootFrom_31 rfl (lv_at hl 3 rfl) ?_
          exact k_isret hx hb hr hlk dX2_rootFrom_32 (by rw [hend])
        · have c_19 : ¬ (v < ((r + 1) * (r + 1))) := fun q_ => c_19 ((nI_ltI (by omega) (by omega)).mpr q_)
          have c_19 : (r + 1) * (r + 1) ≤ v := by omega
          refine lv_iinc (v := nI (r + 1)) (lv' := [(3, .int (nI (r + 1))), (0, .int (nI a)), (1, .int (nI k)), (2, .int (nI v)), (4, .int (nI i))]) hx hb dX2_rootFrom_22 hl (k := 3) rfl (show nI r + Int32.ofInt 1 = nI (r + 1) from nI_add r 1) (by decide) rfl (fun ls hl => ?_)
          refine lv_iinc (v := nI (i + 1)) (lv' := [(4, .int (nI (i + 1))), (3, .int (nI (r + 1))), (0, .int (nI a)), (1, .int (nI k)), (2, .int (nI v))]) hx hb dX2_rootFrom_25 hl (k := 4) rfl (show nI i + Int32.ofInt 1 = nI (i + 1) from nI_add i 1) (by decide) rfl (fun ls hl => ?_)
          refine lv_goto (tgt := 5) hx hb dX2_rootFrom_28 (by decide) ?_
          exact ih (i + 1) (r + 1) (by omega) (by omega) (by omega) (isq_ge c_19) _ (lv_sub hl [2, 3, 4, 1, 0] rfl)
  exact LP_5 _ 0 a (Nat.lt_succ_self _) (Nat.zero_le _) (rfl) (ha) _ (lv_sub hl [2, 3, 4, 1, 0] rfl)
set_option maxHeartbeats 4000000 in
set_option maxRecDepth 100000 in
theorem c_X2_take (cy : Nat → ClassId) (D : va_G) (ad : Nat → Nat) (l : Launch) (σ : Nat → Nat → Int32) (a b x d : Int32) : kMv 38 ad (kcC cy ad) cy D l yX2_take wsX2_take ({ frames := 0, cells := 0, slots := 0, locals := 0 }) [.ref (ad 14), .int a, .int b, .int x, .int d] σ (fun σ' => σ' = va_up σ 14 (upd (upd (upd (upd (σ 14) 5 a) 6 b) 7 x) 8 d)) := by
  refine k_entry (cc := cX2_take) (maxL := 5) (ret := none) (by decide) rfl (Nat.le_of_ble_eq_true rfl) ?_
  intro p e s m below meth c hx hb hr hml hown hts hlk E I ls hl
  have hA : ∀ q, s.heap.size ≤ q → kA 38 ad s.heap.size q := fun q h => Or.inr h
  have hown : s.vm.findClass RX2 = some m.cls := hown
  have hl : lv_has ls 5 [(0, .ref (ad 14)), (1, .int a), (2, .int b), (3, .int x), (4, .int d)] := hl
  have iX2 : ∀ w ∈ u_ws RX2 TX2 12, w ∈ wsX2_take := fun w h => List.mem_cons_of_mem _ (List.mem_append_right _ h)
  refine lv_aload_n hx hb dX2_take_0 rfl (lv_at hl 0 rfl) ?_
  refine lv_iload_n hx hb dX2_take_1 rfl (lv_at hl 1 rfl) ?_
  refine k_put (C := RX2) (T := TX2) (N := 12) (ty0 := tyX2) (ty := .int) (v := .int a) hx hb hts hown E I iX2 tyX2_ok nmX2 (14) (by decide) (r0 := σ 14) rfl kc_14 rfl 5 (by decide) (List.mem_of_getElem? (i := 1) rfl) rfl rfl rfl rfl (Nat.le_of_ble_eq_true rfl) (upd (σ 14) 5 a) rfl (σ2 := va_up σ 14 (upd (σ 14) 5 a)) rfl dX2_take_2 (fun H locs I => ?_)
  refine lv_aload_n hx hb dX2_take_5 rfl (lv_at hl 0 rfl) ?_
  refine lv_iload_n hx hb dX2_take_6 rfl (lv_at hl 2 rfl) ?_
  refine k_put (C := RX2) (T := TX2) (N := 12) (ty0 := tyX2) (ty := .int) (v := .int b) hx hb hts hown E I iX2 tyX2_ok nmX2 (14) (by decide) (r0 := (upd (σ 14) 5 a)) rfl kc_14 rfl 6 (by decide) (List.mem_of_getElem? (i := 2) rfl) rfl rfl rfl rfl (Nat.le_of_ble_eq_true rfl) (upd (upd (σ 14) 5 a) 6 b) rfl (σ2 := va_up σ 14 (upd (upd (σ 14) 5 a) 6 b)) (bx_uu _ _ _ _) dX2_take_7 (fun H locs I => ?_)
  refine lv_aload_n hx hb dX2_take_10 rfl (lv_at hl 0 rfl) ?_
  refine lv_iload_n hx hb dX2_take_11 rfl (lv_at hl 3 rfl) ?_
  refine k_put (C := RX2) (T := TX2) (N := 12) (ty0 := tyX2) (ty := .int) (v := .int x) hx hb hts hown E I iX2 tyX2_ok nmX2 (14) (by decide) (r0 := (upd (upd (σ 14) 5 a) 6 b)) rfl kc_14 rfl 7 (by decide) (List.mem_of_getElem? (i := 3) rfl) rfl rfl rfl rfl (Nat.le_of_ble_eq_true rfl) (upd (upd (upd (σ 14) 5 a) 6 b) 7 x) rfl (σ2 := va_up σ 14 (upd (upd (upd (σ 14) 5 a) 6 b) 7 x)) (bx_uu _ _ _ _) dX2_take_12 (fun H locs I => ?_)
  refine lv_aload_n hx hb dX2_take_15 rfl (lv_at hl 0 rfl) ?_
  refine lv_iload hx hb dX2_take_16 (lv_at hl 4 rfl) ?_
  refine k_put (C := RX2) (T := TX2) (N := 12) (ty0 := tyX2) (ty := .int) (v := .int d) hx hb hts hown E I iX2 tyX2_ok nmX2 (14) (by decide) (r0 := (upd (upd (upd (σ 14) 5 a) 6 b) 7 x)) rfl kc_14 rfl 8 (by decide) (List.mem_of_getElem? (i := 4) rfl) rfl rfl rfl rfl (Nat.le_of_ble_eq_true rfl) (upd (upd (upd (upd (σ 14) 5 a) 6 b) 7 x) 8 d) rfl (σ2 := va_up σ 14 (upd (upd (upd (upd (σ 14) 5 a) 6 b) 7 x) 8 d)) (bx_uu _ _ _ _) dX2_take_18 (fun H locs I => ?_)
  exact k_vret hx hb hr hlk I dX2_take_21 (rfl)
end
section
/-! THE CHAIN: climb -/
set_option maxHeartbeats 4000000 in
set_option maxRecDepth 100000 in
theorem c_X2_climb (cy : Nat → ClassId) (D : va_G) (ad : Nat → Nat) (l : Launch) (σ : Nat → Nat → Int32) (h w n d : Nat) (hh : h ≤ 9999) (hw1 : 1 ≤ w) (hw : w ≤ 5) (hn : n ≤ 60) (hd : d ≤ 200) (e5 : σ 14 5 = nI h) (e6 : σ 14 6 = nI w) (e7 : σ 14 7 = nI n) (e8 : σ 14 8 = nI d) (u : Nat) (hu : u ≤ 999) : kMv 38 ad (kcC cy ad) cy D l yX2_climb wsX2_climb ({ frames := 1, cells := 0, slots := 0, locals := 24 }) [.ref (ad 14), .int (nI u)] σ (fun σ' => ∃ R : Nat → Int32, σ' = va_up σ 14 R ∧ R 9 = nI (hg h w u d n) ∧ R 10 = nI (sR h w u (hg h w u d n)) ∧ R 11 = nI (sX h w u (hg h w u d n)) ∧ ∀ j, j < 9 → R j = σ 14 j) := by
  have hhh : h * h ≤ 9999 * 9999 := sq_mono hh
  have huu : u * u ≤ 999 * 999 := sq_mono hu
  refine k_entry (cc := cX2_climb) (maxL := 5) (ret := none) (by decide) rfl (Nat.le_of_ble_eq_true rfl) ?_
  intro p e s m below meth c hx hb hr hml hown hts hlk E I ls hl
  have hA : ∀ q, s.heap.size ≤ q → kA 38 ad s.heap.size q := fun q h => Or.inr h
  have hown : s.vm.findClass RX2 = some m.cls := hown
  have hl : lv_has ls 5 [(0, .ref (ad 14)), (1, .int (nI u))] := hl
  have iX2 : ∀ w ∈ u_ws RX2 TX2 12, w ∈ wsX2_climb := fun w h => List.mem_cons_of_mem _ (List.mem_append_right _ h)
  refine lv_aload_n hx hb dX2_climb_0 rfl (lv_at hl 0 rfl) ?_
  refine lv_iconst (v := nI 0) hx hb dX2_climb_1 (by decide) ?_
  refine k_put (C := RX2) (T := TX2) (N := 12) (ty0 := tyX2) (ty := .int) (v := .int (nI 0)) hx hb hts hown E I iX2 tyX2_ok nmX2 (14) (by decide) (r0 := σ 14) rfl kc_14 rfl 9 (by decide) (List.mem_of_getElem? (i := 1) rfl) rfl rfl rfl rfl (Nat.le_of_ble_eq_true rfl) (upd (σ 14) 9 (nI 0)) rfl (σ2 := va_up σ 14 (upd (σ 14) 9 (nI 0))) rfl dX2_climb_2 (fun H locs I => ?_)
  refine lv_aload_n hx hb dX2_climb_5 rfl (lv_at hl 0 rfl) ?_
  refine lv_iconst (v := nI 0) hx hb dX2_climb_6 (by decide) ?_
  refine k_put (C := RX2) (T := TX2) (N := 12) (ty0 := tyX2) (ty := .int) (v := .int (nI 0)) hx hb hts hown E I iX2 tyX2_ok nmX2 (14) (by decide) (r0 := (upd (σ 14) 9 (nI 0))) rfl kc_14 rfl 10 (by decide) (List.mem_of_getElem? (i := 2) rfl) rfl rfl rfl rfl (Nat.le_of_ble_eq_true rfl) (upd (upd (σ 14) 9 (nI 0)) 10 (nI 0)) rfl (σ2 := va_up σ 14 (upd (upd (σ 14) 9 (nI 0)) 10 (nI 0))) (bx_uu _ _ _ _) dX2_climb_7 (fun H locs I => ?_)
  refine lv_aload_n hx hb dX2_climb_10 rfl (lv_at hl 0 rfl) ?_
  refine lv_iconst (v := nI 0) hx hb dX2_climb_11 (by decide) ?_
  refine k_put (C := RX2) (T := TX2) (N := 12) (ty0 := tyX2) (ty := .int) (v := .int (nI 0)) hx hb hts hown E I iX2 tyX2_ok nmX2 (14) (by decide) (r0 := (upd (upd (σ 14) 9 (nI 0)) 10 (nI 0))) rfl kc_14 rfl 11 (by decide) (List.mem_of_getElem? (i := 3) rfl) rfl rfl rfl rfl (Nat.le_of_ble_eq_true rfl) (upd (upd (upd (σ 14) 9 (nI 0)) 10 (nI 0)) 11 (nI 0)) rfl (σ2 := va_up σ 14 (upd (upd (upd (σ 14) 9 (nI 0)) 10 (nI 0)) 11 (nI 0))) (bx_uu _ _ _ _) dX2_climb_12 (fun H locs I => ?_)
  refine lv_iload_n hx hb dX2_climb_15 rfl (lv_at hl 1 rfl) ?_
  refine lv_istore_n (lv' := [(2, .int (nI u)), (0, .ref (ad 14)), (1, .int (nI u))]) hx hb dX2_climb_16 rfl hl (by decide) rfl (fun ls hl => ?_)
  refine lv_aload_n hx hb dX2_climb_17 rfl (lv_at hl 1 rfl) ?_
  refine k_get (C := RX2) (T := TX2) (N := 12) (v := .int (nI h)) hx hb hts hown E I iX2 (14) (by decide) (r0 := (upd (upd (upd (σ 14) 9 (nI 0)) 10 (nI 0)) 11 (nI 0))) rfl kc_14 rfl 5 (by decide) (List.mem_of_getElem? (i := 4) rfl) (congrArg (fun z => some (Value.int z)) e5) dX2_climb_18 ?_
  refine lv_aload_n hx hb dX2_climb_21 rfl (lv_at hl 1 rfl) ?_
  refine k_get (C := RX2) (T := TX2) (N := 12) (v := .int (nI h)) hx hb hts hown E I iX2 (14) (by decide) (r0 := (upd (upd (upd (σ 14) 9 (nI 0)) 10 (nI 0)) 11 (nI 0))) rfl kc_14 rfl 5 (by decide) (List.mem_of_getElem? (i := 4) rfl) (congrArg (fun z => some (Value.int z)) e5) dX2_climb_22 ?_
  refine lv_imul hx hb dX2_climb_25 ?_
  rw [pk_mul]
  refine lv_iload_n hx hb dX2_climb_26 rfl (lv_at hl 0 rfl) ?_
  refine lv_iload_n hx hb dX2_climb_27 rfl (lv_at hl 0 rfl) ?_
  refine lv_imul hx hb dX2_climb_28 ?_
  rw [pk_mul]
  refine lv_iadd hx hb dX2_climb_29 ?_
  rw [nI_add]
  refine k_calls (As := [.int (nI ((h * h) + (u * u)))]) (rest := []) ⟨hx, hb, hml, hown, hts⟩ (c_X2_root l (h * h + u * u) (by omega)) (va_cwS 1 hts gX2_climb_X2_root rfl rfl rfl (by decide +kernel) ⟨Nat.le_of_ble_eq_true rfl, Nat.le_of_ble_eq_true rfl⟩) rfl hl.1 rfl (lv_room (Nat.le_of_ble_eq_true rfl)) dX2_climb_30 ⟨Nat.le_of_ble_eq_true rfl, Nat.le_of_ble_eq_true rfl⟩ (fun r_30 hp_30 => ?_)
  subst hp_30
  refine lv_istore_n (lv' := [(3, .int (nI (isq (h * h + u * u)))), (2, .int (nI u)), (0, .ref (ad 14)), (1, .int (nI u))]) hx hb dX2_climb_33 rfl hl (by decide) rfl (fun ls hl => ?_)
  have LP_34 : ∀ (fuel : Nat) (k : Nat), n - k < fuel → (k ≤ n) → (∀ j, j < k → sR h w u j < d) → ∀ (H : Heap) (locs : List Loc), kI 38 ad (kcC cy ad) D (kA 38 ad s.heap.size) s.heap (va_up σ 14 (upd (upd (upd (σ 14) 9 (nI k)) 10 (nI (sR h w u k))) 11 (nI (sX h w u k)))) H locs → ∀ ls : Array Slot, lv_has ls 5 [(0, .ref (ad 14)), (1, .int (nI u)), (2, .int (nI (u + w * k))), (3, .int (nI (isq (h * h + (u + w * k) * (u + w * k)))))] → W p l e (headSpec wsX2_climb ({ frames := 1, cells := 0, slots := 0, locals := 24 })).room s m [.ref (ad 14), .int (nI u)].toArray below meth c H locs 0 0 (MQ below (va_Qv (fun σ' => ∃ R : Nat → Int32, σ' = va_up σ 14 R ∧ R 9 = nI (hg h w u d n) ∧ R 10 = nI (sR h w u (hg h w u d n)) ∧ R 11 = nI (sX h w u (hg h w u d n)) ∧ ∀ j, j < 9 → R j = σ 14 j) (kB 38 ad (kcC cy ad) D) (kA 38 ad s.heap.size)) [.ref (ad 14), .int (nI u)].toArray s 0 0 (kA 38 ad s.heap.size)) (F0 m 34 ls []) := by
    intro fuel
    induction fuel with
    | zero => intro k hf_; exact absurd hf_ (Nat.not_lt_zero _)
    | succ fuel ih =>
      intro k hf_ hkn hno H locs I ls hl
      have hs1 := sR_le h w u k
      have hs2 := sX_le h w u k
      refine lv_aload_n hx hb dX2_climb_34 rfl (lv_at hl 0 rfl) ?_
      refine k_get (C := RX2) (T := TX2) (N := 12) (v := .int (nI k)) hx hb hts hown E I iX2 (14) (by decide) (r0 := (upd (upd (upd (σ 14) 9 (nI k)) 10 (nI (sR h w u k))) 11 (nI (sX h w u k)))) rfl kc_14 rfl 9 (by decide) (List.mem_of_getElem? (i := 1) rfl) rfl dX2_climb_35 ?_
      refine lv_aload_n hx hb dX2_climb_38 rfl (lv_at hl 0 rfl) ?_
      refine k_get (C := RX2) (T := TX2) (N := 12) (v := .int (nI n)) hx hb hts hown E I iX2 (14) (by decide) (r0 := (upd (upd (upd (σ 14) 9 (nI k)) 10 (nI (sR h w u k))) 11 (nI (sX h w u k)))) rfl kc_14 rfl 7 (by decide) (List.mem_of_getElem? (i := 5) rfl) (congrArg (fun z => some (Value.int z)) e7) dX2_climb_39 ?_
      refine lv_icmp_ge (tgt := 158) hx hb dX2_climb_42 (by decide) (fun c_42 => ?_) (fun c_42 => ?_)
      · have c_42 : n ≤ k := (nI_leI (by omega) (by omega)).mp c_42
        have hgk : hg h w u d n = k := hg_eq hkn hno (fun z => absurd z (by omega))
        exact k_vret hx hb hr hlk I dX2_climb_158 (⟨_, rfl, congrArg nI hgk.symm, by rw [hgk]; rfl, by rw [hgk]; rfl, fun j hj => by simp only [upd]; rw [if_neg (by omega), if_neg (by omega), if_neg (by omega)]⟩)
      · have c_42 : ¬ (n ≤ k) := fun q_ => c_42 ((nI_leI (by omega) (by omega)).mpr q_)
        refine lv_aload_n hx hb dX2_climb_45 rfl (lv_at hl 0 rfl) ?_
        refine k_get (C := RX2) (T := TX2) (N := 12) (v := .int (nI (sR h w u k))) hx hb hts hown E I iX2 (14) (by decide) (r0 := (upd (upd (upd (σ 14) 9 (nI k)) 10 (nI (sR h w u k))) 11 (nI (sX h w u k)))) rfl kc_14 rfl 10 (by decide) (List.mem_of_getElem? (i := 2) rfl) rfl dX2_climb_46 ?_
        refine lv_aload_n hx hb dX2_climb_49 rfl (lv_at hl 0 rfl) ?_
        refine k_get (C := RX2) (T := TX2) (N := 12) (v := .int (nI d)) hx hb hts hown E I iX2 (14) (by decide) (r0 := (upd (upd (upd (σ 14) 9 (nI k)) 10 (nI (sR h w u k))) 11 (nI (sX h w u k)))) rfl kc_14 rfl 8 (by decide) (List.mem_of_getElem? (i := 6) rfl) (congrArg (fun z => some (Value.int z)) e8) dX2_climb_50 ?_
        refine lv_icmp_ge (tgt := 158) hx hb dX2_climb_53 (by decide) (fun c_53 => ?_) (fun c_53 => ?_)
        · have c_53 : d ≤ ((sR h w u k)) := (nI_leI (by omega) (by omega)).mp c_53
          have hgk : hg h w u d n = k := hg_eq hkn hno (fun z => by omega)
          exact k_vret hx hb hr hlk I dX2_climb_158 (⟨_, rfl, congrArg nI hgk.symm, by rw [hgk]; rfl, by rw [hgk]; rfl, fun j hj => by simp only [upd]; rw [if_neg (by omega), if_neg (by omega), if_neg (by omega)]⟩)
        · have c_53 : ¬ (d ≤ ((sR h w u k))) := fun q_ => c_53 ((nI_leI (by omega) (by omega)).mpr q_)
          have hD9 : w * (k + 1) ≤ 5 * 60 := Nat.mul_le_mul hw (by omega)
          have eD : u + w * (k + 1) = u + w * k + w := by rw [Nat.mul_add, Nat.mul_one, Nat.add_assoc]
          have hDD : (u + w * (k + 1)) * (u + w * (k + 1)) ≤ 1299 * 1299 := sq_mono (by omega)
          have hD1 : 1 ≤ u + w * (k + 1) := by have := Nat.mul_le_mul hw1 (show 1 ≤ k + 1 by omega); omega
          have hsl := isq_v h (u + w * (k + 1))
          have hsl9 : isq (h * h + (u + w * (k + 1)) * (u + w * (k + 1))) ≤ 16384 := isq_up (by omega)
          have hz10 := rz_le h (u + w * (k + 1))
          refine lv_aload_n hx hb dX2_climb_56 rfl (lv_at hl 0 rfl) ?_
          refine lv_dup hx hb dX2_climb_57 rfl ?_
          refine k_get (C := RX2) (T := TX2) (N := 12) (v := .int (nI k)) hx hb hts hown E I iX2 (14) (by decide) (r0 := (upd (upd (upd (σ 14) 9 (nI k)) 10 (nI (sR h w u k))) 11 (nI (sX h w u k)))) rfl kc_14 rfl 9 (by decide) (List.mem_of_getElem? (i := 1) rfl) rfl dX2_climb_58 ?_
          refine lv_iconst (v := nI 1) hx hb dX2_climb_61 (by decide) ?_
          refine lv_iadd hx hb dX2_climb_62 ?_
          rw [nI_add]
          refine k_put (C := RX2) (T := TX2) (N := 12) (ty0 := tyX2) (ty := .int) (v := .int (nI (k + 1))) hx hb hts hown E I iX2 tyX2_ok nmX2 (14) (by decide) (r0 := (upd (upd (upd (σ 14) 9 (nI k)) 10 (nI (sR h w u k))) 11 (nI (sX h w u k)))) rfl kc_14 rfl 9 (by decide) (List.mem_of_getElem? (i := 1) rfl) rfl rfl rfl rfl (Nat.le_of_ble_eq_true rfl) (upd (upd (upd (σ 14) 9 (nI (k + 1))) 10 (nI (sR h w u k))) 11 (nI (sX h w u k))) rfl (σ2 := va_up σ 14 (upd (upd (upd (σ 14) 9 (nI (k + 1))) 10 (nI (sR h w u k))) 11 (nI (sX h w u k)))) (bx_uu _ _ _ _) dX2_climb_63 (fun H locs I => ?_)
          refine lv_iload_n hx hb dX2_climb_66 rfl (lv_at hl 2 rfl) ?_
          refine lv_aload_n hx hb dX2_climb_67 rfl (lv_at hl 0 rfl) ?_
          refine k_get (C := RX2) (T := TX2) (N := 12) (v := .int (nI w)) hx hb hts hown E I iX2 (14) (by decide) (r0 := (upd (upd (upd (σ 14) 9 (nI (k + 1))) 10 (nI (sR h w u k))) 11 (nI (sX h w u k)))) rfl kc_14 rfl 6 (by decide) (List.mem_of_getElem? (i := 7) rfl) (congrArg (fun z => some (Value.int z)) e6) dX2_climb_68 ?_
          refine lv_iadd hx hb dX2_climb_71 ?_
          rw [nI_add]
          refine lv_topi (fun t_72 et_72 => ?_)
          have et_72 : t_72 = nI (u + w * (k + 1)) := et_72.trans (congrArg nI eD.symm)
          subst et_72
          refine lv_istore_n (lv' := [(2, .int (nI (u + w * (k + 1)))), (0, .ref (ad 14)), (1, .int (nI u)), (3, .int (nI (isq (h * h + (u + w * k) * (u + w * k)))))]) hx hb dX2_climb_72 rfl hl (by decide) rfl (fun ls hl => ?_)
          refine lv_iload_n hx hb dX2_climb_73 rfl (lv_at hl 3 rfl) ?_
          refine lv_aload_n hx hb dX2_climb_74 rfl (lv_at hl 1 rfl) ?_
          refine k_get (C := RX2) (T := TX2) (N := 12) (v := .int (nI w)) hx hb hts hown E I iX2 (14) (by decide) (r0 := (upd (upd (upd (σ 14) 9 (nI (k + 1))) 10 (nI (sR h w u k))) 11 (nI (sX h w u k)))) rfl kc_14 rfl 6 (by decide) (List.mem_of_getElem? (i := 7) rfl) (congrArg (fun z => some (Value.int z)) e6) dX2_climb_75 ?_
          refine lv_aload_n hx hb dX2_climb_78 rfl (lv_at hl 1 rfl) ?_
          refine k_get (C := RX2) (T := TX2) (N := 12) (v := .int (nI h)) hx hb hts hown E I iX2 (14) (by decide) (r0 := (upd (upd (upd (σ 14) 9 (nI (k + 1))) 10 (nI (sR h w u k))) 11 (nI (sX h w u k)))) rfl kc_14 rfl 5 (by decide) (List.mem_of_getElem? (i := 4) rfl) (congrArg (fun z => some (Value.int z)) e5) dX2_climb_79 ?_
          refine lv_aload_n hx hb dX2_climb_82 rfl (lv_at hl 1 rfl) ?_
          refine k_get (C := RX2) (T := TX2) (N := 12) (v := .int (nI h)) hx hb hts hown E I iX2 (14) (by decide) (r0 := (upd (upd (upd (σ 14) 9 (nI (k + 1))) 10 (nI (sR h w u k))) 11 (nI (sX h w u k)))) rfl kc_14 rfl 5 (by decide) (List.mem_of_getElem? (i := 4) rfl) (congrArg (fun z => some (Value.int z)) e5) dX2_climb_83 ?_
          refine lv_imul hx hb dX2_climb_86 ?_
          rw [pk_mul]
          refine lv_iload_n hx hb dX2_climb_87 rfl (lv_at hl 0 rfl) ?_
          refine lv_iload_n hx hb dX2_climb_88 rfl (lv_at hl 0 rfl) ?_
          refine lv_imul hx hb dX2_climb_89 ?_
          rw [pk_mul]
          refine lv_iadd hx hb dX2_climb_90 ?_
          rw [nI_add]
          refine k_calls (As := [.int (nI (isq (h * h + (u + w * k) * (u + w * k)))), .int (nI w), .int (nI ((h * h) + (((u + w * (k + 1))) * ((u + w * (k + 1))))))]) (rest := []) ⟨hx, hb, hml, hown, hts⟩ (c_X2_rootFrom l (isq (h * h + (u + w * k) * (u + w * k))) w (h * h + (u + w * (k + 1)) * (u + w * (k + 1))) (by omega) hw (isq_mono (Nat.add_le_add_left (sq_mono (by omega)) _)) (by rw [eD]; exact isq_steps w)) (va_cwS 3 hts gX2_climb_X2_rootFrom rfl rfl rfl (by decide +kernel) ⟨Nat.le_of_ble_eq_true rfl, Nat.le_of_ble_eq_true rfl⟩) rfl hl.1 rfl (lv_room (Nat.le_of_ble_eq_true rfl)) dX2_climb_91 ⟨Nat.le_of_ble_eq_true rfl, Nat.le_of_ble_eq_true rfl⟩ (fun r_91 hp_91 => ?_)
          subst hp_91
          refine lv_istore_n (lv' := [(3, .int (nI (isq (h * h + (u + w * (k + 1)) * (u + w * (k + 1)))))), (2, .int (nI (u + w * (k + 1)))), (0, .ref (ad 14)), (1, .int (nI u))]) hx hb dX2_climb_94 rfl hl (by decide) rfl (fun ls hl => ?_)
          refine lv_iload_n hx hb dX2_climb_95 rfl (lv_at hl 0 rfl) ?_
          refine lv_if_ne (tgt := 103) hx hb dX2_climb_96 (by decide) (fun c_96 => ?_) (fun c_96 => ?_)
          · have c_96 : ¬ ((isq (h * h + (u + w * (k + 1)) * (u + w * (k + 1)))) = 0) := fun q_ => c_96 ((nI_eq (by omega) (by decide)).mpr q_)
            refine lv_bipush (v := nI 10) hx hb dX2_climb_103 (by decide) ?_
            refine lv_iload_n hx hb dX2_climb_105 rfl (lv_at hl 1 rfl) ?_
            refine lv_imul hx hb dX2_climb_106 ?_
            rw [pk_mul]
            refine lv_iload_n hx hb dX2_climb_107 rfl (lv_at hl 0 rfl) ?_
            refine lv_idiv hx hb dX2_climb_108 (nI_ne0 (by omega) (by omega)) ?_
            refine lv_topi (fun t_109 et_109 => ?_)
            have et_109 : t_109 = nI (rz h (u + w * (k + 1))) := et_109.trans (pk_div (by omega) (by omega) (by omega))
            subst et_109
            refine lv_istore (lv' := [(4, .int (nI (rz h (u + w * (k + 1))))), (3, .int (nI (isq (h * h + (u + w * (k + 1)) * (u + w * (k + 1)))))), (2, .int (nI (u + w * (k + 1)))), (0, .ref (ad 14)), (1, .int (nI u))]) hx hb dX2_climb_109 hl (by decide) rfl (fun ls hl => ?_)
            refine lv_aload_n hx hb dX2_climb_111 rfl (lv_at hl 3 rfl) ?_
            refine lv_dup hx hb dX2_climb_112 rfl ?_
            refine k_get (C := RX2) (T := TX2) (N := 12) (v := .int (nI (sR h w u k))) hx hb hts hown E I iX2 (14) (by decide) (r0 := (upd (upd (upd (σ 14) 9 (nI (k + 1))) 10 (nI (sR h w u k))) 11 (nI (sX h w u k)))) rfl kc_14 rfl 10 (by decide) (List.mem_of_getElem? (i := 2) rfl) rfl dX2_climb_113 ?_
            refine lv_iload hx hb dX2_climb_116 (lv_at hl 0 rfl) ?_
            refine lv_iadd hx hb dX2_climb_118 ?_
            rw [nI_add]
            refine k_put (C := RX2) (T := TX2) (N := 12) (ty0 := tyX2) (ty := .int) (v := .int (nI (((sR h w u k)) + ((rz h (u + w * (k + 1))))))) hx hb hts hown E I iX2 tyX2_ok nmX2 (14) (by decide) (r0 := (upd (upd (upd (σ 14) 9 (nI (k + 1))) 10 (nI (sR h w u k))) 11 (nI (sX h w u k)))) rfl kc_14 rfl 10 (by decide) (List.mem_of_getElem? (i := 2) rfl) rfl rfl rfl rfl (Nat.le_of_ble_eq_true rfl) (upd (upd (upd (σ 14) 9 (nI (k + 1))) 10 (nI (((sR h w u k)) + ((rz h (u + w * (k + 1))))))) 11 (nI (sX h w u k))) rfl (σ2 := va_up σ 14 (upd (upd (upd (σ 14) 9 (nI (k + 1))) 10 (nI (((sR h w u k)) + ((rz h (u + w * (k + 1))))))) 11 (nI (sX h w u k)))) (bx_uu _ _ _ _) dX2_climb_119 (fun H locs I => ?_)
            refine lv_aload_n hx hb dX2_climb_122 rfl (lv_at hl 3 rfl) ?_
            refine lv_dup hx hb dX2_climb_123 rfl ?_
            refine k_get (C := RX2) (T := TX2) (N := 12) (v := .int (nI (sX h w u k))) hx hb hts hown E I iX2 (14) (by decide) (r0 := (upd (upd (upd (σ 14) 9 (nI (k + 1))) 10 (nI (((sR h w u k)) + ((rz h (u + w * (k + 1))))))) 11 (nI (sX h w u k)))) rfl kc_14 rfl 11 (by decide) (List.mem_of_getElem? (i := 3) rfl) rfl dX2_climb_124 ?_
            refine lv_iload hx hb dX2_climb_127 (lv_at hl 0 rfl) ?_
            refine lv_if_lt (tgt := 150) hx hb dX2_climb_129 (by decide) (fun c_129 => ?_) (fun c_129 => ?_)
            · have c_129 : ((rz h (u + w * (k + 1)))) < 0 := (nI_ltI (by omega) (by decide)).mp c_129
              exact absurd c_129 (Nat.not_lt_zero _)
            · have c_129 : ¬ (((rz h (u + w * (k + 1)))) < 0) := fun q_ => c_129 ((nI_ltI (by omega) (by decide)).mpr q_)
              refine lv_iload hx hb dX2_climb_132 (lv_at hl 0 rfl) ?_
              refine k_gets hx hb hts hown E.2.2.1 I.2.2 (List.mem_of_getElem? (i := 8) rfl) dX2_climb_134 (fun t1 ht1 => ?_)
              refine va_tlen hx hb ht1 I.2.2 (v := nI 11) rfl dX2_climb_137 ?_
              refine lv_icmp_ge (tgt := 150) hx hb dX2_climb_138 (by decide) (fun c_138 => ?_) (fun c_138 => ?_)
              · have c_138 : 11 ≤ ((rz h (u + w * (k + 1)))) := (nI_leI (by omega) (by omega)).mp c_138
                omega
              · have c_138 : ¬ (11 ≤ ((rz h (u + w * (k + 1))))) := fun q_ => c_138 ((nI_leI (by omega) (by omega)).mpr q_)
                refine k_gets hx hb hts hown E.2.2.1 I.2.2 (List.mem_of_getElem? (i := 8) rfl) dX2_climb_141 (fun t2 ht2 => ?_)
                refine lv_iload hx hb dX2_climb_144 (lv_at hl 0 rfl) ?_
                refine va_ti (v := .int (nI (isq (100 - rz h (u + w * (k + 1)) * rz h (u + w * (k + 1)))))) hx hb ht2 I.2.2 (vp_in_nI (show _ < 11 by omega) (by decide)) (by rw [nI_clamp (by omega)]; exact congrArg Value.int (kRUNS_at _ hz10)) dX2_climb_146 ?_
                refine lv_goto (tgt := 151) hx hb dX2_climb_147 (by decide) ?_
                refine lv_iadd hx hb dX2_climb_151 ?_
                rw [nI_add]
                refine k_put (C := RX2) (T := TX2) (N := 12) (ty0 := tyX2) (ty := .int) (v := .int (nI (((sX h w u k)) + ((isq (100 - rz h (u + w * (k + 1)) * rz h (u + w * (k + 1)))))))) hx hb hts hown E I iX2 tyX2_ok nmX2 (14) (by decide) (r0 := (upd (upd (upd (σ 14) 9 (nI (k + 1))) 10 (nI (((sR h w u k)) + ((rz h (u + w * (k + 1))))))) 11 (nI (sX h w u k)))) rfl kc_14 rfl 11 (by decide) (List.mem_of_getElem? (i := 3) rfl) rfl rfl rfl rfl (Nat.le_of_ble_eq_true rfl) (upd (upd (upd (σ 14) 9 (nI (k + 1))) 10 (nI (((sR h w u k)) + ((rz h (u + w * (k + 1))))))) 11 (nI (((sX h w u k)) + ((isq (100 - rz h (u + w * (k + 1)) * rz h (u + w * (k + 1)))))))) rfl (σ2 := va_up σ 14 (upd (upd (upd (σ 14) 9 (nI (k + 1))) 10 (nI (((sR h w u k)) + ((rz h (u + w * (k + 1))))))) 11 (nI (((sX h w u k)) + ((isq (100 - rz h (u + w * (k + 1)) * rz h (u + w * (k + 1))))))))) (bx_uu _ _ _ _) dX2_climb_152 (fun H locs I => ?_)
                refine lv_goto (tgt := 34) hx hb dX2_climb_155 (by decide) ?_
                exact ih (k + 1) (by omega) (by omega) (fun j hj => by by_cases q : j = k; (rw [q]; omega); exact hno j (by omega)) _ _ I _ (lv_sub hl [3, 4, 2, 1] rfl)
          · have c_96 : (isq (h * h + (u + w * (k + 1)) * (u + w * (k + 1)))) = 0 := (nI_eq (by omega) (by decide)).mp c_96
            omega
  exact LP_34 _ 0 (Nat.lt_succ_self _) (Nat.zero_le _) (fun j hj => absurd hj (Nat.not_lt_zero j)) _ _ I _ (lv_sub hl [2, 3, 1, 0] rfl)
end
section
/-! THE CHAIN: how it lies -/
set_option maxHeartbeats 4000000 in
set_option maxRecDepth 100000 in
theorem c_X2_holds (cy : Nat → ClassId) (D : va_G) (ad : Nat → Nat) (l : Launch) (σ : Nat → Nat → Int32) (h w n d : Nat) (hh : h ≤ 9999) (hw1 : 1 ≤ w) (hw : w ≤ 5) (hn : n ≤ 60) (hd : d ≤ 200) (e5 : σ 14 5 = nI h) (e6 : σ 14 6 = nI w) (e7 : σ 14 7 = nI n) (e8 : σ 14 8 = nI d) (g : Nat) (hg9 : g ≤ 999) : kMi 38 ad (kcC cy ad) cy D l yX2_holds wsX2_holds ({ frames := 2, cells := 0, slots := 0, locals := 48 }) [.ref (ad 14), .int (nI g)] σ (fun r σ' => kT r (zHolds h w d n g = true) ∧ ∃ R : Nat → Int32, σ' = va_up σ 14 R) := by
  refine k_entry (cc := cX2_holds) (maxL := 2) (ret := (some .boolean)) (by decide) rfl (Nat.le_of_ble_eq_true rfl) ?_
  intro p e s m below meth c hx hb hr hml hown hts hlk E I ls hl
  have hA : ∀ q, s.heap.size ≤ q → kA 38 ad s.heap.size q := fun q h => Or.inr h
  have hown : s.vm.findClass RX2 = some m.cls := hown
  have hl : lv_has ls 2 [(0, .ref (ad 14)), (1, .int (nI g))] := hl
  have iX2 : ∀ w ∈ u_ws RX2 TX2 12, w ∈ wsX2_holds := fun w h => List.mem_cons_of_mem _ (List.mem_append_right _ h)
  refine lv_aload_n hx hb dX2_holds_0 rfl (lv_at hl 0 rfl) ?_
  refine k_get (C := RX2) (T := TX2) (N := 12) (v := .int (nI h)) hx hb hts hown E I iX2 (14) (by decide) (r0 := σ 14) rfl kc_14 rfl 5 (by decide) (List.mem_of_getElem? (i := 1) rfl) (congrArg (fun z => some (Value.int z)) e5) dX2_holds_1 ?_
  refine lv_if_ne (tgt := 9) hx hb dX2_holds_4 (by decide) (fun c_4 => ?_) (fun c_4 => ?_)
  · have c_4 : ¬ (h = 0) := fun q_ => c_4 ((nI_eq (by omega) (by decide)).mpr q_)
    refine lv_aload_n hx hb dX2_holds_9 rfl (lv_at hl 0 rfl) ?_
    refine k_get (C := RX2) (T := TX2) (N := 12) (v := .int (nI h)) hx hb hts hown E I iX2 (14) (by decide) (r0 := σ 14) rfl kc_14 rfl 5 (by decide) (List.mem_of_getElem? (i := 1) rfl) (congrArg (fun z => some (Value.int z)) e5) dX2_holds_10 ?_
    refine lv_iload_n hx hb dX2_holds_13 rfl (lv_at hl 1 rfl) ?_
    refine lv_icmp_le (tgt := 19) hx hb dX2_holds_14 (by decide) (fun c_14 => ?_) (fun c_14 => ?_)
    · have c_14 : h ≤ g := (nI_leI (by omega) (by omega)).mp c_14
      refine lv_aload_n hx hb dX2_holds_19 rfl (lv_at hl 0 rfl) ?_
      refine lv_iload_n hx hb dX2_holds_20 rfl (lv_at hl 1 rfl) ?_
      refine lv_aload_n hx hb dX2_holds_21 rfl (lv_at hl 0 rfl) ?_
      refine k_get (C := RX2) (T := TX2) (N := 12) (v := .int (nI h)) hx hb hts hown E I iX2 (14) (by decide) (r0 := σ 14) rfl kc_14 rfl 5 (by decide) (List.mem_of_getElem? (i := 1) rfl) (congrArg (fun z => some (Value.int z)) e5) dX2_holds_22 ?_
      refine lv_isub hx hb dX2_holds_25 ?_
      refine lv_topi (fun t_26 et_26 => ?_)
      have et_26 : t_26 = nI (g - h) := et_26.trans (pk_sub c_14)
      subst et_26
      refine lv_iconst (v := nI 3) hx hb dX2_holds_26 (by decide) ?_
      refine lv_idiv hx hb dX2_holds_27 (by decide) ?_
      refine lv_topi (fun t_28 et_28 => ?_)
      have et_28 : t_28 = nI ((g - h) / 3) := et_28.trans (pk_div (by omega) (by decide) (by decide))
      subst et_28
      refine k_callv (k := 14) (As := [.int (nI ((g - h) / 3))]) (rest := []) ⟨hx, hb, hml, hown, hts⟩ (c_X2_climb cy D ad l σ h w n d hh hw1 hw hn hd e5 e6 e7 e8 ((g - h) / 3) (by omega)) (cwV 1 hts gX2_holds_X2_climb rfl rfl rfl (by decide +kernel) ⟨Nat.le_of_ble_eq_true rfl, Nat.le_of_ble_eq_true rfl⟩) E hA I (k_recv E I (by decide) kc_14 rfl) rfl hl.1 rfl (lv_room (Nat.le_of_ble_eq_true rfl)) dX2_holds_28 ⟨Nat.le_of_ble_eq_true rfl, Nat.le_of_ble_eq_true rfl⟩ (fun σ_28 H locs hp_28 I => ?_)
      obtain ⟨R, rfl, q9, q10, q11, qk⟩ := hp_28
      have r5 : R 5 = nI h := (qk 5 (by decide)).trans e5
      have r6 : R 6 = nI w := (qk 6 (by decide)).trans e6
      have r7 : R 7 = nI n := (qk 7 (by decide)).trans e7
      have r8 : R 8 = nI d := (qk 8 (by decide)).trans e8
      have hs1 := sR_le h w ((g - h) / 3) (hg h w ((g - h) / 3) d n)
      have hs2 := hg_le h w ((g - h) / 3) d n
      refine lv_aload_n hx hb dX2_holds_31 rfl (lv_at hl 0 rfl) ?_
      refine k_get (C := RX2) (T := TX2) (N := 12) (v := .int (nI (sR h w ((g - h) / 3) (hg h w ((g - h) / 3) d n)))) hx hb hts hown E I iX2 (14) (by decide) (r0 := (R)) rfl kc_14 rfl 10 (by decide) (List.mem_of_getElem? (i := 2) rfl) (congrArg (fun z => some (Value.int z)) q10) dX2_holds_32 ?_
      refine lv_aload_n hx hb dX2_holds_35 rfl (lv_at hl 0 rfl) ?_
      refine k_get (C := RX2) (T := TX2) (N := 12) (v := .int (nI d)) hx hb hts hown E I iX2 (14) (by decide) (r0 := (R)) rfl kc_14 rfl 8 (by decide) (List.mem_of_getElem? (i := 3) rfl) (congrArg (fun z => some (Value.int z)) r8) dX2_holds_36 ?_
      refine lv_icmp_lt (tgt := 46) hx hb dX2_holds_39 (by decide) (fun c_39 => ?_) (fun c_39 => ?_)
      · have c_39 : (sR h w ((g - h) / 3) (hg h w ((g - h) / 3) d n)) < d := (nI_ltI (by omega) (by omega)).mp c_39
        refine lv_iconst (v := nI 0) hx hb dX2_holds_46 (by decide) ?_
        exact k_zret hx hb hr (by decide) hlk I dX2_holds_47 (⟨by first | exact kT_1 (by rw [zHolds_one hg9 c_14]; simp; omega) | exact kT_0 (by rw [zHolds_one hg9 c_14]; simp; omega), R, rfl⟩)
      · have c_39 : ¬ ((sR h w ((g - h) / 3) (hg h w ((g - h) / 3) d n)) < d) := fun q_ => c_39 ((nI_ltI (by omega) (by omega)).mpr q_)
        refine lv_iconst (v := nI 1) hx hb dX2_holds_42 (by decide) ?_
        refine lv_goto (tgt := 47) hx hb dX2_holds_43 (by decide) ?_
        exact k_zret hx hb hr (by decide) hlk I dX2_holds_47 (⟨by first | exact kT_1 (by rw [zHolds_one hg9 c_14]; simp; omega) | exact kT_0 (by rw [zHolds_one hg9 c_14]; simp; omega), R, rfl⟩)
    · have c_14 : ¬ (h ≤ g) := fun q_ => c_14 ((nI_leI (by omega) (by omega)).mpr q_)
      refine lv_iconst (v := nI 0) hx hb dX2_holds_17 (by decide) ?_
      exact k_zret hx hb hr (by decide) hlk I dX2_holds_18 (⟨kT_0 (by rw [zHolds_no (by omega)]; decide), _, (kup_id σ 14).symm⟩)
  · have c_4 : h = 0 := (nI_eq (by omega) (by decide)).mp c_4
    refine lv_iconst (v := nI 1) hx hb dX2_holds_7 (by decide) ?_
    exact k_zret hx hb hr (by decide) hlk I dX2_holds_8 (⟨kT_1 (by rw [c_4]; exact zHolds_0), _, (kup_id σ 14).symm⟩)
set_option maxHeartbeats 4000000 in
set_option maxRecDepth 100000 in
theorem c_X2_holding (cy : Nat → ClassId) (D : va_G) (ad : Nat → Nat) (l : Launch) (σ : Nat → Nat → Int32) (t4 u g : Nat) (ht4 : t4 ≤ 1) (hu : u ≤ 999) (hg9 : g ≤ 999) (e4 : σ 14 4 = nI t4) (e3 : σ 14 3 = nI u) : kMi 38 ad (kcC cy ad) cy D l yX2_holding wsX2_holding ({ frames := 1, cells := 0, slots := 0, locals := 40 }) [.ref (ad 14), .int (nI g)] σ (fun r σ' => r = nI (if t4 = 1 then 0 else g - 3 * u) ∧ σ = σ') := by
  refine k_entry (cc := cX2_holding) (maxL := 2) (ret := (some .int)) (by decide) rfl (Nat.le_of_ble_eq_true rfl) ?_
  intro p e s m below meth c hx hb hr hml hown hts hlk E I ls hl
  have hA : ∀ q, s.heap.size ≤ q → kA 38 ad s.heap.size q := fun q h => Or.inr h
  have hown : s.vm.findClass RX2 = some m.cls := hown
  have hl : lv_has ls 2 [(0, .ref (ad 14)), (1, .int (nI g))] := hl
  have iX2 : ∀ w ∈ u_ws RX2 TX2 12, w ∈ wsX2_holding := fun w h => List.mem_cons_of_mem _ (List.mem_append_right _ h)
  refine lv_aload_n hx hb dX2_holding_0 rfl (lv_at hl 0 rfl) ?_
  refine k_get (C := RX2) (T := TX2) (N := 12) (v := .int (nI t4)) hx hb hts hown E I iX2 (14) (by decide) (r0 := σ 14) rfl kc_14 rfl 4 (by decide) (List.mem_of_getElem? (i := 1) rfl) (congrArg (fun z => some (Value.int z)) e4) dX2_holding_1 ?_
  refine lv_if_eq (tgt := 11) hx hb dX2_holding_4 (by decide) (fun c_4 => ?_) (fun c_4 => ?_)
  · have c_4 : t4 = 0 := (nI_eq (by omega) (by decide)).mp c_4
    refine lv_iconst (v := nI 0) hx hb dX2_holding_11 (by decide) ?_
    refine lv_iload_n hx hb dX2_holding_12 rfl (lv_at hl 1 rfl) ?_
    refine lv_iconst (v := nI 3) hx hb dX2_holding_13 (by decide) ?_
    refine lv_aload_n hx hb dX2_holding_14 rfl (lv_at hl 0 rfl) ?_
    refine k_get (C := RX2) (T := TX2) (N := 12) (v := .int (nI u)) hx hb hts hown E I iX2 (14) (by decide) (r0 := σ 14) rfl kc_14 rfl 3 (by decide) (List.mem_of_getElem? (i := 2) rfl) (congrArg (fun z => some (Value.int z)) e3) dX2_holding_15 ?_
    refine lv_imul hx hb dX2_holding_18 ?_
    rw [pk_mul]
    refine lv_isub hx hb dX2_holding_19 ?_
    refine va_mmax hx hb (hml.trans hl.1.symm) hown (hts _ (List.mem_of_getElem? (i := 3) rfl)) (hts _ (List.mem_of_getElem? (i := 4) rfl)) (hts _ (List.mem_of_getElem? (i := 5) rfl)) (hts _ (List.mem_of_getElem? (i := 6) rfl)) (Nat.le_of_ble_eq_true rfl) (Nat.le_of_ble_eq_true rfl) (Nat.le_of_ble_eq_true rfl) (Nat.le_of_ble_eq_true rfl) dX2_holding_20 ?_
    exact k_iret hx hb hr hlk I dX2_holding_23 (⟨by first | (have e_ : (if t4 = 1 then 0 else g - 3 * u) = 0 := if_pos (by omega); rw [e_]; done) | (have e_ : (if t4 = 1 then 0 else g - 3 * u) = g - 3 * u := if_neg (by omega); rw [e_]; exact kmax_sub (by omega) (by omega)), rfl⟩)
  · have c_4 : ¬ (t4 = 0) := fun q_ => c_4 ((nI_eq (by omega) (by decide)).mpr q_)
    refine lv_iconst (v := nI 0) hx hb dX2_holding_7 (by decide) ?_
    refine lv_goto (tgt := 23) hx hb dX2_holding_8 (by decide) ?_
    exact k_iret hx hb hr hlk I dX2_holding_23 (⟨by first | (have e_ : (if t4 = 1 then 0 else g - 3 * u) = 0 := if_pos (by omega); rw [e_]; done) | (have e_ : (if t4 = 1 then 0 else g - 3 * u) = g - 3 * u := if_neg (by omega); rw [e_]; exact kmax_sub (by omega) (by omega)), rfl⟩)
set_option maxHeartbeats 4000000 in
set_option maxRecDepth 100000 in
theorem c_X2_findLift (cy : Nat → ClassId) (D : va_G) (ad : Nat → Nat) (l : Launch) (σ : Nat → Nat → Int32) (h w n d : Nat) (hh : h ≤ 9999) (hw1 : 1 ≤ w) (hw : w ≤ 5) (hn : n ≤ 60) (hd : d ≤ 200) (e5 : σ 14 5 = nI h) (e6 : σ 14 6 = nI w) (e7 : σ 14 7 = nI n) (e8 : σ 14 8 = nI d) (h0 : sR h w 0 n < d) : kMv 38 ad (kcC cy ad) cy D l yX2_findLift wsX2_findLift ({ frames := 2, cells := 0, slots := 0, locals := 48 }) [.ref (ad 14)] σ (fun σ' => ∃ R : Nat → Int32, σ' = va_up σ 14 R ∧ R 3 = nI (min (lf h w d n) 999) ∧ R 4 = nI (if lf h w d n = 1000 then 1 else 0) ∧ (lf h w d n ≠ 1000 → R 11 = nI (sX h w (lf h w d n) n)) ∧ ∀ j, j < 9 → j ≠ 3 → j ≠ 4 → R j = σ 14 j) := by
  refine k_entry (cc := cX2_findLift) (maxL := 4) (ret := none) (by decide) rfl (Nat.le_of_ble_eq_true rfl) ?_
  intro p e s m below meth c hx hb hr hml hown hts hlk E I ls hl
  have hA : ∀ q, s.heap.size ≤ q → kA 38 ad s.heap.size q := fun q h => Or.inr h
  have hown : s.vm.findClass RX2 = some m.cls := hown
  have hl : lv_has ls 4 [(0, .ref (ad 14))] := hl
  have iX2 : ∀ w ∈ u_ws RX2 TX2 12, w ∈ wsX2_findLift := fun w h => List.mem_cons_of_mem _ (List.mem_append_right _ h)
  refine lv_iconst (v := nI 0) hx hb dX2_findLift_0 (by decide) ?_
  refine lv_istore_n (lv' := [(1, .int (nI 0)), (0, .ref (ad 14))]) hx hb dX2_findLift_1 rfl hl (by decide) rfl (fun ls hl => ?_)
  refine lv_sipush (v := nI 512) hx hb dX2_findLift_2 (by decide) ?_
  refine lv_istore_n (lv' := [(2, .int (nI 512)), (1, .int (nI 0)), (0, .ref (ad 14))]) hx hb dX2_findLift_5 rfl hl (by decide) rfl (fun ls hl => ?_)
  have LP_6 : ∀ (fuel : Nat) (j : Nat) (t : Nat) (R : Nat → Int32), j < fuel → (j ≤ 10) → (t ≤ 999) → (sR h w t n < d) → (1000 ≤ t + 2 ^ j ∨ d ≤ sR h w (t + 2 ^ j) n) → (∀ i, i < 9 → R i = σ 14 i) → ∀ (H : Heap) (locs : List Loc), kI 38 ad (kcC cy ad) D (kA 38 ad s.heap.size) s.heap (va_up σ 14 (R)) H locs → ∀ ls : Array Slot, lv_has ls 4 [(0, .ref (ad 14)), (1, .int (nI t)), (2, .int (nI (2 ^ j / 2)))] → W p l e (headSpec wsX2_findLift ({ frames := 2, cells := 0, slots := 0, locals := 48 })).room s m [.ref (ad 14)].toArray below meth c H locs 0 0 (MQ below (va_Qv (fun σ' => ∃ R : Nat → Int32, σ' = va_up σ 14 R ∧ R 3 = nI (min (lf h w d n) 999) ∧ R 4 = nI (if lf h w d n = 1000 then 1 else 0) ∧ (lf h w d n ≠ 1000 → R 11 = nI (sX h w (lf h w d n) n)) ∧ ∀ j, j < 9 → j ≠ 3 → j ≠ 4 → R j = σ 14 j) (kB 38 ad (kcC cy ad) D) (kA 38 ad s.heap.size)) [.ref (ad 14)].toArray s 0 0 (kA 38 ad s.heap.size)) (F0 m 6 ls []) := by
    intro fuel
    induction fuel with
    | zero => intro j t R hf_; exact absurd hf_ (Nat.not_lt_zero _)
    | succ fuel ih =>
      intro j t R hf_ hj ht hlt hup hRk H locs I ls hl
      have hpj : 2 ^ j ≤ 1024 := Nat.le_trans (Nat.pow_le_pow_right (by decide) hj) (by decide)
      have r5 : R 5 = nI h := (hRk 5 (by decide)).trans e5
      have r6 : R 6 = nI w := (hRk 6 (by decide)).trans e6
      have r7 : R 7 = nI n := (hRk 7 (by decide)).trans e7
      have r8 : R 8 = nI d := (hRk 8 (by decide)).trans e8
      refine lv_iload_n hx hb dX2_findLift_6 rfl (lv_at hl 2 rfl) ?_
      refine lv_if_le (tgt := 50) hx hb dX2_findLift_7 (by decide) (fun c_7 => ?_) (fun c_7 => ?_)
      · have c_7 : (2 ^ j / 2) ≤ 0 := (nI_leI (by omega) (by decide)).mp c_7
        have hj0 : j = 0 := by
          rcases Nat.eq_zero_or_pos j with q | q
          · exact q
          · have := Nat.pow_le_pow_right (show 0 < 2 by decide) q
            omega
        subst hj0
        have hz := zLie_lift (h := h) (n := n) hw1 ht hlt (fun q => hup.elim (fun z => absurd z (by simp; omega)) id)
        refine lv_aload_n hx hb dX2_findLift_50 rfl (lv_at hl 0 rfl) ?_
        refine lv_iload_n hx hb dX2_findLift_51 rfl (lv_at hl 1 rfl) ?_
        refine lv_sipush (v := nI 999) hx hb dX2_findLift_52 (by decide) ?_
        refine lv_icmp_ne (tgt := 62) hx hb dX2_findLift_55 (by decide) (fun c_55 => ?_) (fun c_55 => ?_)
        · have c_55 : ¬ (t = 999) := fun q_ => c_55 ((nI_eq (by omega) (by omega)).mpr q_)
          refine lv_iconst (v := nI 0) hx hb dX2_findLift_62 (by decide) ?_
          refine k_put (C := RX2) (T := TX2) (N := 12) (ty0 := tyX2) (ty := .boolean) (v := .int (nI 0)) hx hb hts hown E I iX2 tyX2_ok nmX2 (14) (by decide) (r0 := (R)) rfl kc_14 rfl 4 (by decide) (List.mem_of_getElem? (i := 3) rfl) rfl rfl (by decide) (by decide) (Nat.le_of_ble_eq_true rfl) (upd R 4 (nI 0)) rfl (σ2 := va_up σ 14 (upd R 4 (nI 0))) (bx_uu _ _ _ _) dX2_findLift_63 (fun H locs I => ?_)
          refine lv_aload_n hx hb dX2_findLift_66 rfl (lv_at hl 0 rfl) ?_
          refine lv_iload_n hx hb dX2_findLift_67 rfl (lv_at hl 1 rfl) ?_
          refine lv_iconst (v := nI 1) hx hb dX2_findLift_68 (by decide) ?_
          refine lv_iadd hx hb dX2_findLift_69 ?_
          rw [nI_add]
          refine lv_sipush (v := nI 999) hx hb dX2_findLift_70 (by decide) ?_
          refine va_mmin hx hb (hml.trans hl.1.symm) hown (hts _ (List.mem_of_getElem? (i := 4) rfl)) (hts _ (List.mem_of_getElem? (i := 5) rfl)) (hts _ (List.mem_of_getElem? (i := 6) rfl)) (hts _ (List.mem_of_getElem? (i := 7) rfl)) (Nat.le_of_ble_eq_true rfl) (Nat.le_of_ble_eq_true rfl) (Nat.le_of_ble_eq_true rfl) (Nat.le_of_ble_eq_true rfl) dX2_findLift_73 ?_
          refine lv_topi (fun t_76 et_76 => ?_)
          have et_76 : t_76 = nI (min (t + 1) 999) := et_76.trans (kmin_nI (by omega) (by decide))
          subst et_76
          refine k_put (C := RX2) (T := TX2) (N := 12) (ty0 := tyX2) (ty := .int) (v := .int (nI (min (t + 1) 999))) hx hb hts hown E I iX2 tyX2_ok nmX2 (14) (by decide) (r0 := (upd R 4 (nI 0))) rfl kc_14 rfl 3 (by decide) (List.mem_of_getElem? (i := 8) rfl) rfl rfl rfl rfl (Nat.le_of_ble_eq_true rfl) (upd (upd R 3 (nI (min (t + 1) 999))) 4 (nI 0)) rfl (σ2 := va_up σ 14 (upd (upd R 3 (nI (min (t + 1) 999))) 4 (nI 0))) (bx_uu _ _ _ _) dX2_findLift_76 (fun H locs I => ?_)
          refine lv_aload_n hx hb dX2_findLift_79 rfl (lv_at hl 0 rfl) ?_
          refine lv_aload_n hx hb dX2_findLift_80 rfl (lv_at hl 0 rfl) ?_
          refine k_get (C := RX2) (T := TX2) (N := 12) (v := .int (nI (min (t + 1) 999))) hx hb hts hown E I iX2 (14) (by decide) (r0 := (upd (upd R 3 (nI (min (t + 1) 999))) 4 (nI 0))) rfl kc_14 rfl 3 (by decide) (List.mem_of_getElem? (i := 8) rfl) rfl dX2_findLift_81 ?_
          refine k_callv (k := 14) (As := [.int (nI (min (t + 1) 999))]) (rest := []) ⟨hx, hb, hml, hown, hts⟩ (c_X2_climb cy D ad l (va_up σ 14 (upd (upd R 3 (nI (min (t + 1) 999))) 4 (nI 0))) h w n d hh hw1 hw hn hd r5 r6 r7 r8 (min (t + 1) 999) (by omega)) (cwV 1 hts gX2_findLift_X2_climb rfl rfl rfl (by decide +kernel) ⟨Nat.le_of_ble_eq_true rfl, Nat.le_of_ble_eq_true rfl⟩) E hA I (k_recv E I (by decide) kc_14 rfl) rfl hl.1 rfl (lv_room (Nat.le_of_ble_eq_true rfl)) dX2_findLift_84 ⟨Nat.le_of_ble_eq_true rfl, Nat.le_of_ble_eq_true rfl⟩ (fun σ_84 H locs hp_84 I => ?_)
          obtain ⟨R2, rfl, p9, p10, p11, pk⟩ := hp_84
          rw [bx_uu] at I
          exact k_vret hx hb hr hlk I dX2_findLift_87 (⟨R2, rfl, by rw [hz.2.1]; exact pk 3 (by decide), by rw [hz.2.1]; first | (rw [if_pos (by omega)]; exact pk 4 (by decide)) | (rw [if_neg (by omega)]; exact pk 4 (by decide)), fun hne => by rw [hz.2.1] at hne ⊢; rw [p11, Nat.min_eq_left (by omega), hz.2.2.2 (by omega)], fun j hj h3 h4 => (pk j hj).trans (by show upd (upd R 3 _) 4 _ j = _; simp only [upd]; rw [if_neg h4, if_neg h3]; exact hRk j hj)⟩)
        · have c_55 : t = 999 := (nI_eq (by omega) (by omega)).mp c_55
          refine lv_iconst (v := nI 1) hx hb dX2_findLift_58 (by decide) ?_
          refine lv_goto (tgt := 63) hx hb dX2_findLift_59 (by decide) ?_
          refine k_put (C := RX2) (T := TX2) (N := 12) (ty0 := tyX2) (ty := .boolean) (v := .int (nI 1)) hx hb hts hown E I iX2 tyX2_ok nmX2 (14) (by decide) (r0 := (R)) rfl kc_14 rfl 4 (by decide) (List.mem_of_getElem? (i := 3) rfl) rfl rfl (by decide) (by decide) (Nat.le_of_ble_eq_true rfl) (upd R 4 (nI 1)) rfl (σ2 := va_up σ 14 (upd R 4 (nI 1))) (bx_uu _ _ _ _) dX2_findLift_63 (fun H locs I => ?_)
          refine lv_aload_n hx hb dX2_findLift_66 rfl (lv_at hl 0 rfl) ?_
          refine lv_iload_n hx hb dX2_findLift_67 rfl (lv_at hl 1 rfl) ?_
          refine lv_iconst (v := nI 1) hx hb dX2_findLift_68 (by decide) ?_
          refine lv_iadd hx hb dX2_findLift_69 ?_
          rw [nI_add]
          refine lv_sipush (v := nI 999) hx hb dX2_findLift_70 (by decide) ?_
          refine va_mmin hx hb (hml.trans hl.1.symm) hown (hts _ (List.mem_of_getElem? (i := 4) rfl)) (hts _ (List.mem_of_getElem? (i := 5) rfl)) (hts _ (List.mem_of_getElem? (i := 6) rfl)) (hts _ (List.mem_of_getElem? (i := 7) rfl)) (Nat.le_of_ble_eq_true rfl) (Nat.le_of_ble_eq_true rfl) (Nat.le_of_ble_eq_true rfl) (Nat.le_of_ble_eq_true rfl) dX2_findLift_73 ?_
          refine lv_topi (fun t_76 et_76 => ?_)
          have et_76 : t_76 = nI (min (t + 1) 999) := et_76.trans (kmin_nI (by omega) (by decide))
          subst et_76
          refine k_put (C := RX2) (T := TX2) (N := 12) (ty0 := tyX2) (ty := .int) (v := .int (nI (min (t + 1) 999))) hx hb hts hown E I iX2 tyX2_ok nmX2 (14) (by decide) (r0 := (upd R 4 (nI 1))) rfl kc_14 rfl 3 (by decide) (List.mem_of_getElem? (i := 8) rfl) rfl rfl rfl rfl (Nat.le_of_ble_eq_true rfl) (upd (upd R 3 (nI (min (t + 1) 999))) 4 (nI 1)) rfl (σ2 := va_up σ 14 (upd (upd R 3 (nI (min (t + 1) 999))) 4 (nI 1))) (bx_uu _ _ _ _) dX2_findLift_76 (fun H locs I => ?_)
          refine lv_aload_n hx hb dX2_findLift_79 rfl (lv_at hl 0 rfl) ?_
          refine lv_aload_n hx hb dX2_findLift_80 rfl (lv_at hl 0 rfl) ?_
          refine k_get (C := RX2) (T := TX2) (N := 12) (v := .int (nI (min (t + 1) 999))) hx hb hts hown E I iX2 (14) (by decide) (r0 := (upd (upd R 3 (nI (min (t + 1) 999))) 4 (nI 1))) rfl kc_14 rfl 3 (by decide) (List.mem_of_getElem? (i := 8) rfl) rfl dX2_findLift_81 ?_
          refine k_callv (k := 14) (As := [.int (nI (min (t + 1) 999))]) (rest := []) ⟨hx, hb, hml, hown, hts⟩ (c_X2_climb cy D ad l (va_up σ 14 (upd (upd R 3 (nI (min (t + 1) 999))) 4 (nI 1))) h w n d hh hw1 hw hn hd r5 r6 r7 r8 (min (t + 1) 999) (by omega)) (cwV 1 hts gX2_findLift_X2_climb rfl rfl rfl (by decide +kernel) ⟨Nat.le_of_ble_eq_true rfl, Nat.le_of_ble_eq_true rfl⟩) E hA I (k_recv E I (by decide) kc_14 rfl) rfl hl.1 rfl (lv_room (Nat.le_of_ble_eq_true rfl)) dX2_findLift_84 ⟨Nat.le_of_ble_eq_true rfl, Nat.le_of_ble_eq_true rfl⟩ (fun σ_84 H locs hp_84 I => ?_)
          obtain ⟨R2, rfl, p9, p10, p11, pk⟩ := hp_84
          rw [bx_uu] at I
          exact k_vret hx hb hr hlk I dX2_findLift_87 (⟨R2, rfl, by rw [hz.2.1]; exact pk 3 (by decide), by rw [hz.2.1]; first | (rw [if_pos (by omega)]; exact pk 4 (by decide)) | (rw [if_neg (by omega)]; exact pk 4 (by decide)), fun hne => by rw [hz.2.1] at hne ⊢; rw [p11, Nat.min_eq_left (by omega), hz.2.2.2 (by omega)], fun j hj h3 h4 => (pk j hj).trans (by show upd (upd R 3 _) 4 _ j = _; simp only [upd]; rw [if_neg h4, if_neg h3]; exact hRk j hj)⟩)
      · have c_7 : ¬ ((2 ^ j / 2) ≤ 0) := fun q_ => c_7 ((nI_leI (by omega) (by decide)).mpr q_)
        obtain ⟨i, hi⟩ : ∃ i, j = i + 1 := ⟨j - 1, by
          rcases Nat.eq_zero_or_pos j with q | q
          · rw [q] at c_7; exact absurd (by decide) c_7
          · omega⟩
        have e2 : 2 ^ j / 2 = 2 ^ i := by rw [hi, Nat.pow_succ]; omega
        have e3_ : t + 2 ^ j / 2 + 2 ^ i = t + 2 ^ j := by rw [hi, Nat.pow_succ]; omega
        refine lv_iload_n hx hb dX2_findLift_10 rfl (lv_at hl 1 rfl) ?_
        refine lv_iload_n hx hb dX2_findLift_11 rfl (lv_at hl 2 rfl) ?_
        refine lv_iadd hx hb dX2_findLift_12 ?_
        rw [nI_add]
        refine lv_istore_n (lv' := [(3, .int (nI (t + (2 ^ j / 2)))), (0, .ref (ad 14)), (1, .int (nI t)), (2, .int (nI (2 ^ j / 2)))]) hx hb dX2_findLift_13 rfl hl (by decide) rfl (fun ls hl => ?_)
        refine lv_iload_n hx hb dX2_findLift_14 rfl (lv_at hl 0 rfl) ?_
        refine lv_sipush (v := nI 999) hx hb dX2_findLift_15 (by decide) ?_
        refine lv_icmp_gt (tgt := 43) hx hb dX2_findLift_18 (by decide) (fun c_18 => ?_) (fun c_18 => ?_)
        · have c_18 : 999 < (t + (2 ^ j / 2)) := (nI_ltI (by omega) (by omega)).mp c_18
          refine lv_iload_n hx hb dX2_findLift_43 rfl (lv_at hl 3 rfl) ?_
          refine lv_iconst (v := nI 1) hx hb dX2_findLift_44 (by decide) ?_
          refine lv_ishr hx hb dX2_findLift_45 ?_
          refine lv_topi (fun t_46 et_46 => ?_)
          have et_46 : t_46 = nI (2 ^ i / 2) := et_46.trans (by rw [← e2]; exact pk_shrN (by omega) _ 1 (by decide))
          subst et_46
          refine lv_istore_n (lv' := [(2, .int (nI (2 ^ i / 2))), (3, .int (nI (t + (2 ^ j / 2)))), (0, .ref (ad 14)), (1, .int (nI t))]) hx hb dX2_findLift_46 rfl hl (by decide) rfl (fun ls hl => ?_)
          refine lv_goto (tgt := 6) hx hb dX2_findLift_47 (by decide) ?_
          exact ih i t R (by omega) (by omega) (ht) (hlt) (Or.inl (by omega)) (hRk) _ _ I _ (lv_sub hl [2, 3, 0] rfl)
        · have c_18 : ¬ (999 < (t + (2 ^ j / 2))) := fun q_ => c_18 ((nI_ltI (by omega) (by omega)).mpr q_)
          refine lv_aload_n hx hb dX2_findLift_21 rfl (lv_at hl 1 rfl) ?_
          refine lv_iload_n hx hb dX2_findLift_22 rfl (lv_at hl 0 rfl) ?_
          refine k_callv (k := 14) (As := [.int (nI (t + (2 ^ j / 2)))]) (rest := []) ⟨hx, hb, hml, hown, hts⟩ (c_X2_climb cy D ad l (va_up σ 14 (R)) h w n d hh hw1 hw hn hd r5 r6 r7 r8 (t + 2 ^ j / 2) (by omega)) (cwV 1 hts gX2_findLift_X2_climb rfl rfl rfl (by decide +kernel) ⟨Nat.le_of_ble_eq_true rfl, Nat.le_of_ble_eq_true rfl⟩) E hA I (k_recv E I (by decide) kc_14 rfl) rfl hl.1 rfl (lv_room (Nat.le_of_ble_eq_true rfl)) dX2_findLift_23 ⟨Nat.le_of_ble_eq_true rfl, Nat.le_of_ble_eq_true rfl⟩ (fun σ_23 H locs hp_23 I => ?_)
          obtain ⟨R1, rfl, q9, q10, q11, qk⟩ := hp_23
          rw [bx_uu] at I
          have s5 : R1 5 = nI h := (qk 5 (by decide)).trans r5
          have s6 : R1 6 = nI w := (qk 6 (by decide)).trans r6
          have s7 : R1 7 = nI n := (qk 7 (by decide)).trans r7
          have s8 : R1 8 = nI d := (qk 8 (by decide)).trans r8
          have hs1 := sR_le h w (t + 2 ^ j / 2) (hg h w (t + 2 ^ j / 2) d n)
          have hs2 := hg_le h w (t + 2 ^ j / 2) d n
          refine lv_aload_n hx hb dX2_findLift_26 rfl (lv_at hl 1 rfl) ?_
          refine k_get (C := RX2) (T := TX2) (N := 12) (v := .int (nI (sR h w (t + 2 ^ j / 2) (hg h w (t + 2 ^ j / 2) d n)))) hx hb hts hown E I iX2 (14) (by decide) (r0 := (R1)) rfl kc_14 rfl 10 (by decide) (List.mem_of_getElem? (i := 1) rfl) (congrArg (fun z => some (Value.int z)) q10) dX2_findLift_27 ?_
          refine lv_aload_n hx hb dX2_findLift_30 rfl (lv_at hl 1 rfl) ?_
          refine k_get (C := RX2) (T := TX2) (N := 12) (v := .int (nI d)) hx hb hts hown E I iX2 (14) (by decide) (r0 := (R1)) rfl kc_14 rfl 8 (by decide) (List.mem_of_getElem? (i := 2) rfl) (congrArg (fun z => some (Value.int z)) s8) dX2_findLift_31 ?_
          refine lv_icmp_ge (tgt := 41) hx hb dX2_findLift_34 (by decide) (fun c_34 => ?_) (fun c_34 => ?_)
          · have c_34 : d ≤ (sR h w (t + 2 ^ j / 2) (hg h w (t + 2 ^ j / 2) d n)) := (nI_leI (by omega) (by omega)).mp c_34
            refine lv_iload_n hx hb dX2_findLift_41 rfl (lv_at hl 2 rfl) ?_
            refine lv_istore_n (lv' := [(1, .int (nI t)), (3, .int (nI (t + (2 ^ j / 2)))), (0, .ref (ad 14)), (2, .int (nI (2 ^ j / 2)))]) hx hb dX2_findLift_42 rfl hl (by decide) rfl (fun ls hl => ?_)
            refine lv_iload_n hx hb dX2_findLift_43 rfl (lv_at hl 3 rfl) ?_
            refine lv_iconst (v := nI 1) hx hb dX2_findLift_44 (by decide) ?_
            refine lv_ishr hx hb dX2_findLift_45 ?_
            refine lv_topi (fun t_46 et_46 => ?_)
            have et_46 : t_46 = nI (2 ^ i / 2) := et_46.trans (by rw [← e2]; exact pk_shrN (by omega) _ 1 (by decide))
            subst et_46
            refine lv_istore_n (lv' := [(2, .int (nI (2 ^ i / 2))), (1, .int (nI t)), (3, .int (nI (t + (2 ^ j / 2)))), (0, .ref (ad 14))]) hx hb dX2_findLift_46 rfl hl (by decide) rfl (fun ls hl => ?_)
            refine lv_goto (tgt := 6) hx hb dX2_findLift_47 (by decide) ?_
            exact ih i t R1 (by omega) (by omega) (ht) (hlt) (Or.inr (by rw [← e2]; exact (hg_iff h w (t + 2 ^ j / 2) d n).mp c_34)) (fun i hi => (qk i hi).trans (hRk i hi)) _ _ I _ (lv_sub hl [3, 1, 0] rfl)
          · have c_34 : ¬ (d ≤ (sR h w (t + 2 ^ j / 2) (hg h w (t + 2 ^ j / 2) d n))) := fun q_ => c_34 ((nI_leI (by omega) (by omega)).mpr q_)
            refine lv_iload_n hx hb dX2_findLift_37 rfl (lv_at hl 0 rfl) ?_
            refine lv_goto (tgt := 42) hx hb dX2_findLift_38 (by decide) ?_
            refine lv_istore_n (lv' := [(1, .int (nI (t + (2 ^ j / 2)))), (3, .int (nI (t + (2 ^ j / 2)))), (0, .ref (ad 14)), (2, .int (nI (2 ^ j / 2)))]) hx hb dX2_findLift_42 rfl hl (by decide) rfl (fun ls hl => ?_)
            refine lv_iload_n hx hb dX2_findLift_43 rfl (lv_at hl 3 rfl) ?_
            refine lv_iconst (v := nI 1) hx hb dX2_findLift_44 (by decide) ?_
            refine lv_ishr hx hb dX2_findLift_45 ?_
            refine lv_topi (fun t_46 et_46 => ?_)
            have et_46 : t_46 = nI (2 ^ i / 2) := et_46.trans (by rw [← e2]; exact pk_shrN (by omega) _ 1 (by decide))
            subst et_46
            refine lv_istore_n (lv' := [(2, .int (nI (2 ^ i / 2))), (1, .int (nI (t + (2 ^ j / 2)))), (3, .int (nI (t + (2 ^ j / 2)))), (0, .ref (ad 14))]) hx hb dX2_findLift_46 rfl hl (by decide) rfl (fun ls hl => ?_)
            refine lv_goto (tgt := 6) hx hb dX2_findLift_47 (by decide) ?_
            exact ih i (t + 2 ^ j / 2) R1 (by omega) (by omega) (by omega) (Nat.lt_of_not_le (fun q => c_34 ((hg_iff h w (t + 2 ^ j / 2) d n).mpr q))) (by rw [e3_]; exact hup) (fun i hi => (qk i hi).trans (hRk i hi)) _ _ I _ (lv_sub hl [3, 1, 0] rfl)
  exact LP_6 _ 10 0 (σ 14) (Nat.lt_succ_self _) (Nat.le_refl _) (Nat.zero_le _) (h0) (Or.inl (by decide)) (fun i _ => rfl) _ _ (by rw [kup_id]; exact I) _ (lv_sub hl [2, 1, 0] rfl)
set_option maxHeartbeats 4000000 in
set_option maxRecDepth 100000 in
theorem c_X2_findLie (cy : Nat → ClassId) (D : va_G) (ad : Nat → Nat) (l : Launch) (σ : Nat → Nat → Int32) (h w n d : Nat) (hh : h ≤ 9999) (hw1 : 1 ≤ w) (hw : w ≤ 5) (hn : n ≤ 60) (hd : d ≤ 200) (e5 : σ 14 5 = nI h) (e6 : σ 14 6 = nI w) (e7 : σ 14 7 = nI n) (e8 : σ 14 8 = nI d) : kMv 38 ad (kcC cy ad) cy D l yX2_findLie wsX2_findLie ({ frames := 3, cells := 0, slots := 0, locals := 71 }) [.ref (ad 14)] σ (fun σ' => ∃ R : Nat → Int32, σ' = va_up σ 14 R ∧ R 0 = nI (hg h w 0 d n) ∧ R 1 = nI (zGround h w d n) ∧ R 2 = nI (zReach h w d n) ∧ R 3 = nI (zLift h w d n) ∧ R 4 = nI (if zTaut h w d n then 1 else 0)) := by
  refine k_entry (cc := cX2_findLie) (maxL := 1) (ret := none) (by decide) rfl (Nat.le_of_ble_eq_true rfl) ?_
  intro p e s m below meth c hx hb hr hml hown hts hlk E I ls hl
  have hA : ∀ q, s.heap.size ≤ q → kA 38 ad s.heap.size q := fun q h => Or.inr h
  have hown : s.vm.findClass RX2 = some m.cls := hown
  have hl : lv_has ls 1 [(0, .ref (ad 14))] := hl
  have iX2 : ∀ w ∈ u_ws RX2 TX2 12, w ∈ wsX2_findLie := fun w h => List.mem_cons_of_mem _ (List.mem_append_right _ h)
  refine lv_aload_n hx hb dX2_findLie_0 rfl (lv_at hl 0 rfl) ?_
  refine lv_iconst (v := nI 0) hx hb dX2_findLie_1 (by decide) ?_
  refine k_callv (k := 14) (As := [.int (nI 0)]) (rest := []) ⟨hx, hb, hml, hown, hts⟩ (c_X2_climb cy D ad l σ h w n d hh hw1 hw hn hd e5 e6 e7 e8 0 (by decide)) (cwV 1 hts gX2_findLie_X2_climb rfl rfl rfl (by decide +kernel) ⟨Nat.le_of_ble_eq_true rfl, Nat.le_of_ble_eq_true rfl⟩) E hA I (k_recv E I (by decide) kc_14 rfl) rfl hl.1 rfl (lv_room (Nat.le_of_ble_eq_true rfl)) dX2_findLie_2 ⟨Nat.le_of_ble_eq_true rfl, Nat.le_of_ble_eq_true rfl⟩ (fun σ_2 H locs hp_2 I => ?_)
  obtain ⟨R, rfl, q9, q10, q11, qk⟩ := hp_2
  have r5 : R 5 = nI h := (qk 5 (by decide)).trans e5
  have r6 : R 6 = nI w := (qk 6 (by decide)).trans e6
  have r7 : R 7 = nI n := (qk 7 (by decide)).trans e7
  have r8 : R 8 = nI d := (qk 8 (by decide)).trans e8
  have hs1 := sR_le h w 0 (hg h w 0 d n)
  have hs2 := hg_le h w 0 d n
  have hs3 := sX_le h w 0 (hg h w 0 d n)
  refine lv_aload_n hx hb dX2_findLie_5 rfl (lv_at hl 0 rfl) ?_
  refine lv_aload_n hx hb dX2_findLie_6 rfl (lv_at hl 0 rfl) ?_
  refine k_get (C := RX2) (T := TX2) (N := 12) (v := .int (nI (hg h w 0 d n))) hx hb hts hown E I iX2 (14) (by decide) (r0 := (R)) rfl kc_14 rfl 9 (by decide) (List.mem_of_getElem? (i := 1) rfl) (congrArg (fun z => some (Value.int z)) q9) dX2_findLie_7 ?_
  refine k_put (C := RX2) (T := TX2) (N := 12) (ty0 := tyX2) (ty := .int) (v := .int (nI (hg h w 0 d n))) hx hb hts hown E I iX2 tyX2_ok nmX2 (14) (by decide) (r0 := (R)) rfl kc_14 rfl 0 (by decide) (List.mem_of_getElem? (i := 2) rfl) rfl rfl rfl rfl (Nat.le_of_ble_eq_true rfl) (upd R 0 (nI (hg h w 0 d n))) rfl (σ2 := va_up σ 14 (upd R 0 (nI (hg h w 0 d n)))) (bx_uu _ _ _ _) dX2_findLie_10 (fun H locs I => ?_)
  refine lv_aload_n hx hb dX2_findLie_13 rfl (lv_at hl 0 rfl) ?_
  refine lv_iconst (v := nI 0) hx hb dX2_findLie_14 (by decide) ?_
  refine k_put (C := RX2) (T := TX2) (N := 12) (ty0 := tyX2) (ty := .int) (v := .int (nI 0)) hx hb hts hown E I iX2 tyX2_ok nmX2 (14) (by decide) (r0 := (upd R 0 (nI (hg h w 0 d n)))) rfl kc_14 rfl 3 (by decide) (List.mem_of_getElem? (i := 3) rfl) rfl rfl rfl rfl (Nat.le_of_ble_eq_true rfl) (upd (upd R 0 (nI (hg h w 0 d n))) 3 (nI 0)) rfl (σ2 := va_up σ 14 (upd (upd R 0 (nI (hg h w 0 d n))) 3 (nI 0))) (bx_uu _ _ _ _) dX2_findLie_15 (fun H locs I => ?_)
  refine lv_aload_n hx hb dX2_findLie_18 rfl (lv_at hl 0 rfl) ?_
  refine lv_iconst (v := nI 0) hx hb dX2_findLie_19 (by decide) ?_
  refine k_put (C := RX2) (T := TX2) (N := 12) (ty0 := tyX2) (ty := .boolean) (v := .int (nI 0)) hx hb hts hown E I iX2 tyX2_ok nmX2 (14) (by decide) (r0 := (upd (upd R 0 (nI (hg h w 0 d n))) 3 (nI 0))) rfl kc_14 rfl 4 (by decide) (List.mem_of_getElem? (i := 4) rfl) rfl rfl (by decide) (by decide) (Nat.le_of_ble_eq_true rfl) (upd (upd (upd R 0 (nI (hg h w 0 d n))) 3 (nI 0)) 4 (nI 0)) rfl (σ2 := va_up σ 14 (upd (upd (upd R 0 (nI (hg h w 0 d n))) 3 (nI 0)) 4 (nI 0))) (bx_uu _ _ _ _) dX2_findLie_20 (fun H locs I => ?_)
  refine lv_aload_n hx hb dX2_findLie_23 rfl (lv_at hl 0 rfl) ?_
  refine k_get (C := RX2) (T := TX2) (N := 12) (v := .int (nI (sR h w 0 (hg h w 0 d n)))) hx hb hts hown E I iX2 (14) (by decide) (r0 := (upd (upd (upd R 0 (nI (hg h w 0 d n))) 3 (nI 0)) 4 (nI 0))) rfl kc_14 rfl 10 (by decide) (List.mem_of_getElem? (i := 5) rfl) (congrArg (fun z => some (Value.int z)) q10) dX2_findLie_24 ?_
  refine lv_aload_n hx hb dX2_findLie_27 rfl (lv_at hl 0 rfl) ?_
  refine k_get (C := RX2) (T := TX2) (N := 12) (v := .int (nI d)) hx hb hts hown E I iX2 (14) (by decide) (r0 := (upd (upd (upd R 0 (nI (hg h w 0 d n))) 3 (nI 0)) 4 (nI 0))) rfl kc_14 rfl 8 (by decide) (List.mem_of_getElem? (i := 6) rfl) (congrArg (fun z => some (Value.int z)) r8) dX2_findLie_28 ?_
  refine lv_icmp_ge (tgt := 38) hx hb dX2_findLie_31 (by decide) (fun c_31 => ?_) (fun c_31 => ?_)
  · have c_31 : d ≤ (sR h w 0 (hg h w 0 d n)) := (nI_leI (by omega) (by omega)).mp c_31
    have hok : zOk h w d n = true := by unfold zOk; simp; exact (hg_iff h w 0 d n).mp c_31
    have hre : nI (10 * (n - hg h w 0 d n) + sX h w 0 (hg h w 0 d n)) = nI (zReach h w d n) := by simp [zReach, hok]
    have hli : nI 0 = nI (zLift h w d n) := by simp [zLift, hok]
    have hta : nI 0 = nI (if zTaut h w d n then 1 else 0) := by simp [zTaut, hok]
    have f0 : nI (hg h w 0 d n) = nI (hg h w 0 d n) := rfl
    refine lv_aload_n hx hb dX2_findLie_38 rfl (lv_at hl 0 rfl) ?_
    refine lv_aload_n hx hb dX2_findLie_39 rfl (lv_at hl 0 rfl) ?_
    refine k_get (C := RX2) (T := TX2) (N := 12) (v := .int (nI n)) hx hb hts hown E I iX2 (14) (by decide) (r0 := (upd (upd (upd R 0 (nI (hg h w 0 d n))) 3 (nI 0)) 4 (nI 0))) rfl kc_14 rfl 7 (by decide) (List.mem_of_getElem? (i := 7) rfl) (congrArg (fun z => some (Value.int z)) r7) dX2_findLie_40 ?_
    refine lv_aload_n hx hb dX2_findLie_43 rfl (lv_at hl 0 rfl) ?_
    refine k_get (C := RX2) (T := TX2) (N := 12) (v := .int (nI (hg h w 0 d n))) hx hb hts hown E I iX2 (14) (by decide) (r0 := (upd (upd (upd R 0 (nI (hg h w 0 d n))) 3 (nI 0)) 4 (nI 0))) rfl kc_14 rfl 0 (by decide) (List.mem_of_getElem? (i := 2) rfl) rfl dX2_findLie_44 ?_
    refine lv_isub hx hb dX2_findLie_47 ?_
    refine lv_topi (fun t_48 et_48 => ?_)
    have et_48 : t_48 = nI (n - hg h w 0 d n) := et_48.trans (pk_sub hs2)
    subst et_48
    refine k_put (C := RX2) (T := TX2) (N := 12) (ty0 := tyX2) (ty := .int) (v := .int (nI (n - hg h w 0 d n))) hx hb hts hown E I iX2 tyX2_ok nmX2 (14) (by decide) (r0 := (upd (upd (upd R 0 (nI (hg h w 0 d n))) 3 (nI 0)) 4 (nI 0))) rfl kc_14 rfl 1 (by decide) (List.mem_of_getElem? (i := 8) rfl) rfl rfl rfl rfl (Nat.le_of_ble_eq_true rfl) (upd (upd (upd (upd R 0 (nI (hg h w 0 d n))) 1 (nI (n - hg h w 0 d n))) 3 (nI 0)) 4 (nI 0)) rfl (σ2 := va_up σ 14 (upd (upd (upd (upd R 0 (nI (hg h w 0 d n))) 1 (nI (n - hg h w 0 d n))) 3 (nI 0)) 4 (nI 0))) (bx_uu _ _ _ _) dX2_findLie_48 (fun H locs I => ?_)
    refine lv_aload_n hx hb dX2_findLie_51 rfl (lv_at hl 0 rfl) ?_
    refine lv_aload_n hx hb dX2_findLie_52 rfl (lv_at hl 0 rfl) ?_
    refine k_get (C := RX2) (T := TX2) (N := 12) (v := .int (nI 0)) hx hb hts hown E I iX2 (14) (by decide) (r0 := (upd (upd (upd (upd R 0 (nI (hg h w 0 d n))) 1 (nI (n - hg h w 0 d n))) 3 (nI 0)) 4 (nI 0))) rfl kc_14 rfl 4 (by decide) (List.mem_of_getElem? (i := 4) rfl) rfl dX2_findLie_53 ?_
    refine lv_if_eq (tgt := 63) hx hb dX2_findLie_56 (by decide) (fun c_56 => ?_) (fun c_56 => ?_)
    · refine lv_bipush (v := nI 10) hx hb dX2_findLie_63 (by decide) ?_
      refine lv_aload_n hx hb dX2_findLie_65 rfl (lv_at hl 0 rfl) ?_
      refine k_get (C := RX2) (T := TX2) (N := 12) (v := .int (nI (n - hg h w 0 d n))) hx hb hts hown E I iX2 (14) (by decide) (r0 := (upd (upd (upd (upd R 0 (nI (hg h w 0 d n))) 1 (nI (n - hg h w 0 d n))) 3 (nI 0)) 4 (nI 0))) rfl kc_14 rfl 1 (by decide) (List.mem_of_getElem? (i := 8) rfl) rfl dX2_findLie_66 ?_
      refine lv_imul hx hb dX2_findLie_69 ?_
      rw [pk_mul]
      refine lv_aload_n hx hb dX2_findLie_70 rfl (lv_at hl 0 rfl) ?_
      refine k_get (C := RX2) (T := TX2) (N := 12) (v := .int (nI (sX h w 0 (hg h w 0 d n)))) hx hb hts hown E I iX2 (14) (by decide) (r0 := (upd (upd (upd (upd R 0 (nI (hg h w 0 d n))) 1 (nI (n - hg h w 0 d n))) 3 (nI 0)) 4 (nI 0))) rfl kc_14 rfl 11 (by decide) (List.mem_of_getElem? (i := 9) rfl) (congrArg (fun z => some (Value.int z)) q11) dX2_findLie_71 ?_
      refine lv_iadd hx hb dX2_findLie_74 ?_
      rw [nI_add]
      refine k_put (C := RX2) (T := TX2) (N := 12) (ty0 := tyX2) (ty := .int) (v := .int (nI ((10 * ((n - hg h w 0 d n))) + (sX h w 0 (hg h w 0 d n))))) hx hb hts hown E I iX2 tyX2_ok nmX2 (14) (by decide) (r0 := (upd (upd (upd (upd R 0 (nI (hg h w 0 d n))) 1 (nI (n - hg h w 0 d n))) 3 (nI 0)) 4 (nI 0))) rfl kc_14 rfl 2 (by decide) (List.mem_of_getElem? (i := 10) rfl) rfl rfl rfl rfl (Nat.le_of_ble_eq_true rfl) (upd (upd (upd (upd (upd R 0 (nI (hg h w 0 d n))) 1 (nI (n - hg h w 0 d n))) 2 (nI ((10 * ((n - hg h w 0 d n))) + (sX h w 0 (hg h w 0 d n))))) 3 (nI 0)) 4 (nI 0)) rfl (σ2 := va_up σ 14 (upd (upd (upd (upd (upd R 0 (nI (hg h w 0 d n))) 1 (nI (n - hg h w 0 d n))) 2 (nI ((10 * ((n - hg h w 0 d n))) + (sX h w 0 (hg h w 0 d n))))) 3 (nI 0)) 4 (nI 0))) (bx_uu _ _ _ _) dX2_findLie_75 (fun H locs I => ?_)
      exact k_vret hx hb hr hlk I dX2_findLie_78 (⟨_, rfl, f0, rfl, hre, hli, hta⟩)
    · exact absurd c_56 (by decide)
  · have c_31 : ¬ (d ≤ (sR h w 0 (hg h w 0 d n))) := fun q_ => c_31 ((nI_leI (by omega) (by omega)).mpr q_)
    have h0 : sR h w 0 n < d := Nat.lt_of_not_le (fun q => c_31 ((hg_iff h w 0 d n).mpr q))
    have hok : zOk h w d n = false := by unfold zOk; simp; omega
    refine lv_aload_n hx hb dX2_findLie_34 rfl (lv_at hl 0 rfl) ?_
    refine k_callv (k := 14) (As := []) (rest := []) ⟨hx, hb, hml, hown, hts⟩ (c_X2_findLift cy D ad l (va_up σ 14 (upd (upd (upd R 0 (nI (hg h w 0 d n))) 3 (nI 0)) 4 (nI 0))) h w n d hh hw1 hw hn hd r5 r6 r7 r8 h0) (cwV 0 hts gX2_findLie_X2_findLift rfl rfl rfl (by decide +kernel) ⟨Nat.le_of_ble_eq_true rfl, Nat.le_of_ble_eq_true rfl⟩) E hA I (k_recv E I (by decide) kc_14 rfl) rfl hl.1 rfl (lv_room (Nat.le_of_ble_eq_true rfl)) dX2_findLie_35 ⟨Nat.le_of_ble_eq_true rfl, Nat.le_of_ble_eq_true rfl⟩ (fun σ_35 H locs hp_35 I => ?_)
    obtain ⟨R1, rfl, p3, p4, p11, pk⟩ := hp_35
    rw [bx_uu] at I
    have f0 : R1 0 = nI (hg h w 0 d n) := pk 0 (by decide) (by decide) (by decide)
    have f7 : R1 7 = nI n := (pk 7 (by decide) (by decide) (by decide)).trans r7
    have hli : R1 3 = nI (zLift h w d n) := by rw [p3]; simp [zLift, hok]
    have hta : R1 4 = nI (if zTaut h w d n then 1 else 0) := by rw [p4]; simp [zTaut, hok]
    have hgn : hg h w 0 d n = n := hg_eq (Nat.le_refl _) (fun j hj => Nat.lt_of_le_of_lt (sR_n h w 0 (by omega)) h0) (fun z => absurd z (by omega))
    refine lv_aload_n hx hb dX2_findLie_38 rfl (lv_at hl 0 rfl) ?_
    refine lv_aload_n hx hb dX2_findLie_39 rfl (lv_at hl 0 rfl) ?_
    refine k_get (C := RX2) (T := TX2) (N := 12) (v := .int (nI n)) hx hb hts hown E I iX2 (14) (by decide) (r0 := (R1)) rfl kc_14 rfl 7 (by decide) (List.mem_of_getElem? (i := 7) rfl) (congrArg (fun z => some (Value.int z)) f7) dX2_findLie_40 ?_
    refine lv_aload_n hx hb dX2_findLie_43 rfl (lv_at hl 0 rfl) ?_
    refine k_get (C := RX2) (T := TX2) (N := 12) (v := .int (nI (hg h w 0 d n))) hx hb hts hown E I iX2 (14) (by decide) (r0 := (R1)) rfl kc_14 rfl 0 (by decide) (List.mem_of_getElem? (i := 2) rfl) (congrArg (fun z => some (Value.int z)) f0) dX2_findLie_44 ?_
    refine lv_isub hx hb dX2_findLie_47 ?_
    refine lv_topi (fun t_48 et_48 => ?_)
    have et_48 : t_48 = nI (n - hg h w 0 d n) := et_48.trans (pk_sub hs2)
    subst et_48
    refine k_put (C := RX2) (T := TX2) (N := 12) (ty0 := tyX2) (ty := .int) (v := .int (nI (n - hg h w 0 d n))) hx hb hts hown E I iX2 tyX2_ok nmX2 (14) (by decide) (r0 := (R1)) rfl kc_14 rfl 1 (by decide) (List.mem_of_getElem? (i := 8) rfl) rfl rfl rfl rfl (Nat.le_of_ble_eq_true rfl) (upd R1 1 (nI (n - hg h w 0 d n))) rfl (σ2 := va_up σ 14 (upd R1 1 (nI (n - hg h w 0 d n)))) (bx_uu _ _ _ _) dX2_findLie_48 (fun H locs I => ?_)
    refine lv_aload_n hx hb dX2_findLie_51 rfl (lv_at hl 0 rfl) ?_
    refine lv_aload_n hx hb dX2_findLie_52 rfl (lv_at hl 0 rfl) ?_
    refine k_get (C := RX2) (T := TX2) (N := 12) (v := .int (nI (if lf h w d n = 1000 then 1 else 0))) hx hb hts hown E I iX2 (14) (by decide) (r0 := (upd R1 1 (nI (n - hg h w 0 d n)))) rfl kc_14 rfl 4 (by decide) (List.mem_of_getElem? (i := 4) rfl) (congrArg (fun z => some (Value.int z)) p4) dX2_findLie_53 ?_
    refine lv_if_eq (tgt := 63) hx hb dX2_findLie_56 (by decide) (fun c_56 => ?_) (fun c_56 => ?_)
    · have c_56 : (if lf h w d n = 1000 then 1 else 0) = 0 := (nI_eq (by first | omega | (split <;> omega)) (by decide)).mp c_56
      have hne : lf h w d n ≠ 1000 := fun q => by rw [if_pos q] at c_56; exact absurd c_56 (by decide)
      have hre : nI (10 * (n - hg h w 0 d n) + sX h w (lf h w d n) n) = nI (zReach h w d n) := by simp [zReach, hok, hne, hgn]
      refine lv_bipush (v := nI 10) hx hb dX2_findLie_63 (by decide) ?_
      refine lv_aload_n hx hb dX2_findLie_65 rfl (lv_at hl 0 rfl) ?_
      refine k_get (C := RX2) (T := TX2) (N := 12) (v := .int (nI (n - hg h w 0 d n))) hx hb hts hown E I iX2 (14) (by decide) (r0 := (upd R1 1 (nI (n - hg h w 0 d n)))) rfl kc_14 rfl 1 (by decide) (List.mem_of_getElem? (i := 8) rfl) rfl dX2_findLie_66 ?_
      refine lv_imul hx hb dX2_findLie_69 ?_
      rw [pk_mul]
      refine lv_aload_n hx hb dX2_findLie_70 rfl (lv_at hl 0 rfl) ?_
      refine k_get (C := RX2) (T := TX2) (N := 12) (v := .int (nI (sX h w (lf h w d n) n))) hx hb hts hown E I iX2 (14) (by decide) (r0 := (upd R1 1 (nI (n - hg h w 0 d n)))) rfl kc_14 rfl 11 (by decide) (List.mem_of_getElem? (i := 9) rfl) (congrArg (fun z => some (Value.int z)) (p11 hne)) dX2_findLie_71 ?_
      refine lv_iadd hx hb dX2_findLie_74 ?_
      rw [nI_add]
      refine k_put (C := RX2) (T := TX2) (N := 12) (ty0 := tyX2) (ty := .int) (v := .int (nI ((10 * ((n - hg h w 0 d n))) + (sX h w (lf h w d n) n)))) hx hb hts hown E I iX2 tyX2_ok nmX2 (14) (by decide) (r0 := (upd R1 1 (nI (n - hg h w 0 d n)))) rfl kc_14 rfl 2 (by decide) (List.mem_of_getElem? (i := 10) rfl) rfl rfl rfl rfl (Nat.le_of_ble_eq_true rfl) (upd (upd R1 1 (nI (n - hg h w 0 d n))) 2 (nI ((10 * ((n - hg h w 0 d n))) + (sX h w (lf h w d n) n)))) rfl (σ2 := va_up σ 14 (upd (upd R1 1 (nI (n - hg h w 0 d n))) 2 (nI ((10 * ((n - hg h w 0 d n))) + (sX h w (lf h w d n) n))))) (bx_uu _ _ _ _) dX2_findLie_75 (fun H locs I => ?_)
      exact k_vret hx hb hr hlk I dX2_findLie_78 (⟨_, rfl, f0, rfl, hre, hli, hta⟩)
    · have c_56 : ¬ ((if lf h w d n = 1000 then 1 else 0) = 0) := fun q_ => c_56 ((nI_eq (by first | omega | (split <;> omega)) (by decide)).mpr q_)
      have heq : lf h w d n = 1000 := Classical.byContradiction fun q => by rw [if_neg q] at c_56; exact absurd rfl c_56
      have hre : nI 0 = nI (zReach h w d n) := by simp [zReach, hok, heq]
      refine lv_iconst (v := nI 0) hx hb dX2_findLie_59 (by decide) ?_
      refine lv_goto (tgt := 75) hx hb dX2_findLie_60 (by decide) ?_
      refine k_put (C := RX2) (T := TX2) (N := 12) (ty0 := tyX2) (ty := .int) (v := .int (nI 0)) hx hb hts hown E I iX2 tyX2_ok nmX2 (14) (by decide) (r0 := (upd R1 1 (nI (n - hg h w 0 d n)))) rfl kc_14 rfl 2 (by decide) (List.mem_of_getElem? (i := 10) rfl) rfl rfl rfl rfl (Nat.le_of_ble_eq_true rfl) (upd (upd R1 1 (nI (n - hg h w 0 d n))) 2 (nI 0)) rfl (σ2 := va_up σ 14 (upd (upd R1 1 (nI (n - hg h w 0 d n))) 2 (nI 0))) (bx_uu _ _ _ _) dX2_findLie_75 (fun H locs I => ?_)
      exact k_vret hx hb hr hlk I dX2_findLie_78 (⟨_, rfl, f0, rfl, hre, hli, hta⟩)
end
section
/-! WHAT IS TOLD OF A HARBOUR: N is a row of 88 numbers: columns, ships, hours, 20 depths, 13 numbers a ship -/
def nSh (N : Nat → Nat) (i : Nat) : Prop :=
  (N (23 + 13 * i) < N 0 ∧ N (23 + 13 * i + 1) < 20 ∧ 1 ≤ N (23 + 13 * i + 2) ∧ N (23 + 13 * i + 2) ≤ 60) ∧
  (1 ≤ N (23 + 13 * i + 3) ∧ N (23 + 13 * i + 3) ≤ 5 ∧ 1 ≤ N (23 + 13 * i + 4) ∧ N (23 + 13 * i + 4) ≤ 9) ∧
  (1 ≤ N (23 + 13 * i + 5) ∧ N (23 + 13 * i + 5) ≤ 9 ∧ 10 ≤ N (23 + 13 * i + 6) ∧ N (23 + 13 * i + 6) ≤ 999) ∧
  (N (23 + 13 * i + 7) ≤ 1 ∧ N (23 + 13 * i + 9) ≤ 1) ∧
  (N (23 + 13 * i + 9) = 1 → N (23 + 13 * i + 10) < N 0 ∧ N (23 + 13 * i + 11) < 20 ∧ 1 ≤ N (23 + 13 * i + 12) ∧ N (23 + 13 * i + 12) ≤ 60) ∧
  (N (23 + 13 * i + 9) = 0 → N (23 + 13 * i + 10) = 0 ∧ N (23 + 13 * i + 11) = 0 ∧ N (23 + 13 * i + 12) = 0)
def nOk (N : Nat → Nat) : Prop :=
  (2 ≤ N 0 ∧ N 0 ≤ 20 ∧ 1 ≤ N 1 ∧ N 1 ≤ 5 ∧ N 2 ≤ 999) ∧ (∀ k, k < N 0 → 1 ≤ N (3 + k) ∧ N (3 + k) ≤ 20) ∧ ∀ i, i < N 1 → nSh N i
/-- where the class keeps a ship's number f: cell lk f + 3 i, place lj f -/
def lk (f : Nat) : Nat := if f < 3 then 16 else if f < 10 then 15 else 17
def lj (f : Nat) : Nat := if f < 3 then f else if f < 7 then f + 2 else if f < 9 then f - 4 else if f = 9 then 2 else f - 10
def rS (σ : Nat → Nat → Int32) (N : Nat → Nat) (i : Nat) : Prop :=
  (∀ f, f < 10 → σ (lk f + 3 * i) (lj f) = nI (N (23 + 13 * i + f))) ∧ (N (23 + 13 * i + 9) = 1 → ∀ f, f < 3 → σ (17 + 3 * i) f = nI (N (23 + 13 * i + (10 + f))))
def rBay (σ : Nat → Nat → Int32) (N : Nat → Nat) : Prop :=
  (σ 11 3 = nI (N 0) ∧ σ 11 4 = nI (N 1) ∧ σ 11 5 = nI (N 2)) ∧ (∀ k, k < N 0 → σ 12 k = nI (N (3 + k))) ∧ ∀ i, i < N 1 → rS σ N i
theorem rB_f {σ : Nat → Nat → Int32} {N : Nat → Nat} (h : rBay σ N) {i : Nat} (hi : i < N 1) (f : Nat) (hf : f < 10) : σ (lk f + 3 * i) (lj f) = nI (N (23 + 13 * i + f)) := (h.2.2 i hi).1 f hf
theorem rB_g {σ : Nat → Nat → Int32} {N : Nat → Nat} (h : rBay σ N) {i : Nat} (hi : i < N 1) (hm : N (23 + 13 * i + 9) = 1) (f : Nat) (hf : f < 3) : σ (17 + 3 * i) f = nI (N (23 + 13 * i + (10 + f))) := (h.2.2 i hi).2 hm f hf
/-- only the chain has changed -/
def q14 (σ τ : Nat → Nat → Int32) : Prop := ∃ R : Nat → Int32, τ = va_up σ 14 R
theorem q14_rf (σ : Nat → Nat → Int32) : q14 σ σ := ⟨σ 14, (kup_id σ 14).symm⟩
theorem q14_tr {σ τ υ : Nat → Nat → Int32} (h1 : q14 σ τ) (h2 : q14 τ υ) : q14 σ υ := by
  obtain ⟨R, rfl⟩ := h1
  obtain ⟨R2, rfl⟩ := h2
  exact ⟨R2, bx_uu _ _ _ _⟩
theorem q14_at {σ τ : Nat → Nat → Int32} (h : q14 σ τ) {k : Nat} (hk : k ≠ 14) (j : Nat) : τ k j = σ k j := by
  obtain ⟨R, rfl⟩ := h
  simp [va_up, hk]
/-- only the chain and the ships' measured swings have changed -/
def qc (σ τ : Nat → Nat → Int32) : Prop := ∀ k j, k ≠ 14 → ¬ (15 ≤ k ∧ k < 30 ∧ k % 3 = 0 ∧ j = 9) → τ k j = σ k j
theorem qc_rf (σ : Nat → Nat → Int32) : qc σ σ := fun _ _ _ _ => rfl
theorem qc_tr {σ τ υ : Nat → Nat → Int32} (h1 : qc σ τ) (h2 : qc τ υ) : qc σ υ := fun k j a b => (h2 k j a b).trans (h1 k j a b)
theorem q14_qc {σ τ : Nat → Nat → Int32} (h : q14 σ τ) : qc σ τ := fun _ j a _ => q14_at h a j
theorem rS_same {σ τ : Nat → Nat → Int32} {N : Nat → Nat} {i : Nat} (h : rS σ N i) (h1 : ∀ j, 2 ≤ j → j < 9 → τ (15 + 3 * i) j = σ (15 + 3 * i) j) (h2 : ∀ j, τ (16 + 3 * i) j = σ (16 + 3 * i) j) (h3 : ∀ j, τ (17 + 3 * i) j = σ (17 + 3 * i) j) : rS τ N i := by
  refine ⟨fun f hf => ?_, fun hm f hf => ?_⟩
  · rw [← h.1 f hf]
    match f, hf with
    | 0, _ => exact h2 0
    | 1, _ => exact h2 1
    | 2, _ => exact h2 2
    | 3, _ => exact h1 5 (by decide) (by decide)
    | 4, _ => exact h1 6 (by decide) (by decide)
    | 5, _ => exact h1 7 (by decide) (by decide)
    | 6, _ => exact h1 8 (by decide) (by decide)
    | 7, _ => exact h1 3 (by decide) (by decide)
    | 8, _ => exact h1 4 (by decide) (by decide)
    | 9, _ => exact h1 2 (by decide) (by decide)
  · rw [h3]
    exact h.2 hm f hf
theorem rBay_qc {σ τ : Nat → Nat → Int32} {N : Nat → Nat} (hN : N 1 ≤ 5) (h : rBay σ N) (q : qc σ τ) : rBay τ N := by
  have a : ∀ k j, k ≠ 14 → k < 15 → τ k j = σ k j := fun k j h1 h2 => q k j h1 (by omega)
  refine ⟨⟨(a 11 3 (by decide) (by decide)).trans h.1.1, (a 11 4 (by decide) (by decide)).trans h.1.2.1, (a 11 5 (by decide) (by decide)).trans h.1.2.2⟩, fun k hk => (a 12 k (by decide) (by decide)).trans (h.2.1 k hk), fun i hi => ?_⟩
  exact rS_same (h.2.2 i hi) (fun j h1 h2 => q _ j (by omega) (by omega)) (fun j => q _ j (by omega) (by omega)) (fun j => q _ j (by omega) (by omega))
/-- PULL, HOLDS by n LINKS of the first ANCHOR, SWING, APART -/
def pP (N : Nat → Nat) (i b : Nat) : Nat := b * b * N (23 + 13 * i + 5) / 4
def pD (N : Nat → Nat) (x : Nat) : Nat := 10 * N (3 + x)
def pH1 (N : Nat → Nat) (i n h : Nat) : Bool := zHolds h (N (23 + 13 * i + 3)) (pD N (N (23 + 13 * i))) n (N (23 + 13 * i + 6))
def pH2 (N : Nat → Nat) (i h : Nat) : Bool := zHolds h (N (23 + 13 * i + 3)) (pD N (N (23 + 13 * i + 10))) (N (23 + 13 * i + 12)) (N (23 + 13 * i + 6))
def pHo (N : Nat → Nat) (i n b : Nat) : Bool :=
  if N (23 + 13 * i + 9) = 0 then pH1 N i n (pP N i b)
  else (pH1 N i n ((pP N i b + 1) / 2) && pH2 N i ((pP N i b + 1) / 2)) || (pH1 N i n (pP N i b) || pH2 N i (pP N i b))
def pSw (N : Nat → Nat) (i n b : Nat) : Nat := zReach (pP N i b) (N (23 + 13 * i + 3)) (pD N (N (23 + 13 * i))) n + 10 * N (23 + 13 * i + 4)
theorem pP_le {N : Nat → Nat} {i b : Nat} (ha : N (23 + 13 * i + 5) ≤ 9) (hb : b ≤ 20) : b * b ≤ 400 ∧ b * b * N (23 + 13 * i + 5) ≤ 3600 ∧ pP N i b ≤ 900 := by
  have h1 : b * b ≤ 20 * 20 := sq_mono hb
  have h2 : b * b * N (23 + 13 * i + 5) ≤ 400 * 9 := Nat.mul_le_mul h1 ha
  refine ⟨h1, h2, ?_⟩
  unfold pP
  omega
theorem pSw_le {N : Nat → Nat} {i n b : Nat} (hl : N (23 + 13 * i + 4) ≤ 9) (hn : n ≤ 60) : pSw N i n b ≤ 1290 := by
  unfold pSw
  have := zReach_le (pP N i b) (N (23 + 13 * i + 3)) (pD N (N (23 + 13 * i))) n
  omega
theorem pD_le {N : Nat → Nat} (h : nOk N) {x : Nat} (hx : x < N 0) : 10 ≤ pD N x ∧ pD N x ≤ 200 := by
  have := h.2.1 x hx
  unfold pD
  omega
end
section
/-! THE BAY: one ship -/
set_option maxHeartbeats 4000000 in
set_option maxRecDepth 100000 in
theorem c_X1_depthAt (cy : Nat → ClassId) (D : va_G) (ad : Nat → Nat) (l : Launch) (σ : Nat → Nat → Int32) (x : Nat) (hx9 : x < 20) : kMi 38 ad (kcC cy ad) cy D l yX1_depthAt wsX1_depthAt ({ frames := 0, cells := 0, slots := 0, locals := 0 }) [.ref (ad 11), .int (nI x)] σ (fun r σ' => r = σ 12 x ∧ σ = σ') := by
  refine k_entry (cc := cX1_depthAt) (maxL := 2) (ret := (some .int)) (by decide) rfl (Nat.le_of_ble_eq_true rfl) ?_
  intro p e s m below meth c hx hb hr hml hown hts hlk E I ls hl
  have hA : ∀ q, s.heap.size ≤ q → kA 38 ad s.heap.size q := fun q h => Or.inr h
  have hown : s.vm.findClass RX1 = some m.cls := hown
  have hl : lv_has ls 2 [(0, .ref (ad 11)), (1, .int (nI x))] := hl
  have iX1 : ∀ w ∈ u_ws RX1 TX1 6, w ∈ wsX1_depthAt := fun w h => List.mem_cons_of_mem _ (List.mem_append_right _ h)
  refine lv_iload_n hx hb dX1_depthAt_0 rfl (lv_at hl 1 rfl) ?_
  refine lv_if_lt (tgt := 22) hx hb dX1_depthAt_1 (by decide) (fun c_1 => ?_) (fun c_1 => ?_)
  · have c_1 : x < 0 := (nI_ltI (by omega) (by decide)).mp c_1
    exact absurd c_1 (Nat.not_lt_zero _)
  · have c_1 : ¬ (x < 0) := fun q_ => c_1 ((nI_ltI (by omega) (by decide)).mpr q_)
    refine lv_iload_n hx hb dX1_depthAt_4 rfl (lv_at hl 1 rfl) ?_
    refine lv_aload_n hx hb dX1_depthAt_5 rfl (lv_at hl 0 rfl) ?_
    refine k_get (C := RX1) (T := TX1) (N := 6) (v := .ref (ad 12)) hx hb hts hown E I iX1 (11) (by decide) (r0 := σ 11) rfl kc_11 rfl 0 (by decide) (List.mem_of_getElem? (i := 1) rfl) rfl dX1_depthAt_6 ?_
    refine k_alen (t0 := 1) hx hb E I (12) (by decide) kc_12 rfl dX1_depthAt_9 ?_
    refine lv_icmp_ge (tgt := 22) hx hb dX1_depthAt_10 (by decide) (fun c_10 => ?_) (fun c_10 => ?_)
    · have c_10 : 20 ≤ x := (nI_leI (by omega) (by omega)).mp c_10
      omega
    · have c_10 : ¬ (20 ≤ x) := fun q_ => c_10 ((nI_leI (by omega) (by omega)).mpr q_)
      refine lv_aload_n hx hb dX1_depthAt_13 rfl (lv_at hl 0 rfl) ?_
      refine k_get (C := RX1) (T := TX1) (N := 6) (v := .ref (ad 12)) hx hb hts hown E I iX1 (11) (by decide) (r0 := σ 11) rfl kc_11 rfl 0 (by decide) (List.mem_of_getElem? (i := 1) rfl) rfl dX1_depthAt_14 ?_
      refine lv_iload_n hx hb dX1_depthAt_17 rfl (lv_at hl 1 rfl) ?_
      refine k_iald hx hb E I (12) (by decide) (r0 := σ 12) rfl kc_12 (vp_in_nI (by omega) (by decide)) dX1_depthAt_18 ?_
      rw [nI_clamp (by omega)]
      refine lv_goto (tgt := 23) hx hb dX1_depthAt_19 (by decide) ?_
      exact k_iret hx hb hr hlk I dX1_depthAt_23 (⟨rfl, rfl⟩)
set_option maxHeartbeats 4000000 in
set_option maxRecDepth 100000 in
theorem c_X1_chainOf (cy : Nat → ClassId) (D : va_G) (ad : Nat → Nat) (l : Launch) (σ : Nat → Nat → Int32) (i w x dd n h : Nat) (H_i : i < 5) (hx9 : x < 20) (hd9 : dd ≤ 20) (ew : σ (15 + 3 * i) 5 = nI w) (ex : σ (16 + 3 * i) 0 = nI x) (ed : σ 12 x = nI dd) : kMq 38 ad (kcC cy ad) cy D l yX1_chainOf wsX1_chainOf ({ frames := 1, cells := 0, slots := 0, locals := 24 }) [.ref (ad 11), .ref (ad (15 + 3 * i)), .ref (ad (16 + 3 * i)), .int (nI n), .int (nI h)] σ (fun r σ' => r = some (ad 14) ∧ σ' = va_up σ 14 (upd (upd (upd (upd (σ 14) 5 (nI h)) 6 (nI w)) 7 (nI n)) 8 (nI (10 * dd)))) := by
  refine k_entry (cc := cX1_chainOf) (maxL := 5) (ret := (some (.object "ChainLays$Chain"))) (by decide) rfl (Nat.le_of_ble_eq_true rfl) ?_
  intro p e s m below meth c hx hb hr hml hown hts hlk E I ls hl
  have hA : ∀ q, s.heap.size ≤ q → kA 38 ad s.heap.size q := fun q h => Or.inr h
  have hown : s.vm.findClass RX1 = some m.cls := hown
  have hl : lv_has ls 5 [(0, .ref (ad 11)), (1, .ref (ad (15 + 3 * i))), (2, .ref (ad (16 + 3 * i))), (3, .int (nI n)), (4, .int (nI h))] := hl
  have iX0 : ∀ w ∈ u_ws RX0 TX0 3, w ∈ wsX1_chainOf := fun w h => List.mem_cons_of_mem _ (List.mem_append_left _ (List.mem_append_right _ h))
  have iX1 : ∀ w ∈ u_ws RX1 TX1 6, w ∈ wsX1_chainOf := fun w h => List.mem_cons_of_mem _ (List.mem_append_left _ (List.mem_append_left _ (List.mem_append_left _ (List.mem_append_right _ h))))
  have iX6 : ∀ w ∈ u_ws RX6 TX6 10, w ∈ wsX1_chainOf := fun w h => List.mem_cons_of_mem _ (List.mem_append_left _ (List.mem_append_left _ (List.mem_append_right _ h)))
  refine lv_aload_n hx hb dX1_chainOf_0 rfl (lv_at hl 0 rfl) ?_
  refine k_get (C := RX1) (T := TX1) (N := 6) (v := .ref (ad 14)) hx hb hts hown E I iX1 (11) (by decide) (r0 := σ 11) rfl kc_11 rfl 2 (by decide) (List.mem_of_getElem? (i := 1) rfl) rfl dX1_chainOf_1 ?_
  refine lv_iload hx hb dX1_chainOf_4 (lv_at hl 4 rfl) ?_
  refine lv_aload_n hx hb dX1_chainOf_6 rfl (lv_at hl 1 rfl) ?_
  refine k_get (C := RX6) (T := TX6) (N := 10) (v := .int (nI w)) hx hb hts hown E I iX6 (15 + 3 * i) (by omega) (r0 := σ (15 + 3 * i)) rfl (kc_S H_i) rfl 5 (by decide) (List.mem_of_getElem? (i := 2) rfl) (congrArg (fun z => some (Value.int z)) ew) dX1_chainOf_7 ?_
  refine lv_iload_n hx hb dX1_chainOf_10 rfl (lv_at hl 3 rfl) ?_
  refine lv_bipush (v := nI 10) hx hb dX1_chainOf_11 (by decide) ?_
  refine lv_aload_n hx hb dX1_chainOf_13 rfl (lv_at hl 0 rfl) ?_
  refine lv_aload_n hx hb dX1_chainOf_14 rfl (lv_at hl 2 rfl) ?_
  refine k_get (C := RX0) (T := TX0) (N := 3) (v := .int (nI x)) hx hb hts hown E I iX0 (16 + 3 * i) (by omega) (r0 := σ (16 + 3 * i)) rfl (kc_F H_i) rfl 0 (by decide) (List.mem_of_getElem? (i := 3) rfl) (congrArg (fun z => some (Value.int z)) ex) dX1_chainOf_15 ?_
  refine k_calli (k := 11) (As := [.int (nI x)]) (rest := [.int (nI 10), .int (nI n), .int (nI w), .int (nI h), .ref (ad 14)]) ⟨hx, hb, hml, hown, hts⟩ (c_X1_depthAt cy D ad l σ x hx9) (cwV 1 hts gX1_chainOf_X1_depthAt rfl rfl rfl (by decide +kernel) ⟨Nat.le_of_ble_eq_true rfl, Nat.le_of_ble_eq_true rfl⟩) E hA I (k_recv E I (by decide) kc_11 rfl) rfl hl.1 rfl (lv_room (Nat.le_of_ble_eq_true rfl)) dX1_chainOf_18 ⟨Nat.le_of_ble_eq_true rfl, Nat.le_of_ble_eq_true rfl⟩ (fun r_18 σ_18 H locs hp_18 I => ?_)
  obtain ⟨rfl, rfl⟩ := hp_18
  rw [ed]
  refine lv_imul hx hb dX1_chainOf_21 ?_
  rw [pk_mul]
  refine k_callv (k := 14) (As := [.int (nI h), .int (nI w), .int (nI n), .int (nI (10 * dd))]) (rest := []) ⟨hx, hb, hml, hown, hts⟩ (c_X2_take cy D ad l σ (nI h) (nI w) (nI n) (nI (10 * dd))) (cwV 4 hts gX1_chainOf_X2_take rfl rfl rfl (by decide +kernel) ⟨Nat.le_of_ble_eq_true rfl, Nat.le_of_ble_eq_true rfl⟩) E hA I (k_recv E I (by decide) kc_14 rfl) rfl hl.1 rfl (lv_room (Nat.le_of_ble_eq_true rfl)) dX1_chainOf_22 ⟨Nat.le_of_ble_eq_true rfl, Nat.le_of_ble_eq_true rfl⟩ (fun σ_22 H locs hp_22 I => ?_)
  subst hp_22
  refine lv_aload_n hx hb dX1_chainOf_25 rfl (lv_at hl 0 rfl) ?_
  refine k_get (C := RX1) (T := TX1) (N := 6) (v := .ref (ad 14)) hx hb hts hown E I iX1 (11) (by decide) (r0 := (va_up σ 14 (upd (upd (upd (upd (σ 14) 5 (nI h)) 6 (nI w)) 7 (nI n)) 8 (nI (10 * dd)))) 11) rfl kc_11 rfl 2 (by decide) (List.mem_of_getElem? (i := 1) rfl) rfl dX1_chainOf_26 ?_
  exact k_aret hx hb hr (Or.inl ⟨_, rfl⟩) hlk I dX1_chainOf_29 (⟨rfl, rfl⟩)
set_option maxHeartbeats 4000000 in
set_option maxRecDepth 100000 in
theorem c_X1_chainOf2 (cy : Nat → ClassId) (D : va_G) (ad : Nat → Nat) (l : Launch) (σ : Nat → Nat → Int32) (i w x dd n h : Nat) (H_i : i < 5) (hx9 : x < 20) (hd9 : dd ≤ 20) (ew : σ (15 + 3 * i) 5 = nI w) (ex : σ (17 + 3 * i) 0 = nI x) (ed : σ 12 x = nI dd) : kMq 38 ad (kcC cy ad) cy D l yX1_chainOf wsX1_chainOf ({ frames := 1, cells := 0, slots := 0, locals := 24 }) [.ref (ad 11), .ref (ad (15 + 3 * i)), .ref (ad (17 + 3 * i)), .int (nI n), .int (nI h)] σ (fun r σ' => r = some (ad 14) ∧ σ' = va_up σ 14 (upd (upd (upd (upd (σ 14) 5 (nI h)) 6 (nI w)) 7 (nI n)) 8 (nI (10 * dd)))) := by
  refine k_entry (cc := cX1_chainOf) (maxL := 5) (ret := (some (.object "ChainLays$Chain"))) (by decide) rfl (Nat.le_of_ble_eq_true rfl) ?_
  intro p e s m below meth c hx hb hr hml hown hts hlk E I ls hl
  have hA : ∀ q, s.heap.size ≤ q → kA 38 ad s.heap.size q := fun q h => Or.inr h
  have hown : s.vm.findClass RX1 = some m.cls := hown
  have hl : lv_has ls 5 [(0, .ref (ad 11)), (1, .ref (ad (15 + 3 * i))), (2, .ref (ad (17 + 3 * i))), (3, .int (nI n)), (4, .int (nI h))] := hl
  have iX0 : ∀ w ∈ u_ws RX0 TX0 3, w ∈ wsX1_chainOf := fun w h => List.mem_cons_of_mem _ (List.mem_append_left _ (List.mem_append_right _ h))
  have iX1 : ∀ w ∈ u_ws RX1 TX1 6, w ∈ wsX1_chainOf := fun w h => List.mem_cons_of_mem _ (List.mem_append_left _ (List.mem_append_left _ (List.mem_append_left _ (List.mem_append_right _ h))))
  have iX6 : ∀ w ∈ u_ws RX6 TX6 10, w ∈ wsX1_chainOf := fun w h => List.mem_cons_of_mem _ (List.mem_append_left _ (List.mem_append_left _ (List.mem_append_right _ h)))
  refine lv_aload_n hx hb dX1_chainOf_0 rfl (lv_at hl 0 rfl) ?_
  refine k_get (C := RX1) (T := TX1) (N := 6) (v := .ref (ad 14)) hx hb hts hown E I iX1 (11) (by decide) (r0 := σ 11) rfl kc_11 rfl 2 (by decide) (List.mem_of_getElem? (i := 1) rfl) rfl dX1_chainOf_1 ?_
  refine lv_iload hx hb dX1_chainOf_4 (lv_at hl 4 rfl) ?_
  refine lv_aload_n hx hb dX1_chainOf_6 rfl (lv_at hl 1 rfl) ?_
  refine k_get (C := RX6) (T := TX6) (N := 10) (v := .int (nI w)) hx hb hts hown E I iX6 (15 + 3 * i) (by omega) (r0 := σ (15 + 3 * i)) rfl (kc_S H_i) rfl 5 (by decide) (List.mem_of_getElem? (i := 2) rfl) (congrArg (fun z => some (Value.int z)) ew) dX1_chainOf_7 ?_
  refine lv_iload_n hx hb dX1_chainOf_10 rfl (lv_at hl 3 rfl) ?_
  refine lv_bipush (v := nI 10) hx hb dX1_chainOf_11 (by decide) ?_
  refine lv_aload_n hx hb dX1_chainOf_13 rfl (lv_at hl 0 rfl) ?_
  refine lv_aload_n hx hb dX1_chainOf_14 rfl (lv_at hl 2 rfl) ?_
  refine k_get (C := RX0) (T := TX0) (N := 3) (v := .int (nI x)) hx hb hts hown E I iX0 (17 + 3 * i) (by omega) (r0 := σ (17 + 3 * i)) rfl (kc_G H_i) rfl 0 (by decide) (List.mem_of_getElem? (i := 3) rfl) (congrArg (fun z => some (Value.int z)) ex) dX1_chainOf_15 ?_
  refine k_calli (k := 11) (As := [.int (nI x)]) (rest := [.int (nI 10), .int (nI n), .int (nI w), .int (nI h), .ref (ad 14)]) ⟨hx, hb, hml, hown, hts⟩ (c_X1_depthAt cy D ad l σ x hx9) (cwV 1 hts gX1_chainOf_X1_depthAt rfl rfl rfl (by decide +kernel) ⟨Nat.le_of_ble_eq_true rfl, Nat.le_of_ble_eq_true rfl⟩) E hA I (k_recv E I (by decide) kc_11 rfl) rfl hl.1 rfl (lv_room (Nat.le_of_ble_eq_true rfl)) dX1_chainOf_18 ⟨Nat.le_of_ble_eq_true rfl, Nat.le_of_ble_eq_true rfl⟩ (fun r_18 σ_18 H locs hp_18 I => ?_)
  obtain ⟨rfl, rfl⟩ := hp_18
  rw [ed]
  refine lv_imul hx hb dX1_chainOf_21 ?_
  rw [pk_mul]
  refine k_callv (k := 14) (As := [.int (nI h), .int (nI w), .int (nI n), .int (nI (10 * dd))]) (rest := []) ⟨hx, hb, hml, hown, hts⟩ (c_X2_take cy D ad l σ (nI h) (nI w) (nI n) (nI (10 * dd))) (cwV 4 hts gX1_chainOf_X2_take rfl rfl rfl (by decide +kernel) ⟨Nat.le_of_ble_eq_true rfl, Nat.le_of_ble_eq_true rfl⟩) E hA I (k_recv E I (by decide) kc_14 rfl) rfl hl.1 rfl (lv_room (Nat.le_of_ble_eq_true rfl)) dX1_chainOf_22 ⟨Nat.le_of_ble_eq_true rfl, Nat.le_of_ble_eq_true rfl⟩ (fun σ_22 H locs hp_22 I => ?_)
  subst hp_22
  refine lv_aload_n hx hb dX1_chainOf_25 rfl (lv_at hl 0 rfl) ?_
  refine k_get (C := RX1) (T := TX1) (N := 6) (v := .ref (ad 14)) hx hb hts hown E I iX1 (11) (by decide) (r0 := (va_up σ 14 (upd (upd (upd (upd (σ 14) 5 (nI h)) 6 (nI w)) 7 (nI n)) 8 (nI (10 * dd)))) 11) rfl kc_11 rfl 2 (by decide) (List.mem_of_getElem? (i := 1) rfl) rfl dX1_chainOf_26 ?_
  exact k_aret hx hb hr (Or.inl ⟨_, rfl⟩) hlk I dX1_chainOf_29 (⟨rfl, rfl⟩)
set_option maxHeartbeats 4000000 in
set_option maxRecDepth 100000 in
theorem c_X6_pullBy (cy : Nat → ClassId) (D : va_G) (ad : Nat → Nat) (l : Launch) (σ : Nat → Nat → Int32) (i a b : Nat) (H_i : i < 5) (ha : a ≤ 9) (hb20 : b ≤ 20) (ea : σ (15 + 3 * i) 7 = nI a) : kMi 38 ad (kcC cy ad) cy D l yX6_pullBy wsX6_pullBy ({ frames := 0, cells := 0, slots := 0, locals := 0 }) [.ref (ad (15 + 3 * i)), .int (nI b)] σ (fun r σ' => r = nI (b * b * a / 4) ∧ σ = σ') := by
  have hbb : b * b ≤ 20 * 20 := sq_mono hb20
  have hba : b * b * a ≤ 400 * 9 := Nat.mul_le_mul hbb ha
  refine k_entry (cc := cX6_pullBy) (maxL := 2) (ret := (some .int)) (by decide) rfl (Nat.le_of_ble_eq_true rfl) ?_
  intro p e s m below meth c hx hb hr hml hown hts hlk E I ls hl
  have hA : ∀ q, s.heap.size ≤ q → kA 38 ad s.heap.size q := fun q h => Or.inr h
  have hown : s.vm.findClass RX6 = some m.cls := hown
  have hl : lv_has ls 2 [(0, .ref (ad (15 + 3 * i))), (1, .int (nI b))] := hl
  have iX6 : ∀ w ∈ u_ws RX6 TX6 10, w ∈ wsX6_pullBy := fun w h => List.mem_cons_of_mem _ (List.mem_append_right _ h)
  refine lv_iload_n hx hb dX6_pullBy_0 rfl (lv_at hl 1 rfl) ?_
  refine lv_iload_n hx hb dX6_pullBy_1 rfl (lv_at hl 1 rfl) ?_
  refine lv_imul hx hb dX6_pullBy_2 ?_
  rw [pk_mul]
  refine lv_aload_n hx hb dX6_pullBy_3 rfl (lv_at hl 0 rfl) ?_
  refine k_get (C := RX6) (T := TX6) (N := 10) (v := .int (nI a)) hx hb hts hown E I iX6 (15 + 3 * i) (by omega) (r0 := σ (15 + 3 * i)) rfl (kc_S H_i) rfl 7 (by decide) (List.mem_of_getElem? (i := 1) rfl) (congrArg (fun z => some (Value.int z)) ea) dX6_pullBy_4 ?_
  refine lv_imul hx hb dX6_pullBy_7 ?_
  rw [pk_mul]
  refine lv_iconst (v := nI 4) hx hb dX6_pullBy_8 (by decide) ?_
  refine lv_idiv hx hb dX6_pullBy_9 (by decide) ?_
  exact k_iret hx hb hr hlk I dX6_pullBy_10 (⟨pk_div (by omega) (by decide) (by decide), rfl⟩)
set_option maxHeartbeats 4000000 in
set_option maxRecDepth 100000 in
theorem c_X6_anchorAt (cy : Nat → ClassId) (D : va_G) (ad : Nat → Nat) (l : Launch) (σ : Nat → Nat → Int32) (i mo : Nat) (H_i : i < 5) (hmo : mo ≤ 1) (em : σ (15 + 3 * i) 2 = nI mo) (w : Nat) (hw : w ≤ 1) : kMq 38 ad (kcC cy ad) cy D l yX6_anchorAt wsX6_anchorAt ({ frames := 0, cells := 0, slots := 0, locals := 0 }) [.ref (ad (15 + 3 * i)), .int (nI w)] σ (fun r σ' => σ = σ' ∧ ((w = 0 ∧ r = some (ad (16 + 3 * i))) ∨ (w = 1 ∧ mo = 1 ∧ r = some (ad (17 + 3 * i))) ∨ (w = 1 ∧ mo = 0 ∧ r = none))) := by
  refine k_entry (cc := cX6_anchorAt) (maxL := 2) (ret := (some (.object "ChainLays$Anchor"))) (by decide) rfl (Nat.le_of_ble_eq_true rfl) ?_
  intro p e s m below meth c hx hb hr hml hown hts hlk E I ls hl
  have hA : ∀ q, s.heap.size ≤ q → kA 38 ad s.heap.size q := fun q h => Or.inr h
  have hown : s.vm.findClass RX6 = some m.cls := hown
  have hl : lv_has ls 2 [(0, .ref (ad (15 + 3 * i))), (1, .int (nI w))] := hl
  have iX6 : ∀ w ∈ u_ws RX6 TX6 10, w ∈ wsX6_anchorAt := fun w h => List.mem_cons_of_mem _ (List.mem_append_right _ h)
  refine lv_iload_n hx hb dX6_anchorAt_0 rfl (lv_at hl 1 rfl) ?_
  refine lv_if_ne (tgt := 9) hx hb dX6_anchorAt_1 (by decide) (fun c_1 => ?_) (fun c_1 => ?_)
  · have c_1 : ¬ (w = 0) := fun q_ => c_1 ((nI_eq (by omega) (by decide)).mpr q_)
    refine lv_aload_n hx hb dX6_anchorAt_9 rfl (lv_at hl 0 rfl) ?_
    refine k_get (C := RX6) (T := TX6) (N := 10) (v := .int (nI mo)) hx hb hts hown E I iX6 (15 + 3 * i) (by omega) (r0 := σ (15 + 3 * i)) rfl (kc_S H_i) rfl 2 (by decide) (List.mem_of_getElem? (i := 2) rfl) (congrArg (fun z => some (Value.int z)) em) dX6_anchorAt_10 ?_
    refine lv_if_eq (tgt := 23) hx hb dX6_anchorAt_13 (by decide) (fun c_13 => ?_) (fun c_13 => ?_)
    · have c_13 : mo = 0 := (nI_eq (by omega) (by decide)).mp c_13
      refine lv_null hx hb dX6_anchorAt_23 ?_
      exact k_nret hx hb hr (Or.inl ⟨_, rfl⟩) hlk I dX6_anchorAt_24 (⟨rfl, Or.inr (by first | exact Or.inl ⟨by omega, by omega, rfl⟩ | exact Or.inr ⟨by omega, by omega, rfl⟩)⟩)
    · have c_13 : ¬ (mo = 0) := fun q_ => c_13 ((nI_eq (by omega) (by decide)).mpr q_)
      refine lv_aload_n hx hb dX6_anchorAt_16 rfl (lv_at hl 0 rfl) ?_
      refine k_get (C := RX6) (T := TX6) (N := 10) (v := .ref (ad (17 + 3 * i))) hx hb hts hown E I iX6 (15 + 3 * i) (by omega) (r0 := σ (15 + 3 * i)) rfl (kc_S H_i) rfl 1 (by decide) (List.mem_of_getElem? (i := 3) rfl) rfl dX6_anchorAt_17 ?_
      refine lv_goto (tgt := 24) hx hb dX6_anchorAt_20 (by decide) ?_
      exact k_aret hx hb hr (Or.inl ⟨_, rfl⟩) hlk I dX6_anchorAt_24 (⟨rfl, Or.inr (by first | exact Or.inl ⟨by omega, by omega, rfl⟩ | exact Or.inr ⟨by omega, by omega, rfl⟩)⟩)
  · have c_1 : w = 0 := (nI_eq (by omega) (by decide)).mp c_1
    refine lv_aload_n hx hb dX6_anchorAt_4 rfl (lv_at hl 0 rfl) ?_
    refine k_get (C := RX6) (T := TX6) (N := 10) (v := .ref (ad (16 + 3 * i))) hx hb hts hown E I iX6 (15 + 3 * i) (by omega) (r0 := σ (15 + 3 * i)) rfl (kc_S H_i) rfl 0 (by decide) (List.mem_of_getElem? (i := 1) rfl) rfl dX6_anchorAt_5 ?_
    exact k_aret hx hb hr (Or.inl ⟨_, rfl⟩) hlk I dX6_anchorAt_8 (⟨rfl, Or.inl ⟨by omega, rfl⟩⟩)
set_option maxHeartbeats 4000000 in
set_option maxRecDepth 100000 in
theorem c_X1_firstHolds (cy : Nat → ClassId) (D : va_G) (ad : Nat → Nat) (l : Launch) (σ : Nat → Nat → Int32) (N : Nat → Nat) (hN : nOk N) (i : Nat) (hi : i < N 1) (hB : rBay σ N) (n h : Nat) (hn : n ≤ 60) (hh : h ≤ 9999) : kMi 38 ad (kcC cy ad) cy D l yX1_firstHolds wsX1_firstHolds ({ frames := 3, cells := 0, slots := 0, locals := 69 }) [.ref (ad 11), .ref (ad (15 + 3 * i)), .int (nI n), .int (nI h)] σ (fun r σ' => kT r (pH1 N i n h = true) ∧ q14 σ σ') := by
  have H_i : i < 5 := by have := hN.1; omega
  have hsh := hN.2.2 i hi
  unfold nSh at hsh
  have hdx := pD_le hN hsh.1.1
  refine k_entry (cc := cX1_firstHolds) (maxL := 4) (ret := (some .boolean)) (by decide) rfl (Nat.le_of_ble_eq_true rfl) ?_
  intro p e s m below meth c hx hb hr hml hown hts hlk E I ls hl
  have hA : ∀ q, s.heap.size ≤ q → kA 38 ad s.heap.size q := fun q h => Or.inr h
  have hown : s.vm.findClass RX1 = some m.cls := hown
  have hl : lv_has ls 4 [(0, .ref (ad 11)), (1, .ref (ad (15 + 3 * i))), (2, .int (nI n)), (3, .int (nI h))] := hl
  have iX6 : ∀ w ∈ u_ws RX6 TX6 10, w ∈ wsX1_firstHolds := fun w h => List.mem_cons_of_mem _ (List.mem_append_left _ (List.mem_append_left _ (List.mem_append_left _ (List.mem_append_right _ h))))
  refine lv_aload_n hx hb dX1_firstHolds_0 rfl (lv_at hl 0 rfl) ?_
  refine lv_aload_n hx hb dX1_firstHolds_1 rfl (lv_at hl 1 rfl) ?_
  refine lv_aload_n hx hb dX1_firstHolds_2 rfl (lv_at hl 1 rfl) ?_
  refine k_get (C := RX6) (T := TX6) (N := 10) (v := .ref (ad (16 + 3 * i))) hx hb hts hown E I iX6 (15 + 3 * i) (by omega) (r0 := σ (15 + 3 * i)) rfl (kc_S H_i) rfl 0 (by decide) (List.mem_of_getElem? (i := 1) rfl) rfl dX1_firstHolds_3 ?_
  refine lv_iload_n hx hb dX1_firstHolds_6 rfl (lv_at hl 2 rfl) ?_
  refine lv_iload_n hx hb dX1_firstHolds_7 rfl (lv_at hl 3 rfl) ?_
  refine k_callq (k := 11) (As := [.ref (ad (15 + 3 * i)), .ref (ad (16 + 3 * i)), .int (nI n), .int (nI h)]) (rest := []) ⟨hx, hb, hml, hown, hts⟩ (c_X1_chainOf cy D ad l σ i (N (23 + 13 * i + 3)) (N (23 + 13 * i)) (N (3 + N (23 + 13 * i))) n h H_i (by have := hN.1; omega) (hN.2.1 _ hsh.1.1).2 (rB_f hB hi 3 (by decide)) (rB_f hB hi 0 (by decide)) (hB.2.1 _ hsh.1.1)) (cwV 4 hts gX1_firstHolds_X1_chainOf rfl rfl rfl (by decide +kernel) ⟨Nat.le_of_ble_eq_true rfl, Nat.le_of_ble_eq_true rfl⟩) E hA I (k_recv E I (by decide) kc_11 rfl) rfl hl.1 rfl (lv_room (Nat.le_of_ble_eq_true rfl)) dX1_firstHolds_8 ⟨Nat.le_of_ble_eq_true rfl, Nat.le_of_ble_eq_true rfl⟩ (fun r_8 σ_8 H locs hp_8 I => ?_)
  obtain ⟨rfl, hs_⟩ := hp_8
  have e8 : σ_8 (15 + 3 * i) 8 = nI (N (23 + 13 * i + 6)) := (q14_at ⟨_, hs_⟩ (by omega) 8).trans (rB_f hB hi 6 (by decide))
  refine lv_aload_n hx hb dX1_firstHolds_11 rfl (lv_at hl 1 rfl) ?_
  refine k_get (C := RX6) (T := TX6) (N := 10) (v := .int (nI (N (23 + 13 * i + 6)))) hx hb hts hown E I iX6 (15 + 3 * i) (by omega) (r0 := σ_8 (15 + 3 * i)) rfl (kc_S H_i) rfl 8 (by decide) (List.mem_of_getElem? (i := 2) rfl) (congrArg (fun z => some (Value.int z)) e8) dX1_firstHolds_12 ?_
  refine k_calli (k := 14) (As := [.int (nI (N (23 + 13 * i + 6)))]) (rest := []) ⟨hx, hb, hml, hown, hts⟩ (c_X2_holds cy D ad l σ_8 h (N (23 + 13 * i + 3)) n (10 * N (3 + N (23 + 13 * i))) hh hsh.2.1.1 hsh.2.1.2.1 hn hdx.2 (by rw [hs_]; rfl) (by rw [hs_]; rfl) (by rw [hs_]; rfl) (by rw [hs_]; rfl) (N (23 + 13 * i + 6)) hsh.2.2.1.2.2.2) (cwV 1 hts gX1_firstHolds_X2_holds rfl rfl rfl (by decide +kernel) ⟨Nat.le_of_ble_eq_true rfl, Nat.le_of_ble_eq_true rfl⟩) E hA I (k_recv E I (by decide) kc_14 rfl) rfl hl.1 rfl (lv_room (Nat.le_of_ble_eq_true rfl)) dX1_firstHolds_15 ⟨Nat.le_of_ble_eq_true rfl, Nat.le_of_ble_eq_true rfl⟩ (fun r_15 σ_15 H locs hp_15 I => ?_)
  obtain ⟨hk_, hq2⟩ := hp_15
  have hq3 : q14 σ σ_15 := q14_tr ⟨_, hs_⟩ hq2
  rcases hk_ with ⟨rfl, hb_⟩ | ⟨rfl, hb_⟩
  · exact k_zret hx hb hr (by decide) hlk I dX1_firstHolds_18 (⟨by first | exact kT_1 hb_ | exact kT_0 hb_, hq3⟩)
  · exact k_zret hx hb hr (by decide) hlk I dX1_firstHolds_18 (⟨by first | exact kT_1 hb_ | exact kT_0 hb_, hq3⟩)
set_option maxHeartbeats 4000000 in
set_option maxRecDepth 100000 in
theorem c_X1_secondHolds (cy : Nat → ClassId) (D : va_G) (ad : Nat → Nat) (l : Launch) (σ : Nat → Nat → Int32) (N : Nat → Nat) (hN : nOk N) (i : Nat) (hi : i < N 1) (hB : rBay σ N) (hm : N (23 + 13 * i + 9) = 1) (h : Nat) (hh : h ≤ 9999) : kMi 38 ad (kcC cy ad) cy D l yX1_secondHolds wsX1_secondHolds ({ frames := 3, cells := 0, slots := 0, locals := 69 }) [.ref (ad 11), .ref (ad (15 + 3 * i)), .int (nI h)] σ (fun r σ' => kT r (pH2 N i h = true) ∧ q14 σ σ') := by
  have H_i : i < 5 := by have := hN.1; omega
  have hsh := hN.2.2 i hi
  unfold nSh at hsh
  have hs2 := hsh.2.2.2.2.1 hm
  have hdx := pD_le hN hs2.1
  refine k_entry (cc := cX1_secondHolds) (maxL := 3) (ret := (some .boolean)) (by decide) rfl (Nat.le_of_ble_eq_true rfl) ?_
  intro p e s m below meth c hx hb hr hml hown hts hlk E I ls hl
  have hA : ∀ q, s.heap.size ≤ q → kA 38 ad s.heap.size q := fun q h => Or.inr h
  have hown : s.vm.findClass RX1 = some m.cls := hown
  have hl : lv_has ls 3 [(0, .ref (ad 11)), (1, .ref (ad (15 + 3 * i))), (2, .int (nI h))] := hl
  have iX0 : ∀ w ∈ u_ws RX0 TX0 3, w ∈ wsX1_secondHolds := fun w h => List.mem_cons_of_mem _ (List.mem_append_left _ (List.mem_append_left _ (List.mem_append_right _ h)))
  have iX6 : ∀ w ∈ u_ws RX6 TX6 10, w ∈ wsX1_secondHolds := fun w h => List.mem_cons_of_mem _ (List.mem_append_left _ (List.mem_append_left _ (List.mem_append_left _ (List.mem_append_right _ h))))
  refine lv_aload_n hx hb dX1_secondHolds_0 rfl (lv_at hl 0 rfl) ?_
  refine lv_aload_n hx hb dX1_secondHolds_1 rfl (lv_at hl 1 rfl) ?_
  refine lv_aload_n hx hb dX1_secondHolds_2 rfl (lv_at hl 1 rfl) ?_
  refine k_get (C := RX6) (T := TX6) (N := 10) (v := .ref (ad (17 + 3 * i))) hx hb hts hown E I iX6 (15 + 3 * i) (by omega) (r0 := σ (15 + 3 * i)) rfl (kc_S H_i) rfl 1 (by decide) (List.mem_of_getElem? (i := 1) rfl) rfl dX1_secondHolds_3 ?_
  refine lv_aload_n hx hb dX1_secondHolds_6 rfl (lv_at hl 1 rfl) ?_
  refine k_get (C := RX6) (T := TX6) (N := 10) (v := .ref (ad (17 + 3 * i))) hx hb hts hown E I iX6 (15 + 3 * i) (by omega) (r0 := σ (15 + 3 * i)) rfl (kc_S H_i) rfl 1 (by decide) (List.mem_of_getElem? (i := 1) rfl) rfl dX1_secondHolds_7 ?_
  refine k_get (C := RX0) (T := TX0) (N := 3) (v := .int (nI (N (23 + 13 * i + 12)))) hx hb hts hown E I iX0 (17 + 3 * i) (by omega) (r0 := σ (17 + 3 * i)) rfl (kc_G H_i) rfl 2 (by decide) (List.mem_of_getElem? (i := 2) rfl) (congrArg (fun z => some (Value.int z)) (rB_g hB hi hm 2 (by decide))) dX1_secondHolds_10 ?_
  refine lv_iload_n hx hb dX1_secondHolds_13 rfl (lv_at hl 2 rfl) ?_
  refine k_callq (k := 11) (As := [.ref (ad (15 + 3 * i)), .ref (ad (17 + 3 * i)), .int (nI (N (23 + 13 * i + 12))), .int (nI h)]) (rest := []) ⟨hx, hb, hml, hown, hts⟩ (c_X1_chainOf2 cy D ad l σ i (N (23 + 13 * i + 3)) (N (23 + 13 * i + 10)) (N (3 + N (23 + 13 * i + 10))) (N (23 + 13 * i + 12)) h H_i (by have := hN.1; omega) (hN.2.1 _ hs2.1).2 (rB_f hB hi 3 (by decide)) (rB_g hB hi hm 0 (by decide)) (hB.2.1 _ hs2.1)) (cwV 4 hts gX1_secondHolds_X1_chainOf rfl rfl rfl (by decide +kernel) ⟨Nat.le_of_ble_eq_true rfl, Nat.le_of_ble_eq_true rfl⟩) E hA I (k_recv E I (by decide) kc_11 rfl) rfl hl.1 rfl (lv_room (Nat.le_of_ble_eq_true rfl)) dX1_secondHolds_14 ⟨Nat.le_of_ble_eq_true rfl, Nat.le_of_ble_eq_true rfl⟩ (fun r_14 σ_14 H locs hp_14 I => ?_)
  obtain ⟨rfl, hs_⟩ := hp_14
  have e8 : σ_14 (15 + 3 * i) 8 = nI (N (23 + 13 * i + 6)) := (q14_at ⟨_, hs_⟩ (by omega) 8).trans (rB_f hB hi 6 (by decide))
  refine lv_aload_n hx hb dX1_secondHolds_17 rfl (lv_at hl 1 rfl) ?_
  refine k_get (C := RX6) (T := TX6) (N := 10) (v := .int (nI (N (23 + 13 * i + 6)))) hx hb hts hown E I iX6 (15 + 3 * i) (by omega) (r0 := σ_14 (15 + 3 * i)) rfl (kc_S H_i) rfl 8 (by decide) (List.mem_of_getElem? (i := 3) rfl) (congrArg (fun z => some (Value.int z)) e8) dX1_secondHolds_18 ?_
  refine k_calli (k := 14) (As := [.int (nI (N (23 + 13 * i + 6)))]) (rest := []) ⟨hx, hb, hml, hown, hts⟩ (c_X2_holds cy D ad l σ_14 h (N (23 + 13 * i + 3)) (N (23 + 13 * i + 12)) (10 * N (3 + N (23 + 13 * i + 10))) hh hsh.2.1.1 hsh.2.1.2.1 hs2.2.2.2 hdx.2 (by rw [hs_]; rfl) (by rw [hs_]; rfl) (by rw [hs_]; rfl) (by rw [hs_]; rfl) (N (23 + 13 * i + 6)) hsh.2.2.1.2.2.2) (cwV 1 hts gX1_secondHolds_X2_holds rfl rfl rfl (by decide +kernel) ⟨Nat.le_of_ble_eq_true rfl, Nat.le_of_ble_eq_true rfl⟩) E hA I (k_recv E I (by decide) kc_14 rfl) rfl hl.1 rfl (lv_room (Nat.le_of_ble_eq_true rfl)) dX1_secondHolds_21 ⟨Nat.le_of_ble_eq_true rfl, Nat.le_of_ble_eq_true rfl⟩ (fun r_21 σ_21 H locs hp_21 I => ?_)
  obtain ⟨hk_, hq2⟩ := hp_21
  have hq3 : q14 σ σ_21 := q14_tr ⟨_, hs_⟩ hq2
  rcases hk_ with ⟨rfl, hb_⟩ | ⟨rfl, hb_⟩
  · exact k_zret hx hb hr (by decide) hlk I dX1_secondHolds_24 (⟨by first | exact kT_1 hb_ | exact kT_0 hb_, hq3⟩)
  · exact k_zret hx hb hr (by decide) hlk I dX1_secondHolds_24 (⟨by first | exact kT_1 hb_ | exact kT_0 hb_, hq3⟩)
set_option maxHeartbeats 4000000 in
set_option maxRecDepth 100000 in
theorem c_X1_holdsBy (cy : Nat → ClassId) (D : va_G) (ad : Nat → Nat) (l : Launch) (σ : Nat → Nat → Int32) (N : Nat → Nat) (hN : nOk N) (i : Nat) (hi : i < N 1) (hB : rBay σ N) (n b : Nat) (hn : n ≤ 60) (hb20 : b ≤ 20) : kMi 38 ad (kcC cy ad) cy D l yX1_holdsBy wsX1_holdsBy ({ frames := 4, cells := 0, slots := 0, locals := 92 }) [.ref (ad 11), .ref (ad (15 + 3 * i)), .int (nI n), .int (nI b)] σ (fun r σ' => kT r (pHo N i n b = true) ∧ q14 σ σ') := by
  have H_i : i < 5 := by have := hN.1; omega
  have hsh := hN.2.2 i hi
  unfold nSh at hsh
  have hpp := pP_le (N := N) (i := i) hsh.2.2.1.2.1 hb20
  have hQ := q14_rf σ
  refine k_entry (cc := cX1_holdsBy) (maxL := 6) (ret := (some .boolean)) (by decide) rfl (Nat.le_of_ble_eq_true rfl) ?_
  intro p e s m below meth c hx hb hr hml hown hts hlk E I ls hl
  have hA : ∀ q, s.heap.size ≤ q → kA 38 ad s.heap.size q := fun q h => Or.inr h
  have hown : s.vm.findClass RX1 = some m.cls := hown
  have hl : lv_has ls 6 [(0, .ref (ad 11)), (1, .ref (ad (15 + 3 * i))), (2, .int (nI n)), (3, .int (nI b))] := hl
  have iX6 : ∀ w ∈ u_ws RX6 TX6 10, w ∈ wsX1_holdsBy := fun w h => List.mem_cons_of_mem _ (List.mem_append_left _ (List.mem_append_left _ (List.mem_append_left _ (List.mem_append_right _ h))))
  refine lv_aload_n hx hb dX1_holdsBy_0 rfl (lv_at hl 1 rfl) ?_
  refine lv_iload_n hx hb dX1_holdsBy_1 rfl (lv_at hl 3 rfl) ?_
  refine k_calli (k := 15 + 3 * i) (As := [.int (nI b)]) (rest := []) ⟨hx, hb, hml, hown, hts⟩ (c_X6_pullBy cy D ad l σ i (N (23 + 13 * i + 5)) b H_i hsh.2.2.1.2.1 hb20 (rB_f hB hi 5 (by decide))) (cwV 1 hts gX1_holdsBy_X6_pullBy rfl rfl rfl (by decide +kernel) ⟨Nat.le_of_ble_eq_true rfl, Nat.le_of_ble_eq_true rfl⟩) E hA I (k_recv E I (by omega) (kc_S H_i) rfl) rfl hl.1 rfl (lv_room (Nat.le_of_ble_eq_true rfl)) dX1_holdsBy_2 ⟨Nat.le_of_ble_eq_true rfl, Nat.le_of_ble_eq_true rfl⟩ (fun r_2 σ_2 H locs hp_2 I => ?_)
  obtain ⟨rfl, rfl⟩ := hp_2
  have ep : b * b * N (23 + 13 * i + 5) / 4 = pP N i b := rfl
  rw [ep]
  refine lv_istore (lv' := [(4, .int (nI (pP N i b))), (0, .ref (ad 11)), (1, .ref (ad (15 + 3 * i))), (2, .int (nI n)), (3, .int (nI b))]) hx hb dX1_holdsBy_5 hl (by decide) rfl (fun ls hl => ?_)
  refine lv_aload_n hx hb dX1_holdsBy_7 rfl (lv_at hl 2 rfl) ?_
  refine k_get (C := RX6) (T := TX6) (N := 10) (v := .int (nI (N (23 + 13 * i + 9)))) hx hb hts hown E I iX6 (15 + 3 * i) (by omega) (r0 := σ (15 + 3 * i)) rfl (kc_S H_i) rfl 2 (by decide) (List.mem_of_getElem? (i := 1) rfl) (congrArg (fun z => some (Value.int z)) (rB_f hB hi 9 (by decide))) dX1_holdsBy_8 ?_
  refine lv_if_ne (tgt := 23) hx hb dX1_holdsBy_11 (by decide) (fun c_11 => ?_) (fun c_11 => ?_)
  · have c_11 : ¬ ((N (23 + 13 * i + 9)) = 0) := fun q_ => c_11 ((nI_eq (by omega) (by decide)).mpr q_)
    have hm : N (23 + 13 * i + 9) = 1 := by omega
    refine lv_iload hx hb dX1_holdsBy_23 (lv_at hl 0 rfl) ?_
    refine lv_iconst (v := nI 1) hx hb dX1_holdsBy_25 (by decide) ?_
    refine lv_iadd hx hb dX1_holdsBy_26 ?_
    rw [nI_add]
    refine lv_iconst (v := nI 2) hx hb dX1_holdsBy_27 (by decide) ?_
    refine lv_idiv hx hb dX1_holdsBy_28 (by decide) ?_
    refine lv_topi (fun t_29 et_29 => ?_)
    have et_29 : t_29 = nI ((pP N i b + 1) / 2) := et_29.trans (pk_div (by omega) (by decide) (by decide))
    subst et_29
    refine lv_istore (lv' := [(5, .int (nI ((pP N i b + 1) / 2))), (4, .int (nI (pP N i b))), (0, .ref (ad 11)), (1, .ref (ad (15 + 3 * i))), (2, .int (nI n)), (3, .int (nI b))]) hx hb dX1_holdsBy_29 hl (by decide) rfl (fun ls hl => ?_)
    refine lv_aload_n hx hb dX1_holdsBy_31 rfl (lv_at hl 2 rfl) ?_
    refine lv_aload_n hx hb dX1_holdsBy_32 rfl (lv_at hl 3 rfl) ?_
    refine lv_iload_n hx hb dX1_holdsBy_33 rfl (lv_at hl 4 rfl) ?_
    refine lv_iload hx hb dX1_holdsBy_34 (lv_at hl 0 rfl) ?_
    refine k_calli (k := 11) (As := [.ref (ad (15 + 3 * i)), .int (nI n), .int (nI ((pP N i b + 1) / 2))]) (rest := []) ⟨hx, hb, hml, hown, hts⟩ (c_X1_firstHolds cy D ad l σ N hN i hi hB n ((pP N i b + 1) / 2) hn (by omega)) (cwV 3 hts gX1_holdsBy_X1_firstHolds rfl rfl rfl (by decide +kernel) ⟨Nat.le_of_ble_eq_true rfl, Nat.le_of_ble_eq_true rfl⟩) E hA I (k_recv E I (by decide) kc_11 rfl) rfl hl.1 rfl (lv_room (Nat.le_of_ble_eq_true rfl)) dX1_holdsBy_36 ⟨Nat.le_of_ble_eq_true rfl, Nat.le_of_ble_eq_true rfl⟩ (fun r_36 σ_36 H locs hp_36 I => ?_)
    obtain ⟨hk_, hq_⟩ := hp_36
    have hQ := q14_tr hQ hq_
    have hB := rBay_qc hN.1.2.2.2.1 hB (q14_qc hq_)
    rcases hk_ with ⟨rfl, g1⟩ | ⟨rfl, g1⟩
    · refine lv_if_eq (tgt := 52) hx hb dX1_holdsBy_39 (by decide) (fun c_39 => ?_) (fun c_39 => ?_)
      · exact absurd c_39 (by decide)
      · refine lv_aload_n hx hb dX1_holdsBy_42 rfl (lv_at hl 2 rfl) ?_
        refine lv_aload_n hx hb dX1_holdsBy_43 rfl (lv_at hl 3 rfl) ?_
        refine lv_iload hx hb dX1_holdsBy_44 (lv_at hl 0 rfl) ?_
        refine k_calli (k := 11) (As := [.ref (ad (15 + 3 * i)), .int (nI ((pP N i b + 1) / 2))]) (rest := []) ⟨hx, hb, hml, hown, hts⟩ (c_X1_secondHolds cy D ad l σ_36 N hN i hi hB hm ((pP N i b + 1) / 2) (by omega)) (cwV 2 hts gX1_holdsBy_X1_secondHolds rfl rfl rfl (by decide +kernel) ⟨Nat.le_of_ble_eq_true rfl, Nat.le_of_ble_eq_true rfl⟩) E hA I (k_recv E I (by decide) kc_11 rfl) rfl hl.1 rfl (lv_room (Nat.le_of_ble_eq_true rfl)) dX1_holdsBy_46 ⟨Nat.le_of_ble_eq_true rfl, Nat.le_of_ble_eq_true rfl⟩ (fun r_46 σ_46 H locs hp_46 I => ?_)
        obtain ⟨hk_, hq_⟩ := hp_46
        have hQ := q14_tr hQ hq_
        have hB := rBay_qc hN.1.2.2.2.1 hB (q14_qc hq_)
        rcases hk_ with ⟨rfl, g2⟩ | ⟨rfl, g2⟩
        · refine lv_if_ne (tgt := 73) hx hb dX1_holdsBy_49 (by decide) (fun c_49 => ?_) (fun c_49 => ?_)
          · refine lv_iconst (v := nI 1) hx hb dX1_holdsBy_73 (by decide) ?_
            refine lv_goto (tgt := 78) hx hb dX1_holdsBy_74 (by decide) ?_
            exact k_zret hx hb hr (by decide) hlk I dX1_holdsBy_78 (⟨by unfold pHo; rw [if_neg (by omega)]; first | exact kT_1 (by simp_all) | exact kT_0 (by simp_all), hQ⟩)
          · exact absurd c_49 (by decide)
        · refine lv_if_ne (tgt := 73) hx hb dX1_holdsBy_49 (by decide) (fun c_49 => ?_) (fun c_49 => ?_)
          · exact absurd c_49 (by decide)
          · refine lv_aload_n hx hb dX1_holdsBy_52 rfl (lv_at hl 2 rfl) ?_
            refine lv_aload_n hx hb dX1_holdsBy_53 rfl (lv_at hl 3 rfl) ?_
            refine lv_iload_n hx hb dX1_holdsBy_54 rfl (lv_at hl 4 rfl) ?_
            refine lv_iload hx hb dX1_holdsBy_55 (lv_at hl 1 rfl) ?_
            refine k_calli (k := 11) (As := [.ref (ad (15 + 3 * i)), .int (nI n), .int (nI (pP N i b))]) (rest := []) ⟨hx, hb, hml, hown, hts⟩ (c_X1_firstHolds cy D ad l σ_46 N hN i hi hB n (pP N i b) hn (by omega)) (cwV 3 hts gX1_holdsBy_X1_firstHolds rfl rfl rfl (by decide +kernel) ⟨Nat.le_of_ble_eq_true rfl, Nat.le_of_ble_eq_true rfl⟩) E hA I (k_recv E I (by decide) kc_11 rfl) rfl hl.1 rfl (lv_room (Nat.le_of_ble_eq_true rfl)) dX1_holdsBy_57 ⟨Nat.le_of_ble_eq_true rfl, Nat.le_of_ble_eq_true rfl⟩ (fun r_57 σ_57 H locs hp_57 I => ?_)
            obtain ⟨hk_, hq_⟩ := hp_57
            have hQ := q14_tr hQ hq_
            have hB := rBay_qc hN.1.2.2.2.1 hB (q14_qc hq_)
            rcases hk_ with ⟨rfl, g3⟩ | ⟨rfl, g3⟩
            · refine lv_if_ne (tgt := 73) hx hb dX1_holdsBy_60 (by decide) (fun c_60 => ?_) (fun c_60 => ?_)
              · refine lv_iconst (v := nI 1) hx hb dX1_holdsBy_73 (by decide) ?_
                refine lv_goto (tgt := 78) hx hb dX1_holdsBy_74 (by decide) ?_
                exact k_zret hx hb hr (by decide) hlk I dX1_holdsBy_78 (⟨by unfold pHo; rw [if_neg (by omega)]; first | exact kT_1 (by simp_all) | exact kT_0 (by simp_all), hQ⟩)
              · exact absurd c_60 (by decide)
            · refine lv_if_ne (tgt := 73) hx hb dX1_holdsBy_60 (by decide) (fun c_60 => ?_) (fun c_60 => ?_)
              · exact absurd c_60 (by decide)
              · refine lv_aload_n hx hb dX1_holdsBy_63 rfl (lv_at hl 2 rfl) ?_
                refine lv_aload_n hx hb dX1_holdsBy_64 rfl (lv_at hl 3 rfl) ?_
                refine lv_iload hx hb dX1_holdsBy_65 (lv_at hl 1 rfl) ?_
                refine k_calli (k := 11) (As := [.ref (ad (15 + 3 * i)), .int (nI (pP N i b))]) (rest := []) ⟨hx, hb, hml, hown, hts⟩ (c_X1_secondHolds cy D ad l σ_57 N hN i hi hB hm (pP N i b) (by omega)) (cwV 2 hts gX1_holdsBy_X1_secondHolds rfl rfl rfl (by decide +kernel) ⟨Nat.le_of_ble_eq_true rfl, Nat.le_of_ble_eq_true rfl⟩) E hA I (k_recv E I (by decide) kc_11 rfl) rfl hl.1 rfl (lv_room (Nat.le_of_ble_eq_true rfl)) dX1_holdsBy_67 ⟨Nat.le_of_ble_eq_true rfl, Nat.le_of_ble_eq_true rfl⟩ (fun r_67 σ_67 H locs hp_67 I => ?_)
                obtain ⟨hk_, hq_⟩ := hp_67
                have hQ := q14_tr hQ hq_
                have hB := rBay_qc hN.1.2.2.2.1 hB (q14_qc hq_)
                rcases hk_ with ⟨rfl, g4⟩ | ⟨rfl, g4⟩
                · refine lv_if_eq (tgt := 77) hx hb dX1_holdsBy_70 (by decide) (fun c_70 => ?_) (fun c_70 => ?_)
                  · exact absurd c_70 (by decide)
                  · refine lv_iconst (v := nI 1) hx hb dX1_holdsBy_73 (by decide) ?_
                    refine lv_goto (tgt := 78) hx hb dX1_holdsBy_74 (by decide) ?_
                    exact k_zret hx hb hr (by decide) hlk I dX1_holdsBy_78 (⟨by unfold pHo; rw [if_neg (by omega)]; first | exact kT_1 (by simp_all) | exact kT_0 (by simp_all), hQ⟩)
                · refine lv_if_eq (tgt := 77) hx hb dX1_holdsBy_70 (by decide) (fun c_70 => ?_) (fun c_70 => ?_)
                  · refine lv_iconst (v := nI 0) hx hb dX1_holdsBy_77 (by decide) ?_
                    exact k_zret hx hb hr (by decide) hlk I dX1_holdsBy_78 (⟨by unfold pHo; rw [if_neg (by omega)]; first | exact kT_1 (by simp_all) | exact kT_0 (by simp_all), hQ⟩)
                  · exact absurd c_70 (by decide)
    · refine lv_if_eq (tgt := 52) hx hb dX1_holdsBy_39 (by decide) (fun c_39 => ?_) (fun c_39 => ?_)
      · refine lv_aload_n hx hb dX1_holdsBy_52 rfl (lv_at hl 2 rfl) ?_
        refine lv_aload_n hx hb dX1_holdsBy_53 rfl (lv_at hl 3 rfl) ?_
        refine lv_iload_n hx hb dX1_holdsBy_54 rfl (lv_at hl 4 rfl) ?_
        refine lv_iload hx hb dX1_holdsBy_55 (lv_at hl 1 rfl) ?_
        refine k_calli (k := 11) (As := [.ref (ad (15 + 3 * i)), .int (nI n), .int (nI (pP N i b))]) (rest := []) ⟨hx, hb, hml, hown, hts⟩ (c_X1_firstHolds cy D ad l σ_36 N hN i hi hB n (pP N i b) hn (by omega)) (cwV 3 hts gX1_holdsBy_X1_firstHolds rfl rfl rfl (by decide +kernel) ⟨Nat.le_of_ble_eq_true rfl, Nat.le_of_ble_eq_true rfl⟩) E hA I (k_recv E I (by decide) kc_11 rfl) rfl hl.1 rfl (lv_room (Nat.le_of_ble_eq_true rfl)) dX1_holdsBy_57 ⟨Nat.le_of_ble_eq_true rfl, Nat.le_of_ble_eq_true rfl⟩ (fun r_57 σ_57 H locs hp_57 I => ?_)
        obtain ⟨hk_, hq_⟩ := hp_57
        have hQ := q14_tr hQ hq_
        have hB := rBay_qc hN.1.2.2.2.1 hB (q14_qc hq_)
        rcases hk_ with ⟨rfl, g3⟩ | ⟨rfl, g3⟩
        · refine lv_if_ne (tgt := 73) hx hb dX1_holdsBy_60 (by decide) (fun c_60 => ?_) (fun c_60 => ?_)
          · refine lv_iconst (v := nI 1) hx hb dX1_holdsBy_73 (by decide) ?_
            refine lv_goto (tgt := 78) hx hb dX1_holdsBy_74 (by decide) ?_
            exact k_zret hx hb hr (by decide) hlk I dX1_holdsBy_78 (⟨by unfold pHo; rw [if_neg (by omega)]; first | exact kT_1 (by simp_all) | exact kT_0 (by simp_all), hQ⟩)
          · exact absurd c_60 (by decide)
        · refine lv_if_ne (tgt := 73) hx hb dX1_holdsBy_60 (by decide) (fun c_60 => ?_) (fun c_60 => ?_)
          · exact absurd c_60 (by decide)
          · refine lv_aload_n hx hb dX1_holdsBy_63 rfl (lv_at hl 2 rfl) ?_
            refine lv_aload_n hx hb dX1_holdsBy_64 rfl (lv_at hl 3 rfl) ?_
            refine lv_iload hx hb dX1_holdsBy_65 (lv_at hl 1 rfl) ?_
            refine k_calli (k := 11) (As := [.ref (ad (15 + 3 * i)), .int (nI (pP N i b))]) (rest := []) ⟨hx, hb, hml, hown, hts⟩ (c_X1_secondHolds cy D ad l σ_57 N hN i hi hB hm (pP N i b) (by omega)) (cwV 2 hts gX1_holdsBy_X1_secondHolds rfl rfl rfl (by decide +kernel) ⟨Nat.le_of_ble_eq_true rfl, Nat.le_of_ble_eq_true rfl⟩) E hA I (k_recv E I (by decide) kc_11 rfl) rfl hl.1 rfl (lv_room (Nat.le_of_ble_eq_true rfl)) dX1_holdsBy_67 ⟨Nat.le_of_ble_eq_true rfl, Nat.le_of_ble_eq_true rfl⟩ (fun r_67 σ_67 H locs hp_67 I => ?_)
            obtain ⟨hk_, hq_⟩ := hp_67
            have hQ := q14_tr hQ hq_
            have hB := rBay_qc hN.1.2.2.2.1 hB (q14_qc hq_)
            rcases hk_ with ⟨rfl, g4⟩ | ⟨rfl, g4⟩
            · refine lv_if_eq (tgt := 77) hx hb dX1_holdsBy_70 (by decide) (fun c_70 => ?_) (fun c_70 => ?_)
              · exact absurd c_70 (by decide)
              · refine lv_iconst (v := nI 1) hx hb dX1_holdsBy_73 (by decide) ?_
                refine lv_goto (tgt := 78) hx hb dX1_holdsBy_74 (by decide) ?_
                exact k_zret hx hb hr (by decide) hlk I dX1_holdsBy_78 (⟨by unfold pHo; rw [if_neg (by omega)]; first | exact kT_1 (by simp_all) | exact kT_0 (by simp_all), hQ⟩)
            · refine lv_if_eq (tgt := 77) hx hb dX1_holdsBy_70 (by decide) (fun c_70 => ?_) (fun c_70 => ?_)
              · refine lv_iconst (v := nI 0) hx hb dX1_holdsBy_77 (by decide) ?_
                exact k_zret hx hb hr (by decide) hlk I dX1_holdsBy_78 (⟨by unfold pHo; rw [if_neg (by omega)]; first | exact kT_1 (by simp_all) | exact kT_0 (by simp_all), hQ⟩)
              · exact absurd c_70 (by decide)
      · exact absurd c_39 (by decide)
  · have c_11 : (N (23 + 13 * i + 9)) = 0 := (nI_eq (by omega) (by decide)).mp c_11
    have hm0 : N (23 + 13 * i + 9) = 0 := by omega
    refine lv_aload_n hx hb dX1_holdsBy_14 rfl (lv_at hl 1 rfl) ?_
    refine lv_aload_n hx hb dX1_holdsBy_15 rfl (lv_at hl 2 rfl) ?_
    refine lv_iload_n hx hb dX1_holdsBy_16 rfl (lv_at hl 3 rfl) ?_
    refine lv_iload hx hb dX1_holdsBy_17 (lv_at hl 0 rfl) ?_
    refine k_calli (k := 11) (As := [.ref (ad (15 + 3 * i)), .int (nI n), .int (nI (pP N i b))]) (rest := []) ⟨hx, hb, hml, hown, hts⟩ (c_X1_firstHolds cy D ad l σ N hN i hi hB n (pP N i b) hn (by omega)) (cwV 3 hts gX1_holdsBy_X1_firstHolds rfl rfl rfl (by decide +kernel) ⟨Nat.le_of_ble_eq_true rfl, Nat.le_of_ble_eq_true rfl⟩) E hA I (k_recv E I (by decide) kc_11 rfl) rfl hl.1 rfl (lv_room (Nat.le_of_ble_eq_true rfl)) dX1_holdsBy_19 ⟨Nat.le_of_ble_eq_true rfl, Nat.le_of_ble_eq_true rfl⟩ (fun r_19 σ_19 H locs hp_19 I => ?_)
    obtain ⟨hk_, hq_⟩ := hp_19
    have hQ := q14_tr hQ hq_
    have hB := rBay_qc hN.1.2.2.2.1 hB (q14_qc hq_)
    rcases hk_ with ⟨rfl, g1⟩ | ⟨rfl, g1⟩
    · exact k_zret hx hb hr (by decide) hlk I dX1_holdsBy_22 (⟨by unfold pHo; rw [if_pos hm0]; first | exact kT_1 g1 | exact kT_0 g1, hQ⟩)
    · exact k_zret hx hb hr (by decide) hlk I dX1_holdsBy_22 (⟨by unfold pHo; rw [if_pos hm0]; first | exact kT_1 g1 | exact kT_0 g1, hQ⟩)
set_option maxHeartbeats 4000000 in
set_option maxRecDepth 100000 in
theorem c_X1_measureSwing (cy : Nat → ClassId) (D : va_G) (ad : Nat → Nat) (l : Launch) (σ : Nat → Nat → Int32) (N : Nat → Nat) (hN : nOk N) (i : Nat) (hi : i < N 1) (hB : rBay σ N) (n b : Nat) (hn : n ≤ 60) (hb20 : b ≤ 20) : kMv 38 ad (kcC cy ad) cy D l yX1_measureSwing wsX1_measureSwing ({ frames := 4, cells := 0, slots := 0, locals := 91 }) [.ref (ad 11), .ref (ad (15 + 3 * i)), .int (nI n), .int (nI b)] σ (fun σ' => ∃ τ, q14 σ τ ∧ σ' = va_up τ (15 + 3 * i) (upd (τ (15 + 3 * i)) 9 (nI (pSw N i n b)))) := by
  have H_i : i < 5 := by have := hN.1; omega
  have hsh := hN.2.2 i hi
  unfold nSh at hsh
  have hpp := pP_le (N := N) (i := i) hsh.2.2.1.2.1 hb20
  have hdx := pD_le hN hsh.1.1
  refine k_entry (cc := cX1_measureSwing) (maxL := 4) (ret := none) (by decide) rfl (Nat.le_of_ble_eq_true rfl) ?_
  intro p e s m below meth c hx hb hr hml hown hts hlk E I ls hl
  have hA : ∀ q, s.heap.size ≤ q → kA 38 ad s.heap.size q := fun q h => Or.inr h
  have hown : s.vm.findClass RX1 = some m.cls := hown
  have hl : lv_has ls 4 [(0, .ref (ad 11)), (1, .ref (ad (15 + 3 * i))), (2, .int (nI n)), (3, .int (nI b))] := hl
  have iX1 : ∀ w ∈ u_ws RX1 TX1 6, w ∈ wsX1_measureSwing := fun w h => List.mem_cons_of_mem _ (List.mem_append_left _ (List.mem_append_left _ (List.mem_append_right _ h)))
  have iX2 : ∀ w ∈ u_ws RX2 TX2 12, w ∈ wsX1_measureSwing := fun w h => List.mem_cons_of_mem _ (List.mem_append_left _ (List.mem_append_right _ h))
  have iX6 : ∀ w ∈ u_ws RX6 TX6 10, w ∈ wsX1_measureSwing := fun w h => List.mem_cons_of_mem _ (List.mem_append_left _ (List.mem_append_left _ (List.mem_append_left _ (List.mem_append_right _ h))))
  refine lv_aload_n hx hb dX1_measureSwing_0 rfl (lv_at hl 0 rfl) ?_
  refine lv_aload_n hx hb dX1_measureSwing_1 rfl (lv_at hl 1 rfl) ?_
  refine lv_aload_n hx hb dX1_measureSwing_2 rfl (lv_at hl 1 rfl) ?_
  refine k_get (C := RX6) (T := TX6) (N := 10) (v := .ref (ad (16 + 3 * i))) hx hb hts hown E I iX6 (15 + 3 * i) (by omega) (r0 := σ (15 + 3 * i)) rfl (kc_S H_i) rfl 0 (by decide) (List.mem_of_getElem? (i := 1) rfl) rfl dX1_measureSwing_3 ?_
  refine lv_iload_n hx hb dX1_measureSwing_6 rfl (lv_at hl 2 rfl) ?_
  refine lv_aload_n hx hb dX1_measureSwing_7 rfl (lv_at hl 1 rfl) ?_
  refine lv_iload_n hx hb dX1_measureSwing_8 rfl (lv_at hl 3 rfl) ?_
  refine k_calli (k := 15 + 3 * i) (As := [.int (nI b)]) (rest := [.int (nI n), .ref (ad (16 + 3 * i)), .ref (ad (15 + 3 * i)), .ref (ad 11)]) ⟨hx, hb, hml, hown, hts⟩ (c_X6_pullBy cy D ad l σ i (N (23 + 13 * i + 5)) b H_i hsh.2.2.1.2.1 hb20 (rB_f hB hi 5 (by decide))) (cwV 1 hts gX1_measureSwing_X6_pullBy rfl rfl rfl (by decide +kernel) ⟨Nat.le_of_ble_eq_true rfl, Nat.le_of_ble_eq_true rfl⟩) E hA I (k_recv E I (by omega) (kc_S H_i) rfl) rfl hl.1 rfl (lv_room (Nat.le_of_ble_eq_true rfl)) dX1_measureSwing_9 ⟨Nat.le_of_ble_eq_true rfl, Nat.le_of_ble_eq_true rfl⟩ (fun r_9 σ_9 H locs hp_9 I => ?_)
  obtain ⟨rfl, rfl⟩ := hp_9
  have ep : b * b * N (23 + 13 * i + 5) / 4 = pP N i b := rfl
  rw [ep]
  refine k_callq (k := 11) (As := [.ref (ad (15 + 3 * i)), .ref (ad (16 + 3 * i)), .int (nI n), .int (nI (pP N i b))]) (rest := []) ⟨hx, hb, hml, hown, hts⟩ (c_X1_chainOf cy D ad l σ i (N (23 + 13 * i + 3)) (N (23 + 13 * i)) (N (3 + N (23 + 13 * i))) n (pP N i b) H_i (by have := hN.1; omega) (hN.2.1 _ hsh.1.1).2 (rB_f hB hi 3 (by decide)) (rB_f hB hi 0 (by decide)) (hB.2.1 _ hsh.1.1)) (cwV 4 hts gX1_measureSwing_X1_chainOf rfl rfl rfl (by decide +kernel) ⟨Nat.le_of_ble_eq_true rfl, Nat.le_of_ble_eq_true rfl⟩) E hA I (k_recv E I (by decide) kc_11 rfl) rfl hl.1 rfl (lv_room (Nat.le_of_ble_eq_true rfl)) dX1_measureSwing_12 ⟨Nat.le_of_ble_eq_true rfl, Nat.le_of_ble_eq_true rfl⟩ (fun r_12 σ_12 H locs hp_12 I => ?_)
  obtain ⟨rfl, hs_⟩ := hp_12
  refine k_callv (k := 14) (As := []) (rest := []) ⟨hx, hb, hml, hown, hts⟩ (c_X2_findLie cy D ad l σ_12 (pP N i b) (N (23 + 13 * i + 3)) n (10 * N (3 + N (23 + 13 * i))) (by omega) hsh.2.1.1 hsh.2.1.2.1 hn hdx.2 (by rw [hs_]; rfl) (by rw [hs_]; rfl) (by rw [hs_]; rfl) (by rw [hs_]; rfl)) (cwV 0 hts gX1_measureSwing_X2_findLie rfl rfl rfl (by decide +kernel) ⟨Nat.le_of_ble_eq_true rfl, Nat.le_of_ble_eq_true rfl⟩) E hA I (k_recv E I (by decide) kc_14 rfl) rfl hl.1 rfl (lv_room (Nat.le_of_ble_eq_true rfl)) dX1_measureSwing_15 ⟨Nat.le_of_ble_eq_true rfl, Nat.le_of_ble_eq_true rfl⟩ (fun σ_15 H locs hp_15 I => ?_)
  obtain ⟨R, hs2_, r0, r1, r2, r3, r4⟩ := hp_15
  have hQ : q14 σ σ_15 := q14_tr ⟨_, hs_⟩ ⟨_, hs2_⟩
  have hB := rBay_qc hN.1.2.2.2.1 hB (q14_qc hQ)
  have e2 : σ_15 14 2 = nI (zReach (pP N i b) (N (23 + 13 * i + 3)) (pD N (N (23 + 13 * i))) n) := by rw [hs2_]; exact r2
  refine lv_aload_n hx hb dX1_measureSwing_18 rfl (lv_at hl 1 rfl) ?_
  refine lv_aload_n hx hb dX1_measureSwing_19 rfl (lv_at hl 0 rfl) ?_
  refine k_get (C := RX1) (T := TX1) (N := 6) (v := .ref (ad 14)) hx hb hts hown E I iX1 (11) (by decide) (r0 := σ_15 11) rfl kc_11 rfl 2 (by decide) (List.mem_of_getElem? (i := 2) rfl) rfl dX1_measureSwing_20 ?_
  refine k_get (C := RX2) (T := TX2) (N := 12) (v := .int (nI (zReach (pP N i b) (N (23 + 13 * i + 3)) (pD N (N (23 + 13 * i))) n))) hx hb hts hown E I iX2 (14) (by decide) (r0 := σ_15 14) rfl kc_14 rfl 2 (by decide) (List.mem_of_getElem? (i := 3) rfl) (congrArg (fun z => some (Value.int z)) e2) dX1_measureSwing_23 ?_
  refine lv_bipush (v := nI 10) hx hb dX1_measureSwing_26 (by decide) ?_
  refine lv_aload_n hx hb dX1_measureSwing_28 rfl (lv_at hl 1 rfl) ?_
  refine k_get (C := RX6) (T := TX6) (N := 10) (v := .int (nI (N (23 + 13 * i + 4)))) hx hb hts hown E I iX6 (15 + 3 * i) (by omega) (r0 := σ_15 (15 + 3 * i)) rfl (kc_S H_i) rfl 6 (by decide) (List.mem_of_getElem? (i := 4) rfl) (congrArg (fun z => some (Value.int z)) (rB_f hB hi 4 (by decide))) dX1_measureSwing_29 ?_
  refine lv_imul hx hb dX1_measureSwing_32 ?_
  rw [pk_mul]
  refine lv_iadd hx hb dX1_measureSwing_33 ?_
  rw [nI_add]
  refine k_put (C := RX6) (T := TX6) (N := 10) (ty0 := tyX6) (ty := .int) (v := .int (nI ((zReach (pP N i b) (N (23 + 13 * i + 3)) (pD N (N (23 + 13 * i))) n) + (10 * (N (23 + 13 * i + 4)))))) hx hb hts hown E I iX6 tyX6_ok nmX6 (15 + 3 * i) (by omega) (r0 := σ_15 (15 + 3 * i)) rfl (kc_S H_i) rfl 9 (by decide) (List.mem_of_getElem? (i := 5) rfl) rfl rfl rfl rfl (Nat.le_of_ble_eq_true rfl) (upd (σ_15 (15 + 3 * i)) 9 (nI ((zReach (pP N i b) (N (23 + 13 * i + 3)) (pD N (N (23 + 13 * i))) n) + (10 * (N (23 + 13 * i + 4)))))) (kc_S (cy := cy) (ad := ad) (r := (upd (σ_15 (15 + 3 * i)) 9 (nI ((zReach (pP N i b) (N (23 + 13 * i + 3)) (pD N (N (23 + 13 * i))) n) + (10 * (N (23 + 13 * i + 4))))))) H_i).symm (σ2 := va_up σ_15 (15 + 3 * i) (upd (σ_15 (15 + 3 * i)) 9 (nI ((zReach (pP N i b) (N (23 + 13 * i + 3)) (pD N (N (23 + 13 * i))) n) + (10 * (N (23 + 13 * i + 4))))))) rfl dX1_measureSwing_34 (fun H locs I => ?_)
  exact k_vret hx hb hr hlk I dX1_measureSwing_37 (⟨σ_15, hQ, rfl⟩)
end
section
/-! DISTANCES, DRAGGING, HOURS, COUNTS -/
def dd (a b : Nat) : Nat := (a - b) + (b - a)
theorem ksq_dd (a b : Nat) : (nI 10 * (nI a - nI b)) * (nI 10 * (nI a - nI b)) = nI (100 * (dd a b * dd a b)) := by
  rcases Nat.le_total b a with q | q
  · have e : dd a b = a - b := by unfold dd; omega
    rw [pk_sub q, pk_mul, pk_mul, e, Nat.mul_mul_mul_comm]
  · have e : dd a b = b - a := by unfold dd; omega
    have e2 : nI a - nI b = -nI (b - a) := by rw [← pk_sub q, Int32.neg_sub]
    rw [e2, Int32.mul_neg, Int32.neg_mul, Int32.mul_neg, Int32.neg_neg, pk_mul, pk_mul, e, Nat.mul_mul_mul_comm]
theorem dd_le {a b n : Nat} (ha : a ≤ n) (hb : b ≤ n) : dd a b * dd a b ≤ n * n := sq_mono (by unfold dd; omega)
def pFar (N : Nat → Nat) (i t : Nat) : Nat := 100 * (dd (N (23 + 13 * i)) (N (23 + 13 * t)) * dd (N (23 + 13 * i)) (N (23 + 13 * t))) + 100 * (dd (N (23 + 13 * i + 1)) (N (23 + 13 * t + 1)) * dd (N (23 + 13 * i + 1)) (N (23 + 13 * t + 1)))
def pClr (N : Nat → Nat) (i t a c : Nat) : Bool := decide (N (23 + 13 * i + 7) = 1) || (decide (N (23 + 13 * t + 7) = 1) || decide ((a + c) * (a + c) ≤ pFar N i t))
/-- what lies outside the bay stays -/
def fB (σ τ : Nat → Nat → Int32) : Prop := ∀ k j, (k < 11 ∨ 30 ≤ k) → τ k j = σ k j
theorem fB_rf (σ : Nat → Nat → Int32) : fB σ σ := fun _ _ _ => rfl
theorem fB_tr {σ τ υ : Nat → Nat → Int32} (h1 : fB σ τ) (h2 : fB τ υ) : fB σ υ := fun k j a => (h2 k j a).trans (h1 k j a)
theorem qc_fB {σ τ : Nat → Nat → Int32} (h : qc σ τ) : fB σ τ := fun k j a => h k j (by omega) (by omega)
theorem fB_up {σ τ : Nat → Nat → Int32} (h : fB σ τ) {k : Nat} (r : Nat → Int32) (hk : 11 ≤ k ∧ k < 30) : fB σ (va_up τ k r) := fun a j q => by
  have : a ≠ k := by omega
  simp only [va_up, if_neg this]
  exact h a j q
/-- one ship's numbers become others -/
theorem rBay_ship {σ τ : Nat → Nat → Int32} {N M : Nat → Nat} {i : Nat} (h : rBay σ N) (hN : N 1 ≤ 5) (hN0 : N 0 ≤ 20) (hk : ∀ k, k < 23 + 13 * i ∨ 23 + 13 * i + 12 < k → M k = N k) (hs : ∀ k j, k ≠ 14 → k ≠ 15 + 3 * i → k ≠ 16 + 3 * i → k ≠ 17 + 3 * i → 11 ≤ k → k < 30 → ¬ (k % 3 = 0 ∧ 15 ≤ k ∧ j = 9) → τ k j = σ k j) (hi : rS τ M i) (hM : i < N 1) : rBay τ M := by
  have a0 : M 0 = N 0 := hk 0 (by omega)
  have a1 : M 1 = N 1 := hk 1 (by omega)
  have a2 : M 2 = N 2 := hk 2 (by omega)
  refine ⟨⟨?_, ?_, ?_⟩, fun k hk0 => ?_, fun t ht => ?_⟩
  · rw [hs 11 3 (by decide) (by omega) (by omega) (by omega) (by decide) (by decide) (by omega), a0]; exact h.1.1
  · rw [hs 11 4 (by decide) (by omega) (by omega) (by omega) (by decide) (by decide) (by omega), a1]; exact h.1.2.1
  · rw [hs 11 5 (by decide) (by omega) (by omega) (by omega) (by decide) (by decide) (by omega), a2]; exact h.1.2.2
  · rw [a0] at hk0
    rw [hs 12 k (by decide) (by omega) (by omega) (by omega) (by decide) (by decide) (by omega), hk (3 + k) (by omega)]
    exact h.2.1 k hk0
  · by_cases e : t = i
    · rw [e]; exact hi
    · rw [a1] at ht
      have hb : ∀ f, f < 13 → M (23 + 13 * t + f) = N (23 + 13 * t + f) := fun f hf => hk _ (by omega)
      have hr := rS_same (τ := τ) (h.2.2 t ht) (fun j h1 h2 => hs _ j (by omega) (by omega) (by omega) (by omega) (by omega) (by omega) (by omega)) (fun j => hs _ j (by omega) (by omega) (by omega) (by omega) (by omega) (by omega) (by omega)) (fun j => hs _ j (by omega) (by omega) (by omega) (by omega) (by omega) (by omega) (by omega))
      refine ⟨fun f hf => ?_, fun hm f hf => ?_⟩
      · rw [hb f (by omega)]; exact hr.1 f hf
      · rw [hb 9 (by omega)] at hm
        rw [hb (10 + f) (by omega)]; exact hr.2 hm f hf
/-- one CELL to a SIDE -/
def mIn (C side x y : Nat) : Bool := if side = 0 then decide (1 ≤ y) else if side = 1 then decide (x + 1 < C) else if side = 2 then decide (y + 1 < 20) else decide (1 ≤ x)
def mX (side x : Nat) : Nat := if side = 1 then x + 1 else if side = 3 then x - 1 else x
def mY (side y : Nat) : Nat := if side = 0 then y - 1 else if side = 2 then y + 1 else y
theorem mIn_to {C side x y : Nat} (hs : side ≤ 3) (hx : x < C) (hy : y < 20) (h : mIn C side x y = true) : mX side x < C ∧ mY side y < 20 := by
  unfold mIn at h
  unfold mX mY
  rcases (show side = 0 ∨ side = 1 ∨ side = 2 ∨ side = 3 by omega) with rfl | rfl | rfl | rfl <;> simp at h ⊢ <;> omega
def pStay (N : Nat → Nat) (i side : Nat) : Bool := mIn (N 0) side (N (23 + 13 * i)) (N (23 + 13 * i + 1)) && (decide (N (23 + 13 * i + 9) = 0) || mIn (N 0) side (N (23 + 13 * i + 10)) (N (23 + 13 * i + 11)))
def pMoved (N : Nat → Nat) (i side : Nat) : Nat → Nat := fun k =>
  if k = 23 + 13 * i then mX side (N k) else if k = 23 + 13 * i + 1 then mY side (N k) else if k = 23 + 13 * i + 8 then N k + 1
  else if k = 23 + 13 * i + 10 ∧ N (23 + 13 * i + 9) = 1 then mX side (N k) else if k = 23 + 13 * i + 11 ∧ N (23 + 13 * i + 9) = 1 then mY side (N k) else N k
def pDrag (N : Nat → Nat) (i side : Nat) : Nat → Nat := if pStay N i side then pMoved N i side else va_up N (23 + 13 * i + 7) 1
theorem pMoved_at (N : Nat → Nat) (i side : Nat) {k : Nat} (h0 : k ≠ 23 + 13 * i) (h1 : k ≠ 23 + 13 * i + 1) (h8 : k ≠ 23 + 13 * i + 8) (h10 : k ≠ 23 + 13 * i + 10) (h11 : k ≠ 23 + 13 * i + 11) : pMoved N i side k = N k := by
  simp only [pMoved, if_neg h0, if_neg h1, if_neg h8]
  rw [if_neg (fun q => h10 q.1), if_neg (fun q => h11 q.1)]
theorem pMoved_0 (N : Nat → Nat) (i side : Nat) : pMoved N i side (23 + 13 * i) = mX side (N (23 + 13 * i)) := by simp only [pMoved, if_pos]
theorem pMoved_1 (N : Nat → Nat) (i side : Nat) : pMoved N i side (23 + 13 * i + 1) = mY side (N (23 + 13 * i + 1)) := by
  unfold pMoved
  rw [if_neg (by omega), if_pos rfl]
theorem pMoved_8 (N : Nat → Nat) (i side : Nat) : pMoved N i side (23 + 13 * i + 8) = N (23 + 13 * i + 8) + 1 := by
  unfold pMoved
  rw [if_neg (by omega), if_neg (by omega), if_pos rfl]
theorem pMoved_10 (N : Nat → Nat) (i side : Nat) : pMoved N i side (23 + 13 * i + 10) = if N (23 + 13 * i + 9) = 1 then mX side (N (23 + 13 * i + 10)) else N (23 + 13 * i + 10) := by
  unfold pMoved
  rw [if_neg (by omega), if_neg (by omega), if_neg (by omega)]
  by_cases h : N (23 + 13 * i + 9) = 1
  · rw [if_pos ⟨rfl, h⟩, if_pos h]
  · rw [if_neg (fun q => h q.2), if_neg (fun q => h q.2), if_neg h]
theorem pMoved_11 (N : Nat → Nat) (i side : Nat) : pMoved N i side (23 + 13 * i + 11) = if N (23 + 13 * i + 9) = 1 then mY side (N (23 + 13 * i + 11)) else N (23 + 13 * i + 11) := by
  unfold pMoved
  rw [if_neg (by omega), if_neg (by omega), if_neg (by omega), if_neg (fun q => absurd q.1 (by omega))]
  by_cases h : N (23 + 13 * i + 9) = 1
  · rw [if_pos ⟨rfl, h⟩, if_pos h]
  · rw [if_neg (fun q => h q.2), if_neg h]
theorem pDrag_off (N : Nat → Nat) (i side : Nat) {k : Nat} (h : k < 23 + 13 * i ∨ 23 + 13 * i + 12 < k) : pDrag N i side k = N k := by
  unfold pDrag
  split
  · exact pMoved_at N i side (by omega) (by omega) (by omega) (by omega) (by omega)
  · rw [va_up_ne _ _ (show k ≠ 23 + 13 * i + 7 by omega)]
theorem nSh_same {N M : Nat → Nat} {t : Nat} (h0 : M 0 = N 0) (h : ∀ f, f < 13 → M (23 + 13 * t + f) = N (23 + 13 * t + f)) (hs : nSh N t) : nSh M t := by
  unfold nSh at hs ⊢
  have a0 := h 0 (by omega)
  rw [Nat.add_zero] at a0
  rw [h0, a0, h 1 (by omega), h 2 (by omega), h 3 (by omega), h 4 (by omega), h 5 (by omega), h 6 (by omega), h 7 (by omega), h 9 (by omega), h 10 (by omega), h 11 (by omega), h 12 (by omega)]
  exact hs
theorem nOk_ship {N M : Nat → Nat} {i : Nat} (hN : nOk N) (hk : ∀ k, k < 23 + 13 * i ∨ 23 + 13 * i + 12 < k → M k = N k) (hi : nSh M i) : nOk M := by
  have a0 : M 0 = N 0 := hk 0 (by omega)
  have a1 : M 1 = N 1 := hk 1 (by omega)
  have a2 : M 2 = N 2 := hk 2 (by omega)
  have h := hN.1
  refine ⟨by rw [a0, a1, a2]; exact hN.1, fun k q => ?_, fun t ht => ?_⟩
  · rw [a0] at q
    rw [hk (3 + k) (by omega)]
    exact hN.2.1 k q
  · by_cases e : t = i
    · rw [e]; exact hi
    · rw [a1] at ht
      exact nSh_same a0 (fun f hf => hk _ (by omega)) (hN.2.2 t ht)
theorem nOk_drag {N : Nat → Nat} (hN : nOk N) {i side : Nat} (hi : i < N 1) (hs : side ≤ 3) : nOk (pDrag N i side) := by
  refine nOk_ship hN (fun k hk => pDrag_off N i side hk) ?_
  have h := hN.2.2 i hi
  unfold pDrag
  split
  · rename_i q
    unfold pStay at q
    rw [Bool.and_eq_true] at q
    unfold nSh at h ⊢
    have m1 := mIn_to hs h.1.1 h.1.2.1 q.1
    rw [pMoved_0, pMoved_1, pMoved_10, pMoved_11, pMoved_at N i side (k := 0) (by omega) (by omega) (by omega) (by omega) (by omega), pMoved_at N i side (k := 23 + 13 * i + 2) (by omega) (by omega) (by omega) (by omega) (by omega), pMoved_at N i side (k := 23 + 13 * i + 3) (by omega) (by omega) (by omega) (by omega) (by omega), pMoved_at N i side (k := 23 + 13 * i + 4) (by omega) (by omega) (by omega) (by omega) (by omega), pMoved_at N i side (k := 23 + 13 * i + 5) (by omega) (by omega) (by omega) (by omega) (by omega), pMoved_at N i side (k := 23 + 13 * i + 6) (by omega) (by omega) (by omega) (by omega) (by omega), pMoved_at N i side (k := 23 + 13 * i + 7) (by omega) (by omega) (by omega) (by omega) (by omega), pMoved_at N i side (k := 23 + 13 * i + 9) (by omega) (by omega) (by omega) (by omega) (by omega), pMoved_at N i side (k := 23 + 13 * i + 12) (by omega) (by omega) (by omega) (by omega) (by omega)]
    refine ⟨⟨m1.1, m1.2, h.1.2.2⟩, h.2.1, h.2.2.1, h.2.2.2.1, fun z => ?_, fun z => ?_⟩
    · rw [if_pos z, if_pos z]
      have h2 := h.2.2.2.2.1 z
      have q2 : mIn (N 0) side (N (23 + 13 * i + 10)) (N (23 + 13 * i + 11)) = true := by
        have := q.2
        rw [Bool.or_eq_true] at this
        rcases this with w | w
        · exact absurd (of_decide_eq_true w) (by omega)
        · exact w
      have m2 := mIn_to hs h2.1 h2.2.1 q2
      exact ⟨m2.1, m2.2, h2.2.2⟩
    · rw [if_neg (by omega), if_neg (by omega)]
      exact h.2.2.2.2.2 z
  · unfold nSh at h ⊢
    have n : ∀ k, k ≠ 23 + 13 * i + 7 → va_up N (23 + 13 * i + 7) 1 k = N k := fun k hk => va_up_ne _ _ hk
    rw [n 0 (by omega), n (23 + 13 * i) (by omega), n (23 + 13 * i + 1) (by omega), n (23 + 13 * i + 2) (by omega), n (23 + 13 * i + 3) (by omega), n (23 + 13 * i + 4) (by omega), n (23 + 13 * i + 5) (by omega), n (23 + 13 * i + 6) (by omega), n (23 + 13 * i + 9) (by omega), n (23 + 13 * i + 10) (by omega), n (23 + 13 * i + 11) (by omega), n (23 + 13 * i + 12) (by omega), va_up_self]
    exact ⟨h.1, h.2.1, h.2.2.1, ⟨by omega, h.2.2.2.1.2⟩, h.2.2.2.2.1, h.2.2.2.2.2⟩
/-- an HOUR, ship by ship -/
def pPass (N : Nat → Nat) (b side : Nat) : Nat → Nat → Nat
  | 0 => N
  | k + 1 => if pPass N b side k (23 + 13 * k + 7) = 0 ∧ pHo (pPass N b side k) k (pPass N b side k (23 + 13 * k + 2)) b = false then pDrag (pPass N b side k) k side else pPass N b side k
def pStr (N : Nat → Nat) (b side : Nat) : Nat → Nat
  | 0 => 0
  | k + 1 => pStr N b side k + (if (pPass N b side k (23 + 13 * k + 7) = 0 ∧ pHo (pPass N b side k) k (pPass N b side k (23 + 13 * k + 2)) b = false) ∧ pStay (pPass N b side k) k side = false then 1 else 0)
theorem pPass_hd (N : Nat → Nat) (b side : Nat) : ∀ k j, j < 23 → pPass N b side k j = N j
  | 0, _, _ => rfl
  | k + 1, j, hj => by
    rw [pPass]
    split
    · rw [pDrag_off _ _ _ (by omega)]; exact pPass_hd N b side k j hj
    · exact pPass_hd N b side k j hj
theorem nOk_pass {N : Nat → Nat} (hN : nOk N) (b : Nat) {side : Nat} (hs : side ≤ 3) : ∀ k, k ≤ N 1 → nOk (pPass N b side k)
  | 0, _ => hN
  | k + 1, hk => by
    have h := nOk_pass hN b hs k (by omega)
    rw [pPass]
    split
    · exact nOk_drag h (by rw [pPass_hd N b side k 1 (by omega)]; omega) hs
    · exact h
theorem pStr_le (N : Nat → Nat) (b side : Nat) : ∀ k, pStr N b side k ≤ k
  | 0 => Nat.le_refl _
  | k + 1 => by
    have := pStr_le N b side k
    rw [pStr]
    split <;> omega
def pHour (N : Nat → Nat) (b side : Nat) : Nat → Nat := va_up (pPass N b side (N 1)) 2 (N 2 + 1)
theorem pHour_hd (N : Nat → Nat) (b side : Nat) {j : Nat} (hj : j < 23) (h2 : j ≠ 2) : pHour N b side j = N j := by
  unfold pHour
  rw [va_up_ne _ _ h2, pPass_hd N b side _ j hj]
theorem nOk_2 {N : Nat → Nat} (hN : nOk N) {x : Nat} (hx : x ≤ 999) : nOk (va_up N 2 x) := by
  have n : ∀ k, k ≠ 2 → va_up N 2 x k = N k := fun k hk => va_up_ne _ _ hk
  have h := hN.1
  refine ⟨by rw [n 0 (by omega), n 1 (by omega), va_up_self]; omega, fun k q => ?_, fun t ht => ?_⟩
  · rw [n 0 (by omega)] at q
    rw [n (3 + k) (by omega)]
    exact hN.2.1 k q
  · rw [n 1 (by omega)] at ht
    exact nSh_same (n 0 (by omega)) (fun f hf => n _ (by omega)) (hN.2.2 t ht)
theorem nOk_hour {N : Nat → Nat} (hN : nOk N) (b : Nat) {side : Nat} (hs : side ≤ 3) (h : N 2 + 1 ≤ 999) : nOk (pHour N b side) := nOk_2 (nOk_pass hN b hs _ (Nat.le_refl _)) h
theorem rBay_2 {σ : Nat → Nat → Int32} {N : Nat → Nat} (h : rBay σ N) (x : Nat) : rBay (va_up σ 11 (upd (σ 11) 5 (nI x))) (va_up N 2 x) := by
  have n : ∀ k, k ≠ 2 → va_up N 2 x k = N k := fun k hk => va_up_ne _ _ hk
  have m : ∀ k j, k ≠ 11 → va_up σ 11 (upd (σ 11) 5 (nI x)) k j = σ k j := fun k j hk => by rw [va_up_ne _ _ hk]
  refine ⟨⟨?_, ?_, ?_⟩, fun k q => ?_, fun t ht => ?_⟩
  · rw [n 0 (by omega)]; exact h.1.1
  · rw [n 1 (by omega)]; exact h.1.2.1
  · rw [va_up_self]; rfl
  · rw [n 0 (by omega)] at q
    rw [n (3 + k) (by omega), m 12 k (by decide)]
    exact h.2.1 k q
  · rw [n 1 (by omega)] at ht
    have hr := rS_same (τ := va_up σ 11 (upd (σ 11) 5 (nI x))) (h.2.2 t ht) (fun j _ _ => m _ j (by omega)) (fun j => m _ j (by omega)) (fun j => m _ j (by omega))
    refine ⟨fun f hf => ?_, fun hm f hf => ?_⟩
    · rw [n _ (by omega)]; exact hr.1 f hf
    · rw [n _ (by omega)] at hm
      rw [n _ (by omega)]; exact hr.2 hm f hf
/-- counts -/
def pCH (N : Nat → Nat) (b : Nat) : Nat → Nat
  | 0 => 0
  | k + 1 => pCH N b k + (if N (23 + 13 * k + 7) = 0 ∧ pHo N k (N (23 + 13 * k + 2)) b = true then 1 else 0)
def pS (N : Nat → Nat) (b i : Nat) : Nat := pSw N i (N (23 + 13 * i + 2)) b
def pMr (N : Nat → Nat) (b i : Nat) : Nat → Nat
  | 0 => 0
  | k + 1 => pMr N b i k + (if i < k ∧ pClr N i k (pS N b i) (pS N b k) = false then 1 else 0)
def pMt (N : Nat → Nat) (b : Nat) : Nat → Nat
  | 0 => 0
  | k + 1 => pMt N b k + pMr N b k (N 1)
def pSum (f : Nat → Nat) : Nat → Nat
  | 0 => 0
  | k + 1 => pSum f k + f k
theorem pCH_le (N : Nat → Nat) (b : Nat) : ∀ k, pCH N b k ≤ k
  | 0 => Nat.le_refl _
  | k + 1 => by
    have := pCH_le N b k
    rw [pCH]
    split <;> omega
theorem pMr_le (N : Nat → Nat) (b i : Nat) : ∀ k, pMr N b i k ≤ k
  | 0 => Nat.le_refl _
  | k + 1 => by
    have := pMr_le N b i k
    rw [pMr]
    split <;> omega
/-- nothing is counted up to i itself -/
theorem pMr_0 (N : Nat → Nat) (b i : Nat) : ∀ k, k ≤ i + 1 → pMr N b i k = 0
  | 0, _ => rfl
  | k + 1, h => by rw [pMr, pMr_0 N b i k (by omega), if_neg (fun q => absurd q.1 (by omega))]
end
section
theorem km1_toInt {x : Nat} (h : x < 2 ^ 31) : (nI x + (-1)).toInt = (x : Int) - 1 := by
  cases x with
  | zero => decide
  | succ x => rw [pk_m1, nI_toInt (by omega)]; omega
theorem kz1 {n : Nat} (h : n ≤ 1) : nI n = nI 0 ∨ nI n = nI 1 := by
  rcases (show n = 0 ∨ n = 1 by omega) with rfl | rfl
  · exact Or.inl rfl
  · exact Or.inr rfl
theorem k_inj {n : Nat} {ad : Nat → Nat} {kc : Nat → (Nat → Int32) → va_E} {D : va_G} {A : Nat → Prop} {H0 H : Heap} {σ : Nat → Nat → Int32} {locs : List Loc} (I : kI n ad kc D A H0 σ H locs) {k j : Nat} (hk : k < n) (hj : j < n) (h : ad k = ad j) : k = j := I.2.1.1 k j _ _ (kW_at hk) (kW_at hj) h
/-- a swing is measured: what else stays -/
theorem sw_set {σ υ τ : Nat → Nat → Int32} {i : Nat} {x : Int32} (hi : i < 5) (hq : q14 σ υ) (hs : τ = va_up υ (15 + 3 * i) (upd (υ (15 + 3 * i)) 9 x)) : qc σ τ ∧ τ (15 + 3 * i) 9 = x ∧ ∀ u, u ≠ i → τ (15 + 3 * u) 9 = σ (15 + 3 * u) 9 := by
  subst hs
  refine ⟨fun k j h1 h2 => ?_, ?_, fun u hu => ?_⟩
  · by_cases e : k = 15 + 3 * i
    · subst e
      rw [va_up_self]
      have : j ≠ 9 := fun z => h2 (by omega)
      simp only [upd, if_neg this]
      exact q14_at hq (by omega) j
    · rw [va_up_ne _ _ e]
      exact q14_at hq h1 j
  · rw [va_up_self]; rfl
  · rw [va_up_ne _ _ (by omega)]
    exact q14_at hq (by omega) 9
/-- one ship's cells become others: by their places -/
theorem rBay_pt {σ τ : Nat → Nat → Int32} {N M : Nat → Nat} {i : Nat} (h : rBay σ N) (hN : nOk N) (hi : i < N 1) (hk : ∀ k, k < 23 + 13 * i ∨ 23 + 13 * i + 12 < k → M k = N k) (hout : ∀ k, k ≠ 15 + 3 * i → k ≠ 16 + 3 * i → k ≠ 17 + 3 * i → τ k = σ k)
    (f0 : τ (16 + 3 * i) 0 = nI (M (23 + 13 * i))) (f1 : τ (16 + 3 * i) 1 = nI (M (23 + 13 * i + 1))) (f2 : τ (16 + 3 * i) 2 = nI (M (23 + 13 * i + 2))) (s5 : τ (15 + 3 * i) 5 = nI (M (23 + 13 * i + 3))) (s6 : τ (15 + 3 * i) 6 = nI (M (23 + 13 * i + 4))) (s7 : τ (15 + 3 * i) 7 = nI (M (23 + 13 * i + 5))) (s8 : τ (15 + 3 * i) 8 = nI (M (23 + 13 * i + 6))) (s3 : τ (15 + 3 * i) 3 = nI (M (23 + 13 * i + 7))) (s4 : τ (15 + 3 * i) 4 = nI (M (23 + 13 * i + 8))) (s2 : τ (15 + 3 * i) 2 = nI (M (23 + 13 * i + 9)))
    (g : M (23 + 13 * i + 9) = 1 → τ (17 + 3 * i) 0 = nI (M (23 + 13 * i + 10)) ∧ τ (17 + 3 * i) 1 = nI (M (23 + 13 * i + 11)) ∧ τ (17 + 3 * i) 2 = nI (M (23 + 13 * i + 12))) : rBay τ M ∧ fB σ τ := by
  have h5 := hN.1
  refine ⟨rBay_ship h h5.2.2.2.1 h5.2.1 hk (fun k j _ a b c _ _ _ => by rw [hout k a b c]) ⟨fun f hf => ?_, fun hm f hf => ?_⟩ hi, fun k j q => by rw [hout k (by omega) (by omega) (by omega)]⟩
  · match f, hf with
    | 0, _ => exact f0
    | 1, _ => exact f1
    | 2, _ => exact f2
    | 3, _ => exact s5
    | 4, _ => exact s6
    | 5, _ => exact s7
    | 6, _ => exact s8
    | 7, _ => exact s3
    | 8, _ => exact s4
    | 9, _ => exact s2
  · match f, hf with
    | 0, _ => exact (g hm).1
    | 1, _ => exact (g hm).2.1
    | 2, _ => exact (g hm).2.2
end
section
/-! THE BAY: all ships -/
set_option maxHeartbeats 4000000 in
set_option maxRecDepth 100000 in
theorem c_X0_put (cy : Nat → ClassId) (D : va_G) (ad : Nat → Nat) (l : Launch) (σ : Nat → Nat → Int32) (i : Nat) (H_i : i < 5) (a b x : Int32) : kMv 38 ad (kcC cy ad) cy D l yX0_put wsX0_put ({ frames := 0, cells := 0, slots := 0, locals := 0 }) [.ref (ad (16 + 3 * i)), .int a, .int b, .int x] σ (fun σ' => σ' = va_up σ (16 + 3 * i) (upd (upd (upd (σ (16 + 3 * i)) 0 a) 1 b) 2 x)) := by
  refine k_entry (cc := cX0_put) (maxL := 4) (ret := none) (by decide) rfl (Nat.le_of_ble_eq_true rfl) ?_
  intro p e s m below meth c hx hb hr hml hown hts hlk E I ls hl
  have hA : ∀ q, s.heap.size ≤ q → kA 38 ad s.heap.size q := fun q h => Or.inr h
  have hown : s.vm.findClass RX0 = some m.cls := hown
  have hl : lv_has ls 4 [(0, .ref (ad (16 + 3 * i))), (1, .int a), (2, .int b), (3, .int x)] := hl
  have iX0 : ∀ w ∈ u_ws RX0 TX0 3, w ∈ wsX0_put := fun w h => List.mem_cons_of_mem _ (List.mem_append_right _ h)
  refine lv_aload_n hx hb dX0_put_0 rfl (lv_at hl 0 rfl) ?_
  refine lv_iload_n hx hb dX0_put_1 rfl (lv_at hl 1 rfl) ?_
  refine k_put (C := RX0) (T := TX0) (N := 3) (ty0 := tyX0) (ty := .int) (v := .int a) hx hb hts hown E I iX0 tyX0_ok nmX0 (16 + 3 * i) (by omega) (r0 := σ (16 + 3 * i)) rfl (kc_F H_i) rfl 0 (by decide) (List.mem_of_getElem? (i := 1) rfl) rfl rfl rfl rfl (Nat.le_of_ble_eq_true rfl) (upd (σ (16 + 3 * i)) 0 a) (kc_F (cy := cy) (ad := ad) (r := (upd (σ (16 + 3 * i)) 0 a)) H_i).symm (σ2 := va_up σ (16 + 3 * i) (upd (σ (16 + 3 * i)) 0 a)) rfl dX0_put_2 (fun H locs I => ?_)
  refine lv_aload_n hx hb dX0_put_5 rfl (lv_at hl 0 rfl) ?_
  refine lv_iload_n hx hb dX0_put_6 rfl (lv_at hl 2 rfl) ?_
  refine k_put (C := RX0) (T := TX0) (N := 3) (ty0 := tyX0) (ty := .int) (v := .int b) hx hb hts hown E I iX0 tyX0_ok nmX0 (16 + 3 * i) (by omega) (r0 := (upd (σ (16 + 3 * i)) 0 a)) (by rw [va_up_self]) (kc_F H_i) rfl 1 (by decide) (List.mem_of_getElem? (i := 2) rfl) rfl rfl rfl rfl (Nat.le_of_ble_eq_true rfl) (upd (upd (σ (16 + 3 * i)) 0 a) 1 b) (kc_F (cy := cy) (ad := ad) (r := (upd (upd (σ (16 + 3 * i)) 0 a) 1 b)) H_i).symm (σ2 := va_up σ (16 + 3 * i) (upd (upd (σ (16 + 3 * i)) 0 a) 1 b)) (bx_uu _ _ _ _) dX0_put_7 (fun H locs I => ?_)
  refine lv_aload_n hx hb dX0_put_10 rfl (lv_at hl 0 rfl) ?_
  refine lv_iload_n hx hb dX0_put_11 rfl (lv_at hl 3 rfl) ?_
  refine k_put (C := RX0) (T := TX0) (N := 3) (ty0 := tyX0) (ty := .int) (v := .int x) hx hb hts hown E I iX0 tyX0_ok nmX0 (16 + 3 * i) (by omega) (r0 := (upd (upd (σ (16 + 3 * i)) 0 a) 1 b)) (by rw [va_up_self]) (kc_F H_i) rfl 2 (by decide) (List.mem_of_getElem? (i := 3) rfl) rfl rfl rfl rfl (Nat.le_of_ble_eq_true rfl) (upd (upd (upd (σ (16 + 3 * i)) 0 a) 1 b) 2 x) (kc_F (cy := cy) (ad := ad) (r := (upd (upd (upd (σ (16 + 3 * i)) 0 a) 1 b) 2 x)) H_i).symm (σ2 := va_up σ (16 + 3 * i) (upd (upd (upd (σ (16 + 3 * i)) 0 a) 1 b) 2 x)) (bx_uu _ _ _ _) dX0_put_12 (fun H locs I => ?_)
  exact k_vret hx hb hr hlk I dX0_put_15 (rfl)
set_option maxHeartbeats 4000000 in
set_option maxRecDepth 100000 in
theorem c_X0_put2 (cy : Nat → ClassId) (D : va_G) (ad : Nat → Nat) (l : Launch) (σ : Nat → Nat → Int32) (i : Nat) (H_i : i < 5) (a b x : Int32) : kMv 38 ad (kcC cy ad) cy D l yX0_put wsX0_put ({ frames := 0, cells := 0, slots := 0, locals := 0 }) [.ref (ad (17 + 3 * i)), .int a, .int b, .int x] σ (fun σ' => σ' = va_up σ (17 + 3 * i) (upd (upd (upd (σ (17 + 3 * i)) 0 a) 1 b) 2 x)) := by
  refine k_entry (cc := cX0_put) (maxL := 4) (ret := none) (by decide) rfl (Nat.le_of_ble_eq_true rfl) ?_
  intro p e s m below meth c hx hb hr hml hown hts hlk E I ls hl
  have hA : ∀ q, s.heap.size ≤ q → kA 38 ad s.heap.size q := fun q h => Or.inr h
  have hown : s.vm.findClass RX0 = some m.cls := hown
  have hl : lv_has ls 4 [(0, .ref (ad (17 + 3 * i))), (1, .int a), (2, .int b), (3, .int x)] := hl
  have iX0 : ∀ w ∈ u_ws RX0 TX0 3, w ∈ wsX0_put := fun w h => List.mem_cons_of_mem _ (List.mem_append_right _ h)
  refine lv_aload_n hx hb dX0_put_0 rfl (lv_at hl 0 rfl) ?_
  refine lv_iload_n hx hb dX0_put_1 rfl (lv_at hl 1 rfl) ?_
  refine k_put (C := RX0) (T := TX0) (N := 3) (ty0 := tyX0) (ty := .int) (v := .int a) hx hb hts hown E I iX0 tyX0_ok nmX0 (17 + 3 * i) (by omega) (r0 := σ (17 + 3 * i)) rfl (kc_G H_i) rfl 0 (by decide) (List.mem_of_getElem? (i := 1) rfl) rfl rfl rfl rfl (Nat.le_of_ble_eq_true rfl) (upd (σ (17 + 3 * i)) 0 a) (kc_G (cy := cy) (ad := ad) (r := (upd (σ (17 + 3 * i)) 0 a)) H_i).symm (σ2 := va_up σ (17 + 3 * i) (upd (σ (17 + 3 * i)) 0 a)) rfl dX0_put_2 (fun H locs I => ?_)
  refine lv_aload_n hx hb dX0_put_5 rfl (lv_at hl 0 rfl) ?_
  refine lv_iload_n hx hb dX0_put_6 rfl (lv_at hl 2 rfl) ?_
  refine k_put (C := RX0) (T := TX0) (N := 3) (ty0 := tyX0) (ty := .int) (v := .int b) hx hb hts hown E I iX0 tyX0_ok nmX0 (17 + 3 * i) (by omega) (r0 := (upd (σ (17 + 3 * i)) 0 a)) (by rw [va_up_self]) (kc_G H_i) rfl 1 (by decide) (List.mem_of_getElem? (i := 2) rfl) rfl rfl rfl rfl (Nat.le_of_ble_eq_true rfl) (upd (upd (σ (17 + 3 * i)) 0 a) 1 b) (kc_G (cy := cy) (ad := ad) (r := (upd (upd (σ (17 + 3 * i)) 0 a) 1 b)) H_i).symm (σ2 := va_up σ (17 + 3 * i) (upd (upd (σ (17 + 3 * i)) 0 a) 1 b)) (bx_uu _ _ _ _) dX0_put_7 (fun H locs I => ?_)
  refine lv_aload_n hx hb dX0_put_10 rfl (lv_at hl 0 rfl) ?_
  refine lv_iload_n hx hb dX0_put_11 rfl (lv_at hl 3 rfl) ?_
  refine k_put (C := RX0) (T := TX0) (N := 3) (ty0 := tyX0) (ty := .int) (v := .int x) hx hb hts hown E I iX0 tyX0_ok nmX0 (17 + 3 * i) (by omega) (r0 := (upd (upd (σ (17 + 3 * i)) 0 a) 1 b)) (by rw [va_up_self]) (kc_G H_i) rfl 2 (by decide) (List.mem_of_getElem? (i := 3) rfl) rfl rfl rfl rfl (Nat.le_of_ble_eq_true rfl) (upd (upd (upd (σ (17 + 3 * i)) 0 a) 1 b) 2 x) (kc_G (cy := cy) (ad := ad) (r := (upd (upd (upd (σ (17 + 3 * i)) 0 a) 1 b) 2 x)) H_i).symm (σ2 := va_up σ (17 + 3 * i) (upd (upd (upd (σ (17 + 3 * i)) 0 a) 1 b) 2 x)) (bx_uu _ _ _ _) dX0_put_12 (fun H locs I => ?_)
  exact k_vret hx hb hr hlk I dX0_put_15 (rfl)
set_option maxHeartbeats 4000000 in
set_option maxRecDepth 100000 in
theorem c_X1_isCell (cy : Nat → ClassId) (D : va_G) (ad : Nat → Nat) (l : Launch) (σ : Nat → Nat → Int32) (x y : Int32) (C : Nat) (hC1 : 1 ≤ C) (hC : C ≤ 20) (ec : σ 11 3 = nI C) : kMi 38 ad (kcC cy ad) cy D l yX1_isCell wsX1_isCell ({ frames := 1, cells := 0, slots := 0, locals := 22 }) [.ref (ad 11), .int x, .int y] σ (fun r σ' => kT r (0 ≤ x.toInt ∧ x.toInt < C ∧ 0 ≤ y.toInt ∧ y.toInt < 20) ∧ σ = σ') := by
  refine k_entry (cc := cX1_isCell) (maxL := 3) (ret := (some .boolean)) (by decide) rfl (Nat.le_of_ble_eq_true rfl) ?_
  intro p e s m below meth c hx hb hr hml hown hts hlk E I ls hl
  have hA : ∀ q, s.heap.size ≤ q → kA 38 ad s.heap.size q := fun q h => Or.inr h
  have hown : s.vm.findClass RX1 = some m.cls := hown
  have hl : lv_has ls 3 [(0, .ref (ad 11)), (1, .int x), (2, .int y)] := hl
  have iX1 : ∀ w ∈ u_ws RX1 TX1 6, w ∈ wsX1_isCell := fun w h => List.mem_cons_of_mem _ (List.mem_append_right _ h)
  refine lv_iload_n hx hb dX1_isCell_0 rfl (lv_at hl 1 rfl) ?_
  refine lv_iconst (v := nI 0) hx hb dX1_isCell_1 (by decide) ?_
  refine lv_aload_n hx hb dX1_isCell_2 rfl (lv_at hl 0 rfl) ?_
  refine k_get (C := RX1) (T := TX1) (N := 6) (v := .int (nI C)) hx hb hts hown E I iX1 (11) (by decide) (r0 := σ 11) rfl kc_11 rfl 3 (by decide) (List.mem_of_getElem? (i := 1) rfl) (congrArg (fun z => some (Value.int z)) ec) dX1_isCell_3 ?_
  refine lv_iconst (v := nI 1) hx hb dX1_isCell_6 (by decide) ?_
  refine lv_isub hx hb dX1_isCell_7 ?_
  refine lv_topi (fun t_8 et_8 => ?_)
  have et_8 : t_8 = nI (C - 1) := et_8.trans (pk_sub hC1)
  subst et_8
  refine k_callsN (As := [.int x, .int (nI 0), .int (nI (C - 1))]) (rest := []) ⟨hx, hb, hml, hown, hts⟩ (c_X7_within l x (nI 0) (nI (C - 1))) ⟨va_cnB 3 hts gX1_isCell_X7_within_n59 rfl rfl rfl E.2.1.2.2.1 (hts _ (List.mem_of_getElem? (i := 3) rfl)) (by decide +kernel) ⟨Nat.le_of_ble_eq_true rfl, Nat.le_of_ble_eq_true rfl⟩, hts _ (List.mem_of_getElem? (i := 2) rfl), trivial⟩ rfl hl.1 rfl (lv_room (Nat.le_of_ble_eq_true rfl)) dX1_isCell_8 ⟨Nat.le_of_ble_eq_true rfl, Nat.le_of_ble_eq_true rfl⟩ (fun r_8 hp_8 => ?_)
  rw [nI_toInt (show 0 < 2 ^ 31 by decide), nI_toInt (show C - 1 < 2 ^ 31 by omega)] at hp_8
  rcases hp_8 with ⟨rfl, g1⟩ | ⟨rfl, g1⟩
  · refine lv_if_eq (tgt := 28) hx hb dX1_isCell_11 (by decide) (fun c_11 => ?_) (fun c_11 => ?_)
    · exact absurd c_11 (by decide)
    · refine lv_iload_n hx hb dX1_isCell_14 rfl (lv_at hl 2 rfl) ?_
      refine lv_iconst (v := nI 0) hx hb dX1_isCell_15 (by decide) ?_
      refine lv_bipush (v := nI 19) hx hb dX1_isCell_16 (by decide) ?_
      refine k_callsN (As := [.int y, .int (nI 0), .int (nI 19)]) (rest := []) ⟨hx, hb, hml, hown, hts⟩ (c_X7_within l y (nI 0) (nI 19)) ⟨va_cnB 3 hts gX1_isCell_X7_within_n59 rfl rfl rfl E.2.1.2.2.1 (hts _ (List.mem_of_getElem? (i := 3) rfl)) (by decide +kernel) ⟨Nat.le_of_ble_eq_true rfl, Nat.le_of_ble_eq_true rfl⟩, hts _ (List.mem_of_getElem? (i := 2) rfl), trivial⟩ rfl hl.1 rfl (lv_room (Nat.le_of_ble_eq_true rfl)) dX1_isCell_18 ⟨Nat.le_of_ble_eq_true rfl, Nat.le_of_ble_eq_true rfl⟩ (fun r_18 hp_18 => ?_)
      rw [nI_toInt (show 0 < 2 ^ 31 by decide), nI_toInt (show 19 < 2 ^ 31 by decide)] at hp_18
      rcases hp_18 with ⟨rfl, g2⟩ | ⟨rfl, g2⟩
      · refine lv_if_eq (tgt := 28) hx hb dX1_isCell_21 (by decide) (fun c_21 => ?_) (fun c_21 => ?_)
        · exact absurd c_21 (by decide)
        · refine lv_iconst (v := nI 1) hx hb dX1_isCell_24 (by decide) ?_
          refine lv_goto (tgt := 29) hx hb dX1_isCell_25 (by decide) ?_
          exact k_zret hx hb hr (by decide) hlk I dX1_isCell_29 (⟨by first | exact kT_1 (by omega) | exact kT_0 (by omega), rfl⟩)
      · refine lv_if_eq (tgt := 28) hx hb dX1_isCell_21 (by decide) (fun c_21 => ?_) (fun c_21 => ?_)
        · refine lv_iconst (v := nI 0) hx hb dX1_isCell_28 (by decide) ?_
          exact k_zret hx hb hr (by decide) hlk I dX1_isCell_29 (⟨by first | exact kT_1 (by omega) | exact kT_0 (by omega), rfl⟩)
        · exact absurd c_21 (by decide)
  · refine lv_if_eq (tgt := 28) hx hb dX1_isCell_11 (by decide) (fun c_11 => ?_) (fun c_11 => ?_)
    · refine lv_iconst (v := nI 0) hx hb dX1_isCell_28 (by decide) ?_
      exact k_zret hx hb hr (by decide) hlk I dX1_isCell_29 (⟨by first | exact kT_1 (by omega) | exact kT_0 (by omega), rfl⟩)
    · exact absurd c_11 (by decide)
set_option maxHeartbeats 4000000 in
set_option maxRecDepth 100000 in
theorem c_X1_shipAt (cy : Nat → ClassId) (D : va_G) (ad : Nat → Nat) (l : Launch) (σ : Nat → Nat → Int32) (x : Int32) (cnt : Nat) (hc5 : cnt ≤ 5) (ec : σ 11 4 = nI cnt) : kMq 38 ad (kcC cy ad) cy D l yX1_shipAt wsX1_shipAt ({ frames := 0, cells := 0, slots := 0, locals := 0 }) [.ref (ad 11), .int x] σ (fun r σ' => σ = σ' ∧ ((∃ i, i < cnt ∧ x = nI i ∧ r = some (ad (15 + 3 * i))) ∨ ((∀ i, i < cnt → x ≠ nI i) ∧ r = none))) := by
  refine k_entry (cc := cX1_shipAt) (maxL := 2) (ret := (some (.object "ChainLays$Ship"))) (by decide) rfl (Nat.le_of_ble_eq_true rfl) ?_
  intro p e s m below meth c hx hb hr hml hown hts hlk E I ls hl
  have hA : ∀ q, s.heap.size ≤ q → kA 38 ad s.heap.size q := fun q h => Or.inr h
  have hown : s.vm.findClass RX1 = some m.cls := hown
  have hl : lv_has ls 2 [(0, .ref (ad 11)), (1, .int x)] := hl
  have iX1 : ∀ w ∈ u_ws RX1 TX1 6, w ∈ wsX1_shipAt := fun w h => List.mem_cons_of_mem _ (List.mem_append_right _ h)
  refine lv_iload_n hx hb dX1_shipAt_0 rfl (lv_at hl 1 rfl) ?_
  refine lv_if_lt (tgt := 30) hx hb dX1_shipAt_1 (by decide) (fun c_1 => ?_) (fun c_1 => ?_)
  · refine lv_null hx hb dX1_shipAt_30 ?_
    exact k_nret hx hb hr (Or.inl ⟨_, rfl⟩) hlk I dX1_shipAt_31 (⟨rfl, by first | exact Or.inl ⟨i, hi, rfl, rfl⟩ | exact Or.inr ⟨fun i hi e_ => by subst e_; first | exact nI_pos (by omega) c_1 | exact absurd ((nI_leI (by omega) (by omega)).mp c_9) (by omega), rfl⟩⟩)
  · refine lv_iload_n hx hb dX1_shipAt_4 rfl (lv_at hl 1 rfl) ?_
    refine lv_aload_n hx hb dX1_shipAt_5 rfl (lv_at hl 0 rfl) ?_
    refine k_get (C := RX1) (T := TX1) (N := 6) (v := .int (nI cnt)) hx hb hts hown E I iX1 (11) (by decide) (r0 := σ 11) rfl kc_11 rfl 4 (by decide) (List.mem_of_getElem? (i := 1) rfl) (congrArg (fun z => some (Value.int z)) ec) dX1_shipAt_6 ?_
    refine lv_icmp_ge (tgt := 30) hx hb dX1_shipAt_9 (by decide) (fun c_9 => ?_) (fun c_9 => ?_)
    · refine lv_null hx hb dX1_shipAt_30 ?_
      exact k_nret hx hb hr (Or.inl ⟨_, rfl⟩) hlk I dX1_shipAt_31 (⟨rfl, by first | exact Or.inl ⟨i, hi, rfl, rfl⟩ | exact Or.inr ⟨fun i hi e_ => by subst e_; first | exact nI_pos (by omega) c_1 | exact absurd ((nI_leI (by omega) (by omega)).mp c_9) (by omega), rfl⟩⟩)
    · obtain ⟨i, hi, rfl⟩ : ∃ i, i < cnt ∧ x = nI i := by rcases pk_ix x (show cnt < 2 ^ 31 by omega) with q | q | q; (exact absurd q c_1); (exact absurd q c_9); exact q
      · have H_i : i < 5 := by omega
        refine lv_iload_n hx hb dX1_shipAt_12 rfl (lv_at hl 1 rfl) ?_
        refine lv_aload_n hx hb dX1_shipAt_13 rfl (lv_at hl 0 rfl) ?_
        refine k_get (C := RX1) (T := TX1) (N := 6) (v := .ref (ad 13)) hx hb hts hown E I iX1 (11) (by decide) (r0 := σ 11) rfl kc_11 rfl 1 (by decide) (List.mem_of_getElem? (i := 2) rfl) rfl dX1_shipAt_14 ?_
        refine k_alen (t0 := 2) hx hb E I (13) (by decide) kc_13 rfl dX1_shipAt_17 ?_
        refine lv_icmp_ge (tgt := 30) hx hb dX1_shipAt_18 (by decide) (fun c_18 => ?_) (fun c_18 => ?_)
        · have c_18 : 5 ≤ i := (nI_leI (by omega) (by omega)).mp c_18
          omega
        · have c_18 : ¬ (5 ≤ i) := fun q_ => c_18 ((nI_leI (by omega) (by omega)).mpr q_)
          refine lv_aload_n hx hb dX1_shipAt_21 rfl (lv_at hl 0 rfl) ?_
          refine k_get (C := RX1) (T := TX1) (N := 6) (v := .ref (ad 13)) hx hb hts hown E I iX1 (11) (by decide) (r0 := σ 11) rfl kc_11 rfl 1 (by decide) (List.mem_of_getElem? (i := 2) rfl) rfl dX1_shipAt_22 ?_
          refine lv_iload_n hx hb dX1_shipAt_25 rfl (lv_at hl 1 rfl) ?_
          refine k_aldS (a := ad (15 + 3 * i)) hx hb E I (13) (by decide) kc_13 (vp_in_nI (by omega) (by decide)) (by rw [nI_clamp (by omega)]; exact if_pos (by omega)) dX1_shipAt_26 ?_
          refine lv_goto (tgt := 31) hx hb dX1_shipAt_27 (by decide) ?_
          exact k_aret hx hb hr (Or.inl ⟨_, rfl⟩) hlk I dX1_shipAt_31 (⟨rfl, by first | exact Or.inl ⟨i, hi, rfl, rfl⟩ | exact Or.inr ⟨fun i hi e_ => by subst e_; first | exact nI_pos (by omega) c_1 | exact absurd ((nI_leI (by omega) (by omega)).mp c_9) (by omega), rfl⟩⟩)
set_option maxHeartbeats 4000000 in
set_option maxRecDepth 100000 in
theorem c_X1_measureSwings (cy : Nat → ClassId) (D : va_G) (ad : Nat → Nat) (l : Launch) (σ : Nat → Nat → Int32) (N : Nat → Nat) (hN : nOk N) (hB : rBay σ N) (b : Nat) (hb20 : b ≤ 20) : kMv 38 ad (kcC cy ad) cy D l yX1_measureSwings wsX1_measureSwings ({ frames := 5, cells := 0, slots := 0, locals := 114 }) [.ref (ad 11), .int (nI b)] σ (fun σ' => qc σ σ' ∧ ∀ t, t < N 1 → σ' (15 + 3 * t) 9 = nI (pS N b t)) := by
  refine k_entry (cc := cX1_measureSwings) (maxL := 3) (ret := none) (by decide) rfl (Nat.le_of_ble_eq_true rfl) ?_
  intro p e s m below meth c hx hb hr hml hown hts hlk E I ls hl
  have hA : ∀ q, s.heap.size ≤ q → kA 38 ad s.heap.size q := fun q h => Or.inr h
  have hown : s.vm.findClass RX1 = some m.cls := hown
  have hl : lv_has ls 3 [(0, .ref (ad 11)), (1, .int (nI b))] := hl
  have iX0 : ∀ w ∈ u_ws RX0 TX0 3, w ∈ wsX1_measureSwings := fun w h => List.mem_cons_of_mem _ (List.mem_append_left _ (List.mem_append_right _ h))
  have iX1 : ∀ w ∈ u_ws RX1 TX1 6, w ∈ wsX1_measureSwings := fun w h => List.mem_cons_of_mem _ (List.mem_append_left _ (List.mem_append_left _ (List.mem_append_left _ (List.mem_append_right _ h))))
  have iX6 : ∀ w ∈ u_ws RX6 TX6 10, w ∈ wsX1_measureSwings := fun w h => List.mem_cons_of_mem _ (List.mem_append_left _ (List.mem_append_left _ (List.mem_append_right _ h)))
  refine lv_iconst (v := nI 0) hx hb dX1_measureSwings_0 (by decide) ?_
  refine lv_istore_n (lv' := [(2, .int (nI 0)), (0, .ref (ad 11)), (1, .int (nI b))]) hx hb dX1_measureSwings_1 rfl hl (by decide) rfl (fun ls hl => ?_)
  have LP_2 : ∀ (fuel : Nat) (i : Nat) (τ : Nat → Nat → Int32), N 1 - i < fuel → (i ≤ N 1) → (qc σ τ) → (∀ t, t < i → τ (15 + 3 * t) 9 = nI (pS N b t)) → ∀ (H : Heap) (locs : List Loc), kI 38 ad (kcC cy ad) D (kA 38 ad s.heap.size) s.heap τ H locs → ∀ ls : Array Slot, lv_has ls 3 [(0, .ref (ad 11)), (1, .int (nI b)), (2, .int (nI i))] → W p l e (headSpec wsX1_measureSwings ({ frames := 5, cells := 0, slots := 0, locals := 114 })).room s m [.ref (ad 11), .int (nI b)].toArray below meth c H locs 0 0 (MQ below (va_Qv (fun σ' => qc σ σ' ∧ ∀ t, t < N 1 → σ' (15 + 3 * t) 9 = nI (pS N b t)) (kB 38 ad (kcC cy ad) D) (kA 38 ad s.heap.size)) [.ref (ad 11), .int (nI b)].toArray s 0 0 (kA 38 ad s.heap.size)) (F0 m 2 ls []) := by
    intro fuel
    induction fuel with
    | zero => intro i τ hf_; exact absurd hf_ (Nat.not_lt_zero _)
    | succ fuel ih =>
      intro i τ hf_ hin hq hsw H locs I ls hl
      have hB := rBay_qc hN.1.2.2.2.1 hB hq
      have h5 := hN.1
      refine lv_iload_n hx hb dX1_measureSwings_2 rfl (lv_at hl 2 rfl) ?_
      refine lv_aload_n hx hb dX1_measureSwings_3 rfl (lv_at hl 0 rfl) ?_
      refine k_get (C := RX1) (T := TX1) (N := 6) (v := .int (nI (N 1))) hx hb hts hown E I iX1 (11) (by decide) (r0 := τ 11) rfl kc_11 rfl 4 (by decide) (List.mem_of_getElem? (i := 1) rfl) (congrArg (fun z => some (Value.int z)) hB.1.2.1) dX1_measureSwings_4 ?_
      refine lv_icmp_ge (tgt := 39) hx hb dX1_measureSwings_7 (by decide) (fun c_7 => ?_) (fun c_7 => ?_)
      · have c_7 : (N 1) ≤ i := (nI_leI (by omega) (by omega)).mp c_7
        exact k_vret hx hb hr hlk I dX1_measureSwings_39 (⟨hq, fun t ht => hsw t (by omega)⟩)
      · have c_7 : ¬ ((N 1) ≤ i) := fun q_ => c_7 ((nI_leI (by omega) (by omega)).mpr q_)
        have hi : i < N 1 := by omega
        have H_i : i < 5 := by omega
        have hsh := hN.2.2 i hi
        unfold nSh at hsh
        refine lv_aload_n hx hb dX1_measureSwings_10 rfl (lv_at hl 0 rfl) ?_
        refine lv_aload_n hx hb dX1_measureSwings_11 rfl (lv_at hl 0 rfl) ?_
        refine k_get (C := RX1) (T := TX1) (N := 6) (v := .ref (ad 13)) hx hb hts hown E I iX1 (11) (by decide) (r0 := τ 11) rfl kc_11 rfl 1 (by decide) (List.mem_of_getElem? (i := 2) rfl) rfl dX1_measureSwings_12 ?_
        refine lv_iload_n hx hb dX1_measureSwings_15 rfl (lv_at hl 2 rfl) ?_
        refine k_aldS (a := ad (15 + 3 * i)) hx hb E I (13) (by decide) kc_13 (vp_in_nI (by omega) (by decide)) (by rw [nI_clamp (by omega)]; exact if_pos (by omega)) dX1_measureSwings_16 ?_
        refine lv_aload_n hx hb dX1_measureSwings_17 rfl (lv_at hl 0 rfl) ?_
        refine k_get (C := RX1) (T := TX1) (N := 6) (v := .ref (ad 13)) hx hb hts hown E I iX1 (11) (by decide) (r0 := τ 11) rfl kc_11 rfl 1 (by decide) (List.mem_of_getElem? (i := 2) rfl) rfl dX1_measureSwings_18 ?_
        refine lv_iload_n hx hb dX1_measureSwings_21 rfl (lv_at hl 2 rfl) ?_
        refine k_aldS (a := ad (15 + 3 * i)) hx hb E I (13) (by decide) kc_13 (vp_in_nI (by omega) (by decide)) (by rw [nI_clamp (by omega)]; exact if_pos (by omega)) dX1_measureSwings_22 ?_
        refine k_get (C := RX6) (T := TX6) (N := 10) (v := .ref (ad (16 + 3 * i))) hx hb hts hown E I iX6 (15 + 3 * i) (by omega) (r0 := τ (15 + 3 * i)) rfl (kc_S H_i) rfl 0 (by decide) (List.mem_of_getElem? (i := 3) rfl) rfl dX1_measureSwings_23 ?_
        refine k_get (C := RX0) (T := TX0) (N := 3) (v := .int (nI (N (23 + 13 * i + 2)))) hx hb hts hown E I iX0 (16 + 3 * i) (by omega) (r0 := τ (16 + 3 * i)) rfl (kc_F H_i) rfl 2 (by decide) (List.mem_of_getElem? (i := 4) rfl) (congrArg (fun z => some (Value.int z)) (rB_f hB hi 2 (by decide))) dX1_measureSwings_26 ?_
        refine lv_iload_n hx hb dX1_measureSwings_29 rfl (lv_at hl 1 rfl) ?_
        refine k_callv (k := 11) (As := [.ref (ad (15 + 3 * i)), .int (nI (N (23 + 13 * i + 2))), .int (nI b)]) (rest := []) ⟨hx, hb, hml, hown, hts⟩ (c_X1_measureSwing cy D ad l τ N hN i hi hB (N (23 + 13 * i + 2)) b hsh.1.2.2.2 hb20) (cwV 3 hts gX1_measureSwings_X1_measureSwing rfl rfl rfl (by decide +kernel) ⟨Nat.le_of_ble_eq_true rfl, Nat.le_of_ble_eq_true rfl⟩) E hA I (k_recv E I (by decide) kc_11 rfl) rfl hl.1 rfl (lv_room (Nat.le_of_ble_eq_true rfl)) dX1_measureSwings_30 ⟨Nat.le_of_ble_eq_true rfl, Nat.le_of_ble_eq_true rfl⟩ (fun σ_30 H locs hp_30 I => ?_)
        obtain ⟨υ, hq1, hs1⟩ := hp_30
        have hw := sw_set H_i hq1 hs1
        refine lv_iinc (v := nI (i + 1)) (lv' := [(2, .int (nI (i + 1))), (0, .ref (ad 11)), (1, .int (nI b))]) hx hb dX1_measureSwings_33 hl (k := 2) rfl (show nI i + Int32.ofInt 1 = nI (i + 1) from nI_add i 1) (by decide) rfl (fun ls hl => ?_)
        refine lv_goto (tgt := 2) hx hb dX1_measureSwings_36 (by decide) ?_
        exact ih (i + 1) σ_30 (by omega) (by omega) (qc_tr hq hw.1) (fun t ht => by by_cases e_ : t = i; (rw [e_]; exact hw.2.1); (rw [hw.2.2 t e_]; exact hsw t (by omega))) _ _ I _ (lv_sub hl [1, 2, 0] rfl)
  exact LP_2 _ 0 σ (Nat.lt_succ_self _) (Nat.zero_le _) (qc_rf σ) (fun t ht => absurd ht (Nat.not_lt_zero t)) _ _ I _ (lv_sub hl [1, 2, 0] rfl)
set_option maxHeartbeats 4000000 in
set_option maxRecDepth 100000 in
theorem c_X6_isClearOf (cy : Nat → ClassId) (D : va_G) (ad : Nat → Nat) (l : Launch) (σ : Nat → Nat → Int32) (N : Nat → Nat) (hN : nOk N) (i : Nat) (hi : i < N 1) (t : Nat) (ht : t < N 1) (hB : rBay σ N) (a x : Nat) (ha : a ≤ 1290) (hx9 : x ≤ 1290) (ea : σ (15 + 3 * i) 9 = nI a) (ex : σ (15 + 3 * t) 9 = nI x) : kMi 38 ad (kcC cy ad) cy D l yX6_isClearOf wsX6_isClearOf ({ frames := 0, cells := 0, slots := 0, locals := 0 }) [.ref (ad (15 + 3 * i)), .ref (ad (15 + 3 * t))] σ (fun r σ' => kT r (pClr N i t a x = true) ∧ σ = σ') := by
  have H_i : i < 5 := by have := hN.1; omega
  have hsh := hN.2.2 i hi
  unfold nSh at hsh
  have H_t : t < 5 := by have := hN.1; omega
  have hst := hN.2.2 t ht
  unfold nSh at hst
  have h5 := hN.1
  have hX : dd (N (23 + 13 * i)) (N (23 + 13 * t)) * dd (N (23 + 13 * i)) (N (23 + 13 * t)) ≤ 20 * 20 := dd_le (by omega) (by omega)
  have hY : dd (N (23 + 13 * i + 1)) (N (23 + 13 * t + 1)) * dd (N (23 + 13 * i + 1)) (N (23 + 13 * t + 1)) ≤ 20 * 20 := dd_le (by omega) (by omega)
  have hA9 : (a + x) * (a + x) ≤ 2580 * 2580 := sq_mono (by omega)
  refine k_entry (cc := cX6_isClearOf) (maxL := 5) (ret := (some .boolean)) (by decide) rfl (Nat.le_of_ble_eq_true rfl) ?_
  intro p e s m below meth c hx hb hr hml hown hts hlk E I ls hl
  have hA : ∀ q, s.heap.size ≤ q → kA 38 ad s.heap.size q := fun q h => Or.inr h
  have hown : s.vm.findClass RX6 = some m.cls := hown
  have hl : lv_has ls 5 [(0, .ref (ad (15 + 3 * i))), (1, .ref (ad (15 + 3 * t)))] := hl
  have iX0 : ∀ w ∈ u_ws RX0 TX0 3, w ∈ wsX6_isClearOf := fun w h => List.mem_cons_of_mem _ (List.mem_append_right _ h)
  have iX6 : ∀ w ∈ u_ws RX6 TX6 10, w ∈ wsX6_isClearOf := fun w h => List.mem_cons_of_mem _ (List.mem_append_left _ (List.mem_append_right _ h))
  refine lv_aload_n hx hb dX6_isClearOf_0 rfl (lv_at hl 0 rfl) ?_
  refine k_get (C := RX6) (T := TX6) (N := 10) (v := .int (nI (N (23 + 13 * i + 7)))) hx hb hts hown E I iX6 (15 + 3 * i) (by omega) (r0 := σ (15 + 3 * i)) rfl (kc_S H_i) rfl 3 (by decide) (List.mem_of_getElem? (i := 1) rfl) (congrArg (fun z => some (Value.int z)) (rB_f hB hi 7 (by decide))) dX6_isClearOf_1 ?_
  refine lv_if_ne (tgt := 14) hx hb dX6_isClearOf_4 (by decide) (fun c_4 => ?_) (fun c_4 => ?_)
  · have c_4 : ¬ ((N (23 + 13 * i + 7)) = 0) := fun q_ => c_4 ((nI_eq (by omega) (by decide)).mpr q_)
    refine lv_iconst (v := nI 1) hx hb dX6_isClearOf_14 (by decide) ?_
    exact k_zret hx hb hr (by decide) hlk I dX6_isClearOf_15 (⟨kT_1 (by unfold pClr; simp; omega), rfl⟩)
  · have c_4 : (N (23 + 13 * i + 7)) = 0 := (nI_eq (by omega) (by decide)).mp c_4
    refine lv_aload_n hx hb dX6_isClearOf_7 rfl (lv_at hl 1 rfl) ?_
    refine k_get (C := RX6) (T := TX6) (N := 10) (v := .int (nI (N (23 + 13 * t + 7)))) hx hb hts hown E I iX6 (15 + 3 * t) (by omega) (r0 := σ (15 + 3 * t)) rfl (kc_S H_t) rfl 3 (by decide) (List.mem_of_getElem? (i := 1) rfl) (congrArg (fun z => some (Value.int z)) (rB_f hB ht 7 (by decide))) dX6_isClearOf_8 ?_
    refine lv_if_eq (tgt := 16) hx hb dX6_isClearOf_11 (by decide) (fun c_11 => ?_) (fun c_11 => ?_)
    · have c_11 : (N (23 + 13 * t + 7)) = 0 := (nI_eq (by omega) (by decide)).mp c_11
      refine lv_bipush (v := nI 10) hx hb dX6_isClearOf_16 (by decide) ?_
      refine lv_aload_n hx hb dX6_isClearOf_18 rfl (lv_at hl 0 rfl) ?_
      refine k_get (C := RX6) (T := TX6) (N := 10) (v := .ref (ad (16 + 3 * i))) hx hb hts hown E I iX6 (15 + 3 * i) (by omega) (r0 := σ (15 + 3 * i)) rfl (kc_S H_i) rfl 0 (by decide) (List.mem_of_getElem? (i := 2) rfl) rfl dX6_isClearOf_19 ?_
      refine k_get (C := RX0) (T := TX0) (N := 3) (v := .int (nI (N (23 + 13 * i)))) hx hb hts hown E I iX0 (16 + 3 * i) (by omega) (r0 := σ (16 + 3 * i)) rfl (kc_F H_i) rfl 0 (by decide) (List.mem_of_getElem? (i := 3) rfl) (congrArg (fun z => some (Value.int z)) (rB_f hB hi 0 (by decide))) dX6_isClearOf_22 ?_
      refine lv_aload_n hx hb dX6_isClearOf_25 rfl (lv_at hl 1 rfl) ?_
      refine k_get (C := RX6) (T := TX6) (N := 10) (v := .ref (ad (16 + 3 * t))) hx hb hts hown E I iX6 (15 + 3 * t) (by omega) (r0 := σ (15 + 3 * t)) rfl (kc_S H_t) rfl 0 (by decide) (List.mem_of_getElem? (i := 2) rfl) rfl dX6_isClearOf_26 ?_
      refine k_get (C := RX0) (T := TX0) (N := 3) (v := .int (nI (N (23 + 13 * t)))) hx hb hts hown E I iX0 (16 + 3 * t) (by omega) (r0 := σ (16 + 3 * t)) rfl (kc_F H_t) rfl 0 (by decide) (List.mem_of_getElem? (i := 3) rfl) (congrArg (fun z => some (Value.int z)) (rB_f hB ht 0 (by decide))) dX6_isClearOf_29 ?_
      refine lv_isub hx hb dX6_isClearOf_32 ?_
      refine lv_imul hx hb dX6_isClearOf_33 ?_
      refine lv_istore_n (lv' := [(2, .int ((nI 10) * ((nI (N (23 + 13 * i))) - (nI (N (23 + 13 * t)))))), (0, .ref (ad (15 + 3 * i))), (1, .ref (ad (15 + 3 * t)))]) hx hb dX6_isClearOf_34 rfl hl (by decide) rfl (fun ls hl => ?_)
      refine lv_bipush (v := nI 10) hx hb dX6_isClearOf_35 (by decide) ?_
      refine lv_aload_n hx hb dX6_isClearOf_37 rfl (lv_at hl 1 rfl) ?_
      refine k_get (C := RX6) (T := TX6) (N := 10) (v := .ref (ad (16 + 3 * i))) hx hb hts hown E I iX6 (15 + 3 * i) (by omega) (r0 := σ (15 + 3 * i)) rfl (kc_S H_i) rfl 0 (by decide) (List.mem_of_getElem? (i := 2) rfl) rfl dX6_isClearOf_38 ?_
      refine k_get (C := RX0) (T := TX0) (N := 3) (v := .int (nI (N (23 + 13 * i + 1)))) hx hb hts hown E I iX0 (16 + 3 * i) (by omega) (r0 := σ (16 + 3 * i)) rfl (kc_F H_i) rfl 1 (by decide) (List.mem_of_getElem? (i := 4) rfl) (congrArg (fun z => some (Value.int z)) (rB_f hB hi 1 (by decide))) dX6_isClearOf_41 ?_
      refine lv_aload_n hx hb dX6_isClearOf_44 rfl (lv_at hl 2 rfl) ?_
      refine k_get (C := RX6) (T := TX6) (N := 10) (v := .ref (ad (16 + 3 * t))) hx hb hts hown E I iX6 (15 + 3 * t) (by omega) (r0 := σ (15 + 3 * t)) rfl (kc_S H_t) rfl 0 (by decide) (List.mem_of_getElem? (i := 2) rfl) rfl dX6_isClearOf_45 ?_
      refine k_get (C := RX0) (T := TX0) (N := 3) (v := .int (nI (N (23 + 13 * t + 1)))) hx hb hts hown E I iX0 (16 + 3 * t) (by omega) (r0 := σ (16 + 3 * t)) rfl (kc_F H_t) rfl 1 (by decide) (List.mem_of_getElem? (i := 4) rfl) (congrArg (fun z => some (Value.int z)) (rB_f hB ht 1 (by decide))) dX6_isClearOf_48 ?_
      refine lv_isub hx hb dX6_isClearOf_51 ?_
      refine lv_imul hx hb dX6_isClearOf_52 ?_
      refine lv_istore_n (lv' := [(3, .int ((nI 10) * ((nI (N (23 + 13 * i + 1))) - (nI (N (23 + 13 * t + 1)))))), (2, .int ((nI 10) * ((nI (N (23 + 13 * i))) - (nI (N (23 + 13 * t)))))), (0, .ref (ad (15 + 3 * i))), (1, .ref (ad (15 + 3 * t)))]) hx hb dX6_isClearOf_53 rfl hl (by decide) rfl (fun ls hl => ?_)
      refine lv_aload_n hx hb dX6_isClearOf_54 rfl (lv_at hl 2 rfl) ?_
      refine k_get (C := RX6) (T := TX6) (N := 10) (v := .int (nI a)) hx hb hts hown E I iX6 (15 + 3 * i) (by omega) (r0 := σ (15 + 3 * i)) rfl (kc_S H_i) rfl 9 (by decide) (List.mem_of_getElem? (i := 5) rfl) (congrArg (fun z => some (Value.int z)) ea) dX6_isClearOf_55 ?_
      refine lv_aload_n hx hb dX6_isClearOf_58 rfl (lv_at hl 3 rfl) ?_
      refine k_get (C := RX6) (T := TX6) (N := 10) (v := .int (nI x)) hx hb hts hown E I iX6 (15 + 3 * t) (by omega) (r0 := σ (15 + 3 * t)) rfl (kc_S H_t) rfl 9 (by decide) (List.mem_of_getElem? (i := 5) rfl) (congrArg (fun z => some (Value.int z)) ex) dX6_isClearOf_59 ?_
      refine lv_iadd hx hb dX6_isClearOf_62 ?_
      rw [nI_add]
      refine lv_istore (lv' := [(4, .int (nI (a + x))), (3, .int ((nI 10) * ((nI (N (23 + 13 * i + 1))) - (nI (N (23 + 13 * t + 1)))))), (2, .int ((nI 10) * ((nI (N (23 + 13 * i))) - (nI (N (23 + 13 * t)))))), (0, .ref (ad (15 + 3 * i))), (1, .ref (ad (15 + 3 * t)))]) hx hb dX6_isClearOf_63 hl (by decide) rfl (fun ls hl => ?_)
      refine lv_iload_n hx hb dX6_isClearOf_65 rfl (lv_at hl 2 rfl) ?_
      refine lv_iload_n hx hb dX6_isClearOf_66 rfl (lv_at hl 2 rfl) ?_
      refine lv_imul hx hb dX6_isClearOf_67 ?_
      refine lv_topi (fun t_68 et_68 => ?_)
      have et_68 : t_68 = nI (100 * (dd (N (23 + 13 * i)) (N (23 + 13 * t)) * dd (N (23 + 13 * i)) (N (23 + 13 * t)))) := et_68.trans (ksq_dd _ _)
      subst et_68
      refine lv_iload_n hx hb dX6_isClearOf_68 rfl (lv_at hl 1 rfl) ?_
      refine lv_iload_n hx hb dX6_isClearOf_69 rfl (lv_at hl 1 rfl) ?_
      refine lv_imul hx hb dX6_isClearOf_70 ?_
      refine lv_topi (fun t_71 et_71 => ?_)
      have et_71 : t_71 = nI (100 * (dd (N (23 + 13 * i + 1)) (N (23 + 13 * t + 1)) * dd (N (23 + 13 * i + 1)) (N (23 + 13 * t + 1)))) := et_71.trans (ksq_dd _ _)
      subst et_71
      refine lv_iadd hx hb dX6_isClearOf_71 ?_
      rw [nI_add]
      refine lv_iload hx hb dX6_isClearOf_72 (lv_at hl 0 rfl) ?_
      refine lv_iload hx hb dX6_isClearOf_74 (lv_at hl 0 rfl) ?_
      refine lv_imul hx hb dX6_isClearOf_76 ?_
      rw [pk_mul]
      refine lv_icmp_lt (tgt := 84) hx hb dX6_isClearOf_77 (by decide) (fun c_77 => ?_) (fun c_77 => ?_)
      · have c_77 : (((100 * (dd (N (23 + 13 * i)) (N (23 + 13 * t)) * dd (N (23 + 13 * i)) (N (23 + 13 * t))))) + ((100 * (dd (N (23 + 13 * i + 1)) (N (23 + 13 * t + 1)) * dd (N (23 + 13 * i + 1)) (N (23 + 13 * t + 1)))))) < ((a + x) * (a + x)) := (nI_ltI (by omega) (by omega)).mp c_77
        refine lv_iconst (v := nI 0) hx hb dX6_isClearOf_84 (by decide) ?_
        exact k_zret hx hb hr (by decide) hlk I dX6_isClearOf_85 (⟨by first | exact kT_1 (by unfold pClr pFar; simp; omega) | exact kT_0 (by unfold pClr pFar; simp; omega), rfl⟩)
      · have c_77 : ¬ ((((100 * (dd (N (23 + 13 * i)) (N (23 + 13 * t)) * dd (N (23 + 13 * i)) (N (23 + 13 * t))))) + ((100 * (dd (N (23 + 13 * i + 1)) (N (23 + 13 * t + 1)) * dd (N (23 + 13 * i + 1)) (N (23 + 13 * t + 1)))))) < ((a + x) * (a + x))) := fun q_ => c_77 ((nI_ltI (by omega) (by omega)).mpr q_)
        refine lv_iconst (v := nI 1) hx hb dX6_isClearOf_80 (by decide) ?_
        refine lv_goto (tgt := 85) hx hb dX6_isClearOf_81 (by decide) ?_
        exact k_zret hx hb hr (by decide) hlk I dX6_isClearOf_85 (⟨by first | exact kT_1 (by unfold pClr pFar; simp; omega) | exact kT_0 (by unfold pClr pFar; simp; omega), rfl⟩)
    · have c_11 : ¬ ((N (23 + 13 * t + 7)) = 0) := fun q_ => c_11 ((nI_eq (by omega) (by decide)).mpr q_)
      refine lv_iconst (v := nI 1) hx hb dX6_isClearOf_14 (by decide) ?_
      exact k_zret hx hb hr (by decide) hlk I dX6_isClearOf_15 (⟨kT_1 (by unfold pClr; simp; omega), rfl⟩)
set_option maxHeartbeats 4000000 in
set_option maxRecDepth 100000 in
theorem c_X1_isClearOfAll (cy : Nat → ClassId) (D : va_G) (ad : Nat → Nat) (l : Launch) (σ : Nat → Nat → Int32) (N : Nat → Nat) (hN : nOk N) (i : Nat) (hi : i < N 1) (hB : rBay σ N) (n b : Nat) (hn : n ≤ 60) (hb20 : b ≤ 20) (hsw : ∀ t, t < N 1 → t ≠ i → σ (15 + 3 * t) 9 = nI (pS N b t)) : kMi 38 ad (kcC cy ad) cy D l yX1_isClearOfAll wsX1_isClearOfAll ({ frames := 5, cells := 0, slots := 0, locals := 114 }) [.ref (ad 11), .ref (ad (15 + 3 * i)), .int (nI n), .int (nI b)] σ (fun r σ' => kT r (∀ t, t < N 1 → t ≠ i → pClr N i t (pSw N i n b) (pS N b t) = true) ∧ qc σ σ' ∧ ∀ u, u ≠ i → σ' (15 + 3 * u) 9 = σ (15 + 3 * u) 9) := by
  have H_i : i < 5 := by have := hN.1; omega
  have hsh := hN.2.2 i hi
  unfold nSh at hsh
  have h5 := hN.1
  refine k_entry (cc := cX1_isClearOfAll) (maxL := 5) (ret := (some .boolean)) (by decide) rfl (Nat.le_of_ble_eq_true rfl) ?_
  intro p e s m below meth c hx hb hr hml hown hts hlk E I ls hl
  have hA : ∀ q, s.heap.size ≤ q → kA 38 ad s.heap.size q := fun q h => Or.inr h
  have hown : s.vm.findClass RX1 = some m.cls := hown
  have hl : lv_has ls 5 [(0, .ref (ad 11)), (1, .ref (ad (15 + 3 * i))), (2, .int (nI n)), (3, .int (nI b))] := hl
  have iX1 : ∀ w ∈ u_ws RX1 TX1 6, w ∈ wsX1_isClearOfAll := fun w h => List.mem_cons_of_mem _ (List.mem_append_left _ (List.mem_append_left _ (List.mem_append_left _ (List.mem_append_right _ h))))
  refine lv_aload_n hx hb dX1_isClearOfAll_0 rfl (lv_at hl 0 rfl) ?_
  refine lv_aload_n hx hb dX1_isClearOfAll_1 rfl (lv_at hl 1 rfl) ?_
  refine lv_iload_n hx hb dX1_isClearOfAll_2 rfl (lv_at hl 2 rfl) ?_
  refine lv_iload_n hx hb dX1_isClearOfAll_3 rfl (lv_at hl 3 rfl) ?_
  refine k_callv (k := 11) (As := [.ref (ad (15 + 3 * i)), .int (nI n), .int (nI b)]) (rest := []) ⟨hx, hb, hml, hown, hts⟩ (c_X1_measureSwing cy D ad l σ N hN i hi hB n b hn hb20) (cwV 3 hts gX1_isClearOfAll_X1_measureSwing rfl rfl rfl (by decide +kernel) ⟨Nat.le_of_ble_eq_true rfl, Nat.le_of_ble_eq_true rfl⟩) E hA I (k_recv E I (by decide) kc_11 rfl) rfl hl.1 rfl (lv_room (Nat.le_of_ble_eq_true rfl)) dX1_isClearOfAll_4 ⟨Nat.le_of_ble_eq_true rfl, Nat.le_of_ble_eq_true rfl⟩ (fun σ_4 H locs hp_4 I => ?_)
  obtain ⟨υ, hq1, hs1⟩ := hp_4
  have hw := sw_set H_i hq1 hs1
  have hB := rBay_qc h5.2.2.2.1 hB hw.1
  refine lv_iconst (v := nI 0) hx hb dX1_isClearOfAll_7 (by decide) ?_
  refine lv_istore (lv' := [(4, .int (nI 0)), (0, .ref (ad 11)), (1, .ref (ad (15 + 3 * i))), (2, .int (nI n)), (3, .int (nI b))]) hx hb dX1_isClearOfAll_8 hl (by decide) rfl (fun ls hl => ?_)
  have LP_10 : ∀ (fuel : Nat) (t : Nat), N 1 - t < fuel → (t ≤ N 1) → (∀ u, u < t → u ≠ i → pClr N i u (pSw N i n b) (pS N b u) = true) → ∀ (H : Heap) (locs : List Loc), kI 38 ad (kcC cy ad) D (kA 38 ad s.heap.size) s.heap σ_4 H locs → ∀ ls : Array Slot, lv_has ls 5 [(0, .ref (ad 11)), (1, .ref (ad (15 + 3 * i))), (2, .int (nI n)), (3, .int (nI b)), (4, .int (nI t))] → W p l e (headSpec wsX1_isClearOfAll ({ frames := 5, cells := 0, slots := 0, locals := 114 })).room s m [.ref (ad 11), .ref (ad (15 + 3 * i)), .int (nI n), .int (nI b)].toArray below meth c H locs 0 0 (MQ below (va_Qi (fun r σ' => kT r (∀ t, t < N 1 → t ≠ i → pClr N i t (pSw N i n b) (pS N b t) = true) ∧ qc σ σ' ∧ ∀ u, u ≠ i → σ' (15 + 3 * u) 9 = σ (15 + 3 * u) 9) (kB 38 ad (kcC cy ad) D) (kA 38 ad s.heap.size)) [.ref (ad 11), .ref (ad (15 + 3 * i)), .int (nI n), .int (nI b)].toArray s 0 0 (kA 38 ad s.heap.size)) (F0 m 10 ls []) := by
    intro fuel
    induction fuel with
    | zero => intro t hf_; exact absurd hf_ (Nat.not_lt_zero _)
    | succ fuel ih =>
      intro t hf_ htn hcl H locs I ls hl
      refine lv_iload hx hb dX1_isClearOfAll_10 (lv_at hl 4 rfl) ?_
      refine lv_aload_n hx hb dX1_isClearOfAll_12 rfl (lv_at hl 0 rfl) ?_
      refine k_get (C := RX1) (T := TX1) (N := 6) (v := .int (nI (N 1))) hx hb hts hown E I iX1 (11) (by decide) (r0 := σ_4 11) rfl kc_11 rfl 4 (by decide) (List.mem_of_getElem? (i := 1) rfl) (congrArg (fun z => some (Value.int z)) hB.1.2.1) dX1_isClearOfAll_13 ?_
      refine lv_icmp_ge (tgt := 52) hx hb dX1_isClearOfAll_16 (by decide) (fun c_16 => ?_) (fun c_16 => ?_)
      · have c_16 : (N 1) ≤ t := (nI_leI (by omega) (by omega)).mp c_16
        refine lv_iconst (v := nI 1) hx hb dX1_isClearOfAll_52 (by decide) ?_
        exact k_zret hx hb hr (by decide) hlk I dX1_isClearOfAll_53 (⟨kT_1 (fun u hu hui => hcl u (by omega) hui), hw.1, hw.2.2⟩)
      · have c_16 : ¬ ((N 1) ≤ t) := fun q_ => c_16 ((nI_leI (by omega) (by omega)).mpr q_)
        have ht : t < N 1 := by omega
        have H_t : t < 5 := by omega
        have hst := hN.2.2 t ht
        unfold nSh at hst
        refine lv_aload_n hx hb dX1_isClearOfAll_19 rfl (lv_at hl 0 rfl) ?_
        refine k_get (C := RX1) (T := TX1) (N := 6) (v := .ref (ad 13)) hx hb hts hown E I iX1 (11) (by decide) (r0 := σ_4 11) rfl kc_11 rfl 1 (by decide) (List.mem_of_getElem? (i := 2) rfl) rfl dX1_isClearOfAll_20 ?_
        refine lv_iload hx hb dX1_isClearOfAll_23 (lv_at hl 4 rfl) ?_
        refine k_aldS (a := ad (15 + 3 * t)) hx hb E I (13) (by decide) kc_13 (vp_in_nI (by omega) (by decide)) (by rw [nI_clamp (by omega)]; exact if_pos (by omega)) dX1_isClearOfAll_25 ?_
        refine lv_aload_n hx hb dX1_isClearOfAll_26 rfl (lv_at hl 1 rfl) ?_
        refine lv_acmp_eq (rx := some (ad (15 + 3 * t))) (ry := some (ad (15 + 3 * i))) (tgt := 46) hx hb dX1_isClearOfAll_27 (by decide) (fun c_27 => ?_) (fun c_27 => ?_)
        · have hti : t = i := by have := k_inj I (show 15 + 3 * t < 38 by omega) (show 15 + 3 * i < 38 by omega) (Option.some.inj c_27); omega
          have hcl2 : ∀ u, u < t + 1 → u ≠ i → pClr N i u (pSw N i n b) (pS N b u) = true := fun u hu hui => hcl u (by omega) hui
          have hcl2 : ∀ u, u < t + 1 → u ≠ i → pClr N i u (pSw N i n b) (pS N b u) = true := fun u hu hui => by by_cases e_ : u = t; (first | (rw [e_]; exact g1) | (exact absurd (e_.trans hti) hui)); exact hcl u (by omega) hui
          refine lv_iinc (v := nI (t + 1)) (lv' := [(4, .int (nI (t + 1))), (0, .ref (ad 11)), (1, .ref (ad (15 + 3 * i))), (2, .int (nI n)), (3, .int (nI b))]) hx hb dX1_isClearOfAll_46 hl (k := 4) rfl (show nI t + Int32.ofInt 1 = nI (t + 1) from nI_add t 1) (by decide) rfl (fun ls hl => ?_)
          refine lv_goto (tgt := 10) hx hb dX1_isClearOfAll_49 (by decide) ?_
          exact ih (t + 1) (by omega) (by omega) (hcl2) _ _ I _ (lv_sub hl [1, 2, 3, 4, 0] rfl)
        · have hti : t ≠ i := fun q => c_27 (by rw [q])
          refine lv_aload_n hx hb dX1_isClearOfAll_30 rfl (lv_at hl 1 rfl) ?_
          refine lv_aload_n hx hb dX1_isClearOfAll_31 rfl (lv_at hl 0 rfl) ?_
          refine k_get (C := RX1) (T := TX1) (N := 6) (v := .ref (ad 13)) hx hb hts hown E I iX1 (11) (by decide) (r0 := σ_4 11) rfl kc_11 rfl 1 (by decide) (List.mem_of_getElem? (i := 2) rfl) rfl dX1_isClearOfAll_32 ?_
          refine lv_iload hx hb dX1_isClearOfAll_35 (lv_at hl 4 rfl) ?_
          refine k_aldS (a := ad (15 + 3 * t)) hx hb E I (13) (by decide) kc_13 (vp_in_nI (by omega) (by decide)) (by rw [nI_clamp (by omega)]; exact if_pos (by omega)) dX1_isClearOfAll_37 ?_
          refine k_calli (k := 15 + 3 * i) (As := [.ref (ad (15 + 3 * t))]) (rest := []) ⟨hx, hb, hml, hown, hts⟩ (c_X6_isClearOf cy D ad l σ_4 N hN i hi t ht hB (pSw N i n b) (pS N b t) (pSw_le hsh.2.1.2.2.2 hn) (pSw_le hst.2.1.2.2.2 hst.1.2.2.2) hw.2.1 ((hw.2.2 t hti).trans (hsw t ht hti))) (cwV 1 hts gX1_isClearOfAll_X6_isClearOf rfl rfl rfl (by decide +kernel) ⟨Nat.le_of_ble_eq_true rfl, Nat.le_of_ble_eq_true rfl⟩) E hA I (k_recv E I (by omega) (kc_S H_i) rfl) rfl hl.1 rfl (lv_room (Nat.le_of_ble_eq_true rfl)) dX1_isClearOfAll_38 ⟨Nat.le_of_ble_eq_true rfl, Nat.le_of_ble_eq_true rfl⟩ (fun r_38 σ_38 H locs hp_38 I => ?_)
          obtain ⟨hk_, rfl⟩ := hp_38
          rcases hk_ with ⟨rfl, g1⟩ | ⟨rfl, g1⟩
          · refine lv_if_ne (tgt := 46) hx hb dX1_isClearOfAll_41 (by decide) (fun c_41 => ?_) (fun c_41 => ?_)
            · have hcl2 : ∀ u, u < t + 1 → u ≠ i → pClr N i u (pSw N i n b) (pS N b u) = true := fun u hu hui => by by_cases e_ : u = t; (first | (rw [e_]; exact g1) | (exact absurd (e_.trans hti) hui)); exact hcl u (by omega) hui
              refine lv_iinc (v := nI (t + 1)) (lv' := [(4, .int (nI (t + 1))), (0, .ref (ad 11)), (1, .ref (ad (15 + 3 * i))), (2, .int (nI n)), (3, .int (nI b))]) hx hb dX1_isClearOfAll_46 hl (k := 4) rfl (show nI t + Int32.ofInt 1 = nI (t + 1) from nI_add t 1) (by decide) rfl (fun ls hl => ?_)
              refine lv_goto (tgt := 10) hx hb dX1_isClearOfAll_49 (by decide) ?_
              exact ih (t + 1) (by omega) (by omega) (hcl2) _ _ I _ (lv_sub hl [1, 2, 3, 4, 0] rfl)
            · exact absurd c_41 (by decide)
          · refine lv_if_ne (tgt := 46) hx hb dX1_isClearOfAll_41 (by decide) (fun c_41 => ?_) (fun c_41 => ?_)
            · exact absurd c_41 (by decide)
            · refine lv_iconst (v := nI 0) hx hb dX1_isClearOfAll_44 (by decide) ?_
              exact k_zret hx hb hr (by decide) hlk I dX1_isClearOfAll_45 (⟨kT_0 (fun q => g1 (q t ht hti)), hw.1, hw.2.2⟩)
  exact LP_10 _ 0 (Nat.lt_succ_self _) (Nat.zero_le _) (fun u hu => absurd hu (Nat.not_lt_zero u)) _ _ I _ (lv_sub hl [1, 2, 3, 4, 0] rfl)
end
