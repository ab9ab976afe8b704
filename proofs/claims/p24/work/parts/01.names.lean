/-! ===== BEGIN words of one list among another's, by their places ===== -/
theorem goodIn_r {big : List Cond} (ws : List Cond) (ps : List Nat) (hp : ws = ps.filterMap (fun i => big[i]?)) (h : ws.all goodWord = true) : GoodIn big ws := by
  intro w hw
  have h1 := List.all_eq_true.mp h w hw
  rw [hp] at hw
  obtain ⟨i, -, hi⟩ := List.mem_filterMap.mp hw
  have hm : w ∈ big := by first | exact List.mem_of_getElem? hi | exact List.getElem?_mem hi
  exact ⟨hm, good_of_word h1⟩
theorem goodIn_app {big a b : List Cond} (ha : GoodIn big a) (hb : GoodIn big b) : GoodIn big (a ++ b) := fun w h => (List.mem_append.mp h).elim (ha w) (hb w)
theorem goodIn_ca {big a b : List Cond} {c : Cond} (ha : GoodIn big (c :: a)) (hb : GoodIn big b) : GoodIn big (c :: (a ++ b)) := fun w h => (List.mem_cons.mp h).elim (fun e => ha w (List.mem_cons.mpr (Or.inl e))) (fun h => (List.mem_append.mp h).elim (fun h => ha w (List.mem_cons.mpr (Or.inr h))) (hb w))
theorem goodIn_sub {big ws : List Cond} (hm : ∀ w ∈ ws, w ∈ big) (h : ws.all goodWord = true) : GoodIn big ws := fun w hw => ⟨hm w hw, good_of_word (List.all_eq_true.mp h w hw)⟩
/-! ===== END ===== -/

/-! ===== BEGIN printed: names, fields, word lists, decode rows ===== -/
def RX0 : String := "SwingCranes$Crane"
def TX0 : u_T := fun k => match k with
  | 0 => ("SwingCranes$Crane", "place", "I", false)
  | 1 => ("SwingCranes$Crane", "speed", "I", false)
  | 2 => ("SwingCranes$Crane", "rope", "I", false)
  | 3 => ("SwingCranes$Crane", "load", "I", false)
  | 4 => ("SwingCranes$Crane", "swing", "I", false)
  | 5 => ("SwingCranes$Crane", "rate", "I", false)
  | 6 => ("SwingCranes$Crane", "want", "I", false)
  | 7 => ("SwingCranes$Crane", "target", "I", false)
  | 8 => ("SwingCranes$Crane", "soonIn", "I", false)
  | 9 => ("SwingCranes$Crane", "soonBy", "I", false)
  | 10 => ("SwingCranes$Crane", "laterIn", "I", false)
  | 11 => ("SwingCranes$Crane", "laterBy", "I", false)
  | _ => ("SwingCranes$Crane", "braked", "Z", false)
def tyX0 : Nat → FieldType := fun k => match k with
  | 0 => .int
  | 1 => .int
  | 2 => .int
  | 3 => .int
  | 4 => .int
  | 5 => .int
  | 6 => .int
  | 7 => .int
  | 8 => .int
  | 9 => .int
  | 10 => .int
  | 11 => .int
  | _ => .boolean
abbrev wsX00 : List Cond := u_ws RX0 TX0 13
theorem nmX0 : ∀ a, a < 13 → ∀ b, b < 13 → a ≠ b → (TX0 a).2.1 ≠ (TX0 b).2.1 := by decide +kernel
theorem tyX0_ok : ∀ k, k < 13 → parseFieldDescriptor (TX0 k).2.2.1 = some (tyX0 k) := by decide +kernel
abbrev cX0_init : ByteArray := prog_2_method_1_code
def yX0_init : MethodName := ⟨RX0, "<init>", "()V"⟩
abbrev cX0_begin : ByteArray := prog_2_method_2_code
def yX0_begin : MethodName := ⟨RX0, "begin", "(LSwingCranes$Start;)V"⟩
abbrev cX0_copyFrom : ByteArray := prog_2_method_3_code
def yX0_copyFrom : MethodName := ⟨RX0, "copyFrom", "(LSwingCranes$Crane;)V"⟩
abbrev cX0_setSteps : ByteArray := prog_2_method_4_code
def yX0_setSteps : MethodName := ⟨RX0, "setSteps", "(III)V"⟩
abbrev cX0_planAtOnce : ByteArray := prog_2_method_5_code
def yX0_planAtOnce : MethodName := ⟨RX0, "planAtOnce", "(I)V"⟩
abbrev cX0_planByHalves : ByteArray := prog_2_method_6_code
def yX0_planByHalves : MethodName := ⟨RX0, "planByHalves", "(II)V"⟩
abbrev cX0_stepsToCome : ByteArray := prog_2_method_7_code
def yX0_stepsToCome : MethodName := ⟨RX0, "stepsToCome", "()I"⟩
abbrev cX0_isSoon : ByteArray := prog_2_method_8_code
def yX0_isSoon : MethodName := ⟨RX0, "isSoon", "(I)Z"⟩
abbrev cX0_stepIn : ByteArray := prog_2_method_9_code
def yX0_stepIn : MethodName := ⟨RX0, "stepIn", "(I)I"⟩
abbrev cX0_stepBy : ByteArray := prog_2_method_10_code
def yX0_stepBy : MethodName := ⟨RX0, "stepBy", "(I)I"⟩
abbrev cX0_limit : ByteArray := prog_2_method_11_code
def yX0_limit : MethodName := ⟨RX0, "limit", "(LSwingCranes$Layout;)I"⟩
abbrev cX0_isQuiet : ByteArray := prog_2_method_12_code
def yX0_isQuiet : MethodName := ⟨RX0, "isQuiet", "()Z"⟩
abbrev cX0_roll : ByteArray := prog_2_method_13_code
def yX0_roll : MethodName := ⟨RX0, "roll", "(LSwingCranes$Layout;II)V"⟩
abbrev cX0_takeSteps : ByteArray := prog_2_method_14_code
def yX0_takeSteps : MethodName := ⟨RX0, "takeSteps", "()V"⟩
abbrev cX0_speedNearerToWant : ByteArray := prog_2_method_15_code
def yX0_speedNearerToWant : MethodName := ⟨RX0, "speedNearerToWant", "(LSwingCranes$Layout;)I"⟩
abbrev cX0_speedForRoom : ByteArray := prog_2_method_16_code
def yX0_speedForRoom : MethodName := ⟨RX0, "speedForRoom", "(III)I"⟩
abbrev cX0_swingOut : ByteArray := prog_2_method_17_code
def yX0_swingOut : MethodName := ⟨RX0, "swingOut", "(I)V"⟩
abbrev cX0_hoistRope : ByteArray := prog_2_method_18_code
def yX0_hoistRope : MethodName := ⟨RX0, "hoistRope", "(III)V"⟩
def RX1 : String := "SwingCranes$Layout"
def TX1 : u_T := fun k => match k with
  | 0 => ("SwingCranes$Layout", "end", "I", false)
  | 1 => ("SwingCranes$Layout", "gap", "I", false)
  | 2 => ("SwingCranes$Layout", "change", "I", false)
  | 3 => ("SwingCranes$Layout", "top", "I", false)
  | 4 => ("SwingCranes$Layout", "hoist", "I", false)
  | 5 => ("SwingCranes$Layout", "left", "LSwingCranes$Start;", true)
  | _ => ("SwingCranes$Layout", "right", "LSwingCranes$Start;", true)
def tyX1 : Nat → FieldType := fun k => match k with
  | 0 => .int
  | 1 => .int
  | 2 => .int
  | 3 => .int
  | 4 => .int
  | 5 => .object "SwingCranes$Start"
  | _ => .object "SwingCranes$Start"
abbrev wsX10 : List Cond := u_ws RX1 TX1 7
theorem nmX1 : ∀ a, a < 7 → ∀ b, b < 7 → a ≠ b → (TX1 a).2.1 ≠ (TX1 b).2.1 := by decide +kernel
theorem tyX1_ok : ∀ k, k < 7 → parseFieldDescriptor (TX1 k).2.2.1 = some (tyX1 k) := by decide +kernel
abbrev cX1_init : ByteArray := prog_3_method_1_code
def yX1_init : MethodName := ⟨RX1, "<init>", "()V"⟩
abbrev cX1_setUsual : ByteArray := prog_3_method_2_code
def yX1_setUsual : MethodName := ⟨RX1, "setUsual", "()V"⟩
abbrev cX1_holdsBoth : ByteArray := prog_3_method_3_code
def yX1_holdsBoth : MethodName := ⟨RX1, "holdsBoth", "()Z"⟩
def RX2 : String := "SwingCranes$Pair"
def TX2 : u_T := fun k => match k with
  | 0 => ("SwingCranes$Pair", "left", "LSwingCranes$Crane;", true)
  | 1 => ("SwingCranes$Pair", "right", "LSwingCranes$Crane;", true)
  | _ => ("SwingCranes$Pair", "level", "I", false)
def tyX2 : Nat → FieldType := fun k => match k with
  | 0 => .object "SwingCranes$Crane"
  | 1 => .object "SwingCranes$Crane"
  | _ => .int
abbrev wsX20 : List Cond := u_ws RX2 TX2 3
theorem nmX2 : ∀ a, a < 3 → ∀ b, b < 3 → a ≠ b → (TX2 a).2.1 ≠ (TX2 b).2.1 := by decide +kernel
theorem tyX2_ok : ∀ k, k < 3 → parseFieldDescriptor (TX2 k).2.2.1 = some (tyX2 k) := by decide +kernel
abbrev cX2_init : ByteArray := prog_4_method_1_code
def yX2_init : MethodName := ⟨RX2, "<init>", "()V"⟩
abbrev cX2_begin : ByteArray := prog_4_method_2_code
def yX2_begin : MethodName := ⟨RX2, "begin", "(LSwingCranes$Layout;)V"⟩
abbrev cX2_copyFrom : ByteArray := prog_4_method_3_code
def yX2_copyFrom : MethodName := ⟨RX2, "copyFrom", "(LSwingCranes$Pair;)V"⟩
abbrev cX2_side : ByteArray := prog_4_method_4_code
def yX2_side : MethodName := ⟨RX2, "side", "(I)LSwingCranes$Crane;"⟩
abbrev cX2_freeBetween : ByteArray := prog_4_method_5_code
def yX2_freeBetween : MethodName := ⟨RX2, "freeBetween", "(LSwingCranes$Layout;)I"⟩
abbrev cX2_isCoupled : ByteArray := prog_4_method_6_code
def yX2_isCoupled : MethodName := ⟨RX2, "isCoupled", "()Z"⟩
abbrev cX2_leftHeeds : ByteArray := prog_4_method_7_code
def yX2_leftHeeds : MethodName := ⟨RX2, "leftHeeds", "(I)Z"⟩
abbrev cX2_rightHeeds : ByteArray := prog_4_method_8_code
def yX2_rightHeeds : MethodName := ⟨RX2, "rightHeeds", "(I)Z"⟩
abbrev cX2_heeding : ByteArray := prog_4_method_9_code
def yX2_heeding : MethodName := ⟨RX2, "heeding", "()I"⟩
abbrev cX2_tellAtOnce : ByteArray := prog_4_method_10_code
def yX2_tellAtOnce : MethodName := ⟨RX2, "tellAtOnce", "(II)I"⟩
abbrev cX2_tellByHalves : ByteArray := prog_4_method_11_code
def yX2_tellByHalves : MethodName := ⟨RX2, "tellByHalves", "(III)I"⟩
abbrev cX2_aimsAt : ByteArray := prog_4_method_12_code
def yX2_aimsAt : MethodName := ⟨RX2, "aimsAt", "(II)Z"⟩
abbrev cX2_aim : ByteArray := prog_4_method_13_code
def yX2_aim : MethodName := ⟨RX2, "aim", "(II)V"⟩
abbrev cX2_goOn : ByteArray := prog_4_method_14_code
def yX2_goOn : MethodName := ⟨RX2, "goOn", "(LSwingCranes$Layout;)I"⟩
def RX3 : String := "SwingCranes$Spots"
def TX3 : u_T := fun k => match k with
  | 0 => ("SwingCranes$Spots", "names", "[I", true)
  | 1 => ("SwingCranes$Spots", "ticks", "[I", true)
  | _ => ("SwingCranes$Spots", "many", "I", false)
def tyX3 : Nat → FieldType := fun k => match k with
  | 0 => .array .int
  | 1 => .array .int
  | _ => .int
abbrev wsX30 : List Cond := u_ws RX3 TX3 3
theorem nmX3 : ∀ a, a < 3 → ∀ b, b < 3 → a ≠ b → (TX3 a).2.1 ≠ (TX3 b).2.1 := by decide +kernel
theorem tyX3_ok : ∀ k, k < 3 → parseFieldDescriptor (TX3 k).2.2.1 = some (tyX3 k) := by decide +kernel
abbrev cX3_init : ByteArray := prog_5_method_1_code
def yX3_init : MethodName := ⟨RX3, "<init>", "()V"⟩
abbrev cX3_copyFrom : ByteArray := prog_5_method_2_code
def yX3_copyFrom : MethodName := ⟨RX3, "copyFrom", "(LSwingCranes$Spots;)V"⟩
abbrev cX3_put : ByteArray := prog_5_method_3_code
def yX3_put : MethodName := ⟨RX3, "put", "(III)V"⟩
abbrev cX3_addTick : ByteArray := prog_5_method_4_code
def yX3_addTick : MethodName := ⟨RX3, "addTick", "(LSwingCranes$Crane;)V"⟩
abbrev cX3_find : ByteArray := prog_5_method_5_code
def yX3_find : MethodName := ⟨RX3, "find", "(I)I"⟩
abbrev cX3_nameOf : ByteArray := prog_5_method_6_code
def yX3_nameOf : MethodName := ⟨RX3, "nameOf", "(II)I"⟩
abbrev cX3_nameAt : ByteArray := prog_5_method_7_code
def yX3_nameAt : MethodName := ⟨RX3, "nameAt", "(I)I"⟩
abbrev cX3_ticksAt : ByteArray := prog_5_method_8_code
def yX3_ticksAt : MethodName := ⟨RX3, "ticksAt", "(I)I"⟩
abbrev cX3_ticksIn : ByteArray := prog_5_method_9_code
def yX3_ticksIn : MethodName := ⟨RX3, "ticksIn", "(II)I"⟩
abbrev cX3_blockAt : ByteArray := prog_5_method_10_code
def yX3_blockAt : MethodName := ⟨RX3, "blockAt", "(I)I"⟩
abbrev cX3_floorAt : ByteArray := prog_5_method_11_code
def yX3_floorAt : MethodName := ⟨RX3, "floorAt", "(I)I"⟩
def RX4 : String := "SwingCranes$Start"
def TX4 : u_T := fun k => match k with
  | 0 => ("SwingCranes$Start", "place", "I", false)
  | 1 => ("SwingCranes$Start", "rope", "I", false)
  | _ => ("SwingCranes$Start", "load", "I", false)
def tyX4 : Nat → FieldType := fun k => match k with
  | 0 => .int
  | 1 => .int
  | _ => .int
abbrev wsX40 : List Cond := u_ws RX4 TX4 3
theorem nmX4 : ∀ a, a < 3 → ∀ b, b < 3 → a ≠ b → (TX4 a).2.1 ≠ (TX4 b).2.1 := by decide +kernel
theorem tyX4_ok : ∀ k, k < 3 → parseFieldDescriptor (TX4 k).2.2.1 = some (tyX4 k) := by decide +kernel
abbrev cX4_init : ByteArray := prog_6_method_1_code
def yX4_init : MethodName := ⟨RX4, "<init>", "()V"⟩
abbrev cX4_set : ByteArray := prog_6_method_2_code
def yX4_set : MethodName := ⟨RX4, "set", "(III)V"⟩
def RX5 : String := "SwingCranes$Story"
def TX5 : u_T := fun k => match k with
  | 0 => ("SwingCranes$Story", "pair", "LSwingCranes$Pair;", true)
  | 1 => ("SwingCranes$Story", "leftSpots", "LSwingCranes$Spots;", true)
  | 2 => ("SwingCranes$Story", "rightSpots", "LSwingCranes$Spots;", true)
  | _ => ("SwingCranes$Story", "ticks", "I", false)
def tyX5 : Nat → FieldType := fun k => match k with
  | 0 => .object "SwingCranes$Pair"
  | 1 => .object "SwingCranes$Spots"
  | 2 => .object "SwingCranes$Spots"
  | _ => .int
abbrev wsX50 : List Cond := u_ws RX5 TX5 4
theorem nmX5 : ∀ a, a < 4 → ∀ b, b < 4 → a ≠ b → (TX5 a).2.1 ≠ (TX5 b).2.1 := by decide +kernel
theorem tyX5_ok : ∀ k, k < 4 → parseFieldDescriptor (TX5 k).2.2.1 = some (tyX5 k) := by decide +kernel
abbrev cX5_init : ByteArray := prog_7_method_1_code
def yX5_init : MethodName := ⟨RX5, "<init>", "()V"⟩
abbrev cX5_begin : ByteArray := prog_7_method_2_code
def yX5_begin : MethodName := ⟨RX5, "begin", "(LSwingCranes$Layout;)V"⟩
abbrev cX5_copyFrom : ByteArray := prog_7_method_3_code
def yX5_copyFrom : MethodName := ⟨RX5, "copyFrom", "(LSwingCranes$Story;)V"⟩
abbrev cX5_spotsOf : ByteArray := prog_7_method_4_code
def yX5_spotsOf : MethodName := ⟨RX5, "spotsOf", "(I)LSwingCranes$Spots;"⟩
abbrev cX5_goOn : ByteArray := prog_7_method_5_code
def yX5_goOn : MethodName := ⟨RX5, "goOn", "(LSwingCranes$Layout;)I"⟩
def RX6 : String := "SwingCranes$Text"
def TX6 : u_T := fun k => match k with
  | 0 => ("SwingCranes$Text", "letters", "[C", true)
  | 1 => ("SwingCranes$Text", "length", "I", false)
  | _ => ("SwingCranes$Text", "at", "I", false)
def tyX6 : Nat → FieldType := fun k => match k with
  | 0 => .array .char
  | 1 => .int
  | _ => .int
abbrev wsX60 : List Cond := u_ws RX6 TX6 3
theorem nmX6 : ∀ a, a < 3 → ∀ b, b < 3 → a ≠ b → (TX6 a).2.1 ≠ (TX6 b).2.1 := by decide +kernel
theorem tyX6_ok : ∀ k, k < 3 → parseFieldDescriptor (TX6 k).2.2.1 = some (tyX6 k) := by decide +kernel
abbrev cX6_init : ByteArray := prog_8_method_1_code
def yX6_init : MethodName := ⟨RX6, "<init>", "()V"⟩
abbrev cX6_isFull : ByteArray := prog_8_method_2_code
def yX6_isFull : MethodName := ⟨RX6, "isFull", "()Z"⟩
abbrev cX6_append : ByteArray := prog_8_method_3_code
def yX6_append : MethodName := ⟨RX6, "append", "(C)V"⟩
abbrev cX6_readInto : ByteArray := prog_8_method_4_code
def yX6_readInto : MethodName := ⟨RX6, "readInto", "(LSwingCranes$Layout;)I"⟩
abbrev cX6_readItem : ByteArray := prog_8_method_5_code
def yX6_readItem : MethodName := ⟨RX6, "readItem", "(LSwingCranes$Layout;)Z"⟩
abbrev cX6_readEnd : ByteArray := prog_8_method_6_code
def yX6_readEnd : MethodName := ⟨RX6, "readEnd", "(LSwingCranes$Layout;)Z"⟩
abbrev cX6_readGap : ByteArray := prog_8_method_7_code
def yX6_readGap : MethodName := ⟨RX6, "readGap", "(LSwingCranes$Layout;)Z"⟩
abbrev cX6_readStart : ByteArray := prog_8_method_8_code
def yX6_readStart : MethodName := ⟨RX6, "readStart", "(LSwingCranes$Layout;)Z"⟩
abbrev cX6_readDrive : ByteArray := prog_8_method_9_code
def yX6_readDrive : MethodName := ⟨RX6, "readDrive", "(LSwingCranes$Layout;)Z"⟩
abbrev cX6_readNumber : ByteArray := prog_8_method_10_code
def yX6_readNumber : MethodName := ⟨RX6, "readNumber", "(C)I"⟩
abbrev cX6_letterAt : ByteArray := prog_8_method_11_code
def yX6_letterAt : MethodName := ⟨RX6, "letterAt", "(I)I"⟩
def RX7 : String := "SwingCranes"
def TX7 : u_T := fun k => match k with
  | 0 => ("SwingCranes", "text", "LSwingCranes$Text;", true)
  | 1 => ("SwingCranes", "trial", "LSwingCranes$Pair;", true)
  | 2 => ("SwingCranes", "rules", "LSwingCranes$Layout;", false)
  | 3 => ("SwingCranes", "draft", "LSwingCranes$Layout;", false)
  | 4 => ("SwingCranes", "now", "LSwingCranes$Story;", false)
  | 5 => ("SwingCranes", "firstBack", "LSwingCranes$Story;", false)
  | 6 => ("SwingCranes", "secondBack", "LSwingCranes$Story;", false)
  | 7 => ("SwingCranes", "thirdBack", "LSwingCranes$Story;", false)
  | 8 => ("SwingCranes", "fourthBack", "LSwingCranes$Story;", false)
  | _ => ("SwingCranes", "undoable", "I", false)
def tyX7 : Nat → FieldType := fun k => match k with
  | 0 => .object "SwingCranes$Text"
  | 1 => .object "SwingCranes$Pair"
  | 2 => .object "SwingCranes$Layout"
  | 3 => .object "SwingCranes$Layout"
  | 4 => .object "SwingCranes$Story"
  | 5 => .object "SwingCranes$Story"
  | 6 => .object "SwingCranes$Story"
  | 7 => .object "SwingCranes$Story"
  | 8 => .object "SwingCranes$Story"
  | _ => .int
abbrev wsX70 : List Cond := u_ws RX7 TX7 10
theorem nmX7 : ∀ a, a < 10 → ∀ b, b < 10 → a ≠ b → (TX7 a).2.1 ≠ (TX7 b).2.1 := by decide +kernel
theorem tyX7_ok : ∀ k, k < 10 → parseFieldDescriptor (TX7 k).2.2.1 = some (tyX7 k) := by decide +kernel
abbrev cX7_init : ByteArray := prog_1_method_1_code
def yX7_init : MethodName := ⟨RX7, "<init>", "()V"⟩
abbrev cX7_write : ByteArray := prog_1_method_2_code
def yX7_write : MethodName := ⟨RX7, "write", "(I)I"⟩
abbrev cX7_wipe : ByteArray := prog_1_method_3_code
def yX7_wipe : MethodName := ⟨RX7, "wipe", "()I"⟩
abbrev cX7_fault : ByteArray := prog_1_method_4_code
def yX7_fault : MethodName := ⟨RX7, "fault", "()I"⟩
abbrev cX7_lay : ByteArray := prog_1_method_5_code
def yX7_lay : MethodName := ⟨RX7, "lay", "()I"⟩
abbrev cX7_command : ByteArray := prog_1_method_6_code
def yX7_command : MethodName := ⟨RX7, "command", "(II)I"⟩
abbrev cX7_shape : ByteArray := prog_1_method_7_code
def yX7_shape : MethodName := ⟨RX7, "shape", "(III)I"⟩
abbrev cX7_target : ByteArray := prog_1_method_8_code
def yX7_target : MethodName := ⟨RX7, "target", "(II)I"⟩
abbrev cX7_load : ByteArray := prog_1_method_9_code
def yX7_load : MethodName := ⟨RX7, "load", "(II)I"⟩
abbrev cX7_couple : ByteArray := prog_1_method_10_code
def yX7_couple : MethodName := ⟨RX7, "couple", "(I)I"⟩
abbrev cX7_tick : ByteArray := prog_1_method_11_code
def yX7_tick : MethodName := ⟨RX7, "tick", "(I)I"⟩
abbrev cX7_undo : ByteArray := prog_1_method_12_code
def yX7_undo : MethodName := ⟨RX7, "undo", "()I"⟩
abbrev cX7_crane : ByteArray := prog_1_method_13_code
def yX7_crane : MethodName := ⟨RX7, "crane", "(II)I"⟩
abbrev cX7_stepOf : ByteArray := prog_1_method_14_code
def yX7_stepOf : MethodName := ⟨RX7, "stepOf", "(III)I"⟩
abbrev cX7_stop : ByteArray := prog_1_method_15_code
def yX7_stop : MethodName := ⟨RX7, "stop", "(I)I"⟩
abbrev cX7_half : ByteArray := prog_1_method_16_code
def yX7_half : MethodName := ⟨RX7, "half", "(I)I"⟩
abbrev cX7_spot : ByteArray := prog_1_method_17_code
def yX7_spot : MethodName := ⟨RX7, "spot", "(III)I"⟩
abbrev cX7_been : ByteArray := prog_1_method_18_code
def yX7_been : MethodName := ⟨RX7, "been", "(III)I"⟩
abbrev cX7_ahead : ByteArray := prog_1_method_19_code
def yX7_ahead : MethodName := ⟨RX7, "ahead", "(III)I"⟩
abbrev cX7_quiet : ByteArray := prog_1_method_20_code
def yX7_quiet : MethodName := ⟨RX7, "quiet", "(I)I"⟩
abbrev cX7_best : ByteArray := prog_1_method_21_code
def yX7_best : MethodName := ⟨RX7, "best", "(III)I"⟩
abbrev cX7_count : ByteArray := prog_1_method_22_code
def yX7_count : MethodName := ⟨RX7, "count", "(I)I"⟩
abbrev cX7_keepForUndo : ByteArray := prog_1_method_23_code
def yX7_keepForUndo : MethodName := ⟨RX7, "keepForUndo", "()V"⟩
abbrev cX7_swingWithPause : ByteArray := prog_1_method_24_code
def yX7_swingWithPause : MethodName := ⟨RX7, "swingWithPause", "(III)I"⟩
abbrev cX7_isWithin : ByteArray := prog_1_method_25_code
def yX7_isWithin : MethodName := ⟨RX7, "isWithin", "(III)Z"⟩
abbrev cX7_isCrane : ByteArray := prog_1_method_26_code
def yX7_isCrane : MethodName := ⟨RX7, "isCrane", "(I)Z"⟩
abbrev cX7_isSpeed : ByteArray := prog_1_method_27_code
def yX7_isSpeed : MethodName := ⟨RX7, "isSpeed", "(I)Z"⟩
abbrev cX7_isRope : ByteArray := prog_1_method_28_code
def yX7_isRope : MethodName := ⟨RX7, "isRope", "(I)Z"⟩
abbrev cX7_keptWithin : ByteArray := prog_1_method_29_code
def yX7_keptWithin : MethodName := ⟨RX7, "keptWithin", "(II)I"⟩
abbrev cX7_wayToStop : ByteArray := prog_1_method_30_code
def yX7_wayToStop : MethodName := ⟨RX7, "wayToStop", "(II)I"⟩
abbrev cX7_halfSwing : ByteArray := prog_1_method_31_code
def yX7_halfSwing : MethodName := ⟨RX7, "halfSwing", "(I)I"⟩
def RX8 : String := "SwingCranesModel"
def TX8 : u_T := fun k => match k with
  | _ => ("", "", "", false)
def tyX8 : Nat → FieldType := fun k => match k with
  | _ => .int
abbrev wsX80 : List Cond := u_ws RX8 TX8 0
theorem nmX8 : ∀ a, a < 0 → ∀ b, b < 0 → a ≠ b → (TX8 a).2.1 ≠ (TX8 b).2.1 := by decide +kernel
theorem tyX8_ok : ∀ k, k < 0 → parseFieldDescriptor (TX8 k).2.2.1 = some (tyX8 k) := by decide +kernel
def RJ9 : String := "java/lang/Math"
def TJ9 : u_T := fun k => match k with
  | _ => ("", "", "", false)
def tyJ9 : Nat → FieldType := fun k => match k with
  | _ => .int
abbrev wsJ90 : List Cond := u_ws RJ9 TJ9 0
theorem nmJ9 : ∀ a, a < 0 → ∀ b, b < 0 → a ≠ b → (TJ9 a).2.1 ≠ (TJ9 b).2.1 := by decide +kernel
theorem tyJ9_ok : ∀ k, k < 0 → parseFieldDescriptor (TJ9 k).2.2.1 = some (tyJ9 k) := by decide +kernel
abbrev cJ9_abs_0f7a4 : ByteArray := prog_11_method_59_code
def yJ9_abs_0f7a4 : MethodName := ⟨RJ9, "abs", "(I)I"⟩
abbrev cJ9_max_7cf53 : ByteArray := prog_11_method_65_code
def yJ9_max_7cf53 : MethodName := ⟨RJ9, "max", "(II)I"⟩
abbrev cJ9_min_7cf53 : ByteArray := prog_11_method_69_code
def yJ9_min_7cf53 : MethodName := ⟨RJ9, "min", "(II)I"⟩
def RL : String := "SwingCranesLaw"
abbrev cL_part : ByteArray := method_2_code
def yL_part : MethodName := ⟨RL, "part", "(II)I"⟩
abbrev cL_cell : ByteArray := method_3_code
def yL_cell : MethodName := ⟨RL, "cell", "([II)I"⟩
abbrev cL_size : ByteArray := method_4_code
def yL_size : MethodName := ⟨RL, "size", "(I)I"⟩
abbrev cL_number : ByteArray := method_5_code
def yL_number : MethodName := ⟨RL, "number", "(LSwingCranes;II)V"⟩
abbrev cL_lays : ByteArray := method_6_code
def yL_lays : MethodName := ⟨RL, "lays", "(LSwingCranes;[II[I)Z"⟩
abbrev cL_whole : ByteArray := method_7_code
def yL_whole : MethodName := ⟨RL, "whole", "(LSwingCranes;)J"⟩
abbrev cL_holds : ByteArray := method_8_code
def yL_holds : MethodName := ⟨RL, "holds", "(LSwingCranes;)Z"⟩
abbrev cL_undoes : ByteArray := method_9_code
def yL_undoes : MethodName := ⟨RL, "undoes", "(LSwingCranes;[II)Z"⟩
abbrev cL_says : ByteArray := method_10_code
def yL_says : MethodName := ⟨RL, "says", "(LSwingCranes;IIII)V"⟩
abbrev cL_crane : ByteArray := method_11_code
def yL_crane : MethodName := ⟨RL, "crane", "(LSwingCranes;IIII)V"⟩
abbrev cL_most : ByteArray := method_12_code
def yL_most : MethodName := ⟨RL, "most", "(LSwingCranes;III)V"⟩
abbrev cL_isFault : ByteArray := method_13_code
def yL_isFault : MethodName := ⟨RL, "isFault", "(LSwingCranes;I)Z"⟩
abbrev cL_faults : ByteArray := method_14_code
def yL_faults : MethodName := ⟨RL, "faults", "(LSwingCranes;)Z"⟩
abbrev cL_refused : ByteArray := method_15_code
def yL_refused : MethodName := ⟨RL, "refused", "(LSwingCranes;)Z"⟩
abbrev cL_law : ByteArray := code
def yL_law : MethodName := ⟨RL, "law", "([I)Z"⟩
def wsX0_init : List Cond := .code yX0_init cX0_init 1 none :: ([.methodLink RX0 3 objectInit, .instanceMethod objectInit, .code objectInit ⟨#[0xb1]⟩ 1 none])
def wsX0_setSteps : List Cond := .code yX0_setSteps cX0_setSteps 4 none :: ([.fieldLink RX0 49 "SwingCranes$Crane" "soonIn" "I", .fieldLink RX0 52 "SwingCranes$Crane" "soonBy" "I", .fieldLink RX0 55 "SwingCranes$Crane" "laterIn" "I", .fieldLink RX0 58 "SwingCranes$Crane" "laterBy" "I"] ++ wsX00)
def wsX0_begin : List Cond := .code yX0_begin cX0_begin 2 none :: ([.fieldLink RX0 9 "SwingCranes$Start" "place" "I", .fieldLink RX0 15 "SwingCranes$Crane" "place" "I", .fieldLink RX0 18 "SwingCranes$Crane" "speed" "I", .fieldLink RX0 21 "SwingCranes$Start" "rope" "I", .fieldLink RX0 24 "SwingCranes$Crane" "rope" "I", .fieldLink RX0 25 "SwingCranes$Start" "load" "I", .fieldLink RX0 28 "SwingCranes$Crane" "load" "I", .fieldLink RX0 29 "SwingCranes$Crane" "swing" "I", .fieldLink RX0 32 "SwingCranes$Crane" "rate" "I", .fieldLink RX0 35 "SwingCranes$Crane" "want" "I", .fieldLink RX0 38 "SwingCranes$Crane" "target" "I", .fieldLink RX0 45 "SwingCranes$Crane" "braked" "Z", .methodLink RX0 41 yX0_setSteps, .instanceMethod yX0_setSteps, .selects RX0 yX0_setSteps yX0_setSteps, .initialized RX0, .code yX0_setSteps cX0_setSteps 4 none, .fieldLink RX0 49 "SwingCranes$Crane" "soonIn" "I", .fieldLink RX0 52 "SwingCranes$Crane" "soonBy" "I", .fieldLink RX0 55 "SwingCranes$Crane" "laterIn" "I", .fieldLink RX0 58 "SwingCranes$Crane" "laterBy" "I"] ++ wsX40 ++ wsX00)
def wsX0_copyFrom : List Cond := .code yX0_copyFrom cX0_copyFrom 2 none :: ([.fieldLink RX0 15 "SwingCranes$Crane" "place" "I", .fieldLink RX0 18 "SwingCranes$Crane" "speed" "I", .fieldLink RX0 24 "SwingCranes$Crane" "rope" "I", .fieldLink RX0 28 "SwingCranes$Crane" "load" "I", .fieldLink RX0 29 "SwingCranes$Crane" "swing" "I", .fieldLink RX0 32 "SwingCranes$Crane" "rate" "I", .fieldLink RX0 35 "SwingCranes$Crane" "want" "I", .fieldLink RX0 38 "SwingCranes$Crane" "target" "I", .fieldLink RX0 49 "SwingCranes$Crane" "soonIn" "I", .fieldLink RX0 52 "SwingCranes$Crane" "soonBy" "I", .fieldLink RX0 55 "SwingCranes$Crane" "laterIn" "I", .fieldLink RX0 58 "SwingCranes$Crane" "laterBy" "I", .fieldLink RX0 45 "SwingCranes$Crane" "braked" "Z"] ++ wsX00)
def wsX0_planAtOnce : List Cond := .code yX0_planAtOnce cX0_planAtOnce 2 none :: ([.fieldLink RX0 35 "SwingCranes$Crane" "want" "I", .methodLink RX0 41 yX0_setSteps, .instanceMethod yX0_setSteps, .selects RX0 yX0_setSteps yX0_setSteps, .initialized RX0, .code yX0_setSteps cX0_setSteps 4 none, .fieldLink RX0 49 "SwingCranes$Crane" "soonIn" "I", .fieldLink RX0 52 "SwingCranes$Crane" "soonBy" "I", .fieldLink RX0 55 "SwingCranes$Crane" "laterIn" "I", .fieldLink RX0 58 "SwingCranes$Crane" "laterBy" "I"] ++ wsX00)
def wsX7_halfSwing : List Cond := .code yX7_halfSwing cX7_halfSwing 2 (some .int) :: ([])
def wsX0_planByHalves : List Cond := .code yX0_planByHalves cX0_planByHalves 5 none :: ([.fieldLink RX0 35 "SwingCranes$Crane" "want" "I", .fieldLink RX0 24 "SwingCranes$Crane" "rope" "I", .static yX7_halfSwing, .initialized RX7, .code yX7_halfSwing cX7_halfSwing 2 (some .int), .methodLink RX0 41 yX0_setSteps, .instanceMethod yX0_setSteps, .selects RX0 yX0_setSteps yX0_setSteps, .initialized RX0, .code yX0_setSteps cX0_setSteps 4 none, .fieldLink RX0 49 "SwingCranes$Crane" "soonIn" "I", .fieldLink RX0 52 "SwingCranes$Crane" "soonBy" "I", .fieldLink RX0 55 "SwingCranes$Crane" "laterIn" "I", .fieldLink RX0 58 "SwingCranes$Crane" "laterBy" "I"] ++ wsX00)
def wsX0_stepsToCome : List Cond := .code yX0_stepsToCome cX0_stepsToCome 1 (some .int) :: ([.fieldLink RX0 52 "SwingCranes$Crane" "soonBy" "I", .fieldLink RX0 58 "SwingCranes$Crane" "laterBy" "I"] ++ wsX00)
def wsX0_isSoon : List Cond := .code yX0_isSoon cX0_isSoon 2 (some .boolean) :: ([.fieldLink RX0 52 "SwingCranes$Crane" "soonBy" "I"] ++ wsX00)
def wsX0_stepIn : List Cond := .code yX0_stepIn cX0_stepIn 2 (some .int) :: ([.fieldLink RX0 49 "SwingCranes$Crane" "soonIn" "I", .fieldLink RX0 55 "SwingCranes$Crane" "laterIn" "I", .methodLink RX0 65 yX0_isSoon, .instanceMethod yX0_isSoon, .selects RX0 yX0_isSoon yX0_isSoon, .initialized RX0, .code yX0_isSoon cX0_isSoon 2 (some .boolean), .fieldLink RX0 52 "SwingCranes$Crane" "soonBy" "I"] ++ wsX00)
def wsX0_stepBy : List Cond := .code yX0_stepBy cX0_stepBy 2 (some .int) :: ([.fieldLink RX0 52 "SwingCranes$Crane" "soonBy" "I", .fieldLink RX0 58 "SwingCranes$Crane" "laterBy" "I", .methodLink RX0 65 yX0_isSoon, .instanceMethod yX0_isSoon, .selects RX0 yX0_isSoon yX0_isSoon, .initialized RX0, .code yX0_isSoon cX0_isSoon 2 (some .boolean)] ++ wsX00)
def wsX0_limit : List Cond := .code yX0_limit cX0_limit 2 (some .int) :: ([.fieldLink RX0 69 "SwingCranes$Layout" "top" "I", .fieldLink RX0 28 "SwingCranes$Crane" "load" "I", .methodLink RX0 74 Lib.Math.max.name, .static Lib.Math.max.name, .initialized "java/lang/Math", .code Lib.Math.max.name Lib.Math.max.code 2 (some .int)] ++ wsX10 ++ wsX00)
def wsX0_isQuiet : List Cond := .code yX0_isQuiet cX0_isQuiet 1 (some .boolean) :: ([.fieldLink RX0 18 "SwingCranes$Crane" "speed" "I", .fieldLink RX0 35 "SwingCranes$Crane" "want" "I", .fieldLink RX0 29 "SwingCranes$Crane" "swing" "I", .methodLink RX0 84 Lib.Math.abs.name, .static Lib.Math.abs.name, .initialized "java/lang/Math", .code Lib.Math.abs.name Lib.Math.abs.code 1 (some .int), .fieldLink RX0 32 "SwingCranes$Crane" "rate" "I", .methodLink RX0 80 yX0_stepsToCome, .instanceMethod yX0_stepsToCome, .selects RX0 yX0_stepsToCome yX0_stepsToCome, .initialized RX0, .code yX0_stepsToCome cX0_stepsToCome 1 (some .int), .fieldLink RX0 52 "SwingCranes$Crane" "soonBy" "I", .fieldLink RX0 58 "SwingCranes$Crane" "laterBy" "I"] ++ wsX00)
def wsX0_takeSteps : List Cond := .code yX0_takeSteps cX0_takeSteps 1 none :: ([.fieldLink RX0 49 "SwingCranes$Crane" "soonIn" "I", .fieldLink RX0 55 "SwingCranes$Crane" "laterIn" "I", .fieldLink RX0 52 "SwingCranes$Crane" "soonBy" "I", .fieldLink RX0 35 "SwingCranes$Crane" "want" "I", .fieldLink RX0 58 "SwingCranes$Crane" "laterBy" "I"] ++ wsX00)
def wsX7_keptWithin : List Cond := .code yX7_keptWithin cX7_keptWithin 2 (some .int) :: ([.methodLink RX7 239 Lib.Math.min.name, .static Lib.Math.min.name, .initialized "java/lang/Math", .code Lib.Math.min.name Lib.Math.min.code 2 (some .int), .methodLink RX7 214 Lib.Math.max.name, .static Lib.Math.max.name, .code Lib.Math.max.name Lib.Math.max.code 2 (some .int)])
def wsX0_speedNearerToWant : List Cond := .code yX0_speedNearerToWant cX0_speedNearerToWant 3 (some .int) :: ([.fieldLink RX0 35 "SwingCranes$Crane" "want" "I", .fieldLink RX0 18 "SwingCranes$Crane" "speed" "I", .fieldLink RX0 94 "SwingCranes$Layout" "change" "I", .methodLink RX0 108 yX0_limit, .instanceMethod yX0_limit, .selects RX0 yX0_limit yX0_limit, .initialized RX0, .code yX0_limit cX0_limit 2 (some .int), .fieldLink RX0 69 "SwingCranes$Layout" "top" "I", .fieldLink RX0 28 "SwingCranes$Crane" "load" "I", .methodLink RX0 74 Lib.Math.max.name, .static Lib.Math.max.name, .initialized "java/lang/Math", .code Lib.Math.max.name Lib.Math.max.code 2 (some .int), .static yX7_keptWithin, .initialized RX7, .code yX7_keptWithin cX7_keptWithin 2 (some .int), .methodLink RX7 239 Lib.Math.min.name, .static Lib.Math.min.name, .code Lib.Math.min.name Lib.Math.min.code 2 (some .int), .methodLink RX7 214 Lib.Math.max.name] ++ wsX00 ++ wsX10)
def wsX7_wayToStop : List Cond := .code yX7_wayToStop cX7_wayToStop 4 (some .int) :: ([.methodLink RX7 209 Lib.Math.abs.name, .static Lib.Math.abs.name, .initialized "java/lang/Math", .code Lib.Math.abs.name Lib.Math.abs.code 1 (some .int)])
def wsX0_speedForRoom : List Cond := .code yX0_speedForRoom cX0_speedForRoom 6 (some .int) :: ([.methodLink RX0 84 Lib.Math.abs.name, .static Lib.Math.abs.name, .initialized "java/lang/Math", .code Lib.Math.abs.name Lib.Math.abs.code 1 (some .int), .static yX7_wayToStop, .initialized RX7, .code yX7_wayToStop cX7_wayToStop 4 (some .int), .methodLink RX7 209 Lib.Math.abs.name])
def wsX0_swingOut : List Cond := .code yX0_swingOut cX0_swingOut 3 none :: ([.fieldLink RX0 24 "SwingCranes$Crane" "rope" "I", .fieldLink RX0 29 "SwingCranes$Crane" "swing" "I", .fieldLink RX0 32 "SwingCranes$Crane" "rate" "I", .static yX7_keptWithin, .initialized RX7, .code yX7_keptWithin cX7_keptWithin 2 (some .int), .methodLink RX7 239 Lib.Math.min.name, .static Lib.Math.min.name, .initialized "java/lang/Math", .code Lib.Math.min.name Lib.Math.min.code 2 (some .int), .methodLink RX7 214 Lib.Math.max.name, .static Lib.Math.max.name, .code Lib.Math.max.name Lib.Math.max.code 2 (some .int)] ++ wsX00)
def wsX0_roll_r1 : List Cond := [Cond.fieldLink RX0 94 "SwingCranes$Layout" "change" "I", Cond.fieldLink RX0 45 "SwingCranes$Crane" "braked" "Z", Cond.fieldLink RX0 18 "SwingCranes$Crane" "speed" "I", Cond.fieldLink RX0 15 "SwingCranes$Crane" "place" "I", Cond.methodLink RX0 87 yX0_takeSteps, Cond.instanceMethod yX0_takeSteps, Cond.selects RX0 yX0_takeSteps yX0_takeSteps, Cond.initialized RX0, Cond.code yX0_takeSteps cX0_takeSteps 1 none, Cond.fieldLink RX0 49 "SwingCranes$Crane" "soonIn" "I", Cond.fieldLink RX0 55 "SwingCranes$Crane" "laterIn" "I", Cond.fieldLink RX0 52 "SwingCranes$Crane" "soonBy" "I", Cond.fieldLink RX0 35 "SwingCranes$Crane" "want" "I", Cond.fieldLink RX0 58 "SwingCranes$Crane" "laterBy" "I", Cond.methodLink RX0 90 yX0_speedNearerToWant, Cond.instanceMethod yX0_speedNearerToWant, Cond.selects RX0 yX0_speedNearerToWant yX0_speedNearerToWant, Cond.code yX0_speedNearerToWant cX0_speedNearerToWant 3 (some .int), Cond.methodLink RX0 108 yX0_limit, Cond.instanceMethod yX0_limit, Cond.selects RX0 yX0_limit yX0_limit, Cond.code yX0_limit cX0_limit 2 (some .int), Cond.fieldLink RX0 69 "SwingCranes$Layout" "top" "I", Cond.fieldLink RX0 28 "SwingCranes$Crane" "load" "I"]
def wsX0_roll_r2 : List Cond := [Cond.methodLink RX0 74 Lib.Math.max.name, Cond.static Lib.Math.max.name, Cond.initialized "java/lang/Math", Cond.code Lib.Math.max.name Lib.Math.max.code 2 (some .int), Cond.static yX7_keptWithin, Cond.initialized RX7, Cond.code yX7_keptWithin cX7_keptWithin 2 (some .int), Cond.methodLink RX7 239 Lib.Math.min.name, Cond.static Lib.Math.min.name, Cond.code Lib.Math.min.name Lib.Math.min.code 2 (some .int), Cond.methodLink RX7 214 Lib.Math.max.name, Cond.static yX7_wayToStop, Cond.code yX7_wayToStop cX7_wayToStop 4 (some .int), Cond.methodLink RX7 209 Lib.Math.abs.name, Cond.static Lib.Math.abs.name, Cond.code Lib.Math.abs.name Lib.Math.abs.code 1 (some .int), Cond.methodLink RX0 100 yX0_speedForRoom, Cond.instanceMethod yX0_speedForRoom, Cond.selects RX0 yX0_speedForRoom yX0_speedForRoom, Cond.code yX0_speedForRoom cX0_speedForRoom 6 (some .int), Cond.methodLink RX0 84 Lib.Math.abs.name, Cond.methodLink RX0 104 yX0_swingOut, Cond.instanceMethod yX0_swingOut, Cond.selects RX0 yX0_swingOut yX0_swingOut]
def wsX0_roll_r3 : List Cond := [Cond.code yX0_swingOut cX0_swingOut 3 none, Cond.fieldLink RX0 24 "SwingCranes$Crane" "rope" "I", Cond.fieldLink RX0 29 "SwingCranes$Crane" "swing" "I", Cond.fieldLink RX0 32 "SwingCranes$Crane" "rate" "I"]
def wsX0_roll : List Cond := .code yX0_roll cX0_roll 6 none :: ((wsX0_roll_r1 ++ (wsX0_roll_r2 ++ wsX0_roll_r3)) ++ wsX10 ++ wsX00)
def wsX0_hoistRope : List Cond := .code yX0_hoistRope cX0_hoistRope 6 none :: ([.fieldLink RX0 38 "SwingCranes$Crane" "target" "I", .fieldLink RX0 24 "SwingCranes$Crane" "rope" "I", .fieldLink RX0 18 "SwingCranes$Crane" "speed" "I", .methodLink RX0 84 Lib.Math.abs.name, .static Lib.Math.abs.name, .initialized "java/lang/Math", .code Lib.Math.abs.name Lib.Math.abs.code 1 (some .int)] ++ wsX00)
def wsX4_init : List Cond := .code yX4_init cX4_init 1 none :: ([.methodLink RX4 1 objectInit, .instanceMethod objectInit, .code objectInit ⟨#[0xb1]⟩ 1 none])
def wsX4_set : List Cond := .code yX4_set cX4_set 4 none :: ([.fieldLink RX4 7 "SwingCranes$Start" "place" "I", .fieldLink RX4 13 "SwingCranes$Start" "rope" "I", .fieldLink RX4 16 "SwingCranes$Start" "load" "I"] ++ wsX40)
def wsX1_setUsual : List Cond := .code yX1_setUsual cX1_setUsual 1 none :: ([.fieldLink RX1 22 "SwingCranes$Layout" "end" "I", .fieldLink RX1 26 "SwingCranes$Layout" "gap" "I", .fieldLink RX1 29 "SwingCranes$Layout" "change" "I", .fieldLink RX1 32 "SwingCranes$Layout" "top" "I", .fieldLink RX1 35 "SwingCranes$Layout" "hoist" "I", .fieldLink RX1 10 "SwingCranes$Layout" "left" "LSwingCranes$Start;", .fieldLink RX1 16 "SwingCranes$Layout" "right" "LSwingCranes$Start;", .methodLink RX1 38 yX4_set, .instanceMethod yX4_set, .selects RX4 yX4_set yX4_set, .initialized RX4, .code yX4_set cX4_set 4 none, .fieldLink RX4 7 "SwingCranes$Start" "place" "I", .fieldLink RX4 13 "SwingCranes$Start" "rope" "I", .fieldLink RX4 16 "SwingCranes$Start" "load" "I"] ++ wsX10 ++ wsX40)
def wsX1_init_r1 : List Cond := [Cond.methodLink RX1 1 objectInit, Cond.instanceMethod objectInit, Cond.code objectInit ⟨#[0xb1]⟩ 1 none, Cond.classLink RX1 7 RX4, Cond.instantiable RX4 3, Cond.initialized RX4, Cond.fieldLink RX1 10 "SwingCranes$Layout" "left" "LSwingCranes$Start;", Cond.fieldLink RX1 16 "SwingCranes$Layout" "right" "LSwingCranes$Start;", Cond.instanceMethod yX4_init, Cond.code yX4_init cX4_init 1 none, Cond.methodLink RX4 1 objectInit, Cond.methodLink RX1 19 yX1_setUsual, Cond.instanceMethod yX1_setUsual, Cond.selects RX1 yX1_setUsual yX1_setUsual, Cond.initialized RX1, Cond.code yX1_setUsual cX1_setUsual 1 none, Cond.fieldLink RX1 22 "SwingCranes$Layout" "end" "I", Cond.fieldLink RX1 26 "SwingCranes$Layout" "gap" "I", Cond.fieldLink RX1 29 "SwingCranes$Layout" "change" "I", Cond.fieldLink RX1 32 "SwingCranes$Layout" "top" "I", Cond.fieldLink RX1 35 "SwingCranes$Layout" "hoist" "I", Cond.methodLink RX1 38 yX4_set, Cond.instanceMethod yX4_set, Cond.selects RX4 yX4_set yX4_set]
def wsX1_init_r2 : List Cond := [Cond.code yX4_set cX4_set 4 none, Cond.fieldLink RX4 7 "SwingCranes$Start" "place" "I", Cond.fieldLink RX4 13 "SwingCranes$Start" "rope" "I", Cond.fieldLink RX4 16 "SwingCranes$Start" "load" "I"]
def wsX1_init : List Cond := .code yX1_init cX1_init 1 none :: ((wsX1_init_r1 ++ wsX1_init_r2) ++ wsX40 ++ wsX10)
def wsX1_holdsBoth : List Cond := .code yX1_holdsBoth cX1_holdsBoth 1 (some .boolean) :: ([.fieldLink RX1 10 "SwingCranes$Layout" "left" "LSwingCranes$Start;", .fieldLink RX1 42 "SwingCranes$Start" "place" "I", .fieldLink RX1 22 "SwingCranes$Layout" "end" "I", .fieldLink RX1 16 "SwingCranes$Layout" "right" "LSwingCranes$Start;", .fieldLink RX1 26 "SwingCranes$Layout" "gap" "I"] ++ wsX10 ++ wsX40)
def wsX2_init : List Cond := .code yX2_init cX2_init 1 none :: ([.methodLink RX2 3 objectInit, .instanceMethod objectInit, .code objectInit ⟨#[0xb1]⟩ 1 none, .classLink RX2 9 RX0, .instantiable RX0 13, .initialized RX0, .fieldLink RX2 12 "SwingCranes$Pair" "left" "LSwingCranes$Crane;", .fieldLink RX2 18 "SwingCranes$Pair" "right" "LSwingCranes$Crane;", .fieldLink RX2 21 "SwingCranes$Pair" "level" "I", .instanceMethod yX0_init, .code yX0_init cX0_init 1 none, .methodLink RX0 3 objectInit] ++ wsX00 ++ wsX20)
def wsX2_begin_r1 : List Cond := [Cond.fieldLink RX2 12 "SwingCranes$Pair" "left" "LSwingCranes$Crane;", Cond.fieldLink RX2 25 "SwingCranes$Layout" "left" "LSwingCranes$Start;", Cond.fieldLink RX2 18 "SwingCranes$Pair" "right" "LSwingCranes$Crane;", Cond.fieldLink RX2 34 "SwingCranes$Layout" "right" "LSwingCranes$Start;", Cond.fieldLink RX2 21 "SwingCranes$Pair" "level" "I", Cond.methodLink RX2 30 yX0_begin, Cond.instanceMethod yX0_begin, Cond.selects RX0 yX0_begin yX0_begin, Cond.initialized RX0, Cond.code yX0_begin cX0_begin 2 none, Cond.fieldLink RX0 9 "SwingCranes$Start" "place" "I", Cond.fieldLink RX0 15 "SwingCranes$Crane" "place" "I", Cond.fieldLink RX0 18 "SwingCranes$Crane" "speed" "I", Cond.fieldLink RX0 21 "SwingCranes$Start" "rope" "I", Cond.fieldLink RX0 24 "SwingCranes$Crane" "rope" "I", Cond.fieldLink RX0 25 "SwingCranes$Start" "load" "I", Cond.fieldLink RX0 28 "SwingCranes$Crane" "load" "I", Cond.fieldLink RX0 29 "SwingCranes$Crane" "swing" "I", Cond.fieldLink RX0 32 "SwingCranes$Crane" "rate" "I", Cond.fieldLink RX0 35 "SwingCranes$Crane" "want" "I", Cond.fieldLink RX0 38 "SwingCranes$Crane" "target" "I", Cond.fieldLink RX0 45 "SwingCranes$Crane" "braked" "Z", Cond.methodLink RX0 41 yX0_setSteps, Cond.instanceMethod yX0_setSteps]
def wsX2_begin_r2 : List Cond := [Cond.selects RX0 yX0_setSteps yX0_setSteps, Cond.code yX0_setSteps cX0_setSteps 4 none, Cond.fieldLink RX0 49 "SwingCranes$Crane" "soonIn" "I", Cond.fieldLink RX0 52 "SwingCranes$Crane" "soonBy" "I", Cond.fieldLink RX0 55 "SwingCranes$Crane" "laterIn" "I", Cond.fieldLink RX0 58 "SwingCranes$Crane" "laterBy" "I"]
def wsX2_begin : List Cond := .code yX2_begin cX2_begin 2 none :: ((wsX2_begin_r1 ++ wsX2_begin_r2) ++ wsX20 ++ wsX10 ++ wsX40 ++ wsX00)
def wsX2_copyFrom : List Cond := .code yX2_copyFrom cX2_copyFrom 2 none :: ([.fieldLink RX2 12 "SwingCranes$Pair" "left" "LSwingCranes$Crane;", .fieldLink RX2 18 "SwingCranes$Pair" "right" "LSwingCranes$Crane;", .fieldLink RX2 21 "SwingCranes$Pair" "level" "I", .methodLink RX2 36 yX0_copyFrom, .instanceMethod yX0_copyFrom, .selects RX0 yX0_copyFrom yX0_copyFrom, .initialized RX0, .code yX0_copyFrom cX0_copyFrom 2 none, .fieldLink RX0 15 "SwingCranes$Crane" "place" "I", .fieldLink RX0 18 "SwingCranes$Crane" "speed" "I", .fieldLink RX0 24 "SwingCranes$Crane" "rope" "I", .fieldLink RX0 28 "SwingCranes$Crane" "load" "I", .fieldLink RX0 29 "SwingCranes$Crane" "swing" "I", .fieldLink RX0 32 "SwingCranes$Crane" "rate" "I", .fieldLink RX0 35 "SwingCranes$Crane" "want" "I", .fieldLink RX0 38 "SwingCranes$Crane" "target" "I", .fieldLink RX0 49 "SwingCranes$Crane" "soonIn" "I", .fieldLink RX0 52 "SwingCranes$Crane" "soonBy" "I", .fieldLink RX0 55 "SwingCranes$Crane" "laterIn" "I", .fieldLink RX0 58 "SwingCranes$Crane" "laterBy" "I", .fieldLink RX0 45 "SwingCranes$Crane" "braked" "Z"] ++ wsX20 ++ wsX00)
def wsX2_side : List Cond := .code yX2_side cX2_side 2 (some (.object "SwingCranes$Crane")) :: ([.fieldLink RX2 12 "SwingCranes$Pair" "left" "LSwingCranes$Crane;", .fieldLink RX2 18 "SwingCranes$Pair" "right" "LSwingCranes$Crane;"] ++ wsX20)
def wsX2_freeBetween : List Cond := .code yX2_freeBetween cX2_freeBetween 2 (some .int) :: ([.fieldLink RX2 18 "SwingCranes$Pair" "right" "LSwingCranes$Crane;", .fieldLink RX2 40 "SwingCranes$Crane" "place" "I", .fieldLink RX2 12 "SwingCranes$Pair" "left" "LSwingCranes$Crane;", .fieldLink RX2 43 "SwingCranes$Layout" "gap" "I"] ++ wsX20 ++ wsX00 ++ wsX10)
def wsX2_isCoupled : List Cond := .code yX2_isCoupled cX2_isCoupled 1 (some .boolean) :: ([.fieldLink RX2 21 "SwingCranes$Pair" "level" "I"] ++ wsX20)
def wsX2_leftHeeds : List Cond := .code yX2_leftHeeds cX2_leftHeeds 2 (some .boolean) :: ([.methodLink RX2 46 yX2_isCoupled, .instanceMethod yX2_isCoupled, .selects RX2 yX2_isCoupled yX2_isCoupled, .initialized RX2, .code yX2_isCoupled cX2_isCoupled 1 (some .boolean), .fieldLink RX2 21 "SwingCranes$Pair" "level" "I"] ++ wsX20)
def wsX2_rightHeeds : List Cond := .code yX2_rightHeeds cX2_rightHeeds 2 (some .boolean) :: ([.methodLink RX2 46 yX2_isCoupled, .instanceMethod yX2_isCoupled, .selects RX2 yX2_isCoupled yX2_isCoupled, .initialized RX2, .code yX2_isCoupled cX2_isCoupled 1 (some .boolean), .fieldLink RX2 21 "SwingCranes$Pair" "level" "I"] ++ wsX20)
def wsX2_heeding : List Cond := .code yX2_heeding cX2_heeding 1 (some .int) :: ([.methodLink RX2 46 yX2_isCoupled, .instanceMethod yX2_isCoupled, .selects RX2 yX2_isCoupled yX2_isCoupled, .initialized RX2, .code yX2_isCoupled cX2_isCoupled 1 (some .boolean), .fieldLink RX2 21 "SwingCranes$Pair" "level" "I"] ++ wsX20)
def wsX2_tellAtOnce_r1 : List Cond := [Cond.fieldLink RX2 12 "SwingCranes$Pair" "left" "LSwingCranes$Crane;", Cond.fieldLink RX2 18 "SwingCranes$Pair" "right" "LSwingCranes$Crane;", Cond.methodLink RX2 50 yX2_leftHeeds, Cond.instanceMethod yX2_leftHeeds, Cond.selects RX2 yX2_leftHeeds yX2_leftHeeds, Cond.initialized RX2, Cond.code yX2_leftHeeds cX2_leftHeeds 2 (some .boolean), Cond.methodLink RX2 46 yX2_isCoupled, Cond.instanceMethod yX2_isCoupled, Cond.selects RX2 yX2_isCoupled yX2_isCoupled, Cond.code yX2_isCoupled cX2_isCoupled 1 (some .boolean), Cond.fieldLink RX2 21 "SwingCranes$Pair" "level" "I", Cond.methodLink RX2 54 yX0_planAtOnce, Cond.instanceMethod yX0_planAtOnce, Cond.selects RX0 yX0_planAtOnce yX0_planAtOnce, Cond.initialized RX0, Cond.code yX0_planAtOnce cX0_planAtOnce 2 none, Cond.fieldLink RX0 35 "SwingCranes$Crane" "want" "I", Cond.methodLink RX0 41 yX0_setSteps, Cond.instanceMethod yX0_setSteps, Cond.selects RX0 yX0_setSteps yX0_setSteps, Cond.code yX0_setSteps cX0_setSteps 4 none, Cond.fieldLink RX0 49 "SwingCranes$Crane" "soonIn" "I", Cond.fieldLink RX0 52 "SwingCranes$Crane" "soonBy" "I"]
def wsX2_tellAtOnce_r2 : List Cond := [Cond.fieldLink RX0 55 "SwingCranes$Crane" "laterIn" "I", Cond.fieldLink RX0 58 "SwingCranes$Crane" "laterBy" "I", Cond.methodLink RX2 58 yX2_rightHeeds, Cond.instanceMethod yX2_rightHeeds, Cond.selects RX2 yX2_rightHeeds yX2_rightHeeds, Cond.code yX2_rightHeeds cX2_rightHeeds 2 (some .boolean), Cond.methodLink RX2 61 yX2_heeding, Cond.instanceMethod yX2_heeding, Cond.selects RX2 yX2_heeding yX2_heeding, Cond.code yX2_heeding cX2_heeding 1 (some .int)]
def wsX2_tellAtOnce : List Cond := .code yX2_tellAtOnce cX2_tellAtOnce 3 (some .int) :: ((wsX2_tellAtOnce_r1 ++ wsX2_tellAtOnce_r2) ++ wsX20 ++ wsX00)
def wsX2_tellByHalves_r1 : List Cond := [Cond.fieldLink RX2 12 "SwingCranes$Pair" "left" "LSwingCranes$Crane;", Cond.fieldLink RX2 18 "SwingCranes$Pair" "right" "LSwingCranes$Crane;", Cond.methodLink RX2 50 yX2_leftHeeds, Cond.instanceMethod yX2_leftHeeds, Cond.selects RX2 yX2_leftHeeds yX2_leftHeeds, Cond.initialized RX2, Cond.code yX2_leftHeeds cX2_leftHeeds 2 (some .boolean), Cond.methodLink RX2 46 yX2_isCoupled, Cond.instanceMethod yX2_isCoupled, Cond.selects RX2 yX2_isCoupled yX2_isCoupled, Cond.code yX2_isCoupled cX2_isCoupled 1 (some .boolean), Cond.fieldLink RX2 21 "SwingCranes$Pair" "level" "I", Cond.methodLink RX2 65 yX0_planByHalves, Cond.instanceMethod yX0_planByHalves, Cond.selects RX0 yX0_planByHalves yX0_planByHalves, Cond.initialized RX0, Cond.code yX0_planByHalves cX0_planByHalves 5 none, Cond.fieldLink RX0 35 "SwingCranes$Crane" "want" "I", Cond.fieldLink RX0 24 "SwingCranes$Crane" "rope" "I", Cond.static yX7_halfSwing, Cond.initialized RX7, Cond.code yX7_halfSwing cX7_halfSwing 2 (some .int), Cond.methodLink RX0 41 yX0_setSteps, Cond.instanceMethod yX0_setSteps]
def wsX2_tellByHalves_r2 : List Cond := [Cond.selects RX0 yX0_setSteps yX0_setSteps, Cond.code yX0_setSteps cX0_setSteps 4 none, Cond.fieldLink RX0 49 "SwingCranes$Crane" "soonIn" "I", Cond.fieldLink RX0 52 "SwingCranes$Crane" "soonBy" "I", Cond.fieldLink RX0 55 "SwingCranes$Crane" "laterIn" "I", Cond.fieldLink RX0 58 "SwingCranes$Crane" "laterBy" "I", Cond.methodLink RX2 58 yX2_rightHeeds, Cond.instanceMethod yX2_rightHeeds, Cond.selects RX2 yX2_rightHeeds yX2_rightHeeds, Cond.code yX2_rightHeeds cX2_rightHeeds 2 (some .boolean), Cond.methodLink RX2 61 yX2_heeding, Cond.instanceMethod yX2_heeding, Cond.selects RX2 yX2_heeding yX2_heeding, Cond.code yX2_heeding cX2_heeding 1 (some .int)]
def wsX2_tellByHalves : List Cond := .code yX2_tellByHalves cX2_tellByHalves 4 (some .int) :: ((wsX2_tellByHalves_r1 ++ wsX2_tellByHalves_r2) ++ wsX20 ++ wsX00)
def wsX2_aimsAt : List Cond := .code yX2_aimsAt cX2_aimsAt 3 (some .boolean) :: ([.fieldLink RX2 12 "SwingCranes$Pair" "left" "LSwingCranes$Crane;", .fieldLink RX2 69 "SwingCranes$Crane" "target" "I", .fieldLink RX2 18 "SwingCranes$Pair" "right" "LSwingCranes$Crane;", .methodLink RX2 50 yX2_leftHeeds, .instanceMethod yX2_leftHeeds, .selects RX2 yX2_leftHeeds yX2_leftHeeds, .initialized RX2, .code yX2_leftHeeds cX2_leftHeeds 2 (some .boolean), .methodLink RX2 46 yX2_isCoupled, .instanceMethod yX2_isCoupled, .selects RX2 yX2_isCoupled yX2_isCoupled, .code yX2_isCoupled cX2_isCoupled 1 (some .boolean), .fieldLink RX2 21 "SwingCranes$Pair" "level" "I", .methodLink RX2 58 yX2_rightHeeds, .instanceMethod yX2_rightHeeds, .selects RX2 yX2_rightHeeds yX2_rightHeeds, .code yX2_rightHeeds cX2_rightHeeds 2 (some .boolean)] ++ wsX20 ++ wsX00)
def wsX2_aim : List Cond := .code yX2_aim cX2_aim 3 none :: ([.fieldLink RX2 12 "SwingCranes$Pair" "left" "LSwingCranes$Crane;", .fieldLink RX2 69 "SwingCranes$Crane" "target" "I", .fieldLink RX2 18 "SwingCranes$Pair" "right" "LSwingCranes$Crane;", .methodLink RX2 50 yX2_leftHeeds, .instanceMethod yX2_leftHeeds, .selects RX2 yX2_leftHeeds yX2_leftHeeds, .initialized RX2, .code yX2_leftHeeds cX2_leftHeeds 2 (some .boolean), .methodLink RX2 46 yX2_isCoupled, .instanceMethod yX2_isCoupled, .selects RX2 yX2_isCoupled yX2_isCoupled, .code yX2_isCoupled cX2_isCoupled 1 (some .boolean), .fieldLink RX2 21 "SwingCranes$Pair" "level" "I", .methodLink RX2 58 yX2_rightHeeds, .instanceMethod yX2_rightHeeds, .selects RX2 yX2_rightHeeds yX2_rightHeeds, .code yX2_rightHeeds cX2_rightHeeds 2 (some .boolean)] ++ wsX20 ++ wsX00)
def wsX2_goOn_r1 : List Cond := [Cond.fieldLink RX2 12 "SwingCranes$Pair" "left" "LSwingCranes$Crane;", Cond.fieldLink RX2 40 "SwingCranes$Crane" "place" "I", Cond.fieldLink RX2 18 "SwingCranes$Pair" "right" "LSwingCranes$Crane;", Cond.fieldLink RX2 80 "SwingCranes$Layout" "end" "I", Cond.fieldLink RX2 83 "SwingCranes$Layout" "hoist" "I", Cond.fieldLink RX2 86 "SwingCranes$Crane" "rope" "I", Cond.fieldLink RX2 21 "SwingCranes$Pair" "level" "I", Cond.fieldLink RX2 93 "SwingCranes$Crane" "braked" "Z", Cond.methodLink RX2 72 yX2_freeBetween, Cond.instanceMethod yX2_freeBetween, Cond.selects RX2 yX2_freeBetween yX2_freeBetween, Cond.initialized RX2, Cond.code yX2_freeBetween cX2_freeBetween 2 (some .int), Cond.fieldLink RX2 43 "SwingCranes$Layout" "gap" "I", Cond.methodLink RX2 76 yX0_roll, Cond.instanceMethod yX0_roll, Cond.selects RX0 yX0_roll yX0_roll, Cond.initialized RX0, Cond.code yX0_roll cX0_roll 6 none, Cond.fieldLink RX0 94 "SwingCranes$Layout" "change" "I", Cond.fieldLink RX0 45 "SwingCranes$Crane" "braked" "Z", Cond.fieldLink RX0 18 "SwingCranes$Crane" "speed" "I", Cond.fieldLink RX0 15 "SwingCranes$Crane" "place" "I", Cond.methodLink RX0 87 yX0_takeSteps]
def wsX2_goOn_r2 : List Cond := [Cond.instanceMethod yX0_takeSteps, Cond.selects RX0 yX0_takeSteps yX0_takeSteps, Cond.code yX0_takeSteps cX0_takeSteps 1 none, Cond.fieldLink RX0 49 "SwingCranes$Crane" "soonIn" "I", Cond.fieldLink RX0 55 "SwingCranes$Crane" "laterIn" "I", Cond.fieldLink RX0 52 "SwingCranes$Crane" "soonBy" "I", Cond.fieldLink RX0 35 "SwingCranes$Crane" "want" "I", Cond.fieldLink RX0 58 "SwingCranes$Crane" "laterBy" "I", Cond.methodLink RX0 90 yX0_speedNearerToWant, Cond.instanceMethod yX0_speedNearerToWant, Cond.selects RX0 yX0_speedNearerToWant yX0_speedNearerToWant, Cond.code yX0_speedNearerToWant cX0_speedNearerToWant 3 (some .int), Cond.methodLink RX0 108 yX0_limit, Cond.instanceMethod yX0_limit, Cond.selects RX0 yX0_limit yX0_limit, Cond.code yX0_limit cX0_limit 2 (some .int), Cond.fieldLink RX0 69 "SwingCranes$Layout" "top" "I", Cond.fieldLink RX0 28 "SwingCranes$Crane" "load" "I", Cond.methodLink RX0 74 Lib.Math.max.name, Cond.static Lib.Math.max.name, Cond.initialized "java/lang/Math", Cond.code Lib.Math.max.name Lib.Math.max.code 2 (some .int), Cond.static yX7_keptWithin, Cond.initialized RX7]
def wsX2_goOn_r3 : List Cond := [Cond.code yX7_keptWithin cX7_keptWithin 2 (some .int), Cond.methodLink RX7 239 Lib.Math.min.name, Cond.static Lib.Math.min.name, Cond.code Lib.Math.min.name Lib.Math.min.code 2 (some .int), Cond.methodLink RX7 214 Lib.Math.max.name, Cond.static yX7_wayToStop, Cond.code yX7_wayToStop cX7_wayToStop 4 (some .int), Cond.methodLink RX7 209 Lib.Math.abs.name, Cond.static Lib.Math.abs.name, Cond.code Lib.Math.abs.name Lib.Math.abs.code 1 (some .int), Cond.methodLink RX0 100 yX0_speedForRoom, Cond.instanceMethod yX0_speedForRoom, Cond.selects RX0 yX0_speedForRoom yX0_speedForRoom, Cond.code yX0_speedForRoom cX0_speedForRoom 6 (some .int), Cond.methodLink RX0 84 Lib.Math.abs.name, Cond.methodLink RX0 104 yX0_swingOut, Cond.instanceMethod yX0_swingOut, Cond.selects RX0 yX0_swingOut yX0_swingOut, Cond.code yX0_swingOut cX0_swingOut 3 none, Cond.fieldLink RX0 24 "SwingCranes$Crane" "rope" "I", Cond.fieldLink RX0 29 "SwingCranes$Crane" "swing" "I", Cond.fieldLink RX0 32 "SwingCranes$Crane" "rate" "I", Cond.methodLink RX2 89 yX0_hoistRope, Cond.instanceMethod yX0_hoistRope]
def wsX2_goOn_r4 : List Cond := [Cond.selects RX0 yX0_hoistRope yX0_hoistRope, Cond.code yX0_hoistRope cX0_hoistRope 6 none, Cond.fieldLink RX0 38 "SwingCranes$Crane" "target" "I"]
def wsX2_goOn : List Cond := .code yX2_goOn cX2_goOn 3 (some .int) :: ((wsX2_goOn_r1 ++ (wsX2_goOn_r2 ++ (wsX2_goOn_r3 ++ wsX2_goOn_r4))) ++ wsX20 ++ wsX00 ++ wsX10)
def wsX3_init : List Cond := .code yX3_init cX3_init 1 none :: ([.methodLink RX3 3 objectInit, .instanceMethod objectInit, .code objectInit ⟨#[0xb1]⟩ 1 none, .arrayClass .int, .fieldLink RX3 11 "SwingCranes$Spots" "names" "[I", .fieldLink RX3 15 "SwingCranes$Spots" "ticks" "[I"] ++ wsX30)
def wsX3_nameAt : List Cond := .code yX3_nameAt cX3_nameAt 2 (some .int) :: ([.fieldLink RX3 11 "SwingCranes$Spots" "names" "[I"] ++ wsX30)
def wsX3_ticksAt : List Cond := .code yX3_ticksAt cX3_ticksAt 2 (some .int) :: ([.fieldLink RX3 18 "SwingCranes$Spots" "many" "I", .fieldLink RX3 15 "SwingCranes$Spots" "ticks" "[I"] ++ wsX30)
def wsX3_put : List Cond := .code yX3_put cX3_put 4 none :: ([.fieldLink RX3 11 "SwingCranes$Spots" "names" "[I", .fieldLink RX3 15 "SwingCranes$Spots" "ticks" "[I"] ++ wsX30)
def wsX3_copyFrom : List Cond := .code yX3_copyFrom cX3_copyFrom 3 none :: ([.fieldLink RX3 18 "SwingCranes$Spots" "many" "I", .methodLink RX3 22 yX3_nameAt, .instanceMethod yX3_nameAt, .selects RX3 yX3_nameAt yX3_nameAt, .initialized RX3, .code yX3_nameAt cX3_nameAt 2 (some .int), .fieldLink RX3 11 "SwingCranes$Spots" "names" "[I", .methodLink RX3 26 yX3_ticksAt, .instanceMethod yX3_ticksAt, .selects RX3 yX3_ticksAt yX3_ticksAt, .code yX3_ticksAt cX3_ticksAt 2 (some .int), .fieldLink RX3 15 "SwingCranes$Spots" "ticks" "[I", .methodLink RX3 29 yX3_put, .instanceMethod yX3_put, .selects RX3 yX3_put yX3_put, .code yX3_put cX3_put 4 none] ++ wsX30)
def wsX3_nameOf : List Cond := .code yX3_nameOf cX3_nameOf 3 (some .int) :: ([])
def wsX3_find : List Cond := .code yX3_find cX3_find 3 (some .int) :: ([.fieldLink RX3 18 "SwingCranes$Spots" "many" "I", .methodLink RX3 22 yX3_nameAt, .instanceMethod yX3_nameAt, .selects RX3 yX3_nameAt yX3_nameAt, .initialized RX3, .code yX3_nameAt cX3_nameAt 2 (some .int), .fieldLink RX3 11 "SwingCranes$Spots" "names" "[I"] ++ wsX30)
def wsX3_addTick_r1 : List Cond := [Cond.fieldLink RX3 33 "SwingCranes$Crane" "place" "I", Cond.fieldLink RX3 38 "SwingCranes$Crane" "rope" "I", Cond.fieldLink RX3 18 "SwingCranes$Spots" "many" "I", Cond.methodLink RX3 41 yX3_nameOf, Cond.instanceMethod yX3_nameOf, Cond.selects RX3 yX3_nameOf yX3_nameOf, Cond.initialized RX3, Cond.code yX3_nameOf cX3_nameOf 3 (some .int), Cond.methodLink RX3 45 yX3_find, Cond.instanceMethod yX3_find, Cond.selects RX3 yX3_find yX3_find, Cond.code yX3_find cX3_find 3 (some .int), Cond.methodLink RX3 22 yX3_nameAt, Cond.instanceMethod yX3_nameAt, Cond.selects RX3 yX3_nameAt yX3_nameAt, Cond.code yX3_nameAt cX3_nameAt 2 (some .int), Cond.fieldLink RX3 11 "SwingCranes$Spots" "names" "[I", Cond.methodLink RX3 26 yX3_ticksAt, Cond.instanceMethod yX3_ticksAt, Cond.selects RX3 yX3_ticksAt yX3_ticksAt, Cond.code yX3_ticksAt cX3_ticksAt 2 (some .int), Cond.fieldLink RX3 15 "SwingCranes$Spots" "ticks" "[I", Cond.methodLink RX3 29 yX3_put, Cond.instanceMethod yX3_put]
def wsX3_addTick_r2 : List Cond := [Cond.selects RX3 yX3_put yX3_put, Cond.code yX3_put cX3_put 4 none]
def wsX3_addTick : List Cond := .code yX3_addTick cX3_addTick 4 none :: ((wsX3_addTick_r1 ++ wsX3_addTick_r2) ++ wsX00 ++ wsX30)
def wsX3_ticksIn : List Cond := .code yX3_ticksIn cX3_ticksIn 3 (some .int) :: ([.methodLink RX3 41 yX3_nameOf, .instanceMethod yX3_nameOf, .selects RX3 yX3_nameOf yX3_nameOf, .initialized RX3, .code yX3_nameOf cX3_nameOf 3 (some .int), .methodLink RX3 45 yX3_find, .instanceMethod yX3_find, .selects RX3 yX3_find yX3_find, .code yX3_find cX3_find 3 (some .int), .fieldLink RX3 18 "SwingCranes$Spots" "many" "I", .methodLink RX3 22 yX3_nameAt, .instanceMethod yX3_nameAt, .selects RX3 yX3_nameAt yX3_nameAt, .code yX3_nameAt cX3_nameAt 2 (some .int), .fieldLink RX3 11 "SwingCranes$Spots" "names" "[I", .methodLink RX3 26 yX3_ticksAt, .instanceMethod yX3_ticksAt, .selects RX3 yX3_ticksAt yX3_ticksAt, .code yX3_ticksAt cX3_ticksAt 2 (some .int), .fieldLink RX3 15 "SwingCranes$Spots" "ticks" "[I"] ++ wsX30)
def wsX3_blockAt : List Cond := .code yX3_blockAt cX3_blockAt 2 (some .int) :: ([.methodLink RX3 22 yX3_nameAt, .instanceMethod yX3_nameAt, .selects RX3 yX3_nameAt yX3_nameAt, .initialized RX3, .code yX3_nameAt cX3_nameAt 2 (some .int), .fieldLink RX3 11 "SwingCranes$Spots" "names" "[I"] ++ wsX30)
def wsX3_floorAt : List Cond := .code yX3_floorAt cX3_floorAt 2 (some .int) :: ([.methodLink RX3 22 yX3_nameAt, .instanceMethod yX3_nameAt, .selects RX3 yX3_nameAt yX3_nameAt, .initialized RX3, .code yX3_nameAt cX3_nameAt 2 (some .int), .fieldLink RX3 11 "SwingCranes$Spots" "names" "[I"] ++ wsX30)
def wsX5_init_r1 : List Cond := [Cond.methodLink RX5 1 objectInit, Cond.instanceMethod objectInit, Cond.code objectInit ⟨#[0xb1]⟩ 1 none, Cond.classLink RX5 7 RX2, Cond.instantiable RX2 3, Cond.initialized RX2, Cond.fieldLink RX5 10 "SwingCranes$Story" "pair" "LSwingCranes$Pair;", Cond.classLink RX5 16 RX3, Cond.instantiable RX3 3, Cond.initialized RX3, Cond.fieldLink RX5 19 "SwingCranes$Story" "leftSpots" "LSwingCranes$Spots;", Cond.fieldLink RX5 23 "SwingCranes$Story" "rightSpots" "LSwingCranes$Spots;", Cond.instanceMethod yX2_init, Cond.code yX2_init cX2_init 1 none, Cond.methodLink RX2 3 objectInit, Cond.classLink RX2 9 RX0, Cond.instantiable RX0 13, Cond.initialized RX0, Cond.fieldLink RX2 12 "SwingCranes$Pair" "left" "LSwingCranes$Crane;", Cond.fieldLink RX2 18 "SwingCranes$Pair" "right" "LSwingCranes$Crane;", Cond.fieldLink RX2 21 "SwingCranes$Pair" "level" "I", Cond.instanceMethod yX0_init, Cond.code yX0_init cX0_init 1 none, Cond.methodLink RX0 3 objectInit]
def wsX5_init_r2 : List Cond := [Cond.instanceMethod yX3_init, Cond.code yX3_init cX3_init 1 none, Cond.methodLink RX3 3 objectInit, Cond.arrayClass .int, Cond.fieldLink RX3 11 "SwingCranes$Spots" "names" "[I", Cond.fieldLink RX3 15 "SwingCranes$Spots" "ticks" "[I"]
def wsX5_init : List Cond := .code yX5_init cX5_init 1 none :: ((wsX5_init_r1 ++ wsX5_init_r2) ++ wsX20 ++ wsX50 ++ wsX30 ++ wsX00)
def wsX5_begin_r1 : List Cond := [Cond.fieldLink RX5 10 "SwingCranes$Story" "pair" "LSwingCranes$Pair;", Cond.fieldLink RX5 19 "SwingCranes$Story" "leftSpots" "LSwingCranes$Spots;", Cond.fieldLink RX5 30 "SwingCranes$Spots" "many" "I", Cond.fieldLink RX5 23 "SwingCranes$Story" "rightSpots" "LSwingCranes$Spots;", Cond.fieldLink RX5 34 "SwingCranes$Story" "ticks" "I", Cond.methodLink RX5 26 yX2_begin, Cond.instanceMethod yX2_begin, Cond.selects RX2 yX2_begin yX2_begin, Cond.initialized RX2, Cond.code yX2_begin cX2_begin 2 none, Cond.fieldLink RX2 12 "SwingCranes$Pair" "left" "LSwingCranes$Crane;", Cond.fieldLink RX2 25 "SwingCranes$Layout" "left" "LSwingCranes$Start;", Cond.fieldLink RX2 18 "SwingCranes$Pair" "right" "LSwingCranes$Crane;", Cond.fieldLink RX2 34 "SwingCranes$Layout" "right" "LSwingCranes$Start;", Cond.fieldLink RX2 21 "SwingCranes$Pair" "level" "I", Cond.methodLink RX2 30 yX0_begin, Cond.instanceMethod yX0_begin, Cond.selects RX0 yX0_begin yX0_begin, Cond.initialized RX0, Cond.code yX0_begin cX0_begin 2 none, Cond.fieldLink RX0 9 "SwingCranes$Start" "place" "I", Cond.fieldLink RX0 15 "SwingCranes$Crane" "place" "I", Cond.fieldLink RX0 18 "SwingCranes$Crane" "speed" "I", Cond.fieldLink RX0 21 "SwingCranes$Start" "rope" "I"]
def wsX5_begin_r2 : List Cond := [Cond.fieldLink RX0 24 "SwingCranes$Crane" "rope" "I", Cond.fieldLink RX0 25 "SwingCranes$Start" "load" "I", Cond.fieldLink RX0 28 "SwingCranes$Crane" "load" "I", Cond.fieldLink RX0 29 "SwingCranes$Crane" "swing" "I", Cond.fieldLink RX0 32 "SwingCranes$Crane" "rate" "I", Cond.fieldLink RX0 35 "SwingCranes$Crane" "want" "I", Cond.fieldLink RX0 38 "SwingCranes$Crane" "target" "I", Cond.fieldLink RX0 45 "SwingCranes$Crane" "braked" "Z", Cond.methodLink RX0 41 yX0_setSteps, Cond.instanceMethod yX0_setSteps, Cond.selects RX0 yX0_setSteps yX0_setSteps, Cond.code yX0_setSteps cX0_setSteps 4 none, Cond.fieldLink RX0 49 "SwingCranes$Crane" "soonIn" "I", Cond.fieldLink RX0 52 "SwingCranes$Crane" "soonBy" "I", Cond.fieldLink RX0 55 "SwingCranes$Crane" "laterIn" "I", Cond.fieldLink RX0 58 "SwingCranes$Crane" "laterBy" "I"]
def wsX5_begin : List Cond := .code yX5_begin cX5_begin 2 none :: ((wsX5_begin_r1 ++ wsX5_begin_r2) ++ wsX50 ++ wsX30 ++ wsX20 ++ wsX10 ++ wsX40 ++ wsX00)
def wsX5_copyFrom_r1 : List Cond := [Cond.fieldLink RX5 10 "SwingCranes$Story" "pair" "LSwingCranes$Pair;", Cond.fieldLink RX5 19 "SwingCranes$Story" "leftSpots" "LSwingCranes$Spots;", Cond.fieldLink RX5 23 "SwingCranes$Story" "rightSpots" "LSwingCranes$Spots;", Cond.fieldLink RX5 34 "SwingCranes$Story" "ticks" "I", Cond.methodLink RX5 37 yX2_copyFrom, Cond.instanceMethod yX2_copyFrom, Cond.selects RX2 yX2_copyFrom yX2_copyFrom, Cond.initialized RX2, Cond.code yX2_copyFrom cX2_copyFrom 2 none, Cond.fieldLink RX2 12 "SwingCranes$Pair" "left" "LSwingCranes$Crane;", Cond.fieldLink RX2 18 "SwingCranes$Pair" "right" "LSwingCranes$Crane;", Cond.fieldLink RX2 21 "SwingCranes$Pair" "level" "I", Cond.methodLink RX2 36 yX0_copyFrom, Cond.instanceMethod yX0_copyFrom, Cond.selects RX0 yX0_copyFrom yX0_copyFrom, Cond.initialized RX0, Cond.code yX0_copyFrom cX0_copyFrom 2 none, Cond.fieldLink RX0 15 "SwingCranes$Crane" "place" "I", Cond.fieldLink RX0 18 "SwingCranes$Crane" "speed" "I", Cond.fieldLink RX0 24 "SwingCranes$Crane" "rope" "I", Cond.fieldLink RX0 28 "SwingCranes$Crane" "load" "I", Cond.fieldLink RX0 29 "SwingCranes$Crane" "swing" "I", Cond.fieldLink RX0 32 "SwingCranes$Crane" "rate" "I", Cond.fieldLink RX0 35 "SwingCranes$Crane" "want" "I"]
def wsX5_copyFrom_r2 : List Cond := [Cond.fieldLink RX0 38 "SwingCranes$Crane" "target" "I", Cond.fieldLink RX0 49 "SwingCranes$Crane" "soonIn" "I", Cond.fieldLink RX0 52 "SwingCranes$Crane" "soonBy" "I", Cond.fieldLink RX0 55 "SwingCranes$Crane" "laterIn" "I", Cond.fieldLink RX0 58 "SwingCranes$Crane" "laterBy" "I", Cond.fieldLink RX0 45 "SwingCranes$Crane" "braked" "Z", Cond.methodLink RX5 41 yX3_copyFrom, Cond.instanceMethod yX3_copyFrom, Cond.selects RX3 yX3_copyFrom yX3_copyFrom, Cond.initialized RX3, Cond.code yX3_copyFrom cX3_copyFrom 3 none, Cond.fieldLink RX3 18 "SwingCranes$Spots" "many" "I", Cond.methodLink RX3 22 yX3_nameAt, Cond.instanceMethod yX3_nameAt, Cond.selects RX3 yX3_nameAt yX3_nameAt, Cond.code yX3_nameAt cX3_nameAt 2 (some .int), Cond.fieldLink RX3 11 "SwingCranes$Spots" "names" "[I", Cond.methodLink RX3 26 yX3_ticksAt, Cond.instanceMethod yX3_ticksAt, Cond.selects RX3 yX3_ticksAt yX3_ticksAt, Cond.code yX3_ticksAt cX3_ticksAt 2 (some .int), Cond.fieldLink RX3 15 "SwingCranes$Spots" "ticks" "[I", Cond.methodLink RX3 29 yX3_put, Cond.instanceMethod yX3_put]
def wsX5_copyFrom_r3 : List Cond := [Cond.selects RX3 yX3_put yX3_put, Cond.code yX3_put cX3_put 4 none]
def wsX5_copyFrom : List Cond := .code yX5_copyFrom cX5_copyFrom 2 none :: ((wsX5_copyFrom_r1 ++ (wsX5_copyFrom_r2 ++ wsX5_copyFrom_r3)) ++ wsX50 ++ wsX20 ++ wsX00 ++ wsX30)
def wsX5_spotsOf : List Cond := .code yX5_spotsOf cX5_spotsOf 2 (some (.object "SwingCranes$Spots")) :: ([.fieldLink RX5 19 "SwingCranes$Story" "leftSpots" "LSwingCranes$Spots;", .fieldLink RX5 23 "SwingCranes$Story" "rightSpots" "LSwingCranes$Spots;"] ++ wsX50)
def wsX5_goOn_r1 : List Cond := [Cond.fieldLink RX5 10 "SwingCranes$Story" "pair" "LSwingCranes$Pair;", Cond.fieldLink RX5 19 "SwingCranes$Story" "leftSpots" "LSwingCranes$Spots;", Cond.fieldLink RX5 48 "SwingCranes$Pair" "left" "LSwingCranes$Crane;", Cond.fieldLink RX5 23 "SwingCranes$Story" "rightSpots" "LSwingCranes$Spots;", Cond.fieldLink RX5 56 "SwingCranes$Pair" "right" "LSwingCranes$Crane;", Cond.fieldLink RX5 34 "SwingCranes$Story" "ticks" "I", Cond.methodLink RX5 44 yX2_goOn, Cond.instanceMethod yX2_goOn, Cond.selects RX2 yX2_goOn yX2_goOn, Cond.initialized RX2, Cond.code yX2_goOn cX2_goOn 3 (some .int), Cond.fieldLink RX2 12 "SwingCranes$Pair" "left" "LSwingCranes$Crane;", Cond.fieldLink RX2 40 "SwingCranes$Crane" "place" "I", Cond.fieldLink RX2 18 "SwingCranes$Pair" "right" "LSwingCranes$Crane;", Cond.fieldLink RX2 80 "SwingCranes$Layout" "end" "I", Cond.fieldLink RX2 83 "SwingCranes$Layout" "hoist" "I", Cond.fieldLink RX2 86 "SwingCranes$Crane" "rope" "I", Cond.fieldLink RX2 21 "SwingCranes$Pair" "level" "I", Cond.fieldLink RX2 93 "SwingCranes$Crane" "braked" "Z", Cond.methodLink RX2 72 yX2_freeBetween, Cond.instanceMethod yX2_freeBetween, Cond.selects RX2 yX2_freeBetween yX2_freeBetween, Cond.code yX2_freeBetween cX2_freeBetween 2 (some .int), Cond.fieldLink RX2 43 "SwingCranes$Layout" "gap" "I"]
def wsX5_goOn_r2 : List Cond := [Cond.methodLink RX2 76 yX0_roll, Cond.instanceMethod yX0_roll, Cond.selects RX0 yX0_roll yX0_roll, Cond.initialized RX0, Cond.code yX0_roll cX0_roll 6 none, Cond.fieldLink RX0 94 "SwingCranes$Layout" "change" "I", Cond.fieldLink RX0 45 "SwingCranes$Crane" "braked" "Z", Cond.fieldLink RX0 18 "SwingCranes$Crane" "speed" "I", Cond.fieldLink RX0 15 "SwingCranes$Crane" "place" "I", Cond.methodLink RX0 87 yX0_takeSteps, Cond.instanceMethod yX0_takeSteps, Cond.selects RX0 yX0_takeSteps yX0_takeSteps, Cond.code yX0_takeSteps cX0_takeSteps 1 none, Cond.fieldLink RX0 49 "SwingCranes$Crane" "soonIn" "I", Cond.fieldLink RX0 55 "SwingCranes$Crane" "laterIn" "I", Cond.fieldLink RX0 52 "SwingCranes$Crane" "soonBy" "I", Cond.fieldLink RX0 35 "SwingCranes$Crane" "want" "I", Cond.fieldLink RX0 58 "SwingCranes$Crane" "laterBy" "I", Cond.methodLink RX0 90 yX0_speedNearerToWant, Cond.instanceMethod yX0_speedNearerToWant, Cond.selects RX0 yX0_speedNearerToWant yX0_speedNearerToWant, Cond.code yX0_speedNearerToWant cX0_speedNearerToWant 3 (some .int), Cond.methodLink RX0 108 yX0_limit, Cond.instanceMethod yX0_limit]
def wsX5_goOn_r3 : List Cond := [Cond.selects RX0 yX0_limit yX0_limit, Cond.code yX0_limit cX0_limit 2 (some .int), Cond.fieldLink RX0 69 "SwingCranes$Layout" "top" "I", Cond.fieldLink RX0 28 "SwingCranes$Crane" "load" "I", Cond.methodLink RX0 74 Lib.Math.max.name, Cond.static Lib.Math.max.name, Cond.initialized "java/lang/Math", Cond.code Lib.Math.max.name Lib.Math.max.code 2 (some .int), Cond.static yX7_keptWithin, Cond.initialized RX7, Cond.code yX7_keptWithin cX7_keptWithin 2 (some .int), Cond.methodLink RX7 239 Lib.Math.min.name, Cond.static Lib.Math.min.name, Cond.code Lib.Math.min.name Lib.Math.min.code 2 (some .int), Cond.methodLink RX7 214 Lib.Math.max.name, Cond.static yX7_wayToStop, Cond.code yX7_wayToStop cX7_wayToStop 4 (some .int), Cond.methodLink RX7 209 Lib.Math.abs.name, Cond.static Lib.Math.abs.name, Cond.code Lib.Math.abs.name Lib.Math.abs.code 1 (some .int), Cond.methodLink RX0 100 yX0_speedForRoom, Cond.instanceMethod yX0_speedForRoom, Cond.selects RX0 yX0_speedForRoom yX0_speedForRoom, Cond.code yX0_speedForRoom cX0_speedForRoom 6 (some .int)]
def wsX5_goOn_r4 : List Cond := [Cond.methodLink RX0 84 Lib.Math.abs.name, Cond.methodLink RX0 104 yX0_swingOut, Cond.instanceMethod yX0_swingOut, Cond.selects RX0 yX0_swingOut yX0_swingOut, Cond.code yX0_swingOut cX0_swingOut 3 none, Cond.fieldLink RX0 24 "SwingCranes$Crane" "rope" "I", Cond.fieldLink RX0 29 "SwingCranes$Crane" "swing" "I", Cond.fieldLink RX0 32 "SwingCranes$Crane" "rate" "I", Cond.methodLink RX2 89 yX0_hoistRope, Cond.instanceMethod yX0_hoistRope, Cond.selects RX0 yX0_hoistRope yX0_hoistRope, Cond.code yX0_hoistRope cX0_hoistRope 6 none, Cond.fieldLink RX0 38 "SwingCranes$Crane" "target" "I", Cond.methodLink RX5 52 yX3_addTick, Cond.instanceMethod yX3_addTick, Cond.selects RX3 yX3_addTick yX3_addTick, Cond.initialized RX3, Cond.code yX3_addTick cX3_addTick 4 none, Cond.fieldLink RX3 33 "SwingCranes$Crane" "place" "I", Cond.fieldLink RX3 38 "SwingCranes$Crane" "rope" "I", Cond.fieldLink RX3 18 "SwingCranes$Spots" "many" "I", Cond.methodLink RX3 41 yX3_nameOf, Cond.instanceMethod yX3_nameOf, Cond.selects RX3 yX3_nameOf yX3_nameOf]
def wsX5_goOn_r5 : List Cond := [Cond.code yX3_nameOf cX3_nameOf 3 (some .int), Cond.methodLink RX3 45 yX3_find, Cond.instanceMethod yX3_find, Cond.selects RX3 yX3_find yX3_find, Cond.code yX3_find cX3_find 3 (some .int), Cond.methodLink RX3 22 yX3_nameAt, Cond.instanceMethod yX3_nameAt, Cond.selects RX3 yX3_nameAt yX3_nameAt, Cond.code yX3_nameAt cX3_nameAt 2 (some .int), Cond.fieldLink RX3 11 "SwingCranes$Spots" "names" "[I", Cond.methodLink RX3 26 yX3_ticksAt, Cond.instanceMethod yX3_ticksAt, Cond.selects RX3 yX3_ticksAt yX3_ticksAt, Cond.code yX3_ticksAt cX3_ticksAt 2 (some .int), Cond.fieldLink RX3 15 "SwingCranes$Spots" "ticks" "[I", Cond.methodLink RX3 29 yX3_put, Cond.instanceMethod yX3_put, Cond.selects RX3 yX3_put yX3_put, Cond.code yX3_put cX3_put 4 none]
def wsX5_goOn : List Cond := .code yX5_goOn cX5_goOn 3 (some .int) :: ((wsX5_goOn_r1 ++ (wsX5_goOn_r2 ++ (wsX5_goOn_r3 ++ (wsX5_goOn_r4 ++ wsX5_goOn_r5)))) ++ wsX50 ++ wsX20 ++ wsX00 ++ wsX10 ++ wsX30)
def wsX6_init : List Cond := .code yX6_init cX6_init 1 none :: ([.methodLink RX6 3 objectInit, .instanceMethod objectInit, .code objectInit ⟨#[0xb1]⟩ 1 none, .arrayClass .char, .fieldLink RX6 9 "SwingCranes$Text" "letters" "[C"] ++ wsX60)
def wsX6_isFull : List Cond := .code yX6_isFull cX6_isFull 1 (some .boolean) :: ([.fieldLink RX6 15 "SwingCranes$Text" "length" "I"] ++ wsX60)
def wsX6_append : List Cond := .code yX6_append cX6_append 2 none :: ([.fieldLink RX6 15 "SwingCranes$Text" "length" "I", .fieldLink RX6 9 "SwingCranes$Text" "letters" "[C"] ++ wsX60)
def wsX6_letterAt : List Cond := .code yX6_letterAt cX6_letterAt 2 (some .int) :: ([.fieldLink RX6 15 "SwingCranes$Text" "length" "I", .fieldLink RX6 9 "SwingCranes$Text" "letters" "[C"] ++ wsX60)
def wsX7_isWithin : List Cond := .code yX7_isWithin cX7_isWithin 3 (some .boolean) :: ([])
def wsX6_readNumber : List Cond := .code yX6_readNumber cX6_readNumber 5 (some .int) :: ([.fieldLink RX6 24 "SwingCranes$Text" "at" "I", .methodLink RX6 31 yX6_letterAt, .instanceMethod yX6_letterAt, .selects RX6 yX6_letterAt yX6_letterAt, .initialized RX6, .code yX6_letterAt cX6_letterAt 2 (some .int), .fieldLink RX6 15 "SwingCranes$Text" "length" "I", .fieldLink RX6 9 "SwingCranes$Text" "letters" "[C", .static yX7_isWithin, .initialized RX7, .code yX7_isWithin cX7_isWithin 3 (some .boolean)] ++ wsX60)
def wsX6_readEnd : List Cond := .code yX6_readEnd cX6_readEnd 2 (some .boolean) :: ([.fieldLink RX6 51 "SwingCranes$Layout" "end" "I", .methodLink RX6 47 yX6_readNumber, .instanceMethod yX6_readNumber, .selects RX6 yX6_readNumber yX6_readNumber, .initialized RX6, .code yX6_readNumber cX6_readNumber 5 (some .int), .fieldLink RX6 24 "SwingCranes$Text" "at" "I", .methodLink RX6 31 yX6_letterAt, .instanceMethod yX6_letterAt, .selects RX6 yX6_letterAt yX6_letterAt, .code yX6_letterAt cX6_letterAt 2 (some .int), .fieldLink RX6 15 "SwingCranes$Text" "length" "I", .fieldLink RX6 9 "SwingCranes$Text" "letters" "[C", .static yX7_isWithin, .initialized RX7, .code yX7_isWithin cX7_isWithin 3 (some .boolean)] ++ wsX10 ++ wsX60)
def wsX6_readGap : List Cond := .code yX6_readGap cX6_readGap 2 (some .boolean) :: ([.fieldLink RX6 58 "SwingCranes$Layout" "gap" "I", .methodLink RX6 47 yX6_readNumber, .instanceMethod yX6_readNumber, .selects RX6 yX6_readNumber yX6_readNumber, .initialized RX6, .code yX6_readNumber cX6_readNumber 5 (some .int), .fieldLink RX6 24 "SwingCranes$Text" "at" "I", .methodLink RX6 31 yX6_letterAt, .instanceMethod yX6_letterAt, .selects RX6 yX6_letterAt yX6_letterAt, .code yX6_letterAt cX6_letterAt 2 (some .int), .fieldLink RX6 15 "SwingCranes$Text" "length" "I", .fieldLink RX6 9 "SwingCranes$Text" "letters" "[C", .static yX7_isWithin, .initialized RX7, .code yX7_isWithin cX7_isWithin 3 (some .boolean)] ++ wsX10 ++ wsX60)
def wsX7_isCrane : List Cond := .code yX7_isCrane cX7_isCrane 1 (some .boolean) :: ([])
def wsX7_isRope : List Cond := .code yX7_isRope cX7_isRope 1 (some .boolean) :: ([.methodLink RX7 56 yX7_isWithin, .static yX7_isWithin, .initialized RX7, .code yX7_isWithin cX7_isWithin 3 (some .boolean)])
def wsX6_readStart_r1 : List Cond := [Cond.fieldLink RX6 65 "SwingCranes$Layout" "left" "LSwingCranes$Start;", Cond.fieldLink RX6 69 "SwingCranes$Layout" "right" "LSwingCranes$Start;", Cond.fieldLink RX6 72 "SwingCranes$Start" "place" "I", Cond.fieldLink RX6 77 "SwingCranes$Start" "rope" "I", Cond.fieldLink RX6 80 "SwingCranes$Start" "load" "I", Cond.methodLink RX6 47 yX6_readNumber, Cond.instanceMethod yX6_readNumber, Cond.selects RX6 yX6_readNumber yX6_readNumber, Cond.initialized RX6, Cond.code yX6_readNumber cX6_readNumber 5 (some .int), Cond.fieldLink RX6 24 "SwingCranes$Text" "at" "I", Cond.methodLink RX6 31 yX6_letterAt, Cond.instanceMethod yX6_letterAt, Cond.selects RX6 yX6_letterAt yX6_letterAt, Cond.code yX6_letterAt cX6_letterAt 2 (some .int), Cond.fieldLink RX6 15 "SwingCranes$Text" "length" "I", Cond.fieldLink RX6 9 "SwingCranes$Text" "letters" "[C", Cond.static yX7_isWithin, Cond.initialized RX7, Cond.code yX7_isWithin cX7_isWithin 3 (some .boolean), Cond.static yX7_isCrane, Cond.code yX7_isCrane cX7_isCrane 1 (some .boolean), Cond.static yX7_isRope, Cond.code yX7_isRope cX7_isRope 1 (some .boolean)]
def wsX6_readStart_r2 : List Cond := [Cond.methodLink RX7 56 yX7_isWithin]
def wsX6_readStart : List Cond := .code yX6_readStart cX6_readStart 4 (some .boolean) :: ((wsX6_readStart_r1 ++ wsX6_readStart_r2) ++ wsX10 ++ wsX40 ++ wsX60)
def wsX6_readDrive : List Cond := .code yX6_readDrive cX6_readDrive 2 (some .boolean) :: ([.fieldLink RX6 86 "SwingCranes$Layout" "change" "I", .fieldLink RX6 89 "SwingCranes$Layout" "top" "I", .fieldLink RX6 92 "SwingCranes$Layout" "hoist" "I", .methodLink RX6 47 yX6_readNumber, .instanceMethod yX6_readNumber, .selects RX6 yX6_readNumber yX6_readNumber, .initialized RX6, .code yX6_readNumber cX6_readNumber 5 (some .int), .fieldLink RX6 24 "SwingCranes$Text" "at" "I", .methodLink RX6 31 yX6_letterAt, .instanceMethod yX6_letterAt, .selects RX6 yX6_letterAt yX6_letterAt, .code yX6_letterAt cX6_letterAt 2 (some .int), .fieldLink RX6 15 "SwingCranes$Text" "length" "I", .fieldLink RX6 9 "SwingCranes$Text" "letters" "[C", .static yX7_isWithin, .initialized RX7, .code yX7_isWithin cX7_isWithin 3 (some .boolean)] ++ wsX10 ++ wsX60)
def wsX6_readItem_r1 : List Cond := [Cond.fieldLink RX6 24 "SwingCranes$Text" "at" "I", Cond.methodLink RX6 31 yX6_letterAt, Cond.instanceMethod yX6_letterAt, Cond.selects RX6 yX6_letterAt yX6_letterAt, Cond.initialized RX6, Cond.code yX6_letterAt cX6_letterAt 2 (some .int), Cond.fieldLink RX6 15 "SwingCranes$Text" "length" "I", Cond.fieldLink RX6 9 "SwingCranes$Text" "letters" "[C", Cond.methodLink RX6 35 yX6_readEnd, Cond.instanceMethod yX6_readEnd, Cond.selects RX6 yX6_readEnd yX6_readEnd, Cond.code yX6_readEnd cX6_readEnd 2 (some .boolean), Cond.fieldLink RX6 51 "SwingCranes$Layout" "end" "I", Cond.methodLink RX6 47 yX6_readNumber, Cond.instanceMethod yX6_readNumber, Cond.selects RX6 yX6_readNumber yX6_readNumber, Cond.code yX6_readNumber cX6_readNumber 5 (some .int), Cond.static yX7_isWithin, Cond.initialized RX7, Cond.code yX7_isWithin cX7_isWithin 3 (some .boolean), Cond.methodLink RX6 38 yX6_readGap, Cond.instanceMethod yX6_readGap, Cond.selects RX6 yX6_readGap yX6_readGap, Cond.code yX6_readGap cX6_readGap 2 (some .boolean)]
def wsX6_readItem_r2 : List Cond := [Cond.fieldLink RX6 58 "SwingCranes$Layout" "gap" "I", Cond.methodLink RX6 41 yX6_readStart, Cond.instanceMethod yX6_readStart, Cond.selects RX6 yX6_readStart yX6_readStart, Cond.code yX6_readStart cX6_readStart 4 (some .boolean), Cond.fieldLink RX6 65 "SwingCranes$Layout" "left" "LSwingCranes$Start;", Cond.fieldLink RX6 69 "SwingCranes$Layout" "right" "LSwingCranes$Start;", Cond.fieldLink RX6 72 "SwingCranes$Start" "place" "I", Cond.fieldLink RX6 77 "SwingCranes$Start" "rope" "I", Cond.fieldLink RX6 80 "SwingCranes$Start" "load" "I", Cond.static yX7_isCrane, Cond.code yX7_isCrane cX7_isCrane 1 (some .boolean), Cond.static yX7_isRope, Cond.code yX7_isRope cX7_isRope 1 (some .boolean), Cond.methodLink RX7 56 yX7_isWithin, Cond.methodLink RX6 44 yX6_readDrive, Cond.instanceMethod yX6_readDrive, Cond.selects RX6 yX6_readDrive yX6_readDrive, Cond.code yX6_readDrive cX6_readDrive 2 (some .boolean), Cond.fieldLink RX6 86 "SwingCranes$Layout" "change" "I", Cond.fieldLink RX6 89 "SwingCranes$Layout" "top" "I", Cond.fieldLink RX6 92 "SwingCranes$Layout" "hoist" "I"]
def wsX6_readItem : List Cond := .code yX6_readItem cX6_readItem 3 (some .boolean) :: ((wsX6_readItem_r1 ++ wsX6_readItem_r2) ++ wsX60 ++ wsX10 ++ wsX40)
def wsX6_readInto_r1 : List Cond := [Cond.fieldLink RX6 24 "SwingCranes$Text" "at" "I", Cond.fieldLink RX6 15 "SwingCranes$Text" "length" "I", Cond.methodLink RX6 19 yX1_setUsual, Cond.instanceMethod yX1_setUsual, Cond.selects RX1 yX1_setUsual yX1_setUsual, Cond.initialized RX1, Cond.code yX1_setUsual cX1_setUsual 1 none, Cond.fieldLink RX1 22 "SwingCranes$Layout" "end" "I", Cond.fieldLink RX1 26 "SwingCranes$Layout" "gap" "I", Cond.fieldLink RX1 29 "SwingCranes$Layout" "change" "I", Cond.fieldLink RX1 32 "SwingCranes$Layout" "top" "I", Cond.fieldLink RX1 35 "SwingCranes$Layout" "hoist" "I", Cond.fieldLink RX1 10 "SwingCranes$Layout" "left" "LSwingCranes$Start;", Cond.fieldLink RX1 16 "SwingCranes$Layout" "right" "LSwingCranes$Start;", Cond.methodLink RX1 38 yX4_set, Cond.instanceMethod yX4_set, Cond.selects RX4 yX4_set yX4_set, Cond.initialized RX4, Cond.code yX4_set cX4_set 4 none, Cond.fieldLink RX4 7 "SwingCranes$Start" "place" "I", Cond.fieldLink RX4 13 "SwingCranes$Start" "rope" "I", Cond.fieldLink RX4 16 "SwingCranes$Start" "load" "I", Cond.methodLink RX6 27 yX6_readItem, Cond.instanceMethod yX6_readItem]
def wsX6_readInto_r2 : List Cond := [Cond.selects RX6 yX6_readItem yX6_readItem, Cond.initialized RX6, Cond.code yX6_readItem cX6_readItem 3 (some .boolean), Cond.methodLink RX6 31 yX6_letterAt, Cond.instanceMethod yX6_letterAt, Cond.selects RX6 yX6_letterAt yX6_letterAt, Cond.code yX6_letterAt cX6_letterAt 2 (some .int), Cond.fieldLink RX6 9 "SwingCranes$Text" "letters" "[C", Cond.methodLink RX6 35 yX6_readEnd, Cond.instanceMethod yX6_readEnd, Cond.selects RX6 yX6_readEnd yX6_readEnd, Cond.code yX6_readEnd cX6_readEnd 2 (some .boolean), Cond.fieldLink RX6 51 "SwingCranes$Layout" "end" "I", Cond.methodLink RX6 47 yX6_readNumber, Cond.instanceMethod yX6_readNumber, Cond.selects RX6 yX6_readNumber yX6_readNumber, Cond.code yX6_readNumber cX6_readNumber 5 (some .int), Cond.static yX7_isWithin, Cond.initialized RX7, Cond.code yX7_isWithin cX7_isWithin 3 (some .boolean), Cond.methodLink RX6 38 yX6_readGap, Cond.instanceMethod yX6_readGap, Cond.selects RX6 yX6_readGap yX6_readGap, Cond.code yX6_readGap cX6_readGap 2 (some .boolean)]
def wsX6_readInto_r3 : List Cond := [Cond.fieldLink RX6 58 "SwingCranes$Layout" "gap" "I", Cond.methodLink RX6 41 yX6_readStart, Cond.instanceMethod yX6_readStart, Cond.selects RX6 yX6_readStart yX6_readStart, Cond.code yX6_readStart cX6_readStart 4 (some .boolean), Cond.fieldLink RX6 65 "SwingCranes$Layout" "left" "LSwingCranes$Start;", Cond.fieldLink RX6 69 "SwingCranes$Layout" "right" "LSwingCranes$Start;", Cond.fieldLink RX6 72 "SwingCranes$Start" "place" "I", Cond.fieldLink RX6 77 "SwingCranes$Start" "rope" "I", Cond.fieldLink RX6 80 "SwingCranes$Start" "load" "I", Cond.static yX7_isCrane, Cond.code yX7_isCrane cX7_isCrane 1 (some .boolean), Cond.static yX7_isRope, Cond.code yX7_isRope cX7_isRope 1 (some .boolean), Cond.methodLink RX7 56 yX7_isWithin, Cond.methodLink RX6 44 yX6_readDrive, Cond.instanceMethod yX6_readDrive, Cond.selects RX6 yX6_readDrive yX6_readDrive, Cond.code yX6_readDrive cX6_readDrive 2 (some .boolean), Cond.fieldLink RX6 86 "SwingCranes$Layout" "change" "I", Cond.fieldLink RX6 89 "SwingCranes$Layout" "top" "I", Cond.fieldLink RX6 92 "SwingCranes$Layout" "hoist" "I"]
def wsX6_readInto : List Cond := .code yX6_readInto cX6_readInto 4 (some .int) :: ((wsX6_readInto_r1 ++ (wsX6_readInto_r2 ++ wsX6_readInto_r3)) ++ wsX60 ++ wsX10 ++ wsX40)
def wsX7_init_r1 : List Cond := [Cond.methodLink RX7 1 objectInit, Cond.instanceMethod objectInit, Cond.code objectInit ⟨#[0xb1]⟩ 1 none, Cond.classLink RX7 7 RX6, Cond.instantiable RX6 3, Cond.initialized RX6, Cond.fieldLink RX7 10 "SwingCranes" "text" "LSwingCranes$Text;", Cond.classLink RX7 16 RX2, Cond.instantiable RX2 3, Cond.initialized RX2, Cond.fieldLink RX7 19 "SwingCranes" "trial" "LSwingCranes$Pair;", Cond.classLink RX7 23 RX1, Cond.instantiable RX1 7, Cond.initialized RX1, Cond.fieldLink RX7 26 "SwingCranes" "rules" "LSwingCranes$Layout;", Cond.fieldLink RX7 30 "SwingCranes" "draft" "LSwingCranes$Layout;", Cond.classLink RX7 33 RX5, Cond.instantiable RX5 4, Cond.initialized RX5, Cond.fieldLink RX7 36 "SwingCranes" "now" "LSwingCranes$Story;", Cond.fieldLink RX7 40 "SwingCranes" "firstBack" "LSwingCranes$Story;", Cond.fieldLink RX7 43 "SwingCranes" "secondBack" "LSwingCranes$Story;", Cond.fieldLink RX7 46 "SwingCranes" "thirdBack" "LSwingCranes$Story;", Cond.fieldLink RX7 49 "SwingCranes" "fourthBack" "LSwingCranes$Story;"]
def wsX7_init_r2 : List Cond := [Cond.instanceMethod yX6_init, Cond.code yX6_init cX6_init 1 none, Cond.methodLink RX6 3 objectInit, Cond.arrayClass .char, Cond.fieldLink RX6 9 "SwingCranes$Text" "letters" "[C", Cond.instanceMethod yX2_init, Cond.code yX2_init cX2_init 1 none, Cond.methodLink RX2 3 objectInit, Cond.classLink RX2 9 RX0, Cond.instantiable RX0 13, Cond.initialized RX0, Cond.fieldLink RX2 12 "SwingCranes$Pair" "left" "LSwingCranes$Crane;", Cond.fieldLink RX2 18 "SwingCranes$Pair" "right" "LSwingCranes$Crane;", Cond.fieldLink RX2 21 "SwingCranes$Pair" "level" "I", Cond.instanceMethod yX0_init, Cond.code yX0_init cX0_init 1 none, Cond.methodLink RX0 3 objectInit, Cond.methodLink RX7 25 yX1_init, Cond.instanceMethod yX1_init, Cond.code yX1_init cX1_init 1 none, Cond.methodLink RX1 1 objectInit, Cond.classLink RX1 7 RX4, Cond.instantiable RX4 3, Cond.initialized RX4]
def wsX7_init_r3 : List Cond := [Cond.fieldLink RX1 10 "SwingCranes$Layout" "left" "LSwingCranes$Start;", Cond.fieldLink RX1 16 "SwingCranes$Layout" "right" "LSwingCranes$Start;", Cond.instanceMethod yX4_init, Cond.code yX4_init cX4_init 1 none, Cond.methodLink RX4 1 objectInit, Cond.methodLink RX1 19 yX1_setUsual, Cond.instanceMethod yX1_setUsual, Cond.selects RX1 yX1_setUsual yX1_setUsual, Cond.code yX1_setUsual cX1_setUsual 1 none, Cond.fieldLink RX1 22 "SwingCranes$Layout" "end" "I", Cond.fieldLink RX1 26 "SwingCranes$Layout" "gap" "I", Cond.fieldLink RX1 29 "SwingCranes$Layout" "change" "I", Cond.fieldLink RX1 32 "SwingCranes$Layout" "top" "I", Cond.fieldLink RX1 35 "SwingCranes$Layout" "hoist" "I", Cond.methodLink RX1 38 yX4_set, Cond.instanceMethod yX4_set, Cond.selects RX4 yX4_set yX4_set, Cond.code yX4_set cX4_set 4 none, Cond.fieldLink RX4 7 "SwingCranes$Start" "place" "I", Cond.fieldLink RX4 13 "SwingCranes$Start" "rope" "I", Cond.fieldLink RX4 16 "SwingCranes$Start" "load" "I", Cond.instanceMethod yX5_init, Cond.code yX5_init cX5_init 1 none, Cond.methodLink RX5 1 objectInit]
def wsX7_init_r4 : List Cond := [Cond.classLink RX5 7 RX2, Cond.fieldLink RX5 10 "SwingCranes$Story" "pair" "LSwingCranes$Pair;", Cond.classLink RX5 16 RX3, Cond.instantiable RX3 3, Cond.initialized RX3, Cond.fieldLink RX5 19 "SwingCranes$Story" "leftSpots" "LSwingCranes$Spots;", Cond.fieldLink RX5 23 "SwingCranes$Story" "rightSpots" "LSwingCranes$Spots;", Cond.instanceMethod yX3_init, Cond.code yX3_init cX3_init 1 none, Cond.methodLink RX3 3 objectInit, Cond.arrayClass .int, Cond.fieldLink RX3 11 "SwingCranes$Spots" "names" "[I", Cond.fieldLink RX3 15 "SwingCranes$Spots" "ticks" "[I", Cond.methodLink RX7 52 yX5_begin, Cond.instanceMethod yX5_begin, Cond.selects RX5 yX5_begin yX5_begin, Cond.code yX5_begin cX5_begin 2 none, Cond.fieldLink RX5 30 "SwingCranes$Spots" "many" "I", Cond.fieldLink RX5 34 "SwingCranes$Story" "ticks" "I", Cond.methodLink RX5 26 yX2_begin, Cond.instanceMethod yX2_begin, Cond.selects RX2 yX2_begin yX2_begin, Cond.code yX2_begin cX2_begin 2 none, Cond.fieldLink RX2 25 "SwingCranes$Layout" "left" "LSwingCranes$Start;"]
def wsX7_init_r5 : List Cond := [Cond.fieldLink RX2 34 "SwingCranes$Layout" "right" "LSwingCranes$Start;", Cond.methodLink RX2 30 yX0_begin, Cond.instanceMethod yX0_begin, Cond.selects RX0 yX0_begin yX0_begin, Cond.code yX0_begin cX0_begin 2 none, Cond.fieldLink RX0 9 "SwingCranes$Start" "place" "I", Cond.fieldLink RX0 15 "SwingCranes$Crane" "place" "I", Cond.fieldLink RX0 18 "SwingCranes$Crane" "speed" "I", Cond.fieldLink RX0 21 "SwingCranes$Start" "rope" "I", Cond.fieldLink RX0 24 "SwingCranes$Crane" "rope" "I", Cond.fieldLink RX0 25 "SwingCranes$Start" "load" "I", Cond.fieldLink RX0 28 "SwingCranes$Crane" "load" "I", Cond.fieldLink RX0 29 "SwingCranes$Crane" "swing" "I", Cond.fieldLink RX0 32 "SwingCranes$Crane" "rate" "I", Cond.fieldLink RX0 35 "SwingCranes$Crane" "want" "I", Cond.fieldLink RX0 38 "SwingCranes$Crane" "target" "I", Cond.fieldLink RX0 45 "SwingCranes$Crane" "braked" "Z", Cond.methodLink RX0 41 yX0_setSteps, Cond.instanceMethod yX0_setSteps, Cond.selects RX0 yX0_setSteps yX0_setSteps, Cond.code yX0_setSteps cX0_setSteps 4 none, Cond.fieldLink RX0 49 "SwingCranes$Crane" "soonIn" "I", Cond.fieldLink RX0 52 "SwingCranes$Crane" "soonBy" "I", Cond.fieldLink RX0 55 "SwingCranes$Crane" "laterIn" "I"]
def wsX7_init_r6 : List Cond := [Cond.fieldLink RX0 58 "SwingCranes$Crane" "laterBy" "I"]
def wsX7_init : List Cond := .code yX7_init cX7_init 1 none :: ((wsX7_init_r1 ++ (wsX7_init_r2 ++ (wsX7_init_r3 ++ (wsX7_init_r4 ++ (wsX7_init_r5 ++ wsX7_init_r6))))) ++ wsX60 ++ wsX70 ++ wsX20 ++ wsX10 ++ wsX50 ++ wsX00 ++ wsX40 ++ wsX30)
def wsX7_write : List Cond := .code yX7_write cX7_write 2 (some .int) :: ([.fieldLink RX7 10 "SwingCranes" "text" "LSwingCranes$Text;", .fieldLink RX7 68 "SwingCranes$Text" "length" "I", .methodLink RX7 56 yX7_isWithin, .static yX7_isWithin, .initialized RX7, .code yX7_isWithin cX7_isWithin 3 (some .boolean), .methodLink RX7 60 yX6_isFull, .instanceMethod yX6_isFull, .selects RX6 yX6_isFull yX6_isFull, .initialized RX6, .code yX6_isFull cX6_isFull 1 (some .boolean), .fieldLink RX6 15 "SwingCranes$Text" "length" "I", .methodLink RX7 64 yX6_append, .instanceMethod yX6_append, .selects RX6 yX6_append yX6_append, .code yX6_append cX6_append 2 none, .fieldLink RX6 9 "SwingCranes$Text" "letters" "[C"] ++ wsX70 ++ wsX60)
def wsX7_wipe : List Cond := .code yX7_wipe cX7_wipe 2 (some .int) :: ([.fieldLink RX7 10 "SwingCranes" "text" "LSwingCranes$Text;", .fieldLink RX7 68 "SwingCranes$Text" "length" "I"] ++ wsX70 ++ wsX60)
def wsX7_fault_r1 : List Cond := [Cond.fieldLink RX7 10 "SwingCranes" "text" "LSwingCranes$Text;", Cond.fieldLink RX7 30 "SwingCranes" "draft" "LSwingCranes$Layout;", Cond.methodLink RX7 72 yX6_readInto, Cond.instanceMethod yX6_readInto, Cond.selects RX6 yX6_readInto yX6_readInto, Cond.initialized RX6, Cond.code yX6_readInto cX6_readInto 4 (some .int), Cond.fieldLink RX6 24 "SwingCranes$Text" "at" "I", Cond.fieldLink RX6 15 "SwingCranes$Text" "length" "I", Cond.methodLink RX6 19 yX1_setUsual, Cond.instanceMethod yX1_setUsual, Cond.selects RX1 yX1_setUsual yX1_setUsual, Cond.initialized RX1, Cond.code yX1_setUsual cX1_setUsual 1 none, Cond.fieldLink RX1 22 "SwingCranes$Layout" "end" "I", Cond.fieldLink RX1 26 "SwingCranes$Layout" "gap" "I", Cond.fieldLink RX1 29 "SwingCranes$Layout" "change" "I", Cond.fieldLink RX1 32 "SwingCranes$Layout" "top" "I", Cond.fieldLink RX1 35 "SwingCranes$Layout" "hoist" "I", Cond.fieldLink RX1 10 "SwingCranes$Layout" "left" "LSwingCranes$Start;", Cond.fieldLink RX1 16 "SwingCranes$Layout" "right" "LSwingCranes$Start;", Cond.methodLink RX1 38 yX4_set, Cond.instanceMethod yX4_set, Cond.selects RX4 yX4_set yX4_set]
def wsX7_fault_r2 : List Cond := [Cond.initialized RX4, Cond.code yX4_set cX4_set 4 none, Cond.fieldLink RX4 7 "SwingCranes$Start" "place" "I", Cond.fieldLink RX4 13 "SwingCranes$Start" "rope" "I", Cond.fieldLink RX4 16 "SwingCranes$Start" "load" "I", Cond.methodLink RX6 27 yX6_readItem, Cond.instanceMethod yX6_readItem, Cond.selects RX6 yX6_readItem yX6_readItem, Cond.code yX6_readItem cX6_readItem 3 (some .boolean), Cond.methodLink RX6 31 yX6_letterAt, Cond.instanceMethod yX6_letterAt, Cond.selects RX6 yX6_letterAt yX6_letterAt, Cond.code yX6_letterAt cX6_letterAt 2 (some .int), Cond.fieldLink RX6 9 "SwingCranes$Text" "letters" "[C", Cond.methodLink RX6 35 yX6_readEnd, Cond.instanceMethod yX6_readEnd, Cond.selects RX6 yX6_readEnd yX6_readEnd, Cond.code yX6_readEnd cX6_readEnd 2 (some .boolean), Cond.fieldLink RX6 51 "SwingCranes$Layout" "end" "I", Cond.methodLink RX6 47 yX6_readNumber, Cond.instanceMethod yX6_readNumber, Cond.selects RX6 yX6_readNumber yX6_readNumber, Cond.code yX6_readNumber cX6_readNumber 5 (some .int), Cond.static yX7_isWithin]
def wsX7_fault_r3 : List Cond := [Cond.initialized RX7, Cond.code yX7_isWithin cX7_isWithin 3 (some .boolean), Cond.methodLink RX6 38 yX6_readGap, Cond.instanceMethod yX6_readGap, Cond.selects RX6 yX6_readGap yX6_readGap, Cond.code yX6_readGap cX6_readGap 2 (some .boolean), Cond.fieldLink RX6 58 "SwingCranes$Layout" "gap" "I", Cond.methodLink RX6 41 yX6_readStart, Cond.instanceMethod yX6_readStart, Cond.selects RX6 yX6_readStart yX6_readStart, Cond.code yX6_readStart cX6_readStart 4 (some .boolean), Cond.fieldLink RX6 65 "SwingCranes$Layout" "left" "LSwingCranes$Start;", Cond.fieldLink RX6 69 "SwingCranes$Layout" "right" "LSwingCranes$Start;", Cond.fieldLink RX6 72 "SwingCranes$Start" "place" "I", Cond.fieldLink RX6 77 "SwingCranes$Start" "rope" "I", Cond.fieldLink RX6 80 "SwingCranes$Start" "load" "I", Cond.static yX7_isCrane, Cond.code yX7_isCrane cX7_isCrane 1 (some .boolean), Cond.static yX7_isRope, Cond.code yX7_isRope cX7_isRope 1 (some .boolean), Cond.methodLink RX7 56 yX7_isWithin, Cond.methodLink RX6 44 yX6_readDrive, Cond.instanceMethod yX6_readDrive, Cond.selects RX6 yX6_readDrive yX6_readDrive]
def wsX7_fault_r4 : List Cond := [Cond.code yX6_readDrive cX6_readDrive 2 (some .boolean), Cond.fieldLink RX6 86 "SwingCranes$Layout" "change" "I", Cond.fieldLink RX6 89 "SwingCranes$Layout" "top" "I", Cond.fieldLink RX6 92 "SwingCranes$Layout" "hoist" "I"]
def wsX7_fault : List Cond := .code yX7_fault cX7_fault 1 (some .int) :: ((wsX7_fault_r1 ++ (wsX7_fault_r2 ++ (wsX7_fault_r3 ++ wsX7_fault_r4))) ++ wsX70 ++ wsX60 ++ wsX10 ++ wsX40)
def wsX7_lay_r1 : List Cond := [Cond.fieldLink RX7 10 "SwingCranes" "text" "LSwingCranes$Text;", Cond.fieldLink RX7 30 "SwingCranes" "draft" "LSwingCranes$Layout;", Cond.fieldLink RX7 26 "SwingCranes" "rules" "LSwingCranes$Layout;", Cond.fieldLink RX7 36 "SwingCranes" "now" "LSwingCranes$Story;", Cond.fieldLink RX7 79 "SwingCranes" "undoable" "I", Cond.fieldLink RX7 82 "SwingCranes$Layout" "end" "I", Cond.methodLink RX7 72 yX6_readInto, Cond.instanceMethod yX6_readInto, Cond.selects RX6 yX6_readInto yX6_readInto, Cond.initialized RX6, Cond.code yX6_readInto cX6_readInto 4 (some .int), Cond.fieldLink RX6 24 "SwingCranes$Text" "at" "I", Cond.fieldLink RX6 15 "SwingCranes$Text" "length" "I", Cond.methodLink RX6 19 yX1_setUsual, Cond.instanceMethod yX1_setUsual, Cond.selects RX1 yX1_setUsual yX1_setUsual, Cond.initialized RX1, Cond.code yX1_setUsual cX1_setUsual 1 none, Cond.fieldLink RX1 22 "SwingCranes$Layout" "end" "I", Cond.fieldLink RX1 26 "SwingCranes$Layout" "gap" "I", Cond.fieldLink RX1 29 "SwingCranes$Layout" "change" "I", Cond.fieldLink RX1 32 "SwingCranes$Layout" "top" "I", Cond.fieldLink RX1 35 "SwingCranes$Layout" "hoist" "I", Cond.fieldLink RX1 10 "SwingCranes$Layout" "left" "LSwingCranes$Start;"]
def wsX7_lay_r2 : List Cond := [Cond.fieldLink RX1 16 "SwingCranes$Layout" "right" "LSwingCranes$Start;", Cond.methodLink RX1 38 yX4_set, Cond.instanceMethod yX4_set, Cond.selects RX4 yX4_set yX4_set, Cond.initialized RX4, Cond.code yX4_set cX4_set 4 none, Cond.fieldLink RX4 7 "SwingCranes$Start" "place" "I", Cond.fieldLink RX4 13 "SwingCranes$Start" "rope" "I", Cond.fieldLink RX4 16 "SwingCranes$Start" "load" "I", Cond.methodLink RX6 27 yX6_readItem, Cond.instanceMethod yX6_readItem, Cond.selects RX6 yX6_readItem yX6_readItem, Cond.code yX6_readItem cX6_readItem 3 (some .boolean), Cond.methodLink RX6 31 yX6_letterAt, Cond.instanceMethod yX6_letterAt, Cond.selects RX6 yX6_letterAt yX6_letterAt, Cond.code yX6_letterAt cX6_letterAt 2 (some .int), Cond.fieldLink RX6 9 "SwingCranes$Text" "letters" "[C", Cond.methodLink RX6 35 yX6_readEnd, Cond.instanceMethod yX6_readEnd, Cond.selects RX6 yX6_readEnd yX6_readEnd, Cond.code yX6_readEnd cX6_readEnd 2 (some .boolean), Cond.fieldLink RX6 51 "SwingCranes$Layout" "end" "I", Cond.methodLink RX6 47 yX6_readNumber]
def wsX7_lay_r3 : List Cond := [Cond.instanceMethod yX6_readNumber, Cond.selects RX6 yX6_readNumber yX6_readNumber, Cond.code yX6_readNumber cX6_readNumber 5 (some .int), Cond.static yX7_isWithin, Cond.initialized RX7, Cond.code yX7_isWithin cX7_isWithin 3 (some .boolean), Cond.methodLink RX6 38 yX6_readGap, Cond.instanceMethod yX6_readGap, Cond.selects RX6 yX6_readGap yX6_readGap, Cond.code yX6_readGap cX6_readGap 2 (some .boolean), Cond.fieldLink RX6 58 "SwingCranes$Layout" "gap" "I", Cond.methodLink RX6 41 yX6_readStart, Cond.instanceMethod yX6_readStart, Cond.selects RX6 yX6_readStart yX6_readStart, Cond.code yX6_readStart cX6_readStart 4 (some .boolean), Cond.fieldLink RX6 65 "SwingCranes$Layout" "left" "LSwingCranes$Start;", Cond.fieldLink RX6 69 "SwingCranes$Layout" "right" "LSwingCranes$Start;", Cond.fieldLink RX6 72 "SwingCranes$Start" "place" "I", Cond.fieldLink RX6 77 "SwingCranes$Start" "rope" "I", Cond.fieldLink RX6 80 "SwingCranes$Start" "load" "I", Cond.static yX7_isCrane, Cond.code yX7_isCrane cX7_isCrane 1 (some .boolean), Cond.static yX7_isRope, Cond.code yX7_isRope cX7_isRope 1 (some .boolean)]
def wsX7_lay_r4 : List Cond := [Cond.methodLink RX7 56 yX7_isWithin, Cond.methodLink RX6 44 yX6_readDrive, Cond.instanceMethod yX6_readDrive, Cond.selects RX6 yX6_readDrive yX6_readDrive, Cond.code yX6_readDrive cX6_readDrive 2 (some .boolean), Cond.fieldLink RX6 86 "SwingCranes$Layout" "change" "I", Cond.fieldLink RX6 89 "SwingCranes$Layout" "top" "I", Cond.fieldLink RX6 92 "SwingCranes$Layout" "hoist" "I", Cond.methodLink RX7 76 yX1_holdsBoth, Cond.instanceMethod yX1_holdsBoth, Cond.selects RX1 yX1_holdsBoth yX1_holdsBoth, Cond.code yX1_holdsBoth cX1_holdsBoth 1 (some .boolean), Cond.fieldLink RX1 42 "SwingCranes$Start" "place" "I", Cond.methodLink RX7 52 yX5_begin, Cond.instanceMethod yX5_begin, Cond.selects RX5 yX5_begin yX5_begin, Cond.initialized RX5, Cond.code yX5_begin cX5_begin 2 none, Cond.fieldLink RX5 10 "SwingCranes$Story" "pair" "LSwingCranes$Pair;", Cond.fieldLink RX5 19 "SwingCranes$Story" "leftSpots" "LSwingCranes$Spots;", Cond.fieldLink RX5 30 "SwingCranes$Spots" "many" "I", Cond.fieldLink RX5 23 "SwingCranes$Story" "rightSpots" "LSwingCranes$Spots;", Cond.fieldLink RX5 34 "SwingCranes$Story" "ticks" "I", Cond.methodLink RX5 26 yX2_begin]
def wsX7_lay_r5 : List Cond := [Cond.instanceMethod yX2_begin, Cond.selects RX2 yX2_begin yX2_begin, Cond.initialized RX2, Cond.code yX2_begin cX2_begin 2 none, Cond.fieldLink RX2 12 "SwingCranes$Pair" "left" "LSwingCranes$Crane;", Cond.fieldLink RX2 25 "SwingCranes$Layout" "left" "LSwingCranes$Start;", Cond.fieldLink RX2 18 "SwingCranes$Pair" "right" "LSwingCranes$Crane;", Cond.fieldLink RX2 34 "SwingCranes$Layout" "right" "LSwingCranes$Start;", Cond.fieldLink RX2 21 "SwingCranes$Pair" "level" "I", Cond.methodLink RX2 30 yX0_begin, Cond.instanceMethod yX0_begin, Cond.selects RX0 yX0_begin yX0_begin, Cond.initialized RX0, Cond.code yX0_begin cX0_begin 2 none, Cond.fieldLink RX0 9 "SwingCranes$Start" "place" "I", Cond.fieldLink RX0 15 "SwingCranes$Crane" "place" "I", Cond.fieldLink RX0 18 "SwingCranes$Crane" "speed" "I", Cond.fieldLink RX0 21 "SwingCranes$Start" "rope" "I", Cond.fieldLink RX0 24 "SwingCranes$Crane" "rope" "I", Cond.fieldLink RX0 25 "SwingCranes$Start" "load" "I", Cond.fieldLink RX0 28 "SwingCranes$Crane" "load" "I", Cond.fieldLink RX0 29 "SwingCranes$Crane" "swing" "I", Cond.fieldLink RX0 32 "SwingCranes$Crane" "rate" "I", Cond.fieldLink RX0 35 "SwingCranes$Crane" "want" "I"]
def wsX7_lay_r6 : List Cond := [Cond.fieldLink RX0 38 "SwingCranes$Crane" "target" "I", Cond.fieldLink RX0 45 "SwingCranes$Crane" "braked" "Z", Cond.methodLink RX0 41 yX0_setSteps, Cond.instanceMethod yX0_setSteps, Cond.selects RX0 yX0_setSteps yX0_setSteps, Cond.code yX0_setSteps cX0_setSteps 4 none, Cond.fieldLink RX0 49 "SwingCranes$Crane" "soonIn" "I", Cond.fieldLink RX0 52 "SwingCranes$Crane" "soonBy" "I", Cond.fieldLink RX0 55 "SwingCranes$Crane" "laterIn" "I", Cond.fieldLink RX0 58 "SwingCranes$Crane" "laterBy" "I"]
def wsX7_lay : List Cond := .code yX7_lay cX7_lay 2 (some .int) :: ((wsX7_lay_r1 ++ (wsX7_lay_r2 ++ (wsX7_lay_r3 ++ (wsX7_lay_r4 ++ (wsX7_lay_r5 ++ wsX7_lay_r6))))) ++ wsX70 ++ wsX10 ++ wsX60 ++ wsX40 ++ wsX50 ++ wsX30 ++ wsX20 ++ wsX00)
def wsX7_isSpeed : List Cond := .code yX7_isSpeed cX7_isSpeed 1 (some .boolean) :: ([.methodLink RX7 56 yX7_isWithin, .static yX7_isWithin, .initialized RX7, .code yX7_isWithin cX7_isWithin 3 (some .boolean)])
def wsX7_keepForUndo_r1 : List Cond := [Cond.fieldLink RX7 49 "SwingCranes" "fourthBack" "LSwingCranes$Story;", Cond.fieldLink RX7 46 "SwingCranes" "thirdBack" "LSwingCranes$Story;", Cond.fieldLink RX7 43 "SwingCranes" "secondBack" "LSwingCranes$Story;", Cond.fieldLink RX7 40 "SwingCranes" "firstBack" "LSwingCranes$Story;", Cond.fieldLink RX7 36 "SwingCranes" "now" "LSwingCranes$Story;", Cond.fieldLink RX7 79 "SwingCranes" "undoable" "I", Cond.methodLink RX7 239 Lib.Math.min.name, Cond.static Lib.Math.min.name, Cond.initialized "java/lang/Math", Cond.code Lib.Math.min.name Lib.Math.min.code 2 (some .int), Cond.methodLink RX7 236 yX5_copyFrom, Cond.instanceMethod yX5_copyFrom, Cond.selects RX5 yX5_copyFrom yX5_copyFrom, Cond.initialized RX5, Cond.code yX5_copyFrom cX5_copyFrom 2 none, Cond.fieldLink RX5 10 "SwingCranes$Story" "pair" "LSwingCranes$Pair;", Cond.fieldLink RX5 19 "SwingCranes$Story" "leftSpots" "LSwingCranes$Spots;", Cond.fieldLink RX5 23 "SwingCranes$Story" "rightSpots" "LSwingCranes$Spots;", Cond.fieldLink RX5 34 "SwingCranes$Story" "ticks" "I", Cond.methodLink RX5 37 yX2_copyFrom, Cond.instanceMethod yX2_copyFrom, Cond.selects RX2 yX2_copyFrom yX2_copyFrom, Cond.initialized RX2, Cond.code yX2_copyFrom cX2_copyFrom 2 none]
def wsX7_keepForUndo_r2 : List Cond := [Cond.fieldLink RX2 12 "SwingCranes$Pair" "left" "LSwingCranes$Crane;", Cond.fieldLink RX2 18 "SwingCranes$Pair" "right" "LSwingCranes$Crane;", Cond.fieldLink RX2 21 "SwingCranes$Pair" "level" "I", Cond.methodLink RX2 36 yX0_copyFrom, Cond.instanceMethod yX0_copyFrom, Cond.selects RX0 yX0_copyFrom yX0_copyFrom, Cond.initialized RX0, Cond.code yX0_copyFrom cX0_copyFrom 2 none, Cond.fieldLink RX0 15 "SwingCranes$Crane" "place" "I", Cond.fieldLink RX0 18 "SwingCranes$Crane" "speed" "I", Cond.fieldLink RX0 24 "SwingCranes$Crane" "rope" "I", Cond.fieldLink RX0 28 "SwingCranes$Crane" "load" "I", Cond.fieldLink RX0 29 "SwingCranes$Crane" "swing" "I", Cond.fieldLink RX0 32 "SwingCranes$Crane" "rate" "I", Cond.fieldLink RX0 35 "SwingCranes$Crane" "want" "I", Cond.fieldLink RX0 38 "SwingCranes$Crane" "target" "I", Cond.fieldLink RX0 49 "SwingCranes$Crane" "soonIn" "I", Cond.fieldLink RX0 52 "SwingCranes$Crane" "soonBy" "I", Cond.fieldLink RX0 55 "SwingCranes$Crane" "laterIn" "I", Cond.fieldLink RX0 58 "SwingCranes$Crane" "laterBy" "I", Cond.fieldLink RX0 45 "SwingCranes$Crane" "braked" "Z", Cond.methodLink RX5 41 yX3_copyFrom, Cond.instanceMethod yX3_copyFrom, Cond.selects RX3 yX3_copyFrom yX3_copyFrom]
def wsX7_keepForUndo_r3 : List Cond := [Cond.initialized RX3, Cond.code yX3_copyFrom cX3_copyFrom 3 none, Cond.fieldLink RX3 18 "SwingCranes$Spots" "many" "I", Cond.methodLink RX3 22 yX3_nameAt, Cond.instanceMethod yX3_nameAt, Cond.selects RX3 yX3_nameAt yX3_nameAt, Cond.code yX3_nameAt cX3_nameAt 2 (some .int), Cond.fieldLink RX3 11 "SwingCranes$Spots" "names" "[I", Cond.methodLink RX3 26 yX3_ticksAt, Cond.instanceMethod yX3_ticksAt, Cond.selects RX3 yX3_ticksAt yX3_ticksAt, Cond.code yX3_ticksAt cX3_ticksAt 2 (some .int), Cond.fieldLink RX3 15 "SwingCranes$Spots" "ticks" "[I", Cond.methodLink RX3 29 yX3_put, Cond.instanceMethod yX3_put, Cond.selects RX3 yX3_put yX3_put, Cond.code yX3_put cX3_put 4 none]
def wsX7_keepForUndo : List Cond := .code yX7_keepForUndo cX7_keepForUndo 2 none :: ((wsX7_keepForUndo_r1 ++ (wsX7_keepForUndo_r2 ++ wsX7_keepForUndo_r3)) ++ wsX70 ++ wsX50 ++ wsX20 ++ wsX00 ++ wsX30)
def wsX7_command_r1 : List Cond := [Cond.fieldLink RX7 36 "SwingCranes" "now" "LSwingCranes$Story;", Cond.fieldLink RX7 95 "SwingCranes$Story" "pair" "LSwingCranes$Pair;", Cond.methodLink RX7 85 yX7_isCrane, Cond.static yX7_isCrane, Cond.initialized RX7, Cond.code yX7_isCrane cX7_isCrane 1 (some .boolean), Cond.methodLink RX7 89 yX7_isSpeed, Cond.static yX7_isSpeed, Cond.code yX7_isSpeed cX7_isSpeed 1 (some .boolean), Cond.methodLink RX7 56 yX7_isWithin, Cond.static yX7_isWithin, Cond.code yX7_isWithin cX7_isWithin 3 (some .boolean), Cond.methodLink RX7 92 yX7_keepForUndo, Cond.instanceMethod yX7_keepForUndo, Cond.selects RX7 yX7_keepForUndo yX7_keepForUndo, Cond.code yX7_keepForUndo cX7_keepForUndo 2 none, Cond.fieldLink RX7 49 "SwingCranes" "fourthBack" "LSwingCranes$Story;", Cond.fieldLink RX7 46 "SwingCranes" "thirdBack" "LSwingCranes$Story;", Cond.fieldLink RX7 43 "SwingCranes" "secondBack" "LSwingCranes$Story;", Cond.fieldLink RX7 40 "SwingCranes" "firstBack" "LSwingCranes$Story;", Cond.fieldLink RX7 79 "SwingCranes" "undoable" "I", Cond.methodLink RX7 239 Lib.Math.min.name, Cond.static Lib.Math.min.name, Cond.initialized "java/lang/Math"]
def wsX7_command_r2 : List Cond := [Cond.code Lib.Math.min.name Lib.Math.min.code 2 (some .int), Cond.methodLink RX7 236 yX5_copyFrom, Cond.instanceMethod yX5_copyFrom, Cond.selects RX5 yX5_copyFrom yX5_copyFrom, Cond.initialized RX5, Cond.code yX5_copyFrom cX5_copyFrom 2 none, Cond.fieldLink RX5 10 "SwingCranes$Story" "pair" "LSwingCranes$Pair;", Cond.fieldLink RX5 19 "SwingCranes$Story" "leftSpots" "LSwingCranes$Spots;", Cond.fieldLink RX5 23 "SwingCranes$Story" "rightSpots" "LSwingCranes$Spots;", Cond.fieldLink RX5 34 "SwingCranes$Story" "ticks" "I", Cond.methodLink RX5 37 yX2_copyFrom, Cond.instanceMethod yX2_copyFrom, Cond.selects RX2 yX2_copyFrom yX2_copyFrom, Cond.initialized RX2, Cond.code yX2_copyFrom cX2_copyFrom 2 none, Cond.fieldLink RX2 12 "SwingCranes$Pair" "left" "LSwingCranes$Crane;", Cond.fieldLink RX2 18 "SwingCranes$Pair" "right" "LSwingCranes$Crane;", Cond.fieldLink RX2 21 "SwingCranes$Pair" "level" "I", Cond.methodLink RX2 36 yX0_copyFrom, Cond.instanceMethod yX0_copyFrom, Cond.selects RX0 yX0_copyFrom yX0_copyFrom, Cond.initialized RX0, Cond.code yX0_copyFrom cX0_copyFrom 2 none, Cond.fieldLink RX0 15 "SwingCranes$Crane" "place" "I"]
def wsX7_command_r3 : List Cond := [Cond.fieldLink RX0 18 "SwingCranes$Crane" "speed" "I", Cond.fieldLink RX0 24 "SwingCranes$Crane" "rope" "I", Cond.fieldLink RX0 28 "SwingCranes$Crane" "load" "I", Cond.fieldLink RX0 29 "SwingCranes$Crane" "swing" "I", Cond.fieldLink RX0 32 "SwingCranes$Crane" "rate" "I", Cond.fieldLink RX0 35 "SwingCranes$Crane" "want" "I", Cond.fieldLink RX0 38 "SwingCranes$Crane" "target" "I", Cond.fieldLink RX0 49 "SwingCranes$Crane" "soonIn" "I", Cond.fieldLink RX0 52 "SwingCranes$Crane" "soonBy" "I", Cond.fieldLink RX0 55 "SwingCranes$Crane" "laterIn" "I", Cond.fieldLink RX0 58 "SwingCranes$Crane" "laterBy" "I", Cond.fieldLink RX0 45 "SwingCranes$Crane" "braked" "Z", Cond.methodLink RX5 41 yX3_copyFrom, Cond.instanceMethod yX3_copyFrom, Cond.selects RX3 yX3_copyFrom yX3_copyFrom, Cond.initialized RX3, Cond.code yX3_copyFrom cX3_copyFrom 3 none, Cond.fieldLink RX3 18 "SwingCranes$Spots" "many" "I", Cond.methodLink RX3 22 yX3_nameAt, Cond.instanceMethod yX3_nameAt, Cond.selects RX3 yX3_nameAt yX3_nameAt, Cond.code yX3_nameAt cX3_nameAt 2 (some .int), Cond.fieldLink RX3 11 "SwingCranes$Spots" "names" "[I", Cond.methodLink RX3 26 yX3_ticksAt]
def wsX7_command_r4 : List Cond := [Cond.instanceMethod yX3_ticksAt, Cond.selects RX3 yX3_ticksAt yX3_ticksAt, Cond.code yX3_ticksAt cX3_ticksAt 2 (some .int), Cond.fieldLink RX3 15 "SwingCranes$Spots" "ticks" "[I", Cond.methodLink RX3 29 yX3_put, Cond.instanceMethod yX3_put, Cond.selects RX3 yX3_put yX3_put, Cond.code yX3_put cX3_put 4 none, Cond.methodLink RX7 98 yX2_tellAtOnce, Cond.instanceMethod yX2_tellAtOnce, Cond.selects RX2 yX2_tellAtOnce yX2_tellAtOnce, Cond.code yX2_tellAtOnce cX2_tellAtOnce 3 (some .int), Cond.methodLink RX2 50 yX2_leftHeeds, Cond.instanceMethod yX2_leftHeeds, Cond.selects RX2 yX2_leftHeeds yX2_leftHeeds, Cond.code yX2_leftHeeds cX2_leftHeeds 2 (some .boolean), Cond.methodLink RX2 46 yX2_isCoupled, Cond.instanceMethod yX2_isCoupled, Cond.selects RX2 yX2_isCoupled yX2_isCoupled, Cond.code yX2_isCoupled cX2_isCoupled 1 (some .boolean), Cond.methodLink RX2 54 yX0_planAtOnce, Cond.instanceMethod yX0_planAtOnce, Cond.selects RX0 yX0_planAtOnce yX0_planAtOnce, Cond.code yX0_planAtOnce cX0_planAtOnce 2 none]
def wsX7_command_r5 : List Cond := [Cond.methodLink RX0 41 yX0_setSteps, Cond.instanceMethod yX0_setSteps, Cond.selects RX0 yX0_setSteps yX0_setSteps, Cond.code yX0_setSteps cX0_setSteps 4 none, Cond.methodLink RX2 58 yX2_rightHeeds, Cond.instanceMethod yX2_rightHeeds, Cond.selects RX2 yX2_rightHeeds yX2_rightHeeds, Cond.code yX2_rightHeeds cX2_rightHeeds 2 (some .boolean), Cond.methodLink RX2 61 yX2_heeding, Cond.instanceMethod yX2_heeding, Cond.selects RX2 yX2_heeding yX2_heeding, Cond.code yX2_heeding cX2_heeding 1 (some .int)]
def wsX7_command : List Cond := .code yX7_command cX7_command 3 (some .int) :: ((wsX7_command_r1 ++ (wsX7_command_r2 ++ (wsX7_command_r3 ++ (wsX7_command_r4 ++ wsX7_command_r5)))) ++ wsX70 ++ wsX50 ++ wsX20 ++ wsX00 ++ wsX30)
def wsX7_shape_r1 : List Cond := [Cond.fieldLink RX7 36 "SwingCranes" "now" "LSwingCranes$Story;", Cond.fieldLink RX7 95 "SwingCranes$Story" "pair" "LSwingCranes$Pair;", Cond.methodLink RX7 85 yX7_isCrane, Cond.static yX7_isCrane, Cond.initialized RX7, Cond.code yX7_isCrane cX7_isCrane 1 (some .boolean), Cond.methodLink RX7 89 yX7_isSpeed, Cond.static yX7_isSpeed, Cond.code yX7_isSpeed cX7_isSpeed 1 (some .boolean), Cond.methodLink RX7 56 yX7_isWithin, Cond.static yX7_isWithin, Cond.code yX7_isWithin cX7_isWithin 3 (some .boolean), Cond.methodLink RX7 92 yX7_keepForUndo, Cond.instanceMethod yX7_keepForUndo, Cond.selects RX7 yX7_keepForUndo yX7_keepForUndo, Cond.code yX7_keepForUndo cX7_keepForUndo 2 none, Cond.fieldLink RX7 49 "SwingCranes" "fourthBack" "LSwingCranes$Story;", Cond.fieldLink RX7 46 "SwingCranes" "thirdBack" "LSwingCranes$Story;", Cond.fieldLink RX7 43 "SwingCranes" "secondBack" "LSwingCranes$Story;", Cond.fieldLink RX7 40 "SwingCranes" "firstBack" "LSwingCranes$Story;", Cond.fieldLink RX7 79 "SwingCranes" "undoable" "I", Cond.methodLink RX7 239 Lib.Math.min.name, Cond.static Lib.Math.min.name, Cond.initialized "java/lang/Math"]
def wsX7_shape_r2 : List Cond := [Cond.code Lib.Math.min.name Lib.Math.min.code 2 (some .int), Cond.methodLink RX7 236 yX5_copyFrom, Cond.instanceMethod yX5_copyFrom, Cond.selects RX5 yX5_copyFrom yX5_copyFrom, Cond.initialized RX5, Cond.code yX5_copyFrom cX5_copyFrom 2 none, Cond.fieldLink RX5 10 "SwingCranes$Story" "pair" "LSwingCranes$Pair;", Cond.fieldLink RX5 19 "SwingCranes$Story" "leftSpots" "LSwingCranes$Spots;", Cond.fieldLink RX5 23 "SwingCranes$Story" "rightSpots" "LSwingCranes$Spots;", Cond.fieldLink RX5 34 "SwingCranes$Story" "ticks" "I", Cond.methodLink RX5 37 yX2_copyFrom, Cond.instanceMethod yX2_copyFrom, Cond.selects RX2 yX2_copyFrom yX2_copyFrom, Cond.initialized RX2, Cond.code yX2_copyFrom cX2_copyFrom 2 none, Cond.fieldLink RX2 12 "SwingCranes$Pair" "left" "LSwingCranes$Crane;", Cond.fieldLink RX2 18 "SwingCranes$Pair" "right" "LSwingCranes$Crane;", Cond.fieldLink RX2 21 "SwingCranes$Pair" "level" "I", Cond.methodLink RX2 36 yX0_copyFrom, Cond.instanceMethod yX0_copyFrom, Cond.selects RX0 yX0_copyFrom yX0_copyFrom, Cond.initialized RX0, Cond.code yX0_copyFrom cX0_copyFrom 2 none, Cond.fieldLink RX0 15 "SwingCranes$Crane" "place" "I"]
def wsX7_shape_r3 : List Cond := [Cond.fieldLink RX0 18 "SwingCranes$Crane" "speed" "I", Cond.fieldLink RX0 24 "SwingCranes$Crane" "rope" "I", Cond.fieldLink RX0 28 "SwingCranes$Crane" "load" "I", Cond.fieldLink RX0 29 "SwingCranes$Crane" "swing" "I", Cond.fieldLink RX0 32 "SwingCranes$Crane" "rate" "I", Cond.fieldLink RX0 35 "SwingCranes$Crane" "want" "I", Cond.fieldLink RX0 38 "SwingCranes$Crane" "target" "I", Cond.fieldLink RX0 49 "SwingCranes$Crane" "soonIn" "I", Cond.fieldLink RX0 52 "SwingCranes$Crane" "soonBy" "I", Cond.fieldLink RX0 55 "SwingCranes$Crane" "laterIn" "I", Cond.fieldLink RX0 58 "SwingCranes$Crane" "laterBy" "I", Cond.fieldLink RX0 45 "SwingCranes$Crane" "braked" "Z", Cond.methodLink RX5 41 yX3_copyFrom, Cond.instanceMethod yX3_copyFrom, Cond.selects RX3 yX3_copyFrom yX3_copyFrom, Cond.initialized RX3, Cond.code yX3_copyFrom cX3_copyFrom 3 none, Cond.fieldLink RX3 18 "SwingCranes$Spots" "many" "I", Cond.methodLink RX3 22 yX3_nameAt, Cond.instanceMethod yX3_nameAt, Cond.selects RX3 yX3_nameAt yX3_nameAt, Cond.code yX3_nameAt cX3_nameAt 2 (some .int), Cond.fieldLink RX3 11 "SwingCranes$Spots" "names" "[I", Cond.methodLink RX3 26 yX3_ticksAt]
def wsX7_shape_r4 : List Cond := [Cond.instanceMethod yX3_ticksAt, Cond.selects RX3 yX3_ticksAt yX3_ticksAt, Cond.code yX3_ticksAt cX3_ticksAt 2 (some .int), Cond.fieldLink RX3 15 "SwingCranes$Spots" "ticks" "[I", Cond.methodLink RX3 29 yX3_put, Cond.instanceMethod yX3_put, Cond.selects RX3 yX3_put yX3_put, Cond.code yX3_put cX3_put 4 none, Cond.methodLink RX7 102 yX2_tellByHalves, Cond.instanceMethod yX2_tellByHalves, Cond.selects RX2 yX2_tellByHalves yX2_tellByHalves, Cond.code yX2_tellByHalves cX2_tellByHalves 4 (some .int), Cond.methodLink RX2 50 yX2_leftHeeds, Cond.instanceMethod yX2_leftHeeds, Cond.selects RX2 yX2_leftHeeds yX2_leftHeeds, Cond.code yX2_leftHeeds cX2_leftHeeds 2 (some .boolean), Cond.methodLink RX2 46 yX2_isCoupled, Cond.instanceMethod yX2_isCoupled, Cond.selects RX2 yX2_isCoupled yX2_isCoupled, Cond.code yX2_isCoupled cX2_isCoupled 1 (some .boolean), Cond.methodLink RX2 65 yX0_planByHalves, Cond.instanceMethod yX0_planByHalves, Cond.selects RX0 yX0_planByHalves yX0_planByHalves, Cond.code yX0_planByHalves cX0_planByHalves 5 none]
def wsX7_shape_r5 : List Cond := [Cond.static yX7_halfSwing, Cond.code yX7_halfSwing cX7_halfSwing 2 (some .int), Cond.methodLink RX0 41 yX0_setSteps, Cond.instanceMethod yX0_setSteps, Cond.selects RX0 yX0_setSteps yX0_setSteps, Cond.code yX0_setSteps cX0_setSteps 4 none, Cond.methodLink RX2 58 yX2_rightHeeds, Cond.instanceMethod yX2_rightHeeds, Cond.selects RX2 yX2_rightHeeds yX2_rightHeeds, Cond.code yX2_rightHeeds cX2_rightHeeds 2 (some .boolean), Cond.methodLink RX2 61 yX2_heeding, Cond.instanceMethod yX2_heeding, Cond.selects RX2 yX2_heeding yX2_heeding, Cond.code yX2_heeding cX2_heeding 1 (some .int)]
def wsX7_shape : List Cond := .code yX7_shape cX7_shape 4 (some .int) :: ((wsX7_shape_r1 ++ (wsX7_shape_r2 ++ (wsX7_shape_r3 ++ (wsX7_shape_r4 ++ wsX7_shape_r5)))) ++ wsX70 ++ wsX50 ++ wsX20 ++ wsX00 ++ wsX30)
def wsX7_target_r1 : List Cond := [Cond.fieldLink RX7 36 "SwingCranes" "now" "LSwingCranes$Story;", Cond.fieldLink RX7 95 "SwingCranes$Story" "pair" "LSwingCranes$Pair;", Cond.fieldLink RX7 117 "SwingCranes$Crane" "target" "I", Cond.methodLink RX7 85 yX7_isCrane, Cond.static yX7_isCrane, Cond.initialized RX7, Cond.code yX7_isCrane cX7_isCrane 1 (some .boolean), Cond.methodLink RX7 106 yX7_isRope, Cond.static yX7_isRope, Cond.code yX7_isRope cX7_isRope 1 (some .boolean), Cond.methodLink RX7 56 yX7_isWithin, Cond.static yX7_isWithin, Cond.code yX7_isWithin cX7_isWithin 3 (some .boolean), Cond.methodLink RX7 109 yX2_aimsAt, Cond.instanceMethod yX2_aimsAt, Cond.selects RX2 yX2_aimsAt yX2_aimsAt, Cond.initialized RX2, Cond.code yX2_aimsAt cX2_aimsAt 3 (some .boolean), Cond.fieldLink RX2 12 "SwingCranes$Pair" "left" "LSwingCranes$Crane;", Cond.fieldLink RX2 69 "SwingCranes$Crane" "target" "I", Cond.fieldLink RX2 18 "SwingCranes$Pair" "right" "LSwingCranes$Crane;", Cond.methodLink RX2 50 yX2_leftHeeds, Cond.instanceMethod yX2_leftHeeds, Cond.selects RX2 yX2_leftHeeds yX2_leftHeeds]
def wsX7_target_r2 : List Cond := [Cond.code yX2_leftHeeds cX2_leftHeeds 2 (some .boolean), Cond.methodLink RX2 46 yX2_isCoupled, Cond.instanceMethod yX2_isCoupled, Cond.selects RX2 yX2_isCoupled yX2_isCoupled, Cond.code yX2_isCoupled cX2_isCoupled 1 (some .boolean), Cond.fieldLink RX2 21 "SwingCranes$Pair" "level" "I", Cond.methodLink RX2 58 yX2_rightHeeds, Cond.instanceMethod yX2_rightHeeds, Cond.selects RX2 yX2_rightHeeds yX2_rightHeeds, Cond.code yX2_rightHeeds cX2_rightHeeds 2 (some .boolean), Cond.methodLink RX7 92 yX7_keepForUndo, Cond.instanceMethod yX7_keepForUndo, Cond.selects RX7 yX7_keepForUndo yX7_keepForUndo, Cond.code yX7_keepForUndo cX7_keepForUndo 2 none, Cond.fieldLink RX7 49 "SwingCranes" "fourthBack" "LSwingCranes$Story;", Cond.fieldLink RX7 46 "SwingCranes" "thirdBack" "LSwingCranes$Story;", Cond.fieldLink RX7 43 "SwingCranes" "secondBack" "LSwingCranes$Story;", Cond.fieldLink RX7 40 "SwingCranes" "firstBack" "LSwingCranes$Story;", Cond.fieldLink RX7 79 "SwingCranes" "undoable" "I", Cond.methodLink RX7 239 Lib.Math.min.name, Cond.static Lib.Math.min.name, Cond.initialized "java/lang/Math", Cond.code Lib.Math.min.name Lib.Math.min.code 2 (some .int), Cond.methodLink RX7 236 yX5_copyFrom]
def wsX7_target_r3 : List Cond := [Cond.instanceMethod yX5_copyFrom, Cond.selects RX5 yX5_copyFrom yX5_copyFrom, Cond.initialized RX5, Cond.code yX5_copyFrom cX5_copyFrom 2 none, Cond.fieldLink RX5 10 "SwingCranes$Story" "pair" "LSwingCranes$Pair;", Cond.fieldLink RX5 19 "SwingCranes$Story" "leftSpots" "LSwingCranes$Spots;", Cond.fieldLink RX5 23 "SwingCranes$Story" "rightSpots" "LSwingCranes$Spots;", Cond.fieldLink RX5 34 "SwingCranes$Story" "ticks" "I", Cond.methodLink RX5 37 yX2_copyFrom, Cond.instanceMethod yX2_copyFrom, Cond.selects RX2 yX2_copyFrom yX2_copyFrom, Cond.code yX2_copyFrom cX2_copyFrom 2 none, Cond.methodLink RX2 36 yX0_copyFrom, Cond.instanceMethod yX0_copyFrom, Cond.selects RX0 yX0_copyFrom yX0_copyFrom, Cond.initialized RX0, Cond.code yX0_copyFrom cX0_copyFrom 2 none, Cond.fieldLink RX0 15 "SwingCranes$Crane" "place" "I", Cond.fieldLink RX0 18 "SwingCranes$Crane" "speed" "I", Cond.fieldLink RX0 24 "SwingCranes$Crane" "rope" "I", Cond.fieldLink RX0 28 "SwingCranes$Crane" "load" "I", Cond.fieldLink RX0 29 "SwingCranes$Crane" "swing" "I", Cond.fieldLink RX0 32 "SwingCranes$Crane" "rate" "I", Cond.fieldLink RX0 35 "SwingCranes$Crane" "want" "I"]
def wsX7_target_r4 : List Cond := [Cond.fieldLink RX0 38 "SwingCranes$Crane" "target" "I", Cond.fieldLink RX0 49 "SwingCranes$Crane" "soonIn" "I", Cond.fieldLink RX0 52 "SwingCranes$Crane" "soonBy" "I", Cond.fieldLink RX0 55 "SwingCranes$Crane" "laterIn" "I", Cond.fieldLink RX0 58 "SwingCranes$Crane" "laterBy" "I", Cond.fieldLink RX0 45 "SwingCranes$Crane" "braked" "Z", Cond.methodLink RX5 41 yX3_copyFrom, Cond.instanceMethod yX3_copyFrom, Cond.selects RX3 yX3_copyFrom yX3_copyFrom, Cond.initialized RX3, Cond.code yX3_copyFrom cX3_copyFrom 3 none, Cond.fieldLink RX3 18 "SwingCranes$Spots" "many" "I", Cond.methodLink RX3 22 yX3_nameAt, Cond.instanceMethod yX3_nameAt, Cond.selects RX3 yX3_nameAt yX3_nameAt, Cond.code yX3_nameAt cX3_nameAt 2 (some .int), Cond.fieldLink RX3 11 "SwingCranes$Spots" "names" "[I", Cond.methodLink RX3 26 yX3_ticksAt, Cond.instanceMethod yX3_ticksAt, Cond.selects RX3 yX3_ticksAt yX3_ticksAt, Cond.code yX3_ticksAt cX3_ticksAt 2 (some .int), Cond.fieldLink RX3 15 "SwingCranes$Spots" "ticks" "[I", Cond.methodLink RX3 29 yX3_put, Cond.instanceMethod yX3_put]
def wsX7_target_r5 : List Cond := [Cond.selects RX3 yX3_put yX3_put, Cond.code yX3_put cX3_put 4 none, Cond.methodLink RX7 113 yX2_side, Cond.instanceMethod yX2_side, Cond.selects RX2 yX2_side yX2_side, Cond.code yX2_side cX2_side 2 (some (.object "SwingCranes$Crane")), Cond.methodLink RX7 122 yX2_aim, Cond.instanceMethod yX2_aim, Cond.selects RX2 yX2_aim yX2_aim, Cond.code yX2_aim cX2_aim 3 none]
def wsX7_target : List Cond := .code yX7_target cX7_target 4 (some .int) :: ((wsX7_target_r1 ++ (wsX7_target_r2 ++ (wsX7_target_r3 ++ (wsX7_target_r4 ++ wsX7_target_r5)))) ++ wsX70 ++ wsX50 ++ wsX00 ++ wsX20 ++ wsX30)
def wsX7_load_r1 : List Cond := [Cond.fieldLink RX7 36 "SwingCranes" "now" "LSwingCranes$Story;", Cond.fieldLink RX7 95 "SwingCranes$Story" "pair" "LSwingCranes$Pair;", Cond.fieldLink RX7 126 "SwingCranes$Crane" "load" "I", Cond.methodLink RX7 85 yX7_isCrane, Cond.static yX7_isCrane, Cond.initialized RX7, Cond.code yX7_isCrane cX7_isCrane 1 (some .boolean), Cond.methodLink RX7 56 yX7_isWithin, Cond.static yX7_isWithin, Cond.code yX7_isWithin cX7_isWithin 3 (some .boolean), Cond.methodLink RX7 113 yX2_side, Cond.instanceMethod yX2_side, Cond.selects RX2 yX2_side yX2_side, Cond.initialized RX2, Cond.code yX2_side cX2_side 2 (some (.object "SwingCranes$Crane")), Cond.fieldLink RX2 12 "SwingCranes$Pair" "left" "LSwingCranes$Crane;", Cond.fieldLink RX2 18 "SwingCranes$Pair" "right" "LSwingCranes$Crane;", Cond.methodLink RX7 92 yX7_keepForUndo, Cond.instanceMethod yX7_keepForUndo, Cond.selects RX7 yX7_keepForUndo yX7_keepForUndo, Cond.code yX7_keepForUndo cX7_keepForUndo 2 none, Cond.fieldLink RX7 49 "SwingCranes" "fourthBack" "LSwingCranes$Story;", Cond.fieldLink RX7 46 "SwingCranes" "thirdBack" "LSwingCranes$Story;", Cond.fieldLink RX7 43 "SwingCranes" "secondBack" "LSwingCranes$Story;"]
def wsX7_load_r2 : List Cond := [Cond.fieldLink RX7 40 "SwingCranes" "firstBack" "LSwingCranes$Story;", Cond.fieldLink RX7 79 "SwingCranes" "undoable" "I", Cond.methodLink RX7 239 Lib.Math.min.name, Cond.static Lib.Math.min.name, Cond.initialized "java/lang/Math", Cond.code Lib.Math.min.name Lib.Math.min.code 2 (some .int), Cond.methodLink RX7 236 yX5_copyFrom, Cond.instanceMethod yX5_copyFrom, Cond.selects RX5 yX5_copyFrom yX5_copyFrom, Cond.initialized RX5, Cond.code yX5_copyFrom cX5_copyFrom 2 none, Cond.fieldLink RX5 10 "SwingCranes$Story" "pair" "LSwingCranes$Pair;", Cond.fieldLink RX5 19 "SwingCranes$Story" "leftSpots" "LSwingCranes$Spots;", Cond.fieldLink RX5 23 "SwingCranes$Story" "rightSpots" "LSwingCranes$Spots;", Cond.fieldLink RX5 34 "SwingCranes$Story" "ticks" "I", Cond.methodLink RX5 37 yX2_copyFrom, Cond.instanceMethod yX2_copyFrom, Cond.selects RX2 yX2_copyFrom yX2_copyFrom, Cond.code yX2_copyFrom cX2_copyFrom 2 none, Cond.fieldLink RX2 21 "SwingCranes$Pair" "level" "I", Cond.methodLink RX2 36 yX0_copyFrom, Cond.instanceMethod yX0_copyFrom, Cond.selects RX0 yX0_copyFrom yX0_copyFrom, Cond.initialized RX0]
def wsX7_load_r3 : List Cond := [Cond.code yX0_copyFrom cX0_copyFrom 2 none, Cond.fieldLink RX0 15 "SwingCranes$Crane" "place" "I", Cond.fieldLink RX0 18 "SwingCranes$Crane" "speed" "I", Cond.fieldLink RX0 24 "SwingCranes$Crane" "rope" "I", Cond.fieldLink RX0 28 "SwingCranes$Crane" "load" "I", Cond.fieldLink RX0 29 "SwingCranes$Crane" "swing" "I", Cond.fieldLink RX0 32 "SwingCranes$Crane" "rate" "I", Cond.fieldLink RX0 35 "SwingCranes$Crane" "want" "I", Cond.fieldLink RX0 38 "SwingCranes$Crane" "target" "I", Cond.fieldLink RX0 49 "SwingCranes$Crane" "soonIn" "I", Cond.fieldLink RX0 52 "SwingCranes$Crane" "soonBy" "I", Cond.fieldLink RX0 55 "SwingCranes$Crane" "laterIn" "I", Cond.fieldLink RX0 58 "SwingCranes$Crane" "laterBy" "I", Cond.fieldLink RX0 45 "SwingCranes$Crane" "braked" "Z", Cond.methodLink RX5 41 yX3_copyFrom, Cond.instanceMethod yX3_copyFrom, Cond.selects RX3 yX3_copyFrom yX3_copyFrom, Cond.initialized RX3, Cond.code yX3_copyFrom cX3_copyFrom 3 none, Cond.fieldLink RX3 18 "SwingCranes$Spots" "many" "I", Cond.methodLink RX3 22 yX3_nameAt, Cond.instanceMethod yX3_nameAt, Cond.selects RX3 yX3_nameAt yX3_nameAt, Cond.code yX3_nameAt cX3_nameAt 2 (some .int)]
def wsX7_load_r4 : List Cond := [Cond.fieldLink RX3 11 "SwingCranes$Spots" "names" "[I", Cond.methodLink RX3 26 yX3_ticksAt, Cond.instanceMethod yX3_ticksAt, Cond.selects RX3 yX3_ticksAt yX3_ticksAt, Cond.code yX3_ticksAt cX3_ticksAt 2 (some .int), Cond.fieldLink RX3 15 "SwingCranes$Spots" "ticks" "[I", Cond.methodLink RX3 29 yX3_put, Cond.instanceMethod yX3_put, Cond.selects RX3 yX3_put yX3_put, Cond.code yX3_put cX3_put 4 none]
def wsX7_load : List Cond := .code yX7_load cX7_load 4 (some .int) :: ((wsX7_load_r1 ++ (wsX7_load_r2 ++ (wsX7_load_r3 ++ wsX7_load_r4))) ++ wsX70 ++ wsX50 ++ wsX00 ++ wsX20 ++ wsX30)
def wsX7_couple_r1 : List Cond := [Cond.fieldLink RX7 36 "SwingCranes" "now" "LSwingCranes$Story;", Cond.fieldLink RX7 95 "SwingCranes$Story" "pair" "LSwingCranes$Pair;", Cond.fieldLink RX7 129 "SwingCranes$Pair" "level" "I", Cond.methodLink RX7 56 yX7_isWithin, Cond.static yX7_isWithin, Cond.initialized RX7, Cond.code yX7_isWithin cX7_isWithin 3 (some .boolean), Cond.methodLink RX7 92 yX7_keepForUndo, Cond.instanceMethod yX7_keepForUndo, Cond.selects RX7 yX7_keepForUndo yX7_keepForUndo, Cond.code yX7_keepForUndo cX7_keepForUndo 2 none, Cond.fieldLink RX7 49 "SwingCranes" "fourthBack" "LSwingCranes$Story;", Cond.fieldLink RX7 46 "SwingCranes" "thirdBack" "LSwingCranes$Story;", Cond.fieldLink RX7 43 "SwingCranes" "secondBack" "LSwingCranes$Story;", Cond.fieldLink RX7 40 "SwingCranes" "firstBack" "LSwingCranes$Story;", Cond.fieldLink RX7 79 "SwingCranes" "undoable" "I", Cond.methodLink RX7 239 Lib.Math.min.name, Cond.static Lib.Math.min.name, Cond.initialized "java/lang/Math", Cond.code Lib.Math.min.name Lib.Math.min.code 2 (some .int), Cond.methodLink RX7 236 yX5_copyFrom, Cond.instanceMethod yX5_copyFrom, Cond.selects RX5 yX5_copyFrom yX5_copyFrom, Cond.initialized RX5]
def wsX7_couple_r2 : List Cond := [Cond.code yX5_copyFrom cX5_copyFrom 2 none, Cond.fieldLink RX5 10 "SwingCranes$Story" "pair" "LSwingCranes$Pair;", Cond.fieldLink RX5 19 "SwingCranes$Story" "leftSpots" "LSwingCranes$Spots;", Cond.fieldLink RX5 23 "SwingCranes$Story" "rightSpots" "LSwingCranes$Spots;", Cond.fieldLink RX5 34 "SwingCranes$Story" "ticks" "I", Cond.methodLink RX5 37 yX2_copyFrom, Cond.instanceMethod yX2_copyFrom, Cond.selects RX2 yX2_copyFrom yX2_copyFrom, Cond.initialized RX2, Cond.code yX2_copyFrom cX2_copyFrom 2 none, Cond.fieldLink RX2 12 "SwingCranes$Pair" "left" "LSwingCranes$Crane;", Cond.fieldLink RX2 18 "SwingCranes$Pair" "right" "LSwingCranes$Crane;", Cond.fieldLink RX2 21 "SwingCranes$Pair" "level" "I", Cond.methodLink RX2 36 yX0_copyFrom, Cond.instanceMethod yX0_copyFrom, Cond.selects RX0 yX0_copyFrom yX0_copyFrom, Cond.initialized RX0, Cond.code yX0_copyFrom cX0_copyFrom 2 none, Cond.fieldLink RX0 15 "SwingCranes$Crane" "place" "I", Cond.fieldLink RX0 18 "SwingCranes$Crane" "speed" "I", Cond.fieldLink RX0 24 "SwingCranes$Crane" "rope" "I", Cond.fieldLink RX0 28 "SwingCranes$Crane" "load" "I", Cond.fieldLink RX0 29 "SwingCranes$Crane" "swing" "I", Cond.fieldLink RX0 32 "SwingCranes$Crane" "rate" "I"]
def wsX7_couple_r3 : List Cond := [Cond.fieldLink RX0 35 "SwingCranes$Crane" "want" "I", Cond.fieldLink RX0 38 "SwingCranes$Crane" "target" "I", Cond.fieldLink RX0 49 "SwingCranes$Crane" "soonIn" "I", Cond.fieldLink RX0 52 "SwingCranes$Crane" "soonBy" "I", Cond.fieldLink RX0 55 "SwingCranes$Crane" "laterIn" "I", Cond.fieldLink RX0 58 "SwingCranes$Crane" "laterBy" "I", Cond.fieldLink RX0 45 "SwingCranes$Crane" "braked" "Z", Cond.methodLink RX5 41 yX3_copyFrom, Cond.instanceMethod yX3_copyFrom, Cond.selects RX3 yX3_copyFrom yX3_copyFrom, Cond.initialized RX3, Cond.code yX3_copyFrom cX3_copyFrom 3 none, Cond.fieldLink RX3 18 "SwingCranes$Spots" "many" "I", Cond.methodLink RX3 22 yX3_nameAt, Cond.instanceMethod yX3_nameAt, Cond.selects RX3 yX3_nameAt yX3_nameAt, Cond.code yX3_nameAt cX3_nameAt 2 (some .int), Cond.fieldLink RX3 11 "SwingCranes$Spots" "names" "[I", Cond.methodLink RX3 26 yX3_ticksAt, Cond.instanceMethod yX3_ticksAt, Cond.selects RX3 yX3_ticksAt yX3_ticksAt, Cond.code yX3_ticksAt cX3_ticksAt 2 (some .int), Cond.fieldLink RX3 15 "SwingCranes$Spots" "ticks" "[I", Cond.methodLink RX3 29 yX3_put]
def wsX7_couple_r4 : List Cond := [Cond.instanceMethod yX3_put, Cond.selects RX3 yX3_put yX3_put, Cond.code yX3_put cX3_put 4 none]
def wsX7_couple : List Cond := .code yX7_couple cX7_couple 4 (some .int) :: ((wsX7_couple_r1 ++ (wsX7_couple_r2 ++ (wsX7_couple_r3 ++ wsX7_couple_r4))) ++ wsX70 ++ wsX50 ++ wsX20 ++ wsX00 ++ wsX30)
def wsX7_tick_r1 : List Cond := [Cond.fieldLink RX7 36 "SwingCranes" "now" "LSwingCranes$Story;", Cond.fieldLink RX7 132 "SwingCranes$Story" "ticks" "I", Cond.fieldLink RX7 26 "SwingCranes" "rules" "LSwingCranes$Layout;", Cond.methodLink RX7 56 yX7_isWithin, Cond.static yX7_isWithin, Cond.initialized RX7, Cond.code yX7_isWithin cX7_isWithin 3 (some .boolean), Cond.methodLink RX7 92 yX7_keepForUndo, Cond.instanceMethod yX7_keepForUndo, Cond.selects RX7 yX7_keepForUndo yX7_keepForUndo, Cond.code yX7_keepForUndo cX7_keepForUndo 2 none, Cond.fieldLink RX7 49 "SwingCranes" "fourthBack" "LSwingCranes$Story;", Cond.fieldLink RX7 46 "SwingCranes" "thirdBack" "LSwingCranes$Story;", Cond.fieldLink RX7 43 "SwingCranes" "secondBack" "LSwingCranes$Story;", Cond.fieldLink RX7 40 "SwingCranes" "firstBack" "LSwingCranes$Story;", Cond.fieldLink RX7 79 "SwingCranes" "undoable" "I", Cond.methodLink RX7 239 Lib.Math.min.name, Cond.static Lib.Math.min.name, Cond.initialized "java/lang/Math", Cond.code Lib.Math.min.name Lib.Math.min.code 2 (some .int), Cond.methodLink RX7 236 yX5_copyFrom, Cond.instanceMethod yX5_copyFrom, Cond.selects RX5 yX5_copyFrom yX5_copyFrom, Cond.initialized RX5]
def wsX7_tick_r2 : List Cond := [Cond.code yX5_copyFrom cX5_copyFrom 2 none, Cond.fieldLink RX5 10 "SwingCranes$Story" "pair" "LSwingCranes$Pair;", Cond.fieldLink RX5 19 "SwingCranes$Story" "leftSpots" "LSwingCranes$Spots;", Cond.fieldLink RX5 23 "SwingCranes$Story" "rightSpots" "LSwingCranes$Spots;", Cond.fieldLink RX5 34 "SwingCranes$Story" "ticks" "I", Cond.methodLink RX5 37 yX2_copyFrom, Cond.instanceMethod yX2_copyFrom, Cond.selects RX2 yX2_copyFrom yX2_copyFrom, Cond.initialized RX2, Cond.code yX2_copyFrom cX2_copyFrom 2 none, Cond.fieldLink RX2 12 "SwingCranes$Pair" "left" "LSwingCranes$Crane;", Cond.fieldLink RX2 18 "SwingCranes$Pair" "right" "LSwingCranes$Crane;", Cond.fieldLink RX2 21 "SwingCranes$Pair" "level" "I", Cond.methodLink RX2 36 yX0_copyFrom, Cond.instanceMethod yX0_copyFrom, Cond.selects RX0 yX0_copyFrom yX0_copyFrom, Cond.initialized RX0, Cond.code yX0_copyFrom cX0_copyFrom 2 none, Cond.fieldLink RX0 15 "SwingCranes$Crane" "place" "I", Cond.fieldLink RX0 18 "SwingCranes$Crane" "speed" "I", Cond.fieldLink RX0 24 "SwingCranes$Crane" "rope" "I", Cond.fieldLink RX0 28 "SwingCranes$Crane" "load" "I", Cond.fieldLink RX0 29 "SwingCranes$Crane" "swing" "I", Cond.fieldLink RX0 32 "SwingCranes$Crane" "rate" "I"]
def wsX7_tick_r3 : List Cond := [Cond.fieldLink RX0 35 "SwingCranes$Crane" "want" "I", Cond.fieldLink RX0 38 "SwingCranes$Crane" "target" "I", Cond.fieldLink RX0 49 "SwingCranes$Crane" "soonIn" "I", Cond.fieldLink RX0 52 "SwingCranes$Crane" "soonBy" "I", Cond.fieldLink RX0 55 "SwingCranes$Crane" "laterIn" "I", Cond.fieldLink RX0 58 "SwingCranes$Crane" "laterBy" "I", Cond.fieldLink RX0 45 "SwingCranes$Crane" "braked" "Z", Cond.methodLink RX5 41 yX3_copyFrom, Cond.instanceMethod yX3_copyFrom, Cond.selects RX3 yX3_copyFrom yX3_copyFrom, Cond.initialized RX3, Cond.code yX3_copyFrom cX3_copyFrom 3 none, Cond.fieldLink RX3 18 "SwingCranes$Spots" "many" "I", Cond.methodLink RX3 22 yX3_nameAt, Cond.instanceMethod yX3_nameAt, Cond.selects RX3 yX3_nameAt yX3_nameAt, Cond.code yX3_nameAt cX3_nameAt 2 (some .int), Cond.fieldLink RX3 11 "SwingCranes$Spots" "names" "[I", Cond.methodLink RX3 26 yX3_ticksAt, Cond.instanceMethod yX3_ticksAt, Cond.selects RX3 yX3_ticksAt yX3_ticksAt, Cond.code yX3_ticksAt cX3_ticksAt 2 (some .int), Cond.fieldLink RX3 15 "SwingCranes$Spots" "ticks" "[I", Cond.methodLink RX3 29 yX3_put]
def wsX7_tick_r4 : List Cond := [Cond.instanceMethod yX3_put, Cond.selects RX3 yX3_put yX3_put, Cond.code yX3_put cX3_put 4 none, Cond.methodLink RX7 135 yX5_goOn, Cond.instanceMethod yX5_goOn, Cond.selects RX5 yX5_goOn yX5_goOn, Cond.code yX5_goOn cX5_goOn 3 (some .int), Cond.fieldLink RX5 48 "SwingCranes$Pair" "left" "LSwingCranes$Crane;", Cond.fieldLink RX5 56 "SwingCranes$Pair" "right" "LSwingCranes$Crane;", Cond.methodLink RX5 44 yX2_goOn, Cond.instanceMethod yX2_goOn, Cond.selects RX2 yX2_goOn yX2_goOn, Cond.code yX2_goOn cX2_goOn 3 (some .int), Cond.fieldLink RX2 40 "SwingCranes$Crane" "place" "I", Cond.fieldLink RX2 80 "SwingCranes$Layout" "end" "I", Cond.fieldLink RX2 83 "SwingCranes$Layout" "hoist" "I", Cond.fieldLink RX2 86 "SwingCranes$Crane" "rope" "I", Cond.fieldLink RX2 93 "SwingCranes$Crane" "braked" "Z", Cond.methodLink RX2 72 yX2_freeBetween, Cond.instanceMethod yX2_freeBetween, Cond.selects RX2 yX2_freeBetween yX2_freeBetween, Cond.code yX2_freeBetween cX2_freeBetween 2 (some .int), Cond.fieldLink RX2 43 "SwingCranes$Layout" "gap" "I", Cond.methodLink RX2 76 yX0_roll]
def wsX7_tick_r5 : List Cond := [Cond.instanceMethod yX0_roll, Cond.selects RX0 yX0_roll yX0_roll, Cond.code yX0_roll cX0_roll 6 none, Cond.fieldLink RX0 94 "SwingCranes$Layout" "change" "I", Cond.methodLink RX0 87 yX0_takeSteps, Cond.instanceMethod yX0_takeSteps, Cond.selects RX0 yX0_takeSteps yX0_takeSteps, Cond.code yX0_takeSteps cX0_takeSteps 1 none, Cond.methodLink RX0 90 yX0_speedNearerToWant, Cond.instanceMethod yX0_speedNearerToWant, Cond.selects RX0 yX0_speedNearerToWant yX0_speedNearerToWant, Cond.code yX0_speedNearerToWant cX0_speedNearerToWant 3 (some .int), Cond.methodLink RX0 108 yX0_limit, Cond.instanceMethod yX0_limit, Cond.selects RX0 yX0_limit yX0_limit, Cond.code yX0_limit cX0_limit 2 (some .int), Cond.fieldLink RX0 69 "SwingCranes$Layout" "top" "I", Cond.methodLink RX0 74 Lib.Math.max.name, Cond.static Lib.Math.max.name, Cond.code Lib.Math.max.name Lib.Math.max.code 2 (some .int), Cond.static yX7_keptWithin, Cond.code yX7_keptWithin cX7_keptWithin 2 (some .int), Cond.methodLink RX7 214 Lib.Math.max.name, Cond.static yX7_wayToStop]
def wsX7_tick_r6 : List Cond := [Cond.code yX7_wayToStop cX7_wayToStop 4 (some .int), Cond.methodLink RX7 209 Lib.Math.abs.name, Cond.static Lib.Math.abs.name, Cond.code Lib.Math.abs.name Lib.Math.abs.code 1 (some .int), Cond.methodLink RX0 100 yX0_speedForRoom, Cond.instanceMethod yX0_speedForRoom, Cond.selects RX0 yX0_speedForRoom yX0_speedForRoom, Cond.code yX0_speedForRoom cX0_speedForRoom 6 (some .int), Cond.methodLink RX0 84 Lib.Math.abs.name, Cond.methodLink RX0 104 yX0_swingOut, Cond.instanceMethod yX0_swingOut, Cond.selects RX0 yX0_swingOut yX0_swingOut, Cond.code yX0_swingOut cX0_swingOut 3 none, Cond.methodLink RX2 89 yX0_hoistRope, Cond.instanceMethod yX0_hoistRope, Cond.selects RX0 yX0_hoistRope yX0_hoistRope, Cond.code yX0_hoistRope cX0_hoistRope 6 none, Cond.methodLink RX5 52 yX3_addTick, Cond.instanceMethod yX3_addTick, Cond.selects RX3 yX3_addTick yX3_addTick, Cond.code yX3_addTick cX3_addTick 4 none, Cond.fieldLink RX3 33 "SwingCranes$Crane" "place" "I", Cond.fieldLink RX3 38 "SwingCranes$Crane" "rope" "I", Cond.methodLink RX3 41 yX3_nameOf]
def wsX7_tick_r7 : List Cond := [Cond.instanceMethod yX3_nameOf, Cond.selects RX3 yX3_nameOf yX3_nameOf, Cond.code yX3_nameOf cX3_nameOf 3 (some .int), Cond.methodLink RX3 45 yX3_find, Cond.instanceMethod yX3_find, Cond.selects RX3 yX3_find yX3_find, Cond.code yX3_find cX3_find 3 (some .int)]
def wsX7_tick : List Cond := .code yX7_tick cX7_tick 4 (some .int) :: ((wsX7_tick_r1 ++ (wsX7_tick_r2 ++ (wsX7_tick_r3 ++ (wsX7_tick_r4 ++ (wsX7_tick_r5 ++ (wsX7_tick_r6 ++ wsX7_tick_r7)))))) ++ wsX70 ++ wsX50 ++ wsX20 ++ wsX00 ++ wsX30 ++ wsX10)
def wsX7_undo : List Cond := .code yX7_undo cX7_undo 2 (some .int) :: ([.fieldLink RX7 79 "SwingCranes" "undoable" "I", .fieldLink RX7 36 "SwingCranes" "now" "LSwingCranes$Story;", .fieldLink RX7 40 "SwingCranes" "firstBack" "LSwingCranes$Story;", .fieldLink RX7 43 "SwingCranes" "secondBack" "LSwingCranes$Story;", .fieldLink RX7 46 "SwingCranes" "thirdBack" "LSwingCranes$Story;", .fieldLink RX7 49 "SwingCranes" "fourthBack" "LSwingCranes$Story;"] ++ wsX70)
def wsX7_crane_r1 : List Cond := [Cond.fieldLink RX7 36 "SwingCranes" "now" "LSwingCranes$Story;", Cond.fieldLink RX7 95 "SwingCranes$Story" "pair" "LSwingCranes$Pair;", Cond.fieldLink RX7 138 "SwingCranes$Crane" "place" "I", Cond.fieldLink RX7 141 "SwingCranes$Crane" "speed" "I", Cond.constant RX7 144 (100000), Cond.fieldLink RX7 145 "SwingCranes$Crane" "rope" "I", Cond.fieldLink RX7 126 "SwingCranes$Crane" "load" "I", Cond.fieldLink RX7 148 "SwingCranes$Crane" "swing" "I", Cond.fieldLink RX7 151 "SwingCranes$Crane" "rate" "I", Cond.fieldLink RX7 154 "SwingCranes$Crane" "want" "I", Cond.fieldLink RX7 117 "SwingCranes$Crane" "target" "I", Cond.fieldLink RX7 26 "SwingCranes" "rules" "LSwingCranes$Layout;", Cond.fieldLink RX7 164 "SwingCranes$Layout" "change" "I", Cond.methodLink RX7 85 yX7_isCrane, Cond.static yX7_isCrane, Cond.initialized RX7, Cond.code yX7_isCrane cX7_isCrane 1 (some .boolean), Cond.methodLink RX7 113 yX2_side, Cond.instanceMethod yX2_side, Cond.selects RX2 yX2_side yX2_side, Cond.initialized RX2, Cond.code yX2_side cX2_side 2 (some (.object "SwingCranes$Crane")), Cond.fieldLink RX2 12 "SwingCranes$Pair" "left" "LSwingCranes$Crane;", Cond.fieldLink RX2 18 "SwingCranes$Pair" "right" "LSwingCranes$Crane;"]
def wsX7_crane_r2 : List Cond := [Cond.methodLink RX7 157 yX0_limit, Cond.instanceMethod yX0_limit, Cond.selects RX0 yX0_limit yX0_limit, Cond.initialized RX0, Cond.code yX0_limit cX0_limit 2 (some .int), Cond.fieldLink RX0 69 "SwingCranes$Layout" "top" "I", Cond.fieldLink RX0 28 "SwingCranes$Crane" "load" "I", Cond.methodLink RX0 74 Lib.Math.max.name, Cond.static Lib.Math.max.name, Cond.initialized "java/lang/Math", Cond.code Lib.Math.max.name Lib.Math.max.code 2 (some .int), Cond.methodLink RX7 160 yX0_stepsToCome, Cond.instanceMethod yX0_stepsToCome, Cond.selects RX0 yX0_stepsToCome yX0_stepsToCome, Cond.code yX0_stepsToCome cX0_stepsToCome 1 (some .int), Cond.fieldLink RX0 52 "SwingCranes$Crane" "soonBy" "I", Cond.fieldLink RX0 58 "SwingCranes$Crane" "laterBy" "I", Cond.methodLink RX7 167 yX7_wayToStop, Cond.static yX7_wayToStop, Cond.code yX7_wayToStop cX7_wayToStop 4 (some .int), Cond.methodLink RX7 209 Lib.Math.abs.name, Cond.static Lib.Math.abs.name, Cond.code Lib.Math.abs.name Lib.Math.abs.code 1 (some .int), Cond.methodLink RX7 170 yX7_halfSwing]
def wsX7_crane_r3 : List Cond := [Cond.static yX7_halfSwing, Cond.code yX7_halfSwing cX7_halfSwing 2 (some .int), Cond.methodLink RX7 174 yX0_isQuiet, Cond.instanceMethod yX0_isQuiet, Cond.selects RX0 yX0_isQuiet yX0_isQuiet, Cond.code yX0_isQuiet cX0_isQuiet 1 (some .boolean), Cond.fieldLink RX0 18 "SwingCranes$Crane" "speed" "I", Cond.fieldLink RX0 35 "SwingCranes$Crane" "want" "I", Cond.fieldLink RX0 29 "SwingCranes$Crane" "swing" "I", Cond.methodLink RX0 84 Lib.Math.abs.name, Cond.fieldLink RX0 32 "SwingCranes$Crane" "rate" "I", Cond.methodLink RX0 80 yX0_stepsToCome]
def wsX7_crane : List Cond := .code yX7_crane cX7_crane 4 (some .int) :: ((wsX7_crane_r1 ++ (wsX7_crane_r2 ++ wsX7_crane_r3)) ++ wsX70 ++ wsX50 ++ wsX00 ++ wsX10 ++ wsX20)
def wsX7_stepOf_r1 : List Cond := [Cond.fieldLink RX7 36 "SwingCranes" "now" "LSwingCranes$Story;", Cond.fieldLink RX7 95 "SwingCranes$Story" "pair" "LSwingCranes$Pair;", Cond.constant RX7 144 (100000), Cond.methodLink RX7 85 yX7_isCrane, Cond.static yX7_isCrane, Cond.initialized RX7, Cond.code yX7_isCrane cX7_isCrane 1 (some .boolean), Cond.methodLink RX7 56 yX7_isWithin, Cond.static yX7_isWithin, Cond.code yX7_isWithin cX7_isWithin 3 (some .boolean), Cond.methodLink RX7 113 yX2_side, Cond.instanceMethod yX2_side, Cond.selects RX2 yX2_side yX2_side, Cond.initialized RX2, Cond.code yX2_side cX2_side 2 (some (.object "SwingCranes$Crane")), Cond.fieldLink RX2 12 "SwingCranes$Pair" "left" "LSwingCranes$Crane;", Cond.fieldLink RX2 18 "SwingCranes$Pair" "right" "LSwingCranes$Crane;", Cond.methodLink RX7 160 yX0_stepsToCome, Cond.instanceMethod yX0_stepsToCome, Cond.selects RX0 yX0_stepsToCome yX0_stepsToCome, Cond.initialized RX0, Cond.code yX0_stepsToCome cX0_stepsToCome 1 (some .int), Cond.fieldLink RX0 52 "SwingCranes$Crane" "soonBy" "I", Cond.fieldLink RX0 58 "SwingCranes$Crane" "laterBy" "I"]
def wsX7_stepOf_r2 : List Cond := [Cond.methodLink RX7 177 yX0_stepIn, Cond.instanceMethod yX0_stepIn, Cond.selects RX0 yX0_stepIn yX0_stepIn, Cond.code yX0_stepIn cX0_stepIn 2 (some .int), Cond.fieldLink RX0 49 "SwingCranes$Crane" "soonIn" "I", Cond.fieldLink RX0 55 "SwingCranes$Crane" "laterIn" "I", Cond.methodLink RX0 65 yX0_isSoon, Cond.instanceMethod yX0_isSoon, Cond.selects RX0 yX0_isSoon yX0_isSoon, Cond.code yX0_isSoon cX0_isSoon 2 (some .boolean), Cond.methodLink RX7 180 yX0_stepBy, Cond.instanceMethod yX0_stepBy, Cond.selects RX0 yX0_stepBy yX0_stepBy, Cond.code yX0_stepBy cX0_stepBy 2 (some .int)]
def wsX7_stepOf : List Cond := .code yX7_stepOf cX7_stepOf 5 (some .int) :: ((wsX7_stepOf_r1 ++ wsX7_stepOf_r2) ++ wsX70 ++ wsX50 ++ wsX20 ++ wsX00)
def wsX7_stop : List Cond := .code yX7_stop cX7_stop 2 (some .int) :: ([.fieldLink RX7 26 "SwingCranes" "rules" "LSwingCranes$Layout;", .fieldLink RX7 164 "SwingCranes$Layout" "change" "I", .methodLink RX7 89 yX7_isSpeed, .static yX7_isSpeed, .initialized RX7, .code yX7_isSpeed cX7_isSpeed 1 (some .boolean), .methodLink RX7 56 yX7_isWithin, .static yX7_isWithin, .code yX7_isWithin cX7_isWithin 3 (some .boolean), .methodLink RX7 167 yX7_wayToStop, .static yX7_wayToStop, .code yX7_wayToStop cX7_wayToStop 4 (some .int), .methodLink RX7 209 Lib.Math.abs.name, .static Lib.Math.abs.name, .initialized "java/lang/Math", .code Lib.Math.abs.name Lib.Math.abs.code 1 (some .int)] ++ wsX70 ++ wsX10)
def wsX7_half : List Cond := .code yX7_half cX7_half 2 (some .int) :: ([.methodLink RX7 106 yX7_isRope, .static yX7_isRope, .initialized RX7, .code yX7_isRope cX7_isRope 1 (some .boolean), .methodLink RX7 56 yX7_isWithin, .static yX7_isWithin, .code yX7_isWithin cX7_isWithin 3 (some .boolean), .methodLink RX7 170 yX7_halfSwing, .static yX7_halfSwing, .code yX7_halfSwing cX7_halfSwing 2 (some .int)])
def wsX7_spot_r1 : List Cond := [Cond.fieldLink RX7 36 "SwingCranes" "now" "LSwingCranes$Story;", Cond.fieldLink RX7 187 "SwingCranes$Spots" "many" "I", Cond.methodLink RX7 85 yX7_isCrane, Cond.static yX7_isCrane, Cond.initialized RX7, Cond.code yX7_isCrane cX7_isCrane 1 (some .boolean), Cond.methodLink RX7 56 yX7_isWithin, Cond.static yX7_isWithin, Cond.code yX7_isWithin cX7_isWithin 3 (some .boolean), Cond.methodLink RX7 183 yX5_spotsOf, Cond.instanceMethod yX5_spotsOf, Cond.selects RX5 yX5_spotsOf yX5_spotsOf, Cond.initialized RX5, Cond.code yX5_spotsOf cX5_spotsOf 2 (some (.object "SwingCranes$Spots")), Cond.fieldLink RX5 19 "SwingCranes$Story" "leftSpots" "LSwingCranes$Spots;", Cond.fieldLink RX5 23 "SwingCranes$Story" "rightSpots" "LSwingCranes$Spots;", Cond.methodLink RX7 192 yX3_blockAt, Cond.instanceMethod yX3_blockAt, Cond.selects RX3 yX3_blockAt yX3_blockAt, Cond.initialized RX3, Cond.code yX3_blockAt cX3_blockAt 2 (some .int), Cond.methodLink RX3 22 yX3_nameAt, Cond.instanceMethod yX3_nameAt, Cond.selects RX3 yX3_nameAt yX3_nameAt]
def wsX7_spot_r2 : List Cond := [Cond.code yX3_nameAt cX3_nameAt 2 (some .int), Cond.fieldLink RX3 11 "SwingCranes$Spots" "names" "[I", Cond.methodLink RX7 195 yX3_floorAt, Cond.instanceMethod yX3_floorAt, Cond.selects RX3 yX3_floorAt yX3_floorAt, Cond.code yX3_floorAt cX3_floorAt 2 (some .int), Cond.methodLink RX7 198 yX3_ticksAt, Cond.instanceMethod yX3_ticksAt, Cond.selects RX3 yX3_ticksAt yX3_ticksAt, Cond.code yX3_ticksAt cX3_ticksAt 2 (some .int), Cond.fieldLink RX3 18 "SwingCranes$Spots" "many" "I", Cond.fieldLink RX3 15 "SwingCranes$Spots" "ticks" "[I"]
def wsX7_spot : List Cond := .code yX7_spot cX7_spot 5 (some .int) :: ((wsX7_spot_r1 ++ wsX7_spot_r2) ++ wsX70 ++ wsX30 ++ wsX50)
def wsX7_been_r1 : List Cond := [Cond.fieldLink RX7 36 "SwingCranes" "now" "LSwingCranes$Story;", Cond.methodLink RX7 85 yX7_isCrane, Cond.static yX7_isCrane, Cond.initialized RX7, Cond.code yX7_isCrane cX7_isCrane 1 (some .boolean), Cond.methodLink RX7 56 yX7_isWithin, Cond.static yX7_isWithin, Cond.code yX7_isWithin cX7_isWithin 3 (some .boolean), Cond.methodLink RX7 183 yX5_spotsOf, Cond.instanceMethod yX5_spotsOf, Cond.selects RX5 yX5_spotsOf yX5_spotsOf, Cond.initialized RX5, Cond.code yX5_spotsOf cX5_spotsOf 2 (some (.object "SwingCranes$Spots")), Cond.fieldLink RX5 19 "SwingCranes$Story" "leftSpots" "LSwingCranes$Spots;", Cond.fieldLink RX5 23 "SwingCranes$Story" "rightSpots" "LSwingCranes$Spots;", Cond.methodLink RX7 201 yX3_ticksIn, Cond.instanceMethod yX3_ticksIn, Cond.selects RX3 yX3_ticksIn yX3_ticksIn, Cond.initialized RX3, Cond.code yX3_ticksIn cX3_ticksIn 3 (some .int), Cond.methodLink RX3 41 yX3_nameOf, Cond.instanceMethod yX3_nameOf, Cond.selects RX3 yX3_nameOf yX3_nameOf, Cond.code yX3_nameOf cX3_nameOf 3 (some .int)]
def wsX7_been_r2 : List Cond := [Cond.methodLink RX3 45 yX3_find, Cond.instanceMethod yX3_find, Cond.selects RX3 yX3_find yX3_find, Cond.code yX3_find cX3_find 3 (some .int), Cond.fieldLink RX3 18 "SwingCranes$Spots" "many" "I", Cond.methodLink RX3 22 yX3_nameAt, Cond.instanceMethod yX3_nameAt, Cond.selects RX3 yX3_nameAt yX3_nameAt, Cond.code yX3_nameAt cX3_nameAt 2 (some .int), Cond.fieldLink RX3 11 "SwingCranes$Spots" "names" "[I", Cond.methodLink RX3 26 yX3_ticksAt, Cond.instanceMethod yX3_ticksAt, Cond.selects RX3 yX3_ticksAt yX3_ticksAt, Cond.code yX3_ticksAt cX3_ticksAt 2 (some .int), Cond.fieldLink RX3 15 "SwingCranes$Spots" "ticks" "[I"]
def wsX7_been : List Cond := .code yX7_been cX7_been 4 (some .int) :: ((wsX7_been_r1 ++ wsX7_been_r2) ++ wsX70 ++ wsX50 ++ wsX30)
def wsX7_ahead_r1 : List Cond := [Cond.fieldLink RX7 19 "SwingCranes" "trial" "LSwingCranes$Pair;", Cond.fieldLink RX7 36 "SwingCranes" "now" "LSwingCranes$Story;", Cond.fieldLink RX7 95 "SwingCranes$Story" "pair" "LSwingCranes$Pair;", Cond.fieldLink RX7 26 "SwingCranes" "rules" "LSwingCranes$Layout;", Cond.fieldLink RX7 148 "SwingCranes$Crane" "swing" "I", Cond.methodLink RX7 209 Lib.Math.abs.name, Cond.static Lib.Math.abs.name, Cond.initialized "java/lang/Math", Cond.code Lib.Math.abs.name Lib.Math.abs.code 1 (some .int), Cond.methodLink RX7 214 Lib.Math.max.name, Cond.static Lib.Math.max.name, Cond.code Lib.Math.max.name Lib.Math.max.code 2 (some .int), Cond.fieldLink RX7 217 "SwingCranes$Crane" "braked" "Z", Cond.fieldLink RX7 138 "SwingCranes$Crane" "place" "I", Cond.fieldLink RX7 141 "SwingCranes$Crane" "speed" "I", Cond.constant RX7 144 (100000), Cond.fieldLink RX7 145 "SwingCranes$Crane" "rope" "I", Cond.methodLink RX7 56 yX7_isWithin, Cond.static yX7_isWithin, Cond.initialized RX7, Cond.code yX7_isWithin cX7_isWithin 3 (some .boolean), Cond.methodLink RX7 85 yX7_isCrane, Cond.static yX7_isCrane, Cond.code yX7_isCrane cX7_isCrane 1 (some .boolean)]
def wsX7_ahead_r2 : List Cond := [Cond.methodLink RX7 204 yX2_copyFrom, Cond.instanceMethod yX2_copyFrom, Cond.selects RX2 yX2_copyFrom yX2_copyFrom, Cond.initialized RX2, Cond.code yX2_copyFrom cX2_copyFrom 2 none, Cond.fieldLink RX2 12 "SwingCranes$Pair" "left" "LSwingCranes$Crane;", Cond.fieldLink RX2 18 "SwingCranes$Pair" "right" "LSwingCranes$Crane;", Cond.fieldLink RX2 21 "SwingCranes$Pair" "level" "I", Cond.methodLink RX2 36 yX0_copyFrom, Cond.instanceMethod yX0_copyFrom, Cond.selects RX0 yX0_copyFrom yX0_copyFrom, Cond.initialized RX0, Cond.code yX0_copyFrom cX0_copyFrom 2 none, Cond.fieldLink RX0 15 "SwingCranes$Crane" "place" "I", Cond.fieldLink RX0 18 "SwingCranes$Crane" "speed" "I", Cond.fieldLink RX0 24 "SwingCranes$Crane" "rope" "I", Cond.fieldLink RX0 28 "SwingCranes$Crane" "load" "I", Cond.fieldLink RX0 29 "SwingCranes$Crane" "swing" "I", Cond.fieldLink RX0 32 "SwingCranes$Crane" "rate" "I", Cond.fieldLink RX0 35 "SwingCranes$Crane" "want" "I", Cond.fieldLink RX0 38 "SwingCranes$Crane" "target" "I", Cond.fieldLink RX0 49 "SwingCranes$Crane" "soonIn" "I", Cond.fieldLink RX0 52 "SwingCranes$Crane" "soonBy" "I", Cond.fieldLink RX0 55 "SwingCranes$Crane" "laterIn" "I"]
def wsX7_ahead_r3 : List Cond := [Cond.fieldLink RX0 58 "SwingCranes$Crane" "laterBy" "I", Cond.fieldLink RX0 45 "SwingCranes$Crane" "braked" "Z", Cond.methodLink RX7 113 yX2_side, Cond.instanceMethod yX2_side, Cond.selects RX2 yX2_side yX2_side, Cond.code yX2_side cX2_side 2 (some (.object "SwingCranes$Crane")), Cond.methodLink RX7 208 yX2_goOn, Cond.instanceMethod yX2_goOn, Cond.selects RX2 yX2_goOn yX2_goOn, Cond.code yX2_goOn cX2_goOn 3 (some .int), Cond.fieldLink RX2 40 "SwingCranes$Crane" "place" "I", Cond.fieldLink RX2 80 "SwingCranes$Layout" "end" "I", Cond.fieldLink RX2 83 "SwingCranes$Layout" "hoist" "I", Cond.fieldLink RX2 86 "SwingCranes$Crane" "rope" "I", Cond.fieldLink RX2 93 "SwingCranes$Crane" "braked" "Z", Cond.methodLink RX2 72 yX2_freeBetween, Cond.instanceMethod yX2_freeBetween, Cond.selects RX2 yX2_freeBetween yX2_freeBetween, Cond.code yX2_freeBetween cX2_freeBetween 2 (some .int), Cond.fieldLink RX2 43 "SwingCranes$Layout" "gap" "I", Cond.methodLink RX2 76 yX0_roll, Cond.instanceMethod yX0_roll, Cond.selects RX0 yX0_roll yX0_roll, Cond.code yX0_roll cX0_roll 6 none]
def wsX7_ahead_r4 : List Cond := [Cond.fieldLink RX0 94 "SwingCranes$Layout" "change" "I", Cond.methodLink RX0 87 yX0_takeSteps, Cond.instanceMethod yX0_takeSteps, Cond.selects RX0 yX0_takeSteps yX0_takeSteps, Cond.code yX0_takeSteps cX0_takeSteps 1 none, Cond.methodLink RX0 90 yX0_speedNearerToWant, Cond.instanceMethod yX0_speedNearerToWant, Cond.selects RX0 yX0_speedNearerToWant yX0_speedNearerToWant, Cond.code yX0_speedNearerToWant cX0_speedNearerToWant 3 (some .int), Cond.methodLink RX0 108 yX0_limit, Cond.instanceMethod yX0_limit, Cond.selects RX0 yX0_limit yX0_limit, Cond.code yX0_limit cX0_limit 2 (some .int), Cond.fieldLink RX0 69 "SwingCranes$Layout" "top" "I", Cond.methodLink RX0 74 Lib.Math.max.name, Cond.static yX7_keptWithin, Cond.code yX7_keptWithin cX7_keptWithin 2 (some .int), Cond.methodLink RX7 239 Lib.Math.min.name, Cond.static Lib.Math.min.name, Cond.code Lib.Math.min.name Lib.Math.min.code 2 (some .int), Cond.static yX7_wayToStop, Cond.code yX7_wayToStop cX7_wayToStop 4 (some .int), Cond.methodLink RX0 100 yX0_speedForRoom, Cond.instanceMethod yX0_speedForRoom]
def wsX7_ahead_r5 : List Cond := [Cond.selects RX0 yX0_speedForRoom yX0_speedForRoom, Cond.code yX0_speedForRoom cX0_speedForRoom 6 (some .int), Cond.methodLink RX0 84 Lib.Math.abs.name, Cond.methodLink RX0 104 yX0_swingOut, Cond.instanceMethod yX0_swingOut, Cond.selects RX0 yX0_swingOut yX0_swingOut, Cond.code yX0_swingOut cX0_swingOut 3 none, Cond.methodLink RX2 89 yX0_hoistRope, Cond.instanceMethod yX0_hoistRope, Cond.selects RX0 yX0_hoistRope yX0_hoistRope, Cond.code yX0_hoistRope cX0_hoistRope 6 none]
def wsX7_ahead : List Cond := .code yX7_ahead cX7_ahead 8 (some .int) :: ((wsX7_ahead_r1 ++ (wsX7_ahead_r2 ++ (wsX7_ahead_r3 ++ (wsX7_ahead_r4 ++ wsX7_ahead_r5)))) ++ wsX70 ++ wsX50 ++ wsX00 ++ wsX20 ++ wsX10)
def wsX7_quiet_r1 : List Cond := [Cond.fieldLink RX7 19 "SwingCranes" "trial" "LSwingCranes$Pair;", Cond.fieldLink RX7 36 "SwingCranes" "now" "LSwingCranes$Story;", Cond.fieldLink RX7 95 "SwingCranes$Story" "pair" "LSwingCranes$Pair;", Cond.fieldLink RX7 26 "SwingCranes" "rules" "LSwingCranes$Layout;", Cond.methodLink RX7 85 yX7_isCrane, Cond.static yX7_isCrane, Cond.initialized RX7, Cond.code yX7_isCrane cX7_isCrane 1 (some .boolean), Cond.methodLink RX7 204 yX2_copyFrom, Cond.instanceMethod yX2_copyFrom, Cond.selects RX2 yX2_copyFrom yX2_copyFrom, Cond.initialized RX2, Cond.code yX2_copyFrom cX2_copyFrom 2 none, Cond.fieldLink RX2 12 "SwingCranes$Pair" "left" "LSwingCranes$Crane;", Cond.fieldLink RX2 18 "SwingCranes$Pair" "right" "LSwingCranes$Crane;", Cond.fieldLink RX2 21 "SwingCranes$Pair" "level" "I", Cond.methodLink RX2 36 yX0_copyFrom, Cond.instanceMethod yX0_copyFrom, Cond.selects RX0 yX0_copyFrom yX0_copyFrom, Cond.initialized RX0, Cond.code yX0_copyFrom cX0_copyFrom 2 none, Cond.fieldLink RX0 15 "SwingCranes$Crane" "place" "I", Cond.fieldLink RX0 18 "SwingCranes$Crane" "speed" "I", Cond.fieldLink RX0 24 "SwingCranes$Crane" "rope" "I"]
def wsX7_quiet_r2 : List Cond := [Cond.fieldLink RX0 28 "SwingCranes$Crane" "load" "I", Cond.fieldLink RX0 29 "SwingCranes$Crane" "swing" "I", Cond.fieldLink RX0 32 "SwingCranes$Crane" "rate" "I", Cond.fieldLink RX0 35 "SwingCranes$Crane" "want" "I", Cond.fieldLink RX0 38 "SwingCranes$Crane" "target" "I", Cond.fieldLink RX0 49 "SwingCranes$Crane" "soonIn" "I", Cond.fieldLink RX0 52 "SwingCranes$Crane" "soonBy" "I", Cond.fieldLink RX0 55 "SwingCranes$Crane" "laterIn" "I", Cond.fieldLink RX0 58 "SwingCranes$Crane" "laterBy" "I", Cond.fieldLink RX0 45 "SwingCranes$Crane" "braked" "Z", Cond.methodLink RX7 98 yX2_tellAtOnce, Cond.instanceMethod yX2_tellAtOnce, Cond.selects RX2 yX2_tellAtOnce yX2_tellAtOnce, Cond.code yX2_tellAtOnce cX2_tellAtOnce 3 (some .int), Cond.methodLink RX2 50 yX2_leftHeeds, Cond.instanceMethod yX2_leftHeeds, Cond.selects RX2 yX2_leftHeeds yX2_leftHeeds, Cond.code yX2_leftHeeds cX2_leftHeeds 2 (some .boolean), Cond.methodLink RX2 46 yX2_isCoupled, Cond.instanceMethod yX2_isCoupled, Cond.selects RX2 yX2_isCoupled yX2_isCoupled, Cond.code yX2_isCoupled cX2_isCoupled 1 (some .boolean), Cond.methodLink RX2 54 yX0_planAtOnce, Cond.instanceMethod yX0_planAtOnce]
def wsX7_quiet_r3 : List Cond := [Cond.selects RX0 yX0_planAtOnce yX0_planAtOnce, Cond.code yX0_planAtOnce cX0_planAtOnce 2 none, Cond.methodLink RX0 41 yX0_setSteps, Cond.instanceMethod yX0_setSteps, Cond.selects RX0 yX0_setSteps yX0_setSteps, Cond.code yX0_setSteps cX0_setSteps 4 none, Cond.methodLink RX2 58 yX2_rightHeeds, Cond.instanceMethod yX2_rightHeeds, Cond.selects RX2 yX2_rightHeeds yX2_rightHeeds, Cond.code yX2_rightHeeds cX2_rightHeeds 2 (some .boolean), Cond.methodLink RX2 61 yX2_heeding, Cond.instanceMethod yX2_heeding, Cond.selects RX2 yX2_heeding yX2_heeding, Cond.code yX2_heeding cX2_heeding 1 (some .int), Cond.methodLink RX7 113 yX2_side, Cond.instanceMethod yX2_side, Cond.selects RX2 yX2_side yX2_side, Cond.code yX2_side cX2_side 2 (some (.object "SwingCranes$Crane")), Cond.methodLink RX7 174 yX0_isQuiet, Cond.instanceMethod yX0_isQuiet, Cond.selects RX0 yX0_isQuiet yX0_isQuiet, Cond.code yX0_isQuiet cX0_isQuiet 1 (some .boolean), Cond.methodLink RX0 84 Lib.Math.abs.name, Cond.static Lib.Math.abs.name]
def wsX7_quiet_r4 : List Cond := [Cond.initialized "java/lang/Math", Cond.code Lib.Math.abs.name Lib.Math.abs.code 1 (some .int), Cond.methodLink RX0 80 yX0_stepsToCome, Cond.instanceMethod yX0_stepsToCome, Cond.selects RX0 yX0_stepsToCome yX0_stepsToCome, Cond.code yX0_stepsToCome cX0_stepsToCome 1 (some .int), Cond.methodLink RX7 208 yX2_goOn, Cond.instanceMethod yX2_goOn, Cond.selects RX2 yX2_goOn yX2_goOn, Cond.code yX2_goOn cX2_goOn 3 (some .int), Cond.fieldLink RX2 40 "SwingCranes$Crane" "place" "I", Cond.fieldLink RX2 80 "SwingCranes$Layout" "end" "I", Cond.fieldLink RX2 83 "SwingCranes$Layout" "hoist" "I", Cond.fieldLink RX2 86 "SwingCranes$Crane" "rope" "I", Cond.fieldLink RX2 93 "SwingCranes$Crane" "braked" "Z", Cond.methodLink RX2 72 yX2_freeBetween, Cond.instanceMethod yX2_freeBetween, Cond.selects RX2 yX2_freeBetween yX2_freeBetween, Cond.code yX2_freeBetween cX2_freeBetween 2 (some .int), Cond.fieldLink RX2 43 "SwingCranes$Layout" "gap" "I", Cond.methodLink RX2 76 yX0_roll, Cond.instanceMethod yX0_roll, Cond.selects RX0 yX0_roll yX0_roll, Cond.code yX0_roll cX0_roll 6 none]
def wsX7_quiet_r5 : List Cond := [Cond.fieldLink RX0 94 "SwingCranes$Layout" "change" "I", Cond.methodLink RX0 87 yX0_takeSteps, Cond.instanceMethod yX0_takeSteps, Cond.selects RX0 yX0_takeSteps yX0_takeSteps, Cond.code yX0_takeSteps cX0_takeSteps 1 none, Cond.methodLink RX0 90 yX0_speedNearerToWant, Cond.instanceMethod yX0_speedNearerToWant, Cond.selects RX0 yX0_speedNearerToWant yX0_speedNearerToWant, Cond.code yX0_speedNearerToWant cX0_speedNearerToWant 3 (some .int), Cond.methodLink RX0 108 yX0_limit, Cond.instanceMethod yX0_limit, Cond.selects RX0 yX0_limit yX0_limit, Cond.code yX0_limit cX0_limit 2 (some .int), Cond.fieldLink RX0 69 "SwingCranes$Layout" "top" "I", Cond.methodLink RX0 74 Lib.Math.max.name, Cond.static Lib.Math.max.name, Cond.code Lib.Math.max.name Lib.Math.max.code 2 (some .int), Cond.static yX7_keptWithin, Cond.code yX7_keptWithin cX7_keptWithin 2 (some .int), Cond.methodLink RX7 239 Lib.Math.min.name, Cond.static Lib.Math.min.name, Cond.code Lib.Math.min.name Lib.Math.min.code 2 (some .int), Cond.methodLink RX7 214 Lib.Math.max.name, Cond.static yX7_wayToStop]
def wsX7_quiet_r6 : List Cond := [Cond.code yX7_wayToStop cX7_wayToStop 4 (some .int), Cond.methodLink RX7 209 Lib.Math.abs.name, Cond.methodLink RX0 100 yX0_speedForRoom, Cond.instanceMethod yX0_speedForRoom, Cond.selects RX0 yX0_speedForRoom yX0_speedForRoom, Cond.code yX0_speedForRoom cX0_speedForRoom 6 (some .int), Cond.methodLink RX0 104 yX0_swingOut, Cond.instanceMethod yX0_swingOut, Cond.selects RX0 yX0_swingOut yX0_swingOut, Cond.code yX0_swingOut cX0_swingOut 3 none, Cond.methodLink RX2 89 yX0_hoistRope, Cond.instanceMethod yX0_hoistRope, Cond.selects RX0 yX0_hoistRope yX0_hoistRope, Cond.code yX0_hoistRope cX0_hoistRope 6 none]
def wsX7_quiet : List Cond := .code yX7_quiet cX7_quiet 4 (some .int) :: ((wsX7_quiet_r1 ++ (wsX7_quiet_r2 ++ (wsX7_quiet_r3 ++ (wsX7_quiet_r4 ++ (wsX7_quiet_r5 ++ wsX7_quiet_r6))))) ++ wsX70 ++ wsX50 ++ wsX20 ++ wsX00 ++ wsX10)
def wsX7_swingWithPause_r1 : List Cond := [Cond.fieldLink RX7 19 "SwingCranes" "trial" "LSwingCranes$Pair;", Cond.fieldLink RX7 36 "SwingCranes" "now" "LSwingCranes$Story;", Cond.fieldLink RX7 95 "SwingCranes$Story" "pair" "LSwingCranes$Pair;", Cond.fieldLink RX7 26 "SwingCranes" "rules" "LSwingCranes$Layout;", Cond.fieldLink RX7 148 "SwingCranes$Crane" "swing" "I", Cond.methodLink RX7 209 Lib.Math.abs.name, Cond.static Lib.Math.abs.name, Cond.initialized "java/lang/Math", Cond.code Lib.Math.abs.name Lib.Math.abs.code 1 (some .int), Cond.methodLink RX7 214 Lib.Math.max.name, Cond.static Lib.Math.max.name, Cond.code Lib.Math.max.name Lib.Math.max.code 2 (some .int), Cond.methodLink RX7 204 yX2_copyFrom, Cond.instanceMethod yX2_copyFrom, Cond.selects RX2 yX2_copyFrom yX2_copyFrom, Cond.initialized RX2, Cond.code yX2_copyFrom cX2_copyFrom 2 none, Cond.fieldLink RX2 12 "SwingCranes$Pair" "left" "LSwingCranes$Crane;", Cond.fieldLink RX2 18 "SwingCranes$Pair" "right" "LSwingCranes$Crane;", Cond.fieldLink RX2 21 "SwingCranes$Pair" "level" "I", Cond.methodLink RX2 36 yX0_copyFrom, Cond.instanceMethod yX0_copyFrom, Cond.selects RX0 yX0_copyFrom yX0_copyFrom, Cond.initialized RX0]
def wsX7_swingWithPause_r2 : List Cond := [Cond.code yX0_copyFrom cX0_copyFrom 2 none, Cond.fieldLink RX0 15 "SwingCranes$Crane" "place" "I", Cond.fieldLink RX0 18 "SwingCranes$Crane" "speed" "I", Cond.fieldLink RX0 24 "SwingCranes$Crane" "rope" "I", Cond.fieldLink RX0 28 "SwingCranes$Crane" "load" "I", Cond.fieldLink RX0 29 "SwingCranes$Crane" "swing" "I", Cond.fieldLink RX0 32 "SwingCranes$Crane" "rate" "I", Cond.fieldLink RX0 35 "SwingCranes$Crane" "want" "I", Cond.fieldLink RX0 38 "SwingCranes$Crane" "target" "I", Cond.fieldLink RX0 49 "SwingCranes$Crane" "soonIn" "I", Cond.fieldLink RX0 52 "SwingCranes$Crane" "soonBy" "I", Cond.fieldLink RX0 55 "SwingCranes$Crane" "laterIn" "I", Cond.fieldLink RX0 58 "SwingCranes$Crane" "laterBy" "I", Cond.fieldLink RX0 45 "SwingCranes$Crane" "braked" "Z", Cond.methodLink RX7 102 yX2_tellByHalves, Cond.instanceMethod yX2_tellByHalves, Cond.selects RX2 yX2_tellByHalves yX2_tellByHalves, Cond.code yX2_tellByHalves cX2_tellByHalves 4 (some .int), Cond.methodLink RX2 50 yX2_leftHeeds, Cond.instanceMethod yX2_leftHeeds, Cond.selects RX2 yX2_leftHeeds yX2_leftHeeds, Cond.code yX2_leftHeeds cX2_leftHeeds 2 (some .boolean), Cond.methodLink RX2 46 yX2_isCoupled, Cond.instanceMethod yX2_isCoupled]
def wsX7_swingWithPause_r3 : List Cond := [Cond.selects RX2 yX2_isCoupled yX2_isCoupled, Cond.code yX2_isCoupled cX2_isCoupled 1 (some .boolean), Cond.methodLink RX2 65 yX0_planByHalves, Cond.instanceMethod yX0_planByHalves, Cond.selects RX0 yX0_planByHalves yX0_planByHalves, Cond.code yX0_planByHalves cX0_planByHalves 5 none, Cond.static yX7_halfSwing, Cond.initialized RX7, Cond.code yX7_halfSwing cX7_halfSwing 2 (some .int), Cond.methodLink RX0 41 yX0_setSteps, Cond.instanceMethod yX0_setSteps, Cond.selects RX0 yX0_setSteps yX0_setSteps, Cond.code yX0_setSteps cX0_setSteps 4 none, Cond.methodLink RX2 58 yX2_rightHeeds, Cond.instanceMethod yX2_rightHeeds, Cond.selects RX2 yX2_rightHeeds yX2_rightHeeds, Cond.code yX2_rightHeeds cX2_rightHeeds 2 (some .boolean), Cond.methodLink RX2 61 yX2_heeding, Cond.instanceMethod yX2_heeding, Cond.selects RX2 yX2_heeding yX2_heeding, Cond.code yX2_heeding cX2_heeding 1 (some .int), Cond.methodLink RX7 113 yX2_side, Cond.instanceMethod yX2_side, Cond.selects RX2 yX2_side yX2_side]
def wsX7_swingWithPause_r4 : List Cond := [Cond.code yX2_side cX2_side 2 (some (.object "SwingCranes$Crane")), Cond.methodLink RX7 208 yX2_goOn, Cond.instanceMethod yX2_goOn, Cond.selects RX2 yX2_goOn yX2_goOn, Cond.code yX2_goOn cX2_goOn 3 (some .int), Cond.fieldLink RX2 40 "SwingCranes$Crane" "place" "I", Cond.fieldLink RX2 80 "SwingCranes$Layout" "end" "I", Cond.fieldLink RX2 83 "SwingCranes$Layout" "hoist" "I", Cond.fieldLink RX2 86 "SwingCranes$Crane" "rope" "I", Cond.fieldLink RX2 93 "SwingCranes$Crane" "braked" "Z", Cond.methodLink RX2 72 yX2_freeBetween, Cond.instanceMethod yX2_freeBetween, Cond.selects RX2 yX2_freeBetween yX2_freeBetween, Cond.code yX2_freeBetween cX2_freeBetween 2 (some .int), Cond.fieldLink RX2 43 "SwingCranes$Layout" "gap" "I", Cond.methodLink RX2 76 yX0_roll, Cond.instanceMethod yX0_roll, Cond.selects RX0 yX0_roll yX0_roll, Cond.code yX0_roll cX0_roll 6 none, Cond.fieldLink RX0 94 "SwingCranes$Layout" "change" "I", Cond.methodLink RX0 87 yX0_takeSteps, Cond.instanceMethod yX0_takeSteps, Cond.selects RX0 yX0_takeSteps yX0_takeSteps, Cond.code yX0_takeSteps cX0_takeSteps 1 none]
def wsX7_swingWithPause_r5 : List Cond := [Cond.methodLink RX0 90 yX0_speedNearerToWant, Cond.instanceMethod yX0_speedNearerToWant, Cond.selects RX0 yX0_speedNearerToWant yX0_speedNearerToWant, Cond.code yX0_speedNearerToWant cX0_speedNearerToWant 3 (some .int), Cond.methodLink RX0 108 yX0_limit, Cond.instanceMethod yX0_limit, Cond.selects RX0 yX0_limit yX0_limit, Cond.code yX0_limit cX0_limit 2 (some .int), Cond.fieldLink RX0 69 "SwingCranes$Layout" "top" "I", Cond.methodLink RX0 74 Lib.Math.max.name, Cond.static yX7_keptWithin, Cond.code yX7_keptWithin cX7_keptWithin 2 (some .int), Cond.methodLink RX7 239 Lib.Math.min.name, Cond.static Lib.Math.min.name, Cond.code Lib.Math.min.name Lib.Math.min.code 2 (some .int), Cond.static yX7_wayToStop, Cond.code yX7_wayToStop cX7_wayToStop 4 (some .int), Cond.methodLink RX0 100 yX0_speedForRoom, Cond.instanceMethod yX0_speedForRoom, Cond.selects RX0 yX0_speedForRoom yX0_speedForRoom, Cond.code yX0_speedForRoom cX0_speedForRoom 6 (some .int), Cond.methodLink RX0 84 Lib.Math.abs.name, Cond.methodLink RX0 104 yX0_swingOut, Cond.instanceMethod yX0_swingOut]
def wsX7_swingWithPause_r6 : List Cond := [Cond.selects RX0 yX0_swingOut yX0_swingOut, Cond.code yX0_swingOut cX0_swingOut 3 none, Cond.methodLink RX2 89 yX0_hoistRope, Cond.instanceMethod yX0_hoistRope, Cond.selects RX0 yX0_hoistRope yX0_hoistRope, Cond.code yX0_hoistRope cX0_hoistRope 6 none]
def wsX7_swingWithPause : List Cond := .code yX7_swingWithPause cX7_swingWithPause 7 (some .int) :: ((wsX7_swingWithPause_r1 ++ (wsX7_swingWithPause_r2 ++ (wsX7_swingWithPause_r3 ++ (wsX7_swingWithPause_r4 ++ (wsX7_swingWithPause_r5 ++ wsX7_swingWithPause_r6))))) ++ wsX70 ++ wsX50 ++ wsX00 ++ wsX20 ++ wsX10)
def wsX7_best_r1 : List Cond := [Cond.methodLink RX7 85 yX7_isCrane, Cond.static yX7_isCrane, Cond.initialized RX7, Cond.code yX7_isCrane cX7_isCrane 1 (some .boolean), Cond.methodLink RX7 89 yX7_isSpeed, Cond.static yX7_isSpeed, Cond.code yX7_isSpeed cX7_isSpeed 1 (some .boolean), Cond.methodLink RX7 56 yX7_isWithin, Cond.static yX7_isWithin, Cond.code yX7_isWithin cX7_isWithin 3 (some .boolean), Cond.methodLink RX7 221 yX7_swingWithPause, Cond.instanceMethod yX7_swingWithPause, Cond.selects RX7 yX7_swingWithPause yX7_swingWithPause, Cond.code yX7_swingWithPause cX7_swingWithPause 7 (some .int), Cond.fieldLink RX7 19 "SwingCranes" "trial" "LSwingCranes$Pair;", Cond.fieldLink RX7 36 "SwingCranes" "now" "LSwingCranes$Story;", Cond.fieldLink RX7 95 "SwingCranes$Story" "pair" "LSwingCranes$Pair;", Cond.fieldLink RX7 26 "SwingCranes" "rules" "LSwingCranes$Layout;", Cond.fieldLink RX7 148 "SwingCranes$Crane" "swing" "I", Cond.methodLink RX7 209 Lib.Math.abs.name, Cond.static Lib.Math.abs.name, Cond.initialized "java/lang/Math", Cond.code Lib.Math.abs.name Lib.Math.abs.code 1 (some .int), Cond.methodLink RX7 214 Lib.Math.max.name]
def wsX7_best_r2 : List Cond := [Cond.static Lib.Math.max.name, Cond.code Lib.Math.max.name Lib.Math.max.code 2 (some .int), Cond.methodLink RX7 204 yX2_copyFrom, Cond.instanceMethod yX2_copyFrom, Cond.selects RX2 yX2_copyFrom yX2_copyFrom, Cond.initialized RX2, Cond.code yX2_copyFrom cX2_copyFrom 2 none, Cond.fieldLink RX2 12 "SwingCranes$Pair" "left" "LSwingCranes$Crane;", Cond.fieldLink RX2 18 "SwingCranes$Pair" "right" "LSwingCranes$Crane;", Cond.fieldLink RX2 21 "SwingCranes$Pair" "level" "I", Cond.methodLink RX2 36 yX0_copyFrom, Cond.instanceMethod yX0_copyFrom, Cond.selects RX0 yX0_copyFrom yX0_copyFrom, Cond.initialized RX0, Cond.code yX0_copyFrom cX0_copyFrom 2 none, Cond.fieldLink RX0 15 "SwingCranes$Crane" "place" "I", Cond.fieldLink RX0 18 "SwingCranes$Crane" "speed" "I", Cond.fieldLink RX0 24 "SwingCranes$Crane" "rope" "I", Cond.fieldLink RX0 28 "SwingCranes$Crane" "load" "I", Cond.fieldLink RX0 29 "SwingCranes$Crane" "swing" "I", Cond.fieldLink RX0 32 "SwingCranes$Crane" "rate" "I", Cond.fieldLink RX0 35 "SwingCranes$Crane" "want" "I", Cond.fieldLink RX0 38 "SwingCranes$Crane" "target" "I", Cond.fieldLink RX0 49 "SwingCranes$Crane" "soonIn" "I"]
def wsX7_best_r3 : List Cond := [Cond.fieldLink RX0 52 "SwingCranes$Crane" "soonBy" "I", Cond.fieldLink RX0 55 "SwingCranes$Crane" "laterIn" "I", Cond.fieldLink RX0 58 "SwingCranes$Crane" "laterBy" "I", Cond.fieldLink RX0 45 "SwingCranes$Crane" "braked" "Z", Cond.methodLink RX7 102 yX2_tellByHalves, Cond.instanceMethod yX2_tellByHalves, Cond.selects RX2 yX2_tellByHalves yX2_tellByHalves, Cond.code yX2_tellByHalves cX2_tellByHalves 4 (some .int), Cond.methodLink RX2 50 yX2_leftHeeds, Cond.instanceMethod yX2_leftHeeds, Cond.selects RX2 yX2_leftHeeds yX2_leftHeeds, Cond.code yX2_leftHeeds cX2_leftHeeds 2 (some .boolean), Cond.methodLink RX2 46 yX2_isCoupled, Cond.instanceMethod yX2_isCoupled, Cond.selects RX2 yX2_isCoupled yX2_isCoupled, Cond.code yX2_isCoupled cX2_isCoupled 1 (some .boolean), Cond.methodLink RX2 65 yX0_planByHalves, Cond.instanceMethod yX0_planByHalves, Cond.selects RX0 yX0_planByHalves yX0_planByHalves, Cond.code yX0_planByHalves cX0_planByHalves 5 none, Cond.static yX7_halfSwing, Cond.code yX7_halfSwing cX7_halfSwing 2 (some .int), Cond.methodLink RX0 41 yX0_setSteps, Cond.instanceMethod yX0_setSteps]
def wsX7_best_r4 : List Cond := [Cond.selects RX0 yX0_setSteps yX0_setSteps, Cond.code yX0_setSteps cX0_setSteps 4 none, Cond.methodLink RX2 58 yX2_rightHeeds, Cond.instanceMethod yX2_rightHeeds, Cond.selects RX2 yX2_rightHeeds yX2_rightHeeds, Cond.code yX2_rightHeeds cX2_rightHeeds 2 (some .boolean), Cond.methodLink RX2 61 yX2_heeding, Cond.instanceMethod yX2_heeding, Cond.selects RX2 yX2_heeding yX2_heeding, Cond.code yX2_heeding cX2_heeding 1 (some .int), Cond.methodLink RX7 113 yX2_side, Cond.instanceMethod yX2_side, Cond.selects RX2 yX2_side yX2_side, Cond.code yX2_side cX2_side 2 (some (.object "SwingCranes$Crane")), Cond.methodLink RX7 208 yX2_goOn, Cond.instanceMethod yX2_goOn, Cond.selects RX2 yX2_goOn yX2_goOn, Cond.code yX2_goOn cX2_goOn 3 (some .int), Cond.fieldLink RX2 40 "SwingCranes$Crane" "place" "I", Cond.fieldLink RX2 80 "SwingCranes$Layout" "end" "I", Cond.fieldLink RX2 83 "SwingCranes$Layout" "hoist" "I", Cond.fieldLink RX2 86 "SwingCranes$Crane" "rope" "I", Cond.fieldLink RX2 93 "SwingCranes$Crane" "braked" "Z", Cond.methodLink RX2 72 yX2_freeBetween]
def wsX7_best_r5 : List Cond := [Cond.instanceMethod yX2_freeBetween, Cond.selects RX2 yX2_freeBetween yX2_freeBetween, Cond.code yX2_freeBetween cX2_freeBetween 2 (some .int), Cond.fieldLink RX2 43 "SwingCranes$Layout" "gap" "I", Cond.methodLink RX2 76 yX0_roll, Cond.instanceMethod yX0_roll, Cond.selects RX0 yX0_roll yX0_roll, Cond.code yX0_roll cX0_roll 6 none, Cond.fieldLink RX0 94 "SwingCranes$Layout" "change" "I", Cond.methodLink RX0 87 yX0_takeSteps, Cond.instanceMethod yX0_takeSteps, Cond.selects RX0 yX0_takeSteps yX0_takeSteps, Cond.code yX0_takeSteps cX0_takeSteps 1 none, Cond.methodLink RX0 90 yX0_speedNearerToWant, Cond.instanceMethod yX0_speedNearerToWant, Cond.selects RX0 yX0_speedNearerToWant yX0_speedNearerToWant, Cond.code yX0_speedNearerToWant cX0_speedNearerToWant 3 (some .int), Cond.methodLink RX0 108 yX0_limit, Cond.instanceMethod yX0_limit, Cond.selects RX0 yX0_limit yX0_limit, Cond.code yX0_limit cX0_limit 2 (some .int), Cond.fieldLink RX0 69 "SwingCranes$Layout" "top" "I", Cond.methodLink RX0 74 Lib.Math.max.name, Cond.static yX7_keptWithin]
def wsX7_best_r6 : List Cond := [Cond.code yX7_keptWithin cX7_keptWithin 2 (some .int), Cond.methodLink RX7 239 Lib.Math.min.name, Cond.static Lib.Math.min.name, Cond.code Lib.Math.min.name Lib.Math.min.code 2 (some .int), Cond.static yX7_wayToStop, Cond.code yX7_wayToStop cX7_wayToStop 4 (some .int), Cond.methodLink RX0 100 yX0_speedForRoom, Cond.instanceMethod yX0_speedForRoom, Cond.selects RX0 yX0_speedForRoom yX0_speedForRoom, Cond.code yX0_speedForRoom cX0_speedForRoom 6 (some .int), Cond.methodLink RX0 84 Lib.Math.abs.name, Cond.methodLink RX0 104 yX0_swingOut, Cond.instanceMethod yX0_swingOut, Cond.selects RX0 yX0_swingOut yX0_swingOut, Cond.code yX0_swingOut cX0_swingOut 3 none, Cond.methodLink RX2 89 yX0_hoistRope, Cond.instanceMethod yX0_hoistRope, Cond.selects RX0 yX0_hoistRope yX0_hoistRope, Cond.code yX0_hoistRope cX0_hoistRope 6 none]
def wsX7_best : List Cond := .code yX7_best cX7_best 8 (some .int) :: ((wsX7_best_r1 ++ (wsX7_best_r2 ++ (wsX7_best_r3 ++ (wsX7_best_r4 ++ (wsX7_best_r5 ++ wsX7_best_r6))))) ++ wsX70 ++ wsX50 ++ wsX00 ++ wsX20 ++ wsX10)
def wsX7_count : List Cond := .code yX7_count cX7_count 2 (some .int) :: ([.fieldLink RX7 26 "SwingCranes" "rules" "LSwingCranes$Layout;", .fieldLink RX7 82 "SwingCranes$Layout" "end" "I", .fieldLink RX7 224 "SwingCranes$Layout" "gap" "I", .fieldLink RX7 164 "SwingCranes$Layout" "change" "I", .fieldLink RX7 227 "SwingCranes$Layout" "top" "I", .fieldLink RX7 230 "SwingCranes$Layout" "hoist" "I", .fieldLink RX7 36 "SwingCranes" "now" "LSwingCranes$Story;", .fieldLink RX7 95 "SwingCranes$Story" "pair" "LSwingCranes$Pair;", .fieldLink RX7 129 "SwingCranes$Pair" "level" "I", .fieldLink RX7 132 "SwingCranes$Story" "ticks" "I", .fieldLink RX7 79 "SwingCranes" "undoable" "I", .fieldLink RX7 10 "SwingCranes" "text" "LSwingCranes$Text;", .fieldLink RX7 68 "SwingCranes$Text" "length" "I", .methodLink RX7 233 yX2_freeBetween, .instanceMethod yX2_freeBetween, .selects RX2 yX2_freeBetween yX2_freeBetween, .initialized RX2, .code yX2_freeBetween cX2_freeBetween 2 (some .int), .fieldLink RX2 18 "SwingCranes$Pair" "right" "LSwingCranes$Crane;", .fieldLink RX2 40 "SwingCranes$Crane" "place" "I", .fieldLink RX2 12 "SwingCranes$Pair" "left" "LSwingCranes$Crane;", .fieldLink RX2 43 "SwingCranes$Layout" "gap" "I"] ++ wsX70 ++ wsX10 ++ wsX50 ++ wsX20 ++ wsX60 ++ wsX00)
def wsJ9_abs_0f7a4 : List Cond := .code yJ9_abs_0f7a4 cJ9_abs_0f7a4 1 (some .int) :: ([])
def wsJ9_max_7cf53 : List Cond := .code yJ9_max_7cf53 cJ9_max_7cf53 2 (some .int) :: ([])
def wsJ9_min_7cf53 : List Cond := .code yJ9_min_7cf53 cJ9_min_7cf53 2 (some .int) :: ([])
theorem inJ9 : ∀ w ∈ wsJ90, w ∈ lw_tbl := by decide +kernel
theorem dJ9_abs_0f7a4_0 : decode cJ9_abs_0f7a4 0 = .ok (.iload_n 0, 1) := by decide +kernel
theorem dJ9_abs_0f7a4_1 : decode cJ9_abs_0f7a4 1 = .ok (.ifCond .ge 8, 3) := by decide +kernel
theorem dJ9_abs_0f7a4_4 : decode cJ9_abs_0f7a4 4 = .ok (.iload_n 0, 1) := by decide +kernel
theorem dJ9_abs_0f7a4_5 : decode cJ9_abs_0f7a4 5 = .ok (.ineg, 1) := by decide +kernel
theorem dJ9_abs_0f7a4_6 : decode cJ9_abs_0f7a4 6 = .ok (.goto 4, 3) := by decide +kernel
theorem dJ9_abs_0f7a4_9 : decode cJ9_abs_0f7a4 9 = .ok (.iload_n 0, 1) := by decide +kernel
theorem dJ9_abs_0f7a4_10 : decode cJ9_abs_0f7a4 10 = .ok (.ireturn, 1) := by decide +kernel
theorem dJ9_max_7cf53_0 : decode cJ9_max_7cf53 0 = .ok (.iload_n 0, 1) := by decide +kernel
theorem dJ9_max_7cf53_1 : decode cJ9_max_7cf53 1 = .ok (.iload_n 1, 1) := by decide +kernel
theorem dJ9_max_7cf53_2 : decode cJ9_max_7cf53 2 = .ok (.if_icmp .lt 7, 3) := by decide +kernel
theorem dJ9_max_7cf53_5 : decode cJ9_max_7cf53 5 = .ok (.iload_n 0, 1) := by decide +kernel
theorem dJ9_max_7cf53_6 : decode cJ9_max_7cf53 6 = .ok (.goto 4, 3) := by decide +kernel
theorem dJ9_max_7cf53_9 : decode cJ9_max_7cf53 9 = .ok (.iload_n 1, 1) := by decide +kernel
theorem dJ9_max_7cf53_10 : decode cJ9_max_7cf53 10 = .ok (.ireturn, 1) := by decide +kernel
theorem dJ9_min_7cf53_0 : decode cJ9_min_7cf53 0 = .ok (.iload_n 0, 1) := by decide +kernel
theorem dJ9_min_7cf53_1 : decode cJ9_min_7cf53 1 = .ok (.iload_n 1, 1) := by decide +kernel
theorem dJ9_min_7cf53_2 : decode cJ9_min_7cf53 2 = .ok (.if_icmp .gt 7, 3) := by decide +kernel
theorem dJ9_min_7cf53_5 : decode cJ9_min_7cf53 5 = .ok (.iload_n 0, 1) := by decide +kernel
theorem dJ9_min_7cf53_6 : decode cJ9_min_7cf53 6 = .ok (.goto 4, 3) := by decide +kernel
theorem dJ9_min_7cf53_9 : decode cJ9_min_7cf53 9 = .ok (.iload_n 1, 1) := by decide +kernel
theorem dJ9_min_7cf53_10 : decode cJ9_min_7cf53 10 = .ok (.ireturn, 1) := by decide +kernel
abbrev vwCl : List vw_C := [(RX0, TX0, 13), (RX1, TX1, 7), (RX2, TX2, 3), (RX3, TX3, 3), (RX4, TX4, 3), (RX5, TX5, 4), (RX6, TX6, 3), (RX7, TX7, 10)]
theorem dX0_init_0 : decode cX0_init 0 = .ok (.aload_n 0, 1) := by decide +kernel
theorem dX0_init_1 : decode cX0_init 1 = .ok (.invokespecial 3, 3) := by decide +kernel
theorem dX0_init_4 : decode cX0_init 4 = .ok (.return_, 1) := by decide +kernel
set_option maxRecDepth 20000 in
theorem ggX0_begin_X0_setSteps : GoodIn wsX0_begin wsX0_setSteps := goodIn_r _ [17, 18, 19, 20, 21, 25, 26, 27, 28, 29, 30, 31, 32, 33, 34, 35, 36, 37] (by decide +kernel) (by decide +kernel)
set_option maxRecDepth 20000 in
theorem gX0_begin_X0_setSteps : GoodIn wsX0_begin (wsV RX0 41 RX0 yX0_setSteps wsX0_setSteps) := goodIn_app (goodIn_of _ (by decide +kernel)) ggX0_begin_X0_setSteps
theorem dX0_begin_0 : decode cX0_begin 0 = .ok (.aload_n 0, 1) := by decide +kernel
theorem dX0_begin_1 : decode cX0_begin 1 = .ok (.aload_n 1, 1) := by decide +kernel
theorem dX0_begin_2 : decode cX0_begin 2 = .ok (.getfield 9, 3) := by decide +kernel
theorem dX0_begin_5 : decode cX0_begin 5 = .ok (.putfield 15, 3) := by decide +kernel
theorem dX0_begin_8 : decode cX0_begin 8 = .ok (.aload_n 0, 1) := by decide +kernel
theorem dX0_begin_9 : decode cX0_begin 9 = .ok (.iconst 0, 1) := by decide +kernel
theorem dX0_begin_10 : decode cX0_begin 10 = .ok (.putfield 18, 3) := by decide +kernel
theorem dX0_begin_13 : decode cX0_begin 13 = .ok (.aload_n 0, 1) := by decide +kernel
theorem dX0_begin_14 : decode cX0_begin 14 = .ok (.aload_n 1, 1) := by decide +kernel
theorem dX0_begin_15 : decode cX0_begin 15 = .ok (.getfield 21, 3) := by decide +kernel
theorem dX0_begin_18 : decode cX0_begin 18 = .ok (.putfield 24, 3) := by decide +kernel
theorem dX0_begin_21 : decode cX0_begin 21 = .ok (.aload_n 0, 1) := by decide +kernel
theorem dX0_begin_22 : decode cX0_begin 22 = .ok (.aload_n 1, 1) := by decide +kernel
theorem dX0_begin_23 : decode cX0_begin 23 = .ok (.getfield 25, 3) := by decide +kernel
theorem dX0_begin_26 : decode cX0_begin 26 = .ok (.putfield 28, 3) := by decide +kernel
theorem dX0_begin_29 : decode cX0_begin 29 = .ok (.aload_n 0, 1) := by decide +kernel
theorem dX0_begin_30 : decode cX0_begin 30 = .ok (.iconst 0, 1) := by decide +kernel
theorem dX0_begin_31 : decode cX0_begin 31 = .ok (.putfield 29, 3) := by decide +kernel
theorem dX0_begin_34 : decode cX0_begin 34 = .ok (.aload_n 0, 1) := by decide +kernel
theorem dX0_begin_35 : decode cX0_begin 35 = .ok (.iconst 0, 1) := by decide +kernel
theorem dX0_begin_36 : decode cX0_begin 36 = .ok (.putfield 32, 3) := by decide +kernel
theorem dX0_begin_39 : decode cX0_begin 39 = .ok (.aload_n 0, 1) := by decide +kernel
theorem dX0_begin_40 : decode cX0_begin 40 = .ok (.iconst 0, 1) := by decide +kernel
theorem dX0_begin_41 : decode cX0_begin 41 = .ok (.putfield 35, 3) := by decide +kernel
theorem dX0_begin_44 : decode cX0_begin 44 = .ok (.aload_n 0, 1) := by decide +kernel
theorem dX0_begin_45 : decode cX0_begin 45 = .ok (.aload_n 1, 1) := by decide +kernel
theorem dX0_begin_46 : decode cX0_begin 46 = .ok (.getfield 21, 3) := by decide +kernel
theorem dX0_begin_49 : decode cX0_begin 49 = .ok (.putfield 38, 3) := by decide +kernel
theorem dX0_begin_52 : decode cX0_begin 52 = .ok (.aload_n 0, 1) := by decide +kernel
theorem dX0_begin_53 : decode cX0_begin 53 = .ok (.iconst 0, 1) := by decide +kernel
theorem dX0_begin_54 : decode cX0_begin 54 = .ok (.iconst 0, 1) := by decide +kernel
theorem dX0_begin_55 : decode cX0_begin 55 = .ok (.iconst 0, 1) := by decide +kernel
theorem dX0_begin_56 : decode cX0_begin 56 = .ok (.invokevirtual 41, 3) := by decide +kernel
theorem dX0_begin_59 : decode cX0_begin 59 = .ok (.aload_n 0, 1) := by decide +kernel
theorem dX0_begin_60 : decode cX0_begin 60 = .ok (.iconst 0, 1) := by decide +kernel
theorem dX0_begin_61 : decode cX0_begin 61 = .ok (.putfield 45, 3) := by decide +kernel
theorem dX0_begin_64 : decode cX0_begin 64 = .ok (.return_, 1) := by decide +kernel
theorem dX0_copyFrom_0 : decode cX0_copyFrom 0 = .ok (.aload_n 0, 1) := by decide +kernel
theorem dX0_copyFrom_1 : decode cX0_copyFrom 1 = .ok (.aload_n 1, 1) := by decide +kernel
theorem dX0_copyFrom_2 : decode cX0_copyFrom 2 = .ok (.getfield 15, 3) := by decide +kernel
theorem dX0_copyFrom_5 : decode cX0_copyFrom 5 = .ok (.putfield 15, 3) := by decide +kernel
theorem dX0_copyFrom_8 : decode cX0_copyFrom 8 = .ok (.aload_n 0, 1) := by decide +kernel
theorem dX0_copyFrom_9 : decode cX0_copyFrom 9 = .ok (.aload_n 1, 1) := by decide +kernel
theorem dX0_copyFrom_10 : decode cX0_copyFrom 10 = .ok (.getfield 18, 3) := by decide +kernel
theorem dX0_copyFrom_13 : decode cX0_copyFrom 13 = .ok (.putfield 18, 3) := by decide +kernel
theorem dX0_copyFrom_16 : decode cX0_copyFrom 16 = .ok (.aload_n 0, 1) := by decide +kernel
theorem dX0_copyFrom_17 : decode cX0_copyFrom 17 = .ok (.aload_n 1, 1) := by decide +kernel
theorem dX0_copyFrom_18 : decode cX0_copyFrom 18 = .ok (.getfield 24, 3) := by decide +kernel
theorem dX0_copyFrom_21 : decode cX0_copyFrom 21 = .ok (.putfield 24, 3) := by decide +kernel
theorem dX0_copyFrom_24 : decode cX0_copyFrom 24 = .ok (.aload_n 0, 1) := by decide +kernel
theorem dX0_copyFrom_25 : decode cX0_copyFrom 25 = .ok (.aload_n 1, 1) := by decide +kernel
theorem dX0_copyFrom_26 : decode cX0_copyFrom 26 = .ok (.getfield 28, 3) := by decide +kernel
theorem dX0_copyFrom_29 : decode cX0_copyFrom 29 = .ok (.putfield 28, 3) := by decide +kernel
theorem dX0_copyFrom_32 : decode cX0_copyFrom 32 = .ok (.aload_n 0, 1) := by decide +kernel
theorem dX0_copyFrom_33 : decode cX0_copyFrom 33 = .ok (.aload_n 1, 1) := by decide +kernel
theorem dX0_copyFrom_34 : decode cX0_copyFrom 34 = .ok (.getfield 29, 3) := by decide +kernel
theorem dX0_copyFrom_37 : decode cX0_copyFrom 37 = .ok (.putfield 29, 3) := by decide +kernel
theorem dX0_copyFrom_40 : decode cX0_copyFrom 40 = .ok (.aload_n 0, 1) := by decide +kernel
theorem dX0_copyFrom_41 : decode cX0_copyFrom 41 = .ok (.aload_n 1, 1) := by decide +kernel
theorem dX0_copyFrom_42 : decode cX0_copyFrom 42 = .ok (.getfield 32, 3) := by decide +kernel
theorem dX0_copyFrom_45 : decode cX0_copyFrom 45 = .ok (.putfield 32, 3) := by decide +kernel
theorem dX0_copyFrom_48 : decode cX0_copyFrom 48 = .ok (.aload_n 0, 1) := by decide +kernel
theorem dX0_copyFrom_49 : decode cX0_copyFrom 49 = .ok (.aload_n 1, 1) := by decide +kernel
theorem dX0_copyFrom_50 : decode cX0_copyFrom 50 = .ok (.getfield 35, 3) := by decide +kernel
theorem dX0_copyFrom_53 : decode cX0_copyFrom 53 = .ok (.putfield 35, 3) := by decide +kernel
theorem dX0_copyFrom_56 : decode cX0_copyFrom 56 = .ok (.aload_n 0, 1) := by decide +kernel
theorem dX0_copyFrom_57 : decode cX0_copyFrom 57 = .ok (.aload_n 1, 1) := by decide +kernel
theorem dX0_copyFrom_58 : decode cX0_copyFrom 58 = .ok (.getfield 38, 3) := by decide +kernel
theorem dX0_copyFrom_61 : decode cX0_copyFrom 61 = .ok (.putfield 38, 3) := by decide +kernel
theorem dX0_copyFrom_64 : decode cX0_copyFrom 64 = .ok (.aload_n 0, 1) := by decide +kernel
theorem dX0_copyFrom_65 : decode cX0_copyFrom 65 = .ok (.aload_n 1, 1) := by decide +kernel
theorem dX0_copyFrom_66 : decode cX0_copyFrom 66 = .ok (.getfield 49, 3) := by decide +kernel
theorem dX0_copyFrom_69 : decode cX0_copyFrom 69 = .ok (.putfield 49, 3) := by decide +kernel
theorem dX0_copyFrom_72 : decode cX0_copyFrom 72 = .ok (.aload_n 0, 1) := by decide +kernel
theorem dX0_copyFrom_73 : decode cX0_copyFrom 73 = .ok (.aload_n 1, 1) := by decide +kernel
theorem dX0_copyFrom_74 : decode cX0_copyFrom 74 = .ok (.getfield 52, 3) := by decide +kernel
theorem dX0_copyFrom_77 : decode cX0_copyFrom 77 = .ok (.putfield 52, 3) := by decide +kernel
theorem dX0_copyFrom_80 : decode cX0_copyFrom 80 = .ok (.aload_n 0, 1) := by decide +kernel
theorem dX0_copyFrom_81 : decode cX0_copyFrom 81 = .ok (.aload_n 1, 1) := by decide +kernel
theorem dX0_copyFrom_82 : decode cX0_copyFrom 82 = .ok (.getfield 55, 3) := by decide +kernel
theorem dX0_copyFrom_85 : decode cX0_copyFrom 85 = .ok (.putfield 55, 3) := by decide +kernel
theorem dX0_copyFrom_88 : decode cX0_copyFrom 88 = .ok (.aload_n 0, 1) := by decide +kernel
theorem dX0_copyFrom_89 : decode cX0_copyFrom 89 = .ok (.aload_n 1, 1) := by decide +kernel
theorem dX0_copyFrom_90 : decode cX0_copyFrom 90 = .ok (.getfield 58, 3) := by decide +kernel
theorem dX0_copyFrom_93 : decode cX0_copyFrom 93 = .ok (.putfield 58, 3) := by decide +kernel
theorem dX0_copyFrom_96 : decode cX0_copyFrom 96 = .ok (.aload_n 0, 1) := by decide +kernel
theorem dX0_copyFrom_97 : decode cX0_copyFrom 97 = .ok (.aload_n 1, 1) := by decide +kernel
theorem dX0_copyFrom_98 : decode cX0_copyFrom 98 = .ok (.getfield 45, 3) := by decide +kernel
theorem dX0_copyFrom_101 : decode cX0_copyFrom 101 = .ok (.putfield 45, 3) := by decide +kernel
theorem dX0_copyFrom_104 : decode cX0_copyFrom 104 = .ok (.return_, 1) := by decide +kernel
theorem dX0_setSteps_0 : decode cX0_setSteps 0 = .ok (.aload_n 0, 1) := by decide +kernel
theorem dX0_setSteps_1 : decode cX0_setSteps 1 = .ok (.iconst 1, 1) := by decide +kernel
theorem dX0_setSteps_2 : decode cX0_setSteps 2 = .ok (.putfield 49, 3) := by decide +kernel
theorem dX0_setSteps_5 : decode cX0_setSteps 5 = .ok (.aload_n 0, 1) := by decide +kernel
theorem dX0_setSteps_6 : decode cX0_setSteps 6 = .ok (.iload_n 1, 1) := by decide +kernel
theorem dX0_setSteps_7 : decode cX0_setSteps 7 = .ok (.putfield 52, 3) := by decide +kernel
theorem dX0_setSteps_10 : decode cX0_setSteps 10 = .ok (.aload_n 0, 1) := by decide +kernel
theorem dX0_setSteps_11 : decode cX0_setSteps 11 = .ok (.iconst 1, 1) := by decide +kernel
theorem dX0_setSteps_12 : decode cX0_setSteps 12 = .ok (.iload_n 3, 1) := by decide +kernel
theorem dX0_setSteps_13 : decode cX0_setSteps 13 = .ok (.iadd, 1) := by decide +kernel
theorem dX0_setSteps_14 : decode cX0_setSteps 14 = .ok (.putfield 55, 3) := by decide +kernel
theorem dX0_setSteps_17 : decode cX0_setSteps 17 = .ok (.aload_n 0, 1) := by decide +kernel
theorem dX0_setSteps_18 : decode cX0_setSteps 18 = .ok (.iload_n 2, 1) := by decide +kernel
theorem dX0_setSteps_19 : decode cX0_setSteps 19 = .ok (.putfield 58, 3) := by decide +kernel
theorem dX0_setSteps_22 : decode cX0_setSteps 22 = .ok (.return_, 1) := by decide +kernel
set_option maxRecDepth 20000 in
theorem ggX0_planAtOnce_X0_setSteps : GoodIn wsX0_planAtOnce wsX0_setSteps := goodIn_r _ [6, 7, 8, 9, 10, 11, 12, 13, 14, 15, 16, 17, 18, 19, 20, 21, 22, 23] (by decide +kernel) (by decide +kernel)
set_option maxRecDepth 20000 in
theorem gX0_planAtOnce_X0_setSteps : GoodIn wsX0_planAtOnce (wsV RX0 41 RX0 yX0_setSteps wsX0_setSteps) := goodIn_app (goodIn_of _ (by decide +kernel)) ggX0_planAtOnce_X0_setSteps
theorem dX0_planAtOnce_0 : decode cX0_planAtOnce 0 = .ok (.aload_n 0, 1) := by decide +kernel
theorem dX0_planAtOnce_1 : decode cX0_planAtOnce 1 = .ok (.iload_n 1, 1) := by decide +kernel
theorem dX0_planAtOnce_2 : decode cX0_planAtOnce 2 = .ok (.aload_n 0, 1) := by decide +kernel
theorem dX0_planAtOnce_3 : decode cX0_planAtOnce 3 = .ok (.getfield 35, 3) := by decide +kernel
theorem dX0_planAtOnce_6 : decode cX0_planAtOnce 6 = .ok (.isub, 1) := by decide +kernel
theorem dX0_planAtOnce_7 : decode cX0_planAtOnce 7 = .ok (.iconst 0, 1) := by decide +kernel
theorem dX0_planAtOnce_8 : decode cX0_planAtOnce 8 = .ok (.iconst 0, 1) := by decide +kernel
theorem dX0_planAtOnce_9 : decode cX0_planAtOnce 9 = .ok (.invokevirtual 41, 3) := by decide +kernel
theorem dX0_planAtOnce_12 : decode cX0_planAtOnce 12 = .ok (.return_, 1) := by decide +kernel
set_option maxRecDepth 20000 in
theorem ggX0_planByHalves_X7_halfSwing : GoodIn wsX0_planByHalves wsX7_halfSwing := goodIn_r _ [5] (by decide +kernel) (by decide +kernel)
set_option maxRecDepth 20000 in
theorem gX0_planByHalves_X7_halfSwing_n61 : GoodIn wsX0_planByHalves (wsX7_halfSwing) := ggX0_planByHalves_X7_halfSwing
set_option maxRecDepth 20000 in
theorem ggX0_planByHalves_X0_setSteps : GoodIn wsX0_planByHalves wsX0_setSteps := goodIn_r _ [10, 11, 12, 13, 14, 15, 16, 17, 18, 19, 20, 21, 22, 23, 24, 25, 26, 27] (by decide +kernel) (by decide +kernel)
set_option maxRecDepth 20000 in
theorem gX0_planByHalves_X0_setSteps : GoodIn wsX0_planByHalves (wsV RX0 41 RX0 yX0_setSteps wsX0_setSteps) := goodIn_app (goodIn_of _ (by decide +kernel)) ggX0_planByHalves_X0_setSteps
theorem dX0_planByHalves_0 : decode cX0_planByHalves 0 = .ok (.iload_n 1, 1) := by decide +kernel
theorem dX0_planByHalves_1 : decode cX0_planByHalves 1 = .ok (.aload_n 0, 1) := by decide +kernel
theorem dX0_planByHalves_2 : decode cX0_planByHalves 2 = .ok (.getfield 35, 3) := by decide +kernel
theorem dX0_planByHalves_5 : decode cX0_planByHalves 5 = .ok (.isub, 1) := by decide +kernel
theorem dX0_planByHalves_6 : decode cX0_planByHalves 6 = .ok (.istore_n 3, 1) := by decide +kernel
theorem dX0_planByHalves_7 : decode cX0_planByHalves 7 = .ok (.iload_n 3, 1) := by decide +kernel
theorem dX0_planByHalves_8 : decode cX0_planByHalves 8 = .ok (.iconst 2, 1) := by decide +kernel
theorem dX0_planByHalves_9 : decode cX0_planByHalves 9 = .ok (.idiv, 1) := by decide +kernel
theorem dX0_planByHalves_10 : decode cX0_planByHalves 10 = .ok (.istore 4, 2) := by decide +kernel
theorem dX0_planByHalves_12 : decode cX0_planByHalves 12 = .ok (.aload_n 0, 1) := by decide +kernel
theorem dX0_planByHalves_13 : decode cX0_planByHalves 13 = .ok (.iload 4, 2) := by decide +kernel
theorem dX0_planByHalves_15 : decode cX0_planByHalves 15 = .ok (.iload_n 3, 1) := by decide +kernel
theorem dX0_planByHalves_16 : decode cX0_planByHalves 16 = .ok (.iload 4, 2) := by decide +kernel
theorem dX0_planByHalves_18 : decode cX0_planByHalves 18 = .ok (.isub, 1) := by decide +kernel
theorem dX0_planByHalves_19 : decode cX0_planByHalves 19 = .ok (.iload_n 2, 1) := by decide +kernel
theorem dX0_planByHalves_20 : decode cX0_planByHalves 20 = .ok (.ifCond .ge 13, 3) := by decide +kernel
theorem dX0_planByHalves_23 : decode cX0_planByHalves 23 = .ok (.aload_n 0, 1) := by decide +kernel
theorem dX0_planByHalves_24 : decode cX0_planByHalves 24 = .ok (.getfield 24, 3) := by decide +kernel
theorem dX0_planByHalves_27 : decode cX0_planByHalves 27 = .ok (.invokestatic 61, 3) := by decide +kernel
theorem dX0_planByHalves_30 : decode cX0_planByHalves 30 = .ok (.goto 4, 3) := by decide +kernel
theorem dX0_planByHalves_33 : decode cX0_planByHalves 33 = .ok (.iload_n 2, 1) := by decide +kernel
theorem dX0_planByHalves_34 : decode cX0_planByHalves 34 = .ok (.invokevirtual 41, 3) := by decide +kernel
theorem dX0_planByHalves_37 : decode cX0_planByHalves 37 = .ok (.return_, 1) := by decide +kernel
theorem dX0_stepsToCome_0 : decode cX0_stepsToCome 0 = .ok (.aload_n 0, 1) := by decide +kernel
theorem dX0_stepsToCome_1 : decode cX0_stepsToCome 1 = .ok (.getfield 52, 3) := by decide +kernel
theorem dX0_stepsToCome_4 : decode cX0_stepsToCome 4 = .ok (.ifCond .eq 7, 3) := by decide +kernel
theorem dX0_stepsToCome_7 : decode cX0_stepsToCome 7 = .ok (.iconst 1, 1) := by decide +kernel
theorem dX0_stepsToCome_8 : decode cX0_stepsToCome 8 = .ok (.goto 4, 3) := by decide +kernel
theorem dX0_stepsToCome_11 : decode cX0_stepsToCome 11 = .ok (.iconst 0, 1) := by decide +kernel
theorem dX0_stepsToCome_12 : decode cX0_stepsToCome 12 = .ok (.aload_n 0, 1) := by decide +kernel
theorem dX0_stepsToCome_13 : decode cX0_stepsToCome 13 = .ok (.getfield 58, 3) := by decide +kernel
theorem dX0_stepsToCome_16 : decode cX0_stepsToCome 16 = .ok (.ifCond .eq 7, 3) := by decide +kernel
theorem dX0_stepsToCome_19 : decode cX0_stepsToCome 19 = .ok (.iconst 1, 1) := by decide +kernel
theorem dX0_stepsToCome_20 : decode cX0_stepsToCome 20 = .ok (.goto 4, 3) := by decide +kernel
theorem dX0_stepsToCome_23 : decode cX0_stepsToCome 23 = .ok (.iconst 0, 1) := by decide +kernel
theorem dX0_stepsToCome_24 : decode cX0_stepsToCome 24 = .ok (.iadd, 1) := by decide +kernel
theorem dX0_stepsToCome_25 : decode cX0_stepsToCome 25 = .ok (.ireturn, 1) := by decide +kernel
theorem dX0_isSoon_0 : decode cX0_isSoon 0 = .ok (.iload_n 1, 1) := by decide +kernel
theorem dX0_isSoon_1 : decode cX0_isSoon 1 = .ok (.ifCond .ne 14, 3) := by decide +kernel
theorem dX0_isSoon_4 : decode cX0_isSoon 4 = .ok (.aload_n 0, 1) := by decide +kernel
theorem dX0_isSoon_5 : decode cX0_isSoon 5 = .ok (.getfield 52, 3) := by decide +kernel
theorem dX0_isSoon_8 : decode cX0_isSoon 8 = .ok (.ifCond .eq 7, 3) := by decide +kernel
theorem dX0_isSoon_11 : decode cX0_isSoon 11 = .ok (.iconst 1, 1) := by decide +kernel
theorem dX0_isSoon_12 : decode cX0_isSoon 12 = .ok (.goto 4, 3) := by decide +kernel
theorem dX0_isSoon_15 : decode cX0_isSoon 15 = .ok (.iconst 0, 1) := by decide +kernel
theorem dX0_isSoon_16 : decode cX0_isSoon 16 = .ok (.ireturn, 1) := by decide +kernel
set_option maxRecDepth 20000 in
theorem ggX0_stepIn_X0_isSoon : GoodIn wsX0_stepIn wsX0_isSoon := goodIn_r _ [7, 8, 9, 10, 11, 12, 13, 14, 15, 16, 17, 18, 19, 20, 21] (by decide +kernel) (by decide +kernel)
set_option maxRecDepth 20000 in
theorem gX0_stepIn_X0_isSoon : GoodIn wsX0_stepIn (wsV RX0 65 RX0 yX0_isSoon wsX0_isSoon) := goodIn_app (goodIn_of _ (by decide +kernel)) ggX0_stepIn_X0_isSoon
theorem dX0_stepIn_0 : decode cX0_stepIn 0 = .ok (.aload_n 0, 1) := by decide +kernel
theorem dX0_stepIn_1 : decode cX0_stepIn 1 = .ok (.iload_n 1, 1) := by decide +kernel
theorem dX0_stepIn_2 : decode cX0_stepIn 2 = .ok (.invokevirtual 65, 3) := by decide +kernel
theorem dX0_stepIn_5 : decode cX0_stepIn 5 = .ok (.ifCond .eq 10, 3) := by decide +kernel
theorem dX0_stepIn_8 : decode cX0_stepIn 8 = .ok (.aload_n 0, 1) := by decide +kernel
theorem dX0_stepIn_9 : decode cX0_stepIn 9 = .ok (.getfield 49, 3) := by decide +kernel
theorem dX0_stepIn_12 : decode cX0_stepIn 12 = .ok (.goto 7, 3) := by decide +kernel
theorem dX0_stepIn_15 : decode cX0_stepIn 15 = .ok (.aload_n 0, 1) := by decide +kernel
theorem dX0_stepIn_16 : decode cX0_stepIn 16 = .ok (.getfield 55, 3) := by decide +kernel
theorem dX0_stepIn_19 : decode cX0_stepIn 19 = .ok (.ireturn, 1) := by decide +kernel
set_option maxRecDepth 20000 in
theorem ggX0_stepBy_X0_isSoon : GoodIn wsX0_stepBy wsX0_isSoon := goodIn_r _ [7, 1, 8, 9, 10, 11, 12, 13, 14, 15, 16, 17, 18, 19, 20] (by decide +kernel) (by decide +kernel)
set_option maxRecDepth 20000 in
theorem gX0_stepBy_X0_isSoon : GoodIn wsX0_stepBy (wsV RX0 65 RX0 yX0_isSoon wsX0_isSoon) := goodIn_app (goodIn_of _ (by decide +kernel)) ggX0_stepBy_X0_isSoon
theorem dX0_stepBy_0 : decode cX0_stepBy 0 = .ok (.aload_n 0, 1) := by decide +kernel
theorem dX0_stepBy_1 : decode cX0_stepBy 1 = .ok (.iload_n 1, 1) := by decide +kernel
theorem dX0_stepBy_2 : decode cX0_stepBy 2 = .ok (.invokevirtual 65, 3) := by decide +kernel
theorem dX0_stepBy_5 : decode cX0_stepBy 5 = .ok (.ifCond .eq 10, 3) := by decide +kernel
theorem dX0_stepBy_8 : decode cX0_stepBy 8 = .ok (.aload_n 0, 1) := by decide +kernel
theorem dX0_stepBy_9 : decode cX0_stepBy 9 = .ok (.getfield 52, 3) := by decide +kernel
theorem dX0_stepBy_12 : decode cX0_stepBy 12 = .ok (.goto 7, 3) := by decide +kernel
theorem dX0_stepBy_15 : decode cX0_stepBy 15 = .ok (.aload_n 0, 1) := by decide +kernel
theorem dX0_stepBy_16 : decode cX0_stepBy 16 = .ok (.getfield 58, 3) := by decide +kernel
theorem dX0_stepBy_19 : decode cX0_stepBy 19 = .ok (.ireturn, 1) := by decide +kernel
theorem dX0_limit_0 : decode cX0_limit 0 = .ok (.iconst 1, 1) := by decide +kernel
theorem dX0_limit_1 : decode cX0_limit 1 = .ok (.aload_n 1, 1) := by decide +kernel
theorem dX0_limit_2 : decode cX0_limit 2 = .ok (.getfield 69, 3) := by decide +kernel
theorem dX0_limit_5 : decode cX0_limit 5 = .ok (.aload_n 0, 1) := by decide +kernel
theorem dX0_limit_6 : decode cX0_limit 6 = .ok (.getfield 28, 3) := by decide +kernel
theorem dX0_limit_9 : decode cX0_limit 9 = .ok (.bipush 10, 2) := by decide +kernel
theorem dX0_limit_11 : decode cX0_limit 11 = .ok (.idiv, 1) := by decide +kernel
theorem dX0_limit_12 : decode cX0_limit 12 = .ok (.isub, 1) := by decide +kernel
theorem dX0_limit_13 : decode cX0_limit 13 = .ok (.invokestatic 74, 3) := by decide +kernel
theorem dX0_limit_16 : decode cX0_limit 16 = .ok (.ireturn, 1) := by decide +kernel
set_option maxRecDepth 20000 in
theorem ggX0_isQuiet_X0_stepsToCome : GoodIn wsX0_isQuiet wsX0_stepsToCome := goodIn_r _ [13, 14, 15, 16, 17, 18, 19, 20, 21, 22, 23, 24, 25, 26, 27, 28] (by decide +kernel) (by decide +kernel)
set_option maxRecDepth 20000 in
theorem gX0_isQuiet_X0_stepsToCome : GoodIn wsX0_isQuiet (wsV RX0 80 RX0 yX0_stepsToCome wsX0_stepsToCome) := goodIn_app (goodIn_of _ (by decide +kernel)) ggX0_isQuiet_X0_stepsToCome
theorem dX0_isQuiet_0 : decode cX0_isQuiet 0 = .ok (.aload_n 0, 1) := by decide +kernel
theorem dX0_isQuiet_1 : decode cX0_isQuiet 1 = .ok (.getfield 18, 3) := by decide +kernel
theorem dX0_isQuiet_4 : decode cX0_isQuiet 4 = .ok (.ifCond .ne 43, 3) := by decide +kernel
theorem dX0_isQuiet_7 : decode cX0_isQuiet 7 = .ok (.aload_n 0, 1) := by decide +kernel
theorem dX0_isQuiet_8 : decode cX0_isQuiet 8 = .ok (.getfield 35, 3) := by decide +kernel
theorem dX0_isQuiet_11 : decode cX0_isQuiet 11 = .ok (.ifCond .ne 36, 3) := by decide +kernel
theorem dX0_isQuiet_14 : decode cX0_isQuiet 14 = .ok (.aload_n 0, 1) := by decide +kernel
theorem dX0_isQuiet_15 : decode cX0_isQuiet 15 = .ok (.invokevirtual 80, 3) := by decide +kernel
theorem dX0_isQuiet_18 : decode cX0_isQuiet 18 = .ok (.ifCond .ne 29, 3) := by decide +kernel
theorem dX0_isQuiet_21 : decode cX0_isQuiet 21 = .ok (.aload_n 0, 1) := by decide +kernel
theorem dX0_isQuiet_22 : decode cX0_isQuiet 22 = .ok (.getfield 29, 3) := by decide +kernel
theorem dX0_isQuiet_25 : decode cX0_isQuiet 25 = .ok (.invokestatic 84, 3) := by decide +kernel
theorem dX0_isQuiet_28 : decode cX0_isQuiet 28 = .ok (.iconst 3, 1) := by decide +kernel
theorem dX0_isQuiet_29 : decode cX0_isQuiet 29 = .ok (.if_icmp .gt 18, 3) := by decide +kernel
theorem dX0_isQuiet_32 : decode cX0_isQuiet 32 = .ok (.aload_n 0, 1) := by decide +kernel
theorem dX0_isQuiet_33 : decode cX0_isQuiet 33 = .ok (.getfield 32, 3) := by decide +kernel
theorem dX0_isQuiet_36 : decode cX0_isQuiet 36 = .ok (.invokestatic 84, 3) := by decide +kernel
theorem dX0_isQuiet_39 : decode cX0_isQuiet 39 = .ok (.iconst 2, 1) := by decide +kernel
theorem dX0_isQuiet_40 : decode cX0_isQuiet 40 = .ok (.if_icmp .gt 7, 3) := by decide +kernel
theorem dX0_isQuiet_43 : decode cX0_isQuiet 43 = .ok (.iconst 1, 1) := by decide +kernel
theorem dX0_isQuiet_44 : decode cX0_isQuiet 44 = .ok (.goto 4, 3) := by decide +kernel
theorem dX0_isQuiet_47 : decode cX0_isQuiet 47 = .ok (.iconst 0, 1) := by decide +kernel
theorem dX0_isQuiet_48 : decode cX0_isQuiet 48 = .ok (.ireturn, 1) := by decide +kernel
set_option maxRecDepth 20000 in
theorem ggX0_roll_X0_takeSteps : GoodIn wsX0_roll wsX0_takeSteps := goodIn_r _ [9, 10, 11, 12, 13, 14, 60, 61, 62, 63, 64, 65, 66, 67, 68, 69, 70, 71, 72] (by decide +kernel) (by decide +kernel)
set_option maxRecDepth 20000 in
theorem gX0_roll_X0_takeSteps : GoodIn wsX0_roll (wsV RX0 87 RX0 yX0_takeSteps wsX0_takeSteps) := goodIn_app (goodIn_of _ (by decide +kernel)) ggX0_roll_X0_takeSteps
set_option maxRecDepth 20000 in
theorem ggX0_roll_X0_speedNearerToWant : GoodIn wsX0_roll wsX0_speedNearerToWant := goodIn_r _ [18, 13, 3, 1, 19, 20, 21, 8, 22, 23, 24, 25, 26, 27, 28, 29, 30, 31, 32, 33, 34, 35, 60, 61, 62, 63, 64, 65, 66, 67, 68, 69, 70, 71, 72, 53, 54, 55, 56, 57, 58, 59] (by decide +kernel) (by decide +kernel)
set_option maxRecDepth 20000 in
theorem gX0_roll_X0_speedNearerToWant : GoodIn wsX0_roll (wsV RX0 90 RX0 yX0_speedNearerToWant wsX0_speedNearerToWant) := goodIn_app (goodIn_of _ (by decide +kernel)) ggX0_roll_X0_speedNearerToWant
set_option maxRecDepth 20000 in
theorem ggX0_roll_X7_wayToStop : GoodIn wsX0_roll wsX7_wayToStop := goodIn_r _ [37, 38, 39, 27, 40] (by decide +kernel) (by decide +kernel)
set_option maxRecDepth 20000 in
theorem gX0_roll_X7_wayToStop_n97 : GoodIn wsX0_roll (wsX7_wayToStop) := ggX0_roll_X7_wayToStop
set_option maxRecDepth 20000 in
theorem ggX0_roll_X0_speedForRoom : GoodIn wsX0_roll wsX0_speedForRoom := goodIn_r _ [44, 45, 39, 27, 40, 36, 30, 37, 38] (by decide +kernel) (by decide +kernel)
set_option maxRecDepth 20000 in
theorem gX0_roll_X0_speedForRoom : GoodIn wsX0_roll (wsV RX0 100 RX0 yX0_speedForRoom wsX0_speedForRoom) := goodIn_app (goodIn_of _ (by decide +kernel)) ggX0_roll_X0_speedForRoom
set_option maxRecDepth 20000 in
theorem ggX0_roll_X0_swingOut : GoodIn wsX0_roll wsX0_swingOut := goodIn_r _ [49, 50, 51, 52, 29, 30, 31, 32, 33, 27, 34, 35, 26, 28, 60, 61, 62, 63, 64, 65, 66, 67, 68, 69, 70, 71, 72] (by decide +kernel) (by decide +kernel)
set_option maxRecDepth 20000 in
theorem gX0_roll_X0_swingOut : GoodIn wsX0_roll (wsV RX0 104 RX0 yX0_swingOut wsX0_swingOut) := goodIn_app (goodIn_of _ (by decide +kernel)) ggX0_roll_X0_swingOut
theorem dX0_roll_0 : decode cX0_roll 0 = .ok (.aload_n 0, 1) := by decide +kernel
theorem dX0_roll_1 : decode cX0_roll 1 = .ok (.invokevirtual 87, 3) := by decide +kernel
theorem dX0_roll_4 : decode cX0_roll 4 = .ok (.aload_n 0, 1) := by decide +kernel
theorem dX0_roll_5 : decode cX0_roll 5 = .ok (.aload_n 1, 1) := by decide +kernel
theorem dX0_roll_6 : decode cX0_roll 6 = .ok (.invokevirtual 90, 3) := by decide +kernel
theorem dX0_roll_9 : decode cX0_roll 9 = .ok (.istore 4, 2) := by decide +kernel
theorem dX0_roll_11 : decode cX0_roll 11 = .ok (.iload 4, 2) := by decide +kernel
theorem dX0_roll_13 : decode cX0_roll 13 = .ok (.ifCond .ge 7, 3) := by decide +kernel
theorem dX0_roll_16 : decode cX0_roll 16 = .ok (.iload_n 2, 1) := by decide +kernel
theorem dX0_roll_17 : decode cX0_roll 17 = .ok (.goto 4, 3) := by decide +kernel
theorem dX0_roll_20 : decode cX0_roll 20 = .ok (.iload_n 3, 1) := by decide +kernel
theorem dX0_roll_21 : decode cX0_roll 21 = .ok (.istore 5, 2) := by decide +kernel
theorem dX0_roll_23 : decode cX0_roll 23 = .ok (.aload_n 0, 1) := by decide +kernel
theorem dX0_roll_24 : decode cX0_roll 24 = .ok (.iload 4, 2) := by decide +kernel
theorem dX0_roll_26 : decode cX0_roll 26 = .ok (.aload_n 1, 1) := by decide +kernel
theorem dX0_roll_27 : decode cX0_roll 27 = .ok (.getfield 94, 3) := by decide +kernel
theorem dX0_roll_30 : decode cX0_roll 30 = .ok (.invokestatic 97, 3) := by decide +kernel
theorem dX0_roll_33 : decode cX0_roll 33 = .ok (.iload 5, 2) := by decide +kernel
theorem dX0_roll_35 : decode cX0_roll 35 = .ok (.if_icmp .le 7, 3) := by decide +kernel
theorem dX0_roll_38 : decode cX0_roll 38 = .ok (.iconst 1, 1) := by decide +kernel
theorem dX0_roll_39 : decode cX0_roll 39 = .ok (.goto 4, 3) := by decide +kernel
theorem dX0_roll_42 : decode cX0_roll 42 = .ok (.iconst 0, 1) := by decide +kernel
theorem dX0_roll_43 : decode cX0_roll 43 = .ok (.putfield 45, 3) := by decide +kernel
theorem dX0_roll_46 : decode cX0_roll 46 = .ok (.aload_n 0, 1) := by decide +kernel
theorem dX0_roll_47 : decode cX0_roll 47 = .ok (.getfield 45, 3) := by decide +kernel
theorem dX0_roll_50 : decode cX0_roll 50 = .ok (.ifCond .eq 17, 3) := by decide +kernel
theorem dX0_roll_53 : decode cX0_roll 53 = .ok (.aload_n 0, 1) := by decide +kernel
theorem dX0_roll_54 : decode cX0_roll 54 = .ok (.iload 4, 2) := by decide +kernel
theorem dX0_roll_56 : decode cX0_roll 56 = .ok (.iload 5, 2) := by decide +kernel
theorem dX0_roll_58 : decode cX0_roll 58 = .ok (.aload_n 1, 1) := by decide +kernel
theorem dX0_roll_59 : decode cX0_roll 59 = .ok (.getfield 94, 3) := by decide +kernel
theorem dX0_roll_62 : decode cX0_roll 62 = .ok (.invokevirtual 100, 3) := by decide +kernel
theorem dX0_roll_65 : decode cX0_roll 65 = .ok (.istore 4, 2) := by decide +kernel
theorem dX0_roll_67 : decode cX0_roll 67 = .ok (.aload_n 0, 1) := by decide +kernel
theorem dX0_roll_68 : decode cX0_roll 68 = .ok (.iload 4, 2) := by decide +kernel
theorem dX0_roll_70 : decode cX0_roll 70 = .ok (.aload_n 0, 1) := by decide +kernel
theorem dX0_roll_71 : decode cX0_roll 71 = .ok (.getfield 18, 3) := by decide +kernel
theorem dX0_roll_74 : decode cX0_roll 74 = .ok (.isub, 1) := by decide +kernel
theorem dX0_roll_75 : decode cX0_roll 75 = .ok (.invokevirtual 104, 3) := by decide +kernel
theorem dX0_roll_78 : decode cX0_roll 78 = .ok (.aload_n 0, 1) := by decide +kernel
theorem dX0_roll_79 : decode cX0_roll 79 = .ok (.dup, 1) := by decide +kernel
theorem dX0_roll_80 : decode cX0_roll 80 = .ok (.getfield 15, 3) := by decide +kernel
theorem dX0_roll_83 : decode cX0_roll 83 = .ok (.iload 4, 2) := by decide +kernel
theorem dX0_roll_85 : decode cX0_roll 85 = .ok (.iadd, 1) := by decide +kernel
theorem dX0_roll_86 : decode cX0_roll 86 = .ok (.putfield 15, 3) := by decide +kernel
theorem dX0_roll_89 : decode cX0_roll 89 = .ok (.aload_n 0, 1) := by decide +kernel
theorem dX0_roll_90 : decode cX0_roll 90 = .ok (.iload 4, 2) := by decide +kernel
theorem dX0_roll_92 : decode cX0_roll 92 = .ok (.putfield 18, 3) := by decide +kernel
theorem dX0_roll_95 : decode cX0_roll 95 = .ok (.return_, 1) := by decide +kernel
theorem dX0_takeSteps_0 : decode cX0_takeSteps 0 = .ok (.aload_n 0, 1) := by decide +kernel
theorem dX0_takeSteps_1 : decode cX0_takeSteps 1 = .ok (.dup, 1) := by decide +kernel
theorem dX0_takeSteps_2 : decode cX0_takeSteps 2 = .ok (.getfield 49, 3) := by decide +kernel
theorem dX0_takeSteps_5 : decode cX0_takeSteps 5 = .ok (.iconst 1, 1) := by decide +kernel
theorem dX0_takeSteps_6 : decode cX0_takeSteps 6 = .ok (.isub, 1) := by decide +kernel
theorem dX0_takeSteps_7 : decode cX0_takeSteps 7 = .ok (.putfield 49, 3) := by decide +kernel
theorem dX0_takeSteps_10 : decode cX0_takeSteps 10 = .ok (.aload_n 0, 1) := by decide +kernel
theorem dX0_takeSteps_11 : decode cX0_takeSteps 11 = .ok (.dup, 1) := by decide +kernel
theorem dX0_takeSteps_12 : decode cX0_takeSteps 12 = .ok (.getfield 55, 3) := by decide +kernel
theorem dX0_takeSteps_15 : decode cX0_takeSteps 15 = .ok (.iconst 1, 1) := by decide +kernel
theorem dX0_takeSteps_16 : decode cX0_takeSteps 16 = .ok (.isub, 1) := by decide +kernel
theorem dX0_takeSteps_17 : decode cX0_takeSteps 17 = .ok (.putfield 55, 3) := by decide +kernel
theorem dX0_takeSteps_20 : decode cX0_takeSteps 20 = .ok (.aload_n 0, 1) := by decide +kernel
theorem dX0_takeSteps_21 : decode cX0_takeSteps 21 = .ok (.getfield 52, 3) := by decide +kernel
theorem dX0_takeSteps_24 : decode cX0_takeSteps 24 = .ok (.ifCond .eq 29, 3) := by decide +kernel
theorem dX0_takeSteps_27 : decode cX0_takeSteps 27 = .ok (.aload_n 0, 1) := by decide +kernel
theorem dX0_takeSteps_28 : decode cX0_takeSteps 28 = .ok (.getfield 49, 3) := by decide +kernel
theorem dX0_takeSteps_31 : decode cX0_takeSteps 31 = .ok (.iconst 1, 1) := by decide +kernel
theorem dX0_takeSteps_32 : decode cX0_takeSteps 32 = .ok (.if_icmp .ge 21, 3) := by decide +kernel
theorem dX0_takeSteps_35 : decode cX0_takeSteps 35 = .ok (.aload_n 0, 1) := by decide +kernel
theorem dX0_takeSteps_36 : decode cX0_takeSteps 36 = .ok (.dup, 1) := by decide +kernel
theorem dX0_takeSteps_37 : decode cX0_takeSteps 37 = .ok (.getfield 35, 3) := by decide +kernel
theorem dX0_takeSteps_40 : decode cX0_takeSteps 40 = .ok (.aload_n 0, 1) := by decide +kernel
theorem dX0_takeSteps_41 : decode cX0_takeSteps 41 = .ok (.getfield 52, 3) := by decide +kernel
theorem dX0_takeSteps_44 : decode cX0_takeSteps 44 = .ok (.iadd, 1) := by decide +kernel
theorem dX0_takeSteps_45 : decode cX0_takeSteps 45 = .ok (.putfield 35, 3) := by decide +kernel
theorem dX0_takeSteps_48 : decode cX0_takeSteps 48 = .ok (.aload_n 0, 1) := by decide +kernel
theorem dX0_takeSteps_49 : decode cX0_takeSteps 49 = .ok (.iconst 0, 1) := by decide +kernel
theorem dX0_takeSteps_50 : decode cX0_takeSteps 50 = .ok (.putfield 52, 3) := by decide +kernel
theorem dX0_takeSteps_53 : decode cX0_takeSteps 53 = .ok (.aload_n 0, 1) := by decide +kernel
theorem dX0_takeSteps_54 : decode cX0_takeSteps 54 = .ok (.getfield 58, 3) := by decide +kernel
theorem dX0_takeSteps_57 : decode cX0_takeSteps 57 = .ok (.ifCond .eq 29, 3) := by decide +kernel
theorem dX0_takeSteps_60 : decode cX0_takeSteps 60 = .ok (.aload_n 0, 1) := by decide +kernel
theorem dX0_takeSteps_61 : decode cX0_takeSteps 61 = .ok (.getfield 55, 3) := by decide +kernel
theorem dX0_takeSteps_64 : decode cX0_takeSteps 64 = .ok (.iconst 1, 1) := by decide +kernel
theorem dX0_takeSteps_65 : decode cX0_takeSteps 65 = .ok (.if_icmp .ge 21, 3) := by decide +kernel
theorem dX0_takeSteps_68 : decode cX0_takeSteps 68 = .ok (.aload_n 0, 1) := by decide +kernel
theorem dX0_takeSteps_69 : decode cX0_takeSteps 69 = .ok (.dup, 1) := by decide +kernel
theorem dX0_takeSteps_70 : decode cX0_takeSteps 70 = .ok (.getfield 35, 3) := by decide +kernel
theorem dX0_takeSteps_73 : decode cX0_takeSteps 73 = .ok (.aload_n 0, 1) := by decide +kernel
theorem dX0_takeSteps_74 : decode cX0_takeSteps 74 = .ok (.getfield 58, 3) := by decide +kernel
theorem dX0_takeSteps_77 : decode cX0_takeSteps 77 = .ok (.iadd, 1) := by decide +kernel
theorem dX0_takeSteps_78 : decode cX0_takeSteps 78 = .ok (.putfield 35, 3) := by decide +kernel
theorem dX0_takeSteps_81 : decode cX0_takeSteps 81 = .ok (.aload_n 0, 1) := by decide +kernel
theorem dX0_takeSteps_82 : decode cX0_takeSteps 82 = .ok (.iconst 0, 1) := by decide +kernel
theorem dX0_takeSteps_83 : decode cX0_takeSteps 83 = .ok (.putfield 58, 3) := by decide +kernel
theorem dX0_takeSteps_86 : decode cX0_takeSteps 86 = .ok (.return_, 1) := by decide +kernel
set_option maxRecDepth 20000 in
theorem ggX0_speedNearerToWant_X0_limit : GoodIn wsX0_speedNearerToWant wsX0_limit := goodIn_r _ [8, 9, 10, 11, 12, 13, 14, 35, 36, 37, 38, 39, 40, 41, 22, 23, 24, 25, 26, 27, 28, 29, 30, 31, 32, 33, 34] (by decide +kernel) (by decide +kernel)
set_option maxRecDepth 20000 in
theorem gX0_speedNearerToWant_X0_limit : GoodIn wsX0_speedNearerToWant (wsV RX0 108 RX0 yX0_limit wsX0_limit) := goodIn_app (goodIn_of _ (by decide +kernel)) ggX0_speedNearerToWant_X0_limit
set_option maxRecDepth 20000 in
theorem ggX0_speedNearerToWant_X7_keptWithin : GoodIn wsX0_speedNearerToWant wsX7_keptWithin := goodIn_r _ [17, 18, 19, 13, 20, 21, 12, 14] (by decide +kernel) (by decide +kernel)
set_option maxRecDepth 20000 in
theorem gX0_speedNearerToWant_X7_keptWithin_n111 : GoodIn wsX0_speedNearerToWant (wsX7_keptWithin) := ggX0_speedNearerToWant_X7_keptWithin
theorem dX0_speedNearerToWant_0 : decode cX0_speedNearerToWant 0 = .ok (.aload_n 0, 1) := by decide +kernel
theorem dX0_speedNearerToWant_1 : decode cX0_speedNearerToWant 1 = .ok (.getfield 35, 3) := by decide +kernel
theorem dX0_speedNearerToWant_4 : decode cX0_speedNearerToWant 4 = .ok (.aload_n 0, 1) := by decide +kernel
theorem dX0_speedNearerToWant_5 : decode cX0_speedNearerToWant 5 = .ok (.aload_n 1, 1) := by decide +kernel
theorem dX0_speedNearerToWant_6 : decode cX0_speedNearerToWant 6 = .ok (.invokevirtual 108, 3) := by decide +kernel
theorem dX0_speedNearerToWant_9 : decode cX0_speedNearerToWant 9 = .ok (.invokestatic 111, 3) := by decide +kernel
theorem dX0_speedNearerToWant_12 : decode cX0_speedNearerToWant 12 = .ok (.istore_n 2, 1) := by decide +kernel
theorem dX0_speedNearerToWant_13 : decode cX0_speedNearerToWant 13 = .ok (.aload_n 0, 1) := by decide +kernel
theorem dX0_speedNearerToWant_14 : decode cX0_speedNearerToWant 14 = .ok (.getfield 18, 3) := by decide +kernel
theorem dX0_speedNearerToWant_17 : decode cX0_speedNearerToWant 17 = .ok (.iload_n 2, 1) := by decide +kernel
theorem dX0_speedNearerToWant_18 : decode cX0_speedNearerToWant 18 = .ok (.aload_n 0, 1) := by decide +kernel
theorem dX0_speedNearerToWant_19 : decode cX0_speedNearerToWant 19 = .ok (.getfield 18, 3) := by decide +kernel
theorem dX0_speedNearerToWant_22 : decode cX0_speedNearerToWant 22 = .ok (.isub, 1) := by decide +kernel
theorem dX0_speedNearerToWant_23 : decode cX0_speedNearerToWant 23 = .ok (.aload_n 1, 1) := by decide +kernel
theorem dX0_speedNearerToWant_24 : decode cX0_speedNearerToWant 24 = .ok (.getfield 94, 3) := by decide +kernel
theorem dX0_speedNearerToWant_27 : decode cX0_speedNearerToWant 27 = .ok (.invokestatic 111, 3) := by decide +kernel
theorem dX0_speedNearerToWant_30 : decode cX0_speedNearerToWant 30 = .ok (.iadd, 1) := by decide +kernel
theorem dX0_speedNearerToWant_31 : decode cX0_speedNearerToWant 31 = .ok (.ireturn, 1) := by decide +kernel
set_option maxRecDepth 20000 in
theorem ggX0_speedForRoom_X7_wayToStop : GoodIn wsX0_speedForRoom wsX7_wayToStop := goodIn_r _ [7, 8, 2, 3, 4] (by decide +kernel) (by decide +kernel)
set_option maxRecDepth 20000 in
theorem gX0_speedForRoom_X7_wayToStop_n97 : GoodIn wsX0_speedForRoom (wsX7_wayToStop) := ggX0_speedForRoom_X7_wayToStop
theorem dX0_speedForRoom_0 : decode cX0_speedForRoom 0 = .ok (.iload_n 1, 1) := by decide +kernel
theorem dX0_speedForRoom_1 : decode cX0_speedForRoom 1 = .ok (.ifCond .ge 7, 3) := by decide +kernel
theorem dX0_speedForRoom_4 : decode cX0_speedForRoom 4 = .ok (.iconst (-1), 1) := by decide +kernel
theorem dX0_speedForRoom_5 : decode cX0_speedForRoom 5 = .ok (.goto 4, 3) := by decide +kernel
theorem dX0_speedForRoom_8 : decode cX0_speedForRoom 8 = .ok (.iconst 1, 1) := by decide +kernel
theorem dX0_speedForRoom_9 : decode cX0_speedForRoom 9 = .ok (.istore 4, 2) := by decide +kernel
theorem dX0_speedForRoom_11 : decode cX0_speedForRoom 11 = .ok (.iload_n 1, 1) := by decide +kernel
theorem dX0_speedForRoom_12 : decode cX0_speedForRoom 12 = .ok (.invokestatic 84, 3) := by decide +kernel
theorem dX0_speedForRoom_15 : decode cX0_speedForRoom 15 = .ok (.iconst 1, 1) := by decide +kernel
theorem dX0_speedForRoom_16 : decode cX0_speedForRoom 16 = .ok (.isub, 1) := by decide +kernel
theorem dX0_speedForRoom_17 : decode cX0_speedForRoom 17 = .ok (.istore 5, 2) := by decide +kernel
theorem dX0_speedForRoom_19 : decode cX0_speedForRoom 19 = .ok (.iload 5, 2) := by decide +kernel
theorem dX0_speedForRoom_21 : decode cX0_speedForRoom 21 = .ok (.ifCond .le 25, 3) := by decide +kernel
theorem dX0_speedForRoom_24 : decode cX0_speedForRoom 24 = .ok (.iload 5, 2) := by decide +kernel
theorem dX0_speedForRoom_26 : decode cX0_speedForRoom 26 = .ok (.iload_n 3, 1) := by decide +kernel
theorem dX0_speedForRoom_27 : decode cX0_speedForRoom 27 = .ok (.invokestatic 97, 3) := by decide +kernel
theorem dX0_speedForRoom_30 : decode cX0_speedForRoom 30 = .ok (.iload_n 2, 1) := by decide +kernel
theorem dX0_speedForRoom_31 : decode cX0_speedForRoom 31 = .ok (.if_icmp .gt 9, 3) := by decide +kernel
theorem dX0_speedForRoom_34 : decode cX0_speedForRoom 34 = .ok (.iload 4, 2) := by decide +kernel
theorem dX0_speedForRoom_36 : decode cX0_speedForRoom 36 = .ok (.iload 5, 2) := by decide +kernel
theorem dX0_speedForRoom_38 : decode cX0_speedForRoom 38 = .ok (.imul, 1) := by decide +kernel
theorem dX0_speedForRoom_39 : decode cX0_speedForRoom 39 = .ok (.ireturn, 1) := by decide +kernel
theorem dX0_speedForRoom_40 : decode cX0_speedForRoom 40 = .ok (.iinc 5 (-1), 3) := by decide +kernel
theorem dX0_speedForRoom_43 : decode cX0_speedForRoom 43 = .ok (.goto (-24), 3) := by decide +kernel
theorem dX0_speedForRoom_46 : decode cX0_speedForRoom 46 = .ok (.iconst 0, 1) := by decide +kernel
theorem dX0_speedForRoom_47 : decode cX0_speedForRoom 47 = .ok (.ireturn, 1) := by decide +kernel
set_option maxRecDepth 20000 in
theorem ggX0_swingOut_X7_keptWithin : GoodIn wsX0_swingOut wsX7_keptWithin := goodIn_r _ [6, 7, 8, 9, 10, 11, 12, 13] (by decide +kernel) (by decide +kernel)
set_option maxRecDepth 20000 in
theorem gX0_swingOut_X7_keptWithin_n111 : GoodIn wsX0_swingOut (wsX7_keptWithin) := ggX0_swingOut_X7_keptWithin
theorem dX0_swingOut_0 : decode cX0_swingOut 0 = .ok (.aload_n 0, 1) := by decide +kernel
theorem dX0_swingOut_1 : decode cX0_swingOut 1 = .ok (.getfield 24, 3) := by decide +kernel
theorem dX0_swingOut_4 : decode cX0_swingOut 4 = .ok (.ifCond .le 18, 3) := by decide +kernel
theorem dX0_swingOut_7 : decode cX0_swingOut 7 = .ok (.bipush 16, 2) := by decide +kernel
theorem dX0_swingOut_9 : decode cX0_swingOut 9 = .ok (.aload_n 0, 1) := by decide +kernel
theorem dX0_swingOut_10 : decode cX0_swingOut 10 = .ok (.getfield 29, 3) := by decide +kernel
theorem dX0_swingOut_13 : decode cX0_swingOut 13 = .ok (.imul, 1) := by decide +kernel
theorem dX0_swingOut_14 : decode cX0_swingOut 14 = .ok (.aload_n 0, 1) := by decide +kernel
theorem dX0_swingOut_15 : decode cX0_swingOut 15 = .ok (.getfield 24, 3) := by decide +kernel
theorem dX0_swingOut_18 : decode cX0_swingOut 18 = .ok (.idiv, 1) := by decide +kernel
theorem dX0_swingOut_19 : decode cX0_swingOut 19 = .ok (.goto 4, 3) := by decide +kernel
theorem dX0_swingOut_22 : decode cX0_swingOut 22 = .ok (.iconst 0, 1) := by decide +kernel
theorem dX0_swingOut_23 : decode cX0_swingOut 23 = .ok (.istore_n 2, 1) := by decide +kernel
theorem dX0_swingOut_24 : decode cX0_swingOut 24 = .ok (.aload_n 0, 1) := by decide +kernel
theorem dX0_swingOut_25 : decode cX0_swingOut 25 = .ok (.aload_n 0, 1) := by decide +kernel
theorem dX0_swingOut_26 : decode cX0_swingOut 26 = .ok (.getfield 32, 3) := by decide +kernel
theorem dX0_swingOut_29 : decode cX0_swingOut 29 = .ok (.iload_n 2, 1) := by decide +kernel
theorem dX0_swingOut_30 : decode cX0_swingOut 30 = .ok (.isub, 1) := by decide +kernel
theorem dX0_swingOut_31 : decode cX0_swingOut 31 = .ok (.iconst 4, 1) := by decide +kernel
theorem dX0_swingOut_32 : decode cX0_swingOut 32 = .ok (.iload_n 1, 1) := by decide +kernel
theorem dX0_swingOut_33 : decode cX0_swingOut 33 = .ok (.imul, 1) := by decide +kernel
theorem dX0_swingOut_34 : decode cX0_swingOut 34 = .ok (.isub, 1) := by decide +kernel
theorem dX0_swingOut_35 : decode cX0_swingOut 35 = .ok (.sipush 9999, 3) := by decide +kernel
theorem dX0_swingOut_38 : decode cX0_swingOut 38 = .ok (.invokestatic 111, 3) := by decide +kernel
theorem dX0_swingOut_41 : decode cX0_swingOut 41 = .ok (.putfield 32, 3) := by decide +kernel
theorem dX0_swingOut_44 : decode cX0_swingOut 44 = .ok (.aload_n 0, 1) := by decide +kernel
theorem dX0_swingOut_45 : decode cX0_swingOut 45 = .ok (.aload_n 0, 1) := by decide +kernel
theorem dX0_swingOut_46 : decode cX0_swingOut 46 = .ok (.getfield 29, 3) := by decide +kernel
theorem dX0_swingOut_49 : decode cX0_swingOut 49 = .ok (.aload_n 0, 1) := by decide +kernel
theorem dX0_swingOut_50 : decode cX0_swingOut 50 = .ok (.getfield 32, 3) := by decide +kernel
theorem dX0_swingOut_53 : decode cX0_swingOut 53 = .ok (.iadd, 1) := by decide +kernel
theorem dX0_swingOut_54 : decode cX0_swingOut 54 = .ok (.sipush 9999, 3) := by decide +kernel
theorem dX0_swingOut_57 : decode cX0_swingOut 57 = .ok (.invokestatic 111, 3) := by decide +kernel
theorem dX0_swingOut_60 : decode cX0_swingOut 60 = .ok (.putfield 29, 3) := by decide +kernel
theorem dX0_swingOut_63 : decode cX0_swingOut 63 = .ok (.return_, 1) := by decide +kernel
theorem dX0_hoistRope_0 : decode cX0_hoistRope 0 = .ok (.aload_n 0, 1) := by decide +kernel
theorem dX0_hoistRope_1 : decode cX0_hoistRope 1 = .ok (.getfield 38, 3) := by decide +kernel
theorem dX0_hoistRope_4 : decode cX0_hoistRope 4 = .ok (.aload_n 0, 1) := by decide +kernel
theorem dX0_hoistRope_5 : decode cX0_hoistRope 5 = .ok (.getfield 24, 3) := by decide +kernel
theorem dX0_hoistRope_8 : decode cX0_hoistRope 8 = .ok (.if_icmp .eq 14, 3) := by decide +kernel
theorem dX0_hoistRope_11 : decode cX0_hoistRope 11 = .ok (.aload_n 0, 1) := by decide +kernel
theorem dX0_hoistRope_12 : decode cX0_hoistRope 12 = .ok (.getfield 18, 3) := by decide +kernel
theorem dX0_hoistRope_15 : decode cX0_hoistRope 15 = .ok (.invokestatic 84, 3) := by decide +kernel
theorem dX0_hoistRope_18 : decode cX0_hoistRope 18 = .ok (.iload_n 1, 1) := by decide +kernel
theorem dX0_hoistRope_19 : decode cX0_hoistRope 19 = .ok (.if_icmp .le 4, 3) := by decide +kernel
theorem dX0_hoistRope_22 : decode cX0_hoistRope 22 = .ok (.return_, 1) := by decide +kernel
theorem dX0_hoistRope_23 : decode cX0_hoistRope 23 = .ok (.aload_n 0, 1) := by decide +kernel
theorem dX0_hoistRope_24 : decode cX0_hoistRope 24 = .ok (.getfield 38, 3) := by decide +kernel
theorem dX0_hoistRope_27 : decode cX0_hoistRope 27 = .ok (.aload_n 0, 1) := by decide +kernel
theorem dX0_hoistRope_28 : decode cX0_hoistRope 28 = .ok (.getfield 24, 3) := by decide +kernel
theorem dX0_hoistRope_31 : decode cX0_hoistRope 31 = .ok (.if_icmp .le 12, 3) := by decide +kernel
theorem dX0_hoistRope_34 : decode cX0_hoistRope 34 = .ok (.aload_n 0, 1) := by decide +kernel
theorem dX0_hoistRope_35 : decode cX0_hoistRope 35 = .ok (.getfield 24, 3) := by decide +kernel
theorem dX0_hoistRope_38 : decode cX0_hoistRope 38 = .ok (.iconst 1, 1) := by decide +kernel
theorem dX0_hoistRope_39 : decode cX0_hoistRope 39 = .ok (.iadd, 1) := by decide +kernel
theorem dX0_hoistRope_40 : decode cX0_hoistRope 40 = .ok (.goto 9, 3) := by decide +kernel
theorem dX0_hoistRope_43 : decode cX0_hoistRope 43 = .ok (.aload_n 0, 1) := by decide +kernel
theorem dX0_hoistRope_44 : decode cX0_hoistRope 44 = .ok (.getfield 24, 3) := by decide +kernel
theorem dX0_hoistRope_47 : decode cX0_hoistRope 47 = .ok (.iconst 1, 1) := by decide +kernel
theorem dX0_hoistRope_48 : decode cX0_hoistRope 48 = .ok (.isub, 1) := by decide +kernel
theorem dX0_hoistRope_49 : decode cX0_hoistRope 49 = .ok (.istore 4, 2) := by decide +kernel
theorem dX0_hoistRope_51 : decode cX0_hoistRope 51 = .ok (.iload 4, 2) := by decide +kernel
theorem dX0_hoistRope_53 : decode cX0_hoistRope 53 = .ok (.iload_n 2, 1) := by decide +kernel
theorem dX0_hoistRope_54 : decode cX0_hoistRope 54 = .ok (.isub, 1) := by decide +kernel
theorem dX0_hoistRope_55 : decode cX0_hoistRope 55 = .ok (.invokestatic 84, 3) := by decide +kernel
theorem dX0_hoistRope_58 : decode cX0_hoistRope 58 = .ok (.istore 5, 2) := by decide +kernel
theorem dX0_hoistRope_60 : decode cX0_hoistRope 60 = .ok (.iload_n 3, 1) := by decide +kernel
theorem dX0_hoistRope_61 : decode cX0_hoistRope 61 = .ok (.ifCond .lt 24, 3) := by decide +kernel
theorem dX0_hoistRope_64 : decode cX0_hoistRope 64 = .ok (.iload 5, 2) := by decide +kernel
theorem dX0_hoistRope_66 : decode cX0_hoistRope 66 = .ok (.iload_n 3, 1) := by decide +kernel
theorem dX0_hoistRope_67 : decode cX0_hoistRope 67 = .ok (.if_icmp .le 18, 3) := by decide +kernel
theorem dX0_hoistRope_70 : decode cX0_hoistRope 70 = .ok (.iload 5, 2) := by decide +kernel
theorem dX0_hoistRope_72 : decode cX0_hoistRope 72 = .ok (.aload_n 0, 1) := by decide +kernel
theorem dX0_hoistRope_73 : decode cX0_hoistRope 73 = .ok (.getfield 24, 3) := by decide +kernel
theorem dX0_hoistRope_76 : decode cX0_hoistRope 76 = .ok (.iload_n 2, 1) := by decide +kernel
theorem dX0_hoistRope_77 : decode cX0_hoistRope 77 = .ok (.isub, 1) := by decide +kernel
theorem dX0_hoistRope_78 : decode cX0_hoistRope 78 = .ok (.invokestatic 84, 3) := by decide +kernel
theorem dX0_hoistRope_81 : decode cX0_hoistRope 81 = .ok (.if_icmp .le 4, 3) := by decide +kernel
theorem dX0_hoistRope_84 : decode cX0_hoistRope 84 = .ok (.return_, 1) := by decide +kernel
theorem dX0_hoistRope_85 : decode cX0_hoistRope 85 = .ok (.aload_n 0, 1) := by decide +kernel
theorem dX0_hoistRope_86 : decode cX0_hoistRope 86 = .ok (.iload 4, 2) := by decide +kernel
theorem dX0_hoistRope_88 : decode cX0_hoistRope 88 = .ok (.putfield 24, 3) := by decide +kernel
theorem dX0_hoistRope_91 : decode cX0_hoistRope 91 = .ok (.return_, 1) := by decide +kernel
set_option maxRecDepth 20000 in
theorem ggX1_init_X4_init : GoodIn wsX1_init wsX4_init := goodIn_r _ [10, 11, 2, 3] (by decide +kernel) (by decide +kernel)
set_option maxRecDepth 20000 in
theorem gX1_init_X4_init_n9 : GoodIn wsX1_init (wsX4_init) := ggX1_init_X4_init
set_option maxRecDepth 20000 in
theorem ggX1_init_X1_setUsual : GoodIn wsX1_init wsX1_setUsual := goodIn_r _ [16, 17, 18, 19, 20, 21, 7, 8, 22, 23, 24, 6, 25, 26, 27, 28, 32, 33, 34, 35, 36, 37, 38, 29, 30, 31] (by decide +kernel) (by decide +kernel)
set_option maxRecDepth 20000 in
theorem gX1_init_X1_setUsual : GoodIn wsX1_init (wsV RX1 19 RX1 yX1_setUsual wsX1_setUsual) := goodIn_app (goodIn_of _ (by decide +kernel)) ggX1_init_X1_setUsual
theorem dX1_init_0 : decode cX1_init 0 = .ok (.aload_n 0, 1) := by decide +kernel
theorem dX1_init_1 : decode cX1_init 1 = .ok (.invokespecial 1, 3) := by decide +kernel
theorem dX1_init_4 : decode cX1_init 4 = .ok (.aload_n 0, 1) := by decide +kernel
theorem dX1_init_5 : decode cX1_init 5 = .ok (.new 7, 3) := by decide +kernel
theorem dX1_init_8 : decode cX1_init 8 = .ok (.dup, 1) := by decide +kernel
theorem dX1_init_9 : decode cX1_init 9 = .ok (.invokespecial 9, 3) := by decide +kernel
theorem dX1_init_12 : decode cX1_init 12 = .ok (.putfield 10, 3) := by decide +kernel
theorem dX1_init_15 : decode cX1_init 15 = .ok (.aload_n 0, 1) := by decide +kernel
theorem dX1_init_16 : decode cX1_init 16 = .ok (.new 7, 3) := by decide +kernel
theorem dX1_init_19 : decode cX1_init 19 = .ok (.dup, 1) := by decide +kernel
theorem dX1_init_20 : decode cX1_init 20 = .ok (.invokespecial 9, 3) := by decide +kernel
theorem dX1_init_23 : decode cX1_init 23 = .ok (.putfield 16, 3) := by decide +kernel
theorem dX1_init_26 : decode cX1_init 26 = .ok (.aload_n 0, 1) := by decide +kernel
theorem dX1_init_27 : decode cX1_init 27 = .ok (.invokevirtual 19, 3) := by decide +kernel
theorem dX1_init_30 : decode cX1_init 30 = .ok (.return_, 1) := by decide +kernel
set_option maxRecDepth 20000 in
theorem ggX1_setUsual_X4_set : GoodIn wsX1_setUsual wsX4_set := goodIn_r _ [12, 13, 14, 15, 23, 24, 25] (by decide +kernel) (by decide +kernel)
set_option maxRecDepth 20000 in
theorem gX1_setUsual_X4_set : GoodIn wsX1_setUsual (wsV RX1 38 RX4 yX4_set wsX4_set) := goodIn_app (goodIn_of _ (by decide +kernel)) ggX1_setUsual_X4_set
theorem dX1_setUsual_0 : decode cX1_setUsual 0 = .ok (.aload_n 0, 1) := by decide +kernel
theorem dX1_setUsual_1 : decode cX1_setUsual 1 = .ok (.sipush 600, 3) := by decide +kernel
theorem dX1_setUsual_4 : decode cX1_setUsual 4 = .ok (.putfield 22, 3) := by decide +kernel
theorem dX1_setUsual_7 : decode cX1_setUsual 7 = .ok (.aload_n 0, 1) := by decide +kernel
theorem dX1_setUsual_8 : decode cX1_setUsual 8 = .ok (.bipush 40, 2) := by decide +kernel
theorem dX1_setUsual_10 : decode cX1_setUsual 10 = .ok (.putfield 26, 3) := by decide +kernel
theorem dX1_setUsual_13 : decode cX1_setUsual 13 = .ok (.aload_n 0, 1) := by decide +kernel
theorem dX1_setUsual_14 : decode cX1_setUsual 14 = .ok (.iconst 2, 1) := by decide +kernel
theorem dX1_setUsual_15 : decode cX1_setUsual 15 = .ok (.putfield 29, 3) := by decide +kernel
theorem dX1_setUsual_18 : decode cX1_setUsual 18 = .ok (.aload_n 0, 1) := by decide +kernel
theorem dX1_setUsual_19 : decode cX1_setUsual 19 = .ok (.bipush 12, 2) := by decide +kernel
theorem dX1_setUsual_21 : decode cX1_setUsual 21 = .ok (.putfield 32, 3) := by decide +kernel
theorem dX1_setUsual_24 : decode cX1_setUsual 24 = .ok (.aload_n 0, 1) := by decide +kernel
theorem dX1_setUsual_25 : decode cX1_setUsual 25 = .ok (.bipush 6, 2) := by decide +kernel
theorem dX1_setUsual_27 : decode cX1_setUsual 27 = .ok (.putfield 35, 3) := by decide +kernel
theorem dX1_setUsual_30 : decode cX1_setUsual 30 = .ok (.aload_n 0, 1) := by decide +kernel
theorem dX1_setUsual_31 : decode cX1_setUsual 31 = .ok (.getfield 10, 3) := by decide +kernel
theorem dX1_setUsual_34 : decode cX1_setUsual 34 = .ok (.bipush 100, 2) := by decide +kernel
theorem dX1_setUsual_36 : decode cX1_setUsual 36 = .ok (.bipush 30, 2) := by decide +kernel
theorem dX1_setUsual_38 : decode cX1_setUsual 38 = .ok (.iconst 0, 1) := by decide +kernel
theorem dX1_setUsual_39 : decode cX1_setUsual 39 = .ok (.invokevirtual 38, 3) := by decide +kernel
theorem dX1_setUsual_42 : decode cX1_setUsual 42 = .ok (.aload_n 0, 1) := by decide +kernel
theorem dX1_setUsual_43 : decode cX1_setUsual 43 = .ok (.getfield 16, 3) := by decide +kernel
theorem dX1_setUsual_46 : decode cX1_setUsual 46 = .ok (.sipush 500, 3) := by decide +kernel
theorem dX1_setUsual_49 : decode cX1_setUsual 49 = .ok (.bipush 30, 2) := by decide +kernel
theorem dX1_setUsual_51 : decode cX1_setUsual 51 = .ok (.iconst 0, 1) := by decide +kernel
theorem dX1_setUsual_52 : decode cX1_setUsual 52 = .ok (.invokevirtual 38, 3) := by decide +kernel
theorem dX1_setUsual_55 : decode cX1_setUsual 55 = .ok (.return_, 1) := by decide +kernel
theorem dX1_holdsBoth_0 : decode cX1_holdsBoth 0 = .ok (.aload_n 0, 1) := by decide +kernel
theorem dX1_holdsBoth_1 : decode cX1_holdsBoth 1 = .ok (.getfield 10, 3) := by decide +kernel
theorem dX1_holdsBoth_4 : decode cX1_holdsBoth 4 = .ok (.getfield 42, 3) := by decide +kernel
theorem dX1_holdsBoth_7 : decode cX1_holdsBoth 7 = .ok (.aload_n 0, 1) := by decide +kernel
theorem dX1_holdsBoth_8 : decode cX1_holdsBoth 8 = .ok (.getfield 22, 3) := by decide +kernel
theorem dX1_holdsBoth_11 : decode cX1_holdsBoth 11 = .ok (.if_icmp .gt 43, 3) := by decide +kernel
theorem dX1_holdsBoth_14 : decode cX1_holdsBoth 14 = .ok (.aload_n 0, 1) := by decide +kernel
theorem dX1_holdsBoth_15 : decode cX1_holdsBoth 15 = .ok (.getfield 16, 3) := by decide +kernel
theorem dX1_holdsBoth_18 : decode cX1_holdsBoth 18 = .ok (.getfield 42, 3) := by decide +kernel
theorem dX1_holdsBoth_21 : decode cX1_holdsBoth 21 = .ok (.aload_n 0, 1) := by decide +kernel
theorem dX1_holdsBoth_22 : decode cX1_holdsBoth 22 = .ok (.getfield 22, 3) := by decide +kernel
theorem dX1_holdsBoth_25 : decode cX1_holdsBoth 25 = .ok (.if_icmp .gt 29, 3) := by decide +kernel
theorem dX1_holdsBoth_28 : decode cX1_holdsBoth 28 = .ok (.aload_n 0, 1) := by decide +kernel
theorem dX1_holdsBoth_29 : decode cX1_holdsBoth 29 = .ok (.getfield 16, 3) := by decide +kernel
theorem dX1_holdsBoth_32 : decode cX1_holdsBoth 32 = .ok (.getfield 42, 3) := by decide +kernel
theorem dX1_holdsBoth_35 : decode cX1_holdsBoth 35 = .ok (.aload_n 0, 1) := by decide +kernel
theorem dX1_holdsBoth_36 : decode cX1_holdsBoth 36 = .ok (.getfield 10, 3) := by decide +kernel
theorem dX1_holdsBoth_39 : decode cX1_holdsBoth 39 = .ok (.getfield 42, 3) := by decide +kernel
theorem dX1_holdsBoth_42 : decode cX1_holdsBoth 42 = .ok (.isub, 1) := by decide +kernel
theorem dX1_holdsBoth_43 : decode cX1_holdsBoth 43 = .ok (.aload_n 0, 1) := by decide +kernel
theorem dX1_holdsBoth_44 : decode cX1_holdsBoth 44 = .ok (.getfield 26, 3) := by decide +kernel
theorem dX1_holdsBoth_47 : decode cX1_holdsBoth 47 = .ok (.if_icmp .lt 7, 3) := by decide +kernel
theorem dX1_holdsBoth_50 : decode cX1_holdsBoth 50 = .ok (.iconst 1, 1) := by decide +kernel
theorem dX1_holdsBoth_51 : decode cX1_holdsBoth 51 = .ok (.goto 4, 3) := by decide +kernel
theorem dX1_holdsBoth_54 : decode cX1_holdsBoth 54 = .ok (.iconst 0, 1) := by decide +kernel
theorem dX1_holdsBoth_55 : decode cX1_holdsBoth 55 = .ok (.ireturn, 1) := by decide +kernel
set_option maxRecDepth 20000 in
theorem ggX2_init_X0_init : GoodIn wsX2_init wsX0_init := goodIn_r _ [11, 12, 2, 3] (by decide +kernel) (by decide +kernel)
set_option maxRecDepth 20000 in
theorem gX2_init_X0_init_n11 : GoodIn wsX2_init (wsX0_init) := ggX2_init_X0_init
theorem dX2_init_0 : decode cX2_init 0 = .ok (.aload_n 0, 1) := by decide +kernel
theorem dX2_init_1 : decode cX2_init 1 = .ok (.invokespecial 3, 3) := by decide +kernel
theorem dX2_init_4 : decode cX2_init 4 = .ok (.aload_n 0, 1) := by decide +kernel
theorem dX2_init_5 : decode cX2_init 5 = .ok (.new 9, 3) := by decide +kernel
theorem dX2_init_8 : decode cX2_init 8 = .ok (.dup, 1) := by decide +kernel
theorem dX2_init_9 : decode cX2_init 9 = .ok (.invokespecial 11, 3) := by decide +kernel
theorem dX2_init_12 : decode cX2_init 12 = .ok (.putfield 12, 3) := by decide +kernel
theorem dX2_init_15 : decode cX2_init 15 = .ok (.aload_n 0, 1) := by decide +kernel
theorem dX2_init_16 : decode cX2_init 16 = .ok (.new 9, 3) := by decide +kernel
theorem dX2_init_19 : decode cX2_init 19 = .ok (.dup, 1) := by decide +kernel
theorem dX2_init_20 : decode cX2_init 20 = .ok (.invokespecial 11, 3) := by decide +kernel
theorem dX2_init_23 : decode cX2_init 23 = .ok (.putfield 18, 3) := by decide +kernel
theorem dX2_init_26 : decode cX2_init 26 = .ok (.aload_n 0, 1) := by decide +kernel
theorem dX2_init_27 : decode cX2_init 27 = .ok (.bipush (-4), 2) := by decide +kernel
theorem dX2_init_29 : decode cX2_init 29 = .ok (.putfield 21, 3) := by decide +kernel
theorem dX2_init_32 : decode cX2_init 32 = .ok (.return_, 1) := by decide +kernel
set_option maxRecDepth 20000 in
theorem ggX2_begin_X0_begin : GoodIn wsX2_begin wsX0_begin := goodIn_r _ [10, 11, 12, 13, 14, 15, 16, 17, 18, 19, 20, 21, 22, 23, 24, 25, 9, 26, 27, 28, 29, 30, 41, 42, 43, 44, 45, 46, 47, 48, 49, 50, 51, 52, 53, 54, 55, 56] (by decide +kernel) (by decide +kernel)
set_option maxRecDepth 20000 in
theorem gX2_begin_X0_begin : GoodIn wsX2_begin (wsV RX2 30 RX0 yX0_begin wsX0_begin) := goodIn_app (goodIn_of _ (by decide +kernel)) ggX2_begin_X0_begin
theorem dX2_begin_0 : decode cX2_begin 0 = .ok (.aload_n 0, 1) := by decide +kernel
theorem dX2_begin_1 : decode cX2_begin 1 = .ok (.getfield 12, 3) := by decide +kernel
theorem dX2_begin_4 : decode cX2_begin 4 = .ok (.aload_n 1, 1) := by decide +kernel
theorem dX2_begin_5 : decode cX2_begin 5 = .ok (.getfield 25, 3) := by decide +kernel
theorem dX2_begin_8 : decode cX2_begin 8 = .ok (.invokevirtual 30, 3) := by decide +kernel
theorem dX2_begin_11 : decode cX2_begin 11 = .ok (.aload_n 0, 1) := by decide +kernel
theorem dX2_begin_12 : decode cX2_begin 12 = .ok (.getfield 18, 3) := by decide +kernel
theorem dX2_begin_15 : decode cX2_begin 15 = .ok (.aload_n 1, 1) := by decide +kernel
theorem dX2_begin_16 : decode cX2_begin 16 = .ok (.getfield 34, 3) := by decide +kernel
theorem dX2_begin_19 : decode cX2_begin 19 = .ok (.invokevirtual 30, 3) := by decide +kernel
theorem dX2_begin_22 : decode cX2_begin 22 = .ok (.aload_n 0, 1) := by decide +kernel
theorem dX2_begin_23 : decode cX2_begin 23 = .ok (.bipush (-4), 2) := by decide +kernel
theorem dX2_begin_25 : decode cX2_begin 25 = .ok (.putfield 21, 3) := by decide +kernel
theorem dX2_begin_28 : decode cX2_begin 28 = .ok (.return_, 1) := by decide +kernel
set_option maxRecDepth 20000 in
theorem ggX2_copyFrom_X0_copyFrom : GoodIn wsX2_copyFrom wsX0_copyFrom := goodIn_r _ [8, 9, 10, 11, 12, 13, 14, 15, 16, 17, 18, 19, 20, 21, 25, 26, 27, 28, 29, 30, 31, 32, 33, 34, 35, 36, 37] (by decide +kernel) (by decide +kernel)
set_option maxRecDepth 20000 in
theorem gX2_copyFrom_X0_copyFrom : GoodIn wsX2_copyFrom (wsV RX2 36 RX0 yX0_copyFrom wsX0_copyFrom) := goodIn_app (goodIn_of _ (by decide +kernel)) ggX2_copyFrom_X0_copyFrom
theorem dX2_copyFrom_0 : decode cX2_copyFrom 0 = .ok (.aload_n 0, 1) := by decide +kernel
theorem dX2_copyFrom_1 : decode cX2_copyFrom 1 = .ok (.getfield 12, 3) := by decide +kernel
theorem dX2_copyFrom_4 : decode cX2_copyFrom 4 = .ok (.aload_n 1, 1) := by decide +kernel
theorem dX2_copyFrom_5 : decode cX2_copyFrom 5 = .ok (.getfield 12, 3) := by decide +kernel
theorem dX2_copyFrom_8 : decode cX2_copyFrom 8 = .ok (.invokevirtual 36, 3) := by decide +kernel
theorem dX2_copyFrom_11 : decode cX2_copyFrom 11 = .ok (.aload_n 0, 1) := by decide +kernel
theorem dX2_copyFrom_12 : decode cX2_copyFrom 12 = .ok (.getfield 18, 3) := by decide +kernel
theorem dX2_copyFrom_15 : decode cX2_copyFrom 15 = .ok (.aload_n 1, 1) := by decide +kernel
theorem dX2_copyFrom_16 : decode cX2_copyFrom 16 = .ok (.getfield 18, 3) := by decide +kernel
theorem dX2_copyFrom_19 : decode cX2_copyFrom 19 = .ok (.invokevirtual 36, 3) := by decide +kernel
theorem dX2_copyFrom_22 : decode cX2_copyFrom 22 = .ok (.aload_n 0, 1) := by decide +kernel
theorem dX2_copyFrom_23 : decode cX2_copyFrom 23 = .ok (.aload_n 1, 1) := by decide +kernel
theorem dX2_copyFrom_24 : decode cX2_copyFrom 24 = .ok (.getfield 21, 3) := by decide +kernel
theorem dX2_copyFrom_27 : decode cX2_copyFrom 27 = .ok (.putfield 21, 3) := by decide +kernel
theorem dX2_copyFrom_30 : decode cX2_copyFrom 30 = .ok (.return_, 1) := by decide +kernel
theorem dX2_side_0 : decode cX2_side 0 = .ok (.iload_n 1, 1) := by decide +kernel
theorem dX2_side_1 : decode cX2_side 1 = .ok (.ifCond .ne 10, 3) := by decide +kernel
theorem dX2_side_4 : decode cX2_side 4 = .ok (.aload_n 0, 1) := by decide +kernel
theorem dX2_side_5 : decode cX2_side 5 = .ok (.getfield 12, 3) := by decide +kernel
theorem dX2_side_8 : decode cX2_side 8 = .ok (.goto 7, 3) := by decide +kernel
theorem dX2_side_11 : decode cX2_side 11 = .ok (.aload_n 0, 1) := by decide +kernel
theorem dX2_side_12 : decode cX2_side 12 = .ok (.getfield 18, 3) := by decide +kernel
theorem dX2_side_15 : decode cX2_side 15 = .ok (.areturn, 1) := by decide +kernel
theorem dX2_freeBetween_0 : decode cX2_freeBetween 0 = .ok (.aload_n 0, 1) := by decide +kernel
theorem dX2_freeBetween_1 : decode cX2_freeBetween 1 = .ok (.getfield 18, 3) := by decide +kernel
theorem dX2_freeBetween_4 : decode cX2_freeBetween 4 = .ok (.getfield 40, 3) := by decide +kernel
theorem dX2_freeBetween_7 : decode cX2_freeBetween 7 = .ok (.aload_n 0, 1) := by decide +kernel
theorem dX2_freeBetween_8 : decode cX2_freeBetween 8 = .ok (.getfield 12, 3) := by decide +kernel
theorem dX2_freeBetween_11 : decode cX2_freeBetween 11 = .ok (.getfield 40, 3) := by decide +kernel
theorem dX2_freeBetween_14 : decode cX2_freeBetween 14 = .ok (.isub, 1) := by decide +kernel
theorem dX2_freeBetween_15 : decode cX2_freeBetween 15 = .ok (.aload_n 1, 1) := by decide +kernel
theorem dX2_freeBetween_16 : decode cX2_freeBetween 16 = .ok (.getfield 43, 3) := by decide +kernel
theorem dX2_freeBetween_19 : decode cX2_freeBetween 19 = .ok (.isub, 1) := by decide +kernel
theorem dX2_freeBetween_20 : decode cX2_freeBetween 20 = .ok (.ireturn, 1) := by decide +kernel
theorem dX2_isCoupled_0 : decode cX2_isCoupled 0 = .ok (.aload_n 0, 1) := by decide +kernel
theorem dX2_isCoupled_1 : decode cX2_isCoupled 1 = .ok (.getfield 21, 3) := by decide +kernel
theorem dX2_isCoupled_4 : decode cX2_isCoupled 4 = .ok (.ifCond .lt 7, 3) := by decide +kernel
theorem dX2_isCoupled_7 : decode cX2_isCoupled 7 = .ok (.iconst 1, 1) := by decide +kernel
theorem dX2_isCoupled_8 : decode cX2_isCoupled 8 = .ok (.goto 4, 3) := by decide +kernel
theorem dX2_isCoupled_11 : decode cX2_isCoupled 11 = .ok (.iconst 0, 1) := by decide +kernel
theorem dX2_isCoupled_12 : decode cX2_isCoupled 12 = .ok (.ireturn, 1) := by decide +kernel
set_option maxRecDepth 20000 in
theorem ggX2_leftHeeds_X2_isCoupled : GoodIn wsX2_leftHeeds wsX2_isCoupled := goodIn_r _ [5, 6, 7, 8, 9] (by decide +kernel) (by decide +kernel)
set_option maxRecDepth 20000 in
theorem gX2_leftHeeds_X2_isCoupled : GoodIn wsX2_leftHeeds (wsV RX2 46 RX2 yX2_isCoupled wsX2_isCoupled) := goodIn_app (goodIn_of _ (by decide +kernel)) ggX2_leftHeeds_X2_isCoupled
theorem dX2_leftHeeds_0 : decode cX2_leftHeeds 0 = .ok (.iload_n 1, 1) := by decide +kernel
theorem dX2_leftHeeds_1 : decode cX2_leftHeeds 1 = .ok (.ifCond .eq 10, 3) := by decide +kernel
theorem dX2_leftHeeds_4 : decode cX2_leftHeeds 4 = .ok (.aload_n 0, 1) := by decide +kernel
theorem dX2_leftHeeds_5 : decode cX2_leftHeeds 5 = .ok (.invokevirtual 46, 3) := by decide +kernel
theorem dX2_leftHeeds_8 : decode cX2_leftHeeds 8 = .ok (.ifCond .eq 7, 3) := by decide +kernel
theorem dX2_leftHeeds_11 : decode cX2_leftHeeds 11 = .ok (.iconst 1, 1) := by decide +kernel
theorem dX2_leftHeeds_12 : decode cX2_leftHeeds 12 = .ok (.goto 4, 3) := by decide +kernel
theorem dX2_leftHeeds_15 : decode cX2_leftHeeds 15 = .ok (.iconst 0, 1) := by decide +kernel
theorem dX2_leftHeeds_16 : decode cX2_leftHeeds 16 = .ok (.ireturn, 1) := by decide +kernel
set_option maxRecDepth 20000 in
theorem ggX2_rightHeeds_X2_isCoupled : GoodIn wsX2_rightHeeds wsX2_isCoupled := goodIn_r _ [5, 6, 7, 8, 9] (by decide +kernel) (by decide +kernel)
set_option maxRecDepth 20000 in
theorem gX2_rightHeeds_X2_isCoupled : GoodIn wsX2_rightHeeds (wsV RX2 46 RX2 yX2_isCoupled wsX2_isCoupled) := goodIn_app (goodIn_of _ (by decide +kernel)) ggX2_rightHeeds_X2_isCoupled
theorem dX2_rightHeeds_0 : decode cX2_rightHeeds 0 = .ok (.iload_n 1, 1) := by decide +kernel
theorem dX2_rightHeeds_1 : decode cX2_rightHeeds 1 = .ok (.iconst 1, 1) := by decide +kernel
theorem dX2_rightHeeds_2 : decode cX2_rightHeeds 2 = .ok (.if_icmp .eq 10, 3) := by decide +kernel
theorem dX2_rightHeeds_5 : decode cX2_rightHeeds 5 = .ok (.aload_n 0, 1) := by decide +kernel
theorem dX2_rightHeeds_6 : decode cX2_rightHeeds 6 = .ok (.invokevirtual 46, 3) := by decide +kernel
theorem dX2_rightHeeds_9 : decode cX2_rightHeeds 9 = .ok (.ifCond .eq 7, 3) := by decide +kernel
theorem dX2_rightHeeds_12 : decode cX2_rightHeeds 12 = .ok (.iconst 1, 1) := by decide +kernel
theorem dX2_rightHeeds_13 : decode cX2_rightHeeds 13 = .ok (.goto 4, 3) := by decide +kernel
theorem dX2_rightHeeds_16 : decode cX2_rightHeeds 16 = .ok (.iconst 0, 1) := by decide +kernel
theorem dX2_rightHeeds_17 : decode cX2_rightHeeds 17 = .ok (.ireturn, 1) := by decide +kernel
set_option maxRecDepth 20000 in
theorem ggX2_heeding_X2_isCoupled : GoodIn wsX2_heeding wsX2_isCoupled := goodIn_r _ [5, 6, 7, 8, 9] (by decide +kernel) (by decide +kernel)
set_option maxRecDepth 20000 in
theorem gX2_heeding_X2_isCoupled : GoodIn wsX2_heeding (wsV RX2 46 RX2 yX2_isCoupled wsX2_isCoupled) := goodIn_app (goodIn_of _ (by decide +kernel)) ggX2_heeding_X2_isCoupled
theorem dX2_heeding_0 : decode cX2_heeding 0 = .ok (.aload_n 0, 1) := by decide +kernel
theorem dX2_heeding_1 : decode cX2_heeding 1 = .ok (.invokevirtual 46, 3) := by decide +kernel
theorem dX2_heeding_4 : decode cX2_heeding 4 = .ok (.ifCond .eq 7, 3) := by decide +kernel
theorem dX2_heeding_7 : decode cX2_heeding 7 = .ok (.iconst 2, 1) := by decide +kernel
theorem dX2_heeding_8 : decode cX2_heeding 8 = .ok (.goto 4, 3) := by decide +kernel
theorem dX2_heeding_11 : decode cX2_heeding 11 = .ok (.iconst 1, 1) := by decide +kernel
theorem dX2_heeding_12 : decode cX2_heeding 12 = .ok (.ireturn, 1) := by decide +kernel
set_option maxRecDepth 20000 in
theorem ggX2_tellAtOnce_X2_leftHeeds : GoodIn wsX2_tellAtOnce wsX2_leftHeeds := goodIn_r _ [7, 8, 9, 10, 6, 11, 12, 35, 36, 37] (by decide +kernel) (by decide +kernel)
set_option maxRecDepth 20000 in
theorem gX2_tellAtOnce_X2_leftHeeds : GoodIn wsX2_tellAtOnce (wsV RX2 50 RX2 yX2_leftHeeds wsX2_leftHeeds) := goodIn_app (goodIn_of _ (by decide +kernel)) ggX2_tellAtOnce_X2_leftHeeds
set_option maxRecDepth 20000 in
theorem ggX2_tellAtOnce_X0_planAtOnce : GoodIn wsX2_tellAtOnce wsX0_planAtOnce := goodIn_r _ [17, 18, 19, 20, 21, 16, 22, 23, 24, 25, 26, 38, 39, 40, 41, 42, 43, 44, 45, 46, 47, 48, 49, 50] (by decide +kernel) (by decide +kernel)
set_option maxRecDepth 20000 in
theorem gX2_tellAtOnce_X0_planAtOnce : GoodIn wsX2_tellAtOnce (wsV RX2 54 RX0 yX0_planAtOnce wsX0_planAtOnce) := goodIn_app (goodIn_of _ (by decide +kernel)) ggX2_tellAtOnce_X0_planAtOnce
set_option maxRecDepth 20000 in
theorem ggX2_tellAtOnce_X2_rightHeeds : GoodIn wsX2_tellAtOnce wsX2_rightHeeds := goodIn_r _ [30, 8, 9, 10, 6, 11, 12, 35, 36, 37] (by decide +kernel) (by decide +kernel)
set_option maxRecDepth 20000 in
theorem gX2_tellAtOnce_X2_rightHeeds : GoodIn wsX2_tellAtOnce (wsV RX2 58 RX2 yX2_rightHeeds wsX2_rightHeeds) := goodIn_app (goodIn_of _ (by decide +kernel)) ggX2_tellAtOnce_X2_rightHeeds
set_option maxRecDepth 20000 in
theorem ggX2_tellAtOnce_X2_heeding : GoodIn wsX2_tellAtOnce wsX2_heeding := goodIn_r _ [34, 8, 9, 10, 6, 11, 12, 35, 36, 37] (by decide +kernel) (by decide +kernel)
set_option maxRecDepth 20000 in
theorem gX2_tellAtOnce_X2_heeding : GoodIn wsX2_tellAtOnce (wsV RX2 61 RX2 yX2_heeding wsX2_heeding) := goodIn_app (goodIn_of _ (by decide +kernel)) ggX2_tellAtOnce_X2_heeding
theorem dX2_tellAtOnce_0 : decode cX2_tellAtOnce 0 = .ok (.aload_n 0, 1) := by decide +kernel
theorem dX2_tellAtOnce_1 : decode cX2_tellAtOnce 1 = .ok (.iload_n 1, 1) := by decide +kernel
theorem dX2_tellAtOnce_2 : decode cX2_tellAtOnce 2 = .ok (.invokevirtual 50, 3) := by decide +kernel
theorem dX2_tellAtOnce_5 : decode cX2_tellAtOnce 5 = .ok (.ifCond .eq 11, 3) := by decide +kernel
theorem dX2_tellAtOnce_8 : decode cX2_tellAtOnce 8 = .ok (.aload_n 0, 1) := by decide +kernel
theorem dX2_tellAtOnce_9 : decode cX2_tellAtOnce 9 = .ok (.getfield 12, 3) := by decide +kernel
theorem dX2_tellAtOnce_12 : decode cX2_tellAtOnce 12 = .ok (.iload_n 2, 1) := by decide +kernel
theorem dX2_tellAtOnce_13 : decode cX2_tellAtOnce 13 = .ok (.invokevirtual 54, 3) := by decide +kernel
theorem dX2_tellAtOnce_16 : decode cX2_tellAtOnce 16 = .ok (.aload_n 0, 1) := by decide +kernel
theorem dX2_tellAtOnce_17 : decode cX2_tellAtOnce 17 = .ok (.iload_n 1, 1) := by decide +kernel
theorem dX2_tellAtOnce_18 : decode cX2_tellAtOnce 18 = .ok (.invokevirtual 58, 3) := by decide +kernel
theorem dX2_tellAtOnce_21 : decode cX2_tellAtOnce 21 = .ok (.ifCond .eq 11, 3) := by decide +kernel
theorem dX2_tellAtOnce_24 : decode cX2_tellAtOnce 24 = .ok (.aload_n 0, 1) := by decide +kernel
theorem dX2_tellAtOnce_25 : decode cX2_tellAtOnce 25 = .ok (.getfield 18, 3) := by decide +kernel
theorem dX2_tellAtOnce_28 : decode cX2_tellAtOnce 28 = .ok (.iload_n 2, 1) := by decide +kernel
theorem dX2_tellAtOnce_29 : decode cX2_tellAtOnce 29 = .ok (.invokevirtual 54, 3) := by decide +kernel
theorem dX2_tellAtOnce_32 : decode cX2_tellAtOnce 32 = .ok (.aload_n 0, 1) := by decide +kernel
theorem dX2_tellAtOnce_33 : decode cX2_tellAtOnce 33 = .ok (.invokevirtual 61, 3) := by decide +kernel
theorem dX2_tellAtOnce_36 : decode cX2_tellAtOnce 36 = .ok (.ireturn, 1) := by decide +kernel
set_option maxRecDepth 20000 in
theorem ggX2_tellByHalves_X2_leftHeeds : GoodIn wsX2_tellByHalves wsX2_leftHeeds := goodIn_r _ [7, 8, 9, 10, 6, 11, 12, 39, 40, 41] (by decide +kernel) (by decide +kernel)
set_option maxRecDepth 20000 in
theorem gX2_tellByHalves_X2_leftHeeds : GoodIn wsX2_tellByHalves (wsV RX2 50 RX2 yX2_leftHeeds wsX2_leftHeeds) := goodIn_app (goodIn_of _ (by decide +kernel)) ggX2_tellByHalves_X2_leftHeeds
set_option maxRecDepth 20000 in
theorem ggX2_tellByHalves_X0_planByHalves : GoodIn wsX2_tellByHalves wsX0_planByHalves := goodIn_r _ [17, 18, 19, 20, 21, 22, 23, 24, 25, 16, 26, 27, 28, 29, 30, 42, 43, 44, 45, 46, 47, 48, 49, 50, 51, 52, 53, 54] (by decide +kernel) (by decide +kernel)
set_option maxRecDepth 20000 in
theorem gX2_tellByHalves_X0_planByHalves : GoodIn wsX2_tellByHalves (wsV RX2 65 RX0 yX0_planByHalves wsX0_planByHalves) := goodIn_app (goodIn_of _ (by decide +kernel)) ggX2_tellByHalves_X0_planByHalves
set_option maxRecDepth 20000 in
theorem ggX2_tellByHalves_X2_rightHeeds : GoodIn wsX2_tellByHalves wsX2_rightHeeds := goodIn_r _ [34, 8, 9, 10, 6, 11, 12, 39, 40, 41] (by decide +kernel) (by decide +kernel)
set_option maxRecDepth 20000 in
theorem gX2_tellByHalves_X2_rightHeeds : GoodIn wsX2_tellByHalves (wsV RX2 58 RX2 yX2_rightHeeds wsX2_rightHeeds) := goodIn_app (goodIn_of _ (by decide +kernel)) ggX2_tellByHalves_X2_rightHeeds
set_option maxRecDepth 20000 in
theorem ggX2_tellByHalves_X2_heeding : GoodIn wsX2_tellByHalves wsX2_heeding := goodIn_r _ [38, 8, 9, 10, 6, 11, 12, 39, 40, 41] (by decide +kernel) (by decide +kernel)
set_option maxRecDepth 20000 in
theorem gX2_tellByHalves_X2_heeding : GoodIn wsX2_tellByHalves (wsV RX2 61 RX2 yX2_heeding wsX2_heeding) := goodIn_app (goodIn_of _ (by decide +kernel)) ggX2_tellByHalves_X2_heeding
theorem dX2_tellByHalves_0 : decode cX2_tellByHalves 0 = .ok (.aload_n 0, 1) := by decide +kernel
theorem dX2_tellByHalves_1 : decode cX2_tellByHalves 1 = .ok (.iload_n 1, 1) := by decide +kernel
theorem dX2_tellByHalves_2 : decode cX2_tellByHalves 2 = .ok (.invokevirtual 50, 3) := by decide +kernel
theorem dX2_tellByHalves_5 : decode cX2_tellByHalves 5 = .ok (.ifCond .eq 12, 3) := by decide +kernel
theorem dX2_tellByHalves_8 : decode cX2_tellByHalves 8 = .ok (.aload_n 0, 1) := by decide +kernel
theorem dX2_tellByHalves_9 : decode cX2_tellByHalves 9 = .ok (.getfield 12, 3) := by decide +kernel
theorem dX2_tellByHalves_12 : decode cX2_tellByHalves 12 = .ok (.iload_n 2, 1) := by decide +kernel
theorem dX2_tellByHalves_13 : decode cX2_tellByHalves 13 = .ok (.iload_n 3, 1) := by decide +kernel
theorem dX2_tellByHalves_14 : decode cX2_tellByHalves 14 = .ok (.invokevirtual 65, 3) := by decide +kernel
theorem dX2_tellByHalves_17 : decode cX2_tellByHalves 17 = .ok (.aload_n 0, 1) := by decide +kernel
theorem dX2_tellByHalves_18 : decode cX2_tellByHalves 18 = .ok (.iload_n 1, 1) := by decide +kernel
theorem dX2_tellByHalves_19 : decode cX2_tellByHalves 19 = .ok (.invokevirtual 58, 3) := by decide +kernel
theorem dX2_tellByHalves_22 : decode cX2_tellByHalves 22 = .ok (.ifCond .eq 12, 3) := by decide +kernel
theorem dX2_tellByHalves_25 : decode cX2_tellByHalves 25 = .ok (.aload_n 0, 1) := by decide +kernel
theorem dX2_tellByHalves_26 : decode cX2_tellByHalves 26 = .ok (.getfield 18, 3) := by decide +kernel
theorem dX2_tellByHalves_29 : decode cX2_tellByHalves 29 = .ok (.iload_n 2, 1) := by decide +kernel
theorem dX2_tellByHalves_30 : decode cX2_tellByHalves 30 = .ok (.iload_n 3, 1) := by decide +kernel
theorem dX2_tellByHalves_31 : decode cX2_tellByHalves 31 = .ok (.invokevirtual 65, 3) := by decide +kernel
theorem dX2_tellByHalves_34 : decode cX2_tellByHalves 34 = .ok (.aload_n 0, 1) := by decide +kernel
theorem dX2_tellByHalves_35 : decode cX2_tellByHalves 35 = .ok (.invokevirtual 61, 3) := by decide +kernel
theorem dX2_tellByHalves_38 : decode cX2_tellByHalves 38 = .ok (.ireturn, 1) := by decide +kernel
set_option maxRecDepth 20000 in
theorem ggX2_aimsAt_X2_leftHeeds : GoodIn wsX2_aimsAt wsX2_leftHeeds := goodIn_r _ [8, 9, 10, 11, 7, 12, 13, 18, 19, 20] (by decide +kernel) (by decide +kernel)
set_option maxRecDepth 20000 in
theorem gX2_aimsAt_X2_leftHeeds : GoodIn wsX2_aimsAt (wsV RX2 50 RX2 yX2_leftHeeds wsX2_leftHeeds) := goodIn_app (goodIn_of _ (by decide +kernel)) ggX2_aimsAt_X2_leftHeeds
set_option maxRecDepth 20000 in
theorem ggX2_aimsAt_X2_rightHeeds : GoodIn wsX2_aimsAt wsX2_rightHeeds := goodIn_r _ [17, 9, 10, 11, 7, 12, 13, 18, 19, 20] (by decide +kernel) (by decide +kernel)
set_option maxRecDepth 20000 in
theorem gX2_aimsAt_X2_rightHeeds : GoodIn wsX2_aimsAt (wsV RX2 58 RX2 yX2_rightHeeds wsX2_rightHeeds) := goodIn_app (goodIn_of _ (by decide +kernel)) ggX2_aimsAt_X2_rightHeeds
theorem dX2_aimsAt_0 : decode cX2_aimsAt 0 = .ok (.aload_n 0, 1) := by decide +kernel
theorem dX2_aimsAt_1 : decode cX2_aimsAt 1 = .ok (.iload_n 1, 1) := by decide +kernel
theorem dX2_aimsAt_2 : decode cX2_aimsAt 2 = .ok (.invokevirtual 50, 3) := by decide +kernel
theorem dX2_aimsAt_5 : decode cX2_aimsAt 5 = .ok (.ifCond .eq 14, 3) := by decide +kernel
theorem dX2_aimsAt_8 : decode cX2_aimsAt 8 = .ok (.aload_n 0, 1) := by decide +kernel
theorem dX2_aimsAt_9 : decode cX2_aimsAt 9 = .ok (.getfield 12, 3) := by decide +kernel
theorem dX2_aimsAt_12 : decode cX2_aimsAt 12 = .ok (.getfield 69, 3) := by decide +kernel
theorem dX2_aimsAt_15 : decode cX2_aimsAt 15 = .ok (.iload_n 2, 1) := by decide +kernel
theorem dX2_aimsAt_16 : decode cX2_aimsAt 16 = .ok (.if_icmp .ne 26, 3) := by decide +kernel
theorem dX2_aimsAt_19 : decode cX2_aimsAt 19 = .ok (.aload_n 0, 1) := by decide +kernel
theorem dX2_aimsAt_20 : decode cX2_aimsAt 20 = .ok (.iload_n 1, 1) := by decide +kernel
theorem dX2_aimsAt_21 : decode cX2_aimsAt 21 = .ok (.invokevirtual 58, 3) := by decide +kernel
theorem dX2_aimsAt_24 : decode cX2_aimsAt 24 = .ok (.ifCond .eq 14, 3) := by decide +kernel
theorem dX2_aimsAt_27 : decode cX2_aimsAt 27 = .ok (.aload_n 0, 1) := by decide +kernel
theorem dX2_aimsAt_28 : decode cX2_aimsAt 28 = .ok (.getfield 18, 3) := by decide +kernel
theorem dX2_aimsAt_31 : decode cX2_aimsAt 31 = .ok (.getfield 69, 3) := by decide +kernel
theorem dX2_aimsAt_34 : decode cX2_aimsAt 34 = .ok (.iload_n 2, 1) := by decide +kernel
theorem dX2_aimsAt_35 : decode cX2_aimsAt 35 = .ok (.if_icmp .ne 7, 3) := by decide +kernel
theorem dX2_aimsAt_38 : decode cX2_aimsAt 38 = .ok (.iconst 1, 1) := by decide +kernel
theorem dX2_aimsAt_39 : decode cX2_aimsAt 39 = .ok (.goto 4, 3) := by decide +kernel
theorem dX2_aimsAt_42 : decode cX2_aimsAt 42 = .ok (.iconst 0, 1) := by decide +kernel
theorem dX2_aimsAt_43 : decode cX2_aimsAt 43 = .ok (.ireturn, 1) := by decide +kernel
set_option maxRecDepth 20000 in
theorem ggX2_aim_X2_leftHeeds : GoodIn wsX2_aim wsX2_leftHeeds := goodIn_r _ [8, 9, 10, 11, 7, 12, 13, 18, 19, 20] (by decide +kernel) (by decide +kernel)
set_option maxRecDepth 20000 in
theorem gX2_aim_X2_leftHeeds : GoodIn wsX2_aim (wsV RX2 50 RX2 yX2_leftHeeds wsX2_leftHeeds) := goodIn_app (goodIn_of _ (by decide +kernel)) ggX2_aim_X2_leftHeeds
set_option maxRecDepth 20000 in
theorem ggX2_aim_X2_rightHeeds : GoodIn wsX2_aim wsX2_rightHeeds := goodIn_r _ [17, 9, 10, 11, 7, 12, 13, 18, 19, 20] (by decide +kernel) (by decide +kernel)
set_option maxRecDepth 20000 in
theorem gX2_aim_X2_rightHeeds : GoodIn wsX2_aim (wsV RX2 58 RX2 yX2_rightHeeds wsX2_rightHeeds) := goodIn_app (goodIn_of _ (by decide +kernel)) ggX2_aim_X2_rightHeeds
theorem dX2_aim_0 : decode cX2_aim 0 = .ok (.aload_n 0, 1) := by decide +kernel
theorem dX2_aim_1 : decode cX2_aim 1 = .ok (.iload_n 1, 1) := by decide +kernel
theorem dX2_aim_2 : decode cX2_aim 2 = .ok (.invokevirtual 50, 3) := by decide +kernel
theorem dX2_aim_5 : decode cX2_aim 5 = .ok (.ifCond .eq 11, 3) := by decide +kernel
theorem dX2_aim_8 : decode cX2_aim 8 = .ok (.aload_n 0, 1) := by decide +kernel
theorem dX2_aim_9 : decode cX2_aim 9 = .ok (.getfield 12, 3) := by decide +kernel
theorem dX2_aim_12 : decode cX2_aim 12 = .ok (.iload_n 2, 1) := by decide +kernel
theorem dX2_aim_13 : decode cX2_aim 13 = .ok (.putfield 69, 3) := by decide +kernel
theorem dX2_aim_16 : decode cX2_aim 16 = .ok (.aload_n 0, 1) := by decide +kernel
theorem dX2_aim_17 : decode cX2_aim 17 = .ok (.iload_n 1, 1) := by decide +kernel
theorem dX2_aim_18 : decode cX2_aim 18 = .ok (.invokevirtual 58, 3) := by decide +kernel
theorem dX2_aim_21 : decode cX2_aim 21 = .ok (.ifCond .eq 11, 3) := by decide +kernel
theorem dX2_aim_24 : decode cX2_aim 24 = .ok (.aload_n 0, 1) := by decide +kernel
theorem dX2_aim_25 : decode cX2_aim 25 = .ok (.getfield 18, 3) := by decide +kernel
theorem dX2_aim_28 : decode cX2_aim 28 = .ok (.iload_n 2, 1) := by decide +kernel
theorem dX2_aim_29 : decode cX2_aim 29 = .ok (.putfield 69, 3) := by decide +kernel
theorem dX2_aim_32 : decode cX2_aim 32 = .ok (.return_, 1) := by decide +kernel
set_option maxRecDepth 20000 in
theorem ggX2_goOn_X2_freeBetween : GoodIn wsX2_goOn wsX2_freeBetween := goodIn_r _ [13, 3, 2, 1, 14, 76, 77, 78, 79, 80, 81, 82, 83, 84, 85, 86, 87, 88, 89, 90, 91, 92, 93, 94, 95, 96, 97, 98] (by decide +kernel) (by decide +kernel)
set_option maxRecDepth 20000 in
theorem gX2_goOn_X2_freeBetween : GoodIn wsX2_goOn (wsV RX2 72 RX2 yX2_freeBetween wsX2_freeBetween) := goodIn_app (goodIn_of _ (by decide +kernel)) ggX2_goOn_X2_freeBetween
set_option maxRecDepth 20000 in
theorem ggX2_goOn_X0_roll : GoodIn wsX2_goOn wsX0_roll := goodIn_r _ [19, 20, 21, 22, 23, 24, 25, 26, 18, 27, 28, 29, 30, 31, 32, 33, 34, 35, 36, 37, 38, 39, 40, 41, 42, 43, 44, 45, 46, 47, 48, 49, 50, 51, 52, 53, 54, 55, 56, 57, 58, 59, 60, 61, 62, 63, 64, 65, 66, 67, 68, 69, 70, 92, 93, 94, 95, 96, 97, 98, 79, 80, 81, 82, 83, 84, 85, 86, 87, 88, 89, 90, 91] (by decide +kernel) (by decide +kernel)
set_option maxRecDepth 20000 in
theorem gX2_goOn_X0_roll : GoodIn wsX2_goOn (wsV RX2 76 RX0 yX0_roll wsX0_roll) := goodIn_app (goodIn_of _ (by decide +kernel)) ggX2_goOn_X0_roll
set_option maxRecDepth 20000 in
theorem ggX2_goOn_X0_hoistRope : GoodIn wsX2_goOn wsX0_hoistRope := goodIn_r _ [74, 75, 68, 22, 63, 57, 45, 58, 79, 80, 81, 82, 83, 84, 85, 86, 87, 88, 89, 90, 91] (by decide +kernel) (by decide +kernel)
set_option maxRecDepth 20000 in
theorem gX2_goOn_X0_hoistRope : GoodIn wsX2_goOn (wsV RX2 89 RX0 yX0_hoistRope wsX0_hoistRope) := goodIn_app (goodIn_of _ (by decide +kernel)) ggX2_goOn_X0_hoistRope
theorem dX2_goOn_0 : decode cX2_goOn 0 = .ok (.aload_n 0, 1) := by decide +kernel
theorem dX2_goOn_1 : decode cX2_goOn 1 = .ok (.aload_n 1, 1) := by decide +kernel
theorem dX2_goOn_2 : decode cX2_goOn 2 = .ok (.invokevirtual 72, 3) := by decide +kernel
theorem dX2_goOn_5 : decode cX2_goOn 5 = .ok (.iconst 2, 1) := by decide +kernel
theorem dX2_goOn_6 : decode cX2_goOn 6 = .ok (.idiv, 1) := by decide +kernel
theorem dX2_goOn_7 : decode cX2_goOn 7 = .ok (.istore_n 2, 1) := by decide +kernel
theorem dX2_goOn_8 : decode cX2_goOn 8 = .ok (.aload_n 0, 1) := by decide +kernel
theorem dX2_goOn_9 : decode cX2_goOn 9 = .ok (.getfield 12, 3) := by decide +kernel
theorem dX2_goOn_12 : decode cX2_goOn 12 = .ok (.aload_n 1, 1) := by decide +kernel
theorem dX2_goOn_13 : decode cX2_goOn 13 = .ok (.aload_n 0, 1) := by decide +kernel
theorem dX2_goOn_14 : decode cX2_goOn 14 = .ok (.getfield 12, 3) := by decide +kernel
theorem dX2_goOn_17 : decode cX2_goOn 17 = .ok (.getfield 40, 3) := by decide +kernel
theorem dX2_goOn_20 : decode cX2_goOn 20 = .ok (.iload_n 2, 1) := by decide +kernel
theorem dX2_goOn_21 : decode cX2_goOn 21 = .ok (.invokevirtual 76, 3) := by decide +kernel
theorem dX2_goOn_24 : decode cX2_goOn 24 = .ok (.aload_n 0, 1) := by decide +kernel
theorem dX2_goOn_25 : decode cX2_goOn 25 = .ok (.getfield 18, 3) := by decide +kernel
theorem dX2_goOn_28 : decode cX2_goOn 28 = .ok (.aload_n 1, 1) := by decide +kernel
theorem dX2_goOn_29 : decode cX2_goOn 29 = .ok (.iload_n 2, 1) := by decide +kernel
theorem dX2_goOn_30 : decode cX2_goOn 30 = .ok (.aload_n 1, 1) := by decide +kernel
theorem dX2_goOn_31 : decode cX2_goOn 31 = .ok (.getfield 80, 3) := by decide +kernel
theorem dX2_goOn_34 : decode cX2_goOn 34 = .ok (.aload_n 0, 1) := by decide +kernel
theorem dX2_goOn_35 : decode cX2_goOn 35 = .ok (.getfield 18, 3) := by decide +kernel
theorem dX2_goOn_38 : decode cX2_goOn 38 = .ok (.getfield 40, 3) := by decide +kernel
theorem dX2_goOn_41 : decode cX2_goOn 41 = .ok (.isub, 1) := by decide +kernel
theorem dX2_goOn_42 : decode cX2_goOn 42 = .ok (.invokevirtual 76, 3) := by decide +kernel
theorem dX2_goOn_45 : decode cX2_goOn 45 = .ok (.aload_n 0, 1) := by decide +kernel
theorem dX2_goOn_46 : decode cX2_goOn 46 = .ok (.getfield 12, 3) := by decide +kernel
theorem dX2_goOn_49 : decode cX2_goOn 49 = .ok (.aload_n 1, 1) := by decide +kernel
theorem dX2_goOn_50 : decode cX2_goOn 50 = .ok (.getfield 83, 3) := by decide +kernel
theorem dX2_goOn_53 : decode cX2_goOn 53 = .ok (.aload_n 0, 1) := by decide +kernel
theorem dX2_goOn_54 : decode cX2_goOn 54 = .ok (.getfield 18, 3) := by decide +kernel
theorem dX2_goOn_57 : decode cX2_goOn 57 = .ok (.getfield 86, 3) := by decide +kernel
theorem dX2_goOn_60 : decode cX2_goOn 60 = .ok (.aload_n 0, 1) := by decide +kernel
theorem dX2_goOn_61 : decode cX2_goOn 61 = .ok (.getfield 21, 3) := by decide +kernel
theorem dX2_goOn_64 : decode cX2_goOn 64 = .ok (.invokevirtual 89, 3) := by decide +kernel
theorem dX2_goOn_67 : decode cX2_goOn 67 = .ok (.aload_n 0, 1) := by decide +kernel
theorem dX2_goOn_68 : decode cX2_goOn 68 = .ok (.getfield 18, 3) := by decide +kernel
theorem dX2_goOn_71 : decode cX2_goOn 71 = .ok (.aload_n 1, 1) := by decide +kernel
theorem dX2_goOn_72 : decode cX2_goOn 72 = .ok (.getfield 83, 3) := by decide +kernel
theorem dX2_goOn_75 : decode cX2_goOn 75 = .ok (.aload_n 0, 1) := by decide +kernel
theorem dX2_goOn_76 : decode cX2_goOn 76 = .ok (.getfield 12, 3) := by decide +kernel
theorem dX2_goOn_79 : decode cX2_goOn 79 = .ok (.getfield 86, 3) := by decide +kernel
theorem dX2_goOn_82 : decode cX2_goOn 82 = .ok (.aload_n 0, 1) := by decide +kernel
theorem dX2_goOn_83 : decode cX2_goOn 83 = .ok (.getfield 21, 3) := by decide +kernel
theorem dX2_goOn_86 : decode cX2_goOn 86 = .ok (.invokevirtual 89, 3) := by decide +kernel
theorem dX2_goOn_89 : decode cX2_goOn 89 = .ok (.aload_n 0, 1) := by decide +kernel
theorem dX2_goOn_90 : decode cX2_goOn 90 = .ok (.getfield 12, 3) := by decide +kernel
theorem dX2_goOn_93 : decode cX2_goOn 93 = .ok (.getfield 93, 3) := by decide +kernel
theorem dX2_goOn_96 : decode cX2_goOn 96 = .ok (.ifCond .eq 7, 3) := by decide +kernel
theorem dX2_goOn_99 : decode cX2_goOn 99 = .ok (.iconst 1, 1) := by decide +kernel
theorem dX2_goOn_100 : decode cX2_goOn 100 = .ok (.goto 4, 3) := by decide +kernel
theorem dX2_goOn_103 : decode cX2_goOn 103 = .ok (.iconst 0, 1) := by decide +kernel
theorem dX2_goOn_104 : decode cX2_goOn 104 = .ok (.aload_n 0, 1) := by decide +kernel
theorem dX2_goOn_105 : decode cX2_goOn 105 = .ok (.getfield 18, 3) := by decide +kernel
theorem dX2_goOn_108 : decode cX2_goOn 108 = .ok (.getfield 93, 3) := by decide +kernel
theorem dX2_goOn_111 : decode cX2_goOn 111 = .ok (.ifCond .eq 7, 3) := by decide +kernel
theorem dX2_goOn_114 : decode cX2_goOn 114 = .ok (.iconst 1, 1) := by decide +kernel
theorem dX2_goOn_115 : decode cX2_goOn 115 = .ok (.goto 4, 3) := by decide +kernel
theorem dX2_goOn_118 : decode cX2_goOn 118 = .ok (.iconst 0, 1) := by decide +kernel
theorem dX2_goOn_119 : decode cX2_goOn 119 = .ok (.iadd, 1) := by decide +kernel
theorem dX2_goOn_120 : decode cX2_goOn 120 = .ok (.ireturn, 1) := by decide +kernel
theorem dX3_init_0 : decode cX3_init 0 = .ok (.aload_n 0, 1) := by decide +kernel
theorem dX3_init_1 : decode cX3_init 1 = .ok (.invokespecial 3, 3) := by decide +kernel
theorem dX3_init_4 : decode cX3_init 4 = .ok (.aload_n 0, 1) := by decide +kernel
theorem dX3_init_5 : decode cX3_init 5 = .ok (.bipush 120, 2) := by decide +kernel
theorem dX3_init_7 : decode cX3_init 7 = .ok (.newarray .int, 2) := by decide +kernel
theorem dX3_init_9 : decode cX3_init 9 = .ok (.putfield 11, 3) := by decide +kernel
theorem dX3_init_12 : decode cX3_init 12 = .ok (.aload_n 0, 1) := by decide +kernel
theorem dX3_init_13 : decode cX3_init 13 = .ok (.bipush 120, 2) := by decide +kernel
theorem dX3_init_15 : decode cX3_init 15 = .ok (.newarray .int, 2) := by decide +kernel
theorem dX3_init_17 : decode cX3_init 17 = .ok (.putfield 15, 3) := by decide +kernel
theorem dX3_init_20 : decode cX3_init 20 = .ok (.return_, 1) := by decide +kernel
set_option maxRecDepth 20000 in
theorem ggX3_copyFrom_X3_nameAt : GoodIn wsX3_copyFrom wsX3_nameAt := goodIn_r _ [6, 7, 17, 18, 19] (by decide +kernel) (by decide +kernel)
set_option maxRecDepth 20000 in
theorem gX3_copyFrom_X3_nameAt : GoodIn wsX3_copyFrom (wsV RX3 22 RX3 yX3_nameAt wsX3_nameAt) := goodIn_app (goodIn_of _ (by decide +kernel)) ggX3_copyFrom_X3_nameAt
set_option maxRecDepth 20000 in
theorem ggX3_copyFrom_X3_ticksAt : GoodIn wsX3_copyFrom wsX3_ticksAt := goodIn_r _ [11, 1, 12, 17, 18, 19] (by decide +kernel) (by decide +kernel)
set_option maxRecDepth 20000 in
theorem gX3_copyFrom_X3_ticksAt : GoodIn wsX3_copyFrom (wsV RX3 26 RX3 yX3_ticksAt wsX3_ticksAt) := goodIn_app (goodIn_of _ (by decide +kernel)) ggX3_copyFrom_X3_ticksAt
set_option maxRecDepth 20000 in
theorem ggX3_copyFrom_X3_put : GoodIn wsX3_copyFrom wsX3_put := goodIn_r _ [16, 7, 12, 17, 18, 19] (by decide +kernel) (by decide +kernel)
set_option maxRecDepth 20000 in
theorem gX3_copyFrom_X3_put : GoodIn wsX3_copyFrom (wsV RX3 29 RX3 yX3_put wsX3_put) := goodIn_app (goodIn_of _ (by decide +kernel)) ggX3_copyFrom_X3_put
theorem dX3_copyFrom_0 : decode cX3_copyFrom 0 = .ok (.aload_n 0, 1) := by decide +kernel
theorem dX3_copyFrom_1 : decode cX3_copyFrom 1 = .ok (.aload_n 1, 1) := by decide +kernel
theorem dX3_copyFrom_2 : decode cX3_copyFrom 2 = .ok (.getfield 18, 3) := by decide +kernel
theorem dX3_copyFrom_5 : decode cX3_copyFrom 5 = .ok (.putfield 18, 3) := by decide +kernel
theorem dX3_copyFrom_8 : decode cX3_copyFrom 8 = .ok (.iconst 0, 1) := by decide +kernel
theorem dX3_copyFrom_9 : decode cX3_copyFrom 9 = .ok (.istore_n 2, 1) := by decide +kernel
theorem dX3_copyFrom_10 : decode cX3_copyFrom 10 = .ok (.iload_n 2, 1) := by decide +kernel
theorem dX3_copyFrom_11 : decode cX3_copyFrom 11 = .ok (.aload_n 0, 1) := by decide +kernel
theorem dX3_copyFrom_12 : decode cX3_copyFrom 12 = .ok (.getfield 18, 3) := by decide +kernel
theorem dX3_copyFrom_15 : decode cX3_copyFrom 15 = .ok (.if_icmp .ge 30, 3) := by decide +kernel
theorem dX3_copyFrom_18 : decode cX3_copyFrom 18 = .ok (.iload_n 2, 1) := by decide +kernel
theorem dX3_copyFrom_19 : decode cX3_copyFrom 19 = .ok (.bipush 120, 2) := by decide +kernel
theorem dX3_copyFrom_21 : decode cX3_copyFrom 21 = .ok (.if_icmp .ge 24, 3) := by decide +kernel
theorem dX3_copyFrom_24 : decode cX3_copyFrom 24 = .ok (.aload_n 0, 1) := by decide +kernel
theorem dX3_copyFrom_25 : decode cX3_copyFrom 25 = .ok (.iload_n 2, 1) := by decide +kernel
theorem dX3_copyFrom_26 : decode cX3_copyFrom 26 = .ok (.aload_n 1, 1) := by decide +kernel
theorem dX3_copyFrom_27 : decode cX3_copyFrom 27 = .ok (.iload_n 2, 1) := by decide +kernel
theorem dX3_copyFrom_28 : decode cX3_copyFrom 28 = .ok (.invokevirtual 22, 3) := by decide +kernel
theorem dX3_copyFrom_31 : decode cX3_copyFrom 31 = .ok (.aload_n 1, 1) := by decide +kernel
theorem dX3_copyFrom_32 : decode cX3_copyFrom 32 = .ok (.iload_n 2, 1) := by decide +kernel
theorem dX3_copyFrom_33 : decode cX3_copyFrom 33 = .ok (.invokevirtual 26, 3) := by decide +kernel
theorem dX3_copyFrom_36 : decode cX3_copyFrom 36 = .ok (.invokevirtual 29, 3) := by decide +kernel
theorem dX3_copyFrom_39 : decode cX3_copyFrom 39 = .ok (.iinc 2 1, 3) := by decide +kernel
theorem dX3_copyFrom_42 : decode cX3_copyFrom 42 = .ok (.goto (-32), 3) := by decide +kernel
theorem dX3_copyFrom_45 : decode cX3_copyFrom 45 = .ok (.return_, 1) := by decide +kernel
theorem dX3_put_0 : decode cX3_put 0 = .ok (.iload_n 1, 1) := by decide +kernel
theorem dX3_put_1 : decode cX3_put 1 = .ok (.ifCond .lt 35, 3) := by decide +kernel
theorem dX3_put_4 : decode cX3_put 4 = .ok (.iload_n 1, 1) := by decide +kernel
theorem dX3_put_5 : decode cX3_put 5 = .ok (.aload_n 0, 1) := by decide +kernel
theorem dX3_put_6 : decode cX3_put 6 = .ok (.getfield 11, 3) := by decide +kernel
theorem dX3_put_9 : decode cX3_put 9 = .ok (.arraylength, 1) := by decide +kernel
theorem dX3_put_10 : decode cX3_put 10 = .ok (.if_icmp .ge 26, 3) := by decide +kernel
theorem dX3_put_13 : decode cX3_put 13 = .ok (.iload_n 1, 1) := by decide +kernel
theorem dX3_put_14 : decode cX3_put 14 = .ok (.aload_n 0, 1) := by decide +kernel
theorem dX3_put_15 : decode cX3_put 15 = .ok (.getfield 15, 3) := by decide +kernel
theorem dX3_put_18 : decode cX3_put 18 = .ok (.arraylength, 1) := by decide +kernel
theorem dX3_put_19 : decode cX3_put 19 = .ok (.if_icmp .ge 17, 3) := by decide +kernel
theorem dX3_put_22 : decode cX3_put 22 = .ok (.aload_n 0, 1) := by decide +kernel
theorem dX3_put_23 : decode cX3_put 23 = .ok (.getfield 11, 3) := by decide +kernel
theorem dX3_put_26 : decode cX3_put 26 = .ok (.iload_n 1, 1) := by decide +kernel
theorem dX3_put_27 : decode cX3_put 27 = .ok (.iload_n 2, 1) := by decide +kernel
theorem dX3_put_28 : decode cX3_put 28 = .ok (.iastore, 1) := by decide +kernel
theorem dX3_put_29 : decode cX3_put 29 = .ok (.aload_n 0, 1) := by decide +kernel
theorem dX3_put_30 : decode cX3_put 30 = .ok (.getfield 15, 3) := by decide +kernel
theorem dX3_put_33 : decode cX3_put 33 = .ok (.iload_n 1, 1) := by decide +kernel
theorem dX3_put_34 : decode cX3_put 34 = .ok (.iload_n 3, 1) := by decide +kernel
theorem dX3_put_35 : decode cX3_put 35 = .ok (.iastore, 1) := by decide +kernel
theorem dX3_put_36 : decode cX3_put 36 = .ok (.return_, 1) := by decide +kernel
set_option maxRecDepth 20000 in
theorem ggX3_addTick_X3_nameOf : GoodIn wsX3_addTick wsX3_nameOf := goodIn_r _ [8] (by decide +kernel) (by decide +kernel)
set_option maxRecDepth 20000 in
theorem gX3_addTick_X3_nameOf : GoodIn wsX3_addTick (wsV RX3 41 RX3 yX3_nameOf wsX3_nameOf) := goodIn_app (goodIn_of _ (by decide +kernel)) ggX3_addTick_X3_nameOf
set_option maxRecDepth 20000 in
theorem ggX3_addTick_X3_find : GoodIn wsX3_addTick wsX3_find := goodIn_r _ [12, 3, 13, 14, 15, 7, 16, 17, 40, 41, 42] (by decide +kernel) (by decide +kernel)
set_option maxRecDepth 20000 in
theorem gX3_addTick_X3_find : GoodIn wsX3_addTick (wsV RX3 45 RX3 yX3_find wsX3_find) := goodIn_app (goodIn_of _ (by decide +kernel)) ggX3_addTick_X3_find
set_option maxRecDepth 20000 in
theorem ggX3_addTick_X3_ticksAt : GoodIn wsX3_addTick wsX3_ticksAt := goodIn_r _ [21, 3, 22, 40, 41, 42] (by decide +kernel) (by decide +kernel)
set_option maxRecDepth 20000 in
theorem gX3_addTick_X3_ticksAt : GoodIn wsX3_addTick (wsV RX3 26 RX3 yX3_ticksAt wsX3_ticksAt) := goodIn_app (goodIn_of _ (by decide +kernel)) ggX3_addTick_X3_ticksAt
set_option maxRecDepth 20000 in
theorem ggX3_addTick_X3_put : GoodIn wsX3_addTick wsX3_put := goodIn_r _ [26, 17, 22, 40, 41, 42] (by decide +kernel) (by decide +kernel)
set_option maxRecDepth 20000 in
theorem gX3_addTick_X3_put : GoodIn wsX3_addTick (wsV RX3 29 RX3 yX3_put wsX3_put) := goodIn_app (goodIn_of _ (by decide +kernel)) ggX3_addTick_X3_put
theorem dX3_addTick_0 : decode cX3_addTick 0 = .ok (.aload_n 0, 1) := by decide +kernel
theorem dX3_addTick_1 : decode cX3_addTick 1 = .ok (.aload_n 1, 1) := by decide +kernel
theorem dX3_addTick_2 : decode cX3_addTick 2 = .ok (.getfield 33, 3) := by decide +kernel
theorem dX3_addTick_5 : decode cX3_addTick 5 = .ok (.bipush 50, 2) := by decide +kernel
theorem dX3_addTick_7 : decode cX3_addTick 7 = .ok (.idiv, 1) := by decide +kernel
theorem dX3_addTick_8 : decode cX3_addTick 8 = .ok (.aload_n 1, 1) := by decide +kernel
theorem dX3_addTick_9 : decode cX3_addTick 9 = .ok (.getfield 38, 3) := by decide +kernel
theorem dX3_addTick_12 : decode cX3_addTick 12 = .ok (.bipush 10, 2) := by decide +kernel
theorem dX3_addTick_14 : decode cX3_addTick 14 = .ok (.idiv, 1) := by decide +kernel
theorem dX3_addTick_15 : decode cX3_addTick 15 = .ok (.invokevirtual 41, 3) := by decide +kernel
theorem dX3_addTick_18 : decode cX3_addTick 18 = .ok (.istore_n 2, 1) := by decide +kernel
theorem dX3_addTick_19 : decode cX3_addTick 19 = .ok (.aload_n 0, 1) := by decide +kernel
theorem dX3_addTick_20 : decode cX3_addTick 20 = .ok (.iload_n 2, 1) := by decide +kernel
theorem dX3_addTick_21 : decode cX3_addTick 21 = .ok (.invokevirtual 45, 3) := by decide +kernel
theorem dX3_addTick_24 : decode cX3_addTick 24 = .ok (.istore_n 3, 1) := by decide +kernel
theorem dX3_addTick_25 : decode cX3_addTick 25 = .ok (.aload_n 0, 1) := by decide +kernel
theorem dX3_addTick_26 : decode cX3_addTick 26 = .ok (.iload_n 3, 1) := by decide +kernel
theorem dX3_addTick_27 : decode cX3_addTick 27 = .ok (.iload_n 2, 1) := by decide +kernel
theorem dX3_addTick_28 : decode cX3_addTick 28 = .ok (.aload_n 0, 1) := by decide +kernel
theorem dX3_addTick_29 : decode cX3_addTick 29 = .ok (.iload_n 3, 1) := by decide +kernel
theorem dX3_addTick_30 : decode cX3_addTick 30 = .ok (.invokevirtual 26, 3) := by decide +kernel
theorem dX3_addTick_33 : decode cX3_addTick 33 = .ok (.iconst 1, 1) := by decide +kernel
theorem dX3_addTick_34 : decode cX3_addTick 34 = .ok (.iadd, 1) := by decide +kernel
theorem dX3_addTick_35 : decode cX3_addTick 35 = .ok (.invokevirtual 29, 3) := by decide +kernel
theorem dX3_addTick_38 : decode cX3_addTick 38 = .ok (.iload_n 3, 1) := by decide +kernel
theorem dX3_addTick_39 : decode cX3_addTick 39 = .ok (.aload_n 0, 1) := by decide +kernel
theorem dX3_addTick_40 : decode cX3_addTick 40 = .ok (.getfield 18, 3) := by decide +kernel
theorem dX3_addTick_43 : decode cX3_addTick 43 = .ok (.if_icmp .ne 22, 3) := by decide +kernel
theorem dX3_addTick_46 : decode cX3_addTick 46 = .ok (.aload_n 0, 1) := by decide +kernel
theorem dX3_addTick_47 : decode cX3_addTick 47 = .ok (.getfield 18, 3) := by decide +kernel
theorem dX3_addTick_50 : decode cX3_addTick 50 = .ok (.bipush 120, 2) := by decide +kernel
theorem dX3_addTick_52 : decode cX3_addTick 52 = .ok (.if_icmp .ge 13, 3) := by decide +kernel
theorem dX3_addTick_55 : decode cX3_addTick 55 = .ok (.aload_n 0, 1) := by decide +kernel
theorem dX3_addTick_56 : decode cX3_addTick 56 = .ok (.dup, 1) := by decide +kernel
theorem dX3_addTick_57 : decode cX3_addTick 57 = .ok (.getfield 18, 3) := by decide +kernel
theorem dX3_addTick_60 : decode cX3_addTick 60 = .ok (.iconst 1, 1) := by decide +kernel
theorem dX3_addTick_61 : decode cX3_addTick 61 = .ok (.iadd, 1) := by decide +kernel
theorem dX3_addTick_62 : decode cX3_addTick 62 = .ok (.putfield 18, 3) := by decide +kernel
theorem dX3_addTick_65 : decode cX3_addTick 65 = .ok (.return_, 1) := by decide +kernel
set_option maxRecDepth 20000 in
theorem ggX3_find_X3_nameAt : GoodIn wsX3_find wsX3_nameAt := goodIn_r _ [6, 7, 8, 9, 10] (by decide +kernel) (by decide +kernel)
set_option maxRecDepth 20000 in
theorem gX3_find_X3_nameAt : GoodIn wsX3_find (wsV RX3 22 RX3 yX3_nameAt wsX3_nameAt) := goodIn_app (goodIn_of _ (by decide +kernel)) ggX3_find_X3_nameAt
theorem dX3_find_0 : decode cX3_find 0 = .ok (.iconst 0, 1) := by decide +kernel
theorem dX3_find_1 : decode cX3_find 1 = .ok (.istore_n 2, 1) := by decide +kernel
theorem dX3_find_2 : decode cX3_find 2 = .ok (.iload_n 2, 1) := by decide +kernel
theorem dX3_find_3 : decode cX3_find 3 = .ok (.aload_n 0, 1) := by decide +kernel
theorem dX3_find_4 : decode cX3_find 4 = .ok (.getfield 18, 3) := by decide +kernel
theorem dX3_find_7 : decode cX3_find 7 = .ok (.if_icmp .ge 26, 3) := by decide +kernel
theorem dX3_find_10 : decode cX3_find 10 = .ok (.iload_n 2, 1) := by decide +kernel
theorem dX3_find_11 : decode cX3_find 11 = .ok (.bipush 120, 2) := by decide +kernel
theorem dX3_find_13 : decode cX3_find 13 = .ok (.if_icmp .ge 20, 3) := by decide +kernel
theorem dX3_find_16 : decode cX3_find 16 = .ok (.aload_n 0, 1) := by decide +kernel
theorem dX3_find_17 : decode cX3_find 17 = .ok (.iload_n 2, 1) := by decide +kernel
theorem dX3_find_18 : decode cX3_find 18 = .ok (.invokevirtual 22, 3) := by decide +kernel
theorem dX3_find_21 : decode cX3_find 21 = .ok (.iload_n 1, 1) := by decide +kernel
theorem dX3_find_22 : decode cX3_find 22 = .ok (.if_icmp .ne 5, 3) := by decide +kernel
theorem dX3_find_25 : decode cX3_find 25 = .ok (.iload_n 2, 1) := by decide +kernel
theorem dX3_find_26 : decode cX3_find 26 = .ok (.ireturn, 1) := by decide +kernel
theorem dX3_find_27 : decode cX3_find 27 = .ok (.iinc 2 1, 3) := by decide +kernel
theorem dX3_find_30 : decode cX3_find 30 = .ok (.goto (-28), 3) := by decide +kernel
theorem dX3_find_33 : decode cX3_find 33 = .ok (.aload_n 0, 1) := by decide +kernel
theorem dX3_find_34 : decode cX3_find 34 = .ok (.getfield 18, 3) := by decide +kernel
theorem dX3_find_37 : decode cX3_find 37 = .ok (.ireturn, 1) := by decide +kernel
theorem dX3_nameOf_0 : decode cX3_nameOf 0 = .ok (.iload_n 1, 1) := by decide +kernel
theorem dX3_nameOf_1 : decode cX3_nameOf 1 = .ok (.bipush 100, 2) := by decide +kernel
theorem dX3_nameOf_3 : decode cX3_nameOf 3 = .ok (.imul, 1) := by decide +kernel
theorem dX3_nameOf_4 : decode cX3_nameOf 4 = .ok (.iload_n 2, 1) := by decide +kernel
theorem dX3_nameOf_5 : decode cX3_nameOf 5 = .ok (.iadd, 1) := by decide +kernel
theorem dX3_nameOf_6 : decode cX3_nameOf 6 = .ok (.ireturn, 1) := by decide +kernel
theorem dX3_nameAt_0 : decode cX3_nameAt 0 = .ok (.iload_n 1, 1) := by decide +kernel
theorem dX3_nameAt_1 : decode cX3_nameAt 1 = .ok (.ifCond .lt 21, 3) := by decide +kernel
theorem dX3_nameAt_4 : decode cX3_nameAt 4 = .ok (.iload_n 1, 1) := by decide +kernel
theorem dX3_nameAt_5 : decode cX3_nameAt 5 = .ok (.aload_n 0, 1) := by decide +kernel
theorem dX3_nameAt_6 : decode cX3_nameAt 6 = .ok (.getfield 11, 3) := by decide +kernel
theorem dX3_nameAt_9 : decode cX3_nameAt 9 = .ok (.arraylength, 1) := by decide +kernel
theorem dX3_nameAt_10 : decode cX3_nameAt 10 = .ok (.if_icmp .ge 12, 3) := by decide +kernel
theorem dX3_nameAt_13 : decode cX3_nameAt 13 = .ok (.aload_n 0, 1) := by decide +kernel
theorem dX3_nameAt_14 : decode cX3_nameAt 14 = .ok (.getfield 11, 3) := by decide +kernel
theorem dX3_nameAt_17 : decode cX3_nameAt 17 = .ok (.iload_n 1, 1) := by decide +kernel
theorem dX3_nameAt_18 : decode cX3_nameAt 18 = .ok (.iaload, 1) := by decide +kernel
theorem dX3_nameAt_19 : decode cX3_nameAt 19 = .ok (.goto 4, 3) := by decide +kernel
theorem dX3_nameAt_22 : decode cX3_nameAt 22 = .ok (.iconst 0, 1) := by decide +kernel
theorem dX3_nameAt_23 : decode cX3_nameAt 23 = .ok (.ireturn, 1) := by decide +kernel
theorem dX3_ticksAt_0 : decode cX3_ticksAt 0 = .ok (.iload_n 1, 1) := by decide +kernel
theorem dX3_ticksAt_1 : decode cX3_ticksAt 1 = .ok (.ifCond .lt 29, 3) := by decide +kernel
theorem dX3_ticksAt_4 : decode cX3_ticksAt 4 = .ok (.iload_n 1, 1) := by decide +kernel
theorem dX3_ticksAt_5 : decode cX3_ticksAt 5 = .ok (.aload_n 0, 1) := by decide +kernel
theorem dX3_ticksAt_6 : decode cX3_ticksAt 6 = .ok (.getfield 18, 3) := by decide +kernel
theorem dX3_ticksAt_9 : decode cX3_ticksAt 9 = .ok (.if_icmp .ge 21, 3) := by decide +kernel
theorem dX3_ticksAt_12 : decode cX3_ticksAt 12 = .ok (.iload_n 1, 1) := by decide +kernel
theorem dX3_ticksAt_13 : decode cX3_ticksAt 13 = .ok (.aload_n 0, 1) := by decide +kernel
theorem dX3_ticksAt_14 : decode cX3_ticksAt 14 = .ok (.getfield 15, 3) := by decide +kernel
theorem dX3_ticksAt_17 : decode cX3_ticksAt 17 = .ok (.arraylength, 1) := by decide +kernel
theorem dX3_ticksAt_18 : decode cX3_ticksAt 18 = .ok (.if_icmp .ge 12, 3) := by decide +kernel
theorem dX3_ticksAt_21 : decode cX3_ticksAt 21 = .ok (.aload_n 0, 1) := by decide +kernel
theorem dX3_ticksAt_22 : decode cX3_ticksAt 22 = .ok (.getfield 15, 3) := by decide +kernel
theorem dX3_ticksAt_25 : decode cX3_ticksAt 25 = .ok (.iload_n 1, 1) := by decide +kernel
theorem dX3_ticksAt_26 : decode cX3_ticksAt 26 = .ok (.iaload, 1) := by decide +kernel
theorem dX3_ticksAt_27 : decode cX3_ticksAt 27 = .ok (.goto 4, 3) := by decide +kernel
theorem dX3_ticksAt_30 : decode cX3_ticksAt 30 = .ok (.iconst 0, 1) := by decide +kernel
theorem dX3_ticksAt_31 : decode cX3_ticksAt 31 = .ok (.ireturn, 1) := by decide +kernel
set_option maxRecDepth 20000 in
theorem ggX3_ticksIn_X3_nameOf : GoodIn wsX3_ticksIn wsX3_nameOf := goodIn_r _ [5] (by decide +kernel) (by decide +kernel)
set_option maxRecDepth 20000 in
theorem gX3_ticksIn_X3_nameOf : GoodIn wsX3_ticksIn (wsV RX3 41 RX3 yX3_nameOf wsX3_nameOf) := goodIn_app (goodIn_of _ (by decide +kernel)) ggX3_ticksIn_X3_nameOf
set_option maxRecDepth 20000 in
theorem ggX3_ticksIn_X3_find : GoodIn wsX3_ticksIn wsX3_find := goodIn_r _ [9, 10, 11, 12, 13, 4, 14, 15, 21, 22, 23] (by decide +kernel) (by decide +kernel)
set_option maxRecDepth 20000 in
theorem gX3_ticksIn_X3_find : GoodIn wsX3_ticksIn (wsV RX3 45 RX3 yX3_find wsX3_find) := goodIn_app (goodIn_of _ (by decide +kernel)) ggX3_ticksIn_X3_find
set_option maxRecDepth 20000 in
theorem ggX3_ticksIn_X3_ticksAt : GoodIn wsX3_ticksIn wsX3_ticksAt := goodIn_r _ [19, 10, 20, 21, 22, 23] (by decide +kernel) (by decide +kernel)
set_option maxRecDepth 20000 in
theorem gX3_ticksIn_X3_ticksAt : GoodIn wsX3_ticksIn (wsV RX3 26 RX3 yX3_ticksAt wsX3_ticksAt) := goodIn_app (goodIn_of _ (by decide +kernel)) ggX3_ticksIn_X3_ticksAt
theorem dX3_ticksIn_0 : decode cX3_ticksIn 0 = .ok (.aload_n 0, 1) := by decide +kernel
theorem dX3_ticksIn_1 : decode cX3_ticksIn 1 = .ok (.aload_n 0, 1) := by decide +kernel
theorem dX3_ticksIn_2 : decode cX3_ticksIn 2 = .ok (.aload_n 0, 1) := by decide +kernel
theorem dX3_ticksIn_3 : decode cX3_ticksIn 3 = .ok (.iload_n 1, 1) := by decide +kernel
theorem dX3_ticksIn_4 : decode cX3_ticksIn 4 = .ok (.iload_n 2, 1) := by decide +kernel
theorem dX3_ticksIn_5 : decode cX3_ticksIn 5 = .ok (.invokevirtual 41, 3) := by decide +kernel
theorem dX3_ticksIn_8 : decode cX3_ticksIn 8 = .ok (.invokevirtual 45, 3) := by decide +kernel
theorem dX3_ticksIn_11 : decode cX3_ticksIn 11 = .ok (.invokevirtual 26, 3) := by decide +kernel
theorem dX3_ticksIn_14 : decode cX3_ticksIn 14 = .ok (.ireturn, 1) := by decide +kernel
set_option maxRecDepth 20000 in
theorem ggX3_blockAt_X3_nameAt : GoodIn wsX3_blockAt wsX3_nameAt := goodIn_r _ [5, 6, 7, 8, 9] (by decide +kernel) (by decide +kernel)
set_option maxRecDepth 20000 in
theorem gX3_blockAt_X3_nameAt : GoodIn wsX3_blockAt (wsV RX3 22 RX3 yX3_nameAt wsX3_nameAt) := goodIn_app (goodIn_of _ (by decide +kernel)) ggX3_blockAt_X3_nameAt
theorem dX3_blockAt_0 : decode cX3_blockAt 0 = .ok (.aload_n 0, 1) := by decide +kernel
theorem dX3_blockAt_1 : decode cX3_blockAt 1 = .ok (.iload_n 1, 1) := by decide +kernel
theorem dX3_blockAt_2 : decode cX3_blockAt 2 = .ok (.invokevirtual 22, 3) := by decide +kernel
theorem dX3_blockAt_5 : decode cX3_blockAt 5 = .ok (.bipush 100, 2) := by decide +kernel
theorem dX3_blockAt_7 : decode cX3_blockAt 7 = .ok (.idiv, 1) := by decide +kernel
theorem dX3_blockAt_8 : decode cX3_blockAt 8 = .ok (.ireturn, 1) := by decide +kernel
set_option maxRecDepth 20000 in
theorem ggX3_floorAt_X3_nameAt : GoodIn wsX3_floorAt wsX3_nameAt := goodIn_r _ [5, 6, 7, 8, 9] (by decide +kernel) (by decide +kernel)
set_option maxRecDepth 20000 in
theorem gX3_floorAt_X3_nameAt : GoodIn wsX3_floorAt (wsV RX3 22 RX3 yX3_nameAt wsX3_nameAt) := goodIn_app (goodIn_of _ (by decide +kernel)) ggX3_floorAt_X3_nameAt
theorem dX3_floorAt_0 : decode cX3_floorAt 0 = .ok (.aload_n 0, 1) := by decide +kernel
theorem dX3_floorAt_1 : decode cX3_floorAt 1 = .ok (.iload_n 1, 1) := by decide +kernel
theorem dX3_floorAt_2 : decode cX3_floorAt 2 = .ok (.invokevirtual 22, 3) := by decide +kernel
theorem dX3_floorAt_5 : decode cX3_floorAt 5 = .ok (.bipush 100, 2) := by decide +kernel
theorem dX3_floorAt_7 : decode cX3_floorAt 7 = .ok (.irem, 1) := by decide +kernel
theorem dX3_floorAt_8 : decode cX3_floorAt 8 = .ok (.ireturn, 1) := by decide +kernel
theorem dX4_init_0 : decode cX4_init 0 = .ok (.aload_n 0, 1) := by decide +kernel
theorem dX4_init_1 : decode cX4_init 1 = .ok (.invokespecial 1, 3) := by decide +kernel
theorem dX4_init_4 : decode cX4_init 4 = .ok (.return_, 1) := by decide +kernel
theorem dX4_set_0 : decode cX4_set 0 = .ok (.aload_n 0, 1) := by decide +kernel
theorem dX4_set_1 : decode cX4_set 1 = .ok (.iload_n 1, 1) := by decide +kernel
theorem dX4_set_2 : decode cX4_set 2 = .ok (.putfield 7, 3) := by decide +kernel
theorem dX4_set_5 : decode cX4_set 5 = .ok (.aload_n 0, 1) := by decide +kernel
theorem dX4_set_6 : decode cX4_set 6 = .ok (.iload_n 2, 1) := by decide +kernel
theorem dX4_set_7 : decode cX4_set 7 = .ok (.putfield 13, 3) := by decide +kernel
theorem dX4_set_10 : decode cX4_set 10 = .ok (.aload_n 0, 1) := by decide +kernel
theorem dX4_set_11 : decode cX4_set 11 = .ok (.iload_n 3, 1) := by decide +kernel
theorem dX4_set_12 : decode cX4_set 12 = .ok (.putfield 16, 3) := by decide +kernel
theorem dX4_set_15 : decode cX4_set 15 = .ok (.return_, 1) := by decide +kernel
set_option maxRecDepth 20000 in
theorem ggX5_init_X2_init : GoodIn wsX5_init wsX2_init := goodIn_r _ [14, 15, 2, 3, 16, 17, 18, 19, 20, 21, 22, 23, 24, 41, 42, 43, 44, 45, 46, 47, 48, 49, 50, 51, 52, 53, 31, 32, 33] (by decide +kernel) (by decide +kernel)
set_option maxRecDepth 20000 in
theorem gX5_init_X2_init_n9 : GoodIn wsX5_init (wsX2_init) := ggX5_init_X2_init
set_option maxRecDepth 20000 in
theorem ggX5_init_X3_init : GoodIn wsX5_init wsX3_init := goodIn_r _ [26, 27, 2, 3, 28, 29, 30, 38, 39, 40] (by decide +kernel) (by decide +kernel)
set_option maxRecDepth 20000 in
theorem gX5_init_X3_init_n18 : GoodIn wsX5_init (wsX3_init) := ggX5_init_X3_init
theorem dX5_init_0 : decode cX5_init 0 = .ok (.aload_n 0, 1) := by decide +kernel
theorem dX5_init_1 : decode cX5_init 1 = .ok (.invokespecial 1, 3) := by decide +kernel
theorem dX5_init_4 : decode cX5_init 4 = .ok (.aload_n 0, 1) := by decide +kernel
theorem dX5_init_5 : decode cX5_init 5 = .ok (.new 7, 3) := by decide +kernel
theorem dX5_init_8 : decode cX5_init 8 = .ok (.dup, 1) := by decide +kernel
theorem dX5_init_9 : decode cX5_init 9 = .ok (.invokespecial 9, 3) := by decide +kernel
theorem dX5_init_12 : decode cX5_init 12 = .ok (.putfield 10, 3) := by decide +kernel
theorem dX5_init_15 : decode cX5_init 15 = .ok (.aload_n 0, 1) := by decide +kernel
theorem dX5_init_16 : decode cX5_init 16 = .ok (.new 16, 3) := by decide +kernel
theorem dX5_init_19 : decode cX5_init 19 = .ok (.dup, 1) := by decide +kernel
theorem dX5_init_20 : decode cX5_init 20 = .ok (.invokespecial 18, 3) := by decide +kernel
theorem dX5_init_23 : decode cX5_init 23 = .ok (.putfield 19, 3) := by decide +kernel
theorem dX5_init_26 : decode cX5_init 26 = .ok (.aload_n 0, 1) := by decide +kernel
theorem dX5_init_27 : decode cX5_init 27 = .ok (.new 16, 3) := by decide +kernel
theorem dX5_init_30 : decode cX5_init 30 = .ok (.dup, 1) := by decide +kernel
theorem dX5_init_31 : decode cX5_init 31 = .ok (.invokespecial 18, 3) := by decide +kernel
theorem dX5_init_34 : decode cX5_init 34 = .ok (.putfield 23, 3) := by decide +kernel
theorem dX5_init_37 : decode cX5_init 37 = .ok (.return_, 1) := by decide +kernel
set_option maxRecDepth 20000 in
theorem ggX5_begin_X2_begin : GoodIn wsX5_begin wsX2_begin := goodIn_r _ [10, 11, 12, 13, 14, 15, 16, 17, 18, 19, 20, 21, 22, 23, 24, 25, 26, 27, 28, 29, 30, 31, 32, 33, 34, 35, 36, 37, 38, 39, 40, 48, 49, 50, 51, 52, 53, 54, 55, 56, 57, 58, 59, 60, 61, 62, 63, 64, 65, 66, 67, 68, 69, 70, 71, 72, 73] (by decide +kernel) (by decide +kernel)
set_option maxRecDepth 20000 in
theorem gX5_begin_X2_begin : GoodIn wsX5_begin (wsV RX5 26 RX2 yX2_begin wsX2_begin) := goodIn_app (goodIn_of _ (by decide +kernel)) ggX5_begin_X2_begin
theorem dX5_begin_0 : decode cX5_begin 0 = .ok (.aload_n 0, 1) := by decide +kernel
theorem dX5_begin_1 : decode cX5_begin 1 = .ok (.getfield 10, 3) := by decide +kernel
theorem dX5_begin_4 : decode cX5_begin 4 = .ok (.aload_n 1, 1) := by decide +kernel
theorem dX5_begin_5 : decode cX5_begin 5 = .ok (.invokevirtual 26, 3) := by decide +kernel
theorem dX5_begin_8 : decode cX5_begin 8 = .ok (.aload_n 0, 1) := by decide +kernel
theorem dX5_begin_9 : decode cX5_begin 9 = .ok (.getfield 19, 3) := by decide +kernel
theorem dX5_begin_12 : decode cX5_begin 12 = .ok (.iconst 0, 1) := by decide +kernel
theorem dX5_begin_13 : decode cX5_begin 13 = .ok (.putfield 30, 3) := by decide +kernel
theorem dX5_begin_16 : decode cX5_begin 16 = .ok (.aload_n 0, 1) := by decide +kernel
theorem dX5_begin_17 : decode cX5_begin 17 = .ok (.getfield 23, 3) := by decide +kernel
theorem dX5_begin_20 : decode cX5_begin 20 = .ok (.iconst 0, 1) := by decide +kernel
theorem dX5_begin_21 : decode cX5_begin 21 = .ok (.putfield 30, 3) := by decide +kernel
theorem dX5_begin_24 : decode cX5_begin 24 = .ok (.aload_n 0, 1) := by decide +kernel
theorem dX5_begin_25 : decode cX5_begin 25 = .ok (.iconst 0, 1) := by decide +kernel
theorem dX5_begin_26 : decode cX5_begin 26 = .ok (.putfield 34, 3) := by decide +kernel
theorem dX5_begin_29 : decode cX5_begin 29 = .ok (.return_, 1) := by decide +kernel
set_option maxRecDepth 20000 in
theorem ggX5_copyFrom_X2_copyFrom : GoodIn wsX5_copyFrom wsX2_copyFrom := goodIn_r _ [9, 10, 11, 12, 13, 14, 15, 16, 17, 18, 19, 20, 21, 22, 23, 24, 25, 26, 27, 28, 29, 30, 55, 56, 57, 58, 59, 60, 61, 62, 63, 64, 65, 66, 67, 68, 69, 70] (by decide +kernel) (by decide +kernel)
set_option maxRecDepth 20000 in
theorem gX5_copyFrom_X2_copyFrom : GoodIn wsX5_copyFrom (wsV RX5 37 RX2 yX2_copyFrom wsX2_copyFrom) := goodIn_app (goodIn_of _ (by decide +kernel)) ggX5_copyFrom_X2_copyFrom
set_option maxRecDepth 20000 in
theorem ggX5_copyFrom_X3_copyFrom : GoodIn wsX5_copyFrom wsX3_copyFrom := goodIn_r _ [35, 36, 37, 38, 39, 34, 40, 41, 42, 43, 44, 45, 46, 47, 48, 49, 50, 71, 72, 73] (by decide +kernel) (by decide +kernel)
set_option maxRecDepth 20000 in
theorem gX5_copyFrom_X3_copyFrom : GoodIn wsX5_copyFrom (wsV RX5 41 RX3 yX3_copyFrom wsX3_copyFrom) := goodIn_app (goodIn_of _ (by decide +kernel)) ggX5_copyFrom_X3_copyFrom
theorem dX5_copyFrom_0 : decode cX5_copyFrom 0 = .ok (.aload_n 0, 1) := by decide +kernel
theorem dX5_copyFrom_1 : decode cX5_copyFrom 1 = .ok (.getfield 10, 3) := by decide +kernel
theorem dX5_copyFrom_4 : decode cX5_copyFrom 4 = .ok (.aload_n 1, 1) := by decide +kernel
theorem dX5_copyFrom_5 : decode cX5_copyFrom 5 = .ok (.getfield 10, 3) := by decide +kernel
theorem dX5_copyFrom_8 : decode cX5_copyFrom 8 = .ok (.invokevirtual 37, 3) := by decide +kernel
theorem dX5_copyFrom_11 : decode cX5_copyFrom 11 = .ok (.aload_n 0, 1) := by decide +kernel
theorem dX5_copyFrom_12 : decode cX5_copyFrom 12 = .ok (.getfield 19, 3) := by decide +kernel
theorem dX5_copyFrom_15 : decode cX5_copyFrom 15 = .ok (.aload_n 1, 1) := by decide +kernel
theorem dX5_copyFrom_16 : decode cX5_copyFrom 16 = .ok (.getfield 19, 3) := by decide +kernel
theorem dX5_copyFrom_19 : decode cX5_copyFrom 19 = .ok (.invokevirtual 41, 3) := by decide +kernel
theorem dX5_copyFrom_22 : decode cX5_copyFrom 22 = .ok (.aload_n 0, 1) := by decide +kernel
theorem dX5_copyFrom_23 : decode cX5_copyFrom 23 = .ok (.getfield 23, 3) := by decide +kernel
theorem dX5_copyFrom_26 : decode cX5_copyFrom 26 = .ok (.aload_n 1, 1) := by decide +kernel
theorem dX5_copyFrom_27 : decode cX5_copyFrom 27 = .ok (.getfield 23, 3) := by decide +kernel
theorem dX5_copyFrom_30 : decode cX5_copyFrom 30 = .ok (.invokevirtual 41, 3) := by decide +kernel
theorem dX5_copyFrom_33 : decode cX5_copyFrom 33 = .ok (.aload_n 0, 1) := by decide +kernel
theorem dX5_copyFrom_34 : decode cX5_copyFrom 34 = .ok (.aload_n 1, 1) := by decide +kernel
theorem dX5_copyFrom_35 : decode cX5_copyFrom 35 = .ok (.getfield 34, 3) := by decide +kernel
theorem dX5_copyFrom_38 : decode cX5_copyFrom 38 = .ok (.putfield 34, 3) := by decide +kernel
theorem dX5_copyFrom_41 : decode cX5_copyFrom 41 = .ok (.return_, 1) := by decide +kernel
theorem dX5_spotsOf_0 : decode cX5_spotsOf 0 = .ok (.iload_n 1, 1) := by decide +kernel
theorem dX5_spotsOf_1 : decode cX5_spotsOf 1 = .ok (.ifCond .ne 10, 3) := by decide +kernel
theorem dX5_spotsOf_4 : decode cX5_spotsOf 4 = .ok (.aload_n 0, 1) := by decide +kernel
theorem dX5_spotsOf_5 : decode cX5_spotsOf 5 = .ok (.getfield 19, 3) := by decide +kernel
theorem dX5_spotsOf_8 : decode cX5_spotsOf 8 = .ok (.goto 7, 3) := by decide +kernel
theorem dX5_spotsOf_11 : decode cX5_spotsOf 11 = .ok (.aload_n 0, 1) := by decide +kernel
theorem dX5_spotsOf_12 : decode cX5_spotsOf 12 = .ok (.getfield 23, 3) := by decide +kernel
theorem dX5_spotsOf_15 : decode cX5_spotsOf 15 = .ok (.areturn, 1) := by decide +kernel
set_option maxRecDepth 20000 in
theorem ggX5_goOn_X2_goOn : GoodIn wsX5_goOn wsX2_goOn := goodIn_r _ [11, 12, 13, 14, 15, 16, 17, 18, 19, 20, 21, 22, 10, 23, 24, 25, 26, 27, 28, 29, 30, 31, 32, 33, 34, 35, 36, 37, 38, 39, 40, 41, 42, 43, 44, 45, 46, 47, 48, 49, 50, 51, 52, 53, 54, 55, 56, 57, 58, 59, 60, 61, 62, 63, 64, 65, 66, 67, 68, 69, 70, 71, 72, 73, 74, 75, 76, 77, 78, 79, 80, 81, 82, 83, 84, 85, 120, 121, 122, 123, 124, 125, 126, 127, 128, 129, 130, 131, 132, 133, 134, 135, 136, 137, 138, 139, 140, 141, 142] (by decide +kernel) (by decide +kernel)
set_option maxRecDepth 20000 in
theorem gX5_goOn_X2_goOn : GoodIn wsX5_goOn (wsV RX5 44 RX2 yX2_goOn wsX2_goOn) := goodIn_app (goodIn_of _ (by decide +kernel)) ggX5_goOn_X2_goOn
set_option maxRecDepth 20000 in
theorem ggX5_goOn_X3_addTick : GoodIn wsX5_goOn wsX3_addTick := goodIn_r _ [90, 91, 92, 93, 94, 95, 96, 89, 97, 98, 99, 100, 101, 102, 103, 104, 105, 106, 107, 108, 109, 110, 111, 112, 113, 114, 115, 123, 124, 125, 126, 127, 128, 129, 130, 131, 132, 133, 134, 135, 143, 144, 145] (by decide +kernel) (by decide +kernel)
set_option maxRecDepth 20000 in
theorem gX5_goOn_X3_addTick : GoodIn wsX5_goOn (wsV RX5 52 RX3 yX3_addTick wsX3_addTick) := goodIn_app (goodIn_of _ (by decide +kernel)) ggX5_goOn_X3_addTick
theorem dX5_goOn_0 : decode cX5_goOn 0 = .ok (.aload_n 0, 1) := by decide +kernel
theorem dX5_goOn_1 : decode cX5_goOn 1 = .ok (.getfield 10, 3) := by decide +kernel
theorem dX5_goOn_4 : decode cX5_goOn 4 = .ok (.aload_n 1, 1) := by decide +kernel
theorem dX5_goOn_5 : decode cX5_goOn 5 = .ok (.invokevirtual 44, 3) := by decide +kernel
theorem dX5_goOn_8 : decode cX5_goOn 8 = .ok (.istore_n 2, 1) := by decide +kernel
theorem dX5_goOn_9 : decode cX5_goOn 9 = .ok (.aload_n 0, 1) := by decide +kernel
theorem dX5_goOn_10 : decode cX5_goOn 10 = .ok (.getfield 19, 3) := by decide +kernel
theorem dX5_goOn_13 : decode cX5_goOn 13 = .ok (.aload_n 0, 1) := by decide +kernel
theorem dX5_goOn_14 : decode cX5_goOn 14 = .ok (.getfield 10, 3) := by decide +kernel
theorem dX5_goOn_17 : decode cX5_goOn 17 = .ok (.getfield 48, 3) := by decide +kernel
theorem dX5_goOn_20 : decode cX5_goOn 20 = .ok (.invokevirtual 52, 3) := by decide +kernel
theorem dX5_goOn_23 : decode cX5_goOn 23 = .ok (.aload_n 0, 1) := by decide +kernel
theorem dX5_goOn_24 : decode cX5_goOn 24 = .ok (.getfield 23, 3) := by decide +kernel
theorem dX5_goOn_27 : decode cX5_goOn 27 = .ok (.aload_n 0, 1) := by decide +kernel
theorem dX5_goOn_28 : decode cX5_goOn 28 = .ok (.getfield 10, 3) := by decide +kernel
theorem dX5_goOn_31 : decode cX5_goOn 31 = .ok (.getfield 56, 3) := by decide +kernel
theorem dX5_goOn_34 : decode cX5_goOn 34 = .ok (.invokevirtual 52, 3) := by decide +kernel
theorem dX5_goOn_37 : decode cX5_goOn 37 = .ok (.aload_n 0, 1) := by decide +kernel
theorem dX5_goOn_38 : decode cX5_goOn 38 = .ok (.dup, 1) := by decide +kernel
theorem dX5_goOn_39 : decode cX5_goOn 39 = .ok (.getfield 34, 3) := by decide +kernel
theorem dX5_goOn_42 : decode cX5_goOn 42 = .ok (.iconst 1, 1) := by decide +kernel
theorem dX5_goOn_43 : decode cX5_goOn 43 = .ok (.iadd, 1) := by decide +kernel
theorem dX5_goOn_44 : decode cX5_goOn 44 = .ok (.putfield 34, 3) := by decide +kernel
theorem dX5_goOn_47 : decode cX5_goOn 47 = .ok (.iload_n 2, 1) := by decide +kernel
theorem dX5_goOn_48 : decode cX5_goOn 48 = .ok (.ireturn, 1) := by decide +kernel
theorem dX6_init_0 : decode cX6_init 0 = .ok (.aload_n 0, 1) := by decide +kernel
theorem dX6_init_1 : decode cX6_init 1 = .ok (.invokespecial 3, 3) := by decide +kernel
theorem dX6_init_4 : decode cX6_init 4 = .ok (.aload_n 0, 1) := by decide +kernel
theorem dX6_init_5 : decode cX6_init 5 = .ok (.sipush 200, 3) := by decide +kernel
theorem dX6_init_8 : decode cX6_init 8 = .ok (.newarray .char, 2) := by decide +kernel
theorem dX6_init_10 : decode cX6_init 10 = .ok (.putfield 9, 3) := by decide +kernel
theorem dX6_init_13 : decode cX6_init 13 = .ok (.return_, 1) := by decide +kernel
theorem dX6_isFull_0 : decode cX6_isFull 0 = .ok (.aload_n 0, 1) := by decide +kernel
theorem dX6_isFull_1 : decode cX6_isFull 1 = .ok (.getfield 15, 3) := by decide +kernel
theorem dX6_isFull_4 : decode cX6_isFull 4 = .ok (.sipush 200, 3) := by decide +kernel
theorem dX6_isFull_7 : decode cX6_isFull 7 = .ok (.if_icmp .lt 7, 3) := by decide +kernel
theorem dX6_isFull_10 : decode cX6_isFull 10 = .ok (.iconst 1, 1) := by decide +kernel
theorem dX6_isFull_11 : decode cX6_isFull 11 = .ok (.goto 4, 3) := by decide +kernel
theorem dX6_isFull_14 : decode cX6_isFull 14 = .ok (.iconst 0, 1) := by decide +kernel
theorem dX6_isFull_15 : decode cX6_isFull 15 = .ok (.ireturn, 1) := by decide +kernel
theorem dX6_append_0 : decode cX6_append 0 = .ok (.aload_n 0, 1) := by decide +kernel
theorem dX6_append_1 : decode cX6_append 1 = .ok (.getfield 15, 3) := by decide +kernel
theorem dX6_append_4 : decode cX6_append 4 = .ok (.ifCond .lt 35, 3) := by decide +kernel
theorem dX6_append_7 : decode cX6_append 7 = .ok (.aload_n 0, 1) := by decide +kernel
theorem dX6_append_8 : decode cX6_append 8 = .ok (.getfield 15, 3) := by decide +kernel
theorem dX6_append_11 : decode cX6_append 11 = .ok (.aload_n 0, 1) := by decide +kernel
theorem dX6_append_12 : decode cX6_append 12 = .ok (.getfield 9, 3) := by decide +kernel
theorem dX6_append_15 : decode cX6_append 15 = .ok (.arraylength, 1) := by decide +kernel
theorem dX6_append_16 : decode cX6_append 16 = .ok (.if_icmp .ge 23, 3) := by decide +kernel
theorem dX6_append_19 : decode cX6_append 19 = .ok (.aload_n 0, 1) := by decide +kernel
theorem dX6_append_20 : decode cX6_append 20 = .ok (.getfield 9, 3) := by decide +kernel
theorem dX6_append_23 : decode cX6_append 23 = .ok (.aload_n 0, 1) := by decide +kernel
theorem dX6_append_24 : decode cX6_append 24 = .ok (.getfield 15, 3) := by decide +kernel
theorem dX6_append_27 : decode cX6_append 27 = .ok (.iload_n 1, 1) := by decide +kernel
theorem dX6_append_28 : decode cX6_append 28 = .ok (.castore, 1) := by decide +kernel
theorem dX6_append_29 : decode cX6_append 29 = .ok (.aload_n 0, 1) := by decide +kernel
theorem dX6_append_30 : decode cX6_append 30 = .ok (.dup, 1) := by decide +kernel
theorem dX6_append_31 : decode cX6_append 31 = .ok (.getfield 15, 3) := by decide +kernel
theorem dX6_append_34 : decode cX6_append 34 = .ok (.iconst 1, 1) := by decide +kernel
theorem dX6_append_35 : decode cX6_append 35 = .ok (.iadd, 1) := by decide +kernel
theorem dX6_append_36 : decode cX6_append 36 = .ok (.putfield 15, 3) := by decide +kernel
theorem dX6_append_39 : decode cX6_append 39 = .ok (.return_, 1) := by decide +kernel
set_option maxRecDepth 20000 in
theorem ggX6_readInto_X1_setUsual : GoodIn wsX6_readInto wsX1_setUsual := goodIn_r _ [7, 8, 9, 10, 11, 12, 13, 14, 15, 16, 17, 18, 19, 20, 21, 22, 74, 75, 76, 77, 78, 79, 80, 81, 82, 83] (by decide +kernel) (by decide +kernel)
set_option maxRecDepth 20000 in
theorem gX6_readInto_X1_setUsual : GoodIn wsX6_readInto (wsV RX6 19 RX1 yX1_setUsual wsX1_setUsual) := goodIn_app (goodIn_of _ (by decide +kernel)) ggX6_readInto_X1_setUsual
set_option maxRecDepth 20000 in
theorem ggX6_readInto_X6_readItem : GoodIn wsX6_readInto wsX6_readItem := goodIn_r _ [27, 1, 28, 29, 30, 26, 31, 2, 32, 33, 34, 35, 36, 37, 38, 39, 40, 41, 42, 43, 44, 45, 46, 47, 48, 49, 50, 51, 52, 53, 54, 55, 56, 57, 58, 59, 60, 61, 62, 63, 64, 65, 66, 67, 68, 69, 70, 71, 72, 73, 74, 75, 76, 77, 78, 79, 80, 81, 82, 83] (by decide +kernel) (by decide +kernel)
set_option maxRecDepth 20000 in
theorem gX6_readInto_X6_readItem : GoodIn wsX6_readInto (wsV RX6 27 RX6 yX6_readItem wsX6_readItem) := goodIn_app (goodIn_of _ (by decide +kernel)) ggX6_readInto_X6_readItem
theorem dX6_readInto_0 : decode cX6_readInto 0 = .ok (.aload_n 1, 1) := by decide +kernel
theorem dX6_readInto_1 : decode cX6_readInto 1 = .ok (.invokevirtual 19, 3) := by decide +kernel
theorem dX6_readInto_4 : decode cX6_readInto 4 = .ok (.aload_n 0, 1) := by decide +kernel
theorem dX6_readInto_5 : decode cX6_readInto 5 = .ok (.iconst 0, 1) := by decide +kernel
theorem dX6_readInto_6 : decode cX6_readInto 6 = .ok (.putfield 24, 3) := by decide +kernel
theorem dX6_readInto_9 : decode cX6_readInto 9 = .ok (.iconst 0, 1) := by decide +kernel
theorem dX6_readInto_10 : decode cX6_readInto 10 = .ok (.istore_n 2, 1) := by decide +kernel
theorem dX6_readInto_11 : decode cX6_readInto 11 = .ok (.iload_n 2, 1) := by decide +kernel
theorem dX6_readInto_12 : decode cX6_readInto 12 = .ok (.sipush 200, 3) := by decide +kernel
theorem dX6_readInto_15 : decode cX6_readInto 15 = .ok (.if_icmp .ge 35, 3) := by decide +kernel
theorem dX6_readInto_18 : decode cX6_readInto 18 = .ok (.aload_n 0, 1) := by decide +kernel
theorem dX6_readInto_19 : decode cX6_readInto 19 = .ok (.getfield 24, 3) := by decide +kernel
theorem dX6_readInto_22 : decode cX6_readInto 22 = .ok (.aload_n 0, 1) := by decide +kernel
theorem dX6_readInto_23 : decode cX6_readInto 23 = .ok (.getfield 15, 3) := by decide +kernel
theorem dX6_readInto_26 : decode cX6_readInto 26 = .ok (.if_icmp .ge 24, 3) := by decide +kernel
theorem dX6_readInto_29 : decode cX6_readInto 29 = .ok (.aload_n 0, 1) := by decide +kernel
theorem dX6_readInto_30 : decode cX6_readInto 30 = .ok (.getfield 24, 3) := by decide +kernel
theorem dX6_readInto_33 : decode cX6_readInto 33 = .ok (.istore_n 3, 1) := by decide +kernel
theorem dX6_readInto_34 : decode cX6_readInto 34 = .ok (.aload_n 0, 1) := by decide +kernel
theorem dX6_readInto_35 : decode cX6_readInto 35 = .ok (.aload_n 1, 1) := by decide +kernel
theorem dX6_readInto_36 : decode cX6_readInto 36 = .ok (.invokevirtual 27, 3) := by decide +kernel
theorem dX6_readInto_39 : decode cX6_readInto 39 = .ok (.ifCond .ne 5, 3) := by decide +kernel
theorem dX6_readInto_42 : decode cX6_readInto 42 = .ok (.iload_n 3, 1) := by decide +kernel
theorem dX6_readInto_43 : decode cX6_readInto 43 = .ok (.ireturn, 1) := by decide +kernel
theorem dX6_readInto_44 : decode cX6_readInto 44 = .ok (.iinc 2 1, 3) := by decide +kernel
theorem dX6_readInto_47 : decode cX6_readInto 47 = .ok (.goto (-36), 3) := by decide +kernel
theorem dX6_readInto_50 : decode cX6_readInto 50 = .ok (.bipush (-4), 2) := by decide +kernel
theorem dX6_readInto_52 : decode cX6_readInto 52 = .ok (.ireturn, 1) := by decide +kernel
set_option maxRecDepth 20000 in
theorem ggX6_readItem_X6_letterAt : GoodIn wsX6_readItem wsX6_letterAt := goodIn_r _ [6, 7, 8, 47, 48, 49] (by decide +kernel) (by decide +kernel)
set_option maxRecDepth 20000 in
theorem gX6_readItem_X6_letterAt : GoodIn wsX6_readItem (wsV RX6 31 RX6 yX6_letterAt wsX6_letterAt) := goodIn_app (goodIn_of _ (by decide +kernel)) ggX6_readItem_X6_letterAt
set_option maxRecDepth 20000 in
theorem ggX6_readItem_X6_readEnd : GoodIn wsX6_readItem wsX6_readEnd := goodIn_r _ [12, 13, 14, 15, 16, 5, 17, 1, 2, 3, 4, 6, 7, 8, 18, 19, 20, 50, 51, 52, 53, 54, 55, 56, 47, 48, 49] (by decide +kernel) (by decide +kernel)
set_option maxRecDepth 20000 in
theorem gX6_readItem_X6_readEnd : GoodIn wsX6_readItem (wsV RX6 35 RX6 yX6_readEnd wsX6_readEnd) := goodIn_app (goodIn_of _ (by decide +kernel)) ggX6_readItem_X6_readEnd
set_option maxRecDepth 20000 in
theorem ggX6_readItem_X6_readGap : GoodIn wsX6_readItem wsX6_readGap := goodIn_r _ [24, 25, 14, 15, 16, 5, 17, 1, 2, 3, 4, 6, 7, 8, 18, 19, 20, 50, 51, 52, 53, 54, 55, 56, 47, 48, 49] (by decide +kernel) (by decide +kernel)
set_option maxRecDepth 20000 in
theorem gX6_readItem_X6_readGap : GoodIn wsX6_readItem (wsV RX6 38 RX6 yX6_readGap wsX6_readGap) := goodIn_app (goodIn_of _ (by decide +kernel)) ggX6_readItem_X6_readGap
set_option maxRecDepth 20000 in
theorem ggX6_readItem_X6_readStart : GoodIn wsX6_readItem wsX6_readStart := goodIn_r _ [29, 30, 31, 32, 33, 34, 14, 15, 16, 5, 17, 1, 2, 3, 4, 6, 7, 8, 18, 19, 20, 35, 36, 37, 38, 39, 50, 51, 52, 53, 54, 55, 56, 57, 58, 59, 47, 48, 49] (by decide +kernel) (by decide +kernel)
set_option maxRecDepth 20000 in
theorem gX6_readItem_X6_readStart : GoodIn wsX6_readItem (wsV RX6 41 RX6 yX6_readStart wsX6_readStart) := goodIn_app (goodIn_of _ (by decide +kernel)) ggX6_readItem_X6_readStart
set_option maxRecDepth 20000 in
theorem ggX6_readItem_X6_readDrive : GoodIn wsX6_readItem wsX6_readDrive := goodIn_r _ [43, 44, 45, 46, 14, 15, 16, 5, 17, 1, 2, 3, 4, 6, 7, 8, 18, 19, 20, 50, 51, 52, 53, 54, 55, 56, 47, 48, 49] (by decide +kernel) (by decide +kernel)
set_option maxRecDepth 20000 in
theorem gX6_readItem_X6_readDrive : GoodIn wsX6_readItem (wsV RX6 44 RX6 yX6_readDrive wsX6_readDrive) := goodIn_app (goodIn_of _ (by decide +kernel)) ggX6_readItem_X6_readDrive
theorem dX6_readItem_0 : decode cX6_readItem 0 = .ok (.aload_n 0, 1) := by decide +kernel
theorem dX6_readItem_1 : decode cX6_readItem 1 = .ok (.aload_n 0, 1) := by decide +kernel
theorem dX6_readItem_2 : decode cX6_readItem 2 = .ok (.getfield 24, 3) := by decide +kernel
theorem dX6_readItem_5 : decode cX6_readItem 5 = .ok (.invokevirtual 31, 3) := by decide +kernel
theorem dX6_readItem_8 : decode cX6_readItem 8 = .ok (.istore_n 2, 1) := by decide +kernel
theorem dX6_readItem_9 : decode cX6_readItem 9 = .ok (.aload_n 0, 1) := by decide +kernel
theorem dX6_readItem_10 : decode cX6_readItem 10 = .ok (.dup, 1) := by decide +kernel
theorem dX6_readItem_11 : decode cX6_readItem 11 = .ok (.getfield 24, 3) := by decide +kernel
theorem dX6_readItem_14 : decode cX6_readItem 14 = .ok (.iconst 1, 1) := by decide +kernel
theorem dX6_readItem_15 : decode cX6_readItem 15 = .ok (.iadd, 1) := by decide +kernel
theorem dX6_readItem_16 : decode cX6_readItem 16 = .ok (.putfield 24, 3) := by decide +kernel
theorem dX6_readItem_19 : decode cX6_readItem 19 = .ok (.iload_n 2, 1) := by decide +kernel
theorem dX6_readItem_20 : decode cX6_readItem 20 = .ok (.tableswitch 76 99 107 #[64, 76, 52, 76, 58, 76, 76, 76, 70], 52) := by decide +kernel
theorem dX6_readItem_72 : decode cX6_readItem 72 = .ok (.aload_n 0, 1) := by decide +kernel
theorem dX6_readItem_73 : decode cX6_readItem 73 = .ok (.aload_n 1, 1) := by decide +kernel
theorem dX6_readItem_74 : decode cX6_readItem 74 = .ok (.invokevirtual 35, 3) := by decide +kernel
theorem dX6_readItem_77 : decode cX6_readItem 77 = .ok (.ireturn, 1) := by decide +kernel
theorem dX6_readItem_78 : decode cX6_readItem 78 = .ok (.aload_n 0, 1) := by decide +kernel
theorem dX6_readItem_79 : decode cX6_readItem 79 = .ok (.aload_n 1, 1) := by decide +kernel
theorem dX6_readItem_80 : decode cX6_readItem 80 = .ok (.invokevirtual 38, 3) := by decide +kernel
theorem dX6_readItem_83 : decode cX6_readItem 83 = .ok (.ireturn, 1) := by decide +kernel
theorem dX6_readItem_84 : decode cX6_readItem 84 = .ok (.aload_n 0, 1) := by decide +kernel
theorem dX6_readItem_85 : decode cX6_readItem 85 = .ok (.aload_n 1, 1) := by decide +kernel
theorem dX6_readItem_86 : decode cX6_readItem 86 = .ok (.invokevirtual 41, 3) := by decide +kernel
theorem dX6_readItem_89 : decode cX6_readItem 89 = .ok (.ireturn, 1) := by decide +kernel
theorem dX6_readItem_90 : decode cX6_readItem 90 = .ok (.aload_n 0, 1) := by decide +kernel
theorem dX6_readItem_91 : decode cX6_readItem 91 = .ok (.aload_n 1, 1) := by decide +kernel
theorem dX6_readItem_92 : decode cX6_readItem 92 = .ok (.invokevirtual 44, 3) := by decide +kernel
theorem dX6_readItem_95 : decode cX6_readItem 95 = .ok (.ireturn, 1) := by decide +kernel
theorem dX6_readItem_96 : decode cX6_readItem 96 = .ok (.iconst 0, 1) := by decide +kernel
theorem dX6_readItem_97 : decode cX6_readItem 97 = .ok (.ireturn, 1) := by decide +kernel
set_option maxRecDepth 20000 in
theorem ggX6_readEnd_X6_readNumber : GoodIn wsX6_readEnd wsX6_readNumber := goodIn_r _ [6, 7, 8, 9, 10, 5, 11, 12, 13, 14, 15, 16, 24, 25, 26] (by decide +kernel) (by decide +kernel)
set_option maxRecDepth 20000 in
theorem gX6_readEnd_X6_readNumber : GoodIn wsX6_readEnd (wsV RX6 47 RX6 yX6_readNumber wsX6_readNumber) := goodIn_app (goodIn_of _ (by decide +kernel)) ggX6_readEnd_X6_readNumber
set_option maxRecDepth 20000 in
theorem ggX6_readEnd_X7_isWithin : GoodIn wsX6_readEnd wsX7_isWithin := goodIn_r _ [16] (by decide +kernel) (by decide +kernel)
set_option maxRecDepth 20000 in
theorem gX6_readEnd_X7_isWithin_n54 : GoodIn wsX6_readEnd (wsX7_isWithin) := ggX6_readEnd_X7_isWithin
theorem dX6_readEnd_0 : decode cX6_readEnd 0 = .ok (.aload_n 1, 1) := by decide +kernel
theorem dX6_readEnd_1 : decode cX6_readEnd 1 = .ok (.aload_n 0, 1) := by decide +kernel
theorem dX6_readEnd_2 : decode cX6_readEnd 2 = .ok (.bipush 59, 2) := by decide +kernel
theorem dX6_readEnd_4 : decode cX6_readEnd 4 = .ok (.invokevirtual 47, 3) := by decide +kernel
theorem dX6_readEnd_7 : decode cX6_readEnd 7 = .ok (.putfield 51, 3) := by decide +kernel
theorem dX6_readEnd_10 : decode cX6_readEnd 10 = .ok (.aload_n 1, 1) := by decide +kernel
theorem dX6_readEnd_11 : decode cX6_readEnd 11 = .ok (.getfield 51, 3) := by decide +kernel
theorem dX6_readEnd_14 : decode cX6_readEnd 14 = .ok (.sipush 200, 3) := by decide +kernel
theorem dX6_readEnd_17 : decode cX6_readEnd 17 = .ok (.sipush 999, 3) := by decide +kernel
theorem dX6_readEnd_20 : decode cX6_readEnd 20 = .ok (.invokestatic 54, 3) := by decide +kernel
theorem dX6_readEnd_23 : decode cX6_readEnd 23 = .ok (.ireturn, 1) := by decide +kernel
set_option maxRecDepth 20000 in
theorem ggX6_readGap_X6_readNumber : GoodIn wsX6_readGap wsX6_readNumber := goodIn_r _ [6, 7, 8, 9, 10, 5, 11, 12, 13, 14, 15, 16, 24, 25, 26] (by decide +kernel) (by decide +kernel)
set_option maxRecDepth 20000 in
theorem gX6_readGap_X6_readNumber : GoodIn wsX6_readGap (wsV RX6 47 RX6 yX6_readNumber wsX6_readNumber) := goodIn_app (goodIn_of _ (by decide +kernel)) ggX6_readGap_X6_readNumber
set_option maxRecDepth 20000 in
theorem ggX6_readGap_X7_isWithin : GoodIn wsX6_readGap wsX7_isWithin := goodIn_r _ [16] (by decide +kernel) (by decide +kernel)
set_option maxRecDepth 20000 in
theorem gX6_readGap_X7_isWithin_n54 : GoodIn wsX6_readGap (wsX7_isWithin) := ggX6_readGap_X7_isWithin
theorem dX6_readGap_0 : decode cX6_readGap 0 = .ok (.aload_n 1, 1) := by decide +kernel
theorem dX6_readGap_1 : decode cX6_readGap 1 = .ok (.aload_n 0, 1) := by decide +kernel
theorem dX6_readGap_2 : decode cX6_readGap 2 = .ok (.bipush 59, 2) := by decide +kernel
theorem dX6_readGap_4 : decode cX6_readGap 4 = .ok (.invokevirtual 47, 3) := by decide +kernel
theorem dX6_readGap_7 : decode cX6_readGap 7 = .ok (.putfield 58, 3) := by decide +kernel
theorem dX6_readGap_10 : decode cX6_readGap 10 = .ok (.aload_n 1, 1) := by decide +kernel
theorem dX6_readGap_11 : decode cX6_readGap 11 = .ok (.getfield 58, 3) := by decide +kernel
theorem dX6_readGap_14 : decode cX6_readGap 14 = .ok (.bipush 10, 2) := by decide +kernel
theorem dX6_readGap_16 : decode cX6_readGap 16 = .ok (.bipush 99, 2) := by decide +kernel
theorem dX6_readGap_18 : decode cX6_readGap 18 = .ok (.invokestatic 54, 3) := by decide +kernel
theorem dX6_readGap_21 : decode cX6_readGap 21 = .ok (.ireturn, 1) := by decide +kernel
set_option maxRecDepth 20000 in
theorem ggX6_readStart_X6_readNumber : GoodIn wsX6_readStart wsX6_readNumber := goodIn_r _ [10, 11, 12, 13, 14, 9, 15, 16, 17, 18, 19, 20, 36, 37, 38] (by decide +kernel) (by decide +kernel)
set_option maxRecDepth 20000 in
theorem gX6_readStart_X6_readNumber : GoodIn wsX6_readStart (wsV RX6 47 RX6 yX6_readNumber wsX6_readNumber) := goodIn_app (goodIn_of _ (by decide +kernel)) ggX6_readStart_X6_readNumber
set_option maxRecDepth 20000 in
theorem ggX6_readStart_X7_isCrane : GoodIn wsX6_readStart wsX7_isCrane := goodIn_r _ [22] (by decide +kernel) (by decide +kernel)
set_option maxRecDepth 20000 in
theorem gX6_readStart_X7_isCrane_n61 : GoodIn wsX6_readStart (wsX7_isCrane) := ggX6_readStart_X7_isCrane
set_option maxRecDepth 20000 in
theorem ggX6_readStart_X7_isWithin : GoodIn wsX6_readStart wsX7_isWithin := goodIn_r _ [20] (by decide +kernel) (by decide +kernel)
set_option maxRecDepth 20000 in
theorem gX6_readStart_X7_isWithin_n54 : GoodIn wsX6_readStart (wsX7_isWithin) := ggX6_readStart_X7_isWithin
set_option maxRecDepth 20000 in
theorem ggX6_readStart_X7_isRope : GoodIn wsX6_readStart wsX7_isRope := goodIn_r _ [24, 25, 18, 19, 20] (by decide +kernel) (by decide +kernel)
set_option maxRecDepth 20000 in
theorem gX6_readStart_X7_isRope_n83 : GoodIn wsX6_readStart (wsX7_isRope) := ggX6_readStart_X7_isRope
theorem dX6_readStart_0 : decode cX6_readStart 0 = .ok (.aload_n 0, 1) := by decide +kernel
theorem dX6_readStart_1 : decode cX6_readStart 1 = .ok (.bipush 44, 2) := by decide +kernel
theorem dX6_readStart_3 : decode cX6_readStart 3 = .ok (.invokevirtual 47, 3) := by decide +kernel
theorem dX6_readStart_6 : decode cX6_readStart 6 = .ok (.istore_n 2, 1) := by decide +kernel
theorem dX6_readStart_7 : decode cX6_readStart 7 = .ok (.iload_n 2, 1) := by decide +kernel
theorem dX6_readStart_8 : decode cX6_readStart 8 = .ok (.invokestatic 61, 3) := by decide +kernel
theorem dX6_readStart_11 : decode cX6_readStart 11 = .ok (.ifCond .ne 5, 3) := by decide +kernel
theorem dX6_readStart_14 : decode cX6_readStart 14 = .ok (.iconst 0, 1) := by decide +kernel
theorem dX6_readStart_15 : decode cX6_readStart 15 = .ok (.ireturn, 1) := by decide +kernel
theorem dX6_readStart_16 : decode cX6_readStart 16 = .ok (.iload_n 2, 1) := by decide +kernel
theorem dX6_readStart_17 : decode cX6_readStart 17 = .ok (.ifCond .ne 10, 3) := by decide +kernel
theorem dX6_readStart_20 : decode cX6_readStart 20 = .ok (.aload_n 1, 1) := by decide +kernel
theorem dX6_readStart_21 : decode cX6_readStart 21 = .ok (.getfield 65, 3) := by decide +kernel
theorem dX6_readStart_24 : decode cX6_readStart 24 = .ok (.goto 7, 3) := by decide +kernel
theorem dX6_readStart_27 : decode cX6_readStart 27 = .ok (.aload_n 1, 1) := by decide +kernel
theorem dX6_readStart_28 : decode cX6_readStart 28 = .ok (.getfield 69, 3) := by decide +kernel
theorem dX6_readStart_31 : decode cX6_readStart 31 = .ok (.astore_n 3, 1) := by decide +kernel
theorem dX6_readStart_32 : decode cX6_readStart 32 = .ok (.aload_n 3, 1) := by decide +kernel
theorem dX6_readStart_33 : decode cX6_readStart 33 = .ok (.aload_n 0, 1) := by decide +kernel
theorem dX6_readStart_34 : decode cX6_readStart 34 = .ok (.bipush 44, 2) := by decide +kernel
theorem dX6_readStart_36 : decode cX6_readStart 36 = .ok (.invokevirtual 47, 3) := by decide +kernel
theorem dX6_readStart_39 : decode cX6_readStart 39 = .ok (.putfield 72, 3) := by decide +kernel
theorem dX6_readStart_42 : decode cX6_readStart 42 = .ok (.aload_n 3, 1) := by decide +kernel
theorem dX6_readStart_43 : decode cX6_readStart 43 = .ok (.aload_n 0, 1) := by decide +kernel
theorem dX6_readStart_44 : decode cX6_readStart 44 = .ok (.bipush 44, 2) := by decide +kernel
theorem dX6_readStart_46 : decode cX6_readStart 46 = .ok (.invokevirtual 47, 3) := by decide +kernel
theorem dX6_readStart_49 : decode cX6_readStart 49 = .ok (.putfield 77, 3) := by decide +kernel
theorem dX6_readStart_52 : decode cX6_readStart 52 = .ok (.aload_n 3, 1) := by decide +kernel
theorem dX6_readStart_53 : decode cX6_readStart 53 = .ok (.aload_n 0, 1) := by decide +kernel
theorem dX6_readStart_54 : decode cX6_readStart 54 = .ok (.bipush 59, 2) := by decide +kernel
theorem dX6_readStart_56 : decode cX6_readStart 56 = .ok (.invokevirtual 47, 3) := by decide +kernel
theorem dX6_readStart_59 : decode cX6_readStart 59 = .ok (.putfield 80, 3) := by decide +kernel
theorem dX6_readStart_62 : decode cX6_readStart 62 = .ok (.aload_n 3, 1) := by decide +kernel
theorem dX6_readStart_63 : decode cX6_readStart 63 = .ok (.getfield 72, 3) := by decide +kernel
theorem dX6_readStart_66 : decode cX6_readStart 66 = .ok (.iconst 0, 1) := by decide +kernel
theorem dX6_readStart_67 : decode cX6_readStart 67 = .ok (.sipush 999, 3) := by decide +kernel
theorem dX6_readStart_70 : decode cX6_readStart 70 = .ok (.invokestatic 54, 3) := by decide +kernel
theorem dX6_readStart_73 : decode cX6_readStart 73 = .ok (.ifCond .eq 30, 3) := by decide +kernel
theorem dX6_readStart_76 : decode cX6_readStart 76 = .ok (.aload_n 3, 1) := by decide +kernel
theorem dX6_readStart_77 : decode cX6_readStart 77 = .ok (.getfield 77, 3) := by decide +kernel
theorem dX6_readStart_80 : decode cX6_readStart 80 = .ok (.invokestatic 83, 3) := by decide +kernel
theorem dX6_readStart_83 : decode cX6_readStart 83 = .ok (.ifCond .eq 20, 3) := by decide +kernel
theorem dX6_readStart_86 : decode cX6_readStart 86 = .ok (.aload_n 3, 1) := by decide +kernel
theorem dX6_readStart_87 : decode cX6_readStart 87 = .ok (.getfield 80, 3) := by decide +kernel
theorem dX6_readStart_90 : decode cX6_readStart 90 = .ok (.iconst 0, 1) := by decide +kernel
theorem dX6_readStart_91 : decode cX6_readStart 91 = .ok (.bipush 99, 2) := by decide +kernel
theorem dX6_readStart_93 : decode cX6_readStart 93 = .ok (.invokestatic 54, 3) := by decide +kernel
theorem dX6_readStart_96 : decode cX6_readStart 96 = .ok (.ifCond .eq 7, 3) := by decide +kernel
theorem dX6_readStart_99 : decode cX6_readStart 99 = .ok (.iconst 1, 1) := by decide +kernel
theorem dX6_readStart_100 : decode cX6_readStart 100 = .ok (.goto 4, 3) := by decide +kernel
theorem dX6_readStart_103 : decode cX6_readStart 103 = .ok (.iconst 0, 1) := by decide +kernel
theorem dX6_readStart_104 : decode cX6_readStart 104 = .ok (.ireturn, 1) := by decide +kernel
set_option maxRecDepth 20000 in
theorem ggX6_readDrive_X6_readNumber : GoodIn wsX6_readDrive wsX6_readNumber := goodIn_r _ [8, 9, 10, 11, 12, 7, 13, 14, 15, 16, 17, 18, 26, 27, 28] (by decide +kernel) (by decide +kernel)
set_option maxRecDepth 20000 in
theorem gX6_readDrive_X6_readNumber : GoodIn wsX6_readDrive (wsV RX6 47 RX6 yX6_readNumber wsX6_readNumber) := goodIn_app (goodIn_of _ (by decide +kernel)) ggX6_readDrive_X6_readNumber
set_option maxRecDepth 20000 in
theorem ggX6_readDrive_X7_isWithin : GoodIn wsX6_readDrive wsX7_isWithin := goodIn_r _ [18] (by decide +kernel) (by decide +kernel)
set_option maxRecDepth 20000 in
theorem gX6_readDrive_X7_isWithin_n54 : GoodIn wsX6_readDrive (wsX7_isWithin) := ggX6_readDrive_X7_isWithin
theorem dX6_readDrive_0 : decode cX6_readDrive 0 = .ok (.aload_n 1, 1) := by decide +kernel
theorem dX6_readDrive_1 : decode cX6_readDrive 1 = .ok (.aload_n 0, 1) := by decide +kernel
theorem dX6_readDrive_2 : decode cX6_readDrive 2 = .ok (.bipush 44, 2) := by decide +kernel
theorem dX6_readDrive_4 : decode cX6_readDrive 4 = .ok (.invokevirtual 47, 3) := by decide +kernel
theorem dX6_readDrive_7 : decode cX6_readDrive 7 = .ok (.putfield 86, 3) := by decide +kernel
theorem dX6_readDrive_10 : decode cX6_readDrive 10 = .ok (.aload_n 1, 1) := by decide +kernel
theorem dX6_readDrive_11 : decode cX6_readDrive 11 = .ok (.aload_n 0, 1) := by decide +kernel
theorem dX6_readDrive_12 : decode cX6_readDrive 12 = .ok (.bipush 44, 2) := by decide +kernel
theorem dX6_readDrive_14 : decode cX6_readDrive 14 = .ok (.invokevirtual 47, 3) := by decide +kernel
theorem dX6_readDrive_17 : decode cX6_readDrive 17 = .ok (.putfield 89, 3) := by decide +kernel
theorem dX6_readDrive_20 : decode cX6_readDrive 20 = .ok (.aload_n 1, 1) := by decide +kernel
theorem dX6_readDrive_21 : decode cX6_readDrive 21 = .ok (.aload_n 0, 1) := by decide +kernel
theorem dX6_readDrive_22 : decode cX6_readDrive 22 = .ok (.bipush 59, 2) := by decide +kernel
theorem dX6_readDrive_24 : decode cX6_readDrive 24 = .ok (.invokevirtual 47, 3) := by decide +kernel
theorem dX6_readDrive_27 : decode cX6_readDrive 27 = .ok (.putfield 92, 3) := by decide +kernel
theorem dX6_readDrive_30 : decode cX6_readDrive 30 = .ok (.aload_n 1, 1) := by decide +kernel
theorem dX6_readDrive_31 : decode cX6_readDrive 31 = .ok (.getfield 86, 3) := by decide +kernel
theorem dX6_readDrive_34 : decode cX6_readDrive 34 = .ok (.iconst 1, 1) := by decide +kernel
theorem dX6_readDrive_35 : decode cX6_readDrive 35 = .ok (.bipush 9, 2) := by decide +kernel
theorem dX6_readDrive_37 : decode cX6_readDrive 37 = .ok (.invokestatic 54, 3) := by decide +kernel
theorem dX6_readDrive_40 : decode cX6_readDrive 40 = .ok (.ifCond .eq 33, 3) := by decide +kernel
theorem dX6_readDrive_43 : decode cX6_readDrive 43 = .ok (.aload_n 1, 1) := by decide +kernel
theorem dX6_readDrive_44 : decode cX6_readDrive 44 = .ok (.getfield 89, 3) := by decide +kernel
theorem dX6_readDrive_47 : decode cX6_readDrive 47 = .ok (.iconst 1, 1) := by decide +kernel
theorem dX6_readDrive_48 : decode cX6_readDrive 48 = .ok (.bipush 40, 2) := by decide +kernel
theorem dX6_readDrive_50 : decode cX6_readDrive 50 = .ok (.invokestatic 54, 3) := by decide +kernel
theorem dX6_readDrive_53 : decode cX6_readDrive 53 = .ok (.ifCond .eq 20, 3) := by decide +kernel
theorem dX6_readDrive_56 : decode cX6_readDrive 56 = .ok (.aload_n 1, 1) := by decide +kernel
theorem dX6_readDrive_57 : decode cX6_readDrive 57 = .ok (.getfield 92, 3) := by decide +kernel
theorem dX6_readDrive_60 : decode cX6_readDrive 60 = .ok (.iconst 0, 1) := by decide +kernel
theorem dX6_readDrive_61 : decode cX6_readDrive 61 = .ok (.bipush 40, 2) := by decide +kernel
theorem dX6_readDrive_63 : decode cX6_readDrive 63 = .ok (.invokestatic 54, 3) := by decide +kernel
theorem dX6_readDrive_66 : decode cX6_readDrive 66 = .ok (.ifCond .eq 7, 3) := by decide +kernel
theorem dX6_readDrive_69 : decode cX6_readDrive 69 = .ok (.iconst 1, 1) := by decide +kernel
theorem dX6_readDrive_70 : decode cX6_readDrive 70 = .ok (.goto 4, 3) := by decide +kernel
theorem dX6_readDrive_73 : decode cX6_readDrive 73 = .ok (.iconst 0, 1) := by decide +kernel
theorem dX6_readDrive_74 : decode cX6_readDrive 74 = .ok (.ireturn, 1) := by decide +kernel
set_option maxRecDepth 20000 in
theorem ggX6_readNumber_X6_letterAt : GoodIn wsX6_readNumber wsX6_letterAt := goodIn_r _ [6, 7, 8, 12, 13, 14] (by decide +kernel) (by decide +kernel)
set_option maxRecDepth 20000 in
theorem gX6_readNumber_X6_letterAt : GoodIn wsX6_readNumber (wsV RX6 31 RX6 yX6_letterAt wsX6_letterAt) := goodIn_app (goodIn_of _ (by decide +kernel)) ggX6_readNumber_X6_letterAt
set_option maxRecDepth 20000 in
theorem ggX6_readNumber_X7_isWithin : GoodIn wsX6_readNumber wsX7_isWithin := goodIn_r _ [11] (by decide +kernel) (by decide +kernel)
set_option maxRecDepth 20000 in
theorem gX6_readNumber_X7_isWithin_n54 : GoodIn wsX6_readNumber (wsX7_isWithin) := ggX6_readNumber_X7_isWithin
theorem dX6_readNumber_0 : decode cX6_readNumber 0 = .ok (.iconst 0, 1) := by decide +kernel
theorem dX6_readNumber_1 : decode cX6_readNumber 1 = .ok (.istore_n 2, 1) := by decide +kernel
theorem dX6_readNumber_2 : decode cX6_readNumber 2 = .ok (.iconst 0, 1) := by decide +kernel
theorem dX6_readNumber_3 : decode cX6_readNumber 3 = .ok (.istore_n 3, 1) := by decide +kernel
theorem dX6_readNumber_4 : decode cX6_readNumber 4 = .ok (.iload_n 3, 1) := by decide +kernel
theorem dX6_readNumber_5 : decode cX6_readNumber 5 = .ok (.iconst 3, 1) := by decide +kernel
theorem dX6_readNumber_6 : decode cX6_readNumber 6 = .ok (.if_icmp .ge 54, 3) := by decide +kernel
theorem dX6_readNumber_9 : decode cX6_readNumber 9 = .ok (.aload_n 0, 1) := by decide +kernel
theorem dX6_readNumber_10 : decode cX6_readNumber 10 = .ok (.aload_n 0, 1) := by decide +kernel
theorem dX6_readNumber_11 : decode cX6_readNumber 11 = .ok (.getfield 24, 3) := by decide +kernel
theorem dX6_readNumber_14 : decode cX6_readNumber 14 = .ok (.invokevirtual 31, 3) := by decide +kernel
theorem dX6_readNumber_17 : decode cX6_readNumber 17 = .ok (.bipush 48, 2) := by decide +kernel
theorem dX6_readNumber_19 : decode cX6_readNumber 19 = .ok (.bipush 57, 2) := by decide +kernel
theorem dX6_readNumber_21 : decode cX6_readNumber 21 = .ok (.invokestatic 54, 3) := by decide +kernel
theorem dX6_readNumber_24 : decode cX6_readNumber 24 = .ok (.ifCond .eq 36, 3) := by decide +kernel
theorem dX6_readNumber_27 : decode cX6_readNumber 27 = .ok (.bipush 10, 2) := by decide +kernel
theorem dX6_readNumber_29 : decode cX6_readNumber 29 = .ok (.iload_n 2, 1) := by decide +kernel
theorem dX6_readNumber_30 : decode cX6_readNumber 30 = .ok (.imul, 1) := by decide +kernel
theorem dX6_readNumber_31 : decode cX6_readNumber 31 = .ok (.aload_n 0, 1) := by decide +kernel
theorem dX6_readNumber_32 : decode cX6_readNumber 32 = .ok (.aload_n 0, 1) := by decide +kernel
theorem dX6_readNumber_33 : decode cX6_readNumber 33 = .ok (.getfield 24, 3) := by decide +kernel
theorem dX6_readNumber_36 : decode cX6_readNumber 36 = .ok (.invokevirtual 31, 3) := by decide +kernel
theorem dX6_readNumber_39 : decode cX6_readNumber 39 = .ok (.iadd, 1) := by decide +kernel
theorem dX6_readNumber_40 : decode cX6_readNumber 40 = .ok (.bipush 48, 2) := by decide +kernel
theorem dX6_readNumber_42 : decode cX6_readNumber 42 = .ok (.isub, 1) := by decide +kernel
theorem dX6_readNumber_43 : decode cX6_readNumber 43 = .ok (.istore_n 2, 1) := by decide +kernel
theorem dX6_readNumber_44 : decode cX6_readNumber 44 = .ok (.iinc 3 1, 3) := by decide +kernel
theorem dX6_readNumber_47 : decode cX6_readNumber 47 = .ok (.aload_n 0, 1) := by decide +kernel
theorem dX6_readNumber_48 : decode cX6_readNumber 48 = .ok (.dup, 1) := by decide +kernel
theorem dX6_readNumber_49 : decode cX6_readNumber 49 = .ok (.getfield 24, 3) := by decide +kernel
theorem dX6_readNumber_52 : decode cX6_readNumber 52 = .ok (.iconst 1, 1) := by decide +kernel
theorem dX6_readNumber_53 : decode cX6_readNumber 53 = .ok (.iadd, 1) := by decide +kernel
theorem dX6_readNumber_54 : decode cX6_readNumber 54 = .ok (.putfield 24, 3) := by decide +kernel
theorem dX6_readNumber_57 : decode cX6_readNumber 57 = .ok (.goto (-53), 3) := by decide +kernel
theorem dX6_readNumber_60 : decode cX6_readNumber 60 = .ok (.aload_n 0, 1) := by decide +kernel
theorem dX6_readNumber_61 : decode cX6_readNumber 61 = .ok (.aload_n 0, 1) := by decide +kernel
theorem dX6_readNumber_62 : decode cX6_readNumber 62 = .ok (.getfield 24, 3) := by decide +kernel
theorem dX6_readNumber_65 : decode cX6_readNumber 65 = .ok (.invokevirtual 31, 3) := by decide +kernel
theorem dX6_readNumber_68 : decode cX6_readNumber 68 = .ok (.iload_n 1, 1) := by decide +kernel
theorem dX6_readNumber_69 : decode cX6_readNumber 69 = .ok (.if_icmp .ne 7, 3) := by decide +kernel
theorem dX6_readNumber_72 : decode cX6_readNumber 72 = .ok (.iconst 1, 1) := by decide +kernel
theorem dX6_readNumber_73 : decode cX6_readNumber 73 = .ok (.goto 4, 3) := by decide +kernel
theorem dX6_readNumber_76 : decode cX6_readNumber 76 = .ok (.iconst 0, 1) := by decide +kernel
theorem dX6_readNumber_77 : decode cX6_readNumber 77 = .ok (.istore 4, 2) := by decide +kernel
theorem dX6_readNumber_79 : decode cX6_readNumber 79 = .ok (.aload_n 0, 1) := by decide +kernel
theorem dX6_readNumber_80 : decode cX6_readNumber 80 = .ok (.dup, 1) := by decide +kernel
theorem dX6_readNumber_81 : decode cX6_readNumber 81 = .ok (.getfield 24, 3) := by decide +kernel
theorem dX6_readNumber_84 : decode cX6_readNumber 84 = .ok (.iconst 1, 1) := by decide +kernel
theorem dX6_readNumber_85 : decode cX6_readNumber 85 = .ok (.iadd, 1) := by decide +kernel
theorem dX6_readNumber_86 : decode cX6_readNumber 86 = .ok (.putfield 24, 3) := by decide +kernel
theorem dX6_readNumber_89 : decode cX6_readNumber 89 = .ok (.iload_n 3, 1) := by decide +kernel
theorem dX6_readNumber_90 : decode cX6_readNumber 90 = .ok (.ifCond .le 12, 3) := by decide +kernel
theorem dX6_readNumber_93 : decode cX6_readNumber 93 = .ok (.iload 4, 2) := by decide +kernel
theorem dX6_readNumber_95 : decode cX6_readNumber 95 = .ok (.ifCond .eq 7, 3) := by decide +kernel
theorem dX6_readNumber_98 : decode cX6_readNumber 98 = .ok (.iload_n 2, 1) := by decide +kernel
theorem dX6_readNumber_99 : decode cX6_readNumber 99 = .ok (.goto 5, 3) := by decide +kernel
theorem dX6_readNumber_102 : decode cX6_readNumber 102 = .ok (.bipush (-4), 2) := by decide +kernel
theorem dX6_readNumber_104 : decode cX6_readNumber 104 = .ok (.ireturn, 1) := by decide +kernel
theorem dX6_letterAt_0 : decode cX6_letterAt 0 = .ok (.iload_n 1, 1) := by decide +kernel
theorem dX6_letterAt_1 : decode cX6_letterAt 1 = .ok (.ifCond .lt 20, 3) := by decide +kernel
theorem dX6_letterAt_4 : decode cX6_letterAt 4 = .ok (.iload_n 1, 1) := by decide +kernel
theorem dX6_letterAt_5 : decode cX6_letterAt 5 = .ok (.aload_n 0, 1) := by decide +kernel
theorem dX6_letterAt_6 : decode cX6_letterAt 6 = .ok (.getfield 15, 3) := by decide +kernel
theorem dX6_letterAt_9 : decode cX6_letterAt 9 = .ok (.if_icmp .ge 12, 3) := by decide +kernel
theorem dX6_letterAt_12 : decode cX6_letterAt 12 = .ok (.iload_n 1, 1) := by decide +kernel
theorem dX6_letterAt_13 : decode cX6_letterAt 13 = .ok (.aload_n 0, 1) := by decide +kernel
theorem dX6_letterAt_14 : decode cX6_letterAt 14 = .ok (.getfield 9, 3) := by decide +kernel
theorem dX6_letterAt_17 : decode cX6_letterAt 17 = .ok (.arraylength, 1) := by decide +kernel
theorem dX6_letterAt_18 : decode cX6_letterAt 18 = .ok (.if_icmp .lt 6, 3) := by decide +kernel
theorem dX6_letterAt_21 : decode cX6_letterAt 21 = .ok (.bipush (-4), 2) := by decide +kernel
theorem dX6_letterAt_23 : decode cX6_letterAt 23 = .ok (.ireturn, 1) := by decide +kernel
theorem dX6_letterAt_24 : decode cX6_letterAt 24 = .ok (.aload_n 0, 1) := by decide +kernel
theorem dX6_letterAt_25 : decode cX6_letterAt 25 = .ok (.getfield 9, 3) := by decide +kernel
theorem dX6_letterAt_28 : decode cX6_letterAt 28 = .ok (.iload_n 1, 1) := by decide +kernel
theorem dX6_letterAt_29 : decode cX6_letterAt 29 = .ok (.caload, 1) := by decide +kernel
theorem dX6_letterAt_30 : decode cX6_letterAt 30 = .ok (.ireturn, 1) := by decide +kernel
