/-! ===== BEGIN words of one list among another's, by their places ===== -/
theorem goodIn_r {big : List Cond} (ws : List Cond) (ps : List Nat) (hp : ws = ps.filterMap (fun i => big[i]?)) (h : ws.all goodWord = true) : GoodIn big ws := by
  intro w hw
  have h1 := List.all_eq_true.mp h w hw
  rw [hp] at hw
  obtain ⟨i, -, hi⟩ := List.mem_filterMap.mp hw
  have hm : w ∈ big := by first | exact List.mem_of_getElem? hi | exact List.getElem?_mem hi
  exact ⟨hm, good_of_word h1⟩
theorem goodIn_app {big a b : List Cond} (ha : GoodIn big a) (hb : GoodIn big b) : GoodIn big (a ++ b) := fun w h => (List.mem_append.mp h).elim (ha w) (hb w)
theorem goodIn_ca {big a b : List Cond} {c : Cond} (ha : GoodIn big (c :: a)) (hb : GoodIn big b) : GoodIn big (c :: (a ++ b)) := fun w h => (List.mem_cons.mp h).elim (fun e => ha w (List.mem_cons.mpr (Or.inl e))) (fun h => (List.mem_append.mp h).elim (fun h => ha w (List.mem_cons.mpr (Or.inr h))) (hb w))
theorem goodIn_sub {big ws : List Cond} (hm : ∀ w ∈ ws, w ∈ big) (h : ws.all goodWord = true) : GoodIn big ws := fun w hw => ⟨hm w hw, good_of_word (List.all_eq_true.mp h w hw)⟩
/-! ===== END ===== -/

/-! ===== BEGIN printed: names, fields, word lists, decode rows ===== -/
def RX0 : String := "SwingCranes$Crane"
def TX0 : u_T := fun k => match k with
  | 0 => ("SwingCranes$Crane", "place", "I", false)
  | 1 => ("SwingCranes$Crane", "speed", "I", false)
  | 2 => ("SwingCranes$Crane", "rope", "I", false)
  | 3 => ("SwingCranes$Crane", "load", "I", false)
  | 4 => ("SwingCranes$Crane", "swing", "I", false)
  | 5 => ("SwingCranes$Crane", "rate", "I", false)
  | 6 => ("SwingCranes$Crane", "want", "I", false)
  | 7 => ("SwingCranes$Crane", "target", "I", false)
  | 8 => ("SwingCranes$Crane", "soonIn", "I", false)
  | 9 => ("SwingCranes$Crane", "soonBy", "I", false)
  | 10 => ("SwingCranes$Crane", "laterIn", "I", false)
  | 11 => ("SwingCranes$Crane", "laterBy", "I", false)
  | _ => ("SwingCranes$Crane", "braked", "Z", false)
def tyX0 : Nat → FieldType := fun k => match k with
  | 0 => .int
  | 1 => .int
  | 2 => .int
  | 3 => .int
  | 4 => .int
  | 5 => .int
  | 6 => .int
  | 7 => .int
  | 8 => .int
  | 9 => .int
  | 10 => .int
  | 11 => .int
  | _ => .boolean
abbrev wsX00 : List Cond := u_ws RX0 TX0 13
theorem nmX0 : ∀ a, a < 13 → ∀ b, b < 13 → a ≠ b → (TX0 a).2.1 ≠ (TX0 b).2.1 := by decide +kernel
theorem tyX0_ok : ∀ k, k < 13 → parseFieldDescriptor (TX0 k).2.2.1 = some (tyX0 k) := by decide +kernel
abbrev cX0_init : ByteArray := prog_2_method_1_code
def yX0_init : MethodName := ⟨RX0, "<init>", "()V"⟩
abbrev cX0_begin : ByteArray := prog_2_method_2_code
def yX0_begin : MethodName := ⟨RX0, "begin", "(LSwingCranes$Start;)V"⟩
abbrev cX0_copyFrom : ByteArray := prog_2_method_3_code
def yX0_copyFrom : MethodName := ⟨RX0, "copyFrom", "(LSwingCranes$Crane;)V"⟩
abbrev cX0_setSteps : ByteArray := prog_2_method_4_code
def yX0_setSteps : MethodName := ⟨RX0, "setSteps", "(III)V"⟩
abbrev cX0_planAtOnce : ByteArray := prog_2_method_5_code
def yX0_planAtOnce : MethodName := ⟨RX0, "planAtOnce", "(I)V"⟩
abbrev cX0_planByHalves : ByteArray := prog_2_method_6_code
def yX0_planByHalves : MethodName := ⟨RX0, "planByHalves", "(II)V"⟩
abbrev cX0_stepsToCome : ByteArray := prog_2_method_7_code
def yX0_stepsToCome : MethodName := ⟨RX0, "stepsToCome", "()I"⟩
abbrev cX0_isSoon : ByteArray := prog_2_method_8_code
def yX0_isSoon : MethodName := ⟨RX0, "isSoon", "(I)Z"⟩
abbrev cX0_stepIn : ByteArray := prog_2_method_9_code
def yX0_stepIn : MethodName := ⟨RX0, "stepIn", "(I)I"⟩
abbrev cX0_stepBy : ByteArray := prog_2_method_10_code
def yX0_stepBy : MethodName := ⟨RX0, "stepBy", "(I)I"⟩
abbrev cX0_limit : ByteArray := prog_2_method_11_code
def yX0_limit : MethodName := ⟨RX0, "limit", "(LSwingCranes$Layout;)I"⟩
abbrev cX0_isQuiet : ByteArray := prog_2_method_12_code
def yX0_isQuiet : MethodName := ⟨RX0, "isQuiet", "()Z"⟩
abbrev cX0_roll : ByteArray := prog_2_method_13_code
def yX0_roll : MethodName := ⟨RX0, "roll", "(LSwingCranes$Layout;II)V"⟩
abbrev cX0_takeSteps : ByteArray := prog_2_method_14_code
def yX0_takeSteps : MethodName := ⟨RX0, "takeSteps", "()V"⟩
abbrev cX0_speedNearerToWant : ByteArray := prog_2_method_15_code
def yX0_speedNearerToWant : MethodName := ⟨RX0, "speedNearerToWant", "(LSwingCranes$Layout;)I"⟩
abbrev cX0_speedForRoom : ByteArray := prog_2_method_16_code
def yX0_speedForRoom : MethodName := ⟨RX0, "speedForRoom", "(III)I"⟩
abbrev cX0_swingOut : ByteArray := prog_2_method_17_code
def yX0_swingOut : MethodName := ⟨RX0, "swingOut", "(I)V"⟩
abbrev cX0_hoistRope : ByteArray := prog_2_method_18_code
def yX0_hoistRope : MethodName := ⟨RX0, "hoistRope", "(III)V"⟩
def RX1 : String := "SwingCranes$Layout"
def TX1 : u_T := fun k => match k with
  | 0 => ("SwingCranes$Layout", "end", "I", false)
  | 1 => ("SwingCranes$Layout", "gap", "I", false)
  | 2 => ("SwingCranes$Layout", "change", "I", false)
  | 3 => ("SwingCranes$Layout", "top", "I", false)
  | 4 => ("SwingCranes$Layout", "hoist", "I", false)
  | 5 => ("SwingCranes$Layout", "left", "LSwingCranes$Start;", true)
  | _ => ("SwingCranes$Layout", "right", "LSwingCranes$Start;", true)
def tyX1 : Nat → FieldType := fun k => match k with
  | 0 => .int
  | 1 => .int
  | 2 => .int
  | 3 => .int
  | 4 => .int
  | 5 => .object "SwingCranes$Start"
  | _ => .object "SwingCranes$Start"
abbrev wsX10 : List Cond := u_ws RX1 TX1 7
theorem nmX1 : ∀ a, a < 7 → ∀ b, b < 7 → a ≠ b → (TX1 a).2.1 ≠ (TX1 b).2.1 := by decide +kernel
theorem tyX1_ok : ∀ k, k < 7 → parseFieldDescriptor (TX1 k).2.2.1 = some (tyX1 k) := by decide +kernel
abbrev cX1_init : ByteArray := prog_3_method_1_code
def yX1_init : MethodName := ⟨RX1, "<init>", "()V"⟩
abbrev cX1_setUsual : ByteArray := prog_3_method_2_code
def yX1_setUsual : MethodName := ⟨RX1, "setUsual", "()V"⟩
abbrev cX1_holdsBoth : ByteArray := prog_3_method_3_code
def yX1_holdsBoth : MethodName := ⟨RX1, "holdsBoth", "()Z"⟩
def RX2 : String := "SwingCranes$Pair"
def TX2 : u_T := fun k => match k with
  | 0 => ("SwingCranes$Pair", "left", "LSwingCranes$Crane;", true)
  | 1 => ("SwingCranes$Pair", "right", "LSwingCranes$Crane;", true)
  | _ => ("SwingCranes$Pair", "level", "I", false)
def tyX2 : Nat → FieldType := fun k => match k with
  | 0 => .object "SwingCranes$Crane"
  | 1 => .object "SwingCranes$Crane"
  | _ => .int
abbrev wsX20 : List Cond := u_ws RX2 TX2 3
theorem nmX2 : ∀ a, a < 3 → ∀ b, b < 3 → a ≠ b → (TX2 a).2.1 ≠ (TX2 b).2.1 := by decide +kernel
theorem tyX2_ok : ∀ k, k < 3 → parseFieldDescriptor (TX2 k).2.2.1 = some (tyX2 k) := by decide +kernel
abbrev cX2_init : ByteArray := prog_4_method_1_code
def yX2_init : MethodName := ⟨RX2, "<init>", "()V"⟩
abbrev cX2_begin : ByteArray := prog_4_method_2_code
def yX2_begin : MethodName := ⟨RX2, "begin", "(LSwingCranes$Layout;)V"⟩
abbrev cX2_copyFrom : ByteArray := prog_4_method_3_code
def yX2_copyFrom : MethodName := ⟨RX2, "copyFrom", "(LSwingCranes$Pair;)V"⟩
abbrev cX2_side : ByteArray := prog_4_method_4_code
def yX2_side : MethodName := ⟨RX2, "side", "(I)LSwingCranes$Crane;"⟩
abbrev cX2_freeBetween : ByteArray := prog_4_method_5_code
def yX2_freeBetween : MethodName := ⟨RX2, "freeBetween", "(LSwingCranes$Layout;)I"⟩
abbrev cX2_isCoupled : ByteArray := prog_4_method_6_code
def yX2_isCoupled : MethodName := ⟨RX2, "isCoupled", "()Z"⟩
abbrev cX2_leftHeeds : ByteArray := prog_4_method_7_code
def yX2_leftHeeds : MethodName := ⟨RX2, "leftHeeds", "(I)Z"⟩
abbrev cX2_rightHeeds : ByteArray := prog_4_method_8_code
def yX2_rightHeeds : MethodName := ⟨RX2, "rightHeeds", "(I)Z"⟩
abbrev cX2_heeding : ByteArray := prog_4_method_9_code
def yX2_heeding : MethodName := ⟨RX2, "heeding", "()I"⟩
abbrev cX2_tellAtOnce : ByteArray := prog_4_method_10_code
def yX2_tellAtOnce : MethodName := ⟨RX2, "tellAtOnce", "(II)I"⟩
abbrev cX2_tellByHalves : ByteArray := prog_4_method_11_code
def yX2_tellByHalves : MethodName := ⟨RX2, "tellByHalves", "(III)I"⟩
abbrev cX2_aimsAt : ByteArray := prog_4_method_12_code
def yX2_aimsAt : MethodName := ⟨RX2, "aimsAt", "(II)Z"⟩
abbrev cX2_aim : ByteArray := prog_4_method_13_code
def yX2_aim : MethodName := ⟨RX2, "aim", "(II)V"⟩
abbrev cX2_goOn : ByteArray := prog_4_method_14_code
def yX2_goOn : MethodName := ⟨RX2, "goOn", "(LSwingCranes$Layout;)I"⟩
def RX3 : String := "SwingCranes$Spots"
def TX3 : u_T := fun k => match k with
  | 0 => ("SwingCranes$Spots", "names", "[I", true)
  | 1 => ("SwingCranes$Spots", "ticks", "[I", true)
  | _ => ("SwingCranes$Spots", "many", "I", false)
def tyX3 : Nat → FieldType := fun k => match k with
  | 0 => .array .int
  | 1 => .array .int
  | _ => .int
abbrev wsX30 : List Cond := u_ws RX3 TX3 3
theorem nmX3 : ∀ a, a < 3 → ∀ b, b < 3 → a ≠ b → (TX3 a).2.1 ≠ (TX3 b).2.1 := by decide +kernel
theorem tyX3_ok : ∀ k, k < 3 → parseFieldDescriptor (TX3 k).2.2.1 = some (tyX3 k) := by decide +kernel
abbrev cX3_init : ByteArray := prog_5_method_1_code
def yX3_init : MethodName := ⟨RX3, "<init>", "()V"⟩
abbrev cX3_copyFrom : ByteArray := prog_5_method_2_code
def yX3_copyFrom : MethodName := ⟨RX3, "copyFrom", "(LSwingCranes$Spots;)V"⟩
abbrev cX3_put : ByteArray := prog_5_method_3_code
def yX3_put : MethodName := ⟨RX3, "put", "(III)V"⟩
abbrev cX3_addTick : ByteArray := prog_5_method_4_code
def yX3_addTick : MethodName := ⟨RX3, "addTick", "(LSwingCranes$Crane;)V"⟩
abbrev cX3_find : ByteArray := prog_5_method_5_code
def yX3_find : MethodName := ⟨RX3, "find", "(I)I"⟩
abbrev cX3_nameOf : ByteArray := prog_5_method_6_code
def yX3_nameOf : MethodName := ⟨RX3, "nameOf", "(II)I"⟩
abbrev cX3_nameAt : ByteArray := prog_5_method_7_code
def yX3_nameAt : MethodName := ⟨RX3, "nameAt", "(I)I"⟩
abbrev cX3_ticksAt : ByteArray := prog_5_method_8_code
def yX3_ticksAt : MethodName := ⟨RX3, "ticksAt", "(I)I"⟩
abbrev cX3_ticksIn : ByteArray := prog_5_method_9_code
def yX3_ticksIn : MethodName := ⟨RX3, "ticksIn", "(II)I"⟩
abbrev cX3_blockAt : ByteArray := prog_5_method_10_code
def yX3_blockAt : MethodName := ⟨RX3, "blockAt", "(I)I"⟩
abbrev cX3_floorAt : ByteArray := prog_5_method_11_code
def yX3_floorAt : MethodName := ⟨RX3, "floorAt", "(I)I"⟩
def RX4 : String := "SwingCranes$Start"
def TX4 : u_T := fun k => match k with
  | 0 => ("SwingCranes$Start", "place", "I", false)
  | 1 => ("SwingCranes$Start", "rope", "I", false)
  | _ => ("SwingCranes$Start", "load", "I", false)
def tyX4 : Nat → FieldType := fun k => match k with
  | 0 => .int
  | 1 => .int
  | _ => .int
abbrev wsX40 : List Cond := u_ws RX4 TX4 3
theorem nmX4 : ∀ a, a < 3 → ∀ b, b < 3 → a ≠ b → (TX4 a).2.1 ≠ (TX4 b).2.1 := by decide +kernel
theorem tyX4_ok : ∀ k, k < 3 → parseFieldDescriptor (TX4 k).2.2.1 = some (tyX4 k) := by decide +kernel
abbrev cX4_init : ByteArray := prog_6_method_1_code
def yX4_init : MethodName := ⟨RX4, "<init>", "()V"⟩
abbrev cX4_set : ByteArray := prog_6_method_2_code
def yX4_set : MethodName := ⟨RX4, "set", "(III)V"⟩
def RX5 : String := "SwingCranes$Story"
def TX5 : u_T := fun k => match k with
  | 0 => ("SwingCranes$Story", "pair", "LSwingCranes$Pair;", true)
  | 1 => ("SwingCranes$Story", "leftSpots", "LSwingCranes$Spots;", true)
  | 2 => ("SwingCranes$Story", "rightSpots", "LSwingCranes$Spots;", true)
  | _ => ("SwingCranes$Story", "ticks", "I", false)
def tyX5 : Nat → FieldType := fun k => match k with
  | 0 => .object "SwingCranes$Pair"
  | 1 => .object "SwingCranes$Spots"
  | 2 => .object "SwingCranes$Spots"
  | _ => .int
abbrev wsX50 : List Cond := u_ws RX5 TX5 4
theorem nmX5 : ∀ a, a < 4 → ∀ b, b < 4 → a ≠ b → (TX5 a).2.1 ≠ (TX5 b).2.1 := by decide +kernel
theorem tyX5_ok : ∀ k, k < 4 → parseFieldDescriptor (TX5 k).2.2.1 = some (tyX5 k) := by decide +kernel
abbrev cX5_init : ByteArray := prog_7_method_1_code
def yX5_init : MethodName := ⟨RX5, "<init>", "()V"⟩
abbrev cX5_begin : ByteArray := prog_7_method_2_code
def yX5_begin : MethodName := ⟨RX5, "begin", "(LSwingCranes$Layout;)V"⟩
abbrev cX5_copyFrom : ByteArray := prog_7_method_3_code
def yX5_copyFrom : MethodName := ⟨RX5, "copyFrom", "(LSwingCranes$Story;)V"⟩
abbrev cX5_spotsOf : ByteArray := prog_7_method_4_code
def yX5_spotsOf : MethodName := ⟨RX5, "spotsOf", "(I)LSwingCranes$Spots;"⟩
abbrev cX5_goOn : ByteArray := prog_7_method_5_code
def yX5_goOn : MethodName := ⟨RX5, "goOn", "(LSwingCranes$Layout;)I"⟩
def RX6 : String := "SwingCranes$Text"
def TX6 : u_T := fun k => match k with
  | 0 => ("SwingCranes$Text", "letters", "[C", true)
  | 1 => ("SwingCranes$Text", "length", "I", false)
  | _ => ("SwingCranes$Text", "at", "I", false)
def tyX6 : Nat → FieldType := fun k => match k with
  | 0 => .array .char
  | 1 => .int
  | _ => .int
abbrev wsX60 : List Cond := u_ws RX6 TX6 3
theorem nmX6 : ∀ a, a < 3 → ∀ b, b < 3 → a ≠ b → (TX6 a).2.1 ≠ (TX6 b).2.1 := by decide +kernel
theorem tyX6_ok : ∀ k, k < 3 → parseFieldDescriptor (TX6 k).2.2.1 = some (tyX6 k) := by decide +kernel
abbrev cX6_init : ByteArray := prog_8_method_1_code
def yX6_init : MethodName := ⟨RX6, "<init>", "()V"⟩
abbrev cX6_isFull : ByteArray := prog_8_method_2_code
def yX6_isFull : MethodName := ⟨RX6, "isFull", "()Z"⟩
abbrev cX6_append : ByteArray := prog_8_method_3_code
def yX6_append : MethodName := ⟨RX6, "append", "(C)V"⟩
abbrev cX6_readInto : ByteArray := prog_8_method_4_code
def yX6_readInto : MethodName := ⟨RX6, "readInto", "(LSwingCranes$Layout;)I"⟩
abbrev cX6_readItem : ByteArray := prog_8_method_5_code
def yX6_readItem : MethodName := ⟨RX6, "readItem", "(LSwingCranes$Layout;)Z"⟩
abbrev cX6_readEnd : ByteArray := prog_8_method_6_code
def yX6_readEnd : MethodName := ⟨RX6, "readEnd", "(LSwingCranes$Layout;)Z"⟩
abbrev cX6_readGap : ByteArray := prog_8_method_7_code
def yX6_readGap : MethodName := ⟨RX6, "readGap", "(LSwingCranes$Layout;)Z"⟩
abbrev cX6_readStart : ByteArray := prog_8_method_8_code
def yX6_readStart : MethodName := ⟨RX6, "readStart", "(LSwingCranes$Layout;)Z"⟩
abbrev cX6_readDrive : ByteArray := prog_8_method_9_code
def yX6_readDrive : MethodName := ⟨RX6, "readDrive", "(LSwingCranes$Layout;)Z"⟩
abbrev cX6_readNumber : ByteArray := prog_8_method_10_code
def yX6_readNumber : MethodName := ⟨RX6, "readNumber", "(C)I"⟩
abbrev cX6_letterAt : ByteArray := prog_8_method_11_code
def yX6_letterAt : MethodName := ⟨RX6, "letterAt", "(I)I"⟩
def RX7 : String := "SwingCranes"
def TX7 : u_T := fun k => match k with
  | 0 => ("SwingCranes", "text", "LSwingCranes$Text;", true)
  | 1 => ("SwingCranes", "trial", "LSwingCranes$Pair;", true)
  | 2 => ("SwingCranes", "rules", "LSwingCranes$Layout;", false)
  | 3 => ("SwingCranes", "draft", "LSwingCranes$Layout;", false)
  | 4 => ("SwingCranes", "now", "LSwingCranes$Story;", false)
  | 5 => ("SwingCranes", "firstBack", "LSwingCranes$Story;", false)
  | 6 => ("SwingCranes", "secondBack", "LSwingCranes$Story;", false)
  | 7 => ("SwingCranes", "thirdBack", "LSwingCranes$Story;", false)
  | 8 => ("SwingCranes", "fourthBack", "LSwingCranes$Story;", false)
  | _ => ("SwingCranes", "undoable", "I", false)
def tyX7 : Nat → FieldType := fun k => match k with
  | 0 => .object "SwingCranes$Text"
  | 1 => .object "SwingCranes$Pair"
  | 2 => .object "SwingCranes$Layout"
  | 3 => .object "SwingCranes$Layout"
  | 4 => .object "SwingCranes$Story"
  | 5 => .object "SwingCranes$Story"
  | 6 => .object "SwingCranes$Story"
  | 7 => .object "SwingCranes$Story"
  | 8 => .object "SwingCranes$Story"
  | _ => .int
abbrev wsX70 : List Cond := u_ws RX7 TX7 10
theorem nmX7 : ∀ a, a < 10 → ∀ b, b < 10 → a ≠ b → (TX7 a).2.1 ≠ (TX7 b).2.1 := by decide +kernel
theorem tyX7_ok : ∀ k, k < 10 → parseFieldDescriptor (TX7 k).2.2.1 = some (tyX7 k) := by decide +kernel
abbrev cX7_init : ByteArray := prog_1_method_1_code
def yX7_init : MethodName := ⟨RX7, "<init>", "()V"⟩
abbrev cX7_write : ByteArray := prog_1_method_2_code
def yX7_write : MethodName := ⟨RX7, "write", "(I)I"⟩
abbrev cX7_wipe : ByteArray := prog_1_method_3_code
def yX7_wipe : MethodName := ⟨RX7, "wipe", "()I"⟩
abbrev cX7_fault : ByteArray := prog_1_method_4_code
def yX7_fault : MethodName := ⟨RX7, "fault", "()I"⟩
abbrev cX7_lay : ByteArray := prog_1_method_5_code
def yX7_lay : MethodName := ⟨RX7, "lay", "()I"⟩
abbrev cX7_command : ByteArray := prog_1_method_6_code
def yX7_command : MethodName := ⟨RX7, "command", "(II)I"⟩
abbrev cX7_shape : ByteArray := prog_1_method_7_code
def yX7_shape : MethodName := ⟨RX7, "shape", "(III)I"⟩
abbrev cX7_target : ByteArray := prog_1_method_8_code
def yX7_target : MethodName := ⟨RX7, "target", "(II)I"⟩
abbrev cX7_load : ByteArray := prog_1_method_9_code
def yX7_load : MethodName := ⟨RX7, "load", "(II)I"⟩
abbrev cX7_couple : ByteArray := prog_1_method_10_code
def yX7_couple : MethodName := ⟨RX7, "couple", "(I)I"⟩
abbrev cX7_tick : ByteArray := prog_1_method_11_code
def yX7_tick : MethodName := ⟨RX7, "tick", "(I)I"⟩
abbrev cX7_undo : ByteArray := prog_1_method_12_code
def yX7_undo : MethodName := ⟨RX7, "undo", "()I"⟩
abbrev cX7_crane : ByteArray := prog_1_method_13_code
def yX7_crane : MethodName := ⟨RX7, "crane", "(II)I"⟩
abbrev cX7_stepOf : ByteArray := prog_1_method_14_code
def yX7_stepOf : MethodName := ⟨RX7, "stepOf", "(III)I"⟩
abbrev cX7_stop : ByteArray := prog_1_method_15_code
def yX7_stop : MethodName := ⟨RX7, "stop", "(I)I"⟩
abbrev cX7_half : ByteArray := prog_1_method_16_code
def yX7_half : MethodName := ⟨RX7, "half", "(I)I"⟩
abbrev cX7_spot : ByteArray := prog_1_method_17_code
def yX7_spot : MethodName := ⟨RX7, "spot", "(III)I"⟩
abbrev cX7_been : ByteArray := prog_1_method_18_code
def yX7_been : MethodName := ⟨RX7, "been", "(III)I"⟩
abbrev cX7_ahead : ByteArray := prog_1_method_19_code
def yX7_ahead : MethodName := ⟨RX7, "ahead", "(III)I"⟩
abbrev cX7_quiet : ByteArray := prog_1_method_20_code
def yX7_quiet : MethodName := ⟨RX7, "quiet", "(I)I"⟩
abbrev cX7_best : ByteArray := prog_1_method_21_code
def yX7_best : MethodName := ⟨RX7, "best", "(III)I"⟩
abbrev cX7_count : ByteArray := prog_1_method_22_code
def yX7_count : MethodName := ⟨RX7, "count", "(I)I"⟩
abbrev cX7_keepForUndo : ByteArray := prog_1_method_23_code
def yX7_keepForUndo : MethodName := ⟨RX7, "keepForUndo", "()V"⟩
abbrev cX7_swingWithPause : ByteArray := prog_1_method_24_code
def yX7_swingWithPause : MethodName := ⟨RX7, "swingWithPause", "(III)I"⟩
abbrev cX7_isWithin : ByteArray := prog_1_method_25_code
def yX7_isWithin : MethodName := ⟨RX7, "isWithin", "(III)Z"⟩
abbrev cX7_isCrane : ByteArray := prog_1_method_26_code
def yX7_isCrane : MethodName := ⟨RX7, "isCrane", "(I)Z"⟩
abbrev cX7_isSpeed : ByteArray := prog_1_method_27_code
def yX7_isSpeed : MethodName := ⟨RX7, "isSpeed", "(I)Z"⟩
abbrev cX7_isRope : ByteArray := prog_1_method_28_code
def yX7_isRope : MethodName := ⟨RX7, "isRope", "(I)Z"⟩
abbrev cX7_keptWithin : ByteArray := prog_1_method_29_code
def yX7_keptWithin : MethodName := ⟨RX7, "keptWithin", "(II)I"⟩
abbrev cX7_wayToStop : ByteArray := prog_1_method_30_code
def yX7_wayToStop : MethodName := ⟨RX7, "wayToStop", "(II)I"⟩
abbrev cX7_halfSwing : ByteArray := prog_1_method_31_code
def yX7_halfSwing : MethodName := ⟨RX7, "halfSwing", "(I)I"⟩
def RX8 : String := "SwingCranesModel"
def TX8 : u_T := fun k => match k with
  | 0 => ("SwingCranesModel", "now", "[I", true)
  | 1 => ("SwingCranesModel", "read", "[I", true)
  | 2 => ("SwingCranesModel", "aside", "[I", true)
  | 3 => ("SwingCranesModel", "past", "[I", true)
  | 4 => ("SwingCranesModel", "changes", "I", false)
  | 5 => ("SwingCranesModel", "text", "[I", true)
  | 6 => ("SwingCranesModel", "letters", "I", false)
  | 7 => ("SwingCranesModel", "spot0", "I", false)
  | _ => ("SwingCranesModel", "told", "[I", true)
def tyX8 : Nat → FieldType := fun k => match k with
  | 0 => .array .int
  | 1 => .array .int
  | 2 => .array .int
  | 3 => .array .int
  | 4 => .int
  | 5 => .array .int
  | 6 => .int
  | 7 => .int
  | _ => .array .int
abbrev wsX80 : List Cond := u_ws RX8 TX8 9
theorem nmX8 : ∀ a, a < 9 → ∀ b, b < 9 → a ≠ b → (TX8 a).2.1 ≠ (TX8 b).2.1 := by decide +kernel
theorem tyX8_ok : ∀ k, k < 9 → parseFieldDescriptor (TX8 k).2.2.1 = some (tyX8 k) := by decide +kernel
abbrev cX8_init : ByteArray := prog_10_method_1_code
def yX8_init : MethodName := ⟨RX8, "<init>", "()V"⟩
abbrev cX8_in : ByteArray := prog_10_method_3_code
def yX8_in : MethodName := ⟨RX8, "in", "(III)Z"⟩
abbrev cX8_size : ByteArray := prog_10_method_4_code
def yX8_size : MethodName := ⟨RX8, "size", "(I)I"⟩
abbrev cX8_begins : ByteArray := prog_10_method_5_code
def yX8_begins : MethodName := ⟨RX8, "begins", "()V"⟩
abbrev cX8_puts : ByteArray := prog_10_method_6_code
def yX8_puts : MethodName := ⟨RX8, "puts", "(IIII)V"⟩
abbrev cX8_takes : ByteArray := prog_10_method_7_code
def yX8_takes : MethodName := ⟨RX8, "takes", "()V"⟩
abbrev cX8_isAt : ByteArray := prog_10_method_8_code
def yX8_isAt : MethodName := ⟨RX8, "isAt", "(II)Z"⟩
abbrev cX8_takesNumber : ByteArray := prog_10_method_9_code
def yX8_takesNumber : MethodName := ⟨RX8, "takesNumber", "(I)Z"⟩
abbrev cX8_takesNumbers : ByteArray := prog_10_method_10_code
def yX8_takesNumbers : MethodName := ⟨RX8, "takesNumbers", "(I)Z"⟩
abbrev cX8_takesOne : ByteArray := prog_10_method_11_code
def yX8_takesOne : MethodName := ⟨RX8, "takesOne", "(III)Z"⟩
abbrev cX8_takesCrane : ByteArray := prog_10_method_12_code
def yX8_takesCrane : MethodName := ⟨RX8, "takesCrane", "()Z"⟩
abbrev cX8_takesMost : ByteArray := prog_10_method_13_code
def yX8_takesMost : MethodName := ⟨RX8, "takesMost", "()Z"⟩
abbrev cX8_takesItem : ByteArray := prog_10_method_14_code
def yX8_takesItem : MethodName := ⟨RX8, "takesItem", "()Z"⟩
abbrev cX8_reads : ByteArray := prog_10_method_15_code
def yX8_reads : MethodName := ⟨RX8, "reads", "()I"⟩
abbrev cX8_write : ByteArray := prog_10_method_16_code
def yX8_write : MethodName := ⟨RX8, "write", "(I)I"⟩
abbrev cX8_wipe : ByteArray := prog_10_method_17_code
def yX8_wipe : MethodName := ⟨RX8, "wipe", "()I"⟩
abbrev cX8_fault : ByteArray := prog_10_method_18_code
def yX8_fault : MethodName := ⟨RX8, "fault", "()I"⟩
abbrev cX8_lay : ByteArray := prog_10_method_19_code
def yX8_lay : MethodName := ⟨RX8, "lay", "()I"⟩
abbrev cX8_keeps : ByteArray := prog_10_method_20_code
def yX8_keeps : MethodName := ⟨RX8, "keeps", "()V"⟩
abbrev cX8_undo : ByteArray := prog_10_method_21_code
def yX8_undo : MethodName := ⟨RX8, "undo", "()I"⟩
abbrev cX8_laysAside : ByteArray := prog_10_method_22_code
def yX8_laysAside : MethodName := ⟨RX8, "laysAside", "()V"⟩
abbrev cX8_comesBack : ByteArray := prog_10_method_23_code
def yX8_comesBack : MethodName := ⟨RX8, "comesBack", "()V"⟩
abbrev cX8_isCrane : ByteArray := prog_10_method_24_code
def yX8_isCrane : MethodName := ⟨RX8, "isCrane", "(I)Z"⟩
abbrev cX8_of : ByteArray := prog_10_method_25_code
def yX8_of : MethodName := ⟨RX8, "of", "(II)I"⟩
abbrev cX8_tells : ByteArray := prog_10_method_26_code
def yX8_tells : MethodName := ⟨RX8, "tells", "(III)V"⟩
abbrev cX8_limitOf : ByteArray := prog_10_method_27_code
def yX8_limitOf : MethodName := ⟨RX8, "limitOf", "(I)I"⟩
abbrev cX8_stopBy : ByteArray := prog_10_method_28_code
def yX8_stopBy : MethodName := ⟨RX8, "stopBy", "(I)I"⟩
abbrev cX8_halfOf : ByteArray := prog_10_method_29_code
def yX8_halfOf : MethodName := ⟨RX8, "halfOf", "(I)I"⟩
abbrev cX8_free : ByteArray := prog_10_method_30_code
def yX8_free : MethodName := ⟨RX8, "free", "()I"⟩
abbrev cX8_stepsCome : ByteArray := prog_10_method_31_code
def yX8_stepsCome : MethodName := ⟨RX8, "stepsCome", "(I)V"⟩
abbrev cX8_wanted : ByteArray := prog_10_method_32_code
def yX8_wanted : MethodName := ⟨RX8, "wanted", "(I)I"⟩
abbrev cX8_roomFor : ByteArray := prog_10_method_33_code
def yX8_roomFor : MethodName := ⟨RX8, "roomFor", "(II)I"⟩
abbrev cX8_braked : ByteArray := prog_10_method_34_code
def yX8_braked : MethodName := ⟨RX8, "braked", "(II)I"⟩
abbrev cX8_kept : ByteArray := prog_10_method_35_code
def yX8_kept : MethodName := ⟨RX8, "kept", "(I)I"⟩
abbrev cX8_goes : ByteArray := prog_10_method_36_code
def yX8_goes : MethodName := ⟨RX8, "goes", "(II)V"⟩
abbrev cX8_hoists : ByteArray := prog_10_method_37_code
def yX8_hoists : MethodName := ⟨RX8, "hoists", "(I)V"⟩
abbrev cX8_goesBy : ByteArray := prog_10_method_38_code
def yX8_goesBy : MethodName := ⟨RX8, "goesBy", "()I"⟩
abbrev cX8_spotPlace : ByteArray := prog_10_method_39_code
def yX8_spotPlace : MethodName := ⟨RX8, "spotPlace", "(I)I"⟩
abbrev cX8_spotCode : ByteArray := prog_10_method_40_code
def yX8_spotCode : MethodName := ⟨RX8, "spotCode", "(I)I"⟩
abbrev cX8_spotIndex : ByteArray := prog_10_method_41_code
def yX8_spotIndex : MethodName := ⟨RX8, "spotIndex", "(II)I"⟩
abbrev cX8_counts : ByteArray := prog_10_method_42_code
def yX8_counts : MethodName := ⟨RX8, "counts", "(I)V"⟩
abbrev cX8_tick : ByteArray := prog_10_method_43_code
def yX8_tick : MethodName := ⟨RX8, "tick", "(I)I"⟩
abbrev cX8_heeds : ByteArray := prog_10_method_44_code
def yX8_heeds : MethodName := ⟨RX8, "heeds", "(II)Z"⟩
abbrev cX8_addsStep : ByteArray := prog_10_method_45_code
def yX8_addsStep : MethodName := ⟨RX8, "addsStep", "(III)V"⟩
abbrev cX8_commands : ByteArray := prog_10_method_46_code
def yX8_commands : MethodName := ⟨RX8, "commands", "(III)I"⟩
abbrev cX8_command : ByteArray := prog_10_method_47_code
def yX8_command : MethodName := ⟨RX8, "command", "(II)I"⟩
abbrev cX8_shapes : ByteArray := prog_10_method_48_code
def yX8_shapes : MethodName := ⟨RX8, "shapes", "(II)I"⟩
abbrev cX8_shape : ByteArray := prog_10_method_49_code
def yX8_shape : MethodName := ⟨RX8, "shape", "(III)I"⟩
abbrev cX8_target : ByteArray := prog_10_method_50_code
def yX8_target : MethodName := ⟨RX8, "target", "(II)I"⟩
abbrev cX8_load : ByteArray := prog_10_method_51_code
def yX8_load : MethodName := ⟨RX8, "load", "(II)I"⟩
abbrev cX8_couple : ByteArray := prog_10_method_52_code
def yX8_couple : MethodName := ⟨RX8, "couple", "(I)I"⟩
abbrev cX8_isQuiet : ByteArray := prog_10_method_53_code
def yX8_isQuiet : MethodName := ⟨RX8, "isQuiet", "(I)I"⟩
abbrev cX8_crane : ByteArray := prog_10_method_54_code
def yX8_crane : MethodName := ⟨RX8, "crane", "(II)I"⟩
abbrev cX8_stepOf : ByteArray := prog_10_method_55_code
def yX8_stepOf : MethodName := ⟨RX8, "stepOf", "(III)I"⟩
abbrev cX8_stop : ByteArray := prog_10_method_56_code
def yX8_stop : MethodName := ⟨RX8, "stop", "(I)I"⟩
abbrev cX8_half : ByteArray := prog_10_method_57_code
def yX8_half : MethodName := ⟨RX8, "half", "(I)I"⟩
abbrev cX8_spot : ByteArray := prog_10_method_58_code
def yX8_spot : MethodName := ⟨RX8, "spot", "(III)I"⟩
abbrev cX8_been : ByteArray := prog_10_method_59_code
def yX8_been : MethodName := ⟨RX8, "been", "(III)I"⟩
abbrev cX8_answer : ByteArray := prog_10_method_60_code
def yX8_answer : MethodName := ⟨RX8, "answer", "(IIII)I"⟩
abbrev cX8_ahead : ByteArray := prog_10_method_61_code
def yX8_ahead : MethodName := ⟨RX8, "ahead", "(III)I"⟩
abbrev cX8_quiet : ByteArray := prog_10_method_62_code
def yX8_quiet : MethodName := ⟨RX8, "quiet", "(I)I"⟩
abbrev cX8_swingsBy : ByteArray := prog_10_method_63_code
def yX8_swingsBy : MethodName := ⟨RX8, "swingsBy", "(III)I"⟩
abbrev cX8_best : ByteArray := prog_10_method_64_code
def yX8_best : MethodName := ⟨RX8, "best", "(III)I"⟩
abbrev cX8_count : ByteArray := prog_10_method_65_code
def yX8_count : MethodName := ⟨RX8, "count", "(I)I"⟩
def RJ9 : String := "java/lang/Math"
def TJ9 : u_T := fun k => match k with
  | _ => ("", "", "", false)
def tyJ9 : Nat → FieldType := fun k => match k with
  | _ => .int
abbrev wsJ90 : List Cond := u_ws RJ9 TJ9 0
theorem nmJ9 : ∀ a, a < 0 → ∀ b, b < 0 → a ≠ b → (TJ9 a).2.1 ≠ (TJ9 b).2.1 := by decide +kernel
theorem tyJ9_ok : ∀ k, k < 0 → parseFieldDescriptor (TJ9 k).2.2.1 = some (tyJ9 k) := by decide +kernel
abbrev cJ9_abs_0f7a4 : ByteArray := prog_11_method_59_code
def yJ9_abs_0f7a4 : MethodName := ⟨RJ9, "abs", "(I)I"⟩
abbrev cJ9_max_7cf53 : ByteArray := prog_11_method_65_code
def yJ9_max_7cf53 : MethodName := ⟨RJ9, "max", "(II)I"⟩
abbrev cJ9_min_7cf53 : ByteArray := prog_11_method_69_code
def yJ9_min_7cf53 : MethodName := ⟨RJ9, "min", "(II)I"⟩
def RL : String := "SwingCranesLaw"
abbrev cL_law : ByteArray := code
def yL_law : MethodName := ⟨RL, "law", "([I)Z"⟩
def wsX0_init : List Cond := .code yX0_init cX0_init 1 none :: ([.methodLink RX0 3 objectInit, .instanceMethod objectInit, .code objectInit ⟨#[0xb1]⟩ 1 none])
def wsX0_setSteps : List Cond := .code yX0_setSteps cX0_setSteps 4 none :: ([.fieldLink RX0 49 "SwingCranes$Crane" "soonIn" "I", .fieldLink RX0 52 "SwingCranes$Crane" "soonBy" "I", .fieldLink RX0 55 "SwingCranes$Crane" "laterIn" "I", .fieldLink RX0 58 "SwingCranes$Crane" "laterBy" "I"] ++ wsX00)
def wsX0_begin : List Cond := .code yX0_begin cX0_begin 2 none :: ([.fieldLink RX0 9 "SwingCranes$Start" "place" "I", .fieldLink RX0 15 "SwingCranes$Crane" "place" "I", .fieldLink RX0 18 "SwingCranes$Crane" "speed" "I", .fieldLink RX0 21 "SwingCranes$Start" "rope" "I", .fieldLink RX0 24 "SwingCranes$Crane" "rope" "I", .fieldLink RX0 25 "SwingCranes$Start" "load" "I", .fieldLink RX0 28 "SwingCranes$Crane" "load" "I", .fieldLink RX0 29 "SwingCranes$Crane" "swing" "I", .fieldLink RX0 32 "SwingCranes$Crane" "rate" "I", .fieldLink RX0 35 "SwingCranes$Crane" "want" "I", .fieldLink RX0 38 "SwingCranes$Crane" "target" "I", .fieldLink RX0 45 "SwingCranes$Crane" "braked" "Z", .methodLink RX0 41 yX0_setSteps, .instanceMethod yX0_setSteps, .selects RX0 yX0_setSteps yX0_setSteps, .initialized RX0, .code yX0_setSteps cX0_setSteps 4 none, .fieldLink RX0 49 "SwingCranes$Crane" "soonIn" "I", .fieldLink RX0 52 "SwingCranes$Crane" "soonBy" "I", .fieldLink RX0 55 "SwingCranes$Crane" "laterIn" "I", .fieldLink RX0 58 "SwingCranes$Crane" "laterBy" "I"] ++ wsX40 ++ wsX00)
def wsX0_copyFrom : List Cond := .code yX0_copyFrom cX0_copyFrom 2 none :: ([.fieldLink RX0 15 "SwingCranes$Crane" "place" "I", .fieldLink RX0 18 "SwingCranes$Crane" "speed" "I", .fieldLink RX0 24 "SwingCranes$Crane" "rope" "I", .fieldLink RX0 28 "SwingCranes$Crane" "load" "I", .fieldLink RX0 29 "SwingCranes$Crane" "swing" "I", .fieldLink RX0 32 "SwingCranes$Crane" "rate" "I", .fieldLink RX0 35 "SwingCranes$Crane" "want" "I", .fieldLink RX0 38 "SwingCranes$Crane" "target" "I", .fieldLink RX0 49 "SwingCranes$Crane" "soonIn" "I", .fieldLink RX0 52 "SwingCranes$Crane" "soonBy" "I", .fieldLink RX0 55 "SwingCranes$Crane" "laterIn" "I", .fieldLink RX0 58 "SwingCranes$Crane" "laterBy" "I", .fieldLink RX0 45 "SwingCranes$Crane" "braked" "Z"] ++ wsX00)
def wsX0_planAtOnce : List Cond := .code yX0_planAtOnce cX0_planAtOnce 2 none :: ([.fieldLink RX0 35 "SwingCranes$Crane" "want" "I", .methodLink RX0 41 yX0_setSteps, .instanceMethod yX0_setSteps, .selects RX0 yX0_setSteps yX0_setSteps, .initialized RX0, .code yX0_setSteps cX0_setSteps 4 none, .fieldLink RX0 49 "SwingCranes$Crane" "soonIn" "I", .fieldLink RX0 52 "SwingCranes$Crane" "soonBy" "I", .fieldLink RX0 55 "SwingCranes$Crane" "laterIn" "I", .fieldLink RX0 58 "SwingCranes$Crane" "laterBy" "I"] ++ wsX00)
def wsX7_halfSwing : List Cond := .code yX7_halfSwing cX7_halfSwing 2 (some .int) :: ([])
def wsX0_planByHalves : List Cond := .code yX0_planByHalves cX0_planByHalves 5 none :: ([.fieldLink RX0 35 "SwingCranes$Crane" "want" "I", .fieldLink RX0 24 "SwingCranes$Crane" "rope" "I", .static yX7_halfSwing, .initialized RX7, .code yX7_halfSwing cX7_halfSwing 2 (some .int), .methodLink RX0 41 yX0_setSteps, .instanceMethod yX0_setSteps, .selects RX0 yX0_setSteps yX0_setSteps, .initialized RX0, .code yX0_setSteps cX0_setSteps 4 none, .fieldLink RX0 49 "SwingCranes$Crane" "soonIn" "I", .fieldLink RX0 52 "SwingCranes$Crane" "soonBy" "I", .fieldLink RX0 55 "SwingCranes$Crane" "laterIn" "I", .fieldLink RX0 58 "SwingCranes$Crane" "laterBy" "I"] ++ wsX00)
def wsX0_stepsToCome : List Cond := .code yX0_stepsToCome cX0_stepsToCome 1 (some .int) :: ([.fieldLink RX0 52 "SwingCranes$Crane" "soonBy" "I", .fieldLink RX0 58 "SwingCranes$Crane" "laterBy" "I"] ++ wsX00)
def wsX0_isSoon : List Cond := .code yX0_isSoon cX0_isSoon 2 (some .boolean) :: ([.fieldLink RX0 52 "SwingCranes$Crane" "soonBy" "I"] ++ wsX00)
def wsX0_stepIn : List Cond := .code yX0_stepIn cX0_stepIn 2 (some .int) :: ([.fieldLink RX0 49 "SwingCranes$Crane" "soonIn" "I", .fieldLink RX0 55 "SwingCranes$Crane" "laterIn" "I", .methodLink RX0 65 yX0_isSoon, .instanceMethod yX0_isSoon, .selects RX0 yX0_isSoon yX0_isSoon, .initialized RX0, .code yX0_isSoon cX0_isSoon 2 (some .boolean), .fieldLink RX0 52 "SwingCranes$Crane" "soonBy" "I"] ++ wsX00)
def wsX0_stepBy : List Cond := .code yX0_stepBy cX0_stepBy 2 (some .int) :: ([.fieldLink RX0 52 "SwingCranes$Crane" "soonBy" "I", .fieldLink RX0 58 "SwingCranes$Crane" "laterBy" "I", .methodLink RX0 65 yX0_isSoon, .instanceMethod yX0_isSoon, .selects RX0 yX0_isSoon yX0_isSoon, .initialized RX0, .code yX0_isSoon cX0_isSoon 2 (some .boolean)] ++ wsX00)
def wsX0_limit : List Cond := .code yX0_limit cX0_limit 2 (some .int) :: ([.fieldLink RX0 69 "SwingCranes$Layout" "top" "I", .fieldLink RX0 28 "SwingCranes$Crane" "load" "I", .methodLink RX0 74 Lib.Math.max.name, .static Lib.Math.max.name, .initialized "java/lang/Math", .code Lib.Math.max.name Lib.Math.max.code 2 (some .int)] ++ wsX10 ++ wsX00)
def wsX0_isQuiet : List Cond := .code yX0_isQuiet cX0_isQuiet 1 (some .boolean) :: ([.fieldLink RX0 18 "SwingCranes$Crane" "speed" "I", .fieldLink RX0 35 "SwingCranes$Crane" "want" "I", .fieldLink RX0 29 "SwingCranes$Crane" "swing" "I", .methodLink RX0 84 Lib.Math.abs.name, .static Lib.Math.abs.name, .initialized "java/lang/Math", .code Lib.Math.abs.name Lib.Math.abs.code 1 (some .int), .fieldLink RX0 32 "SwingCranes$Crane" "rate" "I", .methodLink RX0 80 yX0_stepsToCome, .instanceMethod yX0_stepsToCome, .selects RX0 yX0_stepsToCome yX0_stepsToCome, .initialized RX0, .code yX0_stepsToCome cX0_stepsToCome 1 (some .int), .fieldLink RX0 52 "SwingCranes$Crane" "soonBy" "I", .fieldLink RX0 58 "SwingCranes$Crane" "laterBy" "I"] ++ wsX00)
def wsX0_takeSteps : List Cond := .code yX0_takeSteps cX0_takeSteps 1 none :: ([.fieldLink RX0 49 "SwingCranes$Crane" "soonIn" "I", .fieldLink RX0 55 "SwingCranes$Crane" "laterIn" "I", .fieldLink RX0 52 "SwingCranes$Crane" "soonBy" "I", .fieldLink RX0 35 "SwingCranes$Crane" "want" "I", .fieldLink RX0 58 "SwingCranes$Crane" "laterBy" "I"] ++ wsX00)
def wsX7_keptWithin : List Cond := .code yX7_keptWithin cX7_keptWithin 2 (some .int) :: ([.methodLink RX7 239 Lib.Math.min.name, .static Lib.Math.min.name, .initialized "java/lang/Math", .code Lib.Math.min.name Lib.Math.min.code 2 (some .int), .methodLink RX7 214 Lib.Math.max.name, .static Lib.Math.max.name, .code Lib.Math.max.name Lib.Math.max.code 2 (some .int)])
def wsX0_speedNearerToWant : List Cond := .code yX0_speedNearerToWant cX0_speedNearerToWant 3 (some .int) :: ([.fieldLink RX0 35 "SwingCranes$Crane" "want" "I", .fieldLink RX0 18 "SwingCranes$Crane" "speed" "I", .fieldLink RX0 94 "SwingCranes$Layout" "change" "I", .methodLink RX0 108 yX0_limit, .instanceMethod yX0_limit, .selects RX0 yX0_limit yX0_limit, .initialized RX0, .code yX0_limit cX0_limit 2 (some .int), .fieldLink RX0 69 "SwingCranes$Layout" "top" "I", .fieldLink RX0 28 "SwingCranes$Crane" "load" "I", .methodLink RX0 74 Lib.Math.max.name, .static Lib.Math.max.name, .initialized "java/lang/Math", .code Lib.Math.max.name Lib.Math.max.code 2 (some .int), .static yX7_keptWithin, .initialized RX7, .code yX7_keptWithin cX7_keptWithin 2 (some .int), .methodLink RX7 239 Lib.Math.min.name, .static Lib.Math.min.name, .code Lib.Math.min.name Lib.Math.min.code 2 (some .int), .methodLink RX7 214 Lib.Math.max.name] ++ wsX00 ++ wsX10)
def wsX7_wayToStop : List Cond := .code yX7_wayToStop cX7_wayToStop 4 (some .int) :: ([.methodLink RX7 209 Lib.Math.abs.name, .static Lib.Math.abs.name, .initialized "java/lang/Math", .code Lib.Math.abs.name Lib.Math.abs.code 1 (some .int)])
def wsX0_speedForRoom : List Cond := .code yX0_speedForRoom cX0_speedForRoom 6 (some .int) :: ([.methodLink RX0 84 Lib.Math.abs.name, .static Lib.Math.abs.name, .initialized "java/lang/Math", .code Lib.Math.abs.name Lib.Math.abs.code 1 (some .int), .static yX7_wayToStop, .initialized RX7, .code yX7_wayToStop cX7_wayToStop 4 (some .int), .methodLink RX7 209 Lib.Math.abs.name])
def wsX0_swingOut : List Cond := .code yX0_swingOut cX0_swingOut 3 none :: ([.fieldLink RX0 24 "SwingCranes$Crane" "rope" "I", .fieldLink RX0 29 "SwingCranes$Crane" "swing" "I", .fieldLink RX0 32 "SwingCranes$Crane" "rate" "I", .static yX7_keptWithin, .initialized RX7, .code yX7_keptWithin cX7_keptWithin 2 (some .int), .methodLink RX7 239 Lib.Math.min.name, .static Lib.Math.min.name, .initialized "java/lang/Math", .code Lib.Math.min.name Lib.Math.min.code 2 (some .int), .methodLink RX7 214 Lib.Math.max.name, .static Lib.Math.max.name, .code Lib.Math.max.name Lib.Math.max.code 2 (some .int)] ++ wsX00)
def wsX0_roll_r1 : List Cond := [Cond.fieldLink RX0 94 "SwingCranes$Layout" "change" "I", Cond.fieldLink RX0 45 "SwingCranes$Crane" "braked" "Z", Cond.fieldLink RX0 18 "SwingCranes$Crane" "speed" "I", Cond.fieldLink RX0 15 "SwingCranes$Crane" "place" "I", Cond.methodLink RX0 87 yX0_takeSteps, Cond.instanceMethod yX0_takeSteps, Cond.selects RX0 yX0_takeSteps yX0_takeSteps, Cond.initialized RX0, Cond.code yX0_takeSteps cX0_takeSteps 1 none, Cond.fieldLink RX0 49 "SwingCranes$Crane" "soonIn" "I", Cond.fieldLink RX0 55 "SwingCranes$Crane" "laterIn" "I", Cond.fieldLink RX0 52 "SwingCranes$Crane" "soonBy" "I", Cond.fieldLink RX0 35 "SwingCranes$Crane" "want" "I", Cond.fieldLink RX0 58 "SwingCranes$Crane" "laterBy" "I", Cond.methodLink RX0 90 yX0_speedNearerToWant, Cond.instanceMethod yX0_speedNearerToWant, Cond.selects RX0 yX0_speedNearerToWant yX0_speedNearerToWant, Cond.code yX0_speedNearerToWant cX0_speedNearerToWant 3 (some .int), Cond.methodLink RX0 108 yX0_limit, Cond.instanceMethod yX0_limit, Cond.selects RX0 yX0_limit yX0_limit, Cond.code yX0_limit cX0_limit 2 (some .int), Cond.fieldLink RX0 69 "SwingCranes$Layout" "top" "I", Cond.fieldLink RX0 28 "SwingCranes$Crane" "load" "I"]
def wsX0_roll_r2 : List Cond := [Cond.methodLink RX0 74 Lib.Math.max.name, Cond.static Lib.Math.max.name, Cond.initialized "java/lang/Math", Cond.code Lib.Math.max.name Lib.Math.max.code 2 (some .int), Cond.static yX7_keptWithin, Cond.initialized RX7, Cond.code yX7_keptWithin cX7_keptWithin 2 (some .int), Cond.methodLink RX7 239 Lib.Math.min.name, Cond.static Lib.Math.min.name, Cond.code Lib.Math.min.name Lib.Math.min.code 2 (some .int), Cond.methodLink RX7 214 Lib.Math.max.name, Cond.static yX7_wayToStop, Cond.code yX7_wayToStop cX7_wayToStop 4 (some .int), Cond.methodLink RX7 209 Lib.Math.abs.name, Cond.static Lib.Math.abs.name, Cond.code Lib.Math.abs.name Lib.Math.abs.code 1 (some .int), Cond.methodLink RX0 100 yX0_speedForRoom, Cond.instanceMethod yX0_speedForRoom, Cond.selects RX0 yX0_speedForRoom yX0_speedForRoom, Cond.code yX0_speedForRoom cX0_speedForRoom 6 (some .int), Cond.methodLink RX0 84 Lib.Math.abs.name, Cond.methodLink RX0 104 yX0_swingOut, Cond.instanceMethod yX0_swingOut, Cond.selects RX0 yX0_swingOut yX0_swingOut]
def wsX0_roll_r3 : List Cond := [Cond.code yX0_swingOut cX0_swingOut 3 none, Cond.fieldLink RX0 24 "SwingCranes$Crane" "rope" "I", Cond.fieldLink RX0 29 "SwingCranes$Crane" "swing" "I", Cond.fieldLink RX0 32 "SwingCranes$Crane" "rate" "I"]
def wsX0_roll : List Cond := .code yX0_roll cX0_roll 6 none :: ((wsX0_roll_r1 ++ (wsX0_roll_r2 ++ wsX0_roll_r3)) ++ wsX10 ++ wsX00)
def wsX0_hoistRope : List Cond := .code yX0_hoistRope cX0_hoistRope 6 none :: ([.fieldLink RX0 38 "SwingCranes$Crane" "target" "I", .fieldLink RX0 24 "SwingCranes$Crane" "rope" "I", .fieldLink RX0 18 "SwingCranes$Crane" "speed" "I", .methodLink RX0 84 Lib.Math.abs.name, .static Lib.Math.abs.name, .initialized "java/lang/Math", .code Lib.Math.abs.name Lib.Math.abs.code 1 (some .int)] ++ wsX00)
def wsX4_init : List Cond := .code yX4_init cX4_init 1 none :: ([.methodLink RX4 1 objectInit, .instanceMethod objectInit, .code objectInit ⟨#[0xb1]⟩ 1 none])
def wsX4_set : List Cond := .code yX4_set cX4_set 4 none :: ([.fieldLink RX4 7 "SwingCranes$Start" "place" "I", .fieldLink RX4 13 "SwingCranes$Start" "rope" "I", .fieldLink RX4 16 "SwingCranes$Start" "load" "I"] ++ wsX40)
def wsX1_setUsual : List Cond := .code yX1_setUsual cX1_setUsual 1 none :: ([.fieldLink RX1 22 "SwingCranes$Layout" "end" "I", .fieldLink RX1 26 "SwingCranes$Layout" "gap" "I", .fieldLink RX1 29 "SwingCranes$Layout" "change" "I", .fieldLink RX1 32 "SwingCranes$Layout" "top" "I", .fieldLink RX1 35 "SwingCranes$Layout" "hoist" "I", .fieldLink RX1 10 "SwingCranes$Layout" "left" "LSwingCranes$Start;", .fieldLink RX1 16 "SwingCranes$Layout" "right" "LSwingCranes$Start;", .methodLink RX1 38 yX4_set, .instanceMethod yX4_set, .selects RX4 yX4_set yX4_set, .initialized RX4, .code yX4_set cX4_set 4 none, .fieldLink RX4 7 "SwingCranes$Start" "place" "I", .fieldLink RX4 13 "SwingCranes$Start" "rope" "I", .fieldLink RX4 16 "SwingCranes$Start" "load" "I"] ++ wsX10 ++ wsX40)
def wsX1_init_r1 : List Cond := [Cond.methodLink RX1 1 objectInit, Cond.instanceMethod objectInit, Cond.code objectInit ⟨#[0xb1]⟩ 1 none, Cond.classLink RX1 7 RX4, Cond.instantiable RX4 3, Cond.initialized RX4, Cond.fieldLink RX1 10 "SwingCranes$Layout" "left" "LSwingCranes$Start;", Cond.fieldLink RX1 16 "SwingCranes$Layout" "right" "LSwingCranes$Start;", Cond.instanceMethod yX4_init, Cond.code yX4_init cX4_init 1 none, Cond.methodLink RX4 1 objectInit, Cond.methodLink RX1 19 yX1_setUsual, Cond.instanceMethod yX1_setUsual, Cond.selects RX1 yX1_setUsual yX1_setUsual, Cond.initialized RX1, Cond.code yX1_setUsual cX1_setUsual 1 none, Cond.fieldLink RX1 22 "SwingCranes$Layout" "end" "I", Cond.fieldLink RX1 26 "SwingCranes$Layout" "gap" "I", Cond.fieldLink RX1 29 "SwingCranes$Layout" "change" "I", Cond.fieldLink RX1 32 "SwingCranes$Layout" "top" "I", Cond.fieldLink RX1 35 "SwingCranes$Layout" "hoist" "I", Cond.methodLink RX1 38 yX4_set, Cond.instanceMethod yX4_set, Cond.selects RX4 yX4_set yX4_set]
def wsX1_init_r2 : List Cond := [Cond.code yX4_set cX4_set 4 none, Cond.fieldLink RX4 7 "SwingCranes$Start" "place" "I", Cond.fieldLink RX4 13 "SwingCranes$Start" "rope" "I", Cond.fieldLink RX4 16 "SwingCranes$Start" "load" "I"]
def wsX1_init : List Cond := .code yX1_init cX1_init 1 none :: ((wsX1_init_r1 ++ wsX1_init_r2) ++ wsX40 ++ wsX10)
def wsX1_holdsBoth : List Cond := .code yX1_holdsBoth cX1_holdsBoth 1 (some .boolean) :: ([.fieldLink RX1 10 "SwingCranes$Layout" "left" "LSwingCranes$Start;", .fieldLink RX1 42 "SwingCranes$Start" "place" "I", .fieldLink RX1 22 "SwingCranes$Layout" "end" "I", .fieldLink RX1 16 "SwingCranes$Layout" "right" "LSwingCranes$Start;", .fieldLink RX1 26 "SwingCranes$Layout" "gap" "I"] ++ wsX10 ++ wsX40)
def wsX2_init : List Cond := .code yX2_init cX2_init 1 none :: ([.methodLink RX2 3 objectInit, .instanceMethod objectInit, .code objectInit ⟨#[0xb1]⟩ 1 none, .classLink RX2 9 RX0, .instantiable RX0 13, .initialized RX0, .fieldLink RX2 12 "SwingCranes$Pair" "left" "LSwingCranes$Crane;", .fieldLink RX2 18 "SwingCranes$Pair" "right" "LSwingCranes$Crane;", .fieldLink RX2 21 "SwingCranes$Pair" "level" "I", .instanceMethod yX0_init, .code yX0_init cX0_init 1 none, .methodLink RX0 3 objectInit] ++ wsX00 ++ wsX20)
def wsX2_begin_r1 : List Cond := [Cond.fieldLink RX2 12 "SwingCranes$Pair" "left" "LSwingCranes$Crane;", Cond.fieldLink RX2 25 "SwingCranes$Layout" "left" "LSwingCranes$Start;", Cond.fieldLink RX2 18 "SwingCranes$Pair" "right" "LSwingCranes$Crane;", Cond.fieldLink RX2 34 "SwingCranes$Layout" "right" "LSwingCranes$Start;", Cond.fieldLink RX2 21 "SwingCranes$Pair" "level" "I", Cond.methodLink RX2 30 yX0_begin, Cond.instanceMethod yX0_begin, Cond.selects RX0 yX0_begin yX0_begin, Cond.initialized RX0, Cond.code yX0_begin cX0_begin 2 none, Cond.fieldLink RX0 9 "SwingCranes$Start" "place" "I", Cond.fieldLink RX0 15 "SwingCranes$Crane" "place" "I", Cond.fieldLink RX0 18 "SwingCranes$Crane" "speed" "I", Cond.fieldLink RX0 21 "SwingCranes$Start" "rope" "I", Cond.fieldLink RX0 24 "SwingCranes$Crane" "rope" "I", Cond.fieldLink RX0 25 "SwingCranes$Start" "load" "I", Cond.fieldLink RX0 28 "SwingCranes$Crane" "load" "I", Cond.fieldLink RX0 29 "SwingCranes$Crane" "swing" "I", Cond.fieldLink RX0 32 "SwingCranes$Crane" "rate" "I", Cond.fieldLink RX0 35 "SwingCranes$Crane" "want" "I", Cond.fieldLink RX0 38 "SwingCranes$Crane" "target" "I", Cond.fieldLink RX0 45 "SwingCranes$Crane" "braked" "Z", Cond.methodLink RX0 41 yX0_setSteps, Cond.instanceMethod yX0_setSteps]
def wsX2_begin_r2 : List Cond := [Cond.selects RX0 yX0_setSteps yX0_setSteps, Cond.code yX0_setSteps cX0_setSteps 4 none, Cond.fieldLink RX0 49 "SwingCranes$Crane" "soonIn" "I", Cond.fieldLink RX0 52 "SwingCranes$Crane" "soonBy" "I", Cond.fieldLink RX0 55 "SwingCranes$Crane" "laterIn" "I", Cond.fieldLink RX0 58 "SwingCranes$Crane" "laterBy" "I"]
def wsX2_begin : List Cond := .code yX2_begin cX2_begin 2 none :: ((wsX2_begin_r1 ++ wsX2_begin_r2) ++ wsX20 ++ wsX10 ++ wsX40 ++ wsX00)
def wsX2_copyFrom : List Cond := .code yX2_copyFrom cX2_copyFrom 2 none :: ([.fieldLink RX2 12 "SwingCranes$Pair" "left" "LSwingCranes$Crane;", .fieldLink RX2 18 "SwingCranes$Pair" "right" "LSwingCranes$Crane;", .fieldLink RX2 21 "SwingCranes$Pair" "level" "I", .methodLink RX2 36 yX0_copyFrom, .instanceMethod yX0_copyFrom, .selects RX0 yX0_copyFrom yX0_copyFrom, .initialized RX0, .code yX0_copyFrom cX0_copyFrom 2 none, .fieldLink RX0 15 "SwingCranes$Crane" "place" "I", .fieldLink RX0 18 "SwingCranes$Crane" "speed" "I", .fieldLink RX0 24 "SwingCranes$Crane" "rope" "I", .fieldLink RX0 28 "SwingCranes$Crane" "load" "I", .fieldLink RX0 29 "SwingCranes$Crane" "swing" "I", .fieldLink RX0 32 "SwingCranes$Crane" "rate" "I", .fieldLink RX0 35 "SwingCranes$Crane" "want" "I", .fieldLink RX0 38 "SwingCranes$Crane" "target" "I", .fieldLink RX0 49 "SwingCranes$Crane" "soonIn" "I", .fieldLink RX0 52 "SwingCranes$Crane" "soonBy" "I", .fieldLink RX0 55 "SwingCranes$Crane" "laterIn" "I", .fieldLink RX0 58 "SwingCranes$Crane" "laterBy" "I", .fieldLink RX0 45 "SwingCranes$Crane" "braked" "Z"] ++ wsX20 ++ wsX00)
def wsX2_side : List Cond := .code yX2_side cX2_side 2 (some (.object "SwingCranes$Crane")) :: ([.fieldLink RX2 12 "SwingCranes$Pair" "left" "LSwingCranes$Crane;", .fieldLink RX2 18 "SwingCranes$Pair" "right" "LSwingCranes$Crane;"] ++ wsX20)
def wsX2_freeBetween : List Cond := .code yX2_freeBetween cX2_freeBetween 2 (some .int) :: ([.fieldLink RX2 18 "SwingCranes$Pair" "right" "LSwingCranes$Crane;", .fieldLink RX2 40 "SwingCranes$Crane" "place" "I", .fieldLink RX2 12 "SwingCranes$Pair" "left" "LSwingCranes$Crane;", .fieldLink RX2 43 "SwingCranes$Layout" "gap" "I"] ++ wsX20 ++ wsX00 ++ wsX10)
def wsX2_isCoupled : List Cond := .code yX2_isCoupled cX2_isCoupled 1 (some .boolean) :: ([.fieldLink RX2 21 "SwingCranes$Pair" "level" "I"] ++ wsX20)
def wsX2_leftHeeds : List Cond := .code yX2_leftHeeds cX2_leftHeeds 2 (some .boolean) :: ([.methodLink RX2 46 yX2_isCoupled, .instanceMethod yX2_isCoupled, .selects RX2 yX2_isCoupled yX2_isCoupled, .initialized RX2, .code yX2_isCoupled cX2_isCoupled 1 (some .boolean), .fieldLink RX2 21 "SwingCranes$Pair" "level" "I"] ++ wsX20)
def wsX2_rightHeeds : List Cond := .code yX2_rightHeeds cX2_rightHeeds 2 (some .boolean) :: ([.methodLink RX2 46 yX2_isCoupled, .instanceMethod yX2_isCoupled, .selects RX2 yX2_isCoupled yX2_isCoupled, .initialized RX2, .code yX2_isCoupled cX2_isCoupled 1 (some .boolean), .fieldLink RX2 21 "SwingCranes$Pair" "level" "I"] ++ wsX20)
def wsX2_heeding : List Cond := .code yX2_heeding cX2_heeding 1 (some .int) :: ([.methodLink RX2 46 yX2_isCoupled, .instanceMethod yX2_isCoupled, .selects RX2 yX2_isCoupled yX2_isCoupled, .initialized RX2, .code yX2_isCoupled cX2_isCoupled 1 (some .boolean), .fieldLink RX2 21 "SwingCranes$Pair" "level" "I"] ++ wsX20)
def wsX2_tellAtOnce_r1 : List Cond := [Cond.fieldLink RX2 12 "SwingCranes$Pair" "left" "LSwingCranes$Crane;", Cond.fieldLink RX2 18 "SwingCranes$Pair" "right" "LSwingCranes$Crane;", Cond.methodLink RX2 50 yX2_leftHeeds, Cond.instanceMethod yX2_leftHeeds, Cond.selects RX2 yX2_leftHeeds yX2_leftHeeds, Cond.initialized RX2, Cond.code yX2_leftHeeds cX2_leftHeeds 2 (some .boolean), Cond.methodLink RX2 46 yX2_isCoupled, Cond.instanceMethod yX2_isCoupled, Cond.selects RX2 yX2_isCoupled yX2_isCoupled, Cond.code yX2_isCoupled cX2_isCoupled 1 (some .boolean), Cond.fieldLink RX2 21 "SwingCranes$Pair" "level" "I", Cond.methodLink RX2 54 yX0_planAtOnce, Cond.instanceMethod yX0_planAtOnce, Cond.selects RX0 yX0_planAtOnce yX0_planAtOnce, Cond.initialized RX0, Cond.code yX0_planAtOnce cX0_planAtOnce 2 none, Cond.fieldLink RX0 35 "SwingCranes$Crane" "want" "I", Cond.methodLink RX0 41 yX0_setSteps, Cond.instanceMethod yX0_setSteps, Cond.selects RX0 yX0_setSteps yX0_setSteps, Cond.code yX0_setSteps cX0_setSteps 4 none, Cond.fieldLink RX0 49 "SwingCranes$Crane" "soonIn" "I", Cond.fieldLink RX0 52 "SwingCranes$Crane" "soonBy" "I"]
def wsX2_tellAtOnce_r2 : List Cond := [Cond.fieldLink RX0 55 "SwingCranes$Crane" "laterIn" "I", Cond.fieldLink RX0 58 "SwingCranes$Crane" "laterBy" "I", Cond.methodLink RX2 58 yX2_rightHeeds, Cond.instanceMethod yX2_rightHeeds, Cond.selects RX2 yX2_rightHeeds yX2_rightHeeds, Cond.code yX2_rightHeeds cX2_rightHeeds 2 (some .boolean), Cond.methodLink RX2 61 yX2_heeding, Cond.instanceMethod yX2_heeding, Cond.selects RX2 yX2_heeding yX2_heeding, Cond.code yX2_heeding cX2_heeding 1 (some .int)]
def wsX2_tellAtOnce : List Cond := .code yX2_tellAtOnce cX2_tellAtOnce 3 (some .int) :: ((wsX2_tellAtOnce_r1 ++ wsX2_tellAtOnce_r2) ++ wsX20 ++ wsX00)
def wsX2_tellByHalves_r1 : List Cond := [Cond.fieldLink RX2 12 "SwingCranes$Pair" "left" "LSwingCranes$Crane;", Cond.fieldLink RX2 18 "SwingCranes$Pair" "right" "LSwingCranes$Crane;", Cond.methodLink RX2 50 yX2_leftHeeds, Cond.instanceMethod yX2_leftHeeds, Cond.selects RX2 yX2_leftHeeds yX2_leftHeeds, Cond.initialized RX2, Cond.code yX2_leftHeeds cX2_leftHeeds 2 (some .boolean), Cond.methodLink RX2 46 yX2_isCoupled, Cond.instanceMethod yX2_isCoupled, Cond.selects RX2 yX2_isCoupled yX2_isCoupled, Cond.code yX2_isCoupled cX2_isCoupled 1 (some .boolean), Cond.fieldLink RX2 21 "SwingCranes$Pair" "level" "I", Cond.methodLink RX2 65 yX0_planByHalves, Cond.instanceMethod yX0_planByHalves, Cond.selects RX0 yX0_planByHalves yX0_planByHalves, Cond.initialized RX0, Cond.code yX0_planByHalves cX0_planByHalves 5 none, Cond.fieldLink RX0 35 "SwingCranes$Crane" "want" "I", Cond.fieldLink RX0 24 "SwingCranes$Crane" "rope" "I", Cond.static yX7_halfSwing, Cond.initialized RX7, Cond.code yX7_halfSwing cX7_halfSwing 2 (some .int), Cond.methodLink RX0 41 yX0_setSteps, Cond.instanceMethod yX0_setSteps]
def wsX2_tellByHalves_r2 : List Cond := [Cond.selects RX0 yX0_setSteps yX0_setSteps, Cond.code yX0_setSteps cX0_setSteps 4 none, Cond.fieldLink RX0 49 "SwingCranes$Crane" "soonIn" "I", Cond.fieldLink RX0 52 "SwingCranes$Crane" "soonBy" "I", Cond.fieldLink RX0 55 "SwingCranes$Crane" "laterIn" "I", Cond.fieldLink RX0 58 "SwingCranes$Crane" "laterBy" "I", Cond.methodLink RX2 58 yX2_rightHeeds, Cond.instanceMethod yX2_rightHeeds, Cond.selects RX2 yX2_rightHeeds yX2_rightHeeds, Cond.code yX2_rightHeeds cX2_rightHeeds 2 (some .boolean), Cond.methodLink RX2 61 yX2_heeding, Cond.instanceMethod yX2_heeding, Cond.selects RX2 yX2_heeding yX2_heeding, Cond.code yX2_heeding cX2_heeding 1 (some .int)]
def wsX2_tellByHalves : List Cond := .code yX2_tellByHalves cX2_tellByHalves 4 (some .int) :: ((wsX2_tellByHalves_r1 ++ wsX2_tellByHalves_r2) ++ wsX20 ++ wsX00)
def wsX2_aimsAt : List Cond := .code yX2_aimsAt cX2_aimsAt 3 (some .boolean) :: ([.fieldLink RX2 12 "SwingCranes$Pair" "left" "LSwingCranes$Crane;", .fieldLink RX2 69 "SwingCranes$Crane" "target" "I", .fieldLink RX2 18 "SwingCranes$Pair" "right" "LSwingCranes$Crane;", .methodLink RX2 50 yX2_leftHeeds, .instanceMethod yX2_leftHeeds, .selects RX2 yX2_leftHeeds yX2_leftHeeds, .initialized RX2, .code yX2_leftHeeds cX2_leftHeeds 2 (some .boolean), .methodLink RX2 46 yX2_isCoupled, .instanceMethod yX2_isCoupled, .selects RX2 yX2_isCoupled yX2_isCoupled, .code yX2_isCoupled cX2_isCoupled 1 (some .boolean), .fieldLink RX2 21 "SwingCranes$Pair" "level" "I", .methodLink RX2 58 yX2_rightHeeds, .instanceMethod yX2_rightHeeds, .selects RX2 yX2_rightHeeds yX2_rightHeeds, .code yX2_rightHeeds cX2_rightHeeds 2 (some .boolean)] ++ wsX20 ++ wsX00)
def wsX2_aim : List Cond := .code yX2_aim cX2_aim 3 none :: ([.fieldLink RX2 12 "SwingCranes$Pair" "left" "LSwingCranes$Crane;", .fieldLink RX2 69 "SwingCranes$Crane" "target" "I", .fieldLink RX2 18 "SwingCranes$Pair" "right" "LSwingCranes$Crane;", .methodLink RX2 50 yX2_leftHeeds, .instanceMethod yX2_leftHeeds, .selects RX2 yX2_leftHeeds yX2_leftHeeds, .initialized RX2, .code yX2_leftHeeds cX2_leftHeeds 2 (some .boolean), .methodLink RX2 46 yX2_isCoupled, .instanceMethod yX2_isCoupled, .selects RX2 yX2_isCoupled yX2_isCoupled, .code yX2_isCoupled cX2_isCoupled 1 (some .boolean), .fieldLink RX2 21 "SwingCranes$Pair" "level" "I", .methodLink RX2 58 yX2_rightHeeds, .instanceMethod yX2_rightHeeds, .selects RX2 yX2_rightHeeds yX2_rightHeeds, .code yX2_rightHeeds cX2_rightHeeds 2 (some .boolean)] ++ wsX20 ++ wsX00)
def wsX2_goOn_r1 : List Cond := [Cond.fieldLink RX2 12 "SwingCranes$Pair" "left" "LSwingCranes$Crane;", Cond.fieldLink RX2 40 "SwingCranes$Crane" "place" "I", Cond.fieldLink RX2 18 "SwingCranes$Pair" "right" "LSwingCranes$Crane;", Cond.fieldLink RX2 80 "SwingCranes$Layout" "end" "I", Cond.fieldLink RX2 83 "SwingCranes$Layout" "hoist" "I", Cond.fieldLink RX2 86 "SwingCranes$Crane" "rope" "I", Cond.fieldLink RX2 21 "SwingCranes$Pair" "level" "I", Cond.fieldLink RX2 93 "SwingCranes$Crane" "braked" "Z", Cond.methodLink RX2 72 yX2_freeBetween, Cond.instanceMethod yX2_freeBetween, Cond.selects RX2 yX2_freeBetween yX2_freeBetween, Cond.initialized RX2, Cond.code yX2_freeBetween cX2_freeBetween 2 (some .int), Cond.fieldLink RX2 43 "SwingCranes$Layout" "gap" "I", Cond.methodLink RX2 76 yX0_roll, Cond.instanceMethod yX0_roll, Cond.selects RX0 yX0_roll yX0_roll, Cond.initialized RX0, Cond.code yX0_roll cX0_roll 6 none, Cond.fieldLink RX0 94 "SwingCranes$Layout" "change" "I", Cond.fieldLink RX0 45 "SwingCranes$Crane" "braked" "Z", Cond.fieldLink RX0 18 "SwingCranes$Crane" "speed" "I", Cond.fieldLink RX0 15 "SwingCranes$Crane" "place" "I", Cond.methodLink RX0 87 yX0_takeSteps]
def wsX2_goOn_r2 : List Cond := [Cond.instanceMethod yX0_takeSteps, Cond.selects RX0 yX0_takeSteps yX0_takeSteps, Cond.code yX0_takeSteps cX0_takeSteps 1 none, Cond.fieldLink RX0 49 "SwingCranes$Crane" "soonIn" "I", Cond.fieldLink RX0 55 "SwingCranes$Crane" "laterIn" "I", Cond.fieldLink RX0 52 "SwingCranes$Crane" "soonBy" "I", Cond.fieldLink RX0 35 "SwingCranes$Crane" "want" "I", Cond.fieldLink RX0 58 "SwingCranes$Crane" "laterBy" "I", Cond.methodLink RX0 90 yX0_speedNearerToWant, Cond.instanceMethod yX0_speedNearerToWant, Cond.selects RX0 yX0_speedNearerToWant yX0_speedNearerToWant, Cond.code yX0_speedNearerToWant cX0_speedNearerToWant 3 (some .int), Cond.methodLink RX0 108 yX0_limit, Cond.instanceMethod yX0_limit, Cond.selects RX0 yX0_limit yX0_limit, Cond.code yX0_limit cX0_limit 2 (some .int), Cond.fieldLink RX0 69 "SwingCranes$Layout" "top" "I", Cond.fieldLink RX0 28 "SwingCranes$Crane" "load" "I", Cond.methodLink RX0 74 Lib.Math.max.name, Cond.static Lib.Math.max.name, Cond.initialized "java/lang/Math", Cond.code Lib.Math.max.name Lib.Math.max.code 2 (some .int), Cond.static yX7_keptWithin, Cond.initialized RX7]
def wsX2_goOn_r3 : List Cond := [Cond.code yX7_keptWithin cX7_keptWithin 2 (some .int), Cond.methodLink RX7 239 Lib.Math.min.name, Cond.static Lib.Math.min.name, Cond.code Lib.Math.min.name Lib.Math.min.code 2 (some .int), Cond.methodLink RX7 214 Lib.Math.max.name, Cond.static yX7_wayToStop, Cond.code yX7_wayToStop cX7_wayToStop 4 (some .int), Cond.methodLink RX7 209 Lib.Math.abs.name, Cond.static Lib.Math.abs.name, Cond.code Lib.Math.abs.name Lib.Math.abs.code 1 (some .int), Cond.methodLink RX0 100 yX0_speedForRoom, Cond.instanceMethod yX0_speedForRoom, Cond.selects RX0 yX0_speedForRoom yX0_speedForRoom, Cond.code yX0_speedForRoom cX0_speedForRoom 6 (some .int), Cond.methodLink RX0 84 Lib.Math.abs.name, Cond.methodLink RX0 104 yX0_swingOut, Cond.instanceMethod yX0_swingOut, Cond.selects RX0 yX0_swingOut yX0_swingOut, Cond.code yX0_swingOut cX0_swingOut 3 none, Cond.fieldLink RX0 24 "SwingCranes$Crane" "rope" "I", Cond.fieldLink RX0 29 "SwingCranes$Crane" "swing" "I", Cond.fieldLink RX0 32 "SwingCranes$Crane" "rate" "I", Cond.methodLink RX2 89 yX0_hoistRope, Cond.instanceMethod yX0_hoistRope]
def wsX2_goOn_r4 : List Cond := [Cond.selects RX0 yX0_hoistRope yX0_hoistRope, Cond.code yX0_hoistRope cX0_hoistRope 6 none, Cond.fieldLink RX0 38 "SwingCranes$Crane" "target" "I"]
def wsX2_goOn : List Cond := .code yX2_goOn cX2_goOn 3 (some .int) :: ((wsX2_goOn_r1 ++ (wsX2_goOn_r2 ++ (wsX2_goOn_r3 ++ wsX2_goOn_r4))) ++ wsX20 ++ wsX00 ++ wsX10)
def wsX3_init : List Cond := .code yX3_init cX3_init 1 none :: ([.methodLink RX3 3 objectInit, .instanceMethod objectInit, .code objectInit ⟨#[0xb1]⟩ 1 none, .arrayClass .int, .fieldLink RX3 11 "SwingCranes$Spots" "names" "[I", .fieldLink RX3 15 "SwingCranes$Spots" "ticks" "[I"] ++ wsX30)
def wsX3_nameAt : List Cond := .code yX3_nameAt cX3_nameAt 2 (some .int) :: ([.fieldLink RX3 11 "SwingCranes$Spots" "names" "[I"] ++ wsX30)
def wsX3_ticksAt : List Cond := .code yX3_ticksAt cX3_ticksAt 2 (some .int) :: ([.fieldLink RX3 18 "SwingCranes$Spots" "many" "I", .fieldLink RX3 15 "SwingCranes$Spots" "ticks" "[I"] ++ wsX30)
def wsX3_put : List Cond := .code yX3_put cX3_put 4 none :: ([.fieldLink RX3 11 "SwingCranes$Spots" "names" "[I", .fieldLink RX3 15 "SwingCranes$Spots" "ticks" "[I"] ++ wsX30)
def wsX3_copyFrom : List Cond := .code yX3_copyFrom cX3_copyFrom 3 none :: ([.fieldLink RX3 18 "SwingCranes$Spots" "many" "I", .methodLink RX3 22 yX3_nameAt, .instanceMethod yX3_nameAt, .selects RX3 yX3_nameAt yX3_nameAt, .initialized RX3, .code yX3_nameAt cX3_nameAt 2 (some .int), .fieldLink RX3 11 "SwingCranes$Spots" "names" "[I", .methodLink RX3 26 yX3_ticksAt, .instanceMethod yX3_ticksAt, .selects RX3 yX3_ticksAt yX3_ticksAt, .code yX3_ticksAt cX3_ticksAt 2 (some .int), .fieldLink RX3 15 "SwingCranes$Spots" "ticks" "[I", .methodLink RX3 29 yX3_put, .instanceMethod yX3_put, .selects RX3 yX3_put yX3_put, .code yX3_put cX3_put 4 none] ++ wsX30)
def wsX3_nameOf : List Cond := .code yX3_nameOf cX3_nameOf 3 (some .int) :: ([])
def wsX3_find : List Cond := .code yX3_find cX3_find 3 (some .int) :: ([.fieldLink RX3 18 "SwingCranes$Spots" "many" "I", .methodLink RX3 22 yX3_nameAt, .instanceMethod yX3_nameAt, .selects RX3 yX3_nameAt yX3_nameAt, .initialized RX3, .code yX3_nameAt cX3_nameAt 2 (some .int), .fieldLink RX3 11 "SwingCranes$Spots" "names" "[I"] ++ wsX30)
def wsX3_addTick_r1 : List Cond := [Cond.fieldLink RX3 33 "SwingCranes$Crane" "place" "I", Cond.fieldLink RX3 38 "SwingCranes$Crane" "rope" "I", Cond.fieldLink RX3 18 "SwingCranes$Spots" "many" "I", Cond.methodLink RX3 41 yX3_nameOf, Cond.instanceMethod yX3_nameOf, Cond.selects RX3 yX3_nameOf yX3_nameOf, Cond.initialized RX3, Cond.code yX3_nameOf cX3_nameOf 3 (some .int), Cond.methodLink RX3 45 yX3_find, Cond.instanceMethod yX3_find, Cond.selects RX3 yX3_find yX3_find, Cond.code yX3_find cX3_find 3 (some .int), Cond.methodLink RX3 22 yX3_nameAt, Cond.instanceMethod yX3_nameAt, Cond.selects RX3 yX3_nameAt yX3_nameAt, Cond.code yX3_nameAt cX3_nameAt 2 (some .int), Cond.fieldLink RX3 11 "SwingCranes$Spots" "names" "[I", Cond.methodLink RX3 26 yX3_ticksAt, Cond.instanceMethod yX3_ticksAt, Cond.selects RX3 yX3_ticksAt yX3_ticksAt, Cond.code yX3_ticksAt cX3_ticksAt 2 (some .int), Cond.fieldLink RX3 15 "SwingCranes$Spots" "ticks" "[I", Cond.methodLink RX3 29 yX3_put, Cond.instanceMethod yX3_put]
def wsX3_addTick_r2 : List Cond := [Cond.selects RX3 yX3_put yX3_put, Cond.code yX3_put cX3_put 4 none]
def wsX3_addTick : List Cond := .code yX3_addTick cX3_addTick 4 none :: ((wsX3_addTick_r1 ++ wsX3_addTick_r2) ++ wsX00 ++ wsX30)
def wsX3_ticksIn : List Cond := .code yX3_ticksIn cX3_ticksIn 3 (some .int) :: ([.methodLink RX3 41 yX3_nameOf, .instanceMethod yX3_nameOf, .selects RX3 yX3_nameOf yX3_nameOf, .initialized RX3, .code yX3_nameOf cX3_nameOf 3 (some .int), .methodLink RX3 45 yX3_find, .instanceMethod yX3_find, .selects RX3 yX3_find yX3_find, .code yX3_find cX3_find 3 (some .int), .fieldLink RX3 18 "SwingCranes$Spots" "many" "I", .methodLink RX3 22 yX3_nameAt, .instanceMethod yX3_nameAt, .selects RX3 yX3_nameAt yX3_nameAt, .code yX3_nameAt cX3_nameAt 2 (some .int), .fieldLink RX3 11 "SwingCranes$Spots" "names" "[I", .methodLink RX3 26 yX3_ticksAt, .instanceMethod yX3_ticksAt, .selects RX3 yX3_ticksAt yX3_ticksAt, .code yX3_ticksAt cX3_ticksAt 2 (some .int), .fieldLink RX3 15 "SwingCranes$Spots" "ticks" "[I"] ++ wsX30)
def wsX3_blockAt : List Cond := .code yX3_blockAt cX3_blockAt 2 (some .int) :: ([.methodLink RX3 22 yX3_nameAt, .instanceMethod yX3_nameAt, .selects RX3 yX3_nameAt yX3_nameAt, .initialized RX3, .code yX3_nameAt cX3_nameAt 2 (some .int), .fieldLink RX3 11 "SwingCranes$Spots" "names" "[I"] ++ wsX30)
def wsX3_floorAt : List Cond := .code yX3_floorAt cX3_floorAt 2 (some .int) :: ([.methodLink RX3 22 yX3_nameAt, .instanceMethod yX3_nameAt, .selects RX3 yX3_nameAt yX3_nameAt, .initialized RX3, .code yX3_nameAt cX3_nameAt 2 (some .int), .fieldLink RX3 11 "SwingCranes$Spots" "names" "[I"] ++ wsX30)
def wsX5_init_r1 : List Cond := [Cond.methodLink RX5 1 objectInit, Cond.instanceMethod objectInit, Cond.code objectInit ⟨#[0xb1]⟩ 1 none, Cond.classLink RX5 7 RX2, Cond.instantiable RX2 3, Cond.initialized RX2, Cond.fieldLink RX5 10 "SwingCranes$Story" "pair" "LSwingCranes$Pair;", Cond.classLink RX5 16 RX3, Cond.instantiable RX3 3, Cond.initialized RX3, Cond.fieldLink RX5 19 "SwingCranes$Story" "leftSpots" "LSwingCranes$Spots;", Cond.fieldLink RX5 23 "SwingCranes$Story" "rightSpots" "LSwingCranes$Spots;", Cond.instanceMethod yX2_init, Cond.code yX2_init cX2_init 1 none, Cond.methodLink RX2 3 objectInit, Cond.classLink RX2 9 RX0, Cond.instantiable RX0 13, Cond.initialized RX0, Cond.fieldLink RX2 12 "SwingCranes$Pair" "left" "LSwingCranes$Crane;", Cond.fieldLink RX2 18 "SwingCranes$Pair" "right" "LSwingCranes$Crane;", Cond.fieldLink RX2 21 "SwingCranes$Pair" "level" "I", Cond.instanceMethod yX0_init, Cond.code yX0_init cX0_init 1 none, Cond.methodLink RX0 3 objectInit]
def wsX5_init_r2 : List Cond := [Cond.instanceMethod yX3_init, Cond.code yX3_init cX3_init 1 none, Cond.methodLink RX3 3 objectInit, Cond.arrayClass .int, Cond.fieldLink RX3 11 "SwingCranes$Spots" "names" "[I", Cond.fieldLink RX3 15 "SwingCranes$Spots" "ticks" "[I"]
def wsX5_init : List Cond := .code yX5_init cX5_init 1 none :: ((wsX5_init_r1 ++ wsX5_init_r2) ++ wsX20 ++ wsX50 ++ wsX30 ++ wsX00)
def wsX5_begin_r1 : List Cond := [Cond.fieldLink RX5 10 "SwingCranes$Story" "pair" "LSwingCranes$Pair;", Cond.fieldLink RX5 19 "SwingCranes$Story" "leftSpots" "LSwingCranes$Spots;", Cond.fieldLink RX5 30 "SwingCranes$Spots" "many" "I", Cond.fieldLink RX5 23 "SwingCranes$Story" "rightSpots" "LSwingCranes$Spots;", Cond.fieldLink RX5 34 "SwingCranes$Story" "ticks" "I", Cond.methodLink RX5 26 yX2_begin, Cond.instanceMethod yX2_begin, Cond.selects RX2 yX2_begin yX2_begin, Cond.initialized RX2, Cond.code yX2_begin cX2_begin 2 none, Cond.fieldLink RX2 12 "SwingCranes$Pair" "left" "LSwingCranes$Crane;", Cond.fieldLink RX2 25 "SwingCranes$Layout" "left" "LSwingCranes$Start;", Cond.fieldLink RX2 18 "SwingCranes$Pair" "right" "LSwingCranes$Crane;", Cond.fieldLink RX2 34 "SwingCranes$Layout" "right" "LSwingCranes$Start;", Cond.fieldLink RX2 21 "SwingCranes$Pair" "level" "I", Cond.methodLink RX2 30 yX0_begin, Cond.instanceMethod yX0_begin, Cond.selects RX0 yX0_begin yX0_begin, Cond.initialized RX0, Cond.code yX0_begin cX0_begin 2 none, Cond.fieldLink RX0 9 "SwingCranes$Start" "place" "I", Cond.fieldLink RX0 15 "SwingCranes$Crane" "place" "I", Cond.fieldLink RX0 18 "SwingCranes$Crane" "speed" "I", Cond.fieldLink RX0 21 "SwingCranes$Start" "rope" "I"]
def wsX5_begin_r2 : List Cond := [Cond.fieldLink RX0 24 "SwingCranes$Crane" "rope" "I", Cond.fieldLink RX0 25 "SwingCranes$Start" "load" "I", Cond.fieldLink RX0 28 "SwingCranes$Crane" "load" "I", Cond.fieldLink RX0 29 "SwingCranes$Crane" "swing" "I", Cond.fieldLink RX0 32 "SwingCranes$Crane" "rate" "I", Cond.fieldLink RX0 35 "SwingCranes$Crane" "want" "I", Cond.fieldLink RX0 38 "SwingCranes$Crane" "target" "I", Cond.fieldLink RX0 45 "SwingCranes$Crane" "braked" "Z", Cond.methodLink RX0 41 yX0_setSteps, Cond.instanceMethod yX0_setSteps, Cond.selects RX0 yX0_setSteps yX0_setSteps, Cond.code yX0_setSteps cX0_setSteps 4 none, Cond.fieldLink RX0 49 "SwingCranes$Crane" "soonIn" "I", Cond.fieldLink RX0 52 "SwingCranes$Crane" "soonBy" "I", Cond.fieldLink RX0 55 "SwingCranes$Crane" "laterIn" "I", Cond.fieldLink RX0 58 "SwingCranes$Crane" "laterBy" "I"]
def wsX5_begin : List Cond := .code yX5_begin cX5_begin 2 none :: ((wsX5_begin_r1 ++ wsX5_begin_r2) ++ wsX50 ++ wsX30 ++ wsX20 ++ wsX10 ++ wsX40 ++ wsX00)
def wsX5_copyFrom_r1 : List Cond := [Cond.fieldLink RX5 10 "SwingCranes$Story" "pair" "LSwingCranes$Pair;", Cond.fieldLink RX5 19 "SwingCranes$Story" "leftSpots" "LSwingCranes$Spots;", Cond.fieldLink RX5 23 "SwingCranes$Story" "rightSpots" "LSwingCranes$Spots;", Cond.fieldLink RX5 34 "SwingCranes$Story" "ticks" "I", Cond.methodLink RX5 37 yX2_copyFrom, Cond.instanceMethod yX2_copyFrom, Cond.selects RX2 yX2_copyFrom yX2_copyFrom, Cond.initialized RX2, Cond.code yX2_copyFrom cX2_copyFrom 2 none, Cond.fieldLink RX2 12 "SwingCranes$Pair" "left" "LSwingCranes$Crane;", Cond.fieldLink RX2 18 "SwingCranes$Pair" "right" "LSwingCranes$Crane;", Cond.fieldLink RX2 21 "SwingCranes$Pair" "level" "I", Cond.methodLink RX2 36 yX0_copyFrom, Cond.instanceMethod yX0_copyFrom, Cond.selects RX0 yX0_copyFrom yX0_copyFrom, Cond.initialized RX0, Cond.code yX0_copyFrom cX0_copyFrom 2 none, Cond.fieldLink RX0 15 "SwingCranes$Crane" "place" "I", Cond.fieldLink RX0 18 "SwingCranes$Crane" "speed" "I", Cond.fieldLink RX0 24 "SwingCranes$Crane" "rope" "I", Cond.fieldLink RX0 28 "SwingCranes$Crane" "load" "I", Cond.fieldLink RX0 29 "SwingCranes$Crane" "swing" "I", Cond.fieldLink RX0 32 "SwingCranes$Crane" "rate" "I", Cond.fieldLink RX0 35 "SwingCranes$Crane" "want" "I"]
def wsX5_copyFrom_r2 : List Cond := [Cond.fieldLink RX0 38 "SwingCranes$Crane" "target" "I", Cond.fieldLink RX0 49 "SwingCranes$Crane" "soonIn" "I", Cond.fieldLink RX0 52 "SwingCranes$Crane" "soonBy" "I", Cond.fieldLink RX0 55 "SwingCranes$Crane" "laterIn" "I", Cond.fieldLink RX0 58 "SwingCranes$Crane" "laterBy" "I", Cond.fieldLink RX0 45 "SwingCranes$Crane" "braked" "Z", Cond.methodLink RX5 41 yX3_copyFrom, Cond.instanceMethod yX3_copyFrom, Cond.selects RX3 yX3_copyFrom yX3_copyFrom, Cond.initialized RX3, Cond.code yX3_copyFrom cX3_copyFrom 3 none, Cond.fieldLink RX3 18 "SwingCranes$Spots" "many" "I", Cond.methodLink RX3 22 yX3_nameAt, Cond.instanceMethod yX3_nameAt, Cond.selects RX3 yX3_nameAt yX3_nameAt, Cond.code yX3_nameAt cX3_nameAt 2 (some .int), Cond.fieldLink RX3 11 "SwingCranes$Spots" "names" "[I", Cond.methodLink RX3 26 yX3_ticksAt, Cond.instanceMethod yX3_ticksAt, Cond.selects RX3 yX3_ticksAt yX3_ticksAt, Cond.code yX3_ticksAt cX3_ticksAt 2 (some .int), Cond.fieldLink RX3 15 "SwingCranes$Spots" "ticks" "[I", Cond.methodLink RX3 29 yX3_put, Cond.instanceMethod yX3_put]
def wsX5_copyFrom_r3 : List Cond := [Cond.selects RX3 yX3_put yX3_put, Cond.code yX3_put cX3_put 4 none]
def wsX5_copyFrom : List Cond := .code yX5_copyFrom cX5_copyFrom 2 none :: ((wsX5_copyFrom_r1 ++ (wsX5_copyFrom_r2 ++ wsX5_copyFrom_r3)) ++ wsX50 ++ wsX20 ++ wsX00 ++ wsX30)
def wsX5_spotsOf : List Cond := .code yX5_spotsOf cX5_spotsOf 2 (some (.object "SwingCranes$Spots")) :: ([.fieldLink RX5 19 "SwingCranes$Story" "leftSpots" "LSwingCranes$Spots;", .fieldLink RX5 23 "SwingCranes$Story" "rightSpots" "LSwingCranes$Spots;"] ++ wsX50)
def wsX5_goOn_r1 : List Cond := [Cond.fieldLink RX5 10 "SwingCranes$Story" "pair" "LSwingCranes$Pair;", Cond.fieldLink RX5 19 "SwingCranes$Story" "leftSpots" "LSwingCranes$Spots;", Cond.fieldLink RX5 48 "SwingCranes$Pair" "left" "LSwingCranes$Crane;", Cond.fieldLink RX5 23 "SwingCranes$Story" "rightSpots" "LSwingCranes$Spots;", Cond.fieldLink RX5 56 "SwingCranes$Pair" "right" "LSwingCranes$Crane;", Cond.fieldLink RX5 34 "SwingCranes$Story" "ticks" "I", Cond.methodLink RX5 44 yX2_goOn, Cond.instanceMethod yX2_goOn, Cond.selects RX2 yX2_goOn yX2_goOn, Cond.initialized RX2, Cond.code yX2_goOn cX2_goOn 3 (some .int), Cond.fieldLink RX2 12 "SwingCranes$Pair" "left" "LSwingCranes$Crane;", Cond.fieldLink RX2 40 "SwingCranes$Crane" "place" "I", Cond.fieldLink RX2 18 "SwingCranes$Pair" "right" "LSwingCranes$Crane;", Cond.fieldLink RX2 80 "SwingCranes$Layout" "end" "I", Cond.fieldLink RX2 83 "SwingCranes$Layout" "hoist" "I", Cond.fieldLink RX2 86 "SwingCranes$Crane" "rope" "I", Cond.fieldLink RX2 21 "SwingCranes$Pair" "level" "I", Cond.fieldLink RX2 93 "SwingCranes$Crane" "braked" "Z", Cond.methodLink RX2 72 yX2_freeBetween, Cond.instanceMethod yX2_freeBetween, Cond.selects RX2 yX2_freeBetween yX2_freeBetween, Cond.code yX2_freeBetween cX2_freeBetween 2 (some .int), Cond.fieldLink RX2 43 "SwingCranes$Layout" "gap" "I"]
def wsX5_goOn_r2 : List Cond := [Cond.methodLink RX2 76 yX0_roll, Cond.instanceMethod yX0_roll, Cond.selects RX0 yX0_roll yX0_roll, Cond.initialized RX0, Cond.code yX0_roll cX0_roll 6 none, Cond.fieldLink RX0 94 "SwingCranes$Layout" "change" "I", Cond.fieldLink RX0 45 "SwingCranes$Crane" "braked" "Z", Cond.fieldLink RX0 18 "SwingCranes$Crane" "speed" "I", Cond.fieldLink RX0 15 "SwingCranes$Crane" "place" "I", Cond.methodLink RX0 87 yX0_takeSteps, Cond.instanceMethod yX0_takeSteps, Cond.selects RX0 yX0_takeSteps yX0_takeSteps, Cond.code yX0_takeSteps cX0_takeSteps 1 none, Cond.fieldLink RX0 49 "SwingCranes$Crane" "soonIn" "I", Cond.fieldLink RX0 55 "SwingCranes$Crane" "laterIn" "I", Cond.fieldLink RX0 52 "SwingCranes$Crane" "soonBy" "I", Cond.fieldLink RX0 35 "SwingCranes$Crane" "want" "I", Cond.fieldLink RX0 58 "SwingCranes$Crane" "laterBy" "I", Cond.methodLink RX0 90 yX0_speedNearerToWant, Cond.instanceMethod yX0_speedNearerToWant, Cond.selects RX0 yX0_speedNearerToWant yX0_speedNearerToWant, Cond.code yX0_speedNearerToWant cX0_speedNearerToWant 3 (some .int), Cond.methodLink RX0 108 yX0_limit, Cond.instanceMethod yX0_limit]
def wsX5_goOn_r3 : List Cond := [Cond.selects RX0 yX0_limit yX0_limit, Cond.code yX0_limit cX0_limit 2 (some .int), Cond.fieldLink RX0 69 "SwingCranes$Layout" "top" "I", Cond.fieldLink RX0 28 "SwingCranes$Crane" "load" "I", Cond.methodLink RX0 74 Lib.Math.max.name, Cond.static Lib.Math.max.name, Cond.initialized "java/lang/Math", Cond.code Lib.Math.max.name Lib.Math.max.code 2 (some .int), Cond.static yX7_keptWithin, Cond.initialized RX7, Cond.code yX7_keptWithin cX7_keptWithin 2 (some .int), Cond.methodLink RX7 239 Lib.Math.min.name, Cond.static Lib.Math.min.name, Cond.code Lib.Math.min.name Lib.Math.min.code 2 (some .int), Cond.methodLink RX7 214 Lib.Math.max.name, Cond.static yX7_wayToStop, Cond.code yX7_wayToStop cX7_wayToStop 4 (some .int), Cond.methodLink RX7 209 Lib.Math.abs.name, Cond.static Lib.Math.abs.name, Cond.code Lib.Math.abs.name Lib.Math.abs.code 1 (some .int), Cond.methodLink RX0 100 yX0_speedForRoom, Cond.instanceMethod yX0_speedForRoom, Cond.selects RX0 yX0_speedForRoom yX0_speedForRoom, Cond.code yX0_speedForRoom cX0_speedForRoom 6 (some .int)]
def wsX5_goOn_r4 : List Cond := [Cond.methodLink RX0 84 Lib.Math.abs.name, Cond.methodLink RX0 104 yX0_swingOut, Cond.instanceMethod yX0_swingOut, Cond.selects RX0 yX0_swingOut yX0_swingOut, Cond.code yX0_swingOut cX0_swingOut 3 none, Cond.fieldLink RX0 24 "SwingCranes$Crane" "rope" "I", Cond.fieldLink RX0 29 "SwingCranes$Crane" "swing" "I", Cond.fieldLink RX0 32 "SwingCranes$Crane" "rate" "I", Cond.methodLink RX2 89 yX0_hoistRope, Cond.instanceMethod yX0_hoistRope, Cond.selects RX0 yX0_hoistRope yX0_hoistRope, Cond.code yX0_hoistRope cX0_hoistRope 6 none, Cond.fieldLink RX0 38 "SwingCranes$Crane" "target" "I", Cond.methodLink RX5 52 yX3_addTick, Cond.instanceMethod yX3_addTick, Cond.selects RX3 yX3_addTick yX3_addTick, Cond.initialized RX3, Cond.code yX3_addTick cX3_addTick 4 none, Cond.fieldLink RX3 33 "SwingCranes$Crane" "place" "I", Cond.fieldLink RX3 38 "SwingCranes$Crane" "rope" "I", Cond.fieldLink RX3 18 "SwingCranes$Spots" "many" "I", Cond.methodLink RX3 41 yX3_nameOf, Cond.instanceMethod yX3_nameOf, Cond.selects RX3 yX3_nameOf yX3_nameOf]
def wsX5_goOn_r5 : List Cond := [Cond.code yX3_nameOf cX3_nameOf 3 (some .int), Cond.methodLink RX3 45 yX3_find, Cond.instanceMethod yX3_find, Cond.selects RX3 yX3_find yX3_find, Cond.code yX3_find cX3_find 3 (some .int), Cond.methodLink RX3 22 yX3_nameAt, Cond.instanceMethod yX3_nameAt, Cond.selects RX3 yX3_nameAt yX3_nameAt, Cond.code yX3_nameAt cX3_nameAt 2 (some .int), Cond.fieldLink RX3 11 "SwingCranes$Spots" "names" "[I", Cond.methodLink RX3 26 yX3_ticksAt, Cond.instanceMethod yX3_ticksAt, Cond.selects RX3 yX3_ticksAt yX3_ticksAt, Cond.code yX3_ticksAt cX3_ticksAt 2 (some .int), Cond.fieldLink RX3 15 "SwingCranes$Spots" "ticks" "[I", Cond.methodLink RX3 29 yX3_put, Cond.instanceMethod yX3_put, Cond.selects RX3 yX3_put yX3_put, Cond.code yX3_put cX3_put 4 none]
def wsX5_goOn : List Cond := .code yX5_goOn cX5_goOn 3 (some .int) :: ((wsX5_goOn_r1 ++ (wsX5_goOn_r2 ++ (wsX5_goOn_r3 ++ (wsX5_goOn_r4 ++ wsX5_goOn_r5)))) ++ wsX50 ++ wsX20 ++ wsX00 ++ wsX10 ++ wsX30)
def wsX6_init : List Cond := .code yX6_init cX6_init 1 none :: ([.methodLink RX6 3 objectInit, .instanceMethod objectInit, .code objectInit ⟨#[0xb1]⟩ 1 none, .arrayClass .char, .fieldLink RX6 9 "SwingCranes$Text" "letters" "[C"] ++ wsX60)
def wsX6_isFull : List Cond := .code yX6_isFull cX6_isFull 1 (some .boolean) :: ([.fieldLink RX6 15 "SwingCranes$Text" "length" "I"] ++ wsX60)
def wsX6_append : List Cond := .code yX6_append cX6_append 2 none :: ([.fieldLink RX6 15 "SwingCranes$Text" "length" "I", .fieldLink RX6 9 "SwingCranes$Text" "letters" "[C"] ++ wsX60)
def wsX6_letterAt : List Cond := .code yX6_letterAt cX6_letterAt 2 (some .int) :: ([.fieldLink RX6 15 "SwingCranes$Text" "length" "I", .fieldLink RX6 9 "SwingCranes$Text" "letters" "[C"] ++ wsX60)
def wsX7_isWithin : List Cond := .code yX7_isWithin cX7_isWithin 3 (some .boolean) :: ([])
def wsX6_readNumber : List Cond := .code yX6_readNumber cX6_readNumber 5 (some .int) :: ([.fieldLink RX6 24 "SwingCranes$Text" "at" "I", .methodLink RX6 31 yX6_letterAt, .instanceMethod yX6_letterAt, .selects RX6 yX6_letterAt yX6_letterAt, .initialized RX6, .code yX6_letterAt cX6_letterAt 2 (some .int), .fieldLink RX6 15 "SwingCranes$Text" "length" "I", .fieldLink RX6 9 "SwingCranes$Text" "letters" "[C", .static yX7_isWithin, .initialized RX7, .code yX7_isWithin cX7_isWithin 3 (some .boolean)] ++ wsX60)
def wsX6_readEnd : List Cond := .code yX6_readEnd cX6_readEnd 2 (some .boolean) :: ([.fieldLink RX6 51 "SwingCranes$Layout" "end" "I", .methodLink RX6 47 yX6_readNumber, .instanceMethod yX6_readNumber, .selects RX6 yX6_readNumber yX6_readNumber, .initialized RX6, .code yX6_readNumber cX6_readNumber 5 (some .int), .fieldLink RX6 24 "SwingCranes$Text" "at" "I", .methodLink RX6 31 yX6_letterAt, .instanceMethod yX6_letterAt, .selects RX6 yX6_letterAt yX6_letterAt, .code yX6_letterAt cX6_letterAt 2 (some .int), .fieldLink RX6 15 "SwingCranes$Text" "length" "I", .fieldLink RX6 9 "SwingCranes$Text" "letters" "[C", .static yX7_isWithin, .initialized RX7, .code yX7_isWithin cX7_isWithin 3 (some .boolean)] ++ wsX10 ++ wsX60)
def wsX6_readGap : List Cond := .code yX6_readGap cX6_readGap 2 (some .boolean) :: ([.fieldLink RX6 58 "SwingCranes$Layout" "gap" "I", .methodLink RX6 47 yX6_readNumber, .instanceMethod yX6_readNumber, .selects RX6 yX6_readNumber yX6_readNumber, .initialized RX6, .code yX6_readNumber cX6_readNumber 5 (some .int), .fieldLink RX6 24 "SwingCranes$Text" "at" "I", .methodLink RX6 31 yX6_letterAt, .instanceMethod yX6_letterAt, .selects RX6 yX6_letterAt yX6_letterAt, .code yX6_letterAt cX6_letterAt 2 (some .int), .fieldLink RX6 15 "SwingCranes$Text" "length" "I", .fieldLink RX6 9 "SwingCranes$Text" "letters" "[C", .static yX7_isWithin, .initialized RX7, .code yX7_isWithin cX7_isWithin 3 (some .boolean)] ++ wsX10 ++ wsX60)
def wsX7_isCrane : List Cond := .code yX7_isCrane cX7_isCrane 1 (some .boolean) :: ([])
def wsX7_isRope : List Cond := .code yX7_isRope cX7_isRope 1 (some .boolean) :: ([.methodLink RX7 56 yX7_isWithin, .static yX7_isWithin, .initialized RX7, .code yX7_isWithin cX7_isWithin 3 (some .boolean)])
def wsX6_readStart_r1 : List Cond := [Cond.fieldLink RX6 65 "SwingCranes$Layout" "left" "LSwingCranes$Start;", Cond.fieldLink RX6 69 "SwingCranes$Layout" "right" "LSwingCranes$Start;", Cond.fieldLink RX6 72 "SwingCranes$Start" "place" "I", Cond.fieldLink RX6 77 "SwingCranes$Start" "rope" "I", Cond.fieldLink RX6 80 "SwingCranes$Start" "load" "I", Cond.methodLink RX6 47 yX6_readNumber, Cond.instanceMethod yX6_readNumber, Cond.selects RX6 yX6_readNumber yX6_readNumber, Cond.initialized RX6, Cond.code yX6_readNumber cX6_readNumber 5 (some .int), Cond.fieldLink RX6 24 "SwingCranes$Text" "at" "I", Cond.methodLink RX6 31 yX6_letterAt, Cond.instanceMethod yX6_letterAt, Cond.selects RX6 yX6_letterAt yX6_letterAt, Cond.code yX6_letterAt cX6_letterAt 2 (some .int), Cond.fieldLink RX6 15 "SwingCranes$Text" "length" "I", Cond.fieldLink RX6 9 "SwingCranes$Text" "letters" "[C", Cond.static yX7_isWithin, Cond.initialized RX7, Cond.code yX7_isWithin cX7_isWithin 3 (some .boolean), Cond.static yX7_isCrane, Cond.code yX7_isCrane cX7_isCrane 1 (some .boolean), Cond.static yX7_isRope, Cond.code yX7_isRope cX7_isRope 1 (some .boolean)]
def wsX6_readStart_r2 : List Cond := [Cond.methodLink RX7 56 yX7_isWithin]
def wsX6_readStart : List Cond := .code yX6_readStart cX6_readStart 4 (some .boolean) :: ((wsX6_readStart_r1 ++ wsX6_readStart_r2) ++ wsX10 ++ wsX40 ++ wsX60)
def wsX6_readDrive : List Cond := .code yX6_readDrive cX6_readDrive 2 (some .boolean) :: ([.fieldLink RX6 86 "SwingCranes$Layout" "change" "I", .fieldLink RX6 89 "SwingCranes$Layout" "top" "I", .fieldLink RX6 92 "SwingCranes$Layout" "hoist" "I", .methodLink RX6 47 yX6_readNumber, .instanceMethod yX6_readNumber, .selects RX6 yX6_readNumber yX6_readNumber, .initialized RX6, .code yX6_readNumber cX6_readNumber 5 (some .int), .fieldLink RX6 24 "SwingCranes$Text" "at" "I", .methodLink RX6 31 yX6_letterAt, .instanceMethod yX6_letterAt, .selects RX6 yX6_letterAt yX6_letterAt, .code yX6_letterAt cX6_letterAt 2 (some .int), .fieldLink RX6 15 "SwingCranes$Text" "length" "I", .fieldLink RX6 9 "SwingCranes$Text" "letters" "[C", .static yX7_isWithin, .initialized RX7, .code yX7_isWithin cX7_isWithin 3 (some .boolean)] ++ wsX10 ++ wsX60)
def wsX6_readItem_r1 : List Cond := [Cond.fieldLink RX6 24 "SwingCranes$Text" "at" "I", Cond.methodLink RX6 31 yX6_letterAt, Cond.instanceMethod yX6_letterAt, Cond.selects RX6 yX6_letterAt yX6_letterAt, Cond.initialized RX6, Cond.code yX6_letterAt cX6_letterAt 2 (some .int), Cond.fieldLink RX6 15 "SwingCranes$Text" "length" "I", Cond.fieldLink RX6 9 "SwingCranes$Text" "letters" "[C", Cond.methodLink RX6 35 yX6_readEnd, Cond.instanceMethod yX6_readEnd, Cond.selects RX6 yX6_readEnd yX6_readEnd, Cond.code yX6_readEnd cX6_readEnd 2 (some .boolean), Cond.fieldLink RX6 51 "SwingCranes$Layout" "end" "I", Cond.methodLink RX6 47 yX6_readNumber, Cond.instanceMethod yX6_readNumber, Cond.selects RX6 yX6_readNumber yX6_readNumber, Cond.code yX6_readNumber cX6_readNumber 5 (some .int), Cond.static yX7_isWithin, Cond.initialized RX7, Cond.code yX7_isWithin cX7_isWithin 3 (some .boolean), Cond.methodLink RX6 38 yX6_readGap, Cond.instanceMethod yX6_readGap, Cond.selects RX6 yX6_readGap yX6_readGap, Cond.code yX6_readGap cX6_readGap 2 (some .boolean)]
def wsX6_readItem_r2 : List Cond := [Cond.fieldLink RX6 58 "SwingCranes$Layout" "gap" "I", Cond.methodLink RX6 41 yX6_readStart, Cond.instanceMethod yX6_readStart, Cond.selects RX6 yX6_readStart yX6_readStart, Cond.code yX6_readStart cX6_readStart 4 (some .boolean), Cond.fieldLink RX6 65 "SwingCranes$Layout" "left" "LSwingCranes$Start;", Cond.fieldLink RX6 69 "SwingCranes$Layout" "right" "LSwingCranes$Start;", Cond.fieldLink RX6 72 "SwingCranes$Start" "place" "I", Cond.fieldLink RX6 77 "SwingCranes$Start" "rope" "I", Cond.fieldLink RX6 80 "SwingCranes$Start" "load" "I", Cond.static yX7_isCrane, Cond.code yX7_isCrane cX7_isCrane 1 (some .boolean), Cond.static yX7_isRope, Cond.code yX7_isRope cX7_isRope 1 (some .boolean), Cond.methodLink RX7 56 yX7_isWithin, Cond.methodLink RX6 44 yX6_readDrive, Cond.instanceMethod yX6_readDrive, Cond.selects RX6 yX6_readDrive yX6_readDrive, Cond.code yX6_readDrive cX6_readDrive 2 (some .boolean), Cond.fieldLink RX6 86 "SwingCranes$Layout" "change" "I", Cond.fieldLink RX6 89 "SwingCranes$Layout" "top" "I", Cond.fieldLink RX6 92 "SwingCranes$Layout" "hoist" "I"]
def wsX6_readItem : List Cond := .code yX6_readItem cX6_readItem 3 (some .boolean) :: ((wsX6_readItem_r1 ++ wsX6_readItem_r2) ++ wsX60 ++ wsX10 ++ wsX40)
def wsX6_readInto_r1 : List Cond := [Cond.fieldLink RX6 24 "SwingCranes$Text" "at" "I", Cond.fieldLink RX6 15 "SwingCranes$Text" "length" "I", Cond.methodLink RX6 19 yX1_setUsual, Cond.instanceMethod yX1_setUsual, Cond.selects RX1 yX1_setUsual yX1_setUsual, Cond.initialized RX1, Cond.code yX1_setUsual cX1_setUsual 1 none, Cond.fieldLink RX1 22 "SwingCranes$Layout" "end" "I", Cond.fieldLink RX1 26 "SwingCranes$Layout" "gap" "I", Cond.fieldLink RX1 29 "SwingCranes$Layout" "change" "I", Cond.fieldLink RX1 32 "SwingCranes$Layout" "top" "I", Cond.fieldLink RX1 35 "SwingCranes$Layout" "hoist" "I", Cond.fieldLink RX1 10 "SwingCranes$Layout" "left" "LSwingCranes$Start;", Cond.fieldLink RX1 16 "SwingCranes$Layout" "right" "LSwingCranes$Start;", Cond.methodLink RX1 38 yX4_set, Cond.instanceMethod yX4_set, Cond.selects RX4 yX4_set yX4_set, Cond.initialized RX4, Cond.code yX4_set cX4_set 4 none, Cond.fieldLink RX4 7 "SwingCranes$Start" "place" "I", Cond.fieldLink RX4 13 "SwingCranes$Start" "rope" "I", Cond.fieldLink RX4 16 "SwingCranes$Start" "load" "I", Cond.methodLink RX6 27 yX6_readItem, Cond.instanceMethod yX6_readItem]
def wsX6_readInto_r2 : List Cond := [Cond.selects RX6 yX6_readItem yX6_readItem, Cond.initialized RX6, Cond.code yX6_readItem cX6_readItem 3 (some .boolean), Cond.methodLink RX6 31 yX6_letterAt, Cond.instanceMethod yX6_letterAt, Cond.selects RX6 yX6_letterAt yX6_letterAt, Cond.code yX6_letterAt cX6_letterAt 2 (some .int), Cond.fieldLink RX6 9 "SwingCranes$Text" "letters" "[C", Cond.methodLink RX6 35 yX6_readEnd, Cond.instanceMethod yX6_readEnd, Cond.selects RX6 yX6_readEnd yX6_readEnd, Cond.code yX6_readEnd cX6_readEnd 2 (some .boolean), Cond.fieldLink RX6 51 "SwingCranes$Layout" "end" "I", Cond.methodLink RX6 47 yX6_readNumber, Cond.instanceMethod yX6_readNumber, Cond.selects RX6 yX6_readNumber yX6_readNumber, Cond.code yX6_readNumber cX6_readNumber 5 (some .int), Cond.static yX7_isWithin, Cond.initialized RX7, Cond.code yX7_isWithin cX7_isWithin 3 (some .boolean), Cond.methodLink RX6 38 yX6_readGap, Cond.instanceMethod yX6_readGap, Cond.selects RX6 yX6_readGap yX6_readGap, Cond.code yX6_readGap cX6_readGap 2 (some .boolean)]
def wsX6_readInto_r3 : List Cond := [Cond.fieldLink RX6 58 "SwingCranes$Layout" "gap" "I", Cond.methodLink RX6 41 yX6_readStart, Cond.instanceMethod yX6_readStart, Cond.selects RX6 yX6_readStart yX6_readStart, Cond.code yX6_readStart cX6_readStart 4 (some .boolean), Cond.fieldLink RX6 65 "SwingCranes$Layout" "left" "LSwingCranes$Start;", Cond.fieldLink RX6 69 "SwingCranes$Layout" "right" "LSwingCranes$Start;", Cond.fieldLink RX6 72 "SwingCranes$Start" "place" "I", Cond.fieldLink RX6 77 "SwingCranes$Start" "rope" "I", Cond.fieldLink RX6 80 "SwingCranes$Start" "load" "I", Cond.static yX7_isCrane, Cond.code yX7_isCrane cX7_isCrane 1 (some .boolean), Cond.static yX7_isRope, Cond.code yX7_isRope cX7_isRope 1 (some .boolean), Cond.methodLink RX7 56 yX7_isWithin, Cond.methodLink RX6 44 yX6_readDrive, Cond.instanceMethod yX6_readDrive, Cond.selects RX6 yX6_readDrive yX6_readDrive, Cond.code yX6_readDrive cX6_readDrive 2 (some .boolean), Cond.fieldLink RX6 86 "SwingCranes$Layout" "change" "I", Cond.fieldLink RX6 89 "SwingCranes$Layout" "top" "I", Cond.fieldLink RX6 92 "SwingCranes$Layout" "hoist" "I"]
def wsX6_readInto : List Cond := .code yX6_readInto cX6_readInto 4 (some .int) :: ((wsX6_readInto_r1 ++ (wsX6_readInto_r2 ++ wsX6_readInto_r3)) ++ wsX60 ++ wsX10 ++ wsX40)
def wsX7_init_r1 : List Cond := [Cond.methodLink RX7 1 objectInit, Cond.instanceMethod objectInit, Cond.code objectInit ⟨#[0xb1]⟩ 1 none, Cond.classLink RX7 7 RX6, Cond.instantiable RX6 3, Cond.initialized RX6, Cond.fieldLink RX7 10 "SwingCranes" "text" "LSwingCranes$Text;", Cond.classLink RX7 16 RX2, Cond.instantiable RX2 3, Cond.initialized RX2, Cond.fieldLink RX7 19 "SwingCranes" "trial" "LSwingCranes$Pair;", Cond.classLink RX7 23 RX1, Cond.instantiable RX1 7, Cond.initialized RX1, Cond.fieldLink RX7 26 "SwingCranes" "rules" "LSwingCranes$Layout;", Cond.fieldLink RX7 30 "SwingCranes" "draft" "LSwingCranes$Layout;", Cond.classLink RX7 33 RX5, Cond.instantiable RX5 4, Cond.initialized RX5, Cond.fieldLink RX7 36 "SwingCranes" "now" "LSwingCranes$Story;", Cond.fieldLink RX7 40 "SwingCranes" "firstBack" "LSwingCranes$Story;", Cond.fieldLink RX7 43 "SwingCranes" "secondBack" "LSwingCranes$Story;", Cond.fieldLink RX7 46 "SwingCranes" "thirdBack" "LSwingCranes$Story;", Cond.fieldLink RX7 49 "SwingCranes" "fourthBack" "LSwingCranes$Story;"]
def wsX7_init_r2 : List Cond := [Cond.instanceMethod yX6_init, Cond.code yX6_init cX6_init 1 none, Cond.methodLink RX6 3 objectInit, Cond.arrayClass .char, Cond.fieldLink RX6 9 "SwingCranes$Text" "letters" "[C", Cond.instanceMethod yX2_init, Cond.code yX2_init cX2_init 1 none, Cond.methodLink RX2 3 objectInit, Cond.classLink RX2 9 RX0, Cond.instantiable RX0 13, Cond.initialized RX0, Cond.fieldLink RX2 12 "SwingCranes$Pair" "left" "LSwingCranes$Crane;", Cond.fieldLink RX2 18 "SwingCranes$Pair" "right" "LSwingCranes$Crane;", Cond.fieldLink RX2 21 "SwingCranes$Pair" "level" "I", Cond.instanceMethod yX0_init, Cond.code yX0_init cX0_init 1 none, Cond.methodLink RX0 3 objectInit, Cond.methodLink RX7 25 yX1_init, Cond.instanceMethod yX1_init, Cond.code yX1_init cX1_init 1 none, Cond.methodLink RX1 1 objectInit, Cond.classLink RX1 7 RX4, Cond.instantiable RX4 3, Cond.initialized RX4]
def wsX7_init_r3 : List Cond := [Cond.fieldLink RX1 10 "SwingCranes$Layout" "left" "LSwingCranes$Start;", Cond.fieldLink RX1 16 "SwingCranes$Layout" "right" "LSwingCranes$Start;", Cond.instanceMethod yX4_init, Cond.code yX4_init cX4_init 1 none, Cond.methodLink RX4 1 objectInit, Cond.methodLink RX1 19 yX1_setUsual, Cond.instanceMethod yX1_setUsual, Cond.selects RX1 yX1_setUsual yX1_setUsual, Cond.code yX1_setUsual cX1_setUsual 1 none, Cond.fieldLink RX1 22 "SwingCranes$Layout" "end" "I", Cond.fieldLink RX1 26 "SwingCranes$Layout" "gap" "I", Cond.fieldLink RX1 29 "SwingCranes$Layout" "change" "I", Cond.fieldLink RX1 32 "SwingCranes$Layout" "top" "I", Cond.fieldLink RX1 35 "SwingCranes$Layout" "hoist" "I", Cond.methodLink RX1 38 yX4_set, Cond.instanceMethod yX4_set, Cond.selects RX4 yX4_set yX4_set, Cond.code yX4_set cX4_set 4 none, Cond.fieldLink RX4 7 "SwingCranes$Start" "place" "I", Cond.fieldLink RX4 13 "SwingCranes$Start" "rope" "I", Cond.fieldLink RX4 16 "SwingCranes$Start" "load" "I", Cond.instanceMethod yX5_init, Cond.code yX5_init cX5_init 1 none, Cond.methodLink RX5 1 objectInit]
def wsX7_init_r4 : List Cond := [Cond.classLink RX5 7 RX2, Cond.fieldLink RX5 10 "SwingCranes$Story" "pair" "LSwingCranes$Pair;", Cond.classLink RX5 16 RX3, Cond.instantiable RX3 3, Cond.initialized RX3, Cond.fieldLink RX5 19 "SwingCranes$Story" "leftSpots" "LSwingCranes$Spots;", Cond.fieldLink RX5 23 "SwingCranes$Story" "rightSpots" "LSwingCranes$Spots;", Cond.instanceMethod yX3_init, Cond.code yX3_init cX3_init 1 none, Cond.methodLink RX3 3 objectInit, Cond.arrayClass .int, Cond.fieldLink RX3 11 "SwingCranes$Spots" "names" "[I", Cond.fieldLink RX3 15 "SwingCranes$Spots" "ticks" "[I", Cond.methodLink RX7 52 yX5_begin, Cond.instanceMethod yX5_begin, Cond.selects RX5 yX5_begin yX5_begin, Cond.code yX5_begin cX5_begin 2 none, Cond.fieldLink RX5 30 "SwingCranes$Spots" "many" "I", Cond.fieldLink RX5 34 "SwingCranes$Story" "ticks" "I", Cond.methodLink RX5 26 yX2_begin, Cond.instanceMethod yX2_begin, Cond.selects RX2 yX2_begin yX2_begin, Cond.code yX2_begin cX2_begin 2 none, Cond.fieldLink RX2 25 "SwingCranes$Layout" "left" "LSwingCranes$Start;"]
def wsX7_init_r5 : List Cond := [Cond.fieldLink RX2 34 "SwingCranes$Layout" "right" "LSwingCranes$Start;", Cond.methodLink RX2 30 yX0_begin, Cond.instanceMethod yX0_begin, Cond.selects RX0 yX0_begin yX0_begin, Cond.code yX0_begin cX0_begin 2 none, Cond.fieldLink RX0 9 "SwingCranes$Start" "place" "I", Cond.fieldLink RX0 15 "SwingCranes$Crane" "place" "I", Cond.fieldLink RX0 18 "SwingCranes$Crane" "speed" "I", Cond.fieldLink RX0 21 "SwingCranes$Start" "rope" "I", Cond.fieldLink RX0 24 "SwingCranes$Crane" "rope" "I", Cond.fieldLink RX0 25 "SwingCranes$Start" "load" "I", Cond.fieldLink RX0 28 "SwingCranes$Crane" "load" "I", Cond.fieldLink RX0 29 "SwingCranes$Crane" "swing" "I", Cond.fieldLink RX0 32 "SwingCranes$Crane" "rate" "I", Cond.fieldLink RX0 35 "SwingCranes$Crane" "want" "I", Cond.fieldLink RX0 38 "SwingCranes$Crane" "target" "I", Cond.fieldLink RX0 45 "SwingCranes$Crane" "braked" "Z", Cond.methodLink RX0 41 yX0_setSteps, Cond.instanceMethod yX0_setSteps, Cond.selects RX0 yX0_setSteps yX0_setSteps, Cond.code yX0_setSteps cX0_setSteps 4 none, Cond.fieldLink RX0 49 "SwingCranes$Crane" "soonIn" "I", Cond.fieldLink RX0 52 "SwingCranes$Crane" "soonBy" "I", Cond.fieldLink RX0 55 "SwingCranes$Crane" "laterIn" "I"]
def wsX7_init_r6 : List Cond := [Cond.fieldLink RX0 58 "SwingCranes$Crane" "laterBy" "I"]
def wsX7_init : List Cond := .code yX7_init cX7_init 1 none :: ((wsX7_init_r1 ++ (wsX7_init_r2 ++ (wsX7_init_r3 ++ (wsX7_init_r4 ++ (wsX7_init_r5 ++ wsX7_init_r6))))) ++ wsX60 ++ wsX70 ++ wsX20 ++ wsX10 ++ wsX50 ++ wsX00 ++ wsX40 ++ wsX30)
def wsX7_write : List Cond := .code yX7_write cX7_write 2 (some .int) :: ([.fieldLink RX7 10 "SwingCranes" "text" "LSwingCranes$Text;", .fieldLink RX7 68 "SwingCranes$Text" "length" "I", .methodLink RX7 56 yX7_isWithin, .static yX7_isWithin, .initialized RX7, .code yX7_isWithin cX7_isWithin 3 (some .boolean), .methodLink RX7 60 yX6_isFull, .instanceMethod yX6_isFull, .selects RX6 yX6_isFull yX6_isFull, .initialized RX6, .code yX6_isFull cX6_isFull 1 (some .boolean), .fieldLink RX6 15 "SwingCranes$Text" "length" "I", .methodLink RX7 64 yX6_append, .instanceMethod yX6_append, .selects RX6 yX6_append yX6_append, .code yX6_append cX6_append 2 none, .fieldLink RX6 9 "SwingCranes$Text" "letters" "[C"] ++ wsX70 ++ wsX60)
def wsX7_wipe : List Cond := .code yX7_wipe cX7_wipe 2 (some .int) :: ([.fieldLink RX7 10 "SwingCranes" "text" "LSwingCranes$Text;", .fieldLink RX7 68 "SwingCranes$Text" "length" "I"] ++ wsX70 ++ wsX60)
def wsX7_fault_r1 : List Cond := [Cond.fieldLink RX7 10 "SwingCranes" "text" "LSwingCranes$Text;", Cond.fieldLink RX7 30 "SwingCranes" "draft" "LSwingCranes$Layout;", Cond.methodLink RX7 72 yX6_readInto, Cond.instanceMethod yX6_readInto, Cond.selects RX6 yX6_readInto yX6_readInto, Cond.initialized RX6, Cond.code yX6_readInto cX6_readInto 4 (some .int), Cond.fieldLink RX6 24 "SwingCranes$Text" "at" "I", Cond.fieldLink RX6 15 "SwingCranes$Text" "length" "I", Cond.methodLink RX6 19 yX1_setUsual, Cond.instanceMethod yX1_setUsual, Cond.selects RX1 yX1_setUsual yX1_setUsual, Cond.initialized RX1, Cond.code yX1_setUsual cX1_setUsual 1 none, Cond.fieldLink RX1 22 "SwingCranes$Layout" "end" "I", Cond.fieldLink RX1 26 "SwingCranes$Layout" "gap" "I", Cond.fieldLink RX1 29 "SwingCranes$Layout" "change" "I", Cond.fieldLink RX1 32 "SwingCranes$Layout" "top" "I", Cond.fieldLink RX1 35 "SwingCranes$Layout" "hoist" "I", Cond.fieldLink RX1 10 "SwingCranes$Layout" "left" "LSwingCranes$Start;", Cond.fieldLink RX1 16 "SwingCranes$Layout" "right" "LSwingCranes$Start;", Cond.methodLink RX1 38 yX4_set, Cond.instanceMethod yX4_set, Cond.selects RX4 yX4_set yX4_set]
def wsX7_fault_r2 : List Cond := [Cond.initialized RX4, Cond.code yX4_set cX4_set 4 none, Cond.fieldLink RX4 7 "SwingCranes$Start" "place" "I", Cond.fieldLink RX4 13 "SwingCranes$Start" "rope" "I", Cond.fieldLink RX4 16 "SwingCranes$Start" "load" "I", Cond.methodLink RX6 27 yX6_readItem, Cond.instanceMethod yX6_readItem, Cond.selects RX6 yX6_readItem yX6_readItem, Cond.code yX6_readItem cX6_readItem 3 (some .boolean), Cond.methodLink RX6 31 yX6_letterAt, Cond.instanceMethod yX6_letterAt, Cond.selects RX6 yX6_letterAt yX6_letterAt, Cond.code yX6_letterAt cX6_letterAt 2 (some .int), Cond.fieldLink RX6 9 "SwingCranes$Text" "letters" "[C", Cond.methodLink RX6 35 yX6_readEnd, Cond.instanceMethod yX6_readEnd, Cond.selects RX6 yX6_readEnd yX6_readEnd, Cond.code yX6_readEnd cX6_readEnd 2 (some .boolean), Cond.fieldLink RX6 51 "SwingCranes$Layout" "end" "I", Cond.methodLink RX6 47 yX6_readNumber, Cond.instanceMethod yX6_readNumber, Cond.selects RX6 yX6_readNumber yX6_readNumber, Cond.code yX6_readNumber cX6_readNumber 5 (some .int), Cond.static yX7_isWithin]
def wsX7_fault_r3 : List Cond := [Cond.initialized RX7, Cond.code yX7_isWithin cX7_isWithin 3 (some .boolean), Cond.methodLink RX6 38 yX6_readGap, Cond.instanceMethod yX6_readGap, Cond.selects RX6 yX6_readGap yX6_readGap, Cond.code yX6_readGap cX6_readGap 2 (some .boolean), Cond.fieldLink RX6 58 "SwingCranes$Layout" "gap" "I", Cond.methodLink RX6 41 yX6_readStart, Cond.instanceMethod yX6_readStart, Cond.selects RX6 yX6_readStart yX6_readStart, Cond.code yX6_readStart cX6_readStart 4 (some .boolean), Cond.fieldLink RX6 65 "SwingCranes$Layout" "left" "LSwingCranes$Start;", Cond.fieldLink RX6 69 "SwingCranes$Layout" "right" "LSwingCranes$Start;", Cond.fieldLink RX6 72 "SwingCranes$Start" "place" "I", Cond.fieldLink RX6 77 "SwingCranes$Start" "rope" "I", Cond.fieldLink RX6 80 "SwingCranes$Start" "load" "I", Cond.static yX7_isCrane, Cond.code yX7_isCrane cX7_isCrane 1 (some .boolean), Cond.static yX7_isRope, Cond.code yX7_isRope cX7_isRope 1 (some .boolean), Cond.methodLink RX7 56 yX7_isWithin, Cond.methodLink RX6 44 yX6_readDrive, Cond.instanceMethod yX6_readDrive, Cond.selects RX6 yX6_readDrive yX6_readDrive]
def wsX7_fault_r4 : List Cond := [Cond.code yX6_readDrive cX6_readDrive 2 (some .boolean), Cond.fieldLink RX6 86 "SwingCranes$Layout" "change" "I", Cond.fieldLink RX6 89 "SwingCranes$Layout" "top" "I", Cond.fieldLink RX6 92 "SwingCranes$Layout" "hoist" "I"]
def wsX7_fault : List Cond := .code yX7_fault cX7_fault 1 (some .int) :: ((wsX7_fault_r1 ++ (wsX7_fault_r2 ++ (wsX7_fault_r3 ++ wsX7_fault_r4))) ++ wsX70 ++ wsX60 ++ wsX10 ++ wsX40)
def wsX7_lay_r1 : List Cond := [Cond.fieldLink RX7 10 "SwingCranes" "text" "LSwingCranes$Text;", Cond.fieldLink RX7 30 "SwingCranes" "draft" "LSwingCranes$Layout;", Cond.fieldLink RX7 26 "SwingCranes" "rules" "LSwingCranes$Layout;", Cond.fieldLink RX7 36 "SwingCranes" "now" "LSwingCranes$Story;", Cond.fieldLink RX7 79 "SwingCranes" "undoable" "I", Cond.fieldLink RX7 82 "SwingCranes$Layout" "end" "I", Cond.methodLink RX7 72 yX6_readInto, Cond.instanceMethod yX6_readInto, Cond.selects RX6 yX6_readInto yX6_readInto, Cond.initialized RX6, Cond.code yX6_readInto cX6_readInto 4 (some .int), Cond.fieldLink RX6 24 "SwingCranes$Text" "at" "I", Cond.fieldLink RX6 15 "SwingCranes$Text" "length" "I", Cond.methodLink RX6 19 yX1_setUsual, Cond.instanceMethod yX1_setUsual, Cond.selects RX1 yX1_setUsual yX1_setUsual, Cond.initialized RX1, Cond.code yX1_setUsual cX1_setUsual 1 none, Cond.fieldLink RX1 22 "SwingCranes$Layout" "end" "I", Cond.fieldLink RX1 26 "SwingCranes$Layout" "gap" "I", Cond.fieldLink RX1 29 "SwingCranes$Layout" "change" "I", Cond.fieldLink RX1 32 "SwingCranes$Layout" "top" "I", Cond.fieldLink RX1 35 "SwingCranes$Layout" "hoist" "I", Cond.fieldLink RX1 10 "SwingCranes$Layout" "left" "LSwingCranes$Start;"]
def wsX7_lay_r2 : List Cond := [Cond.fieldLink RX1 16 "SwingCranes$Layout" "right" "LSwingCranes$Start;", Cond.methodLink RX1 38 yX4_set, Cond.instanceMethod yX4_set, Cond.selects RX4 yX4_set yX4_set, Cond.initialized RX4, Cond.code yX4_set cX4_set 4 none, Cond.fieldLink RX4 7 "SwingCranes$Start" "place" "I", Cond.fieldLink RX4 13 "SwingCranes$Start" "rope" "I", Cond.fieldLink RX4 16 "SwingCranes$Start" "load" "I", Cond.methodLink RX6 27 yX6_readItem, Cond.instanceMethod yX6_readItem, Cond.selects RX6 yX6_readItem yX6_readItem, Cond.code yX6_readItem cX6_readItem 3 (some .boolean), Cond.methodLink RX6 31 yX6_letterAt, Cond.instanceMethod yX6_letterAt, Cond.selects RX6 yX6_letterAt yX6_letterAt, Cond.code yX6_letterAt cX6_letterAt 2 (some .int), Cond.fieldLink RX6 9 "SwingCranes$Text" "letters" "[C", Cond.methodLink RX6 35 yX6_readEnd, Cond.instanceMethod yX6_readEnd, Cond.selects RX6 yX6_readEnd yX6_readEnd, Cond.code yX6_readEnd cX6_readEnd 2 (some .boolean), Cond.fieldLink RX6 51 "SwingCranes$Layout" "end" "I", Cond.methodLink RX6 47 yX6_readNumber]
def wsX7_lay_r3 : List Cond := [Cond.instanceMethod yX6_readNumber, Cond.selects RX6 yX6_readNumber yX6_readNumber, Cond.code yX6_readNumber cX6_readNumber 5 (some .int), Cond.static yX7_isWithin, Cond.initialized RX7, Cond.code yX7_isWithin cX7_isWithin 3 (some .boolean), Cond.methodLink RX6 38 yX6_readGap, Cond.instanceMethod yX6_readGap, Cond.selects RX6 yX6_readGap yX6_readGap, Cond.code yX6_readGap cX6_readGap 2 (some .boolean), Cond.fieldLink RX6 58 "SwingCranes$Layout" "gap" "I", Cond.methodLink RX6 41 yX6_readStart, Cond.instanceMethod yX6_readStart, Cond.selects RX6 yX6_readStart yX6_readStart, Cond.code yX6_readStart cX6_readStart 4 (some .boolean), Cond.fieldLink RX6 65 "SwingCranes$Layout" "left" "LSwingCranes$Start;", Cond.fieldLink RX6 69 "SwingCranes$Layout" "right" "LSwingCranes$Start;", Cond.fieldLink RX6 72 "SwingCranes$Start" "place" "I", Cond.fieldLink RX6 77 "SwingCranes$Start" "rope" "I", Cond.fieldLink RX6 80 "SwingCranes$Start" "load" "I", Cond.static yX7_isCrane, Cond.code yX7_isCrane cX7_isCrane 1 (some .boolean), Cond.static yX7_isRope, Cond.code yX7_isRope cX7_isRope 1 (some .boolean)]
def wsX7_lay_r4 : List Cond := [Cond.methodLink RX7 56 yX7_isWithin, Cond.methodLink RX6 44 yX6_readDrive, Cond.instanceMethod yX6_readDrive, Cond.selects RX6 yX6_readDrive yX6_readDrive, Cond.code yX6_readDrive cX6_readDrive 2 (some .boolean), Cond.fieldLink RX6 86 "SwingCranes$Layout" "change" "I", Cond.fieldLink RX6 89 "SwingCranes$Layout" "top" "I", Cond.fieldLink RX6 92 "SwingCranes$Layout" "hoist" "I", Cond.methodLink RX7 76 yX1_holdsBoth, Cond.instanceMethod yX1_holdsBoth, Cond.selects RX1 yX1_holdsBoth yX1_holdsBoth, Cond.code yX1_holdsBoth cX1_holdsBoth 1 (some .boolean), Cond.fieldLink RX1 42 "SwingCranes$Start" "place" "I", Cond.methodLink RX7 52 yX5_begin, Cond.instanceMethod yX5_begin, Cond.selects RX5 yX5_begin yX5_begin, Cond.initialized RX5, Cond.code yX5_begin cX5_begin 2 none, Cond.fieldLink RX5 10 "SwingCranes$Story" "pair" "LSwingCranes$Pair;", Cond.fieldLink RX5 19 "SwingCranes$Story" "leftSpots" "LSwingCranes$Spots;", Cond.fieldLink RX5 30 "SwingCranes$Spots" "many" "I", Cond.fieldLink RX5 23 "SwingCranes$Story" "rightSpots" "LSwingCranes$Spots;", Cond.fieldLink RX5 34 "SwingCranes$Story" "ticks" "I", Cond.methodLink RX5 26 yX2_begin]
def wsX7_lay_r5 : List Cond := [Cond.instanceMethod yX2_begin, Cond.selects RX2 yX2_begin yX2_begin, Cond.initialized RX2, Cond.code yX2_begin cX2_begin 2 none, Cond.fieldLink RX2 12 "SwingCranes$Pair" "left" "LSwingCranes$Crane;", Cond.fieldLink RX2 25 "SwingCranes$Layout" "left" "LSwingCranes$Start;", Cond.fieldLink RX2 18 "SwingCranes$Pair" "right" "LSwingCranes$Crane;", Cond.fieldLink RX2 34 "SwingCranes$Layout" "right" "LSwingCranes$Start;", Cond.fieldLink RX2 21 "SwingCranes$Pair" "level" "I", Cond.methodLink RX2 30 yX0_begin, Cond.instanceMethod yX0_begin, Cond.selects RX0 yX0_begin yX0_begin, Cond.initialized RX0, Cond.code yX0_begin cX0_begin 2 none, Cond.fieldLink RX0 9 "SwingCranes$Start" "place" "I", Cond.fieldLink RX0 15 "SwingCranes$Crane" "place" "I", Cond.fieldLink RX0 18 "SwingCranes$Crane" "speed" "I", Cond.fieldLink RX0 21 "SwingCranes$Start" "rope" "I", Cond.fieldLink RX0 24 "SwingCranes$Crane" "rope" "I", Cond.fieldLink RX0 25 "SwingCranes$Start" "load" "I", Cond.fieldLink RX0 28 "SwingCranes$Crane" "load" "I", Cond.fieldLink RX0 29 "SwingCranes$Crane" "swing" "I", Cond.fieldLink RX0 32 "SwingCranes$Crane" "rate" "I", Cond.fieldLink RX0 35 "SwingCranes$Crane" "want" "I"]
def wsX7_lay_r6 : List Cond := [Cond.fieldLink RX0 38 "SwingCranes$Crane" "target" "I", Cond.fieldLink RX0 45 "SwingCranes$Crane" "braked" "Z", Cond.methodLink RX0 41 yX0_setSteps, Cond.instanceMethod yX0_setSteps, Cond.selects RX0 yX0_setSteps yX0_setSteps, Cond.code yX0_setSteps cX0_setSteps 4 none, Cond.fieldLink RX0 49 "SwingCranes$Crane" "soonIn" "I", Cond.fieldLink RX0 52 "SwingCranes$Crane" "soonBy" "I", Cond.fieldLink RX0 55 "SwingCranes$Crane" "laterIn" "I", Cond.fieldLink RX0 58 "SwingCranes$Crane" "laterBy" "I"]
def wsX7_lay : List Cond := .code yX7_lay cX7_lay 2 (some .int) :: ((wsX7_lay_r1 ++ (wsX7_lay_r2 ++ (wsX7_lay_r3 ++ (wsX7_lay_r4 ++ (wsX7_lay_r5 ++ wsX7_lay_r6))))) ++ wsX70 ++ wsX10 ++ wsX60 ++ wsX40 ++ wsX50 ++ wsX30 ++ wsX20 ++ wsX00)
def wsX7_isSpeed : List Cond := .code yX7_isSpeed cX7_isSpeed 1 (some .boolean) :: ([.methodLink RX7 56 yX7_isWithin, .static yX7_isWithin, .initialized RX7, .code yX7_isWithin cX7_isWithin 3 (some .boolean)])
def wsX7_keepForUndo_r1 : List Cond := [Cond.fieldLink RX7 49 "SwingCranes" "fourthBack" "LSwingCranes$Story;", Cond.fieldLink RX7 46 "SwingCranes" "thirdBack" "LSwingCranes$Story;", Cond.fieldLink RX7 43 "SwingCranes" "secondBack" "LSwingCranes$Story;", Cond.fieldLink RX7 40 "SwingCranes" "firstBack" "LSwingCranes$Story;", Cond.fieldLink RX7 36 "SwingCranes" "now" "LSwingCranes$Story;", Cond.fieldLink RX7 79 "SwingCranes" "undoable" "I", Cond.methodLink RX7 239 Lib.Math.min.name, Cond.static Lib.Math.min.name, Cond.initialized "java/lang/Math", Cond.code Lib.Math.min.name Lib.Math.min.code 2 (some .int), Cond.methodLink RX7 236 yX5_copyFrom, Cond.instanceMethod yX5_copyFrom, Cond.selects RX5 yX5_copyFrom yX5_copyFrom, Cond.initialized RX5, Cond.code yX5_copyFrom cX5_copyFrom 2 none, Cond.fieldLink RX5 10 "SwingCranes$Story" "pair" "LSwingCranes$Pair;", Cond.fieldLink RX5 19 "SwingCranes$Story" "leftSpots" "LSwingCranes$Spots;", Cond.fieldLink RX5 23 "SwingCranes$Story" "rightSpots" "LSwingCranes$Spots;", Cond.fieldLink RX5 34 "SwingCranes$Story" "ticks" "I", Cond.methodLink RX5 37 yX2_copyFrom, Cond.instanceMethod yX2_copyFrom, Cond.selects RX2 yX2_copyFrom yX2_copyFrom, Cond.initialized RX2, Cond.code yX2_copyFrom cX2_copyFrom 2 none]
def wsX7_keepForUndo_r2 : List Cond := [Cond.fieldLink RX2 12 "SwingCranes$Pair" "left" "LSwingCranes$Crane;", Cond.fieldLink RX2 18 "SwingCranes$Pair" "right" "LSwingCranes$Crane;", Cond.fieldLink RX2 21 "SwingCranes$Pair" "level" "I", Cond.methodLink RX2 36 yX0_copyFrom, Cond.instanceMethod yX0_copyFrom, Cond.selects RX0 yX0_copyFrom yX0_copyFrom, Cond.initialized RX0, Cond.code yX0_copyFrom cX0_copyFrom 2 none, Cond.fieldLink RX0 15 "SwingCranes$Crane" "place" "I", Cond.fieldLink RX0 18 "SwingCranes$Crane" "speed" "I", Cond.fieldLink RX0 24 "SwingCranes$Crane" "rope" "I", Cond.fieldLink RX0 28 "SwingCranes$Crane" "load" "I", Cond.fieldLink RX0 29 "SwingCranes$Crane" "swing" "I", Cond.fieldLink RX0 32 "SwingCranes$Crane" "rate" "I", Cond.fieldLink RX0 35 "SwingCranes$Crane" "want" "I", Cond.fieldLink RX0 38 "SwingCranes$Crane" "target" "I", Cond.fieldLink RX0 49 "SwingCranes$Crane" "soonIn" "I", Cond.fieldLink RX0 52 "SwingCranes$Crane" "soonBy" "I", Cond.fieldLink RX0 55 "SwingCranes$Crane" "laterIn" "I", Cond.fieldLink RX0 58 "SwingCranes$Crane" "laterBy" "I", Cond.fieldLink RX0 45 "SwingCranes$Crane" "braked" "Z", Cond.methodLink RX5 41 yX3_copyFrom, Cond.instanceMethod yX3_copyFrom, Cond.selects RX3 yX3_copyFrom yX3_copyFrom]
def wsX7_keepForUndo_r3 : List Cond := [Cond.initialized RX3, Cond.code yX3_copyFrom cX3_copyFrom 3 none, Cond.fieldLink RX3 18 "SwingCranes$Spots" "many" "I", Cond.methodLink RX3 22 yX3_nameAt, Cond.instanceMethod yX3_nameAt, Cond.selects RX3 yX3_nameAt yX3_nameAt, Cond.code yX3_nameAt cX3_nameAt 2 (some .int), Cond.fieldLink RX3 11 "SwingCranes$Spots" "names" "[I", Cond.methodLink RX3 26 yX3_ticksAt, Cond.instanceMethod yX3_ticksAt, Cond.selects RX3 yX3_ticksAt yX3_ticksAt, Cond.code yX3_ticksAt cX3_ticksAt 2 (some .int), Cond.fieldLink RX3 15 "SwingCranes$Spots" "ticks" "[I", Cond.methodLink RX3 29 yX3_put, Cond.instanceMethod yX3_put, Cond.selects RX3 yX3_put yX3_put, Cond.code yX3_put cX3_put 4 none]
def wsX7_keepForUndo : List Cond := .code yX7_keepForUndo cX7_keepForUndo 2 none :: ((wsX7_keepForUndo_r1 ++ (wsX7_keepForUndo_r2 ++ wsX7_keepForUndo_r3)) ++ wsX70 ++ wsX50 ++ wsX20 ++ wsX00 ++ wsX30)
def wsX7_command_r1 : List Cond := [Cond.fieldLink RX7 36 "SwingCranes" "now" "LSwingCranes$Story;", Cond.fieldLink RX7 95 "SwingCranes$Story" "pair" "LSwingCranes$Pair;", Cond.methodLink RX7 85 yX7_isCrane, Cond.static yX7_isCrane, Cond.initialized RX7, Cond.code yX7_isCrane cX7_isCrane 1 (some .boolean), Cond.methodLink RX7 89 yX7_isSpeed, Cond.static yX7_isSpeed, Cond.code yX7_isSpeed cX7_isSpeed 1 (some .boolean), Cond.methodLink RX7 56 yX7_isWithin, Cond.static yX7_isWithin, Cond.code yX7_isWithin cX7_isWithin 3 (some .boolean), Cond.methodLink RX7 92 yX7_keepForUndo, Cond.instanceMethod yX7_keepForUndo, Cond.selects RX7 yX7_keepForUndo yX7_keepForUndo, Cond.code yX7_keepForUndo cX7_keepForUndo 2 none, Cond.fieldLink RX7 49 "SwingCranes" "fourthBack" "LSwingCranes$Story;", Cond.fieldLink RX7 46 "SwingCranes" "thirdBack" "LSwingCranes$Story;", Cond.fieldLink RX7 43 "SwingCranes" "secondBack" "LSwingCranes$Story;", Cond.fieldLink RX7 40 "SwingCranes" "firstBack" "LSwingCranes$Story;", Cond.fieldLink RX7 79 "SwingCranes" "undoable" "I", Cond.methodLink RX7 239 Lib.Math.min.name, Cond.static Lib.Math.min.name, Cond.initialized "java/lang/Math"]
def wsX7_command_r2 : List Cond := [Cond.code Lib.Math.min.name Lib.Math.min.code 2 (some .int), Cond.methodLink RX7 236 yX5_copyFrom, Cond.instanceMethod yX5_copyFrom, Cond.selects RX5 yX5_copyFrom yX5_copyFrom, Cond.initialized RX5, Cond.code yX5_copyFrom cX5_copyFrom 2 none, Cond.fieldLink RX5 10 "SwingCranes$Story" "pair" "LSwingCranes$Pair;", Cond.fieldLink RX5 19 "SwingCranes$Story" "leftSpots" "LSwingCranes$Spots;", Cond.fieldLink RX5 23 "SwingCranes$Story" "rightSpots" "LSwingCranes$Spots;", Cond.fieldLink RX5 34 "SwingCranes$Story" "ticks" "I", Cond.methodLink RX5 37 yX2_copyFrom, Cond.instanceMethod yX2_copyFrom, Cond.selects RX2 yX2_copyFrom yX2_copyFrom, Cond.initialized RX2, Cond.code yX2_copyFrom cX2_copyFrom 2 none, Cond.fieldLink RX2 12 "SwingCranes$Pair" "left" "LSwingCranes$Crane;", Cond.fieldLink RX2 18 "SwingCranes$Pair" "right" "LSwingCranes$Crane;", Cond.fieldLink RX2 21 "SwingCranes$Pair" "level" "I", Cond.methodLink RX2 36 yX0_copyFrom, Cond.instanceMethod yX0_copyFrom, Cond.selects RX0 yX0_copyFrom yX0_copyFrom, Cond.initialized RX0, Cond.code yX0_copyFrom cX0_copyFrom 2 none, Cond.fieldLink RX0 15 "SwingCranes$Crane" "place" "I"]
def wsX7_command_r3 : List Cond := [Cond.fieldLink RX0 18 "SwingCranes$Crane" "speed" "I", Cond.fieldLink RX0 24 "SwingCranes$Crane" "rope" "I", Cond.fieldLink RX0 28 "SwingCranes$Crane" "load" "I", Cond.fieldLink RX0 29 "SwingCranes$Crane" "swing" "I", Cond.fieldLink RX0 32 "SwingCranes$Crane" "rate" "I", Cond.fieldLink RX0 35 "SwingCranes$Crane" "want" "I", Cond.fieldLink RX0 38 "SwingCranes$Crane" "target" "I", Cond.fieldLink RX0 49 "SwingCranes$Crane" "soonIn" "I", Cond.fieldLink RX0 52 "SwingCranes$Crane" "soonBy" "I", Cond.fieldLink RX0 55 "SwingCranes$Crane" "laterIn" "I", Cond.fieldLink RX0 58 "SwingCranes$Crane" "laterBy" "I", Cond.fieldLink RX0 45 "SwingCranes$Crane" "braked" "Z", Cond.methodLink RX5 41 yX3_copyFrom, Cond.instanceMethod yX3_copyFrom, Cond.selects RX3 yX3_copyFrom yX3_copyFrom, Cond.initialized RX3, Cond.code yX3_copyFrom cX3_copyFrom 3 none, Cond.fieldLink RX3 18 "SwingCranes$Spots" "many" "I", Cond.methodLink RX3 22 yX3_nameAt, Cond.instanceMethod yX3_nameAt, Cond.selects RX3 yX3_nameAt yX3_nameAt, Cond.code yX3_nameAt cX3_nameAt 2 (some .int), Cond.fieldLink RX3 11 "SwingCranes$Spots" "names" "[I", Cond.methodLink RX3 26 yX3_ticksAt]
def wsX7_command_r4 : List Cond := [Cond.instanceMethod yX3_ticksAt, Cond.selects RX3 yX3_ticksAt yX3_ticksAt, Cond.code yX3_ticksAt cX3_ticksAt 2 (some .int), Cond.fieldLink RX3 15 "SwingCranes$Spots" "ticks" "[I", Cond.methodLink RX3 29 yX3_put, Cond.instanceMethod yX3_put, Cond.selects RX3 yX3_put yX3_put, Cond.code yX3_put cX3_put 4 none, Cond.methodLink RX7 98 yX2_tellAtOnce, Cond.instanceMethod yX2_tellAtOnce, Cond.selects RX2 yX2_tellAtOnce yX2_tellAtOnce, Cond.code yX2_tellAtOnce cX2_tellAtOnce 3 (some .int), Cond.methodLink RX2 50 yX2_leftHeeds, Cond.instanceMethod yX2_leftHeeds, Cond.selects RX2 yX2_leftHeeds yX2_leftHeeds, Cond.code yX2_leftHeeds cX2_leftHeeds 2 (some .boolean), Cond.methodLink RX2 46 yX2_isCoupled, Cond.instanceMethod yX2_isCoupled, Cond.selects RX2 yX2_isCoupled yX2_isCoupled, Cond.code yX2_isCoupled cX2_isCoupled 1 (some .boolean), Cond.methodLink RX2 54 yX0_planAtOnce, Cond.instanceMethod yX0_planAtOnce, Cond.selects RX0 yX0_planAtOnce yX0_planAtOnce, Cond.code yX0_planAtOnce cX0_planAtOnce 2 none]
def wsX7_command_r5 : List Cond := [Cond.methodLink RX0 41 yX0_setSteps, Cond.instanceMethod yX0_setSteps, Cond.selects RX0 yX0_setSteps yX0_setSteps, Cond.code yX0_setSteps cX0_setSteps 4 none, Cond.methodLink RX2 58 yX2_rightHeeds, Cond.instanceMethod yX2_rightHeeds, Cond.selects RX2 yX2_rightHeeds yX2_rightHeeds, Cond.code yX2_rightHeeds cX2_rightHeeds 2 (some .boolean), Cond.methodLink RX2 61 yX2_heeding, Cond.instanceMethod yX2_heeding, Cond.selects RX2 yX2_heeding yX2_heeding, Cond.code yX2_heeding cX2_heeding 1 (some .int)]
def wsX7_command : List Cond := .code yX7_command cX7_command 3 (some .int) :: ((wsX7_command_r1 ++ (wsX7_command_r2 ++ (wsX7_command_r3 ++ (wsX7_command_r4 ++ wsX7_command_r5)))) ++ wsX70 ++ wsX50 ++ wsX20 ++ wsX00 ++ wsX30)
def wsX7_shape_r1 : List Cond := [Cond.fieldLink RX7 36 "SwingCranes" "now" "LSwingCranes$Story;", Cond.fieldLink RX7 95 "SwingCranes$Story" "pair" "LSwingCranes$Pair;", Cond.methodLink RX7 85 yX7_isCrane, Cond.static yX7_isCrane, Cond.initialized RX7, Cond.code yX7_isCrane cX7_isCrane 1 (some .boolean), Cond.methodLink RX7 89 yX7_isSpeed, Cond.static yX7_isSpeed, Cond.code yX7_isSpeed cX7_isSpeed 1 (some .boolean), Cond.methodLink RX7 56 yX7_isWithin, Cond.static yX7_isWithin, Cond.code yX7_isWithin cX7_isWithin 3 (some .boolean), Cond.methodLink RX7 92 yX7_keepForUndo, Cond.instanceMethod yX7_keepForUndo, Cond.selects RX7 yX7_keepForUndo yX7_keepForUndo, Cond.code yX7_keepForUndo cX7_keepForUndo 2 none, Cond.fieldLink RX7 49 "SwingCranes" "fourthBack" "LSwingCranes$Story;", Cond.fieldLink RX7 46 "SwingCranes" "thirdBack" "LSwingCranes$Story;", Cond.fieldLink RX7 43 "SwingCranes" "secondBack" "LSwingCranes$Story;", Cond.fieldLink RX7 40 "SwingCranes" "firstBack" "LSwingCranes$Story;", Cond.fieldLink RX7 79 "SwingCranes" "undoable" "I", Cond.methodLink RX7 239 Lib.Math.min.name, Cond.static Lib.Math.min.name, Cond.initialized "java/lang/Math"]
def wsX7_shape_r2 : List Cond := [Cond.code Lib.Math.min.name Lib.Math.min.code 2 (some .int), Cond.methodLink RX7 236 yX5_copyFrom, Cond.instanceMethod yX5_copyFrom, Cond.selects RX5 yX5_copyFrom yX5_copyFrom, Cond.initialized RX5, Cond.code yX5_copyFrom cX5_copyFrom 2 none, Cond.fieldLink RX5 10 "SwingCranes$Story" "pair" "LSwingCranes$Pair;", Cond.fieldLink RX5 19 "SwingCranes$Story" "leftSpots" "LSwingCranes$Spots;", Cond.fieldLink RX5 23 "SwingCranes$Story" "rightSpots" "LSwingCranes$Spots;", Cond.fieldLink RX5 34 "SwingCranes$Story" "ticks" "I", Cond.methodLink RX5 37 yX2_copyFrom, Cond.instanceMethod yX2_copyFrom, Cond.selects RX2 yX2_copyFrom yX2_copyFrom, Cond.initialized RX2, Cond.code yX2_copyFrom cX2_copyFrom 2 none, Cond.fieldLink RX2 12 "SwingCranes$Pair" "left" "LSwingCranes$Crane;", Cond.fieldLink RX2 18 "SwingCranes$Pair" "right" "LSwingCranes$Crane;", Cond.fieldLink RX2 21 "SwingCranes$Pair" "level" "I", Cond.methodLink RX2 36 yX0_copyFrom, Cond.instanceMethod yX0_copyFrom, Cond.selects RX0 yX0_copyFrom yX0_copyFrom, Cond.initialized RX0, Cond.code yX0_copyFrom cX0_copyFrom 2 none, Cond.fieldLink RX0 15 "SwingCranes$Crane" "place" "I"]
def wsX7_shape_r3 : List Cond := [Cond.fieldLink RX0 18 "SwingCranes$Crane" "speed" "I", Cond.fieldLink RX0 24 "SwingCranes$Crane" "rope" "I", Cond.fieldLink RX0 28 "SwingCranes$Crane" "load" "I", Cond.fieldLink RX0 29 "SwingCranes$Crane" "swing" "I", Cond.fieldLink RX0 32 "SwingCranes$Crane" "rate" "I", Cond.fieldLink RX0 35 "SwingCranes$Crane" "want" "I", Cond.fieldLink RX0 38 "SwingCranes$Crane" "target" "I", Cond.fieldLink RX0 49 "SwingCranes$Crane" "soonIn" "I", Cond.fieldLink RX0 52 "SwingCranes$Crane" "soonBy" "I", Cond.fieldLink RX0 55 "SwingCranes$Crane" "laterIn" "I", Cond.fieldLink RX0 58 "SwingCranes$Crane" "laterBy" "I", Cond.fieldLink RX0 45 "SwingCranes$Crane" "braked" "Z", Cond.methodLink RX5 41 yX3_copyFrom, Cond.instanceMethod yX3_copyFrom, Cond.selects RX3 yX3_copyFrom yX3_copyFrom, Cond.initialized RX3, Cond.code yX3_copyFrom cX3_copyFrom 3 none, Cond.fieldLink RX3 18 "SwingCranes$Spots" "many" "I", Cond.methodLink RX3 22 yX3_nameAt, Cond.instanceMethod yX3_nameAt, Cond.selects RX3 yX3_nameAt yX3_nameAt, Cond.code yX3_nameAt cX3_nameAt 2 (some .int), Cond.fieldLink RX3 11 "SwingCranes$Spots" "names" "[I", Cond.methodLink RX3 26 yX3_ticksAt]
def wsX7_shape_r4 : List Cond := [Cond.instanceMethod yX3_ticksAt, Cond.selects RX3 yX3_ticksAt yX3_ticksAt, Cond.code yX3_ticksAt cX3_ticksAt 2 (some .int), Cond.fieldLink RX3 15 "SwingCranes$Spots" "ticks" "[I", Cond.methodLink RX3 29 yX3_put, Cond.instanceMethod yX3_put, Cond.selects RX3 yX3_put yX3_put, Cond.code yX3_put cX3_put 4 none, Cond.methodLink RX7 102 yX2_tellByHalves, Cond.instanceMethod yX2_tellByHalves, Cond.selects RX2 yX2_tellByHalves yX2_tellByHalves, Cond.code yX2_tellByHalves cX2_tellByHalves 4 (some .int), Cond.methodLink RX2 50 yX2_leftHeeds, Cond.instanceMethod yX2_leftHeeds, Cond.selects RX2 yX2_leftHeeds yX2_leftHeeds, Cond.code yX2_leftHeeds cX2_leftHeeds 2 (some .boolean), Cond.methodLink RX2 46 yX2_isCoupled, Cond.instanceMethod yX2_isCoupled, Cond.selects RX2 yX2_isCoupled yX2_isCoupled, Cond.code yX2_isCoupled cX2_isCoupled 1 (some .boolean), Cond.methodLink RX2 65 yX0_planByHalves, Cond.instanceMethod yX0_planByHalves, Cond.selects RX0 yX0_planByHalves yX0_planByHalves, Cond.code yX0_planByHalves cX0_planByHalves 5 none]
def wsX7_shape_r5 : List Cond := [Cond.static yX7_halfSwing, Cond.code yX7_halfSwing cX7_halfSwing 2 (some .int), Cond.methodLink RX0 41 yX0_setSteps, Cond.instanceMethod yX0_setSteps, Cond.selects RX0 yX0_setSteps yX0_setSteps, Cond.code yX0_setSteps cX0_setSteps 4 none, Cond.methodLink RX2 58 yX2_rightHeeds, Cond.instanceMethod yX2_rightHeeds, Cond.selects RX2 yX2_rightHeeds yX2_rightHeeds, Cond.code yX2_rightHeeds cX2_rightHeeds 2 (some .boolean), Cond.methodLink RX2 61 yX2_heeding, Cond.instanceMethod yX2_heeding, Cond.selects RX2 yX2_heeding yX2_heeding, Cond.code yX2_heeding cX2_heeding 1 (some .int)]
def wsX7_shape : List Cond := .code yX7_shape cX7_shape 4 (some .int) :: ((wsX7_shape_r1 ++ (wsX7_shape_r2 ++ (wsX7_shape_r3 ++ (wsX7_shape_r4 ++ wsX7_shape_r5)))) ++ wsX70 ++ wsX50 ++ wsX20 ++ wsX00 ++ wsX30)
def wsX7_target_r1 : List Cond := [Cond.fieldLink RX7 36 "SwingCranes" "now" "LSwingCranes$Story;", Cond.fieldLink RX7 95 "SwingCranes$Story" "pair" "LSwingCranes$Pair;", Cond.fieldLink RX7 117 "SwingCranes$Crane" "target" "I", Cond.methodLink RX7 85 yX7_isCrane, Cond.static yX7_isCrane, Cond.initialized RX7, Cond.code yX7_isCrane cX7_isCrane 1 (some .boolean), Cond.methodLink RX7 106 yX7_isRope, Cond.static yX7_isRope, Cond.code yX7_isRope cX7_isRope 1 (some .boolean), Cond.methodLink RX7 56 yX7_isWithin, Cond.static yX7_isWithin, Cond.code yX7_isWithin cX7_isWithin 3 (some .boolean), Cond.methodLink RX7 109 yX2_aimsAt, Cond.instanceMethod yX2_aimsAt, Cond.selects RX2 yX2_aimsAt yX2_aimsAt, Cond.initialized RX2, Cond.code yX2_aimsAt cX2_aimsAt 3 (some .boolean), Cond.fieldLink RX2 12 "SwingCranes$Pair" "left" "LSwingCranes$Crane;", Cond.fieldLink RX2 69 "SwingCranes$Crane" "target" "I", Cond.fieldLink RX2 18 "SwingCranes$Pair" "right" "LSwingCranes$Crane;", Cond.methodLink RX2 50 yX2_leftHeeds, Cond.instanceMethod yX2_leftHeeds, Cond.selects RX2 yX2_leftHeeds yX2_leftHeeds]
def wsX7_target_r2 : List Cond := [Cond.code yX2_leftHeeds cX2_leftHeeds 2 (some .boolean), Cond.methodLink RX2 46 yX2_isCoupled, Cond.instanceMethod yX2_isCoupled, Cond.selects RX2 yX2_isCoupled yX2_isCoupled, Cond.code yX2_isCoupled cX2_isCoupled 1 (some .boolean), Cond.fieldLink RX2 21 "SwingCranes$Pair" "level" "I", Cond.methodLink RX2 58 yX2_rightHeeds, Cond.instanceMethod yX2_rightHeeds, Cond.selects RX2 yX2_rightHeeds yX2_rightHeeds, Cond.code yX2_rightHeeds cX2_rightHeeds 2 (some .boolean), Cond.methodLink RX7 92 yX7_keepForUndo, Cond.instanceMethod yX7_keepForUndo, Cond.selects RX7 yX7_keepForUndo yX7_keepForUndo, Cond.code yX7_keepForUndo cX7_keepForUndo 2 none, Cond.fieldLink RX7 49 "SwingCranes" "fourthBack" "LSwingCranes$Story;", Cond.fieldLink RX7 46 "SwingCranes" "thirdBack" "LSwingCranes$Story;", Cond.fieldLink RX7 43 "SwingCranes" "secondBack" "LSwingCranes$Story;", Cond.fieldLink RX7 40 "SwingCranes" "firstBack" "LSwingCranes$Story;", Cond.fieldLink RX7 79 "SwingCranes" "undoable" "I", Cond.methodLink RX7 239 Lib.Math.min.name, Cond.static Lib.Math.min.name, Cond.initialized "java/lang/Math", Cond.code Lib.Math.min.name Lib.Math.min.code 2 (some .int), Cond.methodLink RX7 236 yX5_copyFrom]
def wsX7_target_r3 : List Cond := [Cond.instanceMethod yX5_copyFrom, Cond.selects RX5 yX5_copyFrom yX5_copyFrom, Cond.initialized RX5, Cond.code yX5_copyFrom cX5_copyFrom 2 none, Cond.fieldLink RX5 10 "SwingCranes$Story" "pair" "LSwingCranes$Pair;", Cond.fieldLink RX5 19 "SwingCranes$Story" "leftSpots" "LSwingCranes$Spots;", Cond.fieldLink RX5 23 "SwingCranes$Story" "rightSpots" "LSwingCranes$Spots;", Cond.fieldLink RX5 34 "SwingCranes$Story" "ticks" "I", Cond.methodLink RX5 37 yX2_copyFrom, Cond.instanceMethod yX2_copyFrom, Cond.selects RX2 yX2_copyFrom yX2_copyFrom, Cond.code yX2_copyFrom cX2_copyFrom 2 none, Cond.methodLink RX2 36 yX0_copyFrom, Cond.instanceMethod yX0_copyFrom, Cond.selects RX0 yX0_copyFrom yX0_copyFrom, Cond.initialized RX0, Cond.code yX0_copyFrom cX0_copyFrom 2 none, Cond.fieldLink RX0 15 "SwingCranes$Crane" "place" "I", Cond.fieldLink RX0 18 "SwingCranes$Crane" "speed" "I", Cond.fieldLink RX0 24 "SwingCranes$Crane" "rope" "I", Cond.fieldLink RX0 28 "SwingCranes$Crane" "load" "I", Cond.fieldLink RX0 29 "SwingCranes$Crane" "swing" "I", Cond.fieldLink RX0 32 "SwingCranes$Crane" "rate" "I", Cond.fieldLink RX0 35 "SwingCranes$Crane" "want" "I"]
def wsX7_target_r4 : List Cond := [Cond.fieldLink RX0 38 "SwingCranes$Crane" "target" "I", Cond.fieldLink RX0 49 "SwingCranes$Crane" "soonIn" "I", Cond.fieldLink RX0 52 "SwingCranes$Crane" "soonBy" "I", Cond.fieldLink RX0 55 "SwingCranes$Crane" "laterIn" "I", Cond.fieldLink RX0 58 "SwingCranes$Crane" "laterBy" "I", Cond.fieldLink RX0 45 "SwingCranes$Crane" "braked" "Z", Cond.methodLink RX5 41 yX3_copyFrom, Cond.instanceMethod yX3_copyFrom, Cond.selects RX3 yX3_copyFrom yX3_copyFrom, Cond.initialized RX3, Cond.code yX3_copyFrom cX3_copyFrom 3 none, Cond.fieldLink RX3 18 "SwingCranes$Spots" "many" "I", Cond.methodLink RX3 22 yX3_nameAt, Cond.instanceMethod yX3_nameAt, Cond.selects RX3 yX3_nameAt yX3_nameAt, Cond.code yX3_nameAt cX3_nameAt 2 (some .int), Cond.fieldLink RX3 11 "SwingCranes$Spots" "names" "[I", Cond.methodLink RX3 26 yX3_ticksAt, Cond.instanceMethod yX3_ticksAt, Cond.selects RX3 yX3_ticksAt yX3_ticksAt, Cond.code yX3_ticksAt cX3_ticksAt 2 (some .int), Cond.fieldLink RX3 15 "SwingCranes$Spots" "ticks" "[I", Cond.methodLink RX3 29 yX3_put, Cond.instanceMethod yX3_put]
def wsX7_target_r5 : List Cond := [Cond.selects RX3 yX3_put yX3_put, Cond.code yX3_put cX3_put 4 none, Cond.methodLink RX7 113 yX2_side, Cond.instanceMethod yX2_side, Cond.selects RX2 yX2_side yX2_side, Cond.code yX2_side cX2_side 2 (some (.object "SwingCranes$Crane")), Cond.methodLink RX7 122 yX2_aim, Cond.instanceMethod yX2_aim, Cond.selects RX2 yX2_aim yX2_aim, Cond.code yX2_aim cX2_aim 3 none]
def wsX7_target : List Cond := .code yX7_target cX7_target 4 (some .int) :: ((wsX7_target_r1 ++ (wsX7_target_r2 ++ (wsX7_target_r3 ++ (wsX7_target_r4 ++ wsX7_target_r5)))) ++ wsX70 ++ wsX50 ++ wsX00 ++ wsX20 ++ wsX30)
def wsX7_load_r1 : List Cond := [Cond.fieldLink RX7 36 "SwingCranes" "now" "LSwingCranes$Story;", Cond.fieldLink RX7 95 "SwingCranes$Story" "pair" "LSwingCranes$Pair;", Cond.fieldLink RX7 126 "SwingCranes$Crane" "load" "I", Cond.methodLink RX7 85 yX7_isCrane, Cond.static yX7_isCrane, Cond.initialized RX7, Cond.code yX7_isCrane cX7_isCrane 1 (some .boolean), Cond.methodLink RX7 56 yX7_isWithin, Cond.static yX7_isWithin, Cond.code yX7_isWithin cX7_isWithin 3 (some .boolean), Cond.methodLink RX7 113 yX2_side, Cond.instanceMethod yX2_side, Cond.selects RX2 yX2_side yX2_side, Cond.initialized RX2, Cond.code yX2_side cX2_side 2 (some (.object "SwingCranes$Crane")), Cond.fieldLink RX2 12 "SwingCranes$Pair" "left" "LSwingCranes$Crane;", Cond.fieldLink RX2 18 "SwingCranes$Pair" "right" "LSwingCranes$Crane;", Cond.methodLink RX7 92 yX7_keepForUndo, Cond.instanceMethod yX7_keepForUndo, Cond.selects RX7 yX7_keepForUndo yX7_keepForUndo, Cond.code yX7_keepForUndo cX7_keepForUndo 2 none, Cond.fieldLink RX7 49 "SwingCranes" "fourthBack" "LSwingCranes$Story;", Cond.fieldLink RX7 46 "SwingCranes" "thirdBack" "LSwingCranes$Story;", Cond.fieldLink RX7 43 "SwingCranes" "secondBack" "LSwingCranes$Story;"]
def wsX7_load_r2 : List Cond := [Cond.fieldLink RX7 40 "SwingCranes" "firstBack" "LSwingCranes$Story;", Cond.fieldLink RX7 79 "SwingCranes" "undoable" "I", Cond.methodLink RX7 239 Lib.Math.min.name, Cond.static Lib.Math.min.name, Cond.initialized "java/lang/Math", Cond.code Lib.Math.min.name Lib.Math.min.code 2 (some .int), Cond.methodLink RX7 236 yX5_copyFrom, Cond.instanceMethod yX5_copyFrom, Cond.selects RX5 yX5_copyFrom yX5_copyFrom, Cond.initialized RX5, Cond.code yX5_copyFrom cX5_copyFrom 2 none, Cond.fieldLink RX5 10 "SwingCranes$Story" "pair" "LSwingCranes$Pair;", Cond.fieldLink RX5 19 "SwingCranes$Story" "leftSpots" "LSwingCranes$Spots;", Cond.fieldLink RX5 23 "SwingCranes$Story" "rightSpots" "LSwingCranes$Spots;", Cond.fieldLink RX5 34 "SwingCranes$Story" "ticks" "I", Cond.methodLink RX5 37 yX2_copyFrom, Cond.instanceMethod yX2_copyFrom, Cond.selects RX2 yX2_copyFrom yX2_copyFrom, Cond.code yX2_copyFrom cX2_copyFrom 2 none, Cond.fieldLink RX2 21 "SwingCranes$Pair" "level" "I", Cond.methodLink RX2 36 yX0_copyFrom, Cond.instanceMethod yX0_copyFrom, Cond.selects RX0 yX0_copyFrom yX0_copyFrom, Cond.initialized RX0]
def wsX7_load_r3 : List Cond := [Cond.code yX0_copyFrom cX0_copyFrom 2 none, Cond.fieldLink RX0 15 "SwingCranes$Crane" "place" "I", Cond.fieldLink RX0 18 "SwingCranes$Crane" "speed" "I", Cond.fieldLink RX0 24 "SwingCranes$Crane" "rope" "I", Cond.fieldLink RX0 28 "SwingCranes$Crane" "load" "I", Cond.fieldLink RX0 29 "SwingCranes$Crane" "swing" "I", Cond.fieldLink RX0 32 "SwingCranes$Crane" "rate" "I", Cond.fieldLink RX0 35 "SwingCranes$Crane" "want" "I", Cond.fieldLink RX0 38 "SwingCranes$Crane" "target" "I", Cond.fieldLink RX0 49 "SwingCranes$Crane" "soonIn" "I", Cond.fieldLink RX0 52 "SwingCranes$Crane" "soonBy" "I", Cond.fieldLink RX0 55 "SwingCranes$Crane" "laterIn" "I", Cond.fieldLink RX0 58 "SwingCranes$Crane" "laterBy" "I", Cond.fieldLink RX0 45 "SwingCranes$Crane" "braked" "Z", Cond.methodLink RX5 41 yX3_copyFrom, Cond.instanceMethod yX3_copyFrom, Cond.selects RX3 yX3_copyFrom yX3_copyFrom, Cond.initialized RX3, Cond.code yX3_copyFrom cX3_copyFrom 3 none, Cond.fieldLink RX3 18 "SwingCranes$Spots" "many" "I", Cond.methodLink RX3 22 yX3_nameAt, Cond.instanceMethod yX3_nameAt, Cond.selects RX3 yX3_nameAt yX3_nameAt, Cond.code yX3_nameAt cX3_nameAt 2 (some .int)]
def wsX7_load_r4 : List Cond := [Cond.fieldLink RX3 11 "SwingCranes$Spots" "names" "[I", Cond.methodLink RX3 26 yX3_ticksAt, Cond.instanceMethod yX3_ticksAt, Cond.selects RX3 yX3_ticksAt yX3_ticksAt, Cond.code yX3_ticksAt cX3_ticksAt 2 (some .int), Cond.fieldLink RX3 15 "SwingCranes$Spots" "ticks" "[I", Cond.methodLink RX3 29 yX3_put, Cond.instanceMethod yX3_put, Cond.selects RX3 yX3_put yX3_put, Cond.code yX3_put cX3_put 4 none]
def wsX7_load : List Cond := .code yX7_load cX7_load 4 (some .int) :: ((wsX7_load_r1 ++ (wsX7_load_r2 ++ (wsX7_load_r3 ++ wsX7_load_r4))) ++ wsX70 ++ wsX50 ++ wsX00 ++ wsX20 ++ wsX30)
def wsX7_couple_r1 : List Cond := [Cond.fieldLink RX7 36 "SwingCranes" "now" "LSwingCranes$Story;", Cond.fieldLink RX7 95 "SwingCranes$Story" "pair" "LSwingCranes$Pair;", Cond.fieldLink RX7 129 "SwingCranes$Pair" "level" "I", Cond.methodLink RX7 56 yX7_isWithin, Cond.static yX7_isWithin, Cond.initialized RX7, Cond.code yX7_isWithin cX7_isWithin 3 (some .boolean), Cond.methodLink RX7 92 yX7_keepForUndo, Cond.instanceMethod yX7_keepForUndo, Cond.selects RX7 yX7_keepForUndo yX7_keepForUndo, Cond.code yX7_keepForUndo cX7_keepForUndo 2 none, Cond.fieldLink RX7 49 "SwingCranes" "fourthBack" "LSwingCranes$Story;", Cond.fieldLink RX7 46 "SwingCranes" "thirdBack" "LSwingCranes$Story;", Cond.fieldLink RX7 43 "SwingCranes" "secondBack" "LSwingCranes$Story;", Cond.fieldLink RX7 40 "SwingCranes" "firstBack" "LSwingCranes$Story;", Cond.fieldLink RX7 79 "SwingCranes" "undoable" "I", Cond.methodLink RX7 239 Lib.Math.min.name, Cond.static Lib.Math.min.name, Cond.initialized "java/lang/Math", Cond.code Lib.Math.min.name Lib.Math.min.code 2 (some .int), Cond.methodLink RX7 236 yX5_copyFrom, Cond.instanceMethod yX5_copyFrom, Cond.selects RX5 yX5_copyFrom yX5_copyFrom, Cond.initialized RX5]
def wsX7_couple_r2 : List Cond := [Cond.code yX5_copyFrom cX5_copyFrom 2 none, Cond.fieldLink RX5 10 "SwingCranes$Story" "pair" "LSwingCranes$Pair;", Cond.fieldLink RX5 19 "SwingCranes$Story" "leftSpots" "LSwingCranes$Spots;", Cond.fieldLink RX5 23 "SwingCranes$Story" "rightSpots" "LSwingCranes$Spots;", Cond.fieldLink RX5 34 "SwingCranes$Story" "ticks" "I", Cond.methodLink RX5 37 yX2_copyFrom, Cond.instanceMethod yX2_copyFrom, Cond.selects RX2 yX2_copyFrom yX2_copyFrom, Cond.initialized RX2, Cond.code yX2_copyFrom cX2_copyFrom 2 none, Cond.fieldLink RX2 12 "SwingCranes$Pair" "left" "LSwingCranes$Crane;", Cond.fieldLink RX2 18 "SwingCranes$Pair" "right" "LSwingCranes$Crane;", Cond.fieldLink RX2 21 "SwingCranes$Pair" "level" "I", Cond.methodLink RX2 36 yX0_copyFrom, Cond.instanceMethod yX0_copyFrom, Cond.selects RX0 yX0_copyFrom yX0_copyFrom, Cond.initialized RX0, Cond.code yX0_copyFrom cX0_copyFrom 2 none, Cond.fieldLink RX0 15 "SwingCranes$Crane" "place" "I", Cond.fieldLink RX0 18 "SwingCranes$Crane" "speed" "I", Cond.fieldLink RX0 24 "SwingCranes$Crane" "rope" "I", Cond.fieldLink RX0 28 "SwingCranes$Crane" "load" "I", Cond.fieldLink RX0 29 "SwingCranes$Crane" "swing" "I", Cond.fieldLink RX0 32 "SwingCranes$Crane" "rate" "I"]
def wsX7_couple_r3 : List Cond := [Cond.fieldLink RX0 35 "SwingCranes$Crane" "want" "I", Cond.fieldLink RX0 38 "SwingCranes$Crane" "target" "I", Cond.fieldLink RX0 49 "SwingCranes$Crane" "soonIn" "I", Cond.fieldLink RX0 52 "SwingCranes$Crane" "soonBy" "I", Cond.fieldLink RX0 55 "SwingCranes$Crane" "laterIn" "I", Cond.fieldLink RX0 58 "SwingCranes$Crane" "laterBy" "I", Cond.fieldLink RX0 45 "SwingCranes$Crane" "braked" "Z", Cond.methodLink RX5 41 yX3_copyFrom, Cond.instanceMethod yX3_copyFrom, Cond.selects RX3 yX3_copyFrom yX3_copyFrom, Cond.initialized RX3, Cond.code yX3_copyFrom cX3_copyFrom 3 none, Cond.fieldLink RX3 18 "SwingCranes$Spots" "many" "I", Cond.methodLink RX3 22 yX3_nameAt, Cond.instanceMethod yX3_nameAt, Cond.selects RX3 yX3_nameAt yX3_nameAt, Cond.code yX3_nameAt cX3_nameAt 2 (some .int), Cond.fieldLink RX3 11 "SwingCranes$Spots" "names" "[I", Cond.methodLink RX3 26 yX3_ticksAt, Cond.instanceMethod yX3_ticksAt, Cond.selects RX3 yX3_ticksAt yX3_ticksAt, Cond.code yX3_ticksAt cX3_ticksAt 2 (some .int), Cond.fieldLink RX3 15 "SwingCranes$Spots" "ticks" "[I", Cond.methodLink RX3 29 yX3_put]
def wsX7_couple_r4 : List Cond := [Cond.instanceMethod yX3_put, Cond.selects RX3 yX3_put yX3_put, Cond.code yX3_put cX3_put 4 none]
def wsX7_couple : List Cond := .code yX7_couple cX7_couple 4 (some .int) :: ((wsX7_couple_r1 ++ (wsX7_couple_r2 ++ (wsX7_couple_r3 ++ wsX7_couple_r4))) ++ wsX70 ++ wsX50 ++ wsX20 ++ wsX00 ++ wsX30)
def wsX7_tick_r1 : List Cond := [Cond.fieldLink RX7 36 "SwingCranes" "now" "LSwingCranes$Story;", Cond.fieldLink RX7 132 "SwingCranes$Story" "ticks" "I", Cond.fieldLink RX7 26 "SwingCranes" "rules" "LSwingCranes$Layout;", Cond.methodLink RX7 56 yX7_isWithin, Cond.static yX7_isWithin, Cond.initialized RX7, Cond.code yX7_isWithin cX7_isWithin 3 (some .boolean), Cond.methodLink RX7 92 yX7_keepForUndo, Cond.instanceMethod yX7_keepForUndo, Cond.selects RX7 yX7_keepForUndo yX7_keepForUndo, Cond.code yX7_keepForUndo cX7_keepForUndo 2 none, Cond.fieldLink RX7 49 "SwingCranes" "fourthBack" "LSwingCranes$Story;", Cond.fieldLink RX7 46 "SwingCranes" "thirdBack" "LSwingCranes$Story;", Cond.fieldLink RX7 43 "SwingCranes" "secondBack" "LSwingCranes$Story;", Cond.fieldLink RX7 40 "SwingCranes" "firstBack" "LSwingCranes$Story;", Cond.fieldLink RX7 79 "SwingCranes" "undoable" "I", Cond.methodLink RX7 239 Lib.Math.min.name, Cond.static Lib.Math.min.name, Cond.initialized "java/lang/Math", Cond.code Lib.Math.min.name Lib.Math.min.code 2 (some .int), Cond.methodLink RX7 236 yX5_copyFrom, Cond.instanceMethod yX5_copyFrom, Cond.selects RX5 yX5_copyFrom yX5_copyFrom, Cond.initialized RX5]
def wsX7_tick_r2 : List Cond := [Cond.code yX5_copyFrom cX5_copyFrom 2 none, Cond.fieldLink RX5 10 "SwingCranes$Story" "pair" "LSwingCranes$Pair;", Cond.fieldLink RX5 19 "SwingCranes$Story" "leftSpots" "LSwingCranes$Spots;", Cond.fieldLink RX5 23 "SwingCranes$Story" "rightSpots" "LSwingCranes$Spots;", Cond.fieldLink RX5 34 "SwingCranes$Story" "ticks" "I", Cond.methodLink RX5 37 yX2_copyFrom, Cond.instanceMethod yX2_copyFrom, Cond.selects RX2 yX2_copyFrom yX2_copyFrom, Cond.initialized RX2, Cond.code yX2_copyFrom cX2_copyFrom 2 none, Cond.fieldLink RX2 12 "SwingCranes$Pair" "left" "LSwingCranes$Crane;", Cond.fieldLink RX2 18 "SwingCranes$Pair" "right" "LSwingCranes$Crane;", Cond.fieldLink RX2 21 "SwingCranes$Pair" "level" "I", Cond.methodLink RX2 36 yX0_copyFrom, Cond.instanceMethod yX0_copyFrom, Cond.selects RX0 yX0_copyFrom yX0_copyFrom, Cond.initialized RX0, Cond.code yX0_copyFrom cX0_copyFrom 2 none, Cond.fieldLink RX0 15 "SwingCranes$Crane" "place" "I", Cond.fieldLink RX0 18 "SwingCranes$Crane" "speed" "I", Cond.fieldLink RX0 24 "SwingCranes$Crane" "rope" "I", Cond.fieldLink RX0 28 "SwingCranes$Crane" "load" "I", Cond.fieldLink RX0 29 "SwingCranes$Crane" "swing" "I", Cond.fieldLink RX0 32 "SwingCranes$Crane" "rate" "I"]
def wsX7_tick_r3 : List Cond := [Cond.fieldLink RX0 35 "SwingCranes$Crane" "want" "I", Cond.fieldLink RX0 38 "SwingCranes$Crane" "target" "I", Cond.fieldLink RX0 49 "SwingCranes$Crane" "soonIn" "I", Cond.fieldLink RX0 52 "SwingCranes$Crane" "soonBy" "I", Cond.fieldLink RX0 55 "SwingCranes$Crane" "laterIn" "I", Cond.fieldLink RX0 58 "SwingCranes$Crane" "laterBy" "I", Cond.fieldLink RX0 45 "SwingCranes$Crane" "braked" "Z", Cond.methodLink RX5 41 yX3_copyFrom, Cond.instanceMethod yX3_copyFrom, Cond.selects RX3 yX3_copyFrom yX3_copyFrom, Cond.initialized RX3, Cond.code yX3_copyFrom cX3_copyFrom 3 none, Cond.fieldLink RX3 18 "SwingCranes$Spots" "many" "I", Cond.methodLink RX3 22 yX3_nameAt, Cond.instanceMethod yX3_nameAt, Cond.selects RX3 yX3_nameAt yX3_nameAt, Cond.code yX3_nameAt cX3_nameAt 2 (some .int), Cond.fieldLink RX3 11 "SwingCranes$Spots" "names" "[I", Cond.methodLink RX3 26 yX3_ticksAt, Cond.instanceMethod yX3_ticksAt, Cond.selects RX3 yX3_ticksAt yX3_ticksAt, Cond.code yX3_ticksAt cX3_ticksAt 2 (some .int), Cond.fieldLink RX3 15 "SwingCranes$Spots" "ticks" "[I", Cond.methodLink RX3 29 yX3_put]
def wsX7_tick_r4 : List Cond := [Cond.instanceMethod yX3_put, Cond.selects RX3 yX3_put yX3_put, Cond.code yX3_put cX3_put 4 none, Cond.methodLink RX7 135 yX5_goOn, Cond.instanceMethod yX5_goOn, Cond.selects RX5 yX5_goOn yX5_goOn, Cond.code yX5_goOn cX5_goOn 3 (some .int), Cond.fieldLink RX5 48 "SwingCranes$Pair" "left" "LSwingCranes$Crane;", Cond.fieldLink RX5 56 "SwingCranes$Pair" "right" "LSwingCranes$Crane;", Cond.methodLink RX5 44 yX2_goOn, Cond.instanceMethod yX2_goOn, Cond.selects RX2 yX2_goOn yX2_goOn, Cond.code yX2_goOn cX2_goOn 3 (some .int), Cond.fieldLink RX2 40 "SwingCranes$Crane" "place" "I", Cond.fieldLink RX2 80 "SwingCranes$Layout" "end" "I", Cond.fieldLink RX2 83 "SwingCranes$Layout" "hoist" "I", Cond.fieldLink RX2 86 "SwingCranes$Crane" "rope" "I", Cond.fieldLink RX2 93 "SwingCranes$Crane" "braked" "Z", Cond.methodLink RX2 72 yX2_freeBetween, Cond.instanceMethod yX2_freeBetween, Cond.selects RX2 yX2_freeBetween yX2_freeBetween, Cond.code yX2_freeBetween cX2_freeBetween 2 (some .int), Cond.fieldLink RX2 43 "SwingCranes$Layout" "gap" "I", Cond.methodLink RX2 76 yX0_roll]
def wsX7_tick_r5 : List Cond := [Cond.instanceMethod yX0_roll, Cond.selects RX0 yX0_roll yX0_roll, Cond.code yX0_roll cX0_roll 6 none, Cond.fieldLink RX0 94 "SwingCranes$Layout" "change" "I", Cond.methodLink RX0 87 yX0_takeSteps, Cond.instanceMethod yX0_takeSteps, Cond.selects RX0 yX0_takeSteps yX0_takeSteps, Cond.code yX0_takeSteps cX0_takeSteps 1 none, Cond.methodLink RX0 90 yX0_speedNearerToWant, Cond.instanceMethod yX0_speedNearerToWant, Cond.selects RX0 yX0_speedNearerToWant yX0_speedNearerToWant, Cond.code yX0_speedNearerToWant cX0_speedNearerToWant 3 (some .int), Cond.methodLink RX0 108 yX0_limit, Cond.instanceMethod yX0_limit, Cond.selects RX0 yX0_limit yX0_limit, Cond.code yX0_limit cX0_limit 2 (some .int), Cond.fieldLink RX0 69 "SwingCranes$Layout" "top" "I", Cond.methodLink RX0 74 Lib.Math.max.name, Cond.static Lib.Math.max.name, Cond.code Lib.Math.max.name Lib.Math.max.code 2 (some .int), Cond.static yX7_keptWithin, Cond.code yX7_keptWithin cX7_keptWithin 2 (some .int), Cond.methodLink RX7 214 Lib.Math.max.name, Cond.static yX7_wayToStop]
def wsX7_tick_r6 : List Cond := [Cond.code yX7_wayToStop cX7_wayToStop 4 (some .int), Cond.methodLink RX7 209 Lib.Math.abs.name, Cond.static Lib.Math.abs.name, Cond.code Lib.Math.abs.name Lib.Math.abs.code 1 (some .int), Cond.methodLink RX0 100 yX0_speedForRoom, Cond.instanceMethod yX0_speedForRoom, Cond.selects RX0 yX0_speedForRoom yX0_speedForRoom, Cond.code yX0_speedForRoom cX0_speedForRoom 6 (some .int), Cond.methodLink RX0 84 Lib.Math.abs.name, Cond.methodLink RX0 104 yX0_swingOut, Cond.instanceMethod yX0_swingOut, Cond.selects RX0 yX0_swingOut yX0_swingOut, Cond.code yX0_swingOut cX0_swingOut 3 none, Cond.methodLink RX2 89 yX0_hoistRope, Cond.instanceMethod yX0_hoistRope, Cond.selects RX0 yX0_hoistRope yX0_hoistRope, Cond.code yX0_hoistRope cX0_hoistRope 6 none, Cond.methodLink RX5 52 yX3_addTick, Cond.instanceMethod yX3_addTick, Cond.selects RX3 yX3_addTick yX3_addTick, Cond.code yX3_addTick cX3_addTick 4 none, Cond.fieldLink RX3 33 "SwingCranes$Crane" "place" "I", Cond.fieldLink RX3 38 "SwingCranes$Crane" "rope" "I", Cond.methodLink RX3 41 yX3_nameOf]
def wsX7_tick_r7 : List Cond := [Cond.instanceMethod yX3_nameOf, Cond.selects RX3 yX3_nameOf yX3_nameOf, Cond.code yX3_nameOf cX3_nameOf 3 (some .int), Cond.methodLink RX3 45 yX3_find, Cond.instanceMethod yX3_find, Cond.selects RX3 yX3_find yX3_find, Cond.code yX3_find cX3_find 3 (some .int)]
def wsX7_tick : List Cond := .code yX7_tick cX7_tick 4 (some .int) :: ((wsX7_tick_r1 ++ (wsX7_tick_r2 ++ (wsX7_tick_r3 ++ (wsX7_tick_r4 ++ (wsX7_tick_r5 ++ (wsX7_tick_r6 ++ wsX7_tick_r7)))))) ++ wsX70 ++ wsX50 ++ wsX20 ++ wsX00 ++ wsX30 ++ wsX10)
def wsX7_undo : List Cond := .code yX7_undo cX7_undo 2 (some .int) :: ([.fieldLink RX7 79 "SwingCranes" "undoable" "I", .fieldLink RX7 36 "SwingCranes" "now" "LSwingCranes$Story;", .fieldLink RX7 40 "SwingCranes" "firstBack" "LSwingCranes$Story;", .fieldLink RX7 43 "SwingCranes" "secondBack" "LSwingCranes$Story;", .fieldLink RX7 46 "SwingCranes" "thirdBack" "LSwingCranes$Story;", .fieldLink RX7 49 "SwingCranes" "fourthBack" "LSwingCranes$Story;"] ++ wsX70)
def wsX7_crane_r1 : List Cond := [Cond.fieldLink RX7 36 "SwingCranes" "now" "LSwingCranes$Story;", Cond.fieldLink RX7 95 "SwingCranes$Story" "pair" "LSwingCranes$Pair;", Cond.fieldLink RX7 138 "SwingCranes$Crane" "place" "I", Cond.fieldLink RX7 141 "SwingCranes$Crane" "speed" "I", Cond.constant RX7 144 (100000), Cond.fieldLink RX7 145 "SwingCranes$Crane" "rope" "I", Cond.fieldLink RX7 126 "SwingCranes$Crane" "load" "I", Cond.fieldLink RX7 148 "SwingCranes$Crane" "swing" "I", Cond.fieldLink RX7 151 "SwingCranes$Crane" "rate" "I", Cond.fieldLink RX7 154 "SwingCranes$Crane" "want" "I", Cond.fieldLink RX7 117 "SwingCranes$Crane" "target" "I", Cond.fieldLink RX7 26 "SwingCranes" "rules" "LSwingCranes$Layout;", Cond.fieldLink RX7 164 "SwingCranes$Layout" "change" "I", Cond.methodLink RX7 85 yX7_isCrane, Cond.static yX7_isCrane, Cond.initialized RX7, Cond.code yX7_isCrane cX7_isCrane 1 (some .boolean), Cond.methodLink RX7 113 yX2_side, Cond.instanceMethod yX2_side, Cond.selects RX2 yX2_side yX2_side, Cond.initialized RX2, Cond.code yX2_side cX2_side 2 (some (.object "SwingCranes$Crane")), Cond.fieldLink RX2 12 "SwingCranes$Pair" "left" "LSwingCranes$Crane;", Cond.fieldLink RX2 18 "SwingCranes$Pair" "right" "LSwingCranes$Crane;"]
def wsX7_crane_r2 : List Cond := [Cond.methodLink RX7 157 yX0_limit, Cond.instanceMethod yX0_limit, Cond.selects RX0 yX0_limit yX0_limit, Cond.initialized RX0, Cond.code yX0_limit cX0_limit 2 (some .int), Cond.fieldLink RX0 69 "SwingCranes$Layout" "top" "I", Cond.fieldLink RX0 28 "SwingCranes$Crane" "load" "I", Cond.methodLink RX0 74 Lib.Math.max.name, Cond.static Lib.Math.max.name, Cond.initialized "java/lang/Math", Cond.code Lib.Math.max.name Lib.Math.max.code 2 (some .int), Cond.methodLink RX7 160 yX0_stepsToCome, Cond.instanceMethod yX0_stepsToCome, Cond.selects RX0 yX0_stepsToCome yX0_stepsToCome, Cond.code yX0_stepsToCome cX0_stepsToCome 1 (some .int), Cond.fieldLink RX0 52 "SwingCranes$Crane" "soonBy" "I", Cond.fieldLink RX0 58 "SwingCranes$Crane" "laterBy" "I", Cond.methodLink RX7 167 yX7_wayToStop, Cond.static yX7_wayToStop, Cond.code yX7_wayToStop cX7_wayToStop 4 (some .int), Cond.methodLink RX7 209 Lib.Math.abs.name, Cond.static Lib.Math.abs.name, Cond.code Lib.Math.abs.name Lib.Math.abs.code 1 (some .int), Cond.methodLink RX7 170 yX7_halfSwing]
def wsX7_crane_r3 : List Cond := [Cond.static yX7_halfSwing, Cond.code yX7_halfSwing cX7_halfSwing 2 (some .int), Cond.methodLink RX7 174 yX0_isQuiet, Cond.instanceMethod yX0_isQuiet, Cond.selects RX0 yX0_isQuiet yX0_isQuiet, Cond.code yX0_isQuiet cX0_isQuiet 1 (some .boolean), Cond.fieldLink RX0 18 "SwingCranes$Crane" "speed" "I", Cond.fieldLink RX0 35 "SwingCranes$Crane" "want" "I", Cond.fieldLink RX0 29 "SwingCranes$Crane" "swing" "I", Cond.methodLink RX0 84 Lib.Math.abs.name, Cond.fieldLink RX0 32 "SwingCranes$Crane" "rate" "I", Cond.methodLink RX0 80 yX0_stepsToCome]
def wsX7_crane : List Cond := .code yX7_crane cX7_crane 4 (some .int) :: ((wsX7_crane_r1 ++ (wsX7_crane_r2 ++ wsX7_crane_r3)) ++ wsX70 ++ wsX50 ++ wsX00 ++ wsX10 ++ wsX20)
def wsX7_stepOf_r1 : List Cond := [Cond.fieldLink RX7 36 "SwingCranes" "now" "LSwingCranes$Story;", Cond.fieldLink RX7 95 "SwingCranes$Story" "pair" "LSwingCranes$Pair;", Cond.constant RX7 144 (100000), Cond.methodLink RX7 85 yX7_isCrane, Cond.static yX7_isCrane, Cond.initialized RX7, Cond.code yX7_isCrane cX7_isCrane 1 (some .boolean), Cond.methodLink RX7 56 yX7_isWithin, Cond.static yX7_isWithin, Cond.code yX7_isWithin cX7_isWithin 3 (some .boolean), Cond.methodLink RX7 113 yX2_side, Cond.instanceMethod yX2_side, Cond.selects RX2 yX2_side yX2_side, Cond.initialized RX2, Cond.code yX2_side cX2_side 2 (some (.object "SwingCranes$Crane")), Cond.fieldLink RX2 12 "SwingCranes$Pair" "left" "LSwingCranes$Crane;", Cond.fieldLink RX2 18 "SwingCranes$Pair" "right" "LSwingCranes$Crane;", Cond.methodLink RX7 160 yX0_stepsToCome, Cond.instanceMethod yX0_stepsToCome, Cond.selects RX0 yX0_stepsToCome yX0_stepsToCome, Cond.initialized RX0, Cond.code yX0_stepsToCome cX0_stepsToCome 1 (some .int), Cond.fieldLink RX0 52 "SwingCranes$Crane" "soonBy" "I", Cond.fieldLink RX0 58 "SwingCranes$Crane" "laterBy" "I"]
def wsX7_stepOf_r2 : List Cond := [Cond.methodLink RX7 177 yX0_stepIn, Cond.instanceMethod yX0_stepIn, Cond.selects RX0 yX0_stepIn yX0_stepIn, Cond.code yX0_stepIn cX0_stepIn 2 (some .int), Cond.fieldLink RX0 49 "SwingCranes$Crane" "soonIn" "I", Cond.fieldLink RX0 55 "SwingCranes$Crane" "laterIn" "I", Cond.methodLink RX0 65 yX0_isSoon, Cond.instanceMethod yX0_isSoon, Cond.selects RX0 yX0_isSoon yX0_isSoon, Cond.code yX0_isSoon cX0_isSoon 2 (some .boolean), Cond.methodLink RX7 180 yX0_stepBy, Cond.instanceMethod yX0_stepBy, Cond.selects RX0 yX0_stepBy yX0_stepBy, Cond.code yX0_stepBy cX0_stepBy 2 (some .int)]
def wsX7_stepOf : List Cond := .code yX7_stepOf cX7_stepOf 5 (some .int) :: ((wsX7_stepOf_r1 ++ wsX7_stepOf_r2) ++ wsX70 ++ wsX50 ++ wsX20 ++ wsX00)
def wsX7_stop : List Cond := .code yX7_stop cX7_stop 2 (some .int) :: ([.fieldLink RX7 26 "SwingCranes" "rules" "LSwingCranes$Layout;", .fieldLink RX7 164 "SwingCranes$Layout" "change" "I", .methodLink RX7 89 yX7_isSpeed, .static yX7_isSpeed, .initialized RX7, .code yX7_isSpeed cX7_isSpeed 1 (some .boolean), .methodLink RX7 56 yX7_isWithin, .static yX7_isWithin, .code yX7_isWithin cX7_isWithin 3 (some .boolean), .methodLink RX7 167 yX7_wayToStop, .static yX7_wayToStop, .code yX7_wayToStop cX7_wayToStop 4 (some .int), .methodLink RX7 209 Lib.Math.abs.name, .static Lib.Math.abs.name, .initialized "java/lang/Math", .code Lib.Math.abs.name Lib.Math.abs.code 1 (some .int)] ++ wsX70 ++ wsX10)
def wsX7_half : List Cond := .code yX7_half cX7_half 2 (some .int) :: ([.methodLink RX7 106 yX7_isRope, .static yX7_isRope, .initialized RX7, .code yX7_isRope cX7_isRope 1 (some .boolean), .methodLink RX7 56 yX7_isWithin, .static yX7_isWithin, .code yX7_isWithin cX7_isWithin 3 (some .boolean), .methodLink RX7 170 yX7_halfSwing, .static yX7_halfSwing, .code yX7_halfSwing cX7_halfSwing 2 (some .int)])
def wsX7_spot_r1 : List Cond := [Cond.fieldLink RX7 36 "SwingCranes" "now" "LSwingCranes$Story;", Cond.fieldLink RX7 187 "SwingCranes$Spots" "many" "I", Cond.methodLink RX7 85 yX7_isCrane, Cond.static yX7_isCrane, Cond.initialized RX7, Cond.code yX7_isCrane cX7_isCrane 1 (some .boolean), Cond.methodLink RX7 56 yX7_isWithin, Cond.static yX7_isWithin, Cond.code yX7_isWithin cX7_isWithin 3 (some .boolean), Cond.methodLink RX7 183 yX5_spotsOf, Cond.instanceMethod yX5_spotsOf, Cond.selects RX5 yX5_spotsOf yX5_spotsOf, Cond.initialized RX5, Cond.code yX5_spotsOf cX5_spotsOf 2 (some (.object "SwingCranes$Spots")), Cond.fieldLink RX5 19 "SwingCranes$Story" "leftSpots" "LSwingCranes$Spots;", Cond.fieldLink RX5 23 "SwingCranes$Story" "rightSpots" "LSwingCranes$Spots;", Cond.methodLink RX7 192 yX3_blockAt, Cond.instanceMethod yX3_blockAt, Cond.selects RX3 yX3_blockAt yX3_blockAt, Cond.initialized RX3, Cond.code yX3_blockAt cX3_blockAt 2 (some .int), Cond.methodLink RX3 22 yX3_nameAt, Cond.instanceMethod yX3_nameAt, Cond.selects RX3 yX3_nameAt yX3_nameAt]
def wsX7_spot_r2 : List Cond := [Cond.code yX3_nameAt cX3_nameAt 2 (some .int), Cond.fieldLink RX3 11 "SwingCranes$Spots" "names" "[I", Cond.methodLink RX7 195 yX3_floorAt, Cond.instanceMethod yX3_floorAt, Cond.selects RX3 yX3_floorAt yX3_floorAt, Cond.code yX3_floorAt cX3_floorAt 2 (some .int), Cond.methodLink RX7 198 yX3_ticksAt, Cond.instanceMethod yX3_ticksAt, Cond.selects RX3 yX3_ticksAt yX3_ticksAt, Cond.code yX3_ticksAt cX3_ticksAt 2 (some .int), Cond.fieldLink RX3 18 "SwingCranes$Spots" "many" "I", Cond.fieldLink RX3 15 "SwingCranes$Spots" "ticks" "[I"]
def wsX7_spot : List Cond := .code yX7_spot cX7_spot 5 (some .int) :: ((wsX7_spot_r1 ++ wsX7_spot_r2) ++ wsX70 ++ wsX30 ++ wsX50)
def wsX7_been_r1 : List Cond := [Cond.fieldLink RX7 36 "SwingCranes" "now" "LSwingCranes$Story;", Cond.methodLink RX7 85 yX7_isCrane, Cond.static yX7_isCrane, Cond.initialized RX7, Cond.code yX7_isCrane cX7_isCrane 1 (some .boolean), Cond.methodLink RX7 56 yX7_isWithin, Cond.static yX7_isWithin, Cond.code yX7_isWithin cX7_isWithin 3 (some .boolean), Cond.methodLink RX7 183 yX5_spotsOf, Cond.instanceMethod yX5_spotsOf, Cond.selects RX5 yX5_spotsOf yX5_spotsOf, Cond.initialized RX5, Cond.code yX5_spotsOf cX5_spotsOf 2 (some (.object "SwingCranes$Spots")), Cond.fieldLink RX5 19 "SwingCranes$Story" "leftSpots" "LSwingCranes$Spots;", Cond.fieldLink RX5 23 "SwingCranes$Story" "rightSpots" "LSwingCranes$Spots;", Cond.methodLink RX7 201 yX3_ticksIn, Cond.instanceMethod yX3_ticksIn, Cond.selects RX3 yX3_ticksIn yX3_ticksIn, Cond.initialized RX3, Cond.code yX3_ticksIn cX3_ticksIn 3 (some .int), Cond.methodLink RX3 41 yX3_nameOf, Cond.instanceMethod yX3_nameOf, Cond.selects RX3 yX3_nameOf yX3_nameOf, Cond.code yX3_nameOf cX3_nameOf 3 (some .int)]
def wsX7_been_r2 : List Cond := [Cond.methodLink RX3 45 yX3_find, Cond.instanceMethod yX3_find, Cond.selects RX3 yX3_find yX3_find, Cond.code yX3_find cX3_find 3 (some .int), Cond.fieldLink RX3 18 "SwingCranes$Spots" "many" "I", Cond.methodLink RX3 22 yX3_nameAt, Cond.instanceMethod yX3_nameAt, Cond.selects RX3 yX3_nameAt yX3_nameAt, Cond.code yX3_nameAt cX3_nameAt 2 (some .int), Cond.fieldLink RX3 11 "SwingCranes$Spots" "names" "[I", Cond.methodLink RX3 26 yX3_ticksAt, Cond.instanceMethod yX3_ticksAt, Cond.selects RX3 yX3_ticksAt yX3_ticksAt, Cond.code yX3_ticksAt cX3_ticksAt 2 (some .int), Cond.fieldLink RX3 15 "SwingCranes$Spots" "ticks" "[I"]
def wsX7_been : List Cond := .code yX7_been cX7_been 4 (some .int) :: ((wsX7_been_r1 ++ wsX7_been_r2) ++ wsX70 ++ wsX50 ++ wsX30)
def wsX7_ahead_r1 : List Cond := [Cond.fieldLink RX7 19 "SwingCranes" "trial" "LSwingCranes$Pair;", Cond.fieldLink RX7 36 "SwingCranes" "now" "LSwingCranes$Story;", Cond.fieldLink RX7 95 "SwingCranes$Story" "pair" "LSwingCranes$Pair;", Cond.fieldLink RX7 26 "SwingCranes" "rules" "LSwingCranes$Layout;", Cond.fieldLink RX7 148 "SwingCranes$Crane" "swing" "I", Cond.methodLink RX7 209 Lib.Math.abs.name, Cond.static Lib.Math.abs.name, Cond.initialized "java/lang/Math", Cond.code Lib.Math.abs.name Lib.Math.abs.code 1 (some .int), Cond.methodLink RX7 214 Lib.Math.max.name, Cond.static Lib.Math.max.name, Cond.code Lib.Math.max.name Lib.Math.max.code 2 (some .int), Cond.fieldLink RX7 217 "SwingCranes$Crane" "braked" "Z", Cond.fieldLink RX7 138 "SwingCranes$Crane" "place" "I", Cond.fieldLink RX7 141 "SwingCranes$Crane" "speed" "I", Cond.constant RX7 144 (100000), Cond.fieldLink RX7 145 "SwingCranes$Crane" "rope" "I", Cond.methodLink RX7 56 yX7_isWithin, Cond.static yX7_isWithin, Cond.initialized RX7, Cond.code yX7_isWithin cX7_isWithin 3 (some .boolean), Cond.methodLink RX7 85 yX7_isCrane, Cond.static yX7_isCrane, Cond.code yX7_isCrane cX7_isCrane 1 (some .boolean)]
def wsX7_ahead_r2 : List Cond := [Cond.methodLink RX7 204 yX2_copyFrom, Cond.instanceMethod yX2_copyFrom, Cond.selects RX2 yX2_copyFrom yX2_copyFrom, Cond.initialized RX2, Cond.code yX2_copyFrom cX2_copyFrom 2 none, Cond.fieldLink RX2 12 "SwingCranes$Pair" "left" "LSwingCranes$Crane;", Cond.fieldLink RX2 18 "SwingCranes$Pair" "right" "LSwingCranes$Crane;", Cond.fieldLink RX2 21 "SwingCranes$Pair" "level" "I", Cond.methodLink RX2 36 yX0_copyFrom, Cond.instanceMethod yX0_copyFrom, Cond.selects RX0 yX0_copyFrom yX0_copyFrom, Cond.initialized RX0, Cond.code yX0_copyFrom cX0_copyFrom 2 none, Cond.fieldLink RX0 15 "SwingCranes$Crane" "place" "I", Cond.fieldLink RX0 18 "SwingCranes$Crane" "speed" "I", Cond.fieldLink RX0 24 "SwingCranes$Crane" "rope" "I", Cond.fieldLink RX0 28 "SwingCranes$Crane" "load" "I", Cond.fieldLink RX0 29 "SwingCranes$Crane" "swing" "I", Cond.fieldLink RX0 32 "SwingCranes$Crane" "rate" "I", Cond.fieldLink RX0 35 "SwingCranes$Crane" "want" "I", Cond.fieldLink RX0 38 "SwingCranes$Crane" "target" "I", Cond.fieldLink RX0 49 "SwingCranes$Crane" "soonIn" "I", Cond.fieldLink RX0 52 "SwingCranes$Crane" "soonBy" "I", Cond.fieldLink RX0 55 "SwingCranes$Crane" "laterIn" "I"]
def wsX7_ahead_r3 : List Cond := [Cond.fieldLink RX0 58 "SwingCranes$Crane" "laterBy" "I", Cond.fieldLink RX0 45 "SwingCranes$Crane" "braked" "Z", Cond.methodLink RX7 113 yX2_side, Cond.instanceMethod yX2_side, Cond.selects RX2 yX2_side yX2_side, Cond.code yX2_side cX2_side 2 (some (.object "SwingCranes$Crane")), Cond.methodLink RX7 208 yX2_goOn, Cond.instanceMethod yX2_goOn, Cond.selects RX2 yX2_goOn yX2_goOn, Cond.code yX2_goOn cX2_goOn 3 (some .int), Cond.fieldLink RX2 40 "SwingCranes$Crane" "place" "I", Cond.fieldLink RX2 80 "SwingCranes$Layout" "end" "I", Cond.fieldLink RX2 83 "SwingCranes$Layout" "hoist" "I", Cond.fieldLink RX2 86 "SwingCranes$Crane" "rope" "I", Cond.fieldLink RX2 93 "SwingCranes$Crane" "braked" "Z", Cond.methodLink RX2 72 yX2_freeBetween, Cond.instanceMethod yX2_freeBetween, Cond.selects RX2 yX2_freeBetween yX2_freeBetween, Cond.code yX2_freeBetween cX2_freeBetween 2 (some .int), Cond.fieldLink RX2 43 "SwingCranes$Layout" "gap" "I", Cond.methodLink RX2 76 yX0_roll, Cond.instanceMethod yX0_roll, Cond.selects RX0 yX0_roll yX0_roll, Cond.code yX0_roll cX0_roll 6 none]
def wsX7_ahead_r4 : List Cond := [Cond.fieldLink RX0 94 "SwingCranes$Layout" "change" "I", Cond.methodLink RX0 87 yX0_takeSteps, Cond.instanceMethod yX0_takeSteps, Cond.selects RX0 yX0_takeSteps yX0_takeSteps, Cond.code yX0_takeSteps cX0_takeSteps 1 none, Cond.methodLink RX0 90 yX0_speedNearerToWant, Cond.instanceMethod yX0_speedNearerToWant, Cond.selects RX0 yX0_speedNearerToWant yX0_speedNearerToWant, Cond.code yX0_speedNearerToWant cX0_speedNearerToWant 3 (some .int), Cond.methodLink RX0 108 yX0_limit, Cond.instanceMethod yX0_limit, Cond.selects RX0 yX0_limit yX0_limit, Cond.code yX0_limit cX0_limit 2 (some .int), Cond.fieldLink RX0 69 "SwingCranes$Layout" "top" "I", Cond.methodLink RX0 74 Lib.Math.max.name, Cond.static yX7_keptWithin, Cond.code yX7_keptWithin cX7_keptWithin 2 (some .int), Cond.methodLink RX7 239 Lib.Math.min.name, Cond.static Lib.Math.min.name, Cond.code Lib.Math.min.name Lib.Math.min.code 2 (some .int), Cond.static yX7_wayToStop, Cond.code yX7_wayToStop cX7_wayToStop 4 (some .int), Cond.methodLink RX0 100 yX0_speedForRoom, Cond.instanceMethod yX0_speedForRoom]
def wsX7_ahead_r5 : List Cond := [Cond.selects RX0 yX0_speedForRoom yX0_speedForRoom, Cond.code yX0_speedForRoom cX0_speedForRoom 6 (some .int), Cond.methodLink RX0 84 Lib.Math.abs.name, Cond.methodLink RX0 104 yX0_swingOut, Cond.instanceMethod yX0_swingOut, Cond.selects RX0 yX0_swingOut yX0_swingOut, Cond.code yX0_swingOut cX0_swingOut 3 none, Cond.methodLink RX2 89 yX0_hoistRope, Cond.instanceMethod yX0_hoistRope, Cond.selects RX0 yX0_hoistRope yX0_hoistRope, Cond.code yX0_hoistRope cX0_hoistRope 6 none]
def wsX7_ahead : List Cond := .code yX7_ahead cX7_ahead 8 (some .int) :: ((wsX7_ahead_r1 ++ (wsX7_ahead_r2 ++ (wsX7_ahead_r3 ++ (wsX7_ahead_r4 ++ wsX7_ahead_r5)))) ++ wsX70 ++ wsX50 ++ wsX00 ++ wsX20 ++ wsX10)
def wsX7_quiet_r1 : List Cond := [Cond.fieldLink RX7 19 "SwingCranes" "trial" "LSwingCranes$Pair;", Cond.fieldLink RX7 36 "SwingCranes" "now" "LSwingCranes$Story;", Cond.fieldLink RX7 95 "SwingCranes$Story" "pair" "LSwingCranes$Pair;", Cond.fieldLink RX7 26 "SwingCranes" "rules" "LSwingCranes$Layout;", Cond.methodLink RX7 85 yX7_isCrane, Cond.static yX7_isCrane, Cond.initialized RX7, Cond.code yX7_isCrane cX7_isCrane 1 (some .boolean), Cond.methodLink RX7 204 yX2_copyFrom, Cond.instanceMethod yX2_copyFrom, Cond.selects RX2 yX2_copyFrom yX2_copyFrom, Cond.initialized RX2, Cond.code yX2_copyFrom cX2_copyFrom 2 none, Cond.fieldLink RX2 12 "SwingCranes$Pair" "left" "LSwingCranes$Crane;", Cond.fieldLink RX2 18 "SwingCranes$Pair" "right" "LSwingCranes$Crane;", Cond.fieldLink RX2 21 "SwingCranes$Pair" "level" "I", Cond.methodLink RX2 36 yX0_copyFrom, Cond.instanceMethod yX0_copyFrom, Cond.selects RX0 yX0_copyFrom yX0_copyFrom, Cond.initialized RX0, Cond.code yX0_copyFrom cX0_copyFrom 2 none, Cond.fieldLink RX0 15 "SwingCranes$Crane" "place" "I", Cond.fieldLink RX0 18 "SwingCranes$Crane" "speed" "I", Cond.fieldLink RX0 24 "SwingCranes$Crane" "rope" "I"]
def wsX7_quiet_r2 : List Cond := [Cond.fieldLink RX0 28 "SwingCranes$Crane" "load" "I", Cond.fieldLink RX0 29 "SwingCranes$Crane" "swing" "I", Cond.fieldLink RX0 32 "SwingCranes$Crane" "rate" "I", Cond.fieldLink RX0 35 "SwingCranes$Crane" "want" "I", Cond.fieldLink RX0 38 "SwingCranes$Crane" "target" "I", Cond.fieldLink RX0 49 "SwingCranes$Crane" "soonIn" "I", Cond.fieldLink RX0 52 "SwingCranes$Crane" "soonBy" "I", Cond.fieldLink RX0 55 "SwingCranes$Crane" "laterIn" "I", Cond.fieldLink RX0 58 "SwingCranes$Crane" "laterBy" "I", Cond.fieldLink RX0 45 "SwingCranes$Crane" "braked" "Z", Cond.methodLink RX7 98 yX2_tellAtOnce, Cond.instanceMethod yX2_tellAtOnce, Cond.selects RX2 yX2_tellAtOnce yX2_tellAtOnce, Cond.code yX2_tellAtOnce cX2_tellAtOnce 3 (some .int), Cond.methodLink RX2 50 yX2_leftHeeds, Cond.instanceMethod yX2_leftHeeds, Cond.selects RX2 yX2_leftHeeds yX2_leftHeeds, Cond.code yX2_leftHeeds cX2_leftHeeds 2 (some .boolean), Cond.methodLink RX2 46 yX2_isCoupled, Cond.instanceMethod yX2_isCoupled, Cond.selects RX2 yX2_isCoupled yX2_isCoupled, Cond.code yX2_isCoupled cX2_isCoupled 1 (some .boolean), Cond.methodLink RX2 54 yX0_planAtOnce, Cond.instanceMethod yX0_planAtOnce]
def wsX7_quiet_r3 : List Cond := [Cond.selects RX0 yX0_planAtOnce yX0_planAtOnce, Cond.code yX0_planAtOnce cX0_planAtOnce 2 none, Cond.methodLink RX0 41 yX0_setSteps, Cond.instanceMethod yX0_setSteps, Cond.selects RX0 yX0_setSteps yX0_setSteps, Cond.code yX0_setSteps cX0_setSteps 4 none, Cond.methodLink RX2 58 yX2_rightHeeds, Cond.instanceMethod yX2_rightHeeds, Cond.selects RX2 yX2_rightHeeds yX2_rightHeeds, Cond.code yX2_rightHeeds cX2_rightHeeds 2 (some .boolean), Cond.methodLink RX2 61 yX2_heeding, Cond.instanceMethod yX2_heeding, Cond.selects RX2 yX2_heeding yX2_heeding, Cond.code yX2_heeding cX2_heeding 1 (some .int), Cond.methodLink RX7 113 yX2_side, Cond.instanceMethod yX2_side, Cond.selects RX2 yX2_side yX2_side, Cond.code yX2_side cX2_side 2 (some (.object "SwingCranes$Crane")), Cond.methodLink RX7 174 yX0_isQuiet, Cond.instanceMethod yX0_isQuiet, Cond.selects RX0 yX0_isQuiet yX0_isQuiet, Cond.code yX0_isQuiet cX0_isQuiet 1 (some .boolean), Cond.methodLink RX0 84 Lib.Math.abs.name, Cond.static Lib.Math.abs.name]
def wsX7_quiet_r4 : List Cond := [Cond.initialized "java/lang/Math", Cond.code Lib.Math.abs.name Lib.Math.abs.code 1 (some .int), Cond.methodLink RX0 80 yX0_stepsToCome, Cond.instanceMethod yX0_stepsToCome, Cond.selects RX0 yX0_stepsToCome yX0_stepsToCome, Cond.code yX0_stepsToCome cX0_stepsToCome 1 (some .int), Cond.methodLink RX7 208 yX2_goOn, Cond.instanceMethod yX2_goOn, Cond.selects RX2 yX2_goOn yX2_goOn, Cond.code yX2_goOn cX2_goOn 3 (some .int), Cond.fieldLink RX2 40 "SwingCranes$Crane" "place" "I", Cond.fieldLink RX2 80 "SwingCranes$Layout" "end" "I", Cond.fieldLink RX2 83 "SwingCranes$Layout" "hoist" "I", Cond.fieldLink RX2 86 "SwingCranes$Crane" "rope" "I", Cond.fieldLink RX2 93 "SwingCranes$Crane" "braked" "Z", Cond.methodLink RX2 72 yX2_freeBetween, Cond.instanceMethod yX2_freeBetween, Cond.selects RX2 yX2_freeBetween yX2_freeBetween, Cond.code yX2_freeBetween cX2_freeBetween 2 (some .int), Cond.fieldLink RX2 43 "SwingCranes$Layout" "gap" "I", Cond.methodLink RX2 76 yX0_roll, Cond.instanceMethod yX0_roll, Cond.selects RX0 yX0_roll yX0_roll, Cond.code yX0_roll cX0_roll 6 none]
def wsX7_quiet_r5 : List Cond := [Cond.fieldLink RX0 94 "SwingCranes$Layout" "change" "I", Cond.methodLink RX0 87 yX0_takeSteps, Cond.instanceMethod yX0_takeSteps, Cond.selects RX0 yX0_takeSteps yX0_takeSteps, Cond.code yX0_takeSteps cX0_takeSteps 1 none, Cond.methodLink RX0 90 yX0_speedNearerToWant, Cond.instanceMethod yX0_speedNearerToWant, Cond.selects RX0 yX0_speedNearerToWant yX0_speedNearerToWant, Cond.code yX0_speedNearerToWant cX0_speedNearerToWant 3 (some .int), Cond.methodLink RX0 108 yX0_limit, Cond.instanceMethod yX0_limit, Cond.selects RX0 yX0_limit yX0_limit, Cond.code yX0_limit cX0_limit 2 (some .int), Cond.fieldLink RX0 69 "SwingCranes$Layout" "top" "I", Cond.methodLink RX0 74 Lib.Math.max.name, Cond.static Lib.Math.max.name, Cond.code Lib.Math.max.name Lib.Math.max.code 2 (some .int), Cond.static yX7_keptWithin, Cond.code yX7_keptWithin cX7_keptWithin 2 (some .int), Cond.methodLink RX7 239 Lib.Math.min.name, Cond.static Lib.Math.min.name, Cond.code Lib.Math.min.name Lib.Math.min.code 2 (some .int), Cond.methodLink RX7 214 Lib.Math.max.name, Cond.static yX7_wayToStop]
def wsX7_quiet_r6 : List Cond := [Cond.code yX7_wayToStop cX7_wayToStop 4 (some .int), Cond.methodLink RX7 209 Lib.Math.abs.name, Cond.methodLink RX0 100 yX0_speedForRoom, Cond.instanceMethod yX0_speedForRoom, Cond.selects RX0 yX0_speedForRoom yX0_speedForRoom, Cond.code yX0_speedForRoom cX0_speedForRoom 6 (some .int), Cond.methodLink RX0 104 yX0_swingOut, Cond.instanceMethod yX0_swingOut, Cond.selects RX0 yX0_swingOut yX0_swingOut, Cond.code yX0_swingOut cX0_swingOut 3 none, Cond.methodLink RX2 89 yX0_hoistRope, Cond.instanceMethod yX0_hoistRope, Cond.selects RX0 yX0_hoistRope yX0_hoistRope, Cond.code yX0_hoistRope cX0_hoistRope 6 none]
def wsX7_quiet : List Cond := .code yX7_quiet cX7_quiet 4 (some .int) :: ((wsX7_quiet_r1 ++ (wsX7_quiet_r2 ++ (wsX7_quiet_r3 ++ (wsX7_quiet_r4 ++ (wsX7_quiet_r5 ++ wsX7_quiet_r6))))) ++ wsX70 ++ wsX50 ++ wsX20 ++ wsX00 ++ wsX10)
def wsX7_swingWithPause_r1 : List Cond := [Cond.fieldLink RX7 19 "SwingCranes" "trial" "LSwingCranes$Pair;", Cond.fieldLink RX7 36 "SwingCranes" "now" "LSwingCranes$Story;", Cond.fieldLink RX7 95 "SwingCranes$Story" "pair" "LSwingCranes$Pair;", Cond.fieldLink RX7 26 "SwingCranes" "rules" "LSwingCranes$Layout;", Cond.fieldLink RX7 148 "SwingCranes$Crane" "swing" "I", Cond.methodLink RX7 209 Lib.Math.abs.name, Cond.static Lib.Math.abs.name, Cond.initialized "java/lang/Math", Cond.code Lib.Math.abs.name Lib.Math.abs.code 1 (some .int), Cond.methodLink RX7 214 Lib.Math.max.name, Cond.static Lib.Math.max.name, Cond.code Lib.Math.max.name Lib.Math.max.code 2 (some .int), Cond.methodLink RX7 204 yX2_copyFrom, Cond.instanceMethod yX2_copyFrom, Cond.selects RX2 yX2_copyFrom yX2_copyFrom, Cond.initialized RX2, Cond.code yX2_copyFrom cX2_copyFrom 2 none, Cond.fieldLink RX2 12 "SwingCranes$Pair" "left" "LSwingCranes$Crane;", Cond.fieldLink RX2 18 "SwingCranes$Pair" "right" "LSwingCranes$Crane;", Cond.fieldLink RX2 21 "SwingCranes$Pair" "level" "I", Cond.methodLink RX2 36 yX0_copyFrom, Cond.instanceMethod yX0_copyFrom, Cond.selects RX0 yX0_copyFrom yX0_copyFrom, Cond.initialized RX0]
def wsX7_swingWithPause_r2 : List Cond := [Cond.code yX0_copyFrom cX0_copyFrom 2 none, Cond.fieldLink RX0 15 "SwingCranes$Crane" "place" "I", Cond.fieldLink RX0 18 "SwingCranes$Crane" "speed" "I", Cond.fieldLink RX0 24 "SwingCranes$Crane" "rope" "I", Cond.fieldLink RX0 28 "SwingCranes$Crane" "load" "I", Cond.fieldLink RX0 29 "SwingCranes$Crane" "swing" "I", Cond.fieldLink RX0 32 "SwingCranes$Crane" "rate" "I", Cond.fieldLink RX0 35 "SwingCranes$Crane" "want" "I", Cond.fieldLink RX0 38 "SwingCranes$Crane" "target" "I", Cond.fieldLink RX0 49 "SwingCranes$Crane" "soonIn" "I", Cond.fieldLink RX0 52 "SwingCranes$Crane" "soonBy" "I", Cond.fieldLink RX0 55 "SwingCranes$Crane" "laterIn" "I", Cond.fieldLink RX0 58 "SwingCranes$Crane" "laterBy" "I", Cond.fieldLink RX0 45 "SwingCranes$Crane" "braked" "Z", Cond.methodLink RX7 102 yX2_tellByHalves, Cond.instanceMethod yX2_tellByHalves, Cond.selects RX2 yX2_tellByHalves yX2_tellByHalves, Cond.code yX2_tellByHalves cX2_tellByHalves 4 (some .int), Cond.methodLink RX2 50 yX2_leftHeeds, Cond.instanceMethod yX2_leftHeeds, Cond.selects RX2 yX2_leftHeeds yX2_leftHeeds, Cond.code yX2_leftHeeds cX2_leftHeeds 2 (some .boolean), Cond.methodLink RX2 46 yX2_isCoupled, Cond.instanceMethod yX2_isCoupled]
def wsX7_swingWithPause_r3 : List Cond := [Cond.selects RX2 yX2_isCoupled yX2_isCoupled, Cond.code yX2_isCoupled cX2_isCoupled 1 (some .boolean), Cond.methodLink RX2 65 yX0_planByHalves, Cond.instanceMethod yX0_planByHalves, Cond.selects RX0 yX0_planByHalves yX0_planByHalves, Cond.code yX0_planByHalves cX0_planByHalves 5 none, Cond.static yX7_halfSwing, Cond.initialized RX7, Cond.code yX7_halfSwing cX7_halfSwing 2 (some .int), Cond.methodLink RX0 41 yX0_setSteps, Cond.instanceMethod yX0_setSteps, Cond.selects RX0 yX0_setSteps yX0_setSteps, Cond.code yX0_setSteps cX0_setSteps 4 none, Cond.methodLink RX2 58 yX2_rightHeeds, Cond.instanceMethod yX2_rightHeeds, Cond.selects RX2 yX2_rightHeeds yX2_rightHeeds, Cond.code yX2_rightHeeds cX2_rightHeeds 2 (some .boolean), Cond.methodLink RX2 61 yX2_heeding, Cond.instanceMethod yX2_heeding, Cond.selects RX2 yX2_heeding yX2_heeding, Cond.code yX2_heeding cX2_heeding 1 (some .int), Cond.methodLink RX7 113 yX2_side, Cond.instanceMethod yX2_side, Cond.selects RX2 yX2_side yX2_side]
def wsX7_swingWithPause_r4 : List Cond := [Cond.code yX2_side cX2_side 2 (some (.object "SwingCranes$Crane")), Cond.methodLink RX7 208 yX2_goOn, Cond.instanceMethod yX2_goOn, Cond.selects RX2 yX2_goOn yX2_goOn, Cond.code yX2_goOn cX2_goOn 3 (some .int), Cond.fieldLink RX2 40 "SwingCranes$Crane" "place" "I", Cond.fieldLink RX2 80 "SwingCranes$Layout" "end" "I", Cond.fieldLink RX2 83 "SwingCranes$Layout" "hoist" "I", Cond.fieldLink RX2 86 "SwingCranes$Crane" "rope" "I", Cond.fieldLink RX2 93 "SwingCranes$Crane" "braked" "Z", Cond.methodLink RX2 72 yX2_freeBetween, Cond.instanceMethod yX2_freeBetween, Cond.selects RX2 yX2_freeBetween yX2_freeBetween, Cond.code yX2_freeBetween cX2_freeBetween 2 (some .int), Cond.fieldLink RX2 43 "SwingCranes$Layout" "gap" "I", Cond.methodLink RX2 76 yX0_roll, Cond.instanceMethod yX0_roll, Cond.selects RX0 yX0_roll yX0_roll, Cond.code yX0_roll cX0_roll 6 none, Cond.fieldLink RX0 94 "SwingCranes$Layout" "change" "I", Cond.methodLink RX0 87 yX0_takeSteps, Cond.instanceMethod yX0_takeSteps, Cond.selects RX0 yX0_takeSteps yX0_takeSteps, Cond.code yX0_takeSteps cX0_takeSteps 1 none]
def wsX7_swingWithPause_r5 : List Cond := [Cond.methodLink RX0 90 yX0_speedNearerToWant, Cond.instanceMethod yX0_speedNearerToWant, Cond.selects RX0 yX0_speedNearerToWant yX0_speedNearerToWant, Cond.code yX0_speedNearerToWant cX0_speedNearerToWant 3 (some .int), Cond.methodLink RX0 108 yX0_limit, Cond.instanceMethod yX0_limit, Cond.selects RX0 yX0_limit yX0_limit, Cond.code yX0_limit cX0_limit 2 (some .int), Cond.fieldLink RX0 69 "SwingCranes$Layout" "top" "I", Cond.methodLink RX0 74 Lib.Math.max.name, Cond.static yX7_keptWithin, Cond.code yX7_keptWithin cX7_keptWithin 2 (some .int), Cond.methodLink RX7 239 Lib.Math.min.name, Cond.static Lib.Math.min.name, Cond.code Lib.Math.min.name Lib.Math.min.code 2 (some .int), Cond.static yX7_wayToStop, Cond.code yX7_wayToStop cX7_wayToStop 4 (some .int), Cond.methodLink RX0 100 yX0_speedForRoom, Cond.instanceMethod yX0_speedForRoom, Cond.selects RX0 yX0_speedForRoom yX0_speedForRoom, Cond.code yX0_speedForRoom cX0_speedForRoom 6 (some .int), Cond.methodLink RX0 84 Lib.Math.abs.name, Cond.methodLink RX0 104 yX0_swingOut, Cond.instanceMethod yX0_swingOut]
def wsX7_swingWithPause_r6 : List Cond := [Cond.selects RX0 yX0_swingOut yX0_swingOut, Cond.code yX0_swingOut cX0_swingOut 3 none, Cond.methodLink RX2 89 yX0_hoistRope, Cond.instanceMethod yX0_hoistRope, Cond.selects RX0 yX0_hoistRope yX0_hoistRope, Cond.code yX0_hoistRope cX0_hoistRope 6 none]
def wsX7_swingWithPause : List Cond := .code yX7_swingWithPause cX7_swingWithPause 7 (some .int) :: ((wsX7_swingWithPause_r1 ++ (wsX7_swingWithPause_r2 ++ (wsX7_swingWithPause_r3 ++ (wsX7_swingWithPause_r4 ++ (wsX7_swingWithPause_r5 ++ wsX7_swingWithPause_r6))))) ++ wsX70 ++ wsX50 ++ wsX00 ++ wsX20 ++ wsX10)
def wsX7_best_r1 : List Cond := [Cond.methodLink RX7 85 yX7_isCrane, Cond.static yX7_isCrane, Cond.initialized RX7, Cond.code yX7_isCrane cX7_isCrane 1 (some .boolean), Cond.methodLink RX7 89 yX7_isSpeed, Cond.static yX7_isSpeed, Cond.code yX7_isSpeed cX7_isSpeed 1 (some .boolean), Cond.methodLink RX7 56 yX7_isWithin, Cond.static yX7_isWithin, Cond.code yX7_isWithin cX7_isWithin 3 (some .boolean), Cond.methodLink RX7 221 yX7_swingWithPause, Cond.instanceMethod yX7_swingWithPause, Cond.selects RX7 yX7_swingWithPause yX7_swingWithPause, Cond.code yX7_swingWithPause cX7_swingWithPause 7 (some .int), Cond.fieldLink RX7 19 "SwingCranes" "trial" "LSwingCranes$Pair;", Cond.fieldLink RX7 36 "SwingCranes" "now" "LSwingCranes$Story;", Cond.fieldLink RX7 95 "SwingCranes$Story" "pair" "LSwingCranes$Pair;", Cond.fieldLink RX7 26 "SwingCranes" "rules" "LSwingCranes$Layout;", Cond.fieldLink RX7 148 "SwingCranes$Crane" "swing" "I", Cond.methodLink RX7 209 Lib.Math.abs.name, Cond.static Lib.Math.abs.name, Cond.initialized "java/lang/Math", Cond.code Lib.Math.abs.name Lib.Math.abs.code 1 (some .int), Cond.methodLink RX7 214 Lib.Math.max.name]
def wsX7_best_r2 : List Cond := [Cond.static Lib.Math.max.name, Cond.code Lib.Math.max.name Lib.Math.max.code 2 (some .int), Cond.methodLink RX7 204 yX2_copyFrom, Cond.instanceMethod yX2_copyFrom, Cond.selects RX2 yX2_copyFrom yX2_copyFrom, Cond.initialized RX2, Cond.code yX2_copyFrom cX2_copyFrom 2 none, Cond.fieldLink RX2 12 "SwingCranes$Pair" "left" "LSwingCranes$Crane;", Cond.fieldLink RX2 18 "SwingCranes$Pair" "right" "LSwingCranes$Crane;", Cond.fieldLink RX2 21 "SwingCranes$Pair" "level" "I", Cond.methodLink RX2 36 yX0_copyFrom, Cond.instanceMethod yX0_copyFrom, Cond.selects RX0 yX0_copyFrom yX0_copyFrom, Cond.initialized RX0, Cond.code yX0_copyFrom cX0_copyFrom 2 none, Cond.fieldLink RX0 15 "SwingCranes$Crane" "place" "I", Cond.fieldLink RX0 18 "SwingCranes$Crane" "speed" "I", Cond.fieldLink RX0 24 "SwingCranes$Crane" "rope" "I", Cond.fieldLink RX0 28 "SwingCranes$Crane" "load" "I", Cond.fieldLink RX0 29 "SwingCranes$Crane" "swing" "I", Cond.fieldLink RX0 32 "SwingCranes$Crane" "rate" "I", Cond.fieldLink RX0 35 "SwingCranes$Crane" "want" "I", Cond.fieldLink RX0 38 "SwingCranes$Crane" "target" "I", Cond.fieldLink RX0 49 "SwingCranes$Crane" "soonIn" "I"]
def wsX7_best_r3 : List Cond := [Cond.fieldLink RX0 52 "SwingCranes$Crane" "soonBy" "I", Cond.fieldLink RX0 55 "SwingCranes$Crane" "laterIn" "I", Cond.fieldLink RX0 58 "SwingCranes$Crane" "laterBy" "I", Cond.fieldLink RX0 45 "SwingCranes$Crane" "braked" "Z", Cond.methodLink RX7 102 yX2_tellByHalves, Cond.instanceMethod yX2_tellByHalves, Cond.selects RX2 yX2_tellByHalves yX2_tellByHalves, Cond.code yX2_tellByHalves cX2_tellByHalves 4 (some .int), Cond.methodLink RX2 50 yX2_leftHeeds, Cond.instanceMethod yX2_leftHeeds, Cond.selects RX2 yX2_leftHeeds yX2_leftHeeds, Cond.code yX2_leftHeeds cX2_leftHeeds 2 (some .boolean), Cond.methodLink RX2 46 yX2_isCoupled, Cond.instanceMethod yX2_isCoupled, Cond.selects RX2 yX2_isCoupled yX2_isCoupled, Cond.code yX2_isCoupled cX2_isCoupled 1 (some .boolean), Cond.methodLink RX2 65 yX0_planByHalves, Cond.instanceMethod yX0_planByHalves, Cond.selects RX0 yX0_planByHalves yX0_planByHalves, Cond.code yX0_planByHalves cX0_planByHalves 5 none, Cond.static yX7_halfSwing, Cond.code yX7_halfSwing cX7_halfSwing 2 (some .int), Cond.methodLink RX0 41 yX0_setSteps, Cond.instanceMethod yX0_setSteps]
def wsX7_best_r4 : List Cond := [Cond.selects RX0 yX0_setSteps yX0_setSteps, Cond.code yX0_setSteps cX0_setSteps 4 none, Cond.methodLink RX2 58 yX2_rightHeeds, Cond.instanceMethod yX2_rightHeeds, Cond.selects RX2 yX2_rightHeeds yX2_rightHeeds, Cond.code yX2_rightHeeds cX2_rightHeeds 2 (some .boolean), Cond.methodLink RX2 61 yX2_heeding, Cond.instanceMethod yX2_heeding, Cond.selects RX2 yX2_heeding yX2_heeding, Cond.code yX2_heeding cX2_heeding 1 (some .int), Cond.methodLink RX7 113 yX2_side, Cond.instanceMethod yX2_side, Cond.selects RX2 yX2_side yX2_side, Cond.code yX2_side cX2_side 2 (some (.object "SwingCranes$Crane")), Cond.methodLink RX7 208 yX2_goOn, Cond.instanceMethod yX2_goOn, Cond.selects RX2 yX2_goOn yX2_goOn, Cond.code yX2_goOn cX2_goOn 3 (some .int), Cond.fieldLink RX2 40 "SwingCranes$Crane" "place" "I", Cond.fieldLink RX2 80 "SwingCranes$Layout" "end" "I", Cond.fieldLink RX2 83 "SwingCranes$Layout" "hoist" "I", Cond.fieldLink RX2 86 "SwingCranes$Crane" "rope" "I", Cond.fieldLink RX2 93 "SwingCranes$Crane" "braked" "Z", Cond.methodLink RX2 72 yX2_freeBetween]
def wsX7_best_r5 : List Cond := [Cond.instanceMethod yX2_freeBetween, Cond.selects RX2 yX2_freeBetween yX2_freeBetween, Cond.code yX2_freeBetween cX2_freeBetween 2 (some .int), Cond.fieldLink RX2 43 "SwingCranes$Layout" "gap" "I", Cond.methodLink RX2 76 yX0_roll, Cond.instanceMethod yX0_roll, Cond.selects RX0 yX0_roll yX0_roll, Cond.code yX0_roll cX0_roll 6 none, Cond.fieldLink RX0 94 "SwingCranes$Layout" "change" "I", Cond.methodLink RX0 87 yX0_takeSteps, Cond.instanceMethod yX0_takeSteps, Cond.selects RX0 yX0_takeSteps yX0_takeSteps, Cond.code yX0_takeSteps cX0_takeSteps 1 none, Cond.methodLink RX0 90 yX0_speedNearerToWant, Cond.instanceMethod yX0_speedNearerToWant, Cond.selects RX0 yX0_speedNearerToWant yX0_speedNearerToWant, Cond.code yX0_speedNearerToWant cX0_speedNearerToWant 3 (some .int), Cond.methodLink RX0 108 yX0_limit, Cond.instanceMethod yX0_limit, Cond.selects RX0 yX0_limit yX0_limit, Cond.code yX0_limit cX0_limit 2 (some .int), Cond.fieldLink RX0 69 "SwingCranes$Layout" "top" "I", Cond.methodLink RX0 74 Lib.Math.max.name, Cond.static yX7_keptWithin]
def wsX7_best_r6 : List Cond := [Cond.code yX7_keptWithin cX7_keptWithin 2 (some .int), Cond.methodLink RX7 239 Lib.Math.min.name, Cond.static Lib.Math.min.name, Cond.code Lib.Math.min.name Lib.Math.min.code 2 (some .int), Cond.static yX7_wayToStop, Cond.code yX7_wayToStop cX7_wayToStop 4 (some .int), Cond.methodLink RX0 100 yX0_speedForRoom, Cond.instanceMethod yX0_speedForRoom, Cond.selects RX0 yX0_speedForRoom yX0_speedForRoom, Cond.code yX0_speedForRoom cX0_speedForRoom 6 (some .int), Cond.methodLink RX0 84 Lib.Math.abs.name, Cond.methodLink RX0 104 yX0_swingOut, Cond.instanceMethod yX0_swingOut, Cond.selects RX0 yX0_swingOut yX0_swingOut, Cond.code yX0_swingOut cX0_swingOut 3 none, Cond.methodLink RX2 89 yX0_hoistRope, Cond.instanceMethod yX0_hoistRope, Cond.selects RX0 yX0_hoistRope yX0_hoistRope, Cond.code yX0_hoistRope cX0_hoistRope 6 none]
def wsX7_best : List Cond := .code yX7_best cX7_best 8 (some .int) :: ((wsX7_best_r1 ++ (wsX7_best_r2 ++ (wsX7_best_r3 ++ (wsX7_best_r4 ++ (wsX7_best_r5 ++ wsX7_best_r6))))) ++ wsX70 ++ wsX50 ++ wsX00 ++ wsX20 ++ wsX10)
def wsX7_count : List Cond := .code yX7_count cX7_count 2 (some .int) :: ([.fieldLink RX7 26 "SwingCranes" "rules" "LSwingCranes$Layout;", .fieldLink RX7 82 "SwingCranes$Layout" "end" "I", .fieldLink RX7 224 "SwingCranes$Layout" "gap" "I", .fieldLink RX7 164 "SwingCranes$Layout" "change" "I", .fieldLink RX7 227 "SwingCranes$Layout" "top" "I", .fieldLink RX7 230 "SwingCranes$Layout" "hoist" "I", .fieldLink RX7 36 "SwingCranes" "now" "LSwingCranes$Story;", .fieldLink RX7 95 "SwingCranes$Story" "pair" "LSwingCranes$Pair;", .fieldLink RX7 129 "SwingCranes$Pair" "level" "I", .fieldLink RX7 132 "SwingCranes$Story" "ticks" "I", .fieldLink RX7 79 "SwingCranes" "undoable" "I", .fieldLink RX7 10 "SwingCranes" "text" "LSwingCranes$Text;", .fieldLink RX7 68 "SwingCranes$Text" "length" "I", .methodLink RX7 233 yX2_freeBetween, .instanceMethod yX2_freeBetween, .selects RX2 yX2_freeBetween yX2_freeBetween, .initialized RX2, .code yX2_freeBetween cX2_freeBetween 2 (some .int), .fieldLink RX2 18 "SwingCranes$Pair" "right" "LSwingCranes$Crane;", .fieldLink RX2 40 "SwingCranes$Crane" "place" "I", .fieldLink RX2 12 "SwingCranes$Pair" "left" "LSwingCranes$Crane;", .fieldLink RX2 43 "SwingCranes$Layout" "gap" "I"] ++ wsX70 ++ wsX10 ++ wsX50 ++ wsX20 ++ wsX60 ++ wsX00)
def wsX8_puts : List Cond := .code yX8_puts cX8_puts 6 none :: ([.fieldLink RX8 13 "SwingCranesModel" "read" "[I"] ++ wsX80)
def wsX8_begins : List Cond := .code yX8_begins cX8_begins 2 none :: ([.fieldLink RX8 13 "SwingCranesModel" "read" "[I", .methodLink RX8 34 yX8_puts, .instanceMethod yX8_puts, .selects RX8 yX8_puts yX8_puts, .initialized RX8, .code yX8_puts cX8_puts 6 none] ++ wsX80)
def wsX8_takes : List Cond := .code yX8_takes cX8_takes 2 none :: ([.fieldLink RX8 7 "SwingCranesModel" "now" "[I", .fieldLink RX8 13 "SwingCranesModel" "read" "[I", .fieldLink RX8 38 "SwingCranesModel" "changes" "I"] ++ wsX80)
def wsX8_init : List Cond := .code yX8_init cX8_init 1 none :: ([.methodLink RX8 1 objectInit, .instanceMethod objectInit, .code objectInit ⟨#[0xb1]⟩ 1 none, .arrayClass .int, .fieldLink RX8 7 "SwingCranesModel" "now" "[I", .fieldLink RX8 13 "SwingCranesModel" "read" "[I", .fieldLink RX8 16 "SwingCranesModel" "aside" "[I", .fieldLink RX8 19 "SwingCranesModel" "past" "[I", .fieldLink RX8 22 "SwingCranesModel" "text" "[I", .fieldLink RX8 25 "SwingCranesModel" "told" "[I", .methodLink RX8 28 yX8_begins, .instanceMethod yX8_begins, .selects RX8 yX8_begins yX8_begins, .initialized RX8, .code yX8_begins cX8_begins 2 none, .methodLink RX8 34 yX8_puts, .instanceMethod yX8_puts, .selects RX8 yX8_puts yX8_puts, .code yX8_puts cX8_puts 6 none, .methodLink RX8 31 yX8_takes, .instanceMethod yX8_takes, .selects RX8 yX8_takes yX8_takes, .code yX8_takes cX8_takes 2 none, .fieldLink RX8 38 "SwingCranesModel" "changes" "I"] ++ wsX80)
def wsX8_in : List Cond := .code yX8_in cX8_in 3 (some .boolean) :: ([])
def wsX8_size : List Cond := .code yX8_size cX8_size 1 (some .int) :: ([])
def wsX8_isAt : List Cond := .code yX8_isAt cX8_isAt 3 (some .boolean) :: ([.fieldLink RX8 42 "SwingCranesModel" "spot0" "I", .fieldLink RX8 45 "SwingCranesModel" "letters" "I", .fieldLink RX8 22 "SwingCranesModel" "text" "[I", .methodLink RX8 48 yX8_in, .static yX8_in, .initialized RX8, .code yX8_in cX8_in 3 (some .boolean)] ++ wsX80)
def wsX8_takesNumber : List Cond := .code yX8_takesNumber cX8_takesNumber 3 (some .boolean) :: ([.fieldLink RX8 42 "SwingCranesModel" "spot0" "I", .fieldLink RX8 25 "SwingCranesModel" "told" "[I", .fieldLink RX8 22 "SwingCranesModel" "text" "[I", .methodLink RX8 52 yX8_isAt, .instanceMethod yX8_isAt, .selects RX8 yX8_isAt yX8_isAt, .initialized RX8, .code yX8_isAt cX8_isAt 3 (some .boolean), .fieldLink RX8 45 "SwingCranesModel" "letters" "I", .methodLink RX8 48 yX8_in, .static yX8_in, .code yX8_in cX8_in 3 (some .boolean)] ++ wsX80)
def wsX8_takesNumbers : List Cond := .code yX8_takesNumbers cX8_takesNumbers 4 (some .boolean) :: ([.fieldLink RX8 42 "SwingCranesModel" "spot0" "I", .methodLink RX8 56 yX8_takesNumber, .instanceMethod yX8_takesNumber, .selects RX8 yX8_takesNumber yX8_takesNumber, .initialized RX8, .code yX8_takesNumber cX8_takesNumber 3 (some .boolean), .fieldLink RX8 25 "SwingCranesModel" "told" "[I", .fieldLink RX8 22 "SwingCranesModel" "text" "[I", .methodLink RX8 52 yX8_isAt, .instanceMethod yX8_isAt, .selects RX8 yX8_isAt yX8_isAt, .code yX8_isAt cX8_isAt 3 (some .boolean), .fieldLink RX8 45 "SwingCranesModel" "letters" "I", .methodLink RX8 48 yX8_in, .static yX8_in, .code yX8_in cX8_in 3 (some .boolean)] ++ wsX80)
def wsX8_takesOne : List Cond := .code yX8_takesOne cX8_takesOne 5 (some .boolean) :: ([.fieldLink RX8 25 "SwingCranesModel" "told" "[I", .fieldLink RX8 13 "SwingCranesModel" "read" "[I", .methodLink RX8 60 yX8_takesNumbers, .instanceMethod yX8_takesNumbers, .selects RX8 yX8_takesNumbers yX8_takesNumbers, .initialized RX8, .code yX8_takesNumbers cX8_takesNumbers 4 (some .boolean), .fieldLink RX8 42 "SwingCranesModel" "spot0" "I", .methodLink RX8 56 yX8_takesNumber, .instanceMethod yX8_takesNumber, .selects RX8 yX8_takesNumber yX8_takesNumber, .code yX8_takesNumber cX8_takesNumber 3 (some .boolean), .fieldLink RX8 22 "SwingCranesModel" "text" "[I", .methodLink RX8 52 yX8_isAt, .instanceMethod yX8_isAt, .selects RX8 yX8_isAt yX8_isAt, .code yX8_isAt cX8_isAt 3 (some .boolean), .fieldLink RX8 45 "SwingCranesModel" "letters" "I", .methodLink RX8 48 yX8_in, .static yX8_in, .code yX8_in cX8_in 3 (some .boolean)] ++ wsX80)
def wsX8_takesCrane_r1 : List Cond := [Cond.fieldLink RX8 25 "SwingCranesModel" "told" "[I", Cond.methodLink RX8 60 yX8_takesNumbers, Cond.instanceMethod yX8_takesNumbers, Cond.selects RX8 yX8_takesNumbers yX8_takesNumbers, Cond.initialized RX8, Cond.code yX8_takesNumbers cX8_takesNumbers 4 (some .boolean), Cond.fieldLink RX8 42 "SwingCranesModel" "spot0" "I", Cond.methodLink RX8 56 yX8_takesNumber, Cond.instanceMethod yX8_takesNumber, Cond.selects RX8 yX8_takesNumber yX8_takesNumber, Cond.code yX8_takesNumber cX8_takesNumber 3 (some .boolean), Cond.fieldLink RX8 22 "SwingCranesModel" "text" "[I", Cond.methodLink RX8 52 yX8_isAt, Cond.instanceMethod yX8_isAt, Cond.selects RX8 yX8_isAt yX8_isAt, Cond.code yX8_isAt cX8_isAt 3 (some .boolean), Cond.fieldLink RX8 45 "SwingCranesModel" "letters" "I", Cond.methodLink RX8 48 yX8_in, Cond.static yX8_in, Cond.code yX8_in cX8_in 3 (some .boolean), Cond.methodLink RX8 34 yX8_puts, Cond.instanceMethod yX8_puts, Cond.selects RX8 yX8_puts yX8_puts, Cond.code yX8_puts cX8_puts 6 none]
def wsX8_takesCrane_r2 : List Cond := [Cond.fieldLink RX8 13 "SwingCranesModel" "read" "[I"]
def wsX8_takesCrane : List Cond := .code yX8_takesCrane cX8_takesCrane 2 (some .boolean) :: ((wsX8_takesCrane_r1 ++ wsX8_takesCrane_r2) ++ wsX80)
def wsX8_takesMost : List Cond := .code yX8_takesMost cX8_takesMost 3 (some .boolean) :: ([.fieldLink RX8 25 "SwingCranesModel" "told" "[I", .fieldLink RX8 13 "SwingCranesModel" "read" "[I", .methodLink RX8 60 yX8_takesNumbers, .instanceMethod yX8_takesNumbers, .selects RX8 yX8_takesNumbers yX8_takesNumbers, .initialized RX8, .code yX8_takesNumbers cX8_takesNumbers 4 (some .boolean), .fieldLink RX8 42 "SwingCranesModel" "spot0" "I", .methodLink RX8 56 yX8_takesNumber, .instanceMethod yX8_takesNumber, .selects RX8 yX8_takesNumber yX8_takesNumber, .code yX8_takesNumber cX8_takesNumber 3 (some .boolean), .fieldLink RX8 22 "SwingCranesModel" "text" "[I", .methodLink RX8 52 yX8_isAt, .instanceMethod yX8_isAt, .selects RX8 yX8_isAt yX8_isAt, .code yX8_isAt cX8_isAt 3 (some .boolean), .fieldLink RX8 45 "SwingCranesModel" "letters" "I", .methodLink RX8 48 yX8_in, .static yX8_in, .code yX8_in cX8_in 3 (some .boolean)] ++ wsX80)
def wsX8_takesItem_r1 : List Cond := [Cond.fieldLink RX8 22 "SwingCranesModel" "text" "[I", Cond.fieldLink RX8 42 "SwingCranesModel" "spot0" "I", Cond.methodLink RX8 63 yX8_takesOne, Cond.instanceMethod yX8_takesOne, Cond.selects RX8 yX8_takesOne yX8_takesOne, Cond.initialized RX8, Cond.code yX8_takesOne cX8_takesOne 5 (some .boolean), Cond.fieldLink RX8 25 "SwingCranesModel" "told" "[I", Cond.fieldLink RX8 13 "SwingCranesModel" "read" "[I", Cond.methodLink RX8 60 yX8_takesNumbers, Cond.instanceMethod yX8_takesNumbers, Cond.selects RX8 yX8_takesNumbers yX8_takesNumbers, Cond.code yX8_takesNumbers cX8_takesNumbers 4 (some .boolean), Cond.methodLink RX8 56 yX8_takesNumber, Cond.instanceMethod yX8_takesNumber, Cond.selects RX8 yX8_takesNumber yX8_takesNumber, Cond.code yX8_takesNumber cX8_takesNumber 3 (some .boolean), Cond.methodLink RX8 52 yX8_isAt, Cond.instanceMethod yX8_isAt, Cond.selects RX8 yX8_isAt yX8_isAt, Cond.code yX8_isAt cX8_isAt 3 (some .boolean), Cond.fieldLink RX8 45 "SwingCranesModel" "letters" "I", Cond.methodLink RX8 48 yX8_in, Cond.static yX8_in]
def wsX8_takesItem_r2 : List Cond := [Cond.code yX8_in cX8_in 3 (some .boolean), Cond.methodLink RX8 66 yX8_takesCrane, Cond.instanceMethod yX8_takesCrane, Cond.selects RX8 yX8_takesCrane yX8_takesCrane, Cond.code yX8_takesCrane cX8_takesCrane 2 (some .boolean), Cond.methodLink RX8 34 yX8_puts, Cond.instanceMethod yX8_puts, Cond.selects RX8 yX8_puts yX8_puts, Cond.code yX8_puts cX8_puts 6 none, Cond.methodLink RX8 70 yX8_takesMost, Cond.instanceMethod yX8_takesMost, Cond.selects RX8 yX8_takesMost yX8_takesMost, Cond.code yX8_takesMost cX8_takesMost 3 (some .boolean)]
def wsX8_takesItem : List Cond := .code yX8_takesItem cX8_takesItem 2 (some .boolean) :: ((wsX8_takesItem_r1 ++ wsX8_takesItem_r2) ++ wsX80)
def wsX8_reads_r1 : List Cond := [Cond.fieldLink RX8 42 "SwingCranesModel" "spot0" "I", Cond.fieldLink RX8 45 "SwingCranesModel" "letters" "I", Cond.methodLink RX8 28 yX8_begins, Cond.instanceMethod yX8_begins, Cond.selects RX8 yX8_begins yX8_begins, Cond.initialized RX8, Cond.code yX8_begins cX8_begins 2 none, Cond.fieldLink RX8 13 "SwingCranesModel" "read" "[I", Cond.methodLink RX8 34 yX8_puts, Cond.instanceMethod yX8_puts, Cond.selects RX8 yX8_puts yX8_puts, Cond.code yX8_puts cX8_puts 6 none, Cond.methodLink RX8 73 yX8_takesItem, Cond.instanceMethod yX8_takesItem, Cond.selects RX8 yX8_takesItem yX8_takesItem, Cond.code yX8_takesItem cX8_takesItem 2 (some .boolean), Cond.fieldLink RX8 22 "SwingCranesModel" "text" "[I", Cond.methodLink RX8 63 yX8_takesOne, Cond.instanceMethod yX8_takesOne, Cond.selects RX8 yX8_takesOne yX8_takesOne, Cond.code yX8_takesOne cX8_takesOne 5 (some .boolean), Cond.fieldLink RX8 25 "SwingCranesModel" "told" "[I", Cond.methodLink RX8 60 yX8_takesNumbers, Cond.instanceMethod yX8_takesNumbers]
def wsX8_reads_r2 : List Cond := [Cond.selects RX8 yX8_takesNumbers yX8_takesNumbers, Cond.code yX8_takesNumbers cX8_takesNumbers 4 (some .boolean), Cond.methodLink RX8 56 yX8_takesNumber, Cond.instanceMethod yX8_takesNumber, Cond.selects RX8 yX8_takesNumber yX8_takesNumber, Cond.code yX8_takesNumber cX8_takesNumber 3 (some .boolean), Cond.methodLink RX8 52 yX8_isAt, Cond.instanceMethod yX8_isAt, Cond.selects RX8 yX8_isAt yX8_isAt, Cond.code yX8_isAt cX8_isAt 3 (some .boolean), Cond.methodLink RX8 48 yX8_in, Cond.static yX8_in, Cond.code yX8_in cX8_in 3 (some .boolean), Cond.methodLink RX8 66 yX8_takesCrane, Cond.instanceMethod yX8_takesCrane, Cond.selects RX8 yX8_takesCrane yX8_takesCrane, Cond.code yX8_takesCrane cX8_takesCrane 2 (some .boolean), Cond.methodLink RX8 70 yX8_takesMost, Cond.instanceMethod yX8_takesMost, Cond.selects RX8 yX8_takesMost yX8_takesMost, Cond.code yX8_takesMost cX8_takesMost 3 (some .boolean)]
def wsX8_reads : List Cond := .code yX8_reads cX8_reads 2 (some .int) :: ((wsX8_reads_r1 ++ wsX8_reads_r2) ++ wsX80)
def wsX8_write : List Cond := .code yX8_write cX8_write 2 (some .int) :: ([.fieldLink RX8 45 "SwingCranesModel" "letters" "I", .fieldLink RX8 22 "SwingCranesModel" "text" "[I", .methodLink RX8 48 yX8_in, .static yX8_in, .initialized RX8, .code yX8_in cX8_in 3 (some .boolean)] ++ wsX80)
def wsX8_wipe : List Cond := .code yX8_wipe cX8_wipe 2 (some .int) :: ([.fieldLink RX8 45 "SwingCranesModel" "letters" "I"] ++ wsX80)
def wsX8_fault_r1 : List Cond := [Cond.methodLink RX8 76 yX8_reads, Cond.instanceMethod yX8_reads, Cond.selects RX8 yX8_reads yX8_reads, Cond.initialized RX8, Cond.code yX8_reads cX8_reads 2 (some .int), Cond.fieldLink RX8 42 "SwingCranesModel" "spot0" "I", Cond.fieldLink RX8 45 "SwingCranesModel" "letters" "I", Cond.methodLink RX8 28 yX8_begins, Cond.instanceMethod yX8_begins, Cond.selects RX8 yX8_begins yX8_begins, Cond.code yX8_begins cX8_begins 2 none, Cond.fieldLink RX8 13 "SwingCranesModel" "read" "[I", Cond.methodLink RX8 34 yX8_puts, Cond.instanceMethod yX8_puts, Cond.selects RX8 yX8_puts yX8_puts, Cond.code yX8_puts cX8_puts 6 none, Cond.methodLink RX8 73 yX8_takesItem, Cond.instanceMethod yX8_takesItem, Cond.selects RX8 yX8_takesItem yX8_takesItem, Cond.code yX8_takesItem cX8_takesItem 2 (some .boolean), Cond.fieldLink RX8 22 "SwingCranesModel" "text" "[I", Cond.methodLink RX8 63 yX8_takesOne, Cond.instanceMethod yX8_takesOne, Cond.selects RX8 yX8_takesOne yX8_takesOne]
def wsX8_fault_r2 : List Cond := [Cond.code yX8_takesOne cX8_takesOne 5 (some .boolean), Cond.fieldLink RX8 25 "SwingCranesModel" "told" "[I", Cond.methodLink RX8 60 yX8_takesNumbers, Cond.instanceMethod yX8_takesNumbers, Cond.selects RX8 yX8_takesNumbers yX8_takesNumbers, Cond.code yX8_takesNumbers cX8_takesNumbers 4 (some .boolean), Cond.methodLink RX8 56 yX8_takesNumber, Cond.instanceMethod yX8_takesNumber, Cond.selects RX8 yX8_takesNumber yX8_takesNumber, Cond.code yX8_takesNumber cX8_takesNumber 3 (some .boolean), Cond.methodLink RX8 52 yX8_isAt, Cond.instanceMethod yX8_isAt, Cond.selects RX8 yX8_isAt yX8_isAt, Cond.code yX8_isAt cX8_isAt 3 (some .boolean), Cond.methodLink RX8 48 yX8_in, Cond.static yX8_in, Cond.code yX8_in cX8_in 3 (some .boolean), Cond.methodLink RX8 66 yX8_takesCrane, Cond.instanceMethod yX8_takesCrane, Cond.selects RX8 yX8_takesCrane yX8_takesCrane, Cond.code yX8_takesCrane cX8_takesCrane 2 (some .boolean), Cond.methodLink RX8 70 yX8_takesMost, Cond.instanceMethod yX8_takesMost, Cond.selects RX8 yX8_takesMost yX8_takesMost]
def wsX8_fault_r3 : List Cond := [Cond.code yX8_takesMost cX8_takesMost 3 (some .boolean)]
def wsX8_fault : List Cond := .code yX8_fault cX8_fault 1 (some .int) :: ((wsX8_fault_r1 ++ (wsX8_fault_r2 ++ wsX8_fault_r3)) ++ wsX80)
def wsX8_lay_r1 : List Cond := [Cond.fieldLink RX8 13 "SwingCranesModel" "read" "[I", Cond.fieldLink RX8 7 "SwingCranesModel" "now" "[I", Cond.methodLink RX8 76 yX8_reads, Cond.instanceMethod yX8_reads, Cond.selects RX8 yX8_reads yX8_reads, Cond.initialized RX8, Cond.code yX8_reads cX8_reads 2 (some .int), Cond.fieldLink RX8 42 "SwingCranesModel" "spot0" "I", Cond.fieldLink RX8 45 "SwingCranesModel" "letters" "I", Cond.methodLink RX8 28 yX8_begins, Cond.instanceMethod yX8_begins, Cond.selects RX8 yX8_begins yX8_begins, Cond.code yX8_begins cX8_begins 2 none, Cond.methodLink RX8 34 yX8_puts, Cond.instanceMethod yX8_puts, Cond.selects RX8 yX8_puts yX8_puts, Cond.code yX8_puts cX8_puts 6 none, Cond.methodLink RX8 73 yX8_takesItem, Cond.instanceMethod yX8_takesItem, Cond.selects RX8 yX8_takesItem yX8_takesItem, Cond.code yX8_takesItem cX8_takesItem 2 (some .boolean), Cond.fieldLink RX8 22 "SwingCranesModel" "text" "[I", Cond.methodLink RX8 63 yX8_takesOne, Cond.instanceMethod yX8_takesOne]
def wsX8_lay_r2 : List Cond := [Cond.selects RX8 yX8_takesOne yX8_takesOne, Cond.code yX8_takesOne cX8_takesOne 5 (some .boolean), Cond.fieldLink RX8 25 "SwingCranesModel" "told" "[I", Cond.methodLink RX8 60 yX8_takesNumbers, Cond.instanceMethod yX8_takesNumbers, Cond.selects RX8 yX8_takesNumbers yX8_takesNumbers, Cond.code yX8_takesNumbers cX8_takesNumbers 4 (some .boolean), Cond.methodLink RX8 56 yX8_takesNumber, Cond.instanceMethod yX8_takesNumber, Cond.selects RX8 yX8_takesNumber yX8_takesNumber, Cond.code yX8_takesNumber cX8_takesNumber 3 (some .boolean), Cond.methodLink RX8 52 yX8_isAt, Cond.instanceMethod yX8_isAt, Cond.selects RX8 yX8_isAt yX8_isAt, Cond.code yX8_isAt cX8_isAt 3 (some .boolean), Cond.methodLink RX8 48 yX8_in, Cond.static yX8_in, Cond.code yX8_in cX8_in 3 (some .boolean), Cond.methodLink RX8 66 yX8_takesCrane, Cond.instanceMethod yX8_takesCrane, Cond.selects RX8 yX8_takesCrane yX8_takesCrane, Cond.code yX8_takesCrane cX8_takesCrane 2 (some .boolean), Cond.methodLink RX8 70 yX8_takesMost, Cond.instanceMethod yX8_takesMost]
def wsX8_lay_r3 : List Cond := [Cond.selects RX8 yX8_takesMost yX8_takesMost, Cond.code yX8_takesMost cX8_takesMost 3 (some .boolean), Cond.methodLink RX8 31 yX8_takes, Cond.instanceMethod yX8_takes, Cond.selects RX8 yX8_takes yX8_takes, Cond.code yX8_takes cX8_takes 2 none, Cond.fieldLink RX8 38 "SwingCranesModel" "changes" "I"]
def wsX8_lay : List Cond := .code yX8_lay cX8_lay 4 (some .int) :: ((wsX8_lay_r1 ++ (wsX8_lay_r2 ++ wsX8_lay_r3)) ++ wsX80)
def wsX8_keeps : List Cond := .code yX8_keeps cX8_keeps 2 none :: ([.fieldLink RX8 38 "SwingCranesModel" "changes" "I", .fieldLink RX8 19 "SwingCranesModel" "past" "[I", .fieldLink RX8 7 "SwingCranesModel" "now" "[I"] ++ wsX80)
def wsX8_undo : List Cond := .code yX8_undo cX8_undo 2 (some .int) :: ([.fieldLink RX8 38 "SwingCranesModel" "changes" "I", .fieldLink RX8 7 "SwingCranesModel" "now" "[I", .fieldLink RX8 19 "SwingCranesModel" "past" "[I"] ++ wsX80)
def wsX8_laysAside : List Cond := .code yX8_laysAside cX8_laysAside 2 none :: ([.fieldLink RX8 16 "SwingCranesModel" "aside" "[I", .fieldLink RX8 7 "SwingCranesModel" "now" "[I"] ++ wsX80)
def wsX8_comesBack : List Cond := .code yX8_comesBack cX8_comesBack 2 none :: ([.fieldLink RX8 7 "SwingCranesModel" "now" "[I", .fieldLink RX8 16 "SwingCranesModel" "aside" "[I"] ++ wsX80)
def wsX8_isCrane : List Cond := .code yX8_isCrane cX8_isCrane 1 (some .boolean) :: ([])
def wsX8_of : List Cond := .code yX8_of cX8_of 3 (some .int) :: ([.fieldLink RX8 7 "SwingCranesModel" "now" "[I"] ++ wsX80)
def wsX8_tells : List Cond := .code yX8_tells cX8_tells 4 none :: ([.fieldLink RX8 7 "SwingCranesModel" "now" "[I"] ++ wsX80)
def wsX8_limitOf : List Cond := .code yX8_limitOf cX8_limitOf 3 (some .int) :: ([.fieldLink RX8 7 "SwingCranesModel" "now" "[I", .methodLink RX8 80 yX8_of, .instanceMethod yX8_of, .selects RX8 yX8_of yX8_of, .initialized RX8, .code yX8_of cX8_of 3 (some .int)] ++ wsX80)
def wsX8_stopBy : List Cond := .code yX8_stopBy cX8_stopBy 4 (some .int) :: ([.fieldLink RX8 7 "SwingCranesModel" "now" "[I", .methodLink RX8 84 yX8_size, .static yX8_size, .initialized RX8, .code yX8_size cX8_size 1 (some .int)] ++ wsX80)
def wsX8_halfOf : List Cond := .code yX8_halfOf cX8_halfOf 2 (some .int) :: ([])
def wsX8_free : List Cond := .code yX8_free cX8_free 1 (some .int) :: ([.fieldLink RX8 7 "SwingCranesModel" "now" "[I", .methodLink RX8 80 yX8_of, .instanceMethod yX8_of, .selects RX8 yX8_of yX8_of, .initialized RX8, .code yX8_of cX8_of 3 (some .int)] ++ wsX80)
def wsX8_stepsCome : List Cond := .code yX8_stepsCome cX8_stepsCome 7 none :: ([.fieldLink RX8 7 "SwingCranesModel" "now" "[I", .methodLink RX8 80 yX8_of, .instanceMethod yX8_of, .selects RX8 yX8_of yX8_of, .initialized RX8, .code yX8_of cX8_of 3 (some .int), .methodLink RX8 88 yX8_tells, .instanceMethod yX8_tells, .selects RX8 yX8_tells yX8_tells, .code yX8_tells cX8_tells 4 none] ++ wsX80)
def wsX8_wanted : List Cond := .code yX8_wanted cX8_wanted 6 (some .int) :: ([.fieldLink RX8 7 "SwingCranesModel" "now" "[I", .methodLink RX8 92 yX8_limitOf, .instanceMethod yX8_limitOf, .selects RX8 yX8_limitOf yX8_limitOf, .initialized RX8, .code yX8_limitOf cX8_limitOf 3 (some .int), .methodLink RX8 80 yX8_of, .instanceMethod yX8_of, .selects RX8 yX8_of yX8_of, .code yX8_of cX8_of 3 (some .int)] ++ wsX80)
def wsX8_roomFor : List Cond := .code yX8_roomFor cX8_roomFor 3 (some .int) :: ([.fieldLink RX8 7 "SwingCranesModel" "now" "[I", .methodLink RX8 95 yX8_free, .instanceMethod yX8_free, .selects RX8 yX8_free yX8_free, .initialized RX8, .code yX8_free cX8_free 1 (some .int), .methodLink RX8 80 yX8_of, .instanceMethod yX8_of, .selects RX8 yX8_of yX8_of, .code yX8_of cX8_of 3 (some .int)] ++ wsX80)
def wsX8_braked : List Cond := .code yX8_braked cX8_braked 5 (some .int) :: ([.methodLink RX8 98 yX8_roomFor, .instanceMethod yX8_roomFor, .selects RX8 yX8_roomFor yX8_roomFor, .initialized RX8, .code yX8_roomFor cX8_roomFor 3 (some .int), .fieldLink RX8 7 "SwingCranesModel" "now" "[I", .methodLink RX8 95 yX8_free, .instanceMethod yX8_free, .selects RX8 yX8_free yX8_free, .code yX8_free cX8_free 1 (some .int), .methodLink RX8 80 yX8_of, .instanceMethod yX8_of, .selects RX8 yX8_of yX8_of, .code yX8_of cX8_of 3 (some .int), .methodLink RX8 101 yX8_stopBy, .instanceMethod yX8_stopBy, .selects RX8 yX8_stopBy yX8_stopBy, .code yX8_stopBy cX8_stopBy 4 (some .int), .methodLink RX8 84 yX8_size, .static yX8_size, .code yX8_size cX8_size 1 (some .int)] ++ wsX80)
def wsX8_kept : List Cond := .code yX8_kept cX8_kept 1 (some .int) :: ([])
def wsX8_goes : List Cond := .code yX8_goes cX8_goes 4 none :: ([.methodLink RX8 80 yX8_of, .instanceMethod yX8_of, .selects RX8 yX8_of yX8_of, .initialized RX8, .code yX8_of cX8_of 3 (some .int), .fieldLink RX8 7 "SwingCranesModel" "now" "[I", .methodLink RX8 88 yX8_tells, .instanceMethod yX8_tells, .selects RX8 yX8_tells yX8_tells, .code yX8_tells cX8_tells 4 none, .methodLink RX8 104 yX8_kept, .static yX8_kept, .code yX8_kept cX8_kept 1 (some .int)] ++ wsX80)
def wsX8_hoists : List Cond := .code yX8_hoists cX8_hoists 7 none :: ([.fieldLink RX8 7 "SwingCranesModel" "now" "[I", .methodLink RX8 80 yX8_of, .instanceMethod yX8_of, .selects RX8 yX8_of yX8_of, .initialized RX8, .code yX8_of cX8_of 3 (some .int), .methodLink RX8 84 yX8_size, .static yX8_size, .code yX8_size cX8_size 1 (some .int), .methodLink RX8 88 yX8_tells, .instanceMethod yX8_tells, .selects RX8 yX8_tells yX8_tells, .code yX8_tells cX8_tells 4 none] ++ wsX80)
def wsX8_goesBy_r1 : List Cond := [Cond.fieldLink RX8 7 "SwingCranesModel" "now" "[I", Cond.methodLink RX8 107 yX8_stepsCome, Cond.instanceMethod yX8_stepsCome, Cond.selects RX8 yX8_stepsCome yX8_stepsCome, Cond.initialized RX8, Cond.code yX8_stepsCome cX8_stepsCome 7 none, Cond.methodLink RX8 80 yX8_of, Cond.instanceMethod yX8_of, Cond.selects RX8 yX8_of yX8_of, Cond.code yX8_of cX8_of 3 (some .int), Cond.methodLink RX8 88 yX8_tells, Cond.instanceMethod yX8_tells, Cond.selects RX8 yX8_tells yX8_tells, Cond.code yX8_tells cX8_tells 4 none, Cond.methodLink RX8 111 yX8_wanted, Cond.instanceMethod yX8_wanted, Cond.selects RX8 yX8_wanted yX8_wanted, Cond.code yX8_wanted cX8_wanted 6 (some .int), Cond.methodLink RX8 92 yX8_limitOf, Cond.instanceMethod yX8_limitOf, Cond.selects RX8 yX8_limitOf yX8_limitOf, Cond.code yX8_limitOf cX8_limitOf 3 (some .int), Cond.methodLink RX8 114 yX8_braked, Cond.instanceMethod yX8_braked]
def wsX8_goesBy_r2 : List Cond := [Cond.selects RX8 yX8_braked yX8_braked, Cond.code yX8_braked cX8_braked 5 (some .int), Cond.methodLink RX8 98 yX8_roomFor, Cond.instanceMethod yX8_roomFor, Cond.selects RX8 yX8_roomFor yX8_roomFor, Cond.code yX8_roomFor cX8_roomFor 3 (some .int), Cond.methodLink RX8 95 yX8_free, Cond.instanceMethod yX8_free, Cond.selects RX8 yX8_free yX8_free, Cond.code yX8_free cX8_free 1 (some .int), Cond.methodLink RX8 101 yX8_stopBy, Cond.instanceMethod yX8_stopBy, Cond.selects RX8 yX8_stopBy yX8_stopBy, Cond.code yX8_stopBy cX8_stopBy 4 (some .int), Cond.methodLink RX8 84 yX8_size, Cond.static yX8_size, Cond.code yX8_size cX8_size 1 (some .int), Cond.methodLink RX8 117 yX8_goes, Cond.instanceMethod yX8_goes, Cond.selects RX8 yX8_goes yX8_goes, Cond.code yX8_goes cX8_goes 4 none, Cond.methodLink RX8 104 yX8_kept, Cond.static yX8_kept, Cond.code yX8_kept cX8_kept 1 (some .int)]
def wsX8_goesBy_r3 : List Cond := [Cond.methodLink RX8 121 yX8_hoists, Cond.instanceMethod yX8_hoists, Cond.selects RX8 yX8_hoists yX8_hoists, Cond.code yX8_hoists cX8_hoists 7 none]
def wsX8_goesBy : List Cond := .code yX8_goesBy cX8_goesBy 5 (some .int) :: ((wsX8_goesBy_r1 ++ (wsX8_goesBy_r2 ++ wsX8_goesBy_r3)) ++ wsX80)
def wsX8_spotPlace : List Cond := .code yX8_spotPlace cX8_spotPlace 1 (some .int) :: ([])
def wsX8_spotCode : List Cond := .code yX8_spotCode cX8_spotCode 2 (some .int) :: ([.methodLink RX8 80 yX8_of, .instanceMethod yX8_of, .selects RX8 yX8_of yX8_of, .initialized RX8, .code yX8_of cX8_of 3 (some .int), .fieldLink RX8 7 "SwingCranesModel" "now" "[I"] ++ wsX80)
def wsX8_spotIndex : List Cond := .code yX8_spotIndex cX8_spotIndex 5 (some .int) :: ([.fieldLink RX8 7 "SwingCranesModel" "now" "[I", .methodLink RX8 124 yX8_spotPlace, .static yX8_spotPlace, .initialized RX8, .code yX8_spotPlace cX8_spotPlace 1 (some .int)] ++ wsX80)
def wsX8_counts : List Cond := .code yX8_counts cX8_counts 5 none :: ([.fieldLink RX8 7 "SwingCranesModel" "now" "[I", .methodLink RX8 124 yX8_spotPlace, .static yX8_spotPlace, .initialized RX8, .code yX8_spotPlace cX8_spotPlace 1 (some .int), .methodLink RX8 127 yX8_spotCode, .instanceMethod yX8_spotCode, .selects RX8 yX8_spotCode yX8_spotCode, .code yX8_spotCode cX8_spotCode 2 (some .int), .methodLink RX8 80 yX8_of, .instanceMethod yX8_of, .selects RX8 yX8_of yX8_of, .code yX8_of cX8_of 3 (some .int), .methodLink RX8 130 yX8_spotIndex, .instanceMethod yX8_spotIndex, .selects RX8 yX8_spotIndex yX8_spotIndex, .code yX8_spotIndex cX8_spotIndex 5 (some .int)] ++ wsX80)
def wsX8_tick_r1 : List Cond := [Cond.fieldLink RX8 7 "SwingCranesModel" "now" "[I", Cond.methodLink RX8 48 yX8_in, Cond.static yX8_in, Cond.initialized RX8, Cond.code yX8_in cX8_in 3 (some .boolean), Cond.methodLink RX8 133 yX8_keeps, Cond.instanceMethod yX8_keeps, Cond.selects RX8 yX8_keeps yX8_keeps, Cond.code yX8_keeps cX8_keeps 2 none, Cond.fieldLink RX8 38 "SwingCranesModel" "changes" "I", Cond.fieldLink RX8 19 "SwingCranesModel" "past" "[I", Cond.methodLink RX8 136 yX8_goesBy, Cond.instanceMethod yX8_goesBy, Cond.selects RX8 yX8_goesBy yX8_goesBy, Cond.code yX8_goesBy cX8_goesBy 5 (some .int), Cond.methodLink RX8 107 yX8_stepsCome, Cond.instanceMethod yX8_stepsCome, Cond.selects RX8 yX8_stepsCome yX8_stepsCome, Cond.code yX8_stepsCome cX8_stepsCome 7 none, Cond.methodLink RX8 80 yX8_of, Cond.instanceMethod yX8_of, Cond.selects RX8 yX8_of yX8_of, Cond.code yX8_of cX8_of 3 (some .int), Cond.methodLink RX8 88 yX8_tells]
def wsX8_tick_r2 : List Cond := [Cond.instanceMethod yX8_tells, Cond.selects RX8 yX8_tells yX8_tells, Cond.code yX8_tells cX8_tells 4 none, Cond.methodLink RX8 111 yX8_wanted, Cond.instanceMethod yX8_wanted, Cond.selects RX8 yX8_wanted yX8_wanted, Cond.code yX8_wanted cX8_wanted 6 (some .int), Cond.methodLink RX8 92 yX8_limitOf, Cond.instanceMethod yX8_limitOf, Cond.selects RX8 yX8_limitOf yX8_limitOf, Cond.code yX8_limitOf cX8_limitOf 3 (some .int), Cond.methodLink RX8 114 yX8_braked, Cond.instanceMethod yX8_braked, Cond.selects RX8 yX8_braked yX8_braked, Cond.code yX8_braked cX8_braked 5 (some .int), Cond.methodLink RX8 98 yX8_roomFor, Cond.instanceMethod yX8_roomFor, Cond.selects RX8 yX8_roomFor yX8_roomFor, Cond.code yX8_roomFor cX8_roomFor 3 (some .int), Cond.methodLink RX8 95 yX8_free, Cond.instanceMethod yX8_free, Cond.selects RX8 yX8_free yX8_free, Cond.code yX8_free cX8_free 1 (some .int), Cond.methodLink RX8 101 yX8_stopBy]
def wsX8_tick_r3 : List Cond := [Cond.instanceMethod yX8_stopBy, Cond.selects RX8 yX8_stopBy yX8_stopBy, Cond.code yX8_stopBy cX8_stopBy 4 (some .int), Cond.methodLink RX8 84 yX8_size, Cond.static yX8_size, Cond.code yX8_size cX8_size 1 (some .int), Cond.methodLink RX8 117 yX8_goes, Cond.instanceMethod yX8_goes, Cond.selects RX8 yX8_goes yX8_goes, Cond.code yX8_goes cX8_goes 4 none, Cond.methodLink RX8 104 yX8_kept, Cond.static yX8_kept, Cond.code yX8_kept cX8_kept 1 (some .int), Cond.methodLink RX8 121 yX8_hoists, Cond.instanceMethod yX8_hoists, Cond.selects RX8 yX8_hoists yX8_hoists, Cond.code yX8_hoists cX8_hoists 7 none, Cond.methodLink RX8 139 yX8_counts, Cond.instanceMethod yX8_counts, Cond.selects RX8 yX8_counts yX8_counts, Cond.code yX8_counts cX8_counts 5 none, Cond.methodLink RX8 124 yX8_spotPlace, Cond.static yX8_spotPlace, Cond.code yX8_spotPlace cX8_spotPlace 1 (some .int)]
def wsX8_tick_r4 : List Cond := [Cond.methodLink RX8 127 yX8_spotCode, Cond.instanceMethod yX8_spotCode, Cond.selects RX8 yX8_spotCode yX8_spotCode, Cond.code yX8_spotCode cX8_spotCode 2 (some .int), Cond.methodLink RX8 130 yX8_spotIndex, Cond.instanceMethod yX8_spotIndex, Cond.selects RX8 yX8_spotIndex yX8_spotIndex, Cond.code yX8_spotIndex cX8_spotIndex 5 (some .int)]
def wsX8_tick : List Cond := .code yX8_tick cX8_tick 5 (some .int) :: ((wsX8_tick_r1 ++ (wsX8_tick_r2 ++ (wsX8_tick_r3 ++ wsX8_tick_r4))) ++ wsX80)
def wsX8_heeds : List Cond := .code yX8_heeds cX8_heeds 3 (some .boolean) :: ([.fieldLink RX8 7 "SwingCranesModel" "now" "[I"] ++ wsX80)
def wsX8_addsStep : List Cond := .code yX8_addsStep cX8_addsStep 5 none :: ([.methodLink RX8 80 yX8_of, .instanceMethod yX8_of, .selects RX8 yX8_of yX8_of, .initialized RX8, .code yX8_of cX8_of 3 (some .int), .fieldLink RX8 7 "SwingCranesModel" "now" "[I", .methodLink RX8 88 yX8_tells, .instanceMethod yX8_tells, .selects RX8 yX8_tells yX8_tells, .code yX8_tells cX8_tells 4 none] ++ wsX80)
def wsX8_commands : List Cond := .code yX8_commands cX8_commands 8 (some .int) :: ([.fieldLink RX8 7 "SwingCranesModel" "now" "[I", .methodLink RX8 142 yX8_heeds, .instanceMethod yX8_heeds, .selects RX8 yX8_heeds yX8_heeds, .initialized RX8, .code yX8_heeds cX8_heeds 3 (some .boolean), .methodLink RX8 88 yX8_tells, .instanceMethod yX8_tells, .selects RX8 yX8_tells yX8_tells, .code yX8_tells cX8_tells 4 none, .methodLink RX8 80 yX8_of, .instanceMethod yX8_of, .selects RX8 yX8_of yX8_of, .code yX8_of cX8_of 3 (some .int), .methodLink RX8 145 yX8_addsStep, .instanceMethod yX8_addsStep, .selects RX8 yX8_addsStep yX8_addsStep, .code yX8_addsStep cX8_addsStep 5 none] ++ wsX80)
def wsX8_command_r1 : List Cond := [Cond.methodLink RX8 148 yX8_isCrane, Cond.static yX8_isCrane, Cond.initialized RX8, Cond.code yX8_isCrane cX8_isCrane 1 (some .boolean), Cond.methodLink RX8 48 yX8_in, Cond.static yX8_in, Cond.code yX8_in cX8_in 3 (some .boolean), Cond.methodLink RX8 133 yX8_keeps, Cond.instanceMethod yX8_keeps, Cond.selects RX8 yX8_keeps yX8_keeps, Cond.code yX8_keeps cX8_keeps 2 none, Cond.fieldLink RX8 38 "SwingCranesModel" "changes" "I", Cond.fieldLink RX8 19 "SwingCranesModel" "past" "[I", Cond.fieldLink RX8 7 "SwingCranesModel" "now" "[I", Cond.methodLink RX8 151 yX8_commands, Cond.instanceMethod yX8_commands, Cond.selects RX8 yX8_commands yX8_commands, Cond.code yX8_commands cX8_commands 8 (some .int), Cond.methodLink RX8 142 yX8_heeds, Cond.instanceMethod yX8_heeds, Cond.selects RX8 yX8_heeds yX8_heeds, Cond.code yX8_heeds cX8_heeds 3 (some .boolean), Cond.methodLink RX8 88 yX8_tells, Cond.instanceMethod yX8_tells]
def wsX8_command_r2 : List Cond := [Cond.selects RX8 yX8_tells yX8_tells, Cond.code yX8_tells cX8_tells 4 none, Cond.methodLink RX8 80 yX8_of, Cond.instanceMethod yX8_of, Cond.selects RX8 yX8_of yX8_of, Cond.code yX8_of cX8_of 3 (some .int), Cond.methodLink RX8 145 yX8_addsStep, Cond.instanceMethod yX8_addsStep, Cond.selects RX8 yX8_addsStep yX8_addsStep, Cond.code yX8_addsStep cX8_addsStep 5 none]
def wsX8_command : List Cond := .code yX8_command cX8_command 3 (some .int) :: ((wsX8_command_r1 ++ wsX8_command_r2) ++ wsX80)
def wsX8_shapes_r1 : List Cond := [Cond.fieldLink RX8 7 "SwingCranesModel" "now" "[I", Cond.methodLink RX8 142 yX8_heeds, Cond.instanceMethod yX8_heeds, Cond.selects RX8 yX8_heeds yX8_heeds, Cond.initialized RX8, Cond.code yX8_heeds cX8_heeds 3 (some .boolean), Cond.methodLink RX8 80 yX8_of, Cond.instanceMethod yX8_of, Cond.selects RX8 yX8_of yX8_of, Cond.code yX8_of cX8_of 3 (some .int), Cond.methodLink RX8 155 yX8_halfOf, Cond.static yX8_halfOf, Cond.code yX8_halfOf cX8_halfOf 2 (some .int), Cond.methodLink RX8 151 yX8_commands, Cond.instanceMethod yX8_commands, Cond.selects RX8 yX8_commands yX8_commands, Cond.code yX8_commands cX8_commands 8 (some .int), Cond.methodLink RX8 88 yX8_tells, Cond.instanceMethod yX8_tells, Cond.selects RX8 yX8_tells yX8_tells, Cond.code yX8_tells cX8_tells 4 none, Cond.methodLink RX8 145 yX8_addsStep, Cond.instanceMethod yX8_addsStep, Cond.selects RX8 yX8_addsStep yX8_addsStep]
def wsX8_shapes_r2 : List Cond := [Cond.code yX8_addsStep cX8_addsStep 5 none]
def wsX8_shapes : List Cond := .code yX8_shapes cX8_shapes 6 (some .int) :: ((wsX8_shapes_r1 ++ wsX8_shapes_r2) ++ wsX80)
def wsX8_shape_r1 : List Cond := [Cond.methodLink RX8 148 yX8_isCrane, Cond.static yX8_isCrane, Cond.initialized RX8, Cond.code yX8_isCrane cX8_isCrane 1 (some .boolean), Cond.methodLink RX8 48 yX8_in, Cond.static yX8_in, Cond.code yX8_in cX8_in 3 (some .boolean), Cond.methodLink RX8 133 yX8_keeps, Cond.instanceMethod yX8_keeps, Cond.selects RX8 yX8_keeps yX8_keeps, Cond.code yX8_keeps cX8_keeps 2 none, Cond.fieldLink RX8 38 "SwingCranesModel" "changes" "I", Cond.fieldLink RX8 19 "SwingCranesModel" "past" "[I", Cond.fieldLink RX8 7 "SwingCranesModel" "now" "[I", Cond.methodLink RX8 158 yX8_shapes, Cond.instanceMethod yX8_shapes, Cond.selects RX8 yX8_shapes yX8_shapes, Cond.code yX8_shapes cX8_shapes 6 (some .int), Cond.methodLink RX8 142 yX8_heeds, Cond.instanceMethod yX8_heeds, Cond.selects RX8 yX8_heeds yX8_heeds, Cond.code yX8_heeds cX8_heeds 3 (some .boolean), Cond.methodLink RX8 80 yX8_of, Cond.instanceMethod yX8_of]
def wsX8_shape_r2 : List Cond := [Cond.selects RX8 yX8_of yX8_of, Cond.code yX8_of cX8_of 3 (some .int), Cond.methodLink RX8 155 yX8_halfOf, Cond.static yX8_halfOf, Cond.code yX8_halfOf cX8_halfOf 2 (some .int), Cond.methodLink RX8 151 yX8_commands, Cond.instanceMethod yX8_commands, Cond.selects RX8 yX8_commands yX8_commands, Cond.code yX8_commands cX8_commands 8 (some .int), Cond.methodLink RX8 88 yX8_tells, Cond.instanceMethod yX8_tells, Cond.selects RX8 yX8_tells yX8_tells, Cond.code yX8_tells cX8_tells 4 none, Cond.methodLink RX8 145 yX8_addsStep, Cond.instanceMethod yX8_addsStep, Cond.selects RX8 yX8_addsStep yX8_addsStep, Cond.code yX8_addsStep cX8_addsStep 5 none]
def wsX8_shape : List Cond := .code yX8_shape cX8_shape 4 (some .int) :: ((wsX8_shape_r1 ++ wsX8_shape_r2) ++ wsX80)
def wsX8_target_r1 : List Cond := [Cond.methodLink RX8 148 yX8_isCrane, Cond.static yX8_isCrane, Cond.initialized RX8, Cond.code yX8_isCrane cX8_isCrane 1 (some .boolean), Cond.methodLink RX8 48 yX8_in, Cond.static yX8_in, Cond.code yX8_in cX8_in 3 (some .boolean), Cond.methodLink RX8 142 yX8_heeds, Cond.instanceMethod yX8_heeds, Cond.selects RX8 yX8_heeds yX8_heeds, Cond.code yX8_heeds cX8_heeds 3 (some .boolean), Cond.fieldLink RX8 7 "SwingCranesModel" "now" "[I", Cond.methodLink RX8 80 yX8_of, Cond.instanceMethod yX8_of, Cond.selects RX8 yX8_of yX8_of, Cond.code yX8_of cX8_of 3 (some .int), Cond.methodLink RX8 133 yX8_keeps, Cond.instanceMethod yX8_keeps, Cond.selects RX8 yX8_keeps yX8_keeps, Cond.code yX8_keeps cX8_keeps 2 none, Cond.fieldLink RX8 38 "SwingCranesModel" "changes" "I", Cond.fieldLink RX8 19 "SwingCranesModel" "past" "[I", Cond.methodLink RX8 88 yX8_tells, Cond.instanceMethod yX8_tells]
def wsX8_target_r2 : List Cond := [Cond.selects RX8 yX8_tells yX8_tells, Cond.code yX8_tells cX8_tells 4 none]
def wsX8_target : List Cond := .code yX8_target cX8_target 6 (some .int) :: ((wsX8_target_r1 ++ wsX8_target_r2) ++ wsX80)
def wsX8_load : List Cond := .code yX8_load cX8_load 4 (some .int) :: ([.methodLink RX8 148 yX8_isCrane, .static yX8_isCrane, .initialized RX8, .code yX8_isCrane cX8_isCrane 1 (some .boolean), .methodLink RX8 48 yX8_in, .static yX8_in, .code yX8_in cX8_in 3 (some .boolean), .methodLink RX8 80 yX8_of, .instanceMethod yX8_of, .selects RX8 yX8_of yX8_of, .code yX8_of cX8_of 3 (some .int), .fieldLink RX8 7 "SwingCranesModel" "now" "[I", .methodLink RX8 133 yX8_keeps, .instanceMethod yX8_keeps, .selects RX8 yX8_keeps yX8_keeps, .code yX8_keeps cX8_keeps 2 none, .fieldLink RX8 38 "SwingCranesModel" "changes" "I", .fieldLink RX8 19 "SwingCranesModel" "past" "[I", .methodLink RX8 88 yX8_tells, .instanceMethod yX8_tells, .selects RX8 yX8_tells yX8_tells, .code yX8_tells cX8_tells 4 none] ++ wsX80)
def wsX8_couple : List Cond := .code yX8_couple cX8_couple 4 (some .int) :: ([.fieldLink RX8 7 "SwingCranesModel" "now" "[I", .methodLink RX8 48 yX8_in, .static yX8_in, .initialized RX8, .code yX8_in cX8_in 3 (some .boolean), .methodLink RX8 133 yX8_keeps, .instanceMethod yX8_keeps, .selects RX8 yX8_keeps yX8_keeps, .code yX8_keeps cX8_keeps 2 none, .fieldLink RX8 38 "SwingCranesModel" "changes" "I", .fieldLink RX8 19 "SwingCranesModel" "past" "[I"] ++ wsX80)
def wsX8_isQuiet : List Cond := .code yX8_isQuiet cX8_isQuiet 3 (some .int) :: ([.methodLink RX8 80 yX8_of, .instanceMethod yX8_of, .selects RX8 yX8_of yX8_of, .initialized RX8, .code yX8_of cX8_of 3 (some .int), .fieldLink RX8 7 "SwingCranesModel" "now" "[I", .methodLink RX8 84 yX8_size, .static yX8_size, .code yX8_size cX8_size 1 (some .int)] ++ wsX80)
def wsX8_crane_r1 : List Cond := [Cond.constant RX8 161 (100000), Cond.methodLink RX8 148 yX8_isCrane, Cond.static yX8_isCrane, Cond.initialized RX8, Cond.code yX8_isCrane cX8_isCrane 1 (some .boolean), Cond.methodLink RX8 80 yX8_of, Cond.instanceMethod yX8_of, Cond.selects RX8 yX8_of yX8_of, Cond.code yX8_of cX8_of 3 (some .int), Cond.fieldLink RX8 7 "SwingCranesModel" "now" "[I", Cond.methodLink RX8 92 yX8_limitOf, Cond.instanceMethod yX8_limitOf, Cond.selects RX8 yX8_limitOf yX8_limitOf, Cond.code yX8_limitOf cX8_limitOf 3 (some .int), Cond.methodLink RX8 101 yX8_stopBy, Cond.instanceMethod yX8_stopBy, Cond.selects RX8 yX8_stopBy yX8_stopBy, Cond.code yX8_stopBy cX8_stopBy 4 (some .int), Cond.methodLink RX8 84 yX8_size, Cond.static yX8_size, Cond.code yX8_size cX8_size 1 (some .int), Cond.methodLink RX8 155 yX8_halfOf, Cond.static yX8_halfOf, Cond.code yX8_halfOf cX8_halfOf 2 (some .int)]
def wsX8_crane_r2 : List Cond := [Cond.methodLink RX8 162 yX8_isQuiet, Cond.instanceMethod yX8_isQuiet, Cond.selects RX8 yX8_isQuiet yX8_isQuiet, Cond.code yX8_isQuiet cX8_isQuiet 3 (some .int)]
def wsX8_crane : List Cond := .code yX8_crane cX8_crane 3 (some .int) :: ((wsX8_crane_r1 ++ wsX8_crane_r2) ++ wsX80)
def wsX8_stepOf : List Cond := .code yX8_stepOf cX8_stepOf 4 (some .int) :: ([.fieldLink RX8 7 "SwingCranesModel" "now" "[I", .constant RX8 161 (100000), .methodLink RX8 148 yX8_isCrane, .static yX8_isCrane, .initialized RX8, .code yX8_isCrane cX8_isCrane 1 (some .boolean), .methodLink RX8 48 yX8_in, .static yX8_in, .code yX8_in cX8_in 3 (some .boolean), .methodLink RX8 80 yX8_of, .instanceMethod yX8_of, .selects RX8 yX8_of yX8_of, .code yX8_of cX8_of 3 (some .int)] ++ wsX80)
def wsX8_stop : List Cond := .code yX8_stop cX8_stop 2 (some .int) :: ([.methodLink RX8 48 yX8_in, .static yX8_in, .initialized RX8, .code yX8_in cX8_in 3 (some .boolean), .methodLink RX8 101 yX8_stopBy, .instanceMethod yX8_stopBy, .selects RX8 yX8_stopBy yX8_stopBy, .code yX8_stopBy cX8_stopBy 4 (some .int), .fieldLink RX8 7 "SwingCranesModel" "now" "[I", .methodLink RX8 84 yX8_size, .static yX8_size, .code yX8_size cX8_size 1 (some .int)] ++ wsX80)
def wsX8_half : List Cond := .code yX8_half cX8_half 2 (some .int) :: ([.methodLink RX8 48 yX8_in, .static yX8_in, .initialized RX8, .code yX8_in cX8_in 3 (some .boolean), .methodLink RX8 155 yX8_halfOf, .static yX8_halfOf, .code yX8_halfOf cX8_halfOf 2 (some .int)])
def wsX8_spot : List Cond := .code yX8_spot cX8_spot 6 (some .int) :: ([.fieldLink RX8 7 "SwingCranesModel" "now" "[I", .methodLink RX8 148 yX8_isCrane, .static yX8_isCrane, .initialized RX8, .code yX8_isCrane cX8_isCrane 1 (some .boolean), .methodLink RX8 48 yX8_in, .static yX8_in, .code yX8_in cX8_in 3 (some .boolean), .methodLink RX8 124 yX8_spotPlace, .static yX8_spotPlace, .code yX8_spotPlace cX8_spotPlace 1 (some .int)] ++ wsX80)
def wsX8_been : List Cond := .code yX8_been cX8_been 6 (some .int) :: ([.fieldLink RX8 7 "SwingCranesModel" "now" "[I", .methodLink RX8 148 yX8_isCrane, .static yX8_isCrane, .initialized RX8, .code yX8_isCrane cX8_isCrane 1 (some .boolean), .methodLink RX8 48 yX8_in, .static yX8_in, .code yX8_in cX8_in 3 (some .boolean), .methodLink RX8 124 yX8_spotPlace, .static yX8_spotPlace, .code yX8_spotPlace cX8_spotPlace 1 (some .int), .methodLink RX8 130 yX8_spotIndex, .instanceMethod yX8_spotIndex, .selects RX8 yX8_spotIndex yX8_spotIndex, .code yX8_spotIndex cX8_spotIndex 5 (some .int)] ++ wsX80)
def wsX8_answer : List Cond := .code yX8_answer cX8_answer 5 (some .int) :: ([.constant RX8 161 (100000), .methodLink RX8 80 yX8_of, .instanceMethod yX8_of, .selects RX8 yX8_of yX8_of, .initialized RX8, .code yX8_of cX8_of 3 (some .int), .fieldLink RX8 7 "SwingCranesModel" "now" "[I"] ++ wsX80)
def wsX8_ahead_r1 : List Cond := [Cond.methodLink RX8 48 yX8_in, Cond.static yX8_in, Cond.initialized RX8, Cond.code yX8_in cX8_in 3 (some .boolean), Cond.methodLink RX8 148 yX8_isCrane, Cond.static yX8_isCrane, Cond.code yX8_isCrane cX8_isCrane 1 (some .boolean), Cond.methodLink RX8 165 yX8_laysAside, Cond.instanceMethod yX8_laysAside, Cond.selects RX8 yX8_laysAside yX8_laysAside, Cond.code yX8_laysAside cX8_laysAside 2 none, Cond.fieldLink RX8 16 "SwingCranesModel" "aside" "[I", Cond.fieldLink RX8 7 "SwingCranesModel" "now" "[I", Cond.methodLink RX8 136 yX8_goesBy, Cond.instanceMethod yX8_goesBy, Cond.selects RX8 yX8_goesBy yX8_goesBy, Cond.code yX8_goesBy cX8_goesBy 5 (some .int), Cond.methodLink RX8 107 yX8_stepsCome, Cond.instanceMethod yX8_stepsCome, Cond.selects RX8 yX8_stepsCome yX8_stepsCome, Cond.code yX8_stepsCome cX8_stepsCome 7 none, Cond.methodLink RX8 80 yX8_of, Cond.instanceMethod yX8_of, Cond.selects RX8 yX8_of yX8_of]
def wsX8_ahead_r2 : List Cond := [Cond.code yX8_of cX8_of 3 (some .int), Cond.methodLink RX8 88 yX8_tells, Cond.instanceMethod yX8_tells, Cond.selects RX8 yX8_tells yX8_tells, Cond.code yX8_tells cX8_tells 4 none, Cond.methodLink RX8 111 yX8_wanted, Cond.instanceMethod yX8_wanted, Cond.selects RX8 yX8_wanted yX8_wanted, Cond.code yX8_wanted cX8_wanted 6 (some .int), Cond.methodLink RX8 92 yX8_limitOf, Cond.instanceMethod yX8_limitOf, Cond.selects RX8 yX8_limitOf yX8_limitOf, Cond.code yX8_limitOf cX8_limitOf 3 (some .int), Cond.methodLink RX8 114 yX8_braked, Cond.instanceMethod yX8_braked, Cond.selects RX8 yX8_braked yX8_braked, Cond.code yX8_braked cX8_braked 5 (some .int), Cond.methodLink RX8 98 yX8_roomFor, Cond.instanceMethod yX8_roomFor, Cond.selects RX8 yX8_roomFor yX8_roomFor, Cond.code yX8_roomFor cX8_roomFor 3 (some .int), Cond.methodLink RX8 95 yX8_free, Cond.instanceMethod yX8_free, Cond.selects RX8 yX8_free yX8_free]
def wsX8_ahead_r3 : List Cond := [Cond.code yX8_free cX8_free 1 (some .int), Cond.methodLink RX8 101 yX8_stopBy, Cond.instanceMethod yX8_stopBy, Cond.selects RX8 yX8_stopBy yX8_stopBy, Cond.code yX8_stopBy cX8_stopBy 4 (some .int), Cond.methodLink RX8 84 yX8_size, Cond.static yX8_size, Cond.code yX8_size cX8_size 1 (some .int), Cond.methodLink RX8 117 yX8_goes, Cond.instanceMethod yX8_goes, Cond.selects RX8 yX8_goes yX8_goes, Cond.code yX8_goes cX8_goes 4 none, Cond.methodLink RX8 104 yX8_kept, Cond.static yX8_kept, Cond.code yX8_kept cX8_kept 1 (some .int), Cond.methodLink RX8 121 yX8_hoists, Cond.instanceMethod yX8_hoists, Cond.selects RX8 yX8_hoists yX8_hoists, Cond.code yX8_hoists cX8_hoists 7 none, Cond.methodLink RX8 168 yX8_answer, Cond.instanceMethod yX8_answer, Cond.selects RX8 yX8_answer yX8_answer, Cond.code yX8_answer cX8_answer 5 (some .int), Cond.constant RX8 161 (100000)]
def wsX8_ahead_r4 : List Cond := [Cond.methodLink RX8 172 yX8_comesBack, Cond.instanceMethod yX8_comesBack, Cond.selects RX8 yX8_comesBack yX8_comesBack, Cond.code yX8_comesBack cX8_comesBack 2 none]
def wsX8_ahead : List Cond := .code yX8_ahead cX8_ahead 7 (some .int) :: ((wsX8_ahead_r1 ++ (wsX8_ahead_r2 ++ (wsX8_ahead_r3 ++ wsX8_ahead_r4))) ++ wsX80)
def wsX8_quiet_r1 : List Cond := [Cond.methodLink RX8 148 yX8_isCrane, Cond.static yX8_isCrane, Cond.initialized RX8, Cond.code yX8_isCrane cX8_isCrane 1 (some .boolean), Cond.methodLink RX8 165 yX8_laysAside, Cond.instanceMethod yX8_laysAside, Cond.selects RX8 yX8_laysAside yX8_laysAside, Cond.code yX8_laysAside cX8_laysAside 2 none, Cond.fieldLink RX8 16 "SwingCranesModel" "aside" "[I", Cond.fieldLink RX8 7 "SwingCranesModel" "now" "[I", Cond.methodLink RX8 151 yX8_commands, Cond.instanceMethod yX8_commands, Cond.selects RX8 yX8_commands yX8_commands, Cond.code yX8_commands cX8_commands 8 (some .int), Cond.methodLink RX8 142 yX8_heeds, Cond.instanceMethod yX8_heeds, Cond.selects RX8 yX8_heeds yX8_heeds, Cond.code yX8_heeds cX8_heeds 3 (some .boolean), Cond.methodLink RX8 88 yX8_tells, Cond.instanceMethod yX8_tells, Cond.selects RX8 yX8_tells yX8_tells, Cond.code yX8_tells cX8_tells 4 none, Cond.methodLink RX8 80 yX8_of, Cond.instanceMethod yX8_of]
def wsX8_quiet_r2 : List Cond := [Cond.selects RX8 yX8_of yX8_of, Cond.code yX8_of cX8_of 3 (some .int), Cond.methodLink RX8 145 yX8_addsStep, Cond.instanceMethod yX8_addsStep, Cond.selects RX8 yX8_addsStep yX8_addsStep, Cond.code yX8_addsStep cX8_addsStep 5 none, Cond.methodLink RX8 162 yX8_isQuiet, Cond.instanceMethod yX8_isQuiet, Cond.selects RX8 yX8_isQuiet yX8_isQuiet, Cond.code yX8_isQuiet cX8_isQuiet 3 (some .int), Cond.methodLink RX8 84 yX8_size, Cond.static yX8_size, Cond.code yX8_size cX8_size 1 (some .int), Cond.methodLink RX8 136 yX8_goesBy, Cond.instanceMethod yX8_goesBy, Cond.selects RX8 yX8_goesBy yX8_goesBy, Cond.code yX8_goesBy cX8_goesBy 5 (some .int), Cond.methodLink RX8 107 yX8_stepsCome, Cond.instanceMethod yX8_stepsCome, Cond.selects RX8 yX8_stepsCome yX8_stepsCome, Cond.code yX8_stepsCome cX8_stepsCome 7 none, Cond.methodLink RX8 111 yX8_wanted, Cond.instanceMethod yX8_wanted, Cond.selects RX8 yX8_wanted yX8_wanted]
def wsX8_quiet_r3 : List Cond := [Cond.code yX8_wanted cX8_wanted 6 (some .int), Cond.methodLink RX8 92 yX8_limitOf, Cond.instanceMethod yX8_limitOf, Cond.selects RX8 yX8_limitOf yX8_limitOf, Cond.code yX8_limitOf cX8_limitOf 3 (some .int), Cond.methodLink RX8 114 yX8_braked, Cond.instanceMethod yX8_braked, Cond.selects RX8 yX8_braked yX8_braked, Cond.code yX8_braked cX8_braked 5 (some .int), Cond.methodLink RX8 98 yX8_roomFor, Cond.instanceMethod yX8_roomFor, Cond.selects RX8 yX8_roomFor yX8_roomFor, Cond.code yX8_roomFor cX8_roomFor 3 (some .int), Cond.methodLink RX8 95 yX8_free, Cond.instanceMethod yX8_free, Cond.selects RX8 yX8_free yX8_free, Cond.code yX8_free cX8_free 1 (some .int), Cond.methodLink RX8 101 yX8_stopBy, Cond.instanceMethod yX8_stopBy, Cond.selects RX8 yX8_stopBy yX8_stopBy, Cond.code yX8_stopBy cX8_stopBy 4 (some .int), Cond.methodLink RX8 117 yX8_goes, Cond.instanceMethod yX8_goes, Cond.selects RX8 yX8_goes yX8_goes]
def wsX8_quiet_r4 : List Cond := [Cond.code yX8_goes cX8_goes 4 none, Cond.methodLink RX8 104 yX8_kept, Cond.static yX8_kept, Cond.code yX8_kept cX8_kept 1 (some .int), Cond.methodLink RX8 121 yX8_hoists, Cond.instanceMethod yX8_hoists, Cond.selects RX8 yX8_hoists yX8_hoists, Cond.code yX8_hoists cX8_hoists 7 none, Cond.methodLink RX8 172 yX8_comesBack, Cond.instanceMethod yX8_comesBack, Cond.selects RX8 yX8_comesBack yX8_comesBack, Cond.code yX8_comesBack cX8_comesBack 2 none]
def wsX8_quiet : List Cond := .code yX8_quiet cX8_quiet 4 (some .int) :: ((wsX8_quiet_r1 ++ (wsX8_quiet_r2 ++ (wsX8_quiet_r3 ++ wsX8_quiet_r4))) ++ wsX80)
def wsX8_swingsBy_r1 : List Cond := [Cond.methodLink RX8 165 yX8_laysAside, Cond.instanceMethod yX8_laysAside, Cond.selects RX8 yX8_laysAside yX8_laysAside, Cond.initialized RX8, Cond.code yX8_laysAside cX8_laysAside 2 none, Cond.fieldLink RX8 16 "SwingCranesModel" "aside" "[I", Cond.fieldLink RX8 7 "SwingCranesModel" "now" "[I", Cond.methodLink RX8 151 yX8_commands, Cond.instanceMethod yX8_commands, Cond.selects RX8 yX8_commands yX8_commands, Cond.code yX8_commands cX8_commands 8 (some .int), Cond.methodLink RX8 142 yX8_heeds, Cond.instanceMethod yX8_heeds, Cond.selects RX8 yX8_heeds yX8_heeds, Cond.code yX8_heeds cX8_heeds 3 (some .boolean), Cond.methodLink RX8 88 yX8_tells, Cond.instanceMethod yX8_tells, Cond.selects RX8 yX8_tells yX8_tells, Cond.code yX8_tells cX8_tells 4 none, Cond.methodLink RX8 80 yX8_of, Cond.instanceMethod yX8_of, Cond.selects RX8 yX8_of yX8_of, Cond.code yX8_of cX8_of 3 (some .int), Cond.methodLink RX8 145 yX8_addsStep]
def wsX8_swingsBy_r2 : List Cond := [Cond.instanceMethod yX8_addsStep, Cond.selects RX8 yX8_addsStep yX8_addsStep, Cond.code yX8_addsStep cX8_addsStep 5 none, Cond.methodLink RX8 136 yX8_goesBy, Cond.instanceMethod yX8_goesBy, Cond.selects RX8 yX8_goesBy yX8_goesBy, Cond.code yX8_goesBy cX8_goesBy 5 (some .int), Cond.methodLink RX8 107 yX8_stepsCome, Cond.instanceMethod yX8_stepsCome, Cond.selects RX8 yX8_stepsCome yX8_stepsCome, Cond.code yX8_stepsCome cX8_stepsCome 7 none, Cond.methodLink RX8 111 yX8_wanted, Cond.instanceMethod yX8_wanted, Cond.selects RX8 yX8_wanted yX8_wanted, Cond.code yX8_wanted cX8_wanted 6 (some .int), Cond.methodLink RX8 92 yX8_limitOf, Cond.instanceMethod yX8_limitOf, Cond.selects RX8 yX8_limitOf yX8_limitOf, Cond.code yX8_limitOf cX8_limitOf 3 (some .int), Cond.methodLink RX8 114 yX8_braked, Cond.instanceMethod yX8_braked, Cond.selects RX8 yX8_braked yX8_braked, Cond.code yX8_braked cX8_braked 5 (some .int), Cond.methodLink RX8 98 yX8_roomFor]
def wsX8_swingsBy_r3 : List Cond := [Cond.instanceMethod yX8_roomFor, Cond.selects RX8 yX8_roomFor yX8_roomFor, Cond.code yX8_roomFor cX8_roomFor 3 (some .int), Cond.methodLink RX8 95 yX8_free, Cond.instanceMethod yX8_free, Cond.selects RX8 yX8_free yX8_free, Cond.code yX8_free cX8_free 1 (some .int), Cond.methodLink RX8 101 yX8_stopBy, Cond.instanceMethod yX8_stopBy, Cond.selects RX8 yX8_stopBy yX8_stopBy, Cond.code yX8_stopBy cX8_stopBy 4 (some .int), Cond.methodLink RX8 84 yX8_size, Cond.static yX8_size, Cond.code yX8_size cX8_size 1 (some .int), Cond.methodLink RX8 117 yX8_goes, Cond.instanceMethod yX8_goes, Cond.selects RX8 yX8_goes yX8_goes, Cond.code yX8_goes cX8_goes 4 none, Cond.methodLink RX8 104 yX8_kept, Cond.static yX8_kept, Cond.code yX8_kept cX8_kept 1 (some .int), Cond.methodLink RX8 121 yX8_hoists, Cond.instanceMethod yX8_hoists, Cond.selects RX8 yX8_hoists yX8_hoists]
def wsX8_swingsBy_r4 : List Cond := [Cond.code yX8_hoists cX8_hoists 7 none, Cond.methodLink RX8 172 yX8_comesBack, Cond.instanceMethod yX8_comesBack, Cond.selects RX8 yX8_comesBack yX8_comesBack, Cond.code yX8_comesBack cX8_comesBack 2 none]
def wsX8_swingsBy : List Cond := .code yX8_swingsBy cX8_swingsBy 6 (some .int) :: ((wsX8_swingsBy_r1 ++ (wsX8_swingsBy_r2 ++ (wsX8_swingsBy_r3 ++ wsX8_swingsBy_r4))) ++ wsX80)
def wsX8_best_r1 : List Cond := [Cond.methodLink RX8 148 yX8_isCrane, Cond.static yX8_isCrane, Cond.initialized RX8, Cond.code yX8_isCrane cX8_isCrane 1 (some .boolean), Cond.methodLink RX8 48 yX8_in, Cond.static yX8_in, Cond.code yX8_in cX8_in 3 (some .boolean), Cond.methodLink RX8 175 yX8_swingsBy, Cond.instanceMethod yX8_swingsBy, Cond.selects RX8 yX8_swingsBy yX8_swingsBy, Cond.code yX8_swingsBy cX8_swingsBy 6 (some .int), Cond.methodLink RX8 165 yX8_laysAside, Cond.instanceMethod yX8_laysAside, Cond.selects RX8 yX8_laysAside yX8_laysAside, Cond.code yX8_laysAside cX8_laysAside 2 none, Cond.fieldLink RX8 16 "SwingCranesModel" "aside" "[I", Cond.fieldLink RX8 7 "SwingCranesModel" "now" "[I", Cond.methodLink RX8 151 yX8_commands, Cond.instanceMethod yX8_commands, Cond.selects RX8 yX8_commands yX8_commands, Cond.code yX8_commands cX8_commands 8 (some .int), Cond.methodLink RX8 142 yX8_heeds, Cond.instanceMethod yX8_heeds, Cond.selects RX8 yX8_heeds yX8_heeds]
def wsX8_best_r2 : List Cond := [Cond.code yX8_heeds cX8_heeds 3 (some .boolean), Cond.methodLink RX8 88 yX8_tells, Cond.instanceMethod yX8_tells, Cond.selects RX8 yX8_tells yX8_tells, Cond.code yX8_tells cX8_tells 4 none, Cond.methodLink RX8 80 yX8_of, Cond.instanceMethod yX8_of, Cond.selects RX8 yX8_of yX8_of, Cond.code yX8_of cX8_of 3 (some .int), Cond.methodLink RX8 145 yX8_addsStep, Cond.instanceMethod yX8_addsStep, Cond.selects RX8 yX8_addsStep yX8_addsStep, Cond.code yX8_addsStep cX8_addsStep 5 none, Cond.methodLink RX8 136 yX8_goesBy, Cond.instanceMethod yX8_goesBy, Cond.selects RX8 yX8_goesBy yX8_goesBy, Cond.code yX8_goesBy cX8_goesBy 5 (some .int), Cond.methodLink RX8 107 yX8_stepsCome, Cond.instanceMethod yX8_stepsCome, Cond.selects RX8 yX8_stepsCome yX8_stepsCome, Cond.code yX8_stepsCome cX8_stepsCome 7 none, Cond.methodLink RX8 111 yX8_wanted, Cond.instanceMethod yX8_wanted, Cond.selects RX8 yX8_wanted yX8_wanted]
def wsX8_best_r3 : List Cond := [Cond.code yX8_wanted cX8_wanted 6 (some .int), Cond.methodLink RX8 92 yX8_limitOf, Cond.instanceMethod yX8_limitOf, Cond.selects RX8 yX8_limitOf yX8_limitOf, Cond.code yX8_limitOf cX8_limitOf 3 (some .int), Cond.methodLink RX8 114 yX8_braked, Cond.instanceMethod yX8_braked, Cond.selects RX8 yX8_braked yX8_braked, Cond.code yX8_braked cX8_braked 5 (some .int), Cond.methodLink RX8 98 yX8_roomFor, Cond.instanceMethod yX8_roomFor, Cond.selects RX8 yX8_roomFor yX8_roomFor, Cond.code yX8_roomFor cX8_roomFor 3 (some .int), Cond.methodLink RX8 95 yX8_free, Cond.instanceMethod yX8_free, Cond.selects RX8 yX8_free yX8_free, Cond.code yX8_free cX8_free 1 (some .int), Cond.methodLink RX8 101 yX8_stopBy, Cond.instanceMethod yX8_stopBy, Cond.selects RX8 yX8_stopBy yX8_stopBy, Cond.code yX8_stopBy cX8_stopBy 4 (some .int), Cond.methodLink RX8 84 yX8_size, Cond.static yX8_size, Cond.code yX8_size cX8_size 1 (some .int)]
def wsX8_best_r4 : List Cond := [Cond.methodLink RX8 117 yX8_goes, Cond.instanceMethod yX8_goes, Cond.selects RX8 yX8_goes yX8_goes, Cond.code yX8_goes cX8_goes 4 none, Cond.methodLink RX8 104 yX8_kept, Cond.static yX8_kept, Cond.code yX8_kept cX8_kept 1 (some .int), Cond.methodLink RX8 121 yX8_hoists, Cond.instanceMethod yX8_hoists, Cond.selects RX8 yX8_hoists yX8_hoists, Cond.code yX8_hoists cX8_hoists 7 none, Cond.methodLink RX8 172 yX8_comesBack, Cond.instanceMethod yX8_comesBack, Cond.selects RX8 yX8_comesBack yX8_comesBack, Cond.code yX8_comesBack cX8_comesBack 2 none]
def wsX8_best : List Cond := .code yX8_best cX8_best 8 (some .int) :: ((wsX8_best_r1 ++ (wsX8_best_r2 ++ (wsX8_best_r3 ++ wsX8_best_r4))) ++ wsX80)
def wsX8_count : List Cond := .code yX8_count cX8_count 2 (some .int) :: ([.fieldLink RX8 38 "SwingCranesModel" "changes" "I", .fieldLink RX8 45 "SwingCranesModel" "letters" "I", .fieldLink RX8 7 "SwingCranesModel" "now" "[I", .methodLink RX8 95 yX8_free, .instanceMethod yX8_free, .selects RX8 yX8_free yX8_free, .initialized RX8, .code yX8_free cX8_free 1 (some .int), .methodLink RX8 80 yX8_of, .instanceMethod yX8_of, .selects RX8 yX8_of yX8_of, .code yX8_of cX8_of 3 (some .int), .methodLink RX8 48 yX8_in, .static yX8_in, .code yX8_in cX8_in 3 (some .boolean)] ++ wsX80)
def wsJ9_abs_0f7a4 : List Cond := .code yJ9_abs_0f7a4 cJ9_abs_0f7a4 1 (some .int) :: ([])
def wsJ9_max_7cf53 : List Cond := .code yJ9_max_7cf53 cJ9_max_7cf53 2 (some .int) :: ([])
def wsJ9_min_7cf53 : List Cond := .code yJ9_min_7cf53 cJ9_min_7cf53 2 (some .int) :: ([])
def wsL_law_r1 : List Cond := [Cond.classLink RL 7 RX7, Cond.instantiable RX7 10, Cond.initialized RX7, Cond.classLink RL 10 RX8, Cond.instantiable RX8 9, Cond.initialized RX8, Cond.methodLink RL 9 yX7_init, Cond.instanceMethod yX7_init, Cond.code yX7_init cX7_init 1 none, Cond.methodLink RX7 1 objectInit, Cond.instanceMethod objectInit, Cond.code objectInit ⟨#[0xb1]⟩ 1 none, Cond.classLink RX7 7 RX6, Cond.instantiable RX6 3, Cond.initialized RX6, Cond.fieldLink RX7 10 "SwingCranes" "text" "LSwingCranes$Text;", Cond.classLink RX7 16 RX2, Cond.instantiable RX2 3, Cond.initialized RX2, Cond.fieldLink RX7 19 "SwingCranes" "trial" "LSwingCranes$Pair;", Cond.classLink RX7 23 RX1, Cond.instantiable RX1 7, Cond.initialized RX1, Cond.fieldLink RX7 26 "SwingCranes" "rules" "LSwingCranes$Layout;"]
def wsL_law_r2 : List Cond := [Cond.fieldLink RX7 30 "SwingCranes" "draft" "LSwingCranes$Layout;", Cond.classLink RX7 33 RX5, Cond.instantiable RX5 4, Cond.initialized RX5, Cond.fieldLink RX7 36 "SwingCranes" "now" "LSwingCranes$Story;", Cond.fieldLink RX7 40 "SwingCranes" "firstBack" "LSwingCranes$Story;", Cond.fieldLink RX7 43 "SwingCranes" "secondBack" "LSwingCranes$Story;", Cond.fieldLink RX7 46 "SwingCranes" "thirdBack" "LSwingCranes$Story;", Cond.fieldLink RX7 49 "SwingCranes" "fourthBack" "LSwingCranes$Story;", Cond.instanceMethod yX6_init, Cond.code yX6_init cX6_init 1 none, Cond.methodLink RX6 3 objectInit, Cond.arrayClass .char, Cond.fieldLink RX6 9 "SwingCranes$Text" "letters" "[C", Cond.instanceMethod yX2_init, Cond.code yX2_init cX2_init 1 none, Cond.methodLink RX2 3 objectInit, Cond.classLink RX2 9 RX0, Cond.instantiable RX0 13, Cond.initialized RX0, Cond.fieldLink RX2 12 "SwingCranes$Pair" "left" "LSwingCranes$Crane;", Cond.fieldLink RX2 18 "SwingCranes$Pair" "right" "LSwingCranes$Crane;", Cond.fieldLink RX2 21 "SwingCranes$Pair" "level" "I", Cond.instanceMethod yX0_init]
def wsL_law_r3 : List Cond := [Cond.code yX0_init cX0_init 1 none, Cond.methodLink RX0 3 objectInit, Cond.methodLink RX7 25 yX1_init, Cond.instanceMethod yX1_init, Cond.code yX1_init cX1_init 1 none, Cond.methodLink RX1 1 objectInit, Cond.classLink RX1 7 RX4, Cond.instantiable RX4 3, Cond.initialized RX4, Cond.fieldLink RX1 10 "SwingCranes$Layout" "left" "LSwingCranes$Start;", Cond.fieldLink RX1 16 "SwingCranes$Layout" "right" "LSwingCranes$Start;", Cond.instanceMethod yX4_init, Cond.code yX4_init cX4_init 1 none, Cond.methodLink RX4 1 objectInit, Cond.methodLink RX1 19 yX1_setUsual, Cond.instanceMethod yX1_setUsual, Cond.selects RX1 yX1_setUsual yX1_setUsual, Cond.code yX1_setUsual cX1_setUsual 1 none, Cond.fieldLink RX1 22 "SwingCranes$Layout" "end" "I", Cond.fieldLink RX1 26 "SwingCranes$Layout" "gap" "I", Cond.fieldLink RX1 29 "SwingCranes$Layout" "change" "I", Cond.fieldLink RX1 32 "SwingCranes$Layout" "top" "I", Cond.fieldLink RX1 35 "SwingCranes$Layout" "hoist" "I", Cond.methodLink RX1 38 yX4_set]
def wsL_law_r4 : List Cond := [Cond.instanceMethod yX4_set, Cond.selects RX4 yX4_set yX4_set, Cond.code yX4_set cX4_set 4 none, Cond.fieldLink RX4 7 "SwingCranes$Start" "place" "I", Cond.fieldLink RX4 13 "SwingCranes$Start" "rope" "I", Cond.fieldLink RX4 16 "SwingCranes$Start" "load" "I", Cond.instanceMethod yX5_init, Cond.code yX5_init cX5_init 1 none, Cond.methodLink RX5 1 objectInit, Cond.classLink RX5 7 RX2, Cond.fieldLink RX5 10 "SwingCranes$Story" "pair" "LSwingCranes$Pair;", Cond.classLink RX5 16 RX3, Cond.instantiable RX3 3, Cond.initialized RX3, Cond.fieldLink RX5 19 "SwingCranes$Story" "leftSpots" "LSwingCranes$Spots;", Cond.fieldLink RX5 23 "SwingCranes$Story" "rightSpots" "LSwingCranes$Spots;", Cond.instanceMethod yX3_init, Cond.code yX3_init cX3_init 1 none, Cond.methodLink RX3 3 objectInit, Cond.arrayClass .int, Cond.fieldLink RX3 11 "SwingCranes$Spots" "names" "[I", Cond.fieldLink RX3 15 "SwingCranes$Spots" "ticks" "[I", Cond.methodLink RX7 52 yX5_begin, Cond.instanceMethod yX5_begin]
def wsL_law_r5 : List Cond := [Cond.selects RX5 yX5_begin yX5_begin, Cond.code yX5_begin cX5_begin 2 none, Cond.fieldLink RX5 30 "SwingCranes$Spots" "many" "I", Cond.fieldLink RX5 34 "SwingCranes$Story" "ticks" "I", Cond.methodLink RX5 26 yX2_begin, Cond.instanceMethod yX2_begin, Cond.selects RX2 yX2_begin yX2_begin, Cond.code yX2_begin cX2_begin 2 none, Cond.fieldLink RX2 25 "SwingCranes$Layout" "left" "LSwingCranes$Start;", Cond.fieldLink RX2 34 "SwingCranes$Layout" "right" "LSwingCranes$Start;", Cond.methodLink RX2 30 yX0_begin, Cond.instanceMethod yX0_begin, Cond.selects RX0 yX0_begin yX0_begin, Cond.code yX0_begin cX0_begin 2 none, Cond.fieldLink RX0 9 "SwingCranes$Start" "place" "I", Cond.fieldLink RX0 15 "SwingCranes$Crane" "place" "I", Cond.fieldLink RX0 18 "SwingCranes$Crane" "speed" "I", Cond.fieldLink RX0 21 "SwingCranes$Start" "rope" "I", Cond.fieldLink RX0 24 "SwingCranes$Crane" "rope" "I", Cond.fieldLink RX0 25 "SwingCranes$Start" "load" "I", Cond.fieldLink RX0 28 "SwingCranes$Crane" "load" "I", Cond.fieldLink RX0 29 "SwingCranes$Crane" "swing" "I", Cond.fieldLink RX0 32 "SwingCranes$Crane" "rate" "I", Cond.fieldLink RX0 35 "SwingCranes$Crane" "want" "I"]
def wsL_law_r6 : List Cond := [Cond.fieldLink RX0 38 "SwingCranes$Crane" "target" "I", Cond.fieldLink RX0 45 "SwingCranes$Crane" "braked" "Z", Cond.methodLink RX0 41 yX0_setSteps, Cond.instanceMethod yX0_setSteps, Cond.selects RX0 yX0_setSteps yX0_setSteps, Cond.code yX0_setSteps cX0_setSteps 4 none, Cond.fieldLink RX0 49 "SwingCranes$Crane" "soonIn" "I", Cond.fieldLink RX0 52 "SwingCranes$Crane" "soonBy" "I", Cond.fieldLink RX0 55 "SwingCranes$Crane" "laterIn" "I", Cond.fieldLink RX0 58 "SwingCranes$Crane" "laterBy" "I", Cond.methodLink RL 12 yX8_init, Cond.instanceMethod yX8_init, Cond.code yX8_init cX8_init 1 none, Cond.methodLink RX8 1 objectInit, Cond.fieldLink RX8 7 "SwingCranesModel" "now" "[I", Cond.fieldLink RX8 13 "SwingCranesModel" "read" "[I", Cond.fieldLink RX8 16 "SwingCranesModel" "aside" "[I", Cond.fieldLink RX8 19 "SwingCranesModel" "past" "[I", Cond.fieldLink RX8 22 "SwingCranesModel" "text" "[I", Cond.fieldLink RX8 25 "SwingCranesModel" "told" "[I", Cond.methodLink RX8 28 yX8_begins, Cond.instanceMethod yX8_begins, Cond.selects RX8 yX8_begins yX8_begins, Cond.code yX8_begins cX8_begins 2 none]
def wsL_law_r7 : List Cond := [Cond.methodLink RX8 34 yX8_puts, Cond.instanceMethod yX8_puts, Cond.selects RX8 yX8_puts yX8_puts, Cond.code yX8_puts cX8_puts 6 none, Cond.methodLink RX8 31 yX8_takes, Cond.instanceMethod yX8_takes, Cond.selects RX8 yX8_takes yX8_takes, Cond.code yX8_takes cX8_takes 2 none, Cond.fieldLink RX8 38 "SwingCranesModel" "changes" "I", Cond.methodLink RL 13 yX7_write, Cond.instanceMethod yX7_write, Cond.selects RX7 yX7_write yX7_write, Cond.code yX7_write cX7_write 2 (some .int), Cond.fieldLink RX7 68 "SwingCranes$Text" "length" "I", Cond.methodLink RX7 56 yX7_isWithin, Cond.static yX7_isWithin, Cond.code yX7_isWithin cX7_isWithin 3 (some .boolean), Cond.methodLink RX7 60 yX6_isFull, Cond.instanceMethod yX6_isFull, Cond.selects RX6 yX6_isFull yX6_isFull, Cond.code yX6_isFull cX6_isFull 1 (some .boolean), Cond.fieldLink RX6 15 "SwingCranes$Text" "length" "I", Cond.methodLink RX7 64 yX6_append, Cond.instanceMethod yX6_append]
def wsL_law_r8 : List Cond := [Cond.selects RX6 yX6_append yX6_append, Cond.code yX6_append cX6_append 2 none, Cond.methodLink RL 17 yX8_write, Cond.instanceMethod yX8_write, Cond.selects RX8 yX8_write yX8_write, Cond.code yX8_write cX8_write 2 (some .int), Cond.fieldLink RX8 45 "SwingCranesModel" "letters" "I", Cond.methodLink RX8 48 yX8_in, Cond.static yX8_in, Cond.code yX8_in cX8_in 3 (some .boolean), Cond.methodLink RL 18 yX7_wipe, Cond.instanceMethod yX7_wipe, Cond.selects RX7 yX7_wipe yX7_wipe, Cond.code yX7_wipe cX7_wipe 2 (some .int), Cond.methodLink RL 22 yX8_wipe, Cond.instanceMethod yX8_wipe, Cond.selects RX8 yX8_wipe yX8_wipe, Cond.code yX8_wipe cX8_wipe 2 (some .int), Cond.methodLink RL 23 yX7_fault, Cond.instanceMethod yX7_fault, Cond.selects RX7 yX7_fault yX7_fault, Cond.code yX7_fault cX7_fault 1 (some .int), Cond.methodLink RX7 72 yX6_readInto, Cond.instanceMethod yX6_readInto]
def wsL_law_r9 : List Cond := [Cond.selects RX6 yX6_readInto yX6_readInto, Cond.code yX6_readInto cX6_readInto 4 (some .int), Cond.fieldLink RX6 24 "SwingCranes$Text" "at" "I", Cond.methodLink RX6 19 yX1_setUsual, Cond.methodLink RX6 27 yX6_readItem, Cond.instanceMethod yX6_readItem, Cond.selects RX6 yX6_readItem yX6_readItem, Cond.code yX6_readItem cX6_readItem 3 (some .boolean), Cond.methodLink RX6 31 yX6_letterAt, Cond.instanceMethod yX6_letterAt, Cond.selects RX6 yX6_letterAt yX6_letterAt, Cond.code yX6_letterAt cX6_letterAt 2 (some .int), Cond.methodLink RX6 35 yX6_readEnd, Cond.instanceMethod yX6_readEnd, Cond.selects RX6 yX6_readEnd yX6_readEnd, Cond.code yX6_readEnd cX6_readEnd 2 (some .boolean), Cond.fieldLink RX6 51 "SwingCranes$Layout" "end" "I", Cond.methodLink RX6 47 yX6_readNumber, Cond.instanceMethod yX6_readNumber, Cond.selects RX6 yX6_readNumber yX6_readNumber, Cond.code yX6_readNumber cX6_readNumber 5 (some .int), Cond.methodLink RX6 38 yX6_readGap, Cond.instanceMethod yX6_readGap, Cond.selects RX6 yX6_readGap yX6_readGap]
def wsL_law_r10 : List Cond := [Cond.code yX6_readGap cX6_readGap 2 (some .boolean), Cond.fieldLink RX6 58 "SwingCranes$Layout" "gap" "I", Cond.methodLink RX6 41 yX6_readStart, Cond.instanceMethod yX6_readStart, Cond.selects RX6 yX6_readStart yX6_readStart, Cond.code yX6_readStart cX6_readStart 4 (some .boolean), Cond.fieldLink RX6 65 "SwingCranes$Layout" "left" "LSwingCranes$Start;", Cond.fieldLink RX6 69 "SwingCranes$Layout" "right" "LSwingCranes$Start;", Cond.fieldLink RX6 72 "SwingCranes$Start" "place" "I", Cond.fieldLink RX6 77 "SwingCranes$Start" "rope" "I", Cond.fieldLink RX6 80 "SwingCranes$Start" "load" "I", Cond.static yX7_isCrane, Cond.code yX7_isCrane cX7_isCrane 1 (some .boolean), Cond.static yX7_isRope, Cond.code yX7_isRope cX7_isRope 1 (some .boolean), Cond.methodLink RX6 44 yX6_readDrive, Cond.instanceMethod yX6_readDrive, Cond.selects RX6 yX6_readDrive yX6_readDrive, Cond.code yX6_readDrive cX6_readDrive 2 (some .boolean), Cond.fieldLink RX6 86 "SwingCranes$Layout" "change" "I", Cond.fieldLink RX6 89 "SwingCranes$Layout" "top" "I", Cond.fieldLink RX6 92 "SwingCranes$Layout" "hoist" "I", Cond.methodLink RL 26 yX8_fault, Cond.instanceMethod yX8_fault]
def wsL_law_r11 : List Cond := [Cond.selects RX8 yX8_fault yX8_fault, Cond.code yX8_fault cX8_fault 1 (some .int), Cond.methodLink RX8 76 yX8_reads, Cond.instanceMethod yX8_reads, Cond.selects RX8 yX8_reads yX8_reads, Cond.code yX8_reads cX8_reads 2 (some .int), Cond.fieldLink RX8 42 "SwingCranesModel" "spot0" "I", Cond.methodLink RX8 73 yX8_takesItem, Cond.instanceMethod yX8_takesItem, Cond.selects RX8 yX8_takesItem yX8_takesItem, Cond.code yX8_takesItem cX8_takesItem 2 (some .boolean), Cond.methodLink RX8 63 yX8_takesOne, Cond.instanceMethod yX8_takesOne, Cond.selects RX8 yX8_takesOne yX8_takesOne, Cond.code yX8_takesOne cX8_takesOne 5 (some .boolean), Cond.methodLink RX8 60 yX8_takesNumbers, Cond.instanceMethod yX8_takesNumbers, Cond.selects RX8 yX8_takesNumbers yX8_takesNumbers, Cond.code yX8_takesNumbers cX8_takesNumbers 4 (some .boolean), Cond.methodLink RX8 56 yX8_takesNumber, Cond.instanceMethod yX8_takesNumber, Cond.selects RX8 yX8_takesNumber yX8_takesNumber, Cond.code yX8_takesNumber cX8_takesNumber 3 (some .boolean), Cond.methodLink RX8 52 yX8_isAt]
def wsL_law_r12 : List Cond := [Cond.instanceMethod yX8_isAt, Cond.selects RX8 yX8_isAt yX8_isAt, Cond.code yX8_isAt cX8_isAt 3 (some .boolean), Cond.methodLink RX8 66 yX8_takesCrane, Cond.instanceMethod yX8_takesCrane, Cond.selects RX8 yX8_takesCrane yX8_takesCrane, Cond.code yX8_takesCrane cX8_takesCrane 2 (some .boolean), Cond.methodLink RX8 70 yX8_takesMost, Cond.instanceMethod yX8_takesMost, Cond.selects RX8 yX8_takesMost yX8_takesMost, Cond.code yX8_takesMost cX8_takesMost 3 (some .boolean), Cond.methodLink RL 27 yX7_lay, Cond.instanceMethod yX7_lay, Cond.selects RX7 yX7_lay yX7_lay, Cond.code yX7_lay cX7_lay 2 (some .int), Cond.fieldLink RX7 79 "SwingCranes" "undoable" "I", Cond.fieldLink RX7 82 "SwingCranes$Layout" "end" "I", Cond.methodLink RX7 76 yX1_holdsBoth, Cond.instanceMethod yX1_holdsBoth, Cond.selects RX1 yX1_holdsBoth yX1_holdsBoth, Cond.code yX1_holdsBoth cX1_holdsBoth 1 (some .boolean), Cond.fieldLink RX1 42 "SwingCranes$Start" "place" "I", Cond.methodLink RL 30 yX8_lay, Cond.instanceMethod yX8_lay]
def wsL_law_r13 : List Cond := [Cond.selects RX8 yX8_lay yX8_lay, Cond.code yX8_lay cX8_lay 4 (some .int), Cond.methodLink RL 31 yX7_command, Cond.instanceMethod yX7_command, Cond.selects RX7 yX7_command yX7_command, Cond.code yX7_command cX7_command 3 (some .int), Cond.fieldLink RX7 95 "SwingCranes$Story" "pair" "LSwingCranes$Pair;", Cond.methodLink RX7 85 yX7_isCrane, Cond.methodLink RX7 89 yX7_isSpeed, Cond.static yX7_isSpeed, Cond.code yX7_isSpeed cX7_isSpeed 1 (some .boolean), Cond.methodLink RX7 92 yX7_keepForUndo, Cond.instanceMethod yX7_keepForUndo, Cond.selects RX7 yX7_keepForUndo yX7_keepForUndo, Cond.code yX7_keepForUndo cX7_keepForUndo 2 none, Cond.methodLink RX7 239 Lib.Math.min.name, Cond.static Lib.Math.min.name, Cond.initialized "java/lang/Math", Cond.code Lib.Math.min.name Lib.Math.min.code 2 (some .int), Cond.methodLink RX7 236 yX5_copyFrom, Cond.instanceMethod yX5_copyFrom, Cond.selects RX5 yX5_copyFrom yX5_copyFrom, Cond.code yX5_copyFrom cX5_copyFrom 2 none, Cond.methodLink RX5 37 yX2_copyFrom]
def wsL_law_r14 : List Cond := [Cond.instanceMethod yX2_copyFrom, Cond.selects RX2 yX2_copyFrom yX2_copyFrom, Cond.code yX2_copyFrom cX2_copyFrom 2 none, Cond.methodLink RX2 36 yX0_copyFrom, Cond.instanceMethod yX0_copyFrom, Cond.selects RX0 yX0_copyFrom yX0_copyFrom, Cond.code yX0_copyFrom cX0_copyFrom 2 none, Cond.methodLink RX5 41 yX3_copyFrom, Cond.instanceMethod yX3_copyFrom, Cond.selects RX3 yX3_copyFrom yX3_copyFrom, Cond.code yX3_copyFrom cX3_copyFrom 3 none, Cond.fieldLink RX3 18 "SwingCranes$Spots" "many" "I", Cond.methodLink RX3 22 yX3_nameAt, Cond.instanceMethod yX3_nameAt, Cond.selects RX3 yX3_nameAt yX3_nameAt, Cond.code yX3_nameAt cX3_nameAt 2 (some .int), Cond.methodLink RX3 26 yX3_ticksAt, Cond.instanceMethod yX3_ticksAt, Cond.selects RX3 yX3_ticksAt yX3_ticksAt, Cond.code yX3_ticksAt cX3_ticksAt 2 (some .int), Cond.methodLink RX3 29 yX3_put, Cond.instanceMethod yX3_put, Cond.selects RX3 yX3_put yX3_put, Cond.code yX3_put cX3_put 4 none]
def wsL_law_r15 : List Cond := [Cond.methodLink RX7 98 yX2_tellAtOnce, Cond.instanceMethod yX2_tellAtOnce, Cond.selects RX2 yX2_tellAtOnce yX2_tellAtOnce, Cond.code yX2_tellAtOnce cX2_tellAtOnce 3 (some .int), Cond.methodLink RX2 50 yX2_leftHeeds, Cond.instanceMethod yX2_leftHeeds, Cond.selects RX2 yX2_leftHeeds yX2_leftHeeds, Cond.code yX2_leftHeeds cX2_leftHeeds 2 (some .boolean), Cond.methodLink RX2 46 yX2_isCoupled, Cond.instanceMethod yX2_isCoupled, Cond.selects RX2 yX2_isCoupled yX2_isCoupled, Cond.code yX2_isCoupled cX2_isCoupled 1 (some .boolean), Cond.methodLink RX2 54 yX0_planAtOnce, Cond.instanceMethod yX0_planAtOnce, Cond.selects RX0 yX0_planAtOnce yX0_planAtOnce, Cond.code yX0_planAtOnce cX0_planAtOnce 2 none, Cond.methodLink RX2 58 yX2_rightHeeds, Cond.instanceMethod yX2_rightHeeds, Cond.selects RX2 yX2_rightHeeds yX2_rightHeeds, Cond.code yX2_rightHeeds cX2_rightHeeds 2 (some .boolean), Cond.methodLink RX2 61 yX2_heeding, Cond.instanceMethod yX2_heeding, Cond.selects RX2 yX2_heeding yX2_heeding, Cond.code yX2_heeding cX2_heeding 1 (some .int)]
def wsL_law_r16 : List Cond := [Cond.methodLink RL 35 yX8_command, Cond.instanceMethod yX8_command, Cond.selects RX8 yX8_command yX8_command, Cond.code yX8_command cX8_command 3 (some .int), Cond.methodLink RX8 148 yX8_isCrane, Cond.static yX8_isCrane, Cond.code yX8_isCrane cX8_isCrane 1 (some .boolean), Cond.methodLink RX8 133 yX8_keeps, Cond.instanceMethod yX8_keeps, Cond.selects RX8 yX8_keeps yX8_keeps, Cond.code yX8_keeps cX8_keeps 2 none, Cond.methodLink RX8 151 yX8_commands, Cond.instanceMethod yX8_commands, Cond.selects RX8 yX8_commands yX8_commands, Cond.code yX8_commands cX8_commands 8 (some .int), Cond.methodLink RX8 142 yX8_heeds, Cond.instanceMethod yX8_heeds, Cond.selects RX8 yX8_heeds yX8_heeds, Cond.code yX8_heeds cX8_heeds 3 (some .boolean), Cond.methodLink RX8 88 yX8_tells, Cond.instanceMethod yX8_tells, Cond.selects RX8 yX8_tells yX8_tells, Cond.code yX8_tells cX8_tells 4 none, Cond.methodLink RX8 80 yX8_of]
def wsL_law_r17 : List Cond := [Cond.instanceMethod yX8_of, Cond.selects RX8 yX8_of yX8_of, Cond.code yX8_of cX8_of 3 (some .int), Cond.methodLink RX8 145 yX8_addsStep, Cond.instanceMethod yX8_addsStep, Cond.selects RX8 yX8_addsStep yX8_addsStep, Cond.code yX8_addsStep cX8_addsStep 5 none, Cond.methodLink RL 36 yX7_shape, Cond.instanceMethod yX7_shape, Cond.selects RX7 yX7_shape yX7_shape, Cond.code yX7_shape cX7_shape 4 (some .int), Cond.methodLink RX7 102 yX2_tellByHalves, Cond.instanceMethod yX2_tellByHalves, Cond.selects RX2 yX2_tellByHalves yX2_tellByHalves, Cond.code yX2_tellByHalves cX2_tellByHalves 4 (some .int), Cond.methodLink RX2 65 yX0_planByHalves, Cond.instanceMethod yX0_planByHalves, Cond.selects RX0 yX0_planByHalves yX0_planByHalves, Cond.code yX0_planByHalves cX0_planByHalves 5 none, Cond.static yX7_halfSwing, Cond.code yX7_halfSwing cX7_halfSwing 2 (some .int), Cond.methodLink RL 40 yX8_shape, Cond.instanceMethod yX8_shape, Cond.selects RX8 yX8_shape yX8_shape]
def wsL_law_r18 : List Cond := [Cond.code yX8_shape cX8_shape 4 (some .int), Cond.methodLink RX8 158 yX8_shapes, Cond.instanceMethod yX8_shapes, Cond.selects RX8 yX8_shapes yX8_shapes, Cond.code yX8_shapes cX8_shapes 6 (some .int), Cond.methodLink RX8 155 yX8_halfOf, Cond.static yX8_halfOf, Cond.code yX8_halfOf cX8_halfOf 2 (some .int), Cond.methodLink RL 41 yX7_target, Cond.instanceMethod yX7_target, Cond.selects RX7 yX7_target yX7_target, Cond.code yX7_target cX7_target 4 (some .int), Cond.fieldLink RX7 117 "SwingCranes$Crane" "target" "I", Cond.methodLink RX7 106 yX7_isRope, Cond.methodLink RX7 109 yX2_aimsAt, Cond.instanceMethod yX2_aimsAt, Cond.selects RX2 yX2_aimsAt yX2_aimsAt, Cond.code yX2_aimsAt cX2_aimsAt 3 (some .boolean), Cond.fieldLink RX2 69 "SwingCranes$Crane" "target" "I", Cond.methodLink RX7 113 yX2_side, Cond.instanceMethod yX2_side, Cond.selects RX2 yX2_side yX2_side, Cond.code yX2_side cX2_side 2 (some (.object "SwingCranes$Crane")), Cond.methodLink RX7 122 yX2_aim]
def wsL_law_r19 : List Cond := [Cond.instanceMethod yX2_aim, Cond.selects RX2 yX2_aim yX2_aim, Cond.code yX2_aim cX2_aim 3 none, Cond.methodLink RL 44 yX8_target, Cond.instanceMethod yX8_target, Cond.selects RX8 yX8_target yX8_target, Cond.code yX8_target cX8_target 6 (some .int), Cond.methodLink RL 45 yX7_load, Cond.instanceMethod yX7_load, Cond.selects RX7 yX7_load yX7_load, Cond.code yX7_load cX7_load 4 (some .int), Cond.fieldLink RX7 126 "SwingCranes$Crane" "load" "I", Cond.methodLink RL 48 yX8_load, Cond.instanceMethod yX8_load, Cond.selects RX8 yX8_load yX8_load, Cond.code yX8_load cX8_load 4 (some .int), Cond.methodLink RL 49 yX7_couple, Cond.instanceMethod yX7_couple, Cond.selects RX7 yX7_couple yX7_couple, Cond.code yX7_couple cX7_couple 4 (some .int), Cond.fieldLink RX7 129 "SwingCranes$Pair" "level" "I", Cond.methodLink RL 52 yX8_couple, Cond.instanceMethod yX8_couple, Cond.selects RX8 yX8_couple yX8_couple]
def wsL_law_r20 : List Cond := [Cond.code yX8_couple cX8_couple 4 (some .int), Cond.methodLink RL 53 yX7_tick, Cond.instanceMethod yX7_tick, Cond.selects RX7 yX7_tick yX7_tick, Cond.code yX7_tick cX7_tick 4 (some .int), Cond.fieldLink RX7 132 "SwingCranes$Story" "ticks" "I", Cond.methodLink RX7 135 yX5_goOn, Cond.instanceMethod yX5_goOn, Cond.selects RX5 yX5_goOn yX5_goOn, Cond.code yX5_goOn cX5_goOn 3 (some .int), Cond.fieldLink RX5 48 "SwingCranes$Pair" "left" "LSwingCranes$Crane;", Cond.fieldLink RX5 56 "SwingCranes$Pair" "right" "LSwingCranes$Crane;", Cond.methodLink RX5 44 yX2_goOn, Cond.instanceMethod yX2_goOn, Cond.selects RX2 yX2_goOn yX2_goOn, Cond.code yX2_goOn cX2_goOn 3 (some .int), Cond.fieldLink RX2 40 "SwingCranes$Crane" "place" "I", Cond.fieldLink RX2 80 "SwingCranes$Layout" "end" "I", Cond.fieldLink RX2 83 "SwingCranes$Layout" "hoist" "I", Cond.fieldLink RX2 86 "SwingCranes$Crane" "rope" "I", Cond.fieldLink RX2 93 "SwingCranes$Crane" "braked" "Z", Cond.methodLink RX2 72 yX2_freeBetween, Cond.instanceMethod yX2_freeBetween, Cond.selects RX2 yX2_freeBetween yX2_freeBetween]
def wsL_law_r21 : List Cond := [Cond.code yX2_freeBetween cX2_freeBetween 2 (some .int), Cond.fieldLink RX2 43 "SwingCranes$Layout" "gap" "I", Cond.methodLink RX2 76 yX0_roll, Cond.instanceMethod yX0_roll, Cond.selects RX0 yX0_roll yX0_roll, Cond.code yX0_roll cX0_roll 6 none, Cond.fieldLink RX0 94 "SwingCranes$Layout" "change" "I", Cond.methodLink RX0 87 yX0_takeSteps, Cond.instanceMethod yX0_takeSteps, Cond.selects RX0 yX0_takeSteps yX0_takeSteps, Cond.code yX0_takeSteps cX0_takeSteps 1 none, Cond.methodLink RX0 90 yX0_speedNearerToWant, Cond.instanceMethod yX0_speedNearerToWant, Cond.selects RX0 yX0_speedNearerToWant yX0_speedNearerToWant, Cond.code yX0_speedNearerToWant cX0_speedNearerToWant 3 (some .int), Cond.methodLink RX0 108 yX0_limit, Cond.instanceMethod yX0_limit, Cond.selects RX0 yX0_limit yX0_limit, Cond.code yX0_limit cX0_limit 2 (some .int), Cond.fieldLink RX0 69 "SwingCranes$Layout" "top" "I", Cond.methodLink RX0 74 Lib.Math.max.name, Cond.static Lib.Math.max.name, Cond.code Lib.Math.max.name Lib.Math.max.code 2 (some .int), Cond.static yX7_keptWithin]
def wsL_law_r22 : List Cond := [Cond.code yX7_keptWithin cX7_keptWithin 2 (some .int), Cond.methodLink RX7 214 Lib.Math.max.name, Cond.static yX7_wayToStop, Cond.code yX7_wayToStop cX7_wayToStop 4 (some .int), Cond.methodLink RX7 209 Lib.Math.abs.name, Cond.static Lib.Math.abs.name, Cond.code Lib.Math.abs.name Lib.Math.abs.code 1 (some .int), Cond.methodLink RX0 100 yX0_speedForRoom, Cond.instanceMethod yX0_speedForRoom, Cond.selects RX0 yX0_speedForRoom yX0_speedForRoom, Cond.code yX0_speedForRoom cX0_speedForRoom 6 (some .int), Cond.methodLink RX0 84 Lib.Math.abs.name, Cond.methodLink RX0 104 yX0_swingOut, Cond.instanceMethod yX0_swingOut, Cond.selects RX0 yX0_swingOut yX0_swingOut, Cond.code yX0_swingOut cX0_swingOut 3 none, Cond.methodLink RX2 89 yX0_hoistRope, Cond.instanceMethod yX0_hoistRope, Cond.selects RX0 yX0_hoistRope yX0_hoistRope, Cond.code yX0_hoistRope cX0_hoistRope 6 none, Cond.methodLink RX5 52 yX3_addTick, Cond.instanceMethod yX3_addTick, Cond.selects RX3 yX3_addTick yX3_addTick, Cond.code yX3_addTick cX3_addTick 4 none]
def wsL_law_r23 : List Cond := [Cond.fieldLink RX3 33 "SwingCranes$Crane" "place" "I", Cond.fieldLink RX3 38 "SwingCranes$Crane" "rope" "I", Cond.methodLink RX3 41 yX3_nameOf, Cond.instanceMethod yX3_nameOf, Cond.selects RX3 yX3_nameOf yX3_nameOf, Cond.code yX3_nameOf cX3_nameOf 3 (some .int), Cond.methodLink RX3 45 yX3_find, Cond.instanceMethod yX3_find, Cond.selects RX3 yX3_find yX3_find, Cond.code yX3_find cX3_find 3 (some .int), Cond.methodLink RL 56 yX8_tick, Cond.instanceMethod yX8_tick, Cond.selects RX8 yX8_tick yX8_tick, Cond.code yX8_tick cX8_tick 5 (some .int), Cond.methodLink RX8 136 yX8_goesBy, Cond.instanceMethod yX8_goesBy, Cond.selects RX8 yX8_goesBy yX8_goesBy, Cond.code yX8_goesBy cX8_goesBy 5 (some .int), Cond.methodLink RX8 107 yX8_stepsCome, Cond.instanceMethod yX8_stepsCome, Cond.selects RX8 yX8_stepsCome yX8_stepsCome, Cond.code yX8_stepsCome cX8_stepsCome 7 none, Cond.methodLink RX8 111 yX8_wanted, Cond.instanceMethod yX8_wanted]
def wsL_law_r24 : List Cond := [Cond.selects RX8 yX8_wanted yX8_wanted, Cond.code yX8_wanted cX8_wanted 6 (some .int), Cond.methodLink RX8 92 yX8_limitOf, Cond.instanceMethod yX8_limitOf, Cond.selects RX8 yX8_limitOf yX8_limitOf, Cond.code yX8_limitOf cX8_limitOf 3 (some .int), Cond.methodLink RX8 114 yX8_braked, Cond.instanceMethod yX8_braked, Cond.selects RX8 yX8_braked yX8_braked, Cond.code yX8_braked cX8_braked 5 (some .int), Cond.methodLink RX8 98 yX8_roomFor, Cond.instanceMethod yX8_roomFor, Cond.selects RX8 yX8_roomFor yX8_roomFor, Cond.code yX8_roomFor cX8_roomFor 3 (some .int), Cond.methodLink RX8 95 yX8_free, Cond.instanceMethod yX8_free, Cond.selects RX8 yX8_free yX8_free, Cond.code yX8_free cX8_free 1 (some .int), Cond.methodLink RX8 101 yX8_stopBy, Cond.instanceMethod yX8_stopBy, Cond.selects RX8 yX8_stopBy yX8_stopBy, Cond.code yX8_stopBy cX8_stopBy 4 (some .int), Cond.methodLink RX8 84 yX8_size, Cond.static yX8_size]
def wsL_law_r25 : List Cond := [Cond.code yX8_size cX8_size 1 (some .int), Cond.methodLink RX8 117 yX8_goes, Cond.instanceMethod yX8_goes, Cond.selects RX8 yX8_goes yX8_goes, Cond.code yX8_goes cX8_goes 4 none, Cond.methodLink RX8 104 yX8_kept, Cond.static yX8_kept, Cond.code yX8_kept cX8_kept 1 (some .int), Cond.methodLink RX8 121 yX8_hoists, Cond.instanceMethod yX8_hoists, Cond.selects RX8 yX8_hoists yX8_hoists, Cond.code yX8_hoists cX8_hoists 7 none, Cond.methodLink RX8 139 yX8_counts, Cond.instanceMethod yX8_counts, Cond.selects RX8 yX8_counts yX8_counts, Cond.code yX8_counts cX8_counts 5 none, Cond.methodLink RX8 124 yX8_spotPlace, Cond.static yX8_spotPlace, Cond.code yX8_spotPlace cX8_spotPlace 1 (some .int), Cond.methodLink RX8 127 yX8_spotCode, Cond.instanceMethod yX8_spotCode, Cond.selects RX8 yX8_spotCode yX8_spotCode, Cond.code yX8_spotCode cX8_spotCode 2 (some .int), Cond.methodLink RX8 130 yX8_spotIndex]
def wsL_law_r26 : List Cond := [Cond.instanceMethod yX8_spotIndex, Cond.selects RX8 yX8_spotIndex yX8_spotIndex, Cond.code yX8_spotIndex cX8_spotIndex 5 (some .int), Cond.methodLink RL 57 yX7_undo, Cond.instanceMethod yX7_undo, Cond.selects RX7 yX7_undo yX7_undo, Cond.code yX7_undo cX7_undo 2 (some .int), Cond.methodLink RL 60 yX8_undo, Cond.instanceMethod yX8_undo, Cond.selects RX8 yX8_undo yX8_undo, Cond.code yX8_undo cX8_undo 2 (some .int), Cond.methodLink RL 61 yX7_crane, Cond.instanceMethod yX7_crane, Cond.selects RX7 yX7_crane yX7_crane, Cond.code yX7_crane cX7_crane 4 (some .int), Cond.fieldLink RX7 138 "SwingCranes$Crane" "place" "I", Cond.fieldLink RX7 141 "SwingCranes$Crane" "speed" "I", Cond.constant RX7 144 (100000), Cond.fieldLink RX7 145 "SwingCranes$Crane" "rope" "I", Cond.fieldLink RX7 148 "SwingCranes$Crane" "swing" "I", Cond.fieldLink RX7 151 "SwingCranes$Crane" "rate" "I", Cond.fieldLink RX7 154 "SwingCranes$Crane" "want" "I", Cond.fieldLink RX7 164 "SwingCranes$Layout" "change" "I", Cond.methodLink RX7 157 yX0_limit]
def wsL_law_r27 : List Cond := [Cond.methodLink RX7 160 yX0_stepsToCome, Cond.instanceMethod yX0_stepsToCome, Cond.selects RX0 yX0_stepsToCome yX0_stepsToCome, Cond.code yX0_stepsToCome cX0_stepsToCome 1 (some .int), Cond.methodLink RX7 167 yX7_wayToStop, Cond.methodLink RX7 170 yX7_halfSwing, Cond.methodLink RX7 174 yX0_isQuiet, Cond.instanceMethod yX0_isQuiet, Cond.selects RX0 yX0_isQuiet yX0_isQuiet, Cond.code yX0_isQuiet cX0_isQuiet 1 (some .boolean), Cond.methodLink RX0 80 yX0_stepsToCome, Cond.methodLink RL 64 yX8_crane, Cond.instanceMethod yX8_crane, Cond.selects RX8 yX8_crane yX8_crane, Cond.code yX8_crane cX8_crane 3 (some .int), Cond.constant RX8 161 (100000), Cond.methodLink RX8 162 yX8_isQuiet, Cond.instanceMethod yX8_isQuiet, Cond.selects RX8 yX8_isQuiet yX8_isQuiet, Cond.code yX8_isQuiet cX8_isQuiet 3 (some .int), Cond.methodLink RL 65 yX7_stepOf, Cond.instanceMethod yX7_stepOf, Cond.selects RX7 yX7_stepOf yX7_stepOf, Cond.code yX7_stepOf cX7_stepOf 5 (some .int)]
def wsL_law_r28 : List Cond := [Cond.methodLink RX7 177 yX0_stepIn, Cond.instanceMethod yX0_stepIn, Cond.selects RX0 yX0_stepIn yX0_stepIn, Cond.code yX0_stepIn cX0_stepIn 2 (some .int), Cond.methodLink RX0 65 yX0_isSoon, Cond.instanceMethod yX0_isSoon, Cond.selects RX0 yX0_isSoon yX0_isSoon, Cond.code yX0_isSoon cX0_isSoon 2 (some .boolean), Cond.methodLink RX7 180 yX0_stepBy, Cond.instanceMethod yX0_stepBy, Cond.selects RX0 yX0_stepBy yX0_stepBy, Cond.code yX0_stepBy cX0_stepBy 2 (some .int), Cond.methodLink RL 68 yX8_stepOf, Cond.instanceMethod yX8_stepOf, Cond.selects RX8 yX8_stepOf yX8_stepOf, Cond.code yX8_stepOf cX8_stepOf 4 (some .int), Cond.methodLink RL 69 yX7_stop, Cond.instanceMethod yX7_stop, Cond.selects RX7 yX7_stop yX7_stop, Cond.code yX7_stop cX7_stop 2 (some .int), Cond.methodLink RL 72 yX8_stop, Cond.instanceMethod yX8_stop, Cond.selects RX8 yX8_stop yX8_stop, Cond.code yX8_stop cX8_stop 2 (some .int)]
def wsL_law_r29 : List Cond := [Cond.methodLink RL 73 yX7_half, Cond.instanceMethod yX7_half, Cond.selects RX7 yX7_half yX7_half, Cond.code yX7_half cX7_half 2 (some .int), Cond.methodLink RL 76 yX8_half, Cond.instanceMethod yX8_half, Cond.selects RX8 yX8_half yX8_half, Cond.code yX8_half cX8_half 2 (some .int), Cond.methodLink RL 77 yX7_spot, Cond.instanceMethod yX7_spot, Cond.selects RX7 yX7_spot yX7_spot, Cond.code yX7_spot cX7_spot 5 (some .int), Cond.fieldLink RX7 187 "SwingCranes$Spots" "many" "I", Cond.methodLink RX7 183 yX5_spotsOf, Cond.instanceMethod yX5_spotsOf, Cond.selects RX5 yX5_spotsOf yX5_spotsOf, Cond.code yX5_spotsOf cX5_spotsOf 2 (some (.object "SwingCranes$Spots")), Cond.methodLink RX7 192 yX3_blockAt, Cond.instanceMethod yX3_blockAt, Cond.selects RX3 yX3_blockAt yX3_blockAt, Cond.code yX3_blockAt cX3_blockAt 2 (some .int), Cond.methodLink RX7 195 yX3_floorAt, Cond.instanceMethod yX3_floorAt, Cond.selects RX3 yX3_floorAt yX3_floorAt]
def wsL_law_r30 : List Cond := [Cond.code yX3_floorAt cX3_floorAt 2 (some .int), Cond.methodLink RX7 198 yX3_ticksAt, Cond.methodLink RL 80 yX8_spot, Cond.instanceMethod yX8_spot, Cond.selects RX8 yX8_spot yX8_spot, Cond.code yX8_spot cX8_spot 6 (some .int), Cond.methodLink RL 81 yX7_been, Cond.instanceMethod yX7_been, Cond.selects RX7 yX7_been yX7_been, Cond.code yX7_been cX7_been 4 (some .int), Cond.methodLink RX7 201 yX3_ticksIn, Cond.instanceMethod yX3_ticksIn, Cond.selects RX3 yX3_ticksIn yX3_ticksIn, Cond.code yX3_ticksIn cX3_ticksIn 3 (some .int), Cond.methodLink RL 84 yX8_been, Cond.instanceMethod yX8_been, Cond.selects RX8 yX8_been yX8_been, Cond.code yX8_been cX8_been 6 (some .int), Cond.methodLink RL 85 yX7_ahead, Cond.instanceMethod yX7_ahead, Cond.selects RX7 yX7_ahead yX7_ahead, Cond.code yX7_ahead cX7_ahead 8 (some .int), Cond.fieldLink RX7 217 "SwingCranes$Crane" "braked" "Z", Cond.methodLink RX7 204 yX2_copyFrom]
def wsL_law_r31 : List Cond := [Cond.methodLink RX7 208 yX2_goOn, Cond.methodLink RL 88 yX8_ahead, Cond.instanceMethod yX8_ahead, Cond.selects RX8 yX8_ahead yX8_ahead, Cond.code yX8_ahead cX8_ahead 7 (some .int), Cond.methodLink RX8 165 yX8_laysAside, Cond.instanceMethod yX8_laysAside, Cond.selects RX8 yX8_laysAside yX8_laysAside, Cond.code yX8_laysAside cX8_laysAside 2 none, Cond.methodLink RX8 168 yX8_answer, Cond.instanceMethod yX8_answer, Cond.selects RX8 yX8_answer yX8_answer, Cond.code yX8_answer cX8_answer 5 (some .int), Cond.methodLink RX8 172 yX8_comesBack, Cond.instanceMethod yX8_comesBack, Cond.selects RX8 yX8_comesBack yX8_comesBack, Cond.code yX8_comesBack cX8_comesBack 2 none, Cond.methodLink RL 89 yX7_quiet, Cond.instanceMethod yX7_quiet, Cond.selects RX7 yX7_quiet yX7_quiet, Cond.code yX7_quiet cX7_quiet 4 (some .int), Cond.methodLink RL 92 yX8_quiet, Cond.instanceMethod yX8_quiet, Cond.selects RX8 yX8_quiet yX8_quiet]
def wsL_law_r32 : List Cond := [Cond.code yX8_quiet cX8_quiet 4 (some .int), Cond.methodLink RL 93 yX7_best, Cond.instanceMethod yX7_best, Cond.selects RX7 yX7_best yX7_best, Cond.code yX7_best cX7_best 8 (some .int), Cond.methodLink RX7 221 yX7_swingWithPause, Cond.instanceMethod yX7_swingWithPause, Cond.selects RX7 yX7_swingWithPause yX7_swingWithPause, Cond.code yX7_swingWithPause cX7_swingWithPause 7 (some .int), Cond.methodLink RL 96 yX8_best, Cond.instanceMethod yX8_best, Cond.selects RX8 yX8_best yX8_best, Cond.code yX8_best cX8_best 8 (some .int), Cond.methodLink RX8 175 yX8_swingsBy, Cond.instanceMethod yX8_swingsBy, Cond.selects RX8 yX8_swingsBy yX8_swingsBy, Cond.code yX8_swingsBy cX8_swingsBy 6 (some .int), Cond.methodLink RL 97 yX7_count, Cond.instanceMethod yX7_count, Cond.selects RX7 yX7_count yX7_count, Cond.code yX7_count cX7_count 2 (some .int), Cond.fieldLink RX7 224 "SwingCranes$Layout" "gap" "I", Cond.fieldLink RX7 227 "SwingCranes$Layout" "top" "I", Cond.fieldLink RX7 230 "SwingCranes$Layout" "hoist" "I"]
def wsL_law_r33 : List Cond := [Cond.methodLink RX7 233 yX2_freeBetween, Cond.methodLink RL 100 yX8_count, Cond.instanceMethod yX8_count, Cond.selects RX8 yX8_count yX8_count, Cond.code yX8_count cX8_count 2 (some .int)]
def wsL_law : List Cond := (wsL_law_r1 ++ (wsL_law_r2 ++ (wsL_law_r3 ++ (wsL_law_r4 ++ (wsL_law_r5 ++ (wsL_law_r6 ++ (wsL_law_r7 ++ (wsL_law_r8 ++ (wsL_law_r9 ++ (wsL_law_r10 ++ (wsL_law_r11 ++ (wsL_law_r12 ++ (wsL_law_r13 ++ (wsL_law_r14 ++ (wsL_law_r15 ++ (wsL_law_r16 ++ (wsL_law_r17 ++ (wsL_law_r18 ++ (wsL_law_r19 ++ (wsL_law_r20 ++ (wsL_law_r21 ++ (wsL_law_r22 ++ (wsL_law_r23 ++ (wsL_law_r24 ++ (wsL_law_r25 ++ (wsL_law_r26 ++ (wsL_law_r27 ++ (wsL_law_r28 ++ (wsL_law_r29 ++ (wsL_law_r30 ++ (wsL_law_r31 ++ (wsL_law_r32 ++ wsL_law_r33)))))))))))))))))))))))))))))))) ++ wsX70 ++ wsX80 ++ wsX60 ++ wsX20 ++ wsX10 ++ wsX50 ++ wsX00 ++ wsX40 ++ wsX30 ++ ([] : List Cond)
set_option maxRecDepth 20000 in
theorem wsL_law_in : ∀ w ∈ wsL_law, w ∈ lw_tbl := fun w h => (goodIn_p wsL_law [53, 56, 61, 79, 85, 159, 165, 187, 191, 237, 245, 278, 282, 286, 290, 667, 672, 676, 680, 325, 328, 332, 336, 712, 715, 340, 719, 344, 348, 353, 357, 361, 365, 370, 374, 377, 380, 384, 723, 727, 731, 735, 739, 743, 747, 751, 755, 388, 392, 759, 396, 400, 404, 435, 408, 412, 416, 420, 424, 428, 432, 439, 443, 447, 451, 455, 459, 844, 847, 771, 851, 855, 787, 783, 859, 463, 467, 471, 474, 863, 867, 870, 478, 483, 487, 491, 874, 495, 878, 499, 882, 503, 507, 511, 515, 519, 523, 527, 531, 534, 537, 541, 544, 548, 553, 557, 561, 565, 569, 767, 775, 779, 791, 795, 799, 803, 807, 811, 814, 818, 821, 825, 829, 832, 836, 840, 573, 763, 577, 583, 589, 886, 891, 594, 598, 602, 606, 895, 610, 899, 614, 903, 618, 622, 626, 630, 907, 635, 639, 911, 643, 915, 919, 923, 927, 649, 931, 653, 657, 935, 939, 661, 943] (by decide +kernel) (by decide +kernel) w h).1
theorem inlX0 : ∀ w ∈ wsX00, w ∈ wsL_law := fun _ h => List.mem_append_left _ (List.mem_append_left _ (List.mem_append_left _ (List.mem_append_right _ h)))
theorem inX0 : ∀ w ∈ wsX00, w ∈ lw_tbl := fun w h => wsL_law_in w (inlX0 w h)
theorem inlX1 : ∀ w ∈ wsX10, w ∈ wsL_law := fun _ h => List.mem_append_left _ (List.mem_append_left _ (List.mem_append_left _ (List.mem_append_left _ (List.mem_append_left _ (List.mem_append_right _ h)))))
theorem inX1 : ∀ w ∈ wsX10, w ∈ lw_tbl := fun w h => wsL_law_in w (inlX1 w h)
theorem inlX2 : ∀ w ∈ wsX20, w ∈ wsL_law := fun _ h => List.mem_append_left _ (List.mem_append_left _ (List.mem_append_left _ (List.mem_append_left _ (List.mem_append_left _ (List.mem_append_left _ (List.mem_append_right _ h))))))
theorem inX2 : ∀ w ∈ wsX20, w ∈ lw_tbl := fun w h => wsL_law_in w (inlX2 w h)
theorem inlX3 : ∀ w ∈ wsX30, w ∈ wsL_law := fun _ h => List.mem_append_left _ (List.mem_append_right _ h)
theorem inX3 : ∀ w ∈ wsX30, w ∈ lw_tbl := fun w h => wsL_law_in w (inlX3 w h)
theorem inlX4 : ∀ w ∈ wsX40, w ∈ wsL_law := fun _ h => List.mem_append_left _ (List.mem_append_left _ (List.mem_append_right _ h))
theorem inX4 : ∀ w ∈ wsX40, w ∈ lw_tbl := fun w h => wsL_law_in w (inlX4 w h)
theorem inlX5 : ∀ w ∈ wsX50, w ∈ wsL_law := fun _ h => List.mem_append_left _ (List.mem_append_left _ (List.mem_append_left _ (List.mem_append_left _ (List.mem_append_right _ h))))
theorem inX5 : ∀ w ∈ wsX50, w ∈ lw_tbl := fun w h => wsL_law_in w (inlX5 w h)
theorem inlX6 : ∀ w ∈ wsX60, w ∈ wsL_law := fun _ h => List.mem_append_left _ (List.mem_append_left _ (List.mem_append_left _ (List.mem_append_left _ (List.mem_append_left _ (List.mem_append_left _ (List.mem_append_left _ (List.mem_append_right _ h)))))))
theorem inX6 : ∀ w ∈ wsX60, w ∈ lw_tbl := fun w h => wsL_law_in w (inlX6 w h)
theorem inlX7 : ∀ w ∈ wsX70, w ∈ wsL_law := fun _ h => List.mem_append_left _ (List.mem_append_left _ (List.mem_append_left _ (List.mem_append_left _ (List.mem_append_left _ (List.mem_append_left _ (List.mem_append_left _ (List.mem_append_left _ (List.mem_append_left _ (List.mem_append_right _ h)))))))))
theorem inX7 : ∀ w ∈ wsX70, w ∈ lw_tbl := fun w h => wsL_law_in w (inlX7 w h)
theorem inlX8 : ∀ w ∈ wsX80, w ∈ wsL_law := fun _ h => List.mem_append_left _ (List.mem_append_left _ (List.mem_append_left _ (List.mem_append_left _ (List.mem_append_left _ (List.mem_append_left _ (List.mem_append_left _ (List.mem_append_left _ (List.mem_append_right _ h))))))))
theorem inX8 : ∀ w ∈ wsX80, w ∈ lw_tbl := fun w h => wsL_law_in w (inlX8 w h)
theorem inJ9 : ∀ w ∈ wsJ90, w ∈ lw_tbl := by decide +kernel
theorem dX0_init_0 : decode cX0_init 0 = .ok (.aload_n 0, 1) := by decide +kernel
theorem dX0_init_1 : decode cX0_init 1 = .ok (.invokespecial 3, 3) := by decide +kernel
theorem dX0_init_4 : decode cX0_init 4 = .ok (.return_, 1) := by decide +kernel
set_option maxRecDepth 20000 in
theorem ggX0_begin_X0_setSteps : GoodIn wsX0_begin wsX0_setSteps := goodIn_r _ [17, 18, 19, 20, 21, 25, 26, 27, 28, 29, 30, 31, 32, 33, 34, 35, 36, 37] (by decide +kernel) (by decide +kernel)
set_option maxRecDepth 20000 in
theorem gX0_begin_X0_setSteps : GoodIn wsX0_begin (wsV RX0 41 RX0 yX0_setSteps wsX0_setSteps) := goodIn_app (goodIn_of _ (by decide +kernel)) ggX0_begin_X0_setSteps
theorem dX0_begin_0 : decode cX0_begin 0 = .ok (.aload_n 0, 1) := by decide +kernel
theorem dX0_begin_1 : decode cX0_begin 1 = .ok (.aload_n 1, 1) := by decide +kernel
theorem dX0_begin_2 : decode cX0_begin 2 = .ok (.getfield 9, 3) := by decide +kernel
theorem dX0_begin_5 : decode cX0_begin 5 = .ok (.putfield 15, 3) := by decide +kernel
theorem dX0_begin_8 : decode cX0_begin 8 = .ok (.aload_n 0, 1) := by decide +kernel
theorem dX0_begin_9 : decode cX0_begin 9 = .ok (.iconst 0, 1) := by decide +kernel
theorem dX0_begin_10 : decode cX0_begin 10 = .ok (.putfield 18, 3) := by decide +kernel
theorem dX0_begin_13 : decode cX0_begin 13 = .ok (.aload_n 0, 1) := by decide +kernel
theorem dX0_begin_14 : decode cX0_begin 14 = .ok (.aload_n 1, 1) := by decide +kernel
theorem dX0_begin_15 : decode cX0_begin 15 = .ok (.getfield 21, 3) := by decide +kernel
theorem dX0_begin_18 : decode cX0_begin 18 = .ok (.putfield 24, 3) := by decide +kernel
theorem dX0_begin_21 : decode cX0_begin 21 = .ok (.aload_n 0, 1) := by decide +kernel
theorem dX0_begin_22 : decode cX0_begin 22 = .ok (.aload_n 1, 1) := by decide +kernel
theorem dX0_begin_23 : decode cX0_begin 23 = .ok (.getfield 25, 3) := by decide +kernel
theorem dX0_begin_26 : decode cX0_begin 26 = .ok (.putfield 28, 3) := by decide +kernel
theorem dX0_begin_29 : decode cX0_begin 29 = .ok (.aload_n 0, 1) := by decide +kernel
theorem dX0_begin_30 : decode cX0_begin 30 = .ok (.iconst 0, 1) := by decide +kernel
theorem dX0_begin_31 : decode cX0_begin 31 = .ok (.putfield 29, 3) := by decide +kernel
theorem dX0_begin_34 : decode cX0_begin 34 = .ok (.aload_n 0, 1) := by decide +kernel
theorem dX0_begin_35 : decode cX0_begin 35 = .ok (.iconst 0, 1) := by decide +kernel
theorem dX0_begin_36 : decode cX0_begin 36 = .ok (.putfield 32, 3) := by decide +kernel
theorem dX0_begin_39 : decode cX0_begin 39 = .ok (.aload_n 0, 1) := by decide +kernel
theorem dX0_begin_40 : decode cX0_begin 40 = .ok (.iconst 0, 1) := by decide +kernel
theorem dX0_begin_41 : decode cX0_begin 41 = .ok (.putfield 35, 3) := by decide +kernel
theorem dX0_begin_44 : decode cX0_begin 44 = .ok (.aload_n 0, 1) := by decide +kernel
theorem dX0_begin_45 : decode cX0_begin 45 = .ok (.aload_n 1, 1) := by decide +kernel
theorem dX0_begin_46 : decode cX0_begin 46 = .ok (.getfield 21, 3) := by decide +kernel
theorem dX0_begin_49 : decode cX0_begin 49 = .ok (.putfield 38, 3) := by decide +kernel
theorem dX0_begin_52 : decode cX0_begin 52 = .ok (.aload_n 0, 1) := by decide +kernel
theorem dX0_begin_53 : decode cX0_begin 53 = .ok (.iconst 0, 1) := by decide +kernel
theorem dX0_begin_54 : decode cX0_begin 54 = .ok (.iconst 0, 1) := by decide +kernel
theorem dX0_begin_55 : decode cX0_begin 55 = .ok (.iconst 0, 1) := by decide +kernel
theorem dX0_begin_56 : decode cX0_begin 56 = .ok (.invokevirtual 41, 3) := by decide +kernel
theorem dX0_begin_59 : decode cX0_begin 59 = .ok (.aload_n 0, 1) := by decide +kernel
theorem dX0_begin_60 : decode cX0_begin 60 = .ok (.iconst 0, 1) := by decide +kernel
theorem dX0_begin_61 : decode cX0_begin 61 = .ok (.putfield 45, 3) := by decide +kernel
theorem dX0_begin_64 : decode cX0_begin 64 = .ok (.return_, 1) := by decide +kernel
theorem dX0_copyFrom_0 : decode cX0_copyFrom 0 = .ok (.aload_n 0, 1) := by decide +kernel
theorem dX0_copyFrom_1 : decode cX0_copyFrom 1 = .ok (.aload_n 1, 1) := by decide +kernel
theorem dX0_copyFrom_2 : decode cX0_copyFrom 2 = .ok (.getfield 15, 3) := by decide +kernel
theorem dX0_copyFrom_5 : decode cX0_copyFrom 5 = .ok (.putfield 15, 3) := by decide +kernel
theorem dX0_copyFrom_8 : decode cX0_copyFrom 8 = .ok (.aload_n 0, 1) := by decide +kernel
theorem dX0_copyFrom_9 : decode cX0_copyFrom 9 = .ok (.aload_n 1, 1) := by decide +kernel
theorem dX0_copyFrom_10 : decode cX0_copyFrom 10 = .ok (.getfield 18, 3) := by decide +kernel
theorem dX0_copyFrom_13 : decode cX0_copyFrom 13 = .ok (.putfield 18, 3) := by decide +kernel
theorem dX0_copyFrom_16 : decode cX0_copyFrom 16 = .ok (.aload_n 0, 1) := by decide +kernel
theorem dX0_copyFrom_17 : decode cX0_copyFrom 17 = .ok (.aload_n 1, 1) := by decide +kernel
theorem dX0_copyFrom_18 : decode cX0_copyFrom 18 = .ok (.getfield 24, 3) := by decide +kernel
theorem dX0_copyFrom_21 : decode cX0_copyFrom 21 = .ok (.putfield 24, 3) := by decide +kernel
theorem dX0_copyFrom_24 : decode cX0_copyFrom 24 = .ok (.aload_n 0, 1) := by decide +kernel
theorem dX0_copyFrom_25 : decode cX0_copyFrom 25 = .ok (.aload_n 1, 1) := by decide +kernel
theorem dX0_copyFrom_26 : decode cX0_copyFrom 26 = .ok (.getfield 28, 3) := by decide +kernel
theorem dX0_copyFrom_29 : decode cX0_copyFrom 29 = .ok (.putfield 28, 3) := by decide +kernel
theorem dX0_copyFrom_32 : decode cX0_copyFrom 32 = .ok (.aload_n 0, 1) := by decide +kernel
theorem dX0_copyFrom_33 : decode cX0_copyFrom 33 = .ok (.aload_n 1, 1) := by decide +kernel
theorem dX0_copyFrom_34 : decode cX0_copyFrom 34 = .ok (.getfield 29, 3) := by decide +kernel
theorem dX0_copyFrom_37 : decode cX0_copyFrom 37 = .ok (.putfield 29, 3) := by decide +kernel
theorem dX0_copyFrom_40 : decode cX0_copyFrom 40 = .ok (.aload_n 0, 1) := by decide +kernel
theorem dX0_copyFrom_41 : decode cX0_copyFrom 41 = .ok (.aload_n 1, 1) := by decide +kernel
theorem dX0_copyFrom_42 : decode cX0_copyFrom 42 = .ok (.getfield 32, 3) := by decide +kernel
theorem dX0_copyFrom_45 : decode cX0_copyFrom 45 = .ok (.putfield 32, 3) := by decide +kernel
theorem dX0_copyFrom_48 : decode cX0_copyFrom 48 = .ok (.aload_n 0, 1) := by decide +kernel
theorem dX0_copyFrom_49 : decode cX0_copyFrom 49 = .ok (.aload_n 1, 1) := by decide +kernel
theorem dX0_copyFrom_50 : decode cX0_copyFrom 50 = .ok (.getfield 35, 3) := by decide +kernel
theorem dX0_copyFrom_53 : decode cX0_copyFrom 53 = .ok (.putfield 35, 3) := by decide +kernel
theorem dX0_copyFrom_56 : decode cX0_copyFrom 56 = .ok (.aload_n 0, 1) := by decide +kernel
theorem dX0_copyFrom_57 : decode cX0_copyFrom 57 = .ok (.aload_n 1, 1) := by decide +kernel
theorem dX0_copyFrom_58 : decode cX0_copyFrom 58 = .ok (.getfield 38, 3) := by decide +kernel
theorem dX0_copyFrom_61 : decode cX0_copyFrom 61 = .ok (.putfield 38, 3) := by decide +kernel
theorem dX0_copyFrom_64 : decode cX0_copyFrom 64 = .ok (.aload_n 0, 1) := by decide +kernel
theorem dX0_copyFrom_65 : decode cX0_copyFrom 65 = .ok (.aload_n 1, 1) := by decide +kernel
theorem dX0_copyFrom_66 : decode cX0_copyFrom 66 = .ok (.getfield 49, 3) := by decide +kernel
theorem dX0_copyFrom_69 : decode cX0_copyFrom 69 = .ok (.putfield 49, 3) := by decide +kernel
theorem dX0_copyFrom_72 : decode cX0_copyFrom 72 = .ok (.aload_n 0, 1) := by decide +kernel
theorem dX0_copyFrom_73 : decode cX0_copyFrom 73 = .ok (.aload_n 1, 1) := by decide +kernel
theorem dX0_copyFrom_74 : decode cX0_copyFrom 74 = .ok (.getfield 52, 3) := by decide +kernel
theorem dX0_copyFrom_77 : decode cX0_copyFrom 77 = .ok (.putfield 52, 3) := by decide +kernel
theorem dX0_copyFrom_80 : decode cX0_copyFrom 80 = .ok (.aload_n 0, 1) := by decide +kernel
theorem dX0_copyFrom_81 : decode cX0_copyFrom 81 = .ok (.aload_n 1, 1) := by decide +kernel
theorem dX0_copyFrom_82 : decode cX0_copyFrom 82 = .ok (.getfield 55, 3) := by decide +kernel
theorem dX0_copyFrom_85 : decode cX0_copyFrom 85 = .ok (.putfield 55, 3) := by decide +kernel
theorem dX0_copyFrom_88 : decode cX0_copyFrom 88 = .ok (.aload_n 0, 1) := by decide +kernel
theorem dX0_copyFrom_89 : decode cX0_copyFrom 89 = .ok (.aload_n 1, 1) := by decide +kernel
theorem dX0_copyFrom_90 : decode cX0_copyFrom 90 = .ok (.getfield 58, 3) := by decide +kernel
theorem dX0_copyFrom_93 : decode cX0_copyFrom 93 = .ok (.putfield 58, 3) := by decide +kernel
theorem dX0_copyFrom_96 : decode cX0_copyFrom 96 = .ok (.aload_n 0, 1) := by decide +kernel
theorem dX0_copyFrom_97 : decode cX0_copyFrom 97 = .ok (.aload_n 1, 1) := by decide +kernel
theorem dX0_copyFrom_98 : decode cX0_copyFrom 98 = .ok (.getfield 45, 3) := by decide +kernel
theorem dX0_copyFrom_101 : decode cX0_copyFrom 101 = .ok (.putfield 45, 3) := by decide +kernel
theorem dX0_copyFrom_104 : decode cX0_copyFrom 104 = .ok (.return_, 1) := by decide +kernel
theorem dX0_setSteps_0 : decode cX0_setSteps 0 = .ok (.aload_n 0, 1) := by decide +kernel
theorem dX0_setSteps_1 : decode cX0_setSteps 1 = .ok (.iconst 1, 1) := by decide +kernel
theorem dX0_setSteps_2 : decode cX0_setSteps 2 = .ok (.putfield 49, 3) := by decide +kernel
theorem dX0_setSteps_5 : decode cX0_setSteps 5 = .ok (.aload_n 0, 1) := by decide +kernel
theorem dX0_setSteps_6 : decode cX0_setSteps 6 = .ok (.iload_n 1, 1) := by decide +kernel
theorem dX0_setSteps_7 : decode cX0_setSteps 7 = .ok (.putfield 52, 3) := by decide +kernel
theorem dX0_setSteps_10 : decode cX0_setSteps 10 = .ok (.aload_n 0, 1) := by decide +kernel
theorem dX0_setSteps_11 : decode cX0_setSteps 11 = .ok (.iconst 1, 1) := by decide +kernel
theorem dX0_setSteps_12 : decode cX0_setSteps 12 = .ok (.iload_n 3, 1) := by decide +kernel
theorem dX0_setSteps_13 : decode cX0_setSteps 13 = .ok (.iadd, 1) := by decide +kernel
theorem dX0_setSteps_14 : decode cX0_setSteps 14 = .ok (.putfield 55, 3) := by decide +kernel
theorem dX0_setSteps_17 : decode cX0_setSteps 17 = .ok (.aload_n 0, 1) := by decide +kernel
theorem dX0_setSteps_18 : decode cX0_setSteps 18 = .ok (.iload_n 2, 1) := by decide +kernel
theorem dX0_setSteps_19 : decode cX0_setSteps 19 = .ok (.putfield 58, 3) := by decide +kernel
theorem dX0_setSteps_22 : decode cX0_setSteps 22 = .ok (.return_, 1) := by decide +kernel
set_option maxRecDepth 20000 in
theorem ggX0_planAtOnce_X0_setSteps : GoodIn wsX0_planAtOnce wsX0_setSteps := goodIn_r _ [6, 7, 8, 9, 10, 11, 12, 13, 14, 15, 16, 17, 18, 19, 20, 21, 22, 23] (by decide +kernel) (by decide +kernel)
set_option maxRecDepth 20000 in
theorem gX0_planAtOnce_X0_setSteps : GoodIn wsX0_planAtOnce (wsV RX0 41 RX0 yX0_setSteps wsX0_setSteps) := goodIn_app (goodIn_of _ (by decide +kernel)) ggX0_planAtOnce_X0_setSteps
theorem dX0_planAtOnce_0 : decode cX0_planAtOnce 0 = .ok (.aload_n 0, 1) := by decide +kernel
theorem dX0_planAtOnce_1 : decode cX0_planAtOnce 1 = .ok (.iload_n 1, 1) := by decide +kernel
theorem dX0_planAtOnce_2 : decode cX0_planAtOnce 2 = .ok (.aload_n 0, 1) := by decide +kernel
theorem dX0_planAtOnce_3 : decode cX0_planAtOnce 3 = .ok (.getfield 35, 3) := by decide +kernel
theorem dX0_planAtOnce_6 : decode cX0_planAtOnce 6 = .ok (.isub, 1) := by decide +kernel
theorem dX0_planAtOnce_7 : decode cX0_planAtOnce 7 = .ok (.iconst 0, 1) := by decide +kernel
theorem dX0_planAtOnce_8 : decode cX0_planAtOnce 8 = .ok (.iconst 0, 1) := by decide +kernel
theorem dX0_planAtOnce_9 : decode cX0_planAtOnce 9 = .ok (.invokevirtual 41, 3) := by decide +kernel
theorem dX0_planAtOnce_12 : decode cX0_planAtOnce 12 = .ok (.return_, 1) := by decide +kernel
set_option maxRecDepth 20000 in
theorem ggX0_planByHalves_X7_halfSwing : GoodIn wsX0_planByHalves wsX7_halfSwing := goodIn_r _ [5] (by decide +kernel) (by decide +kernel)
set_option maxRecDepth 20000 in
theorem gX0_planByHalves_X7_halfSwing_n61 : GoodIn wsX0_planByHalves (wsX7_halfSwing) := ggX0_planByHalves_X7_halfSwing
set_option maxRecDepth 20000 in
theorem ggX0_planByHalves_X0_setSteps : GoodIn wsX0_planByHalves wsX0_setSteps := goodIn_r _ [10, 11, 12, 13, 14, 15, 16, 17, 18, 19, 20, 21, 22, 23, 24, 25, 26, 27] (by decide +kernel) (by decide +kernel)
set_option maxRecDepth 20000 in
theorem gX0_planByHalves_X0_setSteps : GoodIn wsX0_planByHalves (wsV RX0 41 RX0 yX0_setSteps wsX0_setSteps) := goodIn_app (goodIn_of _ (by decide +kernel)) ggX0_planByHalves_X0_setSteps
theorem dX0_planByHalves_0 : decode cX0_planByHalves 0 = .ok (.iload_n 1, 1) := by decide +kernel
theorem dX0_planByHalves_1 : decode cX0_planByHalves 1 = .ok (.aload_n 0, 1) := by decide +kernel
theorem dX0_planByHalves_2 : decode cX0_planByHalves 2 = .ok (.getfield 35, 3) := by decide +kernel
theorem dX0_planByHalves_5 : decode cX0_planByHalves 5 = .ok (.isub, 1) := by decide +kernel
theorem dX0_planByHalves_6 : decode cX0_planByHalves 6 = .ok (.istore_n 3, 1) := by decide +kernel
theorem dX0_planByHalves_7 : decode cX0_planByHalves 7 = .ok (.iload_n 3, 1) := by decide +kernel
theorem dX0_planByHalves_8 : decode cX0_planByHalves 8 = .ok (.iconst 2, 1) := by decide +kernel
theorem dX0_planByHalves_9 : decode cX0_planByHalves 9 = .ok (.idiv, 1) := by decide +kernel
theorem dX0_planByHalves_10 : decode cX0_planByHalves 10 = .ok (.istore 4, 2) := by decide +kernel
theorem dX0_planByHalves_12 : decode cX0_planByHalves 12 = .ok (.aload_n 0, 1) := by decide +kernel
theorem dX0_planByHalves_13 : decode cX0_planByHalves 13 = .ok (.iload 4, 2) := by decide +kernel
theorem dX0_planByHalves_15 : decode cX0_planByHalves 15 = .ok (.iload_n 3, 1) := by decide +kernel
theorem dX0_planByHalves_16 : decode cX0_planByHalves 16 = .ok (.iload 4, 2) := by decide +kernel
theorem dX0_planByHalves_18 : decode cX0_planByHalves 18 = .ok (.isub, 1) := by decide +kernel
theorem dX0_planByHalves_19 : decode cX0_planByHalves 19 = .ok (.iload_n 2, 1) := by decide +kernel
theorem dX0_planByHalves_20 : decode cX0_planByHalves 20 = .ok (.ifCond .ge 13, 3) := by decide +kernel
theorem dX0_planByHalves_23 : decode cX0_planByHalves 23 = .ok (.aload_n 0, 1) := by decide +kernel
theorem dX0_planByHalves_24 : decode cX0_planByHalves 24 = .ok (.getfield 24, 3) := by decide +kernel
theorem dX0_planByHalves_27 : decode cX0_planByHalves 27 = .ok (.invokestatic 61, 3) := by decide +kernel
theorem dX0_planByHalves_30 : decode cX0_planByHalves 30 = .ok (.goto 4, 3) := by decide +kernel
theorem dX0_planByHalves_33 : decode cX0_planByHalves 33 = .ok (.iload_n 2, 1) := by decide +kernel
theorem dX0_planByHalves_34 : decode cX0_planByHalves 34 = .ok (.invokevirtual 41, 3) := by decide +kernel
theorem dX0_planByHalves_37 : decode cX0_planByHalves 37 = .ok (.return_, 1) := by decide +kernel
theorem dX0_stepsToCome_0 : decode cX0_stepsToCome 0 = .ok (.aload_n 0, 1) := by decide +kernel
theorem dX0_stepsToCome_1 : decode cX0_stepsToCome 1 = .ok (.getfield 52, 3) := by decide +kernel
theorem dX0_stepsToCome_4 : decode cX0_stepsToCome 4 = .ok (.ifCond .eq 7, 3) := by decide +kernel
theorem dX0_stepsToCome_7 : decode cX0_stepsToCome 7 = .ok (.iconst 1, 1) := by decide +kernel
theorem dX0_stepsToCome_8 : decode cX0_stepsToCome 8 = .ok (.goto 4, 3) := by decide +kernel
theorem dX0_stepsToCome_11 : decode cX0_stepsToCome 11 = .ok (.iconst 0, 1) := by decide +kernel
theorem dX0_stepsToCome_12 : decode cX0_stepsToCome 12 = .ok (.aload_n 0, 1) := by decide +kernel
theorem dX0_stepsToCome_13 : decode cX0_stepsToCome 13 = .ok (.getfield 58, 3) := by decide +kernel
theorem dX0_stepsToCome_16 : decode cX0_stepsToCome 16 = .ok (.ifCond .eq 7, 3) := by decide +kernel
theorem dX0_stepsToCome_19 : decode cX0_stepsToCome 19 = .ok (.iconst 1, 1) := by decide +kernel
theorem dX0_stepsToCome_20 : decode cX0_stepsToCome 20 = .ok (.goto 4, 3) := by decide +kernel
theorem dX0_stepsToCome_23 : decode cX0_stepsToCome 23 = .ok (.iconst 0, 1) := by decide +kernel
theorem dX0_stepsToCome_24 : decode cX0_stepsToCome 24 = .ok (.iadd, 1) := by decide +kernel
theorem dX0_stepsToCome_25 : decode cX0_stepsToCome 25 = .ok (.ireturn, 1) := by decide +kernel
theorem dX0_isSoon_0 : decode cX0_isSoon 0 = .ok (.iload_n 1, 1) := by decide +kernel
theorem dX0_isSoon_1 : decode cX0_isSoon 1 = .ok (.ifCond .ne 14, 3) := by decide +kernel
theorem dX0_isSoon_4 : decode cX0_isSoon 4 = .ok (.aload_n 0, 1) := by decide +kernel
theorem dX0_isSoon_5 : decode cX0_isSoon 5 = .ok (.getfield 52, 3) := by decide +kernel
theorem dX0_isSoon_8 : decode cX0_isSoon 8 = .ok (.ifCond .eq 7, 3) := by decide +kernel
theorem dX0_isSoon_11 : decode cX0_isSoon 11 = .ok (.iconst 1, 1) := by decide +kernel
theorem dX0_isSoon_12 : decode cX0_isSoon 12 = .ok (.goto 4, 3) := by decide +kernel
theorem dX0_isSoon_15 : decode cX0_isSoon 15 = .ok (.iconst 0, 1) := by decide +kernel
theorem dX0_isSoon_16 : decode cX0_isSoon 16 = .ok (.ireturn, 1) := by decide +kernel
set_option maxRecDepth 20000 in
theorem ggX0_stepIn_X0_isSoon : GoodIn wsX0_stepIn wsX0_isSoon := goodIn_r _ [7, 8, 9, 10, 11, 12, 13, 14, 15, 16, 17, 18, 19, 20, 21] (by decide +kernel) (by decide +kernel)
set_option maxRecDepth 20000 in
theorem gX0_stepIn_X0_isSoon : GoodIn wsX0_stepIn (wsV RX0 65 RX0 yX0_isSoon wsX0_isSoon) := goodIn_app (goodIn_of _ (by decide +kernel)) ggX0_stepIn_X0_isSoon
theorem dX0_stepIn_0 : decode cX0_stepIn 0 = .ok (.aload_n 0, 1) := by decide +kernel
theorem dX0_stepIn_1 : decode cX0_stepIn 1 = .ok (.iload_n 1, 1) := by decide +kernel
theorem dX0_stepIn_2 : decode cX0_stepIn 2 = .ok (.invokevirtual 65, 3) := by decide +kernel
theorem dX0_stepIn_5 : decode cX0_stepIn 5 = .ok (.ifCond .eq 10, 3) := by decide +kernel
theorem dX0_stepIn_8 : decode cX0_stepIn 8 = .ok (.aload_n 0, 1) := by decide +kernel
theorem dX0_stepIn_9 : decode cX0_stepIn 9 = .ok (.getfield 49, 3) := by decide +kernel
theorem dX0_stepIn_12 : decode cX0_stepIn 12 = .ok (.goto 7, 3) := by decide +kernel
theorem dX0_stepIn_15 : decode cX0_stepIn 15 = .ok (.aload_n 0, 1) := by decide +kernel
theorem dX0_stepIn_16 : decode cX0_stepIn 16 = .ok (.getfield 55, 3) := by decide +kernel
theorem dX0_stepIn_19 : decode cX0_stepIn 19 = .ok (.ireturn, 1) := by decide +kernel
set_option maxRecDepth 20000 in
theorem ggX0_stepBy_X0_isSoon : GoodIn wsX0_stepBy wsX0_isSoon := goodIn_r _ [7, 1, 8, 9, 10, 11, 12, 13, 14, 15, 16, 17, 18, 19, 20] (by decide +kernel) (by decide +kernel)
set_option maxRecDepth 20000 in
theorem gX0_stepBy_X0_isSoon : GoodIn wsX0_stepBy (wsV RX0 65 RX0 yX0_isSoon wsX0_isSoon) := goodIn_app (goodIn_of _ (by decide +kernel)) ggX0_stepBy_X0_isSoon
theorem dX0_stepBy_0 : decode cX0_stepBy 0 = .ok (.aload_n 0, 1) := by decide +kernel
theorem dX0_stepBy_1 : decode cX0_stepBy 1 = .ok (.iload_n 1, 1) := by decide +kernel
theorem dX0_stepBy_2 : decode cX0_stepBy 2 = .ok (.invokevirtual 65, 3) := by decide +kernel
theorem dX0_stepBy_5 : decode cX0_stepBy 5 = .ok (.ifCond .eq 10, 3) := by decide +kernel
theorem dX0_stepBy_8 : decode cX0_stepBy 8 = .ok (.aload_n 0, 1) := by decide +kernel
theorem dX0_stepBy_9 : decode cX0_stepBy 9 = .ok (.getfield 52, 3) := by decide +kernel
theorem dX0_stepBy_12 : decode cX0_stepBy 12 = .ok (.goto 7, 3) := by decide +kernel
theorem dX0_stepBy_15 : decode cX0_stepBy 15 = .ok (.aload_n 0, 1) := by decide +kernel
theorem dX0_stepBy_16 : decode cX0_stepBy 16 = .ok (.getfield 58, 3) := by decide +kernel
theorem dX0_stepBy_19 : decode cX0_stepBy 19 = .ok (.ireturn, 1) := by decide +kernel
theorem dX0_limit_0 : decode cX0_limit 0 = .ok (.iconst 1, 1) := by decide +kernel
theorem dX0_limit_1 : decode cX0_limit 1 = .ok (.aload_n 1, 1) := by decide +kernel
theorem dX0_limit_2 : decode cX0_limit 2 = .ok (.getfield 69, 3) := by decide +kernel
theorem dX0_limit_5 : decode cX0_limit 5 = .ok (.aload_n 0, 1) := by decide +kernel
theorem dX0_limit_6 : decode cX0_limit 6 = .ok (.getfield 28, 3) := by decide +kernel
theorem dX0_limit_9 : decode cX0_limit 9 = .ok (.bipush 10, 2) := by decide +kernel
theorem dX0_limit_11 : decode cX0_limit 11 = .ok (.idiv, 1) := by decide +kernel
theorem dX0_limit_12 : decode cX0_limit 12 = .ok (.isub, 1) := by decide +kernel
theorem dX0_limit_13 : decode cX0_limit 13 = .ok (.invokestatic 74, 3) := by decide +kernel
theorem dX0_limit_16 : decode cX0_limit 16 = .ok (.ireturn, 1) := by decide +kernel
set_option maxRecDepth 20000 in
theorem ggX0_isQuiet_X0_stepsToCome : GoodIn wsX0_isQuiet wsX0_stepsToCome := goodIn_r _ [13, 14, 15, 16, 17, 18, 19, 20, 21, 22, 23, 24, 25, 26, 27, 28] (by decide +kernel) (by decide +kernel)
set_option maxRecDepth 20000 in
theorem gX0_isQuiet_X0_stepsToCome : GoodIn wsX0_isQuiet (wsV RX0 80 RX0 yX0_stepsToCome wsX0_stepsToCome) := goodIn_app (goodIn_of _ (by decide +kernel)) ggX0_isQuiet_X0_stepsToCome
theorem dX0_isQuiet_0 : decode cX0_isQuiet 0 = .ok (.aload_n 0, 1) := by decide +kernel
theorem dX0_isQuiet_1 : decode cX0_isQuiet 1 = .ok (.getfield 18, 3) := by decide +kernel
theorem dX0_isQuiet_4 : decode cX0_isQuiet 4 = .ok (.ifCond .ne 43, 3) := by decide +kernel
theorem dX0_isQuiet_7 : decode cX0_isQuiet 7 = .ok (.aload_n 0, 1) := by decide +kernel
theorem dX0_isQuiet_8 : decode cX0_isQuiet 8 = .ok (.getfield 35, 3) := by decide +kernel
theorem dX0_isQuiet_11 : decode cX0_isQuiet 11 = .ok (.ifCond .ne 36, 3) := by decide +kernel
theorem dX0_isQuiet_14 : decode cX0_isQuiet 14 = .ok (.aload_n 0, 1) := by decide +kernel
theorem dX0_isQuiet_15 : decode cX0_isQuiet 15 = .ok (.invokevirtual 80, 3) := by decide +kernel
theorem dX0_isQuiet_18 : decode cX0_isQuiet 18 = .ok (.ifCond .ne 29, 3) := by decide +kernel
theorem dX0_isQuiet_21 : decode cX0_isQuiet 21 = .ok (.aload_n 0, 1) := by decide +kernel
theorem dX0_isQuiet_22 : decode cX0_isQuiet 22 = .ok (.getfield 29, 3) := by decide +kernel
theorem dX0_isQuiet_25 : decode cX0_isQuiet 25 = .ok (.invokestatic 84, 3) := by decide +kernel
theorem dX0_isQuiet_28 : decode cX0_isQuiet 28 = .ok (.iconst 3, 1) := by decide +kernel
theorem dX0_isQuiet_29 : decode cX0_isQuiet 29 = .ok (.if_icmp .gt 18, 3) := by decide +kernel
theorem dX0_isQuiet_32 : decode cX0_isQuiet 32 = .ok (.aload_n 0, 1) := by decide +kernel
theorem dX0_isQuiet_33 : decode cX0_isQuiet 33 = .ok (.getfield 32, 3) := by decide +kernel
theorem dX0_isQuiet_36 : decode cX0_isQuiet 36 = .ok (.invokestatic 84, 3) := by decide +kernel
theorem dX0_isQuiet_39 : decode cX0_isQuiet 39 = .ok (.iconst 2, 1) := by decide +kernel
theorem dX0_isQuiet_40 : decode cX0_isQuiet 40 = .ok (.if_icmp .gt 7, 3) := by decide +kernel
theorem dX0_isQuiet_43 : decode cX0_isQuiet 43 = .ok (.iconst 1, 1) := by decide +kernel
theorem dX0_isQuiet_44 : decode cX0_isQuiet 44 = .ok (.goto 4, 3) := by decide +kernel
theorem dX0_isQuiet_47 : decode cX0_isQuiet 47 = .ok (.iconst 0, 1) := by decide +kernel
theorem dX0_isQuiet_48 : decode cX0_isQuiet 48 = .ok (.ireturn, 1) := by decide +kernel
set_option maxRecDepth 20000 in
theorem ggX0_roll_X0_takeSteps : GoodIn wsX0_roll wsX0_takeSteps := goodIn_r _ [9, 10, 11, 12, 13, 14, 60, 61, 62, 63, 64, 65, 66, 67, 68, 69, 70, 71, 72] (by decide +kernel) (by decide +kernel)
set_option maxRecDepth 20000 in
theorem gX0_roll_X0_takeSteps : GoodIn wsX0_roll (wsV RX0 87 RX0 yX0_takeSteps wsX0_takeSteps) := goodIn_app (goodIn_of _ (by decide +kernel)) ggX0_roll_X0_takeSteps
set_option maxRecDepth 20000 in
theorem ggX0_roll_X0_speedNearerToWant : GoodIn wsX0_roll wsX0_speedNearerToWant := goodIn_r _ [18, 13, 3, 1, 19, 20, 21, 8, 22, 23, 24, 25, 26, 27, 28, 29, 30, 31, 32, 33, 34, 35, 60, 61, 62, 63, 64, 65, 66, 67, 68, 69, 70, 71, 72, 53, 54, 55, 56, 57, 58, 59] (by decide +kernel) (by decide +kernel)
set_option maxRecDepth 20000 in
theorem gX0_roll_X0_speedNearerToWant : GoodIn wsX0_roll (wsV RX0 90 RX0 yX0_speedNearerToWant wsX0_speedNearerToWant) := goodIn_app (goodIn_of _ (by decide +kernel)) ggX0_roll_X0_speedNearerToWant
set_option maxRecDepth 20000 in
theorem ggX0_roll_X7_wayToStop : GoodIn wsX0_roll wsX7_wayToStop := goodIn_r _ [37, 38, 39, 27, 40] (by decide +kernel) (by decide +kernel)
set_option maxRecDepth 20000 in
theorem gX0_roll_X7_wayToStop_n97 : GoodIn wsX0_roll (wsX7_wayToStop) := ggX0_roll_X7_wayToStop
set_option maxRecDepth 20000 in
theorem ggX0_roll_X0_speedForRoom : GoodIn wsX0_roll wsX0_speedForRoom := goodIn_r _ [44, 45, 39, 27, 40, 36, 30, 37, 38] (by decide +kernel) (by decide +kernel)
set_option maxRecDepth 20000 in
theorem gX0_roll_X0_speedForRoom : GoodIn wsX0_roll (wsV RX0 100 RX0 yX0_speedForRoom wsX0_speedForRoom) := goodIn_app (goodIn_of _ (by decide +kernel)) ggX0_roll_X0_speedForRoom
set_option maxRecDepth 20000 in
theorem ggX0_roll_X0_swingOut : GoodIn wsX0_roll wsX0_swingOut := goodIn_r _ [49, 50, 51, 52, 29, 30, 31, 32, 33, 27, 34, 35, 26, 28, 60, 61, 62, 63, 64, 65, 66, 67, 68, 69, 70, 71, 72] (by decide +kernel) (by decide +kernel)
set_option maxRecDepth 20000 in
theorem gX0_roll_X0_swingOut : GoodIn wsX0_roll (wsV RX0 104 RX0 yX0_swingOut wsX0_swingOut) := goodIn_app (goodIn_of _ (by decide +kernel)) ggX0_roll_X0_swingOut
theorem dX0_roll_0 : decode cX0_roll 0 = .ok (.aload_n 0, 1) := by decide +kernel
theorem dX0_roll_1 : decode cX0_roll 1 = .ok (.invokevirtual 87, 3) := by decide +kernel
theorem dX0_roll_4 : decode cX0_roll 4 = .ok (.aload_n 0, 1) := by decide +kernel
theorem dX0_roll_5 : decode cX0_roll 5 = .ok (.aload_n 1, 1) := by decide +kernel
theorem dX0_roll_6 : decode cX0_roll 6 = .ok (.invokevirtual 90, 3) := by decide +kernel
theorem dX0_roll_9 : decode cX0_roll 9 = .ok (.istore 4, 2) := by decide +kernel
theorem dX0_roll_11 : decode cX0_roll 11 = .ok (.iload 4, 2) := by decide +kernel
theorem dX0_roll_13 : decode cX0_roll 13 = .ok (.ifCond .ge 7, 3) := by decide +kernel
theorem dX0_roll_16 : decode cX0_roll 16 = .ok (.iload_n 2, 1) := by decide +kernel
theorem dX0_roll_17 : decode cX0_roll 17 = .ok (.goto 4, 3) := by decide +kernel
theorem dX0_roll_20 : decode cX0_roll 20 = .ok (.iload_n 3, 1) := by decide +kernel
theorem dX0_roll_21 : decode cX0_roll 21 = .ok (.istore 5, 2) := by decide +kernel
theorem dX0_roll_23 : decode cX0_roll 23 = .ok (.aload_n 0, 1) := by decide +kernel
theorem dX0_roll_24 : decode cX0_roll 24 = .ok (.iload 4, 2) := by decide +kernel
theorem dX0_roll_26 : decode cX0_roll 26 = .ok (.aload_n 1, 1) := by decide +kernel
theorem dX0_roll_27 : decode cX0_roll 27 = .ok (.getfield 94, 3) := by decide +kernel
theorem dX0_roll_30 : decode cX0_roll 30 = .ok (.invokestatic 97, 3) := by decide +kernel
theorem dX0_roll_33 : decode cX0_roll 33 = .ok (.iload 5, 2) := by decide +kernel
theorem dX0_roll_35 : decode cX0_roll 35 = .ok (.if_icmp .le 7, 3) := by decide +kernel
theorem dX0_roll_38 : decode cX0_roll 38 = .ok (.iconst 1, 1) := by decide +kernel
theorem dX0_roll_39 : decode cX0_roll 39 = .ok (.goto 4, 3) := by decide +kernel
theorem dX0_roll_42 : decode cX0_roll 42 = .ok (.iconst 0, 1) := by decide +kernel
theorem dX0_roll_43 : decode cX0_roll 43 = .ok (.putfield 45, 3) := by decide +kernel
theorem dX0_roll_46 : decode cX0_roll 46 = .ok (.aload_n 0, 1) := by decide +kernel
theorem dX0_roll_47 : decode cX0_roll 47 = .ok (.getfield 45, 3) := by decide +kernel
theorem dX0_roll_50 : decode cX0_roll 50 = .ok (.ifCond .eq 17, 3) := by decide +kernel
theorem dX0_roll_53 : decode cX0_roll 53 = .ok (.aload_n 0, 1) := by decide +kernel
theorem dX0_roll_54 : decode cX0_roll 54 = .ok (.iload 4, 2) := by decide +kernel
theorem dX0_roll_56 : decode cX0_roll 56 = .ok (.iload 5, 2) := by decide +kernel
theorem dX0_roll_58 : decode cX0_roll 58 = .ok (.aload_n 1, 1) := by decide +kernel
theorem dX0_roll_59 : decode cX0_roll 59 = .ok (.getfield 94, 3) := by decide +kernel
theorem dX0_roll_62 : decode cX0_roll 62 = .ok (.invokevirtual 100, 3) := by decide +kernel
theorem dX0_roll_65 : decode cX0_roll 65 = .ok (.istore 4, 2) := by decide +kernel
theorem dX0_roll_67 : decode cX0_roll 67 = .ok (.aload_n 0, 1) := by decide +kernel
theorem dX0_roll_68 : decode cX0_roll 68 = .ok (.iload 4, 2) := by decide +kernel
theorem dX0_roll_70 : decode cX0_roll 70 = .ok (.aload_n 0, 1) := by decide +kernel
theorem dX0_roll_71 : decode cX0_roll 71 = .ok (.getfield 18, 3) := by decide +kernel
theorem dX0_roll_74 : decode cX0_roll 74 = .ok (.isub, 1) := by decide +kernel
theorem dX0_roll_75 : decode cX0_roll 75 = .ok (.invokevirtual 104, 3) := by decide +kernel
theorem dX0_roll_78 : decode cX0_roll 78 = .ok (.aload_n 0, 1) := by decide +kernel
theorem dX0_roll_79 : decode cX0_roll 79 = .ok (.dup, 1) := by decide +kernel
theorem dX0_roll_80 : decode cX0_roll 80 = .ok (.getfield 15, 3) := by decide +kernel
theorem dX0_roll_83 : decode cX0_roll 83 = .ok (.iload 4, 2) := by decide +kernel
theorem dX0_roll_85 : decode cX0_roll 85 = .ok (.iadd, 1) := by decide +kernel
theorem dX0_roll_86 : decode cX0_roll 86 = .ok (.putfield 15, 3) := by decide +kernel
theorem dX0_roll_89 : decode cX0_roll 89 = .ok (.aload_n 0, 1) := by decide +kernel
theorem dX0_roll_90 : decode cX0_roll 90 = .ok (.iload 4, 2) := by decide +kernel
theorem dX0_roll_92 : decode cX0_roll 92 = .ok (.putfield 18, 3) := by decide +kernel
theorem dX0_roll_95 : decode cX0_roll 95 = .ok (.return_, 1) := by decide +kernel
theorem dX0_takeSteps_0 : decode cX0_takeSteps 0 = .ok (.aload_n 0, 1) := by decide +kernel
theorem dX0_takeSteps_1 : decode cX0_takeSteps 1 = .ok (.dup, 1) := by decide +kernel
theorem dX0_takeSteps_2 : decode cX0_takeSteps 2 = .ok (.getfield 49, 3) := by decide +kernel
theorem dX0_takeSteps_5 : decode cX0_takeSteps 5 = .ok (.iconst 1, 1) := by decide +kernel
theorem dX0_takeSteps_6 : decode cX0_takeSteps 6 = .ok (.isub, 1) := by decide +kernel
theorem dX0_takeSteps_7 : decode cX0_takeSteps 7 = .ok (.putfield 49, 3) := by decide +kernel
theorem dX0_takeSteps_10 : decode cX0_takeSteps 10 = .ok (.aload_n 0, 1) := by decide +kernel
theorem dX0_takeSteps_11 : decode cX0_takeSteps 11 = .ok (.dup, 1) := by decide +kernel
theorem dX0_takeSteps_12 : decode cX0_takeSteps 12 = .ok (.getfield 55, 3) := by decide +kernel
theorem dX0_takeSteps_15 : decode cX0_takeSteps 15 = .ok (.iconst 1, 1) := by decide +kernel
theorem dX0_takeSteps_16 : decode cX0_takeSteps 16 = .ok (.isub, 1) := by decide +kernel
theorem dX0_takeSteps_17 : decode cX0_takeSteps 17 = .ok (.putfield 55, 3) := by decide +kernel
theorem dX0_takeSteps_20 : decode cX0_takeSteps 20 = .ok (.aload_n 0, 1) := by decide +kernel
theorem dX0_takeSteps_21 : decode cX0_takeSteps 21 = .ok (.getfield 52, 3) := by decide +kernel
theorem dX0_takeSteps_24 : decode cX0_takeSteps 24 = .ok (.ifCond .eq 29, 3) := by decide +kernel
theorem dX0_takeSteps_27 : decode cX0_takeSteps 27 = .ok (.aload_n 0, 1) := by decide +kernel
theorem dX0_takeSteps_28 : decode cX0_takeSteps 28 = .ok (.getfield 49, 3) := by decide +kernel
theorem dX0_takeSteps_31 : decode cX0_takeSteps 31 = .ok (.iconst 1, 1) := by decide +kernel
theorem dX0_takeSteps_32 : decode cX0_takeSteps 32 = .ok (.if_icmp .ge 21, 3) := by decide +kernel
theorem dX0_takeSteps_35 : decode cX0_takeSteps 35 = .ok (.aload_n 0, 1) := by decide +kernel
theorem dX0_takeSteps_36 : decode cX0_takeSteps 36 = .ok (.dup, 1) := by decide +kernel
theorem dX0_takeSteps_37 : decode cX0_takeSteps 37 = .ok (.getfield 35, 3) := by decide +kernel
theorem dX0_takeSteps_40 : decode cX0_takeSteps 40 = .ok (.aload_n 0, 1) := by decide +kernel
theorem dX0_takeSteps_41 : decode cX0_takeSteps 41 = .ok (.getfield 52, 3) := by decide +kernel
theorem dX0_takeSteps_44 : decode cX0_takeSteps 44 = .ok (.iadd, 1) := by decide +kernel
theorem dX0_takeSteps_45 : decode cX0_takeSteps 45 = .ok (.putfield 35, 3) := by decide +kernel
theorem dX0_takeSteps_48 : decode cX0_takeSteps 48 = .ok (.aload_n 0, 1) := by decide +kernel
theorem dX0_takeSteps_49 : decode cX0_takeSteps 49 = .ok (.iconst 0, 1) := by decide +kernel
theorem dX0_takeSteps_50 : decode cX0_takeSteps 50 = .ok (.putfield 52, 3) := by decide +kernel
theorem dX0_takeSteps_53 : decode cX0_takeSteps 53 = .ok (.aload_n 0, 1) := by decide +kernel
theorem dX0_takeSteps_54 : decode cX0_takeSteps 54 = .ok (.getfield 58, 3) := by decide +kernel
theorem dX0_takeSteps_57 : decode cX0_takeSteps 57 = .ok (.ifCond .eq 29, 3) := by decide +kernel
theorem dX0_takeSteps_60 : decode cX0_takeSteps 60 = .ok (.aload_n 0, 1) := by decide +kernel
theorem dX0_takeSteps_61 : decode cX0_takeSteps 61 = .ok (.getfield 55, 3) := by decide +kernel
theorem dX0_takeSteps_64 : decode cX0_takeSteps 64 = .ok (.iconst 1, 1) := by decide +kernel
theorem dX0_takeSteps_65 : decode cX0_takeSteps 65 = .ok (.if_icmp .ge 21, 3) := by decide +kernel
theorem dX0_takeSteps_68 : decode cX0_takeSteps 68 = .ok (.aload_n 0, 1) := by decide +kernel
theorem dX0_takeSteps_69 : decode cX0_takeSteps 69 = .ok (.dup, 1) := by decide +kernel
theorem dX0_takeSteps_70 : decode cX0_takeSteps 70 = .ok (.getfield 35, 3) := by decide +kernel
theorem dX0_takeSteps_73 : decode cX0_takeSteps 73 = .ok (.aload_n 0, 1) := by decide +kernel
theorem dX0_takeSteps_74 : decode cX0_takeSteps 74 = .ok (.getfield 58, 3) := by decide +kernel
theorem dX0_takeSteps_77 : decode cX0_takeSteps 77 = .ok (.iadd, 1) := by decide +kernel
theorem dX0_takeSteps_78 : decode cX0_takeSteps 78 = .ok (.putfield 35, 3) := by decide +kernel
theorem dX0_takeSteps_81 : decode cX0_takeSteps 81 = .ok (.aload_n 0, 1) := by decide +kernel
theorem dX0_takeSteps_82 : decode cX0_takeSteps 82 = .ok (.iconst 0, 1) := by decide +kernel
theorem dX0_takeSteps_83 : decode cX0_takeSteps 83 = .ok (.putfield 58, 3) := by decide +kernel
theorem dX0_takeSteps_86 : decode cX0_takeSteps 86 = .ok (.return_, 1) := by decide +kernel
set_option maxRecDepth 20000 in
theorem ggX0_speedNearerToWant_X0_limit : GoodIn wsX0_speedNearerToWant wsX0_limit := goodIn_r _ [8, 9, 10, 11, 12, 13, 14, 35, 36, 37, 38, 39, 40, 41, 22, 23, 24, 25, 26, 27, 28, 29, 30, 31, 32, 33, 34] (by decide +kernel) (by decide +kernel)
set_option maxRecDepth 20000 in
theorem gX0_speedNearerToWant_X0_limit : GoodIn wsX0_speedNearerToWant (wsV RX0 108 RX0 yX0_limit wsX0_limit) := goodIn_app (goodIn_of _ (by decide +kernel)) ggX0_speedNearerToWant_X0_limit
set_option maxRecDepth 20000 in
theorem ggX0_speedNearerToWant_X7_keptWithin : GoodIn wsX0_speedNearerToWant wsX7_keptWithin := goodIn_r _ [17, 18, 19, 13, 20, 21, 12, 14] (by decide +kernel) (by decide +kernel)
set_option maxRecDepth 20000 in
theorem gX0_speedNearerToWant_X7_keptWithin_n111 : GoodIn wsX0_speedNearerToWant (wsX7_keptWithin) := ggX0_speedNearerToWant_X7_keptWithin
theorem dX0_speedNearerToWant_0 : decode cX0_speedNearerToWant 0 = .ok (.aload_n 0, 1) := by decide +kernel
theorem dX0_speedNearerToWant_1 : decode cX0_speedNearerToWant 1 = .ok (.getfield 35, 3) := by decide +kernel
theorem dX0_speedNearerToWant_4 : decode cX0_speedNearerToWant 4 = .ok (.aload_n 0, 1) := by decide +kernel
theorem dX0_speedNearerToWant_5 : decode cX0_speedNearerToWant 5 = .ok (.aload_n 1, 1) := by decide +kernel
theorem dX0_speedNearerToWant_6 : decode cX0_speedNearerToWant 6 = .ok (.invokevirtual 108, 3) := by decide +kernel
theorem dX0_speedNearerToWant_9 : decode cX0_speedNearerToWant 9 = .ok (.invokestatic 111, 3) := by decide +kernel
theorem dX0_speedNearerToWant_12 : decode cX0_speedNearerToWant 12 = .ok (.istore_n 2, 1) := by decide +kernel
theorem dX0_speedNearerToWant_13 : decode cX0_speedNearerToWant 13 = .ok (.aload_n 0, 1) := by decide +kernel
theorem dX0_speedNearerToWant_14 : decode cX0_speedNearerToWant 14 = .ok (.getfield 18, 3) := by decide +kernel
theorem dX0_speedNearerToWant_17 : decode cX0_speedNearerToWant 17 = .ok (.iload_n 2, 1) := by decide +kernel
theorem dX0_speedNearerToWant_18 : decode cX0_speedNearerToWant 18 = .ok (.aload_n 0, 1) := by decide +kernel
theorem dX0_speedNearerToWant_19 : decode cX0_speedNearerToWant 19 = .ok (.getfield 18, 3) := by decide +kernel
theorem dX0_speedNearerToWant_22 : decode cX0_speedNearerToWant 22 = .ok (.isub, 1) := by decide +kernel
theorem dX0_speedNearerToWant_23 : decode cX0_speedNearerToWant 23 = .ok (.aload_n 1, 1) := by decide +kernel
theorem dX0_speedNearerToWant_24 : decode cX0_speedNearerToWant 24 = .ok (.getfield 94, 3) := by decide +kernel
theorem dX0_speedNearerToWant_27 : decode cX0_speedNearerToWant 27 = .ok (.invokestatic 111, 3) := by decide +kernel
theorem dX0_speedNearerToWant_30 : decode cX0_speedNearerToWant 30 = .ok (.iadd, 1) := by decide +kernel
theorem dX0_speedNearerToWant_31 : decode cX0_speedNearerToWant 31 = .ok (.ireturn, 1) := by decide +kernel
set_option maxRecDepth 20000 in
theorem ggX0_speedForRoom_X7_wayToStop : GoodIn wsX0_speedForRoom wsX7_wayToStop := goodIn_r _ [7, 8, 2, 3, 4] (by decide +kernel) (by decide +kernel)
set_option maxRecDepth 20000 in
theorem gX0_speedForRoom_X7_wayToStop_n97 : GoodIn wsX0_speedForRoom (wsX7_wayToStop) := ggX0_speedForRoom_X7_wayToStop
theorem dX0_speedForRoom_0 : decode cX0_speedForRoom 0 = .ok (.iload_n 1, 1) := by decide +kernel
theorem dX0_speedForRoom_1 : decode cX0_speedForRoom 1 = .ok (.ifCond .ge 7, 3) := by decide +kernel
theorem dX0_speedForRoom_4 : decode cX0_speedForRoom 4 = .ok (.iconst (-1), 1) := by decide +kernel
theorem dX0_speedForRoom_5 : decode cX0_speedForRoom 5 = .ok (.goto 4, 3) := by decide +kernel
theorem dX0_speedForRoom_8 : decode cX0_speedForRoom 8 = .ok (.iconst 1, 1) := by decide +kernel
theorem dX0_speedForRoom_9 : decode cX0_speedForRoom 9 = .ok (.istore 4, 2) := by decide +kernel
theorem dX0_speedForRoom_11 : decode cX0_speedForRoom 11 = .ok (.iload_n 1, 1) := by decide +kernel
theorem dX0_speedForRoom_12 : decode cX0_speedForRoom 12 = .ok (.invokestatic 84, 3) := by decide +kernel
theorem dX0_speedForRoom_15 : decode cX0_speedForRoom 15 = .ok (.iconst 1, 1) := by decide +kernel
theorem dX0_speedForRoom_16 : decode cX0_speedForRoom 16 = .ok (.isub, 1) := by decide +kernel
theorem dX0_speedForRoom_17 : decode cX0_speedForRoom 17 = .ok (.istore 5, 2) := by decide +kernel
theorem dX0_speedForRoom_19 : decode cX0_speedForRoom 19 = .ok (.iload 5, 2) := by decide +kernel
theorem dX0_speedForRoom_21 : decode cX0_speedForRoom 21 = .ok (.ifCond .le 25, 3) := by decide +kernel
theorem dX0_speedForRoom_24 : decode cX0_speedForRoom 24 = .ok (.iload 5, 2) := by decide +kernel
theorem dX0_speedForRoom_26 : decode cX0_speedForRoom 26 = .ok (.iload_n 3, 1) := by decide +kernel
theorem dX0_speedForRoom_27 : decode cX0_speedForRoom 27 = .ok (.invokestatic 97, 3) := by decide +kernel
theorem dX0_speedForRoom_30 : decode cX0_speedForRoom 30 = .ok (.iload_n 2, 1) := by decide +kernel
theorem dX0_speedForRoom_31 : decode cX0_speedForRoom 31 = .ok (.if_icmp .gt 9, 3) := by decide +kernel
theorem dX0_speedForRoom_34 : decode cX0_speedForRoom 34 = .ok (.iload 4, 2) := by decide +kernel
theorem dX0_speedForRoom_36 : decode cX0_speedForRoom 36 = .ok (.iload 5, 2) := by decide +kernel
theorem dX0_speedForRoom_38 : decode cX0_speedForRoom 38 = .ok (.imul, 1) := by decide +kernel
theorem dX0_speedForRoom_39 : decode cX0_speedForRoom 39 = .ok (.ireturn, 1) := by decide +kernel
theorem dX0_speedForRoom_40 : decode cX0_speedForRoom 40 = .ok (.iinc 5 (-1), 3) := by decide +kernel
theorem dX0_speedForRoom_43 : decode cX0_speedForRoom 43 = .ok (.goto (-24), 3) := by decide +kernel
theorem dX0_speedForRoom_46 : decode cX0_speedForRoom 46 = .ok (.iconst 0, 1) := by decide +kernel
theorem dX0_speedForRoom_47 : decode cX0_speedForRoom 47 = .ok (.ireturn, 1) := by decide +kernel
set_option maxRecDepth 20000 in
theorem ggX0_swingOut_X7_keptWithin : GoodIn wsX0_swingOut wsX7_keptWithin := goodIn_r _ [6, 7, 8, 9, 10, 11, 12, 13] (by decide +kernel) (by decide +kernel)
set_option maxRecDepth 20000 in
theorem gX0_swingOut_X7_keptWithin_n111 : GoodIn wsX0_swingOut (wsX7_keptWithin) := ggX0_swingOut_X7_keptWithin
theorem dX0_swingOut_0 : decode cX0_swingOut 0 = .ok (.aload_n 0, 1) := by decide +kernel
theorem dX0_swingOut_1 : decode cX0_swingOut 1 = .ok (.getfield 24, 3) := by decide +kernel
theorem dX0_swingOut_4 : decode cX0_swingOut 4 = .ok (.ifCond .le 18, 3) := by decide +kernel
theorem dX0_swingOut_7 : decode cX0_swingOut 7 = .ok (.bipush 16, 2) := by decide +kernel
theorem dX0_swingOut_9 : decode cX0_swingOut 9 = .ok (.aload_n 0, 1) := by decide +kernel
theorem dX0_swingOut_10 : decode cX0_swingOut 10 = .ok (.getfield 29, 3) := by decide +kernel
theorem dX0_swingOut_13 : decode cX0_swingOut 13 = .ok (.imul, 1) := by decide +kernel
theorem dX0_swingOut_14 : decode cX0_swingOut 14 = .ok (.aload_n 0, 1) := by decide +kernel
theorem dX0_swingOut_15 : decode cX0_swingOut 15 = .ok (.getfield 24, 3) := by decide +kernel
theorem dX0_swingOut_18 : decode cX0_swingOut 18 = .ok (.idiv, 1) := by decide +kernel
theorem dX0_swingOut_19 : decode cX0_swingOut 19 = .ok (.goto 4, 3) := by decide +kernel
theorem dX0_swingOut_22 : decode cX0_swingOut 22 = .ok (.iconst 0, 1) := by decide +kernel
theorem dX0_swingOut_23 : decode cX0_swingOut 23 = .ok (.istore_n 2, 1) := by decide +kernel
theorem dX0_swingOut_24 : decode cX0_swingOut 24 = .ok (.aload_n 0, 1) := by decide +kernel
theorem dX0_swingOut_25 : decode cX0_swingOut 25 = .ok (.aload_n 0, 1) := by decide +kernel
theorem dX0_swingOut_26 : decode cX0_swingOut 26 = .ok (.getfield 32, 3) := by decide +kernel
theorem dX0_swingOut_29 : decode cX0_swingOut 29 = .ok (.iload_n 2, 1) := by decide +kernel
theorem dX0_swingOut_30 : decode cX0_swingOut 30 = .ok (.isub, 1) := by decide +kernel
theorem dX0_swingOut_31 : decode cX0_swingOut 31 = .ok (.iconst 4, 1) := by decide +kernel
theorem dX0_swingOut_32 : decode cX0_swingOut 32 = .ok (.iload_n 1, 1) := by decide +kernel
theorem dX0_swingOut_33 : decode cX0_swingOut 33 = .ok (.imul, 1) := by decide +kernel
theorem dX0_swingOut_34 : decode cX0_swingOut 34 = .ok (.isub, 1) := by decide +kernel
theorem dX0_swingOut_35 : decode cX0_swingOut 35 = .ok (.sipush 9999, 3) := by decide +kernel
theorem dX0_swingOut_38 : decode cX0_swingOut 38 = .ok (.invokestatic 111, 3) := by decide +kernel
theorem dX0_swingOut_41 : decode cX0_swingOut 41 = .ok (.putfield 32, 3) := by decide +kernel
theorem dX0_swingOut_44 : decode cX0_swingOut 44 = .ok (.aload_n 0, 1) := by decide +kernel
theorem dX0_swingOut_45 : decode cX0_swingOut 45 = .ok (.aload_n 0, 1) := by decide +kernel
theorem dX0_swingOut_46 : decode cX0_swingOut 46 = .ok (.getfield 29, 3) := by decide +kernel
theorem dX0_swingOut_49 : decode cX0_swingOut 49 = .ok (.aload_n 0, 1) := by decide +kernel
theorem dX0_swingOut_50 : decode cX0_swingOut 50 = .ok (.getfield 32, 3) := by decide +kernel
theorem dX0_swingOut_53 : decode cX0_swingOut 53 = .ok (.iadd, 1) := by decide +kernel
theorem dX0_swingOut_54 : decode cX0_swingOut 54 = .ok (.sipush 9999, 3) := by decide +kernel
theorem dX0_swingOut_57 : decode cX0_swingOut 57 = .ok (.invokestatic 111, 3) := by decide +kernel
theorem dX0_swingOut_60 : decode cX0_swingOut 60 = .ok (.putfield 29, 3) := by decide +kernel
theorem dX0_swingOut_63 : decode cX0_swingOut 63 = .ok (.return_, 1) := by decide +kernel
theorem dX0_hoistRope_0 : decode cX0_hoistRope 0 = .ok (.aload_n 0, 1) := by decide +kernel
theorem dX0_hoistRope_1 : decode cX0_hoistRope 1 = .ok (.getfield 38, 3) := by decide +kernel
theorem dX0_hoistRope_4 : decode cX0_hoistRope 4 = .ok (.aload_n 0, 1) := by decide +kernel
theorem dX0_hoistRope_5 : decode cX0_hoistRope 5 = .ok (.getfield 24, 3) := by decide +kernel
theorem dX0_hoistRope_8 : decode cX0_hoistRope 8 = .ok (.if_icmp .eq 14, 3) := by decide +kernel
theorem dX0_hoistRope_11 : decode cX0_hoistRope 11 = .ok (.aload_n 0, 1) := by decide +kernel
theorem dX0_hoistRope_12 : decode cX0_hoistRope 12 = .ok (.getfield 18, 3) := by decide +kernel
theorem dX0_hoistRope_15 : decode cX0_hoistRope 15 = .ok (.invokestatic 84, 3) := by decide +kernel
theorem dX0_hoistRope_18 : decode cX0_hoistRope 18 = .ok (.iload_n 1, 1) := by decide +kernel
theorem dX0_hoistRope_19 : decode cX0_hoistRope 19 = .ok (.if_icmp .le 4, 3) := by decide +kernel
theorem dX0_hoistRope_22 : decode cX0_hoistRope 22 = .ok (.return_, 1) := by decide +kernel
theorem dX0_hoistRope_23 : decode cX0_hoistRope 23 = .ok (.aload_n 0, 1) := by decide +kernel
theorem dX0_hoistRope_24 : decode cX0_hoistRope 24 = .ok (.getfield 38, 3) := by decide +kernel
theorem dX0_hoistRope_27 : decode cX0_hoistRope 27 = .ok (.aload_n 0, 1) := by decide +kernel
theorem dX0_hoistRope_28 : decode cX0_hoistRope 28 = .ok (.getfield 24, 3) := by decide +kernel
theorem dX0_hoistRope_31 : decode cX0_hoistRope 31 = .ok (.if_icmp .le 12, 3) := by decide +kernel
theorem dX0_hoistRope_34 : decode cX0_hoistRope 34 = .ok (.aload_n 0, 1) := by decide +kernel
theorem dX0_hoistRope_35 : decode cX0_hoistRope 35 = .ok (.getfield 24, 3) := by decide +kernel
theorem dX0_hoistRope_38 : decode cX0_hoistRope 38 = .ok (.iconst 1, 1) := by decide +kernel
theorem dX0_hoistRope_39 : decode cX0_hoistRope 39 = .ok (.iadd, 1) := by decide +kernel
theorem dX0_hoistRope_40 : decode cX0_hoistRope 40 = .ok (.goto 9, 3) := by decide +kernel
theorem dX0_hoistRope_43 : decode cX0_hoistRope 43 = .ok (.aload_n 0, 1) := by decide +kernel
theorem dX0_hoistRope_44 : decode cX0_hoistRope 44 = .ok (.getfield 24, 3) := by decide +kernel
theorem dX0_hoistRope_47 : decode cX0_hoistRope 47 = .ok (.iconst 1, 1) := by decide +kernel
theorem dX0_hoistRope_48 : decode cX0_hoistRope 48 = .ok (.isub, 1) := by decide +kernel
theorem dX0_hoistRope_49 : decode cX0_hoistRope 49 = .ok (.istore 4, 2) := by decide +kernel
theorem dX0_hoistRope_51 : decode cX0_hoistRope 51 = .ok (.iload 4, 2) := by decide +kernel
theorem dX0_hoistRope_53 : decode cX0_hoistRope 53 = .ok (.iload_n 2, 1) := by decide +kernel
theorem dX0_hoistRope_54 : decode cX0_hoistRope 54 = .ok (.isub, 1) := by decide +kernel
theorem dX0_hoistRope_55 : decode cX0_hoistRope 55 = .ok (.invokestatic 84, 3) := by decide +kernel
theorem dX0_hoistRope_58 : decode cX0_hoistRope 58 = .ok (.istore 5, 2) := by decide +kernel
theorem dX0_hoistRope_60 : decode cX0_hoistRope 60 = .ok (.iload_n 3, 1) := by decide +kernel
theorem dX0_hoistRope_61 : decode cX0_hoistRope 61 = .ok (.ifCond .lt 24, 3) := by decide +kernel
theorem dX0_hoistRope_64 : decode cX0_hoistRope 64 = .ok (.iload 5, 2) := by decide +kernel
theorem dX0_hoistRope_66 : decode cX0_hoistRope 66 = .ok (.iload_n 3, 1) := by decide +kernel
theorem dX0_hoistRope_67 : decode cX0_hoistRope 67 = .ok (.if_icmp .le 18, 3) := by decide +kernel
theorem dX0_hoistRope_70 : decode cX0_hoistRope 70 = .ok (.iload 5, 2) := by decide +kernel
theorem dX0_hoistRope_72 : decode cX0_hoistRope 72 = .ok (.aload_n 0, 1) := by decide +kernel
theorem dX0_hoistRope_73 : decode cX0_hoistRope 73 = .ok (.getfield 24, 3) := by decide +kernel
theorem dX0_hoistRope_76 : decode cX0_hoistRope 76 = .ok (.iload_n 2, 1) := by decide +kernel
theorem dX0_hoistRope_77 : decode cX0_hoistRope 77 = .ok (.isub, 1) := by decide +kernel
theorem dX0_hoistRope_78 : decode cX0_hoistRope 78 = .ok (.invokestatic 84, 3) := by decide +kernel
theorem dX0_hoistRope_81 : decode cX0_hoistRope 81 = .ok (.if_icmp .le 4, 3) := by decide +kernel
theorem dX0_hoistRope_84 : decode cX0_hoistRope 84 = .ok (.return_, 1) := by decide +kernel
theorem dX0_hoistRope_85 : decode cX0_hoistRope 85 = .ok (.aload_n 0, 1) := by decide +kernel
theorem dX0_hoistRope_86 : decode cX0_hoistRope 86 = .ok (.iload 4, 2) := by decide +kernel
theorem dX0_hoistRope_88 : decode cX0_hoistRope 88 = .ok (.putfield 24, 3) := by decide +kernel
theorem dX0_hoistRope_91 : decode cX0_hoistRope 91 = .ok (.return_, 1) := by decide +kernel
set_option maxRecDepth 20000 in
theorem ggX1_init_X4_init : GoodIn wsX1_init wsX4_init := goodIn_r _ [10, 11, 2, 3] (by decide +kernel) (by decide +kernel)
set_option maxRecDepth 20000 in
theorem gX1_init_X4_init_n9 : GoodIn wsX1_init (wsX4_init) := ggX1_init_X4_init
set_option maxRecDepth 20000 in
theorem ggX1_init_X1_setUsual : GoodIn wsX1_init wsX1_setUsual := goodIn_r _ [16, 17, 18, 19, 20, 21, 7, 8, 22, 23, 24, 6, 25, 26, 27, 28, 32, 33, 34, 35, 36, 37, 38, 29, 30, 31] (by decide +kernel) (by decide +kernel)
set_option maxRecDepth 20000 in
theorem gX1_init_X1_setUsual : GoodIn wsX1_init (wsV RX1 19 RX1 yX1_setUsual wsX1_setUsual) := goodIn_app (goodIn_of _ (by decide +kernel)) ggX1_init_X1_setUsual
theorem dX1_init_0 : decode cX1_init 0 = .ok (.aload_n 0, 1) := by decide +kernel
theorem dX1_init_1 : decode cX1_init 1 = .ok (.invokespecial 1, 3) := by decide +kernel
theorem dX1_init_4 : decode cX1_init 4 = .ok (.aload_n 0, 1) := by decide +kernel
theorem dX1_init_5 : decode cX1_init 5 = .ok (.new 7, 3) := by decide +kernel
theorem dX1_init_8 : decode cX1_init 8 = .ok (.dup, 1) := by decide +kernel
theorem dX1_init_9 : decode cX1_init 9 = .ok (.invokespecial 9, 3) := by decide +kernel
theorem dX1_init_12 : decode cX1_init 12 = .ok (.putfield 10, 3) := by decide +kernel
theorem dX1_init_15 : decode cX1_init 15 = .ok (.aload_n 0, 1) := by decide +kernel
theorem dX1_init_16 : decode cX1_init 16 = .ok (.new 7, 3) := by decide +kernel
theorem dX1_init_19 : decode cX1_init 19 = .ok (.dup, 1) := by decide +kernel
theorem dX1_init_20 : decode cX1_init 20 = .ok (.invokespecial 9, 3) := by decide +kernel
theorem dX1_init_23 : decode cX1_init 23 = .ok (.putfield 16, 3) := by decide +kernel
theorem dX1_init_26 : decode cX1_init 26 = .ok (.aload_n 0, 1) := by decide +kernel
theorem dX1_init_27 : decode cX1_init 27 = .ok (.invokevirtual 19, 3) := by decide +kernel
theorem dX1_init_30 : decode cX1_init 30 = .ok (.return_, 1) := by decide +kernel
set_option maxRecDepth 20000 in
theorem ggX1_setUsual_X4_set : GoodIn wsX1_setUsual wsX4_set := goodIn_r _ [12, 13, 14, 15, 23, 24, 25] (by decide +kernel) (by decide +kernel)
set_option maxRecDepth 20000 in
theorem gX1_setUsual_X4_set : GoodIn wsX1_setUsual (wsV RX1 38 RX4 yX4_set wsX4_set) := goodIn_app (goodIn_of _ (by decide +kernel)) ggX1_setUsual_X4_set
theorem dX1_setUsual_0 : decode cX1_setUsual 0 = .ok (.aload_n 0, 1) := by decide +kernel
theorem dX1_setUsual_1 : decode cX1_setUsual 1 = .ok (.sipush 600, 3) := by decide +kernel
theorem dX1_setUsual_4 : decode cX1_setUsual 4 = .ok (.putfield 22, 3) := by decide +kernel
theorem dX1_setUsual_7 : decode cX1_setUsual 7 = .ok (.aload_n 0, 1) := by decide +kernel
theorem dX1_setUsual_8 : decode cX1_setUsual 8 = .ok (.bipush 40, 2) := by decide +kernel
theorem dX1_setUsual_10 : decode cX1_setUsual 10 = .ok (.putfield 26, 3) := by decide +kernel
theorem dX1_setUsual_13 : decode cX1_setUsual 13 = .ok (.aload_n 0, 1) := by decide +kernel
theorem dX1_setUsual_14 : decode cX1_setUsual 14 = .ok (.iconst 2, 1) := by decide +kernel
theorem dX1_setUsual_15 : decode cX1_setUsual 15 = .ok (.putfield 29, 3) := by decide +kernel
theorem dX1_setUsual_18 : decode cX1_setUsual 18 = .ok (.aload_n 0, 1) := by decide +kernel
theorem dX1_setUsual_19 : decode cX1_setUsual 19 = .ok (.bipush 12, 2) := by decide +kernel
theorem dX1_setUsual_21 : decode cX1_setUsual 21 = .ok (.putfield 32, 3) := by decide +kernel
theorem dX1_setUsual_24 : decode cX1_setUsual 24 = .ok (.aload_n 0, 1) := by decide +kernel
theorem dX1_setUsual_25 : decode cX1_setUsual 25 = .ok (.bipush 6, 2) := by decide +kernel
theorem dX1_setUsual_27 : decode cX1_setUsual 27 = .ok (.putfield 35, 3) := by decide +kernel
theorem dX1_setUsual_30 : decode cX1_setUsual 30 = .ok (.aload_n 0, 1) := by decide +kernel
theorem dX1_setUsual_31 : decode cX1_setUsual 31 = .ok (.getfield 10, 3) := by decide +kernel
theorem dX1_setUsual_34 : decode cX1_setUsual 34 = .ok (.bipush 100, 2) := by decide +kernel
theorem dX1_setUsual_36 : decode cX1_setUsual 36 = .ok (.bipush 30, 2) := by decide +kernel
theorem dX1_setUsual_38 : decode cX1_setUsual 38 = .ok (.iconst 0, 1) := by decide +kernel
theorem dX1_setUsual_39 : decode cX1_setUsual 39 = .ok (.invokevirtual 38, 3) := by decide +kernel
theorem dX1_setUsual_42 : decode cX1_setUsual 42 = .ok (.aload_n 0, 1) := by decide +kernel
theorem dX1_setUsual_43 : decode cX1_setUsual 43 = .ok (.getfield 16, 3) := by decide +kernel
theorem dX1_setUsual_46 : decode cX1_setUsual 46 = .ok (.sipush 500, 3) := by decide +kernel
theorem dX1_setUsual_49 : decode cX1_setUsual 49 = .ok (.bipush 30, 2) := by decide +kernel
theorem dX1_setUsual_51 : decode cX1_setUsual 51 = .ok (.iconst 0, 1) := by decide +kernel
theorem dX1_setUsual_52 : decode cX1_setUsual 52 = .ok (.invokevirtual 38, 3) := by decide +kernel
theorem dX1_setUsual_55 : decode cX1_setUsual 55 = .ok (.return_, 1) := by decide +kernel
theorem dX1_holdsBoth_0 : decode cX1_holdsBoth 0 = .ok (.aload_n 0, 1) := by decide +kernel
theorem dX1_holdsBoth_1 : decode cX1_holdsBoth 1 = .ok (.getfield 10, 3) := by decide +kernel
theorem dX1_holdsBoth_4 : decode cX1_holdsBoth 4 = .ok (.getfield 42, 3) := by decide +kernel
theorem dX1_holdsBoth_7 : decode cX1_holdsBoth 7 = .ok (.aload_n 0, 1) := by decide +kernel
theorem dX1_holdsBoth_8 : decode cX1_holdsBoth 8 = .ok (.getfield 22, 3) := by decide +kernel
theorem dX1_holdsBoth_11 : decode cX1_holdsBoth 11 = .ok (.if_icmp .gt 43, 3) := by decide +kernel
theorem dX1_holdsBoth_14 : decode cX1_holdsBoth 14 = .ok (.aload_n 0, 1) := by decide +kernel
theorem dX1_holdsBoth_15 : decode cX1_holdsBoth 15 = .ok (.getfield 16, 3) := by decide +kernel
theorem dX1_holdsBoth_18 : decode cX1_holdsBoth 18 = .ok (.getfield 42, 3) := by decide +kernel
theorem dX1_holdsBoth_21 : decode cX1_holdsBoth 21 = .ok (.aload_n 0, 1) := by decide +kernel
theorem dX1_holdsBoth_22 : decode cX1_holdsBoth 22 = .ok (.getfield 22, 3) := by decide +kernel
theorem dX1_holdsBoth_25 : decode cX1_holdsBoth 25 = .ok (.if_icmp .gt 29, 3) := by decide +kernel
theorem dX1_holdsBoth_28 : decode cX1_holdsBoth 28 = .ok (.aload_n 0, 1) := by decide +kernel
theorem dX1_holdsBoth_29 : decode cX1_holdsBoth 29 = .ok (.getfield 16, 3) := by decide +kernel
theorem dX1_holdsBoth_32 : decode cX1_holdsBoth 32 = .ok (.getfield 42, 3) := by decide +kernel
theorem dX1_holdsBoth_35 : decode cX1_holdsBoth 35 = .ok (.aload_n 0, 1) := by decide +kernel
theorem dX1_holdsBoth_36 : decode cX1_holdsBoth 36 = .ok (.getfield 10, 3) := by decide +kernel
theorem dX1_holdsBoth_39 : decode cX1_holdsBoth 39 = .ok (.getfield 42, 3) := by decide +kernel
theorem dX1_holdsBoth_42 : decode cX1_holdsBoth 42 = .ok (.isub, 1) := by decide +kernel
theorem dX1_holdsBoth_43 : decode cX1_holdsBoth 43 = .ok (.aload_n 0, 1) := by decide +kernel
theorem dX1_holdsBoth_44 : decode cX1_holdsBoth 44 = .ok (.getfield 26, 3) := by decide +kernel
theorem dX1_holdsBoth_47 : decode cX1_holdsBoth 47 = .ok (.if_icmp .lt 7, 3) := by decide +kernel
theorem dX1_holdsBoth_50 : decode cX1_holdsBoth 50 = .ok (.iconst 1, 1) := by decide +kernel
theorem dX1_holdsBoth_51 : decode cX1_holdsBoth 51 = .ok (.goto 4, 3) := by decide +kernel
theorem dX1_holdsBoth_54 : decode cX1_holdsBoth 54 = .ok (.iconst 0, 1) := by decide +kernel
theorem dX1_holdsBoth_55 : decode cX1_holdsBoth 55 = .ok (.ireturn, 1) := by decide +kernel
set_option maxRecDepth 20000 in
theorem ggX2_init_X0_init : GoodIn wsX2_init wsX0_init := goodIn_r _ [11, 12, 2, 3] (by decide +kernel) (by decide +kernel)
set_option maxRecDepth 20000 in
theorem gX2_init_X0_init_n11 : GoodIn wsX2_init (wsX0_init) := ggX2_init_X0_init
theorem dX2_init_0 : decode cX2_init 0 = .ok (.aload_n 0, 1) := by decide +kernel
theorem dX2_init_1 : decode cX2_init 1 = .ok (.invokespecial 3, 3) := by decide +kernel
theorem dX2_init_4 : decode cX2_init 4 = .ok (.aload_n 0, 1) := by decide +kernel
theorem dX2_init_5 : decode cX2_init 5 = .ok (.new 9, 3) := by decide +kernel
theorem dX2_init_8 : decode cX2_init 8 = .ok (.dup, 1) := by decide +kernel
theorem dX2_init_9 : decode cX2_init 9 = .ok (.invokespecial 11, 3) := by decide +kernel
theorem dX2_init_12 : decode cX2_init 12 = .ok (.putfield 12, 3) := by decide +kernel
theorem dX2_init_15 : decode cX2_init 15 = .ok (.aload_n 0, 1) := by decide +kernel
theorem dX2_init_16 : decode cX2_init 16 = .ok (.new 9, 3) := by decide +kernel
theorem dX2_init_19 : decode cX2_init 19 = .ok (.dup, 1) := by decide +kernel
theorem dX2_init_20 : decode cX2_init 20 = .ok (.invokespecial 11, 3) := by decide +kernel
theorem dX2_init_23 : decode cX2_init 23 = .ok (.putfield 18, 3) := by decide +kernel
theorem dX2_init_26 : decode cX2_init 26 = .ok (.aload_n 0, 1) := by decide +kernel
theorem dX2_init_27 : decode cX2_init 27 = .ok (.bipush (-4), 2) := by decide +kernel
theorem dX2_init_29 : decode cX2_init 29 = .ok (.putfield 21, 3) := by decide +kernel
theorem dX2_init_32 : decode cX2_init 32 = .ok (.return_, 1) := by decide +kernel
set_option maxRecDepth 20000 in
theorem ggX2_begin_X0_begin : GoodIn wsX2_begin wsX0_begin := goodIn_r _ [10, 11, 12, 13, 14, 15, 16, 17, 18, 19, 20, 21, 22, 23, 24, 25, 9, 26, 27, 28, 29, 30, 41, 42, 43, 44, 45, 46, 47, 48, 49, 50, 51, 52, 53, 54, 55, 56] (by decide +kernel) (by decide +kernel)
set_option maxRecDepth 20000 in
theorem gX2_begin_X0_begin : GoodIn wsX2_begin (wsV RX2 30 RX0 yX0_begin wsX0_begin) := goodIn_app (goodIn_of _ (by decide +kernel)) ggX2_begin_X0_begin
theorem dX2_begin_0 : decode cX2_begin 0 = .ok (.aload_n 0, 1) := by decide +kernel
theorem dX2_begin_1 : decode cX2_begin 1 = .ok (.getfield 12, 3) := by decide +kernel
theorem dX2_begin_4 : decode cX2_begin 4 = .ok (.aload_n 1, 1) := by decide +kernel
theorem dX2_begin_5 : decode cX2_begin 5 = .ok (.getfield 25, 3) := by decide +kernel
theorem dX2_begin_8 : decode cX2_begin 8 = .ok (.invokevirtual 30, 3) := by decide +kernel
theorem dX2_begin_11 : decode cX2_begin 11 = .ok (.aload_n 0, 1) := by decide +kernel
theorem dX2_begin_12 : decode cX2_begin 12 = .ok (.getfield 18, 3) := by decide +kernel
theorem dX2_begin_15 : decode cX2_begin 15 = .ok (.aload_n 1, 1) := by decide +kernel
theorem dX2_begin_16 : decode cX2_begin 16 = .ok (.getfield 34, 3) := by decide +kernel
theorem dX2_begin_19 : decode cX2_begin 19 = .ok (.invokevirtual 30, 3) := by decide +kernel
theorem dX2_begin_22 : decode cX2_begin 22 = .ok (.aload_n 0, 1) := by decide +kernel
theorem dX2_begin_23 : decode cX2_begin 23 = .ok (.bipush (-4), 2) := by decide +kernel
theorem dX2_begin_25 : decode cX2_begin 25 = .ok (.putfield 21, 3) := by decide +kernel
theorem dX2_begin_28 : decode cX2_begin 28 = .ok (.return_, 1) := by decide +kernel
set_option maxRecDepth 20000 in
theorem ggX2_copyFrom_X0_copyFrom : GoodIn wsX2_copyFrom wsX0_copyFrom := goodIn_r _ [8, 9, 10, 11, 12, 13, 14, 15, 16, 17, 18, 19, 20, 21, 25, 26, 27, 28, 29, 30, 31, 32, 33, 34, 35, 36, 37] (by decide +kernel) (by decide +kernel)
set_option maxRecDepth 20000 in
theorem gX2_copyFrom_X0_copyFrom : GoodIn wsX2_copyFrom (wsV RX2 36 RX0 yX0_copyFrom wsX0_copyFrom) := goodIn_app (goodIn_of _ (by decide +kernel)) ggX2_copyFrom_X0_copyFrom
theorem dX2_copyFrom_0 : decode cX2_copyFrom 0 = .ok (.aload_n 0, 1) := by decide +kernel
theorem dX2_copyFrom_1 : decode cX2_copyFrom 1 = .ok (.getfield 12, 3) := by decide +kernel
theorem dX2_copyFrom_4 : decode cX2_copyFrom 4 = .ok (.aload_n 1, 1) := by decide +kernel
theorem dX2_copyFrom_5 : decode cX2_copyFrom 5 = .ok (.getfield 12, 3) := by decide +kernel
theorem dX2_copyFrom_8 : decode cX2_copyFrom 8 = .ok (.invokevirtual 36, 3) := by decide +kernel
theorem dX2_copyFrom_11 : decode cX2_copyFrom 11 = .ok (.aload_n 0, 1) := by decide +kernel
theorem dX2_copyFrom_12 : decode cX2_copyFrom 12 = .ok (.getfield 18, 3) := by decide +kernel
theorem dX2_copyFrom_15 : decode cX2_copyFrom 15 = .ok (.aload_n 1, 1) := by decide +kernel
theorem dX2_copyFrom_16 : decode cX2_copyFrom 16 = .ok (.getfield 18, 3) := by decide +kernel
theorem dX2_copyFrom_19 : decode cX2_copyFrom 19 = .ok (.invokevirtual 36, 3) := by decide +kernel
theorem dX2_copyFrom_22 : decode cX2_copyFrom 22 = .ok (.aload_n 0, 1) := by decide +kernel
theorem dX2_copyFrom_23 : decode cX2_copyFrom 23 = .ok (.aload_n 1, 1) := by decide +kernel
theorem dX2_copyFrom_24 : decode cX2_copyFrom 24 = .ok (.getfield 21, 3) := by decide +kernel
theorem dX2_copyFrom_27 : decode cX2_copyFrom 27 = .ok (.putfield 21, 3) := by decide +kernel
theorem dX2_copyFrom_30 : decode cX2_copyFrom 30 = .ok (.return_, 1) := by decide +kernel
theorem dX2_side_0 : decode cX2_side 0 = .ok (.iload_n 1, 1) := by decide +kernel
theorem dX2_side_1 : decode cX2_side 1 = .ok (.ifCond .ne 10, 3) := by decide +kernel
theorem dX2_side_4 : decode cX2_side 4 = .ok (.aload_n 0, 1) := by decide +kernel
theorem dX2_side_5 : decode cX2_side 5 = .ok (.getfield 12, 3) := by decide +kernel
theorem dX2_side_8 : decode cX2_side 8 = .ok (.goto 7, 3) := by decide +kernel
theorem dX2_side_11 : decode cX2_side 11 = .ok (.aload_n 0, 1) := by decide +kernel
theorem dX2_side_12 : decode cX2_side 12 = .ok (.getfield 18, 3) := by decide +kernel
theorem dX2_side_15 : decode cX2_side 15 = .ok (.areturn, 1) := by decide +kernel
theorem dX2_freeBetween_0 : decode cX2_freeBetween 0 = .ok (.aload_n 0, 1) := by decide +kernel
theorem dX2_freeBetween_1 : decode cX2_freeBetween 1 = .ok (.getfield 18, 3) := by decide +kernel
theorem dX2_freeBetween_4 : decode cX2_freeBetween 4 = .ok (.getfield 40, 3) := by decide +kernel
theorem dX2_freeBetween_7 : decode cX2_freeBetween 7 = .ok (.aload_n 0, 1) := by decide +kernel
theorem dX2_freeBetween_8 : decode cX2_freeBetween 8 = .ok (.getfield 12, 3) := by decide +kernel
theorem dX2_freeBetween_11 : decode cX2_freeBetween 11 = .ok (.getfield 40, 3) := by decide +kernel
theorem dX2_freeBetween_14 : decode cX2_freeBetween 14 = .ok (.isub, 1) := by decide +kernel
theorem dX2_freeBetween_15 : decode cX2_freeBetween 15 = .ok (.aload_n 1, 1) := by decide +kernel
theorem dX2_freeBetween_16 : decode cX2_freeBetween 16 = .ok (.getfield 43, 3) := by decide +kernel
theorem dX2_freeBetween_19 : decode cX2_freeBetween 19 = .ok (.isub, 1) := by decide +kernel
theorem dX2_freeBetween_20 : decode cX2_freeBetween 20 = .ok (.ireturn, 1) := by decide +kernel
theorem dX2_isCoupled_0 : decode cX2_isCoupled 0 = .ok (.aload_n 0, 1) := by decide +kernel
theorem dX2_isCoupled_1 : decode cX2_isCoupled 1 = .ok (.getfield 21, 3) := by decide +kernel
theorem dX2_isCoupled_4 : decode cX2_isCoupled 4 = .ok (.ifCond .lt 7, 3) := by decide +kernel
theorem dX2_isCoupled_7 : decode cX2_isCoupled 7 = .ok (.iconst 1, 1) := by decide +kernel
theorem dX2_isCoupled_8 : decode cX2_isCoupled 8 = .ok (.goto 4, 3) := by decide +kernel
theorem dX2_isCoupled_11 : decode cX2_isCoupled 11 = .ok (.iconst 0, 1) := by decide +kernel
theorem dX2_isCoupled_12 : decode cX2_isCoupled 12 = .ok (.ireturn, 1) := by decide +kernel
set_option maxRecDepth 20000 in
theorem ggX2_leftHeeds_X2_isCoupled : GoodIn wsX2_leftHeeds wsX2_isCoupled := goodIn_r _ [5, 6, 7, 8, 9] (by decide +kernel) (by decide +kernel)
set_option maxRecDepth 20000 in
theorem gX2_leftHeeds_X2_isCoupled : GoodIn wsX2_leftHeeds (wsV RX2 46 RX2 yX2_isCoupled wsX2_isCoupled) := goodIn_app (goodIn_of _ (by decide +kernel)) ggX2_leftHeeds_X2_isCoupled
theorem dX2_leftHeeds_0 : decode cX2_leftHeeds 0 = .ok (.iload_n 1, 1) := by decide +kernel
theorem dX2_leftHeeds_1 : decode cX2_leftHeeds 1 = .ok (.ifCond .eq 10, 3) := by decide +kernel
theorem dX2_leftHeeds_4 : decode cX2_leftHeeds 4 = .ok (.aload_n 0, 1) := by decide +kernel
theorem dX2_leftHeeds_5 : decode cX2_leftHeeds 5 = .ok (.invokevirtual 46, 3) := by decide +kernel
theorem dX2_leftHeeds_8 : decode cX2_leftHeeds 8 = .ok (.ifCond .eq 7, 3) := by decide +kernel
theorem dX2_leftHeeds_11 : decode cX2_leftHeeds 11 = .ok (.iconst 1, 1) := by decide +kernel
theorem dX2_leftHeeds_12 : decode cX2_leftHeeds 12 = .ok (.goto 4, 3) := by decide +kernel
theorem dX2_leftHeeds_15 : decode cX2_leftHeeds 15 = .ok (.iconst 0, 1) := by decide +kernel
theorem dX2_leftHeeds_16 : decode cX2_leftHeeds 16 = .ok (.ireturn, 1) := by decide +kernel
set_option maxRecDepth 20000 in
theorem ggX2_rightHeeds_X2_isCoupled : GoodIn wsX2_rightHeeds wsX2_isCoupled := goodIn_r _ [5, 6, 7, 8, 9] (by decide +kernel) (by decide +kernel)
set_option maxRecDepth 20000 in
theorem gX2_rightHeeds_X2_isCoupled : GoodIn wsX2_rightHeeds (wsV RX2 46 RX2 yX2_isCoupled wsX2_isCoupled) := goodIn_app (goodIn_of _ (by decide +kernel)) ggX2_rightHeeds_X2_isCoupled
theorem dX2_rightHeeds_0 : decode cX2_rightHeeds 0 = .ok (.iload_n 1, 1) := by decide +kernel
theorem dX2_rightHeeds_1 : decode cX2_rightHeeds 1 = .ok (.iconst 1, 1) := by decide +kernel
theorem dX2_rightHeeds_2 : decode cX2_rightHeeds 2 = .ok (.if_icmp .eq 10, 3) := by decide +kernel
theorem dX2_rightHeeds_5 : decode cX2_rightHeeds 5 = .ok (.aload_n 0, 1) := by decide +kernel
theorem dX2_rightHeeds_6 : decode cX2_rightHeeds 6 = .ok (.invokevirtual 46, 3) := by decide +kernel
theorem dX2_rightHeeds_9 : decode cX2_rightHeeds 9 = .ok (.ifCond .eq 7, 3) := by decide +kernel
theorem dX2_rightHeeds_12 : decode cX2_rightHeeds 12 = .ok (.iconst 1, 1) := by decide +kernel
theorem dX2_rightHeeds_13 : decode cX2_rightHeeds 13 = .ok (.goto 4, 3) := by decide +kernel
theorem dX2_rightHeeds_16 : decode cX2_rightHeeds 16 = .ok (.iconst 0, 1) := by decide +kernel
theorem dX2_rightHeeds_17 : decode cX2_rightHeeds 17 = .ok (.ireturn, 1) := by decide +kernel
set_option maxRecDepth 20000 in
theorem ggX2_heeding_X2_isCoupled : GoodIn wsX2_heeding wsX2_isCoupled := goodIn_r _ [5, 6, 7, 8, 9] (by decide +kernel) (by decide +kernel)
set_option maxRecDepth 20000 in
theorem gX2_heeding_X2_isCoupled : GoodIn wsX2_heeding (wsV RX2 46 RX2 yX2_isCoupled wsX2_isCoupled) := goodIn_app (goodIn_of _ (by decide +kernel)) ggX2_heeding_X2_isCoupled
theorem dX2_heeding_0 : decode cX2_heeding 0 = .ok (.aload_n 0, 1) := by decide +kernel
theorem dX2_heeding_1 : decode cX2_heeding 1 = .ok (.invokevirtual 46, 3) := by decide +kernel
theorem dX2_heeding_4 : decode cX2_heeding 4 = .ok (.ifCond .eq 7, 3) := by decide +kernel
theorem dX2_heeding_7 : decode cX2_heeding 7 = .ok (.iconst 2, 1) := by decide +kernel
theorem dX2_heeding_8 : decode cX2_heeding 8 = .ok (.goto 4, 3) := by decide +kernel
theorem dX2_heeding_11 : decode cX2_heeding 11 = .ok (.iconst 1, 1) := by decide +kernel
theorem dX2_heeding_12 : decode cX2_heeding 12 = .ok (.ireturn, 1) := by decide +kernel
set_option maxRecDepth 20000 in
theorem ggX2_tellAtOnce_X2_leftHeeds : GoodIn wsX2_tellAtOnce wsX2_leftHeeds := goodIn_r _ [7, 8, 9, 10, 6, 11, 12, 35, 36, 37] (by decide +kernel) (by decide +kernel)
set_option maxRecDepth 20000 in
theorem gX2_tellAtOnce_X2_leftHeeds : GoodIn wsX2_tellAtOnce (wsV RX2 50 RX2 yX2_leftHeeds wsX2_leftHeeds) := goodIn_app (goodIn_of _ (by decide +kernel)) ggX2_tellAtOnce_X2_leftHeeds
set_option maxRecDepth 20000 in
theorem ggX2_tellAtOnce_X0_planAtOnce : GoodIn wsX2_tellAtOnce wsX0_planAtOnce := goodIn_r _ [17, 18, 19, 20, 21, 16, 22, 23, 24, 25, 26, 38, 39, 40, 41, 42, 43, 44, 45, 46, 47, 48, 49, 50] (by decide +kernel) (by decide +kernel)
set_option maxRecDepth 20000 in
theorem gX2_tellAtOnce_X0_planAtOnce : GoodIn wsX2_tellAtOnce (wsV RX2 54 RX0 yX0_planAtOnce wsX0_planAtOnce) := goodIn_app (goodIn_of _ (by decide +kernel)) ggX2_tellAtOnce_X0_planAtOnce
set_option maxRecDepth 20000 in
theorem ggX2_tellAtOnce_X2_rightHeeds : GoodIn wsX2_tellAtOnce wsX2_rightHeeds := goodIn_r _ [30, 8, 9, 10, 6, 11, 12, 35, 36, 37] (by decide +kernel) (by decide +kernel)
set_option maxRecDepth 20000 in
theorem gX2_tellAtOnce_X2_rightHeeds : GoodIn wsX2_tellAtOnce (wsV RX2 58 RX2 yX2_rightHeeds wsX2_rightHeeds) := goodIn_app (goodIn_of _ (by decide +kernel)) ggX2_tellAtOnce_X2_rightHeeds
set_option maxRecDepth 20000 in
theorem ggX2_tellAtOnce_X2_heeding : GoodIn wsX2_tellAtOnce wsX2_heeding := goodIn_r _ [34, 8, 9, 10, 6, 11, 12, 35, 36, 37] (by decide +kernel) (by decide +kernel)
set_option maxRecDepth 20000 in
theorem gX2_tellAtOnce_X2_heeding : GoodIn wsX2_tellAtOnce (wsV RX2 61 RX2 yX2_heeding wsX2_heeding) := goodIn_app (goodIn_of _ (by decide +kernel)) ggX2_tellAtOnce_X2_heeding
theorem dX2_tellAtOnce_0 : decode cX2_tellAtOnce 0 = .ok (.aload_n 0, 1) := by decide +kernel
theorem dX2_tellAtOnce_1 : decode cX2_tellAtOnce 1 = .ok (.iload_n 1, 1) := by decide +kernel
theorem dX2_tellAtOnce_2 : decode cX2_tellAtOnce 2 = .ok (.invokevirtual 50, 3) := by decide +kernel
theorem dX2_tellAtOnce_5 : decode cX2_tellAtOnce 5 = .ok (.ifCond .eq 11, 3) := by decide +kernel
theorem dX2_tellAtOnce_8 : decode cX2_tellAtOnce 8 = .ok (.aload_n 0, 1) := by decide +kernel
theorem dX2_tellAtOnce_9 : decode cX2_tellAtOnce 9 = .ok (.getfield 12, 3) := by decide +kernel
theorem dX2_tellAtOnce_12 : decode cX2_tellAtOnce 12 = .ok (.iload_n 2, 1) := by decide +kernel
theorem dX2_tellAtOnce_13 : decode cX2_tellAtOnce 13 = .ok (.invokevirtual 54, 3) := by decide +kernel
theorem dX2_tellAtOnce_16 : decode cX2_tellAtOnce 16 = .ok (.aload_n 0, 1) := by decide +kernel
theorem dX2_tellAtOnce_17 : decode cX2_tellAtOnce 17 = .ok (.iload_n 1, 1) := by decide +kernel
theorem dX2_tellAtOnce_18 : decode cX2_tellAtOnce 18 = .ok (.invokevirtual 58, 3) := by decide +kernel
theorem dX2_tellAtOnce_21 : decode cX2_tellAtOnce 21 = .ok (.ifCond .eq 11, 3) := by decide +kernel
theorem dX2_tellAtOnce_24 : decode cX2_tellAtOnce 24 = .ok (.aload_n 0, 1) := by decide +kernel
theorem dX2_tellAtOnce_25 : decode cX2_tellAtOnce 25 = .ok (.getfield 18, 3) := by decide +kernel
theorem dX2_tellAtOnce_28 : decode cX2_tellAtOnce 28 = .ok (.iload_n 2, 1) := by decide +kernel
theorem dX2_tellAtOnce_29 : decode cX2_tellAtOnce 29 = .ok (.invokevirtual 54, 3) := by decide +kernel
theorem dX2_tellAtOnce_32 : decode cX2_tellAtOnce 32 = .ok (.aload_n 0, 1) := by decide +kernel
theorem dX2_tellAtOnce_33 : decode cX2_tellAtOnce 33 = .ok (.invokevirtual 61, 3) := by decide +kernel
theorem dX2_tellAtOnce_36 : decode cX2_tellAtOnce 36 = .ok (.ireturn, 1) := by decide +kernel
set_option maxRecDepth 20000 in
theorem ggX2_tellByHalves_X2_leftHeeds : GoodIn wsX2_tellByHalves wsX2_leftHeeds := goodIn_r _ [7, 8, 9, 10, 6, 11, 12, 39, 40, 41] (by decide +kernel) (by decide +kernel)
set_option maxRecDepth 20000 in
theorem gX2_tellByHalves_X2_leftHeeds : GoodIn wsX2_tellByHalves (wsV RX2 50 RX2 yX2_leftHeeds wsX2_leftHeeds) := goodIn_app (goodIn_of _ (by decide +kernel)) ggX2_tellByHalves_X2_leftHeeds
set_option maxRecDepth 20000 in
theorem ggX2_tellByHalves_X0_planByHalves : GoodIn wsX2_tellByHalves wsX0_planByHalves := goodIn_r _ [17, 18, 19, 20, 21, 22, 23, 24, 25, 16, 26, 27, 28, 29, 30, 42, 43, 44, 45, 46, 47, 48, 49, 50, 51, 52, 53, 54] (by decide +kernel) (by decide +kernel)
set_option maxRecDepth 20000 in
theorem gX2_tellByHalves_X0_planByHalves : GoodIn wsX2_tellByHalves (wsV RX2 65 RX0 yX0_planByHalves wsX0_planByHalves) := goodIn_app (goodIn_of _ (by decide +kernel)) ggX2_tellByHalves_X0_planByHalves
set_option maxRecDepth 20000 in
theorem ggX2_tellByHalves_X2_rightHeeds : GoodIn wsX2_tellByHalves wsX2_rightHeeds := goodIn_r _ [34, 8, 9, 10, 6, 11, 12, 39, 40, 41] (by decide +kernel) (by decide +kernel)
set_option maxRecDepth 20000 in
theorem gX2_tellByHalves_X2_rightHeeds : GoodIn wsX2_tellByHalves (wsV RX2 58 RX2 yX2_rightHeeds wsX2_rightHeeds) := goodIn_app (goodIn_of _ (by decide +kernel)) ggX2_tellByHalves_X2_rightHeeds
set_option maxRecDepth 20000 in
theorem ggX2_tellByHalves_X2_heeding : GoodIn wsX2_tellByHalves wsX2_heeding := goodIn_r _ [38, 8, 9, 10, 6, 11, 12, 39, 40, 41] (by decide +kernel) (by decide +kernel)
set_option maxRecDepth 20000 in
theorem gX2_tellByHalves_X2_heeding : GoodIn wsX2_tellByHalves (wsV RX2 61 RX2 yX2_heeding wsX2_heeding) := goodIn_app (goodIn_of _ (by decide +kernel)) ggX2_tellByHalves_X2_heeding
theorem dX2_tellByHalves_0 : decode cX2_tellByHalves 0 = .ok (.aload_n 0, 1) := by decide +kernel
theorem dX2_tellByHalves_1 : decode cX2_tellByHalves 1 = .ok (.iload_n 1, 1) := by decide +kernel
theorem dX2_tellByHalves_2 : decode cX2_tellByHalves 2 = .ok (.invokevirtual 50, 3) := by decide +kernel
theorem dX2_tellByHalves_5 : decode cX2_tellByHalves 5 = .ok (.ifCond .eq 12, 3) := by decide +kernel
theorem dX2_tellByHalves_8 : decode cX2_tellByHalves 8 = .ok (.aload_n 0, 1) := by decide +kernel
theorem dX2_tellByHalves_9 : decode cX2_tellByHalves 9 = .ok (.getfield 12, 3) := by decide +kernel
theorem dX2_tellByHalves_12 : decode cX2_tellByHalves 12 = .ok (.iload_n 2, 1) := by decide +kernel
theorem dX2_tellByHalves_13 : decode cX2_tellByHalves 13 = .ok (.iload_n 3, 1) := by decide +kernel
theorem dX2_tellByHalves_14 : decode cX2_tellByHalves 14 = .ok (.invokevirtual 65, 3) := by decide +kernel
theorem dX2_tellByHalves_17 : decode cX2_tellByHalves 17 = .ok (.aload_n 0, 1) := by decide +kernel
theorem dX2_tellByHalves_18 : decode cX2_tellByHalves 18 = .ok (.iload_n 1, 1) := by decide +kernel
theorem dX2_tellByHalves_19 : decode cX2_tellByHalves 19 = .ok (.invokevirtual 58, 3) := by decide +kernel
theorem dX2_tellByHalves_22 : decode cX2_tellByHalves 22 = .ok (.ifCond .eq 12, 3) := by decide +kernel
theorem dX2_tellByHalves_25 : decode cX2_tellByHalves 25 = .ok (.aload_n 0, 1) := by decide +kernel
theorem dX2_tellByHalves_26 : decode cX2_tellByHalves 26 = .ok (.getfield 18, 3) := by decide +kernel
theorem dX2_tellByHalves_29 : decode cX2_tellByHalves 29 = .ok (.iload_n 2, 1) := by decide +kernel
theorem dX2_tellByHalves_30 : decode cX2_tellByHalves 30 = .ok (.iload_n 3, 1) := by decide +kernel
theorem dX2_tellByHalves_31 : decode cX2_tellByHalves 31 = .ok (.invokevirtual 65, 3) := by decide +kernel
theorem dX2_tellByHalves_34 : decode cX2_tellByHalves 34 = .ok (.aload_n 0, 1) := by decide +kernel
theorem dX2_tellByHalves_35 : decode cX2_tellByHalves 35 = .ok (.invokevirtual 61, 3) := by decide +kernel
theorem dX2_tellByHalves_38 : decode cX2_tellByHalves 38 = .ok (.ireturn, 1) := by decide +kernel
set_option maxRecDepth 20000 in
theorem ggX2_aimsAt_X2_leftHeeds : GoodIn wsX2_aimsAt wsX2_leftHeeds := goodIn_r _ [8, 9, 10, 11, 7, 12, 13, 18, 19, 20] (by decide +kernel) (by decide +kernel)
set_option maxRecDepth 20000 in
theorem gX2_aimsAt_X2_leftHeeds : GoodIn wsX2_aimsAt (wsV RX2 50 RX2 yX2_leftHeeds wsX2_leftHeeds) := goodIn_app (goodIn_of _ (by decide +kernel)) ggX2_aimsAt_X2_leftHeeds
set_option maxRecDepth 20000 in
theorem ggX2_aimsAt_X2_rightHeeds : GoodIn wsX2_aimsAt wsX2_rightHeeds := goodIn_r _ [17, 9, 10, 11, 7, 12, 13, 18, 19, 20] (by decide +kernel) (by decide +kernel)
set_option maxRecDepth 20000 in
theorem gX2_aimsAt_X2_rightHeeds : GoodIn wsX2_aimsAt (wsV RX2 58 RX2 yX2_rightHeeds wsX2_rightHeeds) := goodIn_app (goodIn_of _ (by decide +kernel)) ggX2_aimsAt_X2_rightHeeds
theorem dX2_aimsAt_0 : decode cX2_aimsAt 0 = .ok (.aload_n 0, 1) := by decide +kernel
theorem dX2_aimsAt_1 : decode cX2_aimsAt 1 = .ok (.iload_n 1, 1) := by decide +kernel
theorem dX2_aimsAt_2 : decode cX2_aimsAt 2 = .ok (.invokevirtual 50, 3) := by decide +kernel
theorem dX2_aimsAt_5 : decode cX2_aimsAt 5 = .ok (.ifCond .eq 14, 3) := by decide +kernel
theorem dX2_aimsAt_8 : decode cX2_aimsAt 8 = .ok (.aload_n 0, 1) := by decide +kernel
theorem dX2_aimsAt_9 : decode cX2_aimsAt 9 = .ok (.getfield 12, 3) := by decide +kernel
theorem dX2_aimsAt_12 : decode cX2_aimsAt 12 = .ok (.getfield 69, 3) := by decide +kernel
theorem dX2_aimsAt_15 : decode cX2_aimsAt 15 = .ok (.iload_n 2, 1) := by decide +kernel
theorem dX2_aimsAt_16 : decode cX2_aimsAt 16 = .ok (.if_icmp .ne 26, 3) := by decide +kernel
theorem dX2_aimsAt_19 : decode cX2_aimsAt 19 = .ok (.aload_n 0, 1) := by decide +kernel
theorem dX2_aimsAt_20 : decode cX2_aimsAt 20 = .ok (.iload_n 1, 1) := by decide +kernel
theorem dX2_aimsAt_21 : decode cX2_aimsAt 21 = .ok (.invokevirtual 58, 3) := by decide +kernel
theorem dX2_aimsAt_24 : decode cX2_aimsAt 24 = .ok (.ifCond .eq 14, 3) := by decide +kernel
theorem dX2_aimsAt_27 : decode cX2_aimsAt 27 = .ok (.aload_n 0, 1) := by decide +kernel
theorem dX2_aimsAt_28 : decode cX2_aimsAt 28 = .ok (.getfield 18, 3) := by decide +kernel
theorem dX2_aimsAt_31 : decode cX2_aimsAt 31 = .ok (.getfield 69, 3) := by decide +kernel
theorem dX2_aimsAt_34 : decode cX2_aimsAt 34 = .ok (.iload_n 2, 1) := by decide +kernel
theorem dX2_aimsAt_35 : decode cX2_aimsAt 35 = .ok (.if_icmp .ne 7, 3) := by decide +kernel
theorem dX2_aimsAt_38 : decode cX2_aimsAt 38 = .ok (.iconst 1, 1) := by decide +kernel
theorem dX2_aimsAt_39 : decode cX2_aimsAt 39 = .ok (.goto 4, 3) := by decide +kernel
theorem dX2_aimsAt_42 : decode cX2_aimsAt 42 = .ok (.iconst 0, 1) := by decide +kernel
theorem dX2_aimsAt_43 : decode cX2_aimsAt 43 = .ok (.ireturn, 1) := by decide +kernel
set_option maxRecDepth 20000 in
theorem ggX2_aim_X2_leftHeeds : GoodIn wsX2_aim wsX2_leftHeeds := goodIn_r _ [8, 9, 10, 11, 7, 12, 13, 18, 19, 20] (by decide +kernel) (by decide +kernel)
set_option maxRecDepth 20000 in
theorem gX2_aim_X2_leftHeeds : GoodIn wsX2_aim (wsV RX2 50 RX2 yX2_leftHeeds wsX2_leftHeeds) := goodIn_app (goodIn_of _ (by decide +kernel)) ggX2_aim_X2_leftHeeds
set_option maxRecDepth 20000 in
theorem ggX2_aim_X2_rightHeeds : GoodIn wsX2_aim wsX2_rightHeeds := goodIn_r _ [17, 9, 10, 11, 7, 12, 13, 18, 19, 20] (by decide +kernel) (by decide +kernel)
set_option maxRecDepth 20000 in
theorem gX2_aim_X2_rightHeeds : GoodIn wsX2_aim (wsV RX2 58 RX2 yX2_rightHeeds wsX2_rightHeeds) := goodIn_app (goodIn_of _ (by decide +kernel)) ggX2_aim_X2_rightHeeds
theorem dX2_aim_0 : decode cX2_aim 0 = .ok (.aload_n 0, 1) := by decide +kernel
theorem dX2_aim_1 : decode cX2_aim 1 = .ok (.iload_n 1, 1) := by decide +kernel
theorem dX2_aim_2 : decode cX2_aim 2 = .ok (.invokevirtual 50, 3) := by decide +kernel
theorem dX2_aim_5 : decode cX2_aim 5 = .ok (.ifCond .eq 11, 3) := by decide +kernel
theorem dX2_aim_8 : decode cX2_aim 8 = .ok (.aload_n 0, 1) := by decide +kernel
theorem dX2_aim_9 : decode cX2_aim 9 = .ok (.getfield 12, 3) := by decide +kernel
theorem dX2_aim_12 : decode cX2_aim 12 = .ok (.iload_n 2, 1) := by decide +kernel
theorem dX2_aim_13 : decode cX2_aim 13 = .ok (.putfield 69, 3) := by decide +kernel
theorem dX2_aim_16 : decode cX2_aim 16 = .ok (.aload_n 0, 1) := by decide +kernel
theorem dX2_aim_17 : decode cX2_aim 17 = .ok (.iload_n 1, 1) := by decide +kernel
theorem dX2_aim_18 : decode cX2_aim 18 = .ok (.invokevirtual 58, 3) := by decide +kernel
theorem dX2_aim_21 : decode cX2_aim 21 = .ok (.ifCond .eq 11, 3) := by decide +kernel
theorem dX2_aim_24 : decode cX2_aim 24 = .ok (.aload_n 0, 1) := by decide +kernel
theorem dX2_aim_25 : decode cX2_aim 25 = .ok (.getfield 18, 3) := by decide +kernel
theorem dX2_aim_28 : decode cX2_aim 28 = .ok (.iload_n 2, 1) := by decide +kernel
theorem dX2_aim_29 : decode cX2_aim 29 = .ok (.putfield 69, 3) := by decide +kernel
theorem dX2_aim_32 : decode cX2_aim 32 = .ok (.return_, 1) := by decide +kernel
set_option maxRecDepth 20000 in
theorem ggX2_goOn_X2_freeBetween : GoodIn wsX2_goOn wsX2_freeBetween := goodIn_r _ [13, 3, 2, 1, 14, 76, 77, 78, 79, 80, 81, 82, 83, 84, 85, 86, 87, 88, 89, 90, 91, 92, 93, 94, 95, 96, 97, 98] (by decide +kernel) (by decide +kernel)
set_option maxRecDepth 20000 in
theorem gX2_goOn_X2_freeBetween : GoodIn wsX2_goOn (wsV RX2 72 RX2 yX2_freeBetween wsX2_freeBetween) := goodIn_app (goodIn_of _ (by decide +kernel)) ggX2_goOn_X2_freeBetween
set_option maxRecDepth 20000 in
theorem ggX2_goOn_X0_roll : GoodIn wsX2_goOn wsX0_roll := goodIn_r _ [19, 20, 21, 22, 23, 24, 25, 26, 18, 27, 28, 29, 30, 31, 32, 33, 34, 35, 36, 37, 38, 39, 40, 41, 42, 43, 44, 45, 46, 47, 48, 49, 50, 51, 52, 53, 54, 55, 56, 57, 58, 59, 60, 61, 62, 63, 64, 65, 66, 67, 68, 69, 70, 92, 93, 94, 95, 96, 97, 98, 79, 80, 81, 82, 83, 84, 85, 86, 87, 88, 89, 90, 91] (by decide +kernel) (by decide +kernel)
set_option maxRecDepth 20000 in
theorem gX2_goOn_X0_roll : GoodIn wsX2_goOn (wsV RX2 76 RX0 yX0_roll wsX0_roll) := goodIn_app (goodIn_of _ (by decide +kernel)) ggX2_goOn_X0_roll
set_option maxRecDepth 20000 in
theorem ggX2_goOn_X0_hoistRope : GoodIn wsX2_goOn wsX0_hoistRope := goodIn_r _ [74, 75, 68, 22, 63, 57, 45, 58, 79, 80, 81, 82, 83, 84, 85, 86, 87, 88, 89, 90, 91] (by decide +kernel) (by decide +kernel)
set_option maxRecDepth 20000 in
theorem gX2_goOn_X0_hoistRope : GoodIn wsX2_goOn (wsV RX2 89 RX0 yX0_hoistRope wsX0_hoistRope) := goodIn_app (goodIn_of _ (by decide +kernel)) ggX2_goOn_X0_hoistRope
theorem dX2_goOn_0 : decode cX2_goOn 0 = .ok (.aload_n 0, 1) := by decide +kernel
theorem dX2_goOn_1 : decode cX2_goOn 1 = .ok (.aload_n 1, 1) := by decide +kernel
theorem dX2_goOn_2 : decode cX2_goOn 2 = .ok (.invokevirtual 72, 3) := by decide +kernel
theorem dX2_goOn_5 : decode cX2_goOn 5 = .ok (.iconst 2, 1) := by decide +kernel
theorem dX2_goOn_6 : decode cX2_goOn 6 = .ok (.idiv, 1) := by decide +kernel
theorem dX2_goOn_7 : decode cX2_goOn 7 = .ok (.istore_n 2, 1) := by decide +kernel
theorem dX2_goOn_8 : decode cX2_goOn 8 = .ok (.aload_n 0, 1) := by decide +kernel
theorem dX2_goOn_9 : decode cX2_goOn 9 = .ok (.getfield 12, 3) := by decide +kernel
theorem dX2_goOn_12 : decode cX2_goOn 12 = .ok (.aload_n 1, 1) := by decide +kernel
theorem dX2_goOn_13 : decode cX2_goOn 13 = .ok (.aload_n 0, 1) := by decide +kernel
theorem dX2_goOn_14 : decode cX2_goOn 14 = .ok (.getfield 12, 3) := by decide +kernel
theorem dX2_goOn_17 : decode cX2_goOn 17 = .ok (.getfield 40, 3) := by decide +kernel
theorem dX2_goOn_20 : decode cX2_goOn 20 = .ok (.iload_n 2, 1) := by decide +kernel
theorem dX2_goOn_21 : decode cX2_goOn 21 = .ok (.invokevirtual 76, 3) := by decide +kernel
theorem dX2_goOn_24 : decode cX2_goOn 24 = .ok (.aload_n 0, 1) := by decide +kernel
theorem dX2_goOn_25 : decode cX2_goOn 25 = .ok (.getfield 18, 3) := by decide +kernel
theorem dX2_goOn_28 : decode cX2_goOn 28 = .ok (.aload_n 1, 1) := by decide +kernel
theorem dX2_goOn_29 : decode cX2_goOn 29 = .ok (.iload_n 2, 1) := by decide +kernel
theorem dX2_goOn_30 : decode cX2_goOn 30 = .ok (.aload_n 1, 1) := by decide +kernel
theorem dX2_goOn_31 : decode cX2_goOn 31 = .ok (.getfield 80, 3) := by decide +kernel
theorem dX2_goOn_34 : decode cX2_goOn 34 = .ok (.aload_n 0, 1) := by decide +kernel
theorem dX2_goOn_35 : decode cX2_goOn 35 = .ok (.getfield 18, 3) := by decide +kernel
theorem dX2_goOn_38 : decode cX2_goOn 38 = .ok (.getfield 40, 3) := by decide +kernel
theorem dX2_goOn_41 : decode cX2_goOn 41 = .ok (.isub, 1) := by decide +kernel
theorem dX2_goOn_42 : decode cX2_goOn 42 = .ok (.invokevirtual 76, 3) := by decide +kernel
theorem dX2_goOn_45 : decode cX2_goOn 45 = .ok (.aload_n 0, 1) := by decide +kernel
theorem dX2_goOn_46 : decode cX2_goOn 46 = .ok (.getfield 12, 3) := by decide +kernel
theorem dX2_goOn_49 : decode cX2_goOn 49 = .ok (.aload_n 1, 1) := by decide +kernel
theorem dX2_goOn_50 : decode cX2_goOn 50 = .ok (.getfield 83, 3) := by decide +kernel
theorem dX2_goOn_53 : decode cX2_goOn 53 = .ok (.aload_n 0, 1) := by decide +kernel
theorem dX2_goOn_54 : decode cX2_goOn 54 = .ok (.getfield 18, 3) := by decide +kernel
theorem dX2_goOn_57 : decode cX2_goOn 57 = .ok (.getfield 86, 3) := by decide +kernel
theorem dX2_goOn_60 : decode cX2_goOn 60 = .ok (.aload_n 0, 1) := by decide +kernel
theorem dX2_goOn_61 : decode cX2_goOn 61 = .ok (.getfield 21, 3) := by decide +kernel
theorem dX2_goOn_64 : decode cX2_goOn 64 = .ok (.invokevirtual 89, 3) := by decide +kernel
theorem dX2_goOn_67 : decode cX2_goOn 67 = .ok (.aload_n 0, 1) := by decide +kernel
theorem dX2_goOn_68 : decode cX2_goOn 68 = .ok (.getfield 18, 3) := by decide +kernel
theorem dX2_goOn_71 : decode cX2_goOn 71 = .ok (.aload_n 1, 1) := by decide +kernel
theorem dX2_goOn_72 : decode cX2_goOn 72 = .ok (.getfield 83, 3) := by decide +kernel
theorem dX2_goOn_75 : decode cX2_goOn 75 = .ok (.aload_n 0, 1) := by decide +kernel
theorem dX2_goOn_76 : decode cX2_goOn 76 = .ok (.getfield 12, 3) := by decide +kernel
theorem dX2_goOn_79 : decode cX2_goOn 79 = .ok (.getfield 86, 3) := by decide +kernel
theorem dX2_goOn_82 : decode cX2_goOn 82 = .ok (.aload_n 0, 1) := by decide +kernel
theorem dX2_goOn_83 : decode cX2_goOn 83 = .ok (.getfield 21, 3) := by decide +kernel
theorem dX2_goOn_86 : decode cX2_goOn 86 = .ok (.invokevirtual 89, 3) := by decide +kernel
theorem dX2_goOn_89 : decode cX2_goOn 89 = .ok (.aload_n 0, 1) := by decide +kernel
theorem dX2_goOn_90 : decode cX2_goOn 90 = .ok (.getfield 12, 3) := by decide +kernel
theorem dX2_goOn_93 : decode cX2_goOn 93 = .ok (.getfield 93, 3) := by decide +kernel
theorem dX2_goOn_96 : decode cX2_goOn 96 = .ok (.ifCond .eq 7, 3) := by decide +kernel
theorem dX2_goOn_99 : decode cX2_goOn 99 = .ok (.iconst 1, 1) := by decide +kernel
theorem dX2_goOn_100 : decode cX2_goOn 100 = .ok (.goto 4, 3) := by decide +kernel
theorem dX2_goOn_103 : decode cX2_goOn 103 = .ok (.iconst 0, 1) := by decide +kernel
theorem dX2_goOn_104 : decode cX2_goOn 104 = .ok (.aload_n 0, 1) := by decide +kernel
theorem dX2_goOn_105 : decode cX2_goOn 105 = .ok (.getfield 18, 3) := by decide +kernel
theorem dX2_goOn_108 : decode cX2_goOn 108 = .ok (.getfield 93, 3) := by decide +kernel
theorem dX2_goOn_111 : decode cX2_goOn 111 = .ok (.ifCond .eq 7, 3) := by decide +kernel
theorem dX2_goOn_114 : decode cX2_goOn 114 = .ok (.iconst 1, 1) := by decide +kernel
theorem dX2_goOn_115 : decode cX2_goOn 115 = .ok (.goto 4, 3) := by decide +kernel
theorem dX2_goOn_118 : decode cX2_goOn 118 = .ok (.iconst 0, 1) := by decide +kernel
theorem dX2_goOn_119 : decode cX2_goOn 119 = .ok (.iadd, 1) := by decide +kernel
theorem dX2_goOn_120 : decode cX2_goOn 120 = .ok (.ireturn, 1) := by decide +kernel
theorem dX3_init_0 : decode cX3_init 0 = .ok (.aload_n 0, 1) := by decide +kernel
theorem dX3_init_1 : decode cX3_init 1 = .ok (.invokespecial 3, 3) := by decide +kernel
theorem dX3_init_4 : decode cX3_init 4 = .ok (.aload_n 0, 1) := by decide +kernel
theorem dX3_init_5 : decode cX3_init 5 = .ok (.bipush 120, 2) := by decide +kernel
theorem dX3_init_7 : decode cX3_init 7 = .ok (.newarray .int, 2) := by decide +kernel
theorem dX3_init_9 : decode cX3_init 9 = .ok (.putfield 11, 3) := by decide +kernel
theorem dX3_init_12 : decode cX3_init 12 = .ok (.aload_n 0, 1) := by decide +kernel
theorem dX3_init_13 : decode cX3_init 13 = .ok (.bipush 120, 2) := by decide +kernel
theorem dX3_init_15 : decode cX3_init 15 = .ok (.newarray .int, 2) := by decide +kernel
theorem dX3_init_17 : decode cX3_init 17 = .ok (.putfield 15, 3) := by decide +kernel
theorem dX3_init_20 : decode cX3_init 20 = .ok (.return_, 1) := by decide +kernel
set_option maxRecDepth 20000 in
theorem ggX3_copyFrom_X3_nameAt : GoodIn wsX3_copyFrom wsX3_nameAt := goodIn_r _ [6, 7, 17, 18, 19] (by decide +kernel) (by decide +kernel)
set_option maxRecDepth 20000 in
theorem gX3_copyFrom_X3_nameAt : GoodIn wsX3_copyFrom (wsV RX3 22 RX3 yX3_nameAt wsX3_nameAt) := goodIn_app (goodIn_of _ (by decide +kernel)) ggX3_copyFrom_X3_nameAt
set_option maxRecDepth 20000 in
theorem ggX3_copyFrom_X3_ticksAt : GoodIn wsX3_copyFrom wsX3_ticksAt := goodIn_r _ [11, 1, 12, 17, 18, 19] (by decide +kernel) (by decide +kernel)
set_option maxRecDepth 20000 in
theorem gX3_copyFrom_X3_ticksAt : GoodIn wsX3_copyFrom (wsV RX3 26 RX3 yX3_ticksAt wsX3_ticksAt) := goodIn_app (goodIn_of _ (by decide +kernel)) ggX3_copyFrom_X3_ticksAt
set_option maxRecDepth 20000 in
theorem ggX3_copyFrom_X3_put : GoodIn wsX3_copyFrom wsX3_put := goodIn_r _ [16, 7, 12, 17, 18, 19] (by decide +kernel) (by decide +kernel)
set_option maxRecDepth 20000 in
theorem gX3_copyFrom_X3_put : GoodIn wsX3_copyFrom (wsV RX3 29 RX3 yX3_put wsX3_put) := goodIn_app (goodIn_of _ (by decide +kernel)) ggX3_copyFrom_X3_put
theorem dX3_copyFrom_0 : decode cX3_copyFrom 0 = .ok (.aload_n 0, 1) := by decide +kernel
theorem dX3_copyFrom_1 : decode cX3_copyFrom 1 = .ok (.aload_n 1, 1) := by decide +kernel
theorem dX3_copyFrom_2 : decode cX3_copyFrom 2 = .ok (.getfield 18, 3) := by decide +kernel
theorem dX3_copyFrom_5 : decode cX3_copyFrom 5 = .ok (.putfield 18, 3) := by decide +kernel
theorem dX3_copyFrom_8 : decode cX3_copyFrom 8 = .ok (.iconst 0, 1) := by decide +kernel
theorem dX3_copyFrom_9 : decode cX3_copyFrom 9 = .ok (.istore_n 2, 1) := by decide +kernel
theorem dX3_copyFrom_10 : decode cX3_copyFrom 10 = .ok (.iload_n 2, 1) := by decide +kernel
theorem dX3_copyFrom_11 : decode cX3_copyFrom 11 = .ok (.aload_n 0, 1) := by decide +kernel
theorem dX3_copyFrom_12 : decode cX3_copyFrom 12 = .ok (.getfield 18, 3) := by decide +kernel
theorem dX3_copyFrom_15 : decode cX3_copyFrom 15 = .ok (.if_icmp .ge 30, 3) := by decide +kernel
theorem dX3_copyFrom_18 : decode cX3_copyFrom 18 = .ok (.iload_n 2, 1) := by decide +kernel
theorem dX3_copyFrom_19 : decode cX3_copyFrom 19 = .ok (.bipush 120, 2) := by decide +kernel
theorem dX3_copyFrom_21 : decode cX3_copyFrom 21 = .ok (.if_icmp .ge 24, 3) := by decide +kernel
theorem dX3_copyFrom_24 : decode cX3_copyFrom 24 = .ok (.aload_n 0, 1) := by decide +kernel
theorem dX3_copyFrom_25 : decode cX3_copyFrom 25 = .ok (.iload_n 2, 1) := by decide +kernel
theorem dX3_copyFrom_26 : decode cX3_copyFrom 26 = .ok (.aload_n 1, 1) := by decide +kernel
theorem dX3_copyFrom_27 : decode cX3_copyFrom 27 = .ok (.iload_n 2, 1) := by decide +kernel
theorem dX3_copyFrom_28 : decode cX3_copyFrom 28 = .ok (.invokevirtual 22, 3) := by decide +kernel
theorem dX3_copyFrom_31 : decode cX3_copyFrom 31 = .ok (.aload_n 1, 1) := by decide +kernel
theorem dX3_copyFrom_32 : decode cX3_copyFrom 32 = .ok (.iload_n 2, 1) := by decide +kernel
theorem dX3_copyFrom_33 : decode cX3_copyFrom 33 = .ok (.invokevirtual 26, 3) := by decide +kernel
theorem dX3_copyFrom_36 : decode cX3_copyFrom 36 = .ok (.invokevirtual 29, 3) := by decide +kernel
theorem dX3_copyFrom_39 : decode cX3_copyFrom 39 = .ok (.iinc 2 1, 3) := by decide +kernel
theorem dX3_copyFrom_42 : decode cX3_copyFrom 42 = .ok (.goto (-32), 3) := by decide +kernel
theorem dX3_copyFrom_45 : decode cX3_copyFrom 45 = .ok (.return_, 1) := by decide +kernel
theorem dX3_put_0 : decode cX3_put 0 = .ok (.iload_n 1, 1) := by decide +kernel
theorem dX3_put_1 : decode cX3_put 1 = .ok (.ifCond .lt 35, 3) := by decide +kernel
theorem dX3_put_4 : decode cX3_put 4 = .ok (.iload_n 1, 1) := by decide +kernel
theorem dX3_put_5 : decode cX3_put 5 = .ok (.aload_n 0, 1) := by decide +kernel
theorem dX3_put_6 : decode cX3_put 6 = .ok (.getfield 11, 3) := by decide +kernel
theorem dX3_put_9 : decode cX3_put 9 = .ok (.arraylength, 1) := by decide +kernel
theorem dX3_put_10 : decode cX3_put 10 = .ok (.if_icmp .ge 26, 3) := by decide +kernel
theorem dX3_put_13 : decode cX3_put 13 = .ok (.iload_n 1, 1) := by decide +kernel
theorem dX3_put_14 : decode cX3_put 14 = .ok (.aload_n 0, 1) := by decide +kernel
theorem dX3_put_15 : decode cX3_put 15 = .ok (.getfield 15, 3) := by decide +kernel
theorem dX3_put_18 : decode cX3_put 18 = .ok (.arraylength, 1) := by decide +kernel
theorem dX3_put_19 : decode cX3_put 19 = .ok (.if_icmp .ge 17, 3) := by decide +kernel
theorem dX3_put_22 : decode cX3_put 22 = .ok (.aload_n 0, 1) := by decide +kernel
theorem dX3_put_23 : decode cX3_put 23 = .ok (.getfield 11, 3) := by decide +kernel
theorem dX3_put_26 : decode cX3_put 26 = .ok (.iload_n 1, 1) := by decide +kernel
theorem dX3_put_27 : decode cX3_put 27 = .ok (.iload_n 2, 1) := by decide +kernel
theorem dX3_put_28 : decode cX3_put 28 = .ok (.iastore, 1) := by decide +kernel
theorem dX3_put_29 : decode cX3_put 29 = .ok (.aload_n 0, 1) := by decide +kernel
theorem dX3_put_30 : decode cX3_put 30 = .ok (.getfield 15, 3) := by decide +kernel
theorem dX3_put_33 : decode cX3_put 33 = .ok (.iload_n 1, 1) := by decide +kernel
theorem dX3_put_34 : decode cX3_put 34 = .ok (.iload_n 3, 1) := by decide +kernel
theorem dX3_put_35 : decode cX3_put 35 = .ok (.iastore, 1) := by decide +kernel
theorem dX3_put_36 : decode cX3_put 36 = .ok (.return_, 1) := by decide +kernel
set_option maxRecDepth 20000 in
theorem ggX3_addTick_X3_nameOf : GoodIn wsX3_addTick wsX3_nameOf := goodIn_r _ [8] (by decide +kernel) (by decide +kernel)
set_option maxRecDepth 20000 in
theorem gX3_addTick_X3_nameOf : GoodIn wsX3_addTick (wsV RX3 41 RX3 yX3_nameOf wsX3_nameOf) := goodIn_app (goodIn_of _ (by decide +kernel)) ggX3_addTick_X3_nameOf
set_option maxRecDepth 20000 in
theorem ggX3_addTick_X3_find : GoodIn wsX3_addTick wsX3_find := goodIn_r _ [12, 3, 13, 14, 15, 7, 16, 17, 40, 41, 42] (by decide +kernel) (by decide +kernel)
set_option maxRecDepth 20000 in
theorem gX3_addTick_X3_find : GoodIn wsX3_addTick (wsV RX3 45 RX3 yX3_find wsX3_find) := goodIn_app (goodIn_of _ (by decide +kernel)) ggX3_addTick_X3_find
set_option maxRecDepth 20000 in
theorem ggX3_addTick_X3_ticksAt : GoodIn wsX3_addTick wsX3_ticksAt := goodIn_r _ [21, 3, 22, 40, 41, 42] (by decide +kernel) (by decide +kernel)
set_option maxRecDepth 20000 in
theorem gX3_addTick_X3_ticksAt : GoodIn wsX3_addTick (wsV RX3 26 RX3 yX3_ticksAt wsX3_ticksAt) := goodIn_app (goodIn_of _ (by decide +kernel)) ggX3_addTick_X3_ticksAt
set_option maxRecDepth 20000 in
theorem ggX3_addTick_X3_put : GoodIn wsX3_addTick wsX3_put := goodIn_r _ [26, 17, 22, 40, 41, 42] (by decide +kernel) (by decide +kernel)
set_option maxRecDepth 20000 in
theorem gX3_addTick_X3_put : GoodIn wsX3_addTick (wsV RX3 29 RX3 yX3_put wsX3_put) := goodIn_app (goodIn_of _ (by decide +kernel)) ggX3_addTick_X3_put
theorem dX3_addTick_0 : decode cX3_addTick 0 = .ok (.aload_n 0, 1) := by decide +kernel
theorem dX3_addTick_1 : decode cX3_addTick 1 = .ok (.aload_n 1, 1) := by decide +kernel
theorem dX3_addTick_2 : decode cX3_addTick 2 = .ok (.getfield 33, 3) := by decide +kernel
theorem dX3_addTick_5 : decode cX3_addTick 5 = .ok (.bipush 50, 2) := by decide +kernel
theorem dX3_addTick_7 : decode cX3_addTick 7 = .ok (.idiv, 1) := by decide +kernel
theorem dX3_addTick_8 : decode cX3_addTick 8 = .ok (.aload_n 1, 1) := by decide +kernel
theorem dX3_addTick_9 : decode cX3_addTick 9 = .ok (.getfield 38, 3) := by decide +kernel
theorem dX3_addTick_12 : decode cX3_addTick 12 = .ok (.bipush 10, 2) := by decide +kernel
theorem dX3_addTick_14 : decode cX3_addTick 14 = .ok (.idiv, 1) := by decide +kernel
theorem dX3_addTick_15 : decode cX3_addTick 15 = .ok (.invokevirtual 41, 3) := by decide +kernel
theorem dX3_addTick_18 : decode cX3_addTick 18 = .ok (.istore_n 2, 1) := by decide +kernel
theorem dX3_addTick_19 : decode cX3_addTick 19 = .ok (.aload_n 0, 1) := by decide +kernel
theorem dX3_addTick_20 : decode cX3_addTick 20 = .ok (.iload_n 2, 1) := by decide +kernel
theorem dX3_addTick_21 : decode cX3_addTick 21 = .ok (.invokevirtual 45, 3) := by decide +kernel
theorem dX3_addTick_24 : decode cX3_addTick 24 = .ok (.istore_n 3, 1) := by decide +kernel
theorem dX3_addTick_25 : decode cX3_addTick 25 = .ok (.aload_n 0, 1) := by decide +kernel
theorem dX3_addTick_26 : decode cX3_addTick 26 = .ok (.iload_n 3, 1) := by decide +kernel
theorem dX3_addTick_27 : decode cX3_addTick 27 = .ok (.iload_n 2, 1) := by decide +kernel
theorem dX3_addTick_28 : decode cX3_addTick 28 = .ok (.aload_n 0, 1) := by decide +kernel
theorem dX3_addTick_29 : decode cX3_addTick 29 = .ok (.iload_n 3, 1) := by decide +kernel
theorem dX3_addTick_30 : decode cX3_addTick 30 = .ok (.invokevirtual 26, 3) := by decide +kernel
theorem dX3_addTick_33 : decode cX3_addTick 33 = .ok (.iconst 1, 1) := by decide +kernel
theorem dX3_addTick_34 : decode cX3_addTick 34 = .ok (.iadd, 1) := by decide +kernel
theorem dX3_addTick_35 : decode cX3_addTick 35 = .ok (.invokevirtual 29, 3) := by decide +kernel
theorem dX3_addTick_38 : decode cX3_addTick 38 = .ok (.iload_n 3, 1) := by decide +kernel
theorem dX3_addTick_39 : decode cX3_addTick 39 = .ok (.aload_n 0, 1) := by decide +kernel
theorem dX3_addTick_40 : decode cX3_addTick 40 = .ok (.getfield 18, 3) := by decide +kernel
theorem dX3_addTick_43 : decode cX3_addTick 43 = .ok (.if_icmp .ne 22, 3) := by decide +kernel
theorem dX3_addTick_46 : decode cX3_addTick 46 = .ok (.aload_n 0, 1) := by decide +kernel
theorem dX3_addTick_47 : decode cX3_addTick 47 = .ok (.getfield 18, 3) := by decide +kernel
theorem dX3_addTick_50 : decode cX3_addTick 50 = .ok (.bipush 120, 2) := by decide +kernel
theorem dX3_addTick_52 : decode cX3_addTick 52 = .ok (.if_icmp .ge 13, 3) := by decide +kernel
theorem dX3_addTick_55 : decode cX3_addTick 55 = .ok (.aload_n 0, 1) := by decide +kernel
theorem dX3_addTick_56 : decode cX3_addTick 56 = .ok (.dup, 1) := by decide +kernel
theorem dX3_addTick_57 : decode cX3_addTick 57 = .ok (.getfield 18, 3) := by decide +kernel
theorem dX3_addTick_60 : decode cX3_addTick 60 = .ok (.iconst 1, 1) := by decide +kernel
theorem dX3_addTick_61 : decode cX3_addTick 61 = .ok (.iadd, 1) := by decide +kernel
theorem dX3_addTick_62 : decode cX3_addTick 62 = .ok (.putfield 18, 3) := by decide +kernel
theorem dX3_addTick_65 : decode cX3_addTick 65 = .ok (.return_, 1) := by decide +kernel
set_option maxRecDepth 20000 in
theorem ggX3_find_X3_nameAt : GoodIn wsX3_find wsX3_nameAt := goodIn_r _ [6, 7, 8, 9, 10] (by decide +kernel) (by decide +kernel)
set_option maxRecDepth 20000 in
theorem gX3_find_X3_nameAt : GoodIn wsX3_find (wsV RX3 22 RX3 yX3_nameAt wsX3_nameAt) := goodIn_app (goodIn_of _ (by decide +kernel)) ggX3_find_X3_nameAt
theorem dX3_find_0 : decode cX3_find 0 = .ok (.iconst 0, 1) := by decide +kernel
theorem dX3_find_1 : decode cX3_find 1 = .ok (.istore_n 2, 1) := by decide +kernel
theorem dX3_find_2 : decode cX3_find 2 = .ok (.iload_n 2, 1) := by decide +kernel
theorem dX3_find_3 : decode cX3_find 3 = .ok (.aload_n 0, 1) := by decide +kernel
theorem dX3_find_4 : decode cX3_find 4 = .ok (.getfield 18, 3) := by decide +kernel
theorem dX3_find_7 : decode cX3_find 7 = .ok (.if_icmp .ge 26, 3) := by decide +kernel
theorem dX3_find_10 : decode cX3_find 10 = .ok (.iload_n 2, 1) := by decide +kernel
theorem dX3_find_11 : decode cX3_find 11 = .ok (.bipush 120, 2) := by decide +kernel
theorem dX3_find_13 : decode cX3_find 13 = .ok (.if_icmp .ge 20, 3) := by decide +kernel
theorem dX3_find_16 : decode cX3_find 16 = .ok (.aload_n 0, 1) := by decide +kernel
theorem dX3_find_17 : decode cX3_find 17 = .ok (.iload_n 2, 1) := by decide +kernel
theorem dX3_find_18 : decode cX3_find 18 = .ok (.invokevirtual 22, 3) := by decide +kernel
theorem dX3_find_21 : decode cX3_find 21 = .ok (.iload_n 1, 1) := by decide +kernel
theorem dX3_find_22 : decode cX3_find 22 = .ok (.if_icmp .ne 5, 3) := by decide +kernel
theorem dX3_find_25 : decode cX3_find 25 = .ok (.iload_n 2, 1) := by decide +kernel
theorem dX3_find_26 : decode cX3_find 26 = .ok (.ireturn, 1) := by decide +kernel
theorem dX3_find_27 : decode cX3_find 27 = .ok (.iinc 2 1, 3) := by decide +kernel
theorem dX3_find_30 : decode cX3_find 30 = .ok (.goto (-28), 3) := by decide +kernel
theorem dX3_find_33 : decode cX3_find 33 = .ok (.aload_n 0, 1) := by decide +kernel
theorem dX3_find_34 : decode cX3_find 34 = .ok (.getfield 18, 3) := by decide +kernel
theorem dX3_find_37 : decode cX3_find 37 = .ok (.ireturn, 1) := by decide +kernel
theorem dX3_nameOf_0 : decode cX3_nameOf 0 = .ok (.iload_n 1, 1) := by decide +kernel
theorem dX3_nameOf_1 : decode cX3_nameOf 1 = .ok (.bipush 100, 2) := by decide +kernel
theorem dX3_nameOf_3 : decode cX3_nameOf 3 = .ok (.imul, 1) := by decide +kernel
theorem dX3_nameOf_4 : decode cX3_nameOf 4 = .ok (.iload_n 2, 1) := by decide +kernel
theorem dX3_nameOf_5 : decode cX3_nameOf 5 = .ok (.iadd, 1) := by decide +kernel
theorem dX3_nameOf_6 : decode cX3_nameOf 6 = .ok (.ireturn, 1) := by decide +kernel
theorem dX3_nameAt_0 : decode cX3_nameAt 0 = .ok (.iload_n 1, 1) := by decide +kernel
theorem dX3_nameAt_1 : decode cX3_nameAt 1 = .ok (.ifCond .lt 21, 3) := by decide +kernel
theorem dX3_nameAt_4 : decode cX3_nameAt 4 = .ok (.iload_n 1, 1) := by decide +kernel
theorem dX3_nameAt_5 : decode cX3_nameAt 5 = .ok (.aload_n 0, 1) := by decide +kernel
theorem dX3_nameAt_6 : decode cX3_nameAt 6 = .ok (.getfield 11, 3) := by decide +kernel
theorem dX3_nameAt_9 : decode cX3_nameAt 9 = .ok (.arraylength, 1) := by decide +kernel
theorem dX3_nameAt_10 : decode cX3_nameAt 10 = .ok (.if_icmp .ge 12, 3) := by decide +kernel
theorem dX3_nameAt_13 : decode cX3_nameAt 13 = .ok (.aload_n 0, 1) := by decide +kernel
theorem dX3_nameAt_14 : decode cX3_nameAt 14 = .ok (.getfield 11, 3) := by decide +kernel
theorem dX3_nameAt_17 : decode cX3_nameAt 17 = .ok (.iload_n 1, 1) := by decide +kernel
theorem dX3_nameAt_18 : decode cX3_nameAt 18 = .ok (.iaload, 1) := by decide +kernel
theorem dX3_nameAt_19 : decode cX3_nameAt 19 = .ok (.goto 4, 3) := by decide +kernel
theorem dX3_nameAt_22 : decode cX3_nameAt 22 = .ok (.iconst 0, 1) := by decide +kernel
theorem dX3_nameAt_23 : decode cX3_nameAt 23 = .ok (.ireturn, 1) := by decide +kernel
theorem dX3_ticksAt_0 : decode cX3_ticksAt 0 = .ok (.iload_n 1, 1) := by decide +kernel
theorem dX3_ticksAt_1 : decode cX3_ticksAt 1 = .ok (.ifCond .lt 29, 3) := by decide +kernel
theorem dX3_ticksAt_4 : decode cX3_ticksAt 4 = .ok (.iload_n 1, 1) := by decide +kernel
theorem dX3_ticksAt_5 : decode cX3_ticksAt 5 = .ok (.aload_n 0, 1) := by decide +kernel
theorem dX3_ticksAt_6 : decode cX3_ticksAt 6 = .ok (.getfield 18, 3) := by decide +kernel
theorem dX3_ticksAt_9 : decode cX3_ticksAt 9 = .ok (.if_icmp .ge 21, 3) := by decide +kernel
theorem dX3_ticksAt_12 : decode cX3_ticksAt 12 = .ok (.iload_n 1, 1) := by decide +kernel
theorem dX3_ticksAt_13 : decode cX3_ticksAt 13 = .ok (.aload_n 0, 1) := by decide +kernel
theorem dX3_ticksAt_14 : decode cX3_ticksAt 14 = .ok (.getfield 15, 3) := by decide +kernel
theorem dX3_ticksAt_17 : decode cX3_ticksAt 17 = .ok (.arraylength, 1) := by decide +kernel
theorem dX3_ticksAt_18 : decode cX3_ticksAt 18 = .ok (.if_icmp .ge 12, 3) := by decide +kernel
theorem dX3_ticksAt_21 : decode cX3_ticksAt 21 = .ok (.aload_n 0, 1) := by decide +kernel
theorem dX3_ticksAt_22 : decode cX3_ticksAt 22 = .ok (.getfield 15, 3) := by decide +kernel
theorem dX3_ticksAt_25 : decode cX3_ticksAt 25 = .ok (.iload_n 1, 1) := by decide +kernel
theorem dX3_ticksAt_26 : decode cX3_ticksAt 26 = .ok (.iaload, 1) := by decide +kernel
theorem dX3_ticksAt_27 : decode cX3_ticksAt 27 = .ok (.goto 4, 3) := by decide +kernel
theorem dX3_ticksAt_30 : decode cX3_ticksAt 30 = .ok (.iconst 0, 1) := by decide +kernel
theorem dX3_ticksAt_31 : decode cX3_ticksAt 31 = .ok (.ireturn, 1) := by decide +kernel
set_option maxRecDepth 20000 in
theorem ggX3_ticksIn_X3_nameOf : GoodIn wsX3_ticksIn wsX3_nameOf := goodIn_r _ [5] (by decide +kernel) (by decide +kernel)
set_option maxRecDepth 20000 in
theorem gX3_ticksIn_X3_nameOf : GoodIn wsX3_ticksIn (wsV RX3 41 RX3 yX3_nameOf wsX3_nameOf) := goodIn_app (goodIn_of _ (by decide +kernel)) ggX3_ticksIn_X3_nameOf
set_option maxRecDepth 20000 in
theorem ggX3_ticksIn_X3_find : GoodIn wsX3_ticksIn wsX3_find := goodIn_r _ [9, 10, 11, 12, 13, 4, 14, 15, 21, 22, 23] (by decide +kernel) (by decide +kernel)
set_option maxRecDepth 20000 in
theorem gX3_ticksIn_X3_find : GoodIn wsX3_ticksIn (wsV RX3 45 RX3 yX3_find wsX3_find) := goodIn_app (goodIn_of _ (by decide +kernel)) ggX3_ticksIn_X3_find
set_option maxRecDepth 20000 in
theorem ggX3_ticksIn_X3_ticksAt : GoodIn wsX3_ticksIn wsX3_ticksAt := goodIn_r _ [19, 10, 20, 21, 22, 23] (by decide +kernel) (by decide +kernel)
set_option maxRecDepth 20000 in
theorem gX3_ticksIn_X3_ticksAt : GoodIn wsX3_ticksIn (wsV RX3 26 RX3 yX3_ticksAt wsX3_ticksAt) := goodIn_app (goodIn_of _ (by decide +kernel)) ggX3_ticksIn_X3_ticksAt
theorem dX3_ticksIn_0 : decode cX3_ticksIn 0 = .ok (.aload_n 0, 1) := by decide +kernel
theorem dX3_ticksIn_1 : decode cX3_ticksIn 1 = .ok (.aload_n 0, 1) := by decide +kernel
theorem dX3_ticksIn_2 : decode cX3_ticksIn 2 = .ok (.aload_n 0, 1) := by decide +kernel
theorem dX3_ticksIn_3 : decode cX3_ticksIn 3 = .ok (.iload_n 1, 1) := by decide +kernel
theorem dX3_ticksIn_4 : decode cX3_ticksIn 4 = .ok (.iload_n 2, 1) := by decide +kernel
theorem dX3_ticksIn_5 : decode cX3_ticksIn 5 = .ok (.invokevirtual 41, 3) := by decide +kernel
theorem dX3_ticksIn_8 : decode cX3_ticksIn 8 = .ok (.invokevirtual 45, 3) := by decide +kernel
theorem dX3_ticksIn_11 : decode cX3_ticksIn 11 = .ok (.invokevirtual 26, 3) := by decide +kernel
theorem dX3_ticksIn_14 : decode cX3_ticksIn 14 = .ok (.ireturn, 1) := by decide +kernel
set_option maxRecDepth 20000 in
theorem ggX3_blockAt_X3_nameAt : GoodIn wsX3_blockAt wsX3_nameAt := goodIn_r _ [5, 6, 7, 8, 9] (by decide +kernel) (by decide +kernel)
set_option maxRecDepth 20000 in
theorem gX3_blockAt_X3_nameAt : GoodIn wsX3_blockAt (wsV RX3 22 RX3 yX3_nameAt wsX3_nameAt) := goodIn_app (goodIn_of _ (by decide +kernel)) ggX3_blockAt_X3_nameAt
theorem dX3_blockAt_0 : decode cX3_blockAt 0 = .ok (.aload_n 0, 1) := by decide +kernel
theorem dX3_blockAt_1 : decode cX3_blockAt 1 = .ok (.iload_n 1, 1) := by decide +kernel
theorem dX3_blockAt_2 : decode cX3_blockAt 2 = .ok (.invokevirtual 22, 3) := by decide +kernel
theorem dX3_blockAt_5 : decode cX3_blockAt 5 = .ok (.bipush 100, 2) := by decide +kernel
theorem dX3_blockAt_7 : decode cX3_blockAt 7 = .ok (.idiv, 1) := by decide +kernel
theorem dX3_blockAt_8 : decode cX3_blockAt 8 = .ok (.ireturn, 1) := by decide +kernel
set_option maxRecDepth 20000 in
theorem ggX3_floorAt_X3_nameAt : GoodIn wsX3_floorAt wsX3_nameAt := goodIn_r _ [5, 6, 7, 8, 9] (by decide +kernel) (by decide +kernel)
set_option maxRecDepth 20000 in
theorem gX3_floorAt_X3_nameAt : GoodIn wsX3_floorAt (wsV RX3 22 RX3 yX3_nameAt wsX3_nameAt) := goodIn_app (goodIn_of _ (by decide +kernel)) ggX3_floorAt_X3_nameAt
theorem dX3_floorAt_0 : decode cX3_floorAt 0 = .ok (.aload_n 0, 1) := by decide +kernel
theorem dX3_floorAt_1 : decode cX3_floorAt 1 = .ok (.iload_n 1, 1) := by decide +kernel
theorem dX3_floorAt_2 : decode cX3_floorAt 2 = .ok (.invokevirtual 22, 3) := by decide +kernel
theorem dX3_floorAt_5 : decode cX3_floorAt 5 = .ok (.bipush 100, 2) := by decide +kernel
theorem dX3_floorAt_7 : decode cX3_floorAt 7 = .ok (.irem, 1) := by decide +kernel
theorem dX3_floorAt_8 : decode cX3_floorAt 8 = .ok (.ireturn, 1) := by decide +kernel
theorem dX4_init_0 : decode cX4_init 0 = .ok (.aload_n 0, 1) := by decide +kernel
theorem dX4_init_1 : decode cX4_init 1 = .ok (.invokespecial 1, 3) := by decide +kernel
theorem dX4_init_4 : decode cX4_init 4 = .ok (.return_, 1) := by decide +kernel
theorem dX4_set_0 : decode cX4_set 0 = .ok (.aload_n 0, 1) := by decide +kernel
theorem dX4_set_1 : decode cX4_set 1 = .ok (.iload_n 1, 1) := by decide +kernel
theorem dX4_set_2 : decode cX4_set 2 = .ok (.putfield 7, 3) := by decide +kernel
theorem dX4_set_5 : decode cX4_set 5 = .ok (.aload_n 0, 1) := by decide +kernel
theorem dX4_set_6 : decode cX4_set 6 = .ok (.iload_n 2, 1) := by decide +kernel
theorem dX4_set_7 : decode cX4_set 7 = .ok (.putfield 13, 3) := by decide +kernel
theorem dX4_set_10 : decode cX4_set 10 = .ok (.aload_n 0, 1) := by decide +kernel
theorem dX4_set_11 : decode cX4_set 11 = .ok (.iload_n 3, 1) := by decide +kernel
theorem dX4_set_12 : decode cX4_set 12 = .ok (.putfield 16, 3) := by decide +kernel
theorem dX4_set_15 : decode cX4_set 15 = .ok (.return_, 1) := by decide +kernel
set_option maxRecDepth 20000 in
theorem ggX5_init_X2_init : GoodIn wsX5_init wsX2_init := goodIn_r _ [14, 15, 2, 3, 16, 17, 18, 19, 20, 21, 22, 23, 24, 41, 42, 43, 44, 45, 46, 47, 48, 49, 50, 51, 52, 53, 31, 32, 33] (by decide +kernel) (by decide +kernel)
set_option maxRecDepth 20000 in
theorem gX5_init_X2_init_n9 : GoodIn wsX5_init (wsX2_init) := ggX5_init_X2_init
set_option maxRecDepth 20000 in
theorem ggX5_init_X3_init : GoodIn wsX5_init wsX3_init := goodIn_r _ [26, 27, 2, 3, 28, 29, 30, 38, 39, 40] (by decide +kernel) (by decide +kernel)
set_option maxRecDepth 20000 in
theorem gX5_init_X3_init_n18 : GoodIn wsX5_init (wsX3_init) := ggX5_init_X3_init
theorem dX5_init_0 : decode cX5_init 0 = .ok (.aload_n 0, 1) := by decide +kernel
theorem dX5_init_1 : decode cX5_init 1 = .ok (.invokespecial 1, 3) := by decide +kernel
theorem dX5_init_4 : decode cX5_init 4 = .ok (.aload_n 0, 1) := by decide +kernel
theorem dX5_init_5 : decode cX5_init 5 = .ok (.new 7, 3) := by decide +kernel
theorem dX5_init_8 : decode cX5_init 8 = .ok (.dup, 1) := by decide +kernel
theorem dX5_init_9 : decode cX5_init 9 = .ok (.invokespecial 9, 3) := by decide +kernel
theorem dX5_init_12 : decode cX5_init 12 = .ok (.putfield 10, 3) := by decide +kernel
theorem dX5_init_15 : decode cX5_init 15 = .ok (.aload_n 0, 1) := by decide +kernel
theorem dX5_init_16 : decode cX5_init 16 = .ok (.new 16, 3) := by decide +kernel
theorem dX5_init_19 : decode cX5_init 19 = .ok (.dup, 1) := by decide +kernel
theorem dX5_init_20 : decode cX5_init 20 = .ok (.invokespecial 18, 3) := by decide +kernel
theorem dX5_init_23 : decode cX5_init 23 = .ok (.putfield 19, 3) := by decide +kernel
theorem dX5_init_26 : decode cX5_init 26 = .ok (.aload_n 0, 1) := by decide +kernel
theorem dX5_init_27 : decode cX5_init 27 = .ok (.new 16, 3) := by decide +kernel
theorem dX5_init_30 : decode cX5_init 30 = .ok (.dup, 1) := by decide +kernel
theorem dX5_init_31 : decode cX5_init 31 = .ok (.invokespecial 18, 3) := by decide +kernel
theorem dX5_init_34 : decode cX5_init 34 = .ok (.putfield 23, 3) := by decide +kernel
theorem dX5_init_37 : decode cX5_init 37 = .ok (.return_, 1) := by decide +kernel
set_option maxRecDepth 20000 in
theorem ggX5_begin_X2_begin : GoodIn wsX5_begin wsX2_begin := goodIn_r _ [10, 11, 12, 13, 14, 15, 16, 17, 18, 19, 20, 21, 22, 23, 24, 25, 26, 27, 28, 29, 30, 31, 32, 33, 34, 35, 36, 37, 38, 39, 40, 48, 49, 50, 51, 52, 53, 54, 55, 56, 57, 58, 59, 60, 61, 62, 63, 64, 65, 66, 67, 68, 69, 70, 71, 72, 73] (by decide +kernel) (by decide +kernel)
set_option maxRecDepth 20000 in
theorem gX5_begin_X2_begin : GoodIn wsX5_begin (wsV RX5 26 RX2 yX2_begin wsX2_begin) := goodIn_app (goodIn_of _ (by decide +kernel)) ggX5_begin_X2_begin
theorem dX5_begin_0 : decode cX5_begin 0 = .ok (.aload_n 0, 1) := by decide +kernel
theorem dX5_begin_1 : decode cX5_begin 1 = .ok (.getfield 10, 3) := by decide +kernel
theorem dX5_begin_4 : decode cX5_begin 4 = .ok (.aload_n 1, 1) := by decide +kernel
theorem dX5_begin_5 : decode cX5_begin 5 = .ok (.invokevirtual 26, 3) := by decide +kernel
theorem dX5_begin_8 : decode cX5_begin 8 = .ok (.aload_n 0, 1) := by decide +kernel
theorem dX5_begin_9 : decode cX5_begin 9 = .ok (.getfield 19, 3) := by decide +kernel
theorem dX5_begin_12 : decode cX5_begin 12 = .ok (.iconst 0, 1) := by decide +kernel
theorem dX5_begin_13 : decode cX5_begin 13 = .ok (.putfield 30, 3) := by decide +kernel
theorem dX5_begin_16 : decode cX5_begin 16 = .ok (.aload_n 0, 1) := by decide +kernel
theorem dX5_begin_17 : decode cX5_begin 17 = .ok (.getfield 23, 3) := by decide +kernel
theorem dX5_begin_20 : decode cX5_begin 20 = .ok (.iconst 0, 1) := by decide +kernel
theorem dX5_begin_21 : decode cX5_begin 21 = .ok (.putfield 30, 3) := by decide +kernel
theorem dX5_begin_24 : decode cX5_begin 24 = .ok (.aload_n 0, 1) := by decide +kernel
theorem dX5_begin_25 : decode cX5_begin 25 = .ok (.iconst 0, 1) := by decide +kernel
theorem dX5_begin_26 : decode cX5_begin 26 = .ok (.putfield 34, 3) := by decide +kernel
theorem dX5_begin_29 : decode cX5_begin 29 = .ok (.return_, 1) := by decide +kernel
set_option maxRecDepth 20000 in
theorem ggX5_copyFrom_X2_copyFrom : GoodIn wsX5_copyFrom wsX2_copyFrom := goodIn_r _ [9, 10, 11, 12, 13, 14, 15, 16, 17, 18, 19, 20, 21, 22, 23, 24, 25, 26, 27, 28, 29, 30, 55, 56, 57, 58, 59, 60, 61, 62, 63, 64, 65, 66, 67, 68, 69, 70] (by decide +kernel) (by decide +kernel)
set_option maxRecDepth 20000 in
theorem gX5_copyFrom_X2_copyFrom : GoodIn wsX5_copyFrom (wsV RX5 37 RX2 yX2_copyFrom wsX2_copyFrom) := goodIn_app (goodIn_of _ (by decide +kernel)) ggX5_copyFrom_X2_copyFrom
set_option maxRecDepth 20000 in
theorem ggX5_copyFrom_X3_copyFrom : GoodIn wsX5_copyFrom wsX3_copyFrom := goodIn_r _ [35, 36, 37, 38, 39, 34, 40, 41, 42, 43, 44, 45, 46, 47, 48, 49, 50, 71, 72, 73] (by decide +kernel) (by decide +kernel)
set_option maxRecDepth 20000 in
theorem gX5_copyFrom_X3_copyFrom : GoodIn wsX5_copyFrom (wsV RX5 41 RX3 yX3_copyFrom wsX3_copyFrom) := goodIn_app (goodIn_of _ (by decide +kernel)) ggX5_copyFrom_X3_copyFrom
theorem dX5_copyFrom_0 : decode cX5_copyFrom 0 = .ok (.aload_n 0, 1) := by decide +kernel
theorem dX5_copyFrom_1 : decode cX5_copyFrom 1 = .ok (.getfield 10, 3) := by decide +kernel
theorem dX5_copyFrom_4 : decode cX5_copyFrom 4 = .ok (.aload_n 1, 1) := by decide +kernel
theorem dX5_copyFrom_5 : decode cX5_copyFrom 5 = .ok (.getfield 10, 3) := by decide +kernel
theorem dX5_copyFrom_8 : decode cX5_copyFrom 8 = .ok (.invokevirtual 37, 3) := by decide +kernel
theorem dX5_copyFrom_11 : decode cX5_copyFrom 11 = .ok (.aload_n 0, 1) := by decide +kernel
theorem dX5_copyFrom_12 : decode cX5_copyFrom 12 = .ok (.getfield 19, 3) := by decide +kernel
theorem dX5_copyFrom_15 : decode cX5_copyFrom 15 = .ok (.aload_n 1, 1) := by decide +kernel
theorem dX5_copyFrom_16 : decode cX5_copyFrom 16 = .ok (.getfield 19, 3) := by decide +kernel
theorem dX5_copyFrom_19 : decode cX5_copyFrom 19 = .ok (.invokevirtual 41, 3) := by decide +kernel
theorem dX5_copyFrom_22 : decode cX5_copyFrom 22 = .ok (.aload_n 0, 1) := by decide +kernel
theorem dX5_copyFrom_23 : decode cX5_copyFrom 23 = .ok (.getfield 23, 3) := by decide +kernel
theorem dX5_copyFrom_26 : decode cX5_copyFrom 26 = .ok (.aload_n 1, 1) := by decide +kernel
theorem dX5_copyFrom_27 : decode cX5_copyFrom 27 = .ok (.getfield 23, 3) := by decide +kernel
theorem dX5_copyFrom_30 : decode cX5_copyFrom 30 = .ok (.invokevirtual 41, 3) := by decide +kernel
theorem dX5_copyFrom_33 : decode cX5_copyFrom 33 = .ok (.aload_n 0, 1) := by decide +kernel
theorem dX5_copyFrom_34 : decode cX5_copyFrom 34 = .ok (.aload_n 1, 1) := by decide +kernel
theorem dX5_copyFrom_35 : decode cX5_copyFrom 35 = .ok (.getfield 34, 3) := by decide +kernel
theorem dX5_copyFrom_38 : decode cX5_copyFrom 38 = .ok (.putfield 34, 3) := by decide +kernel
theorem dX5_copyFrom_41 : decode cX5_copyFrom 41 = .ok (.return_, 1) := by decide +kernel
theorem dX5_spotsOf_0 : decode cX5_spotsOf 0 = .ok (.iload_n 1, 1) := by decide +kernel
theorem dX5_spotsOf_1 : decode cX5_spotsOf 1 = .ok (.ifCond .ne 10, 3) := by decide +kernel
theorem dX5_spotsOf_4 : decode cX5_spotsOf 4 = .ok (.aload_n 0, 1) := by decide +kernel
theorem dX5_spotsOf_5 : decode cX5_spotsOf 5 = .ok (.getfield 19, 3) := by decide +kernel
theorem dX5_spotsOf_8 : decode cX5_spotsOf 8 = .ok (.goto 7, 3) := by decide +kernel
theorem dX5_spotsOf_11 : decode cX5_spotsOf 11 = .ok (.aload_n 0, 1) := by decide +kernel
theorem dX5_spotsOf_12 : decode cX5_spotsOf 12 = .ok (.getfield 23, 3) := by decide +kernel
theorem dX5_spotsOf_15 : decode cX5_spotsOf 15 = .ok (.areturn, 1) := by decide +kernel
set_option maxRecDepth 20000 in
theorem ggX5_goOn_X2_goOn : GoodIn wsX5_goOn wsX2_goOn := goodIn_r _ [11, 12, 13, 14, 15, 16, 17, 18, 19, 20, 21, 22, 10, 23, 24, 25, 26, 27, 28, 29, 30, 31, 32, 33, 34, 35, 36, 37, 38, 39, 40, 41, 42, 43, 44, 45, 46, 47, 48, 49, 50, 51, 52, 53, 54, 55, 56, 57, 58, 59, 60, 61, 62, 63, 64, 65, 66, 67, 68, 69, 70, 71, 72, 73, 74, 75, 76, 77, 78, 79, 80, 81, 82, 83, 84, 85, 120, 121, 122, 123, 124, 125, 126, 127, 128, 129, 130, 131, 132, 133, 134, 135, 136, 137, 138, 139, 140, 141, 142] (by decide +kernel) (by decide +kernel)
set_option maxRecDepth 20000 in
theorem gX5_goOn_X2_goOn : GoodIn wsX5_goOn (wsV RX5 44 RX2 yX2_goOn wsX2_goOn) := goodIn_app (goodIn_of _ (by decide +kernel)) ggX5_goOn_X2_goOn
set_option maxRecDepth 20000 in
theorem ggX5_goOn_X3_addTick : GoodIn wsX5_goOn wsX3_addTick := goodIn_r _ [90, 91, 92, 93, 94, 95, 96, 89, 97, 98, 99, 100, 101, 102, 103, 104, 105, 106, 107, 108, 109, 110, 111, 112, 113, 114, 115, 123, 124, 125, 126, 127, 128, 129, 130, 131, 132, 133, 134, 135, 143, 144, 145] (by decide +kernel) (by decide +kernel)
set_option maxRecDepth 20000 in
theorem gX5_goOn_X3_addTick : GoodIn wsX5_goOn (wsV RX5 52 RX3 yX3_addTick wsX3_addTick) := goodIn_app (goodIn_of _ (by decide +kernel)) ggX5_goOn_X3_addTick
theorem dX5_goOn_0 : decode cX5_goOn 0 = .ok (.aload_n 0, 1) := by decide +kernel
theorem dX5_goOn_1 : decode cX5_goOn 1 = .ok (.getfield 10, 3) := by decide +kernel
theorem dX5_goOn_4 : decode cX5_goOn 4 = .ok (.aload_n 1, 1) := by decide +kernel
theorem dX5_goOn_5 : decode cX5_goOn 5 = .ok (.invokevirtual 44, 3) := by decide +kernel
theorem dX5_goOn_8 : decode cX5_goOn 8 = .ok (.istore_n 2, 1) := by decide +kernel
theorem dX5_goOn_9 : decode cX5_goOn 9 = .ok (.aload_n 0, 1) := by decide +kernel
theorem dX5_goOn_10 : decode cX5_goOn 10 = .ok (.getfield 19, 3) := by decide +kernel
theorem dX5_goOn_13 : decode cX5_goOn 13 = .ok (.aload_n 0, 1) := by decide +kernel
theorem dX5_goOn_14 : decode cX5_goOn 14 = .ok (.getfield 10, 3) := by decide +kernel
theorem dX5_goOn_17 : decode cX5_goOn 17 = .ok (.getfield 48, 3) := by decide +kernel
theorem dX5_goOn_20 : decode cX5_goOn 20 = .ok (.invokevirtual 52, 3) := by decide +kernel
theorem dX5_goOn_23 : decode cX5_goOn 23 = .ok (.aload_n 0, 1) := by decide +kernel
theorem dX5_goOn_24 : decode cX5_goOn 24 = .ok (.getfield 23, 3) := by decide +kernel
theorem dX5_goOn_27 : decode cX5_goOn 27 = .ok (.aload_n 0, 1) := by decide +kernel
theorem dX5_goOn_28 : decode cX5_goOn 28 = .ok (.getfield 10, 3) := by decide +kernel
theorem dX5_goOn_31 : decode cX5_goOn 31 = .ok (.getfield 56, 3) := by decide +kernel
theorem dX5_goOn_34 : decode cX5_goOn 34 = .ok (.invokevirtual 52, 3) := by decide +kernel
theorem dX5_goOn_37 : decode cX5_goOn 37 = .ok (.aload_n 0, 1) := by decide +kernel
theorem dX5_goOn_38 : decode cX5_goOn 38 = .ok (.dup, 1) := by decide +kernel
theorem dX5_goOn_39 : decode cX5_goOn 39 = .ok (.getfield 34, 3) := by decide +kernel
theorem dX5_goOn_42 : decode cX5_goOn 42 = .ok (.iconst 1, 1) := by decide +kernel
theorem dX5_goOn_43 : decode cX5_goOn 43 = .ok (.iadd, 1) := by decide +kernel
theorem dX5_goOn_44 : decode cX5_goOn 44 = .ok (.putfield 34, 3) := by decide +kernel
theorem dX5_goOn_47 : decode cX5_goOn 47 = .ok (.iload_n 2, 1) := by decide +kernel
theorem dX5_goOn_48 : decode cX5_goOn 48 = .ok (.ireturn, 1) := by decide +kernel
theorem dX6_init_0 : decode cX6_init 0 = .ok (.aload_n 0, 1) := by decide +kernel
theorem dX6_init_1 : decode cX6_init 1 = .ok (.invokespecial 3, 3) := by decide +kernel
theorem dX6_init_4 : decode cX6_init 4 = .ok (.aload_n 0, 1) := by decide +kernel
theorem dX6_init_5 : decode cX6_init 5 = .ok (.sipush 200, 3) := by decide +kernel
theorem dX6_init_8 : decode cX6_init 8 = .ok (.newarray .char, 2) := by decide +kernel
theorem dX6_init_10 : decode cX6_init 10 = .ok (.putfield 9, 3) := by decide +kernel
theorem dX6_init_13 : decode cX6_init 13 = .ok (.return_, 1) := by decide +kernel
theorem dX6_isFull_0 : decode cX6_isFull 0 = .ok (.aload_n 0, 1) := by decide +kernel
theorem dX6_isFull_1 : decode cX6_isFull 1 = .ok (.getfield 15, 3) := by decide +kernel
theorem dX6_isFull_4 : decode cX6_isFull 4 = .ok (.sipush 200, 3) := by decide +kernel
theorem dX6_isFull_7 : decode cX6_isFull 7 = .ok (.if_icmp .lt 7, 3) := by decide +kernel
theorem dX6_isFull_10 : decode cX6_isFull 10 = .ok (.iconst 1, 1) := by decide +kernel
theorem dX6_isFull_11 : decode cX6_isFull 11 = .ok (.goto 4, 3) := by decide +kernel
theorem dX6_isFull_14 : decode cX6_isFull 14 = .ok (.iconst 0, 1) := by decide +kernel
theorem dX6_isFull_15 : decode cX6_isFull 15 = .ok (.ireturn, 1) := by decide +kernel
theorem dX6_append_0 : decode cX6_append 0 = .ok (.aload_n 0, 1) := by decide +kernel
theorem dX6_append_1 : decode cX6_append 1 = .ok (.getfield 15, 3) := by decide +kernel
theorem dX6_append_4 : decode cX6_append 4 = .ok (.ifCond .lt 35, 3) := by decide +kernel
theorem dX6_append_7 : decode cX6_append 7 = .ok (.aload_n 0, 1) := by decide +kernel
theorem dX6_append_8 : decode cX6_append 8 = .ok (.getfield 15, 3) := by decide +kernel
theorem dX6_append_11 : decode cX6_append 11 = .ok (.aload_n 0, 1) := by decide +kernel
theorem dX6_append_12 : decode cX6_append 12 = .ok (.getfield 9, 3) := by decide +kernel
theorem dX6_append_15 : decode cX6_append 15 = .ok (.arraylength, 1) := by decide +kernel
theorem dX6_append_16 : decode cX6_append 16 = .ok (.if_icmp .ge 23, 3) := by decide +kernel
theorem dX6_append_19 : decode cX6_append 19 = .ok (.aload_n 0, 1) := by decide +kernel
theorem dX6_append_20 : decode cX6_append 20 = .ok (.getfield 9, 3) := by decide +kernel
theorem dX6_append_23 : decode cX6_append 23 = .ok (.aload_n 0, 1) := by decide +kernel
theorem dX6_append_24 : decode cX6_append 24 = .ok (.getfield 15, 3) := by decide +kernel
theorem dX6_append_27 : decode cX6_append 27 = .ok (.iload_n 1, 1) := by decide +kernel
theorem dX6_append_28 : decode cX6_append 28 = .ok (.castore, 1) := by decide +kernel
theorem dX6_append_29 : decode cX6_append 29 = .ok (.aload_n 0, 1) := by decide +kernel
theorem dX6_append_30 : decode cX6_append 30 = .ok (.dup, 1) := by decide +kernel
theorem dX6_append_31 : decode cX6_append 31 = .ok (.getfield 15, 3) := by decide +kernel
theorem dX6_append_34 : decode cX6_append 34 = .ok (.iconst 1, 1) := by decide +kernel
theorem dX6_append_35 : decode cX6_append 35 = .ok (.iadd, 1) := by decide +kernel
theorem dX6_append_36 : decode cX6_append 36 = .ok (.putfield 15, 3) := by decide +kernel
theorem dX6_append_39 : decode cX6_append 39 = .ok (.return_, 1) := by decide +kernel
set_option maxRecDepth 20000 in
theorem ggX6_readInto_X1_setUsual : GoodIn wsX6_readInto wsX1_setUsual := goodIn_r _ [7, 8, 9, 10, 11, 12, 13, 14, 15, 16, 17, 18, 19, 20, 21, 22, 74, 75, 76, 77, 78, 79, 80, 81, 82, 83] (by decide +kernel) (by decide +kernel)
set_option maxRecDepth 20000 in
theorem gX6_readInto_X1_setUsual : GoodIn wsX6_readInto (wsV RX6 19 RX1 yX1_setUsual wsX1_setUsual) := goodIn_app (goodIn_of _ (by decide +kernel)) ggX6_readInto_X1_setUsual
set_option maxRecDepth 20000 in
theorem ggX6_readInto_X6_readItem : GoodIn wsX6_readInto wsX6_readItem := goodIn_r _ [27, 1, 28, 29, 30, 26, 31, 2, 32, 33, 34, 35, 36, 37, 38, 39, 40, 41, 42, 43, 44, 45, 46, 47, 48, 49, 50, 51, 52, 53, 54, 55, 56, 57, 58, 59, 60, 61, 62, 63, 64, 65, 66, 67, 68, 69, 70, 71, 72, 73, 74, 75, 76, 77, 78, 79, 80, 81, 82, 83] (by decide +kernel) (by decide +kernel)
set_option maxRecDepth 20000 in
theorem gX6_readInto_X6_readItem : GoodIn wsX6_readInto (wsV RX6 27 RX6 yX6_readItem wsX6_readItem) := goodIn_app (goodIn_of _ (by decide +kernel)) ggX6_readInto_X6_readItem
theorem dX6_readInto_0 : decode cX6_readInto 0 = .ok (.aload_n 1, 1) := by decide +kernel
theorem dX6_readInto_1 : decode cX6_readInto 1 = .ok (.invokevirtual 19, 3) := by decide +kernel
theorem dX6_readInto_4 : decode cX6_readInto 4 = .ok (.aload_n 0, 1) := by decide +kernel
theorem dX6_readInto_5 : decode cX6_readInto 5 = .ok (.iconst 0, 1) := by decide +kernel
theorem dX6_readInto_6 : decode cX6_readInto 6 = .ok (.putfield 24, 3) := by decide +kernel
theorem dX6_readInto_9 : decode cX6_readInto 9 = .ok (.iconst 0, 1) := by decide +kernel
theorem dX6_readInto_10 : decode cX6_readInto 10 = .ok (.istore_n 2, 1) := by decide +kernel
theorem dX6_readInto_11 : decode cX6_readInto 11 = .ok (.iload_n 2, 1) := by decide +kernel
theorem dX6_readInto_12 : decode cX6_readInto 12 = .ok (.sipush 200, 3) := by decide +kernel
theorem dX6_readInto_15 : decode cX6_readInto 15 = .ok (.if_icmp .ge 35, 3) := by decide +kernel
theorem dX6_readInto_18 : decode cX6_readInto 18 = .ok (.aload_n 0, 1) := by decide +kernel
theorem dX6_readInto_19 : decode cX6_readInto 19 = .ok (.getfield 24, 3) := by decide +kernel
theorem dX6_readInto_22 : decode cX6_readInto 22 = .ok (.aload_n 0, 1) := by decide +kernel
theorem dX6_readInto_23 : decode cX6_readInto 23 = .ok (.getfield 15, 3) := by decide +kernel
theorem dX6_readInto_26 : decode cX6_readInto 26 = .ok (.if_icmp .ge 24, 3) := by decide +kernel
theorem dX6_readInto_29 : decode cX6_readInto 29 = .ok (.aload_n 0, 1) := by decide +kernel
theorem dX6_readInto_30 : decode cX6_readInto 30 = .ok (.getfield 24, 3) := by decide +kernel
theorem dX6_readInto_33 : decode cX6_readInto 33 = .ok (.istore_n 3, 1) := by decide +kernel
theorem dX6_readInto_34 : decode cX6_readInto 34 = .ok (.aload_n 0, 1) := by decide +kernel
theorem dX6_readInto_35 : decode cX6_readInto 35 = .ok (.aload_n 1, 1) := by decide +kernel
theorem dX6_readInto_36 : decode cX6_readInto 36 = .ok (.invokevirtual 27, 3) := by decide +kernel
theorem dX6_readInto_39 : decode cX6_readInto 39 = .ok (.ifCond .ne 5, 3) := by decide +kernel
theorem dX6_readInto_42 : decode cX6_readInto 42 = .ok (.iload_n 3, 1) := by decide +kernel
theorem dX6_readInto_43 : decode cX6_readInto 43 = .ok (.ireturn, 1) := by decide +kernel
theorem dX6_readInto_44 : decode cX6_readInto 44 = .ok (.iinc 2 1, 3) := by decide +kernel
theorem dX6_readInto_47 : decode cX6_readInto 47 = .ok (.goto (-36), 3) := by decide +kernel
theorem dX6_readInto_50 : decode cX6_readInto 50 = .ok (.bipush (-4), 2) := by decide +kernel
theorem dX6_readInto_52 : decode cX6_readInto 52 = .ok (.ireturn, 1) := by decide +kernel
set_option maxRecDepth 20000 in
theorem ggX6_readItem_X6_letterAt : GoodIn wsX6_readItem wsX6_letterAt := goodIn_r _ [6, 7, 8, 47, 48, 49] (by decide +kernel) (by decide +kernel)
set_option maxRecDepth 20000 in
theorem gX6_readItem_X6_letterAt : GoodIn wsX6_readItem (wsV RX6 31 RX6 yX6_letterAt wsX6_letterAt) := goodIn_app (goodIn_of _ (by decide +kernel)) ggX6_readItem_X6_letterAt
set_option maxRecDepth 20000 in
theorem ggX6_readItem_X6_readEnd : GoodIn wsX6_readItem wsX6_readEnd := goodIn_r _ [12, 13, 14, 15, 16, 5, 17, 1, 2, 3, 4, 6, 7, 8, 18, 19, 20, 50, 51, 52, 53, 54, 55, 56, 47, 48, 49] (by decide +kernel) (by decide +kernel)
set_option maxRecDepth 20000 in
theorem gX6_readItem_X6_readEnd : GoodIn wsX6_readItem (wsV RX6 35 RX6 yX6_readEnd wsX6_readEnd) := goodIn_app (goodIn_of _ (by decide +kernel)) ggX6_readItem_X6_readEnd
set_option maxRecDepth 20000 in
theorem ggX6_readItem_X6_readGap : GoodIn wsX6_readItem wsX6_readGap := goodIn_r _ [24, 25, 14, 15, 16, 5, 17, 1, 2, 3, 4, 6, 7, 8, 18, 19, 20, 50, 51, 52, 53, 54, 55, 56, 47, 48, 49] (by decide +kernel) (by decide +kernel)
set_option maxRecDepth 20000 in
theorem gX6_readItem_X6_readGap : GoodIn wsX6_readItem (wsV RX6 38 RX6 yX6_readGap wsX6_readGap) := goodIn_app (goodIn_of _ (by decide +kernel)) ggX6_readItem_X6_readGap
set_option maxRecDepth 20000 in
theorem ggX6_readItem_X6_readStart : GoodIn wsX6_readItem wsX6_readStart := goodIn_r _ [29, 30, 31, 32, 33, 34, 14, 15, 16, 5, 17, 1, 2, 3, 4, 6, 7, 8, 18, 19, 20, 35, 36, 37, 38, 39, 50, 51, 52, 53, 54, 55, 56, 57, 58, 59, 47, 48, 49] (by decide +kernel) (by decide +kernel)
set_option maxRecDepth 20000 in
theorem gX6_readItem_X6_readStart : GoodIn wsX6_readItem (wsV RX6 41 RX6 yX6_readStart wsX6_readStart) := goodIn_app (goodIn_of _ (by decide +kernel)) ggX6_readItem_X6_readStart
set_option maxRecDepth 20000 in
theorem ggX6_readItem_X6_readDrive : GoodIn wsX6_readItem wsX6_readDrive := goodIn_r _ [43, 44, 45, 46, 14, 15, 16, 5, 17, 1, 2, 3, 4, 6, 7, 8, 18, 19, 20, 50, 51, 52, 53, 54, 55, 56, 47, 48, 49] (by decide +kernel) (by decide +kernel)
set_option maxRecDepth 20000 in
theorem gX6_readItem_X6_readDrive : GoodIn wsX6_readItem (wsV RX6 44 RX6 yX6_readDrive wsX6_readDrive) := goodIn_app (goodIn_of _ (by decide +kernel)) ggX6_readItem_X6_readDrive
theorem dX6_readItem_0 : decode cX6_readItem 0 = .ok (.aload_n 0, 1) := by decide +kernel
theorem dX6_readItem_1 : decode cX6_readItem 1 = .ok (.aload_n 0, 1) := by decide +kernel
theorem dX6_readItem_2 : decode cX6_readItem 2 = .ok (.getfield 24, 3) := by decide +kernel
theorem dX6_readItem_5 : decode cX6_readItem 5 = .ok (.invokevirtual 31, 3) := by decide +kernel
theorem dX6_readItem_8 : decode cX6_readItem 8 = .ok (.istore_n 2, 1) := by decide +kernel
theorem dX6_readItem_9 : decode cX6_readItem 9 = .ok (.aload_n 0, 1) := by decide +kernel
theorem dX6_readItem_10 : decode cX6_readItem 10 = .ok (.dup, 1) := by decide +kernel
theorem dX6_readItem_11 : decode cX6_readItem 11 = .ok (.getfield 24, 3) := by decide +kernel
theorem dX6_readItem_14 : decode cX6_readItem 14 = .ok (.iconst 1, 1) := by decide +kernel
theorem dX6_readItem_15 : decode cX6_readItem 15 = .ok (.iadd, 1) := by decide +kernel
theorem dX6_readItem_16 : decode cX6_readItem 16 = .ok (.putfield 24, 3) := by decide +kernel
theorem dX6_readItem_19 : decode cX6_readItem 19 = .ok (.iload_n 2, 1) := by decide +kernel
theorem dX6_readItem_20 : decode cX6_readItem 20 = .ok (.tableswitch 76 99 107 #[64, 76, 52, 76, 58, 76, 76, 76, 70], 52) := by decide +kernel
theorem dX6_readItem_72 : decode cX6_readItem 72 = .ok (.aload_n 0, 1) := by decide +kernel
theorem dX6_readItem_73 : decode cX6_readItem 73 = .ok (.aload_n 1, 1) := by decide +kernel
theorem dX6_readItem_74 : decode cX6_readItem 74 = .ok (.invokevirtual 35, 3) := by decide +kernel
theorem dX6_readItem_77 : decode cX6_readItem 77 = .ok (.ireturn, 1) := by decide +kernel
theorem dX6_readItem_78 : decode cX6_readItem 78 = .ok (.aload_n 0, 1) := by decide +kernel
theorem dX6_readItem_79 : decode cX6_readItem 79 = .ok (.aload_n 1, 1) := by decide +kernel
theorem dX6_readItem_80 : decode cX6_readItem 80 = .ok (.invokevirtual 38, 3) := by decide +kernel
theorem dX6_readItem_83 : decode cX6_readItem 83 = .ok (.ireturn, 1) := by decide +kernel
theorem dX6_readItem_84 : decode cX6_readItem 84 = .ok (.aload_n 0, 1) := by decide +kernel
theorem dX6_readItem_85 : decode cX6_readItem 85 = .ok (.aload_n 1, 1) := by decide +kernel
theorem dX6_readItem_86 : decode cX6_readItem 86 = .ok (.invokevirtual 41, 3) := by decide +kernel
theorem dX6_readItem_89 : decode cX6_readItem 89 = .ok (.ireturn, 1) := by decide +kernel
theorem dX6_readItem_90 : decode cX6_readItem 90 = .ok (.aload_n 0, 1) := by decide +kernel
theorem dX6_readItem_91 : decode cX6_readItem 91 = .ok (.aload_n 1, 1) := by decide +kernel
theorem dX6_readItem_92 : decode cX6_readItem 92 = .ok (.invokevirtual 44, 3) := by decide +kernel
theorem dX6_readItem_95 : decode cX6_readItem 95 = .ok (.ireturn, 1) := by decide +kernel
theorem dX6_readItem_96 : decode cX6_readItem 96 = .ok (.iconst 0, 1) := by decide +kernel
theorem dX6_readItem_97 : decode cX6_readItem 97 = .ok (.ireturn, 1) := by decide +kernel
set_option maxRecDepth 20000 in
theorem ggX6_readEnd_X6_readNumber : GoodIn wsX6_readEnd wsX6_readNumber := goodIn_r _ [6, 7, 8, 9, 10, 5, 11, 12, 13, 14, 15, 16, 24, 25, 26] (by decide +kernel) (by decide +kernel)
set_option maxRecDepth 20000 in
theorem gX6_readEnd_X6_readNumber : GoodIn wsX6_readEnd (wsV RX6 47 RX6 yX6_readNumber wsX6_readNumber) := goodIn_app (goodIn_of _ (by decide +kernel)) ggX6_readEnd_X6_readNumber
set_option maxRecDepth 20000 in
theorem ggX6_readEnd_X7_isWithin : GoodIn wsX6_readEnd wsX7_isWithin := goodIn_r _ [16] (by decide +kernel) (by decide +kernel)
set_option maxRecDepth 20000 in
theorem gX6_readEnd_X7_isWithin_n54 : GoodIn wsX6_readEnd (wsX7_isWithin) := ggX6_readEnd_X7_isWithin
theorem dX6_readEnd_0 : decode cX6_readEnd 0 = .ok (.aload_n 1, 1) := by decide +kernel
theorem dX6_readEnd_1 : decode cX6_readEnd 1 = .ok (.aload_n 0, 1) := by decide +kernel
theorem dX6_readEnd_2 : decode cX6_readEnd 2 = .ok (.bipush 59, 2) := by decide +kernel
theorem dX6_readEnd_4 : decode cX6_readEnd 4 = .ok (.invokevirtual 47, 3) := by decide +kernel
theorem dX6_readEnd_7 : decode cX6_readEnd 7 = .ok (.putfield 51, 3) := by decide +kernel
theorem dX6_readEnd_10 : decode cX6_readEnd 10 = .ok (.aload_n 1, 1) := by decide +kernel
theorem dX6_readEnd_11 : decode cX6_readEnd 11 = .ok (.getfield 51, 3) := by decide +kernel
theorem dX6_readEnd_14 : decode cX6_readEnd 14 = .ok (.sipush 200, 3) := by decide +kernel
theorem dX6_readEnd_17 : decode cX6_readEnd 17 = .ok (.sipush 999, 3) := by decide +kernel
theorem dX6_readEnd_20 : decode cX6_readEnd 20 = .ok (.invokestatic 54, 3) := by decide +kernel
theorem dX6_readEnd_23 : decode cX6_readEnd 23 = .ok (.ireturn, 1) := by decide +kernel
set_option maxRecDepth 20000 in
theorem ggX6_readGap_X6_readNumber : GoodIn wsX6_readGap wsX6_readNumber := goodIn_r _ [6, 7, 8, 9, 10, 5, 11, 12, 13, 14, 15, 16, 24, 25, 26] (by decide +kernel) (by decide +kernel)
set_option maxRecDepth 20000 in
theorem gX6_readGap_X6_readNumber : GoodIn wsX6_readGap (wsV RX6 47 RX6 yX6_readNumber wsX6_readNumber) := goodIn_app (goodIn_of _ (by decide +kernel)) ggX6_readGap_X6_readNumber
set_option maxRecDepth 20000 in
theorem ggX6_readGap_X7_isWithin : GoodIn wsX6_readGap wsX7_isWithin := goodIn_r _ [16] (by decide +kernel) (by decide +kernel)
set_option maxRecDepth 20000 in
theorem gX6_readGap_X7_isWithin_n54 : GoodIn wsX6_readGap (wsX7_isWithin) := ggX6_readGap_X7_isWithin
theorem dX6_readGap_0 : decode cX6_readGap 0 = .ok (.aload_n 1, 1) := by decide +kernel
theorem dX6_readGap_1 : decode cX6_readGap 1 = .ok (.aload_n 0, 1) := by decide +kernel
theorem dX6_readGap_2 : decode cX6_readGap 2 = .ok (.bipush 59, 2) := by decide +kernel
theorem dX6_readGap_4 : decode cX6_readGap 4 = .ok (.invokevirtual 47, 3) := by decide +kernel
theorem dX6_readGap_7 : decode cX6_readGap 7 = .ok (.putfield 58, 3) := by decide +kernel
theorem dX6_readGap_10 : decode cX6_readGap 10 = .ok (.aload_n 1, 1) := by decide +kernel
theorem dX6_readGap_11 : decode cX6_readGap 11 = .ok (.getfield 58, 3) := by decide +kernel
theorem dX6_readGap_14 : decode cX6_readGap 14 = .ok (.bipush 10, 2) := by decide +kernel
theorem dX6_readGap_16 : decode cX6_readGap 16 = .ok (.bipush 99, 2) := by decide +kernel
theorem dX6_readGap_18 : decode cX6_readGap 18 = .ok (.invokestatic 54, 3) := by decide +kernel
theorem dX6_readGap_21 : decode cX6_readGap 21 = .ok (.ireturn, 1) := by decide +kernel
set_option maxRecDepth 20000 in
theorem ggX6_readStart_X6_readNumber : GoodIn wsX6_readStart wsX6_readNumber := goodIn_r _ [10, 11, 12, 13, 14, 9, 15, 16, 17, 18, 19, 20, 36, 37, 38] (by decide +kernel) (by decide +kernel)
set_option maxRecDepth 20000 in
theorem gX6_readStart_X6_readNumber : GoodIn wsX6_readStart (wsV RX6 47 RX6 yX6_readNumber wsX6_readNumber) := goodIn_app (goodIn_of _ (by decide +kernel)) ggX6_readStart_X6_readNumber
set_option maxRecDepth 20000 in
theorem ggX6_readStart_X7_isCrane : GoodIn wsX6_readStart wsX7_isCrane := goodIn_r _ [22] (by decide +kernel) (by decide +kernel)
set_option maxRecDepth 20000 in
theorem gX6_readStart_X7_isCrane_n61 : GoodIn wsX6_readStart (wsX7_isCrane) := ggX6_readStart_X7_isCrane
set_option maxRecDepth 20000 in
theorem ggX6_readStart_X7_isWithin : GoodIn wsX6_readStart wsX7_isWithin := goodIn_r _ [20] (by decide +kernel) (by decide +kernel)
set_option maxRecDepth 20000 in
theorem gX6_readStart_X7_isWithin_n54 : GoodIn wsX6_readStart (wsX7_isWithin) := ggX6_readStart_X7_isWithin
set_option maxRecDepth 20000 in
theorem ggX6_readStart_X7_isRope : GoodIn wsX6_readStart wsX7_isRope := goodIn_r _ [24, 25, 18, 19, 20] (by decide +kernel) (by decide +kernel)
set_option maxRecDepth 20000 in
theorem gX6_readStart_X7_isRope_n83 : GoodIn wsX6_readStart (wsX7_isRope) := ggX6_readStart_X7_isRope
theorem dX6_readStart_0 : decode cX6_readStart 0 = .ok (.aload_n 0, 1) := by decide +kernel
theorem dX6_readStart_1 : decode cX6_readStart 1 = .ok (.bipush 44, 2) := by decide +kernel
theorem dX6_readStart_3 : decode cX6_readStart 3 = .ok (.invokevirtual 47, 3) := by decide +kernel
theorem dX6_readStart_6 : decode cX6_readStart 6 = .ok (.istore_n 2, 1) := by decide +kernel
theorem dX6_readStart_7 : decode cX6_readStart 7 = .ok (.iload_n 2, 1) := by decide +kernel
theorem dX6_readStart_8 : decode cX6_readStart 8 = .ok (.invokestatic 61, 3) := by decide +kernel
theorem dX6_readStart_11 : decode cX6_readStart 11 = .ok (.ifCond .ne 5, 3) := by decide +kernel
theorem dX6_readStart_14 : decode cX6_readStart 14 = .ok (.iconst 0, 1) := by decide +kernel
theorem dX6_readStart_15 : decode cX6_readStart 15 = .ok (.ireturn, 1) := by decide +kernel
theorem dX6_readStart_16 : decode cX6_readStart 16 = .ok (.iload_n 2, 1) := by decide +kernel
theorem dX6_readStart_17 : decode cX6_readStart 17 = .ok (.ifCond .ne 10, 3) := by decide +kernel
theorem dX6_readStart_20 : decode cX6_readStart 20 = .ok (.aload_n 1, 1) := by decide +kernel
theorem dX6_readStart_21 : decode cX6_readStart 21 = .ok (.getfield 65, 3) := by decide +kernel
theorem dX6_readStart_24 : decode cX6_readStart 24 = .ok (.goto 7, 3) := by decide +kernel
theorem dX6_readStart_27 : decode cX6_readStart 27 = .ok (.aload_n 1, 1) := by decide +kernel
theorem dX6_readStart_28 : decode cX6_readStart 28 = .ok (.getfield 69, 3) := by decide +kernel
theorem dX6_readStart_31 : decode cX6_readStart 31 = .ok (.astore_n 3, 1) := by decide +kernel
theorem dX6_readStart_32 : decode cX6_readStart 32 = .ok (.aload_n 3, 1) := by decide +kernel
theorem dX6_readStart_33 : decode cX6_readStart 33 = .ok (.aload_n 0, 1) := by decide +kernel
theorem dX6_readStart_34 : decode cX6_readStart 34 = .ok (.bipush 44, 2) := by decide +kernel
theorem dX6_readStart_36 : decode cX6_readStart 36 = .ok (.invokevirtual 47, 3) := by decide +kernel
theorem dX6_readStart_39 : decode cX6_readStart 39 = .ok (.putfield 72, 3) := by decide +kernel
theorem dX6_readStart_42 : decode cX6_readStart 42 = .ok (.aload_n 3, 1) := by decide +kernel
theorem dX6_readStart_43 : decode cX6_readStart 43 = .ok (.aload_n 0, 1) := by decide +kernel
theorem dX6_readStart_44 : decode cX6_readStart 44 = .ok (.bipush 44, 2) := by decide +kernel
theorem dX6_readStart_46 : decode cX6_readStart 46 = .ok (.invokevirtual 47, 3) := by decide +kernel
theorem dX6_readStart_49 : decode cX6_readStart 49 = .ok (.putfield 77, 3) := by decide +kernel
theorem dX6_readStart_52 : decode cX6_readStart 52 = .ok (.aload_n 3, 1) := by decide +kernel
theorem dX6_readStart_53 : decode cX6_readStart 53 = .ok (.aload_n 0, 1) := by decide +kernel
theorem dX6_readStart_54 : decode cX6_readStart 54 = .ok (.bipush 59, 2) := by decide +kernel
theorem dX6_readStart_56 : decode cX6_readStart 56 = .ok (.invokevirtual 47, 3) := by decide +kernel
theorem dX6_readStart_59 : decode cX6_readStart 59 = .ok (.putfield 80, 3) := by decide +kernel
theorem dX6_readStart_62 : decode cX6_readStart 62 = .ok (.aload_n 3, 1) := by decide +kernel
theorem dX6_readStart_63 : decode cX6_readStart 63 = .ok (.getfield 72, 3) := by decide +kernel
theorem dX6_readStart_66 : decode cX6_readStart 66 = .ok (.iconst 0, 1) := by decide +kernel
theorem dX6_readStart_67 : decode cX6_readStart 67 = .ok (.sipush 999, 3) := by decide +kernel
theorem dX6_readStart_70 : decode cX6_readStart 70 = .ok (.invokestatic 54, 3) := by decide +kernel
theorem dX6_readStart_73 : decode cX6_readStart 73 = .ok (.ifCond .eq 30, 3) := by decide +kernel
theorem dX6_readStart_76 : decode cX6_readStart 76 = .ok (.aload_n 3, 1) := by decide +kernel
theorem dX6_readStart_77 : decode cX6_readStart 77 = .ok (.getfield 77, 3) := by decide +kernel
theorem dX6_readStart_80 : decode cX6_readStart 80 = .ok (.invokestatic 83, 3) := by decide +kernel
theorem dX6_readStart_83 : decode cX6_readStart 83 = .ok (.ifCond .eq 20, 3) := by decide +kernel
theorem dX6_readStart_86 : decode cX6_readStart 86 = .ok (.aload_n 3, 1) := by decide +kernel
theorem dX6_readStart_87 : decode cX6_readStart 87 = .ok (.getfield 80, 3) := by decide +kernel
theorem dX6_readStart_90 : decode cX6_readStart 90 = .ok (.iconst 0, 1) := by decide +kernel
theorem dX6_readStart_91 : decode cX6_readStart 91 = .ok (.bipush 99, 2) := by decide +kernel
theorem dX6_readStart_93 : decode cX6_readStart 93 = .ok (.invokestatic 54, 3) := by decide +kernel
theorem dX6_readStart_96 : decode cX6_readStart 96 = .ok (.ifCond .eq 7, 3) := by decide +kernel
theorem dX6_readStart_99 : decode cX6_readStart 99 = .ok (.iconst 1, 1) := by decide +kernel
theorem dX6_readStart_100 : decode cX6_readStart 100 = .ok (.goto 4, 3) := by decide +kernel
theorem dX6_readStart_103 : decode cX6_readStart 103 = .ok (.iconst 0, 1) := by decide +kernel
theorem dX6_readStart_104 : decode cX6_readStart 104 = .ok (.ireturn, 1) := by decide +kernel
set_option maxRecDepth 20000 in
theorem ggX6_readDrive_X6_readNumber : GoodIn wsX6_readDrive wsX6_readNumber := goodIn_r _ [8, 9, 10, 11, 12, 7, 13, 14, 15, 16, 17, 18, 26, 27, 28] (by decide +kernel) (by decide +kernel)
set_option maxRecDepth 20000 in
theorem gX6_readDrive_X6_readNumber : GoodIn wsX6_readDrive (wsV RX6 47 RX6 yX6_readNumber wsX6_readNumber) := goodIn_app (goodIn_of _ (by decide +kernel)) ggX6_readDrive_X6_readNumber
set_option maxRecDepth 20000 in
theorem ggX6_readDrive_X7_isWithin : GoodIn wsX6_readDrive wsX7_isWithin := goodIn_r _ [18] (by decide +kernel) (by decide +kernel)
set_option maxRecDepth 20000 in
theorem gX6_readDrive_X7_isWithin_n54 : GoodIn wsX6_readDrive (wsX7_isWithin) := ggX6_readDrive_X7_isWithin
theorem dX6_readDrive_0 : decode cX6_readDrive 0 = .ok (.aload_n 1, 1) := by decide +kernel
theorem dX6_readDrive_1 : decode cX6_readDrive 1 = .ok (.aload_n 0, 1) := by decide +kernel
theorem dX6_readDrive_2 : decode cX6_readDrive 2 = .ok (.bipush 44, 2) := by decide +kernel
theorem dX6_readDrive_4 : decode cX6_readDrive 4 = .ok (.invokevirtual 47, 3) := by decide +kernel
theorem dX6_readDrive_7 : decode cX6_readDrive 7 = .ok (.putfield 86, 3) := by decide +kernel
theorem dX6_readDrive_10 : decode cX6_readDrive 10 = .ok (.aload_n 1, 1) := by decide +kernel
theorem dX6_readDrive_11 : decode cX6_readDrive 11 = .ok (.aload_n 0, 1) := by decide +kernel
theorem dX6_readDrive_12 : decode cX6_readDrive 12 = .ok (.bipush 44, 2) := by decide +kernel
theorem dX6_readDrive_14 : decode cX6_readDrive 14 = .ok (.invokevirtual 47, 3) := by decide +kernel
theorem dX6_readDrive_17 : decode cX6_readDrive 17 = .ok (.putfield 89, 3) := by decide +kernel
theorem dX6_readDrive_20 : decode cX6_readDrive 20 = .ok (.aload_n 1, 1) := by decide +kernel
theorem dX6_readDrive_21 : decode cX6_readDrive 21 = .ok (.aload_n 0, 1) := by decide +kernel
theorem dX6_readDrive_22 : decode cX6_readDrive 22 = .ok (.bipush 59, 2) := by decide +kernel
theorem dX6_readDrive_24 : decode cX6_readDrive 24 = .ok (.invokevirtual 47, 3) := by decide +kernel
theorem dX6_readDrive_27 : decode cX6_readDrive 27 = .ok (.putfield 92, 3) := by decide +kernel
theorem dX6_readDrive_30 : decode cX6_readDrive 30 = .ok (.aload_n 1, 1) := by decide +kernel
theorem dX6_readDrive_31 : decode cX6_readDrive 31 = .ok (.getfield 86, 3) := by decide +kernel
theorem dX6_readDrive_34 : decode cX6_readDrive 34 = .ok (.iconst 1, 1) := by decide +kernel
theorem dX6_readDrive_35 : decode cX6_readDrive 35 = .ok (.bipush 9, 2) := by decide +kernel
theorem dX6_readDrive_37 : decode cX6_readDrive 37 = .ok (.invokestatic 54, 3) := by decide +kernel
theorem dX6_readDrive_40 : decode cX6_readDrive 40 = .ok (.ifCond .eq 33, 3) := by decide +kernel
theorem dX6_readDrive_43 : decode cX6_readDrive 43 = .ok (.aload_n 1, 1) := by decide +kernel
theorem dX6_readDrive_44 : decode cX6_readDrive 44 = .ok (.getfield 89, 3) := by decide +kernel
theorem dX6_readDrive_47 : decode cX6_readDrive 47 = .ok (.iconst 1, 1) := by decide +kernel
theorem dX6_readDrive_48 : decode cX6_readDrive 48 = .ok (.bipush 40, 2) := by decide +kernel
theorem dX6_readDrive_50 : decode cX6_readDrive 50 = .ok (.invokestatic 54, 3) := by decide +kernel
theorem dX6_readDrive_53 : decode cX6_readDrive 53 = .ok (.ifCond .eq 20, 3) := by decide +kernel
theorem dX6_readDrive_56 : decode cX6_readDrive 56 = .ok (.aload_n 1, 1) := by decide +kernel
theorem dX6_readDrive_57 : decode cX6_readDrive 57 = .ok (.getfield 92, 3) := by decide +kernel
theorem dX6_readDrive_60 : decode cX6_readDrive 60 = .ok (.iconst 0, 1) := by decide +kernel
theorem dX6_readDrive_61 : decode cX6_readDrive 61 = .ok (.bipush 40, 2) := by decide +kernel
theorem dX6_readDrive_63 : decode cX6_readDrive 63 = .ok (.invokestatic 54, 3) := by decide +kernel
theorem dX6_readDrive_66 : decode cX6_readDrive 66 = .ok (.ifCond .eq 7, 3) := by decide +kernel
theorem dX6_readDrive_69 : decode cX6_readDrive 69 = .ok (.iconst 1, 1) := by decide +kernel
theorem dX6_readDrive_70 : decode cX6_readDrive 70 = .ok (.goto 4, 3) := by decide +kernel
theorem dX6_readDrive_73 : decode cX6_readDrive 73 = .ok (.iconst 0, 1) := by decide +kernel
theorem dX6_readDrive_74 : decode cX6_readDrive 74 = .ok (.ireturn, 1) := by decide +kernel
set_option maxRecDepth 20000 in
theorem ggX6_readNumber_X6_letterAt : GoodIn wsX6_readNumber wsX6_letterAt := goodIn_r _ [6, 7, 8, 12, 13, 14] (by decide +kernel) (by decide +kernel)
set_option maxRecDepth 20000 in
theorem gX6_readNumber_X6_letterAt : GoodIn wsX6_readNumber (wsV RX6 31 RX6 yX6_letterAt wsX6_letterAt) := goodIn_app (goodIn_of _ (by decide +kernel)) ggX6_readNumber_X6_letterAt
set_option maxRecDepth 20000 in
theorem ggX6_readNumber_X7_isWithin : GoodIn wsX6_readNumber wsX7_isWithin := goodIn_r _ [11] (by decide +kernel) (by decide +kernel)
set_option maxRecDepth 20000 in
theorem gX6_readNumber_X7_isWithin_n54 : GoodIn wsX6_readNumber (wsX7_isWithin) := ggX6_readNumber_X7_isWithin
theorem dX6_readNumber_0 : decode cX6_readNumber 0 = .ok (.iconst 0, 1) := by decide +kernel
theorem dX6_readNumber_1 : decode cX6_readNumber 1 = .ok (.istore_n 2, 1) := by decide +kernel
theorem dX6_readNumber_2 : decode cX6_readNumber 2 = .ok (.iconst 0, 1) := by decide +kernel
theorem dX6_readNumber_3 : decode cX6_readNumber 3 = .ok (.istore_n 3, 1) := by decide +kernel
theorem dX6_readNumber_4 : decode cX6_readNumber 4 = .ok (.iload_n 3, 1) := by decide +kernel
theorem dX6_readNumber_5 : decode cX6_readNumber 5 = .ok (.iconst 3, 1) := by decide +kernel
theorem dX6_readNumber_6 : decode cX6_readNumber 6 = .ok (.if_icmp .ge 54, 3) := by decide +kernel
theorem dX6_readNumber_9 : decode cX6_readNumber 9 = .ok (.aload_n 0, 1) := by decide +kernel
theorem dX6_readNumber_10 : decode cX6_readNumber 10 = .ok (.aload_n 0, 1) := by decide +kernel
theorem dX6_readNumber_11 : decode cX6_readNumber 11 = .ok (.getfield 24, 3) := by decide +kernel
theorem dX6_readNumber_14 : decode cX6_readNumber 14 = .ok (.invokevirtual 31, 3) := by decide +kernel
theorem dX6_readNumber_17 : decode cX6_readNumber 17 = .ok (.bipush 48, 2) := by decide +kernel
theorem dX6_readNumber_19 : decode cX6_readNumber 19 = .ok (.bipush 57, 2) := by decide +kernel
theorem dX6_readNumber_21 : decode cX6_readNumber 21 = .ok (.invokestatic 54, 3) := by decide +kernel
theorem dX6_readNumber_24 : decode cX6_readNumber 24 = .ok (.ifCond .eq 36, 3) := by decide +kernel
theorem dX6_readNumber_27 : decode cX6_readNumber 27 = .ok (.bipush 10, 2) := by decide +kernel
theorem dX6_readNumber_29 : decode cX6_readNumber 29 = .ok (.iload_n 2, 1) := by decide +kernel
theorem dX6_readNumber_30 : decode cX6_readNumber 30 = .ok (.imul, 1) := by decide +kernel
theorem dX6_readNumber_31 : decode cX6_readNumber 31 = .ok (.aload_n 0, 1) := by decide +kernel
theorem dX6_readNumber_32 : decode cX6_readNumber 32 = .ok (.aload_n 0, 1) := by decide +kernel
theorem dX6_readNumber_33 : decode cX6_readNumber 33 = .ok (.getfield 24, 3) := by decide +kernel
theorem dX6_readNumber_36 : decode cX6_readNumber 36 = .ok (.invokevirtual 31, 3) := by decide +kernel
theorem dX6_readNumber_39 : decode cX6_readNumber 39 = .ok (.iadd, 1) := by decide +kernel
theorem dX6_readNumber_40 : decode cX6_readNumber 40 = .ok (.bipush 48, 2) := by decide +kernel
theorem dX6_readNumber_42 : decode cX6_readNumber 42 = .ok (.isub, 1) := by decide +kernel
theorem dX6_readNumber_43 : decode cX6_readNumber 43 = .ok (.istore_n 2, 1) := by decide +kernel
theorem dX6_readNumber_44 : decode cX6_readNumber 44 = .ok (.iinc 3 1, 3) := by decide +kernel
theorem dX6_readNumber_47 : decode cX6_readNumber 47 = .ok (.aload_n 0, 1) := by decide +kernel
theorem dX6_readNumber_48 : decode cX6_readNumber 48 = .ok (.dup, 1) := by decide +kernel
theorem dX6_readNumber_49 : decode cX6_readNumber 49 = .ok (.getfield 24, 3) := by decide +kernel
theorem dX6_readNumber_52 : decode cX6_readNumber 52 = .ok (.iconst 1, 1) := by decide +kernel
theorem dX6_readNumber_53 : decode cX6_readNumber 53 = .ok (.iadd, 1) := by decide +kernel
theorem dX6_readNumber_54 : decode cX6_readNumber 54 = .ok (.putfield 24, 3) := by decide +kernel
theorem dX6_readNumber_57 : decode cX6_readNumber 57 = .ok (.goto (-53), 3) := by decide +kernel
theorem dX6_readNumber_60 : decode cX6_readNumber 60 = .ok (.aload_n 0, 1) := by decide +kernel
theorem dX6_readNumber_61 : decode cX6_readNumber 61 = .ok (.aload_n 0, 1) := by decide +kernel
theorem dX6_readNumber_62 : decode cX6_readNumber 62 = .ok (.getfield 24, 3) := by decide +kernel
theorem dX6_readNumber_65 : decode cX6_readNumber 65 = .ok (.invokevirtual 31, 3) := by decide +kernel
theorem dX6_readNumber_68 : decode cX6_readNumber 68 = .ok (.iload_n 1, 1) := by decide +kernel
theorem dX6_readNumber_69 : decode cX6_readNumber 69 = .ok (.if_icmp .ne 7, 3) := by decide +kernel
theorem dX6_readNumber_72 : decode cX6_readNumber 72 = .ok (.iconst 1, 1) := by decide +kernel
theorem dX6_readNumber_73 : decode cX6_readNumber 73 = .ok (.goto 4, 3) := by decide +kernel
theorem dX6_readNumber_76 : decode cX6_readNumber 76 = .ok (.iconst 0, 1) := by decide +kernel
theorem dX6_readNumber_77 : decode cX6_readNumber 77 = .ok (.istore 4, 2) := by decide +kernel
theorem dX6_readNumber_79 : decode cX6_readNumber 79 = .ok (.aload_n 0, 1) := by decide +kernel
theorem dX6_readNumber_80 : decode cX6_readNumber 80 = .ok (.dup, 1) := by decide +kernel
theorem dX6_readNumber_81 : decode cX6_readNumber 81 = .ok (.getfield 24, 3) := by decide +kernel
theorem dX6_readNumber_84 : decode cX6_readNumber 84 = .ok (.iconst 1, 1) := by decide +kernel
theorem dX6_readNumber_85 : decode cX6_readNumber 85 = .ok (.iadd, 1) := by decide +kernel
theorem dX6_readNumber_86 : decode cX6_readNumber 86 = .ok (.putfield 24, 3) := by decide +kernel
theorem dX6_readNumber_89 : decode cX6_readNumber 89 = .ok (.iload_n 3, 1) := by decide +kernel
theorem dX6_readNumber_90 : decode cX6_readNumber 90 = .ok (.ifCond .le 12, 3) := by decide +kernel
theorem dX6_readNumber_93 : decode cX6_readNumber 93 = .ok (.iload 4, 2) := by decide +kernel
theorem dX6_readNumber_95 : decode cX6_readNumber 95 = .ok (.ifCond .eq 7, 3) := by decide +kernel
theorem dX6_readNumber_98 : decode cX6_readNumber 98 = .ok (.iload_n 2, 1) := by decide +kernel
theorem dX6_readNumber_99 : decode cX6_readNumber 99 = .ok (.goto 5, 3) := by decide +kernel
theorem dX6_readNumber_102 : decode cX6_readNumber 102 = .ok (.bipush (-4), 2) := by decide +kernel
theorem dX6_readNumber_104 : decode cX6_readNumber 104 = .ok (.ireturn, 1) := by decide +kernel
theorem dX6_letterAt_0 : decode cX6_letterAt 0 = .ok (.iload_n 1, 1) := by decide +kernel
theorem dX6_letterAt_1 : decode cX6_letterAt 1 = .ok (.ifCond .lt 20, 3) := by decide +kernel
theorem dX6_letterAt_4 : decode cX6_letterAt 4 = .ok (.iload_n 1, 1) := by decide +kernel
theorem dX6_letterAt_5 : decode cX6_letterAt 5 = .ok (.aload_n 0, 1) := by decide +kernel
theorem dX6_letterAt_6 : decode cX6_letterAt 6 = .ok (.getfield 15, 3) := by decide +kernel
theorem dX6_letterAt_9 : decode cX6_letterAt 9 = .ok (.if_icmp .ge 12, 3) := by decide +kernel
theorem dX6_letterAt_12 : decode cX6_letterAt 12 = .ok (.iload_n 1, 1) := by decide +kernel
theorem dX6_letterAt_13 : decode cX6_letterAt 13 = .ok (.aload_n 0, 1) := by decide +kernel
theorem dX6_letterAt_14 : decode cX6_letterAt 14 = .ok (.getfield 9, 3) := by decide +kernel
theorem dX6_letterAt_17 : decode cX6_letterAt 17 = .ok (.arraylength, 1) := by decide +kernel
theorem dX6_letterAt_18 : decode cX6_letterAt 18 = .ok (.if_icmp .lt 6, 3) := by decide +kernel
theorem dX6_letterAt_21 : decode cX6_letterAt 21 = .ok (.bipush (-4), 2) := by decide +kernel
theorem dX6_letterAt_23 : decode cX6_letterAt 23 = .ok (.ireturn, 1) := by decide +kernel
theorem dX6_letterAt_24 : decode cX6_letterAt 24 = .ok (.aload_n 0, 1) := by decide +kernel
theorem dX6_letterAt_25 : decode cX6_letterAt 25 = .ok (.getfield 9, 3) := by decide +kernel
theorem dX6_letterAt_28 : decode cX6_letterAt 28 = .ok (.iload_n 1, 1) := by decide +kernel
theorem dX6_letterAt_29 : decode cX6_letterAt 29 = .ok (.caload, 1) := by decide +kernel
theorem dX6_letterAt_30 : decode cX6_letterAt 30 = .ok (.ireturn, 1) := by decide +kernel
set_option maxRecDepth 20000 in
theorem ggX7_init_X6_init : GoodIn wsX7_init wsX6_init := goodIn_r _ [26, 27, 2, 3, 28, 29, 122, 123, 124] (by decide +kernel) (by decide +kernel)
set_option maxRecDepth 20000 in
theorem gX7_init_X6_init_n9 : GoodIn wsX7_init (wsX6_init) := ggX7_init_X6_init
set_option maxRecDepth 20000 in
theorem ggX7_init_X2_init : GoodIn wsX7_init wsX2_init := goodIn_r _ [31, 32, 2, 3, 33, 34, 35, 36, 37, 38, 39, 40, 41, 149, 150, 151, 152, 153, 154, 155, 156, 157, 158, 159, 160, 161, 135, 136, 137] (by decide +kernel) (by decide +kernel)
set_option maxRecDepth 20000 in
theorem gX7_init_X2_init_n18 : GoodIn wsX7_init (wsX2_init) := ggX7_init_X2_init
set_option maxRecDepth 20000 in
theorem ggX7_init_X1_init : GoodIn wsX7_init wsX1_init := goodIn_r _ [44, 45, 2, 3, 46, 47, 48, 49, 50, 51, 52, 53, 54, 55, 56, 14, 57, 58, 59, 60, 61, 62, 63, 64, 65, 66, 67, 68, 69, 162, 163, 164, 138, 139, 140, 141, 142, 143, 144] (by decide +kernel) (by decide +kernel)
set_option maxRecDepth 20000 in
theorem gX7_init_X1_init : GoodIn wsX7_init (wsX1_init) := ggX7_init_X1_init
set_option maxRecDepth 20000 in
theorem ggX7_init_X5_init : GoodIn wsX7_init wsX5_init := goodIn_r _ [71, 72, 2, 3, 73, 9, 10, 74, 75, 76, 77, 78, 79, 30, 31, 32, 33, 34, 35, 36, 37, 38, 39, 40, 41, 80, 81, 82, 83, 84, 85, 135, 136, 137, 145, 146, 147, 148, 165, 166, 167, 149, 150, 151, 152, 153, 154, 155, 156, 157, 158, 159, 160, 161] (by decide +kernel) (by decide +kernel)
set_option maxRecDepth 20000 in
theorem gX7_init_X5_init_n35 : GoodIn wsX7_init (wsX5_init) := ggX7_init_X5_init
set_option maxRecDepth 20000 in
theorem ggX7_init_X5_begin : GoodIn wsX7_init wsX5_begin := goodIn_r _ [89, 74, 78, 90, 79, 91, 92, 93, 94, 10, 95, 36, 96, 37, 97, 38, 98, 99, 100, 35, 101, 102, 103, 104, 105, 106, 107, 108, 109, 110, 111, 112, 113, 114, 115, 116, 117, 118, 119, 120, 121, 145, 146, 147, 148, 165, 166, 167, 135, 136, 137, 138, 139, 140, 141, 142, 143, 144, 162, 163, 164, 149, 150, 151, 152, 153, 154, 155, 156, 157, 158, 159, 160, 161] (by decide +kernel) (by decide +kernel)
set_option maxRecDepth 20000 in
theorem gX7_init_X5_begin : GoodIn wsX7_init (wsV RX7 52 RX5 yX5_begin wsX5_begin) := goodIn_app (goodIn_of _ (by decide +kernel)) ggX7_init_X5_begin
theorem dX7_init_0 : decode cX7_init 0 = .ok (.aload_n 0, 1) := by decide +kernel
theorem dX7_init_1 : decode cX7_init 1 = .ok (.invokespecial 1, 3) := by decide +kernel
theorem dX7_init_4 : decode cX7_init 4 = .ok (.aload_n 0, 1) := by decide +kernel
theorem dX7_init_5 : decode cX7_init 5 = .ok (.new 7, 3) := by decide +kernel
theorem dX7_init_8 : decode cX7_init 8 = .ok (.dup, 1) := by decide +kernel
theorem dX7_init_9 : decode cX7_init 9 = .ok (.invokespecial 9, 3) := by decide +kernel
theorem dX7_init_12 : decode cX7_init 12 = .ok (.putfield 10, 3) := by decide +kernel
theorem dX7_init_15 : decode cX7_init 15 = .ok (.aload_n 0, 1) := by decide +kernel
theorem dX7_init_16 : decode cX7_init 16 = .ok (.new 16, 3) := by decide +kernel
theorem dX7_init_19 : decode cX7_init 19 = .ok (.dup, 1) := by decide +kernel
theorem dX7_init_20 : decode cX7_init 20 = .ok (.invokespecial 18, 3) := by decide +kernel
theorem dX7_init_23 : decode cX7_init 23 = .ok (.putfield 19, 3) := by decide +kernel
theorem dX7_init_26 : decode cX7_init 26 = .ok (.aload_n 0, 1) := by decide +kernel
theorem dX7_init_27 : decode cX7_init 27 = .ok (.new 23, 3) := by decide +kernel
theorem dX7_init_30 : decode cX7_init 30 = .ok (.dup, 1) := by decide +kernel
theorem dX7_init_31 : decode cX7_init 31 = .ok (.invokespecial 25, 3) := by decide +kernel
theorem dX7_init_34 : decode cX7_init 34 = .ok (.putfield 26, 3) := by decide +kernel
theorem dX7_init_37 : decode cX7_init 37 = .ok (.aload_n 0, 1) := by decide +kernel
theorem dX7_init_38 : decode cX7_init 38 = .ok (.new 23, 3) := by decide +kernel
theorem dX7_init_41 : decode cX7_init 41 = .ok (.dup, 1) := by decide +kernel
theorem dX7_init_42 : decode cX7_init 42 = .ok (.invokespecial 25, 3) := by decide +kernel
theorem dX7_init_45 : decode cX7_init 45 = .ok (.putfield 30, 3) := by decide +kernel
theorem dX7_init_48 : decode cX7_init 48 = .ok (.aload_n 0, 1) := by decide +kernel
theorem dX7_init_49 : decode cX7_init 49 = .ok (.new 33, 3) := by decide +kernel
theorem dX7_init_52 : decode cX7_init 52 = .ok (.dup, 1) := by decide +kernel
theorem dX7_init_53 : decode cX7_init 53 = .ok (.invokespecial 35, 3) := by decide +kernel
theorem dX7_init_56 : decode cX7_init 56 = .ok (.putfield 36, 3) := by decide +kernel
theorem dX7_init_59 : decode cX7_init 59 = .ok (.aload_n 0, 1) := by decide +kernel
theorem dX7_init_60 : decode cX7_init 60 = .ok (.new 33, 3) := by decide +kernel
theorem dX7_init_63 : decode cX7_init 63 = .ok (.dup, 1) := by decide +kernel
theorem dX7_init_64 : decode cX7_init 64 = .ok (.invokespecial 35, 3) := by decide +kernel
theorem dX7_init_67 : decode cX7_init 67 = .ok (.putfield 40, 3) := by decide +kernel
theorem dX7_init_70 : decode cX7_init 70 = .ok (.aload_n 0, 1) := by decide +kernel
theorem dX7_init_71 : decode cX7_init 71 = .ok (.new 33, 3) := by decide +kernel
theorem dX7_init_74 : decode cX7_init 74 = .ok (.dup, 1) := by decide +kernel
theorem dX7_init_75 : decode cX7_init 75 = .ok (.invokespecial 35, 3) := by decide +kernel
theorem dX7_init_78 : decode cX7_init 78 = .ok (.putfield 43, 3) := by decide +kernel
theorem dX7_init_81 : decode cX7_init 81 = .ok (.aload_n 0, 1) := by decide +kernel
theorem dX7_init_82 : decode cX7_init 82 = .ok (.new 33, 3) := by decide +kernel
theorem dX7_init_85 : decode cX7_init 85 = .ok (.dup, 1) := by decide +kernel
theorem dX7_init_86 : decode cX7_init 86 = .ok (.invokespecial 35, 3) := by decide +kernel
theorem dX7_init_89 : decode cX7_init 89 = .ok (.putfield 46, 3) := by decide +kernel
theorem dX7_init_92 : decode cX7_init 92 = .ok (.aload_n 0, 1) := by decide +kernel
theorem dX7_init_93 : decode cX7_init 93 = .ok (.new 33, 3) := by decide +kernel
theorem dX7_init_96 : decode cX7_init 96 = .ok (.dup, 1) := by decide +kernel
theorem dX7_init_97 : decode cX7_init 97 = .ok (.invokespecial 35, 3) := by decide +kernel
theorem dX7_init_100 : decode cX7_init 100 = .ok (.putfield 49, 3) := by decide +kernel
theorem dX7_init_103 : decode cX7_init 103 = .ok (.aload_n 0, 1) := by decide +kernel
theorem dX7_init_104 : decode cX7_init 104 = .ok (.getfield 36, 3) := by decide +kernel
theorem dX7_init_107 : decode cX7_init 107 = .ok (.aload_n 0, 1) := by decide +kernel
theorem dX7_init_108 : decode cX7_init 108 = .ok (.getfield 26, 3) := by decide +kernel
theorem dX7_init_111 : decode cX7_init 111 = .ok (.invokevirtual 52, 3) := by decide +kernel
theorem dX7_init_114 : decode cX7_init 114 = .ok (.return_, 1) := by decide +kernel
set_option maxRecDepth 20000 in
theorem ggX7_write_X7_isWithin : GoodIn wsX7_write wsX7_isWithin := goodIn_r _ [6] (by decide +kernel) (by decide +kernel)
set_option maxRecDepth 20000 in
theorem gX7_write_X7_isWithin : GoodIn wsX7_write (va_wsS RX7 56 yX7_isWithin wsX7_isWithin) := goodIn_app (goodIn_of _ (by decide +kernel)) ggX7_write_X7_isWithin
set_option maxRecDepth 20000 in
theorem ggX7_write_X6_isFull : GoodIn wsX7_write wsX6_isFull := goodIn_r _ [11, 12, 28, 29, 30] (by decide +kernel) (by decide +kernel)
set_option maxRecDepth 20000 in
theorem gX7_write_X6_isFull : GoodIn wsX7_write (wsV RX7 60 RX6 yX6_isFull wsX6_isFull) := goodIn_app (goodIn_of _ (by decide +kernel)) ggX7_write_X6_isFull
set_option maxRecDepth 20000 in
theorem ggX7_write_X6_append : GoodIn wsX7_write wsX6_append := goodIn_r _ [16, 12, 17, 28, 29, 30] (by decide +kernel) (by decide +kernel)
set_option maxRecDepth 20000 in
theorem gX7_write_X6_append : GoodIn wsX7_write (wsV RX7 64 RX6 yX6_append wsX6_append) := goodIn_app (goodIn_of _ (by decide +kernel)) ggX7_write_X6_append
theorem dX7_write_0 : decode cX7_write 0 = .ok (.iload_n 1, 1) := by decide +kernel
theorem dX7_write_1 : decode cX7_write 1 = .ok (.bipush 32, 2) := by decide +kernel
theorem dX7_write_3 : decode cX7_write 3 = .ok (.bipush 126, 2) := by decide +kernel
theorem dX7_write_5 : decode cX7_write 5 = .ok (.invokestatic 56, 3) := by decide +kernel
theorem dX7_write_8 : decode cX7_write 8 = .ok (.ifCond .ne 5, 3) := by decide +kernel
theorem dX7_write_11 : decode cX7_write 11 = .ok (.iconst (-1), 1) := by decide +kernel
theorem dX7_write_12 : decode cX7_write 12 = .ok (.ireturn, 1) := by decide +kernel
theorem dX7_write_13 : decode cX7_write 13 = .ok (.aload_n 0, 1) := by decide +kernel
theorem dX7_write_14 : decode cX7_write 14 = .ok (.getfield 10, 3) := by decide +kernel
theorem dX7_write_17 : decode cX7_write 17 = .ok (.invokevirtual 60, 3) := by decide +kernel
theorem dX7_write_20 : decode cX7_write 20 = .ok (.ifCond .eq 6, 3) := by decide +kernel
theorem dX7_write_23 : decode cX7_write 23 = .ok (.bipush (-3), 2) := by decide +kernel
theorem dX7_write_25 : decode cX7_write 25 = .ok (.ireturn, 1) := by decide +kernel
theorem dX7_write_26 : decode cX7_write 26 = .ok (.aload_n 0, 1) := by decide +kernel
theorem dX7_write_27 : decode cX7_write 27 = .ok (.getfield 10, 3) := by decide +kernel
theorem dX7_write_30 : decode cX7_write 30 = .ok (.iload_n 1, 1) := by decide +kernel
theorem dX7_write_31 : decode cX7_write 31 = .ok (.i2c, 1) := by decide +kernel
theorem dX7_write_32 : decode cX7_write 32 = .ok (.invokevirtual 64, 3) := by decide +kernel
theorem dX7_write_35 : decode cX7_write 35 = .ok (.aload_n 0, 1) := by decide +kernel
theorem dX7_write_36 : decode cX7_write 36 = .ok (.getfield 10, 3) := by decide +kernel
theorem dX7_write_39 : decode cX7_write 39 = .ok (.getfield 68, 3) := by decide +kernel
theorem dX7_write_42 : decode cX7_write 42 = .ok (.ireturn, 1) := by decide +kernel
theorem dX7_wipe_0 : decode cX7_wipe 0 = .ok (.aload_n 0, 1) := by decide +kernel
theorem dX7_wipe_1 : decode cX7_wipe 1 = .ok (.getfield 10, 3) := by decide +kernel
theorem dX7_wipe_4 : decode cX7_wipe 4 = .ok (.getfield 68, 3) := by decide +kernel
theorem dX7_wipe_7 : decode cX7_wipe 7 = .ok (.istore_n 1, 1) := by decide +kernel
theorem dX7_wipe_8 : decode cX7_wipe 8 = .ok (.aload_n 0, 1) := by decide +kernel
theorem dX7_wipe_9 : decode cX7_wipe 9 = .ok (.getfield 10, 3) := by decide +kernel
theorem dX7_wipe_12 : decode cX7_wipe 12 = .ok (.iconst 0, 1) := by decide +kernel
theorem dX7_wipe_13 : decode cX7_wipe 13 = .ok (.putfield 68, 3) := by decide +kernel
theorem dX7_wipe_16 : decode cX7_wipe 16 = .ok (.iload_n 1, 1) := by decide +kernel
theorem dX7_wipe_17 : decode cX7_wipe 17 = .ok (.ireturn, 1) := by decide +kernel
set_option maxRecDepth 20000 in
theorem ggX7_fault_X6_readInto : GoodIn wsX7_fault wsX6_readInto := goodIn_r _ [7, 8, 9, 10, 11, 12, 13, 14, 15, 16, 17, 18, 19, 20, 21, 22, 23, 24, 25, 26, 27, 28, 29, 30, 31, 32, 6, 33, 34, 35, 36, 37, 38, 39, 40, 41, 42, 43, 44, 45, 46, 47, 48, 49, 50, 51, 52, 53, 54, 55, 56, 57, 58, 59, 60, 61, 62, 63, 64, 65, 66, 67, 68, 69, 70, 71, 72, 73, 74, 75, 76, 87, 88, 89, 90, 91, 92, 93, 94, 95, 96, 97, 98, 99] (by decide +kernel) (by decide +kernel)
set_option maxRecDepth 20000 in
theorem gX7_fault_X6_readInto : GoodIn wsX7_fault (wsV RX7 72 RX6 yX6_readInto wsX6_readInto) := goodIn_app (goodIn_of _ (by decide +kernel)) ggX7_fault_X6_readInto
theorem dX7_fault_0 : decode cX7_fault 0 = .ok (.aload_n 0, 1) := by decide +kernel
theorem dX7_fault_1 : decode cX7_fault 1 = .ok (.getfield 10, 3) := by decide +kernel
theorem dX7_fault_4 : decode cX7_fault 4 = .ok (.aload_n 0, 1) := by decide +kernel
theorem dX7_fault_5 : decode cX7_fault 5 = .ok (.getfield 30, 3) := by decide +kernel
theorem dX7_fault_8 : decode cX7_fault 8 = .ok (.invokevirtual 72, 3) := by decide +kernel
theorem dX7_fault_11 : decode cX7_fault 11 = .ok (.ireturn, 1) := by decide +kernel
set_option maxRecDepth 20000 in
theorem ggX7_lay_X6_readInto : GoodIn wsX7_lay wsX6_readInto := goodIn_r _ [11, 12, 13, 14, 15, 16, 17, 18, 19, 20, 21, 22, 23, 24, 25, 26, 27, 28, 29, 30, 31, 32, 33, 34, 35, 36, 10, 37, 38, 39, 40, 41, 42, 43, 44, 45, 46, 47, 48, 49, 50, 51, 52, 53, 54, 55, 56, 57, 58, 59, 60, 61, 62, 63, 64, 65, 66, 67, 68, 69, 70, 71, 72, 73, 74, 75, 76, 77, 78, 79, 80, 148, 149, 150, 141, 142, 143, 144, 145, 146, 147, 151, 152, 153] (by decide +kernel) (by decide +kernel)
set_option maxRecDepth 20000 in
theorem gX7_lay_X6_readInto : GoodIn wsX7_lay (wsV RX7 72 RX6 yX6_readInto wsX6_readInto) := goodIn_app (goodIn_of _ (by decide +kernel)) ggX7_lay_X6_readInto
set_option maxRecDepth 20000 in
theorem ggX7_lay_X1_holdsBoth : GoodIn wsX7_lay wsX1_holdsBoth := goodIn_r _ [84, 24, 85, 19, 25, 20, 141, 142, 143, 144, 145, 146, 147, 151, 152, 153] (by decide +kernel) (by decide +kernel)
set_option maxRecDepth 20000 in
theorem gX7_lay_X1_holdsBoth : GoodIn wsX7_lay (wsV RX7 76 RX1 yX1_holdsBoth wsX1_holdsBoth) := goodIn_app (goodIn_of _ (by decide +kernel)) ggX7_lay_X1_holdsBoth
set_option maxRecDepth 20000 in
theorem ggX7_lay_X5_begin : GoodIn wsX7_lay wsX5_begin := goodIn_r _ [90, 91, 92, 93, 94, 95, 96, 97, 98, 99, 100, 101, 102, 103, 104, 105, 106, 107, 108, 109, 110, 111, 112, 113, 114, 115, 116, 117, 118, 119, 120, 121, 122, 123, 124, 125, 126, 127, 128, 129, 130, 154, 155, 156, 157, 158, 159, 160, 161, 162, 163, 141, 142, 143, 144, 145, 146, 147, 151, 152, 153, 164, 165, 166, 167, 168, 169, 170, 171, 172, 173, 174, 175, 176] (by decide +kernel) (by decide +kernel)
set_option maxRecDepth 20000 in
theorem gX7_lay_X5_begin : GoodIn wsX7_lay (wsV RX7 52 RX5 yX5_begin wsX5_begin) := goodIn_app (goodIn_of _ (by decide +kernel)) ggX7_lay_X5_begin
theorem dX7_lay_0 : decode cX7_lay 0 = .ok (.aload_n 0, 1) := by decide +kernel
theorem dX7_lay_1 : decode cX7_lay 1 = .ok (.getfield 10, 3) := by decide +kernel
theorem dX7_lay_4 : decode cX7_lay 4 = .ok (.aload_n 0, 1) := by decide +kernel
theorem dX7_lay_5 : decode cX7_lay 5 = .ok (.getfield 30, 3) := by decide +kernel
theorem dX7_lay_8 : decode cX7_lay 8 = .ok (.invokevirtual 72, 3) := by decide +kernel
theorem dX7_lay_11 : decode cX7_lay 11 = .ok (.bipush (-4), 2) := by decide +kernel
theorem dX7_lay_13 : decode cX7_lay 13 = .ok (.if_icmp .ne 13, 3) := by decide +kernel
theorem dX7_lay_16 : decode cX7_lay 16 = .ok (.aload_n 0, 1) := by decide +kernel
theorem dX7_lay_17 : decode cX7_lay 17 = .ok (.getfield 30, 3) := by decide +kernel
theorem dX7_lay_20 : decode cX7_lay 20 = .ok (.invokevirtual 76, 3) := by decide +kernel
theorem dX7_lay_23 : decode cX7_lay 23 = .ok (.ifCond .ne 6, 3) := by decide +kernel
theorem dX7_lay_26 : decode cX7_lay 26 = .ok (.bipush (-2), 2) := by decide +kernel
theorem dX7_lay_28 : decode cX7_lay 28 = .ok (.ireturn, 1) := by decide +kernel
theorem dX7_lay_29 : decode cX7_lay 29 = .ok (.aload_n 0, 1) := by decide +kernel
theorem dX7_lay_30 : decode cX7_lay 30 = .ok (.getfield 30, 3) := by decide +kernel
theorem dX7_lay_33 : decode cX7_lay 33 = .ok (.astore_n 1, 1) := by decide +kernel
theorem dX7_lay_34 : decode cX7_lay 34 = .ok (.aload_n 0, 1) := by decide +kernel
theorem dX7_lay_35 : decode cX7_lay 35 = .ok (.aload_n 0, 1) := by decide +kernel
theorem dX7_lay_36 : decode cX7_lay 36 = .ok (.getfield 26, 3) := by decide +kernel
theorem dX7_lay_39 : decode cX7_lay 39 = .ok (.putfield 30, 3) := by decide +kernel
theorem dX7_lay_42 : decode cX7_lay 42 = .ok (.aload_n 0, 1) := by decide +kernel
theorem dX7_lay_43 : decode cX7_lay 43 = .ok (.aload_n 1, 1) := by decide +kernel
theorem dX7_lay_44 : decode cX7_lay 44 = .ok (.putfield 26, 3) := by decide +kernel
theorem dX7_lay_47 : decode cX7_lay 47 = .ok (.aload_n 0, 1) := by decide +kernel
theorem dX7_lay_48 : decode cX7_lay 48 = .ok (.getfield 36, 3) := by decide +kernel
theorem dX7_lay_51 : decode cX7_lay 51 = .ok (.aload_n 0, 1) := by decide +kernel
theorem dX7_lay_52 : decode cX7_lay 52 = .ok (.getfield 26, 3) := by decide +kernel
theorem dX7_lay_55 : decode cX7_lay 55 = .ok (.invokevirtual 52, 3) := by decide +kernel
theorem dX7_lay_58 : decode cX7_lay 58 = .ok (.aload_n 0, 1) := by decide +kernel
theorem dX7_lay_59 : decode cX7_lay 59 = .ok (.iconst 0, 1) := by decide +kernel
theorem dX7_lay_60 : decode cX7_lay 60 = .ok (.putfield 79, 3) := by decide +kernel
theorem dX7_lay_63 : decode cX7_lay 63 = .ok (.aload_n 0, 1) := by decide +kernel
theorem dX7_lay_64 : decode cX7_lay 64 = .ok (.getfield 26, 3) := by decide +kernel
theorem dX7_lay_67 : decode cX7_lay 67 = .ok (.getfield 82, 3) := by decide +kernel
theorem dX7_lay_70 : decode cX7_lay 70 = .ok (.ireturn, 1) := by decide +kernel
set_option maxRecDepth 20000 in
theorem ggX7_command_X7_isCrane : GoodIn wsX7_command wsX7_isCrane := goodIn_r _ [6] (by decide +kernel) (by decide +kernel)
set_option maxRecDepth 20000 in
theorem gX7_command_X7_isCrane : GoodIn wsX7_command (va_wsS RX7 85 yX7_isCrane wsX7_isCrane) := goodIn_app (goodIn_of _ (by decide +kernel)) ggX7_command_X7_isCrane
set_option maxRecDepth 20000 in
theorem ggX7_command_X7_isSpeed : GoodIn wsX7_command wsX7_isSpeed := goodIn_r _ [9, 10, 11, 5, 12] (by decide +kernel) (by decide +kernel)
set_option maxRecDepth 20000 in
theorem gX7_command_X7_isSpeed : GoodIn wsX7_command (va_wsS RX7 89 yX7_isSpeed wsX7_isSpeed) := goodIn_app (goodIn_of _ (by decide +kernel)) ggX7_command_X7_isSpeed
set_option maxRecDepth 20000 in
theorem ggX7_command_X7_keepForUndo : GoodIn wsX7_command wsX7_keepForUndo := goodIn_r _ [16, 17, 18, 19, 20, 1, 21, 22, 23, 24, 25, 26, 27, 28, 29, 30, 31, 32, 33, 34, 35, 36, 37, 38, 39, 40, 41, 42, 43, 44, 45, 46, 47, 48, 49, 50, 51, 52, 53, 54, 55, 56, 57, 58, 59, 60, 61, 62, 63, 64, 65, 66, 67, 68, 69, 70, 71, 72, 73, 74, 75, 76, 77, 78, 79, 80, 109, 110, 111, 112, 113, 114, 115, 116, 117, 118, 119, 120, 121, 122, 123, 124, 125, 126, 127, 128, 129, 130, 131, 132, 133, 134, 135, 136, 137, 138, 139, 140, 141] (by decide +kernel) (by decide +kernel)
set_option maxRecDepth 20000 in
theorem gX7_command_X7_keepForUndo : GoodIn wsX7_command (wsV RX7 92 RX7 yX7_keepForUndo wsX7_keepForUndo) := goodIn_app (goodIn_of _ (by decide +kernel)) ggX7_command_X7_keepForUndo
set_option maxRecDepth 20000 in
theorem ggX7_command_X2_tellAtOnce : GoodIn wsX7_command wsX2_tellAtOnce := goodIn_r _ [84, 40, 41, 85, 86, 87, 38, 88, 89, 90, 91, 92, 42, 93, 94, 95, 46, 96, 54, 97, 98, 99, 100, 56, 57, 58, 59, 101, 102, 103, 104, 105, 106, 107, 108, 123, 124, 125, 126, 127, 128, 129, 130, 131, 132, 133, 134, 135, 136, 137, 138] (by decide +kernel) (by decide +kernel)
set_option maxRecDepth 20000 in
theorem gX7_command_X2_tellAtOnce : GoodIn wsX7_command (wsV RX7 98 RX2 yX2_tellAtOnce wsX2_tellAtOnce) := goodIn_app (goodIn_of _ (by decide +kernel)) ggX7_command_X2_tellAtOnce
theorem dX7_command_0 : decode cX7_command 0 = .ok (.iload_n 1, 1) := by decide +kernel
theorem dX7_command_1 : decode cX7_command 1 = .ok (.invokestatic 85, 3) := by decide +kernel
theorem dX7_command_4 : decode cX7_command 4 = .ok (.ifCond .eq 10, 3) := by decide +kernel
theorem dX7_command_7 : decode cX7_command 7 = .ok (.iload_n 2, 1) := by decide +kernel
theorem dX7_command_8 : decode cX7_command 8 = .ok (.invokestatic 89, 3) := by decide +kernel
theorem dX7_command_11 : decode cX7_command 11 = .ok (.ifCond .ne 5, 3) := by decide +kernel
theorem dX7_command_14 : decode cX7_command 14 = .ok (.iconst (-1), 1) := by decide +kernel
theorem dX7_command_15 : decode cX7_command 15 = .ok (.ireturn, 1) := by decide +kernel
theorem dX7_command_16 : decode cX7_command 16 = .ok (.aload_n 0, 1) := by decide +kernel
theorem dX7_command_17 : decode cX7_command 17 = .ok (.invokevirtual 92, 3) := by decide +kernel
theorem dX7_command_20 : decode cX7_command 20 = .ok (.aload_n 0, 1) := by decide +kernel
theorem dX7_command_21 : decode cX7_command 21 = .ok (.getfield 36, 3) := by decide +kernel
theorem dX7_command_24 : decode cX7_command 24 = .ok (.getfield 95, 3) := by decide +kernel
theorem dX7_command_27 : decode cX7_command 27 = .ok (.iload_n 1, 1) := by decide +kernel
theorem dX7_command_28 : decode cX7_command 28 = .ok (.iload_n 2, 1) := by decide +kernel
theorem dX7_command_29 : decode cX7_command 29 = .ok (.invokevirtual 98, 3) := by decide +kernel
theorem dX7_command_32 : decode cX7_command 32 = .ok (.ireturn, 1) := by decide +kernel
set_option maxRecDepth 20000 in
theorem ggX7_shape_X7_isCrane : GoodIn wsX7_shape wsX7_isCrane := goodIn_r _ [6] (by decide +kernel) (by decide +kernel)
set_option maxRecDepth 20000 in
theorem gX7_shape_X7_isCrane : GoodIn wsX7_shape (va_wsS RX7 85 yX7_isCrane wsX7_isCrane) := goodIn_app (goodIn_of _ (by decide +kernel)) ggX7_shape_X7_isCrane
set_option maxRecDepth 20000 in
theorem ggX7_shape_X7_isSpeed : GoodIn wsX7_shape wsX7_isSpeed := goodIn_r _ [9, 10, 11, 5, 12] (by decide +kernel) (by decide +kernel)
set_option maxRecDepth 20000 in
theorem gX7_shape_X7_isSpeed : GoodIn wsX7_shape (va_wsS RX7 89 yX7_isSpeed wsX7_isSpeed) := goodIn_app (goodIn_of _ (by decide +kernel)) ggX7_shape_X7_isSpeed
set_option maxRecDepth 20000 in
theorem ggX7_shape_X7_isWithin : GoodIn wsX7_shape wsX7_isWithin := goodIn_r _ [12] (by decide +kernel) (by decide +kernel)
set_option maxRecDepth 20000 in
theorem gX7_shape_X7_isWithin : GoodIn wsX7_shape (va_wsS RX7 56 yX7_isWithin wsX7_isWithin) := goodIn_app (goodIn_of _ (by decide +kernel)) ggX7_shape_X7_isWithin
set_option maxRecDepth 20000 in
theorem ggX7_shape_X7_keepForUndo : GoodIn wsX7_shape wsX7_keepForUndo := goodIn_r _ [16, 17, 18, 19, 20, 1, 21, 22, 23, 24, 25, 26, 27, 28, 29, 30, 31, 32, 33, 34, 35, 36, 37, 38, 39, 40, 41, 42, 43, 44, 45, 46, 47, 48, 49, 50, 51, 52, 53, 54, 55, 56, 57, 58, 59, 60, 61, 62, 63, 64, 65, 66, 67, 68, 69, 70, 71, 72, 73, 74, 75, 76, 77, 78, 79, 80, 111, 112, 113, 114, 115, 116, 117, 118, 119, 120, 121, 122, 123, 124, 125, 126, 127, 128, 129, 130, 131, 132, 133, 134, 135, 136, 137, 138, 139, 140, 141, 142, 143] (by decide +kernel) (by decide +kernel)
set_option maxRecDepth 20000 in
theorem gX7_shape_X7_keepForUndo : GoodIn wsX7_shape (wsV RX7 92 RX7 yX7_keepForUndo wsX7_keepForUndo) := goodIn_app (goodIn_of _ (by decide +kernel)) ggX7_shape_X7_keepForUndo
set_option maxRecDepth 20000 in
theorem ggX7_shape_X2_tellByHalves : GoodIn wsX7_shape wsX2_tellByHalves := goodIn_r _ [84, 40, 41, 85, 86, 87, 38, 88, 89, 90, 91, 92, 42, 93, 94, 95, 46, 96, 54, 50, 97, 5, 98, 99, 100, 101, 102, 56, 57, 58, 59, 103, 104, 105, 106, 107, 108, 109, 110, 125, 126, 127, 128, 129, 130, 131, 132, 133, 134, 135, 136, 137, 138, 139, 140] (by decide +kernel) (by decide +kernel)
set_option maxRecDepth 20000 in
theorem gX7_shape_X2_tellByHalves : GoodIn wsX7_shape (wsV RX7 102 RX2 yX2_tellByHalves wsX2_tellByHalves) := goodIn_app (goodIn_of _ (by decide +kernel)) ggX7_shape_X2_tellByHalves
theorem dX7_shape_0 : decode cX7_shape 0 = .ok (.iload_n 1, 1) := by decide +kernel
theorem dX7_shape_1 : decode cX7_shape 1 = .ok (.invokestatic 85, 3) := by decide +kernel
theorem dX7_shape_4 : decode cX7_shape 4 = .ok (.ifCond .eq 20, 3) := by decide +kernel
theorem dX7_shape_7 : decode cX7_shape 7 = .ok (.iload_n 2, 1) := by decide +kernel
theorem dX7_shape_8 : decode cX7_shape 8 = .ok (.invokestatic 89, 3) := by decide +kernel
theorem dX7_shape_11 : decode cX7_shape 11 = .ok (.ifCond .eq 13, 3) := by decide +kernel
theorem dX7_shape_14 : decode cX7_shape 14 = .ok (.iload_n 3, 1) := by decide +kernel
theorem dX7_shape_15 : decode cX7_shape 15 = .ok (.iconst (-1), 1) := by decide +kernel
theorem dX7_shape_16 : decode cX7_shape 16 = .ok (.bipush 20, 2) := by decide +kernel
theorem dX7_shape_18 : decode cX7_shape 18 = .ok (.invokestatic 56, 3) := by decide +kernel
theorem dX7_shape_21 : decode cX7_shape 21 = .ok (.ifCond .ne 5, 3) := by decide +kernel
theorem dX7_shape_24 : decode cX7_shape 24 = .ok (.iconst (-1), 1) := by decide +kernel
theorem dX7_shape_25 : decode cX7_shape 25 = .ok (.ireturn, 1) := by decide +kernel
theorem dX7_shape_26 : decode cX7_shape 26 = .ok (.aload_n 0, 1) := by decide +kernel
theorem dX7_shape_27 : decode cX7_shape 27 = .ok (.invokevirtual 92, 3) := by decide +kernel
theorem dX7_shape_30 : decode cX7_shape 30 = .ok (.aload_n 0, 1) := by decide +kernel
theorem dX7_shape_31 : decode cX7_shape 31 = .ok (.getfield 36, 3) := by decide +kernel
theorem dX7_shape_34 : decode cX7_shape 34 = .ok (.getfield 95, 3) := by decide +kernel
theorem dX7_shape_37 : decode cX7_shape 37 = .ok (.iload_n 1, 1) := by decide +kernel
theorem dX7_shape_38 : decode cX7_shape 38 = .ok (.iload_n 2, 1) := by decide +kernel
theorem dX7_shape_39 : decode cX7_shape 39 = .ok (.iload_n 3, 1) := by decide +kernel
theorem dX7_shape_40 : decode cX7_shape 40 = .ok (.invokevirtual 102, 3) := by decide +kernel
theorem dX7_shape_43 : decode cX7_shape 43 = .ok (.ireturn, 1) := by decide +kernel
set_option maxRecDepth 20000 in
theorem ggX7_target_X7_isCrane : GoodIn wsX7_target wsX7_isCrane := goodIn_r _ [7] (by decide +kernel) (by decide +kernel)
set_option maxRecDepth 20000 in
theorem gX7_target_X7_isCrane : GoodIn wsX7_target (va_wsS RX7 85 yX7_isCrane wsX7_isCrane) := goodIn_app (goodIn_of _ (by decide +kernel)) ggX7_target_X7_isCrane
set_option maxRecDepth 20000 in
theorem ggX7_target_X7_isRope : GoodIn wsX7_target wsX7_isRope := goodIn_r _ [10, 11, 12, 6, 13] (by decide +kernel) (by decide +kernel)
set_option maxRecDepth 20000 in
theorem gX7_target_X7_isRope : GoodIn wsX7_target (va_wsS RX7 106 yX7_isRope wsX7_isRope) := goodIn_app (goodIn_of _ (by decide +kernel)) ggX7_target_X7_isRope
set_option maxRecDepth 20000 in
theorem ggX7_target_X2_aimsAt : GoodIn wsX7_target wsX2_aimsAt := goodIn_r _ [18, 19, 20, 21, 22, 23, 24, 17, 25, 26, 27, 28, 29, 30, 31, 32, 33, 34, 134, 135, 136, 121, 122, 123, 124, 125, 126, 127, 128, 129, 130, 131, 132, 133] (by decide +kernel) (by decide +kernel)
set_option maxRecDepth 20000 in
theorem gX7_target_X2_aimsAt : GoodIn wsX7_target (wsV RX7 109 RX2 yX2_aimsAt wsX2_aimsAt) := goodIn_app (goodIn_of _ (by decide +kernel)) ggX7_target_X2_aimsAt
set_option maxRecDepth 20000 in
theorem ggX7_target_X7_keepForUndo : GoodIn wsX7_target wsX7_keepForUndo := goodIn_r _ [38, 39, 40, 41, 42, 1, 43, 44, 45, 46, 47, 48, 49, 50, 51, 52, 53, 54, 55, 56, 57, 58, 59, 17, 60, 19, 21, 30, 61, 62, 63, 64, 65, 66, 67, 68, 69, 70, 71, 72, 73, 74, 75, 76, 77, 78, 79, 80, 81, 82, 83, 84, 85, 86, 87, 88, 89, 90, 91, 92, 93, 94, 95, 96, 97, 98, 107, 108, 109, 110, 111, 112, 113, 114, 115, 116, 117, 118, 119, 120, 134, 135, 136, 121, 122, 123, 124, 125, 126, 127, 128, 129, 130, 131, 132, 133, 137, 138, 139] (by decide +kernel) (by decide +kernel)
set_option maxRecDepth 20000 in
theorem gX7_target_X7_keepForUndo : GoodIn wsX7_target (wsV RX7 92 RX7 yX7_keepForUndo wsX7_keepForUndo) := goodIn_app (goodIn_of _ (by decide +kernel)) ggX7_target_X7_keepForUndo
set_option maxRecDepth 20000 in
theorem ggX7_target_X2_side : GoodIn wsX7_target wsX2_side := goodIn_r _ [102, 19, 21, 134, 135, 136] (by decide +kernel) (by decide +kernel)
set_option maxRecDepth 20000 in
theorem gX7_target_X2_side : GoodIn wsX7_target (wsV RX7 113 RX2 yX2_side wsX2_side) := goodIn_app (goodIn_of _ (by decide +kernel)) ggX7_target_X2_side
set_option maxRecDepth 20000 in
theorem ggX7_target_X2_aim : GoodIn wsX7_target wsX2_aim := goodIn_r _ [106, 19, 20, 21, 22, 23, 24, 17, 25, 26, 27, 28, 29, 30, 31, 32, 33, 34, 134, 135, 136, 121, 122, 123, 124, 125, 126, 127, 128, 129, 130, 131, 132, 133] (by decide +kernel) (by decide +kernel)
set_option maxRecDepth 20000 in
theorem gX7_target_X2_aim : GoodIn wsX7_target (wsV RX7 122 RX2 yX2_aim wsX2_aim) := goodIn_app (goodIn_of _ (by decide +kernel)) ggX7_target_X2_aim
theorem dX7_target_0 : decode cX7_target 0 = .ok (.iload_n 1, 1) := by decide +kernel
theorem dX7_target_1 : decode cX7_target 1 = .ok (.invokestatic 85, 3) := by decide +kernel
theorem dX7_target_4 : decode cX7_target 4 = .ok (.ifCond .eq 10, 3) := by decide +kernel
theorem dX7_target_7 : decode cX7_target 7 = .ok (.iload_n 2, 1) := by decide +kernel
theorem dX7_target_8 : decode cX7_target 8 = .ok (.invokestatic 106, 3) := by decide +kernel
theorem dX7_target_11 : decode cX7_target 11 = .ok (.ifCond .ne 5, 3) := by decide +kernel
theorem dX7_target_14 : decode cX7_target 14 = .ok (.iconst (-1), 1) := by decide +kernel
theorem dX7_target_15 : decode cX7_target 15 = .ok (.ireturn, 1) := by decide +kernel
theorem dX7_target_16 : decode cX7_target 16 = .ok (.aload_n 0, 1) := by decide +kernel
theorem dX7_target_17 : decode cX7_target 17 = .ok (.getfield 36, 3) := by decide +kernel
theorem dX7_target_20 : decode cX7_target 20 = .ok (.getfield 95, 3) := by decide +kernel
theorem dX7_target_23 : decode cX7_target 23 = .ok (.iload_n 1, 1) := by decide +kernel
theorem dX7_target_24 : decode cX7_target 24 = .ok (.iload_n 2, 1) := by decide +kernel
theorem dX7_target_25 : decode cX7_target 25 = .ok (.invokevirtual 109, 3) := by decide +kernel
theorem dX7_target_28 : decode cX7_target 28 = .ok (.ifCond .eq 6, 3) := by decide +kernel
theorem dX7_target_31 : decode cX7_target 31 = .ok (.bipush (-2), 2) := by decide +kernel
theorem dX7_target_33 : decode cX7_target 33 = .ok (.ireturn, 1) := by decide +kernel
theorem dX7_target_34 : decode cX7_target 34 = .ok (.aload_n 0, 1) := by decide +kernel
theorem dX7_target_35 : decode cX7_target 35 = .ok (.invokevirtual 92, 3) := by decide +kernel
theorem dX7_target_38 : decode cX7_target 38 = .ok (.aload_n 0, 1) := by decide +kernel
theorem dX7_target_39 : decode cX7_target 39 = .ok (.getfield 36, 3) := by decide +kernel
theorem dX7_target_42 : decode cX7_target 42 = .ok (.getfield 95, 3) := by decide +kernel
theorem dX7_target_45 : decode cX7_target 45 = .ok (.iload_n 1, 1) := by decide +kernel
theorem dX7_target_46 : decode cX7_target 46 = .ok (.invokevirtual 113, 3) := by decide +kernel
theorem dX7_target_49 : decode cX7_target 49 = .ok (.getfield 117, 3) := by decide +kernel
theorem dX7_target_52 : decode cX7_target 52 = .ok (.istore_n 3, 1) := by decide +kernel
theorem dX7_target_53 : decode cX7_target 53 = .ok (.aload_n 0, 1) := by decide +kernel
theorem dX7_target_54 : decode cX7_target 54 = .ok (.getfield 36, 3) := by decide +kernel
theorem dX7_target_57 : decode cX7_target 57 = .ok (.getfield 95, 3) := by decide +kernel
theorem dX7_target_60 : decode cX7_target 60 = .ok (.iload_n 1, 1) := by decide +kernel
theorem dX7_target_61 : decode cX7_target 61 = .ok (.iload_n 2, 1) := by decide +kernel
theorem dX7_target_62 : decode cX7_target 62 = .ok (.invokevirtual 122, 3) := by decide +kernel
theorem dX7_target_65 : decode cX7_target 65 = .ok (.iload_n 3, 1) := by decide +kernel
theorem dX7_target_66 : decode cX7_target 66 = .ok (.ireturn, 1) := by decide +kernel
set_option maxRecDepth 20000 in
theorem ggX7_load_X7_isCrane : GoodIn wsX7_load wsX7_isCrane := goodIn_r _ [7] (by decide +kernel) (by decide +kernel)
set_option maxRecDepth 20000 in
theorem gX7_load_X7_isCrane : GoodIn wsX7_load (va_wsS RX7 85 yX7_isCrane wsX7_isCrane) := goodIn_app (goodIn_of _ (by decide +kernel)) ggX7_load_X7_isCrane
set_option maxRecDepth 20000 in
theorem ggX7_load_X7_isWithin : GoodIn wsX7_load wsX7_isWithin := goodIn_r _ [10] (by decide +kernel) (by decide +kernel)
set_option maxRecDepth 20000 in
theorem gX7_load_X7_isWithin : GoodIn wsX7_load (va_wsS RX7 56 yX7_isWithin wsX7_isWithin) := goodIn_app (goodIn_of _ (by decide +kernel)) ggX7_load_X7_isWithin
set_option maxRecDepth 20000 in
theorem ggX7_load_X2_side : GoodIn wsX7_load wsX2_side := goodIn_r _ [15, 16, 17, 110, 111, 112] (by decide +kernel) (by decide +kernel)
set_option maxRecDepth 20000 in
theorem gX7_load_X2_side : GoodIn wsX7_load (wsV RX7 113 RX2 yX2_side wsX2_side) := goodIn_app (goodIn_of _ (by decide +kernel)) ggX7_load_X2_side
set_option maxRecDepth 20000 in
theorem ggX7_load_X7_keepForUndo : GoodIn wsX7_load wsX7_keepForUndo := goodIn_r _ [21, 22, 23, 24, 25, 1, 26, 27, 28, 29, 30, 31, 32, 33, 34, 35, 36, 37, 38, 39, 40, 41, 42, 14, 43, 16, 17, 44, 45, 46, 47, 48, 49, 50, 51, 52, 53, 54, 55, 56, 57, 58, 59, 60, 61, 62, 63, 64, 65, 66, 67, 68, 69, 70, 71, 72, 73, 74, 75, 76, 77, 78, 79, 80, 81, 82, 83, 84, 85, 86, 87, 88, 89, 90, 91, 92, 93, 94, 95, 96, 110, 111, 112, 97, 98, 99, 100, 101, 102, 103, 104, 105, 106, 107, 108, 109, 113, 114, 115] (by decide +kernel) (by decide +kernel)
set_option maxRecDepth 20000 in
theorem gX7_load_X7_keepForUndo : GoodIn wsX7_load (wsV RX7 92 RX7 yX7_keepForUndo wsX7_keepForUndo) := goodIn_app (goodIn_of _ (by decide +kernel)) ggX7_load_X7_keepForUndo
theorem dX7_load_0 : decode cX7_load 0 = .ok (.iload_n 1, 1) := by decide +kernel
theorem dX7_load_1 : decode cX7_load 1 = .ok (.invokestatic 85, 3) := by decide +kernel
theorem dX7_load_4 : decode cX7_load 4 = .ok (.ifCond .eq 13, 3) := by decide +kernel
theorem dX7_load_7 : decode cX7_load 7 = .ok (.iload_n 2, 1) := by decide +kernel
theorem dX7_load_8 : decode cX7_load 8 = .ok (.iconst 0, 1) := by decide +kernel
theorem dX7_load_9 : decode cX7_load 9 = .ok (.bipush 99, 2) := by decide +kernel
theorem dX7_load_11 : decode cX7_load 11 = .ok (.invokestatic 56, 3) := by decide +kernel
theorem dX7_load_14 : decode cX7_load 14 = .ok (.ifCond .ne 5, 3) := by decide +kernel
theorem dX7_load_17 : decode cX7_load 17 = .ok (.iconst (-1), 1) := by decide +kernel
theorem dX7_load_18 : decode cX7_load 18 = .ok (.ireturn, 1) := by decide +kernel
theorem dX7_load_19 : decode cX7_load 19 = .ok (.aload_n 0, 1) := by decide +kernel
theorem dX7_load_20 : decode cX7_load 20 = .ok (.getfield 36, 3) := by decide +kernel
theorem dX7_load_23 : decode cX7_load 23 = .ok (.getfield 95, 3) := by decide +kernel
theorem dX7_load_26 : decode cX7_load 26 = .ok (.iload_n 1, 1) := by decide +kernel
theorem dX7_load_27 : decode cX7_load 27 = .ok (.invokevirtual 113, 3) := by decide +kernel
theorem dX7_load_30 : decode cX7_load 30 = .ok (.getfield 126, 3) := by decide +kernel
theorem dX7_load_33 : decode cX7_load 33 = .ok (.istore_n 3, 1) := by decide +kernel
theorem dX7_load_34 : decode cX7_load 34 = .ok (.iload_n 3, 1) := by decide +kernel
theorem dX7_load_35 : decode cX7_load 35 = .ok (.iload_n 2, 1) := by decide +kernel
theorem dX7_load_36 : decode cX7_load 36 = .ok (.if_icmp .ne 6, 3) := by decide +kernel
theorem dX7_load_39 : decode cX7_load 39 = .ok (.bipush (-2), 2) := by decide +kernel
theorem dX7_load_41 : decode cX7_load 41 = .ok (.ireturn, 1) := by decide +kernel
theorem dX7_load_42 : decode cX7_load 42 = .ok (.aload_n 0, 1) := by decide +kernel
theorem dX7_load_43 : decode cX7_load 43 = .ok (.invokevirtual 92, 3) := by decide +kernel
theorem dX7_load_46 : decode cX7_load 46 = .ok (.aload_n 0, 1) := by decide +kernel
theorem dX7_load_47 : decode cX7_load 47 = .ok (.getfield 36, 3) := by decide +kernel
theorem dX7_load_50 : decode cX7_load 50 = .ok (.getfield 95, 3) := by decide +kernel
theorem dX7_load_53 : decode cX7_load 53 = .ok (.iload_n 1, 1) := by decide +kernel
theorem dX7_load_54 : decode cX7_load 54 = .ok (.invokevirtual 113, 3) := by decide +kernel
theorem dX7_load_57 : decode cX7_load 57 = .ok (.iload_n 2, 1) := by decide +kernel
theorem dX7_load_58 : decode cX7_load 58 = .ok (.putfield 126, 3) := by decide +kernel
theorem dX7_load_61 : decode cX7_load 61 = .ok (.iload_n 3, 1) := by decide +kernel
theorem dX7_load_62 : decode cX7_load 62 = .ok (.ireturn, 1) := by decide +kernel
set_option maxRecDepth 20000 in
theorem ggX7_couple_X7_isWithin : GoodIn wsX7_couple wsX7_isWithin := goodIn_r _ [7] (by decide +kernel) (by decide +kernel)
set_option maxRecDepth 20000 in
theorem gX7_couple_X7_isWithin : GoodIn wsX7_couple (va_wsS RX7 56 yX7_isWithin wsX7_isWithin) := goodIn_app (goodIn_of _ (by decide +kernel)) ggX7_couple_X7_isWithin
set_option maxRecDepth 20000 in
theorem ggX7_couple_X7_keepForUndo : GoodIn wsX7_couple wsX7_keepForUndo := goodIn_r _ [11, 12, 13, 14, 15, 1, 16, 17, 18, 19, 20, 21, 22, 23, 24, 25, 26, 27, 28, 29, 30, 31, 32, 33, 34, 35, 36, 37, 38, 39, 40, 41, 42, 43, 44, 45, 46, 47, 48, 49, 50, 51, 52, 53, 54, 55, 56, 57, 58, 59, 60, 61, 62, 63, 64, 65, 66, 67, 68, 69, 70, 71, 72, 73, 74, 75, 76, 77, 78, 79, 80, 81, 82, 83, 84, 85, 86, 87, 88, 89, 90, 91, 92, 93, 94, 95, 96, 97, 98, 99, 100, 101, 102, 103, 104, 105, 106, 107, 108] (by decide +kernel) (by decide +kernel)
set_option maxRecDepth 20000 in
theorem gX7_couple_X7_keepForUndo : GoodIn wsX7_couple (wsV RX7 92 RX7 yX7_keepForUndo wsX7_keepForUndo) := goodIn_app (goodIn_of _ (by decide +kernel)) ggX7_couple_X7_keepForUndo
theorem dX7_couple_0 : decode cX7_couple 0 = .ok (.iload_n 1, 1) := by decide +kernel
theorem dX7_couple_1 : decode cX7_couple 1 = .ok (.iconst (-1), 1) := by decide +kernel
theorem dX7_couple_2 : decode cX7_couple 2 = .ok (.bipush 20, 2) := by decide +kernel
theorem dX7_couple_4 : decode cX7_couple 4 = .ok (.invokestatic 56, 3) := by decide +kernel
theorem dX7_couple_7 : decode cX7_couple 7 = .ok (.ifCond .ne 5, 3) := by decide +kernel
theorem dX7_couple_10 : decode cX7_couple 10 = .ok (.iconst (-1), 1) := by decide +kernel
theorem dX7_couple_11 : decode cX7_couple 11 = .ok (.ireturn, 1) := by decide +kernel
theorem dX7_couple_12 : decode cX7_couple 12 = .ok (.aload_n 0, 1) := by decide +kernel
theorem dX7_couple_13 : decode cX7_couple 13 = .ok (.getfield 36, 3) := by decide +kernel
theorem dX7_couple_16 : decode cX7_couple 16 = .ok (.getfield 95, 3) := by decide +kernel
theorem dX7_couple_19 : decode cX7_couple 19 = .ok (.getfield 129, 3) := by decide +kernel
theorem dX7_couple_22 : decode cX7_couple 22 = .ok (.istore_n 2, 1) := by decide +kernel
theorem dX7_couple_23 : decode cX7_couple 23 = .ok (.iload_n 1, 1) := by decide +kernel
theorem dX7_couple_24 : decode cX7_couple 24 = .ok (.ifCond .ge 8, 3) := by decide +kernel
theorem dX7_couple_27 : decode cX7_couple 27 = .ok (.bipush (-4), 2) := by decide +kernel
theorem dX7_couple_29 : decode cX7_couple 29 = .ok (.goto 4, 3) := by decide +kernel
theorem dX7_couple_32 : decode cX7_couple 32 = .ok (.iload_n 1, 1) := by decide +kernel
theorem dX7_couple_33 : decode cX7_couple 33 = .ok (.istore_n 3, 1) := by decide +kernel
theorem dX7_couple_34 : decode cX7_couple 34 = .ok (.iload_n 2, 1) := by decide +kernel
theorem dX7_couple_35 : decode cX7_couple 35 = .ok (.iload_n 3, 1) := by decide +kernel
theorem dX7_couple_36 : decode cX7_couple 36 = .ok (.if_icmp .ne 6, 3) := by decide +kernel
theorem dX7_couple_39 : decode cX7_couple 39 = .ok (.bipush (-2), 2) := by decide +kernel
theorem dX7_couple_41 : decode cX7_couple 41 = .ok (.ireturn, 1) := by decide +kernel
theorem dX7_couple_42 : decode cX7_couple 42 = .ok (.aload_n 0, 1) := by decide +kernel
theorem dX7_couple_43 : decode cX7_couple 43 = .ok (.invokevirtual 92, 3) := by decide +kernel
theorem dX7_couple_46 : decode cX7_couple 46 = .ok (.aload_n 0, 1) := by decide +kernel
theorem dX7_couple_47 : decode cX7_couple 47 = .ok (.getfield 36, 3) := by decide +kernel
theorem dX7_couple_50 : decode cX7_couple 50 = .ok (.getfield 95, 3) := by decide +kernel
theorem dX7_couple_53 : decode cX7_couple 53 = .ok (.iload_n 3, 1) := by decide +kernel
theorem dX7_couple_54 : decode cX7_couple 54 = .ok (.putfield 129, 3) := by decide +kernel
theorem dX7_couple_57 : decode cX7_couple 57 = .ok (.iload_n 2, 1) := by decide +kernel
theorem dX7_couple_58 : decode cX7_couple 58 = .ok (.ireturn, 1) := by decide +kernel
set_option maxRecDepth 20000 in
theorem ggX7_tick_X7_isWithin : GoodIn wsX7_tick wsX7_isWithin := goodIn_r _ [7] (by decide +kernel) (by decide +kernel)
set_option maxRecDepth 20000 in
theorem gX7_tick_X7_isWithin : GoodIn wsX7_tick (va_wsS RX7 56 yX7_isWithin wsX7_isWithin) := goodIn_app (goodIn_of _ (by decide +kernel)) ggX7_tick_X7_isWithin
set_option maxRecDepth 20000 in
theorem ggX7_tick_X7_keepForUndo : GoodIn wsX7_tick wsX7_keepForUndo := goodIn_r _ [11, 12, 13, 14, 15, 1, 16, 17, 18, 19, 20, 21, 22, 23, 24, 25, 26, 27, 28, 29, 30, 31, 32, 33, 34, 35, 36, 37, 38, 39, 40, 41, 42, 43, 44, 45, 46, 47, 48, 49, 50, 51, 52, 53, 54, 55, 56, 57, 58, 59, 60, 61, 62, 63, 64, 65, 66, 67, 68, 69, 70, 71, 72, 73, 74, 75, 152, 153, 154, 155, 156, 157, 158, 159, 160, 161, 162, 163, 164, 165, 166, 167, 168, 169, 170, 171, 172, 173, 174, 175, 176, 177, 178, 179, 180, 181, 182, 183, 184] (by decide +kernel) (by decide +kernel)
set_option maxRecDepth 20000 in
theorem gX7_tick_X7_keepForUndo : GoodIn wsX7_tick (wsV RX7 92 RX7 yX7_keepForUndo wsX7_keepForUndo) := goodIn_app (goodIn_of _ (by decide +kernel)) ggX7_tick_X7_keepForUndo
set_option maxRecDepth 20000 in
theorem ggX7_tick_X5_goOn : GoodIn wsX7_tick wsX5_goOn := goodIn_r _ [79, 26, 27, 80, 28, 81, 29, 82, 83, 84, 33, 85, 35, 86, 36, 87, 88, 89, 37, 90, 91, 92, 93, 94, 95, 96, 97, 98, 41, 99, 100, 55, 44, 43, 101, 102, 103, 104, 51, 53, 52, 49, 54, 105, 106, 107, 108, 109, 110, 111, 112, 113, 46, 114, 115, 19, 116, 117, 6, 118, 17, 18, 20, 119, 120, 121, 122, 123, 124, 125, 126, 127, 128, 129, 130, 131, 132, 133, 45, 47, 48, 134, 135, 136, 137, 50, 138, 139, 140, 59, 141, 142, 143, 61, 144, 145, 146, 147, 148, 149, 150, 151, 62, 63, 64, 65, 66, 67, 68, 69, 70, 71, 72, 73, 74, 75, 162, 163, 164, 165, 166, 167, 168, 169, 170, 171, 172, 173, 174, 175, 176, 177, 178, 179, 180, 181, 185, 186, 187, 188, 189, 190, 191, 182, 183, 184] (by decide +kernel) (by decide +kernel)
set_option maxRecDepth 20000 in
theorem gX7_tick_X5_goOn : GoodIn wsX7_tick (wsV RX7 135 RX5 yX5_goOn wsX5_goOn) := goodIn_app (goodIn_of _ (by decide +kernel)) ggX7_tick_X5_goOn
theorem dX7_tick_0 : decode cX7_tick 0 = .ok (.iload_n 1, 1) := by decide +kernel
theorem dX7_tick_1 : decode cX7_tick 1 = .ok (.iconst 1, 1) := by decide +kernel
theorem dX7_tick_2 : decode cX7_tick 2 = .ok (.bipush 60, 2) := by decide +kernel
theorem dX7_tick_4 : decode cX7_tick 4 = .ok (.invokestatic 56, 3) := by decide +kernel
theorem dX7_tick_7 : decode cX7_tick 7 = .ok (.ifCond .ne 5, 3) := by decide +kernel
theorem dX7_tick_10 : decode cX7_tick 10 = .ok (.iconst (-1), 1) := by decide +kernel
theorem dX7_tick_11 : decode cX7_tick 11 = .ok (.ireturn, 1) := by decide +kernel
theorem dX7_tick_12 : decode cX7_tick 12 = .ok (.aload_n 0, 1) := by decide +kernel
theorem dX7_tick_13 : decode cX7_tick 13 = .ok (.getfield 36, 3) := by decide +kernel
theorem dX7_tick_16 : decode cX7_tick 16 = .ok (.getfield 132, 3) := by decide +kernel
theorem dX7_tick_19 : decode cX7_tick 19 = .ok (.iload_n 1, 1) := by decide +kernel
theorem dX7_tick_20 : decode cX7_tick 20 = .ok (.iadd, 1) := by decide +kernel
theorem dX7_tick_21 : decode cX7_tick 21 = .ok (.sipush 9999, 3) := by decide +kernel
theorem dX7_tick_24 : decode cX7_tick 24 = .ok (.if_icmp .le 6, 3) := by decide +kernel
theorem dX7_tick_27 : decode cX7_tick 27 = .ok (.bipush (-2), 2) := by decide +kernel
theorem dX7_tick_29 : decode cX7_tick 29 = .ok (.ireturn, 1) := by decide +kernel
theorem dX7_tick_30 : decode cX7_tick 30 = .ok (.aload_n 0, 1) := by decide +kernel
theorem dX7_tick_31 : decode cX7_tick 31 = .ok (.invokevirtual 92, 3) := by decide +kernel
theorem dX7_tick_34 : decode cX7_tick 34 = .ok (.iconst 0, 1) := by decide +kernel
theorem dX7_tick_35 : decode cX7_tick 35 = .ok (.istore_n 2, 1) := by decide +kernel
theorem dX7_tick_36 : decode cX7_tick 36 = .ok (.iconst 0, 1) := by decide +kernel
theorem dX7_tick_37 : decode cX7_tick 37 = .ok (.istore_n 3, 1) := by decide +kernel
theorem dX7_tick_38 : decode cX7_tick 38 = .ok (.iload_n 3, 1) := by decide +kernel
theorem dX7_tick_39 : decode cX7_tick 39 = .ok (.iload_n 1, 1) := by decide +kernel
theorem dX7_tick_40 : decode cX7_tick 40 = .ok (.if_icmp .ge 23, 3) := by decide +kernel
theorem dX7_tick_43 : decode cX7_tick 43 = .ok (.iload_n 2, 1) := by decide +kernel
theorem dX7_tick_44 : decode cX7_tick 44 = .ok (.aload_n 0, 1) := by decide +kernel
theorem dX7_tick_45 : decode cX7_tick 45 = .ok (.getfield 36, 3) := by decide +kernel
theorem dX7_tick_48 : decode cX7_tick 48 = .ok (.aload_n 0, 1) := by decide +kernel
theorem dX7_tick_49 : decode cX7_tick 49 = .ok (.getfield 26, 3) := by decide +kernel
theorem dX7_tick_52 : decode cX7_tick 52 = .ok (.invokevirtual 135, 3) := by decide +kernel
theorem dX7_tick_55 : decode cX7_tick 55 = .ok (.iadd, 1) := by decide +kernel
theorem dX7_tick_56 : decode cX7_tick 56 = .ok (.istore_n 2, 1) := by decide +kernel
theorem dX7_tick_57 : decode cX7_tick 57 = .ok (.iinc 3 1, 3) := by decide +kernel
theorem dX7_tick_60 : decode cX7_tick 60 = .ok (.goto (-22), 3) := by decide +kernel
theorem dX7_tick_63 : decode cX7_tick 63 = .ok (.iload_n 2, 1) := by decide +kernel
theorem dX7_tick_64 : decode cX7_tick 64 = .ok (.ireturn, 1) := by decide +kernel
theorem dX7_undo_0 : decode cX7_undo 0 = .ok (.aload_n 0, 1) := by decide +kernel
theorem dX7_undo_1 : decode cX7_undo 1 = .ok (.getfield 79, 3) := by decide +kernel
theorem dX7_undo_4 : decode cX7_undo 4 = .ok (.iconst 1, 1) := by decide +kernel
theorem dX7_undo_5 : decode cX7_undo 5 = .ok (.if_icmp .ge 6, 3) := by decide +kernel
theorem dX7_undo_8 : decode cX7_undo 8 = .ok (.bipush (-2), 2) := by decide +kernel
theorem dX7_undo_10 : decode cX7_undo 10 = .ok (.ireturn, 1) := by decide +kernel
theorem dX7_undo_11 : decode cX7_undo 11 = .ok (.aload_n 0, 1) := by decide +kernel
theorem dX7_undo_12 : decode cX7_undo 12 = .ok (.getfield 36, 3) := by decide +kernel
theorem dX7_undo_15 : decode cX7_undo 15 = .ok (.astore_n 1, 1) := by decide +kernel
theorem dX7_undo_16 : decode cX7_undo 16 = .ok (.aload_n 0, 1) := by decide +kernel
theorem dX7_undo_17 : decode cX7_undo 17 = .ok (.aload_n 0, 1) := by decide +kernel
theorem dX7_undo_18 : decode cX7_undo 18 = .ok (.getfield 40, 3) := by decide +kernel
theorem dX7_undo_21 : decode cX7_undo 21 = .ok (.putfield 36, 3) := by decide +kernel
theorem dX7_undo_24 : decode cX7_undo 24 = .ok (.aload_n 0, 1) := by decide +kernel
theorem dX7_undo_25 : decode cX7_undo 25 = .ok (.aload_n 0, 1) := by decide +kernel
theorem dX7_undo_26 : decode cX7_undo 26 = .ok (.getfield 43, 3) := by decide +kernel
theorem dX7_undo_29 : decode cX7_undo 29 = .ok (.putfield 40, 3) := by decide +kernel
theorem dX7_undo_32 : decode cX7_undo 32 = .ok (.aload_n 0, 1) := by decide +kernel
theorem dX7_undo_33 : decode cX7_undo 33 = .ok (.aload_n 0, 1) := by decide +kernel
theorem dX7_undo_34 : decode cX7_undo 34 = .ok (.getfield 46, 3) := by decide +kernel
theorem dX7_undo_37 : decode cX7_undo 37 = .ok (.putfield 43, 3) := by decide +kernel
theorem dX7_undo_40 : decode cX7_undo 40 = .ok (.aload_n 0, 1) := by decide +kernel
theorem dX7_undo_41 : decode cX7_undo 41 = .ok (.aload_n 0, 1) := by decide +kernel
theorem dX7_undo_42 : decode cX7_undo 42 = .ok (.getfield 49, 3) := by decide +kernel
theorem dX7_undo_45 : decode cX7_undo 45 = .ok (.putfield 46, 3) := by decide +kernel
theorem dX7_undo_48 : decode cX7_undo 48 = .ok (.aload_n 0, 1) := by decide +kernel
theorem dX7_undo_49 : decode cX7_undo 49 = .ok (.aload_n 1, 1) := by decide +kernel
theorem dX7_undo_50 : decode cX7_undo 50 = .ok (.putfield 49, 3) := by decide +kernel
theorem dX7_undo_53 : decode cX7_undo 53 = .ok (.aload_n 0, 1) := by decide +kernel
theorem dX7_undo_54 : decode cX7_undo 54 = .ok (.dup, 1) := by decide +kernel
theorem dX7_undo_55 : decode cX7_undo 55 = .ok (.getfield 79, 3) := by decide +kernel
theorem dX7_undo_58 : decode cX7_undo 58 = .ok (.iconst 1, 1) := by decide +kernel
theorem dX7_undo_59 : decode cX7_undo 59 = .ok (.isub, 1) := by decide +kernel
theorem dX7_undo_60 : decode cX7_undo 60 = .ok (.putfield 79, 3) := by decide +kernel
theorem dX7_undo_63 : decode cX7_undo 63 = .ok (.aload_n 0, 1) := by decide +kernel
theorem dX7_undo_64 : decode cX7_undo 64 = .ok (.getfield 79, 3) := by decide +kernel
theorem dX7_undo_67 : decode cX7_undo 67 = .ok (.ireturn, 1) := by decide +kernel
set_option maxRecDepth 20000 in
theorem ggX7_crane_X7_isCrane : GoodIn wsX7_crane wsX7_isCrane := goodIn_r _ [17] (by decide +kernel) (by decide +kernel)
set_option maxRecDepth 20000 in
theorem gX7_crane_X7_isCrane : GoodIn wsX7_crane (va_wsS RX7 85 yX7_isCrane wsX7_isCrane) := goodIn_app (goodIn_of _ (by decide +kernel)) ggX7_crane_X7_isCrane
set_option maxRecDepth 20000 in
theorem ggX7_crane_X2_side : GoodIn wsX7_crane wsX2_side := goodIn_r _ [22, 23, 24, 95, 96, 97] (by decide +kernel) (by decide +kernel)
set_option maxRecDepth 20000 in
theorem gX7_crane_X2_side : GoodIn wsX7_crane (wsV RX7 113 RX2 yX2_side wsX2_side) := goodIn_app (goodIn_of _ (by decide +kernel)) ggX7_crane_X2_side
set_option maxRecDepth 20000 in
theorem ggX7_crane_X0_limit : GoodIn wsX7_crane wsX0_limit := goodIn_r _ [29, 30, 31, 32, 33, 34, 35, 88, 89, 90, 91, 92, 93, 94, 75, 76, 77, 78, 79, 80, 81, 82, 83, 84, 85, 86, 87] (by decide +kernel) (by decide +kernel)
set_option maxRecDepth 20000 in
theorem gX7_crane_X0_limit : GoodIn wsX7_crane (wsV RX7 157 RX0 yX0_limit wsX0_limit) := goodIn_app (goodIn_of _ (by decide +kernel)) ggX7_crane_X0_limit
set_option maxRecDepth 20000 in
theorem ggX7_crane_X0_stepsToCome : GoodIn wsX7_crane wsX0_stepsToCome := goodIn_r _ [39, 40, 41, 75, 76, 77, 78, 79, 80, 81, 82, 83, 84, 85, 86, 87] (by decide +kernel) (by decide +kernel)
set_option maxRecDepth 20000 in
theorem gX7_crane_X0_stepsToCome : GoodIn wsX7_crane (wsV RX7 160 RX0 yX0_stepsToCome wsX0_stepsToCome) := goodIn_app (goodIn_of _ (by decide +kernel)) ggX7_crane_X0_stepsToCome
set_option maxRecDepth 20000 in
theorem ggX7_crane_X7_wayToStop : GoodIn wsX7_crane wsX7_wayToStop := goodIn_r _ [44, 45, 46, 34, 47] (by decide +kernel) (by decide +kernel)
set_option maxRecDepth 20000 in
theorem gX7_crane_X7_wayToStop : GoodIn wsX7_crane (va_wsS RX7 167 yX7_wayToStop wsX7_wayToStop) := goodIn_app (goodIn_of _ (by decide +kernel)) ggX7_crane_X7_wayToStop
set_option maxRecDepth 20000 in
theorem ggX7_crane_X7_halfSwing : GoodIn wsX7_crane wsX7_halfSwing := goodIn_r _ [50] (by decide +kernel) (by decide +kernel)
set_option maxRecDepth 20000 in
theorem gX7_crane_X7_halfSwing : GoodIn wsX7_crane (va_wsS RX7 170 yX7_halfSwing wsX7_halfSwing) := goodIn_app (goodIn_of _ (by decide +kernel)) ggX7_crane_X7_halfSwing
set_option maxRecDepth 20000 in
theorem ggX7_crane_X0_isQuiet : GoodIn wsX7_crane wsX0_isQuiet := goodIn_r _ [54, 55, 56, 57, 58, 46, 34, 47, 59, 60, 37, 38, 28, 39, 40, 41, 75, 76, 77, 78, 79, 80, 81, 82, 83, 84, 85, 86, 87] (by decide +kernel) (by decide +kernel)
set_option maxRecDepth 20000 in
theorem gX7_crane_X0_isQuiet : GoodIn wsX7_crane (wsV RX7 174 RX0 yX0_isQuiet wsX0_isQuiet) := goodIn_app (goodIn_of _ (by decide +kernel)) ggX7_crane_X0_isQuiet
theorem dX7_crane_0 : decode cX7_crane 0 = .ok (.iload_n 1, 1) := by decide +kernel
theorem dX7_crane_1 : decode cX7_crane 1 = .ok (.invokestatic 85, 3) := by decide +kernel
theorem dX7_crane_4 : decode cX7_crane 4 = .ok (.ifCond .ne 5, 3) := by decide +kernel
theorem dX7_crane_7 : decode cX7_crane 7 = .ok (.iconst (-1), 1) := by decide +kernel
theorem dX7_crane_8 : decode cX7_crane 8 = .ok (.ireturn, 1) := by decide +kernel
theorem dX7_crane_9 : decode cX7_crane 9 = .ok (.aload_n 0, 1) := by decide +kernel
theorem dX7_crane_10 : decode cX7_crane 10 = .ok (.getfield 36, 3) := by decide +kernel
theorem dX7_crane_13 : decode cX7_crane 13 = .ok (.getfield 95, 3) := by decide +kernel
theorem dX7_crane_16 : decode cX7_crane 16 = .ok (.iload_n 1, 1) := by decide +kernel
theorem dX7_crane_17 : decode cX7_crane 17 = .ok (.invokevirtual 113, 3) := by decide +kernel
theorem dX7_crane_20 : decode cX7_crane 20 = .ok (.astore_n 3, 1) := by decide +kernel
theorem dX7_crane_21 : decode cX7_crane 21 = .ok (.iload_n 2, 1) := by decide +kernel
theorem dX7_crane_22 : decode cX7_crane 22 = .ok (.tableswitch 168 0 12 #[66, 71, 79, 84, 89, 97, 105, 113, 118, 127, 132, 147, 155], 66) := by decide +kernel
theorem dX7_crane_88 : decode cX7_crane 88 = .ok (.aload_n 3, 1) := by decide +kernel
theorem dX7_crane_89 : decode cX7_crane 89 = .ok (.getfield 138, 3) := by decide +kernel
theorem dX7_crane_92 : decode cX7_crane 92 = .ok (.ireturn, 1) := by decide +kernel
theorem dX7_crane_93 : decode cX7_crane 93 = .ok (.aload_n 3, 1) := by decide +kernel
theorem dX7_crane_94 : decode cX7_crane 94 = .ok (.getfield 141, 3) := by decide +kernel
theorem dX7_crane_97 : decode cX7_crane 97 = .ok (.ldc 144, 2) := by decide +kernel
theorem dX7_crane_99 : decode cX7_crane 99 = .ok (.iadd, 1) := by decide +kernel
theorem dX7_crane_100 : decode cX7_crane 100 = .ok (.ireturn, 1) := by decide +kernel
theorem dX7_crane_101 : decode cX7_crane 101 = .ok (.aload_n 3, 1) := by decide +kernel
theorem dX7_crane_102 : decode cX7_crane 102 = .ok (.getfield 145, 3) := by decide +kernel
theorem dX7_crane_105 : decode cX7_crane 105 = .ok (.ireturn, 1) := by decide +kernel
theorem dX7_crane_106 : decode cX7_crane 106 = .ok (.aload_n 3, 1) := by decide +kernel
theorem dX7_crane_107 : decode cX7_crane 107 = .ok (.getfield 126, 3) := by decide +kernel
theorem dX7_crane_110 : decode cX7_crane 110 = .ok (.ireturn, 1) := by decide +kernel
theorem dX7_crane_111 : decode cX7_crane 111 = .ok (.aload_n 3, 1) := by decide +kernel
theorem dX7_crane_112 : decode cX7_crane 112 = .ok (.getfield 148, 3) := by decide +kernel
theorem dX7_crane_115 : decode cX7_crane 115 = .ok (.ldc 144, 2) := by decide +kernel
theorem dX7_crane_117 : decode cX7_crane 117 = .ok (.iadd, 1) := by decide +kernel
theorem dX7_crane_118 : decode cX7_crane 118 = .ok (.ireturn, 1) := by decide +kernel
theorem dX7_crane_119 : decode cX7_crane 119 = .ok (.aload_n 3, 1) := by decide +kernel
theorem dX7_crane_120 : decode cX7_crane 120 = .ok (.getfield 151, 3) := by decide +kernel
theorem dX7_crane_123 : decode cX7_crane 123 = .ok (.ldc 144, 2) := by decide +kernel
theorem dX7_crane_125 : decode cX7_crane 125 = .ok (.iadd, 1) := by decide +kernel
theorem dX7_crane_126 : decode cX7_crane 126 = .ok (.ireturn, 1) := by decide +kernel
theorem dX7_crane_127 : decode cX7_crane 127 = .ok (.aload_n 3, 1) := by decide +kernel
theorem dX7_crane_128 : decode cX7_crane 128 = .ok (.getfield 154, 3) := by decide +kernel
theorem dX7_crane_131 : decode cX7_crane 131 = .ok (.ldc 144, 2) := by decide +kernel
theorem dX7_crane_133 : decode cX7_crane 133 = .ok (.iadd, 1) := by decide +kernel
theorem dX7_crane_134 : decode cX7_crane 134 = .ok (.ireturn, 1) := by decide +kernel
theorem dX7_crane_135 : decode cX7_crane 135 = .ok (.aload_n 3, 1) := by decide +kernel
theorem dX7_crane_136 : decode cX7_crane 136 = .ok (.getfield 117, 3) := by decide +kernel
theorem dX7_crane_139 : decode cX7_crane 139 = .ok (.ireturn, 1) := by decide +kernel
theorem dX7_crane_140 : decode cX7_crane 140 = .ok (.aload_n 3, 1) := by decide +kernel
theorem dX7_crane_141 : decode cX7_crane 141 = .ok (.aload_n 0, 1) := by decide +kernel
theorem dX7_crane_142 : decode cX7_crane 142 = .ok (.getfield 26, 3) := by decide +kernel
theorem dX7_crane_145 : decode cX7_crane 145 = .ok (.invokevirtual 157, 3) := by decide +kernel
theorem dX7_crane_148 : decode cX7_crane 148 = .ok (.ireturn, 1) := by decide +kernel
theorem dX7_crane_149 : decode cX7_crane 149 = .ok (.aload_n 3, 1) := by decide +kernel
theorem dX7_crane_150 : decode cX7_crane 150 = .ok (.invokevirtual 160, 3) := by decide +kernel
theorem dX7_crane_153 : decode cX7_crane 153 = .ok (.ireturn, 1) := by decide +kernel
theorem dX7_crane_154 : decode cX7_crane 154 = .ok (.aload_n 3, 1) := by decide +kernel
theorem dX7_crane_155 : decode cX7_crane 155 = .ok (.getfield 141, 3) := by decide +kernel
theorem dX7_crane_158 : decode cX7_crane 158 = .ok (.aload_n 0, 1) := by decide +kernel
theorem dX7_crane_159 : decode cX7_crane 159 = .ok (.getfield 26, 3) := by decide +kernel
theorem dX7_crane_162 : decode cX7_crane 162 = .ok (.getfield 164, 3) := by decide +kernel
theorem dX7_crane_165 : decode cX7_crane 165 = .ok (.invokestatic 167, 3) := by decide +kernel
theorem dX7_crane_168 : decode cX7_crane 168 = .ok (.ireturn, 1) := by decide +kernel
theorem dX7_crane_169 : decode cX7_crane 169 = .ok (.aload_n 3, 1) := by decide +kernel
theorem dX7_crane_170 : decode cX7_crane 170 = .ok (.getfield 145, 3) := by decide +kernel
theorem dX7_crane_173 : decode cX7_crane 173 = .ok (.invokestatic 170, 3) := by decide +kernel
theorem dX7_crane_176 : decode cX7_crane 176 = .ok (.ireturn, 1) := by decide +kernel
theorem dX7_crane_177 : decode cX7_crane 177 = .ok (.aload_n 3, 1) := by decide +kernel
theorem dX7_crane_178 : decode cX7_crane 178 = .ok (.invokevirtual 174, 3) := by decide +kernel
theorem dX7_crane_181 : decode cX7_crane 181 = .ok (.ifCond .eq 7, 3) := by decide +kernel
theorem dX7_crane_184 : decode cX7_crane 184 = .ok (.iconst 1, 1) := by decide +kernel
theorem dX7_crane_185 : decode cX7_crane 185 = .ok (.goto 4, 3) := by decide +kernel
theorem dX7_crane_188 : decode cX7_crane 188 = .ok (.iconst 0, 1) := by decide +kernel
theorem dX7_crane_189 : decode cX7_crane 189 = .ok (.ireturn, 1) := by decide +kernel
theorem dX7_crane_190 : decode cX7_crane 190 = .ok (.iconst (-1), 1) := by decide +kernel
theorem dX7_crane_191 : decode cX7_crane 191 = .ok (.ireturn, 1) := by decide +kernel
set_option maxRecDepth 20000 in
theorem ggX7_stepOf_X7_isCrane : GoodIn wsX7_stepOf wsX7_isCrane := goodIn_r _ [7] (by decide +kernel) (by decide +kernel)
set_option maxRecDepth 20000 in
theorem gX7_stepOf_X7_isCrane : GoodIn wsX7_stepOf (va_wsS RX7 85 yX7_isCrane wsX7_isCrane) := goodIn_app (goodIn_of _ (by decide +kernel)) ggX7_stepOf_X7_isCrane
set_option maxRecDepth 20000 in
theorem ggX7_stepOf_X7_isWithin : GoodIn wsX7_stepOf wsX7_isWithin := goodIn_r _ [10] (by decide +kernel) (by decide +kernel)
set_option maxRecDepth 20000 in
theorem gX7_stepOf_X7_isWithin : GoodIn wsX7_stepOf (va_wsS RX7 56 yX7_isWithin wsX7_isWithin) := goodIn_app (goodIn_of _ (by decide +kernel)) ggX7_stepOf_X7_isWithin
set_option maxRecDepth 20000 in
theorem ggX7_stepOf_X2_side : GoodIn wsX7_stepOf wsX2_side := goodIn_r _ [15, 16, 17, 53, 54, 55] (by decide +kernel) (by decide +kernel)
set_option maxRecDepth 20000 in
theorem gX7_stepOf_X2_side : GoodIn wsX7_stepOf (wsV RX7 113 RX2 yX2_side wsX2_side) := goodIn_app (goodIn_of _ (by decide +kernel)) ggX7_stepOf_X2_side
set_option maxRecDepth 20000 in
theorem ggX7_stepOf_X0_stepsToCome : GoodIn wsX7_stepOf wsX0_stepsToCome := goodIn_r _ [22, 23, 24, 56, 57, 58, 59, 60, 61, 62, 63, 64, 65, 66, 67, 68] (by decide +kernel) (by decide +kernel)
set_option maxRecDepth 20000 in
theorem gX7_stepOf_X0_stepsToCome : GoodIn wsX7_stepOf (wsV RX7 160 RX0 yX0_stepsToCome wsX0_stepsToCome) := goodIn_app (goodIn_of _ (by decide +kernel)) ggX7_stepOf_X0_stepsToCome
set_option maxRecDepth 20000 in
theorem ggX7_stepOf_X0_stepIn : GoodIn wsX7_stepOf wsX0_stepIn := goodIn_r _ [28, 29, 30, 31, 32, 33, 21, 34, 23, 56, 57, 58, 59, 60, 61, 62, 63, 64, 65, 66, 67, 68] (by decide +kernel) (by decide +kernel)
set_option maxRecDepth 20000 in
theorem gX7_stepOf_X0_stepIn : GoodIn wsX7_stepOf (wsV RX7 177 RX0 yX0_stepIn wsX0_stepIn) := goodIn_app (goodIn_of _ (by decide +kernel)) ggX7_stepOf_X0_stepIn
set_option maxRecDepth 20000 in
theorem ggX7_stepOf_X0_stepBy : GoodIn wsX7_stepOf wsX0_stepBy := goodIn_r _ [38, 23, 24, 31, 32, 33, 21, 34, 56, 57, 58, 59, 60, 61, 62, 63, 64, 65, 66, 67, 68] (by decide +kernel) (by decide +kernel)
set_option maxRecDepth 20000 in
theorem gX7_stepOf_X0_stepBy : GoodIn wsX7_stepOf (wsV RX7 180 RX0 yX0_stepBy wsX0_stepBy) := goodIn_app (goodIn_of _ (by decide +kernel)) ggX7_stepOf_X0_stepBy
theorem dX7_stepOf_0 : decode cX7_stepOf 0 = .ok (.iload_n 1, 1) := by decide +kernel
theorem dX7_stepOf_1 : decode cX7_stepOf 1 = .ok (.invokestatic 85, 3) := by decide +kernel
theorem dX7_stepOf_4 : decode cX7_stepOf 4 = .ok (.ifCond .eq 16, 3) := by decide +kernel
theorem dX7_stepOf_7 : decode cX7_stepOf 7 = .ok (.iload_n 2, 1) := by decide +kernel
theorem dX7_stepOf_8 : decode cX7_stepOf 8 = .ok (.ifCond .lt 12, 3) := by decide +kernel
theorem dX7_stepOf_11 : decode cX7_stepOf 11 = .ok (.iload_n 3, 1) := by decide +kernel
theorem dX7_stepOf_12 : decode cX7_stepOf 12 = .ok (.iconst 0, 1) := by decide +kernel
theorem dX7_stepOf_13 : decode cX7_stepOf 13 = .ok (.iconst 1, 1) := by decide +kernel
theorem dX7_stepOf_14 : decode cX7_stepOf 14 = .ok (.invokestatic 56, 3) := by decide +kernel
theorem dX7_stepOf_17 : decode cX7_stepOf 17 = .ok (.ifCond .ne 5, 3) := by decide +kernel
theorem dX7_stepOf_20 : decode cX7_stepOf 20 = .ok (.iconst (-1), 1) := by decide +kernel
theorem dX7_stepOf_21 : decode cX7_stepOf 21 = .ok (.ireturn, 1) := by decide +kernel
theorem dX7_stepOf_22 : decode cX7_stepOf 22 = .ok (.aload_n 0, 1) := by decide +kernel
theorem dX7_stepOf_23 : decode cX7_stepOf 23 = .ok (.getfield 36, 3) := by decide +kernel
theorem dX7_stepOf_26 : decode cX7_stepOf 26 = .ok (.getfield 95, 3) := by decide +kernel
theorem dX7_stepOf_29 : decode cX7_stepOf 29 = .ok (.iload_n 1, 1) := by decide +kernel
theorem dX7_stepOf_30 : decode cX7_stepOf 30 = .ok (.invokevirtual 113, 3) := by decide +kernel
theorem dX7_stepOf_33 : decode cX7_stepOf 33 = .ok (.astore 4, 2) := by decide +kernel
theorem dX7_stepOf_35 : decode cX7_stepOf 35 = .ok (.iload_n 2, 1) := by decide +kernel
theorem dX7_stepOf_36 : decode cX7_stepOf 36 = .ok (.aload 4, 2) := by decide +kernel
theorem dX7_stepOf_38 : decode cX7_stepOf 38 = .ok (.invokevirtual 160, 3) := by decide +kernel
theorem dX7_stepOf_41 : decode cX7_stepOf 41 = .ok (.if_icmp .lt 6, 3) := by decide +kernel
theorem dX7_stepOf_44 : decode cX7_stepOf 44 = .ok (.bipush (-4), 2) := by decide +kernel
theorem dX7_stepOf_46 : decode cX7_stepOf 46 = .ok (.ireturn, 1) := by decide +kernel
theorem dX7_stepOf_47 : decode cX7_stepOf 47 = .ok (.iload_n 3, 1) := by decide +kernel
theorem dX7_stepOf_48 : decode cX7_stepOf 48 = .ok (.ifCond .ne 12, 3) := by decide +kernel
theorem dX7_stepOf_51 : decode cX7_stepOf 51 = .ok (.aload 4, 2) := by decide +kernel
theorem dX7_stepOf_53 : decode cX7_stepOf 53 = .ok (.iload_n 2, 1) := by decide +kernel
theorem dX7_stepOf_54 : decode cX7_stepOf 54 = .ok (.invokevirtual 177, 3) := by decide +kernel
theorem dX7_stepOf_57 : decode cX7_stepOf 57 = .ok (.goto 12, 3) := by decide +kernel
theorem dX7_stepOf_60 : decode cX7_stepOf 60 = .ok (.aload 4, 2) := by decide +kernel
theorem dX7_stepOf_62 : decode cX7_stepOf 62 = .ok (.iload_n 2, 1) := by decide +kernel
theorem dX7_stepOf_63 : decode cX7_stepOf 63 = .ok (.invokevirtual 180, 3) := by decide +kernel
theorem dX7_stepOf_66 : decode cX7_stepOf 66 = .ok (.ldc 144, 2) := by decide +kernel
theorem dX7_stepOf_68 : decode cX7_stepOf 68 = .ok (.iadd, 1) := by decide +kernel
theorem dX7_stepOf_69 : decode cX7_stepOf 69 = .ok (.ireturn, 1) := by decide +kernel
set_option maxRecDepth 20000 in
theorem ggX7_stop_X7_isSpeed : GoodIn wsX7_stop wsX7_isSpeed := goodIn_r _ [6, 7, 8, 5, 9] (by decide +kernel) (by decide +kernel)
set_option maxRecDepth 20000 in
theorem gX7_stop_X7_isSpeed : GoodIn wsX7_stop (va_wsS RX7 89 yX7_isSpeed wsX7_isSpeed) := goodIn_app (goodIn_of _ (by decide +kernel)) ggX7_stop_X7_isSpeed
set_option maxRecDepth 20000 in
theorem ggX7_stop_X7_wayToStop : GoodIn wsX7_stop wsX7_wayToStop := goodIn_r _ [12, 13, 14, 15, 16] (by decide +kernel) (by decide +kernel)
set_option maxRecDepth 20000 in
theorem gX7_stop_X7_wayToStop : GoodIn wsX7_stop (va_wsS RX7 167 yX7_wayToStop wsX7_wayToStop) := goodIn_app (goodIn_of _ (by decide +kernel)) ggX7_stop_X7_wayToStop
theorem dX7_stop_0 : decode cX7_stop 0 = .ok (.iload_n 1, 1) := by decide +kernel
theorem dX7_stop_1 : decode cX7_stop 1 = .ok (.invokestatic 89, 3) := by decide +kernel
theorem dX7_stop_4 : decode cX7_stop 4 = .ok (.ifCond .eq 17, 3) := by decide +kernel
theorem dX7_stop_7 : decode cX7_stop 7 = .ok (.iload_n 1, 1) := by decide +kernel
theorem dX7_stop_8 : decode cX7_stop 8 = .ok (.aload_n 0, 1) := by decide +kernel
theorem dX7_stop_9 : decode cX7_stop 9 = .ok (.getfield 26, 3) := by decide +kernel
theorem dX7_stop_12 : decode cX7_stop 12 = .ok (.getfield 164, 3) := by decide +kernel
theorem dX7_stop_15 : decode cX7_stop 15 = .ok (.invokestatic 167, 3) := by decide +kernel
theorem dX7_stop_18 : decode cX7_stop 18 = .ok (.goto 4, 3) := by decide +kernel
theorem dX7_stop_21 : decode cX7_stop 21 = .ok (.iconst (-1), 1) := by decide +kernel
theorem dX7_stop_22 : decode cX7_stop 22 = .ok (.ireturn, 1) := by decide +kernel
set_option maxRecDepth 20000 in
theorem ggX7_half_X7_isRope : GoodIn wsX7_half wsX7_isRope := goodIn_r _ [4, 5, 6, 3, 7] (by decide +kernel) (by decide +kernel)
set_option maxRecDepth 20000 in
theorem gX7_half_X7_isRope : GoodIn wsX7_half (va_wsS RX7 106 yX7_isRope wsX7_isRope) := goodIn_app (goodIn_of _ (by decide +kernel)) ggX7_half_X7_isRope
set_option maxRecDepth 20000 in
theorem ggX7_half_X7_halfSwing : GoodIn wsX7_half wsX7_halfSwing := goodIn_r _ [10] (by decide +kernel) (by decide +kernel)
set_option maxRecDepth 20000 in
theorem gX7_half_X7_halfSwing : GoodIn wsX7_half (va_wsS RX7 170 yX7_halfSwing wsX7_halfSwing) := goodIn_app (goodIn_of _ (by decide +kernel)) ggX7_half_X7_halfSwing
theorem dX7_half_0 : decode cX7_half 0 = .ok (.iload_n 1, 1) := by decide +kernel
theorem dX7_half_1 : decode cX7_half 1 = .ok (.invokestatic 106, 3) := by decide +kernel
theorem dX7_half_4 : decode cX7_half 4 = .ok (.ifCond .eq 10, 3) := by decide +kernel
theorem dX7_half_7 : decode cX7_half 7 = .ok (.iload_n 1, 1) := by decide +kernel
theorem dX7_half_8 : decode cX7_half 8 = .ok (.invokestatic 170, 3) := by decide +kernel
theorem dX7_half_11 : decode cX7_half 11 = .ok (.goto 4, 3) := by decide +kernel
theorem dX7_half_14 : decode cX7_half 14 = .ok (.iconst (-1), 1) := by decide +kernel
theorem dX7_half_15 : decode cX7_half 15 = .ok (.ireturn, 1) := by decide +kernel
set_option maxRecDepth 20000 in
theorem ggX7_spot_X7_isCrane : GoodIn wsX7_spot wsX7_isCrane := goodIn_r _ [6] (by decide +kernel) (by decide +kernel)
set_option maxRecDepth 20000 in
theorem gX7_spot_X7_isCrane : GoodIn wsX7_spot (va_wsS RX7 85 yX7_isCrane wsX7_isCrane) := goodIn_app (goodIn_of _ (by decide +kernel)) ggX7_spot_X7_isCrane
set_option maxRecDepth 20000 in
theorem ggX7_spot_X7_isWithin : GoodIn wsX7_spot wsX7_isWithin := goodIn_r _ [9] (by decide +kernel) (by decide +kernel)
set_option maxRecDepth 20000 in
theorem gX7_spot_X7_isWithin : GoodIn wsX7_spot (va_wsS RX7 56 yX7_isWithin wsX7_isWithin) := goodIn_app (goodIn_of _ (by decide +kernel)) ggX7_spot_X7_isWithin
set_option maxRecDepth 20000 in
theorem ggX7_spot_X5_spotsOf : GoodIn wsX7_spot wsX5_spotsOf := goodIn_r _ [14, 15, 16, 50, 51, 52, 53] (by decide +kernel) (by decide +kernel)
set_option maxRecDepth 20000 in
theorem gX7_spot_X5_spotsOf : GoodIn wsX7_spot (wsV RX7 183 RX5 yX5_spotsOf wsX5_spotsOf) := goodIn_app (goodIn_of _ (by decide +kernel)) ggX7_spot_X5_spotsOf
set_option maxRecDepth 20000 in
theorem ggX7_spot_X3_blockAt : GoodIn wsX7_spot wsX3_blockAt := goodIn_r _ [21, 22, 23, 24, 20, 25, 26, 47, 48, 49] (by decide +kernel) (by decide +kernel)
set_option maxRecDepth 20000 in
theorem gX7_spot_X3_blockAt : GoodIn wsX7_spot (wsV RX7 192 RX3 yX3_blockAt wsX3_blockAt) := goodIn_app (goodIn_of _ (by decide +kernel)) ggX7_spot_X3_blockAt
set_option maxRecDepth 20000 in
theorem ggX7_spot_X3_floorAt : GoodIn wsX7_spot wsX3_floorAt := goodIn_r _ [30, 22, 23, 24, 20, 25, 26, 47, 48, 49] (by decide +kernel) (by decide +kernel)
set_option maxRecDepth 20000 in
theorem gX7_spot_X3_floorAt : GoodIn wsX7_spot (wsV RX7 195 RX3 yX3_floorAt wsX3_floorAt) := goodIn_app (goodIn_of _ (by decide +kernel)) ggX7_spot_X3_floorAt
set_option maxRecDepth 20000 in
theorem ggX7_spot_X3_ticksAt : GoodIn wsX7_spot wsX3_ticksAt := goodIn_r _ [34, 35, 36, 47, 48, 49] (by decide +kernel) (by decide +kernel)
set_option maxRecDepth 20000 in
theorem gX7_spot_X3_ticksAt : GoodIn wsX7_spot (wsV RX7 198 RX3 yX3_ticksAt wsX3_ticksAt) := goodIn_app (goodIn_of _ (by decide +kernel)) ggX7_spot_X3_ticksAt
theorem dX7_spot_0 : decode cX7_spot 0 = .ok (.iload_n 1, 1) := by decide +kernel
theorem dX7_spot_1 : decode cX7_spot 1 = .ok (.invokestatic 85, 3) := by decide +kernel
theorem dX7_spot_4 : decode cX7_spot 4 = .ok (.ifCond .eq 17, 3) := by decide +kernel
theorem dX7_spot_7 : decode cX7_spot 7 = .ok (.iload_n 2, 1) := by decide +kernel
theorem dX7_spot_8 : decode cX7_spot 8 = .ok (.iconst (-1), 1) := by decide +kernel
theorem dX7_spot_9 : decode cX7_spot 9 = .ok (.if_icmp .lt 12, 3) := by decide +kernel
theorem dX7_spot_12 : decode cX7_spot 12 = .ok (.iload_n 3, 1) := by decide +kernel
theorem dX7_spot_13 : decode cX7_spot 13 = .ok (.iconst 0, 1) := by decide +kernel
theorem dX7_spot_14 : decode cX7_spot 14 = .ok (.iconst 2, 1) := by decide +kernel
theorem dX7_spot_15 : decode cX7_spot 15 = .ok (.invokestatic 56, 3) := by decide +kernel
theorem dX7_spot_18 : decode cX7_spot 18 = .ok (.ifCond .ne 5, 3) := by decide +kernel
theorem dX7_spot_21 : decode cX7_spot 21 = .ok (.iconst (-1), 1) := by decide +kernel
theorem dX7_spot_22 : decode cX7_spot 22 = .ok (.ireturn, 1) := by decide +kernel
theorem dX7_spot_23 : decode cX7_spot 23 = .ok (.aload_n 0, 1) := by decide +kernel
theorem dX7_spot_24 : decode cX7_spot 24 = .ok (.getfield 36, 3) := by decide +kernel
theorem dX7_spot_27 : decode cX7_spot 27 = .ok (.iload_n 1, 1) := by decide +kernel
theorem dX7_spot_28 : decode cX7_spot 28 = .ok (.invokevirtual 183, 3) := by decide +kernel
theorem dX7_spot_31 : decode cX7_spot 31 = .ok (.astore 4, 2) := by decide +kernel
theorem dX7_spot_33 : decode cX7_spot 33 = .ok (.iload_n 2, 1) := by decide +kernel
theorem dX7_spot_34 : decode cX7_spot 34 = .ok (.iconst (-1), 1) := by decide +kernel
theorem dX7_spot_35 : decode cX7_spot 35 = .ok (.if_icmp .ne 9, 3) := by decide +kernel
theorem dX7_spot_38 : decode cX7_spot 38 = .ok (.aload 4, 2) := by decide +kernel
theorem dX7_spot_40 : decode cX7_spot 40 = .ok (.getfield 187, 3) := by decide +kernel
theorem dX7_spot_43 : decode cX7_spot 43 = .ok (.ireturn, 1) := by decide +kernel
theorem dX7_spot_44 : decode cX7_spot 44 = .ok (.iload_n 2, 1) := by decide +kernel
theorem dX7_spot_45 : decode cX7_spot 45 = .ok (.aload 4, 2) := by decide +kernel
theorem dX7_spot_47 : decode cX7_spot 47 = .ok (.getfield 187, 3) := by decide +kernel
theorem dX7_spot_50 : decode cX7_spot 50 = .ok (.if_icmp .lt 6, 3) := by decide +kernel
theorem dX7_spot_53 : decode cX7_spot 53 = .ok (.bipush (-4), 2) := by decide +kernel
theorem dX7_spot_55 : decode cX7_spot 55 = .ok (.ireturn, 1) := by decide +kernel
theorem dX7_spot_56 : decode cX7_spot 56 = .ok (.iload_n 3, 1) := by decide +kernel
theorem dX7_spot_57 : decode cX7_spot 57 = .ok (.lookupswitch 41 #[(0, 27), (1, 34)], 27) := by decide +kernel
theorem dX7_spot_84 : decode cX7_spot 84 = .ok (.aload 4, 2) := by decide +kernel
theorem dX7_spot_86 : decode cX7_spot 86 = .ok (.iload_n 2, 1) := by decide +kernel
theorem dX7_spot_87 : decode cX7_spot 87 = .ok (.invokevirtual 192, 3) := by decide +kernel
theorem dX7_spot_90 : decode cX7_spot 90 = .ok (.ireturn, 1) := by decide +kernel
theorem dX7_spot_91 : decode cX7_spot 91 = .ok (.aload 4, 2) := by decide +kernel
theorem dX7_spot_93 : decode cX7_spot 93 = .ok (.iload_n 2, 1) := by decide +kernel
theorem dX7_spot_94 : decode cX7_spot 94 = .ok (.invokevirtual 195, 3) := by decide +kernel
theorem dX7_spot_97 : decode cX7_spot 97 = .ok (.ireturn, 1) := by decide +kernel
theorem dX7_spot_98 : decode cX7_spot 98 = .ok (.aload 4, 2) := by decide +kernel
theorem dX7_spot_100 : decode cX7_spot 100 = .ok (.iload_n 2, 1) := by decide +kernel
theorem dX7_spot_101 : decode cX7_spot 101 = .ok (.invokevirtual 198, 3) := by decide +kernel
theorem dX7_spot_104 : decode cX7_spot 104 = .ok (.ireturn, 1) := by decide +kernel
set_option maxRecDepth 20000 in
theorem ggX7_been_X7_isCrane : GoodIn wsX7_been wsX7_isCrane := goodIn_r _ [5] (by decide +kernel) (by decide +kernel)
set_option maxRecDepth 20000 in
theorem gX7_been_X7_isCrane : GoodIn wsX7_been (va_wsS RX7 85 yX7_isCrane wsX7_isCrane) := goodIn_app (goodIn_of _ (by decide +kernel)) ggX7_been_X7_isCrane
set_option maxRecDepth 20000 in
theorem ggX7_been_X7_isWithin : GoodIn wsX7_been wsX7_isWithin := goodIn_r _ [8] (by decide +kernel) (by decide +kernel)
set_option maxRecDepth 20000 in
theorem gX7_been_X7_isWithin : GoodIn wsX7_been (va_wsS RX7 56 yX7_isWithin wsX7_isWithin) := goodIn_app (goodIn_of _ (by decide +kernel)) ggX7_been_X7_isWithin
set_option maxRecDepth 20000 in
theorem ggX7_been_X5_spotsOf : GoodIn wsX7_been wsX5_spotsOf := goodIn_r _ [13, 14, 15, 50, 51, 52, 53] (by decide +kernel) (by decide +kernel)
set_option maxRecDepth 20000 in
theorem gX7_been_X5_spotsOf : GoodIn wsX7_been (wsV RX7 183 RX5 yX5_spotsOf wsX5_spotsOf) := goodIn_app (goodIn_of _ (by decide +kernel)) ggX7_been_X5_spotsOf
set_option maxRecDepth 20000 in
theorem ggX7_been_X3_ticksIn : GoodIn wsX7_been wsX3_ticksIn := goodIn_r _ [20, 21, 22, 23, 19, 24, 25, 26, 27, 28, 29, 30, 31, 32, 33, 34, 35, 36, 37, 38, 39, 54, 55, 56] (by decide +kernel) (by decide +kernel)
set_option maxRecDepth 20000 in
theorem gX7_been_X3_ticksIn : GoodIn wsX7_been (wsV RX7 201 RX3 yX3_ticksIn wsX3_ticksIn) := goodIn_app (goodIn_of _ (by decide +kernel)) ggX7_been_X3_ticksIn
theorem dX7_been_0 : decode cX7_been 0 = .ok (.iload_n 1, 1) := by decide +kernel
theorem dX7_been_1 : decode cX7_been 1 = .ok (.invokestatic 85, 3) := by decide +kernel
theorem dX7_been_4 : decode cX7_been 4 = .ok (.ifCond .eq 23, 3) := by decide +kernel
theorem dX7_been_7 : decode cX7_been 7 = .ok (.iload_n 2, 1) := by decide +kernel
theorem dX7_been_8 : decode cX7_been 8 = .ok (.iconst 0, 1) := by decide +kernel
theorem dX7_been_9 : decode cX7_been 9 = .ok (.bipush 99, 2) := by decide +kernel
theorem dX7_been_11 : decode cX7_been 11 = .ok (.invokestatic 56, 3) := by decide +kernel
theorem dX7_been_14 : decode cX7_been 14 = .ok (.ifCond .eq 13, 3) := by decide +kernel
theorem dX7_been_17 : decode cX7_been 17 = .ok (.iload_n 3, 1) := by decide +kernel
theorem dX7_been_18 : decode cX7_been 18 = .ok (.iconst 0, 1) := by decide +kernel
theorem dX7_been_19 : decode cX7_been 19 = .ok (.bipush 99, 2) := by decide +kernel
theorem dX7_been_21 : decode cX7_been 21 = .ok (.invokestatic 56, 3) := by decide +kernel
theorem dX7_been_24 : decode cX7_been 24 = .ok (.ifCond .ne 5, 3) := by decide +kernel
theorem dX7_been_27 : decode cX7_been 27 = .ok (.iconst (-1), 1) := by decide +kernel
theorem dX7_been_28 : decode cX7_been 28 = .ok (.ireturn, 1) := by decide +kernel
theorem dX7_been_29 : decode cX7_been 29 = .ok (.aload_n 0, 1) := by decide +kernel
theorem dX7_been_30 : decode cX7_been 30 = .ok (.getfield 36, 3) := by decide +kernel
theorem dX7_been_33 : decode cX7_been 33 = .ok (.iload_n 1, 1) := by decide +kernel
theorem dX7_been_34 : decode cX7_been 34 = .ok (.invokevirtual 183, 3) := by decide +kernel
theorem dX7_been_37 : decode cX7_been 37 = .ok (.iload_n 2, 1) := by decide +kernel
theorem dX7_been_38 : decode cX7_been 38 = .ok (.iload_n 3, 1) := by decide +kernel
theorem dX7_been_39 : decode cX7_been 39 = .ok (.invokevirtual 201, 3) := by decide +kernel
theorem dX7_been_42 : decode cX7_been 42 = .ok (.ireturn, 1) := by decide +kernel
set_option maxRecDepth 20000 in
theorem ggX7_ahead_X7_isWithin : GoodIn wsX7_ahead wsX7_isWithin := goodIn_r _ [21] (by decide +kernel) (by decide +kernel)
set_option maxRecDepth 20000 in
theorem gX7_ahead_X7_isWithin : GoodIn wsX7_ahead (va_wsS RX7 56 yX7_isWithin wsX7_isWithin) := goodIn_app (goodIn_of _ (by decide +kernel)) ggX7_ahead_X7_isWithin
set_option maxRecDepth 20000 in
theorem ggX7_ahead_X7_isCrane : GoodIn wsX7_ahead wsX7_isCrane := goodIn_r _ [24] (by decide +kernel) (by decide +kernel)
set_option maxRecDepth 20000 in
theorem gX7_ahead_X7_isCrane : GoodIn wsX7_ahead (va_wsS RX7 85 yX7_isCrane wsX7_isCrane) := goodIn_app (goodIn_of _ (by decide +kernel)) ggX7_ahead_X7_isCrane
set_option maxRecDepth 20000 in
theorem ggX7_ahead_X2_copyFrom : GoodIn wsX7_ahead wsX2_copyFrom := goodIn_r _ [29, 30, 31, 32, 33, 34, 35, 36, 37, 38, 39, 40, 41, 42, 43, 44, 45, 46, 47, 48, 49, 50, 135, 136, 137, 122, 123, 124, 125, 126, 127, 128, 129, 130, 131, 132, 133, 134] (by decide +kernel) (by decide +kernel)
set_option maxRecDepth 20000 in
theorem gX7_ahead_X2_copyFrom : GoodIn wsX7_ahead (wsV RX7 204 RX2 yX2_copyFrom wsX2_copyFrom) := goodIn_app (goodIn_of _ (by decide +kernel)) ggX7_ahead_X2_copyFrom
set_option maxRecDepth 20000 in
theorem ggX7_ahead_X2_side : GoodIn wsX7_ahead wsX2_side := goodIn_r _ [54, 30, 31, 135, 136, 137] (by decide +kernel) (by decide +kernel)
set_option maxRecDepth 20000 in
theorem gX7_ahead_X2_side : GoodIn wsX7_ahead (wsV RX7 113 RX2 yX2_side wsX2_side) := goodIn_app (goodIn_of _ (by decide +kernel)) ggX7_ahead_X2_side
set_option maxRecDepth 20000 in
theorem ggX7_ahead_X2_goOn : GoodIn wsX7_ahead wsX2_goOn := goodIn_r _ [58, 30, 59, 31, 60, 61, 62, 32, 63, 64, 65, 66, 28, 67, 68, 69, 70, 71, 36, 72, 73, 50, 39, 38, 74, 75, 76, 77, 46, 48, 47, 44, 49, 78, 79, 80, 81, 82, 83, 84, 85, 86, 41, 87, 11, 8, 12, 88, 20, 89, 90, 91, 92, 10, 93, 94, 6, 7, 9, 95, 96, 97, 98, 99, 100, 101, 102, 103, 40, 42, 43, 104, 105, 106, 107, 45, 135, 136, 137, 122, 123, 124, 125, 126, 127, 128, 129, 130, 131, 132, 133, 134, 138, 139, 140, 141, 142, 143, 144] (by decide +kernel) (by decide +kernel)
set_option maxRecDepth 20000 in
theorem gX7_ahead_X2_goOn : GoodIn wsX7_ahead (wsV RX7 208 RX2 yX2_goOn wsX2_goOn) := goodIn_app (goodIn_of _ (by decide +kernel)) ggX7_ahead_X2_goOn
theorem dX7_ahead_0 : decode cX7_ahead 0 = .ok (.iload_n 1, 1) := by decide +kernel
theorem dX7_ahead_1 : decode cX7_ahead 1 = .ok (.iconst 1, 1) := by decide +kernel
theorem dX7_ahead_2 : decode cX7_ahead 2 = .ok (.bipush 60, 2) := by decide +kernel
theorem dX7_ahead_4 : decode cX7_ahead 4 = .ok (.invokestatic 56, 3) := by decide +kernel
theorem dX7_ahead_7 : decode cX7_ahead 7 = .ok (.ifCond .eq 19, 3) := by decide +kernel
theorem dX7_ahead_10 : decode cX7_ahead 10 = .ok (.iload_n 2, 1) := by decide +kernel
theorem dX7_ahead_11 : decode cX7_ahead 11 = .ok (.invokestatic 85, 3) := by decide +kernel
theorem dX7_ahead_14 : decode cX7_ahead 14 = .ok (.ifCond .eq 12, 3) := by decide +kernel
theorem dX7_ahead_17 : decode cX7_ahead 17 = .ok (.iload_n 3, 1) := by decide +kernel
theorem dX7_ahead_18 : decode cX7_ahead 18 = .ok (.iconst 0, 1) := by decide +kernel
theorem dX7_ahead_19 : decode cX7_ahead 19 = .ok (.iconst 5, 1) := by decide +kernel
theorem dX7_ahead_20 : decode cX7_ahead 20 = .ok (.invokestatic 56, 3) := by decide +kernel
theorem dX7_ahead_23 : decode cX7_ahead 23 = .ok (.ifCond .ne 5, 3) := by decide +kernel
theorem dX7_ahead_26 : decode cX7_ahead 26 = .ok (.iconst (-1), 1) := by decide +kernel
theorem dX7_ahead_27 : decode cX7_ahead 27 = .ok (.ireturn, 1) := by decide +kernel
theorem dX7_ahead_28 : decode cX7_ahead 28 = .ok (.aload_n 0, 1) := by decide +kernel
theorem dX7_ahead_29 : decode cX7_ahead 29 = .ok (.getfield 19, 3) := by decide +kernel
theorem dX7_ahead_32 : decode cX7_ahead 32 = .ok (.aload_n 0, 1) := by decide +kernel
theorem dX7_ahead_33 : decode cX7_ahead 33 = .ok (.getfield 36, 3) := by decide +kernel
theorem dX7_ahead_36 : decode cX7_ahead 36 = .ok (.getfield 95, 3) := by decide +kernel
theorem dX7_ahead_39 : decode cX7_ahead 39 = .ok (.invokevirtual 204, 3) := by decide +kernel
theorem dX7_ahead_42 : decode cX7_ahead 42 = .ok (.aload_n 0, 1) := by decide +kernel
theorem dX7_ahead_43 : decode cX7_ahead 43 = .ok (.getfield 19, 3) := by decide +kernel
theorem dX7_ahead_46 : decode cX7_ahead 46 = .ok (.iload_n 2, 1) := by decide +kernel
theorem dX7_ahead_47 : decode cX7_ahead 47 = .ok (.invokevirtual 113, 3) := by decide +kernel
theorem dX7_ahead_50 : decode cX7_ahead 50 = .ok (.astore 4, 2) := by decide +kernel
theorem dX7_ahead_52 : decode cX7_ahead 52 = .ok (.iconst 0, 1) := by decide +kernel
theorem dX7_ahead_53 : decode cX7_ahead 53 = .ok (.istore 5, 2) := by decide +kernel
theorem dX7_ahead_55 : decode cX7_ahead 55 = .ok (.iconst 0, 1) := by decide +kernel
theorem dX7_ahead_56 : decode cX7_ahead 56 = .ok (.istore 6, 2) := by decide +kernel
theorem dX7_ahead_58 : decode cX7_ahead 58 = .ok (.iconst 0, 1) := by decide +kernel
theorem dX7_ahead_59 : decode cX7_ahead 59 = .ok (.istore 7, 2) := by decide +kernel
theorem dX7_ahead_61 : decode cX7_ahead 61 = .ok (.iload 7, 2) := by decide +kernel
theorem dX7_ahead_63 : decode cX7_ahead 63 = .ok (.iload_n 1, 1) := by decide +kernel
theorem dX7_ahead_64 : decode cX7_ahead 64 = .ok (.if_icmp .ge 54, 3) := by decide +kernel
theorem dX7_ahead_67 : decode cX7_ahead 67 = .ok (.aload_n 0, 1) := by decide +kernel
theorem dX7_ahead_68 : decode cX7_ahead 68 = .ok (.getfield 19, 3) := by decide +kernel
theorem dX7_ahead_71 : decode cX7_ahead 71 = .ok (.aload_n 0, 1) := by decide +kernel
theorem dX7_ahead_72 : decode cX7_ahead 72 = .ok (.getfield 26, 3) := by decide +kernel
theorem dX7_ahead_75 : decode cX7_ahead 75 = .ok (.invokevirtual 208, 3) := by decide +kernel
theorem dX7_ahead_78 : decode cX7_ahead 78 = .ok (.pop, 1) := by decide +kernel
theorem dX7_ahead_79 : decode cX7_ahead 79 = .ok (.iload 5, 2) := by decide +kernel
theorem dX7_ahead_81 : decode cX7_ahead 81 = .ok (.aload 4, 2) := by decide +kernel
theorem dX7_ahead_83 : decode cX7_ahead 83 = .ok (.getfield 148, 3) := by decide +kernel
theorem dX7_ahead_86 : decode cX7_ahead 86 = .ok (.invokestatic 209, 3) := by decide +kernel
theorem dX7_ahead_89 : decode cX7_ahead 89 = .ok (.invokestatic 214, 3) := by decide +kernel
theorem dX7_ahead_92 : decode cX7_ahead 92 = .ok (.istore 5, 2) := by decide +kernel
theorem dX7_ahead_94 : decode cX7_ahead 94 = .ok (.iload 6, 2) := by decide +kernel
theorem dX7_ahead_96 : decode cX7_ahead 96 = .ok (.aload 4, 2) := by decide +kernel
theorem dX7_ahead_98 : decode cX7_ahead 98 = .ok (.getfield 217, 3) := by decide +kernel
theorem dX7_ahead_101 : decode cX7_ahead 101 = .ok (.ifCond .eq 7, 3) := by decide +kernel
theorem dX7_ahead_104 : decode cX7_ahead 104 = .ok (.iconst 1, 1) := by decide +kernel
theorem dX7_ahead_105 : decode cX7_ahead 105 = .ok (.goto 4, 3) := by decide +kernel
theorem dX7_ahead_108 : decode cX7_ahead 108 = .ok (.iconst 0, 1) := by decide +kernel
theorem dX7_ahead_109 : decode cX7_ahead 109 = .ok (.iadd, 1) := by decide +kernel
theorem dX7_ahead_110 : decode cX7_ahead 110 = .ok (.istore 6, 2) := by decide +kernel
theorem dX7_ahead_112 : decode cX7_ahead 112 = .ok (.iinc 7 1, 3) := by decide +kernel
theorem dX7_ahead_115 : decode cX7_ahead 115 = .ok (.goto (-54), 3) := by decide +kernel
theorem dX7_ahead_118 : decode cX7_ahead 118 = .ok (.iload_n 3, 1) := by decide +kernel
theorem dX7_ahead_119 : decode cX7_ahead 119 = .ok (.tableswitch 66 0 4 #[33, 39, 48, 54, 63], 33) := by decide +kernel
theorem dX7_ahead_152 : decode cX7_ahead 152 = .ok (.aload 4, 2) := by decide +kernel
theorem dX7_ahead_154 : decode cX7_ahead 154 = .ok (.getfield 138, 3) := by decide +kernel
theorem dX7_ahead_157 : decode cX7_ahead 157 = .ok (.ireturn, 1) := by decide +kernel
theorem dX7_ahead_158 : decode cX7_ahead 158 = .ok (.aload 4, 2) := by decide +kernel
theorem dX7_ahead_160 : decode cX7_ahead 160 = .ok (.getfield 141, 3) := by decide +kernel
theorem dX7_ahead_163 : decode cX7_ahead 163 = .ok (.ldc 144, 2) := by decide +kernel
theorem dX7_ahead_165 : decode cX7_ahead 165 = .ok (.iadd, 1) := by decide +kernel
theorem dX7_ahead_166 : decode cX7_ahead 166 = .ok (.ireturn, 1) := by decide +kernel
theorem dX7_ahead_167 : decode cX7_ahead 167 = .ok (.aload 4, 2) := by decide +kernel
theorem dX7_ahead_169 : decode cX7_ahead 169 = .ok (.getfield 145, 3) := by decide +kernel
theorem dX7_ahead_172 : decode cX7_ahead 172 = .ok (.ireturn, 1) := by decide +kernel
theorem dX7_ahead_173 : decode cX7_ahead 173 = .ok (.aload 4, 2) := by decide +kernel
theorem dX7_ahead_175 : decode cX7_ahead 175 = .ok (.getfield 148, 3) := by decide +kernel
theorem dX7_ahead_178 : decode cX7_ahead 178 = .ok (.ldc 144, 2) := by decide +kernel
theorem dX7_ahead_180 : decode cX7_ahead 180 = .ok (.iadd, 1) := by decide +kernel
theorem dX7_ahead_181 : decode cX7_ahead 181 = .ok (.ireturn, 1) := by decide +kernel
theorem dX7_ahead_182 : decode cX7_ahead 182 = .ok (.iload 5, 2) := by decide +kernel
theorem dX7_ahead_184 : decode cX7_ahead 184 = .ok (.ireturn, 1) := by decide +kernel
theorem dX7_ahead_185 : decode cX7_ahead 185 = .ok (.iload 6, 2) := by decide +kernel
theorem dX7_ahead_187 : decode cX7_ahead 187 = .ok (.ireturn, 1) := by decide +kernel
set_option maxRecDepth 20000 in
theorem ggX7_quiet_X7_isCrane : GoodIn wsX7_quiet wsX7_isCrane := goodIn_r _ [8] (by decide +kernel) (by decide +kernel)
set_option maxRecDepth 20000 in
theorem gX7_quiet_X7_isCrane : GoodIn wsX7_quiet (va_wsS RX7 85 yX7_isCrane wsX7_isCrane) := goodIn_app (goodIn_of _ (by decide +kernel)) ggX7_quiet_X7_isCrane
set_option maxRecDepth 20000 in
theorem ggX7_quiet_X2_copyFrom : GoodIn wsX7_quiet wsX2_copyFrom := goodIn_r _ [13, 14, 15, 16, 17, 18, 19, 20, 21, 22, 23, 24, 25, 26, 27, 28, 29, 30, 31, 32, 33, 34, 149, 150, 151, 152, 153, 154, 155, 156, 157, 158, 159, 160, 161, 162, 163, 164] (by decide +kernel) (by decide +kernel)
set_option maxRecDepth 20000 in
theorem gX7_quiet_X2_copyFrom : GoodIn wsX7_quiet (wsV RX7 204 RX2 yX2_copyFrom wsX2_copyFrom) := goodIn_app (goodIn_of _ (by decide +kernel)) ggX7_quiet_X2_copyFrom
set_option maxRecDepth 20000 in
theorem ggX7_quiet_X2_tellAtOnce : GoodIn wsX7_quiet wsX2_tellAtOnce := goodIn_r _ [38, 14, 15, 39, 40, 41, 12, 42, 43, 44, 45, 46, 16, 47, 48, 49, 20, 50, 28, 51, 52, 53, 54, 30, 31, 32, 33, 55, 56, 57, 58, 59, 60, 61, 62, 149, 150, 151, 152, 153, 154, 155, 156, 157, 158, 159, 160, 161, 162, 163, 164] (by decide +kernel) (by decide +kernel)
set_option maxRecDepth 20000 in
theorem gX7_quiet_X2_tellAtOnce : GoodIn wsX7_quiet (wsV RX7 98 RX2 yX2_tellAtOnce wsX2_tellAtOnce) := goodIn_app (goodIn_of _ (by decide +kernel)) ggX7_quiet_X2_tellAtOnce
set_option maxRecDepth 20000 in
theorem ggX7_quiet_X2_side : GoodIn wsX7_quiet wsX2_side := goodIn_r _ [66, 14, 15, 149, 150, 151] (by decide +kernel) (by decide +kernel)
set_option maxRecDepth 20000 in
theorem gX7_quiet_X2_side : GoodIn wsX7_quiet (wsV RX7 113 RX2 yX2_side wsX2_side) := goodIn_app (goodIn_of _ (by decide +kernel)) ggX7_quiet_X2_side
set_option maxRecDepth 20000 in
theorem ggX7_quiet_X0_isQuiet : GoodIn wsX7_quiet wsX0_isQuiet := goodIn_r _ [70, 23, 28, 26, 71, 72, 73, 74, 27, 75, 76, 77, 20, 78, 31, 33, 152, 153, 154, 155, 156, 157, 158, 159, 160, 161, 162, 163, 164] (by decide +kernel) (by decide +kernel)
set_option maxRecDepth 20000 in
theorem gX7_quiet_X0_isQuiet : GoodIn wsX7_quiet (wsV RX7 174 RX0 yX0_isQuiet wsX0_isQuiet) := goodIn_app (goodIn_of _ (by decide +kernel)) ggX7_quiet_X0_isQuiet
set_option maxRecDepth 20000 in
theorem ggX7_quiet_X2_goOn : GoodIn wsX7_quiet wsX2_goOn := goodIn_r _ [82, 14, 83, 15, 84, 85, 86, 16, 87, 88, 89, 90, 12, 91, 92, 93, 94, 95, 20, 96, 97, 34, 23, 22, 98, 99, 100, 101, 30, 32, 31, 28, 33, 102, 103, 104, 105, 106, 107, 108, 109, 110, 25, 111, 112, 73, 113, 114, 7, 115, 116, 117, 118, 119, 120, 121, 122, 72, 74, 123, 124, 125, 126, 71, 127, 128, 129, 130, 24, 26, 27, 131, 132, 133, 134, 29, 149, 150, 151, 152, 153, 154, 155, 156, 157, 158, 159, 160, 161, 162, 163, 164, 165, 166, 167, 168, 169, 170, 171] (by decide +kernel) (by decide +kernel)
set_option maxRecDepth 20000 in
theorem gX7_quiet_X2_goOn : GoodIn wsX7_quiet (wsV RX7 208 RX2 yX2_goOn wsX2_goOn) := goodIn_app (goodIn_of _ (by decide +kernel)) ggX7_quiet_X2_goOn
theorem dX7_quiet_0 : decode cX7_quiet 0 = .ok (.iload_n 1, 1) := by decide +kernel
theorem dX7_quiet_1 : decode cX7_quiet 1 = .ok (.invokestatic 85, 3) := by decide +kernel
theorem dX7_quiet_4 : decode cX7_quiet 4 = .ok (.ifCond .ne 5, 3) := by decide +kernel
theorem dX7_quiet_7 : decode cX7_quiet 7 = .ok (.iconst (-1), 1) := by decide +kernel
theorem dX7_quiet_8 : decode cX7_quiet 8 = .ok (.ireturn, 1) := by decide +kernel
theorem dX7_quiet_9 : decode cX7_quiet 9 = .ok (.aload_n 0, 1) := by decide +kernel
theorem dX7_quiet_10 : decode cX7_quiet 10 = .ok (.getfield 19, 3) := by decide +kernel
theorem dX7_quiet_13 : decode cX7_quiet 13 = .ok (.aload_n 0, 1) := by decide +kernel
theorem dX7_quiet_14 : decode cX7_quiet 14 = .ok (.getfield 36, 3) := by decide +kernel
theorem dX7_quiet_17 : decode cX7_quiet 17 = .ok (.getfield 95, 3) := by decide +kernel
theorem dX7_quiet_20 : decode cX7_quiet 20 = .ok (.invokevirtual 204, 3) := by decide +kernel
theorem dX7_quiet_23 : decode cX7_quiet 23 = .ok (.aload_n 0, 1) := by decide +kernel
theorem dX7_quiet_24 : decode cX7_quiet 24 = .ok (.getfield 19, 3) := by decide +kernel
theorem dX7_quiet_27 : decode cX7_quiet 27 = .ok (.iload_n 1, 1) := by decide +kernel
theorem dX7_quiet_28 : decode cX7_quiet 28 = .ok (.iconst 0, 1) := by decide +kernel
theorem dX7_quiet_29 : decode cX7_quiet 29 = .ok (.invokevirtual 98, 3) := by decide +kernel
theorem dX7_quiet_32 : decode cX7_quiet 32 = .ok (.pop, 1) := by decide +kernel
theorem dX7_quiet_33 : decode cX7_quiet 33 = .ok (.aload_n 0, 1) := by decide +kernel
theorem dX7_quiet_34 : decode cX7_quiet 34 = .ok (.getfield 19, 3) := by decide +kernel
theorem dX7_quiet_37 : decode cX7_quiet 37 = .ok (.iload_n 1, 1) := by decide +kernel
theorem dX7_quiet_38 : decode cX7_quiet 38 = .ok (.invokevirtual 113, 3) := by decide +kernel
theorem dX7_quiet_41 : decode cX7_quiet 41 = .ok (.astore_n 2, 1) := by decide +kernel
theorem dX7_quiet_42 : decode cX7_quiet 42 = .ok (.iconst 0, 1) := by decide +kernel
theorem dX7_quiet_43 : decode cX7_quiet 43 = .ok (.istore_n 3, 1) := by decide +kernel
theorem dX7_quiet_44 : decode cX7_quiet 44 = .ok (.iload_n 3, 1) := by decide +kernel
theorem dX7_quiet_45 : decode cX7_quiet 45 = .ok (.bipush 60, 2) := by decide +kernel
theorem dX7_quiet_47 : decode cX7_quiet 47 = .ok (.if_icmp .ge 30, 3) := by decide +kernel
theorem dX7_quiet_50 : decode cX7_quiet 50 = .ok (.aload_n 2, 1) := by decide +kernel
theorem dX7_quiet_51 : decode cX7_quiet 51 = .ok (.invokevirtual 174, 3) := by decide +kernel
theorem dX7_quiet_54 : decode cX7_quiet 54 = .ok (.ifCond .eq 5, 3) := by decide +kernel
theorem dX7_quiet_57 : decode cX7_quiet 57 = .ok (.iload_n 3, 1) := by decide +kernel
theorem dX7_quiet_58 : decode cX7_quiet 58 = .ok (.ireturn, 1) := by decide +kernel
theorem dX7_quiet_59 : decode cX7_quiet 59 = .ok (.aload_n 0, 1) := by decide +kernel
theorem dX7_quiet_60 : decode cX7_quiet 60 = .ok (.getfield 19, 3) := by decide +kernel
theorem dX7_quiet_63 : decode cX7_quiet 63 = .ok (.aload_n 0, 1) := by decide +kernel
theorem dX7_quiet_64 : decode cX7_quiet 64 = .ok (.getfield 26, 3) := by decide +kernel
theorem dX7_quiet_67 : decode cX7_quiet 67 = .ok (.invokevirtual 208, 3) := by decide +kernel
theorem dX7_quiet_70 : decode cX7_quiet 70 = .ok (.pop, 1) := by decide +kernel
theorem dX7_quiet_71 : decode cX7_quiet 71 = .ok (.iinc 3 1, 3) := by decide +kernel
theorem dX7_quiet_74 : decode cX7_quiet 74 = .ok (.goto (-30), 3) := by decide +kernel
theorem dX7_quiet_77 : decode cX7_quiet 77 = .ok (.aload_n 2, 1) := by decide +kernel
theorem dX7_quiet_78 : decode cX7_quiet 78 = .ok (.invokevirtual 174, 3) := by decide +kernel
theorem dX7_quiet_81 : decode cX7_quiet 81 = .ok (.ifCond .eq 8, 3) := by decide +kernel
theorem dX7_quiet_84 : decode cX7_quiet 84 = .ok (.bipush 60, 2) := by decide +kernel
theorem dX7_quiet_86 : decode cX7_quiet 86 = .ok (.goto 5, 3) := by decide +kernel
theorem dX7_quiet_89 : decode cX7_quiet 89 = .ok (.bipush (-4), 2) := by decide +kernel
theorem dX7_quiet_91 : decode cX7_quiet 91 = .ok (.ireturn, 1) := by decide +kernel
set_option maxRecDepth 20000 in
theorem ggX7_best_X7_isCrane : GoodIn wsX7_best wsX7_isCrane := goodIn_r _ [4] (by decide +kernel) (by decide +kernel)
set_option maxRecDepth 20000 in
theorem gX7_best_X7_isCrane : GoodIn wsX7_best (va_wsS RX7 85 yX7_isCrane wsX7_isCrane) := goodIn_app (goodIn_of _ (by decide +kernel)) ggX7_best_X7_isCrane
set_option maxRecDepth 20000 in
theorem ggX7_best_X7_isSpeed : GoodIn wsX7_best wsX7_isSpeed := goodIn_r _ [7, 8, 9, 3, 10] (by decide +kernel) (by decide +kernel)
set_option maxRecDepth 20000 in
theorem gX7_best_X7_isSpeed : GoodIn wsX7_best (va_wsS RX7 89 yX7_isSpeed wsX7_isSpeed) := goodIn_app (goodIn_of _ (by decide +kernel)) ggX7_best_X7_isSpeed
set_option maxRecDepth 20000 in
theorem ggX7_best_X7_isWithin : GoodIn wsX7_best wsX7_isWithin := goodIn_r _ [10] (by decide +kernel) (by decide +kernel)
set_option maxRecDepth 20000 in
theorem gX7_best_X7_isWithin : GoodIn wsX7_best (va_wsS RX7 56 yX7_isWithin wsX7_isWithin) := goodIn_app (goodIn_of _ (by decide +kernel)) ggX7_best_X7_isWithin
set_option maxRecDepth 20000 in
theorem ggX7_best_X7_swingWithPause : GoodIn wsX7_best wsX7_swingWithPause := goodIn_r _ [14, 15, 16, 17, 18, 19, 20, 21, 22, 23, 24, 25, 26, 27, 28, 29, 30, 31, 32, 33, 34, 35, 36, 37, 38, 39, 40, 41, 42, 43, 44, 45, 46, 47, 48, 49, 50, 51, 52, 53, 54, 55, 56, 57, 58, 59, 60, 61, 62, 63, 64, 65, 66, 67, 68, 69, 3, 70, 71, 72, 73, 74, 75, 76, 77, 78, 79, 80, 81, 82, 83, 84, 85, 86, 87, 88, 89, 90, 91, 92, 93, 94, 95, 96, 97, 98, 99, 100, 101, 102, 103, 104, 105, 106, 107, 108, 109, 110, 111, 112, 113, 114, 115, 116, 117, 118, 119, 120, 121, 122, 123, 124, 125, 126, 127, 128, 129, 130, 131, 132, 133, 134, 135, 136, 137, 138, 139, 140, 141, 142, 143, 144, 145, 146, 147, 148, 149, 150, 151, 152, 153, 154, 155, 156, 157, 158, 159, 160, 161, 162, 163, 164, 165, 166, 167, 168, 169, 170, 171, 172, 173, 174, 175, 176] (by decide +kernel) (by decide +kernel)
set_option maxRecDepth 20000 in
theorem gX7_best_X7_swingWithPause : GoodIn wsX7_best (wsV RX7 221 RX7 yX7_swingWithPause wsX7_swingWithPause) := goodIn_app (goodIn_of _ (by decide +kernel)) ggX7_best_X7_swingWithPause
theorem dX7_best_0 : decode cX7_best 0 = .ok (.iload_n 1, 1) := by decide +kernel
theorem dX7_best_1 : decode cX7_best 1 = .ok (.invokestatic 85, 3) := by decide +kernel
theorem dX7_best_4 : decode cX7_best 4 = .ok (.ifCond .eq 19, 3) := by decide +kernel
theorem dX7_best_7 : decode cX7_best 7 = .ok (.iload_n 2, 1) := by decide +kernel
theorem dX7_best_8 : decode cX7_best 8 = .ok (.invokestatic 89, 3) := by decide +kernel
theorem dX7_best_11 : decode cX7_best 11 = .ok (.ifCond .eq 12, 3) := by decide +kernel
theorem dX7_best_14 : decode cX7_best 14 = .ok (.iload_n 3, 1) := by decide +kernel
theorem dX7_best_15 : decode cX7_best 15 = .ok (.iconst 0, 1) := by decide +kernel
theorem dX7_best_16 : decode cX7_best 16 = .ok (.iconst 1, 1) := by decide +kernel
theorem dX7_best_17 : decode cX7_best 17 = .ok (.invokestatic 56, 3) := by decide +kernel
theorem dX7_best_20 : decode cX7_best 20 = .ok (.ifCond .ne 5, 3) := by decide +kernel
theorem dX7_best_23 : decode cX7_best 23 = .ok (.iconst (-1), 1) := by decide +kernel
theorem dX7_best_24 : decode cX7_best 24 = .ok (.ireturn, 1) := by decide +kernel
theorem dX7_best_25 : decode cX7_best 25 = .ok (.iconst 0, 1) := by decide +kernel
theorem dX7_best_26 : decode cX7_best 26 = .ok (.istore 4, 2) := by decide +kernel
theorem dX7_best_28 : decode cX7_best 28 = .ok (.aload_n 0, 1) := by decide +kernel
theorem dX7_best_29 : decode cX7_best 29 = .ok (.iload_n 1, 1) := by decide +kernel
theorem dX7_best_30 : decode cX7_best 30 = .ok (.iload_n 2, 1) := by decide +kernel
theorem dX7_best_31 : decode cX7_best 31 = .ok (.iconst 0, 1) := by decide +kernel
theorem dX7_best_32 : decode cX7_best 32 = .ok (.invokevirtual 221, 3) := by decide +kernel
theorem dX7_best_35 : decode cX7_best 35 = .ok (.istore 5, 2) := by decide +kernel
theorem dX7_best_37 : decode cX7_best 37 = .ok (.iconst 1, 1) := by decide +kernel
theorem dX7_best_38 : decode cX7_best 38 = .ok (.istore 6, 2) := by decide +kernel
theorem dX7_best_40 : decode cX7_best 40 = .ok (.iload 6, 2) := by decide +kernel
theorem dX7_best_42 : decode cX7_best 42 = .ok (.bipush 20, 2) := by decide +kernel
theorem dX7_best_44 : decode cX7_best 44 = .ok (.if_icmp .gt 34, 3) := by decide +kernel
theorem dX7_best_47 : decode cX7_best 47 = .ok (.aload_n 0, 1) := by decide +kernel
theorem dX7_best_48 : decode cX7_best 48 = .ok (.iload_n 1, 1) := by decide +kernel
theorem dX7_best_49 : decode cX7_best 49 = .ok (.iload_n 2, 1) := by decide +kernel
theorem dX7_best_50 : decode cX7_best 50 = .ok (.iload 6, 2) := by decide +kernel
theorem dX7_best_52 : decode cX7_best 52 = .ok (.invokevirtual 221, 3) := by decide +kernel
theorem dX7_best_55 : decode cX7_best 55 = .ok (.istore 7, 2) := by decide +kernel
theorem dX7_best_57 : decode cX7_best 57 = .ok (.iload 7, 2) := by decide +kernel
theorem dX7_best_59 : decode cX7_best 59 = .ok (.iload 5, 2) := by decide +kernel
theorem dX7_best_61 : decode cX7_best 61 = .ok (.if_icmp .ge 11, 3) := by decide +kernel
theorem dX7_best_64 : decode cX7_best 64 = .ok (.iload 7, 2) := by decide +kernel
theorem dX7_best_66 : decode cX7_best 66 = .ok (.istore 5, 2) := by decide +kernel
theorem dX7_best_68 : decode cX7_best 68 = .ok (.iload 6, 2) := by decide +kernel
theorem dX7_best_70 : decode cX7_best 70 = .ok (.istore 4, 2) := by decide +kernel
theorem dX7_best_72 : decode cX7_best 72 = .ok (.iinc 6 1, 3) := by decide +kernel
theorem dX7_best_75 : decode cX7_best 75 = .ok (.goto (-35), 3) := by decide +kernel
theorem dX7_best_78 : decode cX7_best 78 = .ok (.iload_n 3, 1) := by decide +kernel
theorem dX7_best_79 : decode cX7_best 79 = .ok (.ifCond .ne 8, 3) := by decide +kernel
theorem dX7_best_82 : decode cX7_best 82 = .ok (.iload 4, 2) := by decide +kernel
theorem dX7_best_84 : decode cX7_best 84 = .ok (.goto 5, 3) := by decide +kernel
theorem dX7_best_87 : decode cX7_best 87 = .ok (.iload 5, 2) := by decide +kernel
theorem dX7_best_89 : decode cX7_best 89 = .ok (.ireturn, 1) := by decide +kernel
set_option maxRecDepth 20000 in
theorem ggX7_count_X2_freeBetween : GoodIn wsX7_count wsX2_freeBetween := goodIn_r _ [18, 19, 20, 21, 22, 44, 45, 46, 50, 51, 52, 53, 54, 55, 56, 57, 58, 59, 60, 61, 62, 33, 34, 35, 36, 37, 38, 39] (by decide +kernel) (by decide +kernel)
set_option maxRecDepth 20000 in
theorem gX7_count_X2_freeBetween : GoodIn wsX7_count (wsV RX7 233 RX2 yX2_freeBetween wsX2_freeBetween) := goodIn_app (goodIn_of _ (by decide +kernel)) ggX7_count_X2_freeBetween
theorem dX7_count_0 : decode cX7_count 0 = .ok (.iload_n 1, 1) := by decide +kernel
theorem dX7_count_1 : decode cX7_count 1 = .ok (.tableswitch 142 0 9 #[55, 63, 71, 79, 87, 95, 106, 114, 119, 127], 55) := by decide +kernel
theorem dX7_count_56 : decode cX7_count 56 = .ok (.aload_n 0, 1) := by decide +kernel
theorem dX7_count_57 : decode cX7_count 57 = .ok (.getfield 26, 3) := by decide +kernel
theorem dX7_count_60 : decode cX7_count 60 = .ok (.getfield 82, 3) := by decide +kernel
theorem dX7_count_63 : decode cX7_count 63 = .ok (.ireturn, 1) := by decide +kernel
theorem dX7_count_64 : decode cX7_count 64 = .ok (.aload_n 0, 1) := by decide +kernel
theorem dX7_count_65 : decode cX7_count 65 = .ok (.getfield 26, 3) := by decide +kernel
theorem dX7_count_68 : decode cX7_count 68 = .ok (.getfield 224, 3) := by decide +kernel
theorem dX7_count_71 : decode cX7_count 71 = .ok (.ireturn, 1) := by decide +kernel
theorem dX7_count_72 : decode cX7_count 72 = .ok (.aload_n 0, 1) := by decide +kernel
theorem dX7_count_73 : decode cX7_count 73 = .ok (.getfield 26, 3) := by decide +kernel
theorem dX7_count_76 : decode cX7_count 76 = .ok (.getfield 164, 3) := by decide +kernel
theorem dX7_count_79 : decode cX7_count 79 = .ok (.ireturn, 1) := by decide +kernel
theorem dX7_count_80 : decode cX7_count 80 = .ok (.aload_n 0, 1) := by decide +kernel
theorem dX7_count_81 : decode cX7_count 81 = .ok (.getfield 26, 3) := by decide +kernel
theorem dX7_count_84 : decode cX7_count 84 = .ok (.getfield 227, 3) := by decide +kernel
theorem dX7_count_87 : decode cX7_count 87 = .ok (.ireturn, 1) := by decide +kernel
theorem dX7_count_88 : decode cX7_count 88 = .ok (.aload_n 0, 1) := by decide +kernel
theorem dX7_count_89 : decode cX7_count 89 = .ok (.getfield 26, 3) := by decide +kernel
theorem dX7_count_92 : decode cX7_count 92 = .ok (.getfield 230, 3) := by decide +kernel
theorem dX7_count_95 : decode cX7_count 95 = .ok (.ireturn, 1) := by decide +kernel
theorem dX7_count_96 : decode cX7_count 96 = .ok (.aload_n 0, 1) := by decide +kernel
theorem dX7_count_97 : decode cX7_count 97 = .ok (.getfield 36, 3) := by decide +kernel
theorem dX7_count_100 : decode cX7_count 100 = .ok (.getfield 95, 3) := by decide +kernel
theorem dX7_count_103 : decode cX7_count 103 = .ok (.getfield 129, 3) := by decide +kernel
theorem dX7_count_106 : decode cX7_count 106 = .ok (.ireturn, 1) := by decide +kernel
theorem dX7_count_107 : decode cX7_count 107 = .ok (.aload_n 0, 1) := by decide +kernel
theorem dX7_count_108 : decode cX7_count 108 = .ok (.getfield 36, 3) := by decide +kernel
theorem dX7_count_111 : decode cX7_count 111 = .ok (.getfield 132, 3) := by decide +kernel
theorem dX7_count_114 : decode cX7_count 114 = .ok (.ireturn, 1) := by decide +kernel
theorem dX7_count_115 : decode cX7_count 115 = .ok (.aload_n 0, 1) := by decide +kernel
theorem dX7_count_116 : decode cX7_count 116 = .ok (.getfield 79, 3) := by decide +kernel
theorem dX7_count_119 : decode cX7_count 119 = .ok (.ireturn, 1) := by decide +kernel
theorem dX7_count_120 : decode cX7_count 120 = .ok (.aload_n 0, 1) := by decide +kernel
theorem dX7_count_121 : decode cX7_count 121 = .ok (.getfield 10, 3) := by decide +kernel
theorem dX7_count_124 : decode cX7_count 124 = .ok (.getfield 68, 3) := by decide +kernel
theorem dX7_count_127 : decode cX7_count 127 = .ok (.ireturn, 1) := by decide +kernel
theorem dX7_count_128 : decode cX7_count 128 = .ok (.aload_n 0, 1) := by decide +kernel
theorem dX7_count_129 : decode cX7_count 129 = .ok (.getfield 36, 3) := by decide +kernel
theorem dX7_count_132 : decode cX7_count 132 = .ok (.getfield 95, 3) := by decide +kernel
theorem dX7_count_135 : decode cX7_count 135 = .ok (.aload_n 0, 1) := by decide +kernel
theorem dX7_count_136 : decode cX7_count 136 = .ok (.getfield 26, 3) := by decide +kernel
theorem dX7_count_139 : decode cX7_count 139 = .ok (.invokevirtual 233, 3) := by decide +kernel
theorem dX7_count_142 : decode cX7_count 142 = .ok (.ireturn, 1) := by decide +kernel
theorem dX7_count_143 : decode cX7_count 143 = .ok (.iconst (-1), 1) := by decide +kernel
theorem dX7_count_144 : decode cX7_count 144 = .ok (.ireturn, 1) := by decide +kernel
set_option maxRecDepth 20000 in
theorem ggX7_keepForUndo_X5_copyFrom : GoodIn wsX7_keepForUndo wsX5_copyFrom := goodIn_r _ [15, 16, 17, 18, 19, 20, 21, 22, 23, 24, 25, 26, 27, 28, 29, 30, 31, 32, 33, 34, 35, 36, 37, 38, 39, 40, 41, 42, 43, 44, 45, 46, 47, 48, 49, 50, 51, 52, 53, 54, 55, 56, 57, 58, 59, 60, 61, 62, 63, 64, 65, 76, 77, 78, 79, 80, 81, 82, 83, 84, 85, 86, 87, 88, 89, 90, 91, 92, 93, 94, 95, 96, 97, 98] (by decide +kernel) (by decide +kernel)
set_option maxRecDepth 20000 in
theorem gX7_keepForUndo_X5_copyFrom : GoodIn wsX7_keepForUndo (wsV RX7 236 RX5 yX5_copyFrom wsX5_copyFrom) := goodIn_app (goodIn_of _ (by decide +kernel)) ggX7_keepForUndo_X5_copyFrom
theorem dX7_keepForUndo_0 : decode cX7_keepForUndo 0 = .ok (.aload_n 0, 1) := by decide +kernel
theorem dX7_keepForUndo_1 : decode cX7_keepForUndo 1 = .ok (.getfield 49, 3) := by decide +kernel
theorem dX7_keepForUndo_4 : decode cX7_keepForUndo 4 = .ok (.astore_n 1, 1) := by decide +kernel
theorem dX7_keepForUndo_5 : decode cX7_keepForUndo 5 = .ok (.aload_n 0, 1) := by decide +kernel
theorem dX7_keepForUndo_6 : decode cX7_keepForUndo 6 = .ok (.aload_n 0, 1) := by decide +kernel
theorem dX7_keepForUndo_7 : decode cX7_keepForUndo 7 = .ok (.getfield 46, 3) := by decide +kernel
theorem dX7_keepForUndo_10 : decode cX7_keepForUndo 10 = .ok (.putfield 49, 3) := by decide +kernel
theorem dX7_keepForUndo_13 : decode cX7_keepForUndo 13 = .ok (.aload_n 0, 1) := by decide +kernel
theorem dX7_keepForUndo_14 : decode cX7_keepForUndo 14 = .ok (.aload_n 0, 1) := by decide +kernel
theorem dX7_keepForUndo_15 : decode cX7_keepForUndo 15 = .ok (.getfield 43, 3) := by decide +kernel
theorem dX7_keepForUndo_18 : decode cX7_keepForUndo 18 = .ok (.putfield 46, 3) := by decide +kernel
theorem dX7_keepForUndo_21 : decode cX7_keepForUndo 21 = .ok (.aload_n 0, 1) := by decide +kernel
theorem dX7_keepForUndo_22 : decode cX7_keepForUndo 22 = .ok (.aload_n 0, 1) := by decide +kernel
theorem dX7_keepForUndo_23 : decode cX7_keepForUndo 23 = .ok (.getfield 40, 3) := by decide +kernel
theorem dX7_keepForUndo_26 : decode cX7_keepForUndo 26 = .ok (.putfield 43, 3) := by decide +kernel
theorem dX7_keepForUndo_29 : decode cX7_keepForUndo 29 = .ok (.aload_n 0, 1) := by decide +kernel
theorem dX7_keepForUndo_30 : decode cX7_keepForUndo 30 = .ok (.aload_n 1, 1) := by decide +kernel
theorem dX7_keepForUndo_31 : decode cX7_keepForUndo 31 = .ok (.putfield 40, 3) := by decide +kernel
theorem dX7_keepForUndo_34 : decode cX7_keepForUndo 34 = .ok (.aload_n 0, 1) := by decide +kernel
theorem dX7_keepForUndo_35 : decode cX7_keepForUndo 35 = .ok (.getfield 40, 3) := by decide +kernel
theorem dX7_keepForUndo_38 : decode cX7_keepForUndo 38 = .ok (.aload_n 0, 1) := by decide +kernel
theorem dX7_keepForUndo_39 : decode cX7_keepForUndo 39 = .ok (.getfield 36, 3) := by decide +kernel
theorem dX7_keepForUndo_42 : decode cX7_keepForUndo 42 = .ok (.invokevirtual 236, 3) := by decide +kernel
theorem dX7_keepForUndo_45 : decode cX7_keepForUndo 45 = .ok (.aload_n 0, 1) := by decide +kernel
theorem dX7_keepForUndo_46 : decode cX7_keepForUndo 46 = .ok (.aload_n 0, 1) := by decide +kernel
theorem dX7_keepForUndo_47 : decode cX7_keepForUndo 47 = .ok (.getfield 79, 3) := by decide +kernel
theorem dX7_keepForUndo_50 : decode cX7_keepForUndo 50 = .ok (.iconst 1, 1) := by decide +kernel
theorem dX7_keepForUndo_51 : decode cX7_keepForUndo 51 = .ok (.iadd, 1) := by decide +kernel
theorem dX7_keepForUndo_52 : decode cX7_keepForUndo 52 = .ok (.iconst 4, 1) := by decide +kernel
theorem dX7_keepForUndo_53 : decode cX7_keepForUndo 53 = .ok (.invokestatic 239, 3) := by decide +kernel
theorem dX7_keepForUndo_56 : decode cX7_keepForUndo 56 = .ok (.putfield 79, 3) := by decide +kernel
theorem dX7_keepForUndo_59 : decode cX7_keepForUndo 59 = .ok (.return_, 1) := by decide +kernel
set_option maxRecDepth 20000 in
theorem ggX7_swingWithPause_X2_copyFrom : GoodIn wsX7_swingWithPause wsX2_copyFrom := goodIn_r _ [17, 18, 19, 20, 21, 22, 23, 24, 25, 26, 27, 28, 29, 30, 31, 32, 33, 34, 35, 36, 37, 38, 154, 155, 156, 141, 142, 143, 144, 145, 146, 147, 148, 149, 150, 151, 152, 153] (by decide +kernel) (by decide +kernel)
set_option maxRecDepth 20000 in
theorem gX7_swingWithPause_X2_copyFrom : GoodIn wsX7_swingWithPause (wsV RX7 204 RX2 yX2_copyFrom wsX2_copyFrom) := goodIn_app (goodIn_of _ (by decide +kernel)) ggX7_swingWithPause_X2_copyFrom
set_option maxRecDepth 20000 in
theorem ggX7_swingWithPause_X2_tellByHalves : GoodIn wsX7_swingWithPause wsX2_tellByHalves := goodIn_r _ [42, 18, 19, 43, 44, 45, 16, 46, 47, 48, 49, 50, 20, 51, 52, 53, 24, 54, 32, 28, 55, 56, 57, 58, 59, 60, 61, 34, 35, 36, 37, 62, 63, 64, 65, 66, 67, 68, 69, 154, 155, 156, 141, 142, 143, 144, 145, 146, 147, 148, 149, 150, 151, 152, 153] (by decide +kernel) (by decide +kernel)
set_option maxRecDepth 20000 in
theorem gX7_swingWithPause_X2_tellByHalves : GoodIn wsX7_swingWithPause (wsV RX7 102 RX2 yX2_tellByHalves wsX2_tellByHalves) := goodIn_app (goodIn_of _ (by decide +kernel)) ggX7_swingWithPause_X2_tellByHalves
set_option maxRecDepth 20000 in
theorem ggX7_swingWithPause_X2_side : GoodIn wsX7_swingWithPause wsX2_side := goodIn_r _ [73, 18, 19, 154, 155, 156] (by decide +kernel) (by decide +kernel)
set_option maxRecDepth 20000 in
theorem gX7_swingWithPause_X2_side : GoodIn wsX7_swingWithPause (wsV RX7 113 RX2 yX2_side wsX2_side) := goodIn_app (goodIn_of _ (by decide +kernel)) ggX7_swingWithPause_X2_side
set_option maxRecDepth 20000 in
theorem ggX7_swingWithPause_X2_goOn : GoodIn wsX7_swingWithPause wsX2_goOn := goodIn_r _ [77, 18, 78, 19, 79, 80, 81, 20, 82, 83, 84, 85, 16, 86, 87, 88, 89, 90, 24, 91, 92, 38, 27, 26, 93, 94, 95, 96, 34, 36, 35, 32, 37, 97, 98, 99, 100, 101, 102, 103, 104, 105, 29, 106, 11, 8, 12, 107, 56, 108, 109, 110, 111, 10, 112, 113, 6, 7, 9, 114, 115, 116, 117, 118, 119, 120, 121, 122, 28, 30, 31, 123, 124, 125, 126, 33, 154, 155, 156, 141, 142, 143, 144, 145, 146, 147, 148, 149, 150, 151, 152, 153, 157, 158, 159, 160, 161, 162, 163] (by decide +kernel) (by decide +kernel)
set_option maxRecDepth 20000 in
theorem gX7_swingWithPause_X2_goOn : GoodIn wsX7_swingWithPause (wsV RX7 208 RX2 yX2_goOn wsX2_goOn) := goodIn_app (goodIn_of _ (by decide +kernel)) ggX7_swingWithPause_X2_goOn
theorem dX7_swingWithPause_0 : decode cX7_swingWithPause 0 = .ok (.aload_n 0, 1) := by decide +kernel
theorem dX7_swingWithPause_1 : decode cX7_swingWithPause 1 = .ok (.getfield 19, 3) := by decide +kernel
theorem dX7_swingWithPause_4 : decode cX7_swingWithPause 4 = .ok (.aload_n 0, 1) := by decide +kernel
theorem dX7_swingWithPause_5 : decode cX7_swingWithPause 5 = .ok (.getfield 36, 3) := by decide +kernel
theorem dX7_swingWithPause_8 : decode cX7_swingWithPause 8 = .ok (.getfield 95, 3) := by decide +kernel
theorem dX7_swingWithPause_11 : decode cX7_swingWithPause 11 = .ok (.invokevirtual 204, 3) := by decide +kernel
theorem dX7_swingWithPause_14 : decode cX7_swingWithPause 14 = .ok (.aload_n 0, 1) := by decide +kernel
theorem dX7_swingWithPause_15 : decode cX7_swingWithPause 15 = .ok (.getfield 19, 3) := by decide +kernel
theorem dX7_swingWithPause_18 : decode cX7_swingWithPause 18 = .ok (.iload_n 1, 1) := by decide +kernel
theorem dX7_swingWithPause_19 : decode cX7_swingWithPause 19 = .ok (.iload_n 2, 1) := by decide +kernel
theorem dX7_swingWithPause_20 : decode cX7_swingWithPause 20 = .ok (.iload_n 3, 1) := by decide +kernel
theorem dX7_swingWithPause_21 : decode cX7_swingWithPause 21 = .ok (.invokevirtual 102, 3) := by decide +kernel
theorem dX7_swingWithPause_24 : decode cX7_swingWithPause 24 = .ok (.pop, 1) := by decide +kernel
theorem dX7_swingWithPause_25 : decode cX7_swingWithPause 25 = .ok (.aload_n 0, 1) := by decide +kernel
theorem dX7_swingWithPause_26 : decode cX7_swingWithPause 26 = .ok (.getfield 19, 3) := by decide +kernel
theorem dX7_swingWithPause_29 : decode cX7_swingWithPause 29 = .ok (.iload_n 1, 1) := by decide +kernel
theorem dX7_swingWithPause_30 : decode cX7_swingWithPause 30 = .ok (.invokevirtual 113, 3) := by decide +kernel
theorem dX7_swingWithPause_33 : decode cX7_swingWithPause 33 = .ok (.astore 4, 2) := by decide +kernel
theorem dX7_swingWithPause_35 : decode cX7_swingWithPause 35 = .ok (.iconst 0, 1) := by decide +kernel
theorem dX7_swingWithPause_36 : decode cX7_swingWithPause 36 = .ok (.istore 5, 2) := by decide +kernel
theorem dX7_swingWithPause_38 : decode cX7_swingWithPause 38 = .ok (.iconst 1, 1) := by decide +kernel
theorem dX7_swingWithPause_39 : decode cX7_swingWithPause 39 = .ok (.istore 6, 2) := by decide +kernel
theorem dX7_swingWithPause_41 : decode cX7_swingWithPause 41 = .ok (.iload 6, 2) := by decide +kernel
theorem dX7_swingWithPause_43 : decode cX7_swingWithPause 43 = .ok (.bipush 60, 2) := by decide +kernel
theorem dX7_swingWithPause_45 : decode cX7_swingWithPause 45 = .ok (.if_icmp .gt 43, 3) := by decide +kernel
theorem dX7_swingWithPause_48 : decode cX7_swingWithPause 48 = .ok (.aload_n 0, 1) := by decide +kernel
theorem dX7_swingWithPause_49 : decode cX7_swingWithPause 49 = .ok (.getfield 19, 3) := by decide +kernel
theorem dX7_swingWithPause_52 : decode cX7_swingWithPause 52 = .ok (.aload_n 0, 1) := by decide +kernel
theorem dX7_swingWithPause_53 : decode cX7_swingWithPause 53 = .ok (.getfield 26, 3) := by decide +kernel
theorem dX7_swingWithPause_56 : decode cX7_swingWithPause 56 = .ok (.invokevirtual 208, 3) := by decide +kernel
theorem dX7_swingWithPause_59 : decode cX7_swingWithPause 59 = .ok (.pop, 1) := by decide +kernel
theorem dX7_swingWithPause_60 : decode cX7_swingWithPause 60 = .ok (.iload 6, 2) := by decide +kernel
theorem dX7_swingWithPause_62 : decode cX7_swingWithPause 62 = .ok (.bipush 21, 2) := by decide +kernel
theorem dX7_swingWithPause_64 : decode cX7_swingWithPause 64 = .ok (.if_icmp .lt 18, 3) := by decide +kernel
theorem dX7_swingWithPause_67 : decode cX7_swingWithPause 67 = .ok (.iload 5, 2) := by decide +kernel
theorem dX7_swingWithPause_69 : decode cX7_swingWithPause 69 = .ok (.aload 4, 2) := by decide +kernel
theorem dX7_swingWithPause_71 : decode cX7_swingWithPause 71 = .ok (.getfield 148, 3) := by decide +kernel
theorem dX7_swingWithPause_74 : decode cX7_swingWithPause 74 = .ok (.invokestatic 209, 3) := by decide +kernel
theorem dX7_swingWithPause_77 : decode cX7_swingWithPause 77 = .ok (.invokestatic 214, 3) := by decide +kernel
theorem dX7_swingWithPause_80 : decode cX7_swingWithPause 80 = .ok (.istore 5, 2) := by decide +kernel
theorem dX7_swingWithPause_82 : decode cX7_swingWithPause 82 = .ok (.iinc 6 1, 3) := by decide +kernel
theorem dX7_swingWithPause_85 : decode cX7_swingWithPause 85 = .ok (.goto (-44), 3) := by decide +kernel
theorem dX7_swingWithPause_88 : decode cX7_swingWithPause 88 = .ok (.iload 5, 2) := by decide +kernel
theorem dX7_swingWithPause_90 : decode cX7_swingWithPause 90 = .ok (.ireturn, 1) := by decide +kernel
theorem dX7_isWithin_0 : decode cX7_isWithin 0 = .ok (.iload_n 0, 1) := by decide +kernel
theorem dX7_isWithin_1 : decode cX7_isWithin 1 = .ok (.iload_n 1, 1) := by decide +kernel
theorem dX7_isWithin_2 : decode cX7_isWithin 2 = .ok (.if_icmp .lt 12, 3) := by decide +kernel
theorem dX7_isWithin_5 : decode cX7_isWithin 5 = .ok (.iload_n 0, 1) := by decide +kernel
theorem dX7_isWithin_6 : decode cX7_isWithin 6 = .ok (.iload_n 2, 1) := by decide +kernel
theorem dX7_isWithin_7 : decode cX7_isWithin 7 = .ok (.if_icmp .gt 7, 3) := by decide +kernel
theorem dX7_isWithin_10 : decode cX7_isWithin 10 = .ok (.iconst 1, 1) := by decide +kernel
theorem dX7_isWithin_11 : decode cX7_isWithin 11 = .ok (.goto 4, 3) := by decide +kernel
theorem dX7_isWithin_14 : decode cX7_isWithin 14 = .ok (.iconst 0, 1) := by decide +kernel
theorem dX7_isWithin_15 : decode cX7_isWithin 15 = .ok (.ireturn, 1) := by decide +kernel
theorem dX7_isCrane_0 : decode cX7_isCrane 0 = .ok (.iload_n 0, 1) := by decide +kernel
theorem dX7_isCrane_1 : decode cX7_isCrane 1 = .ok (.ifCond .eq 8, 3) := by decide +kernel
theorem dX7_isCrane_4 : decode cX7_isCrane 4 = .ok (.iload_n 0, 1) := by decide +kernel
theorem dX7_isCrane_5 : decode cX7_isCrane 5 = .ok (.iconst 1, 1) := by decide +kernel
theorem dX7_isCrane_6 : decode cX7_isCrane 6 = .ok (.if_icmp .ne 7, 3) := by decide +kernel
theorem dX7_isCrane_9 : decode cX7_isCrane 9 = .ok (.iconst 1, 1) := by decide +kernel
theorem dX7_isCrane_10 : decode cX7_isCrane 10 = .ok (.goto 4, 3) := by decide +kernel
theorem dX7_isCrane_13 : decode cX7_isCrane 13 = .ok (.iconst 0, 1) := by decide +kernel
theorem dX7_isCrane_14 : decode cX7_isCrane 14 = .ok (.ireturn, 1) := by decide +kernel
set_option maxRecDepth 20000 in
theorem ggX7_isSpeed_X7_isWithin : GoodIn wsX7_isSpeed wsX7_isWithin := goodIn_r _ [4] (by decide +kernel) (by decide +kernel)
set_option maxRecDepth 20000 in
theorem gX7_isSpeed_X7_isWithin : GoodIn wsX7_isSpeed (va_wsS RX7 56 yX7_isWithin wsX7_isWithin) := goodIn_app (goodIn_of _ (by decide +kernel)) ggX7_isSpeed_X7_isWithin
theorem dX7_isSpeed_0 : decode cX7_isSpeed 0 = .ok (.iload_n 0, 1) := by decide +kernel
theorem dX7_isSpeed_1 : decode cX7_isSpeed 1 = .ok (.bipush (-40), 2) := by decide +kernel
theorem dX7_isSpeed_3 : decode cX7_isSpeed 3 = .ok (.bipush 40, 2) := by decide +kernel
theorem dX7_isSpeed_5 : decode cX7_isSpeed 5 = .ok (.invokestatic 56, 3) := by decide +kernel
theorem dX7_isSpeed_8 : decode cX7_isSpeed 8 = .ok (.ireturn, 1) := by decide +kernel
set_option maxRecDepth 20000 in
theorem ggX7_isRope_X7_isWithin : GoodIn wsX7_isRope wsX7_isWithin := goodIn_r _ [4] (by decide +kernel) (by decide +kernel)
set_option maxRecDepth 20000 in
theorem gX7_isRope_X7_isWithin : GoodIn wsX7_isRope (va_wsS RX7 56 yX7_isWithin wsX7_isWithin) := goodIn_app (goodIn_of _ (by decide +kernel)) ggX7_isRope_X7_isWithin
theorem dX7_isRope_0 : decode cX7_isRope 0 = .ok (.iload_n 0, 1) := by decide +kernel
theorem dX7_isRope_1 : decode cX7_isRope 1 = .ok (.bipush 10, 2) := by decide +kernel
theorem dX7_isRope_3 : decode cX7_isRope 3 = .ok (.bipush 60, 2) := by decide +kernel
theorem dX7_isRope_5 : decode cX7_isRope 5 = .ok (.invokestatic 56, 3) := by decide +kernel
theorem dX7_isRope_8 : decode cX7_isRope 8 = .ok (.ireturn, 1) := by decide +kernel
theorem dX7_keptWithin_0 : decode cX7_keptWithin 0 = .ok (.iload_n 1, 1) := by decide +kernel
theorem dX7_keptWithin_1 : decode cX7_keptWithin 1 = .ok (.ineg, 1) := by decide +kernel
theorem dX7_keptWithin_2 : decode cX7_keptWithin 2 = .ok (.iload_n 0, 1) := by decide +kernel
theorem dX7_keptWithin_3 : decode cX7_keptWithin 3 = .ok (.iload_n 1, 1) := by decide +kernel
theorem dX7_keptWithin_4 : decode cX7_keptWithin 4 = .ok (.invokestatic 239, 3) := by decide +kernel
theorem dX7_keptWithin_7 : decode cX7_keptWithin 7 = .ok (.invokestatic 214, 3) := by decide +kernel
theorem dX7_keptWithin_10 : decode cX7_keptWithin 10 = .ok (.ireturn, 1) := by decide +kernel
theorem dX7_wayToStop_0 : decode cX7_wayToStop 0 = .ok (.iload_n 1, 1) := by decide +kernel
theorem dX7_wayToStop_1 : decode cX7_wayToStop 1 = .ok (.iconst 1, 1) := by decide +kernel
theorem dX7_wayToStop_2 : decode cX7_wayToStop 2 = .ok (.if_icmp .ge 5, 3) := by decide +kernel
theorem dX7_wayToStop_5 : decode cX7_wayToStop 5 = .ok (.iconst 0, 1) := by decide +kernel
theorem dX7_wayToStop_6 : decode cX7_wayToStop 6 = .ok (.ireturn, 1) := by decide +kernel
theorem dX7_wayToStop_7 : decode cX7_wayToStop 7 = .ok (.iload_n 0, 1) := by decide +kernel
theorem dX7_wayToStop_8 : decode cX7_wayToStop 8 = .ok (.invokestatic 209, 3) := by decide +kernel
theorem dX7_wayToStop_11 : decode cX7_wayToStop 11 = .ok (.istore_n 2, 1) := by decide +kernel
theorem dX7_wayToStop_12 : decode cX7_wayToStop 12 = .ok (.iload_n 2, 1) := by decide +kernel
theorem dX7_wayToStop_13 : decode cX7_wayToStop 13 = .ok (.iload_n 1, 1) := by decide +kernel
theorem dX7_wayToStop_14 : decode cX7_wayToStop 14 = .ok (.iadd, 1) := by decide +kernel
theorem dX7_wayToStop_15 : decode cX7_wayToStop 15 = .ok (.iconst 1, 1) := by decide +kernel
theorem dX7_wayToStop_16 : decode cX7_wayToStop 16 = .ok (.isub, 1) := by decide +kernel
theorem dX7_wayToStop_17 : decode cX7_wayToStop 17 = .ok (.iload_n 1, 1) := by decide +kernel
theorem dX7_wayToStop_18 : decode cX7_wayToStop 18 = .ok (.idiv, 1) := by decide +kernel
theorem dX7_wayToStop_19 : decode cX7_wayToStop 19 = .ok (.istore_n 3, 1) := by decide +kernel
theorem dX7_wayToStop_20 : decode cX7_wayToStop 20 = .ok (.iload_n 3, 1) := by decide +kernel
theorem dX7_wayToStop_21 : decode cX7_wayToStop 21 = .ok (.iload_n 2, 1) := by decide +kernel
theorem dX7_wayToStop_22 : decode cX7_wayToStop 22 = .ok (.imul, 1) := by decide +kernel
theorem dX7_wayToStop_23 : decode cX7_wayToStop 23 = .ok (.iload_n 1, 1) := by decide +kernel
theorem dX7_wayToStop_24 : decode cX7_wayToStop 24 = .ok (.iload_n 3, 1) := by decide +kernel
theorem dX7_wayToStop_25 : decode cX7_wayToStop 25 = .ok (.imul, 1) := by decide +kernel
theorem dX7_wayToStop_26 : decode cX7_wayToStop 26 = .ok (.iload_n 3, 1) := by decide +kernel
theorem dX7_wayToStop_27 : decode cX7_wayToStop 27 = .ok (.iconst 1, 1) := by decide +kernel
theorem dX7_wayToStop_28 : decode cX7_wayToStop 28 = .ok (.isub, 1) := by decide +kernel
theorem dX7_wayToStop_29 : decode cX7_wayToStop 29 = .ok (.imul, 1) := by decide +kernel
theorem dX7_wayToStop_30 : decode cX7_wayToStop 30 = .ok (.iconst 2, 1) := by decide +kernel
theorem dX7_wayToStop_31 : decode cX7_wayToStop 31 = .ok (.idiv, 1) := by decide +kernel
theorem dX7_wayToStop_32 : decode cX7_wayToStop 32 = .ok (.isub, 1) := by decide +kernel
theorem dX7_wayToStop_33 : decode cX7_wayToStop 33 = .ok (.ireturn, 1) := by decide +kernel
theorem dX7_halfSwing_0 : decode cX7_halfSwing 0 = .ok (.iconst 1, 1) := by decide +kernel
theorem dX7_halfSwing_1 : decode cX7_halfSwing 1 = .ok (.istore_n 1, 1) := by decide +kernel
theorem dX7_halfSwing_2 : decode cX7_halfSwing 2 = .ok (.iload_n 1, 1) := by decide +kernel
theorem dX7_halfSwing_3 : decode cX7_halfSwing 3 = .ok (.bipush 60, 2) := by decide +kernel
theorem dX7_halfSwing_5 : decode cX7_halfSwing 5 = .ok (.if_icmp .ge 21, 3) := by decide +kernel
theorem dX7_halfSwing_8 : decode cX7_halfSwing 8 = .ok (.bipush 8, 2) := by decide +kernel
theorem dX7_halfSwing_10 : decode cX7_halfSwing 10 = .ok (.iload_n 1, 1) := by decide +kernel
theorem dX7_halfSwing_11 : decode cX7_halfSwing 11 = .ok (.imul, 1) := by decide +kernel
theorem dX7_halfSwing_12 : decode cX7_halfSwing 12 = .ok (.iload_n 1, 1) := by decide +kernel
theorem dX7_halfSwing_13 : decode cX7_halfSwing 13 = .ok (.imul, 1) := by decide +kernel
theorem dX7_halfSwing_14 : decode cX7_halfSwing 14 = .ok (.iconst 5, 1) := by decide +kernel
theorem dX7_halfSwing_15 : decode cX7_halfSwing 15 = .ok (.iload_n 0, 1) := by decide +kernel
theorem dX7_halfSwing_16 : decode cX7_halfSwing 16 = .ok (.imul, 1) := by decide +kernel
theorem dX7_halfSwing_17 : decode cX7_halfSwing 17 = .ok (.if_icmp .ge 9, 3) := by decide +kernel
theorem dX7_halfSwing_20 : decode cX7_halfSwing 20 = .ok (.iinc 1 1, 3) := by decide +kernel
theorem dX7_halfSwing_23 : decode cX7_halfSwing 23 = .ok (.goto (-21), 3) := by decide +kernel
theorem dX7_halfSwing_26 : decode cX7_halfSwing 26 = .ok (.iload_n 1, 1) := by decide +kernel
theorem dX7_halfSwing_27 : decode cX7_halfSwing 27 = .ok (.ireturn, 1) := by decide +kernel
set_option maxRecDepth 20000 in
theorem ggX8_init_X8_begins : GoodIn wsX8_init wsX8_begins := goodIn_r _ [15, 6, 16, 17, 18, 14, 19, 25, 26, 27, 28, 29, 30, 31, 32, 33] (by decide +kernel) (by decide +kernel)
set_option maxRecDepth 20000 in
theorem gX8_init_X8_begins : GoodIn wsX8_init (wsV RX8 28 RX8 yX8_begins wsX8_begins) := goodIn_app (goodIn_of _ (by decide +kernel)) ggX8_init_X8_begins
set_option maxRecDepth 20000 in
theorem ggX8_init_X8_takes : GoodIn wsX8_init wsX8_takes := goodIn_r _ [23, 5, 6, 24, 25, 26, 27, 28, 29, 30, 31, 32, 33] (by decide +kernel) (by decide +kernel)
set_option maxRecDepth 20000 in
theorem gX8_init_X8_takes : GoodIn wsX8_init (wsV RX8 31 RX8 yX8_takes wsX8_takes) := goodIn_app (goodIn_of _ (by decide +kernel)) ggX8_init_X8_takes
theorem dX8_init_0 : decode cX8_init 0 = .ok (.aload_n 0, 1) := by decide +kernel
theorem dX8_init_1 : decode cX8_init 1 = .ok (.invokespecial 1, 3) := by decide +kernel
theorem dX8_init_4 : decode cX8_init 4 = .ok (.aload_n 0, 1) := by decide +kernel
theorem dX8_init_5 : decode cX8_init 5 = .ok (.sipush 515, 3) := by decide +kernel
theorem dX8_init_8 : decode cX8_init 8 = .ok (.newarray .int, 2) := by decide +kernel
theorem dX8_init_10 : decode cX8_init 10 = .ok (.putfield 7, 3) := by decide +kernel
theorem dX8_init_13 : decode cX8_init 13 = .ok (.aload_n 0, 1) := by decide +kernel
theorem dX8_init_14 : decode cX8_init 14 = .ok (.sipush 515, 3) := by decide +kernel
theorem dX8_init_17 : decode cX8_init 17 = .ok (.newarray .int, 2) := by decide +kernel
theorem dX8_init_19 : decode cX8_init 19 = .ok (.putfield 13, 3) := by decide +kernel
theorem dX8_init_22 : decode cX8_init 22 = .ok (.aload_n 0, 1) := by decide +kernel
theorem dX8_init_23 : decode cX8_init 23 = .ok (.bipush 33, 2) := by decide +kernel
theorem dX8_init_25 : decode cX8_init 25 = .ok (.newarray .int, 2) := by decide +kernel
theorem dX8_init_27 : decode cX8_init 27 = .ok (.putfield 16, 3) := by decide +kernel
theorem dX8_init_30 : decode cX8_init 30 = .ok (.aload_n 0, 1) := by decide +kernel
theorem dX8_init_31 : decode cX8_init 31 = .ok (.sipush 2060, 3) := by decide +kernel
theorem dX8_init_34 : decode cX8_init 34 = .ok (.newarray .int, 2) := by decide +kernel
theorem dX8_init_36 : decode cX8_init 36 = .ok (.putfield 19, 3) := by decide +kernel
theorem dX8_init_39 : decode cX8_init 39 = .ok (.aload_n 0, 1) := by decide +kernel
theorem dX8_init_40 : decode cX8_init 40 = .ok (.sipush 200, 3) := by decide +kernel
theorem dX8_init_43 : decode cX8_init 43 = .ok (.newarray .int, 2) := by decide +kernel
theorem dX8_init_45 : decode cX8_init 45 = .ok (.putfield 22, 3) := by decide +kernel
theorem dX8_init_48 : decode cX8_init 48 = .ok (.aload_n 0, 1) := by decide +kernel
theorem dX8_init_49 : decode cX8_init 49 = .ok (.iconst 4, 1) := by decide +kernel
theorem dX8_init_50 : decode cX8_init 50 = .ok (.newarray .int, 2) := by decide +kernel
theorem dX8_init_52 : decode cX8_init 52 = .ok (.putfield 25, 3) := by decide +kernel
theorem dX8_init_55 : decode cX8_init 55 = .ok (.aload_n 0, 1) := by decide +kernel
theorem dX8_init_56 : decode cX8_init 56 = .ok (.invokevirtual 28, 3) := by decide +kernel
theorem dX8_init_59 : decode cX8_init 59 = .ok (.aload_n 0, 1) := by decide +kernel
theorem dX8_init_60 : decode cX8_init 60 = .ok (.invokevirtual 31, 3) := by decide +kernel
theorem dX8_init_63 : decode cX8_init 63 = .ok (.return_, 1) := by decide +kernel
theorem dX8_in_0 : decode cX8_in 0 = .ok (.iload_n 0, 1) := by decide +kernel
theorem dX8_in_1 : decode cX8_in 1 = .ok (.iload_n 1, 1) := by decide +kernel
theorem dX8_in_2 : decode cX8_in 2 = .ok (.if_icmp .lt 12, 3) := by decide +kernel
theorem dX8_in_5 : decode cX8_in 5 = .ok (.iload_n 0, 1) := by decide +kernel
theorem dX8_in_6 : decode cX8_in 6 = .ok (.iload_n 2, 1) := by decide +kernel
theorem dX8_in_7 : decode cX8_in 7 = .ok (.if_icmp .gt 7, 3) := by decide +kernel
theorem dX8_in_10 : decode cX8_in 10 = .ok (.iconst 1, 1) := by decide +kernel
theorem dX8_in_11 : decode cX8_in 11 = .ok (.goto 4, 3) := by decide +kernel
theorem dX8_in_14 : decode cX8_in 14 = .ok (.iconst 0, 1) := by decide +kernel
theorem dX8_in_15 : decode cX8_in 15 = .ok (.ireturn, 1) := by decide +kernel
theorem dX8_size_0 : decode cX8_size 0 = .ok (.iload_n 0, 1) := by decide +kernel
theorem dX8_size_1 : decode cX8_size 1 = .ok (.ifCond .ge 8, 3) := by decide +kernel
theorem dX8_size_4 : decode cX8_size 4 = .ok (.iload_n 0, 1) := by decide +kernel
theorem dX8_size_5 : decode cX8_size 5 = .ok (.ineg, 1) := by decide +kernel
theorem dX8_size_6 : decode cX8_size 6 = .ok (.goto 4, 3) := by decide +kernel
theorem dX8_size_9 : decode cX8_size 9 = .ok (.iload_n 0, 1) := by decide +kernel
theorem dX8_size_10 : decode cX8_size 10 = .ok (.ireturn, 1) := by decide +kernel
set_option maxRecDepth 20000 in
theorem ggX8_begins_X8_puts : GoodIn wsX8_begins wsX8_puts := goodIn_r _ [6, 1, 7, 8, 9, 10, 11, 12, 13, 14, 15] (by decide +kernel) (by decide +kernel)
set_option maxRecDepth 20000 in
theorem gX8_begins_X8_puts : GoodIn wsX8_begins (wsV RX8 34 RX8 yX8_puts wsX8_puts) := goodIn_app (goodIn_of _ (by decide +kernel)) ggX8_begins_X8_puts
theorem dX8_begins_0 : decode cX8_begins 0 = .ok (.iconst 0, 1) := by decide +kernel
theorem dX8_begins_1 : decode cX8_begins 1 = .ok (.istore_n 1, 1) := by decide +kernel
theorem dX8_begins_2 : decode cX8_begins 2 = .ok (.iload_n 1, 1) := by decide +kernel
theorem dX8_begins_3 : decode cX8_begins 3 = .ok (.sipush 515, 3) := by decide +kernel
theorem dX8_begins_6 : decode cX8_begins 6 = .ok (.if_icmp .ge 16, 3) := by decide +kernel
theorem dX8_begins_9 : decode cX8_begins 9 = .ok (.aload_n 0, 1) := by decide +kernel
theorem dX8_begins_10 : decode cX8_begins 10 = .ok (.getfield 13, 3) := by decide +kernel
theorem dX8_begins_13 : decode cX8_begins 13 = .ok (.iload_n 1, 1) := by decide +kernel
theorem dX8_begins_14 : decode cX8_begins 14 = .ok (.iconst 0, 1) := by decide +kernel
theorem dX8_begins_15 : decode cX8_begins 15 = .ok (.iastore, 1) := by decide +kernel
theorem dX8_begins_16 : decode cX8_begins 16 = .ok (.iinc 1 1, 3) := by decide +kernel
theorem dX8_begins_19 : decode cX8_begins 19 = .ok (.goto (-17), 3) := by decide +kernel
theorem dX8_begins_22 : decode cX8_begins 22 = .ok (.aload_n 0, 1) := by decide +kernel
theorem dX8_begins_23 : decode cX8_begins 23 = .ok (.getfield 13, 3) := by decide +kernel
theorem dX8_begins_26 : decode cX8_begins 26 = .ok (.iconst 0, 1) := by decide +kernel
theorem dX8_begins_27 : decode cX8_begins 27 = .ok (.sipush 600, 3) := by decide +kernel
theorem dX8_begins_30 : decode cX8_begins 30 = .ok (.iastore, 1) := by decide +kernel
theorem dX8_begins_31 : decode cX8_begins 31 = .ok (.aload_n 0, 1) := by decide +kernel
theorem dX8_begins_32 : decode cX8_begins 32 = .ok (.getfield 13, 3) := by decide +kernel
theorem dX8_begins_35 : decode cX8_begins 35 = .ok (.iconst 1, 1) := by decide +kernel
theorem dX8_begins_36 : decode cX8_begins 36 = .ok (.bipush 40, 2) := by decide +kernel
theorem dX8_begins_38 : decode cX8_begins 38 = .ok (.iastore, 1) := by decide +kernel
theorem dX8_begins_39 : decode cX8_begins 39 = .ok (.aload_n 0, 1) := by decide +kernel
theorem dX8_begins_40 : decode cX8_begins 40 = .ok (.getfield 13, 3) := by decide +kernel
theorem dX8_begins_43 : decode cX8_begins 43 = .ok (.iconst 2, 1) := by decide +kernel
theorem dX8_begins_44 : decode cX8_begins 44 = .ok (.iconst 2, 1) := by decide +kernel
theorem dX8_begins_45 : decode cX8_begins 45 = .ok (.iastore, 1) := by decide +kernel
theorem dX8_begins_46 : decode cX8_begins 46 = .ok (.aload_n 0, 1) := by decide +kernel
theorem dX8_begins_47 : decode cX8_begins 47 = .ok (.getfield 13, 3) := by decide +kernel
theorem dX8_begins_50 : decode cX8_begins 50 = .ok (.iconst 3, 1) := by decide +kernel
theorem dX8_begins_51 : decode cX8_begins 51 = .ok (.bipush 12, 2) := by decide +kernel
theorem dX8_begins_53 : decode cX8_begins 53 = .ok (.iastore, 1) := by decide +kernel
theorem dX8_begins_54 : decode cX8_begins 54 = .ok (.aload_n 0, 1) := by decide +kernel
theorem dX8_begins_55 : decode cX8_begins 55 = .ok (.getfield 13, 3) := by decide +kernel
theorem dX8_begins_58 : decode cX8_begins 58 = .ok (.iconst 4, 1) := by decide +kernel
theorem dX8_begins_59 : decode cX8_begins 59 = .ok (.bipush 6, 2) := by decide +kernel
theorem dX8_begins_61 : decode cX8_begins 61 = .ok (.iastore, 1) := by decide +kernel
theorem dX8_begins_62 : decode cX8_begins 62 = .ok (.aload_n 0, 1) := by decide +kernel
theorem dX8_begins_63 : decode cX8_begins 63 = .ok (.getfield 13, 3) := by decide +kernel
theorem dX8_begins_66 : decode cX8_begins 66 = .ok (.iconst 5, 1) := by decide +kernel
theorem dX8_begins_67 : decode cX8_begins 67 = .ok (.bipush (-4), 2) := by decide +kernel
theorem dX8_begins_69 : decode cX8_begins 69 = .ok (.iastore, 1) := by decide +kernel
theorem dX8_begins_70 : decode cX8_begins 70 = .ok (.aload_n 0, 1) := by decide +kernel
theorem dX8_begins_71 : decode cX8_begins 71 = .ok (.iconst 0, 1) := by decide +kernel
theorem dX8_begins_72 : decode cX8_begins 72 = .ok (.bipush 100, 2) := by decide +kernel
theorem dX8_begins_74 : decode cX8_begins 74 = .ok (.bipush 30, 2) := by decide +kernel
theorem dX8_begins_76 : decode cX8_begins 76 = .ok (.iconst 0, 1) := by decide +kernel
theorem dX8_begins_77 : decode cX8_begins 77 = .ok (.invokevirtual 34, 3) := by decide +kernel
theorem dX8_begins_80 : decode cX8_begins 80 = .ok (.aload_n 0, 1) := by decide +kernel
theorem dX8_begins_81 : decode cX8_begins 81 = .ok (.iconst 1, 1) := by decide +kernel
theorem dX8_begins_82 : decode cX8_begins 82 = .ok (.sipush 500, 3) := by decide +kernel
theorem dX8_begins_85 : decode cX8_begins 85 = .ok (.bipush 30, 2) := by decide +kernel
theorem dX8_begins_87 : decode cX8_begins 87 = .ok (.iconst 0, 1) := by decide +kernel
theorem dX8_begins_88 : decode cX8_begins 88 = .ok (.invokevirtual 34, 3) := by decide +kernel
theorem dX8_begins_91 : decode cX8_begins 91 = .ok (.return_, 1) := by decide +kernel
theorem dX8_puts_0 : decode cX8_puts 0 = .ok (.bipush 7, 2) := by decide +kernel
theorem dX8_puts_2 : decode cX8_puts 2 = .ok (.bipush 13, 2) := by decide +kernel
theorem dX8_puts_4 : decode cX8_puts 4 = .ok (.iload_n 1, 1) := by decide +kernel
theorem dX8_puts_5 : decode cX8_puts 5 = .ok (.imul, 1) := by decide +kernel
theorem dX8_puts_6 : decode cX8_puts 6 = .ok (.iadd, 1) := by decide +kernel
theorem dX8_puts_7 : decode cX8_puts 7 = .ok (.istore 5, 2) := by decide +kernel
theorem dX8_puts_9 : decode cX8_puts 9 = .ok (.aload_n 0, 1) := by decide +kernel
theorem dX8_puts_10 : decode cX8_puts 10 = .ok (.getfield 13, 3) := by decide +kernel
theorem dX8_puts_13 : decode cX8_puts 13 = .ok (.iload 5, 2) := by decide +kernel
theorem dX8_puts_15 : decode cX8_puts 15 = .ok (.iconst 0, 1) := by decide +kernel
theorem dX8_puts_16 : decode cX8_puts 16 = .ok (.iadd, 1) := by decide +kernel
theorem dX8_puts_17 : decode cX8_puts 17 = .ok (.iload_n 2, 1) := by decide +kernel
theorem dX8_puts_18 : decode cX8_puts 18 = .ok (.iastore, 1) := by decide +kernel
theorem dX8_puts_19 : decode cX8_puts 19 = .ok (.aload_n 0, 1) := by decide +kernel
theorem dX8_puts_20 : decode cX8_puts 20 = .ok (.getfield 13, 3) := by decide +kernel
theorem dX8_puts_23 : decode cX8_puts 23 = .ok (.iload 5, 2) := by decide +kernel
theorem dX8_puts_25 : decode cX8_puts 25 = .ok (.iconst 2, 1) := by decide +kernel
theorem dX8_puts_26 : decode cX8_puts 26 = .ok (.iadd, 1) := by decide +kernel
theorem dX8_puts_27 : decode cX8_puts 27 = .ok (.iload_n 3, 1) := by decide +kernel
theorem dX8_puts_28 : decode cX8_puts 28 = .ok (.iastore, 1) := by decide +kernel
theorem dX8_puts_29 : decode cX8_puts 29 = .ok (.aload_n 0, 1) := by decide +kernel
theorem dX8_puts_30 : decode cX8_puts 30 = .ok (.getfield 13, 3) := by decide +kernel
theorem dX8_puts_33 : decode cX8_puts 33 = .ok (.iload 5, 2) := by decide +kernel
theorem dX8_puts_35 : decode cX8_puts 35 = .ok (.iconst 3, 1) := by decide +kernel
theorem dX8_puts_36 : decode cX8_puts 36 = .ok (.iadd, 1) := by decide +kernel
theorem dX8_puts_37 : decode cX8_puts 37 = .ok (.iload 4, 2) := by decide +kernel
theorem dX8_puts_39 : decode cX8_puts 39 = .ok (.iastore, 1) := by decide +kernel
theorem dX8_puts_40 : decode cX8_puts 40 = .ok (.aload_n 0, 1) := by decide +kernel
theorem dX8_puts_41 : decode cX8_puts 41 = .ok (.getfield 13, 3) := by decide +kernel
theorem dX8_puts_44 : decode cX8_puts 44 = .ok (.iload 5, 2) := by decide +kernel
theorem dX8_puts_46 : decode cX8_puts 46 = .ok (.bipush 7, 2) := by decide +kernel
theorem dX8_puts_48 : decode cX8_puts 48 = .ok (.iadd, 1) := by decide +kernel
theorem dX8_puts_49 : decode cX8_puts 49 = .ok (.iload_n 3, 1) := by decide +kernel
theorem dX8_puts_50 : decode cX8_puts 50 = .ok (.iastore, 1) := by decide +kernel
theorem dX8_puts_51 : decode cX8_puts 51 = .ok (.return_, 1) := by decide +kernel
theorem dX8_takes_0 : decode cX8_takes 0 = .ok (.iconst 0, 1) := by decide +kernel
theorem dX8_takes_1 : decode cX8_takes 1 = .ok (.istore_n 1, 1) := by decide +kernel
theorem dX8_takes_2 : decode cX8_takes 2 = .ok (.iload_n 1, 1) := by decide +kernel
theorem dX8_takes_3 : decode cX8_takes 3 = .ok (.sipush 515, 3) := by decide +kernel
theorem dX8_takes_6 : decode cX8_takes 6 = .ok (.if_icmp .ge 21, 3) := by decide +kernel
theorem dX8_takes_9 : decode cX8_takes 9 = .ok (.aload_n 0, 1) := by decide +kernel
theorem dX8_takes_10 : decode cX8_takes 10 = .ok (.getfield 7, 3) := by decide +kernel
theorem dX8_takes_13 : decode cX8_takes 13 = .ok (.iload_n 1, 1) := by decide +kernel
theorem dX8_takes_14 : decode cX8_takes 14 = .ok (.aload_n 0, 1) := by decide +kernel
theorem dX8_takes_15 : decode cX8_takes 15 = .ok (.getfield 13, 3) := by decide +kernel
theorem dX8_takes_18 : decode cX8_takes 18 = .ok (.iload_n 1, 1) := by decide +kernel
theorem dX8_takes_19 : decode cX8_takes 19 = .ok (.iaload, 1) := by decide +kernel
theorem dX8_takes_20 : decode cX8_takes 20 = .ok (.iastore, 1) := by decide +kernel
theorem dX8_takes_21 : decode cX8_takes 21 = .ok (.iinc 1 1, 3) := by decide +kernel
theorem dX8_takes_24 : decode cX8_takes 24 = .ok (.goto (-22), 3) := by decide +kernel
theorem dX8_takes_27 : decode cX8_takes 27 = .ok (.aload_n 0, 1) := by decide +kernel
theorem dX8_takes_28 : decode cX8_takes 28 = .ok (.iconst 0, 1) := by decide +kernel
theorem dX8_takes_29 : decode cX8_takes 29 = .ok (.putfield 38, 3) := by decide +kernel
theorem dX8_takes_32 : decode cX8_takes 32 = .ok (.return_, 1) := by decide +kernel
set_option maxRecDepth 20000 in
theorem ggX8_isAt_X8_in : GoodIn wsX8_isAt wsX8_in := goodIn_r _ [7] (by decide +kernel) (by decide +kernel)
set_option maxRecDepth 20000 in
theorem gX8_isAt_X8_in : GoodIn wsX8_isAt (va_wsS RX8 48 yX8_in wsX8_in) := goodIn_app (goodIn_of _ (by decide +kernel)) ggX8_isAt_X8_in
theorem dX8_isAt_0 : decode cX8_isAt 0 = .ok (.aload_n 0, 1) := by decide +kernel
theorem dX8_isAt_1 : decode cX8_isAt 1 = .ok (.getfield 42, 3) := by decide +kernel
theorem dX8_isAt_4 : decode cX8_isAt 4 = .ok (.aload_n 0, 1) := by decide +kernel
theorem dX8_isAt_5 : decode cX8_isAt 5 = .ok (.getfield 45, 3) := by decide +kernel
theorem dX8_isAt_8 : decode cX8_isAt 8 = .ok (.if_icmp .ge 24, 3) := by decide +kernel
theorem dX8_isAt_11 : decode cX8_isAt 11 = .ok (.aload_n 0, 1) := by decide +kernel
theorem dX8_isAt_12 : decode cX8_isAt 12 = .ok (.getfield 22, 3) := by decide +kernel
theorem dX8_isAt_15 : decode cX8_isAt 15 = .ok (.aload_n 0, 1) := by decide +kernel
theorem dX8_isAt_16 : decode cX8_isAt 16 = .ok (.getfield 42, 3) := by decide +kernel
theorem dX8_isAt_19 : decode cX8_isAt 19 = .ok (.iaload, 1) := by decide +kernel
theorem dX8_isAt_20 : decode cX8_isAt 20 = .ok (.iload_n 1, 1) := by decide +kernel
theorem dX8_isAt_21 : decode cX8_isAt 21 = .ok (.iload_n 2, 1) := by decide +kernel
theorem dX8_isAt_22 : decode cX8_isAt 22 = .ok (.invokestatic 48, 3) := by decide +kernel
theorem dX8_isAt_25 : decode cX8_isAt 25 = .ok (.ifCond .eq 7, 3) := by decide +kernel
theorem dX8_isAt_28 : decode cX8_isAt 28 = .ok (.iconst 1, 1) := by decide +kernel
theorem dX8_isAt_29 : decode cX8_isAt 29 = .ok (.goto 4, 3) := by decide +kernel
theorem dX8_isAt_32 : decode cX8_isAt 32 = .ok (.iconst 0, 1) := by decide +kernel
theorem dX8_isAt_33 : decode cX8_isAt 33 = .ok (.ireturn, 1) := by decide +kernel
set_option maxRecDepth 20000 in
theorem ggX8_takesNumber_X8_isAt : GoodIn wsX8_takesNumber wsX8_isAt := goodIn_r _ [8, 1, 9, 3, 10, 11, 7, 12, 13, 14, 15, 16, 17, 18, 19, 20, 21] (by decide +kernel) (by decide +kernel)
set_option maxRecDepth 20000 in
theorem gX8_takesNumber_X8_isAt : GoodIn wsX8_takesNumber (wsV RX8 52 RX8 yX8_isAt wsX8_isAt) := goodIn_app (goodIn_of _ (by decide +kernel)) ggX8_takesNumber_X8_isAt
theorem dX8_takesNumber_0 : decode cX8_takesNumber 0 = .ok (.aload_n 0, 1) := by decide +kernel
theorem dX8_takesNumber_1 : decode cX8_takesNumber 1 = .ok (.getfield 42, 3) := by decide +kernel
theorem dX8_takesNumber_4 : decode cX8_takesNumber 4 = .ok (.istore_n 2, 1) := by decide +kernel
theorem dX8_takesNumber_5 : decode cX8_takesNumber 5 = .ok (.aload_n 0, 1) := by decide +kernel
theorem dX8_takesNumber_6 : decode cX8_takesNumber 6 = .ok (.getfield 25, 3) := by decide +kernel
theorem dX8_takesNumber_9 : decode cX8_takesNumber 9 = .ok (.iload_n 1, 1) := by decide +kernel
theorem dX8_takesNumber_10 : decode cX8_takesNumber 10 = .ok (.iconst 0, 1) := by decide +kernel
theorem dX8_takesNumber_11 : decode cX8_takesNumber 11 = .ok (.iastore, 1) := by decide +kernel
theorem dX8_takesNumber_12 : decode cX8_takesNumber 12 = .ok (.aload_n 0, 1) := by decide +kernel
theorem dX8_takesNumber_13 : decode cX8_takesNumber 13 = .ok (.getfield 42, 3) := by decide +kernel
theorem dX8_takesNumber_16 : decode cX8_takesNumber 16 = .ok (.iload_n 2, 1) := by decide +kernel
theorem dX8_takesNumber_17 : decode cX8_takesNumber 17 = .ok (.iconst 3, 1) := by decide +kernel
theorem dX8_takesNumber_18 : decode cX8_takesNumber 18 = .ok (.iadd, 1) := by decide +kernel
theorem dX8_takesNumber_19 : decode cX8_takesNumber 19 = .ok (.if_icmp .ge 55, 3) := by decide +kernel
theorem dX8_takesNumber_22 : decode cX8_takesNumber 22 = .ok (.aload_n 0, 1) := by decide +kernel
theorem dX8_takesNumber_23 : decode cX8_takesNumber 23 = .ok (.bipush 48, 2) := by decide +kernel
theorem dX8_takesNumber_25 : decode cX8_takesNumber 25 = .ok (.bipush 57, 2) := by decide +kernel
theorem dX8_takesNumber_27 : decode cX8_takesNumber 27 = .ok (.invokevirtual 52, 3) := by decide +kernel
theorem dX8_takesNumber_30 : decode cX8_takesNumber 30 = .ok (.ifCond .eq 44, 3) := by decide +kernel
theorem dX8_takesNumber_33 : decode cX8_takesNumber 33 = .ok (.aload_n 0, 1) := by decide +kernel
theorem dX8_takesNumber_34 : decode cX8_takesNumber 34 = .ok (.getfield 25, 3) := by decide +kernel
theorem dX8_takesNumber_37 : decode cX8_takesNumber 37 = .ok (.iload_n 1, 1) := by decide +kernel
theorem dX8_takesNumber_38 : decode cX8_takesNumber 38 = .ok (.bipush 10, 2) := by decide +kernel
theorem dX8_takesNumber_40 : decode cX8_takesNumber 40 = .ok (.aload_n 0, 1) := by decide +kernel
theorem dX8_takesNumber_41 : decode cX8_takesNumber 41 = .ok (.getfield 25, 3) := by decide +kernel
theorem dX8_takesNumber_44 : decode cX8_takesNumber 44 = .ok (.iload_n 1, 1) := by decide +kernel
theorem dX8_takesNumber_45 : decode cX8_takesNumber 45 = .ok (.iaload, 1) := by decide +kernel
theorem dX8_takesNumber_46 : decode cX8_takesNumber 46 = .ok (.imul, 1) := by decide +kernel
theorem dX8_takesNumber_47 : decode cX8_takesNumber 47 = .ok (.aload_n 0, 1) := by decide +kernel
theorem dX8_takesNumber_48 : decode cX8_takesNumber 48 = .ok (.getfield 22, 3) := by decide +kernel
theorem dX8_takesNumber_51 : decode cX8_takesNumber 51 = .ok (.aload_n 0, 1) := by decide +kernel
theorem dX8_takesNumber_52 : decode cX8_takesNumber 52 = .ok (.getfield 42, 3) := by decide +kernel
theorem dX8_takesNumber_55 : decode cX8_takesNumber 55 = .ok (.iaload, 1) := by decide +kernel
theorem dX8_takesNumber_56 : decode cX8_takesNumber 56 = .ok (.iadd, 1) := by decide +kernel
theorem dX8_takesNumber_57 : decode cX8_takesNumber 57 = .ok (.bipush 48, 2) := by decide +kernel
theorem dX8_takesNumber_59 : decode cX8_takesNumber 59 = .ok (.isub, 1) := by decide +kernel
theorem dX8_takesNumber_60 : decode cX8_takesNumber 60 = .ok (.iastore, 1) := by decide +kernel
theorem dX8_takesNumber_61 : decode cX8_takesNumber 61 = .ok (.aload_n 0, 1) := by decide +kernel
theorem dX8_takesNumber_62 : decode cX8_takesNumber 62 = .ok (.dup, 1) := by decide +kernel
theorem dX8_takesNumber_63 : decode cX8_takesNumber 63 = .ok (.getfield 42, 3) := by decide +kernel
theorem dX8_takesNumber_66 : decode cX8_takesNumber 66 = .ok (.iconst 1, 1) := by decide +kernel
theorem dX8_takesNumber_67 : decode cX8_takesNumber 67 = .ok (.iadd, 1) := by decide +kernel
theorem dX8_takesNumber_68 : decode cX8_takesNumber 68 = .ok (.putfield 42, 3) := by decide +kernel
theorem dX8_takesNumber_71 : decode cX8_takesNumber 71 = .ok (.goto (-59), 3) := by decide +kernel
theorem dX8_takesNumber_74 : decode cX8_takesNumber 74 = .ok (.aload_n 0, 1) := by decide +kernel
theorem dX8_takesNumber_75 : decode cX8_takesNumber 75 = .ok (.getfield 42, 3) := by decide +kernel
theorem dX8_takesNumber_78 : decode cX8_takesNumber 78 = .ok (.iload_n 2, 1) := by decide +kernel
theorem dX8_takesNumber_79 : decode cX8_takesNumber 79 = .ok (.if_icmp .le 7, 3) := by decide +kernel
theorem dX8_takesNumber_82 : decode cX8_takesNumber 82 = .ok (.iconst 1, 1) := by decide +kernel
theorem dX8_takesNumber_83 : decode cX8_takesNumber 83 = .ok (.goto 4, 3) := by decide +kernel
theorem dX8_takesNumber_86 : decode cX8_takesNumber 86 = .ok (.iconst 0, 1) := by decide +kernel
theorem dX8_takesNumber_87 : decode cX8_takesNumber 87 = .ok (.ireturn, 1) := by decide +kernel
set_option maxRecDepth 20000 in
theorem ggX8_takesNumbers_X8_takesNumber : GoodIn wsX8_takesNumbers wsX8_takesNumber := goodIn_r _ [6, 1, 7, 8, 9, 10, 11, 5, 12, 13, 14, 15, 16, 17, 18, 19, 20, 21, 22, 23, 24, 25] (by decide +kernel) (by decide +kernel)
set_option maxRecDepth 20000 in
theorem gX8_takesNumbers_X8_takesNumber : GoodIn wsX8_takesNumbers (wsV RX8 56 RX8 yX8_takesNumber wsX8_takesNumber) := goodIn_app (goodIn_of _ (by decide +kernel)) ggX8_takesNumbers_X8_takesNumber
set_option maxRecDepth 20000 in
theorem ggX8_takesNumbers_X8_isAt : GoodIn wsX8_takesNumbers wsX8_isAt := goodIn_r _ [12, 1, 13, 8, 14, 15, 5, 16, 17, 18, 19, 20, 21, 22, 23, 24, 25] (by decide +kernel) (by decide +kernel)
set_option maxRecDepth 20000 in
theorem gX8_takesNumbers_X8_isAt : GoodIn wsX8_takesNumbers (wsV RX8 52 RX8 yX8_isAt wsX8_isAt) := goodIn_app (goodIn_of _ (by decide +kernel)) ggX8_takesNumbers_X8_isAt
theorem dX8_takesNumbers_0 : decode cX8_takesNumbers 0 = .ok (.iconst 0, 1) := by decide +kernel
theorem dX8_takesNumbers_1 : decode cX8_takesNumbers 1 = .ok (.istore_n 2, 1) := by decide +kernel
theorem dX8_takesNumbers_2 : decode cX8_takesNumbers 2 = .ok (.iload_n 2, 1) := by decide +kernel
theorem dX8_takesNumbers_3 : decode cX8_takesNumbers 3 = .ok (.iload_n 1, 1) := by decide +kernel
theorem dX8_takesNumbers_4 : decode cX8_takesNumbers 4 = .ok (.if_icmp .ge 53, 3) := by decide +kernel
theorem dX8_takesNumbers_7 : decode cX8_takesNumbers 7 = .ok (.iload_n 2, 1) := by decide +kernel
theorem dX8_takesNumbers_8 : decode cX8_takesNumbers 8 = .ok (.iload_n 1, 1) := by decide +kernel
theorem dX8_takesNumbers_9 : decode cX8_takesNumbers 9 = .ok (.iconst 1, 1) := by decide +kernel
theorem dX8_takesNumbers_10 : decode cX8_takesNumbers 10 = .ok (.isub, 1) := by decide +kernel
theorem dX8_takesNumbers_11 : decode cX8_takesNumbers 11 = .ok (.if_icmp .ne 8, 3) := by decide +kernel
theorem dX8_takesNumbers_14 : decode cX8_takesNumbers 14 = .ok (.bipush 59, 2) := by decide +kernel
theorem dX8_takesNumbers_16 : decode cX8_takesNumbers 16 = .ok (.goto 5, 3) := by decide +kernel
theorem dX8_takesNumbers_19 : decode cX8_takesNumbers 19 = .ok (.bipush 44, 2) := by decide +kernel
theorem dX8_takesNumbers_21 : decode cX8_takesNumbers 21 = .ok (.istore_n 3, 1) := by decide +kernel
theorem dX8_takesNumbers_22 : decode cX8_takesNumbers 22 = .ok (.aload_n 0, 1) := by decide +kernel
theorem dX8_takesNumbers_23 : decode cX8_takesNumbers 23 = .ok (.iload_n 2, 1) := by decide +kernel
theorem dX8_takesNumbers_24 : decode cX8_takesNumbers 24 = .ok (.invokevirtual 56, 3) := by decide +kernel
theorem dX8_takesNumbers_27 : decode cX8_takesNumbers 27 = .ok (.ifCond .eq 12, 3) := by decide +kernel
theorem dX8_takesNumbers_30 : decode cX8_takesNumbers 30 = .ok (.aload_n 0, 1) := by decide +kernel
theorem dX8_takesNumbers_31 : decode cX8_takesNumbers 31 = .ok (.iload_n 3, 1) := by decide +kernel
theorem dX8_takesNumbers_32 : decode cX8_takesNumbers 32 = .ok (.iload_n 3, 1) := by decide +kernel
theorem dX8_takesNumbers_33 : decode cX8_takesNumbers 33 = .ok (.invokevirtual 52, 3) := by decide +kernel
theorem dX8_takesNumbers_36 : decode cX8_takesNumbers 36 = .ok (.ifCond .ne 5, 3) := by decide +kernel
theorem dX8_takesNumbers_39 : decode cX8_takesNumbers 39 = .ok (.iconst 0, 1) := by decide +kernel
theorem dX8_takesNumbers_40 : decode cX8_takesNumbers 40 = .ok (.ireturn, 1) := by decide +kernel
theorem dX8_takesNumbers_41 : decode cX8_takesNumbers 41 = .ok (.aload_n 0, 1) := by decide +kernel
theorem dX8_takesNumbers_42 : decode cX8_takesNumbers 42 = .ok (.dup, 1) := by decide +kernel
theorem dX8_takesNumbers_43 : decode cX8_takesNumbers 43 = .ok (.getfield 42, 3) := by decide +kernel
theorem dX8_takesNumbers_46 : decode cX8_takesNumbers 46 = .ok (.iconst 1, 1) := by decide +kernel
theorem dX8_takesNumbers_47 : decode cX8_takesNumbers 47 = .ok (.iadd, 1) := by decide +kernel
theorem dX8_takesNumbers_48 : decode cX8_takesNumbers 48 = .ok (.putfield 42, 3) := by decide +kernel
theorem dX8_takesNumbers_51 : decode cX8_takesNumbers 51 = .ok (.iinc 2 1, 3) := by decide +kernel
theorem dX8_takesNumbers_54 : decode cX8_takesNumbers 54 = .ok (.goto (-52), 3) := by decide +kernel
theorem dX8_takesNumbers_57 : decode cX8_takesNumbers 57 = .ok (.iconst 1, 1) := by decide +kernel
theorem dX8_takesNumbers_58 : decode cX8_takesNumbers 58 = .ok (.ireturn, 1) := by decide +kernel
set_option maxRecDepth 20000 in
theorem ggX8_takesOne_X8_takesNumbers : GoodIn wsX8_takesOne wsX8_takesNumbers := goodIn_r _ [7, 8, 9, 10, 11, 6, 12, 1, 13, 14, 15, 16, 17, 18, 19, 20, 21, 22, 23, 24, 25, 26, 27, 28, 29, 30] (by decide +kernel) (by decide +kernel)
set_option maxRecDepth 20000 in
theorem gX8_takesOne_X8_takesNumbers : GoodIn wsX8_takesOne (wsV RX8 60 RX8 yX8_takesNumbers wsX8_takesNumbers) := goodIn_app (goodIn_of _ (by decide +kernel)) ggX8_takesOne_X8_takesNumbers
set_option maxRecDepth 20000 in
theorem ggX8_takesOne_X8_in : GoodIn wsX8_takesOne wsX8_in := goodIn_r _ [21] (by decide +kernel) (by decide +kernel)
set_option maxRecDepth 20000 in
theorem gX8_takesOne_X8_in : GoodIn wsX8_takesOne (va_wsS RX8 48 yX8_in wsX8_in) := goodIn_app (goodIn_of _ (by decide +kernel)) ggX8_takesOne_X8_in
theorem dX8_takesOne_0 : decode cX8_takesOne 0 = .ok (.aload_n 0, 1) := by decide +kernel
theorem dX8_takesOne_1 : decode cX8_takesOne 1 = .ok (.iconst 1, 1) := by decide +kernel
theorem dX8_takesOne_2 : decode cX8_takesOne 2 = .ok (.invokevirtual 60, 3) := by decide +kernel
theorem dX8_takesOne_5 : decode cX8_takesOne 5 = .ok (.ifCond .eq 21, 3) := by decide +kernel
theorem dX8_takesOne_8 : decode cX8_takesOne 8 = .ok (.aload_n 0, 1) := by decide +kernel
theorem dX8_takesOne_9 : decode cX8_takesOne 9 = .ok (.getfield 25, 3) := by decide +kernel
theorem dX8_takesOne_12 : decode cX8_takesOne 12 = .ok (.iconst 0, 1) := by decide +kernel
theorem dX8_takesOne_13 : decode cX8_takesOne 13 = .ok (.iaload, 1) := by decide +kernel
theorem dX8_takesOne_14 : decode cX8_takesOne 14 = .ok (.iload_n 2, 1) := by decide +kernel
theorem dX8_takesOne_15 : decode cX8_takesOne 15 = .ok (.iload_n 3, 1) := by decide +kernel
theorem dX8_takesOne_16 : decode cX8_takesOne 16 = .ok (.invokestatic 48, 3) := by decide +kernel
theorem dX8_takesOne_19 : decode cX8_takesOne 19 = .ok (.ifCond .eq 7, 3) := by decide +kernel
theorem dX8_takesOne_22 : decode cX8_takesOne 22 = .ok (.iconst 1, 1) := by decide +kernel
theorem dX8_takesOne_23 : decode cX8_takesOne 23 = .ok (.goto 4, 3) := by decide +kernel
theorem dX8_takesOne_26 : decode cX8_takesOne 26 = .ok (.iconst 0, 1) := by decide +kernel
theorem dX8_takesOne_27 : decode cX8_takesOne 27 = .ok (.istore 4, 2) := by decide +kernel
theorem dX8_takesOne_29 : decode cX8_takesOne 29 = .ok (.aload_n 0, 1) := by decide +kernel
theorem dX8_takesOne_30 : decode cX8_takesOne 30 = .ok (.getfield 13, 3) := by decide +kernel
theorem dX8_takesOne_33 : decode cX8_takesOne 33 = .ok (.iload_n 1, 1) := by decide +kernel
theorem dX8_takesOne_34 : decode cX8_takesOne 34 = .ok (.iload 4, 2) := by decide +kernel
theorem dX8_takesOne_36 : decode cX8_takesOne 36 = .ok (.ifCond .eq 12, 3) := by decide +kernel
theorem dX8_takesOne_39 : decode cX8_takesOne 39 = .ok (.aload_n 0, 1) := by decide +kernel
theorem dX8_takesOne_40 : decode cX8_takesOne 40 = .ok (.getfield 25, 3) := by decide +kernel
theorem dX8_takesOne_43 : decode cX8_takesOne 43 = .ok (.iconst 0, 1) := by decide +kernel
theorem dX8_takesOne_44 : decode cX8_takesOne 44 = .ok (.iaload, 1) := by decide +kernel
theorem dX8_takesOne_45 : decode cX8_takesOne 45 = .ok (.goto 9, 3) := by decide +kernel
theorem dX8_takesOne_48 : decode cX8_takesOne 48 = .ok (.aload_n 0, 1) := by decide +kernel
theorem dX8_takesOne_49 : decode cX8_takesOne 49 = .ok (.getfield 13, 3) := by decide +kernel
theorem dX8_takesOne_52 : decode cX8_takesOne 52 = .ok (.iload_n 1, 1) := by decide +kernel
theorem dX8_takesOne_53 : decode cX8_takesOne 53 = .ok (.iaload, 1) := by decide +kernel
theorem dX8_takesOne_54 : decode cX8_takesOne 54 = .ok (.iastore, 1) := by decide +kernel
theorem dX8_takesOne_55 : decode cX8_takesOne 55 = .ok (.iload 4, 2) := by decide +kernel
theorem dX8_takesOne_57 : decode cX8_takesOne 57 = .ok (.ireturn, 1) := by decide +kernel
set_option maxRecDepth 20000 in
theorem ggX8_takesCrane_X8_takesNumbers : GoodIn wsX8_takesCrane wsX8_takesNumbers := goodIn_r _ [6, 7, 8, 9, 10, 5, 11, 1, 12, 13, 14, 15, 16, 17, 18, 19, 20, 26, 27, 28, 29, 30, 31, 32, 33, 34] (by decide +kernel) (by decide +kernel)
set_option maxRecDepth 20000 in
theorem gX8_takesCrane_X8_takesNumbers : GoodIn wsX8_takesCrane (wsV RX8 60 RX8 yX8_takesNumbers wsX8_takesNumbers) := goodIn_app (goodIn_of _ (by decide +kernel)) ggX8_takesCrane_X8_takesNumbers
set_option maxRecDepth 20000 in
theorem ggX8_takesCrane_X8_in : GoodIn wsX8_takesCrane wsX8_in := goodIn_r _ [20] (by decide +kernel) (by decide +kernel)
set_option maxRecDepth 20000 in
theorem gX8_takesCrane_X8_in : GoodIn wsX8_takesCrane (va_wsS RX8 48 yX8_in wsX8_in) := goodIn_app (goodIn_of _ (by decide +kernel)) ggX8_takesCrane_X8_in
set_option maxRecDepth 20000 in
theorem ggX8_takesCrane_X8_puts : GoodIn wsX8_takesCrane wsX8_puts := goodIn_r _ [24, 25, 26, 27, 28, 29, 30, 31, 32, 33, 34] (by decide +kernel) (by decide +kernel)
set_option maxRecDepth 20000 in
theorem gX8_takesCrane_X8_puts : GoodIn wsX8_takesCrane (wsV RX8 34 RX8 yX8_puts wsX8_puts) := goodIn_app (goodIn_of _ (by decide +kernel)) ggX8_takesCrane_X8_puts
theorem dX8_takesCrane_0 : decode cX8_takesCrane 0 = .ok (.aload_n 0, 1) := by decide +kernel
theorem dX8_takesCrane_1 : decode cX8_takesCrane 1 = .ok (.iconst 4, 1) := by decide +kernel
theorem dX8_takesCrane_2 : decode cX8_takesCrane 2 = .ok (.invokevirtual 60, 3) := by decide +kernel
theorem dX8_takesCrane_5 : decode cX8_takesCrane 5 = .ok (.ifCond .eq 44, 3) := by decide +kernel
theorem dX8_takesCrane_8 : decode cX8_takesCrane 8 = .ok (.aload_n 0, 1) := by decide +kernel
theorem dX8_takesCrane_9 : decode cX8_takesCrane 9 = .ok (.getfield 25, 3) := by decide +kernel
theorem dX8_takesCrane_12 : decode cX8_takesCrane 12 = .ok (.iconst 0, 1) := by decide +kernel
theorem dX8_takesCrane_13 : decode cX8_takesCrane 13 = .ok (.iaload, 1) := by decide +kernel
theorem dX8_takesCrane_14 : decode cX8_takesCrane 14 = .ok (.iconst 2, 1) := by decide +kernel
theorem dX8_takesCrane_15 : decode cX8_takesCrane 15 = .ok (.if_icmp .ge 34, 3) := by decide +kernel
theorem dX8_takesCrane_18 : decode cX8_takesCrane 18 = .ok (.aload_n 0, 1) := by decide +kernel
theorem dX8_takesCrane_19 : decode cX8_takesCrane 19 = .ok (.getfield 25, 3) := by decide +kernel
theorem dX8_takesCrane_22 : decode cX8_takesCrane 22 = .ok (.iconst 2, 1) := by decide +kernel
theorem dX8_takesCrane_23 : decode cX8_takesCrane 23 = .ok (.iaload, 1) := by decide +kernel
theorem dX8_takesCrane_24 : decode cX8_takesCrane 24 = .ok (.bipush 10, 2) := by decide +kernel
theorem dX8_takesCrane_26 : decode cX8_takesCrane 26 = .ok (.bipush 60, 2) := by decide +kernel
theorem dX8_takesCrane_28 : decode cX8_takesCrane 28 = .ok (.invokestatic 48, 3) := by decide +kernel
theorem dX8_takesCrane_31 : decode cX8_takesCrane 31 = .ok (.ifCond .eq 18, 3) := by decide +kernel
theorem dX8_takesCrane_34 : decode cX8_takesCrane 34 = .ok (.aload_n 0, 1) := by decide +kernel
theorem dX8_takesCrane_35 : decode cX8_takesCrane 35 = .ok (.getfield 25, 3) := by decide +kernel
theorem dX8_takesCrane_38 : decode cX8_takesCrane 38 = .ok (.iconst 3, 1) := by decide +kernel
theorem dX8_takesCrane_39 : decode cX8_takesCrane 39 = .ok (.iaload, 1) := by decide +kernel
theorem dX8_takesCrane_40 : decode cX8_takesCrane 40 = .ok (.bipush 100, 2) := by decide +kernel
theorem dX8_takesCrane_42 : decode cX8_takesCrane 42 = .ok (.if_icmp .ge 7, 3) := by decide +kernel
theorem dX8_takesCrane_45 : decode cX8_takesCrane 45 = .ok (.iconst 1, 1) := by decide +kernel
theorem dX8_takesCrane_46 : decode cX8_takesCrane 46 = .ok (.goto 4, 3) := by decide +kernel
theorem dX8_takesCrane_49 : decode cX8_takesCrane 49 = .ok (.iconst 0, 1) := by decide +kernel
theorem dX8_takesCrane_50 : decode cX8_takesCrane 50 = .ok (.istore_n 1, 1) := by decide +kernel
theorem dX8_takesCrane_51 : decode cX8_takesCrane 51 = .ok (.iload_n 1, 1) := by decide +kernel
theorem dX8_takesCrane_52 : decode cX8_takesCrane 52 = .ok (.ifCond .eq 31, 3) := by decide +kernel
theorem dX8_takesCrane_55 : decode cX8_takesCrane 55 = .ok (.aload_n 0, 1) := by decide +kernel
theorem dX8_takesCrane_56 : decode cX8_takesCrane 56 = .ok (.aload_n 0, 1) := by decide +kernel
theorem dX8_takesCrane_57 : decode cX8_takesCrane 57 = .ok (.getfield 25, 3) := by decide +kernel
theorem dX8_takesCrane_60 : decode cX8_takesCrane 60 = .ok (.iconst 0, 1) := by decide +kernel
theorem dX8_takesCrane_61 : decode cX8_takesCrane 61 = .ok (.iaload, 1) := by decide +kernel
theorem dX8_takesCrane_62 : decode cX8_takesCrane 62 = .ok (.aload_n 0, 1) := by decide +kernel
theorem dX8_takesCrane_63 : decode cX8_takesCrane 63 = .ok (.getfield 25, 3) := by decide +kernel
theorem dX8_takesCrane_66 : decode cX8_takesCrane 66 = .ok (.iconst 1, 1) := by decide +kernel
theorem dX8_takesCrane_67 : decode cX8_takesCrane 67 = .ok (.iaload, 1) := by decide +kernel
theorem dX8_takesCrane_68 : decode cX8_takesCrane 68 = .ok (.aload_n 0, 1) := by decide +kernel
theorem dX8_takesCrane_69 : decode cX8_takesCrane 69 = .ok (.getfield 25, 3) := by decide +kernel
theorem dX8_takesCrane_72 : decode cX8_takesCrane 72 = .ok (.iconst 2, 1) := by decide +kernel
theorem dX8_takesCrane_73 : decode cX8_takesCrane 73 = .ok (.iaload, 1) := by decide +kernel
theorem dX8_takesCrane_74 : decode cX8_takesCrane 74 = .ok (.aload_n 0, 1) := by decide +kernel
theorem dX8_takesCrane_75 : decode cX8_takesCrane 75 = .ok (.getfield 25, 3) := by decide +kernel
theorem dX8_takesCrane_78 : decode cX8_takesCrane 78 = .ok (.iconst 3, 1) := by decide +kernel
theorem dX8_takesCrane_79 : decode cX8_takesCrane 79 = .ok (.iaload, 1) := by decide +kernel
theorem dX8_takesCrane_80 : decode cX8_takesCrane 80 = .ok (.invokevirtual 34, 3) := by decide +kernel
theorem dX8_takesCrane_83 : decode cX8_takesCrane 83 = .ok (.iload_n 1, 1) := by decide +kernel
theorem dX8_takesCrane_84 : decode cX8_takesCrane 84 = .ok (.ireturn, 1) := by decide +kernel
set_option maxRecDepth 20000 in
theorem ggX8_takesMost_X8_takesNumbers : GoodIn wsX8_takesMost wsX8_takesNumbers := goodIn_r _ [7, 8, 9, 10, 11, 6, 12, 1, 13, 14, 15, 16, 17, 18, 19, 20, 21, 22, 23, 24, 25, 26, 27, 28, 29, 30] (by decide +kernel) (by decide +kernel)
set_option maxRecDepth 20000 in
theorem gX8_takesMost_X8_takesNumbers : GoodIn wsX8_takesMost (wsV RX8 60 RX8 yX8_takesNumbers wsX8_takesNumbers) := goodIn_app (goodIn_of _ (by decide +kernel)) ggX8_takesMost_X8_takesNumbers
set_option maxRecDepth 20000 in
theorem ggX8_takesMost_X8_in : GoodIn wsX8_takesMost wsX8_in := goodIn_r _ [21] (by decide +kernel) (by decide +kernel)
set_option maxRecDepth 20000 in
theorem gX8_takesMost_X8_in : GoodIn wsX8_takesMost (va_wsS RX8 48 yX8_in wsX8_in) := goodIn_app (goodIn_of _ (by decide +kernel)) ggX8_takesMost_X8_in
theorem dX8_takesMost_0 : decode cX8_takesMost 0 = .ok (.aload_n 0, 1) := by decide +kernel
theorem dX8_takesMost_1 : decode cX8_takesMost 1 = .ok (.iconst 3, 1) := by decide +kernel
theorem dX8_takesMost_2 : decode cX8_takesMost 2 = .ok (.invokevirtual 60, 3) := by decide +kernel
theorem dX8_takesMost_5 : decode cX8_takesMost 5 = .ok (.ifCond .eq 48, 3) := by decide +kernel
theorem dX8_takesMost_8 : decode cX8_takesMost 8 = .ok (.aload_n 0, 1) := by decide +kernel
theorem dX8_takesMost_9 : decode cX8_takesMost 9 = .ok (.getfield 25, 3) := by decide +kernel
theorem dX8_takesMost_12 : decode cX8_takesMost 12 = .ok (.iconst 0, 1) := by decide +kernel
theorem dX8_takesMost_13 : decode cX8_takesMost 13 = .ok (.iaload, 1) := by decide +kernel
theorem dX8_takesMost_14 : decode cX8_takesMost 14 = .ok (.iconst 1, 1) := by decide +kernel
theorem dX8_takesMost_15 : decode cX8_takesMost 15 = .ok (.bipush 9, 2) := by decide +kernel
theorem dX8_takesMost_17 : decode cX8_takesMost 17 = .ok (.invokestatic 48, 3) := by decide +kernel
theorem dX8_takesMost_20 : decode cX8_takesMost 20 = .ok (.ifCond .eq 33, 3) := by decide +kernel
theorem dX8_takesMost_23 : decode cX8_takesMost 23 = .ok (.aload_n 0, 1) := by decide +kernel
theorem dX8_takesMost_24 : decode cX8_takesMost 24 = .ok (.getfield 25, 3) := by decide +kernel
theorem dX8_takesMost_27 : decode cX8_takesMost 27 = .ok (.iconst 1, 1) := by decide +kernel
theorem dX8_takesMost_28 : decode cX8_takesMost 28 = .ok (.iaload, 1) := by decide +kernel
theorem dX8_takesMost_29 : decode cX8_takesMost 29 = .ok (.iconst 1, 1) := by decide +kernel
theorem dX8_takesMost_30 : decode cX8_takesMost 30 = .ok (.bipush 40, 2) := by decide +kernel
theorem dX8_takesMost_32 : decode cX8_takesMost 32 = .ok (.invokestatic 48, 3) := by decide +kernel
theorem dX8_takesMost_35 : decode cX8_takesMost 35 = .ok (.ifCond .eq 18, 3) := by decide +kernel
theorem dX8_takesMost_38 : decode cX8_takesMost 38 = .ok (.aload_n 0, 1) := by decide +kernel
theorem dX8_takesMost_39 : decode cX8_takesMost 39 = .ok (.getfield 25, 3) := by decide +kernel
theorem dX8_takesMost_42 : decode cX8_takesMost 42 = .ok (.iconst 2, 1) := by decide +kernel
theorem dX8_takesMost_43 : decode cX8_takesMost 43 = .ok (.iaload, 1) := by decide +kernel
theorem dX8_takesMost_44 : decode cX8_takesMost 44 = .ok (.bipush 40, 2) := by decide +kernel
theorem dX8_takesMost_46 : decode cX8_takesMost 46 = .ok (.if_icmp .gt 7, 3) := by decide +kernel
theorem dX8_takesMost_49 : decode cX8_takesMost 49 = .ok (.iconst 1, 1) := by decide +kernel
theorem dX8_takesMost_50 : decode cX8_takesMost 50 = .ok (.goto 4, 3) := by decide +kernel
theorem dX8_takesMost_53 : decode cX8_takesMost 53 = .ok (.iconst 0, 1) := by decide +kernel
theorem dX8_takesMost_54 : decode cX8_takesMost 54 = .ok (.istore_n 1, 1) := by decide +kernel
theorem dX8_takesMost_55 : decode cX8_takesMost 55 = .ok (.iconst 0, 1) := by decide +kernel
theorem dX8_takesMost_56 : decode cX8_takesMost 56 = .ok (.istore_n 2, 1) := by decide +kernel
theorem dX8_takesMost_57 : decode cX8_takesMost 57 = .ok (.iload_n 2, 1) := by decide +kernel
theorem dX8_takesMost_58 : decode cX8_takesMost 58 = .ok (.iconst 3, 1) := by decide +kernel
theorem dX8_takesMost_59 : decode cX8_takesMost 59 = .ok (.if_icmp .ge 27, 3) := by decide +kernel
theorem dX8_takesMost_62 : decode cX8_takesMost 62 = .ok (.iload_n 1, 1) := by decide +kernel
theorem dX8_takesMost_63 : decode cX8_takesMost 63 = .ok (.ifCond .eq 23, 3) := by decide +kernel
theorem dX8_takesMost_66 : decode cX8_takesMost 66 = .ok (.aload_n 0, 1) := by decide +kernel
theorem dX8_takesMost_67 : decode cX8_takesMost 67 = .ok (.getfield 13, 3) := by decide +kernel
theorem dX8_takesMost_70 : decode cX8_takesMost 70 = .ok (.iconst 2, 1) := by decide +kernel
theorem dX8_takesMost_71 : decode cX8_takesMost 71 = .ok (.iload_n 2, 1) := by decide +kernel
theorem dX8_takesMost_72 : decode cX8_takesMost 72 = .ok (.iadd, 1) := by decide +kernel
theorem dX8_takesMost_73 : decode cX8_takesMost 73 = .ok (.aload_n 0, 1) := by decide +kernel
theorem dX8_takesMost_74 : decode cX8_takesMost 74 = .ok (.getfield 25, 3) := by decide +kernel
theorem dX8_takesMost_77 : decode cX8_takesMost 77 = .ok (.iload_n 2, 1) := by decide +kernel
theorem dX8_takesMost_78 : decode cX8_takesMost 78 = .ok (.iaload, 1) := by decide +kernel
theorem dX8_takesMost_79 : decode cX8_takesMost 79 = .ok (.iastore, 1) := by decide +kernel
theorem dX8_takesMost_80 : decode cX8_takesMost 80 = .ok (.iinc 2 1, 3) := by decide +kernel
theorem dX8_takesMost_83 : decode cX8_takesMost 83 = .ok (.goto (-26), 3) := by decide +kernel
theorem dX8_takesMost_86 : decode cX8_takesMost 86 = .ok (.iload_n 1, 1) := by decide +kernel
theorem dX8_takesMost_87 : decode cX8_takesMost 87 = .ok (.ireturn, 1) := by decide +kernel
set_option maxRecDepth 20000 in
theorem ggX8_takesItem_X8_takesOne : GoodIn wsX8_takesItem wsX8_takesOne := goodIn_r _ [7, 8, 9, 10, 11, 12, 6, 13, 2, 14, 15, 16, 17, 1, 18, 19, 20, 21, 22, 23, 24, 25, 38, 39, 40, 41, 42, 43, 44, 45, 46] (by decide +kernel) (by decide +kernel)
set_option maxRecDepth 20000 in
theorem gX8_takesItem_X8_takesOne : GoodIn wsX8_takesItem (wsV RX8 63 RX8 yX8_takesOne wsX8_takesOne) := goodIn_app (goodIn_of _ (by decide +kernel)) ggX8_takesItem_X8_takesOne
set_option maxRecDepth 20000 in
theorem ggX8_takesItem_X8_takesCrane : GoodIn wsX8_takesItem wsX8_takesCrane := goodIn_r _ [29, 8, 10, 11, 12, 6, 13, 2, 14, 15, 16, 17, 1, 18, 19, 20, 21, 22, 23, 24, 25, 30, 31, 32, 33, 9, 38, 39, 40, 41, 42, 43, 44, 45, 46] (by decide +kernel) (by decide +kernel)
set_option maxRecDepth 20000 in
theorem gX8_takesItem_X8_takesCrane : GoodIn wsX8_takesItem (wsV RX8 66 RX8 yX8_takesCrane wsX8_takesCrane) := goodIn_app (goodIn_of _ (by decide +kernel)) ggX8_takesItem_X8_takesCrane
set_option maxRecDepth 20000 in
theorem ggX8_takesItem_X8_takesMost : GoodIn wsX8_takesItem wsX8_takesMost := goodIn_r _ [37, 8, 9, 10, 11, 12, 6, 13, 2, 14, 15, 16, 17, 1, 18, 19, 20, 21, 22, 23, 24, 25, 38, 39, 40, 41, 42, 43, 44, 45, 46] (by decide +kernel) (by decide +kernel)
set_option maxRecDepth 20000 in
theorem gX8_takesItem_X8_takesMost : GoodIn wsX8_takesItem (wsV RX8 70 RX8 yX8_takesMost wsX8_takesMost) := goodIn_app (goodIn_of _ (by decide +kernel)) ggX8_takesItem_X8_takesMost
theorem dX8_takesItem_0 : decode cX8_takesItem 0 = .ok (.aload_n 0, 1) := by decide +kernel
theorem dX8_takesItem_1 : decode cX8_takesItem 1 = .ok (.getfield 22, 3) := by decide +kernel
theorem dX8_takesItem_4 : decode cX8_takesItem 4 = .ok (.aload_n 0, 1) := by decide +kernel
theorem dX8_takesItem_5 : decode cX8_takesItem 5 = .ok (.getfield 42, 3) := by decide +kernel
theorem dX8_takesItem_8 : decode cX8_takesItem 8 = .ok (.iaload, 1) := by decide +kernel
theorem dX8_takesItem_9 : decode cX8_takesItem 9 = .ok (.istore_n 1, 1) := by decide +kernel
theorem dX8_takesItem_10 : decode cX8_takesItem 10 = .ok (.aload_n 0, 1) := by decide +kernel
theorem dX8_takesItem_11 : decode cX8_takesItem 11 = .ok (.dup, 1) := by decide +kernel
theorem dX8_takesItem_12 : decode cX8_takesItem 12 = .ok (.getfield 42, 3) := by decide +kernel
theorem dX8_takesItem_15 : decode cX8_takesItem 15 = .ok (.iconst 1, 1) := by decide +kernel
theorem dX8_takesItem_16 : decode cX8_takesItem 16 = .ok (.iadd, 1) := by decide +kernel
theorem dX8_takesItem_17 : decode cX8_takesItem 17 = .ok (.putfield 42, 3) := by decide +kernel
theorem dX8_takesItem_20 : decode cX8_takesItem 20 = .ok (.iload_n 1, 1) := by decide +kernel
theorem dX8_takesItem_21 : decode cX8_takesItem 21 = .ok (.tableswitch 83 99 107 #[73, 83, 51, 83, 63, 83, 83, 83, 78], 51) := by decide +kernel
theorem dX8_takesItem_72 : decode cX8_takesItem 72 = .ok (.aload_n 0, 1) := by decide +kernel
theorem dX8_takesItem_73 : decode cX8_takesItem 73 = .ok (.iconst 0, 1) := by decide +kernel
theorem dX8_takesItem_74 : decode cX8_takesItem 74 = .ok (.sipush 200, 3) := by decide +kernel
theorem dX8_takesItem_77 : decode cX8_takesItem 77 = .ok (.sipush 999, 3) := by decide +kernel
theorem dX8_takesItem_80 : decode cX8_takesItem 80 = .ok (.invokevirtual 63, 3) := by decide +kernel
theorem dX8_takesItem_83 : decode cX8_takesItem 83 = .ok (.ireturn, 1) := by decide +kernel
theorem dX8_takesItem_84 : decode cX8_takesItem 84 = .ok (.aload_n 0, 1) := by decide +kernel
theorem dX8_takesItem_85 : decode cX8_takesItem 85 = .ok (.iconst 1, 1) := by decide +kernel
theorem dX8_takesItem_86 : decode cX8_takesItem 86 = .ok (.bipush 10, 2) := by decide +kernel
theorem dX8_takesItem_88 : decode cX8_takesItem 88 = .ok (.bipush 99, 2) := by decide +kernel
theorem dX8_takesItem_90 : decode cX8_takesItem 90 = .ok (.invokevirtual 63, 3) := by decide +kernel
theorem dX8_takesItem_93 : decode cX8_takesItem 93 = .ok (.ireturn, 1) := by decide +kernel
theorem dX8_takesItem_94 : decode cX8_takesItem 94 = .ok (.aload_n 0, 1) := by decide +kernel
theorem dX8_takesItem_95 : decode cX8_takesItem 95 = .ok (.invokevirtual 66, 3) := by decide +kernel
theorem dX8_takesItem_98 : decode cX8_takesItem 98 = .ok (.ireturn, 1) := by decide +kernel
theorem dX8_takesItem_99 : decode cX8_takesItem 99 = .ok (.aload_n 0, 1) := by decide +kernel
theorem dX8_takesItem_100 : decode cX8_takesItem 100 = .ok (.invokevirtual 70, 3) := by decide +kernel
theorem dX8_takesItem_103 : decode cX8_takesItem 103 = .ok (.ireturn, 1) := by decide +kernel
theorem dX8_takesItem_104 : decode cX8_takesItem 104 = .ok (.iconst 0, 1) := by decide +kernel
theorem dX8_takesItem_105 : decode cX8_takesItem 105 = .ok (.ireturn, 1) := by decide +kernel
set_option maxRecDepth 20000 in
theorem ggX8_reads_X8_begins : GoodIn wsX8_reads wsX8_begins := goodIn_r _ [7, 8, 9, 10, 11, 6, 12, 46, 47, 48, 49, 50, 51, 52, 53, 54] (by decide +kernel) (by decide +kernel)
set_option maxRecDepth 20000 in
theorem gX8_reads_X8_begins : GoodIn wsX8_reads (wsV RX8 28 RX8 yX8_begins wsX8_begins) := goodIn_app (goodIn_of _ (by decide +kernel)) ggX8_reads_X8_begins
set_option maxRecDepth 20000 in
theorem ggX8_reads_X8_takesItem : GoodIn wsX8_reads wsX8_takesItem := goodIn_r _ [16, 17, 1, 18, 19, 20, 6, 21, 22, 8, 23, 24, 25, 26, 27, 28, 29, 30, 31, 32, 33, 34, 2, 35, 36, 37, 38, 39, 40, 41, 9, 10, 11, 12, 42, 43, 44, 45, 46, 47, 48, 49, 50, 51, 52, 53, 54] (by decide +kernel) (by decide +kernel)
set_option maxRecDepth 20000 in
theorem gX8_reads_X8_takesItem : GoodIn wsX8_reads (wsV RX8 73 RX8 yX8_takesItem wsX8_takesItem) := goodIn_app (goodIn_of _ (by decide +kernel)) ggX8_reads_X8_takesItem
theorem dX8_reads_0 : decode cX8_reads 0 = .ok (.aload_n 0, 1) := by decide +kernel
theorem dX8_reads_1 : decode cX8_reads 1 = .ok (.invokevirtual 28, 3) := by decide +kernel
theorem dX8_reads_4 : decode cX8_reads 4 = .ok (.aload_n 0, 1) := by decide +kernel
theorem dX8_reads_5 : decode cX8_reads 5 = .ok (.iconst 0, 1) := by decide +kernel
theorem dX8_reads_6 : decode cX8_reads 6 = .ok (.putfield 42, 3) := by decide +kernel
theorem dX8_reads_9 : decode cX8_reads 9 = .ok (.aload_n 0, 1) := by decide +kernel
theorem dX8_reads_10 : decode cX8_reads 10 = .ok (.getfield 42, 3) := by decide +kernel
theorem dX8_reads_13 : decode cX8_reads 13 = .ok (.aload_n 0, 1) := by decide +kernel
theorem dX8_reads_14 : decode cX8_reads 14 = .ok (.getfield 45, 3) := by decide +kernel
theorem dX8_reads_17 : decode cX8_reads 17 = .ok (.if_icmp .ge 20, 3) := by decide +kernel
theorem dX8_reads_20 : decode cX8_reads 20 = .ok (.aload_n 0, 1) := by decide +kernel
theorem dX8_reads_21 : decode cX8_reads 21 = .ok (.getfield 42, 3) := by decide +kernel
theorem dX8_reads_24 : decode cX8_reads 24 = .ok (.istore_n 1, 1) := by decide +kernel
theorem dX8_reads_25 : decode cX8_reads 25 = .ok (.aload_n 0, 1) := by decide +kernel
theorem dX8_reads_26 : decode cX8_reads 26 = .ok (.invokevirtual 73, 3) := by decide +kernel
theorem dX8_reads_29 : decode cX8_reads 29 = .ok (.ifCond .ne 5, 3) := by decide +kernel
theorem dX8_reads_32 : decode cX8_reads 32 = .ok (.iload_n 1, 1) := by decide +kernel
theorem dX8_reads_33 : decode cX8_reads 33 = .ok (.ireturn, 1) := by decide +kernel
theorem dX8_reads_34 : decode cX8_reads 34 = .ok (.goto (-25), 3) := by decide +kernel
theorem dX8_reads_37 : decode cX8_reads 37 = .ok (.bipush (-4), 2) := by decide +kernel
theorem dX8_reads_39 : decode cX8_reads 39 = .ok (.ireturn, 1) := by decide +kernel
set_option maxRecDepth 20000 in
theorem ggX8_write_X8_in : GoodIn wsX8_write wsX8_in := goodIn_r _ [6] (by decide +kernel) (by decide +kernel)
set_option maxRecDepth 20000 in
theorem gX8_write_X8_in : GoodIn wsX8_write (va_wsS RX8 48 yX8_in wsX8_in) := goodIn_app (goodIn_of _ (by decide +kernel)) ggX8_write_X8_in
theorem dX8_write_0 : decode cX8_write 0 = .ok (.iload_n 1, 1) := by decide +kernel
theorem dX8_write_1 : decode cX8_write 1 = .ok (.bipush 32, 2) := by decide +kernel
theorem dX8_write_3 : decode cX8_write 3 = .ok (.bipush 126, 2) := by decide +kernel
theorem dX8_write_5 : decode cX8_write 5 = .ok (.invokestatic 48, 3) := by decide +kernel
theorem dX8_write_8 : decode cX8_write 8 = .ok (.ifCond .ne 5, 3) := by decide +kernel
theorem dX8_write_11 : decode cX8_write 11 = .ok (.iconst (-1), 1) := by decide +kernel
theorem dX8_write_12 : decode cX8_write 12 = .ok (.ireturn, 1) := by decide +kernel
theorem dX8_write_13 : decode cX8_write 13 = .ok (.aload_n 0, 1) := by decide +kernel
theorem dX8_write_14 : decode cX8_write 14 = .ok (.getfield 45, 3) := by decide +kernel
theorem dX8_write_17 : decode cX8_write 17 = .ok (.sipush 200, 3) := by decide +kernel
theorem dX8_write_20 : decode cX8_write 20 = .ok (.if_icmp .ne 6, 3) := by decide +kernel
theorem dX8_write_23 : decode cX8_write 23 = .ok (.bipush (-3), 2) := by decide +kernel
theorem dX8_write_25 : decode cX8_write 25 = .ok (.ireturn, 1) := by decide +kernel
theorem dX8_write_26 : decode cX8_write 26 = .ok (.aload_n 0, 1) := by decide +kernel
theorem dX8_write_27 : decode cX8_write 27 = .ok (.getfield 22, 3) := by decide +kernel
theorem dX8_write_30 : decode cX8_write 30 = .ok (.aload_n 0, 1) := by decide +kernel
theorem dX8_write_31 : decode cX8_write 31 = .ok (.getfield 45, 3) := by decide +kernel
theorem dX8_write_34 : decode cX8_write 34 = .ok (.iload_n 1, 1) := by decide +kernel
theorem dX8_write_35 : decode cX8_write 35 = .ok (.iastore, 1) := by decide +kernel
theorem dX8_write_36 : decode cX8_write 36 = .ok (.aload_n 0, 1) := by decide +kernel
theorem dX8_write_37 : decode cX8_write 37 = .ok (.dup, 1) := by decide +kernel
theorem dX8_write_38 : decode cX8_write 38 = .ok (.getfield 45, 3) := by decide +kernel
theorem dX8_write_41 : decode cX8_write 41 = .ok (.iconst 1, 1) := by decide +kernel
theorem dX8_write_42 : decode cX8_write 42 = .ok (.iadd, 1) := by decide +kernel
theorem dX8_write_43 : decode cX8_write 43 = .ok (.putfield 45, 3) := by decide +kernel
theorem dX8_write_46 : decode cX8_write 46 = .ok (.aload_n 0, 1) := by decide +kernel
theorem dX8_write_47 : decode cX8_write 47 = .ok (.getfield 45, 3) := by decide +kernel
theorem dX8_write_50 : decode cX8_write 50 = .ok (.ireturn, 1) := by decide +kernel
theorem dX8_wipe_0 : decode cX8_wipe 0 = .ok (.aload_n 0, 1) := by decide +kernel
theorem dX8_wipe_1 : decode cX8_wipe 1 = .ok (.getfield 45, 3) := by decide +kernel
theorem dX8_wipe_4 : decode cX8_wipe 4 = .ok (.istore_n 1, 1) := by decide +kernel
theorem dX8_wipe_5 : decode cX8_wipe 5 = .ok (.aload_n 0, 1) := by decide +kernel
theorem dX8_wipe_6 : decode cX8_wipe 6 = .ok (.iconst 0, 1) := by decide +kernel
theorem dX8_wipe_7 : decode cX8_wipe 7 = .ok (.putfield 45, 3) := by decide +kernel
theorem dX8_wipe_10 : decode cX8_wipe 10 = .ok (.iload_n 1, 1) := by decide +kernel
theorem dX8_wipe_11 : decode cX8_wipe 11 = .ok (.ireturn, 1) := by decide +kernel
set_option maxRecDepth 20000 in
theorem ggX8_fault_X8_reads : GoodIn wsX8_fault wsX8_reads := goodIn_r _ [5, 6, 7, 8, 9, 10, 4, 11, 12, 13, 14, 15, 16, 17, 18, 19, 20, 21, 22, 23, 24, 25, 26, 27, 28, 29, 30, 31, 32, 33, 34, 35, 36, 37, 38, 39, 40, 41, 42, 43, 44, 45, 46, 47, 48, 49, 50, 51, 52, 53, 54, 55, 56, 57, 58] (by decide +kernel) (by decide +kernel)
set_option maxRecDepth 20000 in
theorem gX8_fault_X8_reads : GoodIn wsX8_fault (wsV RX8 76 RX8 yX8_reads wsX8_reads) := goodIn_app (goodIn_of _ (by decide +kernel)) ggX8_fault_X8_reads
theorem dX8_fault_0 : decode cX8_fault 0 = .ok (.aload_n 0, 1) := by decide +kernel
theorem dX8_fault_1 : decode cX8_fault 1 = .ok (.invokevirtual 76, 3) := by decide +kernel
theorem dX8_fault_4 : decode cX8_fault 4 = .ok (.ireturn, 1) := by decide +kernel
set_option maxRecDepth 20000 in
theorem ggX8_lay_X8_reads : GoodIn wsX8_lay wsX8_reads := goodIn_r _ [7, 8, 9, 10, 11, 12, 6, 13, 1, 14, 15, 16, 17, 18, 19, 20, 21, 22, 23, 24, 25, 26, 27, 28, 29, 30, 31, 32, 33, 34, 35, 36, 37, 38, 39, 40, 41, 42, 43, 44, 45, 46, 47, 48, 49, 50, 56, 57, 58, 59, 60, 61, 62, 63, 64] (by decide +kernel) (by decide +kernel)
set_option maxRecDepth 20000 in
theorem gX8_lay_X8_reads : GoodIn wsX8_lay (wsV RX8 76 RX8 yX8_reads wsX8_reads) := goodIn_app (goodIn_of _ (by decide +kernel)) ggX8_lay_X8_reads
set_option maxRecDepth 20000 in
theorem ggX8_lay_X8_takes : GoodIn wsX8_lay wsX8_takes := goodIn_r _ [54, 2, 1, 55, 56, 57, 58, 59, 60, 61, 62, 63, 64] (by decide +kernel) (by decide +kernel)
set_option maxRecDepth 20000 in
theorem gX8_lay_X8_takes : GoodIn wsX8_lay (wsV RX8 31 RX8 yX8_takes wsX8_takes) := goodIn_app (goodIn_of _ (by decide +kernel)) ggX8_lay_X8_takes
theorem dX8_lay_0 : decode cX8_lay 0 = .ok (.aload_n 0, 1) := by decide +kernel
theorem dX8_lay_1 : decode cX8_lay 1 = .ok (.invokevirtual 76, 3) := by decide +kernel
theorem dX8_lay_4 : decode cX8_lay 4 = .ok (.bipush (-4), 2) := by decide +kernel
theorem dX8_lay_6 : decode cX8_lay 6 = .ok (.if_icmp .ne 7, 3) := by decide +kernel
theorem dX8_lay_9 : decode cX8_lay 9 = .ok (.iconst 1, 1) := by decide +kernel
theorem dX8_lay_10 : decode cX8_lay 10 = .ok (.goto 4, 3) := by decide +kernel
theorem dX8_lay_13 : decode cX8_lay 13 = .ok (.iconst 0, 1) := by decide +kernel
theorem dX8_lay_14 : decode cX8_lay 14 = .ok (.istore_n 1, 1) := by decide +kernel
theorem dX8_lay_15 : decode cX8_lay 15 = .ok (.aload_n 0, 1) := by decide +kernel
theorem dX8_lay_16 : decode cX8_lay 16 = .ok (.getfield 13, 3) := by decide +kernel
theorem dX8_lay_19 : decode cX8_lay 19 = .ok (.bipush 7, 2) := by decide +kernel
theorem dX8_lay_21 : decode cX8_lay 21 = .ok (.iaload, 1) := by decide +kernel
theorem dX8_lay_22 : decode cX8_lay 22 = .ok (.istore_n 2, 1) := by decide +kernel
theorem dX8_lay_23 : decode cX8_lay 23 = .ok (.aload_n 0, 1) := by decide +kernel
theorem dX8_lay_24 : decode cX8_lay 24 = .ok (.getfield 13, 3) := by decide +kernel
theorem dX8_lay_27 : decode cX8_lay 27 = .ok (.bipush 20, 2) := by decide +kernel
theorem dX8_lay_29 : decode cX8_lay 29 = .ok (.iaload, 1) := by decide +kernel
theorem dX8_lay_30 : decode cX8_lay 30 = .ok (.istore_n 3, 1) := by decide +kernel
theorem dX8_lay_31 : decode cX8_lay 31 = .ok (.iload_n 1, 1) := by decide +kernel
theorem dX8_lay_32 : decode cX8_lay 32 = .ok (.ifCond .eq 35, 3) := by decide +kernel
theorem dX8_lay_35 : decode cX8_lay 35 = .ok (.iload_n 2, 1) := by decide +kernel
theorem dX8_lay_36 : decode cX8_lay 36 = .ok (.aload_n 0, 1) := by decide +kernel
theorem dX8_lay_37 : decode cX8_lay 37 = .ok (.getfield 13, 3) := by decide +kernel
theorem dX8_lay_40 : decode cX8_lay 40 = .ok (.iconst 0, 1) := by decide +kernel
theorem dX8_lay_41 : decode cX8_lay 41 = .ok (.iaload, 1) := by decide +kernel
theorem dX8_lay_42 : decode cX8_lay 42 = .ok (.if_icmp .gt 25, 3) := by decide +kernel
theorem dX8_lay_45 : decode cX8_lay 45 = .ok (.iload_n 3, 1) := by decide +kernel
theorem dX8_lay_46 : decode cX8_lay 46 = .ok (.aload_n 0, 1) := by decide +kernel
theorem dX8_lay_47 : decode cX8_lay 47 = .ok (.getfield 13, 3) := by decide +kernel
theorem dX8_lay_50 : decode cX8_lay 50 = .ok (.iconst 0, 1) := by decide +kernel
theorem dX8_lay_51 : decode cX8_lay 51 = .ok (.iaload, 1) := by decide +kernel
theorem dX8_lay_52 : decode cX8_lay 52 = .ok (.if_icmp .gt 15, 3) := by decide +kernel
theorem dX8_lay_55 : decode cX8_lay 55 = .ok (.iload_n 3, 1) := by decide +kernel
theorem dX8_lay_56 : decode cX8_lay 56 = .ok (.iload_n 2, 1) := by decide +kernel
theorem dX8_lay_57 : decode cX8_lay 57 = .ok (.isub, 1) := by decide +kernel
theorem dX8_lay_58 : decode cX8_lay 58 = .ok (.aload_n 0, 1) := by decide +kernel
theorem dX8_lay_59 : decode cX8_lay 59 = .ok (.getfield 13, 3) := by decide +kernel
theorem dX8_lay_62 : decode cX8_lay 62 = .ok (.iconst 1, 1) := by decide +kernel
theorem dX8_lay_63 : decode cX8_lay 63 = .ok (.iaload, 1) := by decide +kernel
theorem dX8_lay_64 : decode cX8_lay 64 = .ok (.if_icmp .ge 6, 3) := by decide +kernel
theorem dX8_lay_67 : decode cX8_lay 67 = .ok (.bipush (-2), 2) := by decide +kernel
theorem dX8_lay_69 : decode cX8_lay 69 = .ok (.ireturn, 1) := by decide +kernel
theorem dX8_lay_70 : decode cX8_lay 70 = .ok (.aload_n 0, 1) := by decide +kernel
theorem dX8_lay_71 : decode cX8_lay 71 = .ok (.invokevirtual 31, 3) := by decide +kernel
theorem dX8_lay_74 : decode cX8_lay 74 = .ok (.aload_n 0, 1) := by decide +kernel
theorem dX8_lay_75 : decode cX8_lay 75 = .ok (.getfield 7, 3) := by decide +kernel
theorem dX8_lay_78 : decode cX8_lay 78 = .ok (.iconst 0, 1) := by decide +kernel
theorem dX8_lay_79 : decode cX8_lay 79 = .ok (.iaload, 1) := by decide +kernel
theorem dX8_lay_80 : decode cX8_lay 80 = .ok (.ireturn, 1) := by decide +kernel
theorem dX8_keeps_0 : decode cX8_keeps 0 = .ok (.aload_n 0, 1) := by decide +kernel
theorem dX8_keeps_1 : decode cX8_keeps 1 = .ok (.getfield 38, 3) := by decide +kernel
theorem dX8_keeps_4 : decode cX8_keeps 4 = .ok (.iconst 4, 1) := by decide +kernel
theorem dX8_keeps_5 : decode cX8_keeps 5 = .ok (.if_icmp .ne 44, 3) := by decide +kernel
theorem dX8_keeps_8 : decode cX8_keeps 8 = .ok (.iconst 0, 1) := by decide +kernel
theorem dX8_keeps_9 : decode cX8_keeps 9 = .ok (.istore_n 1, 1) := by decide +kernel
theorem dX8_keeps_10 : decode cX8_keeps 10 = .ok (.iload_n 1, 1) := by decide +kernel
theorem dX8_keeps_11 : decode cX8_keeps 11 = .ok (.sipush 1545, 3) := by decide +kernel
theorem dX8_keeps_14 : decode cX8_keeps 14 = .ok (.if_icmp .ge 25, 3) := by decide +kernel
theorem dX8_keeps_17 : decode cX8_keeps 17 = .ok (.aload_n 0, 1) := by decide +kernel
theorem dX8_keeps_18 : decode cX8_keeps 18 = .ok (.getfield 19, 3) := by decide +kernel
theorem dX8_keeps_21 : decode cX8_keeps 21 = .ok (.iload_n 1, 1) := by decide +kernel
theorem dX8_keeps_22 : decode cX8_keeps 22 = .ok (.aload_n 0, 1) := by decide +kernel
theorem dX8_keeps_23 : decode cX8_keeps 23 = .ok (.getfield 19, 3) := by decide +kernel
theorem dX8_keeps_26 : decode cX8_keeps 26 = .ok (.iload_n 1, 1) := by decide +kernel
theorem dX8_keeps_27 : decode cX8_keeps 27 = .ok (.sipush 515, 3) := by decide +kernel
theorem dX8_keeps_30 : decode cX8_keeps 30 = .ok (.iadd, 1) := by decide +kernel
theorem dX8_keeps_31 : decode cX8_keeps 31 = .ok (.iaload, 1) := by decide +kernel
theorem dX8_keeps_32 : decode cX8_keeps 32 = .ok (.iastore, 1) := by decide +kernel
theorem dX8_keeps_33 : decode cX8_keeps 33 = .ok (.iinc 1 1, 3) := by decide +kernel
theorem dX8_keeps_36 : decode cX8_keeps 36 = .ok (.goto (-26), 3) := by decide +kernel
theorem dX8_keeps_39 : decode cX8_keeps 39 = .ok (.aload_n 0, 1) := by decide +kernel
theorem dX8_keeps_40 : decode cX8_keeps 40 = .ok (.dup, 1) := by decide +kernel
theorem dX8_keeps_41 : decode cX8_keeps 41 = .ok (.getfield 38, 3) := by decide +kernel
theorem dX8_keeps_44 : decode cX8_keeps 44 = .ok (.iconst 1, 1) := by decide +kernel
theorem dX8_keeps_45 : decode cX8_keeps 45 = .ok (.isub, 1) := by decide +kernel
theorem dX8_keeps_46 : decode cX8_keeps 46 = .ok (.putfield 38, 3) := by decide +kernel
theorem dX8_keeps_49 : decode cX8_keeps 49 = .ok (.iconst 0, 1) := by decide +kernel
theorem dX8_keeps_50 : decode cX8_keeps 50 = .ok (.istore_n 1, 1) := by decide +kernel
theorem dX8_keeps_51 : decode cX8_keeps 51 = .ok (.iload_n 1, 1) := by decide +kernel
theorem dX8_keeps_52 : decode cX8_keeps 52 = .ok (.sipush 515, 3) := by decide +kernel
theorem dX8_keeps_55 : decode cX8_keeps 55 = .ok (.if_icmp .ge 30, 3) := by decide +kernel
theorem dX8_keeps_58 : decode cX8_keeps 58 = .ok (.aload_n 0, 1) := by decide +kernel
theorem dX8_keeps_59 : decode cX8_keeps 59 = .ok (.getfield 19, 3) := by decide +kernel
theorem dX8_keeps_62 : decode cX8_keeps 62 = .ok (.sipush 515, 3) := by decide +kernel
theorem dX8_keeps_65 : decode cX8_keeps 65 = .ok (.aload_n 0, 1) := by decide +kernel
theorem dX8_keeps_66 : decode cX8_keeps 66 = .ok (.getfield 38, 3) := by decide +kernel
theorem dX8_keeps_69 : decode cX8_keeps 69 = .ok (.imul, 1) := by decide +kernel
theorem dX8_keeps_70 : decode cX8_keeps 70 = .ok (.iload_n 1, 1) := by decide +kernel
theorem dX8_keeps_71 : decode cX8_keeps 71 = .ok (.iadd, 1) := by decide +kernel
theorem dX8_keeps_72 : decode cX8_keeps 72 = .ok (.aload_n 0, 1) := by decide +kernel
theorem dX8_keeps_73 : decode cX8_keeps 73 = .ok (.getfield 7, 3) := by decide +kernel
theorem dX8_keeps_76 : decode cX8_keeps 76 = .ok (.iload_n 1, 1) := by decide +kernel
theorem dX8_keeps_77 : decode cX8_keeps 77 = .ok (.iaload, 1) := by decide +kernel
theorem dX8_keeps_78 : decode cX8_keeps 78 = .ok (.iastore, 1) := by decide +kernel
theorem dX8_keeps_79 : decode cX8_keeps 79 = .ok (.iinc 1 1, 3) := by decide +kernel
theorem dX8_keeps_82 : decode cX8_keeps 82 = .ok (.goto (-31), 3) := by decide +kernel
theorem dX8_keeps_85 : decode cX8_keeps 85 = .ok (.aload_n 0, 1) := by decide +kernel
theorem dX8_keeps_86 : decode cX8_keeps 86 = .ok (.dup, 1) := by decide +kernel
theorem dX8_keeps_87 : decode cX8_keeps 87 = .ok (.getfield 38, 3) := by decide +kernel
theorem dX8_keeps_90 : decode cX8_keeps 90 = .ok (.iconst 1, 1) := by decide +kernel
theorem dX8_keeps_91 : decode cX8_keeps 91 = .ok (.iadd, 1) := by decide +kernel
theorem dX8_keeps_92 : decode cX8_keeps 92 = .ok (.putfield 38, 3) := by decide +kernel
theorem dX8_keeps_95 : decode cX8_keeps 95 = .ok (.return_, 1) := by decide +kernel
theorem dX8_undo_0 : decode cX8_undo 0 = .ok (.aload_n 0, 1) := by decide +kernel
theorem dX8_undo_1 : decode cX8_undo 1 = .ok (.getfield 38, 3) := by decide +kernel
theorem dX8_undo_4 : decode cX8_undo 4 = .ok (.ifCond .ne 6, 3) := by decide +kernel
theorem dX8_undo_7 : decode cX8_undo 7 = .ok (.bipush (-2), 2) := by decide +kernel
theorem dX8_undo_9 : decode cX8_undo 9 = .ok (.ireturn, 1) := by decide +kernel
theorem dX8_undo_10 : decode cX8_undo 10 = .ok (.aload_n 0, 1) := by decide +kernel
theorem dX8_undo_11 : decode cX8_undo 11 = .ok (.dup, 1) := by decide +kernel
theorem dX8_undo_12 : decode cX8_undo 12 = .ok (.getfield 38, 3) := by decide +kernel
theorem dX8_undo_15 : decode cX8_undo 15 = .ok (.iconst 1, 1) := by decide +kernel
theorem dX8_undo_16 : decode cX8_undo 16 = .ok (.isub, 1) := by decide +kernel
theorem dX8_undo_17 : decode cX8_undo 17 = .ok (.putfield 38, 3) := by decide +kernel
theorem dX8_undo_20 : decode cX8_undo 20 = .ok (.iconst 0, 1) := by decide +kernel
theorem dX8_undo_21 : decode cX8_undo 21 = .ok (.istore_n 1, 1) := by decide +kernel
theorem dX8_undo_22 : decode cX8_undo 22 = .ok (.iload_n 1, 1) := by decide +kernel
theorem dX8_undo_23 : decode cX8_undo 23 = .ok (.sipush 515, 3) := by decide +kernel
theorem dX8_undo_26 : decode cX8_undo 26 = .ok (.if_icmp .ge 30, 3) := by decide +kernel
theorem dX8_undo_29 : decode cX8_undo 29 = .ok (.aload_n 0, 1) := by decide +kernel
theorem dX8_undo_30 : decode cX8_undo 30 = .ok (.getfield 7, 3) := by decide +kernel
theorem dX8_undo_33 : decode cX8_undo 33 = .ok (.iload_n 1, 1) := by decide +kernel
theorem dX8_undo_34 : decode cX8_undo 34 = .ok (.aload_n 0, 1) := by decide +kernel
theorem dX8_undo_35 : decode cX8_undo 35 = .ok (.getfield 19, 3) := by decide +kernel
theorem dX8_undo_38 : decode cX8_undo 38 = .ok (.sipush 515, 3) := by decide +kernel
theorem dX8_undo_41 : decode cX8_undo 41 = .ok (.aload_n 0, 1) := by decide +kernel
theorem dX8_undo_42 : decode cX8_undo 42 = .ok (.getfield 38, 3) := by decide +kernel
theorem dX8_undo_45 : decode cX8_undo 45 = .ok (.imul, 1) := by decide +kernel
theorem dX8_undo_46 : decode cX8_undo 46 = .ok (.iload_n 1, 1) := by decide +kernel
theorem dX8_undo_47 : decode cX8_undo 47 = .ok (.iadd, 1) := by decide +kernel
theorem dX8_undo_48 : decode cX8_undo 48 = .ok (.iaload, 1) := by decide +kernel
theorem dX8_undo_49 : decode cX8_undo 49 = .ok (.iastore, 1) := by decide +kernel
theorem dX8_undo_50 : decode cX8_undo 50 = .ok (.iinc 1 1, 3) := by decide +kernel
theorem dX8_undo_53 : decode cX8_undo 53 = .ok (.goto (-31), 3) := by decide +kernel
theorem dX8_undo_56 : decode cX8_undo 56 = .ok (.aload_n 0, 1) := by decide +kernel
theorem dX8_undo_57 : decode cX8_undo 57 = .ok (.getfield 38, 3) := by decide +kernel
theorem dX8_undo_60 : decode cX8_undo 60 = .ok (.ireturn, 1) := by decide +kernel
theorem dX8_laysAside_0 : decode cX8_laysAside 0 = .ok (.iconst 0, 1) := by decide +kernel
theorem dX8_laysAside_1 : decode cX8_laysAside 1 = .ok (.istore_n 1, 1) := by decide +kernel
theorem dX8_laysAside_2 : decode cX8_laysAside 2 = .ok (.iload_n 1, 1) := by decide +kernel
theorem dX8_laysAside_3 : decode cX8_laysAside 3 = .ok (.bipush 33, 2) := by decide +kernel
theorem dX8_laysAside_5 : decode cX8_laysAside 5 = .ok (.if_icmp .ge 21, 3) := by decide +kernel
theorem dX8_laysAside_8 : decode cX8_laysAside 8 = .ok (.aload_n 0, 1) := by decide +kernel
theorem dX8_laysAside_9 : decode cX8_laysAside 9 = .ok (.getfield 16, 3) := by decide +kernel
theorem dX8_laysAside_12 : decode cX8_laysAside 12 = .ok (.iload_n 1, 1) := by decide +kernel
theorem dX8_laysAside_13 : decode cX8_laysAside 13 = .ok (.aload_n 0, 1) := by decide +kernel
theorem dX8_laysAside_14 : decode cX8_laysAside 14 = .ok (.getfield 7, 3) := by decide +kernel
theorem dX8_laysAside_17 : decode cX8_laysAside 17 = .ok (.iload_n 1, 1) := by decide +kernel
theorem dX8_laysAside_18 : decode cX8_laysAside 18 = .ok (.iaload, 1) := by decide +kernel
theorem dX8_laysAside_19 : decode cX8_laysAside 19 = .ok (.iastore, 1) := by decide +kernel
theorem dX8_laysAside_20 : decode cX8_laysAside 20 = .ok (.iinc 1 1, 3) := by decide +kernel
theorem dX8_laysAside_23 : decode cX8_laysAside 23 = .ok (.goto (-21), 3) := by decide +kernel
theorem dX8_laysAside_26 : decode cX8_laysAside 26 = .ok (.return_, 1) := by decide +kernel
theorem dX8_comesBack_0 : decode cX8_comesBack 0 = .ok (.iconst 0, 1) := by decide +kernel
theorem dX8_comesBack_1 : decode cX8_comesBack 1 = .ok (.istore_n 1, 1) := by decide +kernel
theorem dX8_comesBack_2 : decode cX8_comesBack 2 = .ok (.iload_n 1, 1) := by decide +kernel
theorem dX8_comesBack_3 : decode cX8_comesBack 3 = .ok (.bipush 33, 2) := by decide +kernel
theorem dX8_comesBack_5 : decode cX8_comesBack 5 = .ok (.if_icmp .ge 21, 3) := by decide +kernel
theorem dX8_comesBack_8 : decode cX8_comesBack 8 = .ok (.aload_n 0, 1) := by decide +kernel
theorem dX8_comesBack_9 : decode cX8_comesBack 9 = .ok (.getfield 7, 3) := by decide +kernel
theorem dX8_comesBack_12 : decode cX8_comesBack 12 = .ok (.iload_n 1, 1) := by decide +kernel
theorem dX8_comesBack_13 : decode cX8_comesBack 13 = .ok (.aload_n 0, 1) := by decide +kernel
theorem dX8_comesBack_14 : decode cX8_comesBack 14 = .ok (.getfield 16, 3) := by decide +kernel
theorem dX8_comesBack_17 : decode cX8_comesBack 17 = .ok (.iload_n 1, 1) := by decide +kernel
theorem dX8_comesBack_18 : decode cX8_comesBack 18 = .ok (.iaload, 1) := by decide +kernel
theorem dX8_comesBack_19 : decode cX8_comesBack 19 = .ok (.iastore, 1) := by decide +kernel
theorem dX8_comesBack_20 : decode cX8_comesBack 20 = .ok (.iinc 1 1, 3) := by decide +kernel
theorem dX8_comesBack_23 : decode cX8_comesBack 23 = .ok (.goto (-21), 3) := by decide +kernel
theorem dX8_comesBack_26 : decode cX8_comesBack 26 = .ok (.return_, 1) := by decide +kernel
theorem dX8_isCrane_0 : decode cX8_isCrane 0 = .ok (.iload_n 0, 1) := by decide +kernel
theorem dX8_isCrane_1 : decode cX8_isCrane 1 = .ok (.ifCond .eq 8, 3) := by decide +kernel
theorem dX8_isCrane_4 : decode cX8_isCrane 4 = .ok (.iload_n 0, 1) := by decide +kernel
theorem dX8_isCrane_5 : decode cX8_isCrane 5 = .ok (.iconst 1, 1) := by decide +kernel
theorem dX8_isCrane_6 : decode cX8_isCrane 6 = .ok (.if_icmp .ne 7, 3) := by decide +kernel
theorem dX8_isCrane_9 : decode cX8_isCrane 9 = .ok (.iconst 1, 1) := by decide +kernel
theorem dX8_isCrane_10 : decode cX8_isCrane 10 = .ok (.goto 4, 3) := by decide +kernel
theorem dX8_isCrane_13 : decode cX8_isCrane 13 = .ok (.iconst 0, 1) := by decide +kernel
theorem dX8_isCrane_14 : decode cX8_isCrane 14 = .ok (.ireturn, 1) := by decide +kernel
theorem dX8_of_0 : decode cX8_of 0 = .ok (.aload_n 0, 1) := by decide +kernel
theorem dX8_of_1 : decode cX8_of 1 = .ok (.getfield 7, 3) := by decide +kernel
theorem dX8_of_4 : decode cX8_of 4 = .ok (.bipush 7, 2) := by decide +kernel
theorem dX8_of_6 : decode cX8_of 6 = .ok (.bipush 13, 2) := by decide +kernel
theorem dX8_of_8 : decode cX8_of 8 = .ok (.iload_n 1, 1) := by decide +kernel
theorem dX8_of_9 : decode cX8_of 9 = .ok (.imul, 1) := by decide +kernel
theorem dX8_of_10 : decode cX8_of 10 = .ok (.iadd, 1) := by decide +kernel
theorem dX8_of_11 : decode cX8_of 11 = .ok (.iload_n 2, 1) := by decide +kernel
theorem dX8_of_12 : decode cX8_of 12 = .ok (.iadd, 1) := by decide +kernel
theorem dX8_of_13 : decode cX8_of 13 = .ok (.iaload, 1) := by decide +kernel
theorem dX8_of_14 : decode cX8_of 14 = .ok (.ireturn, 1) := by decide +kernel
theorem dX8_tells_0 : decode cX8_tells 0 = .ok (.aload_n 0, 1) := by decide +kernel
theorem dX8_tells_1 : decode cX8_tells 1 = .ok (.getfield 7, 3) := by decide +kernel
theorem dX8_tells_4 : decode cX8_tells 4 = .ok (.bipush 7, 2) := by decide +kernel
theorem dX8_tells_6 : decode cX8_tells 6 = .ok (.bipush 13, 2) := by decide +kernel
theorem dX8_tells_8 : decode cX8_tells 8 = .ok (.iload_n 1, 1) := by decide +kernel
theorem dX8_tells_9 : decode cX8_tells 9 = .ok (.imul, 1) := by decide +kernel
theorem dX8_tells_10 : decode cX8_tells 10 = .ok (.iadd, 1) := by decide +kernel
theorem dX8_tells_11 : decode cX8_tells 11 = .ok (.iload_n 2, 1) := by decide +kernel
theorem dX8_tells_12 : decode cX8_tells 12 = .ok (.iadd, 1) := by decide +kernel
theorem dX8_tells_13 : decode cX8_tells 13 = .ok (.iload_n 3, 1) := by decide +kernel
theorem dX8_tells_14 : decode cX8_tells 14 = .ok (.iastore, 1) := by decide +kernel
theorem dX8_tells_15 : decode cX8_tells 15 = .ok (.return_, 1) := by decide +kernel
set_option maxRecDepth 20000 in
theorem ggX8_limitOf_X8_of : GoodIn wsX8_limitOf wsX8_of := goodIn_r _ [6, 1, 7, 8, 9, 10, 11, 12, 13, 14, 15] (by decide +kernel) (by decide +kernel)
set_option maxRecDepth 20000 in
theorem gX8_limitOf_X8_of : GoodIn wsX8_limitOf (wsV RX8 80 RX8 yX8_of wsX8_of) := goodIn_app (goodIn_of _ (by decide +kernel)) ggX8_limitOf_X8_of
theorem dX8_limitOf_0 : decode cX8_limitOf 0 = .ok (.aload_n 0, 1) := by decide +kernel
theorem dX8_limitOf_1 : decode cX8_limitOf 1 = .ok (.getfield 7, 3) := by decide +kernel
theorem dX8_limitOf_4 : decode cX8_limitOf 4 = .ok (.iconst 3, 1) := by decide +kernel
theorem dX8_limitOf_5 : decode cX8_limitOf 5 = .ok (.iaload, 1) := by decide +kernel
theorem dX8_limitOf_6 : decode cX8_limitOf 6 = .ok (.aload_n 0, 1) := by decide +kernel
theorem dX8_limitOf_7 : decode cX8_limitOf 7 = .ok (.iload_n 1, 1) := by decide +kernel
theorem dX8_limitOf_8 : decode cX8_limitOf 8 = .ok (.iconst 3, 1) := by decide +kernel
theorem dX8_limitOf_9 : decode cX8_limitOf 9 = .ok (.invokevirtual 80, 3) := by decide +kernel
theorem dX8_limitOf_12 : decode cX8_limitOf 12 = .ok (.bipush 10, 2) := by decide +kernel
theorem dX8_limitOf_14 : decode cX8_limitOf 14 = .ok (.idiv, 1) := by decide +kernel
theorem dX8_limitOf_15 : decode cX8_limitOf 15 = .ok (.isub, 1) := by decide +kernel
theorem dX8_limitOf_16 : decode cX8_limitOf 16 = .ok (.istore_n 2, 1) := by decide +kernel
theorem dX8_limitOf_17 : decode cX8_limitOf 17 = .ok (.iload_n 2, 1) := by decide +kernel
theorem dX8_limitOf_18 : decode cX8_limitOf 18 = .ok (.iconst 1, 1) := by decide +kernel
theorem dX8_limitOf_19 : decode cX8_limitOf 19 = .ok (.if_icmp .ge 7, 3) := by decide +kernel
theorem dX8_limitOf_22 : decode cX8_limitOf 22 = .ok (.iconst 1, 1) := by decide +kernel
theorem dX8_limitOf_23 : decode cX8_limitOf 23 = .ok (.goto 4, 3) := by decide +kernel
theorem dX8_limitOf_26 : decode cX8_limitOf 26 = .ok (.iload_n 2, 1) := by decide +kernel
theorem dX8_limitOf_27 : decode cX8_limitOf 27 = .ok (.ireturn, 1) := by decide +kernel
set_option maxRecDepth 20000 in
theorem ggX8_stopBy_X8_size : GoodIn wsX8_stopBy wsX8_size := goodIn_r _ [5] (by decide +kernel) (by decide +kernel)
set_option maxRecDepth 20000 in
theorem gX8_stopBy_X8_size : GoodIn wsX8_stopBy (va_wsS RX8 84 yX8_size wsX8_size) := goodIn_app (goodIn_of _ (by decide +kernel)) ggX8_stopBy_X8_size
theorem dX8_stopBy_0 : decode cX8_stopBy 0 = .ok (.iconst 0, 1) := by decide +kernel
theorem dX8_stopBy_1 : decode cX8_stopBy 1 = .ok (.istore_n 2, 1) := by decide +kernel
theorem dX8_stopBy_2 : decode cX8_stopBy 2 = .ok (.iload_n 1, 1) := by decide +kernel
theorem dX8_stopBy_3 : decode cX8_stopBy 3 = .ok (.invokestatic 84, 3) := by decide +kernel
theorem dX8_stopBy_6 : decode cX8_stopBy 6 = .ok (.istore_n 3, 1) := by decide +kernel
theorem dX8_stopBy_7 : decode cX8_stopBy 7 = .ok (.iload_n 3, 1) := by decide +kernel
theorem dX8_stopBy_8 : decode cX8_stopBy 8 = .ok (.ifCond .le 19, 3) := by decide +kernel
theorem dX8_stopBy_11 : decode cX8_stopBy 11 = .ok (.iload_n 2, 1) := by decide +kernel
theorem dX8_stopBy_12 : decode cX8_stopBy 12 = .ok (.iload_n 3, 1) := by decide +kernel
theorem dX8_stopBy_13 : decode cX8_stopBy 13 = .ok (.iadd, 1) := by decide +kernel
theorem dX8_stopBy_14 : decode cX8_stopBy 14 = .ok (.istore_n 2, 1) := by decide +kernel
theorem dX8_stopBy_15 : decode cX8_stopBy 15 = .ok (.iload_n 3, 1) := by decide +kernel
theorem dX8_stopBy_16 : decode cX8_stopBy 16 = .ok (.aload_n 0, 1) := by decide +kernel
theorem dX8_stopBy_17 : decode cX8_stopBy 17 = .ok (.getfield 7, 3) := by decide +kernel
theorem dX8_stopBy_20 : decode cX8_stopBy 20 = .ok (.iconst 2, 1) := by decide +kernel
theorem dX8_stopBy_21 : decode cX8_stopBy 21 = .ok (.iaload, 1) := by decide +kernel
theorem dX8_stopBy_22 : decode cX8_stopBy 22 = .ok (.isub, 1) := by decide +kernel
theorem dX8_stopBy_23 : decode cX8_stopBy 23 = .ok (.istore_n 3, 1) := by decide +kernel
theorem dX8_stopBy_24 : decode cX8_stopBy 24 = .ok (.goto (-17), 3) := by decide +kernel
theorem dX8_stopBy_27 : decode cX8_stopBy 27 = .ok (.iload_n 2, 1) := by decide +kernel
theorem dX8_stopBy_28 : decode cX8_stopBy 28 = .ok (.ireturn, 1) := by decide +kernel
theorem dX8_halfOf_0 : decode cX8_halfOf 0 = .ok (.iconst 1, 1) := by decide +kernel
theorem dX8_halfOf_1 : decode cX8_halfOf 1 = .ok (.istore_n 1, 1) := by decide +kernel
theorem dX8_halfOf_2 : decode cX8_halfOf 2 = .ok (.bipush 8, 2) := by decide +kernel
theorem dX8_halfOf_4 : decode cX8_halfOf 4 = .ok (.iload_n 1, 1) := by decide +kernel
theorem dX8_halfOf_5 : decode cX8_halfOf 5 = .ok (.imul, 1) := by decide +kernel
theorem dX8_halfOf_6 : decode cX8_halfOf 6 = .ok (.iload_n 1, 1) := by decide +kernel
theorem dX8_halfOf_7 : decode cX8_halfOf 7 = .ok (.imul, 1) := by decide +kernel
theorem dX8_halfOf_8 : decode cX8_halfOf 8 = .ok (.iconst 5, 1) := by decide +kernel
theorem dX8_halfOf_9 : decode cX8_halfOf 9 = .ok (.iload_n 0, 1) := by decide +kernel
theorem dX8_halfOf_10 : decode cX8_halfOf 10 = .ok (.imul, 1) := by decide +kernel
theorem dX8_halfOf_11 : decode cX8_halfOf 11 = .ok (.if_icmp .ge 9, 3) := by decide +kernel
theorem dX8_halfOf_14 : decode cX8_halfOf 14 = .ok (.iinc 1 1, 3) := by decide +kernel
theorem dX8_halfOf_17 : decode cX8_halfOf 17 = .ok (.goto (-15), 3) := by decide +kernel
theorem dX8_halfOf_20 : decode cX8_halfOf 20 = .ok (.iload_n 1, 1) := by decide +kernel
theorem dX8_halfOf_21 : decode cX8_halfOf 21 = .ok (.ireturn, 1) := by decide +kernel
set_option maxRecDepth 20000 in
theorem ggX8_free_X8_of : GoodIn wsX8_free wsX8_of := goodIn_r _ [6, 1, 7, 8, 9, 10, 11, 12, 13, 14, 15] (by decide +kernel) (by decide +kernel)
set_option maxRecDepth 20000 in
theorem gX8_free_X8_of : GoodIn wsX8_free (wsV RX8 80 RX8 yX8_of wsX8_of) := goodIn_app (goodIn_of _ (by decide +kernel)) ggX8_free_X8_of
theorem dX8_free_0 : decode cX8_free 0 = .ok (.aload_n 0, 1) := by decide +kernel
theorem dX8_free_1 : decode cX8_free 1 = .ok (.iconst 1, 1) := by decide +kernel
theorem dX8_free_2 : decode cX8_free 2 = .ok (.iconst 0, 1) := by decide +kernel
theorem dX8_free_3 : decode cX8_free 3 = .ok (.invokevirtual 80, 3) := by decide +kernel
theorem dX8_free_6 : decode cX8_free 6 = .ok (.aload_n 0, 1) := by decide +kernel
theorem dX8_free_7 : decode cX8_free 7 = .ok (.iconst 0, 1) := by decide +kernel
theorem dX8_free_8 : decode cX8_free 8 = .ok (.iconst 0, 1) := by decide +kernel
theorem dX8_free_9 : decode cX8_free 9 = .ok (.invokevirtual 80, 3) := by decide +kernel
theorem dX8_free_12 : decode cX8_free 12 = .ok (.isub, 1) := by decide +kernel
theorem dX8_free_13 : decode cX8_free 13 = .ok (.aload_n 0, 1) := by decide +kernel
theorem dX8_free_14 : decode cX8_free 14 = .ok (.getfield 7, 3) := by decide +kernel
theorem dX8_free_17 : decode cX8_free 17 = .ok (.iconst 1, 1) := by decide +kernel
theorem dX8_free_18 : decode cX8_free 18 = .ok (.iaload, 1) := by decide +kernel
theorem dX8_free_19 : decode cX8_free 19 = .ok (.isub, 1) := by decide +kernel
theorem dX8_free_20 : decode cX8_free 20 = .ok (.ireturn, 1) := by decide +kernel
set_option maxRecDepth 20000 in
theorem ggX8_stepsCome_X8_of : GoodIn wsX8_stepsCome wsX8_of := goodIn_r _ [6, 1, 11, 12, 13, 14, 15, 16, 17, 18, 19] (by decide +kernel) (by decide +kernel)
set_option maxRecDepth 20000 in
theorem gX8_stepsCome_X8_of : GoodIn wsX8_stepsCome (wsV RX8 80 RX8 yX8_of wsX8_of) := goodIn_app (goodIn_of _ (by decide +kernel)) ggX8_stepsCome_X8_of
set_option maxRecDepth 20000 in
theorem ggX8_stepsCome_X8_tells : GoodIn wsX8_stepsCome wsX8_tells := goodIn_r _ [10, 1, 11, 12, 13, 14, 15, 16, 17, 18, 19] (by decide +kernel) (by decide +kernel)
set_option maxRecDepth 20000 in
theorem gX8_stepsCome_X8_tells : GoodIn wsX8_stepsCome (wsV RX8 88 RX8 yX8_tells wsX8_tells) := goodIn_app (goodIn_of _ (by decide +kernel)) ggX8_stepsCome_X8_tells
theorem dX8_stepsCome_0 : decode cX8_stepsCome 0 = .ok (.iconst 0, 1) := by decide +kernel
theorem dX8_stepsCome_1 : decode cX8_stepsCome 1 = .ok (.istore_n 2, 1) := by decide +kernel
theorem dX8_stepsCome_2 : decode cX8_stepsCome 2 = .ok (.aload_n 0, 1) := by decide +kernel
theorem dX8_stepsCome_3 : decode cX8_stepsCome 3 = .ok (.iload_n 1, 1) := by decide +kernel
theorem dX8_stepsCome_4 : decode cX8_stepsCome 4 = .ok (.bipush 8, 2) := by decide +kernel
theorem dX8_stepsCome_6 : decode cX8_stepsCome 6 = .ok (.invokevirtual 80, 3) := by decide +kernel
theorem dX8_stepsCome_9 : decode cX8_stepsCome 9 = .ok (.istore_n 3, 1) := by decide +kernel
theorem dX8_stepsCome_10 : decode cX8_stepsCome 10 = .ok (.iconst 0, 1) := by decide +kernel
theorem dX8_stepsCome_11 : decode cX8_stepsCome 11 = .ok (.istore 4, 2) := by decide +kernel
theorem dX8_stepsCome_13 : decode cX8_stepsCome 13 = .ok (.iload 4, 2) := by decide +kernel
theorem dX8_stepsCome_15 : decode cX8_stepsCome 15 = .ok (.iload_n 3, 1) := by decide +kernel
theorem dX8_stepsCome_16 : decode cX8_stepsCome 16 = .ok (.if_icmp .ge 102, 3) := by decide +kernel
theorem dX8_stepsCome_19 : decode cX8_stepsCome 19 = .ok (.aload_n 0, 1) := by decide +kernel
theorem dX8_stepsCome_20 : decode cX8_stepsCome 20 = .ok (.iload_n 1, 1) := by decide +kernel
theorem dX8_stepsCome_21 : decode cX8_stepsCome 21 = .ok (.bipush 9, 2) := by decide +kernel
theorem dX8_stepsCome_23 : decode cX8_stepsCome 23 = .ok (.iconst 2, 1) := by decide +kernel
theorem dX8_stepsCome_24 : decode cX8_stepsCome 24 = .ok (.iload 4, 2) := by decide +kernel
theorem dX8_stepsCome_26 : decode cX8_stepsCome 26 = .ok (.imul, 1) := by decide +kernel
theorem dX8_stepsCome_27 : decode cX8_stepsCome 27 = .ok (.iadd, 1) := by decide +kernel
theorem dX8_stepsCome_28 : decode cX8_stepsCome 28 = .ok (.invokevirtual 80, 3) := by decide +kernel
theorem dX8_stepsCome_31 : decode cX8_stepsCome 31 = .ok (.istore 5, 2) := by decide +kernel
theorem dX8_stepsCome_33 : decode cX8_stepsCome 33 = .ok (.aload_n 0, 1) := by decide +kernel
theorem dX8_stepsCome_34 : decode cX8_stepsCome 34 = .ok (.iload_n 1, 1) := by decide +kernel
theorem dX8_stepsCome_35 : decode cX8_stepsCome 35 = .ok (.bipush 9, 2) := by decide +kernel
theorem dX8_stepsCome_37 : decode cX8_stepsCome 37 = .ok (.iconst 2, 1) := by decide +kernel
theorem dX8_stepsCome_38 : decode cX8_stepsCome 38 = .ok (.iload 4, 2) := by decide +kernel
theorem dX8_stepsCome_40 : decode cX8_stepsCome 40 = .ok (.imul, 1) := by decide +kernel
theorem dX8_stepsCome_41 : decode cX8_stepsCome 41 = .ok (.iadd, 1) := by decide +kernel
theorem dX8_stepsCome_42 : decode cX8_stepsCome 42 = .ok (.iconst 1, 1) := by decide +kernel
theorem dX8_stepsCome_43 : decode cX8_stepsCome 43 = .ok (.iadd, 1) := by decide +kernel
theorem dX8_stepsCome_44 : decode cX8_stepsCome 44 = .ok (.invokevirtual 80, 3) := by decide +kernel
theorem dX8_stepsCome_47 : decode cX8_stepsCome 47 = .ok (.istore 6, 2) := by decide +kernel
theorem dX8_stepsCome_49 : decode cX8_stepsCome 49 = .ok (.iload 5, 2) := by decide +kernel
theorem dX8_stepsCome_51 : decode cX8_stepsCome 51 = .ok (.aload_n 0, 1) := by decide +kernel
theorem dX8_stepsCome_52 : decode cX8_stepsCome 52 = .ok (.getfield 7, 3) := by decide +kernel
theorem dX8_stepsCome_55 : decode cX8_stepsCome 55 = .ok (.bipush 6, 2) := by decide +kernel
theorem dX8_stepsCome_57 : decode cX8_stepsCome 57 = .ok (.iaload, 1) := by decide +kernel
theorem dX8_stepsCome_58 : decode cX8_stepsCome 58 = .ok (.if_icmp .ne 23, 3) := by decide +kernel
theorem dX8_stepsCome_61 : decode cX8_stepsCome 61 = .ok (.aload_n 0, 1) := by decide +kernel
theorem dX8_stepsCome_62 : decode cX8_stepsCome 62 = .ok (.iload_n 1, 1) := by decide +kernel
theorem dX8_stepsCome_63 : decode cX8_stepsCome 63 = .ok (.bipush 6, 2) := by decide +kernel
theorem dX8_stepsCome_65 : decode cX8_stepsCome 65 = .ok (.aload_n 0, 1) := by decide +kernel
theorem dX8_stepsCome_66 : decode cX8_stepsCome 66 = .ok (.iload_n 1, 1) := by decide +kernel
theorem dX8_stepsCome_67 : decode cX8_stepsCome 67 = .ok (.bipush 6, 2) := by decide +kernel
theorem dX8_stepsCome_69 : decode cX8_stepsCome 69 = .ok (.invokevirtual 80, 3) := by decide +kernel
theorem dX8_stepsCome_72 : decode cX8_stepsCome 72 = .ok (.iload 6, 2) := by decide +kernel
theorem dX8_stepsCome_74 : decode cX8_stepsCome 74 = .ok (.iadd, 1) := by decide +kernel
theorem dX8_stepsCome_75 : decode cX8_stepsCome 75 = .ok (.invokevirtual 88, 3) := by decide +kernel
theorem dX8_stepsCome_78 : decode cX8_stepsCome 78 = .ok (.goto 34, 3) := by decide +kernel
theorem dX8_stepsCome_81 : decode cX8_stepsCome 81 = .ok (.aload_n 0, 1) := by decide +kernel
theorem dX8_stepsCome_82 : decode cX8_stepsCome 82 = .ok (.iload_n 1, 1) := by decide +kernel
theorem dX8_stepsCome_83 : decode cX8_stepsCome 83 = .ok (.bipush 9, 2) := by decide +kernel
theorem dX8_stepsCome_85 : decode cX8_stepsCome 85 = .ok (.iconst 2, 1) := by decide +kernel
theorem dX8_stepsCome_86 : decode cX8_stepsCome 86 = .ok (.iload_n 2, 1) := by decide +kernel
theorem dX8_stepsCome_87 : decode cX8_stepsCome 87 = .ok (.imul, 1) := by decide +kernel
theorem dX8_stepsCome_88 : decode cX8_stepsCome 88 = .ok (.iadd, 1) := by decide +kernel
theorem dX8_stepsCome_89 : decode cX8_stepsCome 89 = .ok (.iload 5, 2) := by decide +kernel
theorem dX8_stepsCome_91 : decode cX8_stepsCome 91 = .ok (.invokevirtual 88, 3) := by decide +kernel
theorem dX8_stepsCome_94 : decode cX8_stepsCome 94 = .ok (.aload_n 0, 1) := by decide +kernel
theorem dX8_stepsCome_95 : decode cX8_stepsCome 95 = .ok (.iload_n 1, 1) := by decide +kernel
theorem dX8_stepsCome_96 : decode cX8_stepsCome 96 = .ok (.bipush 9, 2) := by decide +kernel
theorem dX8_stepsCome_98 : decode cX8_stepsCome 98 = .ok (.iconst 2, 1) := by decide +kernel
theorem dX8_stepsCome_99 : decode cX8_stepsCome 99 = .ok (.iload_n 2, 1) := by decide +kernel
theorem dX8_stepsCome_100 : decode cX8_stepsCome 100 = .ok (.imul, 1) := by decide +kernel
theorem dX8_stepsCome_101 : decode cX8_stepsCome 101 = .ok (.iadd, 1) := by decide +kernel
theorem dX8_stepsCome_102 : decode cX8_stepsCome 102 = .ok (.iconst 1, 1) := by decide +kernel
theorem dX8_stepsCome_103 : decode cX8_stepsCome 103 = .ok (.iadd, 1) := by decide +kernel
theorem dX8_stepsCome_104 : decode cX8_stepsCome 104 = .ok (.iload 6, 2) := by decide +kernel
theorem dX8_stepsCome_106 : decode cX8_stepsCome 106 = .ok (.invokevirtual 88, 3) := by decide +kernel
theorem dX8_stepsCome_109 : decode cX8_stepsCome 109 = .ok (.iinc 2 1, 3) := by decide +kernel
theorem dX8_stepsCome_112 : decode cX8_stepsCome 112 = .ok (.iinc 4 1, 3) := by decide +kernel
theorem dX8_stepsCome_115 : decode cX8_stepsCome 115 = .ok (.goto (-102), 3) := by decide +kernel
theorem dX8_stepsCome_118 : decode cX8_stepsCome 118 = .ok (.aload_n 0, 1) := by decide +kernel
theorem dX8_stepsCome_119 : decode cX8_stepsCome 119 = .ok (.iload_n 1, 1) := by decide +kernel
theorem dX8_stepsCome_120 : decode cX8_stepsCome 120 = .ok (.bipush 8, 2) := by decide +kernel
theorem dX8_stepsCome_122 : decode cX8_stepsCome 122 = .ok (.iload_n 2, 1) := by decide +kernel
theorem dX8_stepsCome_123 : decode cX8_stepsCome 123 = .ok (.invokevirtual 88, 3) := by decide +kernel
theorem dX8_stepsCome_126 : decode cX8_stepsCome 126 = .ok (.iconst 2, 1) := by decide +kernel
theorem dX8_stepsCome_127 : decode cX8_stepsCome 127 = .ok (.iload_n 2, 1) := by decide +kernel
theorem dX8_stepsCome_128 : decode cX8_stepsCome 128 = .ok (.imul, 1) := by decide +kernel
theorem dX8_stepsCome_129 : decode cX8_stepsCome 129 = .ok (.istore 4, 2) := by decide +kernel
theorem dX8_stepsCome_131 : decode cX8_stepsCome 131 = .ok (.iload 4, 2) := by decide +kernel
theorem dX8_stepsCome_133 : decode cX8_stepsCome 133 = .ok (.iconst 4, 1) := by decide +kernel
theorem dX8_stepsCome_134 : decode cX8_stepsCome 134 = .ok (.if_icmp .ge 20, 3) := by decide +kernel
theorem dX8_stepsCome_137 : decode cX8_stepsCome 137 = .ok (.aload_n 0, 1) := by decide +kernel
theorem dX8_stepsCome_138 : decode cX8_stepsCome 138 = .ok (.iload_n 1, 1) := by decide +kernel
theorem dX8_stepsCome_139 : decode cX8_stepsCome 139 = .ok (.bipush 9, 2) := by decide +kernel
theorem dX8_stepsCome_141 : decode cX8_stepsCome 141 = .ok (.iload 4, 2) := by decide +kernel
theorem dX8_stepsCome_143 : decode cX8_stepsCome 143 = .ok (.iadd, 1) := by decide +kernel
theorem dX8_stepsCome_144 : decode cX8_stepsCome 144 = .ok (.iconst 0, 1) := by decide +kernel
theorem dX8_stepsCome_145 : decode cX8_stepsCome 145 = .ok (.invokevirtual 88, 3) := by decide +kernel
theorem dX8_stepsCome_148 : decode cX8_stepsCome 148 = .ok (.iinc 4 1, 3) := by decide +kernel
theorem dX8_stepsCome_151 : decode cX8_stepsCome 151 = .ok (.goto (-20), 3) := by decide +kernel
theorem dX8_stepsCome_154 : decode cX8_stepsCome 154 = .ok (.return_, 1) := by decide +kernel
set_option maxRecDepth 20000 in
theorem ggX8_wanted_X8_limitOf : GoodIn wsX8_wanted wsX8_limitOf := goodIn_r _ [6, 1, 7, 8, 9, 5, 10, 11, 12, 13, 14, 15, 16, 17, 18, 19] (by decide +kernel) (by decide +kernel)
set_option maxRecDepth 20000 in
theorem gX8_wanted_X8_limitOf : GoodIn wsX8_wanted (wsV RX8 92 RX8 yX8_limitOf wsX8_limitOf) := goodIn_app (goodIn_of _ (by decide +kernel)) ggX8_wanted_X8_limitOf
set_option maxRecDepth 20000 in
theorem ggX8_wanted_X8_of : GoodIn wsX8_wanted wsX8_of := goodIn_r _ [10, 1, 11, 12, 13, 14, 15, 16, 17, 18, 19] (by decide +kernel) (by decide +kernel)
set_option maxRecDepth 20000 in
theorem gX8_wanted_X8_of : GoodIn wsX8_wanted (wsV RX8 80 RX8 yX8_of wsX8_of) := goodIn_app (goodIn_of _ (by decide +kernel)) ggX8_wanted_X8_of
theorem dX8_wanted_0 : decode cX8_wanted 0 = .ok (.aload_n 0, 1) := by decide +kernel
theorem dX8_wanted_1 : decode cX8_wanted 1 = .ok (.iload_n 1, 1) := by decide +kernel
theorem dX8_wanted_2 : decode cX8_wanted 2 = .ok (.invokevirtual 92, 3) := by decide +kernel
theorem dX8_wanted_5 : decode cX8_wanted 5 = .ok (.istore_n 2, 1) := by decide +kernel
theorem dX8_wanted_6 : decode cX8_wanted 6 = .ok (.aload_n 0, 1) := by decide +kernel
theorem dX8_wanted_7 : decode cX8_wanted 7 = .ok (.iload_n 1, 1) := by decide +kernel
theorem dX8_wanted_8 : decode cX8_wanted 8 = .ok (.bipush 6, 2) := by decide +kernel
theorem dX8_wanted_10 : decode cX8_wanted 10 = .ok (.invokevirtual 80, 3) := by decide +kernel
theorem dX8_wanted_13 : decode cX8_wanted 13 = .ok (.istore_n 3, 1) := by decide +kernel
theorem dX8_wanted_14 : decode cX8_wanted 14 = .ok (.iload_n 3, 1) := by decide +kernel
theorem dX8_wanted_15 : decode cX8_wanted 15 = .ok (.iload_n 2, 1) := by decide +kernel
theorem dX8_wanted_16 : decode cX8_wanted 16 = .ok (.if_icmp .le 7, 3) := by decide +kernel
theorem dX8_wanted_19 : decode cX8_wanted 19 = .ok (.iload_n 2, 1) := by decide +kernel
theorem dX8_wanted_20 : decode cX8_wanted 20 = .ok (.goto 15, 3) := by decide +kernel
theorem dX8_wanted_23 : decode cX8_wanted 23 = .ok (.iload_n 3, 1) := by decide +kernel
theorem dX8_wanted_24 : decode cX8_wanted 24 = .ok (.iload_n 2, 1) := by decide +kernel
theorem dX8_wanted_25 : decode cX8_wanted 25 = .ok (.ineg, 1) := by decide +kernel
theorem dX8_wanted_26 : decode cX8_wanted 26 = .ok (.if_icmp .ge 8, 3) := by decide +kernel
theorem dX8_wanted_29 : decode cX8_wanted 29 = .ok (.iload_n 2, 1) := by decide +kernel
theorem dX8_wanted_30 : decode cX8_wanted 30 = .ok (.ineg, 1) := by decide +kernel
theorem dX8_wanted_31 : decode cX8_wanted 31 = .ok (.goto 4, 3) := by decide +kernel
theorem dX8_wanted_34 : decode cX8_wanted 34 = .ok (.iload_n 3, 1) := by decide +kernel
theorem dX8_wanted_35 : decode cX8_wanted 35 = .ok (.istore_n 3, 1) := by decide +kernel
theorem dX8_wanted_36 : decode cX8_wanted 36 = .ok (.aload_n 0, 1) := by decide +kernel
theorem dX8_wanted_37 : decode cX8_wanted 37 = .ok (.iload_n 1, 1) := by decide +kernel
theorem dX8_wanted_38 : decode cX8_wanted 38 = .ok (.iconst 1, 1) := by decide +kernel
theorem dX8_wanted_39 : decode cX8_wanted 39 = .ok (.invokevirtual 80, 3) := by decide +kernel
theorem dX8_wanted_42 : decode cX8_wanted 42 = .ok (.istore 4, 2) := by decide +kernel
theorem dX8_wanted_44 : decode cX8_wanted 44 = .ok (.iload_n 3, 1) := by decide +kernel
theorem dX8_wanted_45 : decode cX8_wanted 45 = .ok (.iload 4, 2) := by decide +kernel
theorem dX8_wanted_47 : decode cX8_wanted 47 = .ok (.isub, 1) := by decide +kernel
theorem dX8_wanted_48 : decode cX8_wanted 48 = .ok (.istore 5, 2) := by decide +kernel
theorem dX8_wanted_50 : decode cX8_wanted 50 = .ok (.iload 5, 2) := by decide +kernel
theorem dX8_wanted_52 : decode cX8_wanted 52 = .ok (.aload_n 0, 1) := by decide +kernel
theorem dX8_wanted_53 : decode cX8_wanted 53 = .ok (.getfield 7, 3) := by decide +kernel
theorem dX8_wanted_56 : decode cX8_wanted 56 = .ok (.iconst 2, 1) := by decide +kernel
theorem dX8_wanted_57 : decode cX8_wanted 57 = .ok (.iaload, 1) := by decide +kernel
theorem dX8_wanted_58 : decode cX8_wanted 58 = .ok (.if_icmp .le 12, 3) := by decide +kernel
theorem dX8_wanted_61 : decode cX8_wanted 61 = .ok (.aload_n 0, 1) := by decide +kernel
theorem dX8_wanted_62 : decode cX8_wanted 62 = .ok (.getfield 7, 3) := by decide +kernel
theorem dX8_wanted_65 : decode cX8_wanted 65 = .ok (.iconst 2, 1) := by decide +kernel
theorem dX8_wanted_66 : decode cX8_wanted 66 = .ok (.iaload, 1) := by decide +kernel
theorem dX8_wanted_67 : decode cX8_wanted 67 = .ok (.goto 27, 3) := by decide +kernel
theorem dX8_wanted_70 : decode cX8_wanted 70 = .ok (.iload 5, 2) := by decide +kernel
theorem dX8_wanted_72 : decode cX8_wanted 72 = .ok (.aload_n 0, 1) := by decide +kernel
theorem dX8_wanted_73 : decode cX8_wanted 73 = .ok (.getfield 7, 3) := by decide +kernel
theorem dX8_wanted_76 : decode cX8_wanted 76 = .ok (.iconst 2, 1) := by decide +kernel
theorem dX8_wanted_77 : decode cX8_wanted 77 = .ok (.iaload, 1) := by decide +kernel
theorem dX8_wanted_78 : decode cX8_wanted 78 = .ok (.ineg, 1) := by decide +kernel
theorem dX8_wanted_79 : decode cX8_wanted 79 = .ok (.if_icmp .ge 13, 3) := by decide +kernel
theorem dX8_wanted_82 : decode cX8_wanted 82 = .ok (.aload_n 0, 1) := by decide +kernel
theorem dX8_wanted_83 : decode cX8_wanted 83 = .ok (.getfield 7, 3) := by decide +kernel
theorem dX8_wanted_86 : decode cX8_wanted 86 = .ok (.iconst 2, 1) := by decide +kernel
theorem dX8_wanted_87 : decode cX8_wanted 87 = .ok (.iaload, 1) := by decide +kernel
theorem dX8_wanted_88 : decode cX8_wanted 88 = .ok (.ineg, 1) := by decide +kernel
theorem dX8_wanted_89 : decode cX8_wanted 89 = .ok (.goto 5, 3) := by decide +kernel
theorem dX8_wanted_92 : decode cX8_wanted 92 = .ok (.iload 5, 2) := by decide +kernel
theorem dX8_wanted_94 : decode cX8_wanted 94 = .ok (.istore 5, 2) := by decide +kernel
theorem dX8_wanted_96 : decode cX8_wanted 96 = .ok (.iload 4, 2) := by decide +kernel
theorem dX8_wanted_98 : decode cX8_wanted 98 = .ok (.iload 5, 2) := by decide +kernel
theorem dX8_wanted_100 : decode cX8_wanted 100 = .ok (.iadd, 1) := by decide +kernel
theorem dX8_wanted_101 : decode cX8_wanted 101 = .ok (.ireturn, 1) := by decide +kernel
set_option maxRecDepth 20000 in
theorem ggX8_roomFor_X8_free : GoodIn wsX8_roomFor wsX8_free := goodIn_r _ [6, 1, 7, 8, 9, 5, 10, 11, 12, 13, 14, 15, 16, 17, 18, 19] (by decide +kernel) (by decide +kernel)
set_option maxRecDepth 20000 in
theorem gX8_roomFor_X8_free : GoodIn wsX8_roomFor (wsV RX8 95 RX8 yX8_free wsX8_free) := goodIn_app (goodIn_of _ (by decide +kernel)) ggX8_roomFor_X8_free
set_option maxRecDepth 20000 in
theorem ggX8_roomFor_X8_of : GoodIn wsX8_roomFor wsX8_of := goodIn_r _ [10, 1, 11, 12, 13, 14, 15, 16, 17, 18, 19] (by decide +kernel) (by decide +kernel)
set_option maxRecDepth 20000 in
theorem gX8_roomFor_X8_of : GoodIn wsX8_roomFor (wsV RX8 80 RX8 yX8_of wsX8_of) := goodIn_app (goodIn_of _ (by decide +kernel)) ggX8_roomFor_X8_of
theorem dX8_roomFor_0 : decode cX8_roomFor 0 = .ok (.iload_n 2, 1) := by decide +kernel
theorem dX8_roomFor_1 : decode cX8_roomFor 1 = .ok (.ifCond .le 30, 3) := by decide +kernel
theorem dX8_roomFor_4 : decode cX8_roomFor 4 = .ok (.iload_n 1, 1) := by decide +kernel
theorem dX8_roomFor_5 : decode cX8_roomFor 5 = .ok (.ifCond .ne 12, 3) := by decide +kernel
theorem dX8_roomFor_8 : decode cX8_roomFor 8 = .ok (.aload_n 0, 1) := by decide +kernel
theorem dX8_roomFor_9 : decode cX8_roomFor 9 = .ok (.invokevirtual 95, 3) := by decide +kernel
theorem dX8_roomFor_12 : decode cX8_roomFor 12 = .ok (.iconst 2, 1) := by decide +kernel
theorem dX8_roomFor_13 : decode cX8_roomFor 13 = .ok (.idiv, 1) := by decide +kernel
theorem dX8_roomFor_14 : decode cX8_roomFor 14 = .ok (.goto 16, 3) := by decide +kernel
theorem dX8_roomFor_17 : decode cX8_roomFor 17 = .ok (.aload_n 0, 1) := by decide +kernel
theorem dX8_roomFor_18 : decode cX8_roomFor 18 = .ok (.getfield 7, 3) := by decide +kernel
theorem dX8_roomFor_21 : decode cX8_roomFor 21 = .ok (.iconst 0, 1) := by decide +kernel
theorem dX8_roomFor_22 : decode cX8_roomFor 22 = .ok (.iaload, 1) := by decide +kernel
theorem dX8_roomFor_23 : decode cX8_roomFor 23 = .ok (.aload_n 0, 1) := by decide +kernel
theorem dX8_roomFor_24 : decode cX8_roomFor 24 = .ok (.iconst 1, 1) := by decide +kernel
theorem dX8_roomFor_25 : decode cX8_roomFor 25 = .ok (.iconst 0, 1) := by decide +kernel
theorem dX8_roomFor_26 : decode cX8_roomFor 26 = .ok (.invokevirtual 80, 3) := by decide +kernel
theorem dX8_roomFor_29 : decode cX8_roomFor 29 = .ok (.isub, 1) := by decide +kernel
theorem dX8_roomFor_30 : decode cX8_roomFor 30 = .ok (.ireturn, 1) := by decide +kernel
theorem dX8_roomFor_31 : decode cX8_roomFor 31 = .ok (.iload_n 1, 1) := by decide +kernel
theorem dX8_roomFor_32 : decode cX8_roomFor 32 = .ok (.ifCond .ne 12, 3) := by decide +kernel
theorem dX8_roomFor_35 : decode cX8_roomFor 35 = .ok (.aload_n 0, 1) := by decide +kernel
theorem dX8_roomFor_36 : decode cX8_roomFor 36 = .ok (.iconst 0, 1) := by decide +kernel
theorem dX8_roomFor_37 : decode cX8_roomFor 37 = .ok (.iconst 0, 1) := by decide +kernel
theorem dX8_roomFor_38 : decode cX8_roomFor 38 = .ok (.invokevirtual 80, 3) := by decide +kernel
theorem dX8_roomFor_41 : decode cX8_roomFor 41 = .ok (.goto 9, 3) := by decide +kernel
theorem dX8_roomFor_44 : decode cX8_roomFor 44 = .ok (.aload_n 0, 1) := by decide +kernel
theorem dX8_roomFor_45 : decode cX8_roomFor 45 = .ok (.invokevirtual 95, 3) := by decide +kernel
theorem dX8_roomFor_48 : decode cX8_roomFor 48 = .ok (.iconst 2, 1) := by decide +kernel
theorem dX8_roomFor_49 : decode cX8_roomFor 49 = .ok (.idiv, 1) := by decide +kernel
theorem dX8_roomFor_50 : decode cX8_roomFor 50 = .ok (.ireturn, 1) := by decide +kernel
set_option maxRecDepth 20000 in
theorem ggX8_braked_X8_roomFor : GoodIn wsX8_braked wsX8_roomFor := goodIn_r _ [5, 6, 7, 8, 9, 4, 10, 11, 12, 13, 14, 22, 23, 24, 25, 26, 27, 28, 29, 30] (by decide +kernel) (by decide +kernel)
set_option maxRecDepth 20000 in
theorem gX8_braked_X8_roomFor : GoodIn wsX8_braked (wsV RX8 98 RX8 yX8_roomFor wsX8_roomFor) := goodIn_app (goodIn_of _ (by decide +kernel)) ggX8_braked_X8_roomFor
set_option maxRecDepth 20000 in
theorem ggX8_braked_X8_stopBy : GoodIn wsX8_braked wsX8_stopBy := goodIn_r _ [18, 6, 19, 20, 4, 21, 22, 23, 24, 25, 26, 27, 28, 29, 30] (by decide +kernel) (by decide +kernel)
set_option maxRecDepth 20000 in
theorem gX8_braked_X8_stopBy : GoodIn wsX8_braked (wsV RX8 101 RX8 yX8_stopBy wsX8_stopBy) := goodIn_app (goodIn_of _ (by decide +kernel)) ggX8_braked_X8_stopBy
theorem dX8_braked_0 : decode cX8_braked 0 = .ok (.aload_n 0, 1) := by decide +kernel
theorem dX8_braked_1 : decode cX8_braked 1 = .ok (.iload_n 1, 1) := by decide +kernel
theorem dX8_braked_2 : decode cX8_braked 2 = .ok (.iload_n 2, 1) := by decide +kernel
theorem dX8_braked_3 : decode cX8_braked 3 = .ok (.invokevirtual 98, 3) := by decide +kernel
theorem dX8_braked_6 : decode cX8_braked 6 = .ok (.istore_n 3, 1) := by decide +kernel
theorem dX8_braked_7 : decode cX8_braked 7 = .ok (.iload_n 2, 1) := by decide +kernel
theorem dX8_braked_8 : decode cX8_braked 8 = .ok (.istore 4, 2) := by decide +kernel
theorem dX8_braked_10 : decode cX8_braked 10 = .ok (.iload 4, 2) := by decide +kernel
theorem dX8_braked_12 : decode cX8_braked 12 = .ok (.ifCond .eq 31, 3) := by decide +kernel
theorem dX8_braked_15 : decode cX8_braked 15 = .ok (.aload_n 0, 1) := by decide +kernel
theorem dX8_braked_16 : decode cX8_braked 16 = .ok (.iload 4, 2) := by decide +kernel
theorem dX8_braked_18 : decode cX8_braked 18 = .ok (.invokevirtual 101, 3) := by decide +kernel
theorem dX8_braked_21 : decode cX8_braked 21 = .ok (.iload_n 3, 1) := by decide +kernel
theorem dX8_braked_22 : decode cX8_braked 22 = .ok (.if_icmp .le 21, 3) := by decide +kernel
theorem dX8_braked_25 : decode cX8_braked 25 = .ok (.iload 4, 2) := by decide +kernel
theorem dX8_braked_27 : decode cX8_braked 27 = .ok (.iload 4, 2) := by decide +kernel
theorem dX8_braked_29 : decode cX8_braked 29 = .ok (.ifCond .le 7, 3) := by decide +kernel
theorem dX8_braked_32 : decode cX8_braked 32 = .ok (.iconst (-1), 1) := by decide +kernel
theorem dX8_braked_33 : decode cX8_braked 33 = .ok (.goto 4, 3) := by decide +kernel
theorem dX8_braked_36 : decode cX8_braked 36 = .ok (.iconst 1, 1) := by decide +kernel
theorem dX8_braked_37 : decode cX8_braked 37 = .ok (.iadd, 1) := by decide +kernel
theorem dX8_braked_38 : decode cX8_braked 38 = .ok (.istore 4, 2) := by decide +kernel
theorem dX8_braked_40 : decode cX8_braked 40 = .ok (.goto (-30), 3) := by decide +kernel
theorem dX8_braked_43 : decode cX8_braked 43 = .ok (.iload 4, 2) := by decide +kernel
theorem dX8_braked_45 : decode cX8_braked 45 = .ok (.ireturn, 1) := by decide +kernel
theorem dX8_kept_0 : decode cX8_kept 0 = .ok (.iload_n 0, 1) := by decide +kernel
theorem dX8_kept_1 : decode cX8_kept 1 = .ok (.sipush 9999, 3) := by decide +kernel
theorem dX8_kept_4 : decode cX8_kept 4 = .ok (.if_icmp .le 9, 3) := by decide +kernel
theorem dX8_kept_7 : decode cX8_kept 7 = .ok (.sipush 9999, 3) := by decide +kernel
theorem dX8_kept_10 : decode cX8_kept 10 = .ok (.goto 17, 3) := by decide +kernel
theorem dX8_kept_13 : decode cX8_kept 13 = .ok (.iload_n 0, 1) := by decide +kernel
theorem dX8_kept_14 : decode cX8_kept 14 = .ok (.sipush (-9999), 3) := by decide +kernel
theorem dX8_kept_17 : decode cX8_kept 17 = .ok (.if_icmp .ge 9, 3) := by decide +kernel
theorem dX8_kept_20 : decode cX8_kept 20 = .ok (.sipush (-9999), 3) := by decide +kernel
theorem dX8_kept_23 : decode cX8_kept 23 = .ok (.goto 4, 3) := by decide +kernel
theorem dX8_kept_26 : decode cX8_kept 26 = .ok (.iload_n 0, 1) := by decide +kernel
theorem dX8_kept_27 : decode cX8_kept 27 = .ok (.ireturn, 1) := by decide +kernel
set_option maxRecDepth 20000 in
theorem ggX8_goes_X8_of : GoodIn wsX8_goes wsX8_of := goodIn_r _ [5, 6, 14, 15, 16, 17, 18, 19, 20, 21, 22] (by decide +kernel) (by decide +kernel)
set_option maxRecDepth 20000 in
theorem gX8_goes_X8_of : GoodIn wsX8_goes (wsV RX8 80 RX8 yX8_of wsX8_of) := goodIn_app (goodIn_of _ (by decide +kernel)) ggX8_goes_X8_of
set_option maxRecDepth 20000 in
theorem ggX8_goes_X8_tells : GoodIn wsX8_goes wsX8_tells := goodIn_r _ [10, 6, 14, 15, 16, 17, 18, 19, 20, 21, 22] (by decide +kernel) (by decide +kernel)
set_option maxRecDepth 20000 in
theorem gX8_goes_X8_tells : GoodIn wsX8_goes (wsV RX8 88 RX8 yX8_tells wsX8_tells) := goodIn_app (goodIn_of _ (by decide +kernel)) ggX8_goes_X8_tells
set_option maxRecDepth 20000 in
theorem ggX8_goes_X8_kept : GoodIn wsX8_goes wsX8_kept := goodIn_r _ [13] (by decide +kernel) (by decide +kernel)
set_option maxRecDepth 20000 in
theorem gX8_goes_X8_kept : GoodIn wsX8_goes (va_wsS RX8 104 yX8_kept wsX8_kept) := goodIn_app (goodIn_of _ (by decide +kernel)) ggX8_goes_X8_kept
theorem dX8_goes_0 : decode cX8_goes 0 = .ok (.iload_n 2, 1) := by decide +kernel
theorem dX8_goes_1 : decode cX8_goes 1 = .ok (.aload_n 0, 1) := by decide +kernel
theorem dX8_goes_2 : decode cX8_goes 2 = .ok (.iload_n 1, 1) := by decide +kernel
theorem dX8_goes_3 : decode cX8_goes 3 = .ok (.iconst 1, 1) := by decide +kernel
theorem dX8_goes_4 : decode cX8_goes 4 = .ok (.invokevirtual 80, 3) := by decide +kernel
theorem dX8_goes_7 : decode cX8_goes 7 = .ok (.isub, 1) := by decide +kernel
theorem dX8_goes_8 : decode cX8_goes 8 = .ok (.istore_n 3, 1) := by decide +kernel
theorem dX8_goes_9 : decode cX8_goes 9 = .ok (.aload_n 0, 1) := by decide +kernel
theorem dX8_goes_10 : decode cX8_goes 10 = .ok (.iload_n 1, 1) := by decide +kernel
theorem dX8_goes_11 : decode cX8_goes 11 = .ok (.iconst 0, 1) := by decide +kernel
theorem dX8_goes_12 : decode cX8_goes 12 = .ok (.aload_n 0, 1) := by decide +kernel
theorem dX8_goes_13 : decode cX8_goes 13 = .ok (.iload_n 1, 1) := by decide +kernel
theorem dX8_goes_14 : decode cX8_goes 14 = .ok (.iconst 0, 1) := by decide +kernel
theorem dX8_goes_15 : decode cX8_goes 15 = .ok (.invokevirtual 80, 3) := by decide +kernel
theorem dX8_goes_18 : decode cX8_goes 18 = .ok (.iload_n 2, 1) := by decide +kernel
theorem dX8_goes_19 : decode cX8_goes 19 = .ok (.iadd, 1) := by decide +kernel
theorem dX8_goes_20 : decode cX8_goes 20 = .ok (.invokevirtual 88, 3) := by decide +kernel
theorem dX8_goes_23 : decode cX8_goes 23 = .ok (.aload_n 0, 1) := by decide +kernel
theorem dX8_goes_24 : decode cX8_goes 24 = .ok (.iload_n 1, 1) := by decide +kernel
theorem dX8_goes_25 : decode cX8_goes 25 = .ok (.iconst 1, 1) := by decide +kernel
theorem dX8_goes_26 : decode cX8_goes 26 = .ok (.iload_n 2, 1) := by decide +kernel
theorem dX8_goes_27 : decode cX8_goes 27 = .ok (.invokevirtual 88, 3) := by decide +kernel
theorem dX8_goes_30 : decode cX8_goes 30 = .ok (.aload_n 0, 1) := by decide +kernel
theorem dX8_goes_31 : decode cX8_goes 31 = .ok (.iload_n 1, 1) := by decide +kernel
theorem dX8_goes_32 : decode cX8_goes 32 = .ok (.iconst 5, 1) := by decide +kernel
theorem dX8_goes_33 : decode cX8_goes 33 = .ok (.aload_n 0, 1) := by decide +kernel
theorem dX8_goes_34 : decode cX8_goes 34 = .ok (.iload_n 1, 1) := by decide +kernel
theorem dX8_goes_35 : decode cX8_goes 35 = .ok (.iconst 5, 1) := by decide +kernel
theorem dX8_goes_36 : decode cX8_goes 36 = .ok (.invokevirtual 80, 3) := by decide +kernel
theorem dX8_goes_39 : decode cX8_goes 39 = .ok (.bipush 16, 2) := by decide +kernel
theorem dX8_goes_41 : decode cX8_goes 41 = .ok (.aload_n 0, 1) := by decide +kernel
theorem dX8_goes_42 : decode cX8_goes 42 = .ok (.iload_n 1, 1) := by decide +kernel
theorem dX8_goes_43 : decode cX8_goes 43 = .ok (.iconst 4, 1) := by decide +kernel
theorem dX8_goes_44 : decode cX8_goes 44 = .ok (.invokevirtual 80, 3) := by decide +kernel
theorem dX8_goes_47 : decode cX8_goes 47 = .ok (.imul, 1) := by decide +kernel
theorem dX8_goes_48 : decode cX8_goes 48 = .ok (.aload_n 0, 1) := by decide +kernel
theorem dX8_goes_49 : decode cX8_goes 49 = .ok (.iload_n 1, 1) := by decide +kernel
theorem dX8_goes_50 : decode cX8_goes 50 = .ok (.iconst 2, 1) := by decide +kernel
theorem dX8_goes_51 : decode cX8_goes 51 = .ok (.invokevirtual 80, 3) := by decide +kernel
theorem dX8_goes_54 : decode cX8_goes 54 = .ok (.idiv, 1) := by decide +kernel
theorem dX8_goes_55 : decode cX8_goes 55 = .ok (.isub, 1) := by decide +kernel
theorem dX8_goes_56 : decode cX8_goes 56 = .ok (.iconst 4, 1) := by decide +kernel
theorem dX8_goes_57 : decode cX8_goes 57 = .ok (.iload_n 3, 1) := by decide +kernel
theorem dX8_goes_58 : decode cX8_goes 58 = .ok (.imul, 1) := by decide +kernel
theorem dX8_goes_59 : decode cX8_goes 59 = .ok (.isub, 1) := by decide +kernel
theorem dX8_goes_60 : decode cX8_goes 60 = .ok (.invokestatic 104, 3) := by decide +kernel
theorem dX8_goes_63 : decode cX8_goes 63 = .ok (.invokevirtual 88, 3) := by decide +kernel
theorem dX8_goes_66 : decode cX8_goes 66 = .ok (.aload_n 0, 1) := by decide +kernel
theorem dX8_goes_67 : decode cX8_goes 67 = .ok (.iload_n 1, 1) := by decide +kernel
theorem dX8_goes_68 : decode cX8_goes 68 = .ok (.iconst 4, 1) := by decide +kernel
theorem dX8_goes_69 : decode cX8_goes 69 = .ok (.aload_n 0, 1) := by decide +kernel
theorem dX8_goes_70 : decode cX8_goes 70 = .ok (.iload_n 1, 1) := by decide +kernel
theorem dX8_goes_71 : decode cX8_goes 71 = .ok (.iconst 4, 1) := by decide +kernel
theorem dX8_goes_72 : decode cX8_goes 72 = .ok (.invokevirtual 80, 3) := by decide +kernel
theorem dX8_goes_75 : decode cX8_goes 75 = .ok (.aload_n 0, 1) := by decide +kernel
theorem dX8_goes_76 : decode cX8_goes 76 = .ok (.iload_n 1, 1) := by decide +kernel
theorem dX8_goes_77 : decode cX8_goes 77 = .ok (.iconst 5, 1) := by decide +kernel
theorem dX8_goes_78 : decode cX8_goes 78 = .ok (.invokevirtual 80, 3) := by decide +kernel
theorem dX8_goes_81 : decode cX8_goes 81 = .ok (.iadd, 1) := by decide +kernel
theorem dX8_goes_82 : decode cX8_goes 82 = .ok (.invokestatic 104, 3) := by decide +kernel
theorem dX8_goes_85 : decode cX8_goes 85 = .ok (.invokevirtual 88, 3) := by decide +kernel
theorem dX8_goes_88 : decode cX8_goes 88 = .ok (.return_, 1) := by decide +kernel
set_option maxRecDepth 20000 in
theorem ggX8_hoists_X8_of : GoodIn wsX8_hoists wsX8_of := goodIn_r _ [6, 1, 14, 15, 16, 17, 18, 19, 20, 21, 22] (by decide +kernel) (by decide +kernel)
set_option maxRecDepth 20000 in
theorem gX8_hoists_X8_of : GoodIn wsX8_hoists (wsV RX8 80 RX8 yX8_of wsX8_of) := goodIn_app (goodIn_of _ (by decide +kernel)) ggX8_hoists_X8_of
set_option maxRecDepth 20000 in
theorem ggX8_hoists_X8_size : GoodIn wsX8_hoists wsX8_size := goodIn_r _ [9] (by decide +kernel) (by decide +kernel)
set_option maxRecDepth 20000 in
theorem gX8_hoists_X8_size : GoodIn wsX8_hoists (va_wsS RX8 84 yX8_size wsX8_size) := goodIn_app (goodIn_of _ (by decide +kernel)) ggX8_hoists_X8_size
set_option maxRecDepth 20000 in
theorem ggX8_hoists_X8_tells : GoodIn wsX8_hoists wsX8_tells := goodIn_r _ [13, 1, 14, 15, 16, 17, 18, 19, 20, 21, 22] (by decide +kernel) (by decide +kernel)
set_option maxRecDepth 20000 in
theorem gX8_hoists_X8_tells : GoodIn wsX8_hoists (wsV RX8 88 RX8 yX8_tells wsX8_tells) := goodIn_app (goodIn_of _ (by decide +kernel)) ggX8_hoists_X8_tells
theorem dX8_hoists_0 : decode cX8_hoists 0 = .ok (.aload_n 0, 1) := by decide +kernel
theorem dX8_hoists_1 : decode cX8_hoists 1 = .ok (.iload_n 1, 1) := by decide +kernel
theorem dX8_hoists_2 : decode cX8_hoists 2 = .ok (.iconst 2, 1) := by decide +kernel
theorem dX8_hoists_3 : decode cX8_hoists 3 = .ok (.invokevirtual 80, 3) := by decide +kernel
theorem dX8_hoists_6 : decode cX8_hoists 6 = .ok (.istore_n 2, 1) := by decide +kernel
theorem dX8_hoists_7 : decode cX8_hoists 7 = .ok (.aload_n 0, 1) := by decide +kernel
theorem dX8_hoists_8 : decode cX8_hoists 8 = .ok (.iload_n 1, 1) := by decide +kernel
theorem dX8_hoists_9 : decode cX8_hoists 9 = .ok (.bipush 7, 2) := by decide +kernel
theorem dX8_hoists_11 : decode cX8_hoists 11 = .ok (.invokevirtual 80, 3) := by decide +kernel
theorem dX8_hoists_14 : decode cX8_hoists 14 = .ok (.istore_n 3, 1) := by decide +kernel
theorem dX8_hoists_15 : decode cX8_hoists 15 = .ok (.iload_n 3, 1) := by decide +kernel
theorem dX8_hoists_16 : decode cX8_hoists 16 = .ok (.iload_n 2, 1) := by decide +kernel
theorem dX8_hoists_17 : decode cX8_hoists 17 = .ok (.if_icmp .eq 21, 3) := by decide +kernel
theorem dX8_hoists_20 : decode cX8_hoists 20 = .ok (.aload_n 0, 1) := by decide +kernel
theorem dX8_hoists_21 : decode cX8_hoists 21 = .ok (.iload_n 1, 1) := by decide +kernel
theorem dX8_hoists_22 : decode cX8_hoists 22 = .ok (.iconst 1, 1) := by decide +kernel
theorem dX8_hoists_23 : decode cX8_hoists 23 = .ok (.invokevirtual 80, 3) := by decide +kernel
theorem dX8_hoists_26 : decode cX8_hoists 26 = .ok (.invokestatic 84, 3) := by decide +kernel
theorem dX8_hoists_29 : decode cX8_hoists 29 = .ok (.aload_n 0, 1) := by decide +kernel
theorem dX8_hoists_30 : decode cX8_hoists 30 = .ok (.getfield 7, 3) := by decide +kernel
theorem dX8_hoists_33 : decode cX8_hoists 33 = .ok (.iconst 4, 1) := by decide +kernel
theorem dX8_hoists_34 : decode cX8_hoists 34 = .ok (.iaload, 1) := by decide +kernel
theorem dX8_hoists_35 : decode cX8_hoists 35 = .ok (.if_icmp .le 4, 3) := by decide +kernel
theorem dX8_hoists_38 : decode cX8_hoists 38 = .ok (.return_, 1) := by decide +kernel
theorem dX8_hoists_39 : decode cX8_hoists 39 = .ok (.iload_n 3, 1) := by decide +kernel
theorem dX8_hoists_40 : decode cX8_hoists 40 = .ok (.iload_n 2, 1) := by decide +kernel
theorem dX8_hoists_41 : decode cX8_hoists 41 = .ok (.if_icmp .le 9, 3) := by decide +kernel
theorem dX8_hoists_44 : decode cX8_hoists 44 = .ok (.iload_n 2, 1) := by decide +kernel
theorem dX8_hoists_45 : decode cX8_hoists 45 = .ok (.iconst 1, 1) := by decide +kernel
theorem dX8_hoists_46 : decode cX8_hoists 46 = .ok (.iadd, 1) := by decide +kernel
theorem dX8_hoists_47 : decode cX8_hoists 47 = .ok (.goto 6, 3) := by decide +kernel
theorem dX8_hoists_50 : decode cX8_hoists 50 = .ok (.iload_n 2, 1) := by decide +kernel
theorem dX8_hoists_51 : decode cX8_hoists 51 = .ok (.iconst 1, 1) := by decide +kernel
theorem dX8_hoists_52 : decode cX8_hoists 52 = .ok (.isub, 1) := by decide +kernel
theorem dX8_hoists_53 : decode cX8_hoists 53 = .ok (.istore 4, 2) := by decide +kernel
theorem dX8_hoists_55 : decode cX8_hoists 55 = .ok (.aload_n 0, 1) := by decide +kernel
theorem dX8_hoists_56 : decode cX8_hoists 56 = .ok (.iconst 1, 1) := by decide +kernel
theorem dX8_hoists_57 : decode cX8_hoists 57 = .ok (.iload_n 1, 1) := by decide +kernel
theorem dX8_hoists_58 : decode cX8_hoists 58 = .ok (.isub, 1) := by decide +kernel
theorem dX8_hoists_59 : decode cX8_hoists 59 = .ok (.iconst 2, 1) := by decide +kernel
theorem dX8_hoists_60 : decode cX8_hoists 60 = .ok (.invokevirtual 80, 3) := by decide +kernel
theorem dX8_hoists_63 : decode cX8_hoists 63 = .ok (.istore 5, 2) := by decide +kernel
theorem dX8_hoists_65 : decode cX8_hoists 65 = .ok (.aload_n 0, 1) := by decide +kernel
theorem dX8_hoists_66 : decode cX8_hoists 66 = .ok (.getfield 7, 3) := by decide +kernel
theorem dX8_hoists_69 : decode cX8_hoists 69 = .ok (.iconst 5, 1) := by decide +kernel
theorem dX8_hoists_70 : decode cX8_hoists 70 = .ok (.iaload, 1) := by decide +kernel
theorem dX8_hoists_71 : decode cX8_hoists 71 = .ok (.bipush (-4), 2) := by decide +kernel
theorem dX8_hoists_73 : decode cX8_hoists 73 = .ok (.if_icmp .eq 42, 3) := by decide +kernel
theorem dX8_hoists_76 : decode cX8_hoists 76 = .ok (.iload 4, 2) := by decide +kernel
theorem dX8_hoists_78 : decode cX8_hoists 78 = .ok (.iload 5, 2) := by decide +kernel
theorem dX8_hoists_80 : decode cX8_hoists 80 = .ok (.isub, 1) := by decide +kernel
theorem dX8_hoists_81 : decode cX8_hoists 81 = .ok (.invokestatic 84, 3) := by decide +kernel
theorem dX8_hoists_84 : decode cX8_hoists 84 = .ok (.aload_n 0, 1) := by decide +kernel
theorem dX8_hoists_85 : decode cX8_hoists 85 = .ok (.getfield 7, 3) := by decide +kernel
theorem dX8_hoists_88 : decode cX8_hoists 88 = .ok (.iconst 5, 1) := by decide +kernel
theorem dX8_hoists_89 : decode cX8_hoists 89 = .ok (.iaload, 1) := by decide +kernel
theorem dX8_hoists_90 : decode cX8_hoists 90 = .ok (.if_icmp .le 25, 3) := by decide +kernel
theorem dX8_hoists_93 : decode cX8_hoists 93 = .ok (.iload 4, 2) := by decide +kernel
theorem dX8_hoists_95 : decode cX8_hoists 95 = .ok (.iload 5, 2) := by decide +kernel
theorem dX8_hoists_97 : decode cX8_hoists 97 = .ok (.isub, 1) := by decide +kernel
theorem dX8_hoists_98 : decode cX8_hoists 98 = .ok (.invokestatic 84, 3) := by decide +kernel
theorem dX8_hoists_101 : decode cX8_hoists 101 = .ok (.iload_n 2, 1) := by decide +kernel
theorem dX8_hoists_102 : decode cX8_hoists 102 = .ok (.iload 5, 2) := by decide +kernel
theorem dX8_hoists_104 : decode cX8_hoists 104 = .ok (.isub, 1) := by decide +kernel
theorem dX8_hoists_105 : decode cX8_hoists 105 = .ok (.invokestatic 84, 3) := by decide +kernel
theorem dX8_hoists_108 : decode cX8_hoists 108 = .ok (.if_icmp .le 7, 3) := by decide +kernel
theorem dX8_hoists_111 : decode cX8_hoists 111 = .ok (.iconst 1, 1) := by decide +kernel
theorem dX8_hoists_112 : decode cX8_hoists 112 = .ok (.goto 4, 3) := by decide +kernel
theorem dX8_hoists_115 : decode cX8_hoists 115 = .ok (.iconst 0, 1) := by decide +kernel
theorem dX8_hoists_116 : decode cX8_hoists 116 = .ok (.istore 6, 2) := by decide +kernel
theorem dX8_hoists_118 : decode cX8_hoists 118 = .ok (.iload 6, 2) := by decide +kernel
theorem dX8_hoists_120 : decode cX8_hoists 120 = .ok (.ifCond .ne 11, 3) := by decide +kernel
theorem dX8_hoists_123 : decode cX8_hoists 123 = .ok (.aload_n 0, 1) := by decide +kernel
theorem dX8_hoists_124 : decode cX8_hoists 124 = .ok (.iload_n 1, 1) := by decide +kernel
theorem dX8_hoists_125 : decode cX8_hoists 125 = .ok (.iconst 2, 1) := by decide +kernel
theorem dX8_hoists_126 : decode cX8_hoists 126 = .ok (.iload 4, 2) := by decide +kernel
theorem dX8_hoists_128 : decode cX8_hoists 128 = .ok (.invokevirtual 88, 3) := by decide +kernel
theorem dX8_hoists_131 : decode cX8_hoists 131 = .ok (.return_, 1) := by decide +kernel
set_option maxRecDepth 20000 in
theorem ggX8_goesBy_X8_stepsCome : GoodIn wsX8_goesBy wsX8_stepsCome := goodIn_r _ [6, 1, 7, 8, 9, 5, 10, 11, 12, 13, 14, 53, 54, 55, 56, 57, 58, 59, 60, 61] (by decide +kernel) (by decide +kernel)
set_option maxRecDepth 20000 in
theorem gX8_goesBy_X8_stepsCome : GoodIn wsX8_goesBy (wsV RX8 107 RX8 yX8_stepsCome wsX8_stepsCome) := goodIn_app (goodIn_of _ (by decide +kernel)) ggX8_goesBy_X8_stepsCome
set_option maxRecDepth 20000 in
theorem ggX8_goesBy_X8_wanted : GoodIn wsX8_goesBy wsX8_wanted := goodIn_r _ [18, 1, 19, 20, 21, 5, 22, 7, 8, 9, 10, 53, 54, 55, 56, 57, 58, 59, 60, 61] (by decide +kernel) (by decide +kernel)
set_option maxRecDepth 20000 in
theorem gX8_goesBy_X8_wanted : GoodIn wsX8_goesBy (wsV RX8 111 RX8 yX8_wanted wsX8_wanted) := goodIn_app (goodIn_of _ (by decide +kernel)) ggX8_goesBy_X8_wanted
set_option maxRecDepth 20000 in
theorem ggX8_goesBy_X8_braked : GoodIn wsX8_goesBy wsX8_braked := goodIn_r _ [26, 27, 28, 29, 5, 30, 1, 31, 32, 33, 34, 7, 8, 9, 10, 35, 36, 37, 38, 39, 40, 41, 53, 54, 55, 56, 57, 58, 59, 60, 61] (by decide +kernel) (by decide +kernel)
set_option maxRecDepth 20000 in
theorem gX8_goesBy_X8_braked : GoodIn wsX8_goesBy (wsV RX8 114 RX8 yX8_braked wsX8_braked) := goodIn_app (goodIn_of _ (by decide +kernel)) ggX8_goesBy_X8_braked
set_option maxRecDepth 20000 in
theorem ggX8_goesBy_X8_goes : GoodIn wsX8_goesBy wsX8_goes := goodIn_r _ [45, 7, 8, 9, 5, 10, 1, 11, 12, 13, 14, 46, 47, 48, 53, 54, 55, 56, 57, 58, 59, 60, 61] (by decide +kernel) (by decide +kernel)
set_option maxRecDepth 20000 in
theorem gX8_goesBy_X8_goes : GoodIn wsX8_goesBy (wsV RX8 117 RX8 yX8_goes wsX8_goes) := goodIn_app (goodIn_of _ (by decide +kernel)) ggX8_goesBy_X8_goes
set_option maxRecDepth 20000 in
theorem ggX8_goesBy_X8_hoists : GoodIn wsX8_goesBy wsX8_hoists := goodIn_r _ [52, 1, 7, 8, 9, 5, 10, 39, 40, 41, 11, 12, 13, 14, 53, 54, 55, 56, 57, 58, 59, 60, 61] (by decide +kernel) (by decide +kernel)
set_option maxRecDepth 20000 in
theorem gX8_goesBy_X8_hoists : GoodIn wsX8_goesBy (wsV RX8 121 RX8 yX8_hoists wsX8_hoists) := goodIn_app (goodIn_of _ (by decide +kernel)) ggX8_goesBy_X8_hoists
theorem dX8_goesBy_0 : decode cX8_goesBy 0 = .ok (.aload_n 0, 1) := by decide +kernel
theorem dX8_goesBy_1 : decode cX8_goesBy 1 = .ok (.getfield 7, 3) := by decide +kernel
theorem dX8_goesBy_4 : decode cX8_goesBy 4 = .ok (.bipush 6, 2) := by decide +kernel
theorem dX8_goesBy_6 : decode cX8_goesBy 6 = .ok (.dup2, 1) := by decide +kernel
theorem dX8_goesBy_7 : decode cX8_goesBy 7 = .ok (.iaload, 1) := by decide +kernel
theorem dX8_goesBy_8 : decode cX8_goesBy 8 = .ok (.iconst 1, 1) := by decide +kernel
theorem dX8_goesBy_9 : decode cX8_goesBy 9 = .ok (.iadd, 1) := by decide +kernel
theorem dX8_goesBy_10 : decode cX8_goesBy 10 = .ok (.iastore, 1) := by decide +kernel
theorem dX8_goesBy_11 : decode cX8_goesBy 11 = .ok (.aload_n 0, 1) := by decide +kernel
theorem dX8_goesBy_12 : decode cX8_goesBy 12 = .ok (.iconst 0, 1) := by decide +kernel
theorem dX8_goesBy_13 : decode cX8_goesBy 13 = .ok (.invokevirtual 107, 3) := by decide +kernel
theorem dX8_goesBy_16 : decode cX8_goesBy 16 = .ok (.aload_n 0, 1) := by decide +kernel
theorem dX8_goesBy_17 : decode cX8_goesBy 17 = .ok (.iconst 1, 1) := by decide +kernel
theorem dX8_goesBy_18 : decode cX8_goesBy 18 = .ok (.invokevirtual 107, 3) := by decide +kernel
theorem dX8_goesBy_21 : decode cX8_goesBy 21 = .ok (.aload_n 0, 1) := by decide +kernel
theorem dX8_goesBy_22 : decode cX8_goesBy 22 = .ok (.iconst 0, 1) := by decide +kernel
theorem dX8_goesBy_23 : decode cX8_goesBy 23 = .ok (.invokevirtual 111, 3) := by decide +kernel
theorem dX8_goesBy_26 : decode cX8_goesBy 26 = .ok (.istore_n 1, 1) := by decide +kernel
theorem dX8_goesBy_27 : decode cX8_goesBy 27 = .ok (.aload_n 0, 1) := by decide +kernel
theorem dX8_goesBy_28 : decode cX8_goesBy 28 = .ok (.iconst 1, 1) := by decide +kernel
theorem dX8_goesBy_29 : decode cX8_goesBy 29 = .ok (.invokevirtual 111, 3) := by decide +kernel
theorem dX8_goesBy_32 : decode cX8_goesBy 32 = .ok (.istore_n 2, 1) := by decide +kernel
theorem dX8_goesBy_33 : decode cX8_goesBy 33 = .ok (.aload_n 0, 1) := by decide +kernel
theorem dX8_goesBy_34 : decode cX8_goesBy 34 = .ok (.iconst 0, 1) := by decide +kernel
theorem dX8_goesBy_35 : decode cX8_goesBy 35 = .ok (.iload_n 1, 1) := by decide +kernel
theorem dX8_goesBy_36 : decode cX8_goesBy 36 = .ok (.invokevirtual 114, 3) := by decide +kernel
theorem dX8_goesBy_39 : decode cX8_goesBy 39 = .ok (.istore_n 3, 1) := by decide +kernel
theorem dX8_goesBy_40 : decode cX8_goesBy 40 = .ok (.aload_n 0, 1) := by decide +kernel
theorem dX8_goesBy_41 : decode cX8_goesBy 41 = .ok (.iconst 1, 1) := by decide +kernel
theorem dX8_goesBy_42 : decode cX8_goesBy 42 = .ok (.iload_n 2, 1) := by decide +kernel
theorem dX8_goesBy_43 : decode cX8_goesBy 43 = .ok (.invokevirtual 114, 3) := by decide +kernel
theorem dX8_goesBy_46 : decode cX8_goesBy 46 = .ok (.istore 4, 2) := by decide +kernel
theorem dX8_goesBy_48 : decode cX8_goesBy 48 = .ok (.aload_n 0, 1) := by decide +kernel
theorem dX8_goesBy_49 : decode cX8_goesBy 49 = .ok (.iconst 0, 1) := by decide +kernel
theorem dX8_goesBy_50 : decode cX8_goesBy 50 = .ok (.iload_n 3, 1) := by decide +kernel
theorem dX8_goesBy_51 : decode cX8_goesBy 51 = .ok (.invokevirtual 117, 3) := by decide +kernel
theorem dX8_goesBy_54 : decode cX8_goesBy 54 = .ok (.aload_n 0, 1) := by decide +kernel
theorem dX8_goesBy_55 : decode cX8_goesBy 55 = .ok (.iconst 1, 1) := by decide +kernel
theorem dX8_goesBy_56 : decode cX8_goesBy 56 = .ok (.iload 4, 2) := by decide +kernel
theorem dX8_goesBy_58 : decode cX8_goesBy 58 = .ok (.invokevirtual 117, 3) := by decide +kernel
theorem dX8_goesBy_61 : decode cX8_goesBy 61 = .ok (.aload_n 0, 1) := by decide +kernel
theorem dX8_goesBy_62 : decode cX8_goesBy 62 = .ok (.iconst 0, 1) := by decide +kernel
theorem dX8_goesBy_63 : decode cX8_goesBy 63 = .ok (.invokevirtual 121, 3) := by decide +kernel
theorem dX8_goesBy_66 : decode cX8_goesBy 66 = .ok (.aload_n 0, 1) := by decide +kernel
theorem dX8_goesBy_67 : decode cX8_goesBy 67 = .ok (.iconst 1, 1) := by decide +kernel
theorem dX8_goesBy_68 : decode cX8_goesBy 68 = .ok (.invokevirtual 121, 3) := by decide +kernel
theorem dX8_goesBy_71 : decode cX8_goesBy 71 = .ok (.iload_n 3, 1) := by decide +kernel
theorem dX8_goesBy_72 : decode cX8_goesBy 72 = .ok (.iload_n 1, 1) := by decide +kernel
theorem dX8_goesBy_73 : decode cX8_goesBy 73 = .ok (.if_icmp .eq 7, 3) := by decide +kernel
theorem dX8_goesBy_76 : decode cX8_goesBy 76 = .ok (.iconst 1, 1) := by decide +kernel
theorem dX8_goesBy_77 : decode cX8_goesBy 77 = .ok (.goto 4, 3) := by decide +kernel
theorem dX8_goesBy_80 : decode cX8_goesBy 80 = .ok (.iconst 0, 1) := by decide +kernel
theorem dX8_goesBy_81 : decode cX8_goesBy 81 = .ok (.iload 4, 2) := by decide +kernel
theorem dX8_goesBy_83 : decode cX8_goesBy 83 = .ok (.iload_n 2, 1) := by decide +kernel
theorem dX8_goesBy_84 : decode cX8_goesBy 84 = .ok (.if_icmp .eq 7, 3) := by decide +kernel
theorem dX8_goesBy_87 : decode cX8_goesBy 87 = .ok (.iconst 2, 1) := by decide +kernel
theorem dX8_goesBy_88 : decode cX8_goesBy 88 = .ok (.goto 4, 3) := by decide +kernel
theorem dX8_goesBy_91 : decode cX8_goesBy 91 = .ok (.iconst 0, 1) := by decide +kernel
theorem dX8_goesBy_92 : decode cX8_goesBy 92 = .ok (.iadd, 1) := by decide +kernel
theorem dX8_goesBy_93 : decode cX8_goesBy 93 = .ok (.ireturn, 1) := by decide +kernel
theorem dX8_spotPlace_0 : decode cX8_spotPlace 0 = .ok (.bipush 33, 2) := by decide +kernel
theorem dX8_spotPlace_2 : decode cX8_spotPlace 2 = .ok (.sipush 241, 3) := by decide +kernel
theorem dX8_spotPlace_5 : decode cX8_spotPlace 5 = .ok (.iload_n 0, 1) := by decide +kernel
theorem dX8_spotPlace_6 : decode cX8_spotPlace 6 = .ok (.imul, 1) := by decide +kernel
theorem dX8_spotPlace_7 : decode cX8_spotPlace 7 = .ok (.iadd, 1) := by decide +kernel
theorem dX8_spotPlace_8 : decode cX8_spotPlace 8 = .ok (.ireturn, 1) := by decide +kernel
set_option maxRecDepth 20000 in
theorem ggX8_spotCode_X8_of : GoodIn wsX8_spotCode wsX8_of := goodIn_r _ [5, 6, 7, 8, 9, 10, 11, 12, 13, 14, 15] (by decide +kernel) (by decide +kernel)
set_option maxRecDepth 20000 in
theorem gX8_spotCode_X8_of : GoodIn wsX8_spotCode (wsV RX8 80 RX8 yX8_of wsX8_of) := goodIn_app (goodIn_of _ (by decide +kernel)) ggX8_spotCode_X8_of
theorem dX8_spotCode_0 : decode cX8_spotCode 0 = .ok (.bipush 100, 2) := by decide +kernel
theorem dX8_spotCode_2 : decode cX8_spotCode 2 = .ok (.aload_n 0, 1) := by decide +kernel
theorem dX8_spotCode_3 : decode cX8_spotCode 3 = .ok (.iload_n 1, 1) := by decide +kernel
theorem dX8_spotCode_4 : decode cX8_spotCode 4 = .ok (.iconst 0, 1) := by decide +kernel
theorem dX8_spotCode_5 : decode cX8_spotCode 5 = .ok (.invokevirtual 80, 3) := by decide +kernel
theorem dX8_spotCode_8 : decode cX8_spotCode 8 = .ok (.bipush 50, 2) := by decide +kernel
theorem dX8_spotCode_10 : decode cX8_spotCode 10 = .ok (.idiv, 1) := by decide +kernel
theorem dX8_spotCode_11 : decode cX8_spotCode 11 = .ok (.imul, 1) := by decide +kernel
theorem dX8_spotCode_12 : decode cX8_spotCode 12 = .ok (.aload_n 0, 1) := by decide +kernel
theorem dX8_spotCode_13 : decode cX8_spotCode 13 = .ok (.iload_n 1, 1) := by decide +kernel
theorem dX8_spotCode_14 : decode cX8_spotCode 14 = .ok (.iconst 2, 1) := by decide +kernel
theorem dX8_spotCode_15 : decode cX8_spotCode 15 = .ok (.invokevirtual 80, 3) := by decide +kernel
theorem dX8_spotCode_18 : decode cX8_spotCode 18 = .ok (.bipush 10, 2) := by decide +kernel
theorem dX8_spotCode_20 : decode cX8_spotCode 20 = .ok (.idiv, 1) := by decide +kernel
theorem dX8_spotCode_21 : decode cX8_spotCode 21 = .ok (.iadd, 1) := by decide +kernel
theorem dX8_spotCode_22 : decode cX8_spotCode 22 = .ok (.ireturn, 1) := by decide +kernel
set_option maxRecDepth 20000 in
theorem ggX8_spotIndex_X8_spotPlace : GoodIn wsX8_spotIndex wsX8_spotPlace := goodIn_r _ [5] (by decide +kernel) (by decide +kernel)
set_option maxRecDepth 20000 in
theorem gX8_spotIndex_X8_spotPlace : GoodIn wsX8_spotIndex (va_wsS RX8 124 yX8_spotPlace wsX8_spotPlace) := goodIn_app (goodIn_of _ (by decide +kernel)) ggX8_spotIndex_X8_spotPlace
theorem dX8_spotIndex_0 : decode cX8_spotIndex 0 = .ok (.iload_n 1, 1) := by decide +kernel
theorem dX8_spotIndex_1 : decode cX8_spotIndex 1 = .ok (.invokestatic 124, 3) := by decide +kernel
theorem dX8_spotIndex_4 : decode cX8_spotIndex 4 = .ok (.istore_n 3, 1) := by decide +kernel
theorem dX8_spotIndex_5 : decode cX8_spotIndex 5 = .ok (.iconst 0, 1) := by decide +kernel
theorem dX8_spotIndex_6 : decode cX8_spotIndex 6 = .ok (.istore 4, 2) := by decide +kernel
theorem dX8_spotIndex_8 : decode cX8_spotIndex 8 = .ok (.iload 4, 2) := by decide +kernel
theorem dX8_spotIndex_10 : decode cX8_spotIndex 10 = .ok (.aload_n 0, 1) := by decide +kernel
theorem dX8_spotIndex_11 : decode cX8_spotIndex 11 = .ok (.getfield 7, 3) := by decide +kernel
theorem dX8_spotIndex_14 : decode cX8_spotIndex 14 = .ok (.iload_n 3, 1) := by decide +kernel
theorem dX8_spotIndex_15 : decode cX8_spotIndex 15 = .ok (.iaload, 1) := by decide +kernel
theorem dX8_spotIndex_16 : decode cX8_spotIndex 16 = .ok (.if_icmp .ge 24, 3) := by decide +kernel
theorem dX8_spotIndex_19 : decode cX8_spotIndex 19 = .ok (.aload_n 0, 1) := by decide +kernel
theorem dX8_spotIndex_20 : decode cX8_spotIndex 20 = .ok (.getfield 7, 3) := by decide +kernel
theorem dX8_spotIndex_23 : decode cX8_spotIndex 23 = .ok (.iload_n 3, 1) := by decide +kernel
theorem dX8_spotIndex_24 : decode cX8_spotIndex 24 = .ok (.iconst 1, 1) := by decide +kernel
theorem dX8_spotIndex_25 : decode cX8_spotIndex 25 = .ok (.iadd, 1) := by decide +kernel
theorem dX8_spotIndex_26 : decode cX8_spotIndex 26 = .ok (.iload 4, 2) := by decide +kernel
theorem dX8_spotIndex_28 : decode cX8_spotIndex 28 = .ok (.iadd, 1) := by decide +kernel
theorem dX8_spotIndex_29 : decode cX8_spotIndex 29 = .ok (.iaload, 1) := by decide +kernel
theorem dX8_spotIndex_30 : decode cX8_spotIndex 30 = .ok (.iload_n 2, 1) := by decide +kernel
theorem dX8_spotIndex_31 : decode cX8_spotIndex 31 = .ok (.if_icmp .eq 9, 3) := by decide +kernel
theorem dX8_spotIndex_34 : decode cX8_spotIndex 34 = .ok (.iinc 4 1, 3) := by decide +kernel
theorem dX8_spotIndex_37 : decode cX8_spotIndex 37 = .ok (.goto (-29), 3) := by decide +kernel
theorem dX8_spotIndex_40 : decode cX8_spotIndex 40 = .ok (.iload 4, 2) := by decide +kernel
theorem dX8_spotIndex_42 : decode cX8_spotIndex 42 = .ok (.ireturn, 1) := by decide +kernel
set_option maxRecDepth 20000 in
theorem ggX8_counts_X8_spotPlace : GoodIn wsX8_counts wsX8_spotPlace := goodIn_r _ [5] (by decide +kernel) (by decide +kernel)
set_option maxRecDepth 20000 in
theorem gX8_counts_X8_spotPlace : GoodIn wsX8_counts (va_wsS RX8 124 yX8_spotPlace wsX8_spotPlace) := goodIn_app (goodIn_of _ (by decide +kernel)) ggX8_counts_X8_spotPlace
set_option maxRecDepth 20000 in
theorem ggX8_counts_X8_spotCode : GoodIn wsX8_counts wsX8_spotCode := goodIn_r _ [9, 10, 11, 12, 4, 13, 1, 18, 19, 20, 21, 22, 23, 24, 25, 26] (by decide +kernel) (by decide +kernel)
set_option maxRecDepth 20000 in
theorem gX8_counts_X8_spotCode : GoodIn wsX8_counts (wsV RX8 127 RX8 yX8_spotCode wsX8_spotCode) := goodIn_app (goodIn_of _ (by decide +kernel)) ggX8_counts_X8_spotCode
set_option maxRecDepth 20000 in
theorem ggX8_counts_X8_spotIndex : GoodIn wsX8_counts wsX8_spotIndex := goodIn_r _ [17, 1, 2, 3, 4, 5, 18, 19, 20, 21, 22, 23, 24, 25, 26] (by decide +kernel) (by decide +kernel)
set_option maxRecDepth 20000 in
theorem gX8_counts_X8_spotIndex : GoodIn wsX8_counts (wsV RX8 130 RX8 yX8_spotIndex wsX8_spotIndex) := goodIn_app (goodIn_of _ (by decide +kernel)) ggX8_counts_X8_spotIndex
theorem dX8_counts_0 : decode cX8_counts 0 = .ok (.iload_n 1, 1) := by decide +kernel
theorem dX8_counts_1 : decode cX8_counts 1 = .ok (.invokestatic 124, 3) := by decide +kernel
theorem dX8_counts_4 : decode cX8_counts 4 = .ok (.istore_n 2, 1) := by decide +kernel
theorem dX8_counts_5 : decode cX8_counts 5 = .ok (.aload_n 0, 1) := by decide +kernel
theorem dX8_counts_6 : decode cX8_counts 6 = .ok (.iload_n 1, 1) := by decide +kernel
theorem dX8_counts_7 : decode cX8_counts 7 = .ok (.invokevirtual 127, 3) := by decide +kernel
theorem dX8_counts_10 : decode cX8_counts 10 = .ok (.istore_n 3, 1) := by decide +kernel
theorem dX8_counts_11 : decode cX8_counts 11 = .ok (.aload_n 0, 1) := by decide +kernel
theorem dX8_counts_12 : decode cX8_counts 12 = .ok (.iload_n 1, 1) := by decide +kernel
theorem dX8_counts_13 : decode cX8_counts 13 = .ok (.iload_n 3, 1) := by decide +kernel
theorem dX8_counts_14 : decode cX8_counts 14 = .ok (.invokevirtual 130, 3) := by decide +kernel
theorem dX8_counts_17 : decode cX8_counts 17 = .ok (.istore 4, 2) := by decide +kernel
theorem dX8_counts_19 : decode cX8_counts 19 = .ok (.iload 4, 2) := by decide +kernel
theorem dX8_counts_21 : decode cX8_counts 21 = .ok (.aload_n 0, 1) := by decide +kernel
theorem dX8_counts_22 : decode cX8_counts 22 = .ok (.getfield 7, 3) := by decide +kernel
theorem dX8_counts_25 : decode cX8_counts 25 = .ok (.iload_n 2, 1) := by decide +kernel
theorem dX8_counts_26 : decode cX8_counts 26 = .ok (.iaload, 1) := by decide +kernel
theorem dX8_counts_27 : decode cX8_counts 27 = .ok (.if_icmp .ne 40, 3) := by decide +kernel
theorem dX8_counts_30 : decode cX8_counts 30 = .ok (.aload_n 0, 1) := by decide +kernel
theorem dX8_counts_31 : decode cX8_counts 31 = .ok (.getfield 7, 3) := by decide +kernel
theorem dX8_counts_34 : decode cX8_counts 34 = .ok (.iload_n 2, 1) := by decide +kernel
theorem dX8_counts_35 : decode cX8_counts 35 = .ok (.iconst 1, 1) := by decide +kernel
theorem dX8_counts_36 : decode cX8_counts 36 = .ok (.iadd, 1) := by decide +kernel
theorem dX8_counts_37 : decode cX8_counts 37 = .ok (.iload 4, 2) := by decide +kernel
theorem dX8_counts_39 : decode cX8_counts 39 = .ok (.iadd, 1) := by decide +kernel
theorem dX8_counts_40 : decode cX8_counts 40 = .ok (.iload_n 3, 1) := by decide +kernel
theorem dX8_counts_41 : decode cX8_counts 41 = .ok (.iastore, 1) := by decide +kernel
theorem dX8_counts_42 : decode cX8_counts 42 = .ok (.aload_n 0, 1) := by decide +kernel
theorem dX8_counts_43 : decode cX8_counts 43 = .ok (.getfield 7, 3) := by decide +kernel
theorem dX8_counts_46 : decode cX8_counts 46 = .ok (.iload_n 2, 1) := by decide +kernel
theorem dX8_counts_47 : decode cX8_counts 47 = .ok (.iconst 1, 1) := by decide +kernel
theorem dX8_counts_48 : decode cX8_counts 48 = .ok (.iadd, 1) := by decide +kernel
theorem dX8_counts_49 : decode cX8_counts 49 = .ok (.bipush 120, 2) := by decide +kernel
theorem dX8_counts_51 : decode cX8_counts 51 = .ok (.iadd, 1) := by decide +kernel
theorem dX8_counts_52 : decode cX8_counts 52 = .ok (.iload 4, 2) := by decide +kernel
theorem dX8_counts_54 : decode cX8_counts 54 = .ok (.iadd, 1) := by decide +kernel
theorem dX8_counts_55 : decode cX8_counts 55 = .ok (.iconst 0, 1) := by decide +kernel
theorem dX8_counts_56 : decode cX8_counts 56 = .ok (.iastore, 1) := by decide +kernel
theorem dX8_counts_57 : decode cX8_counts 57 = .ok (.aload_n 0, 1) := by decide +kernel
theorem dX8_counts_58 : decode cX8_counts 58 = .ok (.getfield 7, 3) := by decide +kernel
theorem dX8_counts_61 : decode cX8_counts 61 = .ok (.iload_n 2, 1) := by decide +kernel
theorem dX8_counts_62 : decode cX8_counts 62 = .ok (.dup2, 1) := by decide +kernel
theorem dX8_counts_63 : decode cX8_counts 63 = .ok (.iaload, 1) := by decide +kernel
theorem dX8_counts_64 : decode cX8_counts 64 = .ok (.iconst 1, 1) := by decide +kernel
theorem dX8_counts_65 : decode cX8_counts 65 = .ok (.iadd, 1) := by decide +kernel
theorem dX8_counts_66 : decode cX8_counts 66 = .ok (.iastore, 1) := by decide +kernel
theorem dX8_counts_67 : decode cX8_counts 67 = .ok (.aload_n 0, 1) := by decide +kernel
theorem dX8_counts_68 : decode cX8_counts 68 = .ok (.getfield 7, 3) := by decide +kernel
theorem dX8_counts_71 : decode cX8_counts 71 = .ok (.iload_n 2, 1) := by decide +kernel
theorem dX8_counts_72 : decode cX8_counts 72 = .ok (.iconst 1, 1) := by decide +kernel
theorem dX8_counts_73 : decode cX8_counts 73 = .ok (.iadd, 1) := by decide +kernel
theorem dX8_counts_74 : decode cX8_counts 74 = .ok (.bipush 120, 2) := by decide +kernel
theorem dX8_counts_76 : decode cX8_counts 76 = .ok (.iadd, 1) := by decide +kernel
theorem dX8_counts_77 : decode cX8_counts 77 = .ok (.iload 4, 2) := by decide +kernel
theorem dX8_counts_79 : decode cX8_counts 79 = .ok (.iadd, 1) := by decide +kernel
theorem dX8_counts_80 : decode cX8_counts 80 = .ok (.dup2, 1) := by decide +kernel
theorem dX8_counts_81 : decode cX8_counts 81 = .ok (.iaload, 1) := by decide +kernel
theorem dX8_counts_82 : decode cX8_counts 82 = .ok (.iconst 1, 1) := by decide +kernel
theorem dX8_counts_83 : decode cX8_counts 83 = .ok (.iadd, 1) := by decide +kernel
theorem dX8_counts_84 : decode cX8_counts 84 = .ok (.iastore, 1) := by decide +kernel
theorem dX8_counts_85 : decode cX8_counts 85 = .ok (.return_, 1) := by decide +kernel
set_option maxRecDepth 20000 in
theorem ggX8_tick_X8_in : GoodIn wsX8_tick wsX8_in := goodIn_r _ [5] (by decide +kernel) (by decide +kernel)
set_option maxRecDepth 20000 in
theorem gX8_tick_X8_in : GoodIn wsX8_tick (va_wsS RX8 48 yX8_in wsX8_in) := goodIn_app (goodIn_of _ (by decide +kernel)) ggX8_tick_X8_in
set_option maxRecDepth 20000 in
theorem ggX8_tick_X8_keeps : GoodIn wsX8_tick wsX8_keeps := goodIn_r _ [9, 10, 11, 1, 81, 82, 83, 84, 85, 86, 87, 88, 89] (by decide +kernel) (by decide +kernel)
set_option maxRecDepth 20000 in
theorem gX8_tick_X8_keeps : GoodIn wsX8_tick (wsV RX8 133 RX8 yX8_keeps wsX8_keeps) := goodIn_app (goodIn_of _ (by decide +kernel)) ggX8_tick_X8_keeps
set_option maxRecDepth 20000 in
theorem ggX8_tick_X8_goesBy : GoodIn wsX8_tick wsX8_goesBy := goodIn_r _ [15, 1, 16, 17, 18, 4, 19, 20, 21, 22, 23, 24, 25, 26, 27, 28, 29, 30, 31, 32, 33, 34, 35, 36, 37, 38, 39, 40, 41, 42, 43, 44, 45, 46, 47, 48, 49, 50, 51, 52, 53, 54, 55, 56, 57, 58, 59, 60, 61, 62, 63, 64, 65, 81, 82, 83, 84, 85, 86, 87, 88, 89] (by decide +kernel) (by decide +kernel)
set_option maxRecDepth 20000 in
theorem gX8_tick_X8_goesBy : GoodIn wsX8_tick (wsV RX8 136 RX8 yX8_goesBy wsX8_goesBy) := goodIn_app (goodIn_of _ (by decide +kernel)) ggX8_tick_X8_goesBy
set_option maxRecDepth 20000 in
theorem ggX8_tick_X8_counts : GoodIn wsX8_tick wsX8_counts := goodIn_r _ [69, 1, 70, 71, 4, 72, 73, 74, 75, 76, 20, 21, 22, 23, 77, 78, 79, 80, 81, 82, 83, 84, 85, 86, 87, 88, 89] (by decide +kernel) (by decide +kernel)
set_option maxRecDepth 20000 in
theorem gX8_tick_X8_counts : GoodIn wsX8_tick (wsV RX8 139 RX8 yX8_counts wsX8_counts) := goodIn_app (goodIn_of _ (by decide +kernel)) ggX8_tick_X8_counts
theorem dX8_tick_0 : decode cX8_tick 0 = .ok (.iload_n 1, 1) := by decide +kernel
theorem dX8_tick_1 : decode cX8_tick 1 = .ok (.iconst 1, 1) := by decide +kernel
theorem dX8_tick_2 : decode cX8_tick 2 = .ok (.bipush 60, 2) := by decide +kernel
theorem dX8_tick_4 : decode cX8_tick 4 = .ok (.invokestatic 48, 3) := by decide +kernel
theorem dX8_tick_7 : decode cX8_tick 7 = .ok (.ifCond .ne 5, 3) := by decide +kernel
theorem dX8_tick_10 : decode cX8_tick 10 = .ok (.iconst (-1), 1) := by decide +kernel
theorem dX8_tick_11 : decode cX8_tick 11 = .ok (.ireturn, 1) := by decide +kernel
theorem dX8_tick_12 : decode cX8_tick 12 = .ok (.aload_n 0, 1) := by decide +kernel
theorem dX8_tick_13 : decode cX8_tick 13 = .ok (.getfield 7, 3) := by decide +kernel
theorem dX8_tick_16 : decode cX8_tick 16 = .ok (.bipush 6, 2) := by decide +kernel
theorem dX8_tick_18 : decode cX8_tick 18 = .ok (.iaload, 1) := by decide +kernel
theorem dX8_tick_19 : decode cX8_tick 19 = .ok (.iload_n 1, 1) := by decide +kernel
theorem dX8_tick_20 : decode cX8_tick 20 = .ok (.iadd, 1) := by decide +kernel
theorem dX8_tick_21 : decode cX8_tick 21 = .ok (.sipush 9999, 3) := by decide +kernel
theorem dX8_tick_24 : decode cX8_tick 24 = .ok (.if_icmp .le 6, 3) := by decide +kernel
theorem dX8_tick_27 : decode cX8_tick 27 = .ok (.bipush (-2), 2) := by decide +kernel
theorem dX8_tick_29 : decode cX8_tick 29 = .ok (.ireturn, 1) := by decide +kernel
theorem dX8_tick_30 : decode cX8_tick 30 = .ok (.aload_n 0, 1) := by decide +kernel
theorem dX8_tick_31 : decode cX8_tick 31 = .ok (.invokevirtual 133, 3) := by decide +kernel
theorem dX8_tick_34 : decode cX8_tick 34 = .ok (.iconst 0, 1) := by decide +kernel
theorem dX8_tick_35 : decode cX8_tick 35 = .ok (.istore_n 2, 1) := by decide +kernel
theorem dX8_tick_36 : decode cX8_tick 36 = .ok (.iconst 0, 1) := by decide +kernel
theorem dX8_tick_37 : decode cX8_tick 37 = .ok (.istore_n 3, 1) := by decide +kernel
theorem dX8_tick_38 : decode cX8_tick 38 = .ok (.iload_n 3, 1) := by decide +kernel
theorem dX8_tick_39 : decode cX8_tick 39 = .ok (.iload_n 1, 1) := by decide +kernel
theorem dX8_tick_40 : decode cX8_tick 40 = .ok (.if_icmp .ge 37, 3) := by decide +kernel
theorem dX8_tick_43 : decode cX8_tick 43 = .ok (.aload_n 0, 1) := by decide +kernel
theorem dX8_tick_44 : decode cX8_tick 44 = .ok (.invokevirtual 136, 3) := by decide +kernel
theorem dX8_tick_47 : decode cX8_tick 47 = .ok (.istore 4, 2) := by decide +kernel
theorem dX8_tick_49 : decode cX8_tick 49 = .ok (.aload_n 0, 1) := by decide +kernel
theorem dX8_tick_50 : decode cX8_tick 50 = .ok (.iconst 0, 1) := by decide +kernel
theorem dX8_tick_51 : decode cX8_tick 51 = .ok (.invokevirtual 139, 3) := by decide +kernel
theorem dX8_tick_54 : decode cX8_tick 54 = .ok (.aload_n 0, 1) := by decide +kernel
theorem dX8_tick_55 : decode cX8_tick 55 = .ok (.iconst 1, 1) := by decide +kernel
theorem dX8_tick_56 : decode cX8_tick 56 = .ok (.invokevirtual 139, 3) := by decide +kernel
theorem dX8_tick_59 : decode cX8_tick 59 = .ok (.iload_n 2, 1) := by decide +kernel
theorem dX8_tick_60 : decode cX8_tick 60 = .ok (.iload 4, 2) := by decide +kernel
theorem dX8_tick_62 : decode cX8_tick 62 = .ok (.iconst 1, 1) := by decide +kernel
theorem dX8_tick_63 : decode cX8_tick 63 = .ok (.iand, 1) := by decide +kernel
theorem dX8_tick_64 : decode cX8_tick 64 = .ok (.iload 4, 2) := by decide +kernel
theorem dX8_tick_66 : decode cX8_tick 66 = .ok (.iconst 1, 1) := by decide +kernel
theorem dX8_tick_67 : decode cX8_tick 67 = .ok (.ishr, 1) := by decide +kernel
theorem dX8_tick_68 : decode cX8_tick 68 = .ok (.iadd, 1) := by decide +kernel
theorem dX8_tick_69 : decode cX8_tick 69 = .ok (.iadd, 1) := by decide +kernel
theorem dX8_tick_70 : decode cX8_tick 70 = .ok (.istore_n 2, 1) := by decide +kernel
theorem dX8_tick_71 : decode cX8_tick 71 = .ok (.iinc 3 1, 3) := by decide +kernel
theorem dX8_tick_74 : decode cX8_tick 74 = .ok (.goto (-36), 3) := by decide +kernel
theorem dX8_tick_77 : decode cX8_tick 77 = .ok (.iload_n 2, 1) := by decide +kernel
theorem dX8_tick_78 : decode cX8_tick 78 = .ok (.ireturn, 1) := by decide +kernel
theorem dX8_heeds_0 : decode cX8_heeds 0 = .ok (.iload_n 1, 1) := by decide +kernel
theorem dX8_heeds_1 : decode cX8_heeds 1 = .ok (.iload_n 2, 1) := by decide +kernel
theorem dX8_heeds_2 : decode cX8_heeds 2 = .ok (.if_icmp .eq 14, 3) := by decide +kernel
theorem dX8_heeds_5 : decode cX8_heeds 5 = .ok (.aload_n 0, 1) := by decide +kernel
theorem dX8_heeds_6 : decode cX8_heeds 6 = .ok (.getfield 7, 3) := by decide +kernel
theorem dX8_heeds_9 : decode cX8_heeds 9 = .ok (.iconst 5, 1) := by decide +kernel
theorem dX8_heeds_10 : decode cX8_heeds 10 = .ok (.iaload, 1) := by decide +kernel
theorem dX8_heeds_11 : decode cX8_heeds 11 = .ok (.bipush (-4), 2) := by decide +kernel
theorem dX8_heeds_13 : decode cX8_heeds 13 = .ok (.if_icmp .eq 7, 3) := by decide +kernel
theorem dX8_heeds_16 : decode cX8_heeds 16 = .ok (.iconst 1, 1) := by decide +kernel
theorem dX8_heeds_17 : decode cX8_heeds 17 = .ok (.goto 4, 3) := by decide +kernel
theorem dX8_heeds_20 : decode cX8_heeds 20 = .ok (.iconst 0, 1) := by decide +kernel
theorem dX8_heeds_21 : decode cX8_heeds 21 = .ok (.ireturn, 1) := by decide +kernel
set_option maxRecDepth 20000 in
theorem ggX8_addsStep_X8_of : GoodIn wsX8_addsStep wsX8_of := goodIn_r _ [5, 6, 11, 12, 13, 14, 15, 16, 17, 18, 19] (by decide +kernel) (by decide +kernel)
set_option maxRecDepth 20000 in
theorem gX8_addsStep_X8_of : GoodIn wsX8_addsStep (wsV RX8 80 RX8 yX8_of wsX8_of) := goodIn_app (goodIn_of _ (by decide +kernel)) ggX8_addsStep_X8_of
set_option maxRecDepth 20000 in
theorem ggX8_addsStep_X8_tells : GoodIn wsX8_addsStep wsX8_tells := goodIn_r _ [10, 6, 11, 12, 13, 14, 15, 16, 17, 18, 19] (by decide +kernel) (by decide +kernel)
set_option maxRecDepth 20000 in
theorem gX8_addsStep_X8_tells : GoodIn wsX8_addsStep (wsV RX8 88 RX8 yX8_tells wsX8_tells) := goodIn_app (goodIn_of _ (by decide +kernel)) ggX8_addsStep_X8_tells
theorem dX8_addsStep_0 : decode cX8_addsStep 0 = .ok (.iload_n 3, 1) := by decide +kernel
theorem dX8_addsStep_1 : decode cX8_addsStep 1 = .ok (.ifCond .eq 51, 3) := by decide +kernel
theorem dX8_addsStep_4 : decode cX8_addsStep 4 = .ok (.aload_n 0, 1) := by decide +kernel
theorem dX8_addsStep_5 : decode cX8_addsStep 5 = .ok (.iload_n 1, 1) := by decide +kernel
theorem dX8_addsStep_6 : decode cX8_addsStep 6 = .ok (.bipush 8, 2) := by decide +kernel
theorem dX8_addsStep_8 : decode cX8_addsStep 8 = .ok (.invokevirtual 80, 3) := by decide +kernel
theorem dX8_addsStep_11 : decode cX8_addsStep 11 = .ok (.istore 4, 2) := by decide +kernel
theorem dX8_addsStep_13 : decode cX8_addsStep 13 = .ok (.aload_n 0, 1) := by decide +kernel
theorem dX8_addsStep_14 : decode cX8_addsStep 14 = .ok (.iload_n 1, 1) := by decide +kernel
theorem dX8_addsStep_15 : decode cX8_addsStep 15 = .ok (.bipush 9, 2) := by decide +kernel
theorem dX8_addsStep_17 : decode cX8_addsStep 17 = .ok (.iconst 2, 1) := by decide +kernel
theorem dX8_addsStep_18 : decode cX8_addsStep 18 = .ok (.iload 4, 2) := by decide +kernel
theorem dX8_addsStep_20 : decode cX8_addsStep 20 = .ok (.imul, 1) := by decide +kernel
theorem dX8_addsStep_21 : decode cX8_addsStep 21 = .ok (.iadd, 1) := by decide +kernel
theorem dX8_addsStep_22 : decode cX8_addsStep 22 = .ok (.iload_n 2, 1) := by decide +kernel
theorem dX8_addsStep_23 : decode cX8_addsStep 23 = .ok (.invokevirtual 88, 3) := by decide +kernel
theorem dX8_addsStep_26 : decode cX8_addsStep 26 = .ok (.aload_n 0, 1) := by decide +kernel
theorem dX8_addsStep_27 : decode cX8_addsStep 27 = .ok (.iload_n 1, 1) := by decide +kernel
theorem dX8_addsStep_28 : decode cX8_addsStep 28 = .ok (.bipush 9, 2) := by decide +kernel
theorem dX8_addsStep_30 : decode cX8_addsStep 30 = .ok (.iconst 2, 1) := by decide +kernel
theorem dX8_addsStep_31 : decode cX8_addsStep 31 = .ok (.iload 4, 2) := by decide +kernel
theorem dX8_addsStep_33 : decode cX8_addsStep 33 = .ok (.imul, 1) := by decide +kernel
theorem dX8_addsStep_34 : decode cX8_addsStep 34 = .ok (.iadd, 1) := by decide +kernel
theorem dX8_addsStep_35 : decode cX8_addsStep 35 = .ok (.iconst 1, 1) := by decide +kernel
theorem dX8_addsStep_36 : decode cX8_addsStep 36 = .ok (.iadd, 1) := by decide +kernel
theorem dX8_addsStep_37 : decode cX8_addsStep 37 = .ok (.iload_n 3, 1) := by decide +kernel
theorem dX8_addsStep_38 : decode cX8_addsStep 38 = .ok (.invokevirtual 88, 3) := by decide +kernel
theorem dX8_addsStep_41 : decode cX8_addsStep 41 = .ok (.aload_n 0, 1) := by decide +kernel
theorem dX8_addsStep_42 : decode cX8_addsStep 42 = .ok (.iload_n 1, 1) := by decide +kernel
theorem dX8_addsStep_43 : decode cX8_addsStep 43 = .ok (.bipush 8, 2) := by decide +kernel
theorem dX8_addsStep_45 : decode cX8_addsStep 45 = .ok (.iload 4, 2) := by decide +kernel
theorem dX8_addsStep_47 : decode cX8_addsStep 47 = .ok (.iconst 1, 1) := by decide +kernel
theorem dX8_addsStep_48 : decode cX8_addsStep 48 = .ok (.iadd, 1) := by decide +kernel
theorem dX8_addsStep_49 : decode cX8_addsStep 49 = .ok (.invokevirtual 88, 3) := by decide +kernel
theorem dX8_addsStep_52 : decode cX8_addsStep 52 = .ok (.return_, 1) := by decide +kernel
set_option maxRecDepth 20000 in
theorem ggX8_commands_X8_heeds : GoodIn wsX8_commands wsX8_heeds := goodIn_r _ [6, 1, 19, 20, 21, 22, 23, 24, 25, 26, 27] (by decide +kernel) (by decide +kernel)
set_option maxRecDepth 20000 in
theorem gX8_commands_X8_heeds : GoodIn wsX8_commands (wsV RX8 142 RX8 yX8_heeds wsX8_heeds) := goodIn_app (goodIn_of _ (by decide +kernel)) ggX8_commands_X8_heeds
set_option maxRecDepth 20000 in
theorem ggX8_commands_X8_tells : GoodIn wsX8_commands wsX8_tells := goodIn_r _ [10, 1, 19, 20, 21, 22, 23, 24, 25, 26, 27] (by decide +kernel) (by decide +kernel)
set_option maxRecDepth 20000 in
theorem gX8_commands_X8_tells : GoodIn wsX8_commands (wsV RX8 88 RX8 yX8_tells wsX8_tells) := goodIn_app (goodIn_of _ (by decide +kernel)) ggX8_commands_X8_tells
set_option maxRecDepth 20000 in
theorem ggX8_commands_X8_of : GoodIn wsX8_commands wsX8_of := goodIn_r _ [14, 1, 19, 20, 21, 22, 23, 24, 25, 26, 27] (by decide +kernel) (by decide +kernel)
set_option maxRecDepth 20000 in
theorem gX8_commands_X8_of : GoodIn wsX8_commands (wsV RX8 80 RX8 yX8_of wsX8_of) := goodIn_app (goodIn_of _ (by decide +kernel)) ggX8_commands_X8_of
set_option maxRecDepth 20000 in
theorem ggX8_commands_X8_addsStep : GoodIn wsX8_commands wsX8_addsStep := goodIn_r _ [18, 11, 12, 13, 5, 14, 1, 7, 8, 9, 10, 19, 20, 21, 22, 23, 24, 25, 26, 27] (by decide +kernel) (by decide +kernel)
set_option maxRecDepth 20000 in
theorem gX8_commands_X8_addsStep : GoodIn wsX8_commands (wsV RX8 145 RX8 yX8_addsStep wsX8_addsStep) := goodIn_app (goodIn_of _ (by decide +kernel)) ggX8_commands_X8_addsStep
theorem dX8_commands_0 : decode cX8_commands 0 = .ok (.iconst 0, 1) := by decide +kernel
theorem dX8_commands_1 : decode cX8_commands 1 = .ok (.istore 4, 2) := by decide +kernel
theorem dX8_commands_3 : decode cX8_commands 3 = .ok (.iconst 0, 1) := by decide +kernel
theorem dX8_commands_4 : decode cX8_commands 4 = .ok (.istore 5, 2) := by decide +kernel
theorem dX8_commands_6 : decode cX8_commands 6 = .ok (.iload 5, 2) := by decide +kernel
theorem dX8_commands_8 : decode cX8_commands 8 = .ok (.iconst 2, 1) := by decide +kernel
theorem dX8_commands_9 : decode cX8_commands 9 = .ok (.if_icmp .ge 115, 3) := by decide +kernel
theorem dX8_commands_12 : decode cX8_commands 12 = .ok (.aload_n 0, 1) := by decide +kernel
theorem dX8_commands_13 : decode cX8_commands 13 = .ok (.iload 5, 2) := by decide +kernel
theorem dX8_commands_15 : decode cX8_commands 15 = .ok (.iload_n 1, 1) := by decide +kernel
theorem dX8_commands_16 : decode cX8_commands 16 = .ok (.invokevirtual 142, 3) := by decide +kernel
theorem dX8_commands_19 : decode cX8_commands 19 = .ok (.ifCond .eq 99, 3) := by decide +kernel
theorem dX8_commands_22 : decode cX8_commands 22 = .ok (.iinc 4 1, 3) := by decide +kernel
theorem dX8_commands_25 : decode cX8_commands 25 = .ok (.iconst 0, 1) := by decide +kernel
theorem dX8_commands_26 : decode cX8_commands 26 = .ok (.istore 6, 2) := by decide +kernel
theorem dX8_commands_28 : decode cX8_commands 28 = .ok (.iload 6, 2) := by decide +kernel
theorem dX8_commands_30 : decode cX8_commands 30 = .ok (.iconst 5, 1) := by decide +kernel
theorem dX8_commands_31 : decode cX8_commands 31 = .ok (.if_icmp .ge 21, 3) := by decide +kernel
theorem dX8_commands_34 : decode cX8_commands 34 = .ok (.aload_n 0, 1) := by decide +kernel
theorem dX8_commands_35 : decode cX8_commands 35 = .ok (.iload 5, 2) := by decide +kernel
theorem dX8_commands_37 : decode cX8_commands 37 = .ok (.bipush 8, 2) := by decide +kernel
theorem dX8_commands_39 : decode cX8_commands 39 = .ok (.iload 6, 2) := by decide +kernel
theorem dX8_commands_41 : decode cX8_commands 41 = .ok (.iadd, 1) := by decide +kernel
theorem dX8_commands_42 : decode cX8_commands 42 = .ok (.iconst 0, 1) := by decide +kernel
theorem dX8_commands_43 : decode cX8_commands 43 = .ok (.invokevirtual 88, 3) := by decide +kernel
theorem dX8_commands_46 : decode cX8_commands 46 = .ok (.iinc 6 1, 3) := by decide +kernel
theorem dX8_commands_49 : decode cX8_commands 49 = .ok (.goto (-21), 3) := by decide +kernel
theorem dX8_commands_52 : decode cX8_commands 52 = .ok (.iload_n 2, 1) := by decide +kernel
theorem dX8_commands_53 : decode cX8_commands 53 = .ok (.aload_n 0, 1) := by decide +kernel
theorem dX8_commands_54 : decode cX8_commands 54 = .ok (.iload 5, 2) := by decide +kernel
theorem dX8_commands_56 : decode cX8_commands 56 = .ok (.bipush 6, 2) := by decide +kernel
theorem dX8_commands_58 : decode cX8_commands 58 = .ok (.invokevirtual 80, 3) := by decide +kernel
theorem dX8_commands_61 : decode cX8_commands 61 = .ok (.isub, 1) := by decide +kernel
theorem dX8_commands_62 : decode cX8_commands 62 = .ok (.istore 6, 2) := by decide +kernel
theorem dX8_commands_64 : decode cX8_commands 64 = .ok (.iload_n 3, 1) := by decide +kernel
theorem dX8_commands_65 : decode cX8_commands 65 = .ok (.ifCond .ge 8, 3) := by decide +kernel
theorem dX8_commands_68 : decode cX8_commands 68 = .ok (.iload 6, 2) := by decide +kernel
theorem dX8_commands_70 : decode cX8_commands 70 = .ok (.goto 7, 3) := by decide +kernel
theorem dX8_commands_73 : decode cX8_commands 73 = .ok (.iload 6, 2) := by decide +kernel
theorem dX8_commands_75 : decode cX8_commands 75 = .ok (.iconst 2, 1) := by decide +kernel
theorem dX8_commands_76 : decode cX8_commands 76 = .ok (.idiv, 1) := by decide +kernel
theorem dX8_commands_77 : decode cX8_commands 77 = .ok (.istore 7, 2) := by decide +kernel
theorem dX8_commands_79 : decode cX8_commands 79 = .ok (.aload_n 0, 1) := by decide +kernel
theorem dX8_commands_80 : decode cX8_commands 80 = .ok (.iload 5, 2) := by decide +kernel
theorem dX8_commands_82 : decode cX8_commands 82 = .ok (.aload_n 0, 1) := by decide +kernel
theorem dX8_commands_83 : decode cX8_commands 83 = .ok (.getfield 7, 3) := by decide +kernel
theorem dX8_commands_86 : decode cX8_commands 86 = .ok (.bipush 6, 2) := by decide +kernel
theorem dX8_commands_88 : decode cX8_commands 88 = .ok (.iaload, 1) := by decide +kernel
theorem dX8_commands_89 : decode cX8_commands 89 = .ok (.iconst 1, 1) := by decide +kernel
theorem dX8_commands_90 : decode cX8_commands 90 = .ok (.iadd, 1) := by decide +kernel
theorem dX8_commands_91 : decode cX8_commands 91 = .ok (.iload 7, 2) := by decide +kernel
theorem dX8_commands_93 : decode cX8_commands 93 = .ok (.invokevirtual 145, 3) := by decide +kernel
theorem dX8_commands_96 : decode cX8_commands 96 = .ok (.aload_n 0, 1) := by decide +kernel
theorem dX8_commands_97 : decode cX8_commands 97 = .ok (.iload 5, 2) := by decide +kernel
theorem dX8_commands_99 : decode cX8_commands 99 = .ok (.aload_n 0, 1) := by decide +kernel
theorem dX8_commands_100 : decode cX8_commands 100 = .ok (.getfield 7, 3) := by decide +kernel
theorem dX8_commands_103 : decode cX8_commands 103 = .ok (.bipush 6, 2) := by decide +kernel
theorem dX8_commands_105 : decode cX8_commands 105 = .ok (.iaload, 1) := by decide +kernel
theorem dX8_commands_106 : decode cX8_commands 106 = .ok (.iconst 1, 1) := by decide +kernel
theorem dX8_commands_107 : decode cX8_commands 107 = .ok (.iadd, 1) := by decide +kernel
theorem dX8_commands_108 : decode cX8_commands 108 = .ok (.iload_n 3, 1) := by decide +kernel
theorem dX8_commands_109 : decode cX8_commands 109 = .ok (.iadd, 1) := by decide +kernel
theorem dX8_commands_110 : decode cX8_commands 110 = .ok (.iload 6, 2) := by decide +kernel
theorem dX8_commands_112 : decode cX8_commands 112 = .ok (.iload 7, 2) := by decide +kernel
theorem dX8_commands_114 : decode cX8_commands 114 = .ok (.isub, 1) := by decide +kernel
theorem dX8_commands_115 : decode cX8_commands 115 = .ok (.invokevirtual 145, 3) := by decide +kernel
theorem dX8_commands_118 : decode cX8_commands 118 = .ok (.iinc 5 1, 3) := by decide +kernel
theorem dX8_commands_121 : decode cX8_commands 121 = .ok (.goto (-115), 3) := by decide +kernel
theorem dX8_commands_124 : decode cX8_commands 124 = .ok (.iload 4, 2) := by decide +kernel
theorem dX8_commands_126 : decode cX8_commands 126 = .ok (.ireturn, 1) := by decide +kernel
set_option maxRecDepth 20000 in
theorem ggX8_command_X8_isCrane : GoodIn wsX8_command wsX8_isCrane := goodIn_r _ [4] (by decide +kernel) (by decide +kernel)
set_option maxRecDepth 20000 in
theorem gX8_command_X8_isCrane : GoodIn wsX8_command (va_wsS RX8 148 yX8_isCrane wsX8_isCrane) := goodIn_app (goodIn_of _ (by decide +kernel)) ggX8_command_X8_isCrane
set_option maxRecDepth 20000 in
theorem ggX8_command_X8_in : GoodIn wsX8_command wsX8_in := goodIn_r _ [7] (by decide +kernel) (by decide +kernel)
set_option maxRecDepth 20000 in
theorem gX8_command_X8_in : GoodIn wsX8_command (va_wsS RX8 48 yX8_in wsX8_in) := goodIn_app (goodIn_of _ (by decide +kernel)) ggX8_command_X8_in
set_option maxRecDepth 20000 in
theorem ggX8_command_X8_keeps : GoodIn wsX8_command wsX8_keeps := goodIn_r _ [11, 12, 13, 14, 35, 36, 37, 38, 39, 40, 41, 42, 43] (by decide +kernel) (by decide +kernel)
set_option maxRecDepth 20000 in
theorem gX8_command_X8_keeps : GoodIn wsX8_command (wsV RX8 133 RX8 yX8_keeps wsX8_keeps) := goodIn_app (goodIn_of _ (by decide +kernel)) ggX8_command_X8_keeps
set_option maxRecDepth 20000 in
theorem ggX8_command_X8_commands : GoodIn wsX8_command wsX8_commands := goodIn_r _ [18, 14, 19, 20, 21, 3, 22, 23, 24, 25, 26, 27, 28, 29, 30, 31, 32, 33, 34, 35, 36, 37, 38, 39, 40, 41, 42, 43] (by decide +kernel) (by decide +kernel)
set_option maxRecDepth 20000 in
theorem gX8_command_X8_commands : GoodIn wsX8_command (wsV RX8 151 RX8 yX8_commands wsX8_commands) := goodIn_app (goodIn_of _ (by decide +kernel)) ggX8_command_X8_commands
theorem dX8_command_0 : decode cX8_command 0 = .ok (.iload_n 1, 1) := by decide +kernel
theorem dX8_command_1 : decode cX8_command 1 = .ok (.invokestatic 148, 3) := by decide +kernel
theorem dX8_command_4 : decode cX8_command 4 = .ok (.ifCond .eq 14, 3) := by decide +kernel
theorem dX8_command_7 : decode cX8_command 7 = .ok (.iload_n 2, 1) := by decide +kernel
theorem dX8_command_8 : decode cX8_command 8 = .ok (.bipush (-40), 2) := by decide +kernel
theorem dX8_command_10 : decode cX8_command 10 = .ok (.bipush 40, 2) := by decide +kernel
theorem dX8_command_12 : decode cX8_command 12 = .ok (.invokestatic 48, 3) := by decide +kernel
theorem dX8_command_15 : decode cX8_command 15 = .ok (.ifCond .ne 5, 3) := by decide +kernel
theorem dX8_command_18 : decode cX8_command 18 = .ok (.iconst (-1), 1) := by decide +kernel
theorem dX8_command_19 : decode cX8_command 19 = .ok (.ireturn, 1) := by decide +kernel
theorem dX8_command_20 : decode cX8_command 20 = .ok (.aload_n 0, 1) := by decide +kernel
theorem dX8_command_21 : decode cX8_command 21 = .ok (.invokevirtual 133, 3) := by decide +kernel
theorem dX8_command_24 : decode cX8_command 24 = .ok (.aload_n 0, 1) := by decide +kernel
theorem dX8_command_25 : decode cX8_command 25 = .ok (.iload_n 1, 1) := by decide +kernel
theorem dX8_command_26 : decode cX8_command 26 = .ok (.iload_n 2, 1) := by decide +kernel
theorem dX8_command_27 : decode cX8_command 27 = .ok (.iconst (-1), 1) := by decide +kernel
theorem dX8_command_28 : decode cX8_command 28 = .ok (.invokevirtual 151, 3) := by decide +kernel
theorem dX8_command_31 : decode cX8_command 31 = .ok (.ireturn, 1) := by decide +kernel
set_option maxRecDepth 20000 in
theorem ggX8_shapes_X8_heeds : GoodIn wsX8_shapes wsX8_heeds := goodIn_r _ [6, 1, 26, 27, 28, 29, 30, 31, 32, 33, 34] (by decide +kernel) (by decide +kernel)
set_option maxRecDepth 20000 in
theorem gX8_shapes_X8_heeds : GoodIn wsX8_shapes (wsV RX8 142 RX8 yX8_heeds wsX8_heeds) := goodIn_app (goodIn_of _ (by decide +kernel)) ggX8_shapes_X8_heeds
set_option maxRecDepth 20000 in
theorem ggX8_shapes_X8_of : GoodIn wsX8_shapes wsX8_of := goodIn_r _ [10, 1, 26, 27, 28, 29, 30, 31, 32, 33, 34] (by decide +kernel) (by decide +kernel)
set_option maxRecDepth 20000 in
theorem gX8_shapes_X8_of : GoodIn wsX8_shapes (wsV RX8 80 RX8 yX8_of wsX8_of) := goodIn_app (goodIn_of _ (by decide +kernel)) ggX8_shapes_X8_of
set_option maxRecDepth 20000 in
theorem ggX8_shapes_X8_halfOf : GoodIn wsX8_shapes wsX8_halfOf := goodIn_r _ [13] (by decide +kernel) (by decide +kernel)
set_option maxRecDepth 20000 in
theorem gX8_shapes_X8_halfOf : GoodIn wsX8_shapes (va_wsS RX8 155 yX8_halfOf wsX8_halfOf) := goodIn_app (goodIn_of _ (by decide +kernel)) ggX8_shapes_X8_halfOf
set_option maxRecDepth 20000 in
theorem ggX8_shapes_X8_commands : GoodIn wsX8_shapes wsX8_commands := goodIn_r _ [17, 1, 2, 3, 4, 5, 6, 18, 19, 20, 21, 7, 8, 9, 10, 22, 23, 24, 25, 26, 27, 28, 29, 30, 31, 32, 33, 34] (by decide +kernel) (by decide +kernel)
set_option maxRecDepth 20000 in
theorem gX8_shapes_X8_commands : GoodIn wsX8_shapes (wsV RX8 151 RX8 yX8_commands wsX8_commands) := goodIn_app (goodIn_of _ (by decide +kernel)) ggX8_shapes_X8_commands
theorem dX8_shapes_0 : decode cX8_shapes 0 = .ok (.iconst 0, 1) := by decide +kernel
theorem dX8_shapes_1 : decode cX8_shapes 1 = .ok (.istore_n 3, 1) := by decide +kernel
theorem dX8_shapes_2 : decode cX8_shapes 2 = .ok (.iconst 0, 1) := by decide +kernel
theorem dX8_shapes_3 : decode cX8_shapes 3 = .ok (.istore 4, 2) := by decide +kernel
theorem dX8_shapes_5 : decode cX8_shapes 5 = .ok (.iload 4, 2) := by decide +kernel
theorem dX8_shapes_7 : decode cX8_shapes 7 = .ok (.iconst 2, 1) := by decide +kernel
theorem dX8_shapes_8 : decode cX8_shapes 8 = .ok (.if_icmp .ge 63, 3) := by decide +kernel
theorem dX8_shapes_11 : decode cX8_shapes 11 = .ok (.aload_n 0, 1) := by decide +kernel
theorem dX8_shapes_12 : decode cX8_shapes 12 = .ok (.iload 4, 2) := by decide +kernel
theorem dX8_shapes_14 : decode cX8_shapes 14 = .ok (.iload_n 1, 1) := by decide +kernel
theorem dX8_shapes_15 : decode cX8_shapes 15 = .ok (.invokevirtual 142, 3) := by decide +kernel
theorem dX8_shapes_18 : decode cX8_shapes 18 = .ok (.ifCond .eq 47, 3) := by decide +kernel
theorem dX8_shapes_21 : decode cX8_shapes 21 = .ok (.aload_n 0, 1) := by decide +kernel
theorem dX8_shapes_22 : decode cX8_shapes 22 = .ok (.getfield 7, 3) := by decide +kernel
theorem dX8_shapes_25 : decode cX8_shapes 25 = .ok (.iconst 5, 1) := by decide +kernel
theorem dX8_shapes_26 : decode cX8_shapes 26 = .ok (.iaload, 1) := by decide +kernel
theorem dX8_shapes_27 : decode cX8_shapes 27 = .ok (.istore 5, 2) := by decide +kernel
theorem dX8_shapes_29 : decode cX8_shapes 29 = .ok (.aload_n 0, 1) := by decide +kernel
theorem dX8_shapes_30 : decode cX8_shapes 30 = .ok (.getfield 7, 3) := by decide +kernel
theorem dX8_shapes_33 : decode cX8_shapes 33 = .ok (.iconst 5, 1) := by decide +kernel
theorem dX8_shapes_34 : decode cX8_shapes 34 = .ok (.bipush (-4), 2) := by decide +kernel
theorem dX8_shapes_36 : decode cX8_shapes 36 = .ok (.iastore, 1) := by decide +kernel
theorem dX8_shapes_37 : decode cX8_shapes 37 = .ok (.iload_n 3, 1) := by decide +kernel
theorem dX8_shapes_38 : decode cX8_shapes 38 = .ok (.aload_n 0, 1) := by decide +kernel
theorem dX8_shapes_39 : decode cX8_shapes 39 = .ok (.iload 4, 2) := by decide +kernel
theorem dX8_shapes_41 : decode cX8_shapes 41 = .ok (.iload_n 2, 1) := by decide +kernel
theorem dX8_shapes_42 : decode cX8_shapes 42 = .ok (.aload_n 0, 1) := by decide +kernel
theorem dX8_shapes_43 : decode cX8_shapes 43 = .ok (.iload 4, 2) := by decide +kernel
theorem dX8_shapes_45 : decode cX8_shapes 45 = .ok (.iconst 2, 1) := by decide +kernel
theorem dX8_shapes_46 : decode cX8_shapes 46 = .ok (.invokevirtual 80, 3) := by decide +kernel
theorem dX8_shapes_49 : decode cX8_shapes 49 = .ok (.invokestatic 155, 3) := by decide +kernel
theorem dX8_shapes_52 : decode cX8_shapes 52 = .ok (.invokevirtual 151, 3) := by decide +kernel
theorem dX8_shapes_55 : decode cX8_shapes 55 = .ok (.iadd, 1) := by decide +kernel
theorem dX8_shapes_56 : decode cX8_shapes 56 = .ok (.istore_n 3, 1) := by decide +kernel
theorem dX8_shapes_57 : decode cX8_shapes 57 = .ok (.aload_n 0, 1) := by decide +kernel
theorem dX8_shapes_58 : decode cX8_shapes 58 = .ok (.getfield 7, 3) := by decide +kernel
theorem dX8_shapes_61 : decode cX8_shapes 61 = .ok (.iconst 5, 1) := by decide +kernel
theorem dX8_shapes_62 : decode cX8_shapes 62 = .ok (.iload 5, 2) := by decide +kernel
theorem dX8_shapes_64 : decode cX8_shapes 64 = .ok (.iastore, 1) := by decide +kernel
theorem dX8_shapes_65 : decode cX8_shapes 65 = .ok (.iinc 4 1, 3) := by decide +kernel
theorem dX8_shapes_68 : decode cX8_shapes 68 = .ok (.goto (-63), 3) := by decide +kernel
theorem dX8_shapes_71 : decode cX8_shapes 71 = .ok (.iload_n 3, 1) := by decide +kernel
theorem dX8_shapes_72 : decode cX8_shapes 72 = .ok (.ireturn, 1) := by decide +kernel
set_option maxRecDepth 20000 in
theorem ggX8_shape_X8_isCrane : GoodIn wsX8_shape wsX8_isCrane := goodIn_r _ [4] (by decide +kernel) (by decide +kernel)
set_option maxRecDepth 20000 in
theorem gX8_shape_X8_isCrane : GoodIn wsX8_shape (va_wsS RX8 148 yX8_isCrane wsX8_isCrane) := goodIn_app (goodIn_of _ (by decide +kernel)) ggX8_shape_X8_isCrane
set_option maxRecDepth 20000 in
theorem ggX8_shape_X8_in : GoodIn wsX8_shape wsX8_in := goodIn_r _ [7] (by decide +kernel) (by decide +kernel)
set_option maxRecDepth 20000 in
theorem gX8_shape_X8_in : GoodIn wsX8_shape (va_wsS RX8 48 yX8_in wsX8_in) := goodIn_app (goodIn_of _ (by decide +kernel)) ggX8_shape_X8_in
set_option maxRecDepth 20000 in
theorem ggX8_shape_X8_keeps : GoodIn wsX8_shape wsX8_keeps := goodIn_r _ [11, 12, 13, 14, 42, 43, 44, 45, 46, 47, 48, 49, 50] (by decide +kernel) (by decide +kernel)
set_option maxRecDepth 20000 in
theorem gX8_shape_X8_keeps : GoodIn wsX8_shape (wsV RX8 133 RX8 yX8_keeps wsX8_keeps) := goodIn_app (goodIn_of _ (by decide +kernel)) ggX8_shape_X8_keeps
set_option maxRecDepth 20000 in
theorem ggX8_shape_X8_shapes : GoodIn wsX8_shape wsX8_shapes := goodIn_r _ [18, 14, 19, 20, 21, 3, 22, 23, 24, 25, 26, 27, 28, 29, 30, 31, 32, 33, 34, 35, 36, 37, 38, 39, 40, 41, 42, 43, 44, 45, 46, 47, 48, 49, 50] (by decide +kernel) (by decide +kernel)
set_option maxRecDepth 20000 in
theorem gX8_shape_X8_shapes : GoodIn wsX8_shape (wsV RX8 158 RX8 yX8_shapes wsX8_shapes) := goodIn_app (goodIn_of _ (by decide +kernel)) ggX8_shape_X8_shapes
set_option maxRecDepth 20000 in
theorem ggX8_shape_X8_commands : GoodIn wsX8_shape wsX8_commands := goodIn_r _ [33, 14, 19, 20, 21, 3, 22, 34, 35, 36, 37, 23, 24, 25, 26, 38, 39, 40, 41, 42, 43, 44, 45, 46, 47, 48, 49, 50] (by decide +kernel) (by decide +kernel)
set_option maxRecDepth 20000 in
theorem gX8_shape_X8_commands : GoodIn wsX8_shape (wsV RX8 151 RX8 yX8_commands wsX8_commands) := goodIn_app (goodIn_of _ (by decide +kernel)) ggX8_shape_X8_commands
theorem dX8_shape_0 : decode cX8_shape 0 = .ok (.iload_n 1, 1) := by decide +kernel
theorem dX8_shape_1 : decode cX8_shape 1 = .ok (.invokestatic 148, 3) := by decide +kernel
theorem dX8_shape_4 : decode cX8_shape 4 = .ok (.ifCond .eq 24, 3) := by decide +kernel
theorem dX8_shape_7 : decode cX8_shape 7 = .ok (.iload_n 2, 1) := by decide +kernel
theorem dX8_shape_8 : decode cX8_shape 8 = .ok (.bipush (-40), 2) := by decide +kernel
theorem dX8_shape_10 : decode cX8_shape 10 = .ok (.bipush 40, 2) := by decide +kernel
theorem dX8_shape_12 : decode cX8_shape 12 = .ok (.invokestatic 48, 3) := by decide +kernel
theorem dX8_shape_15 : decode cX8_shape 15 = .ok (.ifCond .eq 13, 3) := by decide +kernel
theorem dX8_shape_18 : decode cX8_shape 18 = .ok (.iload_n 3, 1) := by decide +kernel
theorem dX8_shape_19 : decode cX8_shape 19 = .ok (.iconst (-1), 1) := by decide +kernel
theorem dX8_shape_20 : decode cX8_shape 20 = .ok (.bipush 20, 2) := by decide +kernel
theorem dX8_shape_22 : decode cX8_shape 22 = .ok (.invokestatic 48, 3) := by decide +kernel
theorem dX8_shape_25 : decode cX8_shape 25 = .ok (.ifCond .ne 5, 3) := by decide +kernel
theorem dX8_shape_28 : decode cX8_shape 28 = .ok (.iconst (-1), 1) := by decide +kernel
theorem dX8_shape_29 : decode cX8_shape 29 = .ok (.ireturn, 1) := by decide +kernel
theorem dX8_shape_30 : decode cX8_shape 30 = .ok (.aload_n 0, 1) := by decide +kernel
theorem dX8_shape_31 : decode cX8_shape 31 = .ok (.invokevirtual 133, 3) := by decide +kernel
theorem dX8_shape_34 : decode cX8_shape 34 = .ok (.iload_n 3, 1) := by decide +kernel
theorem dX8_shape_35 : decode cX8_shape 35 = .ok (.ifCond .ge 12, 3) := by decide +kernel
theorem dX8_shape_38 : decode cX8_shape 38 = .ok (.aload_n 0, 1) := by decide +kernel
theorem dX8_shape_39 : decode cX8_shape 39 = .ok (.iload_n 1, 1) := by decide +kernel
theorem dX8_shape_40 : decode cX8_shape 40 = .ok (.iload_n 2, 1) := by decide +kernel
theorem dX8_shape_41 : decode cX8_shape 41 = .ok (.invokevirtual 158, 3) := by decide +kernel
theorem dX8_shape_44 : decode cX8_shape 44 = .ok (.goto 10, 3) := by decide +kernel
theorem dX8_shape_47 : decode cX8_shape 47 = .ok (.aload_n 0, 1) := by decide +kernel
theorem dX8_shape_48 : decode cX8_shape 48 = .ok (.iload_n 1, 1) := by decide +kernel
theorem dX8_shape_49 : decode cX8_shape 49 = .ok (.iload_n 2, 1) := by decide +kernel
theorem dX8_shape_50 : decode cX8_shape 50 = .ok (.iload_n 3, 1) := by decide +kernel
theorem dX8_shape_51 : decode cX8_shape 51 = .ok (.invokevirtual 151, 3) := by decide +kernel
theorem dX8_shape_54 : decode cX8_shape 54 = .ok (.ireturn, 1) := by decide +kernel
set_option maxRecDepth 20000 in
theorem ggX8_target_X8_isCrane : GoodIn wsX8_target wsX8_isCrane := goodIn_r _ [4] (by decide +kernel) (by decide +kernel)
set_option maxRecDepth 20000 in
theorem gX8_target_X8_isCrane : GoodIn wsX8_target (va_wsS RX8 148 yX8_isCrane wsX8_isCrane) := goodIn_app (goodIn_of _ (by decide +kernel)) ggX8_target_X8_isCrane
set_option maxRecDepth 20000 in
theorem ggX8_target_X8_in : GoodIn wsX8_target wsX8_in := goodIn_r _ [7] (by decide +kernel) (by decide +kernel)
set_option maxRecDepth 20000 in
theorem gX8_target_X8_in : GoodIn wsX8_target (va_wsS RX8 48 yX8_in wsX8_in) := goodIn_app (goodIn_of _ (by decide +kernel)) ggX8_target_X8_in
set_option maxRecDepth 20000 in
theorem ggX8_target_X8_heeds : GoodIn wsX8_target wsX8_heeds := goodIn_r _ [11, 12, 27, 28, 29, 30, 31, 32, 33, 34, 35] (by decide +kernel) (by decide +kernel)
set_option maxRecDepth 20000 in
theorem gX8_target_X8_heeds : GoodIn wsX8_target (wsV RX8 142 RX8 yX8_heeds wsX8_heeds) := goodIn_app (goodIn_of _ (by decide +kernel)) ggX8_target_X8_heeds
set_option maxRecDepth 20000 in
theorem ggX8_target_X8_of : GoodIn wsX8_target wsX8_of := goodIn_r _ [16, 12, 27, 28, 29, 30, 31, 32, 33, 34, 35] (by decide +kernel) (by decide +kernel)
set_option maxRecDepth 20000 in
theorem gX8_target_X8_of : GoodIn wsX8_target (wsV RX8 80 RX8 yX8_of wsX8_of) := goodIn_app (goodIn_of _ (by decide +kernel)) ggX8_target_X8_of
set_option maxRecDepth 20000 in
theorem ggX8_target_X8_keeps : GoodIn wsX8_target wsX8_keeps := goodIn_r _ [20, 21, 22, 12, 27, 28, 29, 30, 31, 32, 33, 34, 35] (by decide +kernel) (by decide +kernel)
set_option maxRecDepth 20000 in
theorem gX8_target_X8_keeps : GoodIn wsX8_target (wsV RX8 133 RX8 yX8_keeps wsX8_keeps) := goodIn_app (goodIn_of _ (by decide +kernel)) ggX8_target_X8_keeps
set_option maxRecDepth 20000 in
theorem ggX8_target_X8_tells : GoodIn wsX8_target wsX8_tells := goodIn_r _ [26, 12, 27, 28, 29, 30, 31, 32, 33, 34, 35] (by decide +kernel) (by decide +kernel)
set_option maxRecDepth 20000 in
theorem gX8_target_X8_tells : GoodIn wsX8_target (wsV RX8 88 RX8 yX8_tells wsX8_tells) := goodIn_app (goodIn_of _ (by decide +kernel)) ggX8_target_X8_tells
theorem dX8_target_0 : decode cX8_target 0 = .ok (.iload_n 1, 1) := by decide +kernel
theorem dX8_target_1 : decode cX8_target 1 = .ok (.invokestatic 148, 3) := by decide +kernel
theorem dX8_target_4 : decode cX8_target 4 = .ok (.ifCond .eq 14, 3) := by decide +kernel
theorem dX8_target_7 : decode cX8_target 7 = .ok (.iload_n 2, 1) := by decide +kernel
theorem dX8_target_8 : decode cX8_target 8 = .ok (.bipush 10, 2) := by decide +kernel
theorem dX8_target_10 : decode cX8_target 10 = .ok (.bipush 60, 2) := by decide +kernel
theorem dX8_target_12 : decode cX8_target 12 = .ok (.invokestatic 48, 3) := by decide +kernel
theorem dX8_target_15 : decode cX8_target 15 = .ok (.ifCond .ne 5, 3) := by decide +kernel
theorem dX8_target_18 : decode cX8_target 18 = .ok (.iconst (-1), 1) := by decide +kernel
theorem dX8_target_19 : decode cX8_target 19 = .ok (.ireturn, 1) := by decide +kernel
theorem dX8_target_20 : decode cX8_target 20 = .ok (.iconst 1, 1) := by decide +kernel
theorem dX8_target_21 : decode cX8_target 21 = .ok (.istore_n 3, 1) := by decide +kernel
theorem dX8_target_22 : decode cX8_target 22 = .ok (.iconst 0, 1) := by decide +kernel
theorem dX8_target_23 : decode cX8_target 23 = .ok (.istore 4, 2) := by decide +kernel
theorem dX8_target_25 : decode cX8_target 25 = .ok (.iload 4, 2) := by decide +kernel
theorem dX8_target_27 : decode cX8_target 27 = .ok (.iconst 2, 1) := by decide +kernel
theorem dX8_target_28 : decode cX8_target 28 = .ok (.if_icmp .ge 41, 3) := by decide +kernel
theorem dX8_target_31 : decode cX8_target 31 = .ok (.iload_n 3, 1) := by decide +kernel
theorem dX8_target_32 : decode cX8_target 32 = .ok (.ifCond .eq 29, 3) := by decide +kernel
theorem dX8_target_35 : decode cX8_target 35 = .ok (.aload_n 0, 1) := by decide +kernel
theorem dX8_target_36 : decode cX8_target 36 = .ok (.iload 4, 2) := by decide +kernel
theorem dX8_target_38 : decode cX8_target 38 = .ok (.iload_n 1, 1) := by decide +kernel
theorem dX8_target_39 : decode cX8_target 39 = .ok (.invokevirtual 142, 3) := by decide +kernel
theorem dX8_target_42 : decode cX8_target 42 = .ok (.ifCond .eq 15, 3) := by decide +kernel
theorem dX8_target_45 : decode cX8_target 45 = .ok (.aload_n 0, 1) := by decide +kernel
theorem dX8_target_46 : decode cX8_target 46 = .ok (.iload 4, 2) := by decide +kernel
theorem dX8_target_48 : decode cX8_target 48 = .ok (.bipush 7, 2) := by decide +kernel
theorem dX8_target_50 : decode cX8_target 50 = .ok (.invokevirtual 80, 3) := by decide +kernel
theorem dX8_target_53 : decode cX8_target 53 = .ok (.iload_n 2, 1) := by decide +kernel
theorem dX8_target_54 : decode cX8_target 54 = .ok (.if_icmp .ne 7, 3) := by decide +kernel
theorem dX8_target_57 : decode cX8_target 57 = .ok (.iconst 1, 1) := by decide +kernel
theorem dX8_target_58 : decode cX8_target 58 = .ok (.goto 4, 3) := by decide +kernel
theorem dX8_target_61 : decode cX8_target 61 = .ok (.iconst 0, 1) := by decide +kernel
theorem dX8_target_62 : decode cX8_target 62 = .ok (.istore_n 3, 1) := by decide +kernel
theorem dX8_target_63 : decode cX8_target 63 = .ok (.iinc 4 1, 3) := by decide +kernel
theorem dX8_target_66 : decode cX8_target 66 = .ok (.goto (-41), 3) := by decide +kernel
theorem dX8_target_69 : decode cX8_target 69 = .ok (.iload_n 3, 1) := by decide +kernel
theorem dX8_target_70 : decode cX8_target 70 = .ok (.ifCond .eq 6, 3) := by decide +kernel
theorem dX8_target_73 : decode cX8_target 73 = .ok (.bipush (-2), 2) := by decide +kernel
theorem dX8_target_75 : decode cX8_target 75 = .ok (.ireturn, 1) := by decide +kernel
theorem dX8_target_76 : decode cX8_target 76 = .ok (.aload_n 0, 1) := by decide +kernel
theorem dX8_target_77 : decode cX8_target 77 = .ok (.invokevirtual 133, 3) := by decide +kernel
theorem dX8_target_80 : decode cX8_target 80 = .ok (.aload_n 0, 1) := by decide +kernel
theorem dX8_target_81 : decode cX8_target 81 = .ok (.iload_n 1, 1) := by decide +kernel
theorem dX8_target_82 : decode cX8_target 82 = .ok (.bipush 7, 2) := by decide +kernel
theorem dX8_target_84 : decode cX8_target 84 = .ok (.invokevirtual 80, 3) := by decide +kernel
theorem dX8_target_87 : decode cX8_target 87 = .ok (.istore 4, 2) := by decide +kernel
theorem dX8_target_89 : decode cX8_target 89 = .ok (.iconst 0, 1) := by decide +kernel
theorem dX8_target_90 : decode cX8_target 90 = .ok (.istore 5, 2) := by decide +kernel
theorem dX8_target_92 : decode cX8_target 92 = .ok (.iload 5, 2) := by decide +kernel
theorem dX8_target_94 : decode cX8_target 94 = .ok (.iconst 2, 1) := by decide +kernel
theorem dX8_target_95 : decode cX8_target 95 = .ok (.if_icmp .ge 28, 3) := by decide +kernel
theorem dX8_target_98 : decode cX8_target 98 = .ok (.aload_n 0, 1) := by decide +kernel
theorem dX8_target_99 : decode cX8_target 99 = .ok (.iload 5, 2) := by decide +kernel
theorem dX8_target_101 : decode cX8_target 101 = .ok (.iload_n 1, 1) := by decide +kernel
theorem dX8_target_102 : decode cX8_target 102 = .ok (.invokevirtual 142, 3) := by decide +kernel
theorem dX8_target_105 : decode cX8_target 105 = .ok (.ifCond .eq 12, 3) := by decide +kernel
theorem dX8_target_108 : decode cX8_target 108 = .ok (.aload_n 0, 1) := by decide +kernel
theorem dX8_target_109 : decode cX8_target 109 = .ok (.iload 5, 2) := by decide +kernel
theorem dX8_target_111 : decode cX8_target 111 = .ok (.bipush 7, 2) := by decide +kernel
theorem dX8_target_113 : decode cX8_target 113 = .ok (.iload_n 2, 1) := by decide +kernel
theorem dX8_target_114 : decode cX8_target 114 = .ok (.invokevirtual 88, 3) := by decide +kernel
theorem dX8_target_117 : decode cX8_target 117 = .ok (.iinc 5 1, 3) := by decide +kernel
theorem dX8_target_120 : decode cX8_target 120 = .ok (.goto (-28), 3) := by decide +kernel
theorem dX8_target_123 : decode cX8_target 123 = .ok (.iload 4, 2) := by decide +kernel
theorem dX8_target_125 : decode cX8_target 125 = .ok (.ireturn, 1) := by decide +kernel
set_option maxRecDepth 20000 in
theorem ggX8_load_X8_isCrane : GoodIn wsX8_load wsX8_isCrane := goodIn_r _ [4] (by decide +kernel) (by decide +kernel)
set_option maxRecDepth 20000 in
theorem gX8_load_X8_isCrane : GoodIn wsX8_load (va_wsS RX8 148 yX8_isCrane wsX8_isCrane) := goodIn_app (goodIn_of _ (by decide +kernel)) ggX8_load_X8_isCrane
set_option maxRecDepth 20000 in
theorem ggX8_load_X8_in : GoodIn wsX8_load wsX8_in := goodIn_r _ [7] (by decide +kernel) (by decide +kernel)
set_option maxRecDepth 20000 in
theorem gX8_load_X8_in : GoodIn wsX8_load (va_wsS RX8 48 yX8_in wsX8_in) := goodIn_app (goodIn_of _ (by decide +kernel)) ggX8_load_X8_in
set_option maxRecDepth 20000 in
theorem ggX8_load_X8_of : GoodIn wsX8_load wsX8_of := goodIn_r _ [11, 12, 23, 24, 25, 26, 27, 28, 29, 30, 31] (by decide +kernel) (by decide +kernel)
set_option maxRecDepth 20000 in
theorem gX8_load_X8_of : GoodIn wsX8_load (wsV RX8 80 RX8 yX8_of wsX8_of) := goodIn_app (goodIn_of _ (by decide +kernel)) ggX8_load_X8_of
set_option maxRecDepth 20000 in
theorem ggX8_load_X8_keeps : GoodIn wsX8_load wsX8_keeps := goodIn_r _ [16, 17, 18, 12, 23, 24, 25, 26, 27, 28, 29, 30, 31] (by decide +kernel) (by decide +kernel)
set_option maxRecDepth 20000 in
theorem gX8_load_X8_keeps : GoodIn wsX8_load (wsV RX8 133 RX8 yX8_keeps wsX8_keeps) := goodIn_app (goodIn_of _ (by decide +kernel)) ggX8_load_X8_keeps
set_option maxRecDepth 20000 in
theorem ggX8_load_X8_tells : GoodIn wsX8_load wsX8_tells := goodIn_r _ [22, 12, 23, 24, 25, 26, 27, 28, 29, 30, 31] (by decide +kernel) (by decide +kernel)
set_option maxRecDepth 20000 in
theorem gX8_load_X8_tells : GoodIn wsX8_load (wsV RX8 88 RX8 yX8_tells wsX8_tells) := goodIn_app (goodIn_of _ (by decide +kernel)) ggX8_load_X8_tells
theorem dX8_load_0 : decode cX8_load 0 = .ok (.iload_n 1, 1) := by decide +kernel
theorem dX8_load_1 : decode cX8_load 1 = .ok (.invokestatic 148, 3) := by decide +kernel
theorem dX8_load_4 : decode cX8_load 4 = .ok (.ifCond .eq 13, 3) := by decide +kernel
theorem dX8_load_7 : decode cX8_load 7 = .ok (.iload_n 2, 1) := by decide +kernel
theorem dX8_load_8 : decode cX8_load 8 = .ok (.iconst 0, 1) := by decide +kernel
theorem dX8_load_9 : decode cX8_load 9 = .ok (.bipush 99, 2) := by decide +kernel
theorem dX8_load_11 : decode cX8_load 11 = .ok (.invokestatic 48, 3) := by decide +kernel
theorem dX8_load_14 : decode cX8_load 14 = .ok (.ifCond .ne 5, 3) := by decide +kernel
theorem dX8_load_17 : decode cX8_load 17 = .ok (.iconst (-1), 1) := by decide +kernel
theorem dX8_load_18 : decode cX8_load 18 = .ok (.ireturn, 1) := by decide +kernel
theorem dX8_load_19 : decode cX8_load 19 = .ok (.aload_n 0, 1) := by decide +kernel
theorem dX8_load_20 : decode cX8_load 20 = .ok (.iload_n 1, 1) := by decide +kernel
theorem dX8_load_21 : decode cX8_load 21 = .ok (.iconst 3, 1) := by decide +kernel
theorem dX8_load_22 : decode cX8_load 22 = .ok (.invokevirtual 80, 3) := by decide +kernel
theorem dX8_load_25 : decode cX8_load 25 = .ok (.istore_n 3, 1) := by decide +kernel
theorem dX8_load_26 : decode cX8_load 26 = .ok (.iload_n 3, 1) := by decide +kernel
theorem dX8_load_27 : decode cX8_load 27 = .ok (.iload_n 2, 1) := by decide +kernel
theorem dX8_load_28 : decode cX8_load 28 = .ok (.if_icmp .ne 6, 3) := by decide +kernel
theorem dX8_load_31 : decode cX8_load 31 = .ok (.bipush (-2), 2) := by decide +kernel
theorem dX8_load_33 : decode cX8_load 33 = .ok (.ireturn, 1) := by decide +kernel
theorem dX8_load_34 : decode cX8_load 34 = .ok (.aload_n 0, 1) := by decide +kernel
theorem dX8_load_35 : decode cX8_load 35 = .ok (.invokevirtual 133, 3) := by decide +kernel
theorem dX8_load_38 : decode cX8_load 38 = .ok (.aload_n 0, 1) := by decide +kernel
theorem dX8_load_39 : decode cX8_load 39 = .ok (.iload_n 1, 1) := by decide +kernel
theorem dX8_load_40 : decode cX8_load 40 = .ok (.iconst 3, 1) := by decide +kernel
theorem dX8_load_41 : decode cX8_load 41 = .ok (.iload_n 2, 1) := by decide +kernel
theorem dX8_load_42 : decode cX8_load 42 = .ok (.invokevirtual 88, 3) := by decide +kernel
theorem dX8_load_45 : decode cX8_load 45 = .ok (.iload_n 3, 1) := by decide +kernel
theorem dX8_load_46 : decode cX8_load 46 = .ok (.ireturn, 1) := by decide +kernel
set_option maxRecDepth 20000 in
theorem ggX8_couple_X8_in : GoodIn wsX8_couple wsX8_in := goodIn_r _ [5] (by decide +kernel) (by decide +kernel)
set_option maxRecDepth 20000 in
theorem gX8_couple_X8_in : GoodIn wsX8_couple (va_wsS RX8 48 yX8_in wsX8_in) := goodIn_app (goodIn_of _ (by decide +kernel)) ggX8_couple_X8_in
set_option maxRecDepth 20000 in
theorem ggX8_couple_X8_keeps : GoodIn wsX8_couple wsX8_keeps := goodIn_r _ [9, 10, 11, 1, 12, 13, 14, 15, 16, 17, 18, 19, 20] (by decide +kernel) (by decide +kernel)
set_option maxRecDepth 20000 in
theorem gX8_couple_X8_keeps : GoodIn wsX8_couple (wsV RX8 133 RX8 yX8_keeps wsX8_keeps) := goodIn_app (goodIn_of _ (by decide +kernel)) ggX8_couple_X8_keeps
theorem dX8_couple_0 : decode cX8_couple 0 = .ok (.iload_n 1, 1) := by decide +kernel
theorem dX8_couple_1 : decode cX8_couple 1 = .ok (.iconst (-1), 1) := by decide +kernel
theorem dX8_couple_2 : decode cX8_couple 2 = .ok (.bipush 20, 2) := by decide +kernel
theorem dX8_couple_4 : decode cX8_couple 4 = .ok (.invokestatic 48, 3) := by decide +kernel
theorem dX8_couple_7 : decode cX8_couple 7 = .ok (.ifCond .ne 5, 3) := by decide +kernel
theorem dX8_couple_10 : decode cX8_couple 10 = .ok (.iconst (-1), 1) := by decide +kernel
theorem dX8_couple_11 : decode cX8_couple 11 = .ok (.ireturn, 1) := by decide +kernel
theorem dX8_couple_12 : decode cX8_couple 12 = .ok (.aload_n 0, 1) := by decide +kernel
theorem dX8_couple_13 : decode cX8_couple 13 = .ok (.getfield 7, 3) := by decide +kernel
theorem dX8_couple_16 : decode cX8_couple 16 = .ok (.iconst 5, 1) := by decide +kernel
theorem dX8_couple_17 : decode cX8_couple 17 = .ok (.iaload, 1) := by decide +kernel
theorem dX8_couple_18 : decode cX8_couple 18 = .ok (.istore_n 2, 1) := by decide +kernel
theorem dX8_couple_19 : decode cX8_couple 19 = .ok (.iload_n 1, 1) := by decide +kernel
theorem dX8_couple_20 : decode cX8_couple 20 = .ok (.ifCond .ge 8, 3) := by decide +kernel
theorem dX8_couple_23 : decode cX8_couple 23 = .ok (.bipush (-4), 2) := by decide +kernel
theorem dX8_couple_25 : decode cX8_couple 25 = .ok (.goto 4, 3) := by decide +kernel
theorem dX8_couple_28 : decode cX8_couple 28 = .ok (.iload_n 1, 1) := by decide +kernel
theorem dX8_couple_29 : decode cX8_couple 29 = .ok (.istore_n 3, 1) := by decide +kernel
theorem dX8_couple_30 : decode cX8_couple 30 = .ok (.iload_n 2, 1) := by decide +kernel
theorem dX8_couple_31 : decode cX8_couple 31 = .ok (.iload_n 3, 1) := by decide +kernel
theorem dX8_couple_32 : decode cX8_couple 32 = .ok (.if_icmp .ne 6, 3) := by decide +kernel
theorem dX8_couple_35 : decode cX8_couple 35 = .ok (.bipush (-2), 2) := by decide +kernel
theorem dX8_couple_37 : decode cX8_couple 37 = .ok (.ireturn, 1) := by decide +kernel
theorem dX8_couple_38 : decode cX8_couple 38 = .ok (.aload_n 0, 1) := by decide +kernel
theorem dX8_couple_39 : decode cX8_couple 39 = .ok (.invokevirtual 133, 3) := by decide +kernel
theorem dX8_couple_42 : decode cX8_couple 42 = .ok (.aload_n 0, 1) := by decide +kernel
theorem dX8_couple_43 : decode cX8_couple 43 = .ok (.getfield 7, 3) := by decide +kernel
theorem dX8_couple_46 : decode cX8_couple 46 = .ok (.iconst 5, 1) := by decide +kernel
theorem dX8_couple_47 : decode cX8_couple 47 = .ok (.iload_n 3, 1) := by decide +kernel
theorem dX8_couple_48 : decode cX8_couple 48 = .ok (.iastore, 1) := by decide +kernel
theorem dX8_couple_49 : decode cX8_couple 49 = .ok (.iload_n 2, 1) := by decide +kernel
theorem dX8_couple_50 : decode cX8_couple 50 = .ok (.ireturn, 1) := by decide +kernel
set_option maxRecDepth 20000 in
theorem ggX8_isQuiet_X8_of : GoodIn wsX8_isQuiet wsX8_of := goodIn_r _ [5, 6, 10, 11, 12, 13, 14, 15, 16, 17, 18] (by decide +kernel) (by decide +kernel)
set_option maxRecDepth 20000 in
theorem gX8_isQuiet_X8_of : GoodIn wsX8_isQuiet (wsV RX8 80 RX8 yX8_of wsX8_of) := goodIn_app (goodIn_of _ (by decide +kernel)) ggX8_isQuiet_X8_of
set_option maxRecDepth 20000 in
theorem ggX8_isQuiet_X8_size : GoodIn wsX8_isQuiet wsX8_size := goodIn_r _ [9] (by decide +kernel) (by decide +kernel)
set_option maxRecDepth 20000 in
theorem gX8_isQuiet_X8_size : GoodIn wsX8_isQuiet (va_wsS RX8 84 yX8_size wsX8_size) := goodIn_app (goodIn_of _ (by decide +kernel)) ggX8_isQuiet_X8_size
theorem dX8_isQuiet_0 : decode cX8_isQuiet 0 = .ok (.aload_n 0, 1) := by decide +kernel
theorem dX8_isQuiet_1 : decode cX8_isQuiet 1 = .ok (.iload_n 1, 1) := by decide +kernel
theorem dX8_isQuiet_2 : decode cX8_isQuiet 2 = .ok (.iconst 1, 1) := by decide +kernel
theorem dX8_isQuiet_3 : decode cX8_isQuiet 3 = .ok (.invokevirtual 80, 3) := by decide +kernel
theorem dX8_isQuiet_6 : decode cX8_isQuiet 6 = .ok (.ifCond .ne 53, 3) := by decide +kernel
theorem dX8_isQuiet_9 : decode cX8_isQuiet 9 = .ok (.aload_n 0, 1) := by decide +kernel
theorem dX8_isQuiet_10 : decode cX8_isQuiet 10 = .ok (.iload_n 1, 1) := by decide +kernel
theorem dX8_isQuiet_11 : decode cX8_isQuiet 11 = .ok (.bipush 6, 2) := by decide +kernel
theorem dX8_isQuiet_13 : decode cX8_isQuiet 13 = .ok (.invokevirtual 80, 3) := by decide +kernel
theorem dX8_isQuiet_16 : decode cX8_isQuiet 16 = .ok (.ifCond .ne 43, 3) := by decide +kernel
theorem dX8_isQuiet_19 : decode cX8_isQuiet 19 = .ok (.aload_n 0, 1) := by decide +kernel
theorem dX8_isQuiet_20 : decode cX8_isQuiet 20 = .ok (.iload_n 1, 1) := by decide +kernel
theorem dX8_isQuiet_21 : decode cX8_isQuiet 21 = .ok (.bipush 8, 2) := by decide +kernel
theorem dX8_isQuiet_23 : decode cX8_isQuiet 23 = .ok (.invokevirtual 80, 3) := by decide +kernel
theorem dX8_isQuiet_26 : decode cX8_isQuiet 26 = .ok (.ifCond .ne 33, 3) := by decide +kernel
theorem dX8_isQuiet_29 : decode cX8_isQuiet 29 = .ok (.aload_n 0, 1) := by decide +kernel
theorem dX8_isQuiet_30 : decode cX8_isQuiet 30 = .ok (.iload_n 1, 1) := by decide +kernel
theorem dX8_isQuiet_31 : decode cX8_isQuiet 31 = .ok (.iconst 4, 1) := by decide +kernel
theorem dX8_isQuiet_32 : decode cX8_isQuiet 32 = .ok (.invokevirtual 80, 3) := by decide +kernel
theorem dX8_isQuiet_35 : decode cX8_isQuiet 35 = .ok (.invokestatic 84, 3) := by decide +kernel
theorem dX8_isQuiet_38 : decode cX8_isQuiet 38 = .ok (.iconst 3, 1) := by decide +kernel
theorem dX8_isQuiet_39 : decode cX8_isQuiet 39 = .ok (.if_icmp .gt 20, 3) := by decide +kernel
theorem dX8_isQuiet_42 : decode cX8_isQuiet 42 = .ok (.aload_n 0, 1) := by decide +kernel
theorem dX8_isQuiet_43 : decode cX8_isQuiet 43 = .ok (.iload_n 1, 1) := by decide +kernel
theorem dX8_isQuiet_44 : decode cX8_isQuiet 44 = .ok (.iconst 5, 1) := by decide +kernel
theorem dX8_isQuiet_45 : decode cX8_isQuiet 45 = .ok (.invokevirtual 80, 3) := by decide +kernel
theorem dX8_isQuiet_48 : decode cX8_isQuiet 48 = .ok (.invokestatic 84, 3) := by decide +kernel
theorem dX8_isQuiet_51 : decode cX8_isQuiet 51 = .ok (.iconst 2, 1) := by decide +kernel
theorem dX8_isQuiet_52 : decode cX8_isQuiet 52 = .ok (.if_icmp .gt 7, 3) := by decide +kernel
theorem dX8_isQuiet_55 : decode cX8_isQuiet 55 = .ok (.iconst 1, 1) := by decide +kernel
theorem dX8_isQuiet_56 : decode cX8_isQuiet 56 = .ok (.goto 4, 3) := by decide +kernel
theorem dX8_isQuiet_59 : decode cX8_isQuiet 59 = .ok (.iconst 0, 1) := by decide +kernel
theorem dX8_isQuiet_60 : decode cX8_isQuiet 60 = .ok (.istore_n 2, 1) := by decide +kernel
theorem dX8_isQuiet_61 : decode cX8_isQuiet 61 = .ok (.iload_n 2, 1) := by decide +kernel
theorem dX8_isQuiet_62 : decode cX8_isQuiet 62 = .ok (.ifCond .eq 7, 3) := by decide +kernel
theorem dX8_isQuiet_65 : decode cX8_isQuiet 65 = .ok (.iconst 1, 1) := by decide +kernel
theorem dX8_isQuiet_66 : decode cX8_isQuiet 66 = .ok (.goto 4, 3) := by decide +kernel
theorem dX8_isQuiet_69 : decode cX8_isQuiet 69 = .ok (.iconst 0, 1) := by decide +kernel
theorem dX8_isQuiet_70 : decode cX8_isQuiet 70 = .ok (.ireturn, 1) := by decide +kernel
set_option maxRecDepth 20000 in
theorem ggX8_crane_X8_isCrane : GoodIn wsX8_crane wsX8_isCrane := goodIn_r _ [5] (by decide +kernel) (by decide +kernel)
set_option maxRecDepth 20000 in
theorem gX8_crane_X8_isCrane : GoodIn wsX8_crane (va_wsS RX8 148 yX8_isCrane wsX8_isCrane) := goodIn_app (goodIn_of _ (by decide +kernel)) ggX8_crane_X8_isCrane
set_option maxRecDepth 20000 in
theorem ggX8_crane_X8_of : GoodIn wsX8_crane wsX8_of := goodIn_r _ [9, 10, 29, 30, 31, 32, 33, 34, 35, 36, 37] (by decide +kernel) (by decide +kernel)
set_option maxRecDepth 20000 in
theorem gX8_crane_X8_of : GoodIn wsX8_crane (wsV RX8 80 RX8 yX8_of wsX8_of) := goodIn_app (goodIn_of _ (by decide +kernel)) ggX8_crane_X8_of
set_option maxRecDepth 20000 in
theorem ggX8_crane_X8_limitOf : GoodIn wsX8_crane wsX8_limitOf := goodIn_r _ [14, 10, 6, 7, 8, 4, 9, 29, 30, 31, 32, 33, 34, 35, 36, 37] (by decide +kernel) (by decide +kernel)
set_option maxRecDepth 20000 in
theorem gX8_crane_X8_limitOf : GoodIn wsX8_crane (wsV RX8 92 RX8 yX8_limitOf wsX8_limitOf) := goodIn_app (goodIn_of _ (by decide +kernel)) ggX8_crane_X8_limitOf
set_option maxRecDepth 20000 in
theorem ggX8_crane_X8_stopBy : GoodIn wsX8_crane wsX8_stopBy := goodIn_r _ [18, 10, 19, 20, 4, 21, 29, 30, 31, 32, 33, 34, 35, 36, 37] (by decide +kernel) (by decide +kernel)
set_option maxRecDepth 20000 in
theorem gX8_crane_X8_stopBy : GoodIn wsX8_crane (wsV RX8 101 RX8 yX8_stopBy wsX8_stopBy) := goodIn_app (goodIn_of _ (by decide +kernel)) ggX8_crane_X8_stopBy
set_option maxRecDepth 20000 in
theorem ggX8_crane_X8_halfOf : GoodIn wsX8_crane wsX8_halfOf := goodIn_r _ [24] (by decide +kernel) (by decide +kernel)
set_option maxRecDepth 20000 in
theorem gX8_crane_X8_halfOf : GoodIn wsX8_crane (va_wsS RX8 155 yX8_halfOf wsX8_halfOf) := goodIn_app (goodIn_of _ (by decide +kernel)) ggX8_crane_X8_halfOf
set_option maxRecDepth 20000 in
theorem ggX8_crane_X8_isQuiet : GoodIn wsX8_crane wsX8_isQuiet := goodIn_r _ [28, 6, 7, 8, 4, 9, 10, 19, 20, 21, 29, 30, 31, 32, 33, 34, 35, 36, 37] (by decide +kernel) (by decide +kernel)
set_option maxRecDepth 20000 in
theorem gX8_crane_X8_isQuiet : GoodIn wsX8_crane (wsV RX8 162 RX8 yX8_isQuiet wsX8_isQuiet) := goodIn_app (goodIn_of _ (by decide +kernel)) ggX8_crane_X8_isQuiet
theorem dX8_crane_0 : decode cX8_crane 0 = .ok (.iload_n 1, 1) := by decide +kernel
theorem dX8_crane_1 : decode cX8_crane 1 = .ok (.invokestatic 148, 3) := by decide +kernel
theorem dX8_crane_4 : decode cX8_crane 4 = .ok (.ifCond .ne 5, 3) := by decide +kernel
theorem dX8_crane_7 : decode cX8_crane 7 = .ok (.iconst (-1), 1) := by decide +kernel
theorem dX8_crane_8 : decode cX8_crane 8 = .ok (.ireturn, 1) := by decide +kernel
theorem dX8_crane_9 : decode cX8_crane 9 = .ok (.iload_n 2, 1) := by decide +kernel
theorem dX8_crane_10 : decode cX8_crane 10 = .ok (.tableswitch 132 0 12 #[66, 73, 66, 66, 73, 73, 73, 83, 91, 97, 105, 116, 126], 66) := by decide +kernel
theorem dX8_crane_76 : decode cX8_crane 76 = .ok (.aload_n 0, 1) := by decide +kernel
theorem dX8_crane_77 : decode cX8_crane 77 = .ok (.iload_n 1, 1) := by decide +kernel
theorem dX8_crane_78 : decode cX8_crane 78 = .ok (.iload_n 2, 1) := by decide +kernel
theorem dX8_crane_79 : decode cX8_crane 79 = .ok (.invokevirtual 80, 3) := by decide +kernel
theorem dX8_crane_82 : decode cX8_crane 82 = .ok (.ireturn, 1) := by decide +kernel
theorem dX8_crane_83 : decode cX8_crane 83 = .ok (.aload_n 0, 1) := by decide +kernel
theorem dX8_crane_84 : decode cX8_crane 84 = .ok (.iload_n 1, 1) := by decide +kernel
theorem dX8_crane_85 : decode cX8_crane 85 = .ok (.iload_n 2, 1) := by decide +kernel
theorem dX8_crane_86 : decode cX8_crane 86 = .ok (.invokevirtual 80, 3) := by decide +kernel
theorem dX8_crane_89 : decode cX8_crane 89 = .ok (.ldc 161, 2) := by decide +kernel
theorem dX8_crane_91 : decode cX8_crane 91 = .ok (.iadd, 1) := by decide +kernel
theorem dX8_crane_92 : decode cX8_crane 92 = .ok (.ireturn, 1) := by decide +kernel
theorem dX8_crane_93 : decode cX8_crane 93 = .ok (.aload_n 0, 1) := by decide +kernel
theorem dX8_crane_94 : decode cX8_crane 94 = .ok (.iload_n 1, 1) := by decide +kernel
theorem dX8_crane_95 : decode cX8_crane 95 = .ok (.bipush 7, 2) := by decide +kernel
theorem dX8_crane_97 : decode cX8_crane 97 = .ok (.invokevirtual 80, 3) := by decide +kernel
theorem dX8_crane_100 : decode cX8_crane 100 = .ok (.ireturn, 1) := by decide +kernel
theorem dX8_crane_101 : decode cX8_crane 101 = .ok (.aload_n 0, 1) := by decide +kernel
theorem dX8_crane_102 : decode cX8_crane 102 = .ok (.iload_n 1, 1) := by decide +kernel
theorem dX8_crane_103 : decode cX8_crane 103 = .ok (.invokevirtual 92, 3) := by decide +kernel
theorem dX8_crane_106 : decode cX8_crane 106 = .ok (.ireturn, 1) := by decide +kernel
theorem dX8_crane_107 : decode cX8_crane 107 = .ok (.aload_n 0, 1) := by decide +kernel
theorem dX8_crane_108 : decode cX8_crane 108 = .ok (.iload_n 1, 1) := by decide +kernel
theorem dX8_crane_109 : decode cX8_crane 109 = .ok (.bipush 8, 2) := by decide +kernel
theorem dX8_crane_111 : decode cX8_crane 111 = .ok (.invokevirtual 80, 3) := by decide +kernel
theorem dX8_crane_114 : decode cX8_crane 114 = .ok (.ireturn, 1) := by decide +kernel
theorem dX8_crane_115 : decode cX8_crane 115 = .ok (.aload_n 0, 1) := by decide +kernel
theorem dX8_crane_116 : decode cX8_crane 116 = .ok (.aload_n 0, 1) := by decide +kernel
theorem dX8_crane_117 : decode cX8_crane 117 = .ok (.iload_n 1, 1) := by decide +kernel
theorem dX8_crane_118 : decode cX8_crane 118 = .ok (.iconst 1, 1) := by decide +kernel
theorem dX8_crane_119 : decode cX8_crane 119 = .ok (.invokevirtual 80, 3) := by decide +kernel
theorem dX8_crane_122 : decode cX8_crane 122 = .ok (.invokevirtual 101, 3) := by decide +kernel
theorem dX8_crane_125 : decode cX8_crane 125 = .ok (.ireturn, 1) := by decide +kernel
theorem dX8_crane_126 : decode cX8_crane 126 = .ok (.aload_n 0, 1) := by decide +kernel
theorem dX8_crane_127 : decode cX8_crane 127 = .ok (.iload_n 1, 1) := by decide +kernel
theorem dX8_crane_128 : decode cX8_crane 128 = .ok (.iconst 2, 1) := by decide +kernel
theorem dX8_crane_129 : decode cX8_crane 129 = .ok (.invokevirtual 80, 3) := by decide +kernel
theorem dX8_crane_132 : decode cX8_crane 132 = .ok (.invokestatic 155, 3) := by decide +kernel
theorem dX8_crane_135 : decode cX8_crane 135 = .ok (.ireturn, 1) := by decide +kernel
theorem dX8_crane_136 : decode cX8_crane 136 = .ok (.aload_n 0, 1) := by decide +kernel
theorem dX8_crane_137 : decode cX8_crane 137 = .ok (.iload_n 1, 1) := by decide +kernel
theorem dX8_crane_138 : decode cX8_crane 138 = .ok (.invokevirtual 162, 3) := by decide +kernel
theorem dX8_crane_141 : decode cX8_crane 141 = .ok (.ireturn, 1) := by decide +kernel
theorem dX8_crane_142 : decode cX8_crane 142 = .ok (.iconst (-1), 1) := by decide +kernel
theorem dX8_crane_143 : decode cX8_crane 143 = .ok (.ireturn, 1) := by decide +kernel
set_option maxRecDepth 20000 in
theorem ggX8_stepOf_X8_isCrane : GoodIn wsX8_stepOf wsX8_isCrane := goodIn_r _ [6] (by decide +kernel) (by decide +kernel)
set_option maxRecDepth 20000 in
theorem gX8_stepOf_X8_isCrane : GoodIn wsX8_stepOf (va_wsS RX8 148 yX8_isCrane wsX8_isCrane) := goodIn_app (goodIn_of _ (by decide +kernel)) ggX8_stepOf_X8_isCrane
set_option maxRecDepth 20000 in
theorem ggX8_stepOf_X8_in : GoodIn wsX8_stepOf wsX8_in := goodIn_r _ [9] (by decide +kernel) (by decide +kernel)
set_option maxRecDepth 20000 in
theorem gX8_stepOf_X8_in : GoodIn wsX8_stepOf (va_wsS RX8 48 yX8_in wsX8_in) := goodIn_app (goodIn_of _ (by decide +kernel)) ggX8_stepOf_X8_in
set_option maxRecDepth 20000 in
theorem ggX8_stepOf_X8_of : GoodIn wsX8_stepOf wsX8_of := goodIn_r _ [13, 1, 14, 15, 16, 17, 18, 19, 20, 21, 22] (by decide +kernel) (by decide +kernel)
set_option maxRecDepth 20000 in
theorem gX8_stepOf_X8_of : GoodIn wsX8_stepOf (wsV RX8 80 RX8 yX8_of wsX8_of) := goodIn_app (goodIn_of _ (by decide +kernel)) ggX8_stepOf_X8_of
theorem dX8_stepOf_0 : decode cX8_stepOf 0 = .ok (.iload_n 1, 1) := by decide +kernel
theorem dX8_stepOf_1 : decode cX8_stepOf 1 = .ok (.invokestatic 148, 3) := by decide +kernel
theorem dX8_stepOf_4 : decode cX8_stepOf 4 = .ok (.ifCond .eq 16, 3) := by decide +kernel
theorem dX8_stepOf_7 : decode cX8_stepOf 7 = .ok (.iload_n 2, 1) := by decide +kernel
theorem dX8_stepOf_8 : decode cX8_stepOf 8 = .ok (.ifCond .lt 12, 3) := by decide +kernel
theorem dX8_stepOf_11 : decode cX8_stepOf 11 = .ok (.iload_n 3, 1) := by decide +kernel
theorem dX8_stepOf_12 : decode cX8_stepOf 12 = .ok (.iconst 0, 1) := by decide +kernel
theorem dX8_stepOf_13 : decode cX8_stepOf 13 = .ok (.iconst 1, 1) := by decide +kernel
theorem dX8_stepOf_14 : decode cX8_stepOf 14 = .ok (.invokestatic 48, 3) := by decide +kernel
theorem dX8_stepOf_17 : decode cX8_stepOf 17 = .ok (.ifCond .ne 5, 3) := by decide +kernel
theorem dX8_stepOf_20 : decode cX8_stepOf 20 = .ok (.iconst (-1), 1) := by decide +kernel
theorem dX8_stepOf_21 : decode cX8_stepOf 21 = .ok (.ireturn, 1) := by decide +kernel
theorem dX8_stepOf_22 : decode cX8_stepOf 22 = .ok (.iload_n 2, 1) := by decide +kernel
theorem dX8_stepOf_23 : decode cX8_stepOf 23 = .ok (.aload_n 0, 1) := by decide +kernel
theorem dX8_stepOf_24 : decode cX8_stepOf 24 = .ok (.iload_n 1, 1) := by decide +kernel
theorem dX8_stepOf_25 : decode cX8_stepOf 25 = .ok (.bipush 8, 2) := by decide +kernel
theorem dX8_stepOf_27 : decode cX8_stepOf 27 = .ok (.invokevirtual 80, 3) := by decide +kernel
theorem dX8_stepOf_30 : decode cX8_stepOf 30 = .ok (.if_icmp .lt 6, 3) := by decide +kernel
theorem dX8_stepOf_33 : decode cX8_stepOf 33 = .ok (.bipush (-4), 2) := by decide +kernel
theorem dX8_stepOf_35 : decode cX8_stepOf 35 = .ok (.ireturn, 1) := by decide +kernel
theorem dX8_stepOf_36 : decode cX8_stepOf 36 = .ok (.iload_n 3, 1) := by decide +kernel
theorem dX8_stepOf_37 : decode cX8_stepOf 37 = .ok (.ifCond .ne 25, 3) := by decide +kernel
theorem dX8_stepOf_40 : decode cX8_stepOf 40 = .ok (.aload_n 0, 1) := by decide +kernel
theorem dX8_stepOf_41 : decode cX8_stepOf 41 = .ok (.iload_n 1, 1) := by decide +kernel
theorem dX8_stepOf_42 : decode cX8_stepOf 42 = .ok (.bipush 9, 2) := by decide +kernel
theorem dX8_stepOf_44 : decode cX8_stepOf 44 = .ok (.iconst 2, 1) := by decide +kernel
theorem dX8_stepOf_45 : decode cX8_stepOf 45 = .ok (.iload_n 2, 1) := by decide +kernel
theorem dX8_stepOf_46 : decode cX8_stepOf 46 = .ok (.imul, 1) := by decide +kernel
theorem dX8_stepOf_47 : decode cX8_stepOf 47 = .ok (.iadd, 1) := by decide +kernel
theorem dX8_stepOf_48 : decode cX8_stepOf 48 = .ok (.invokevirtual 80, 3) := by decide +kernel
theorem dX8_stepOf_51 : decode cX8_stepOf 51 = .ok (.aload_n 0, 1) := by decide +kernel
theorem dX8_stepOf_52 : decode cX8_stepOf 52 = .ok (.getfield 7, 3) := by decide +kernel
theorem dX8_stepOf_55 : decode cX8_stepOf 55 = .ok (.bipush 6, 2) := by decide +kernel
theorem dX8_stepOf_57 : decode cX8_stepOf 57 = .ok (.iaload, 1) := by decide +kernel
theorem dX8_stepOf_58 : decode cX8_stepOf 58 = .ok (.isub, 1) := by decide +kernel
theorem dX8_stepOf_59 : decode cX8_stepOf 59 = .ok (.goto 19, 3) := by decide +kernel
theorem dX8_stepOf_62 : decode cX8_stepOf 62 = .ok (.aload_n 0, 1) := by decide +kernel
theorem dX8_stepOf_63 : decode cX8_stepOf 63 = .ok (.iload_n 1, 1) := by decide +kernel
theorem dX8_stepOf_64 : decode cX8_stepOf 64 = .ok (.bipush 9, 2) := by decide +kernel
theorem dX8_stepOf_66 : decode cX8_stepOf 66 = .ok (.iconst 2, 1) := by decide +kernel
theorem dX8_stepOf_67 : decode cX8_stepOf 67 = .ok (.iload_n 2, 1) := by decide +kernel
theorem dX8_stepOf_68 : decode cX8_stepOf 68 = .ok (.imul, 1) := by decide +kernel
theorem dX8_stepOf_69 : decode cX8_stepOf 69 = .ok (.iadd, 1) := by decide +kernel
theorem dX8_stepOf_70 : decode cX8_stepOf 70 = .ok (.iconst 1, 1) := by decide +kernel
theorem dX8_stepOf_71 : decode cX8_stepOf 71 = .ok (.iadd, 1) := by decide +kernel
theorem dX8_stepOf_72 : decode cX8_stepOf 72 = .ok (.invokevirtual 80, 3) := by decide +kernel
theorem dX8_stepOf_75 : decode cX8_stepOf 75 = .ok (.ldc 161, 2) := by decide +kernel
theorem dX8_stepOf_77 : decode cX8_stepOf 77 = .ok (.iadd, 1) := by decide +kernel
theorem dX8_stepOf_78 : decode cX8_stepOf 78 = .ok (.ireturn, 1) := by decide +kernel
set_option maxRecDepth 20000 in
theorem ggX8_stop_X8_in : GoodIn wsX8_stop wsX8_in := goodIn_r _ [4] (by decide +kernel) (by decide +kernel)
set_option maxRecDepth 20000 in
theorem gX8_stop_X8_in : GoodIn wsX8_stop (va_wsS RX8 48 yX8_in wsX8_in) := goodIn_app (goodIn_of _ (by decide +kernel)) ggX8_stop_X8_in
set_option maxRecDepth 20000 in
theorem ggX8_stop_X8_stopBy : GoodIn wsX8_stop wsX8_stopBy := goodIn_r _ [8, 9, 10, 11, 3, 12, 13, 14, 15, 16, 17, 18, 19, 20, 21] (by decide +kernel) (by decide +kernel)
set_option maxRecDepth 20000 in
theorem gX8_stop_X8_stopBy : GoodIn wsX8_stop (wsV RX8 101 RX8 yX8_stopBy wsX8_stopBy) := goodIn_app (goodIn_of _ (by decide +kernel)) ggX8_stop_X8_stopBy
theorem dX8_stop_0 : decode cX8_stop 0 = .ok (.iload_n 1, 1) := by decide +kernel
theorem dX8_stop_1 : decode cX8_stop 1 = .ok (.bipush (-40), 2) := by decide +kernel
theorem dX8_stop_3 : decode cX8_stop 3 = .ok (.bipush 40, 2) := by decide +kernel
theorem dX8_stop_5 : decode cX8_stop 5 = .ok (.invokestatic 48, 3) := by decide +kernel
theorem dX8_stop_8 : decode cX8_stop 8 = .ok (.ifCond .eq 11, 3) := by decide +kernel
theorem dX8_stop_11 : decode cX8_stop 11 = .ok (.aload_n 0, 1) := by decide +kernel
theorem dX8_stop_12 : decode cX8_stop 12 = .ok (.iload_n 1, 1) := by decide +kernel
theorem dX8_stop_13 : decode cX8_stop 13 = .ok (.invokevirtual 101, 3) := by decide +kernel
theorem dX8_stop_16 : decode cX8_stop 16 = .ok (.goto 4, 3) := by decide +kernel
theorem dX8_stop_19 : decode cX8_stop 19 = .ok (.iconst (-1), 1) := by decide +kernel
theorem dX8_stop_20 : decode cX8_stop 20 = .ok (.ireturn, 1) := by decide +kernel
set_option maxRecDepth 20000 in
theorem ggX8_half_X8_in : GoodIn wsX8_half wsX8_in := goodIn_r _ [4] (by decide +kernel) (by decide +kernel)
set_option maxRecDepth 20000 in
theorem gX8_half_X8_in : GoodIn wsX8_half (va_wsS RX8 48 yX8_in wsX8_in) := goodIn_app (goodIn_of _ (by decide +kernel)) ggX8_half_X8_in
set_option maxRecDepth 20000 in
theorem ggX8_half_X8_halfOf : GoodIn wsX8_half wsX8_halfOf := goodIn_r _ [7] (by decide +kernel) (by decide +kernel)
set_option maxRecDepth 20000 in
theorem gX8_half_X8_halfOf : GoodIn wsX8_half (va_wsS RX8 155 yX8_halfOf wsX8_halfOf) := goodIn_app (goodIn_of _ (by decide +kernel)) ggX8_half_X8_halfOf
theorem dX8_half_0 : decode cX8_half 0 = .ok (.iload_n 1, 1) := by decide +kernel
theorem dX8_half_1 : decode cX8_half 1 = .ok (.bipush 10, 2) := by decide +kernel
theorem dX8_half_3 : decode cX8_half 3 = .ok (.bipush 60, 2) := by decide +kernel
theorem dX8_half_5 : decode cX8_half 5 = .ok (.invokestatic 48, 3) := by decide +kernel
theorem dX8_half_8 : decode cX8_half 8 = .ok (.ifCond .eq 10, 3) := by decide +kernel
theorem dX8_half_11 : decode cX8_half 11 = .ok (.iload_n 1, 1) := by decide +kernel
theorem dX8_half_12 : decode cX8_half 12 = .ok (.invokestatic 155, 3) := by decide +kernel
theorem dX8_half_15 : decode cX8_half 15 = .ok (.goto 4, 3) := by decide +kernel
theorem dX8_half_18 : decode cX8_half 18 = .ok (.iconst (-1), 1) := by decide +kernel
theorem dX8_half_19 : decode cX8_half 19 = .ok (.ireturn, 1) := by decide +kernel
set_option maxRecDepth 20000 in
theorem ggX8_spot_X8_isCrane : GoodIn wsX8_spot wsX8_isCrane := goodIn_r _ [5] (by decide +kernel) (by decide +kernel)
set_option maxRecDepth 20000 in
theorem gX8_spot_X8_isCrane : GoodIn wsX8_spot (va_wsS RX8 148 yX8_isCrane wsX8_isCrane) := goodIn_app (goodIn_of _ (by decide +kernel)) ggX8_spot_X8_isCrane
set_option maxRecDepth 20000 in
theorem ggX8_spot_X8_in : GoodIn wsX8_spot wsX8_in := goodIn_r _ [8] (by decide +kernel) (by decide +kernel)
set_option maxRecDepth 20000 in
theorem gX8_spot_X8_in : GoodIn wsX8_spot (va_wsS RX8 48 yX8_in wsX8_in) := goodIn_app (goodIn_of _ (by decide +kernel)) ggX8_spot_X8_in
set_option maxRecDepth 20000 in
theorem ggX8_spot_X8_spotPlace : GoodIn wsX8_spot wsX8_spotPlace := goodIn_r _ [11] (by decide +kernel) (by decide +kernel)
set_option maxRecDepth 20000 in
theorem gX8_spot_X8_spotPlace : GoodIn wsX8_spot (va_wsS RX8 124 yX8_spotPlace wsX8_spotPlace) := goodIn_app (goodIn_of _ (by decide +kernel)) ggX8_spot_X8_spotPlace
theorem dX8_spot_0 : decode cX8_spot 0 = .ok (.iload_n 1, 1) := by decide +kernel
theorem dX8_spot_1 : decode cX8_spot 1 = .ok (.invokestatic 148, 3) := by decide +kernel
theorem dX8_spot_4 : decode cX8_spot 4 = .ok (.ifCond .eq 17, 3) := by decide +kernel
theorem dX8_spot_7 : decode cX8_spot 7 = .ok (.iload_n 2, 1) := by decide +kernel
theorem dX8_spot_8 : decode cX8_spot 8 = .ok (.iconst (-1), 1) := by decide +kernel
theorem dX8_spot_9 : decode cX8_spot 9 = .ok (.if_icmp .lt 12, 3) := by decide +kernel
theorem dX8_spot_12 : decode cX8_spot 12 = .ok (.iload_n 3, 1) := by decide +kernel
theorem dX8_spot_13 : decode cX8_spot 13 = .ok (.iconst 0, 1) := by decide +kernel
theorem dX8_spot_14 : decode cX8_spot 14 = .ok (.iconst 2, 1) := by decide +kernel
theorem dX8_spot_15 : decode cX8_spot 15 = .ok (.invokestatic 48, 3) := by decide +kernel
theorem dX8_spot_18 : decode cX8_spot 18 = .ok (.ifCond .ne 5, 3) := by decide +kernel
theorem dX8_spot_21 : decode cX8_spot 21 = .ok (.iconst (-1), 1) := by decide +kernel
theorem dX8_spot_22 : decode cX8_spot 22 = .ok (.ireturn, 1) := by decide +kernel
theorem dX8_spot_23 : decode cX8_spot 23 = .ok (.iload_n 1, 1) := by decide +kernel
theorem dX8_spot_24 : decode cX8_spot 24 = .ok (.invokestatic 124, 3) := by decide +kernel
theorem dX8_spot_27 : decode cX8_spot 27 = .ok (.istore 4, 2) := by decide +kernel
theorem dX8_spot_29 : decode cX8_spot 29 = .ok (.iload_n 2, 1) := by decide +kernel
theorem dX8_spot_30 : decode cX8_spot 30 = .ok (.ifCond .ge 11, 3) := by decide +kernel
theorem dX8_spot_33 : decode cX8_spot 33 = .ok (.aload_n 0, 1) := by decide +kernel
theorem dX8_spot_34 : decode cX8_spot 34 = .ok (.getfield 7, 3) := by decide +kernel
theorem dX8_spot_37 : decode cX8_spot 37 = .ok (.iload 4, 2) := by decide +kernel
theorem dX8_spot_39 : decode cX8_spot 39 = .ok (.iaload, 1) := by decide +kernel
theorem dX8_spot_40 : decode cX8_spot 40 = .ok (.ireturn, 1) := by decide +kernel
theorem dX8_spot_41 : decode cX8_spot 41 = .ok (.iload_n 2, 1) := by decide +kernel
theorem dX8_spot_42 : decode cX8_spot 42 = .ok (.aload_n 0, 1) := by decide +kernel
theorem dX8_spot_43 : decode cX8_spot 43 = .ok (.getfield 7, 3) := by decide +kernel
theorem dX8_spot_46 : decode cX8_spot 46 = .ok (.iload 4, 2) := by decide +kernel
theorem dX8_spot_48 : decode cX8_spot 48 = .ok (.iaload, 1) := by decide +kernel
theorem dX8_spot_49 : decode cX8_spot 49 = .ok (.if_icmp .lt 6, 3) := by decide +kernel
theorem dX8_spot_52 : decode cX8_spot 52 = .ok (.bipush (-4), 2) := by decide +kernel
theorem dX8_spot_54 : decode cX8_spot 54 = .ok (.ireturn, 1) := by decide +kernel
theorem dX8_spot_55 : decode cX8_spot 55 = .ok (.aload_n 0, 1) := by decide +kernel
theorem dX8_spot_56 : decode cX8_spot 56 = .ok (.getfield 7, 3) := by decide +kernel
theorem dX8_spot_59 : decode cX8_spot 59 = .ok (.iload 4, 2) := by decide +kernel
theorem dX8_spot_61 : decode cX8_spot 61 = .ok (.iconst 1, 1) := by decide +kernel
theorem dX8_spot_62 : decode cX8_spot 62 = .ok (.iadd, 1) := by decide +kernel
theorem dX8_spot_63 : decode cX8_spot 63 = .ok (.iload_n 2, 1) := by decide +kernel
theorem dX8_spot_64 : decode cX8_spot 64 = .ok (.iadd, 1) := by decide +kernel
theorem dX8_spot_65 : decode cX8_spot 65 = .ok (.iaload, 1) := by decide +kernel
theorem dX8_spot_66 : decode cX8_spot 66 = .ok (.istore 5, 2) := by decide +kernel
theorem dX8_spot_68 : decode cX8_spot 68 = .ok (.iload_n 3, 1) := by decide +kernel
theorem dX8_spot_69 : decode cX8_spot 69 = .ok (.ifCond .ne 11, 3) := by decide +kernel
theorem dX8_spot_72 : decode cX8_spot 72 = .ok (.iload 5, 2) := by decide +kernel
theorem dX8_spot_74 : decode cX8_spot 74 = .ok (.bipush 100, 2) := by decide +kernel
theorem dX8_spot_76 : decode cX8_spot 76 = .ok (.idiv, 1) := by decide +kernel
theorem dX8_spot_77 : decode cX8_spot 77 = .ok (.goto 30, 3) := by decide +kernel
theorem dX8_spot_80 : decode cX8_spot 80 = .ok (.iload_n 3, 1) := by decide +kernel
theorem dX8_spot_81 : decode cX8_spot 81 = .ok (.iconst 1, 1) := by decide +kernel
theorem dX8_spot_82 : decode cX8_spot 82 = .ok (.if_icmp .ne 11, 3) := by decide +kernel
theorem dX8_spot_85 : decode cX8_spot 85 = .ok (.iload 5, 2) := by decide +kernel
theorem dX8_spot_87 : decode cX8_spot 87 = .ok (.bipush 100, 2) := by decide +kernel
theorem dX8_spot_89 : decode cX8_spot 89 = .ok (.irem, 1) := by decide +kernel
theorem dX8_spot_90 : decode cX8_spot 90 = .ok (.goto 17, 3) := by decide +kernel
theorem dX8_spot_93 : decode cX8_spot 93 = .ok (.aload_n 0, 1) := by decide +kernel
theorem dX8_spot_94 : decode cX8_spot 94 = .ok (.getfield 7, 3) := by decide +kernel
theorem dX8_spot_97 : decode cX8_spot 97 = .ok (.iload 4, 2) := by decide +kernel
theorem dX8_spot_99 : decode cX8_spot 99 = .ok (.iconst 1, 1) := by decide +kernel
theorem dX8_spot_100 : decode cX8_spot 100 = .ok (.iadd, 1) := by decide +kernel
theorem dX8_spot_101 : decode cX8_spot 101 = .ok (.bipush 120, 2) := by decide +kernel
theorem dX8_spot_103 : decode cX8_spot 103 = .ok (.iadd, 1) := by decide +kernel
theorem dX8_spot_104 : decode cX8_spot 104 = .ok (.iload_n 2, 1) := by decide +kernel
theorem dX8_spot_105 : decode cX8_spot 105 = .ok (.iadd, 1) := by decide +kernel
theorem dX8_spot_106 : decode cX8_spot 106 = .ok (.iaload, 1) := by decide +kernel
theorem dX8_spot_107 : decode cX8_spot 107 = .ok (.ireturn, 1) := by decide +kernel
set_option maxRecDepth 20000 in
theorem ggX8_been_X8_isCrane : GoodIn wsX8_been wsX8_isCrane := goodIn_r _ [5] (by decide +kernel) (by decide +kernel)
set_option maxRecDepth 20000 in
theorem gX8_been_X8_isCrane : GoodIn wsX8_been (va_wsS RX8 148 yX8_isCrane wsX8_isCrane) := goodIn_app (goodIn_of _ (by decide +kernel)) ggX8_been_X8_isCrane
set_option maxRecDepth 20000 in
theorem ggX8_been_X8_in : GoodIn wsX8_been wsX8_in := goodIn_r _ [8] (by decide +kernel) (by decide +kernel)
set_option maxRecDepth 20000 in
theorem gX8_been_X8_in : GoodIn wsX8_been (va_wsS RX8 48 yX8_in wsX8_in) := goodIn_app (goodIn_of _ (by decide +kernel)) ggX8_been_X8_in
set_option maxRecDepth 20000 in
theorem ggX8_been_X8_spotPlace : GoodIn wsX8_been wsX8_spotPlace := goodIn_r _ [11] (by decide +kernel) (by decide +kernel)
set_option maxRecDepth 20000 in
theorem gX8_been_X8_spotPlace : GoodIn wsX8_been (va_wsS RX8 124 yX8_spotPlace wsX8_spotPlace) := goodIn_app (goodIn_of _ (by decide +kernel)) ggX8_been_X8_spotPlace
set_option maxRecDepth 20000 in
theorem ggX8_been_X8_spotIndex : GoodIn wsX8_been wsX8_spotIndex := goodIn_r _ [15, 1, 9, 10, 4, 11, 16, 17, 18, 19, 20, 21, 22, 23, 24] (by decide +kernel) (by decide +kernel)
set_option maxRecDepth 20000 in
theorem gX8_been_X8_spotIndex : GoodIn wsX8_been (wsV RX8 130 RX8 yX8_spotIndex wsX8_spotIndex) := goodIn_app (goodIn_of _ (by decide +kernel)) ggX8_been_X8_spotIndex
theorem dX8_been_0 : decode cX8_been 0 = .ok (.iload_n 1, 1) := by decide +kernel
theorem dX8_been_1 : decode cX8_been 1 = .ok (.invokestatic 148, 3) := by decide +kernel
theorem dX8_been_4 : decode cX8_been 4 = .ok (.ifCond .eq 23, 3) := by decide +kernel
theorem dX8_been_7 : decode cX8_been 7 = .ok (.iload_n 2, 1) := by decide +kernel
theorem dX8_been_8 : decode cX8_been 8 = .ok (.iconst 0, 1) := by decide +kernel
theorem dX8_been_9 : decode cX8_been 9 = .ok (.bipush 99, 2) := by decide +kernel
theorem dX8_been_11 : decode cX8_been 11 = .ok (.invokestatic 48, 3) := by decide +kernel
theorem dX8_been_14 : decode cX8_been 14 = .ok (.ifCond .eq 13, 3) := by decide +kernel
theorem dX8_been_17 : decode cX8_been 17 = .ok (.iload_n 3, 1) := by decide +kernel
theorem dX8_been_18 : decode cX8_been 18 = .ok (.iconst 0, 1) := by decide +kernel
theorem dX8_been_19 : decode cX8_been 19 = .ok (.bipush 99, 2) := by decide +kernel
theorem dX8_been_21 : decode cX8_been 21 = .ok (.invokestatic 48, 3) := by decide +kernel
theorem dX8_been_24 : decode cX8_been 24 = .ok (.ifCond .ne 5, 3) := by decide +kernel
theorem dX8_been_27 : decode cX8_been 27 = .ok (.iconst (-1), 1) := by decide +kernel
theorem dX8_been_28 : decode cX8_been 28 = .ok (.ireturn, 1) := by decide +kernel
theorem dX8_been_29 : decode cX8_been 29 = .ok (.iload_n 1, 1) := by decide +kernel
theorem dX8_been_30 : decode cX8_been 30 = .ok (.invokestatic 124, 3) := by decide +kernel
theorem dX8_been_33 : decode cX8_been 33 = .ok (.istore 4, 2) := by decide +kernel
theorem dX8_been_35 : decode cX8_been 35 = .ok (.aload_n 0, 1) := by decide +kernel
theorem dX8_been_36 : decode cX8_been 36 = .ok (.iload_n 1, 1) := by decide +kernel
theorem dX8_been_37 : decode cX8_been 37 = .ok (.bipush 100, 2) := by decide +kernel
theorem dX8_been_39 : decode cX8_been 39 = .ok (.iload_n 2, 1) := by decide +kernel
theorem dX8_been_40 : decode cX8_been 40 = .ok (.imul, 1) := by decide +kernel
theorem dX8_been_41 : decode cX8_been 41 = .ok (.iload_n 3, 1) := by decide +kernel
theorem dX8_been_42 : decode cX8_been 42 = .ok (.iadd, 1) := by decide +kernel
theorem dX8_been_43 : decode cX8_been 43 = .ok (.invokevirtual 130, 3) := by decide +kernel
theorem dX8_been_46 : decode cX8_been 46 = .ok (.istore 5, 2) := by decide +kernel
theorem dX8_been_48 : decode cX8_been 48 = .ok (.iload 5, 2) := by decide +kernel
theorem dX8_been_50 : decode cX8_been 50 = .ok (.aload_n 0, 1) := by decide +kernel
theorem dX8_been_51 : decode cX8_been 51 = .ok (.getfield 7, 3) := by decide +kernel
theorem dX8_been_54 : decode cX8_been 54 = .ok (.iload 4, 2) := by decide +kernel
theorem dX8_been_56 : decode cX8_been 56 = .ok (.iaload, 1) := by decide +kernel
theorem dX8_been_57 : decode cX8_been 57 = .ok (.if_icmp .ne 7, 3) := by decide +kernel
theorem dX8_been_60 : decode cX8_been 60 = .ok (.iconst 0, 1) := by decide +kernel
theorem dX8_been_61 : decode cX8_been 61 = .ok (.goto 18, 3) := by decide +kernel
theorem dX8_been_64 : decode cX8_been 64 = .ok (.aload_n 0, 1) := by decide +kernel
theorem dX8_been_65 : decode cX8_been 65 = .ok (.getfield 7, 3) := by decide +kernel
theorem dX8_been_68 : decode cX8_been 68 = .ok (.iload 4, 2) := by decide +kernel
theorem dX8_been_70 : decode cX8_been 70 = .ok (.iconst 1, 1) := by decide +kernel
theorem dX8_been_71 : decode cX8_been 71 = .ok (.iadd, 1) := by decide +kernel
theorem dX8_been_72 : decode cX8_been 72 = .ok (.bipush 120, 2) := by decide +kernel
theorem dX8_been_74 : decode cX8_been 74 = .ok (.iadd, 1) := by decide +kernel
theorem dX8_been_75 : decode cX8_been 75 = .ok (.iload 5, 2) := by decide +kernel
theorem dX8_been_77 : decode cX8_been 77 = .ok (.iadd, 1) := by decide +kernel
theorem dX8_been_78 : decode cX8_been 78 = .ok (.iaload, 1) := by decide +kernel
theorem dX8_been_79 : decode cX8_been 79 = .ok (.ireturn, 1) := by decide +kernel
set_option maxRecDepth 20000 in
theorem ggX8_answer_X8_of : GoodIn wsX8_answer wsX8_of := goodIn_r _ [6, 7, 8, 9, 10, 11, 12, 13, 14, 15, 16] (by decide +kernel) (by decide +kernel)
set_option maxRecDepth 20000 in
theorem gX8_answer_X8_of : GoodIn wsX8_answer (wsV RX8 80 RX8 yX8_of wsX8_of) := goodIn_app (goodIn_of _ (by decide +kernel)) ggX8_answer_X8_of
theorem dX8_answer_0 : decode cX8_answer 0 = .ok (.iload_n 2, 1) := by decide +kernel
theorem dX8_answer_1 : decode cX8_answer 1 = .ok (.tableswitch 71 0 4 #[35, 42, 52, 59, 69], 35) := by decide +kernel
theorem dX8_answer_36 : decode cX8_answer 36 = .ok (.aload_n 0, 1) := by decide +kernel
theorem dX8_answer_37 : decode cX8_answer 37 = .ok (.iload_n 1, 1) := by decide +kernel
theorem dX8_answer_38 : decode cX8_answer 38 = .ok (.iconst 0, 1) := by decide +kernel
theorem dX8_answer_39 : decode cX8_answer 39 = .ok (.invokevirtual 80, 3) := by decide +kernel
theorem dX8_answer_42 : decode cX8_answer 42 = .ok (.ireturn, 1) := by decide +kernel
theorem dX8_answer_43 : decode cX8_answer 43 = .ok (.aload_n 0, 1) := by decide +kernel
theorem dX8_answer_44 : decode cX8_answer 44 = .ok (.iload_n 1, 1) := by decide +kernel
theorem dX8_answer_45 : decode cX8_answer 45 = .ok (.iconst 1, 1) := by decide +kernel
theorem dX8_answer_46 : decode cX8_answer 46 = .ok (.invokevirtual 80, 3) := by decide +kernel
theorem dX8_answer_49 : decode cX8_answer 49 = .ok (.ldc 161, 2) := by decide +kernel
theorem dX8_answer_51 : decode cX8_answer 51 = .ok (.iadd, 1) := by decide +kernel
theorem dX8_answer_52 : decode cX8_answer 52 = .ok (.ireturn, 1) := by decide +kernel
theorem dX8_answer_53 : decode cX8_answer 53 = .ok (.aload_n 0, 1) := by decide +kernel
theorem dX8_answer_54 : decode cX8_answer 54 = .ok (.iload_n 1, 1) := by decide +kernel
theorem dX8_answer_55 : decode cX8_answer 55 = .ok (.iconst 2, 1) := by decide +kernel
theorem dX8_answer_56 : decode cX8_answer 56 = .ok (.invokevirtual 80, 3) := by decide +kernel
theorem dX8_answer_59 : decode cX8_answer 59 = .ok (.ireturn, 1) := by decide +kernel
theorem dX8_answer_60 : decode cX8_answer 60 = .ok (.aload_n 0, 1) := by decide +kernel
theorem dX8_answer_61 : decode cX8_answer 61 = .ok (.iload_n 1, 1) := by decide +kernel
theorem dX8_answer_62 : decode cX8_answer 62 = .ok (.iconst 4, 1) := by decide +kernel
theorem dX8_answer_63 : decode cX8_answer 63 = .ok (.invokevirtual 80, 3) := by decide +kernel
theorem dX8_answer_66 : decode cX8_answer 66 = .ok (.ldc 161, 2) := by decide +kernel
theorem dX8_answer_68 : decode cX8_answer 68 = .ok (.iadd, 1) := by decide +kernel
theorem dX8_answer_69 : decode cX8_answer 69 = .ok (.ireturn, 1) := by decide +kernel
theorem dX8_answer_70 : decode cX8_answer 70 = .ok (.iload_n 3, 1) := by decide +kernel
theorem dX8_answer_71 : decode cX8_answer 71 = .ok (.ireturn, 1) := by decide +kernel
theorem dX8_answer_72 : decode cX8_answer 72 = .ok (.iload 4, 2) := by decide +kernel
theorem dX8_answer_74 : decode cX8_answer 74 = .ok (.ireturn, 1) := by decide +kernel
set_option maxRecDepth 20000 in
theorem ggX8_ahead_X8_in : GoodIn wsX8_ahead wsX8_in := goodIn_r _ [4] (by decide +kernel) (by decide +kernel)
set_option maxRecDepth 20000 in
theorem gX8_ahead_X8_in : GoodIn wsX8_ahead (va_wsS RX8 48 yX8_in wsX8_in) := goodIn_app (goodIn_of _ (by decide +kernel)) ggX8_ahead_X8_in
set_option maxRecDepth 20000 in
theorem ggX8_ahead_X8_isCrane : GoodIn wsX8_ahead wsX8_isCrane := goodIn_r _ [7] (by decide +kernel) (by decide +kernel)
set_option maxRecDepth 20000 in
theorem gX8_ahead_X8_isCrane : GoodIn wsX8_ahead (va_wsS RX8 148 yX8_isCrane wsX8_isCrane) := goodIn_app (goodIn_of _ (by decide +kernel)) ggX8_ahead_X8_isCrane
set_option maxRecDepth 20000 in
theorem ggX8_ahead_X8_laysAside : GoodIn wsX8_ahead wsX8_laysAside := goodIn_r _ [11, 12, 13, 77, 78, 79, 80, 81, 82, 83, 84, 85] (by decide +kernel) (by decide +kernel)
set_option maxRecDepth 20000 in
theorem gX8_ahead_X8_laysAside : GoodIn wsX8_ahead (wsV RX8 165 RX8 yX8_laysAside wsX8_laysAside) := goodIn_app (goodIn_of _ (by decide +kernel)) ggX8_ahead_X8_laysAside
set_option maxRecDepth 20000 in
theorem ggX8_ahead_X8_goesBy : GoodIn wsX8_ahead wsX8_goesBy := goodIn_r _ [17, 13, 18, 19, 20, 3, 21, 22, 23, 24, 25, 26, 27, 28, 29, 30, 31, 32, 33, 34, 35, 36, 37, 38, 39, 40, 41, 42, 43, 44, 45, 46, 47, 48, 49, 50, 51, 52, 53, 54, 55, 56, 57, 58, 59, 60, 61, 62, 63, 64, 65, 66, 67, 77, 78, 79, 80, 81, 82, 83, 84, 85] (by decide +kernel) (by decide +kernel)
set_option maxRecDepth 20000 in
theorem gX8_ahead_X8_goesBy : GoodIn wsX8_ahead (wsV RX8 136 RX8 yX8_goesBy wsX8_goesBy) := goodIn_app (goodIn_of _ (by decide +kernel)) ggX8_ahead_X8_goesBy
set_option maxRecDepth 20000 in
theorem ggX8_ahead_X8_of : GoodIn wsX8_ahead wsX8_of := goodIn_r _ [25, 13, 77, 78, 79, 80, 81, 82, 83, 84, 85] (by decide +kernel) (by decide +kernel)
set_option maxRecDepth 20000 in
theorem gX8_ahead_X8_of : GoodIn wsX8_ahead (wsV RX8 80 RX8 yX8_of wsX8_of) := goodIn_app (goodIn_of _ (by decide +kernel)) ggX8_ahead_X8_of
set_option maxRecDepth 20000 in
theorem ggX8_ahead_X8_size : GoodIn wsX8_ahead wsX8_size := goodIn_r _ [56] (by decide +kernel) (by decide +kernel)
set_option maxRecDepth 20000 in
theorem gX8_ahead_X8_size : GoodIn wsX8_ahead (va_wsS RX8 84 yX8_size wsX8_size) := goodIn_app (goodIn_of _ (by decide +kernel)) ggX8_ahead_X8_size
set_option maxRecDepth 20000 in
theorem ggX8_ahead_X8_answer : GoodIn wsX8_ahead wsX8_answer := goodIn_r _ [71, 72, 22, 23, 24, 3, 25, 13, 77, 78, 79, 80, 81, 82, 83, 84, 85] (by decide +kernel) (by decide +kernel)
set_option maxRecDepth 20000 in
theorem gX8_ahead_X8_answer : GoodIn wsX8_ahead (wsV RX8 168 RX8 yX8_answer wsX8_answer) := goodIn_app (goodIn_of _ (by decide +kernel)) ggX8_ahead_X8_answer
set_option maxRecDepth 20000 in
theorem ggX8_ahead_X8_comesBack : GoodIn wsX8_ahead wsX8_comesBack := goodIn_r _ [76, 13, 12, 77, 78, 79, 80, 81, 82, 83, 84, 85] (by decide +kernel) (by decide +kernel)
set_option maxRecDepth 20000 in
theorem gX8_ahead_X8_comesBack : GoodIn wsX8_ahead (wsV RX8 172 RX8 yX8_comesBack wsX8_comesBack) := goodIn_app (goodIn_of _ (by decide +kernel)) ggX8_ahead_X8_comesBack
theorem dX8_ahead_0 : decode cX8_ahead 0 = .ok (.iload_n 1, 1) := by decide +kernel
theorem dX8_ahead_1 : decode cX8_ahead 1 = .ok (.iconst 1, 1) := by decide +kernel
theorem dX8_ahead_2 : decode cX8_ahead 2 = .ok (.bipush 60, 2) := by decide +kernel
theorem dX8_ahead_4 : decode cX8_ahead 4 = .ok (.invokestatic 48, 3) := by decide +kernel
theorem dX8_ahead_7 : decode cX8_ahead 7 = .ok (.ifCond .eq 19, 3) := by decide +kernel
theorem dX8_ahead_10 : decode cX8_ahead 10 = .ok (.iload_n 2, 1) := by decide +kernel
theorem dX8_ahead_11 : decode cX8_ahead 11 = .ok (.invokestatic 148, 3) := by decide +kernel
theorem dX8_ahead_14 : decode cX8_ahead 14 = .ok (.ifCond .eq 12, 3) := by decide +kernel
theorem dX8_ahead_17 : decode cX8_ahead 17 = .ok (.iload_n 3, 1) := by decide +kernel
theorem dX8_ahead_18 : decode cX8_ahead 18 = .ok (.iconst 0, 1) := by decide +kernel
theorem dX8_ahead_19 : decode cX8_ahead 19 = .ok (.iconst 5, 1) := by decide +kernel
theorem dX8_ahead_20 : decode cX8_ahead 20 = .ok (.invokestatic 48, 3) := by decide +kernel
theorem dX8_ahead_23 : decode cX8_ahead 23 = .ok (.ifCond .ne 5, 3) := by decide +kernel
theorem dX8_ahead_26 : decode cX8_ahead 26 = .ok (.iconst (-1), 1) := by decide +kernel
theorem dX8_ahead_27 : decode cX8_ahead 27 = .ok (.ireturn, 1) := by decide +kernel
theorem dX8_ahead_28 : decode cX8_ahead 28 = .ok (.aload_n 0, 1) := by decide +kernel
theorem dX8_ahead_29 : decode cX8_ahead 29 = .ok (.invokevirtual 165, 3) := by decide +kernel
theorem dX8_ahead_32 : decode cX8_ahead 32 = .ok (.iconst 0, 1) := by decide +kernel
theorem dX8_ahead_33 : decode cX8_ahead 33 = .ok (.istore 4, 2) := by decide +kernel
theorem dX8_ahead_35 : decode cX8_ahead 35 = .ok (.iconst 0, 1) := by decide +kernel
theorem dX8_ahead_36 : decode cX8_ahead 36 = .ok (.istore 5, 2) := by decide +kernel
theorem dX8_ahead_38 : decode cX8_ahead 38 = .ok (.iconst 0, 1) := by decide +kernel
theorem dX8_ahead_39 : decode cX8_ahead 39 = .ok (.istore 6, 2) := by decide +kernel
theorem dX8_ahead_41 : decode cX8_ahead 41 = .ok (.iload 6, 2) := by decide +kernel
theorem dX8_ahead_43 : decode cX8_ahead 43 = .ok (.iload_n 1, 1) := by decide +kernel
theorem dX8_ahead_44 : decode cX8_ahead 44 = .ok (.if_icmp .ge 52, 3) := by decide +kernel
theorem dX8_ahead_47 : decode cX8_ahead 47 = .ok (.iload 5, 2) := by decide +kernel
theorem dX8_ahead_49 : decode cX8_ahead 49 = .ok (.aload_n 0, 1) := by decide +kernel
theorem dX8_ahead_50 : decode cX8_ahead 50 = .ok (.invokevirtual 136, 3) := by decide +kernel
theorem dX8_ahead_53 : decode cX8_ahead 53 = .ok (.iload_n 2, 1) := by decide +kernel
theorem dX8_ahead_54 : decode cX8_ahead 54 = .ok (.ishr, 1) := by decide +kernel
theorem dX8_ahead_55 : decode cX8_ahead 55 = .ok (.iconst 1, 1) := by decide +kernel
theorem dX8_ahead_56 : decode cX8_ahead 56 = .ok (.iand, 1) := by decide +kernel
theorem dX8_ahead_57 : decode cX8_ahead 57 = .ok (.iadd, 1) := by decide +kernel
theorem dX8_ahead_58 : decode cX8_ahead 58 = .ok (.istore 5, 2) := by decide +kernel
theorem dX8_ahead_60 : decode cX8_ahead 60 = .ok (.aload_n 0, 1) := by decide +kernel
theorem dX8_ahead_61 : decode cX8_ahead 61 = .ok (.iload_n 2, 1) := by decide +kernel
theorem dX8_ahead_62 : decode cX8_ahead 62 = .ok (.iconst 4, 1) := by decide +kernel
theorem dX8_ahead_63 : decode cX8_ahead 63 = .ok (.invokevirtual 80, 3) := by decide +kernel
theorem dX8_ahead_66 : decode cX8_ahead 66 = .ok (.invokestatic 84, 3) := by decide +kernel
theorem dX8_ahead_69 : decode cX8_ahead 69 = .ok (.iload 4, 2) := by decide +kernel
theorem dX8_ahead_71 : decode cX8_ahead 71 = .ok (.if_icmp .le 15, 3) := by decide +kernel
theorem dX8_ahead_74 : decode cX8_ahead 74 = .ok (.aload_n 0, 1) := by decide +kernel
theorem dX8_ahead_75 : decode cX8_ahead 75 = .ok (.iload_n 2, 1) := by decide +kernel
theorem dX8_ahead_76 : decode cX8_ahead 76 = .ok (.iconst 4, 1) := by decide +kernel
theorem dX8_ahead_77 : decode cX8_ahead 77 = .ok (.invokevirtual 80, 3) := by decide +kernel
theorem dX8_ahead_80 : decode cX8_ahead 80 = .ok (.invokestatic 84, 3) := by decide +kernel
theorem dX8_ahead_83 : decode cX8_ahead 83 = .ok (.goto 5, 3) := by decide +kernel
theorem dX8_ahead_86 : decode cX8_ahead 86 = .ok (.iload 4, 2) := by decide +kernel
theorem dX8_ahead_88 : decode cX8_ahead 88 = .ok (.istore 4, 2) := by decide +kernel
theorem dX8_ahead_90 : decode cX8_ahead 90 = .ok (.iinc 6 1, 3) := by decide +kernel
theorem dX8_ahead_93 : decode cX8_ahead 93 = .ok (.goto (-52), 3) := by decide +kernel
theorem dX8_ahead_96 : decode cX8_ahead 96 = .ok (.aload_n 0, 1) := by decide +kernel
theorem dX8_ahead_97 : decode cX8_ahead 97 = .ok (.iload_n 2, 1) := by decide +kernel
theorem dX8_ahead_98 : decode cX8_ahead 98 = .ok (.iload_n 3, 1) := by decide +kernel
theorem dX8_ahead_99 : decode cX8_ahead 99 = .ok (.iload 4, 2) := by decide +kernel
theorem dX8_ahead_101 : decode cX8_ahead 101 = .ok (.iload 5, 2) := by decide +kernel
theorem dX8_ahead_103 : decode cX8_ahead 103 = .ok (.invokevirtual 168, 3) := by decide +kernel
theorem dX8_ahead_106 : decode cX8_ahead 106 = .ok (.istore 6, 2) := by decide +kernel
theorem dX8_ahead_108 : decode cX8_ahead 108 = .ok (.aload_n 0, 1) := by decide +kernel
theorem dX8_ahead_109 : decode cX8_ahead 109 = .ok (.invokevirtual 172, 3) := by decide +kernel
theorem dX8_ahead_112 : decode cX8_ahead 112 = .ok (.iload 6, 2) := by decide +kernel
theorem dX8_ahead_114 : decode cX8_ahead 114 = .ok (.ireturn, 1) := by decide +kernel
set_option maxRecDepth 20000 in
theorem ggX8_quiet_X8_isCrane : GoodIn wsX8_quiet wsX8_isCrane := goodIn_r _ [4] (by decide +kernel) (by decide +kernel)
set_option maxRecDepth 20000 in
theorem gX8_quiet_X8_isCrane : GoodIn wsX8_quiet (va_wsS RX8 148 yX8_isCrane wsX8_isCrane) := goodIn_app (goodIn_of _ (by decide +kernel)) ggX8_quiet_X8_isCrane
set_option maxRecDepth 20000 in
theorem ggX8_quiet_X8_laysAside : GoodIn wsX8_quiet wsX8_laysAside := goodIn_r _ [8, 9, 10, 85, 86, 87, 88, 89, 90, 91, 92, 93] (by decide +kernel) (by decide +kernel)
set_option maxRecDepth 20000 in
theorem gX8_quiet_X8_laysAside : GoodIn wsX8_quiet (wsV RX8 165 RX8 yX8_laysAside wsX8_laysAside) := goodIn_app (goodIn_of _ (by decide +kernel)) ggX8_quiet_X8_laysAside
set_option maxRecDepth 20000 in
theorem ggX8_quiet_X8_commands : GoodIn wsX8_quiet wsX8_commands := goodIn_r _ [14, 10, 15, 16, 17, 3, 18, 19, 20, 21, 22, 23, 24, 25, 26, 27, 28, 29, 30, 85, 86, 87, 88, 89, 90, 91, 92, 93] (by decide +kernel) (by decide +kernel)
set_option maxRecDepth 20000 in
theorem gX8_quiet_X8_commands : GoodIn wsX8_quiet (wsV RX8 151 RX8 yX8_commands wsX8_commands) := goodIn_app (goodIn_of _ (by decide +kernel)) ggX8_quiet_X8_commands
set_option maxRecDepth 20000 in
theorem ggX8_quiet_X8_isQuiet : GoodIn wsX8_quiet wsX8_isQuiet := goodIn_r _ [34, 23, 24, 25, 3, 26, 10, 35, 36, 37, 85, 86, 87, 88, 89, 90, 91, 92, 93] (by decide +kernel) (by decide +kernel)
set_option maxRecDepth 20000 in
theorem gX8_quiet_X8_isQuiet : GoodIn wsX8_quiet (wsV RX8 162 RX8 yX8_isQuiet wsX8_isQuiet) := goodIn_app (goodIn_of _ (by decide +kernel)) ggX8_quiet_X8_isQuiet
set_option maxRecDepth 20000 in
theorem ggX8_quiet_X8_goesBy : GoodIn wsX8_quiet wsX8_goesBy := goodIn_r _ [41, 10, 42, 43, 44, 3, 45, 23, 24, 25, 26, 19, 20, 21, 22, 46, 47, 48, 49, 50, 51, 52, 53, 54, 55, 56, 57, 58, 59, 60, 61, 62, 63, 64, 65, 66, 67, 68, 69, 35, 36, 37, 70, 71, 72, 73, 74, 75, 76, 77, 78, 79, 80, 85, 86, 87, 88, 89, 90, 91, 92, 93] (by decide +kernel) (by decide +kernel)
set_option maxRecDepth 20000 in
theorem gX8_quiet_X8_goesBy : GoodIn wsX8_quiet (wsV RX8 136 RX8 yX8_goesBy wsX8_goesBy) := goodIn_app (goodIn_of _ (by decide +kernel)) ggX8_quiet_X8_goesBy
set_option maxRecDepth 20000 in
theorem ggX8_quiet_X8_comesBack : GoodIn wsX8_quiet wsX8_comesBack := goodIn_r _ [84, 10, 9, 85, 86, 87, 88, 89, 90, 91, 92, 93] (by decide +kernel) (by decide +kernel)
set_option maxRecDepth 20000 in
theorem gX8_quiet_X8_comesBack : GoodIn wsX8_quiet (wsV RX8 172 RX8 yX8_comesBack wsX8_comesBack) := goodIn_app (goodIn_of _ (by decide +kernel)) ggX8_quiet_X8_comesBack
theorem dX8_quiet_0 : decode cX8_quiet 0 = .ok (.iload_n 1, 1) := by decide +kernel
theorem dX8_quiet_1 : decode cX8_quiet 1 = .ok (.invokestatic 148, 3) := by decide +kernel
theorem dX8_quiet_4 : decode cX8_quiet 4 = .ok (.ifCond .ne 5, 3) := by decide +kernel
theorem dX8_quiet_7 : decode cX8_quiet 7 = .ok (.iconst (-1), 1) := by decide +kernel
theorem dX8_quiet_8 : decode cX8_quiet 8 = .ok (.ireturn, 1) := by decide +kernel
theorem dX8_quiet_9 : decode cX8_quiet 9 = .ok (.aload_n 0, 1) := by decide +kernel
theorem dX8_quiet_10 : decode cX8_quiet 10 = .ok (.invokevirtual 165, 3) := by decide +kernel
theorem dX8_quiet_13 : decode cX8_quiet 13 = .ok (.aload_n 0, 1) := by decide +kernel
theorem dX8_quiet_14 : decode cX8_quiet 14 = .ok (.iload_n 1, 1) := by decide +kernel
theorem dX8_quiet_15 : decode cX8_quiet 15 = .ok (.iconst 0, 1) := by decide +kernel
theorem dX8_quiet_16 : decode cX8_quiet 16 = .ok (.iconst (-1), 1) := by decide +kernel
theorem dX8_quiet_17 : decode cX8_quiet 17 = .ok (.invokevirtual 151, 3) := by decide +kernel
theorem dX8_quiet_20 : decode cX8_quiet 20 = .ok (.pop, 1) := by decide +kernel
theorem dX8_quiet_21 : decode cX8_quiet 21 = .ok (.iconst 0, 1) := by decide +kernel
theorem dX8_quiet_22 : decode cX8_quiet 22 = .ok (.istore_n 2, 1) := by decide +kernel
theorem dX8_quiet_23 : decode cX8_quiet 23 = .ok (.iload_n 2, 1) := by decide +kernel
theorem dX8_quiet_24 : decode cX8_quiet 24 = .ok (.bipush 60, 2) := by decide +kernel
theorem dX8_quiet_26 : decode cX8_quiet 26 = .ok (.if_icmp .ge 22, 3) := by decide +kernel
theorem dX8_quiet_29 : decode cX8_quiet 29 = .ok (.aload_n 0, 1) := by decide +kernel
theorem dX8_quiet_30 : decode cX8_quiet 30 = .ok (.iload_n 1, 1) := by decide +kernel
theorem dX8_quiet_31 : decode cX8_quiet 31 = .ok (.invokevirtual 162, 3) := by decide +kernel
theorem dX8_quiet_34 : decode cX8_quiet 34 = .ok (.ifCond .ne 14, 3) := by decide +kernel
theorem dX8_quiet_37 : decode cX8_quiet 37 = .ok (.aload_n 0, 1) := by decide +kernel
theorem dX8_quiet_38 : decode cX8_quiet 38 = .ok (.invokevirtual 136, 3) := by decide +kernel
theorem dX8_quiet_41 : decode cX8_quiet 41 = .ok (.pop, 1) := by decide +kernel
theorem dX8_quiet_42 : decode cX8_quiet 42 = .ok (.iinc 2 1, 3) := by decide +kernel
theorem dX8_quiet_45 : decode cX8_quiet 45 = .ok (.goto (-22), 3) := by decide +kernel
theorem dX8_quiet_48 : decode cX8_quiet 48 = .ok (.aload_n 0, 1) := by decide +kernel
theorem dX8_quiet_49 : decode cX8_quiet 49 = .ok (.iload_n 1, 1) := by decide +kernel
theorem dX8_quiet_50 : decode cX8_quiet 50 = .ok (.invokevirtual 162, 3) := by decide +kernel
theorem dX8_quiet_53 : decode cX8_quiet 53 = .ok (.iconst 1, 1) := by decide +kernel
theorem dX8_quiet_54 : decode cX8_quiet 54 = .ok (.if_icmp .ne 7, 3) := by decide +kernel
theorem dX8_quiet_57 : decode cX8_quiet 57 = .ok (.iload_n 2, 1) := by decide +kernel
theorem dX8_quiet_58 : decode cX8_quiet 58 = .ok (.goto 5, 3) := by decide +kernel
theorem dX8_quiet_61 : decode cX8_quiet 61 = .ok (.bipush (-4), 2) := by decide +kernel
theorem dX8_quiet_63 : decode cX8_quiet 63 = .ok (.istore_n 3, 1) := by decide +kernel
theorem dX8_quiet_64 : decode cX8_quiet 64 = .ok (.aload_n 0, 1) := by decide +kernel
theorem dX8_quiet_65 : decode cX8_quiet 65 = .ok (.invokevirtual 172, 3) := by decide +kernel
theorem dX8_quiet_68 : decode cX8_quiet 68 = .ok (.iload_n 3, 1) := by decide +kernel
theorem dX8_quiet_69 : decode cX8_quiet 69 = .ok (.ireturn, 1) := by decide +kernel
set_option maxRecDepth 20000 in
theorem ggX8_swingsBy_X8_laysAside : GoodIn wsX8_swingsBy wsX8_laysAside := goodIn_r _ [5, 6, 7, 78, 79, 80, 81, 82, 83, 84, 85, 86] (by decide +kernel) (by decide +kernel)
set_option maxRecDepth 20000 in
theorem gX8_swingsBy_X8_laysAside : GoodIn wsX8_swingsBy (wsV RX8 165 RX8 yX8_laysAside wsX8_laysAside) := goodIn_app (goodIn_of _ (by decide +kernel)) ggX8_swingsBy_X8_laysAside
set_option maxRecDepth 20000 in
theorem ggX8_swingsBy_X8_commands : GoodIn wsX8_swingsBy wsX8_commands := goodIn_r _ [11, 7, 12, 13, 14, 4, 15, 16, 17, 18, 19, 20, 21, 22, 23, 24, 25, 26, 27, 78, 79, 80, 81, 82, 83, 84, 85, 86] (by decide +kernel) (by decide +kernel)
set_option maxRecDepth 20000 in
theorem gX8_swingsBy_X8_commands : GoodIn wsX8_swingsBy (wsV RX8 151 RX8 yX8_commands wsX8_commands) := goodIn_app (goodIn_of _ (by decide +kernel)) ggX8_swingsBy_X8_commands
set_option maxRecDepth 20000 in
theorem ggX8_swingsBy_X8_goesBy : GoodIn wsX8_swingsBy wsX8_goesBy := goodIn_r _ [31, 7, 32, 33, 34, 4, 35, 20, 21, 22, 23, 16, 17, 18, 19, 36, 37, 38, 39, 40, 41, 42, 43, 44, 45, 46, 47, 48, 49, 50, 51, 52, 53, 54, 55, 56, 57, 58, 59, 60, 61, 62, 63, 64, 65, 66, 67, 68, 69, 70, 71, 72, 73, 78, 79, 80, 81, 82, 83, 84, 85, 86] (by decide +kernel) (by decide +kernel)
set_option maxRecDepth 20000 in
theorem gX8_swingsBy_X8_goesBy : GoodIn wsX8_swingsBy (wsV RX8 136 RX8 yX8_goesBy wsX8_goesBy) := goodIn_app (goodIn_of _ (by decide +kernel)) ggX8_swingsBy_X8_goesBy
set_option maxRecDepth 20000 in
theorem ggX8_swingsBy_X8_of : GoodIn wsX8_swingsBy wsX8_of := goodIn_r _ [23, 7, 78, 79, 80, 81, 82, 83, 84, 85, 86] (by decide +kernel) (by decide +kernel)
set_option maxRecDepth 20000 in
theorem gX8_swingsBy_X8_of : GoodIn wsX8_swingsBy (wsV RX8 80 RX8 yX8_of wsX8_of) := goodIn_app (goodIn_of _ (by decide +kernel)) ggX8_swingsBy_X8_of
set_option maxRecDepth 20000 in
theorem ggX8_swingsBy_X8_size : GoodIn wsX8_swingsBy wsX8_size := goodIn_r _ [62] (by decide +kernel) (by decide +kernel)
set_option maxRecDepth 20000 in
theorem gX8_swingsBy_X8_size : GoodIn wsX8_swingsBy (va_wsS RX8 84 yX8_size wsX8_size) := goodIn_app (goodIn_of _ (by decide +kernel)) ggX8_swingsBy_X8_size
set_option maxRecDepth 20000 in
theorem ggX8_swingsBy_X8_comesBack : GoodIn wsX8_swingsBy wsX8_comesBack := goodIn_r _ [77, 7, 6, 78, 79, 80, 81, 82, 83, 84, 85, 86] (by decide +kernel) (by decide +kernel)
set_option maxRecDepth 20000 in
theorem gX8_swingsBy_X8_comesBack : GoodIn wsX8_swingsBy (wsV RX8 172 RX8 yX8_comesBack wsX8_comesBack) := goodIn_app (goodIn_of _ (by decide +kernel)) ggX8_swingsBy_X8_comesBack
theorem dX8_swingsBy_0 : decode cX8_swingsBy 0 = .ok (.aload_n 0, 1) := by decide +kernel
theorem dX8_swingsBy_1 : decode cX8_swingsBy 1 = .ok (.invokevirtual 165, 3) := by decide +kernel
theorem dX8_swingsBy_4 : decode cX8_swingsBy 4 = .ok (.aload_n 0, 1) := by decide +kernel
theorem dX8_swingsBy_5 : decode cX8_swingsBy 5 = .ok (.iload_n 1, 1) := by decide +kernel
theorem dX8_swingsBy_6 : decode cX8_swingsBy 6 = .ok (.iload_n 2, 1) := by decide +kernel
theorem dX8_swingsBy_7 : decode cX8_swingsBy 7 = .ok (.iload_n 3, 1) := by decide +kernel
theorem dX8_swingsBy_8 : decode cX8_swingsBy 8 = .ok (.invokevirtual 151, 3) := by decide +kernel
theorem dX8_swingsBy_11 : decode cX8_swingsBy 11 = .ok (.pop, 1) := by decide +kernel
theorem dX8_swingsBy_12 : decode cX8_swingsBy 12 = .ok (.iconst 0, 1) := by decide +kernel
theorem dX8_swingsBy_13 : decode cX8_swingsBy 13 = .ok (.istore 4, 2) := by decide +kernel
theorem dX8_swingsBy_15 : decode cX8_swingsBy 15 = .ok (.iconst 1, 1) := by decide +kernel
theorem dX8_swingsBy_16 : decode cX8_swingsBy 16 = .ok (.istore 5, 2) := by decide +kernel
theorem dX8_swingsBy_18 : decode cX8_swingsBy 18 = .ok (.iload 5, 2) := by decide +kernel
theorem dX8_swingsBy_20 : decode cX8_swingsBy 20 = .ok (.bipush 60, 2) := by decide +kernel
theorem dX8_swingsBy_22 : decode cX8_swingsBy 22 = .ok (.if_icmp .gt 51, 3) := by decide +kernel
theorem dX8_swingsBy_25 : decode cX8_swingsBy 25 = .ok (.aload_n 0, 1) := by decide +kernel
theorem dX8_swingsBy_26 : decode cX8_swingsBy 26 = .ok (.invokevirtual 136, 3) := by decide +kernel
theorem dX8_swingsBy_29 : decode cX8_swingsBy 29 = .ok (.pop, 1) := by decide +kernel
theorem dX8_swingsBy_30 : decode cX8_swingsBy 30 = .ok (.iload 5, 2) := by decide +kernel
theorem dX8_swingsBy_32 : decode cX8_swingsBy 32 = .ok (.bipush 20, 2) := by decide +kernel
theorem dX8_swingsBy_34 : decode cX8_swingsBy 34 = .ok (.if_icmp .le 29, 3) := by decide +kernel
theorem dX8_swingsBy_37 : decode cX8_swingsBy 37 = .ok (.aload_n 0, 1) := by decide +kernel
theorem dX8_swingsBy_38 : decode cX8_swingsBy 38 = .ok (.iload_n 1, 1) := by decide +kernel
theorem dX8_swingsBy_39 : decode cX8_swingsBy 39 = .ok (.iconst 4, 1) := by decide +kernel
theorem dX8_swingsBy_40 : decode cX8_swingsBy 40 = .ok (.invokevirtual 80, 3) := by decide +kernel
theorem dX8_swingsBy_43 : decode cX8_swingsBy 43 = .ok (.invokestatic 84, 3) := by decide +kernel
theorem dX8_swingsBy_46 : decode cX8_swingsBy 46 = .ok (.iload 4, 2) := by decide +kernel
theorem dX8_swingsBy_48 : decode cX8_swingsBy 48 = .ok (.if_icmp .le 15, 3) := by decide +kernel
theorem dX8_swingsBy_51 : decode cX8_swingsBy 51 = .ok (.aload_n 0, 1) := by decide +kernel
theorem dX8_swingsBy_52 : decode cX8_swingsBy 52 = .ok (.iload_n 1, 1) := by decide +kernel
theorem dX8_swingsBy_53 : decode cX8_swingsBy 53 = .ok (.iconst 4, 1) := by decide +kernel
theorem dX8_swingsBy_54 : decode cX8_swingsBy 54 = .ok (.invokevirtual 80, 3) := by decide +kernel
theorem dX8_swingsBy_57 : decode cX8_swingsBy 57 = .ok (.invokestatic 84, 3) := by decide +kernel
theorem dX8_swingsBy_60 : decode cX8_swingsBy 60 = .ok (.goto 5, 3) := by decide +kernel
theorem dX8_swingsBy_63 : decode cX8_swingsBy 63 = .ok (.iload 4, 2) := by decide +kernel
theorem dX8_swingsBy_65 : decode cX8_swingsBy 65 = .ok (.istore 4, 2) := by decide +kernel
theorem dX8_swingsBy_67 : decode cX8_swingsBy 67 = .ok (.iinc 5 1, 3) := by decide +kernel
theorem dX8_swingsBy_70 : decode cX8_swingsBy 70 = .ok (.goto (-52), 3) := by decide +kernel
theorem dX8_swingsBy_73 : decode cX8_swingsBy 73 = .ok (.aload_n 0, 1) := by decide +kernel
theorem dX8_swingsBy_74 : decode cX8_swingsBy 74 = .ok (.invokevirtual 172, 3) := by decide +kernel
theorem dX8_swingsBy_77 : decode cX8_swingsBy 77 = .ok (.iload 4, 2) := by decide +kernel
theorem dX8_swingsBy_79 : decode cX8_swingsBy 79 = .ok (.ireturn, 1) := by decide +kernel
set_option maxRecDepth 20000 in
theorem ggX8_best_X8_isCrane : GoodIn wsX8_best wsX8_isCrane := goodIn_r _ [4] (by decide +kernel) (by decide +kernel)
set_option maxRecDepth 20000 in
theorem gX8_best_X8_isCrane : GoodIn wsX8_best (va_wsS RX8 148 yX8_isCrane wsX8_isCrane) := goodIn_app (goodIn_of _ (by decide +kernel)) ggX8_best_X8_isCrane
set_option maxRecDepth 20000 in
theorem ggX8_best_X8_in : GoodIn wsX8_best wsX8_in := goodIn_r _ [7] (by decide +kernel) (by decide +kernel)
set_option maxRecDepth 20000 in
theorem gX8_best_X8_in : GoodIn wsX8_best (va_wsS RX8 48 yX8_in wsX8_in) := goodIn_app (goodIn_of _ (by decide +kernel)) ggX8_best_X8_in
set_option maxRecDepth 20000 in
theorem ggX8_best_X8_swingsBy : GoodIn wsX8_best wsX8_swingsBy := goodIn_r _ [11, 12, 13, 14, 3, 15, 16, 17, 18, 19, 20, 21, 22, 23, 24, 25, 26, 27, 28, 29, 30, 31, 32, 33, 34, 35, 36, 37, 38, 39, 40, 41, 42, 43, 44, 45, 46, 47, 48, 49, 50, 51, 52, 53, 54, 55, 56, 57, 58, 59, 60, 61, 62, 63, 64, 65, 66, 67, 68, 69, 70, 71, 72, 73, 74, 75, 76, 77, 78, 79, 80, 81, 82, 83, 84, 85, 86, 87, 88, 89, 90, 91, 92, 93, 94, 95, 96] (by decide +kernel) (by decide +kernel)
set_option maxRecDepth 20000 in
theorem gX8_best_X8_swingsBy : GoodIn wsX8_best (wsV RX8 175 RX8 yX8_swingsBy wsX8_swingsBy) := goodIn_app (goodIn_of _ (by decide +kernel)) ggX8_best_X8_swingsBy
theorem dX8_best_0 : decode cX8_best 0 = .ok (.iload_n 1, 1) := by decide +kernel
theorem dX8_best_1 : decode cX8_best 1 = .ok (.invokestatic 148, 3) := by decide +kernel
theorem dX8_best_4 : decode cX8_best 4 = .ok (.ifCond .eq 23, 3) := by decide +kernel
theorem dX8_best_7 : decode cX8_best 7 = .ok (.iload_n 2, 1) := by decide +kernel
theorem dX8_best_8 : decode cX8_best 8 = .ok (.bipush (-40), 2) := by decide +kernel
theorem dX8_best_10 : decode cX8_best 10 = .ok (.bipush 40, 2) := by decide +kernel
theorem dX8_best_12 : decode cX8_best 12 = .ok (.invokestatic 48, 3) := by decide +kernel
theorem dX8_best_15 : decode cX8_best 15 = .ok (.ifCond .eq 12, 3) := by decide +kernel
theorem dX8_best_18 : decode cX8_best 18 = .ok (.iload_n 3, 1) := by decide +kernel
theorem dX8_best_19 : decode cX8_best 19 = .ok (.iconst 0, 1) := by decide +kernel
theorem dX8_best_20 : decode cX8_best 20 = .ok (.iconst 1, 1) := by decide +kernel
theorem dX8_best_21 : decode cX8_best 21 = .ok (.invokestatic 48, 3) := by decide +kernel
theorem dX8_best_24 : decode cX8_best 24 = .ok (.ifCond .ne 5, 3) := by decide +kernel
theorem dX8_best_27 : decode cX8_best 27 = .ok (.iconst (-1), 1) := by decide +kernel
theorem dX8_best_28 : decode cX8_best 28 = .ok (.ireturn, 1) := by decide +kernel
theorem dX8_best_29 : decode cX8_best 29 = .ok (.iconst 0, 1) := by decide +kernel
theorem dX8_best_30 : decode cX8_best 30 = .ok (.istore 4, 2) := by decide +kernel
theorem dX8_best_32 : decode cX8_best 32 = .ok (.aload_n 0, 1) := by decide +kernel
theorem dX8_best_33 : decode cX8_best 33 = .ok (.iload_n 1, 1) := by decide +kernel
theorem dX8_best_34 : decode cX8_best 34 = .ok (.iload_n 2, 1) := by decide +kernel
theorem dX8_best_35 : decode cX8_best 35 = .ok (.iconst 0, 1) := by decide +kernel
theorem dX8_best_36 : decode cX8_best 36 = .ok (.invokevirtual 175, 3) := by decide +kernel
theorem dX8_best_39 : decode cX8_best 39 = .ok (.istore 5, 2) := by decide +kernel
theorem dX8_best_41 : decode cX8_best 41 = .ok (.iconst 1, 1) := by decide +kernel
theorem dX8_best_42 : decode cX8_best 42 = .ok (.istore 6, 2) := by decide +kernel
theorem dX8_best_44 : decode cX8_best 44 = .ok (.iload 6, 2) := by decide +kernel
theorem dX8_best_46 : decode cX8_best 46 = .ok (.bipush 20, 2) := by decide +kernel
theorem dX8_best_48 : decode cX8_best 48 = .ok (.if_icmp .gt 51, 3) := by decide +kernel
theorem dX8_best_51 : decode cX8_best 51 = .ok (.aload_n 0, 1) := by decide +kernel
theorem dX8_best_52 : decode cX8_best 52 = .ok (.iload_n 1, 1) := by decide +kernel
theorem dX8_best_53 : decode cX8_best 53 = .ok (.iload_n 2, 1) := by decide +kernel
theorem dX8_best_54 : decode cX8_best 54 = .ok (.iload 6, 2) := by decide +kernel
theorem dX8_best_56 : decode cX8_best 56 = .ok (.invokevirtual 175, 3) := by decide +kernel
theorem dX8_best_59 : decode cX8_best 59 = .ok (.istore 7, 2) := by decide +kernel
theorem dX8_best_61 : decode cX8_best 61 = .ok (.iload 7, 2) := by decide +kernel
theorem dX8_best_63 : decode cX8_best 63 = .ok (.iload 5, 2) := by decide +kernel
theorem dX8_best_65 : decode cX8_best 65 = .ok (.if_icmp .ge 8, 3) := by decide +kernel
theorem dX8_best_68 : decode cX8_best 68 = .ok (.iload 6, 2) := by decide +kernel
theorem dX8_best_70 : decode cX8_best 70 = .ok (.goto 5, 3) := by decide +kernel
theorem dX8_best_73 : decode cX8_best 73 = .ok (.iload 4, 2) := by decide +kernel
theorem dX8_best_75 : decode cX8_best 75 = .ok (.istore 4, 2) := by decide +kernel
theorem dX8_best_77 : decode cX8_best 77 = .ok (.iload 7, 2) := by decide +kernel
theorem dX8_best_79 : decode cX8_best 79 = .ok (.iload 5, 2) := by decide +kernel
theorem dX8_best_81 : decode cX8_best 81 = .ok (.if_icmp .ge 8, 3) := by decide +kernel
theorem dX8_best_84 : decode cX8_best 84 = .ok (.iload 7, 2) := by decide +kernel
theorem dX8_best_86 : decode cX8_best 86 = .ok (.goto 5, 3) := by decide +kernel
theorem dX8_best_89 : decode cX8_best 89 = .ok (.iload 5, 2) := by decide +kernel
theorem dX8_best_91 : decode cX8_best 91 = .ok (.istore 5, 2) := by decide +kernel
theorem dX8_best_93 : decode cX8_best 93 = .ok (.iinc 6 1, 3) := by decide +kernel
theorem dX8_best_96 : decode cX8_best 96 = .ok (.goto (-52), 3) := by decide +kernel
theorem dX8_best_99 : decode cX8_best 99 = .ok (.iload_n 3, 1) := by decide +kernel
theorem dX8_best_100 : decode cX8_best 100 = .ok (.ifCond .ne 8, 3) := by decide +kernel
theorem dX8_best_103 : decode cX8_best 103 = .ok (.iload 4, 2) := by decide +kernel
theorem dX8_best_105 : decode cX8_best 105 = .ok (.goto 5, 3) := by decide +kernel
theorem dX8_best_108 : decode cX8_best 108 = .ok (.iload 5, 2) := by decide +kernel
theorem dX8_best_110 : decode cX8_best 110 = .ok (.ireturn, 1) := by decide +kernel
set_option maxRecDepth 20000 in
theorem ggX8_count_X8_free : GoodIn wsX8_count wsX8_free := goodIn_r _ [8, 3, 9, 10, 11, 7, 12, 16, 17, 18, 19, 20, 21, 22, 23, 24] (by decide +kernel) (by decide +kernel)
set_option maxRecDepth 20000 in
theorem gX8_count_X8_free : GoodIn wsX8_count (wsV RX8 95 RX8 yX8_free wsX8_free) := goodIn_app (goodIn_of _ (by decide +kernel)) ggX8_count_X8_free
set_option maxRecDepth 20000 in
theorem ggX8_count_X8_in : GoodIn wsX8_count wsX8_in := goodIn_r _ [15] (by decide +kernel) (by decide +kernel)
set_option maxRecDepth 20000 in
theorem gX8_count_X8_in : GoodIn wsX8_count (va_wsS RX8 48 yX8_in wsX8_in) := goodIn_app (goodIn_of _ (by decide +kernel)) ggX8_count_X8_in
theorem dX8_count_0 : decode cX8_count 0 = .ok (.iload_n 1, 1) := by decide +kernel
theorem dX8_count_1 : decode cX8_count 1 = .ok (.tableswitch 42 7 9 #[27, 32, 37], 27) := by decide +kernel
theorem dX8_count_28 : decode cX8_count 28 = .ok (.aload_n 0, 1) := by decide +kernel
theorem dX8_count_29 : decode cX8_count 29 = .ok (.getfield 38, 3) := by decide +kernel
theorem dX8_count_32 : decode cX8_count 32 = .ok (.ireturn, 1) := by decide +kernel
theorem dX8_count_33 : decode cX8_count 33 = .ok (.aload_n 0, 1) := by decide +kernel
theorem dX8_count_34 : decode cX8_count 34 = .ok (.getfield 45, 3) := by decide +kernel
theorem dX8_count_37 : decode cX8_count 37 = .ok (.ireturn, 1) := by decide +kernel
theorem dX8_count_38 : decode cX8_count 38 = .ok (.aload_n 0, 1) := by decide +kernel
theorem dX8_count_39 : decode cX8_count 39 = .ok (.invokevirtual 95, 3) := by decide +kernel
theorem dX8_count_42 : decode cX8_count 42 = .ok (.ireturn, 1) := by decide +kernel
theorem dX8_count_43 : decode cX8_count 43 = .ok (.iload_n 1, 1) := by decide +kernel
theorem dX8_count_44 : decode cX8_count 44 = .ok (.iconst 0, 1) := by decide +kernel
theorem dX8_count_45 : decode cX8_count 45 = .ok (.bipush 6, 2) := by decide +kernel
theorem dX8_count_47 : decode cX8_count 47 = .ok (.invokestatic 48, 3) := by decide +kernel
theorem dX8_count_50 : decode cX8_count 50 = .ok (.ifCond .eq 12, 3) := by decide +kernel
theorem dX8_count_53 : decode cX8_count 53 = .ok (.aload_n 0, 1) := by decide +kernel
theorem dX8_count_54 : decode cX8_count 54 = .ok (.getfield 7, 3) := by decide +kernel
theorem dX8_count_57 : decode cX8_count 57 = .ok (.iload_n 1, 1) := by decide +kernel
theorem dX8_count_58 : decode cX8_count 58 = .ok (.iaload, 1) := by decide +kernel
theorem dX8_count_59 : decode cX8_count 59 = .ok (.goto 4, 3) := by decide +kernel
theorem dX8_count_62 : decode cX8_count 62 = .ok (.iconst (-1), 1) := by decide +kernel
theorem dX8_count_63 : decode cX8_count 63 = .ok (.ireturn, 1) := by decide +kernel
theorem dJ9_abs_0f7a4_0 : decode cJ9_abs_0f7a4 0 = .ok (.iload_n 0, 1) := by decide +kernel
theorem dJ9_abs_0f7a4_1 : decode cJ9_abs_0f7a4 1 = .ok (.ifCond .ge 8, 3) := by decide +kernel
theorem dJ9_abs_0f7a4_4 : decode cJ9_abs_0f7a4 4 = .ok (.iload_n 0, 1) := by decide +kernel
theorem dJ9_abs_0f7a4_5 : decode cJ9_abs_0f7a4 5 = .ok (.ineg, 1) := by decide +kernel
theorem dJ9_abs_0f7a4_6 : decode cJ9_abs_0f7a4 6 = .ok (.goto 4, 3) := by decide +kernel
theorem dJ9_abs_0f7a4_9 : decode cJ9_abs_0f7a4 9 = .ok (.iload_n 0, 1) := by decide +kernel
theorem dJ9_abs_0f7a4_10 : decode cJ9_abs_0f7a4 10 = .ok (.ireturn, 1) := by decide +kernel
theorem dJ9_max_7cf53_0 : decode cJ9_max_7cf53 0 = .ok (.iload_n 0, 1) := by decide +kernel
theorem dJ9_max_7cf53_1 : decode cJ9_max_7cf53 1 = .ok (.iload_n 1, 1) := by decide +kernel
theorem dJ9_max_7cf53_2 : decode cJ9_max_7cf53 2 = .ok (.if_icmp .lt 7, 3) := by decide +kernel
theorem dJ9_max_7cf53_5 : decode cJ9_max_7cf53 5 = .ok (.iload_n 0, 1) := by decide +kernel
theorem dJ9_max_7cf53_6 : decode cJ9_max_7cf53 6 = .ok (.goto 4, 3) := by decide +kernel
theorem dJ9_max_7cf53_9 : decode cJ9_max_7cf53 9 = .ok (.iload_n 1, 1) := by decide +kernel
theorem dJ9_max_7cf53_10 : decode cJ9_max_7cf53 10 = .ok (.ireturn, 1) := by decide +kernel
theorem dJ9_min_7cf53_0 : decode cJ9_min_7cf53 0 = .ok (.iload_n 0, 1) := by decide +kernel
theorem dJ9_min_7cf53_1 : decode cJ9_min_7cf53 1 = .ok (.iload_n 1, 1) := by decide +kernel
theorem dJ9_min_7cf53_2 : decode cJ9_min_7cf53 2 = .ok (.if_icmp .gt 7, 3) := by decide +kernel
theorem dJ9_min_7cf53_5 : decode cJ9_min_7cf53 5 = .ok (.iload_n 0, 1) := by decide +kernel
theorem dJ9_min_7cf53_6 : decode cJ9_min_7cf53 6 = .ok (.goto 4, 3) := by decide +kernel
theorem dJ9_min_7cf53_9 : decode cJ9_min_7cf53 9 = .ok (.iload_n 1, 1) := by decide +kernel
theorem dJ9_min_7cf53_10 : decode cJ9_min_7cf53 10 = .ok (.ireturn, 1) := by decide +kernel
set_option maxRecDepth 20000 in
theorem ggL_law_X7_init : GoodIn wsL_law wsX7_init := goodIn_r _ [8, 9, 10, 11, 12, 13, 14, 15, 16, 17, 18, 19, 20, 21, 22, 23, 24, 25, 26, 27, 28, 29, 30, 31, 32, 33, 34, 35, 36, 37, 38, 39, 40, 41, 42, 43, 44, 45, 46, 47, 48, 49, 50, 51, 52, 53, 54, 55, 56, 57, 58, 59, 60, 61, 62, 63, 64, 65, 66, 67, 68, 69, 70, 71, 72, 73, 74, 75, 76, 77, 78, 79, 80, 81, 82, 83, 84, 85, 86, 87, 88, 89, 90, 91, 92, 93, 94, 95, 96, 97, 98, 99, 100, 101, 102, 103, 104, 105, 106, 107, 108, 109, 110, 111, 112, 113, 114, 115, 116, 117, 118, 119, 120, 121, 122, 123, 124, 125, 126, 127, 128, 129, 792, 793, 794, 773, 774, 775, 776, 777, 778, 779, 780, 781, 782, 795, 796, 797, 798, 799, 800, 801, 802, 803, 804, 805, 806, 807, 808, 809, 810, 811, 812, 813, 814, 815, 816, 817, 818, 819, 820, 821, 822, 823, 824, 825, 826, 827] (by decide +kernel) (by decide +kernel)
set_option maxRecDepth 20000 in
theorem gL_law_X7_init : GoodIn wsL_law (wsX7_init) := ggL_law_X7_init
set_option maxRecDepth 20000 in
theorem ggL_law_X8_init : GoodIn wsL_law wsX8_init := goodIn_r _ [132, 133, 10, 11, 91, 134, 135, 136, 137, 138, 139, 140, 141, 142, 5, 143, 144, 145, 146, 147, 148, 149, 150, 151, 152, 783, 784, 785, 786, 787, 788, 789, 790, 791] (by decide +kernel) (by decide +kernel)
set_option maxRecDepth 20000 in
theorem gL_law_X8_init : GoodIn wsL_law (wsX8_init) := ggL_law_X8_init
set_option maxRecDepth 20000 in
theorem ggL_law_X7_write : GoodIn wsL_law wsX7_write := goodIn_r _ [156, 15, 157, 158, 159, 2, 160, 161, 162, 163, 14, 164, 165, 166, 167, 168, 169, 37, 773, 774, 775, 776, 777, 778, 779, 780, 781, 782, 792, 793, 794] (by decide +kernel) (by decide +kernel)
set_option maxRecDepth 20000 in
theorem gL_law_X7_write : GoodIn wsL_law (wsV RL 13 RX7 yX7_write wsX7_write) := goodIn_app (goodIn_of _ (by decide +kernel)) ggL_law_X7_write
set_option maxRecDepth 20000 in
theorem ggL_law_X8_write : GoodIn wsL_law wsX8_write := goodIn_r _ [173, 174, 138, 175, 176, 5, 177, 783, 784, 785, 786, 787, 788, 789, 790, 791] (by decide +kernel) (by decide +kernel)
set_option maxRecDepth 20000 in
theorem gL_law_X8_write : GoodIn wsL_law (wsV RL 17 RX8 yX8_write wsX8_write) := goodIn_app (goodIn_of _ (by decide +kernel)) ggL_law_X8_write
set_option maxRecDepth 20000 in
theorem ggL_law_X7_wipe : GoodIn wsL_law wsX7_wipe := goodIn_r _ [181, 15, 157, 773, 774, 775, 776, 777, 778, 779, 780, 781, 782, 792, 793, 794] (by decide +kernel) (by decide +kernel)
set_option maxRecDepth 20000 in
theorem gL_law_X7_wipe : GoodIn wsL_law (wsV RL 18 RX7 yX7_wipe wsX7_wipe) := goodIn_app (goodIn_of _ (by decide +kernel)) ggL_law_X7_wipe
set_option maxRecDepth 20000 in
theorem ggL_law_X8_wipe : GoodIn wsL_law wsX8_wipe := goodIn_r _ [185, 174, 783, 784, 785, 786, 787, 788, 789, 790, 791] (by decide +kernel) (by decide +kernel)
set_option maxRecDepth 20000 in
theorem gL_law_X8_wipe : GoodIn wsL_law (wsV RL 22 RX8 yX8_wipe wsX8_wipe) := goodIn_app (goodIn_of _ (by decide +kernel)) ggL_law_X8_wipe
set_option maxRecDepth 20000 in
theorem ggL_law_X7_fault : GoodIn wsL_law wsX7_fault := goodIn_r _ [189, 15, 24, 190, 191, 192, 14, 193, 194, 165, 195, 63, 64, 22, 65, 66, 67, 68, 69, 70, 57, 58, 71, 72, 73, 56, 74, 75, 76, 77, 196, 197, 198, 199, 200, 201, 202, 203, 37, 204, 205, 206, 207, 208, 209, 210, 211, 212, 159, 2, 160, 213, 214, 215, 216, 217, 218, 219, 220, 221, 222, 223, 224, 225, 226, 227, 228, 229, 230, 158, 231, 232, 233, 234, 235, 236, 237, 773, 774, 775, 776, 777, 778, 779, 780, 781, 782, 792, 793, 794, 798, 799, 800, 801, 802, 803, 804, 822, 823, 824] (by decide +kernel) (by decide +kernel)
set_option maxRecDepth 20000 in
theorem gL_law_X7_fault : GoodIn wsL_law (wsV RL 23 RX7 yX7_fault wsX7_fault) := goodIn_app (goodIn_of _ (by decide +kernel)) ggL_law_X7_fault
set_option maxRecDepth 20000 in
theorem ggL_law_X8_fault : GoodIn wsL_law wsX8_fault := goodIn_r _ [241, 242, 243, 244, 5, 245, 246, 174, 140, 141, 142, 143, 135, 144, 145, 146, 147, 247, 248, 249, 250, 138, 251, 252, 253, 254, 139, 255, 256, 257, 258, 259, 260, 261, 262, 263, 264, 265, 266, 175, 176, 177, 267, 268, 269, 270, 271, 272, 273, 274, 783, 784, 785, 786, 787, 788, 789, 790, 791] (by decide +kernel) (by decide +kernel)
set_option maxRecDepth 20000 in
theorem gL_law_X8_fault : GoodIn wsL_law (wsV RL 26 RX8 yX8_fault wsX8_fault) := goodIn_app (goodIn_of _ (by decide +kernel)) ggL_law_X8_fault
set_option maxRecDepth 20000 in
theorem ggL_law_X7_lay : GoodIn wsL_law wsX7_lay := goodIn_r _ [278, 15, 24, 23, 28, 279, 280, 190, 191, 192, 14, 193, 194, 165, 195, 63, 64, 22, 65, 66, 67, 68, 69, 70, 57, 58, 71, 72, 73, 56, 74, 75, 76, 77, 196, 197, 198, 199, 200, 201, 202, 203, 37, 204, 205, 206, 207, 208, 209, 210, 211, 212, 159, 2, 160, 213, 214, 215, 216, 217, 218, 219, 220, 221, 222, 223, 224, 225, 226, 227, 228, 229, 230, 158, 231, 232, 233, 234, 235, 236, 237, 281, 282, 283, 284, 285, 94, 95, 96, 27, 97, 82, 86, 98, 87, 99, 100, 101, 102, 18, 103, 44, 104, 45, 105, 46, 106, 107, 108, 43, 109, 110, 111, 112, 113, 114, 115, 116, 117, 118, 119, 120, 121, 122, 123, 124, 125, 126, 127, 128, 129, 773, 774, 775, 776, 777, 778, 779, 780, 781, 782, 798, 799, 800, 801, 802, 803, 804, 792, 793, 794, 822, 823, 824, 805, 806, 807, 808, 825, 826, 827, 795, 796, 797, 809, 810, 811, 812, 813, 814, 815, 816, 817, 818, 819, 820, 821] (by decide +kernel) (by decide +kernel)
set_option maxRecDepth 20000 in
theorem gL_law_X7_lay : GoodIn wsL_law (wsV RL 27 RX7 yX7_lay wsX7_lay) := goodIn_app (goodIn_of _ (by decide +kernel)) ggL_law_X7_lay
set_option maxRecDepth 20000 in
theorem ggL_law_X8_lay : GoodIn wsL_law wsX8_lay := goodIn_r _ [289, 135, 134, 242, 243, 244, 5, 245, 246, 174, 140, 141, 142, 143, 144, 145, 146, 147, 247, 248, 249, 250, 138, 251, 252, 253, 254, 139, 255, 256, 257, 258, 259, 260, 261, 262, 263, 264, 265, 266, 175, 176, 177, 267, 268, 269, 270, 271, 272, 273, 274, 148, 149, 150, 151, 152, 783, 784, 785, 786, 787, 788, 789, 790, 791] (by decide +kernel) (by decide +kernel)
set_option maxRecDepth 20000 in
theorem gL_law_X8_lay : GoodIn wsL_law (wsV RL 30 RX8 yX8_lay wsX8_lay) := goodIn_app (goodIn_of _ (by decide +kernel)) ggL_law_X8_lay
set_option maxRecDepth 20000 in
theorem ggL_law_X7_command : GoodIn wsL_law wsX7_command := goodIn_r _ [293, 28, 294, 295, 227, 2, 228, 296, 297, 298, 158, 159, 160, 299, 300, 301, 302, 32, 31, 30, 29, 279, 303, 304, 305, 306, 307, 308, 309, 27, 310, 82, 86, 87, 99, 311, 312, 313, 18, 314, 44, 45, 46, 315, 316, 317, 43, 318, 111, 112, 114, 116, 117, 118, 119, 120, 126, 127, 128, 129, 121, 319, 320, 321, 85, 322, 323, 324, 325, 326, 327, 92, 328, 329, 330, 331, 93, 332, 333, 334, 335, 336, 337, 338, 339, 340, 341, 342, 343, 344, 345, 346, 347, 348, 349, 350, 351, 122, 123, 124, 125, 352, 353, 354, 355, 356, 357, 358, 359, 773, 774, 775, 776, 777, 778, 779, 780, 781, 782, 805, 806, 807, 808, 795, 796, 797, 809, 810, 811, 812, 813, 814, 815, 816, 817, 818, 819, 820, 821, 825, 826, 827] (by decide +kernel) (by decide +kernel)
set_option maxRecDepth 20000 in
theorem gL_law_X7_command : GoodIn wsL_law (wsV RL 31 RX7 yX7_command wsX7_command) := goodIn_app (goodIn_of _ (by decide +kernel)) ggL_law_X7_command
set_option maxRecDepth 20000 in
theorem ggL_law_X8_command : GoodIn wsL_law wsX8_command := goodIn_r _ [363, 364, 365, 5, 366, 175, 176, 177, 367, 368, 369, 370, 152, 137, 134, 371, 372, 373, 374, 375, 376, 377, 378, 379, 380, 381, 382, 383, 384, 385, 386, 387, 388, 389, 390, 783, 784, 785, 786, 787, 788, 789, 790, 791] (by decide +kernel) (by decide +kernel)
set_option maxRecDepth 20000 in
theorem gL_law_X8_command : GoodIn wsL_law (wsV RL 35 RX8 yX8_command wsX8_command) := goodIn_app (goodIn_of _ (by decide +kernel)) ggL_law_X8_command
set_option maxRecDepth 20000 in
theorem ggL_law_X7_shape : GoodIn wsL_law wsX7_shape := goodIn_r _ [394, 28, 294, 295, 227, 2, 228, 296, 297, 298, 158, 159, 160, 299, 300, 301, 302, 32, 31, 30, 29, 279, 303, 304, 305, 306, 307, 308, 309, 27, 310, 82, 86, 87, 99, 311, 312, 313, 18, 314, 44, 45, 46, 315, 316, 317, 43, 318, 111, 112, 114, 116, 117, 118, 119, 120, 126, 127, 128, 129, 121, 319, 320, 321, 85, 322, 323, 324, 325, 326, 327, 92, 328, 329, 330, 331, 93, 332, 333, 334, 335, 395, 396, 397, 398, 340, 341, 342, 343, 344, 345, 346, 347, 399, 400, 401, 402, 403, 404, 122, 123, 124, 125, 352, 353, 354, 355, 356, 357, 358, 359, 773, 774, 775, 776, 777, 778, 779, 780, 781, 782, 805, 806, 807, 808, 795, 796, 797, 809, 810, 811, 812, 813, 814, 815, 816, 817, 818, 819, 820, 821, 825, 826, 827] (by decide +kernel) (by decide +kernel)
set_option maxRecDepth 20000 in
theorem gL_law_X7_shape : GoodIn wsL_law (wsV RL 36 RX7 yX7_shape wsX7_shape) := goodIn_app (goodIn_of _ (by decide +kernel)) ggL_law_X7_shape
set_option maxRecDepth 20000 in
theorem ggL_law_X8_shape : GoodIn wsL_law wsX8_shape := goodIn_r _ [408, 364, 365, 5, 366, 175, 176, 177, 367, 368, 369, 370, 152, 137, 134, 409, 410, 411, 412, 375, 376, 377, 378, 383, 384, 385, 386, 413, 414, 415, 371, 372, 373, 374, 379, 380, 381, 382, 387, 388, 389, 390, 783, 784, 785, 786, 787, 788, 789, 790, 791] (by decide +kernel) (by decide +kernel)
set_option maxRecDepth 20000 in
theorem gL_law_X8_shape : GoodIn wsL_law (wsV RL 40 RX8 yX8_shape wsX8_shape) := goodIn_app (goodIn_of _ (by decide +kernel)) ggL_law_X8_shape
set_option maxRecDepth 20000 in
theorem ggL_law_X7_target : GoodIn wsL_law wsX7_target := goodIn_r _ [419, 28, 294, 420, 295, 227, 2, 228, 421, 229, 230, 158, 159, 160, 422, 423, 424, 18, 425, 44, 426, 45, 340, 341, 342, 343, 344, 345, 346, 347, 46, 352, 353, 354, 355, 299, 300, 301, 302, 32, 31, 30, 29, 279, 303, 304, 305, 306, 307, 308, 309, 27, 310, 82, 86, 87, 99, 311, 312, 313, 314, 315, 316, 317, 43, 318, 111, 112, 114, 116, 117, 118, 119, 120, 126, 127, 128, 129, 121, 319, 320, 321, 85, 322, 323, 324, 325, 326, 327, 92, 328, 329, 330, 331, 93, 332, 333, 334, 335, 427, 428, 429, 430, 431, 432, 433, 434, 773, 774, 775, 776, 777, 778, 779, 780, 781, 782, 805, 806, 807, 808, 809, 810, 811, 812, 813, 814, 815, 816, 817, 818, 819, 820, 821, 795, 796, 797, 825, 826, 827] (by decide +kernel) (by decide +kernel)
set_option maxRecDepth 20000 in
theorem gL_law_X7_target : GoodIn wsL_law (wsV RL 41 RX7 yX7_target wsX7_target) := goodIn_app (goodIn_of _ (by decide +kernel)) ggL_law_X7_target
set_option maxRecDepth 20000 in
theorem ggL_law_X8_target : GoodIn wsL_law wsX8_target := goodIn_r _ [438, 364, 365, 5, 366, 175, 176, 177, 375, 376, 377, 378, 134, 383, 384, 385, 386, 367, 368, 369, 370, 152, 137, 379, 380, 381, 382, 783, 784, 785, 786, 787, 788, 789, 790, 791] (by decide +kernel) (by decide +kernel)
set_option maxRecDepth 20000 in
theorem gL_law_X8_target : GoodIn wsL_law (wsV RL 44 RX8 yX8_target wsX8_target) := goodIn_app (goodIn_of _ (by decide +kernel)) ggL_law_X8_target
set_option maxRecDepth 20000 in
theorem ggL_law_X7_load : GoodIn wsL_law wsX7_load := goodIn_r _ [442, 28, 294, 443, 295, 227, 2, 228, 158, 159, 160, 427, 428, 429, 18, 430, 44, 45, 299, 300, 301, 302, 32, 31, 30, 29, 279, 303, 304, 305, 306, 307, 308, 309, 27, 310, 82, 86, 87, 99, 311, 312, 313, 314, 46, 315, 316, 317, 43, 318, 111, 112, 114, 116, 117, 118, 119, 120, 126, 127, 128, 129, 121, 319, 320, 321, 85, 322, 323, 324, 325, 326, 327, 92, 328, 329, 330, 331, 93, 332, 333, 334, 335, 773, 774, 775, 776, 777, 778, 779, 780, 781, 782, 805, 806, 807, 808, 809, 810, 811, 812, 813, 814, 815, 816, 817, 818, 819, 820, 821, 795, 796, 797, 825, 826, 827] (by decide +kernel) (by decide +kernel)
set_option maxRecDepth 20000 in
theorem gL_law_X7_load : GoodIn wsL_law (wsV RL 45 RX7 yX7_load wsX7_load) := goodIn_app (goodIn_of _ (by decide +kernel)) ggL_law_X7_load
set_option maxRecDepth 20000 in
theorem ggL_law_X8_load : GoodIn wsL_law wsX8_load := goodIn_r _ [447, 364, 365, 5, 366, 175, 176, 177, 383, 384, 385, 386, 134, 367, 368, 369, 370, 152, 137, 379, 380, 381, 382, 783, 784, 785, 786, 787, 788, 789, 790, 791] (by decide +kernel) (by decide +kernel)
set_option maxRecDepth 20000 in
theorem gL_law_X8_load : GoodIn wsL_law (wsV RL 48 RX8 yX8_load wsX8_load) := goodIn_app (goodIn_of _ (by decide +kernel)) ggL_law_X8_load
set_option maxRecDepth 20000 in
theorem ggL_law_X7_couple : GoodIn wsL_law wsX7_couple := goodIn_r _ [451, 28, 294, 452, 158, 159, 2, 160, 299, 300, 301, 302, 32, 31, 30, 29, 279, 303, 304, 305, 306, 307, 308, 309, 27, 310, 82, 86, 87, 99, 311, 312, 313, 18, 314, 44, 45, 46, 315, 316, 317, 43, 318, 111, 112, 114, 116, 117, 118, 119, 120, 126, 127, 128, 129, 121, 319, 320, 321, 85, 322, 323, 324, 325, 326, 327, 92, 328, 329, 330, 331, 93, 332, 333, 334, 335, 773, 774, 775, 776, 777, 778, 779, 780, 781, 782, 805, 806, 807, 808, 795, 796, 797, 809, 810, 811, 812, 813, 814, 815, 816, 817, 818, 819, 820, 821, 825, 826, 827] (by decide +kernel) (by decide +kernel)
set_option maxRecDepth 20000 in
theorem gL_law_X7_couple : GoodIn wsL_law (wsV RL 49 RX7 yX7_couple wsX7_couple) := goodIn_app (goodIn_of _ (by decide +kernel)) ggL_law_X7_couple
set_option maxRecDepth 20000 in
theorem ggL_law_X8_couple : GoodIn wsL_law wsX8_couple := goodIn_r _ [456, 134, 175, 176, 5, 177, 367, 368, 369, 370, 152, 137, 783, 784, 785, 786, 787, 788, 789, 790, 791] (by decide +kernel) (by decide +kernel)
set_option maxRecDepth 20000 in
theorem gL_law_X8_couple : GoodIn wsL_law (wsV RL 52 RX8 yX8_couple wsX8_couple) := goodIn_app (goodIn_of _ (by decide +kernel)) ggL_law_X8_couple
set_option maxRecDepth 20000 in
theorem ggL_law_X7_tick : GoodIn wsL_law wsX7_tick := goodIn_r _ [460, 28, 461, 23, 158, 159, 2, 160, 299, 300, 301, 302, 32, 31, 30, 29, 279, 303, 304, 305, 306, 307, 308, 309, 27, 310, 82, 86, 87, 99, 311, 312, 313, 18, 314, 44, 45, 46, 315, 316, 317, 43, 318, 111, 112, 114, 116, 117, 118, 119, 120, 126, 127, 128, 129, 121, 319, 320, 321, 85, 322, 323, 324, 325, 326, 327, 92, 328, 329, 330, 331, 93, 332, 333, 334, 335, 462, 463, 464, 465, 466, 467, 468, 469, 470, 471, 472, 473, 474, 475, 476, 477, 478, 479, 480, 481, 482, 483, 484, 485, 486, 487, 488, 489, 490, 491, 492, 493, 494, 495, 496, 497, 498, 499, 500, 501, 502, 503, 504, 505, 506, 507, 508, 509, 510, 511, 512, 513, 514, 515, 516, 517, 518, 519, 520, 521, 522, 523, 524, 525, 526, 527, 528, 529, 530, 531, 532, 533, 534, 535, 536, 537, 773, 774, 775, 776, 777, 778, 779, 780, 781, 782, 805, 806, 807, 808, 795, 796, 797, 809, 810, 811, 812, 813, 814, 815, 816, 817, 818, 819, 820, 821, 825, 826, 827, 798, 799, 800, 801, 802, 803, 804] (by decide +kernel) (by decide +kernel)
set_option maxRecDepth 20000 in
theorem gL_law_X7_tick : GoodIn wsL_law (wsV RL 53 RX7 yX7_tick wsX7_tick) := goodIn_app (goodIn_of _ (by decide +kernel)) ggL_law_X7_tick
set_option maxRecDepth 20000 in
theorem ggL_law_X8_tick : GoodIn wsL_law wsX8_tick := goodIn_r _ [541, 134, 175, 176, 5, 177, 367, 368, 369, 370, 152, 137, 542, 543, 544, 545, 546, 547, 548, 549, 383, 384, 385, 386, 379, 380, 381, 382, 550, 551, 552, 553, 554, 555, 556, 557, 558, 559, 560, 561, 562, 563, 564, 565, 566, 567, 568, 569, 570, 571, 572, 573, 574, 575, 576, 577, 578, 579, 580, 581, 582, 583, 584, 585, 586, 587, 588, 589, 590, 591, 592, 593, 594, 595, 596, 597, 598, 599, 600, 601, 602, 783, 784, 785, 786, 787, 788, 789, 790, 791] (by decide +kernel) (by decide +kernel)
set_option maxRecDepth 20000 in
theorem gL_law_X8_tick : GoodIn wsL_law (wsV RL 56 RX8 yX8_tick wsX8_tick) := goodIn_app (goodIn_of _ (by decide +kernel)) ggL_law_X8_tick
set_option maxRecDepth 20000 in
theorem ggL_law_X7_undo : GoodIn wsL_law wsX7_undo := goodIn_r _ [606, 279, 28, 29, 30, 31, 32, 773, 774, 775, 776, 777, 778, 779, 780, 781, 782] (by decide +kernel) (by decide +kernel)
set_option maxRecDepth 20000 in
theorem gL_law_X7_undo : GoodIn wsL_law (wsV RL 57 RX7 yX7_undo wsX7_undo) := goodIn_app (goodIn_of _ (by decide +kernel)) ggL_law_X7_undo
set_option maxRecDepth 20000 in
theorem ggL_law_X8_undo : GoodIn wsL_law wsX8_undo := goodIn_r _ [610, 152, 134, 137, 783, 784, 785, 786, 787, 788, 789, 790, 791] (by decide +kernel) (by decide +kernel)
set_option maxRecDepth 20000 in
theorem gL_law_X8_undo : GoodIn wsL_law (wsV RL 60 RX8 yX8_undo wsX8_undo) := goodIn_app (goodIn_of _ (by decide +kernel)) ggL_law_X8_undo
set_option maxRecDepth 20000 in
theorem ggL_law_X7_crane : GoodIn wsL_law wsX7_crane := goodIn_r _ [614, 28, 294, 615, 616, 617, 618, 443, 619, 620, 621, 420, 23, 622, 295, 227, 2, 228, 427, 428, 429, 18, 430, 44, 45, 623, 496, 497, 43, 498, 499, 116, 500, 501, 305, 502, 624, 625, 626, 627, 127, 129, 628, 506, 507, 508, 509, 510, 629, 403, 404, 630, 631, 632, 633, 112, 119, 117, 515, 118, 634, 773, 774, 775, 776, 777, 778, 779, 780, 781, 782, 805, 806, 807, 808, 809, 810, 811, 812, 813, 814, 815, 816, 817, 818, 819, 820, 821, 798, 799, 800, 801, 802, 803, 804, 795, 796, 797] (by decide +kernel) (by decide +kernel)
set_option maxRecDepth 20000 in
theorem gL_law_X7_crane : GoodIn wsL_law (wsV RL 61 RX7 yX7_crane wsX7_crane) := goodIn_app (goodIn_of _ (by decide +kernel)) ggL_law_X7_crane
set_option maxRecDepth 20000 in
theorem ggL_law_X8_crane : GoodIn wsL_law wsX8_crane := goodIn_r _ [638, 639, 364, 365, 5, 366, 383, 384, 385, 386, 134, 554, 555, 556, 557, 570, 571, 572, 573, 574, 575, 576, 413, 414, 415, 640, 641, 642, 643, 783, 784, 785, 786, 787, 788, 789, 790, 791] (by decide +kernel) (by decide +kernel)
set_option maxRecDepth 20000 in
theorem gL_law_X8_crane : GoodIn wsL_law (wsV RL 64 RX8 yX8_crane wsX8_crane) := goodIn_app (goodIn_of _ (by decide +kernel)) ggL_law_X8_crane
set_option maxRecDepth 20000 in
theorem ggL_law_X7_stepOf : GoodIn wsL_law wsX7_stepOf := goodIn_r _ [647, 28, 294, 617, 295, 227, 2, 228, 158, 159, 160, 427, 428, 429, 18, 430, 44, 45, 624, 625, 626, 43, 627, 127, 129, 648, 649, 650, 651, 126, 128, 652, 653, 654, 655, 656, 657, 658, 659, 773, 774, 775, 776, 777, 778, 779, 780, 781, 782, 805, 806, 807, 808, 795, 796, 797, 809, 810, 811, 812, 813, 814, 815, 816, 817, 818, 819, 820, 821] (by decide +kernel) (by decide +kernel)
set_option maxRecDepth 20000 in
theorem gL_law_X7_stepOf : GoodIn wsL_law (wsV RL 65 RX7 yX7_stepOf wsX7_stepOf) := goodIn_app (goodIn_of _ (by decide +kernel)) ggL_law_X7_stepOf
set_option maxRecDepth 20000 in
theorem ggL_law_X8_stepOf : GoodIn wsL_law wsX8_stepOf := goodIn_r _ [663, 134, 639, 364, 365, 5, 366, 175, 176, 177, 383, 384, 385, 386, 783, 784, 785, 786, 787, 788, 789, 790, 791] (by decide +kernel) (by decide +kernel)
set_option maxRecDepth 20000 in
theorem gL_law_X8_stepOf : GoodIn wsL_law (wsV RL 68 RX8 yX8_stepOf wsX8_stepOf) := goodIn_app (goodIn_of _ (by decide +kernel)) ggL_law_X8_stepOf
set_option maxRecDepth 20000 in
theorem ggL_law_X7_stop : GoodIn wsL_law wsX7_stop := goodIn_r _ [667, 23, 622, 296, 297, 2, 298, 158, 159, 160, 628, 506, 507, 508, 509, 305, 510, 773, 774, 775, 776, 777, 778, 779, 780, 781, 782, 798, 799, 800, 801, 802, 803, 804] (by decide +kernel) (by decide +kernel)
set_option maxRecDepth 20000 in
theorem gL_law_X7_stop : GoodIn wsL_law (wsV RL 69 RX7 yX7_stop wsX7_stop) := goodIn_app (goodIn_of _ (by decide +kernel)) ggL_law_X7_stop
set_option maxRecDepth 20000 in
theorem ggL_law_X8_stop : GoodIn wsL_law wsX8_stop := goodIn_r _ [671, 175, 176, 5, 177, 570, 571, 572, 573, 134, 574, 575, 576, 783, 784, 785, 786, 787, 788, 789, 790, 791] (by decide +kernel) (by decide +kernel)
set_option maxRecDepth 20000 in
theorem gL_law_X8_stop : GoodIn wsL_law (wsV RL 72 RX8 yX8_stop wsX8_stop) := goodIn_app (goodIn_of _ (by decide +kernel)) ggL_law_X8_stop
set_option maxRecDepth 20000 in
theorem ggL_law_X7_half : GoodIn wsL_law wsX7_half := goodIn_r _ [675, 421, 229, 2, 230, 158, 159, 160, 629, 403, 404] (by decide +kernel) (by decide +kernel)
set_option maxRecDepth 20000 in
theorem gL_law_X7_half : GoodIn wsL_law (wsV RL 73 RX7 yX7_half wsX7_half) := goodIn_app (goodIn_of _ (by decide +kernel)) ggL_law_X7_half
set_option maxRecDepth 20000 in
theorem ggL_law_X8_half : GoodIn wsL_law wsX8_half := goodIn_r _ [679, 175, 176, 5, 177, 413, 414, 415] (by decide +kernel) (by decide +kernel)
set_option maxRecDepth 20000 in
theorem gL_law_X8_half : GoodIn wsL_law (wsV RL 76 RX8 yX8_half wsX8_half) := goodIn_app (goodIn_of _ (by decide +kernel)) ggL_law_X8_half
set_option maxRecDepth 20000 in
theorem ggL_law_X7_spot : GoodIn wsL_law wsX7_spot := goodIn_r _ [683, 28, 684, 295, 227, 2, 228, 158, 159, 160, 685, 686, 687, 27, 688, 86, 87, 689, 690, 691, 85, 692, 324, 325, 326, 327, 92, 693, 694, 695, 696, 697, 329, 330, 331, 323, 93, 773, 774, 775, 776, 777, 778, 779, 780, 781, 782, 825, 826, 827, 805, 806, 807, 808] (by decide +kernel) (by decide +kernel)
set_option maxRecDepth 20000 in
theorem gL_law_X7_spot : GoodIn wsL_law (wsV RL 77 RX7 yX7_spot wsX7_spot) := goodIn_app (goodIn_of _ (by decide +kernel)) ggL_law_X7_spot
set_option maxRecDepth 20000 in
theorem ggL_law_X8_spot : GoodIn wsL_law wsX8_spot := goodIn_r _ [701, 134, 364, 365, 5, 366, 175, 176, 177, 592, 593, 594, 783, 784, 785, 786, 787, 788, 789, 790, 791] (by decide +kernel) (by decide +kernel)
set_option maxRecDepth 20000 in
theorem gL_law_X8_spot : GoodIn wsL_law (wsV RL 80 RX8 yX8_spot wsX8_spot) := goodIn_app (goodIn_of _ (by decide +kernel)) ggL_law_X8_spot
set_option maxRecDepth 20000 in
theorem ggL_law_X7_been : GoodIn wsL_law wsX7_been := goodIn_r _ [705, 28, 295, 227, 2, 228, 158, 159, 160, 685, 686, 687, 27, 688, 86, 87, 706, 707, 708, 85, 709, 530, 531, 532, 533, 534, 535, 536, 537, 323, 324, 325, 326, 327, 92, 328, 329, 330, 331, 93, 773, 774, 775, 776, 777, 778, 779, 780, 781, 782, 805, 806, 807, 808, 825, 826, 827] (by decide +kernel) (by decide +kernel)
set_option maxRecDepth 20000 in
theorem gL_law_X7_been : GoodIn wsL_law (wsV RL 81 RX7 yX7_been wsX7_been) := goodIn_app (goodIn_of _ (by decide +kernel)) ggL_law_X7_been
set_option maxRecDepth 20000 in
theorem ggL_law_X8_been : GoodIn wsL_law wsX8_been := goodIn_r _ [713, 134, 364, 365, 5, 366, 175, 176, 177, 592, 593, 594, 599, 600, 601, 602, 783, 784, 785, 786, 787, 788, 789, 790, 791] (by decide +kernel) (by decide +kernel)
set_option maxRecDepth 20000 in
theorem gL_law_X8_been : GoodIn wsL_law (wsV RL 84 RX8 yX8_been wsX8_been) := goodIn_app (goodIn_of _ (by decide +kernel)) ggL_law_X8_been
set_option maxRecDepth 20000 in
theorem ggL_law_X7_ahead : GoodIn wsL_law wsX7_ahead := goodIn_r _ [717, 19, 28, 294, 23, 619, 508, 509, 305, 510, 505, 501, 502, 718, 615, 616, 617, 618, 158, 159, 2, 160, 295, 227, 228, 719, 312, 313, 18, 314, 44, 45, 46, 315, 316, 317, 43, 318, 111, 112, 114, 116, 117, 118, 119, 120, 126, 127, 128, 129, 121, 427, 428, 429, 430, 720, 469, 470, 471, 472, 473, 474, 475, 476, 477, 478, 479, 480, 481, 482, 483, 484, 485, 486, 487, 488, 489, 490, 491, 492, 493, 494, 495, 496, 497, 498, 499, 500, 503, 504, 303, 304, 306, 506, 507, 511, 512, 513, 514, 515, 516, 517, 518, 519, 520, 521, 522, 523, 773, 774, 775, 776, 777, 778, 779, 780, 781, 782, 805, 806, 807, 808, 809, 810, 811, 812, 813, 814, 815, 816, 817, 818, 819, 820, 821, 795, 796, 797, 798, 799, 800, 801, 802, 803, 804] (by decide +kernel) (by decide +kernel)
set_option maxRecDepth 20000 in
theorem gL_law_X7_ahead : GoodIn wsL_law (wsV RL 85 RX7 yX7_ahead wsX7_ahead) := goodIn_app (goodIn_of _ (by decide +kernel)) ggL_law_X7_ahead
set_option maxRecDepth 20000 in
theorem ggL_law_X8_ahead : GoodIn wsL_law wsX8_ahead := goodIn_r _ [724, 175, 176, 5, 177, 364, 365, 366, 725, 726, 727, 728, 136, 134, 542, 543, 544, 545, 546, 547, 548, 549, 383, 384, 385, 386, 379, 380, 381, 382, 550, 551, 552, 553, 554, 555, 556, 557, 558, 559, 560, 561, 562, 563, 564, 565, 566, 567, 568, 569, 570, 571, 572, 573, 574, 575, 576, 577, 578, 579, 580, 581, 582, 583, 584, 585, 586, 587, 729, 730, 731, 732, 639, 733, 734, 735, 736, 783, 784, 785, 786, 787, 788, 789, 790, 791] (by decide +kernel) (by decide +kernel)
set_option maxRecDepth 20000 in
theorem gL_law_X8_ahead : GoodIn wsL_law (wsV RL 88 RX8 yX8_ahead wsX8_ahead) := goodIn_app (goodIn_of _ (by decide +kernel)) ggL_law_X8_ahead
set_option maxRecDepth 20000 in
theorem ggL_law_X7_quiet : GoodIn wsL_law wsX7_quiet := goodIn_r _ [740, 19, 28, 294, 23, 295, 227, 2, 228, 719, 312, 313, 18, 314, 44, 45, 46, 315, 316, 317, 43, 318, 111, 112, 114, 116, 117, 118, 119, 120, 126, 127, 128, 129, 121, 336, 337, 338, 339, 340, 341, 342, 343, 344, 345, 346, 347, 348, 349, 350, 351, 122, 123, 124, 125, 352, 353, 354, 355, 356, 357, 358, 359, 427, 428, 429, 430, 630, 631, 632, 633, 515, 509, 305, 510, 634, 625, 626, 627, 720, 469, 470, 471, 472, 473, 474, 475, 476, 477, 478, 479, 480, 481, 482, 483, 484, 485, 486, 487, 488, 489, 490, 491, 492, 493, 494, 495, 496, 497, 498, 499, 500, 501, 502, 503, 504, 303, 304, 306, 505, 506, 507, 508, 511, 512, 513, 514, 516, 517, 518, 519, 520, 521, 522, 523, 773, 774, 775, 776, 777, 778, 779, 780, 781, 782, 805, 806, 807, 808, 795, 796, 797, 809, 810, 811, 812, 813, 814, 815, 816, 817, 818, 819, 820, 821, 798, 799, 800, 801, 802, 803, 804] (by decide +kernel) (by decide +kernel)
set_option maxRecDepth 20000 in
theorem gL_law_X7_quiet : GoodIn wsL_law (wsV RL 89 RX7 yX7_quiet wsX7_quiet) := goodIn_app (goodIn_of _ (by decide +kernel)) ggL_law_X7_quiet
set_option maxRecDepth 20000 in
theorem ggL_law_X8_quiet : GoodIn wsL_law wsX8_quiet := goodIn_r _ [744, 364, 365, 5, 366, 725, 726, 727, 728, 136, 134, 371, 372, 373, 374, 375, 376, 377, 378, 379, 380, 381, 382, 383, 384, 385, 386, 387, 388, 389, 390, 640, 641, 642, 643, 574, 575, 576, 542, 543, 544, 545, 546, 547, 548, 549, 550, 551, 552, 553, 554, 555, 556, 557, 558, 559, 560, 561, 562, 563, 564, 565, 566, 567, 568, 569, 570, 571, 572, 573, 577, 578, 579, 580, 581, 582, 583, 584, 585, 586, 587, 733, 734, 735, 736, 783, 784, 785, 786, 787, 788, 789, 790, 791] (by decide +kernel) (by decide +kernel)
set_option maxRecDepth 20000 in
theorem gL_law_X8_quiet : GoodIn wsL_law (wsV RL 92 RX8 yX8_quiet wsX8_quiet) := goodIn_app (goodIn_of _ (by decide +kernel)) ggL_law_X8_quiet
set_option maxRecDepth 20000 in
theorem ggL_law_X7_best : GoodIn wsL_law wsX7_best := goodIn_r _ [748, 295, 227, 2, 228, 296, 297, 298, 158, 159, 160, 749, 750, 751, 752, 19, 28, 294, 23, 619, 508, 509, 305, 510, 505, 501, 502, 719, 312, 313, 18, 314, 44, 45, 46, 315, 316, 317, 43, 318, 111, 112, 114, 116, 117, 118, 119, 120, 126, 127, 128, 129, 121, 395, 396, 397, 398, 340, 341, 342, 343, 344, 345, 346, 347, 399, 400, 401, 402, 403, 404, 122, 123, 124, 125, 352, 353, 354, 355, 356, 357, 358, 359, 427, 428, 429, 430, 720, 469, 470, 471, 472, 473, 474, 475, 476, 477, 478, 479, 480, 481, 482, 483, 484, 485, 486, 487, 488, 489, 490, 491, 492, 493, 494, 495, 496, 497, 498, 499, 500, 503, 504, 303, 304, 306, 506, 507, 511, 512, 513, 514, 515, 516, 517, 518, 519, 520, 521, 522, 523, 773, 774, 775, 776, 777, 778, 779, 780, 781, 782, 805, 806, 807, 808, 809, 810, 811, 812, 813, 814, 815, 816, 817, 818, 819, 820, 821, 795, 796, 797, 798, 799, 800, 801, 802, 803, 804] (by decide +kernel) (by decide +kernel)
set_option maxRecDepth 20000 in
theorem gL_law_X7_best : GoodIn wsL_law (wsV RL 93 RX7 yX7_best wsX7_best) := goodIn_app (goodIn_of _ (by decide +kernel)) ggL_law_X7_best
set_option maxRecDepth 20000 in
theorem ggL_law_X8_best : GoodIn wsL_law wsX8_best := goodIn_r _ [756, 364, 365, 5, 366, 175, 176, 177, 757, 758, 759, 760, 725, 726, 727, 728, 136, 134, 371, 372, 373, 374, 375, 376, 377, 378, 379, 380, 381, 382, 383, 384, 385, 386, 387, 388, 389, 390, 542, 543, 544, 545, 546, 547, 548, 549, 550, 551, 552, 553, 554, 555, 556, 557, 558, 559, 560, 561, 562, 563, 564, 565, 566, 567, 568, 569, 570, 571, 572, 573, 574, 575, 576, 577, 578, 579, 580, 581, 582, 583, 584, 585, 586, 587, 733, 734, 735, 736, 783, 784, 785, 786, 787, 788, 789, 790, 791] (by decide +kernel) (by decide +kernel)
set_option maxRecDepth 20000 in
theorem gL_law_X8_best : GoodIn wsL_law (wsV RL 96 RX8 yX8_best wsX8_best) := goodIn_app (goodIn_of _ (by decide +kernel)) ggL_law_X8_best
set_option maxRecDepth 20000 in
theorem ggL_law_X7_count : GoodIn wsL_law wsX7_count := goodIn_r _ [764, 23, 280, 765, 622, 766, 767, 28, 294, 452, 461, 279, 15, 157, 768, 478, 479, 18, 480, 45, 472, 44, 481, 773, 774, 775, 776, 777, 778, 779, 780, 781, 782, 798, 799, 800, 801, 802, 803, 804, 805, 806, 807, 808, 795, 796, 797, 792, 793, 794, 809, 810, 811, 812, 813, 814, 815, 816, 817, 818, 819, 820, 821] (by decide +kernel) (by decide +kernel)
set_option maxRecDepth 20000 in
theorem gL_law_X7_count : GoodIn wsL_law (wsV RL 97 RX7 yX7_count wsX7_count) := goodIn_app (goodIn_of _ (by decide +kernel)) ggL_law_X7_count
set_option maxRecDepth 20000 in
theorem ggL_law_X8_count : GoodIn wsL_law wsX8_count := goodIn_r _ [772, 152, 174, 134, 566, 567, 568, 5, 569, 383, 384, 385, 386, 175, 176, 177, 783, 784, 785, 786, 787, 788, 789, 790, 791] (by decide +kernel) (by decide +kernel)
set_option maxRecDepth 20000 in
theorem gL_law_X8_count : GoodIn wsL_law (wsV RL 100 RX8 yX8_count wsX8_count) := goodIn_app (goodIn_of _ (by decide +kernel)) ggL_law_X8_count
theorem dL_law_0 : decode cL_law 0 = .ok (.new 7, 3) := by decide +kernel
theorem dL_law_3 : decode cL_law 3 = .ok (.dup, 1) := by decide +kernel
theorem dL_law_4 : decode cL_law 4 = .ok (.invokespecial 9, 3) := by decide +kernel
theorem dL_law_7 : decode cL_law 7 = .ok (.astore_n 1, 1) := by decide +kernel
theorem dL_law_8 : decode cL_law 8 = .ok (.new 10, 3) := by decide +kernel
theorem dL_law_11 : decode cL_law 11 = .ok (.dup, 1) := by decide +kernel
theorem dL_law_12 : decode cL_law 12 = .ok (.invokespecial 12, 3) := by decide +kernel
theorem dL_law_15 : decode cL_law 15 = .ok (.astore_n 2, 1) := by decide +kernel
theorem dL_law_16 : decode cL_law 16 = .ok (.iconst 0, 1) := by decide +kernel
theorem dL_law_17 : decode cL_law 17 = .ok (.istore_n 3, 1) := by decide +kernel
theorem dL_law_18 : decode cL_law 18 = .ok (.iload_n 3, 1) := by decide +kernel
theorem dL_law_19 : decode cL_law 19 = .ok (.aload_n 0, 1) := by decide +kernel
theorem dL_law_20 : decode cL_law 20 = .ok (.arraylength, 1) := by decide +kernel
theorem dL_law_21 : decode cL_law 21 = .ok (.iconst 4, 1) := by decide +kernel
theorem dL_law_22 : decode cL_law 22 = .ok (.isub, 1) := by decide +kernel
theorem dL_law_23 : decode cL_law 23 = .ok (.if_icmp .gt 718, 3) := by decide +kernel
theorem dL_law_26 : decode cL_law 26 = .ok (.aload_n 0, 1) := by decide +kernel
theorem dL_law_27 : decode cL_law 27 = .ok (.iload_n 3, 1) := by decide +kernel
theorem dL_law_28 : decode cL_law 28 = .ok (.iaload, 1) := by decide +kernel
theorem dL_law_29 : decode cL_law 29 = .ok (.bipush 31, 2) := by decide +kernel
theorem dL_law_31 : decode cL_law 31 = .ok (.iand, 1) := by decide +kernel
theorem dL_law_32 : decode cL_law 32 = .ok (.tableswitch 703 0 20 #[100, 123, 136, 149, 162, 195, 238, 271, 304, 327, 350, 363, 396, 439, 462, 485, 528, 571, 614, 637, 680], 100) := by decide +kernel
theorem dL_law_132 : decode cL_law 132 = .ok (.aload_n 1, 1) := by decide +kernel
theorem dL_law_133 : decode cL_law 133 = .ok (.aload_n 0, 1) := by decide +kernel
theorem dL_law_134 : decode cL_law 134 = .ok (.iload_n 3, 1) := by decide +kernel
theorem dL_law_135 : decode cL_law 135 = .ok (.iconst 1, 1) := by decide +kernel
theorem dL_law_136 : decode cL_law 136 = .ok (.iadd, 1) := by decide +kernel
theorem dL_law_137 : decode cL_law 137 = .ok (.iaload, 1) := by decide +kernel
theorem dL_law_138 : decode cL_law 138 = .ok (.invokevirtual 13, 3) := by decide +kernel
theorem dL_law_141 : decode cL_law 141 = .ok (.aload_n 2, 1) := by decide +kernel
theorem dL_law_142 : decode cL_law 142 = .ok (.aload_n 0, 1) := by decide +kernel
theorem dL_law_143 : decode cL_law 143 = .ok (.iload_n 3, 1) := by decide +kernel
theorem dL_law_144 : decode cL_law 144 = .ok (.iconst 1, 1) := by decide +kernel
theorem dL_law_145 : decode cL_law 145 = .ok (.iadd, 1) := by decide +kernel
theorem dL_law_146 : decode cL_law 146 = .ok (.iaload, 1) := by decide +kernel
theorem dL_law_147 : decode cL_law 147 = .ok (.invokevirtual 17, 3) := by decide +kernel
theorem dL_law_150 : decode cL_law 150 = .ok (.if_icmp .eq 585, 3) := by decide +kernel
theorem dL_law_153 : decode cL_law 153 = .ok (.iconst 0, 1) := by decide +kernel
theorem dL_law_154 : decode cL_law 154 = .ok (.ireturn, 1) := by decide +kernel
theorem dL_law_155 : decode cL_law 155 = .ok (.aload_n 1, 1) := by decide +kernel
theorem dL_law_156 : decode cL_law 156 = .ok (.invokevirtual 18, 3) := by decide +kernel
theorem dL_law_159 : decode cL_law 159 = .ok (.aload_n 2, 1) := by decide +kernel
theorem dL_law_160 : decode cL_law 160 = .ok (.invokevirtual 22, 3) := by decide +kernel
theorem dL_law_163 : decode cL_law 163 = .ok (.if_icmp .eq 572, 3) := by decide +kernel
theorem dL_law_166 : decode cL_law 166 = .ok (.iconst 0, 1) := by decide +kernel
theorem dL_law_167 : decode cL_law 167 = .ok (.ireturn, 1) := by decide +kernel
theorem dL_law_168 : decode cL_law 168 = .ok (.aload_n 1, 1) := by decide +kernel
theorem dL_law_169 : decode cL_law 169 = .ok (.invokevirtual 23, 3) := by decide +kernel
theorem dL_law_172 : decode cL_law 172 = .ok (.aload_n 2, 1) := by decide +kernel
theorem dL_law_173 : decode cL_law 173 = .ok (.invokevirtual 26, 3) := by decide +kernel
theorem dL_law_176 : decode cL_law 176 = .ok (.if_icmp .eq 559, 3) := by decide +kernel
theorem dL_law_179 : decode cL_law 179 = .ok (.iconst 0, 1) := by decide +kernel
theorem dL_law_180 : decode cL_law 180 = .ok (.ireturn, 1) := by decide +kernel
theorem dL_law_181 : decode cL_law 181 = .ok (.aload_n 1, 1) := by decide +kernel
theorem dL_law_182 : decode cL_law 182 = .ok (.invokevirtual 27, 3) := by decide +kernel
theorem dL_law_185 : decode cL_law 185 = .ok (.aload_n 2, 1) := by decide +kernel
theorem dL_law_186 : decode cL_law 186 = .ok (.invokevirtual 30, 3) := by decide +kernel
theorem dL_law_189 : decode cL_law 189 = .ok (.if_icmp .eq 546, 3) := by decide +kernel
theorem dL_law_192 : decode cL_law 192 = .ok (.iconst 0, 1) := by decide +kernel
theorem dL_law_193 : decode cL_law 193 = .ok (.ireturn, 1) := by decide +kernel
theorem dL_law_194 : decode cL_law 194 = .ok (.aload_n 1, 1) := by decide +kernel
theorem dL_law_195 : decode cL_law 195 = .ok (.aload_n 0, 1) := by decide +kernel
theorem dL_law_196 : decode cL_law 196 = .ok (.iload_n 3, 1) := by decide +kernel
theorem dL_law_197 : decode cL_law 197 = .ok (.iconst 1, 1) := by decide +kernel
theorem dL_law_198 : decode cL_law 198 = .ok (.iadd, 1) := by decide +kernel
theorem dL_law_199 : decode cL_law 199 = .ok (.iaload, 1) := by decide +kernel
theorem dL_law_200 : decode cL_law 200 = .ok (.aload_n 0, 1) := by decide +kernel
theorem dL_law_201 : decode cL_law 201 = .ok (.iload_n 3, 1) := by decide +kernel
theorem dL_law_202 : decode cL_law 202 = .ok (.iconst 2, 1) := by decide +kernel
theorem dL_law_203 : decode cL_law 203 = .ok (.iadd, 1) := by decide +kernel
theorem dL_law_204 : decode cL_law 204 = .ok (.iaload, 1) := by decide +kernel
theorem dL_law_205 : decode cL_law 205 = .ok (.invokevirtual 31, 3) := by decide +kernel
theorem dL_law_208 : decode cL_law 208 = .ok (.aload_n 2, 1) := by decide +kernel
theorem dL_law_209 : decode cL_law 209 = .ok (.aload_n 0, 1) := by decide +kernel
theorem dL_law_210 : decode cL_law 210 = .ok (.iload_n 3, 1) := by decide +kernel
theorem dL_law_211 : decode cL_law 211 = .ok (.iconst 1, 1) := by decide +kernel
theorem dL_law_212 : decode cL_law 212 = .ok (.iadd, 1) := by decide +kernel
theorem dL_law_213 : decode cL_law 213 = .ok (.iaload, 1) := by decide +kernel
theorem dL_law_214 : decode cL_law 214 = .ok (.aload_n 0, 1) := by decide +kernel
theorem dL_law_215 : decode cL_law 215 = .ok (.iload_n 3, 1) := by decide +kernel
theorem dL_law_216 : decode cL_law 216 = .ok (.iconst 2, 1) := by decide +kernel
theorem dL_law_217 : decode cL_law 217 = .ok (.iadd, 1) := by decide +kernel
theorem dL_law_218 : decode cL_law 218 = .ok (.iaload, 1) := by decide +kernel
theorem dL_law_219 : decode cL_law 219 = .ok (.invokevirtual 35, 3) := by decide +kernel
theorem dL_law_222 : decode cL_law 222 = .ok (.if_icmp .eq 513, 3) := by decide +kernel
theorem dL_law_225 : decode cL_law 225 = .ok (.iconst 0, 1) := by decide +kernel
theorem dL_law_226 : decode cL_law 226 = .ok (.ireturn, 1) := by decide +kernel
theorem dL_law_227 : decode cL_law 227 = .ok (.aload_n 1, 1) := by decide +kernel
theorem dL_law_228 : decode cL_law 228 = .ok (.aload_n 0, 1) := by decide +kernel
theorem dL_law_229 : decode cL_law 229 = .ok (.iload_n 3, 1) := by decide +kernel
theorem dL_law_230 : decode cL_law 230 = .ok (.iconst 1, 1) := by decide +kernel
theorem dL_law_231 : decode cL_law 231 = .ok (.iadd, 1) := by decide +kernel
theorem dL_law_232 : decode cL_law 232 = .ok (.iaload, 1) := by decide +kernel
theorem dL_law_233 : decode cL_law 233 = .ok (.aload_n 0, 1) := by decide +kernel
theorem dL_law_234 : decode cL_law 234 = .ok (.iload_n 3, 1) := by decide +kernel
theorem dL_law_235 : decode cL_law 235 = .ok (.iconst 2, 1) := by decide +kernel
theorem dL_law_236 : decode cL_law 236 = .ok (.iadd, 1) := by decide +kernel
theorem dL_law_237 : decode cL_law 237 = .ok (.iaload, 1) := by decide +kernel
theorem dL_law_238 : decode cL_law 238 = .ok (.aload_n 0, 1) := by decide +kernel
theorem dL_law_239 : decode cL_law 239 = .ok (.iload_n 3, 1) := by decide +kernel
theorem dL_law_240 : decode cL_law 240 = .ok (.iconst 3, 1) := by decide +kernel
theorem dL_law_241 : decode cL_law 241 = .ok (.iadd, 1) := by decide +kernel
theorem dL_law_242 : decode cL_law 242 = .ok (.iaload, 1) := by decide +kernel
theorem dL_law_243 : decode cL_law 243 = .ok (.invokevirtual 36, 3) := by decide +kernel
theorem dL_law_246 : decode cL_law 246 = .ok (.aload_n 2, 1) := by decide +kernel
theorem dL_law_247 : decode cL_law 247 = .ok (.aload_n 0, 1) := by decide +kernel
theorem dL_law_248 : decode cL_law 248 = .ok (.iload_n 3, 1) := by decide +kernel
theorem dL_law_249 : decode cL_law 249 = .ok (.iconst 1, 1) := by decide +kernel
theorem dL_law_250 : decode cL_law 250 = .ok (.iadd, 1) := by decide +kernel
theorem dL_law_251 : decode cL_law 251 = .ok (.iaload, 1) := by decide +kernel
theorem dL_law_252 : decode cL_law 252 = .ok (.aload_n 0, 1) := by decide +kernel
theorem dL_law_253 : decode cL_law 253 = .ok (.iload_n 3, 1) := by decide +kernel
theorem dL_law_254 : decode cL_law 254 = .ok (.iconst 2, 1) := by decide +kernel
theorem dL_law_255 : decode cL_law 255 = .ok (.iadd, 1) := by decide +kernel
theorem dL_law_256 : decode cL_law 256 = .ok (.iaload, 1) := by decide +kernel
theorem dL_law_257 : decode cL_law 257 = .ok (.aload_n 0, 1) := by decide +kernel
theorem dL_law_258 : decode cL_law 258 = .ok (.iload_n 3, 1) := by decide +kernel
theorem dL_law_259 : decode cL_law 259 = .ok (.iconst 3, 1) := by decide +kernel
theorem dL_law_260 : decode cL_law 260 = .ok (.iadd, 1) := by decide +kernel
theorem dL_law_261 : decode cL_law 261 = .ok (.iaload, 1) := by decide +kernel
theorem dL_law_262 : decode cL_law 262 = .ok (.invokevirtual 40, 3) := by decide +kernel
theorem dL_law_265 : decode cL_law 265 = .ok (.if_icmp .eq 470, 3) := by decide +kernel
theorem dL_law_268 : decode cL_law 268 = .ok (.iconst 0, 1) := by decide +kernel
theorem dL_law_269 : decode cL_law 269 = .ok (.ireturn, 1) := by decide +kernel
theorem dL_law_270 : decode cL_law 270 = .ok (.aload_n 1, 1) := by decide +kernel
theorem dL_law_271 : decode cL_law 271 = .ok (.aload_n 0, 1) := by decide +kernel
theorem dL_law_272 : decode cL_law 272 = .ok (.iload_n 3, 1) := by decide +kernel
theorem dL_law_273 : decode cL_law 273 = .ok (.iconst 1, 1) := by decide +kernel
theorem dL_law_274 : decode cL_law 274 = .ok (.iadd, 1) := by decide +kernel
theorem dL_law_275 : decode cL_law 275 = .ok (.iaload, 1) := by decide +kernel
theorem dL_law_276 : decode cL_law 276 = .ok (.aload_n 0, 1) := by decide +kernel
theorem dL_law_277 : decode cL_law 277 = .ok (.iload_n 3, 1) := by decide +kernel
theorem dL_law_278 : decode cL_law 278 = .ok (.iconst 2, 1) := by decide +kernel
theorem dL_law_279 : decode cL_law 279 = .ok (.iadd, 1) := by decide +kernel
theorem dL_law_280 : decode cL_law 280 = .ok (.iaload, 1) := by decide +kernel
theorem dL_law_281 : decode cL_law 281 = .ok (.invokevirtual 41, 3) := by decide +kernel
theorem dL_law_284 : decode cL_law 284 = .ok (.aload_n 2, 1) := by decide +kernel
theorem dL_law_285 : decode cL_law 285 = .ok (.aload_n 0, 1) := by decide +kernel
theorem dL_law_286 : decode cL_law 286 = .ok (.iload_n 3, 1) := by decide +kernel
theorem dL_law_287 : decode cL_law 287 = .ok (.iconst 1, 1) := by decide +kernel
theorem dL_law_288 : decode cL_law 288 = .ok (.iadd, 1) := by decide +kernel
theorem dL_law_289 : decode cL_law 289 = .ok (.iaload, 1) := by decide +kernel
theorem dL_law_290 : decode cL_law 290 = .ok (.aload_n 0, 1) := by decide +kernel
theorem dL_law_291 : decode cL_law 291 = .ok (.iload_n 3, 1) := by decide +kernel
theorem dL_law_292 : decode cL_law 292 = .ok (.iconst 2, 1) := by decide +kernel
theorem dL_law_293 : decode cL_law 293 = .ok (.iadd, 1) := by decide +kernel
theorem dL_law_294 : decode cL_law 294 = .ok (.iaload, 1) := by decide +kernel
theorem dL_law_295 : decode cL_law 295 = .ok (.invokevirtual 44, 3) := by decide +kernel
theorem dL_law_298 : decode cL_law 298 = .ok (.if_icmp .eq 437, 3) := by decide +kernel
theorem dL_law_301 : decode cL_law 301 = .ok (.iconst 0, 1) := by decide +kernel
theorem dL_law_302 : decode cL_law 302 = .ok (.ireturn, 1) := by decide +kernel
theorem dL_law_303 : decode cL_law 303 = .ok (.aload_n 1, 1) := by decide +kernel
theorem dL_law_304 : decode cL_law 304 = .ok (.aload_n 0, 1) := by decide +kernel
theorem dL_law_305 : decode cL_law 305 = .ok (.iload_n 3, 1) := by decide +kernel
theorem dL_law_306 : decode cL_law 306 = .ok (.iconst 1, 1) := by decide +kernel
theorem dL_law_307 : decode cL_law 307 = .ok (.iadd, 1) := by decide +kernel
theorem dL_law_308 : decode cL_law 308 = .ok (.iaload, 1) := by decide +kernel
theorem dL_law_309 : decode cL_law 309 = .ok (.aload_n 0, 1) := by decide +kernel
theorem dL_law_310 : decode cL_law 310 = .ok (.iload_n 3, 1) := by decide +kernel
theorem dL_law_311 : decode cL_law 311 = .ok (.iconst 2, 1) := by decide +kernel
theorem dL_law_312 : decode cL_law 312 = .ok (.iadd, 1) := by decide +kernel
theorem dL_law_313 : decode cL_law 313 = .ok (.iaload, 1) := by decide +kernel
theorem dL_law_314 : decode cL_law 314 = .ok (.invokevirtual 45, 3) := by decide +kernel
theorem dL_law_317 : decode cL_law 317 = .ok (.aload_n 2, 1) := by decide +kernel
theorem dL_law_318 : decode cL_law 318 = .ok (.aload_n 0, 1) := by decide +kernel
theorem dL_law_319 : decode cL_law 319 = .ok (.iload_n 3, 1) := by decide +kernel
theorem dL_law_320 : decode cL_law 320 = .ok (.iconst 1, 1) := by decide +kernel
theorem dL_law_321 : decode cL_law 321 = .ok (.iadd, 1) := by decide +kernel
theorem dL_law_322 : decode cL_law 322 = .ok (.iaload, 1) := by decide +kernel
theorem dL_law_323 : decode cL_law 323 = .ok (.aload_n 0, 1) := by decide +kernel
theorem dL_law_324 : decode cL_law 324 = .ok (.iload_n 3, 1) := by decide +kernel
theorem dL_law_325 : decode cL_law 325 = .ok (.iconst 2, 1) := by decide +kernel
theorem dL_law_326 : decode cL_law 326 = .ok (.iadd, 1) := by decide +kernel
theorem dL_law_327 : decode cL_law 327 = .ok (.iaload, 1) := by decide +kernel
theorem dL_law_328 : decode cL_law 328 = .ok (.invokevirtual 48, 3) := by decide +kernel
theorem dL_law_331 : decode cL_law 331 = .ok (.if_icmp .eq 404, 3) := by decide +kernel
theorem dL_law_334 : decode cL_law 334 = .ok (.iconst 0, 1) := by decide +kernel
theorem dL_law_335 : decode cL_law 335 = .ok (.ireturn, 1) := by decide +kernel
theorem dL_law_336 : decode cL_law 336 = .ok (.aload_n 1, 1) := by decide +kernel
theorem dL_law_337 : decode cL_law 337 = .ok (.aload_n 0, 1) := by decide +kernel
theorem dL_law_338 : decode cL_law 338 = .ok (.iload_n 3, 1) := by decide +kernel
theorem dL_law_339 : decode cL_law 339 = .ok (.iconst 1, 1) := by decide +kernel
theorem dL_law_340 : decode cL_law 340 = .ok (.iadd, 1) := by decide +kernel
theorem dL_law_341 : decode cL_law 341 = .ok (.iaload, 1) := by decide +kernel
theorem dL_law_342 : decode cL_law 342 = .ok (.invokevirtual 49, 3) := by decide +kernel
theorem dL_law_345 : decode cL_law 345 = .ok (.aload_n 2, 1) := by decide +kernel
theorem dL_law_346 : decode cL_law 346 = .ok (.aload_n 0, 1) := by decide +kernel
theorem dL_law_347 : decode cL_law 347 = .ok (.iload_n 3, 1) := by decide +kernel
theorem dL_law_348 : decode cL_law 348 = .ok (.iconst 1, 1) := by decide +kernel
theorem dL_law_349 : decode cL_law 349 = .ok (.iadd, 1) := by decide +kernel
theorem dL_law_350 : decode cL_law 350 = .ok (.iaload, 1) := by decide +kernel
theorem dL_law_351 : decode cL_law 351 = .ok (.invokevirtual 52, 3) := by decide +kernel
theorem dL_law_354 : decode cL_law 354 = .ok (.if_icmp .eq 381, 3) := by decide +kernel
theorem dL_law_357 : decode cL_law 357 = .ok (.iconst 0, 1) := by decide +kernel
theorem dL_law_358 : decode cL_law 358 = .ok (.ireturn, 1) := by decide +kernel
theorem dL_law_359 : decode cL_law 359 = .ok (.aload_n 1, 1) := by decide +kernel
theorem dL_law_360 : decode cL_law 360 = .ok (.aload_n 0, 1) := by decide +kernel
theorem dL_law_361 : decode cL_law 361 = .ok (.iload_n 3, 1) := by decide +kernel
theorem dL_law_362 : decode cL_law 362 = .ok (.iconst 1, 1) := by decide +kernel
theorem dL_law_363 : decode cL_law 363 = .ok (.iadd, 1) := by decide +kernel
theorem dL_law_364 : decode cL_law 364 = .ok (.iaload, 1) := by decide +kernel
theorem dL_law_365 : decode cL_law 365 = .ok (.invokevirtual 53, 3) := by decide +kernel
theorem dL_law_368 : decode cL_law 368 = .ok (.aload_n 2, 1) := by decide +kernel
theorem dL_law_369 : decode cL_law 369 = .ok (.aload_n 0, 1) := by decide +kernel
theorem dL_law_370 : decode cL_law 370 = .ok (.iload_n 3, 1) := by decide +kernel
theorem dL_law_371 : decode cL_law 371 = .ok (.iconst 1, 1) := by decide +kernel
theorem dL_law_372 : decode cL_law 372 = .ok (.iadd, 1) := by decide +kernel
theorem dL_law_373 : decode cL_law 373 = .ok (.iaload, 1) := by decide +kernel
theorem dL_law_374 : decode cL_law 374 = .ok (.invokevirtual 56, 3) := by decide +kernel
theorem dL_law_377 : decode cL_law 377 = .ok (.if_icmp .eq 358, 3) := by decide +kernel
theorem dL_law_380 : decode cL_law 380 = .ok (.iconst 0, 1) := by decide +kernel
theorem dL_law_381 : decode cL_law 381 = .ok (.ireturn, 1) := by decide +kernel
theorem dL_law_382 : decode cL_law 382 = .ok (.aload_n 1, 1) := by decide +kernel
theorem dL_law_383 : decode cL_law 383 = .ok (.invokevirtual 57, 3) := by decide +kernel
theorem dL_law_386 : decode cL_law 386 = .ok (.aload_n 2, 1) := by decide +kernel
theorem dL_law_387 : decode cL_law 387 = .ok (.invokevirtual 60, 3) := by decide +kernel
theorem dL_law_390 : decode cL_law 390 = .ok (.if_icmp .eq 345, 3) := by decide +kernel
theorem dL_law_393 : decode cL_law 393 = .ok (.iconst 0, 1) := by decide +kernel
theorem dL_law_394 : decode cL_law 394 = .ok (.ireturn, 1) := by decide +kernel
theorem dL_law_395 : decode cL_law 395 = .ok (.aload_n 1, 1) := by decide +kernel
theorem dL_law_396 : decode cL_law 396 = .ok (.aload_n 0, 1) := by decide +kernel
theorem dL_law_397 : decode cL_law 397 = .ok (.iload_n 3, 1) := by decide +kernel
theorem dL_law_398 : decode cL_law 398 = .ok (.iconst 1, 1) := by decide +kernel
theorem dL_law_399 : decode cL_law 399 = .ok (.iadd, 1) := by decide +kernel
theorem dL_law_400 : decode cL_law 400 = .ok (.iaload, 1) := by decide +kernel
theorem dL_law_401 : decode cL_law 401 = .ok (.aload_n 0, 1) := by decide +kernel
theorem dL_law_402 : decode cL_law 402 = .ok (.iload_n 3, 1) := by decide +kernel
theorem dL_law_403 : decode cL_law 403 = .ok (.iconst 2, 1) := by decide +kernel
theorem dL_law_404 : decode cL_law 404 = .ok (.iadd, 1) := by decide +kernel
theorem dL_law_405 : decode cL_law 405 = .ok (.iaload, 1) := by decide +kernel
theorem dL_law_406 : decode cL_law 406 = .ok (.invokevirtual 61, 3) := by decide +kernel
theorem dL_law_409 : decode cL_law 409 = .ok (.aload_n 2, 1) := by decide +kernel
theorem dL_law_410 : decode cL_law 410 = .ok (.aload_n 0, 1) := by decide +kernel
theorem dL_law_411 : decode cL_law 411 = .ok (.iload_n 3, 1) := by decide +kernel
theorem dL_law_412 : decode cL_law 412 = .ok (.iconst 1, 1) := by decide +kernel
theorem dL_law_413 : decode cL_law 413 = .ok (.iadd, 1) := by decide +kernel
theorem dL_law_414 : decode cL_law 414 = .ok (.iaload, 1) := by decide +kernel
theorem dL_law_415 : decode cL_law 415 = .ok (.aload_n 0, 1) := by decide +kernel
theorem dL_law_416 : decode cL_law 416 = .ok (.iload_n 3, 1) := by decide +kernel
theorem dL_law_417 : decode cL_law 417 = .ok (.iconst 2, 1) := by decide +kernel
theorem dL_law_418 : decode cL_law 418 = .ok (.iadd, 1) := by decide +kernel
theorem dL_law_419 : decode cL_law 419 = .ok (.iaload, 1) := by decide +kernel
theorem dL_law_420 : decode cL_law 420 = .ok (.invokevirtual 64, 3) := by decide +kernel
theorem dL_law_423 : decode cL_law 423 = .ok (.if_icmp .eq 312, 3) := by decide +kernel
theorem dL_law_426 : decode cL_law 426 = .ok (.iconst 0, 1) := by decide +kernel
theorem dL_law_427 : decode cL_law 427 = .ok (.ireturn, 1) := by decide +kernel
theorem dL_law_428 : decode cL_law 428 = .ok (.aload_n 1, 1) := by decide +kernel
theorem dL_law_429 : decode cL_law 429 = .ok (.aload_n 0, 1) := by decide +kernel
theorem dL_law_430 : decode cL_law 430 = .ok (.iload_n 3, 1) := by decide +kernel
theorem dL_law_431 : decode cL_law 431 = .ok (.iconst 1, 1) := by decide +kernel
theorem dL_law_432 : decode cL_law 432 = .ok (.iadd, 1) := by decide +kernel
theorem dL_law_433 : decode cL_law 433 = .ok (.iaload, 1) := by decide +kernel
theorem dL_law_434 : decode cL_law 434 = .ok (.aload_n 0, 1) := by decide +kernel
theorem dL_law_435 : decode cL_law 435 = .ok (.iload_n 3, 1) := by decide +kernel
theorem dL_law_436 : decode cL_law 436 = .ok (.iconst 2, 1) := by decide +kernel
theorem dL_law_437 : decode cL_law 437 = .ok (.iadd, 1) := by decide +kernel
theorem dL_law_438 : decode cL_law 438 = .ok (.iaload, 1) := by decide +kernel
theorem dL_law_439 : decode cL_law 439 = .ok (.aload_n 0, 1) := by decide +kernel
theorem dL_law_440 : decode cL_law 440 = .ok (.iload_n 3, 1) := by decide +kernel
theorem dL_law_441 : decode cL_law 441 = .ok (.iconst 3, 1) := by decide +kernel
theorem dL_law_442 : decode cL_law 442 = .ok (.iadd, 1) := by decide +kernel
theorem dL_law_443 : decode cL_law 443 = .ok (.iaload, 1) := by decide +kernel
theorem dL_law_444 : decode cL_law 444 = .ok (.invokevirtual 65, 3) := by decide +kernel
theorem dL_law_447 : decode cL_law 447 = .ok (.aload_n 2, 1) := by decide +kernel
theorem dL_law_448 : decode cL_law 448 = .ok (.aload_n 0, 1) := by decide +kernel
theorem dL_law_449 : decode cL_law 449 = .ok (.iload_n 3, 1) := by decide +kernel
theorem dL_law_450 : decode cL_law 450 = .ok (.iconst 1, 1) := by decide +kernel
theorem dL_law_451 : decode cL_law 451 = .ok (.iadd, 1) := by decide +kernel
theorem dL_law_452 : decode cL_law 452 = .ok (.iaload, 1) := by decide +kernel
theorem dL_law_453 : decode cL_law 453 = .ok (.aload_n 0, 1) := by decide +kernel
theorem dL_law_454 : decode cL_law 454 = .ok (.iload_n 3, 1) := by decide +kernel
theorem dL_law_455 : decode cL_law 455 = .ok (.iconst 2, 1) := by decide +kernel
theorem dL_law_456 : decode cL_law 456 = .ok (.iadd, 1) := by decide +kernel
theorem dL_law_457 : decode cL_law 457 = .ok (.iaload, 1) := by decide +kernel
theorem dL_law_458 : decode cL_law 458 = .ok (.aload_n 0, 1) := by decide +kernel
theorem dL_law_459 : decode cL_law 459 = .ok (.iload_n 3, 1) := by decide +kernel
theorem dL_law_460 : decode cL_law 460 = .ok (.iconst 3, 1) := by decide +kernel
theorem dL_law_461 : decode cL_law 461 = .ok (.iadd, 1) := by decide +kernel
theorem dL_law_462 : decode cL_law 462 = .ok (.iaload, 1) := by decide +kernel
theorem dL_law_463 : decode cL_law 463 = .ok (.invokevirtual 68, 3) := by decide +kernel
theorem dL_law_466 : decode cL_law 466 = .ok (.if_icmp .eq 269, 3) := by decide +kernel
theorem dL_law_469 : decode cL_law 469 = .ok (.iconst 0, 1) := by decide +kernel
theorem dL_law_470 : decode cL_law 470 = .ok (.ireturn, 1) := by decide +kernel
theorem dL_law_471 : decode cL_law 471 = .ok (.aload_n 1, 1) := by decide +kernel
theorem dL_law_472 : decode cL_law 472 = .ok (.aload_n 0, 1) := by decide +kernel
theorem dL_law_473 : decode cL_law 473 = .ok (.iload_n 3, 1) := by decide +kernel
theorem dL_law_474 : decode cL_law 474 = .ok (.iconst 1, 1) := by decide +kernel
theorem dL_law_475 : decode cL_law 475 = .ok (.iadd, 1) := by decide +kernel
theorem dL_law_476 : decode cL_law 476 = .ok (.iaload, 1) := by decide +kernel
theorem dL_law_477 : decode cL_law 477 = .ok (.invokevirtual 69, 3) := by decide +kernel
theorem dL_law_480 : decode cL_law 480 = .ok (.aload_n 2, 1) := by decide +kernel
theorem dL_law_481 : decode cL_law 481 = .ok (.aload_n 0, 1) := by decide +kernel
theorem dL_law_482 : decode cL_law 482 = .ok (.iload_n 3, 1) := by decide +kernel
theorem dL_law_483 : decode cL_law 483 = .ok (.iconst 1, 1) := by decide +kernel
theorem dL_law_484 : decode cL_law 484 = .ok (.iadd, 1) := by decide +kernel
theorem dL_law_485 : decode cL_law 485 = .ok (.iaload, 1) := by decide +kernel
theorem dL_law_486 : decode cL_law 486 = .ok (.invokevirtual 72, 3) := by decide +kernel
theorem dL_law_489 : decode cL_law 489 = .ok (.if_icmp .eq 246, 3) := by decide +kernel
theorem dL_law_492 : decode cL_law 492 = .ok (.iconst 0, 1) := by decide +kernel
theorem dL_law_493 : decode cL_law 493 = .ok (.ireturn, 1) := by decide +kernel
theorem dL_law_494 : decode cL_law 494 = .ok (.aload_n 1, 1) := by decide +kernel
theorem dL_law_495 : decode cL_law 495 = .ok (.aload_n 0, 1) := by decide +kernel
theorem dL_law_496 : decode cL_law 496 = .ok (.iload_n 3, 1) := by decide +kernel
theorem dL_law_497 : decode cL_law 497 = .ok (.iconst 1, 1) := by decide +kernel
theorem dL_law_498 : decode cL_law 498 = .ok (.iadd, 1) := by decide +kernel
theorem dL_law_499 : decode cL_law 499 = .ok (.iaload, 1) := by decide +kernel
theorem dL_law_500 : decode cL_law 500 = .ok (.invokevirtual 73, 3) := by decide +kernel
theorem dL_law_503 : decode cL_law 503 = .ok (.aload_n 2, 1) := by decide +kernel
theorem dL_law_504 : decode cL_law 504 = .ok (.aload_n 0, 1) := by decide +kernel
theorem dL_law_505 : decode cL_law 505 = .ok (.iload_n 3, 1) := by decide +kernel
theorem dL_law_506 : decode cL_law 506 = .ok (.iconst 1, 1) := by decide +kernel
theorem dL_law_507 : decode cL_law 507 = .ok (.iadd, 1) := by decide +kernel
theorem dL_law_508 : decode cL_law 508 = .ok (.iaload, 1) := by decide +kernel
theorem dL_law_509 : decode cL_law 509 = .ok (.invokevirtual 76, 3) := by decide +kernel
theorem dL_law_512 : decode cL_law 512 = .ok (.if_icmp .eq 223, 3) := by decide +kernel
theorem dL_law_515 : decode cL_law 515 = .ok (.iconst 0, 1) := by decide +kernel
theorem dL_law_516 : decode cL_law 516 = .ok (.ireturn, 1) := by decide +kernel
theorem dL_law_517 : decode cL_law 517 = .ok (.aload_n 1, 1) := by decide +kernel
theorem dL_law_518 : decode cL_law 518 = .ok (.aload_n 0, 1) := by decide +kernel
theorem dL_law_519 : decode cL_law 519 = .ok (.iload_n 3, 1) := by decide +kernel
theorem dL_law_520 : decode cL_law 520 = .ok (.iconst 1, 1) := by decide +kernel
theorem dL_law_521 : decode cL_law 521 = .ok (.iadd, 1) := by decide +kernel
theorem dL_law_522 : decode cL_law 522 = .ok (.iaload, 1) := by decide +kernel
theorem dL_law_523 : decode cL_law 523 = .ok (.aload_n 0, 1) := by decide +kernel
theorem dL_law_524 : decode cL_law 524 = .ok (.iload_n 3, 1) := by decide +kernel
theorem dL_law_525 : decode cL_law 525 = .ok (.iconst 2, 1) := by decide +kernel
theorem dL_law_526 : decode cL_law 526 = .ok (.iadd, 1) := by decide +kernel
theorem dL_law_527 : decode cL_law 527 = .ok (.iaload, 1) := by decide +kernel
theorem dL_law_528 : decode cL_law 528 = .ok (.aload_n 0, 1) := by decide +kernel
theorem dL_law_529 : decode cL_law 529 = .ok (.iload_n 3, 1) := by decide +kernel
theorem dL_law_530 : decode cL_law 530 = .ok (.iconst 3, 1) := by decide +kernel
theorem dL_law_531 : decode cL_law 531 = .ok (.iadd, 1) := by decide +kernel
theorem dL_law_532 : decode cL_law 532 = .ok (.iaload, 1) := by decide +kernel
theorem dL_law_533 : decode cL_law 533 = .ok (.invokevirtual 77, 3) := by decide +kernel
theorem dL_law_536 : decode cL_law 536 = .ok (.aload_n 2, 1) := by decide +kernel
theorem dL_law_537 : decode cL_law 537 = .ok (.aload_n 0, 1) := by decide +kernel
theorem dL_law_538 : decode cL_law 538 = .ok (.iload_n 3, 1) := by decide +kernel
theorem dL_law_539 : decode cL_law 539 = .ok (.iconst 1, 1) := by decide +kernel
theorem dL_law_540 : decode cL_law 540 = .ok (.iadd, 1) := by decide +kernel
theorem dL_law_541 : decode cL_law 541 = .ok (.iaload, 1) := by decide +kernel
theorem dL_law_542 : decode cL_law 542 = .ok (.aload_n 0, 1) := by decide +kernel
theorem dL_law_543 : decode cL_law 543 = .ok (.iload_n 3, 1) := by decide +kernel
theorem dL_law_544 : decode cL_law 544 = .ok (.iconst 2, 1) := by decide +kernel
theorem dL_law_545 : decode cL_law 545 = .ok (.iadd, 1) := by decide +kernel
theorem dL_law_546 : decode cL_law 546 = .ok (.iaload, 1) := by decide +kernel
theorem dL_law_547 : decode cL_law 547 = .ok (.aload_n 0, 1) := by decide +kernel
theorem dL_law_548 : decode cL_law 548 = .ok (.iload_n 3, 1) := by decide +kernel
theorem dL_law_549 : decode cL_law 549 = .ok (.iconst 3, 1) := by decide +kernel
theorem dL_law_550 : decode cL_law 550 = .ok (.iadd, 1) := by decide +kernel
theorem dL_law_551 : decode cL_law 551 = .ok (.iaload, 1) := by decide +kernel
theorem dL_law_552 : decode cL_law 552 = .ok (.invokevirtual 80, 3) := by decide +kernel
theorem dL_law_555 : decode cL_law 555 = .ok (.if_icmp .eq 180, 3) := by decide +kernel
theorem dL_law_558 : decode cL_law 558 = .ok (.iconst 0, 1) := by decide +kernel
theorem dL_law_559 : decode cL_law 559 = .ok (.ireturn, 1) := by decide +kernel
theorem dL_law_560 : decode cL_law 560 = .ok (.aload_n 1, 1) := by decide +kernel
theorem dL_law_561 : decode cL_law 561 = .ok (.aload_n 0, 1) := by decide +kernel
theorem dL_law_562 : decode cL_law 562 = .ok (.iload_n 3, 1) := by decide +kernel
theorem dL_law_563 : decode cL_law 563 = .ok (.iconst 1, 1) := by decide +kernel
theorem dL_law_564 : decode cL_law 564 = .ok (.iadd, 1) := by decide +kernel
theorem dL_law_565 : decode cL_law 565 = .ok (.iaload, 1) := by decide +kernel
theorem dL_law_566 : decode cL_law 566 = .ok (.aload_n 0, 1) := by decide +kernel
theorem dL_law_567 : decode cL_law 567 = .ok (.iload_n 3, 1) := by decide +kernel
theorem dL_law_568 : decode cL_law 568 = .ok (.iconst 2, 1) := by decide +kernel
theorem dL_law_569 : decode cL_law 569 = .ok (.iadd, 1) := by decide +kernel
theorem dL_law_570 : decode cL_law 570 = .ok (.iaload, 1) := by decide +kernel
theorem dL_law_571 : decode cL_law 571 = .ok (.aload_n 0, 1) := by decide +kernel
theorem dL_law_572 : decode cL_law 572 = .ok (.iload_n 3, 1) := by decide +kernel
theorem dL_law_573 : decode cL_law 573 = .ok (.iconst 3, 1) := by decide +kernel
theorem dL_law_574 : decode cL_law 574 = .ok (.iadd, 1) := by decide +kernel
theorem dL_law_575 : decode cL_law 575 = .ok (.iaload, 1) := by decide +kernel
theorem dL_law_576 : decode cL_law 576 = .ok (.invokevirtual 81, 3) := by decide +kernel
theorem dL_law_579 : decode cL_law 579 = .ok (.aload_n 2, 1) := by decide +kernel
theorem dL_law_580 : decode cL_law 580 = .ok (.aload_n 0, 1) := by decide +kernel
theorem dL_law_581 : decode cL_law 581 = .ok (.iload_n 3, 1) := by decide +kernel
theorem dL_law_582 : decode cL_law 582 = .ok (.iconst 1, 1) := by decide +kernel
theorem dL_law_583 : decode cL_law 583 = .ok (.iadd, 1) := by decide +kernel
theorem dL_law_584 : decode cL_law 584 = .ok (.iaload, 1) := by decide +kernel
theorem dL_law_585 : decode cL_law 585 = .ok (.aload_n 0, 1) := by decide +kernel
theorem dL_law_586 : decode cL_law 586 = .ok (.iload_n 3, 1) := by decide +kernel
theorem dL_law_587 : decode cL_law 587 = .ok (.iconst 2, 1) := by decide +kernel
theorem dL_law_588 : decode cL_law 588 = .ok (.iadd, 1) := by decide +kernel
theorem dL_law_589 : decode cL_law 589 = .ok (.iaload, 1) := by decide +kernel
theorem dL_law_590 : decode cL_law 590 = .ok (.aload_n 0, 1) := by decide +kernel
theorem dL_law_591 : decode cL_law 591 = .ok (.iload_n 3, 1) := by decide +kernel
theorem dL_law_592 : decode cL_law 592 = .ok (.iconst 3, 1) := by decide +kernel
theorem dL_law_593 : decode cL_law 593 = .ok (.iadd, 1) := by decide +kernel
theorem dL_law_594 : decode cL_law 594 = .ok (.iaload, 1) := by decide +kernel
theorem dL_law_595 : decode cL_law 595 = .ok (.invokevirtual 84, 3) := by decide +kernel
theorem dL_law_598 : decode cL_law 598 = .ok (.if_icmp .eq 137, 3) := by decide +kernel
theorem dL_law_601 : decode cL_law 601 = .ok (.iconst 0, 1) := by decide +kernel
theorem dL_law_602 : decode cL_law 602 = .ok (.ireturn, 1) := by decide +kernel
theorem dL_law_603 : decode cL_law 603 = .ok (.aload_n 1, 1) := by decide +kernel
theorem dL_law_604 : decode cL_law 604 = .ok (.aload_n 0, 1) := by decide +kernel
theorem dL_law_605 : decode cL_law 605 = .ok (.iload_n 3, 1) := by decide +kernel
theorem dL_law_606 : decode cL_law 606 = .ok (.iconst 1, 1) := by decide +kernel
theorem dL_law_607 : decode cL_law 607 = .ok (.iadd, 1) := by decide +kernel
theorem dL_law_608 : decode cL_law 608 = .ok (.iaload, 1) := by decide +kernel
theorem dL_law_609 : decode cL_law 609 = .ok (.aload_n 0, 1) := by decide +kernel
theorem dL_law_610 : decode cL_law 610 = .ok (.iload_n 3, 1) := by decide +kernel
theorem dL_law_611 : decode cL_law 611 = .ok (.iconst 2, 1) := by decide +kernel
theorem dL_law_612 : decode cL_law 612 = .ok (.iadd, 1) := by decide +kernel
theorem dL_law_613 : decode cL_law 613 = .ok (.iaload, 1) := by decide +kernel
theorem dL_law_614 : decode cL_law 614 = .ok (.aload_n 0, 1) := by decide +kernel
theorem dL_law_615 : decode cL_law 615 = .ok (.iload_n 3, 1) := by decide +kernel
theorem dL_law_616 : decode cL_law 616 = .ok (.iconst 3, 1) := by decide +kernel
theorem dL_law_617 : decode cL_law 617 = .ok (.iadd, 1) := by decide +kernel
theorem dL_law_618 : decode cL_law 618 = .ok (.iaload, 1) := by decide +kernel
theorem dL_law_619 : decode cL_law 619 = .ok (.invokevirtual 85, 3) := by decide +kernel
theorem dL_law_622 : decode cL_law 622 = .ok (.aload_n 2, 1) := by decide +kernel
theorem dL_law_623 : decode cL_law 623 = .ok (.aload_n 0, 1) := by decide +kernel
theorem dL_law_624 : decode cL_law 624 = .ok (.iload_n 3, 1) := by decide +kernel
theorem dL_law_625 : decode cL_law 625 = .ok (.iconst 1, 1) := by decide +kernel
theorem dL_law_626 : decode cL_law 626 = .ok (.iadd, 1) := by decide +kernel
theorem dL_law_627 : decode cL_law 627 = .ok (.iaload, 1) := by decide +kernel
theorem dL_law_628 : decode cL_law 628 = .ok (.aload_n 0, 1) := by decide +kernel
theorem dL_law_629 : decode cL_law 629 = .ok (.iload_n 3, 1) := by decide +kernel
theorem dL_law_630 : decode cL_law 630 = .ok (.iconst 2, 1) := by decide +kernel
theorem dL_law_631 : decode cL_law 631 = .ok (.iadd, 1) := by decide +kernel
theorem dL_law_632 : decode cL_law 632 = .ok (.iaload, 1) := by decide +kernel
theorem dL_law_633 : decode cL_law 633 = .ok (.aload_n 0, 1) := by decide +kernel
theorem dL_law_634 : decode cL_law 634 = .ok (.iload_n 3, 1) := by decide +kernel
theorem dL_law_635 : decode cL_law 635 = .ok (.iconst 3, 1) := by decide +kernel
theorem dL_law_636 : decode cL_law 636 = .ok (.iadd, 1) := by decide +kernel
theorem dL_law_637 : decode cL_law 637 = .ok (.iaload, 1) := by decide +kernel
theorem dL_law_638 : decode cL_law 638 = .ok (.invokevirtual 88, 3) := by decide +kernel
theorem dL_law_641 : decode cL_law 641 = .ok (.if_icmp .eq 94, 3) := by decide +kernel
theorem dL_law_644 : decode cL_law 644 = .ok (.iconst 0, 1) := by decide +kernel
theorem dL_law_645 : decode cL_law 645 = .ok (.ireturn, 1) := by decide +kernel
theorem dL_law_646 : decode cL_law 646 = .ok (.aload_n 1, 1) := by decide +kernel
theorem dL_law_647 : decode cL_law 647 = .ok (.aload_n 0, 1) := by decide +kernel
theorem dL_law_648 : decode cL_law 648 = .ok (.iload_n 3, 1) := by decide +kernel
theorem dL_law_649 : decode cL_law 649 = .ok (.iconst 1, 1) := by decide +kernel
theorem dL_law_650 : decode cL_law 650 = .ok (.iadd, 1) := by decide +kernel
theorem dL_law_651 : decode cL_law 651 = .ok (.iaload, 1) := by decide +kernel
theorem dL_law_652 : decode cL_law 652 = .ok (.invokevirtual 89, 3) := by decide +kernel
theorem dL_law_655 : decode cL_law 655 = .ok (.aload_n 2, 1) := by decide +kernel
theorem dL_law_656 : decode cL_law 656 = .ok (.aload_n 0, 1) := by decide +kernel
theorem dL_law_657 : decode cL_law 657 = .ok (.iload_n 3, 1) := by decide +kernel
theorem dL_law_658 : decode cL_law 658 = .ok (.iconst 1, 1) := by decide +kernel
theorem dL_law_659 : decode cL_law 659 = .ok (.iadd, 1) := by decide +kernel
theorem dL_law_660 : decode cL_law 660 = .ok (.iaload, 1) := by decide +kernel
theorem dL_law_661 : decode cL_law 661 = .ok (.invokevirtual 92, 3) := by decide +kernel
theorem dL_law_664 : decode cL_law 664 = .ok (.if_icmp .eq 71, 3) := by decide +kernel
theorem dL_law_667 : decode cL_law 667 = .ok (.iconst 0, 1) := by decide +kernel
theorem dL_law_668 : decode cL_law 668 = .ok (.ireturn, 1) := by decide +kernel
theorem dL_law_669 : decode cL_law 669 = .ok (.aload_n 1, 1) := by decide +kernel
theorem dL_law_670 : decode cL_law 670 = .ok (.aload_n 0, 1) := by decide +kernel
theorem dL_law_671 : decode cL_law 671 = .ok (.iload_n 3, 1) := by decide +kernel
theorem dL_law_672 : decode cL_law 672 = .ok (.iconst 1, 1) := by decide +kernel
theorem dL_law_673 : decode cL_law 673 = .ok (.iadd, 1) := by decide +kernel
theorem dL_law_674 : decode cL_law 674 = .ok (.iaload, 1) := by decide +kernel
theorem dL_law_675 : decode cL_law 675 = .ok (.aload_n 0, 1) := by decide +kernel
theorem dL_law_676 : decode cL_law 676 = .ok (.iload_n 3, 1) := by decide +kernel
theorem dL_law_677 : decode cL_law 677 = .ok (.iconst 2, 1) := by decide +kernel
theorem dL_law_678 : decode cL_law 678 = .ok (.iadd, 1) := by decide +kernel
theorem dL_law_679 : decode cL_law 679 = .ok (.iaload, 1) := by decide +kernel
theorem dL_law_680 : decode cL_law 680 = .ok (.aload_n 0, 1) := by decide +kernel
theorem dL_law_681 : decode cL_law 681 = .ok (.iload_n 3, 1) := by decide +kernel
theorem dL_law_682 : decode cL_law 682 = .ok (.iconst 3, 1) := by decide +kernel
theorem dL_law_683 : decode cL_law 683 = .ok (.iadd, 1) := by decide +kernel
theorem dL_law_684 : decode cL_law 684 = .ok (.iaload, 1) := by decide +kernel
theorem dL_law_685 : decode cL_law 685 = .ok (.invokevirtual 93, 3) := by decide +kernel
theorem dL_law_688 : decode cL_law 688 = .ok (.aload_n 2, 1) := by decide +kernel
theorem dL_law_689 : decode cL_law 689 = .ok (.aload_n 0, 1) := by decide +kernel
theorem dL_law_690 : decode cL_law 690 = .ok (.iload_n 3, 1) := by decide +kernel
theorem dL_law_691 : decode cL_law 691 = .ok (.iconst 1, 1) := by decide +kernel
theorem dL_law_692 : decode cL_law 692 = .ok (.iadd, 1) := by decide +kernel
theorem dL_law_693 : decode cL_law 693 = .ok (.iaload, 1) := by decide +kernel
theorem dL_law_694 : decode cL_law 694 = .ok (.aload_n 0, 1) := by decide +kernel
theorem dL_law_695 : decode cL_law 695 = .ok (.iload_n 3, 1) := by decide +kernel
theorem dL_law_696 : decode cL_law 696 = .ok (.iconst 2, 1) := by decide +kernel
theorem dL_law_697 : decode cL_law 697 = .ok (.iadd, 1) := by decide +kernel
theorem dL_law_698 : decode cL_law 698 = .ok (.iaload, 1) := by decide +kernel
theorem dL_law_699 : decode cL_law 699 = .ok (.aload_n 0, 1) := by decide +kernel
theorem dL_law_700 : decode cL_law 700 = .ok (.iload_n 3, 1) := by decide +kernel
theorem dL_law_701 : decode cL_law 701 = .ok (.iconst 3, 1) := by decide +kernel
theorem dL_law_702 : decode cL_law 702 = .ok (.iadd, 1) := by decide +kernel
theorem dL_law_703 : decode cL_law 703 = .ok (.iaload, 1) := by decide +kernel
theorem dL_law_704 : decode cL_law 704 = .ok (.invokevirtual 96, 3) := by decide +kernel
theorem dL_law_707 : decode cL_law 707 = .ok (.if_icmp .eq 28, 3) := by decide +kernel
theorem dL_law_710 : decode cL_law 710 = .ok (.iconst 0, 1) := by decide +kernel
theorem dL_law_711 : decode cL_law 711 = .ok (.ireturn, 1) := by decide +kernel
theorem dL_law_712 : decode cL_law 712 = .ok (.aload_n 1, 1) := by decide +kernel
theorem dL_law_713 : decode cL_law 713 = .ok (.aload_n 0, 1) := by decide +kernel
theorem dL_law_714 : decode cL_law 714 = .ok (.iload_n 3, 1) := by decide +kernel
theorem dL_law_715 : decode cL_law 715 = .ok (.iconst 1, 1) := by decide +kernel
theorem dL_law_716 : decode cL_law 716 = .ok (.iadd, 1) := by decide +kernel
theorem dL_law_717 : decode cL_law 717 = .ok (.iaload, 1) := by decide +kernel
theorem dL_law_718 : decode cL_law 718 = .ok (.invokevirtual 97, 3) := by decide +kernel
theorem dL_law_721 : decode cL_law 721 = .ok (.aload_n 2, 1) := by decide +kernel
theorem dL_law_722 : decode cL_law 722 = .ok (.aload_n 0, 1) := by decide +kernel
theorem dL_law_723 : decode cL_law 723 = .ok (.iload_n 3, 1) := by decide +kernel
theorem dL_law_724 : decode cL_law 724 = .ok (.iconst 1, 1) := by decide +kernel
theorem dL_law_725 : decode cL_law 725 = .ok (.iadd, 1) := by decide +kernel
theorem dL_law_726 : decode cL_law 726 = .ok (.iaload, 1) := by decide +kernel
theorem dL_law_727 : decode cL_law 727 = .ok (.invokevirtual 100, 3) := by decide +kernel
theorem dL_law_730 : decode cL_law 730 = .ok (.if_icmp .eq 5, 3) := by decide +kernel
theorem dL_law_733 : decode cL_law 733 = .ok (.iconst 0, 1) := by decide +kernel
theorem dL_law_734 : decode cL_law 734 = .ok (.ireturn, 1) := by decide +kernel
theorem dL_law_735 : decode cL_law 735 = .ok (.iinc 3 4, 3) := by decide +kernel
theorem dL_law_738 : decode cL_law 738 = .ok (.goto (-720), 3) := by decide +kernel
theorem dL_law_741 : decode cL_law 741 = .ok (.iconst 1, 1) := by decide +kernel
theorem dL_law_742 : decode cL_law 742 = .ok (.ireturn, 1) := by decide +kernel
abbrev vwCl : List vw_C := [(RX0, TX0, 13), (RX1, TX1, 7), (RX2, TX2, 3), (RX3, TX3, 3), (RX4, TX4, 3), (RX5, TX5, 4), (RX6, TX6, 3), (RX7, TX7, 10), (RX8, TX8, 9)]
